def mX10_init : Mr := (yX10_init, cX10_init, 2, none)
def mX7_init : Mr := (yX7_init, cX7_init, 1, none)
def mX3_init : Mr := (yX3_init, cX3_init, 1, none)
def mX9_init : Mr := (yX9_init, cX9_init, 1, none)
def mX8_init : Mr := (yX8_init, cX8_init, 1, none)
def mX6_init : Mr := (yX6_init, cX6_init, 1, none)
def mX1_init : Mr := (yX1_init, cX1_init, 1, none)
def mX2_init : Mr := (yX2_init, cX2_init, 1, none)
def mX4_init : Mr := (yX4_init, cX4_init, 2, none)
def mX0_init : Mr := (yX0_init, cX0_init, 1, none)
def mX5_init : Mr := (yX5_init, cX5_init, 1, none)
def mX10_row : Mr := (yX10_row, cX10_row, 3, (some .int))
def mX10_isRow : Mr := (yX10_isRow, cX10_isRow, 1, (some .boolean))
def mX10_found : Mr := (yX10_found, cX10_found, 2, (some .int))
def mX7_make : Mr := (yX7_make, cX7_make, 4, none)
def mX10_lay : Mr := (yX10_lay, cX10_lay, 5, (some .int))
def mX10_unfitPlace : Mr := (yX10_unfitPlace, cX10_unfitPlace, 2, (some .int))
def mX7_isThere : Mr := (yX7_isThere, cX7_isThere, 1, (some .boolean))
def mX7_holds : Mr := (yX7_holds, cX7_holds, 3, (some .boolean))
def mX10_at : Mr := (yX10_at, cX10_at, 4, (some .int))
def mX10_tear : Mr := (yX10_tear, cX10_tear, 2, (some .int))
def mX10_copy : Mr := (yX10_copy, cX10_copy, 6, (some .int))
def mX10_mean : Mr := (yX10_mean, cX10_mean, 5, (some .int))
def mX10_text : Mr := (yX10_text, cX10_text, 3, (some .int))
def mX10_isText : Mr := (yX10_isText, cX10_isText, 1, (some .boolean))
def mX10_put : Mr := (yX10_put, cX10_put, 6, (some .int))
def mX10_fault : Mr := (yX10_fault, cX10_fault, 2, (some .int))
def mX10_firstFault : Mr := (yX10_firstFault, cX10_firstFault, 5, (some .int))
def mX10_isFigure : Mr := (yX10_isFigure, cX10_isFigure, 1, (some .boolean))
def mX10_kindByLetter : Mr := (yX10_kindByLetter, cX10_kindByLetter, 2, (some .int))
def mX10_box : Mr := (yX10_box, cX10_box, 3, (some .int))
def mX10_fillBox : Mr := (yX10_fillBox, cX10_fillBox, 5, none)
def mX0_clear : Mr := (yX0_clear, cX0_clear, 1, none)
def mX10_rod : Mr := (yX10_rod, cX10_rod, 3, (some .int))
def mX10_isRod : Mr := (yX10_isRod, cX10_isRod, 2, (some .boolean))
def mX10_ofRod : Mr := (yX10_ofRod, cX10_ofRod, 3, (some .int))
def mX10_digitNow : Mr := (yX10_digitNow, cX10_digitNow, 2, (some .int))
def mX0_isOver : Mr := (yX0_isOver, cX0_isOver, 2, (some .boolean))
def mX0_placeOf : Mr := (yX0_placeOf, cX0_placeOf, 3, (some .int))
def mX10_mark : Mr := (yX10_mark, cX10_mark, 3, (some .int))
def mX10_isOfKind : Mr := (yX10_isOfKind, cX10_isOfKind, 2, (some .boolean))
def mX10_linesApart : Mr := (yX10_linesApart, cX10_linesApart, 8, (some .int))
def mX10_shownNow : Mr := (yX10_shownNow, cX10_shownNow, 3, (some .int))
def mX9_shown : Mr := (yX9_shown, cX9_shown, 5, (some .int))
def mX1_isWithoutTens : Mr := (yX1_isWithoutTens, cX1_isWithoutTens, 3, (some .boolean))
def mX9_isWithoutTens : Mr := (yX9_isWithoutTens, cX9_isWithoutTens, 3, (some .boolean))
def mX2_shown : Mr := (yX2_shown, cX2_shown, 4, (some .int))
def mX8_shown : Mr := (yX8_shown, cX8_shown, 4, (some .int))
def mX6_shown : Mr := (yX6_shown, cX6_shown, 4, (some .int))
def mX3_shown : Mr := (yX3_shown, cX3_shown, 4, (some .int))
def mX10_shownAs : Mr := (yX10_shownAs, cX10_shownAs, 4, (some .int))
def mX10_slidBy : Mr := (yX10_slidBy, cX10_slidBy, 3, (some .int))
def mX10_isLine : Mr := (yX10_isLine, cX10_isLine, 1, (some .boolean))
def mX10_shows : Mr := (yX10_shows, cX10_shows, 3, (some .int))
def mX10_laid : Mr := (yX10_laid, cX10_laid, 2, (some .int))
def mX0_isFull : Mr := (yX0_isFull, cX0_isFull, 1, (some .boolean))
def mX0_act : Mr := (yX0_act, cX0_act, 4, none)
def mX0_perform : Mr := (yX0_perform, cX0_perform, 5, none)
def mX0_isTaken : Mr := (yX0_isTaken, cX0_isTaken, 2, (some .boolean))
def mX10_lift : Mr := (yX10_lift, cX10_lift, 2, (some .int))
def mX0_lastRod : Mr := (yX0_lastRod, cX0_lastRod, 1, (some .int))
def mX10_change : Mr := (yX10_change, cX10_change, 3, (some .int))
def mX10_over : Mr := (yX10_over, cX10_over, 2, (some .int))
def mX10_undo : Mr := (yX10_undo, cX10_undo, 4, (some .int))
def mX0_takeBack : Mr := (yX0_takeBack, cX0_takeBack, 1, none)
def mX0_backOf : Mr := (yX0_backOf, cX0_backOf, 1, (some .int))
def mX10_keep : Mr := (yX10_keep, cX10_keep, 2, (some .int))
def mX10_isKeepingPlace : Mr := (yX10_isKeepingPlace, cX10_isKeepingPlace, 1, (some .boolean))
def mX0_become : Mr := (yX0_become, cX0_become, 2, none)
def mX10_on : Mr := (yX10_on, cX10_on, 2, (some .int))
def mX10_reads : Mr := (yX10_reads, cX10_reads, 2, (some .int))
def mX10_rightBy : Mr := (yX10_rightBy, cX10_rightBy, 4, (some .int))
def mX10_readOff : Mr := (yX10_readOff, cX10_readOff, 2, (some .int))
def mX10_readWith : Mr := (yX10_readWith, cX10_readWith, 8, (some .int))
def mX10_wrong : Mr := (yX10_wrong, cX10_wrong, 3, (some .int))
def mX10_carries : Mr := (yX10_carries, cX10_carries, 6, (some .int))
def mX10_makes : Mr := (yX10_makes, cX10_makes, 5, (some .int))
def mX10_lookAt : Mr := (yX10_lookAt, cX10_lookAt, 3, none)
def mX5_nearest : Mr := (yX5_nearest, cX5_nearest, 4, (some .int))
def mX5_extend : Mr := (yX5_extend, cX5_extend, 6, none)
def mX5_leastGap : Mr := (yX5_leastGap, cX5_leastGap, 6, (some .int))
def mX7_take : Mr := (yX7_take, cX7_take, 4, none)
def mX10_most : Mr := (yX10_most, cX10_most, 5, (some .int))
def mX10_near : Mr := (yX10_near, cX10_near, 7, (some .int))
def mX10_digits : Mr := (yX10_digits, cX10_digits, 6, (some .int))
def mX10_unfitPairs : Mr := (yX10_unfitPairs, cX10_unfitPairs, 3, (some .int))
def mX10_fits : Mr := (yX10_fits, cX10_fits, 5, (some .boolean))
def mX10_kinds : Mr := (yX10_kinds, cX10_kinds, 4, (some .int))
def mX10_fittingKinds : Mr := (yX10_fittingKinds, cX10_fittingKinds, 5, (some .int))
def mX10_test : Mr := (yX10_test, cX10_test, 9, (some .int))
def mX10_greatestPart : Mr := (yX10_greatestPart, cX10_greatestPart, 8, (some .int))
def mX10_other : Mr := (yX10_other, cX10_other, 7, (some .int))
def mX10_wasReadWith : Mr := (yX10_wasReadWith, cX10_wasReadWith, 5, (some .boolean))
def mX10_duel : Mr := (yX10_duel, cX10_duel, 3, (some .int))
def mX0_bits : Mr := (yX0_bits, cX0_bits, 3, (some .int))
def mX5_playedOut : Mr := (yX5_playedOut, cX5_playedOut, 8, (some .int))
def mX10_odds : Mr := (yX10_odds, cX10_odds, 9, (some .int))
def mX10_isTwelfths : Mr := (yX10_isTwelfths, cX10_isTwelfths, 1, (some .boolean))
def mX10_readOfLeft : Mr := (yX10_readOfLeft, cX10_readOfLeft, 5, (some .int))
def mX10_weightOfLeft : Mr := (yX10_weightOfLeft, cX10_weightOfLeft, 6, (some .long))
def mX10_tell : Mr := (yX10_tell, cX10_tell, 7, none)
def mX10_greatestShared : Mr := (yX10_greatestShared, cX10_greatestShared, 11, (some .long))
def mX10_mid : Mr := (yX10_mid, cX10_mid, 3, (some .int))
def mX10_lots : Mr := (yX10_lots, cX10_lots, 6, (some .int))
def mX10_deedByLot : Mr := (yX10_deedByLot, cX10_deedByLot, 5, none)
def mX10_asked : Mr := (yX10_asked, cX10_asked, 1, (some .int))
def mX10_upper : Mr := (yX10_upper, cX10_upper, 1, (some .long))
def mX10_lower : Mr := (yX10_lower, cX10_lower, 1, (some .long))
def mX10_count : Mr := (yX10_count, cX10_count, 2, (some .int))
def mX10_howManyThere : Mr := (yX10_howManyThere, cX10_howManyThere, 3, (some .int))
def mX10_howManyKept : Mr := (yX10_howManyKept, cX10_howManyKept, 3, (some .int))
def mX10_howManyOf : Mr := (yX10_howManyOf, cX10_howManyOf, 4, (some .int))
def mX10_finding : Mr := (yX10_finding, cX10_finding, 1, (some .int))
def mX10_findings : Mr := (yX10_findings, cX10_findings, 2, (some .int))
def mX10_digest : Mr := (yX10_digest, cX10_digest, 5, (some .long))
def mX10_withStrips : Mr := (yX10_withStrips, cX10_withStrips, 7, (some .long))
def mX11_init : Mr := (yX11_init, cX11_init, 2, none)
def mX11_row : Mr := (yX11_row, cX11_row, 4, (some .int))
def mX11_isRow : Mr := (yX11_isRow, cX11_isRow, 1, (some .boolean))
def mX11_in : Mr := (yX11_in, cX11_in, 6, (some .boolean))
def mX11_finds : Mr := (yX11_finds, cX11_finds, 2, (some .int))
def mX11_lay : Mr := (yX11_lay, cX11_lay, 5, (some .int))
def mX11_tells : Mr := (yX11_tells, cX11_tells, 2, (some .int))
def mX11_at : Mr := (yX11_at, cX11_at, 3, (some .int))
def mX11_tear : Mr := (yX11_tear, cX11_tear, 2, (some .int))
def mX11_copy : Mr := (yX11_copy, cX11_copy, 7, (some .int))
def mX11_mean : Mr := (yX11_mean, cX11_mean, 5, (some .int))
def mX11_text : Mr := (yX11_text, cX11_text, 4, (some .int))
def mX11_isText : Mr := (yX11_isText, cX11_isText, 1, (some .boolean))
def mX11_put : Mr := (yX11_put, cX11_put, 5, (some .int))
def mX11_fault : Mr := (yX11_fault, cX11_fault, 2, (some .int))
def mX11_faultOf : Mr := (yX11_faultOf, cX11_faultOf, 3, (some .int))
def mX11_here : Mr := (yX11_here, cX11_here, 1, (some .int))
def mX11_takesRod : Mr := (yX11_takesRod, cX11_takesRod, 5, (some .boolean))
def mX11_kindOf : Mr := (yX11_kindOf, cX11_kindOf, 1, (some .int))
def mX11_box : Mr := (yX11_box, cX11_box, 3, (some .int))
def mX11_rod : Mr := (yX11_rod, cX11_rod, 3, (some .int))
def mX11_isRod : Mr := (yX11_isRod, cX11_isRod, 2, (some .boolean))
def mX11_rodOf : Mr := (yX11_rodOf, cX11_rodOf, 3, (some .int))
def mX11_digitOf : Mr := (yX11_digitOf, cX11_digitOf, 2, (some .int))
def mX11_has : Mr := (yX11_has, cX11_has, 2, (some .boolean))
def mX11_placeOf : Mr := (yX11_placeOf, cX11_placeOf, 3, (some .int))
def mX11_mark : Mr := (yX11_mark, cX11_mark, 4, (some .int))
def mX11_isA : Mr := (yX11_isA, cX11_isA, 2, (some .boolean))
def mX11_linesAgainst : Mr := (yX11_linesAgainst, cX11_linesAgainst, 8, (some .int))
def mX11_showsOf : Mr := (yX11_showsOf, cX11_showsOf, 3, (some .int))
def mX11_showsBy : Mr := (yX11_showsBy, cX11_showsBy, 4, (some .int))
def mX11_worn : Mr := (yX11_worn, cX11_worn, 3, (some .int))
def mX11_shows : Mr := (yX11_shows, cX11_shows, 3, (some .int))
def mX11_isLine : Mr := (yX11_isLine, cX11_isLine, 1, (some .boolean))
def mX11_laid : Mr := (yX11_laid, cX11_laid, 2, (some .int))
def mX11_minds : Mr := (yX11_minds, cX11_minds, 3, none)
def mX11_lays : Mr := (yX11_lays, cX11_lays, 2, none)
def mX11_lift : Mr := (yX11_lift, cX11_lift, 1, (some .int))
def mX11_lifts : Mr := (yX11_lifts, cX11_lifts, 2, (some .int))
def mX11_change : Mr := (yX11_change, cX11_change, 4, (some .int))
def mX11_over : Mr := (yX11_over, cX11_over, 2, (some .int))
def mX11_undo : Mr := (yX11_undo, cX11_undo, 5, (some .int))
def mX11_keep : Mr := (yX11_keep, cX11_keep, 2, (some .int))
def mX11_bring : Mr := (yX11_bring, cX11_bring, 4, none)
def mX11_on : Mr := (yX11_on, cX11_on, 2, (some .int))
def mX11_reads : Mr := (yX11_reads, cX11_reads, 2, (some .int))
def mX11_rightBy : Mr := (yX11_rightBy, cX11_rightBy, 4, (some .int))
def mX11_readBy : Mr := (yX11_readBy, cX11_readBy, 4, (some .int))
def mX11_wrong : Mr := (yX11_wrong, cX11_wrong, 3, (some .int))
def mX11_carries : Mr := (yX11_carries, cX11_carries, 7, (some .int))
def mX11_makes : Mr := (yX11_makes, cX11_makes, 6, (some .int))
def mX11_goesNext : Mr := (yX11_goesNext, cX11_goesNext, 6, (some .boolean))
def mX11_keeps : Mr := (yX11_keeps, cX11_keeps, 3, none)
def mX11_laysBest : Mr := (yX11_laysBest, cX11_laysBest, 4, none)
def mX11_most : Mr := (yX11_most, cX11_most, 6, (some .int))
def mX11_near : Mr := (yX11_near, cX11_near, 8, (some .int))
def mX11_digits : Mr := (yX11_digits, cX11_digits, 6, (some .int))
def mX11_againstPairs : Mr := (yX11_againstPairs, cX11_againstPairs, 4, (some .int))
def mX11_showedSo : Mr := (yX11_showedSo, cX11_showedSo, 7, (some .boolean))
def mX11_kinds : Mr := (yX11_kinds, cX11_kinds, 4, (some .int))
def mX11_kindsOf : Mr := (yX11_kindsOf, cX11_kindsOf, 5, (some .int))
def mX11_test : Mr := (yX11_test, cX11_test, 13, (some .int))
def mX11_other : Mr := (yX11_other, cX11_other, 9, (some .int))
def mX11_readWith : Mr := (yX11_readWith, cX11_readWith, 7, (some .int))
def mX11_duel : Mr := (yX11_duel, cX11_duel, 9, (some .int))
def mX11_isLaidOr : Mr := (yX11_isLaidOr, cX11_isLaidOr, 5, (some .boolean))
def mX11_odds : Mr := (yX11_odds, cX11_odds, 3, (some .int))
def mX11_chance : Mr := (yX11_chance, cX11_chance, 13, (some .int))
def mX11_readWithout : Mr := (yX11_readWithout, cX11_readWithout, 5, (some .int))
def mX11_tellsPart : Mr := (yX11_tellsPart, cX11_tellsPart, 11, (some .int))
def mX11_mid : Mr := (yX11_mid, cX11_mid, 3, (some .int))
def mX11_lots : Mr := (yX11_lots, cX11_lots, 8, (some .int))
def mX11_asked : Mr := (yX11_asked, cX11_asked, 1, (some .int))
def mX11_upper : Mr := (yX11_upper, cX11_upper, 1, (some .long))
def mX11_lower : Mr := (yX11_lower, cX11_lower, 1, (some .long))
def mX11_count : Mr := (yX11_count, cX11_count, 2, (some .int))
def mX11_framed : Mr := (yX11_framed, cX11_framed, 3, (some .int))
def mX11_rowsThere : Mr := (yX11_rowsThere, cX11_rowsThere, 3, (some .int))
def mX11_textsThere : Mr := (yX11_textsThere, cX11_textsThere, 3, (some .int))
def mX11_boxesKept : Mr := (yX11_boxesKept, cX11_boxesKept, 3, (some .int))
def mX11_manyOf : Mr := (yX11_manyOf, cX11_manyOf, 4, (some .int))
def mX11_finding : Mr := (yX11_finding, cX11_finding, 1, (some .int))
def mX11_findings : Mr := (yX11_findings, cX11_findings, 2, (some .int))
def mX11_digest : Mr := (yX11_digest, cX11_digest, 3, (some .long))
def mX11_mix : Mr := (yX11_mix, cX11_mix, 3, none)
set_option maxRecDepth 20000 in
theorem kcX10_init : Cond.code mX10_init.1 mX10_init.2.1 mX10_init.2.2.1 mX10_init.2.2.2 ∈ twl := twl_of 79 rfl rfl
set_option maxRecDepth 20000 in
theorem kcX7_init : Cond.code mX7_init.1 mX7_init.2.1 mX7_init.2.2.1 mX7_init.2.2.2 ∈ twl := twl_of 88 rfl rfl
set_option maxRecDepth 20000 in
theorem kcX3_init : Cond.code mX3_init.1 mX3_init.2.1 mX3_init.2.2.1 mX3_init.2.2.2 ∈ twl := twl_of 105 rfl rfl
set_option maxRecDepth 20000 in
theorem kcX9_init : Cond.code mX9_init.1 mX9_init.2.1 mX9_init.2.2.1 mX9_init.2.2.2 ∈ twl := twl_of 112 rfl rfl
set_option maxRecDepth 20000 in
theorem kcX8_init : Cond.code mX8_init.1 mX8_init.2.1 mX8_init.2.2.1 mX8_init.2.2.2 ∈ twl := twl_of 119 rfl rfl
set_option maxRecDepth 20000 in
theorem kcX6_init : Cond.code mX6_init.1 mX6_init.2.1 mX6_init.2.2.1 mX6_init.2.2.2 ∈ twl := twl_of 126 rfl rfl
set_option maxRecDepth 20000 in
theorem kcX1_init : Cond.code mX1_init.1 mX1_init.2.1 mX1_init.2.2.1 mX1_init.2.2.2 ∈ twl := twl_of 133 rfl rfl
set_option maxRecDepth 20000 in
theorem kcX2_init : Cond.code mX2_init.1 mX2_init.2.1 mX2_init.2.2.1 mX2_init.2.2.2 ∈ twl := twl_of 140 rfl rfl
set_option maxRecDepth 20000 in
theorem kcX4_init : Cond.code mX4_init.1 mX4_init.2.1 mX4_init.2.2.1 mX4_init.2.2.2 ∈ twl := twl_of 148 rfl rfl
set_option maxRecDepth 20000 in
theorem kcX0_init : Cond.code mX0_init.1 mX0_init.2.1 mX0_init.2.2.1 mX0_init.2.2.2 ∈ twl := twl_of 168 rfl rfl
set_option maxRecDepth 20000 in
theorem kcX5_init : Cond.code mX5_init.1 mX5_init.2.1 mX5_init.2.2.1 mX5_init.2.2.2 ∈ twl := twl_of 204 rfl rfl
set_option maxRecDepth 20000 in
theorem kcX10_row : Cond.code mX10_row.1 mX10_row.2.1 mX10_row.2.2.1 mX10_row.2.2.2 ∈ twl := twl_of 274 rfl rfl
set_option maxRecDepth 20000 in
theorem kcX10_isRow : Cond.code mX10_isRow.1 mX10_isRow.2.1 mX10_isRow.2.2.1 mX10_isRow.2.2.2 ∈ twl := twl_of 277 rfl rfl
set_option maxRecDepth 20000 in
theorem kcX10_found : Cond.code mX10_found.1 mX10_found.2.1 mX10_found.2.2.1 mX10_found.2.2.2 ∈ twl := twl_of 281 rfl rfl
set_option maxRecDepth 20000 in
theorem kcX7_make : Cond.code mX7_make.1 mX7_make.2.1 mX7_make.2.2.1 mX7_make.2.2.2 ∈ twl := twl_of 285 rfl rfl
set_option maxRecDepth 20000 in
theorem kcX10_lay : Cond.code mX10_lay.1 mX10_lay.2.1 mX10_lay.2.2.1 mX10_lay.2.2.2 ∈ twl := twl_of 289 rfl rfl
set_option maxRecDepth 20000 in
theorem kcX10_unfitPlace : Cond.code mX10_unfitPlace.1 mX10_unfitPlace.2.1 mX10_unfitPlace.2.2.1 mX10_unfitPlace.2.2.2 ∈ twl := twl_of 292 rfl rfl
set_option maxRecDepth 20000 in
theorem kcX7_isThere : Cond.code mX7_isThere.1 mX7_isThere.2.1 mX7_isThere.2.2.1 mX7_isThere.2.2.2 ∈ twl := twl_of 296 rfl rfl
set_option maxRecDepth 20000 in
theorem kcX7_holds : Cond.code mX7_holds.1 mX7_holds.2.1 mX7_holds.2.2.1 mX7_holds.2.2.2 ∈ twl := twl_of 300 rfl rfl
set_option maxRecDepth 20000 in
theorem kcX10_at : Cond.code mX10_at.1 mX10_at.2.1 mX10_at.2.2.1 mX10_at.2.2.2 ∈ twl := twl_of 304 rfl rfl
set_option maxRecDepth 20000 in
theorem kcX10_tear : Cond.code mX10_tear.1 mX10_tear.2.1 mX10_tear.2.2.1 mX10_tear.2.2.2 ∈ twl := twl_of 308 rfl rfl
set_option maxRecDepth 20000 in
theorem kcX10_copy : Cond.code mX10_copy.1 mX10_copy.2.1 mX10_copy.2.2.1 mX10_copy.2.2.2 ∈ twl := twl_of 312 rfl rfl
set_option maxRecDepth 20000 in
theorem kcX10_mean : Cond.code mX10_mean.1 mX10_mean.2.1 mX10_mean.2.2.1 mX10_mean.2.2.2 ∈ twl := twl_of 319 rfl rfl
set_option maxRecDepth 20000 in
theorem kcX10_text : Cond.code mX10_text.1 mX10_text.2.1 mX10_text.2.2.1 mX10_text.2.2.2 ∈ twl := twl_of 323 rfl rfl
set_option maxRecDepth 20000 in
theorem kcX10_isText : Cond.code mX10_isText.1 mX10_isText.2.1 mX10_isText.2.2.1 mX10_isText.2.2.2 ∈ twl := twl_of 326 rfl rfl
set_option maxRecDepth 20000 in
theorem kcX10_put : Cond.code mX10_put.1 mX10_put.2.1 mX10_put.2.2.1 mX10_put.2.2.2 ∈ twl := twl_of 330 rfl rfl
set_option maxRecDepth 20000 in
theorem kcX10_fault : Cond.code mX10_fault.1 mX10_fault.2.1 mX10_fault.2.2.1 mX10_fault.2.2.2 ∈ twl := twl_of 334 rfl rfl
set_option maxRecDepth 20000 in
theorem kcX10_firstFault : Cond.code mX10_firstFault.1 mX10_firstFault.2.1 mX10_firstFault.2.2.1 mX10_firstFault.2.2.2 ∈ twl := twl_of 337 rfl rfl
set_option maxRecDepth 20000 in
theorem kcX10_isFigure : Cond.code mX10_isFigure.1 mX10_isFigure.2.1 mX10_isFigure.2.2.1 mX10_isFigure.2.2.2 ∈ twl := twl_of 340 rfl rfl
set_option maxRecDepth 20000 in
theorem kcX10_kindByLetter : Cond.code mX10_kindByLetter.1 mX10_kindByLetter.2.1 mX10_kindByLetter.2.2.1 mX10_kindByLetter.2.2.2 ∈ twl := twl_of 343 rfl rfl
set_option maxRecDepth 20000 in
theorem kcX10_box : Cond.code mX10_box.1 mX10_box.2.1 mX10_box.2.2.1 mX10_box.2.2.2 ∈ twl := twl_of 349 rfl rfl
set_option maxRecDepth 20000 in
theorem kcX10_fillBox : Cond.code mX10_fillBox.1 mX10_fillBox.2.1 mX10_fillBox.2.2.1 mX10_fillBox.2.2.2 ∈ twl := twl_of 353 rfl rfl
set_option maxRecDepth 20000 in
theorem kcX0_clear : Cond.code mX0_clear.1 mX0_clear.2.1 mX0_clear.2.2.1 mX0_clear.2.2.2 ∈ twl := twl_of 357 rfl rfl
set_option maxRecDepth 20000 in
theorem kcX10_rod : Cond.code mX10_rod.1 mX10_rod.2.1 mX10_rod.2.2.1 mX10_rod.2.2.2 ∈ twl := twl_of 361 rfl rfl
set_option maxRecDepth 20000 in
theorem kcX10_isRod : Cond.code mX10_isRod.1 mX10_isRod.2.1 mX10_isRod.2.2.1 mX10_isRod.2.2.2 ∈ twl := twl_of 365 rfl rfl
set_option maxRecDepth 20000 in
theorem kcX10_ofRod : Cond.code mX10_ofRod.1 mX10_ofRod.2.1 mX10_ofRod.2.2.1 mX10_ofRod.2.2.2 ∈ twl := twl_of 369 rfl rfl
set_option maxRecDepth 20000 in
theorem kcX10_digitNow : Cond.code mX10_digitNow.1 mX10_digitNow.2.1 mX10_digitNow.2.2.1 mX10_digitNow.2.2.2 ∈ twl := twl_of 373 rfl rfl
set_option maxRecDepth 20000 in
theorem kcX0_isOver : Cond.code mX0_isOver.1 mX0_isOver.2.1 mX0_isOver.2.2.1 mX0_isOver.2.2.2 ∈ twl := twl_of 377 rfl rfl
set_option maxRecDepth 20000 in
theorem kcX0_placeOf : Cond.code mX0_placeOf.1 mX0_placeOf.2.1 mX0_placeOf.2.2.1 mX0_placeOf.2.2.2 ∈ twl := twl_of 381 rfl rfl
set_option maxRecDepth 20000 in
theorem kcX10_mark : Cond.code mX10_mark.1 mX10_mark.2.1 mX10_mark.2.2.1 mX10_mark.2.2.2 ∈ twl := twl_of 385 rfl rfl
set_option maxRecDepth 20000 in
theorem kcX10_isOfKind : Cond.code mX10_isOfKind.1 mX10_isOfKind.2.1 mX10_isOfKind.2.2.1 mX10_isOfKind.2.2.2 ∈ twl := twl_of 388 rfl rfl
set_option maxRecDepth 20000 in
theorem kcX10_linesApart : Cond.code mX10_linesApart.1 mX10_linesApart.2.1 mX10_linesApart.2.2.1 mX10_linesApart.2.2.2 ∈ twl := twl_of 392 rfl rfl
set_option maxRecDepth 20000 in
theorem kcX10_shownNow : Cond.code mX10_shownNow.1 mX10_shownNow.2.1 mX10_shownNow.2.2.1 mX10_shownNow.2.2.2 ∈ twl := twl_of 396 rfl rfl
set_option maxRecDepth 20000 in
theorem kcX9_shown : Cond.code mX9_shown.1 mX9_shown.2.1 mX9_shown.2.2.1 mX9_shown.2.2.2 ∈ twl := twl_of 403 rfl rfl
set_option maxRecDepth 20000 in
theorem kcX1_isWithoutTens : Cond.code mX1_isWithoutTens.1 mX1_isWithoutTens.2.1 mX1_isWithoutTens.2.2.1 mX1_isWithoutTens.2.2.2 ∈ twl := twl_of 411 rfl rfl
set_option maxRecDepth 20000 in
theorem kcX9_isWithoutTens : Cond.code mX9_isWithoutTens.1 mX9_isWithoutTens.2.1 mX9_isWithoutTens.2.2.1 mX9_isWithoutTens.2.2.2 ∈ twl := twl_of 413 rfl rfl
set_option maxRecDepth 20000 in
theorem kcX2_shown : Cond.code mX2_shown.1 mX2_shown.2.1 mX2_shown.2.2.1 mX2_shown.2.2.2 ∈ twl := twl_of 416 rfl rfl
set_option maxRecDepth 20000 in
theorem kcX8_shown : Cond.code mX8_shown.1 mX8_shown.2.1 mX8_shown.2.2.1 mX8_shown.2.2.2 ∈ twl := twl_of 419 rfl rfl
set_option maxRecDepth 20000 in
theorem kcX6_shown : Cond.code mX6_shown.1 mX6_shown.2.1 mX6_shown.2.2.1 mX6_shown.2.2.2 ∈ twl := twl_of 423 rfl rfl
set_option maxRecDepth 20000 in
theorem kcX3_shown : Cond.code mX3_shown.1 mX3_shown.2.1 mX3_shown.2.2.1 mX3_shown.2.2.2 ∈ twl := twl_of 427 rfl rfl
set_option maxRecDepth 20000 in
theorem kcX10_shownAs : Cond.code mX10_shownAs.1 mX10_shownAs.2.1 mX10_shownAs.2.2.1 mX10_shownAs.2.2.2 ∈ twl := twl_of 431 rfl rfl
set_option maxRecDepth 20000 in
theorem kcX10_slidBy : Cond.code mX10_slidBy.1 mX10_slidBy.2.1 mX10_slidBy.2.2.1 mX10_slidBy.2.2.2 ∈ twl := twl_of 435 rfl rfl
set_option maxRecDepth 20000 in
theorem kcX10_isLine : Cond.code mX10_isLine.1 mX10_isLine.2.1 mX10_isLine.2.2.1 mX10_isLine.2.2.2 ∈ twl := twl_of 438 rfl rfl
set_option maxRecDepth 20000 in
theorem kcX10_shows : Cond.code mX10_shows.1 mX10_shows.2.1 mX10_shows.2.2.1 mX10_shows.2.2.2 ∈ twl := twl_of 442 rfl rfl
set_option maxRecDepth 20000 in
theorem kcX10_laid : Cond.code mX10_laid.1 mX10_laid.2.1 mX10_laid.2.2.1 mX10_laid.2.2.2 ∈ twl := twl_of 446 rfl rfl
set_option maxRecDepth 20000 in
theorem kcX0_isFull : Cond.code mX0_isFull.1 mX0_isFull.2.1 mX0_isFull.2.2.1 mX0_isFull.2.2.2 ∈ twl := twl_of 450 rfl rfl
set_option maxRecDepth 20000 in
theorem kcX0_act : Cond.code mX0_act.1 mX0_act.2.1 mX0_act.2.2.1 mX0_act.2.2.2 ∈ twl := twl_of 454 rfl rfl
set_option maxRecDepth 20000 in
theorem kcX0_perform : Cond.code mX0_perform.1 mX0_perform.2.1 mX0_perform.2.2.1 mX0_perform.2.2.2 ∈ twl := twl_of 459 rfl rfl
set_option maxRecDepth 20000 in
theorem kcX0_isTaken : Cond.code mX0_isTaken.1 mX0_isTaken.2.1 mX0_isTaken.2.2.1 mX0_isTaken.2.2.2 ∈ twl := twl_of 463 rfl rfl
set_option maxRecDepth 20000 in
theorem kcX10_lift : Cond.code mX10_lift.1 mX10_lift.2.1 mX10_lift.2.2.1 mX10_lift.2.2.2 ∈ twl := twl_of 467 rfl rfl
set_option maxRecDepth 20000 in
theorem kcX0_lastRod : Cond.code mX0_lastRod.1 mX0_lastRod.2.1 mX0_lastRod.2.2.1 mX0_lastRod.2.2.2 ∈ twl := twl_of 471 rfl rfl
set_option maxRecDepth 20000 in
theorem kcX10_change : Cond.code mX10_change.1 mX10_change.2.1 mX10_change.2.2.1 mX10_change.2.2.2 ∈ twl := twl_of 475 rfl rfl
set_option maxRecDepth 20000 in
theorem kcX10_over : Cond.code mX10_over.1 mX10_over.2.1 mX10_over.2.2.1 mX10_over.2.2.2 ∈ twl := twl_of 480 rfl rfl
set_option maxRecDepth 20000 in
theorem kcX10_undo : Cond.code mX10_undo.1 mX10_undo.2.1 mX10_undo.2.2.1 mX10_undo.2.2.2 ∈ twl := twl_of 484 rfl rfl
set_option maxRecDepth 20000 in
theorem kcX0_takeBack : Cond.code mX0_takeBack.1 mX0_takeBack.2.1 mX0_takeBack.2.2.1 mX0_takeBack.2.2.2 ∈ twl := twl_of 488 rfl rfl
set_option maxRecDepth 20000 in
theorem kcX0_backOf : Cond.code mX0_backOf.1 mX0_backOf.2.1 mX0_backOf.2.2.1 mX0_backOf.2.2.2 ∈ twl := twl_of 491 rfl rfl
set_option maxRecDepth 20000 in
theorem kcX10_keep : Cond.code mX10_keep.1 mX10_keep.2.1 mX10_keep.2.2.1 mX10_keep.2.2.2 ∈ twl := twl_of 495 rfl rfl
set_option maxRecDepth 20000 in
theorem kcX10_isKeepingPlace : Cond.code mX10_isKeepingPlace.1 mX10_isKeepingPlace.2.1 mX10_isKeepingPlace.2.2.1 mX10_isKeepingPlace.2.2.2 ∈ twl := twl_of 498 rfl rfl
set_option maxRecDepth 20000 in
theorem kcX0_become : Cond.code mX0_become.1 mX0_become.2.1 mX0_become.2.2.1 mX0_become.2.2.2 ∈ twl := twl_of 502 rfl rfl
set_option maxRecDepth 20000 in
theorem kcX10_on : Cond.code mX10_on.1 mX10_on.2.1 mX10_on.2.2.1 mX10_on.2.2.2 ∈ twl := twl_of 507 rfl rfl
set_option maxRecDepth 20000 in
theorem kcX10_reads : Cond.code mX10_reads.1 mX10_reads.2.1 mX10_reads.2.2.1 mX10_reads.2.2.2 ∈ twl := twl_of 511 rfl rfl
set_option maxRecDepth 20000 in
theorem kcX10_rightBy : Cond.code mX10_rightBy.1 mX10_rightBy.2.1 mX10_rightBy.2.2.1 mX10_rightBy.2.2.2 ∈ twl := twl_of 515 rfl rfl
set_option maxRecDepth 20000 in
theorem kcX10_readOff : Cond.code mX10_readOff.1 mX10_readOff.2.1 mX10_readOff.2.2.1 mX10_readOff.2.2.2 ∈ twl := twl_of 519 rfl rfl
set_option maxRecDepth 20000 in
theorem kcX10_readWith : Cond.code mX10_readWith.1 mX10_readWith.2.1 mX10_readWith.2.2.1 mX10_readWith.2.2.2 ∈ twl := twl_of 523 rfl rfl
set_option maxRecDepth 20000 in
theorem kcX10_wrong : Cond.code mX10_wrong.1 mX10_wrong.2.1 mX10_wrong.2.2.1 mX10_wrong.2.2.2 ∈ twl := twl_of 527 rfl rfl
set_option maxRecDepth 20000 in
theorem kcX10_carries : Cond.code mX10_carries.1 mX10_carries.2.1 mX10_carries.2.2.1 mX10_carries.2.2.2 ∈ twl := twl_of 531 rfl rfl
set_option maxRecDepth 20000 in
theorem kcX10_makes : Cond.code mX10_makes.1 mX10_makes.2.1 mX10_makes.2.2.1 mX10_makes.2.2.2 ∈ twl := twl_of 538 rfl rfl
set_option maxRecDepth 20000 in
theorem kcX10_lookAt : Cond.code mX10_lookAt.1 mX10_lookAt.2.1 mX10_lookAt.2.2.1 mX10_lookAt.2.2.2 ∈ twl := twl_of 543 rfl rfl
set_option maxRecDepth 20000 in
theorem kcX5_nearest : Cond.code mX5_nearest.1 mX5_nearest.2.1 mX5_nearest.2.2.1 mX5_nearest.2.2.2 ∈ twl := twl_of 547 rfl rfl
set_option maxRecDepth 20000 in
theorem kcX5_extend : Cond.code mX5_extend.1 mX5_extend.2.1 mX5_extend.2.2.1 mX5_extend.2.2.2 ∈ twl := twl_of 554 rfl rfl
set_option maxRecDepth 20000 in
theorem kcX5_leastGap : Cond.code mX5_leastGap.1 mX5_leastGap.2.1 mX5_leastGap.2.2.1 mX5_leastGap.2.2.2 ∈ twl := twl_of 558 rfl rfl
set_option maxRecDepth 20000 in
theorem kcX7_take : Cond.code mX7_take.1 mX7_take.2.1 mX7_take.2.2.1 mX7_take.2.2.2 ∈ twl := twl_of 566 rfl rfl
set_option maxRecDepth 20000 in
theorem kcX10_most : Cond.code mX10_most.1 mX10_most.2.1 mX10_most.2.2.1 mX10_most.2.2.2 ∈ twl := twl_of 571 rfl rfl
set_option maxRecDepth 20000 in
theorem kcX10_near : Cond.code mX10_near.1 mX10_near.2.1 mX10_near.2.2.1 mX10_near.2.2.2 ∈ twl := twl_of 576 rfl rfl
set_option maxRecDepth 20000 in
theorem kcX10_digits : Cond.code mX10_digits.1 mX10_digits.2.1 mX10_digits.2.2.1 mX10_digits.2.2.2 ∈ twl := twl_of 581 rfl rfl
set_option maxRecDepth 20000 in
theorem kcX10_unfitPairs : Cond.code mX10_unfitPairs.1 mX10_unfitPairs.2.1 mX10_unfitPairs.2.2.1 mX10_unfitPairs.2.2.2 ∈ twl := twl_of 584 rfl rfl
set_option maxRecDepth 20000 in
theorem kcX10_fits : Cond.code mX10_fits.1 mX10_fits.2.1 mX10_fits.2.2.1 mX10_fits.2.2.2 ∈ twl := twl_of 588 rfl rfl
set_option maxRecDepth 20000 in
theorem kcX10_kinds : Cond.code mX10_kinds.1 mX10_kinds.2.1 mX10_kinds.2.2.1 mX10_kinds.2.2.2 ∈ twl := twl_of 592 rfl rfl
set_option maxRecDepth 20000 in
theorem kcX10_fittingKinds : Cond.code mX10_fittingKinds.1 mX10_fittingKinds.2.1 mX10_fittingKinds.2.2.1 mX10_fittingKinds.2.2.2 ∈ twl := twl_of 596 rfl rfl
set_option maxRecDepth 20000 in
theorem kcX10_test : Cond.code mX10_test.1 mX10_test.2.1 mX10_test.2.2.1 mX10_test.2.2.2 ∈ twl := twl_of 600 rfl rfl
set_option maxRecDepth 20000 in
theorem kcX10_greatestPart : Cond.code mX10_greatestPart.1 mX10_greatestPart.2.1 mX10_greatestPart.2.2.1 mX10_greatestPart.2.2.2 ∈ twl := twl_of 604 rfl rfl
set_option maxRecDepth 20000 in
theorem kcX10_other : Cond.code mX10_other.1 mX10_other.2.1 mX10_other.2.2.1 mX10_other.2.2.2 ∈ twl := twl_of 608 rfl rfl
set_option maxRecDepth 20000 in
theorem kcX10_wasReadWith : Cond.code mX10_wasReadWith.1 mX10_wasReadWith.2.1 mX10_wasReadWith.2.2.1 mX10_wasReadWith.2.2.2 ∈ twl := twl_of 612 rfl rfl
set_option maxRecDepth 20000 in
theorem kcX10_duel : Cond.code mX10_duel.1 mX10_duel.2.1 mX10_duel.2.2.1 mX10_duel.2.2.2 ∈ twl := twl_of 616 rfl rfl
set_option maxRecDepth 20000 in
theorem kcX0_bits : Cond.code mX0_bits.1 mX0_bits.2.1 mX0_bits.2.2.1 mX0_bits.2.2.2 ∈ twl := twl_of 620 rfl rfl
set_option maxRecDepth 20000 in
theorem kcX5_playedOut : Cond.code mX5_playedOut.1 mX5_playedOut.2.1 mX5_playedOut.2.2.1 mX5_playedOut.2.2.2 ∈ twl := twl_of 624 rfl rfl
set_option maxRecDepth 20000 in
theorem kcX10_odds : Cond.code mX10_odds.1 mX10_odds.2.1 mX10_odds.2.2.1 mX10_odds.2.2.2 ∈ twl := twl_of 629 rfl rfl
set_option maxRecDepth 20000 in
theorem kcX10_isTwelfths : Cond.code mX10_isTwelfths.1 mX10_isTwelfths.2.1 mX10_isTwelfths.2.2.1 mX10_isTwelfths.2.2.2 ∈ twl := twl_of 632 rfl rfl
set_option maxRecDepth 20000 in
theorem kcX10_readOfLeft : Cond.code mX10_readOfLeft.1 mX10_readOfLeft.2.1 mX10_readOfLeft.2.2.1 mX10_readOfLeft.2.2.2 ∈ twl := twl_of 636 rfl rfl
set_option maxRecDepth 20000 in
theorem kcX10_weightOfLeft : Cond.code mX10_weightOfLeft.1 mX10_weightOfLeft.2.1 mX10_weightOfLeft.2.2.1 mX10_weightOfLeft.2.2.2 ∈ twl := twl_of 640 rfl rfl
set_option maxRecDepth 20000 in
theorem kcX10_tell : Cond.code mX10_tell.1 mX10_tell.2.1 mX10_tell.2.2.1 mX10_tell.2.2.2 ∈ twl := twl_of 645 rfl rfl
set_option maxRecDepth 20000 in
theorem kcX10_greatestShared : Cond.code mX10_greatestShared.1 mX10_greatestShared.2.1 mX10_greatestShared.2.2.1 mX10_greatestShared.2.2.2 ∈ twl := twl_of 648 rfl rfl
set_option maxRecDepth 20000 in
theorem kcX10_mid : Cond.code mX10_mid.1 mX10_mid.2.1 mX10_mid.2.2.1 mX10_mid.2.2.2 ∈ twl := twl_of 652 rfl rfl
set_option maxRecDepth 20000 in
theorem kcX10_lots : Cond.code mX10_lots.1 mX10_lots.2.1 mX10_lots.2.2.1 mX10_lots.2.2.2 ∈ twl := twl_of 656 rfl rfl
set_option maxRecDepth 20000 in
theorem kcX10_deedByLot : Cond.code mX10_deedByLot.1 mX10_deedByLot.2.1 mX10_deedByLot.2.2.1 mX10_deedByLot.2.2.2 ∈ twl := twl_of 662 rfl rfl
set_option maxRecDepth 20000 in
theorem kcX10_asked : Cond.code mX10_asked.1 mX10_asked.2.1 mX10_asked.2.2.1 mX10_asked.2.2.2 ∈ twl := twl_of 668 rfl rfl
set_option maxRecDepth 20000 in
theorem kcX10_upper : Cond.code mX10_upper.1 mX10_upper.2.1 mX10_upper.2.2.1 mX10_upper.2.2.2 ∈ twl := twl_of 672 rfl rfl
set_option maxRecDepth 20000 in
theorem kcX10_lower : Cond.code mX10_lower.1 mX10_lower.2.1 mX10_lower.2.2.1 mX10_lower.2.2.2 ∈ twl := twl_of 676 rfl rfl
set_option maxRecDepth 20000 in
theorem kcX10_count : Cond.code mX10_count.1 mX10_count.2.1 mX10_count.2.2.1 mX10_count.2.2.2 ∈ twl := twl_of 680 rfl rfl
set_option maxRecDepth 20000 in
theorem kcX10_howManyThere : Cond.code mX10_howManyThere.1 mX10_howManyThere.2.1 mX10_howManyThere.2.2.1 mX10_howManyThere.2.2.2 ∈ twl := twl_of 683 rfl rfl
set_option maxRecDepth 20000 in
theorem kcX10_howManyKept : Cond.code mX10_howManyKept.1 mX10_howManyKept.2.1 mX10_howManyKept.2.2.1 mX10_howManyKept.2.2.2 ∈ twl := twl_of 687 rfl rfl
set_option maxRecDepth 20000 in
theorem kcX10_howManyOf : Cond.code mX10_howManyOf.1 mX10_howManyOf.2.1 mX10_howManyOf.2.2.1 mX10_howManyOf.2.2.2 ∈ twl := twl_of 691 rfl rfl
set_option maxRecDepth 20000 in
theorem kcX10_finding : Cond.code mX10_finding.1 mX10_finding.2.1 mX10_finding.2.2.1 mX10_finding.2.2.2 ∈ twl := twl_of 695 rfl rfl
set_option maxRecDepth 20000 in
theorem kcX10_findings : Cond.code mX10_findings.1 mX10_findings.2.1 mX10_findings.2.2.1 mX10_findings.2.2.2 ∈ twl := twl_of 699 rfl rfl
set_option maxRecDepth 20000 in
theorem kcX10_digest : Cond.code mX10_digest.1 mX10_digest.2.1 mX10_digest.2.2.1 mX10_digest.2.2.2 ∈ twl := twl_of 703 rfl rfl
set_option maxRecDepth 20000 in
theorem kcX10_withStrips : Cond.code mX10_withStrips.1 mX10_withStrips.2.1 mX10_withStrips.2.2.1 mX10_withStrips.2.2.2 ∈ twl := twl_of 709 rfl rfl
set_option maxRecDepth 20000 in
theorem kcX11_init : Cond.code mX11_init.1 mX11_init.2.1 mX11_init.2.2.1 mX11_init.2.2.2 ∈ twl := twl_of 714 rfl rfl
set_option maxRecDepth 20000 in
theorem kcX11_row : Cond.code mX11_row.1 mX11_row.2.1 mX11_row.2.2.1 mX11_row.2.2.2 ∈ twl := twl_of 792 rfl rfl
set_option maxRecDepth 20000 in
theorem kcX11_isRow : Cond.code mX11_isRow.1 mX11_isRow.2.1 mX11_isRow.2.2.1 mX11_isRow.2.2.2 ∈ twl := twl_of 795 rfl rfl
set_option maxRecDepth 20000 in
theorem kcX11_in : Cond.code mX11_in.1 mX11_in.2.1 mX11_in.2.2.1 mX11_in.2.2.2 ∈ twl := twl_of 799 rfl rfl
set_option maxRecDepth 20000 in
theorem kcX11_finds : Cond.code mX11_finds.1 mX11_finds.2.1 mX11_finds.2.2.1 mX11_finds.2.2.2 ∈ twl := twl_of 803 rfl rfl
set_option maxRecDepth 20000 in
theorem kcX11_lay : Cond.code mX11_lay.1 mX11_lay.2.1 mX11_lay.2.2.1 mX11_lay.2.2.2 ∈ twl := twl_of 807 rfl rfl
set_option maxRecDepth 20000 in
theorem kcX11_tells : Cond.code mX11_tells.1 mX11_tells.2.1 mX11_tells.2.2.1 mX11_tells.2.2.2 ∈ twl := twl_of 811 rfl rfl
set_option maxRecDepth 20000 in
theorem kcX11_at : Cond.code mX11_at.1 mX11_at.2.1 mX11_at.2.2.1 mX11_at.2.2.2 ∈ twl := twl_of 815 rfl rfl
set_option maxRecDepth 20000 in
theorem kcX11_tear : Cond.code mX11_tear.1 mX11_tear.2.1 mX11_tear.2.2.1 mX11_tear.2.2.2 ∈ twl := twl_of 819 rfl rfl
set_option maxRecDepth 20000 in
theorem kcX11_copy : Cond.code mX11_copy.1 mX11_copy.2.1 mX11_copy.2.2.1 mX11_copy.2.2.2 ∈ twl := twl_of 823 rfl rfl
set_option maxRecDepth 20000 in
theorem kcX11_mean : Cond.code mX11_mean.1 mX11_mean.2.1 mX11_mean.2.2.1 mX11_mean.2.2.2 ∈ twl := twl_of 827 rfl rfl
set_option maxRecDepth 20000 in
theorem kcX11_text : Cond.code mX11_text.1 mX11_text.2.1 mX11_text.2.2.1 mX11_text.2.2.2 ∈ twl := twl_of 831 rfl rfl
set_option maxRecDepth 20000 in
theorem kcX11_isText : Cond.code mX11_isText.1 mX11_isText.2.1 mX11_isText.2.2.1 mX11_isText.2.2.2 ∈ twl := twl_of 834 rfl rfl
set_option maxRecDepth 20000 in
theorem kcX11_put : Cond.code mX11_put.1 mX11_put.2.1 mX11_put.2.2.1 mX11_put.2.2.2 ∈ twl := twl_of 839 rfl rfl
set_option maxRecDepth 20000 in
theorem kcX11_fault : Cond.code mX11_fault.1 mX11_fault.2.1 mX11_fault.2.2.1 mX11_fault.2.2.2 ∈ twl := twl_of 843 rfl rfl
set_option maxRecDepth 20000 in
theorem kcX11_faultOf : Cond.code mX11_faultOf.1 mX11_faultOf.2.1 mX11_faultOf.2.2.1 mX11_faultOf.2.2.2 ∈ twl := twl_of 847 rfl rfl
set_option maxRecDepth 20000 in
theorem kcX11_here : Cond.code mX11_here.1 mX11_here.2.1 mX11_here.2.2.1 mX11_here.2.2.2 ∈ twl := twl_of 851 rfl rfl
set_option maxRecDepth 20000 in
theorem kcX11_takesRod : Cond.code mX11_takesRod.1 mX11_takesRod.2.1 mX11_takesRod.2.2.1 mX11_takesRod.2.2.2 ∈ twl := twl_of 855 rfl rfl
set_option maxRecDepth 20000 in
theorem kcX11_kindOf : Cond.code mX11_kindOf.1 mX11_kindOf.2.1 mX11_kindOf.2.2.1 mX11_kindOf.2.2.2 ∈ twl := twl_of 858 rfl rfl
set_option maxRecDepth 20000 in
theorem kcX11_box : Cond.code mX11_box.1 mX11_box.2.1 mX11_box.2.2.1 mX11_box.2.2.2 ∈ twl := twl_of 863 rfl rfl
set_option maxRecDepth 20000 in
theorem kcX11_rod : Cond.code mX11_rod.1 mX11_rod.2.1 mX11_rod.2.2.1 mX11_rod.2.2.2 ∈ twl := twl_of 867 rfl rfl
set_option maxRecDepth 20000 in
theorem kcX11_isRod : Cond.code mX11_isRod.1 mX11_isRod.2.1 mX11_isRod.2.2.1 mX11_isRod.2.2.2 ∈ twl := twl_of 871 rfl rfl
set_option maxRecDepth 20000 in
theorem kcX11_rodOf : Cond.code mX11_rodOf.1 mX11_rodOf.2.1 mX11_rodOf.2.2.1 mX11_rodOf.2.2.2 ∈ twl := twl_of 876 rfl rfl
set_option maxRecDepth 20000 in
theorem kcX11_digitOf : Cond.code mX11_digitOf.1 mX11_digitOf.2.1 mX11_digitOf.2.2.1 mX11_digitOf.2.2.2 ∈ twl := twl_of 880 rfl rfl
set_option maxRecDepth 20000 in
theorem kcX11_has : Cond.code mX11_has.1 mX11_has.2.1 mX11_has.2.2.1 mX11_has.2.2.2 ∈ twl := twl_of 883 rfl rfl
set_option maxRecDepth 20000 in
theorem kcX11_placeOf : Cond.code mX11_placeOf.1 mX11_placeOf.2.1 mX11_placeOf.2.2.1 mX11_placeOf.2.2.2 ∈ twl := twl_of 887 rfl rfl
set_option maxRecDepth 20000 in
theorem kcX11_mark : Cond.code mX11_mark.1 mX11_mark.2.1 mX11_mark.2.2.1 mX11_mark.2.2.2 ∈ twl := twl_of 891 rfl rfl
set_option maxRecDepth 20000 in
theorem kcX11_isA : Cond.code mX11_isA.1 mX11_isA.2.1 mX11_isA.2.2.1 mX11_isA.2.2.2 ∈ twl := twl_of 894 rfl rfl
set_option maxRecDepth 20000 in
theorem kcX11_linesAgainst : Cond.code mX11_linesAgainst.1 mX11_linesAgainst.2.1 mX11_linesAgainst.2.2.1 mX11_linesAgainst.2.2.2 ∈ twl := twl_of 898 rfl rfl
set_option maxRecDepth 20000 in
theorem kcX11_showsOf : Cond.code mX11_showsOf.1 mX11_showsOf.2.1 mX11_showsOf.2.2.1 mX11_showsOf.2.2.2 ∈ twl := twl_of 902 rfl rfl
set_option maxRecDepth 20000 in
theorem kcX11_showsBy : Cond.code mX11_showsBy.1 mX11_showsBy.2.1 mX11_showsBy.2.2.1 mX11_showsBy.2.2.2 ∈ twl := twl_of 905 rfl rfl
set_option maxRecDepth 20000 in
theorem kcX11_worn : Cond.code mX11_worn.1 mX11_worn.2.1 mX11_worn.2.2.1 mX11_worn.2.2.2 ∈ twl := twl_of 908 rfl rfl
set_option maxRecDepth 20000 in
theorem kcX11_shows : Cond.code mX11_shows.1 mX11_shows.2.1 mX11_shows.2.2.1 mX11_shows.2.2.2 ∈ twl := twl_of 912 rfl rfl
set_option maxRecDepth 20000 in
theorem kcX11_isLine : Cond.code mX11_isLine.1 mX11_isLine.2.1 mX11_isLine.2.2.1 mX11_isLine.2.2.2 ∈ twl := twl_of 915 rfl rfl
set_option maxRecDepth 20000 in
theorem kcX11_laid : Cond.code mX11_laid.1 mX11_laid.2.1 mX11_laid.2.2.1 mX11_laid.2.2.2 ∈ twl := twl_of 919 rfl rfl
set_option maxRecDepth 20000 in
theorem kcX11_minds : Cond.code mX11_minds.1 mX11_minds.2.1 mX11_minds.2.2.1 mX11_minds.2.2.2 ∈ twl := twl_of 923 rfl rfl
set_option maxRecDepth 20000 in
theorem kcX11_lays : Cond.code mX11_lays.1 mX11_lays.2.1 mX11_lays.2.2.1 mX11_lays.2.2.2 ∈ twl := twl_of 927 rfl rfl
set_option maxRecDepth 20000 in
theorem kcX11_lift : Cond.code mX11_lift.1 mX11_lift.2.1 mX11_lift.2.2.1 mX11_lift.2.2.2 ∈ twl := twl_of 931 rfl rfl
set_option maxRecDepth 20000 in
theorem kcX11_lifts : Cond.code mX11_lifts.1 mX11_lifts.2.1 mX11_lifts.2.2.1 mX11_lifts.2.2.2 ∈ twl := twl_of 935 rfl rfl
set_option maxRecDepth 20000 in
theorem kcX11_change : Cond.code mX11_change.1 mX11_change.2.1 mX11_change.2.2.1 mX11_change.2.2.2 ∈ twl := twl_of 939 rfl rfl
set_option maxRecDepth 20000 in
theorem kcX11_over : Cond.code mX11_over.1 mX11_over.2.1 mX11_over.2.2.1 mX11_over.2.2.2 ∈ twl := twl_of 943 rfl rfl
set_option maxRecDepth 20000 in
theorem kcX11_undo : Cond.code mX11_undo.1 mX11_undo.2.1 mX11_undo.2.2.1 mX11_undo.2.2.2 ∈ twl := twl_of 947 rfl rfl
set_option maxRecDepth 20000 in
theorem kcX11_keep : Cond.code mX11_keep.1 mX11_keep.2.1 mX11_keep.2.2.1 mX11_keep.2.2.2 ∈ twl := twl_of 951 rfl rfl
set_option maxRecDepth 20000 in
theorem kcX11_bring : Cond.code mX11_bring.1 mX11_bring.2.1 mX11_bring.2.2.1 mX11_bring.2.2.2 ∈ twl := twl_of 956 rfl rfl
set_option maxRecDepth 20000 in
theorem kcX11_on : Cond.code mX11_on.1 mX11_on.2.1 mX11_on.2.2.1 mX11_on.2.2.2 ∈ twl := twl_of 960 rfl rfl
set_option maxRecDepth 20000 in
theorem kcX11_reads : Cond.code mX11_reads.1 mX11_reads.2.1 mX11_reads.2.2.1 mX11_reads.2.2.2 ∈ twl := twl_of 964 rfl rfl
set_option maxRecDepth 20000 in
theorem kcX11_rightBy : Cond.code mX11_rightBy.1 mX11_rightBy.2.1 mX11_rightBy.2.2.1 mX11_rightBy.2.2.2 ∈ twl := twl_of 968 rfl rfl
set_option maxRecDepth 20000 in
theorem kcX11_readBy : Cond.code mX11_readBy.1 mX11_readBy.2.1 mX11_readBy.2.2.1 mX11_readBy.2.2.2 ∈ twl := twl_of 972 rfl rfl
set_option maxRecDepth 20000 in
theorem kcX11_wrong : Cond.code mX11_wrong.1 mX11_wrong.2.1 mX11_wrong.2.2.1 mX11_wrong.2.2.2 ∈ twl := twl_of 976 rfl rfl
set_option maxRecDepth 20000 in
theorem kcX11_carries : Cond.code mX11_carries.1 mX11_carries.2.1 mX11_carries.2.2.1 mX11_carries.2.2.2 ∈ twl := twl_of 980 rfl rfl
set_option maxRecDepth 20000 in
theorem kcX11_makes : Cond.code mX11_makes.1 mX11_makes.2.1 mX11_makes.2.2.1 mX11_makes.2.2.2 ∈ twl := twl_of 984 rfl rfl
set_option maxRecDepth 20000 in
theorem kcX11_goesNext : Cond.code mX11_goesNext.1 mX11_goesNext.2.1 mX11_goesNext.2.2.1 mX11_goesNext.2.2.2 ∈ twl := twl_of 989 rfl rfl
set_option maxRecDepth 20000 in
theorem kcX11_keeps : Cond.code mX11_keeps.1 mX11_keeps.2.1 mX11_keeps.2.2.1 mX11_keeps.2.2.2 ∈ twl := twl_of 993 rfl rfl
set_option maxRecDepth 20000 in
theorem kcX11_laysBest : Cond.code mX11_laysBest.1 mX11_laysBest.2.1 mX11_laysBest.2.2.1 mX11_laysBest.2.2.2 ∈ twl := twl_of 997 rfl rfl
set_option maxRecDepth 20000 in
theorem kcX11_most : Cond.code mX11_most.1 mX11_most.2.1 mX11_most.2.2.1 mX11_most.2.2.2 ∈ twl := twl_of 1001 rfl rfl
set_option maxRecDepth 20000 in
theorem kcX11_near : Cond.code mX11_near.1 mX11_near.2.1 mX11_near.2.2.1 mX11_near.2.2.2 ∈ twl := twl_of 1005 rfl rfl
set_option maxRecDepth 20000 in
theorem kcX11_digits : Cond.code mX11_digits.1 mX11_digits.2.1 mX11_digits.2.2.1 mX11_digits.2.2.2 ∈ twl := twl_of 1011 rfl rfl
set_option maxRecDepth 20000 in
theorem kcX11_againstPairs : Cond.code mX11_againstPairs.1 mX11_againstPairs.2.1 mX11_againstPairs.2.2.1 mX11_againstPairs.2.2.2 ∈ twl := twl_of 1015 rfl rfl
set_option maxRecDepth 20000 in
theorem kcX11_showedSo : Cond.code mX11_showedSo.1 mX11_showedSo.2.1 mX11_showedSo.2.2.1 mX11_showedSo.2.2.2 ∈ twl := twl_of 1020 rfl rfl
set_option maxRecDepth 20000 in
theorem kcX11_kinds : Cond.code mX11_kinds.1 mX11_kinds.2.1 mX11_kinds.2.2.1 mX11_kinds.2.2.2 ∈ twl := twl_of 1024 rfl rfl
set_option maxRecDepth 20000 in
theorem kcX11_kindsOf : Cond.code mX11_kindsOf.1 mX11_kindsOf.2.1 mX11_kindsOf.2.2.1 mX11_kindsOf.2.2.2 ∈ twl := twl_of 1028 rfl rfl
set_option maxRecDepth 20000 in
theorem kcX11_test : Cond.code mX11_test.1 mX11_test.2.1 mX11_test.2.2.1 mX11_test.2.2.2 ∈ twl := twl_of 1032 rfl rfl
set_option maxRecDepth 20000 in
theorem kcX11_other : Cond.code mX11_other.1 mX11_other.2.1 mX11_other.2.2.1 mX11_other.2.2.2 ∈ twl := twl_of 1036 rfl rfl
set_option maxRecDepth 20000 in
theorem kcX11_readWith : Cond.code mX11_readWith.1 mX11_readWith.2.1 mX11_readWith.2.2.1 mX11_readWith.2.2.2 ∈ twl := twl_of 1040 rfl rfl
set_option maxRecDepth 20000 in
theorem kcX11_duel : Cond.code mX11_duel.1 mX11_duel.2.1 mX11_duel.2.2.1 mX11_duel.2.2.2 ∈ twl := twl_of 1044 rfl rfl
set_option maxRecDepth 20000 in
theorem kcX11_isLaidOr : Cond.code mX11_isLaidOr.1 mX11_isLaidOr.2.1 mX11_isLaidOr.2.2.1 mX11_isLaidOr.2.2.2 ∈ twl := twl_of 1048 rfl rfl
set_option maxRecDepth 20000 in
theorem kcX11_odds : Cond.code mX11_odds.1 mX11_odds.2.1 mX11_odds.2.2.1 mX11_odds.2.2.2 ∈ twl := twl_of 1052 rfl rfl
set_option maxRecDepth 20000 in
theorem kcX11_chance : Cond.code mX11_chance.1 mX11_chance.2.1 mX11_chance.2.2.1 mX11_chance.2.2.2 ∈ twl := twl_of 1056 rfl rfl
set_option maxRecDepth 20000 in
theorem kcX11_readWithout : Cond.code mX11_readWithout.1 mX11_readWithout.2.1 mX11_readWithout.2.2.1 mX11_readWithout.2.2.2 ∈ twl := twl_of 1061 rfl rfl
set_option maxRecDepth 20000 in
theorem kcX11_tellsPart : Cond.code mX11_tellsPart.1 mX11_tellsPart.2.1 mX11_tellsPart.2.2.1 mX11_tellsPart.2.2.2 ∈ twl := twl_of 1065 rfl rfl
set_option maxRecDepth 20000 in
theorem kcX11_mid : Cond.code mX11_mid.1 mX11_mid.2.1 mX11_mid.2.2.1 mX11_mid.2.2.2 ∈ twl := twl_of 1069 rfl rfl
set_option maxRecDepth 20000 in
theorem kcX11_lots : Cond.code mX11_lots.1 mX11_lots.2.1 mX11_lots.2.2.1 mX11_lots.2.2.2 ∈ twl := twl_of 1073 rfl rfl
set_option maxRecDepth 20000 in
theorem kcX11_asked : Cond.code mX11_asked.1 mX11_asked.2.1 mX11_asked.2.2.1 mX11_asked.2.2.2 ∈ twl := twl_of 1082 rfl rfl
set_option maxRecDepth 20000 in
theorem kcX11_upper : Cond.code mX11_upper.1 mX11_upper.2.1 mX11_upper.2.2.1 mX11_upper.2.2.2 ∈ twl := twl_of 1086 rfl rfl
set_option maxRecDepth 20000 in
theorem kcX11_lower : Cond.code mX11_lower.1 mX11_lower.2.1 mX11_lower.2.2.1 mX11_lower.2.2.2 ∈ twl := twl_of 1090 rfl rfl
set_option maxRecDepth 20000 in
theorem kcX11_count : Cond.code mX11_count.1 mX11_count.2.1 mX11_count.2.2.1 mX11_count.2.2.2 ∈ twl := twl_of 1094 rfl rfl
set_option maxRecDepth 20000 in
theorem kcX11_framed : Cond.code mX11_framed.1 mX11_framed.2.1 mX11_framed.2.2.1 mX11_framed.2.2.2 ∈ twl := twl_of 1098 rfl rfl
set_option maxRecDepth 20000 in
theorem kcX11_rowsThere : Cond.code mX11_rowsThere.1 mX11_rowsThere.2.1 mX11_rowsThere.2.2.1 mX11_rowsThere.2.2.2 ∈ twl := twl_of 1102 rfl rfl
set_option maxRecDepth 20000 in
theorem kcX11_textsThere : Cond.code mX11_textsThere.1 mX11_textsThere.2.1 mX11_textsThere.2.2.1 mX11_textsThere.2.2.2 ∈ twl := twl_of 1106 rfl rfl
set_option maxRecDepth 20000 in
theorem kcX11_boxesKept : Cond.code mX11_boxesKept.1 mX11_boxesKept.2.1 mX11_boxesKept.2.2.1 mX11_boxesKept.2.2.2 ∈ twl := twl_of 1110 rfl rfl
set_option maxRecDepth 20000 in
theorem kcX11_manyOf : Cond.code mX11_manyOf.1 mX11_manyOf.2.1 mX11_manyOf.2.2.1 mX11_manyOf.2.2.2 ∈ twl := twl_of 1114 rfl rfl
set_option maxRecDepth 20000 in
theorem kcX11_finding : Cond.code mX11_finding.1 mX11_finding.2.1 mX11_finding.2.2.1 mX11_finding.2.2.2 ∈ twl := twl_of 1118 rfl rfl
set_option maxRecDepth 20000 in
theorem kcX11_findings : Cond.code mX11_findings.1 mX11_findings.2.1 mX11_findings.2.2.1 mX11_findings.2.2.2 ∈ twl := twl_of 1122 rfl rfl
set_option maxRecDepth 20000 in
theorem kcX11_digest : Cond.code mX11_digest.1 mX11_digest.2.1 mX11_digest.2.2.1 mX11_digest.2.2.2 ∈ twl := twl_of 1126 rfl rfl
set_option maxRecDepth 20000 in
theorem kcX11_mix : Cond.code mX11_mix.1 mX11_mix.2.1 mX11_mix.2.2.1 mX11_mix.2.2.2 ∈ twl := twl_of 1132 rfl rfl
set_option maxRecDepth 20000 in
theorem izX0 : Cond.initialized RX0 ∈ twl := twl_of 70 rfl rfl
set_option maxRecDepth 20000 in
theorem izX1 : Cond.initialized RX1 ∈ twl := twl_of 67 rfl rfl
set_option maxRecDepth 20000 in
theorem izX2 : Cond.initialized RX2 ∈ twl := twl_of 68 rfl rfl
set_option maxRecDepth 20000 in
theorem izX3 : Cond.initialized RX3 ∈ twl := twl_of 63 rfl rfl
set_option maxRecDepth 20000 in
theorem izX4 : Cond.initialized RX4 ∈ twl := twl_of 69 rfl rfl
set_option maxRecDepth 20000 in
theorem izX5 : Cond.initialized RX5 ∈ twl := twl_of 71 rfl rfl
set_option maxRecDepth 20000 in
theorem izX6 : Cond.initialized RX6 ∈ twl := twl_of 66 rfl rfl
set_option maxRecDepth 20000 in
theorem izX7 : Cond.initialized RX7 ∈ twl := twl_of 62 rfl rfl
set_option maxRecDepth 20000 in
theorem izX8 : Cond.initialized RX8 ∈ twl := twl_of 65 rfl rfl
set_option maxRecDepth 20000 in
theorem izX9 : Cond.initialized RX9 ∈ twl := twl_of 64 rfl rfl
set_option maxRecDepth 20000 in
theorem izX10 : Cond.initialized RX10 ∈ twl := twl_of 61 rfl rfl
set_option maxRecDepth 20000 in
theorem izX11 : Cond.initialized RX11 ∈ twl := twl_of 72 rfl rfl
set_option maxRecDepth 20000 in
theorem izJ9 : Cond.initialized RJ9 ∈ twl := twl_of 74 rfl rfl
set_option maxRecDepth 20000 in
theorem izJ10 : Cond.initialized RJ10 ∈ twl := twl_of 73 rfl rfl
set_option maxRecDepth 20000 in
theorem izL : Cond.initialized RL ∈ twl := twl_of 60 rfl rfl
set_option maxRecDepth 20000 in
theorem imX10_init : Cond.instanceMethod yX10_init ∈ twl := twl_of 78 rfl rfl
set_option maxRecDepth 20000 in
theorem imX7_init : Cond.instanceMethod yX7_init ∈ twl := twl_of 87 rfl rfl
set_option maxRecDepth 20000 in
theorem imX3_init : Cond.instanceMethod yX3_init ∈ twl := twl_of 104 rfl rfl
set_option maxRecDepth 20000 in
theorem imX9_init : Cond.instanceMethod yX9_init ∈ twl := twl_of 111 rfl rfl
set_option maxRecDepth 20000 in
theorem imX8_init : Cond.instanceMethod yX8_init ∈ twl := twl_of 118 rfl rfl
set_option maxRecDepth 20000 in
theorem imX6_init : Cond.instanceMethod yX6_init ∈ twl := twl_of 125 rfl rfl
set_option maxRecDepth 20000 in
theorem imX1_init : Cond.instanceMethod yX1_init ∈ twl := twl_of 132 rfl rfl
set_option maxRecDepth 20000 in
theorem imX2_init : Cond.instanceMethod yX2_init ∈ twl := twl_of 139 rfl rfl
set_option maxRecDepth 20000 in
theorem imX4_init : Cond.instanceMethod yX4_init ∈ twl := twl_of 147 rfl rfl
set_option maxRecDepth 20000 in
theorem imX0_init : Cond.instanceMethod yX0_init ∈ twl := twl_of 167 rfl rfl
set_option maxRecDepth 20000 in
theorem imX5_init : Cond.instanceMethod yX5_init ∈ twl := twl_of 203 rfl rfl
set_option maxRecDepth 20000 in
theorem imX10_row : Cond.instanceMethod yX10_row ∈ twl := twl_of 272 rfl rfl
set_option maxRecDepth 20000 in
theorem slX10_row : Cond.selects RX10 yX10_row yX10_row ∈ twl := twl_of 273 rfl rfl
set_option maxRecDepth 20000 in
theorem stX10_isRow : Cond.static yX10_isRow ∈ twl := twl_of 276 rfl rfl
set_option maxRecDepth 20000 in
theorem imX10_found : Cond.instanceMethod yX10_found ∈ twl := twl_of 280 rfl rfl
set_option maxRecDepth 20000 in
theorem slX10_found : Cond.selects RX10 yX10_found yX10_found ∈ twl := twl_of 0 rfl rfl
set_option maxRecDepth 20000 in
theorem imX7_make : Cond.instanceMethod yX7_make ∈ twl := twl_of 283 rfl rfl
set_option maxRecDepth 20000 in
theorem slX7_make : Cond.selects RX7 yX7_make yX7_make ∈ twl := twl_of 284 rfl rfl
set_option maxRecDepth 20000 in
theorem imX10_lay : Cond.instanceMethod yX10_lay ∈ twl := twl_of 287 rfl rfl
set_option maxRecDepth 20000 in
theorem slX10_lay : Cond.selects RX10 yX10_lay yX10_lay ∈ twl := twl_of 288 rfl rfl
set_option maxRecDepth 20000 in
theorem stX10_unfitPlace : Cond.static yX10_unfitPlace ∈ twl := twl_of 291 rfl rfl
set_option maxRecDepth 20000 in
theorem imX7_isThere : Cond.instanceMethod yX7_isThere ∈ twl := twl_of 294 rfl rfl
set_option maxRecDepth 20000 in
theorem slX7_isThere : Cond.selects RX7 yX7_isThere yX7_isThere ∈ twl := twl_of 295 rfl rfl
set_option maxRecDepth 20000 in
theorem imX7_holds : Cond.instanceMethod yX7_holds ∈ twl := twl_of 298 rfl rfl
set_option maxRecDepth 20000 in
theorem slX7_holds : Cond.selects RX7 yX7_holds yX7_holds ∈ twl := twl_of 299 rfl rfl
set_option maxRecDepth 20000 in
theorem imX10_at : Cond.instanceMethod yX10_at ∈ twl := twl_of 302 rfl rfl
set_option maxRecDepth 20000 in
theorem slX10_at : Cond.selects RX10 yX10_at yX10_at ∈ twl := twl_of 303 rfl rfl
set_option maxRecDepth 20000 in
theorem imX10_tear : Cond.instanceMethod yX10_tear ∈ twl := twl_of 306 rfl rfl
set_option maxRecDepth 20000 in
theorem slX10_tear : Cond.selects RX10 yX10_tear yX10_tear ∈ twl := twl_of 307 rfl rfl
set_option maxRecDepth 20000 in
theorem imX10_copy : Cond.instanceMethod yX10_copy ∈ twl := twl_of 310 rfl rfl
set_option maxRecDepth 20000 in
theorem slX10_copy : Cond.selects RX10 yX10_copy yX10_copy ∈ twl := twl_of 311 rfl rfl
set_option maxRecDepth 20000 in
theorem imX10_mean : Cond.instanceMethod yX10_mean ∈ twl := twl_of 317 rfl rfl
set_option maxRecDepth 20000 in
theorem slX10_mean : Cond.selects RX10 yX10_mean yX10_mean ∈ twl := twl_of 318 rfl rfl
set_option maxRecDepth 20000 in
theorem imX10_text : Cond.instanceMethod yX10_text ∈ twl := twl_of 321 rfl rfl
set_option maxRecDepth 20000 in
theorem slX10_text : Cond.selects RX10 yX10_text yX10_text ∈ twl := twl_of 322 rfl rfl
set_option maxRecDepth 20000 in
theorem stX10_isText : Cond.static yX10_isText ∈ twl := twl_of 325 rfl rfl
set_option maxRecDepth 20000 in
theorem imX10_put : Cond.instanceMethod yX10_put ∈ twl := twl_of 328 rfl rfl
set_option maxRecDepth 20000 in
theorem slX10_put : Cond.selects RX10 yX10_put yX10_put ∈ twl := twl_of 329 rfl rfl
set_option maxRecDepth 20000 in
theorem imX10_fault : Cond.instanceMethod yX10_fault ∈ twl := twl_of 332 rfl rfl
set_option maxRecDepth 20000 in
theorem slX10_fault : Cond.selects RX10 yX10_fault yX10_fault ∈ twl := twl_of 333 rfl rfl
set_option maxRecDepth 20000 in
theorem stX10_firstFault : Cond.static yX10_firstFault ∈ twl := twl_of 336 rfl rfl
set_option maxRecDepth 20000 in
theorem stX10_isFigure : Cond.static yX10_isFigure ∈ twl := twl_of 339 rfl rfl
set_option maxRecDepth 20000 in
theorem stX10_kindByLetter : Cond.static yX10_kindByLetter ∈ twl := twl_of 342 rfl rfl
set_option maxRecDepth 20000 in
theorem imX10_box : Cond.instanceMethod yX10_box ∈ twl := twl_of 347 rfl rfl
set_option maxRecDepth 20000 in
theorem slX10_box : Cond.selects RX10 yX10_box yX10_box ∈ twl := twl_of 348 rfl rfl
set_option maxRecDepth 20000 in
theorem imX10_fillBox : Cond.instanceMethod yX10_fillBox ∈ twl := twl_of 352 rfl rfl
set_option maxRecDepth 20000 in
theorem slX10_fillBox : Cond.selects RX10 yX10_fillBox yX10_fillBox ∈ twl := twl_of 1 rfl rfl
set_option maxRecDepth 20000 in
theorem imX0_clear : Cond.instanceMethod yX0_clear ∈ twl := twl_of 355 rfl rfl
set_option maxRecDepth 20000 in
theorem slX0_clear : Cond.selects RX0 yX0_clear yX0_clear ∈ twl := twl_of 356 rfl rfl
set_option maxRecDepth 20000 in
theorem imX10_rod : Cond.instanceMethod yX10_rod ∈ twl := twl_of 359 rfl rfl
set_option maxRecDepth 20000 in
theorem slX10_rod : Cond.selects RX10 yX10_rod yX10_rod ∈ twl := twl_of 360 rfl rfl
set_option maxRecDepth 20000 in
theorem imX10_isRod : Cond.instanceMethod yX10_isRod ∈ twl := twl_of 364 rfl rfl
set_option maxRecDepth 20000 in
theorem slX10_isRod : Cond.selects RX10 yX10_isRod yX10_isRod ∈ twl := twl_of 2 rfl rfl
set_option maxRecDepth 20000 in
theorem imX10_ofRod : Cond.instanceMethod yX10_ofRod ∈ twl := twl_of 368 rfl rfl
set_option maxRecDepth 20000 in
theorem slX10_ofRod : Cond.selects RX10 yX10_ofRod yX10_ofRod ∈ twl := twl_of 3 rfl rfl
set_option maxRecDepth 20000 in
theorem imX10_digitNow : Cond.instanceMethod yX10_digitNow ∈ twl := twl_of 372 rfl rfl
set_option maxRecDepth 20000 in
theorem slX10_digitNow : Cond.selects RX10 yX10_digitNow yX10_digitNow ∈ twl := twl_of 4 rfl rfl
set_option maxRecDepth 20000 in
theorem imX0_isOver : Cond.instanceMethod yX0_isOver ∈ twl := twl_of 375 rfl rfl
set_option maxRecDepth 20000 in
theorem slX0_isOver : Cond.selects RX0 yX0_isOver yX0_isOver ∈ twl := twl_of 376 rfl rfl
set_option maxRecDepth 20000 in
theorem imX0_placeOf : Cond.instanceMethod yX0_placeOf ∈ twl := twl_of 379 rfl rfl
set_option maxRecDepth 20000 in
theorem slX0_placeOf : Cond.selects RX0 yX0_placeOf yX0_placeOf ∈ twl := twl_of 380 rfl rfl
set_option maxRecDepth 20000 in
theorem imX10_mark : Cond.instanceMethod yX10_mark ∈ twl := twl_of 383 rfl rfl
set_option maxRecDepth 20000 in
theorem slX10_mark : Cond.selects RX10 yX10_mark yX10_mark ∈ twl := twl_of 384 rfl rfl
set_option maxRecDepth 20000 in
theorem stX10_isOfKind : Cond.static yX10_isOfKind ∈ twl := twl_of 387 rfl rfl
set_option maxRecDepth 20000 in
theorem imX10_linesApart : Cond.instanceMethod yX10_linesApart ∈ twl := twl_of 391 rfl rfl
set_option maxRecDepth 20000 in
theorem slX10_linesApart : Cond.selects RX10 yX10_linesApart yX10_linesApart ∈ twl := twl_of 5 rfl rfl
set_option maxRecDepth 20000 in
theorem imX10_shownNow : Cond.instanceMethod yX10_shownNow ∈ twl := twl_of 395 rfl rfl
set_option maxRecDepth 20000 in
theorem slX10_shownNow : Cond.selects RX10 yX10_shownNow yX10_shownNow ∈ twl := twl_of 6 rfl rfl
set_option maxRecDepth 20000 in
theorem imX9_shown : Cond.instanceMethod yX9_shown ∈ twl := twl_of 402 rfl rfl
set_option maxRecDepth 20000 in
theorem imX1_isWithoutTens : Cond.instanceMethod yX1_isWithoutTens ∈ twl := twl_of 410 rfl rfl
set_option maxRecDepth 20000 in
theorem imX9_isWithoutTens : Cond.instanceMethod yX9_isWithoutTens ∈ twl := twl_of 406 rfl rfl
set_option maxRecDepth 20000 in
theorem slX9_isWithoutTens : Cond.selects RX9 yX9_isWithoutTens yX9_isWithoutTens ∈ twl := twl_of 407 rfl rfl
set_option maxRecDepth 20000 in
theorem imX2_shown : Cond.instanceMethod yX2_shown ∈ twl := twl_of 415 rfl rfl
set_option maxRecDepth 20000 in
theorem imX8_shown : Cond.instanceMethod yX8_shown ∈ twl := twl_of 418 rfl rfl
set_option maxRecDepth 20000 in
theorem imX6_shown : Cond.instanceMethod yX6_shown ∈ twl := twl_of 422 rfl rfl
set_option maxRecDepth 20000 in
theorem imX3_shown : Cond.instanceMethod yX3_shown ∈ twl := twl_of 398 rfl rfl
set_option maxRecDepth 20000 in
theorem slX3_shown : Cond.selects RX3 yX3_shown yX3_shown ∈ twl := twl_of 399 rfl rfl
set_option maxRecDepth 20000 in
theorem imX10_shownAs : Cond.instanceMethod yX10_shownAs ∈ twl := twl_of 430 rfl rfl
set_option maxRecDepth 20000 in
theorem slX10_shownAs : Cond.selects RX10 yX10_shownAs yX10_shownAs ∈ twl := twl_of 7 rfl rfl
set_option maxRecDepth 20000 in
theorem imX10_slidBy : Cond.instanceMethod yX10_slidBy ∈ twl := twl_of 434 rfl rfl
set_option maxRecDepth 20000 in
theorem slX10_slidBy : Cond.selects RX10 yX10_slidBy yX10_slidBy ∈ twl := twl_of 8 rfl rfl
set_option maxRecDepth 20000 in
theorem stX10_isLine : Cond.static yX10_isLine ∈ twl := twl_of 437 rfl rfl
set_option maxRecDepth 20000 in
theorem imX10_shows : Cond.instanceMethod yX10_shows ∈ twl := twl_of 440 rfl rfl
set_option maxRecDepth 20000 in
theorem slX10_shows : Cond.selects RX10 yX10_shows yX10_shows ∈ twl := twl_of 441 rfl rfl
set_option maxRecDepth 20000 in
theorem imX10_laid : Cond.instanceMethod yX10_laid ∈ twl := twl_of 444 rfl rfl
set_option maxRecDepth 20000 in
theorem slX10_laid : Cond.selects RX10 yX10_laid yX10_laid ∈ twl := twl_of 445 rfl rfl
set_option maxRecDepth 20000 in
theorem imX0_isFull : Cond.instanceMethod yX0_isFull ∈ twl := twl_of 448 rfl rfl
set_option maxRecDepth 20000 in
theorem slX0_isFull : Cond.selects RX0 yX0_isFull yX0_isFull ∈ twl := twl_of 449 rfl rfl
set_option maxRecDepth 20000 in
theorem imX0_act : Cond.instanceMethod yX0_act ∈ twl := twl_of 452 rfl rfl
set_option maxRecDepth 20000 in
theorem slX0_act : Cond.selects RX0 yX0_act yX0_act ∈ twl := twl_of 453 rfl rfl
set_option maxRecDepth 20000 in
theorem imX0_perform : Cond.instanceMethod yX0_perform ∈ twl := twl_of 458 rfl rfl
set_option maxRecDepth 20000 in
theorem slX0_perform : Cond.selects RX0 yX0_perform yX0_perform ∈ twl := twl_of 9 rfl rfl
set_option maxRecDepth 20000 in
theorem imX0_isTaken : Cond.instanceMethod yX0_isTaken ∈ twl := twl_of 461 rfl rfl
set_option maxRecDepth 20000 in
theorem slX0_isTaken : Cond.selects RX0 yX0_isTaken yX0_isTaken ∈ twl := twl_of 462 rfl rfl
set_option maxRecDepth 20000 in
theorem imX10_lift : Cond.instanceMethod yX10_lift ∈ twl := twl_of 465 rfl rfl
set_option maxRecDepth 20000 in
theorem slX10_lift : Cond.selects RX10 yX10_lift yX10_lift ∈ twl := twl_of 466 rfl rfl
set_option maxRecDepth 20000 in
theorem imX0_lastRod : Cond.instanceMethod yX0_lastRod ∈ twl := twl_of 469 rfl rfl
set_option maxRecDepth 20000 in
theorem slX0_lastRod : Cond.selects RX0 yX0_lastRod yX0_lastRod ∈ twl := twl_of 470 rfl rfl
set_option maxRecDepth 20000 in
theorem imX10_change : Cond.instanceMethod yX10_change ∈ twl := twl_of 473 rfl rfl
set_option maxRecDepth 20000 in
theorem slX10_change : Cond.selects RX10 yX10_change yX10_change ∈ twl := twl_of 474 rfl rfl
set_option maxRecDepth 20000 in
theorem imX10_over : Cond.instanceMethod yX10_over ∈ twl := twl_of 478 rfl rfl
set_option maxRecDepth 20000 in
theorem slX10_over : Cond.selects RX10 yX10_over yX10_over ∈ twl := twl_of 479 rfl rfl
set_option maxRecDepth 20000 in
theorem imX10_undo : Cond.instanceMethod yX10_undo ∈ twl := twl_of 482 rfl rfl
set_option maxRecDepth 20000 in
theorem slX10_undo : Cond.selects RX10 yX10_undo yX10_undo ∈ twl := twl_of 483 rfl rfl
set_option maxRecDepth 20000 in
theorem imX0_takeBack : Cond.instanceMethod yX0_takeBack ∈ twl := twl_of 486 rfl rfl
set_option maxRecDepth 20000 in
theorem slX0_takeBack : Cond.selects RX0 yX0_takeBack yX0_takeBack ∈ twl := twl_of 487 rfl rfl
set_option maxRecDepth 20000 in
theorem stX0_backOf : Cond.static yX0_backOf ∈ twl := twl_of 490 rfl rfl
set_option maxRecDepth 20000 in
theorem imX10_keep : Cond.instanceMethod yX10_keep ∈ twl := twl_of 493 rfl rfl
set_option maxRecDepth 20000 in
theorem slX10_keep : Cond.selects RX10 yX10_keep yX10_keep ∈ twl := twl_of 494 rfl rfl
set_option maxRecDepth 20000 in
theorem stX10_isKeepingPlace : Cond.static yX10_isKeepingPlace ∈ twl := twl_of 497 rfl rfl
set_option maxRecDepth 20000 in
theorem imX0_become : Cond.instanceMethod yX0_become ∈ twl := twl_of 500 rfl rfl
set_option maxRecDepth 20000 in
theorem slX0_become : Cond.selects RX0 yX0_become yX0_become ∈ twl := twl_of 501 rfl rfl
set_option maxRecDepth 20000 in
theorem imX10_on : Cond.instanceMethod yX10_on ∈ twl := twl_of 505 rfl rfl
set_option maxRecDepth 20000 in
theorem slX10_on : Cond.selects RX10 yX10_on yX10_on ∈ twl := twl_of 506 rfl rfl
set_option maxRecDepth 20000 in
theorem imX10_reads : Cond.instanceMethod yX10_reads ∈ twl := twl_of 509 rfl rfl
set_option maxRecDepth 20000 in
theorem slX10_reads : Cond.selects RX10 yX10_reads yX10_reads ∈ twl := twl_of 510 rfl rfl
set_option maxRecDepth 20000 in
theorem imX10_rightBy : Cond.instanceMethod yX10_rightBy ∈ twl := twl_of 514 rfl rfl
set_option maxRecDepth 20000 in
theorem slX10_rightBy : Cond.selects RX10 yX10_rightBy yX10_rightBy ∈ twl := twl_of 10 rfl rfl
set_option maxRecDepth 20000 in
theorem imX10_readOff : Cond.instanceMethod yX10_readOff ∈ twl := twl_of 518 rfl rfl
set_option maxRecDepth 20000 in
theorem slX10_readOff : Cond.selects RX10 yX10_readOff yX10_readOff ∈ twl := twl_of 11 rfl rfl
set_option maxRecDepth 20000 in
theorem imX10_readWith : Cond.instanceMethod yX10_readWith ∈ twl := twl_of 522 rfl rfl
set_option maxRecDepth 20000 in
theorem slX10_readWith : Cond.selects RX10 yX10_readWith yX10_readWith ∈ twl := twl_of 12 rfl rfl
set_option maxRecDepth 20000 in
theorem imX10_wrong : Cond.instanceMethod yX10_wrong ∈ twl := twl_of 525 rfl rfl
set_option maxRecDepth 20000 in
theorem slX10_wrong : Cond.selects RX10 yX10_wrong yX10_wrong ∈ twl := twl_of 526 rfl rfl
set_option maxRecDepth 20000 in
theorem imX10_carries : Cond.instanceMethod yX10_carries ∈ twl := twl_of 529 rfl rfl
set_option maxRecDepth 20000 in
theorem slX10_carries : Cond.selects RX10 yX10_carries yX10_carries ∈ twl := twl_of 530 rfl rfl
set_option maxRecDepth 20000 in
theorem imX10_makes : Cond.instanceMethod yX10_makes ∈ twl := twl_of 536 rfl rfl
set_option maxRecDepth 20000 in
theorem slX10_makes : Cond.selects RX10 yX10_makes yX10_makes ∈ twl := twl_of 537 rfl rfl
set_option maxRecDepth 20000 in
theorem imX10_lookAt : Cond.instanceMethod yX10_lookAt ∈ twl := twl_of 542 rfl rfl
set_option maxRecDepth 20000 in
theorem slX10_lookAt : Cond.selects RX10 yX10_lookAt yX10_lookAt ∈ twl := twl_of 13 rfl rfl
set_option maxRecDepth 20000 in
theorem imX5_nearest : Cond.instanceMethod yX5_nearest ∈ twl := twl_of 545 rfl rfl
set_option maxRecDepth 20000 in
theorem slX5_nearest : Cond.selects RX5 yX5_nearest yX5_nearest ∈ twl := twl_of 546 rfl rfl
set_option maxRecDepth 20000 in
theorem imX5_extend : Cond.instanceMethod yX5_extend ∈ twl := twl_of 553 rfl rfl
set_option maxRecDepth 20000 in
theorem slX5_extend : Cond.selects RX5 yX5_extend yX5_extend ∈ twl := twl_of 14 rfl rfl
set_option maxRecDepth 20000 in
theorem imX5_leastGap : Cond.instanceMethod yX5_leastGap ∈ twl := twl_of 557 rfl rfl
set_option maxRecDepth 20000 in
theorem slX5_leastGap : Cond.selects RX5 yX5_leastGap yX5_leastGap ∈ twl := twl_of 15 rfl rfl
set_option maxRecDepth 20000 in
theorem imX7_take : Cond.instanceMethod yX7_take ∈ twl := twl_of 564 rfl rfl
set_option maxRecDepth 20000 in
theorem slX7_take : Cond.selects RX7 yX7_take yX7_take ∈ twl := twl_of 565 rfl rfl
set_option maxRecDepth 20000 in
theorem imX10_most : Cond.instanceMethod yX10_most ∈ twl := twl_of 569 rfl rfl
set_option maxRecDepth 20000 in
theorem slX10_most : Cond.selects RX10 yX10_most yX10_most ∈ twl := twl_of 570 rfl rfl
set_option maxRecDepth 20000 in
theorem imX10_near : Cond.instanceMethod yX10_near ∈ twl := twl_of 574 rfl rfl
set_option maxRecDepth 20000 in
theorem slX10_near : Cond.selects RX10 yX10_near yX10_near ∈ twl := twl_of 575 rfl rfl
set_option maxRecDepth 20000 in
theorem imX10_digits : Cond.instanceMethod yX10_digits ∈ twl := twl_of 579 rfl rfl
set_option maxRecDepth 20000 in
theorem slX10_digits : Cond.selects RX10 yX10_digits yX10_digits ∈ twl := twl_of 580 rfl rfl
set_option maxRecDepth 20000 in
theorem stX10_unfitPairs : Cond.static yX10_unfitPairs ∈ twl := twl_of 583 rfl rfl
set_option maxRecDepth 20000 in
theorem stX10_fits : Cond.static yX10_fits ∈ twl := twl_of 587 rfl rfl
set_option maxRecDepth 20000 in
theorem imX10_kinds : Cond.instanceMethod yX10_kinds ∈ twl := twl_of 590 rfl rfl
set_option maxRecDepth 20000 in
theorem slX10_kinds : Cond.selects RX10 yX10_kinds yX10_kinds ∈ twl := twl_of 591 rfl rfl
set_option maxRecDepth 20000 in
theorem imX10_fittingKinds : Cond.instanceMethod yX10_fittingKinds ∈ twl := twl_of 595 rfl rfl
set_option maxRecDepth 20000 in
theorem slX10_fittingKinds : Cond.selects RX10 yX10_fittingKinds yX10_fittingKinds ∈ twl := twl_of 16 rfl rfl
set_option maxRecDepth 20000 in
theorem imX10_test : Cond.instanceMethod yX10_test ∈ twl := twl_of 598 rfl rfl
set_option maxRecDepth 20000 in
theorem slX10_test : Cond.selects RX10 yX10_test yX10_test ∈ twl := twl_of 599 rfl rfl
set_option maxRecDepth 20000 in
theorem imX10_greatestPart : Cond.instanceMethod yX10_greatestPart ∈ twl := twl_of 603 rfl rfl
set_option maxRecDepth 20000 in
theorem slX10_greatestPart : Cond.selects RX10 yX10_greatestPart yX10_greatestPart ∈ twl := twl_of 17 rfl rfl
set_option maxRecDepth 20000 in
theorem imX10_other : Cond.instanceMethod yX10_other ∈ twl := twl_of 606 rfl rfl
set_option maxRecDepth 20000 in
theorem slX10_other : Cond.selects RX10 yX10_other yX10_other ∈ twl := twl_of 607 rfl rfl
set_option maxRecDepth 20000 in
theorem imX10_wasReadWith : Cond.instanceMethod yX10_wasReadWith ∈ twl := twl_of 611 rfl rfl
set_option maxRecDepth 20000 in
theorem slX10_wasReadWith : Cond.selects RX10 yX10_wasReadWith yX10_wasReadWith ∈ twl := twl_of 18 rfl rfl
set_option maxRecDepth 20000 in
theorem imX10_duel : Cond.instanceMethod yX10_duel ∈ twl := twl_of 614 rfl rfl
set_option maxRecDepth 20000 in
theorem slX10_duel : Cond.selects RX10 yX10_duel yX10_duel ∈ twl := twl_of 615 rfl rfl
set_option maxRecDepth 20000 in
theorem imX0_bits : Cond.instanceMethod yX0_bits ∈ twl := twl_of 618 rfl rfl
set_option maxRecDepth 20000 in
theorem slX0_bits : Cond.selects RX0 yX0_bits yX0_bits ∈ twl := twl_of 619 rfl rfl
set_option maxRecDepth 20000 in
theorem imX5_playedOut : Cond.instanceMethod yX5_playedOut ∈ twl := twl_of 623 rfl rfl
set_option maxRecDepth 20000 in
theorem slX5_playedOut : Cond.selects RX5 yX5_playedOut yX5_playedOut ∈ twl := twl_of 19 rfl rfl
set_option maxRecDepth 20000 in
theorem imX10_odds : Cond.instanceMethod yX10_odds ∈ twl := twl_of 627 rfl rfl
set_option maxRecDepth 20000 in
theorem slX10_odds : Cond.selects RX10 yX10_odds yX10_odds ∈ twl := twl_of 628 rfl rfl
set_option maxRecDepth 20000 in
theorem stX10_isTwelfths : Cond.static yX10_isTwelfths ∈ twl := twl_of 631 rfl rfl
set_option maxRecDepth 20000 in
theorem imX10_readOfLeft : Cond.instanceMethod yX10_readOfLeft ∈ twl := twl_of 635 rfl rfl
set_option maxRecDepth 20000 in
theorem slX10_readOfLeft : Cond.selects RX10 yX10_readOfLeft yX10_readOfLeft ∈ twl := twl_of 20 rfl rfl
set_option maxRecDepth 20000 in
theorem imX10_weightOfLeft : Cond.instanceMethod yX10_weightOfLeft ∈ twl := twl_of 639 rfl rfl
set_option maxRecDepth 20000 in
theorem slX10_weightOfLeft : Cond.selects RX10 yX10_weightOfLeft yX10_weightOfLeft ∈ twl := twl_of 21 rfl rfl
set_option maxRecDepth 20000 in
theorem imX10_tell : Cond.instanceMethod yX10_tell ∈ twl := twl_of 644 rfl rfl
set_option maxRecDepth 20000 in
theorem slX10_tell : Cond.selects RX10 yX10_tell yX10_tell ∈ twl := twl_of 22 rfl rfl
set_option maxRecDepth 20000 in
theorem stX10_greatestShared : Cond.static yX10_greatestShared ∈ twl := twl_of 647 rfl rfl
set_option maxRecDepth 20000 in
theorem imX10_mid : Cond.instanceMethod yX10_mid ∈ twl := twl_of 650 rfl rfl
set_option maxRecDepth 20000 in
theorem slX10_mid : Cond.selects RX10 yX10_mid yX10_mid ∈ twl := twl_of 651 rfl rfl
set_option maxRecDepth 20000 in
theorem imX10_lots : Cond.instanceMethod yX10_lots ∈ twl := twl_of 654 rfl rfl
set_option maxRecDepth 20000 in
theorem slX10_lots : Cond.selects RX10 yX10_lots yX10_lots ∈ twl := twl_of 655 rfl rfl
set_option maxRecDepth 20000 in
theorem imX10_deedByLot : Cond.instanceMethod yX10_deedByLot ∈ twl := twl_of 661 rfl rfl
set_option maxRecDepth 20000 in
theorem slX10_deedByLot : Cond.selects RX10 yX10_deedByLot yX10_deedByLot ∈ twl := twl_of 23 rfl rfl
set_option maxRecDepth 20000 in
theorem imX10_asked : Cond.instanceMethod yX10_asked ∈ twl := twl_of 666 rfl rfl
set_option maxRecDepth 20000 in
theorem slX10_asked : Cond.selects RX10 yX10_asked yX10_asked ∈ twl := twl_of 667 rfl rfl
set_option maxRecDepth 20000 in
theorem imX10_upper : Cond.instanceMethod yX10_upper ∈ twl := twl_of 670 rfl rfl
set_option maxRecDepth 20000 in
theorem slX10_upper : Cond.selects RX10 yX10_upper yX10_upper ∈ twl := twl_of 671 rfl rfl
set_option maxRecDepth 20000 in
theorem imX10_lower : Cond.instanceMethod yX10_lower ∈ twl := twl_of 674 rfl rfl
set_option maxRecDepth 20000 in
theorem slX10_lower : Cond.selects RX10 yX10_lower yX10_lower ∈ twl := twl_of 675 rfl rfl
set_option maxRecDepth 20000 in
theorem imX10_count : Cond.instanceMethod yX10_count ∈ twl := twl_of 678 rfl rfl
set_option maxRecDepth 20000 in
theorem slX10_count : Cond.selects RX10 yX10_count yX10_count ∈ twl := twl_of 679 rfl rfl
set_option maxRecDepth 20000 in
theorem stX10_howManyThere : Cond.static yX10_howManyThere ∈ twl := twl_of 682 rfl rfl
set_option maxRecDepth 20000 in
theorem imX10_howManyKept : Cond.instanceMethod yX10_howManyKept ∈ twl := twl_of 686 rfl rfl
set_option maxRecDepth 20000 in
theorem slX10_howManyKept : Cond.selects RX10 yX10_howManyKept yX10_howManyKept ∈ twl := twl_of 24 rfl rfl
set_option maxRecDepth 20000 in
theorem imX10_howManyOf : Cond.instanceMethod yX10_howManyOf ∈ twl := twl_of 690 rfl rfl
set_option maxRecDepth 20000 in
theorem slX10_howManyOf : Cond.selects RX10 yX10_howManyOf yX10_howManyOf ∈ twl := twl_of 25 rfl rfl
set_option maxRecDepth 20000 in
theorem imX10_finding : Cond.instanceMethod yX10_finding ∈ twl := twl_of 693 rfl rfl
set_option maxRecDepth 20000 in
theorem slX10_finding : Cond.selects RX10 yX10_finding yX10_finding ∈ twl := twl_of 694 rfl rfl
set_option maxRecDepth 20000 in
theorem imX10_findings : Cond.instanceMethod yX10_findings ∈ twl := twl_of 697 rfl rfl
set_option maxRecDepth 20000 in
theorem slX10_findings : Cond.selects RX10 yX10_findings yX10_findings ∈ twl := twl_of 698 rfl rfl
set_option maxRecDepth 20000 in
theorem imX10_digest : Cond.instanceMethod yX10_digest ∈ twl := twl_of 701 rfl rfl
set_option maxRecDepth 20000 in
theorem slX10_digest : Cond.selects RX10 yX10_digest yX10_digest ∈ twl := twl_of 702 rfl rfl
set_option maxRecDepth 20000 in
theorem stX10_withStrips : Cond.static yX10_withStrips ∈ twl := twl_of 708 rfl rfl
set_option maxRecDepth 20000 in
theorem imX11_init : Cond.instanceMethod yX11_init ∈ twl := twl_of 713 rfl rfl
set_option maxRecDepth 20000 in
theorem imX11_row : Cond.instanceMethod yX11_row ∈ twl := twl_of 790 rfl rfl
set_option maxRecDepth 20000 in
theorem slX11_row : Cond.selects RX11 yX11_row yX11_row ∈ twl := twl_of 791 rfl rfl
set_option maxRecDepth 20000 in
theorem stX11_isRow : Cond.static yX11_isRow ∈ twl := twl_of 794 rfl rfl
set_option maxRecDepth 20000 in
theorem stX11_in : Cond.static yX11_in ∈ twl := twl_of 798 rfl rfl
set_option maxRecDepth 20000 in
theorem imX11_finds : Cond.instanceMethod yX11_finds ∈ twl := twl_of 802 rfl rfl
set_option maxRecDepth 20000 in
theorem slX11_finds : Cond.selects RX11 yX11_finds yX11_finds ∈ twl := twl_of 26 rfl rfl
set_option maxRecDepth 20000 in
theorem imX11_lay : Cond.instanceMethod yX11_lay ∈ twl := twl_of 805 rfl rfl
set_option maxRecDepth 20000 in
theorem slX11_lay : Cond.selects RX11 yX11_lay yX11_lay ∈ twl := twl_of 806 rfl rfl
set_option maxRecDepth 20000 in
theorem imX11_tells : Cond.instanceMethod yX11_tells ∈ twl := twl_of 810 rfl rfl
set_option maxRecDepth 20000 in
theorem slX11_tells : Cond.selects RX11 yX11_tells yX11_tells ∈ twl := twl_of 27 rfl rfl
set_option maxRecDepth 20000 in
theorem imX11_at : Cond.instanceMethod yX11_at ∈ twl := twl_of 813 rfl rfl
set_option maxRecDepth 20000 in
theorem slX11_at : Cond.selects RX11 yX11_at yX11_at ∈ twl := twl_of 814 rfl rfl
set_option maxRecDepth 20000 in
theorem imX11_tear : Cond.instanceMethod yX11_tear ∈ twl := twl_of 817 rfl rfl
set_option maxRecDepth 20000 in
theorem slX11_tear : Cond.selects RX11 yX11_tear yX11_tear ∈ twl := twl_of 818 rfl rfl
set_option maxRecDepth 20000 in
theorem imX11_copy : Cond.instanceMethod yX11_copy ∈ twl := twl_of 821 rfl rfl
set_option maxRecDepth 20000 in
theorem slX11_copy : Cond.selects RX11 yX11_copy yX11_copy ∈ twl := twl_of 822 rfl rfl
set_option maxRecDepth 20000 in
theorem imX11_mean : Cond.instanceMethod yX11_mean ∈ twl := twl_of 825 rfl rfl
set_option maxRecDepth 20000 in
theorem slX11_mean : Cond.selects RX11 yX11_mean yX11_mean ∈ twl := twl_of 826 rfl rfl
set_option maxRecDepth 20000 in
theorem imX11_text : Cond.instanceMethod yX11_text ∈ twl := twl_of 829 rfl rfl
set_option maxRecDepth 20000 in
theorem slX11_text : Cond.selects RX11 yX11_text yX11_text ∈ twl := twl_of 830 rfl rfl
set_option maxRecDepth 20000 in
theorem stX11_isText : Cond.static yX11_isText ∈ twl := twl_of 833 rfl rfl
set_option maxRecDepth 20000 in
theorem imX11_put : Cond.instanceMethod yX11_put ∈ twl := twl_of 837 rfl rfl
set_option maxRecDepth 20000 in
theorem slX11_put : Cond.selects RX11 yX11_put yX11_put ∈ twl := twl_of 838 rfl rfl
set_option maxRecDepth 20000 in
theorem imX11_fault : Cond.instanceMethod yX11_fault ∈ twl := twl_of 841 rfl rfl
set_option maxRecDepth 20000 in
theorem slX11_fault : Cond.selects RX11 yX11_fault yX11_fault ∈ twl := twl_of 842 rfl rfl
set_option maxRecDepth 20000 in
theorem imX11_faultOf : Cond.instanceMethod yX11_faultOf ∈ twl := twl_of 846 rfl rfl
set_option maxRecDepth 20000 in
theorem slX11_faultOf : Cond.selects RX11 yX11_faultOf yX11_faultOf ∈ twl := twl_of 28 rfl rfl
set_option maxRecDepth 20000 in
theorem imX11_here : Cond.instanceMethod yX11_here ∈ twl := twl_of 850 rfl rfl
set_option maxRecDepth 20000 in
theorem slX11_here : Cond.selects RX11 yX11_here yX11_here ∈ twl := twl_of 29 rfl rfl
set_option maxRecDepth 20000 in
theorem imX11_takesRod : Cond.instanceMethod yX11_takesRod ∈ twl := twl_of 854 rfl rfl
set_option maxRecDepth 20000 in
theorem slX11_takesRod : Cond.selects RX11 yX11_takesRod yX11_takesRod ∈ twl := twl_of 30 rfl rfl
set_option maxRecDepth 20000 in
theorem stX11_kindOf : Cond.static yX11_kindOf ∈ twl := twl_of 857 rfl rfl
set_option maxRecDepth 20000 in
theorem imX11_box : Cond.instanceMethod yX11_box ∈ twl := twl_of 861 rfl rfl
set_option maxRecDepth 20000 in
theorem slX11_box : Cond.selects RX11 yX11_box yX11_box ∈ twl := twl_of 862 rfl rfl
set_option maxRecDepth 20000 in
theorem imX11_rod : Cond.instanceMethod yX11_rod ∈ twl := twl_of 865 rfl rfl
set_option maxRecDepth 20000 in
theorem slX11_rod : Cond.selects RX11 yX11_rod yX11_rod ∈ twl := twl_of 866 rfl rfl
set_option maxRecDepth 20000 in
theorem imX11_isRod : Cond.instanceMethod yX11_isRod ∈ twl := twl_of 870 rfl rfl
set_option maxRecDepth 20000 in
theorem slX11_isRod : Cond.selects RX11 yX11_isRod yX11_isRod ∈ twl := twl_of 31 rfl rfl
set_option maxRecDepth 20000 in
theorem imX11_rodOf : Cond.instanceMethod yX11_rodOf ∈ twl := twl_of 875 rfl rfl
set_option maxRecDepth 20000 in
theorem slX11_rodOf : Cond.selects RX11 yX11_rodOf yX11_rodOf ∈ twl := twl_of 32 rfl rfl
set_option maxRecDepth 20000 in
theorem imX11_digitOf : Cond.instanceMethod yX11_digitOf ∈ twl := twl_of 879 rfl rfl
set_option maxRecDepth 20000 in
theorem slX11_digitOf : Cond.selects RX11 yX11_digitOf yX11_digitOf ∈ twl := twl_of 33 rfl rfl
set_option maxRecDepth 20000 in
theorem stX11_has : Cond.static yX11_has ∈ twl := twl_of 882 rfl rfl
set_option maxRecDepth 20000 in
theorem imX11_placeOf : Cond.instanceMethod yX11_placeOf ∈ twl := twl_of 886 rfl rfl
set_option maxRecDepth 20000 in
theorem slX11_placeOf : Cond.selects RX11 yX11_placeOf yX11_placeOf ∈ twl := twl_of 34 rfl rfl
set_option maxRecDepth 20000 in
theorem imX11_mark : Cond.instanceMethod yX11_mark ∈ twl := twl_of 889 rfl rfl
set_option maxRecDepth 20000 in
theorem slX11_mark : Cond.selects RX11 yX11_mark yX11_mark ∈ twl := twl_of 890 rfl rfl
set_option maxRecDepth 20000 in
theorem stX11_isA : Cond.static yX11_isA ∈ twl := twl_of 893 rfl rfl
set_option maxRecDepth 20000 in
theorem imX11_linesAgainst : Cond.instanceMethod yX11_linesAgainst ∈ twl := twl_of 897 rfl rfl
set_option maxRecDepth 20000 in
theorem slX11_linesAgainst : Cond.selects RX11 yX11_linesAgainst yX11_linesAgainst ∈ twl := twl_of 35 rfl rfl
set_option maxRecDepth 20000 in
theorem imX11_showsOf : Cond.instanceMethod yX11_showsOf ∈ twl := twl_of 901 rfl rfl
set_option maxRecDepth 20000 in
theorem slX11_showsOf : Cond.selects RX11 yX11_showsOf yX11_showsOf ∈ twl := twl_of 36 rfl rfl
set_option maxRecDepth 20000 in
theorem stX11_showsBy : Cond.static yX11_showsBy ∈ twl := twl_of 904 rfl rfl
set_option maxRecDepth 20000 in
theorem stX11_worn : Cond.static yX11_worn ∈ twl := twl_of 907 rfl rfl
set_option maxRecDepth 20000 in
theorem imX11_shows : Cond.instanceMethod yX11_shows ∈ twl := twl_of 910 rfl rfl
set_option maxRecDepth 20000 in
theorem slX11_shows : Cond.selects RX11 yX11_shows yX11_shows ∈ twl := twl_of 911 rfl rfl
set_option maxRecDepth 20000 in
theorem stX11_isLine : Cond.static yX11_isLine ∈ twl := twl_of 914 rfl rfl
set_option maxRecDepth 20000 in
theorem imX11_laid : Cond.instanceMethod yX11_laid ∈ twl := twl_of 917 rfl rfl
set_option maxRecDepth 20000 in
theorem slX11_laid : Cond.selects RX11 yX11_laid yX11_laid ∈ twl := twl_of 918 rfl rfl
set_option maxRecDepth 20000 in
theorem imX11_minds : Cond.instanceMethod yX11_minds ∈ twl := twl_of 922 rfl rfl
set_option maxRecDepth 20000 in
theorem slX11_minds : Cond.selects RX11 yX11_minds yX11_minds ∈ twl := twl_of 37 rfl rfl
set_option maxRecDepth 20000 in
theorem imX11_lays : Cond.instanceMethod yX11_lays ∈ twl := twl_of 926 rfl rfl
set_option maxRecDepth 20000 in
theorem slX11_lays : Cond.selects RX11 yX11_lays yX11_lays ∈ twl := twl_of 38 rfl rfl
set_option maxRecDepth 20000 in
theorem imX11_lift : Cond.instanceMethod yX11_lift ∈ twl := twl_of 929 rfl rfl
set_option maxRecDepth 20000 in
theorem slX11_lift : Cond.selects RX11 yX11_lift yX11_lift ∈ twl := twl_of 930 rfl rfl
set_option maxRecDepth 20000 in
theorem imX11_lifts : Cond.instanceMethod yX11_lifts ∈ twl := twl_of 934 rfl rfl
set_option maxRecDepth 20000 in
theorem slX11_lifts : Cond.selects RX11 yX11_lifts yX11_lifts ∈ twl := twl_of 39 rfl rfl
set_option maxRecDepth 20000 in
theorem imX11_change : Cond.instanceMethod yX11_change ∈ twl := twl_of 937 rfl rfl
set_option maxRecDepth 20000 in
theorem slX11_change : Cond.selects RX11 yX11_change yX11_change ∈ twl := twl_of 938 rfl rfl
set_option maxRecDepth 20000 in
theorem imX11_over : Cond.instanceMethod yX11_over ∈ twl := twl_of 941 rfl rfl
set_option maxRecDepth 20000 in
theorem slX11_over : Cond.selects RX11 yX11_over yX11_over ∈ twl := twl_of 942 rfl rfl
set_option maxRecDepth 20000 in
theorem imX11_undo : Cond.instanceMethod yX11_undo ∈ twl := twl_of 945 rfl rfl
set_option maxRecDepth 20000 in
theorem slX11_undo : Cond.selects RX11 yX11_undo yX11_undo ∈ twl := twl_of 946 rfl rfl
set_option maxRecDepth 20000 in
theorem imX11_keep : Cond.instanceMethod yX11_keep ∈ twl := twl_of 949 rfl rfl
set_option maxRecDepth 20000 in
theorem slX11_keep : Cond.selects RX11 yX11_keep yX11_keep ∈ twl := twl_of 950 rfl rfl
set_option maxRecDepth 20000 in
theorem imX11_bring : Cond.instanceMethod yX11_bring ∈ twl := twl_of 955 rfl rfl
set_option maxRecDepth 20000 in
theorem slX11_bring : Cond.selects RX11 yX11_bring yX11_bring ∈ twl := twl_of 40 rfl rfl
set_option maxRecDepth 20000 in
theorem imX11_on : Cond.instanceMethod yX11_on ∈ twl := twl_of 958 rfl rfl
set_option maxRecDepth 20000 in
theorem slX11_on : Cond.selects RX11 yX11_on yX11_on ∈ twl := twl_of 959 rfl rfl
set_option maxRecDepth 20000 in
theorem imX11_reads : Cond.instanceMethod yX11_reads ∈ twl := twl_of 962 rfl rfl
set_option maxRecDepth 20000 in
theorem slX11_reads : Cond.selects RX11 yX11_reads yX11_reads ∈ twl := twl_of 963 rfl rfl
set_option maxRecDepth 20000 in
theorem imX11_rightBy : Cond.instanceMethod yX11_rightBy ∈ twl := twl_of 967 rfl rfl
set_option maxRecDepth 20000 in
theorem slX11_rightBy : Cond.selects RX11 yX11_rightBy yX11_rightBy ∈ twl := twl_of 41 rfl rfl
set_option maxRecDepth 20000 in
theorem imX11_readBy : Cond.instanceMethod yX11_readBy ∈ twl := twl_of 971 rfl rfl
set_option maxRecDepth 20000 in
theorem slX11_readBy : Cond.selects RX11 yX11_readBy yX11_readBy ∈ twl := twl_of 42 rfl rfl
set_option maxRecDepth 20000 in
theorem imX11_wrong : Cond.instanceMethod yX11_wrong ∈ twl := twl_of 974 rfl rfl
set_option maxRecDepth 20000 in
theorem slX11_wrong : Cond.selects RX11 yX11_wrong yX11_wrong ∈ twl := twl_of 975 rfl rfl
set_option maxRecDepth 20000 in
theorem imX11_carries : Cond.instanceMethod yX11_carries ∈ twl := twl_of 978 rfl rfl
set_option maxRecDepth 20000 in
theorem slX11_carries : Cond.selects RX11 yX11_carries yX11_carries ∈ twl := twl_of 979 rfl rfl
set_option maxRecDepth 20000 in
theorem imX11_makes : Cond.instanceMethod yX11_makes ∈ twl := twl_of 982 rfl rfl
set_option maxRecDepth 20000 in
theorem slX11_makes : Cond.selects RX11 yX11_makes yX11_makes ∈ twl := twl_of 983 rfl rfl
set_option maxRecDepth 20000 in
theorem imX11_goesNext : Cond.instanceMethod yX11_goesNext ∈ twl := twl_of 988 rfl rfl
set_option maxRecDepth 20000 in
theorem slX11_goesNext : Cond.selects RX11 yX11_goesNext yX11_goesNext ∈ twl := twl_of 43 rfl rfl
set_option maxRecDepth 20000 in
theorem imX11_keeps : Cond.instanceMethod yX11_keeps ∈ twl := twl_of 992 rfl rfl
set_option maxRecDepth 20000 in
theorem slX11_keeps : Cond.selects RX11 yX11_keeps yX11_keeps ∈ twl := twl_of 44 rfl rfl
set_option maxRecDepth 20000 in
theorem imX11_laysBest : Cond.instanceMethod yX11_laysBest ∈ twl := twl_of 996 rfl rfl
set_option maxRecDepth 20000 in
theorem slX11_laysBest : Cond.selects RX11 yX11_laysBest yX11_laysBest ∈ twl := twl_of 45 rfl rfl
set_option maxRecDepth 20000 in
theorem imX11_most : Cond.instanceMethod yX11_most ∈ twl := twl_of 999 rfl rfl
set_option maxRecDepth 20000 in
theorem slX11_most : Cond.selects RX11 yX11_most yX11_most ∈ twl := twl_of 1000 rfl rfl
set_option maxRecDepth 20000 in
theorem imX11_near : Cond.instanceMethod yX11_near ∈ twl := twl_of 1003 rfl rfl
set_option maxRecDepth 20000 in
theorem slX11_near : Cond.selects RX11 yX11_near yX11_near ∈ twl := twl_of 1004 rfl rfl
set_option maxRecDepth 20000 in
theorem imX11_digits : Cond.instanceMethod yX11_digits ∈ twl := twl_of 1009 rfl rfl
set_option maxRecDepth 20000 in
theorem slX11_digits : Cond.selects RX11 yX11_digits yX11_digits ∈ twl := twl_of 1010 rfl rfl
set_option maxRecDepth 20000 in
theorem imX11_againstPairs : Cond.instanceMethod yX11_againstPairs ∈ twl := twl_of 1014 rfl rfl
set_option maxRecDepth 20000 in
theorem slX11_againstPairs : Cond.selects RX11 yX11_againstPairs yX11_againstPairs ∈ twl := twl_of 46 rfl rfl
set_option maxRecDepth 20000 in
theorem imX11_showedSo : Cond.instanceMethod yX11_showedSo ∈ twl := twl_of 1019 rfl rfl
set_option maxRecDepth 20000 in
theorem slX11_showedSo : Cond.selects RX11 yX11_showedSo yX11_showedSo ∈ twl := twl_of 47 rfl rfl
set_option maxRecDepth 20000 in
theorem imX11_kinds : Cond.instanceMethod yX11_kinds ∈ twl := twl_of 1022 rfl rfl
set_option maxRecDepth 20000 in
theorem slX11_kinds : Cond.selects RX11 yX11_kinds yX11_kinds ∈ twl := twl_of 1023 rfl rfl
set_option maxRecDepth 20000 in
theorem imX11_kindsOf : Cond.instanceMethod yX11_kindsOf ∈ twl := twl_of 1027 rfl rfl
set_option maxRecDepth 20000 in
theorem slX11_kindsOf : Cond.selects RX11 yX11_kindsOf yX11_kindsOf ∈ twl := twl_of 48 rfl rfl
set_option maxRecDepth 20000 in
theorem imX11_test : Cond.instanceMethod yX11_test ∈ twl := twl_of 1030 rfl rfl
set_option maxRecDepth 20000 in
theorem slX11_test : Cond.selects RX11 yX11_test yX11_test ∈ twl := twl_of 1031 rfl rfl
set_option maxRecDepth 20000 in
theorem imX11_other : Cond.instanceMethod yX11_other ∈ twl := twl_of 1034 rfl rfl
set_option maxRecDepth 20000 in
theorem slX11_other : Cond.selects RX11 yX11_other yX11_other ∈ twl := twl_of 1035 rfl rfl
set_option maxRecDepth 20000 in
theorem imX11_readWith : Cond.instanceMethod yX11_readWith ∈ twl := twl_of 1039 rfl rfl
set_option maxRecDepth 20000 in
theorem slX11_readWith : Cond.selects RX11 yX11_readWith yX11_readWith ∈ twl := twl_of 49 rfl rfl
set_option maxRecDepth 20000 in
theorem imX11_duel : Cond.instanceMethod yX11_duel ∈ twl := twl_of 1042 rfl rfl
set_option maxRecDepth 20000 in
theorem slX11_duel : Cond.selects RX11 yX11_duel yX11_duel ∈ twl := twl_of 1043 rfl rfl
set_option maxRecDepth 20000 in
theorem imX11_isLaidOr : Cond.instanceMethod yX11_isLaidOr ∈ twl := twl_of 1047 rfl rfl
set_option maxRecDepth 20000 in
theorem slX11_isLaidOr : Cond.selects RX11 yX11_isLaidOr yX11_isLaidOr ∈ twl := twl_of 50 rfl rfl
set_option maxRecDepth 20000 in
theorem imX11_odds : Cond.instanceMethod yX11_odds ∈ twl := twl_of 1050 rfl rfl
set_option maxRecDepth 20000 in
theorem slX11_odds : Cond.selects RX11 yX11_odds yX11_odds ∈ twl := twl_of 1051 rfl rfl
set_option maxRecDepth 20000 in
theorem imX11_chance : Cond.instanceMethod yX11_chance ∈ twl := twl_of 1055 rfl rfl
set_option maxRecDepth 20000 in
theorem slX11_chance : Cond.selects RX11 yX11_chance yX11_chance ∈ twl := twl_of 51 rfl rfl
set_option maxRecDepth 20000 in
theorem imX11_readWithout : Cond.instanceMethod yX11_readWithout ∈ twl := twl_of 1060 rfl rfl
set_option maxRecDepth 20000 in
theorem slX11_readWithout : Cond.selects RX11 yX11_readWithout yX11_readWithout ∈ twl := twl_of 52 rfl rfl
set_option maxRecDepth 20000 in
theorem imX11_tellsPart : Cond.instanceMethod yX11_tellsPart ∈ twl := twl_of 1064 rfl rfl
set_option maxRecDepth 20000 in
theorem slX11_tellsPart : Cond.selects RX11 yX11_tellsPart yX11_tellsPart ∈ twl := twl_of 53 rfl rfl
set_option maxRecDepth 20000 in
theorem imX11_mid : Cond.instanceMethod yX11_mid ∈ twl := twl_of 1067 rfl rfl
set_option maxRecDepth 20000 in
theorem slX11_mid : Cond.selects RX11 yX11_mid yX11_mid ∈ twl := twl_of 1068 rfl rfl
set_option maxRecDepth 20000 in
theorem imX11_lots : Cond.instanceMethod yX11_lots ∈ twl := twl_of 1071 rfl rfl
set_option maxRecDepth 20000 in
theorem slX11_lots : Cond.selects RX11 yX11_lots yX11_lots ∈ twl := twl_of 1072 rfl rfl
set_option maxRecDepth 20000 in
theorem imX11_asked : Cond.instanceMethod yX11_asked ∈ twl := twl_of 1080 rfl rfl
set_option maxRecDepth 20000 in
theorem slX11_asked : Cond.selects RX11 yX11_asked yX11_asked ∈ twl := twl_of 1081 rfl rfl
set_option maxRecDepth 20000 in
theorem imX11_upper : Cond.instanceMethod yX11_upper ∈ twl := twl_of 1084 rfl rfl
set_option maxRecDepth 20000 in
theorem slX11_upper : Cond.selects RX11 yX11_upper yX11_upper ∈ twl := twl_of 1085 rfl rfl
set_option maxRecDepth 20000 in
theorem imX11_lower : Cond.instanceMethod yX11_lower ∈ twl := twl_of 1088 rfl rfl
set_option maxRecDepth 20000 in
theorem slX11_lower : Cond.selects RX11 yX11_lower yX11_lower ∈ twl := twl_of 1089 rfl rfl
set_option maxRecDepth 20000 in
theorem imX11_count : Cond.instanceMethod yX11_count ∈ twl := twl_of 1092 rfl rfl
set_option maxRecDepth 20000 in
theorem slX11_count : Cond.selects RX11 yX11_count yX11_count ∈ twl := twl_of 1093 rfl rfl
set_option maxRecDepth 20000 in
theorem imX11_framed : Cond.instanceMethod yX11_framed ∈ twl := twl_of 1097 rfl rfl
set_option maxRecDepth 20000 in
theorem slX11_framed : Cond.selects RX11 yX11_framed yX11_framed ∈ twl := twl_of 54 rfl rfl
set_option maxRecDepth 20000 in
theorem imX11_rowsThere : Cond.instanceMethod yX11_rowsThere ∈ twl := twl_of 1101 rfl rfl
set_option maxRecDepth 20000 in
theorem slX11_rowsThere : Cond.selects RX11 yX11_rowsThere yX11_rowsThere ∈ twl := twl_of 55 rfl rfl
set_option maxRecDepth 20000 in
theorem imX11_textsThere : Cond.instanceMethod yX11_textsThere ∈ twl := twl_of 1105 rfl rfl
set_option maxRecDepth 20000 in
theorem slX11_textsThere : Cond.selects RX11 yX11_textsThere yX11_textsThere ∈ twl := twl_of 56 rfl rfl
set_option maxRecDepth 20000 in
theorem imX11_boxesKept : Cond.instanceMethod yX11_boxesKept ∈ twl := twl_of 1109 rfl rfl
set_option maxRecDepth 20000 in
theorem slX11_boxesKept : Cond.selects RX11 yX11_boxesKept yX11_boxesKept ∈ twl := twl_of 57 rfl rfl
set_option maxRecDepth 20000 in
theorem imX11_manyOf : Cond.instanceMethod yX11_manyOf ∈ twl := twl_of 1113 rfl rfl
set_option maxRecDepth 20000 in
theorem slX11_manyOf : Cond.selects RX11 yX11_manyOf yX11_manyOf ∈ twl := twl_of 58 rfl rfl
set_option maxRecDepth 20000 in
theorem imX11_finding : Cond.instanceMethod yX11_finding ∈ twl := twl_of 1116 rfl rfl
set_option maxRecDepth 20000 in
theorem slX11_finding : Cond.selects RX11 yX11_finding yX11_finding ∈ twl := twl_of 1117 rfl rfl
set_option maxRecDepth 20000 in
theorem imX11_findings : Cond.instanceMethod yX11_findings ∈ twl := twl_of 1120 rfl rfl
set_option maxRecDepth 20000 in
theorem slX11_findings : Cond.selects RX11 yX11_findings yX11_findings ∈ twl := twl_of 1121 rfl rfl
set_option maxRecDepth 20000 in
theorem imX11_digest : Cond.instanceMethod yX11_digest ∈ twl := twl_of 1124 rfl rfl
set_option maxRecDepth 20000 in
theorem slX11_digest : Cond.selects RX11 yX11_digest yX11_digest ∈ twl := twl_of 1125 rfl rfl
set_option maxRecDepth 20000 in
theorem imX11_mix : Cond.instanceMethod yX11_mix ∈ twl := twl_of 1131 rfl rfl
set_option maxRecDepth 20000 in
theorem slX11_mix : Cond.selects RX11 yX11_mix yX11_mix ∈ twl := twl_of 59 rfl rfl
set_option maxRecDepth 20000 in
theorem wkL_13 : WV RL 13 mX10_row 2 := ⟨twl_of 271 rfl rfl, imX10_row, slX10_row, izX10, kcX10_row, ⟨by decide +kernel, by decide +kernel, by decide +kernel⟩, by decide⟩
set_option maxRecDepth 20000 in
theorem wkX10_76 : WS RX10 76 mX10_isRow 1 := ⟨twl_of 275 rfl rfl, stX10_isRow, izX10, kcX10_isRow, ⟨by decide +kernel, by decide +kernel, by decide +kernel⟩, by decide⟩
set_option maxRecDepth 20000 in
theorem wkX10_80 : WV RX10 80 mX10_found 1 := ⟨twl_of 278 rfl rfl, imX10_found, slX10_found, izX10, kcX10_found, ⟨by decide +kernel, by decide +kernel, by decide +kernel⟩, by decide⟩
set_option maxRecDepth 20000 in
theorem wkX10_84 : WV RX10 84 mX7_make 2 := ⟨twl_of 282 rfl rfl, imX7_make, slX7_make, izX7, kcX7_make, ⟨by decide +kernel, by decide +kernel, by decide +kernel⟩, by decide⟩
set_option maxRecDepth 20000 in
theorem wkL_18 : WV RL 18 mX10_lay 3 := ⟨twl_of 286 rfl rfl, imX10_lay, slX10_lay, izX10, kcX10_lay, ⟨by decide +kernel, by decide +kernel, by decide +kernel⟩, by decide⟩
set_option maxRecDepth 20000 in
theorem wkX10_88 : WS RX10 88 mX10_unfitPlace 2 := ⟨twl_of 290 rfl rfl, stX10_unfitPlace, izX10, kcX10_unfitPlace, ⟨by decide +kernel, by decide +kernel, by decide +kernel⟩, by decide⟩
set_option maxRecDepth 20000 in
theorem wkX10_99 : WV RX10 99 mX7_isThere 0 := ⟨twl_of 293 rfl rfl, imX7_isThere, slX7_isThere, izX7, kcX7_isThere, ⟨by decide +kernel, by decide +kernel, by decide +kernel⟩, by decide⟩
set_option maxRecDepth 20000 in
theorem wkX10_106 : WV RX10 106 mX7_holds 2 := ⟨twl_of 297 rfl rfl, imX7_holds, slX7_holds, izX7, kcX7_holds, ⟨by decide +kernel, by decide +kernel, by decide +kernel⟩, by decide⟩
set_option maxRecDepth 20000 in
theorem wkL_23 : WV RL 23 mX10_at 2 := ⟨twl_of 301 rfl rfl, imX10_at, slX10_at, izX10, kcX10_at, ⟨by decide +kernel, by decide +kernel, by decide +kernel⟩, by decide⟩
set_option maxRecDepth 20000 in
theorem wkL_27 : WV RL 27 mX10_tear 1 := ⟨twl_of 305 rfl rfl, imX10_tear, slX10_tear, izX10, kcX10_tear, ⟨by decide +kernel, by decide +kernel, by decide +kernel⟩, by decide⟩
set_option maxRecDepth 20000 in
theorem wkL_32 : WV RL 32 mX10_copy 5 := ⟨twl_of 309 rfl rfl, imX10_copy, slX10_copy, izX10, kcX10_copy, ⟨by decide +kernel, by decide +kernel, by decide +kernel⟩, by decide⟩
set_option maxRecDepth 20000 in
theorem wkX10_110 : WCopy RX10 110 := ⟨twl_of 313 rfl rfl, twl_of 315 rfl rfl, twl_of 314 rfl rfl, twl_of 73 rfl rfl⟩
set_option maxRecDepth 20000 in
theorem wkL_37 : WV RL 37 mX10_mean 1 := ⟨twl_of 316 rfl rfl, imX10_mean, slX10_mean, izX10, kcX10_mean, ⟨by decide +kernel, by decide +kernel, by decide +kernel⟩, by decide⟩
set_option maxRecDepth 20000 in
theorem wkL_41 : WV RL 41 mX10_text 2 := ⟨twl_of 320 rfl rfl, imX10_text, slX10_text, izX10, kcX10_text, ⟨by decide +kernel, by decide +kernel, by decide +kernel⟩, by decide⟩
set_option maxRecDepth 20000 in
theorem wkX10_116 : WS RX10 116 mX10_isText 1 := ⟨twl_of 324 rfl rfl, stX10_isText, izX10, kcX10_isText, ⟨by decide +kernel, by decide +kernel, by decide +kernel⟩, by decide⟩
set_option maxRecDepth 20000 in
theorem wkL_45 : WV RL 45 mX10_put 3 := ⟨twl_of 327 rfl rfl, imX10_put, slX10_put, izX10, kcX10_put, ⟨by decide +kernel, by decide +kernel, by decide +kernel⟩, by decide⟩
set_option maxRecDepth 20000 in
theorem wkL_49 : WV RL 49 mX10_fault 1 := ⟨twl_of 331 rfl rfl, imX10_fault, slX10_fault, izX10, kcX10_fault, ⟨by decide +kernel, by decide +kernel, by decide +kernel⟩, by decide⟩
set_option maxRecDepth 20000 in
theorem wkX10_119 : WS RX10 119 mX10_firstFault 1 := ⟨twl_of 335 rfl rfl, stX10_firstFault, izX10, kcX10_firstFault, ⟨by decide +kernel, by decide +kernel, by decide +kernel⟩, by decide⟩
set_option maxRecDepth 20000 in
theorem wkX10_321 : WS RX10 321 mX10_isFigure 1 := ⟨twl_of 338 rfl rfl, stX10_isFigure, izX10, kcX10_isFigure, ⟨by decide +kernel, by decide +kernel, by decide +kernel⟩, by decide⟩
set_option maxRecDepth 20000 in
theorem wkX10_324 : WS RX10 324 mX10_kindByLetter 1 := ⟨twl_of 341 rfl rfl, stX10_kindByLetter, izX10, kcX10_kindByLetter, ⟨by decide +kernel, by decide +kernel, by decide +kernel⟩, by decide⟩
set_option maxRecDepth 20000 in
theorem wkL_53 : WV RL 53 mX10_box 1 := ⟨twl_of 346 rfl rfl, imX10_box, slX10_box, izX10, kcX10_box, ⟨by decide +kernel, by decide +kernel, by decide +kernel⟩, by decide⟩
set_option maxRecDepth 20000 in
theorem wkX10_123 : WV RX10 123 mX10_fillBox 1 := ⟨twl_of 350 rfl rfl, imX10_fillBox, slX10_fillBox, izX10, kcX10_fillBox, ⟨by decide +kernel, by decide +kernel, by decide +kernel⟩, by decide⟩
set_option maxRecDepth 20000 in
theorem wkX10_127 : WV RX10 127 mX0_clear 0 := ⟨twl_of 354 rfl rfl, imX0_clear, slX0_clear, izX0, kcX0_clear, ⟨by decide +kernel, by decide +kernel, by decide +kernel⟩, by decide⟩
set_option maxRecDepth 20000 in
theorem wkL_57 : WV RL 57 mX10_rod 2 := ⟨twl_of 358 rfl rfl, imX10_rod, slX10_rod, izX10, kcX10_rod, ⟨by decide +kernel, by decide +kernel, by decide +kernel⟩, by decide⟩
set_option maxRecDepth 20000 in
theorem wkX10_137 : WV RX10 137 mX10_isRod 1 := ⟨twl_of 362 rfl rfl, imX10_isRod, slX10_isRod, izX10, kcX10_isRod, ⟨by decide +kernel, by decide +kernel, by decide +kernel⟩, by decide⟩
set_option maxRecDepth 20000 in
theorem wkX10_140 : WV RX10 140 mX10_ofRod 2 := ⟨twl_of 366 rfl rfl, imX10_ofRod, slX10_ofRod, izX10, kcX10_ofRod, ⟨by decide +kernel, by decide +kernel, by decide +kernel⟩, by decide⟩
set_option maxRecDepth 20000 in
theorem wkX10_188 : WV RX10 188 mX10_digitNow 1 := ⟨twl_of 370 rfl rfl, imX10_digitNow, slX10_digitNow, izX10, kcX10_digitNow, ⟨by decide +kernel, by decide +kernel, by decide +kernel⟩, by decide⟩
set_option maxRecDepth 20000 in
theorem wkX10_333 : WV RX10 333 mX0_isOver 1 := ⟨twl_of 374 rfl rfl, imX0_isOver, slX0_isOver, izX0, kcX0_isOver, ⟨by decide +kernel, by decide +kernel, by decide +kernel⟩, by decide⟩
set_option maxRecDepth 20000 in
theorem wkX10_165 : WV RX10 165 mX0_placeOf 1 := ⟨twl_of 378 rfl rfl, imX0_placeOf, slX0_placeOf, izX0, kcX0_placeOf, ⟨by decide +kernel, by decide +kernel, by decide +kernel⟩, by decide⟩
set_option maxRecDepth 20000 in
theorem wkL_61 : WV RL 61 mX10_mark 2 := ⟨twl_of 382 rfl rfl, imX10_mark, slX10_mark, izX10, kcX10_mark, ⟨by decide +kernel, by decide +kernel, by decide +kernel⟩, by decide⟩
set_option maxRecDepth 20000 in
theorem wkX10_148 : WS RX10 148 mX10_isOfKind 2 := ⟨twl_of 386 rfl rfl, stX10_isOfKind, izX10, kcX10_isOfKind, ⟨by decide +kernel, by decide +kernel, by decide +kernel⟩, by decide⟩
set_option maxRecDepth 20000 in
theorem wkX10_152 : WV RX10 152 mX10_linesApart 4 := ⟨twl_of 389 rfl rfl, imX10_linesApart, slX10_linesApart, izX10, kcX10_linesApart, ⟨by decide +kernel, by decide +kernel, by decide +kernel⟩, by decide⟩
set_option maxRecDepth 20000 in
theorem wkX10_162 : WV RX10 162 mX10_shownNow 2 := ⟨twl_of 393 rfl rfl, imX10_shownNow, slX10_shownNow, izX10, kcX10_shownNow, ⟨by decide +kernel, by decide +kernel, by decide +kernel⟩, by decide⟩
set_option maxRecDepth 20000 in
theorem wkX10_336_X3 : WO RX10 RX3 336 yX3_shown mX3_shown 3 := ⟨twl_of 397 rfl rfl, twl_of 400 rfl rfl, imX3_shown, ⟨_, _, _, kcX3_shown⟩, twl_of 399 rfl rfl, imX3_shown, izX3, kcX3_shown, ⟨by decide +kernel, by decide +kernel, by decide +kernel⟩, by decide⟩
set_option maxRecDepth 20000 in
theorem wkX10_336_X1 : WO RX10 RX1 336 yX3_shown mX9_shown 3 := ⟨twl_of 397 rfl rfl, twl_of 400 rfl rfl, imX3_shown, ⟨_, _, _, kcX3_shown⟩, twl_of 401 rfl rfl, imX9_shown, izX9, kcX9_shown, ⟨by decide +kernel, by decide +kernel, by decide +kernel⟩, by decide⟩
set_option maxRecDepth 20000 in
theorem wkX10_336_X2 : WO RX10 RX2 336 yX3_shown mX2_shown 3 := ⟨twl_of 397 rfl rfl, twl_of 400 rfl rfl, imX3_shown, ⟨_, _, _, kcX3_shown⟩, twl_of 414 rfl rfl, imX2_shown, izX2, kcX2_shown, ⟨by decide +kernel, by decide +kernel, by decide +kernel⟩, by decide⟩
set_option maxRecDepth 20000 in
theorem wkX10_336_X6 : WO RX10 RX6 336 yX3_shown mX6_shown 3 := ⟨twl_of 397 rfl rfl, twl_of 400 rfl rfl, imX3_shown, ⟨_, _, _, kcX3_shown⟩, twl_of 421 rfl rfl, imX6_shown, izX6, kcX6_shown, ⟨by decide +kernel, by decide +kernel, by decide +kernel⟩, by decide⟩
set_option maxRecDepth 20000 in
theorem wkX10_336_X8 : WO RX10 RX8 336 yX3_shown mX8_shown 3 := ⟨twl_of 397 rfl rfl, twl_of 400 rfl rfl, imX3_shown, ⟨_, _, _, kcX3_shown⟩, twl_of 425 rfl rfl, imX8_shown, izX8, kcX8_shown, ⟨by decide +kernel, by decide +kernel, by decide +kernel⟩, by decide⟩
set_option maxRecDepth 20000 in
theorem wkX10_336_X9 : WO RX10 RX9 336 yX3_shown mX9_shown 3 := ⟨twl_of 397 rfl rfl, twl_of 400 rfl rfl, imX3_shown, ⟨_, _, _, kcX3_shown⟩, twl_of 426 rfl rfl, imX9_shown, izX9, kcX9_shown, ⟨by decide +kernel, by decide +kernel, by decide +kernel⟩, by decide⟩
set_option maxRecDepth 20000 in
theorem wkX9_7 : WU RX9 7 mX3_shown 3 := ⟨twl_of 404 rfl rfl, twl_of 400 rfl rfl, twl_of 114 rfl rfl, imX3_shown, izX3, kcX3_shown, ⟨by decide +kernel, by decide +kernel⟩, by decide⟩
set_option maxRecDepth 20000 in
theorem wkX9_11_X9 : WO RX9 RX9 11 yX9_isWithoutTens mX9_isWithoutTens 2 := ⟨twl_of 405 rfl rfl, twl_of 408 rfl rfl, imX9_isWithoutTens, ⟨_, _, _, kcX9_isWithoutTens⟩, twl_of 407 rfl rfl, imX9_isWithoutTens, izX9, kcX9_isWithoutTens, ⟨by decide +kernel, by decide +kernel, by decide +kernel⟩, by decide⟩
set_option maxRecDepth 20000 in
theorem wkX9_11_X1 : WO RX9 RX1 11 yX9_isWithoutTens mX1_isWithoutTens 2 := ⟨twl_of 405 rfl rfl, twl_of 408 rfl rfl, imX9_isWithoutTens, ⟨_, _, _, kcX9_isWithoutTens⟩, twl_of 409 rfl rfl, imX1_isWithoutTens, izX1, kcX1_isWithoutTens, ⟨by decide +kernel, by decide +kernel, by decide +kernel⟩, by decide⟩
set_option maxRecDepth 20000 in
theorem wkX1_7 : WU RX1 7 mX9_isWithoutTens 2 := ⟨twl_of 412 rfl rfl, twl_of 408 rfl rfl, twl_of 135 rfl rfl, imX9_isWithoutTens, izX9, kcX9_isWithoutTens, ⟨by decide +kernel, by decide +kernel⟩, by decide⟩
set_option maxRecDepth 20000 in
theorem wkX2_7 : WU RX2 7 mX8_shown 3 := ⟨twl_of 417 rfl rfl, twl_of 1135 rfl rfl, twl_of 142 rfl rfl, imX8_shown, izX8, kcX8_shown, ⟨by decide +kernel, by decide +kernel⟩, by decide⟩
set_option maxRecDepth 20000 in
theorem wkX8_7 : WU RX8 7 mX3_shown 3 := ⟨twl_of 420 rfl rfl, twl_of 400 rfl rfl, twl_of 121 rfl rfl, imX3_shown, izX3, kcX3_shown, ⟨by decide +kernel, by decide +kernel⟩, by decide⟩
set_option maxRecDepth 20000 in
theorem wkX6_9 : WU RX6 9 mX3_shown 3 := ⟨twl_of 424 rfl rfl, twl_of 400 rfl rfl, twl_of 128 rfl rfl, imX3_shown, izX3, kcX3_shown, ⟨by decide +kernel, by decide +kernel⟩, by decide⟩
set_option maxRecDepth 20000 in
theorem wkX10_339 : WV RX10 339 mX10_shownAs 3 := ⟨twl_of 428 rfl rfl, imX10_shownAs, slX10_shownAs, izX10, kcX10_shownAs, ⟨by decide +kernel, by decide +kernel, by decide +kernel⟩, by decide⟩
set_option maxRecDepth 20000 in
theorem wkX10_156 : WV RX10 156 mX10_slidBy 1 := ⟨twl_of 432 rfl rfl, imX10_slidBy, slX10_slidBy, izX10, kcX10_slidBy, ⟨by decide +kernel, by decide +kernel, by decide +kernel⟩, by decide⟩
set_option maxRecDepth 20000 in
theorem wkX10_159 : WS RX10 159 mX10_isLine 1 := ⟨twl_of 436 rfl rfl, stX10_isLine, izX10, kcX10_isLine, ⟨by decide +kernel, by decide +kernel, by decide +kernel⟩, by decide⟩
set_option maxRecDepth 20000 in
theorem wkL_65 : WV RL 65 mX10_shows 2 := ⟨twl_of 439 rfl rfl, imX10_shows, slX10_shows, izX10, kcX10_shows, ⟨by decide +kernel, by decide +kernel, by decide +kernel⟩, by decide⟩
set_option maxRecDepth 20000 in
theorem wkL_69 : WV RL 69 mX10_laid 1 := ⟨twl_of 443 rfl rfl, imX10_laid, slX10_laid, izX10, kcX10_laid, ⟨by decide +kernel, by decide +kernel, by decide +kernel⟩, by decide⟩
set_option maxRecDepth 20000 in
theorem wkX10_168 : WV RX10 168 mX0_isFull 0 := ⟨twl_of 447 rfl rfl, imX0_isFull, slX0_isFull, izX0, kcX0_isFull, ⟨by decide +kernel, by decide +kernel, by decide +kernel⟩, by decide⟩
set_option maxRecDepth 20000 in
theorem wkX10_171 : WV RX10 171 mX0_act 3 := ⟨twl_of 451 rfl rfl, imX0_act, slX0_act, izX0, kcX0_act, ⟨by decide +kernel, by decide +kernel, by decide +kernel⟩, by decide⟩
set_option maxRecDepth 20000 in
theorem wkX0_40 : WV RX0 40 mX0_isFull 0 := ⟨twl_of 455 rfl rfl, imX0_isFull, slX0_isFull, izX0, kcX0_isFull, ⟨by decide +kernel, by decide +kernel, by decide +kernel⟩, by decide⟩
set_option maxRecDepth 20000 in
theorem wkX0_44 : WV RX0 44 mX0_perform 3 := ⟨twl_of 456 rfl rfl, imX0_perform, slX0_perform, izX0, kcX0_perform, ⟨by decide +kernel, by decide +kernel, by decide +kernel⟩, by decide⟩
set_option maxRecDepth 20000 in
theorem wkX0_52 : WV RX0 52 mX0_isTaken 1 := ⟨twl_of 460 rfl rfl, imX0_isTaken, slX0_isTaken, izX0, kcX0_isTaken, ⟨by decide +kernel, by decide +kernel, by decide +kernel⟩, by decide⟩
set_option maxRecDepth 20000 in
theorem wkL_73 : WV RL 73 mX10_lift 0 := ⟨twl_of 464 rfl rfl, imX10_lift, slX10_lift, izX10, kcX10_lift, ⟨by decide +kernel, by decide +kernel, by decide +kernel⟩, by decide⟩
set_option maxRecDepth 20000 in
theorem wkX10_178 : WV RX10 178 mX0_lastRod 0 := ⟨twl_of 468 rfl rfl, imX0_lastRod, slX0_lastRod, izX0, kcX0_lastRod, ⟨by decide +kernel, by decide +kernel, by decide +kernel⟩, by decide⟩
set_option maxRecDepth 20000 in
theorem wkL_78 : WV RL 78 mX10_change 2 := ⟨twl_of 472 rfl rfl, imX10_change, slX10_change, izX10, kcX10_change, ⟨by decide +kernel, by decide +kernel, by decide +kernel⟩, by decide⟩
set_option maxRecDepth 20000 in
theorem wkX10_182 : WV RX10 182 mX0_isTaken 1 := ⟨twl_of 476 rfl rfl, imX0_isTaken, slX0_isTaken, izX0, kcX0_isTaken, ⟨by decide +kernel, by decide +kernel, by decide +kernel⟩, by decide⟩
set_option maxRecDepth 20000 in
theorem wkL_82 : WV RL 82 mX10_over 1 := ⟨twl_of 477 rfl rfl, imX10_over, slX10_over, izX10, kcX10_over, ⟨by decide +kernel, by decide +kernel, by decide +kernel⟩, by decide⟩
set_option maxRecDepth 20000 in
theorem wkL_86 : WV RL 86 mX10_undo 1 := ⟨twl_of 481 rfl rfl, imX10_undo, slX10_undo, izX10, kcX10_undo, ⟨by decide +kernel, by decide +kernel, by decide +kernel⟩, by decide⟩
set_option maxRecDepth 20000 in
theorem wkX10_194 : WV RX10 194 mX0_takeBack 0 := ⟨twl_of 485 rfl rfl, imX0_takeBack, slX0_takeBack, izX0, kcX0_takeBack, ⟨by decide +kernel, by decide +kernel, by decide +kernel⟩, by decide⟩
set_option maxRecDepth 20000 in
theorem wkX0_48 : WS RX0 48 mX0_backOf 1 := ⟨twl_of 489 rfl rfl, stX0_backOf, izX0, kcX0_backOf, ⟨by decide +kernel, by decide +kernel, by decide +kernel⟩, by decide⟩
set_option maxRecDepth 20000 in
theorem wkL_90 : WV RL 90 mX10_keep 1 := ⟨twl_of 492 rfl rfl, imX10_keep, slX10_keep, izX10, kcX10_keep, ⟨by decide +kernel, by decide +kernel, by decide +kernel⟩, by decide⟩
set_option maxRecDepth 20000 in
theorem wkX10_197 : WS RX10 197 mX10_isKeepingPlace 1 := ⟨twl_of 496 rfl rfl, stX10_isKeepingPlace, izX10, kcX10_isKeepingPlace, ⟨by decide +kernel, by decide +kernel, by decide +kernel⟩, by decide⟩
set_option maxRecDepth 20000 in
theorem wkX10_200 : WV RX10 200 mX0_become 1 := ⟨twl_of 499 rfl rfl, imX0_become, slX0_become, izX0, kcX0_become, ⟨by decide +kernel, by decide +kernel, by decide +kernel⟩, by decide⟩
set_option maxRecDepth 20000 in
theorem wkX0_34 : WCopy RX0 34 := ⟨twl_of 503 rfl rfl, twl_of 315 rfl rfl, twl_of 314 rfl rfl, twl_of 73 rfl rfl⟩
set_option maxRecDepth 20000 in
theorem wkL_94 : WV RL 94 mX10_on 1 := ⟨twl_of 504 rfl rfl, imX10_on, slX10_on, izX10, kcX10_on, ⟨by decide +kernel, by decide +kernel, by decide +kernel⟩, by decide⟩
set_option maxRecDepth 20000 in
theorem wkL_98 : WV RL 98 mX10_reads 1 := ⟨twl_of 508 rfl rfl, imX10_reads, slX10_reads, izX10, kcX10_reads, ⟨by decide +kernel, by decide +kernel, by decide +kernel⟩, by decide⟩
set_option maxRecDepth 20000 in
theorem wkX10_204 : WV RX10 204 mX10_rightBy 1 := ⟨twl_of 512 rfl rfl, imX10_rightBy, slX10_rightBy, izX10, kcX10_rightBy, ⟨by decide +kernel, by decide +kernel, by decide +kernel⟩, by decide⟩
set_option maxRecDepth 20000 in
theorem wkX10_207 : WV RX10 207 mX10_readOff 1 := ⟨twl_of 516 rfl rfl, imX10_readOff, slX10_readOff, izX10, kcX10_readOff, ⟨by decide +kernel, by decide +kernel, by decide +kernel⟩, by decide⟩
set_option maxRecDepth 20000 in
theorem wkX10_342 : WV RX10 342 mX10_readWith 3 := ⟨twl_of 520 rfl rfl, imX10_readWith, slX10_readWith, izX10, kcX10_readWith, ⟨by decide +kernel, by decide +kernel, by decide +kernel⟩, by decide⟩
set_option maxRecDepth 20000 in
theorem wkL_102 : WV RL 102 mX10_wrong 0 := ⟨twl_of 524 rfl rfl, imX10_wrong, slX10_wrong, izX10, kcX10_wrong, ⟨by decide +kernel, by decide +kernel, by decide +kernel⟩, by decide⟩
set_option maxRecDepth 20000 in
theorem wkL_106 : WV RL 106 mX10_carries 1 := ⟨twl_of 528 rfl rfl, imX10_carries, slX10_carries, izX10, kcX10_carries, ⟨by decide +kernel, by decide +kernel, by decide +kernel⟩, by decide⟩
set_option maxRecDepth 20000 in
theorem wkX10_210 : WMax RX10 210 Lib.Math.max.name Lib.Math.max.code := ⟨twl_of 532 rfl rfl, twl_of 533 rfl rfl, twl_of 74 rfl rfl, twl_of 534 rfl rfl⟩
set_option maxRecDepth 20000 in
theorem wkL_110 : WV RL 110 mX10_makes 3 := ⟨twl_of 535 rfl rfl, imX10_makes, slX10_makes, izX10, kcX10_makes, ⟨by decide +kernel, by decide +kernel, by decide +kernel⟩, by decide⟩
set_option maxRecDepth 20000 in
theorem wkX10_216 : WV RX10 216 mX10_lookAt 1 := ⟨twl_of 540 rfl rfl, imX10_lookAt, slX10_lookAt, izX10, kcX10_lookAt, ⟨by decide +kernel, by decide +kernel, by decide +kernel⟩, by decide⟩
set_option maxRecDepth 20000 in
theorem wkX10_220 : WV RX10 220 mX5_nearest 3 := ⟨twl_of 544 rfl rfl, imX5_nearest, slX5_nearest, izX5, kcX5_nearest, ⟨by decide +kernel, by decide +kernel, by decide +kernel⟩, by decide⟩
set_option maxRecDepth 20000 in
theorem wkX5_28 : WMax RX5 28 Lib.Math.min.name Lib.Math.min.code := ⟨twl_of 548 rfl rfl, twl_of 549 rfl rfl, twl_of 74 rfl rfl, twl_of 550 rfl rfl⟩
set_option maxRecDepth 20000 in
theorem wkX5_40 : WV RX5 40 mX5_extend 3 := ⟨twl_of 551 rfl rfl, imX5_extend, slX5_extend, izX5, kcX5_extend, ⟨by decide +kernel, by decide +kernel, by decide +kernel⟩, by decide⟩
set_option maxRecDepth 20000 in
theorem wkX5_44 : WV RX5 44 mX5_leastGap 2 := ⟨twl_of 555 rfl rfl, imX5_leastGap, slX5_leastGap, izX5, kcX5_leastGap, ⟨by decide +kernel, by decide +kernel, by decide +kernel⟩, by decide⟩
set_option maxRecDepth 20000 in
theorem wkX5_56 : WMax RX5 56 Lib.Math.max.name Lib.Math.max.code := ⟨twl_of 561 rfl rfl, twl_of 533 rfl rfl, twl_of 74 rfl rfl, twl_of 534 rfl rfl⟩
set_option maxRecDepth 20000 in
theorem wkX5_47 : WCopy RX5 47 := ⟨twl_of 562 rfl rfl, twl_of 315 rfl rfl, twl_of 314 rfl rfl, twl_of 73 rfl rfl⟩
set_option maxRecDepth 20000 in
theorem wkX10_227 : WV RX10 227 mX7_take 2 := ⟨twl_of 563 rfl rfl, imX7_take, slX7_take, izX7, kcX7_take, ⟨by decide +kernel, by decide +kernel, by decide +kernel⟩, by decide⟩
set_option maxRecDepth 20000 in
theorem wkX7_19 : WMax RX7 19 Lib.Math.min.name Lib.Math.min.code := ⟨twl_of 567 rfl rfl, twl_of 549 rfl rfl, twl_of 74 rfl rfl, twl_of 550 rfl rfl⟩
set_option maxRecDepth 20000 in
theorem wkL_114 : WV RL 114 mX10_most 3 := ⟨twl_of 568 rfl rfl, imX10_most, slX10_most, izX10, kcX10_most, ⟨by decide +kernel, by decide +kernel, by decide +kernel⟩, by decide⟩
set_option maxRecDepth 20000 in
theorem wkL_118 : WV RL 118 mX10_near 2 := ⟨twl_of 573 rfl rfl, imX10_near, slX10_near, izX10, kcX10_near, ⟨by decide +kernel, by decide +kernel, by decide +kernel⟩, by decide⟩
set_option maxRecDepth 20000 in
theorem wkX10_232 : WMax RX10 232 Lib.Math.min.name Lib.Math.min.code := ⟨twl_of 577 rfl rfl, twl_of 549 rfl rfl, twl_of 74 rfl rfl, twl_of 550 rfl rfl⟩
set_option maxRecDepth 20000 in
theorem wkL_122 : WV RL 122 mX10_digits 2 := ⟨twl_of 578 rfl rfl, imX10_digits, slX10_digits, izX10, kcX10_digits, ⟨by decide +kernel, by decide +kernel, by decide +kernel⟩, by decide⟩
set_option maxRecDepth 20000 in
theorem wkX10_235 : WS RX10 235 mX10_unfitPairs 1 := ⟨twl_of 582 rfl rfl, stX10_unfitPairs, izX10, kcX10_unfitPairs, ⟨by decide +kernel, by decide +kernel, by decide +kernel⟩, by decide⟩
set_option maxRecDepth 20000 in
theorem wkX10_241 : WS RX10 241 mX10_fits 4 := ⟨twl_of 586 rfl rfl, stX10_fits, izX10, kcX10_fits, ⟨by decide +kernel, by decide +kernel, by decide +kernel⟩, by decide⟩
set_option maxRecDepth 20000 in
theorem wkL_126 : WV RL 126 mX10_kinds 2 := ⟨twl_of 589 rfl rfl, imX10_kinds, slX10_kinds, izX10, kcX10_kinds, ⟨by decide +kernel, by decide +kernel, by decide +kernel⟩, by decide⟩
set_option maxRecDepth 20000 in
theorem wkX10_245 : WV RX10 245 mX10_fittingKinds 2 := ⟨twl_of 593 rfl rfl, imX10_fittingKinds, slX10_fittingKinds, izX10, kcX10_fittingKinds, ⟨by decide +kernel, by decide +kernel, by decide +kernel⟩, by decide⟩
set_option maxRecDepth 20000 in
theorem wkL_130 : WV RL 130 mX10_test 2 := ⟨twl_of 597 rfl rfl, imX10_test, slX10_test, izX10, kcX10_test, ⟨by decide +kernel, by decide +kernel, by decide +kernel⟩, by decide⟩
set_option maxRecDepth 20000 in
theorem wkX10_249 : WV RX10 249 mX10_greatestPart 3 := ⟨twl_of 601 rfl rfl, imX10_greatestPart, slX10_greatestPart, izX10, kcX10_greatestPart, ⟨by decide +kernel, by decide +kernel, by decide +kernel⟩, by decide⟩
set_option maxRecDepth 20000 in
theorem wkL_134 : WV RL 134 mX10_other 1 := ⟨twl_of 605 rfl rfl, imX10_other, slX10_other, izX10, kcX10_other, ⟨by decide +kernel, by decide +kernel, by decide +kernel⟩, by decide⟩
set_option maxRecDepth 20000 in
theorem wkX10_252 : WV RX10 252 mX10_wasReadWith 3 := ⟨twl_of 609 rfl rfl, imX10_wasReadWith, slX10_wasReadWith, izX10, kcX10_wasReadWith, ⟨by decide +kernel, by decide +kernel, by decide +kernel⟩, by decide⟩
set_option maxRecDepth 20000 in
theorem wkL_138 : WV RL 138 mX10_duel 2 := ⟨twl_of 613 rfl rfl, imX10_duel, slX10_duel, izX10, kcX10_duel, ⟨by decide +kernel, by decide +kernel, by decide +kernel⟩, by decide⟩
set_option maxRecDepth 20000 in
theorem wkX10_256 : WV RX10 256 mX0_bits 0 := ⟨twl_of 617 rfl rfl, imX0_bits, slX0_bits, izX0, kcX0_bits, ⟨by decide +kernel, by decide +kernel, by decide +kernel⟩, by decide⟩
set_option maxRecDepth 20000 in
theorem wkX10_259 : WN RX10 "BoneRods" 259 mX5_playedOut 4 := ⟨nwl_of 621 rfl rfl, imX5_playedOut, slX5_playedOut, izX5, kcX5_playedOut, ⟨by decide +kernel, by decide +kernel, by decide +kernel⟩, by decide⟩
set_option maxRecDepth 20000 in
theorem wkX5_59 : WV RX5 59 mX5_playedOut 4 := ⟨twl_of 625 rfl rfl, imX5_playedOut, slX5_playedOut, izX5, kcX5_playedOut, ⟨by decide +kernel, by decide +kernel, by decide +kernel⟩, by decide⟩
set_option maxRecDepth 20000 in
theorem wkL_142 : WV RL 142 mX10_odds 2 := ⟨twl_of 626 rfl rfl, imX10_odds, slX10_odds, izX10, kcX10_odds, ⟨by decide +kernel, by decide +kernel, by decide +kernel⟩, by decide⟩
set_option maxRecDepth 20000 in
theorem wkX10_263 : WS RX10 263 mX10_isTwelfths 1 := ⟨twl_of 630 rfl rfl, stX10_isTwelfths, izX10, kcX10_isTwelfths, ⟨by decide +kernel, by decide +kernel, by decide +kernel⟩, by decide⟩
set_option maxRecDepth 20000 in
theorem wkX10_266 : WV RX10 266 mX10_readOfLeft 2 := ⟨twl_of 633 rfl rfl, imX10_readOfLeft, slX10_readOfLeft, izX10, kcX10_readOfLeft, ⟨by decide +kernel, by decide +kernel, by decide +kernel⟩, by decide⟩
set_option maxRecDepth 20000 in
theorem wkX10_269 : WV RX10 269 mX10_weightOfLeft 2 := ⟨twl_of 637 rfl rfl, imX10_weightOfLeft, slX10_weightOfLeft, izX10, kcX10_weightOfLeft, ⟨by decide +kernel, by decide +kernel, by decide +kernel⟩, by decide⟩
set_option maxRecDepth 20000 in
theorem wkX10_275 : WV RX10 275 mX10_tell 2 := ⟨twl_of 642 rfl rfl, imX10_tell, slX10_tell, izX10, kcX10_tell, ⟨by decide +kernel, by decide +kernel, by decide +kernel⟩, by decide⟩
set_option maxRecDepth 20000 in
theorem wkX10_353 : WS RX10 353 mX10_greatestShared 2 := ⟨twl_of 646 rfl rfl, stX10_greatestShared, izX10, kcX10_greatestShared, ⟨by decide +kernel, by decide +kernel, by decide +kernel⟩, by decide⟩
set_option maxRecDepth 20000 in
theorem wkL_146 : WV RL 146 mX10_mid 2 := ⟨twl_of 649 rfl rfl, imX10_mid, slX10_mid, izX10, kcX10_mid, ⟨by decide +kernel, by decide +kernel, by decide +kernel⟩, by decide⟩
set_option maxRecDepth 20000 in
theorem wkL_150 : WV RL 150 mX10_lots 2 := ⟨twl_of 653 rfl rfl, imX10_lots, slX10_lots, izX10, kcX10_lots, ⟨by decide +kernel, by decide +kernel, by decide +kernel⟩, by decide⟩
set_option maxRecDepth 20000 in
theorem wkX10_283 : WV RX10 283 mX10_deedByLot 1 := ⟨twl_of 659 rfl rfl, imX10_deedByLot, slX10_deedByLot, izX10, kcX10_deedByLot, ⟨by decide +kernel, by decide +kernel, by decide +kernel⟩, by decide⟩
set_option maxRecDepth 20000 in
theorem wkL_154 : WV RL 154 mX10_asked 0 := ⟨twl_of 665 rfl rfl, imX10_asked, slX10_asked, izX10, kcX10_asked, ⟨by decide +kernel, by decide +kernel, by decide +kernel⟩, by decide⟩
set_option maxRecDepth 20000 in
theorem wkL_158 : WV RL 158 mX10_upper 0 := ⟨twl_of 669 rfl rfl, imX10_upper, slX10_upper, izX10, kcX10_upper, ⟨by decide +kernel, by decide +kernel, by decide +kernel⟩, by decide⟩
set_option maxRecDepth 20000 in
theorem wkL_163 : WV RL 163 mX10_lower 0 := ⟨twl_of 673 rfl rfl, imX10_lower, slX10_lower, izX10, kcX10_lower, ⟨by decide +kernel, by decide +kernel, by decide +kernel⟩, by decide⟩
set_option maxRecDepth 20000 in
theorem wkL_167 : WV RL 167 mX10_count 1 := ⟨twl_of 677 rfl rfl, imX10_count, slX10_count, izX10, kcX10_count, ⟨by decide +kernel, by decide +kernel, by decide +kernel⟩, by decide⟩
set_option maxRecDepth 20000 in
theorem wkX10_293 : WS RX10 293 mX10_howManyThere 1 := ⟨twl_of 681 rfl rfl, stX10_howManyThere, izX10, kcX10_howManyThere, ⟨by decide +kernel, by decide +kernel, by decide +kernel⟩, by decide⟩
set_option maxRecDepth 20000 in
theorem wkX10_297 : WV RX10 297 mX10_howManyKept 0 := ⟨twl_of 684 rfl rfl, imX10_howManyKept, slX10_howManyKept, izX10, kcX10_howManyKept, ⟨by decide +kernel, by decide +kernel, by decide +kernel⟩, by decide⟩
set_option maxRecDepth 20000 in
theorem wkX10_300 : WV RX10 300 mX10_howManyOf 1 := ⟨twl_of 688 rfl rfl, imX10_howManyOf, slX10_howManyOf, izX10, kcX10_howManyOf, ⟨by decide +kernel, by decide +kernel, by decide +kernel⟩, by decide⟩
set_option maxRecDepth 20000 in
theorem wkL_171 : WV RL 171 mX10_finding 0 := ⟨twl_of 692 rfl rfl, imX10_finding, slX10_finding, izX10, kcX10_finding, ⟨by decide +kernel, by decide +kernel, by decide +kernel⟩, by decide⟩
set_option maxRecDepth 20000 in
theorem wkL_175 : WV RL 175 mX10_findings 1 := ⟨twl_of 696 rfl rfl, imX10_findings, slX10_findings, izX10, kcX10_findings, ⟨by decide +kernel, by decide +kernel, by decide +kernel⟩, by decide⟩
set_option maxRecDepth 20000 in
theorem wkL_179 : WV RL 179 mX10_digest 0 := ⟨twl_of 700 rfl rfl, imX10_digest, slX10_digest, izX10, kcX10_digest, ⟨by decide +kernel, by decide +kernel, by decide +kernel⟩, by decide⟩
set_option maxRecDepth 20000 in
theorem wkX10_310 : WV RX10 310 mX10_count 1 := ⟨twl_of 706 rfl rfl, imX10_count, slX10_count, izX10, kcX10_count, ⟨by decide +kernel, by decide +kernel, by decide +kernel⟩, by decide⟩
set_option maxRecDepth 20000 in
theorem wkX10_313 : WS RX10 313 mX10_withStrips 2 := ⟨twl_of 707 rfl rfl, stX10_withStrips, izX10, kcX10_withStrips, ⟨by decide +kernel, by decide +kernel, by decide +kernel⟩, by decide⟩
set_option maxRecDepth 20000 in
theorem wkL_17 : WV RL 17 mX11_row 2 := ⟨twl_of 789 rfl rfl, imX11_row, slX11_row, izX11, kcX11_row, ⟨by decide +kernel, by decide +kernel, by decide +kernel⟩, by decide⟩
set_option maxRecDepth 20000 in
theorem wkX11_76 : WS RX11 76 mX11_isRow 1 := ⟨twl_of 793 rfl rfl, stX11_isRow, izX11, kcX11_isRow, ⟨by decide +kernel, by decide +kernel, by decide +kernel⟩, by decide⟩
set_option maxRecDepth 20000 in
theorem wkX11_68 : WS RX11 68 mX11_in 3 := ⟨twl_of 797 rfl rfl, stX11_in, izX11, kcX11_in, ⟨by decide +kernel, by decide +kernel, by decide +kernel⟩, by decide⟩
set_option maxRecDepth 20000 in
theorem wkX11_80 : WV RX11 80 mX11_finds 1 := ⟨twl_of 800 rfl rfl, imX11_finds, slX11_finds, izX11, kcX11_finds, ⟨by decide +kernel, by decide +kernel, by decide +kernel⟩, by decide⟩
set_option maxRecDepth 20000 in
theorem wkL_22 : WV RL 22 mX11_lay 3 := ⟨twl_of 804 rfl rfl, imX11_lay, slX11_lay, izX11, kcX11_lay, ⟨by decide +kernel, by decide +kernel, by decide +kernel⟩, by decide⟩
set_option maxRecDepth 20000 in
theorem wkX11_83 : WV RX11 83 mX11_tells 1 := ⟨twl_of 808 rfl rfl, imX11_tells, slX11_tells, izX11, kcX11_tells, ⟨by decide +kernel, by decide +kernel, by decide +kernel⟩, by decide⟩
set_option maxRecDepth 20000 in
theorem wkL_26 : WV RL 26 mX11_at 2 := ⟨twl_of 812 rfl rfl, imX11_at, slX11_at, izX11, kcX11_at, ⟨by decide +kernel, by decide +kernel, by decide +kernel⟩, by decide⟩
set_option maxRecDepth 20000 in
theorem wkL_31 : WV RL 31 mX11_tear 1 := ⟨twl_of 816 rfl rfl, imX11_tear, slX11_tear, izX11, kcX11_tear, ⟨by decide +kernel, by decide +kernel, by decide +kernel⟩, by decide⟩
set_option maxRecDepth 20000 in
theorem wkL_36 : WV RL 36 mX11_copy 5 := ⟨twl_of 820 rfl rfl, imX11_copy, slX11_copy, izX11, kcX11_copy, ⟨by decide +kernel, by decide +kernel, by decide +kernel⟩, by decide⟩
set_option maxRecDepth 20000 in
theorem wkL_40 : WV RL 40 mX11_mean 1 := ⟨twl_of 824 rfl rfl, imX11_mean, slX11_mean, izX11, kcX11_mean, ⟨by decide +kernel, by decide +kernel, by decide +kernel⟩, by decide⟩
set_option maxRecDepth 20000 in
theorem wkL_44 : WV RL 44 mX11_text 2 := ⟨twl_of 828 rfl rfl, imX11_text, slX11_text, izX11, kcX11_text, ⟨by decide +kernel, by decide +kernel, by decide +kernel⟩, by decide⟩
set_option maxRecDepth 20000 in
theorem wkX11_86 : WS RX11 86 mX11_isText 1 := ⟨twl_of 832 rfl rfl, stX11_isText, izX11, kcX11_isText, ⟨by decide +kernel, by decide +kernel, by decide +kernel⟩, by decide⟩
set_option maxRecDepth 20000 in
theorem wkL_48 : WV RL 48 mX11_put 3 := ⟨twl_of 836 rfl rfl, imX11_put, slX11_put, izX11, kcX11_put, ⟨by decide +kernel, by decide +kernel, by decide +kernel⟩, by decide⟩
set_option maxRecDepth 20000 in
theorem wkL_52 : WV RL 52 mX11_fault 1 := ⟨twl_of 840 rfl rfl, imX11_fault, slX11_fault, izX11, kcX11_fault, ⟨by decide +kernel, by decide +kernel, by decide +kernel⟩, by decide⟩
set_option maxRecDepth 20000 in
theorem wkX11_112 : WV RX11 112 mX11_faultOf 1 := ⟨twl_of 844 rfl rfl, imX11_faultOf, slX11_faultOf, izX11, kcX11_faultOf, ⟨by decide +kernel, by decide +kernel, by decide +kernel⟩, by decide⟩
set_option maxRecDepth 20000 in
theorem wkX11_98 : WV RX11 98 mX11_here 0 := ⟨twl_of 848 rfl rfl, imX11_here, slX11_here, izX11, kcX11_here, ⟨by decide +kernel, by decide +kernel, by decide +kernel⟩, by decide⟩
set_option maxRecDepth 20000 in
theorem wkX11_108 : WV RX11 108 mX11_takesRod 0 := ⟨twl_of 852 rfl rfl, imX11_takesRod, slX11_takesRod, izX11, kcX11_takesRod, ⟨by decide +kernel, by decide +kernel, by decide +kernel⟩, by decide⟩
set_option maxRecDepth 20000 in
theorem wkX11_102 : WS RX11 102 mX11_kindOf 1 := ⟨twl_of 856 rfl rfl, stX11_kindOf, izX11, kcX11_kindOf, ⟨by decide +kernel, by decide +kernel, by decide +kernel⟩, by decide⟩
set_option maxRecDepth 20000 in
theorem wkL_56 : WV RL 56 mX11_box 1 := ⟨twl_of 860 rfl rfl, imX11_box, slX11_box, izX11, kcX11_box, ⟨by decide +kernel, by decide +kernel, by decide +kernel⟩, by decide⟩
set_option maxRecDepth 20000 in
theorem wkL_60 : WV RL 60 mX11_rod 2 := ⟨twl_of 864 rfl rfl, imX11_rod, slX11_rod, izX11, kcX11_rod, ⟨by decide +kernel, by decide +kernel, by decide +kernel⟩, by decide⟩
set_option maxRecDepth 20000 in
theorem wkX11_133 : WV RX11 133 mX11_isRod 1 := ⟨twl_of 868 rfl rfl, imX11_isRod, slX11_isRod, izX11, kcX11_isRod, ⟨by decide +kernel, by decide +kernel, by decide +kernel⟩, by decide⟩
set_option maxRecDepth 20000 in
theorem wkX11_138 : WV RX11 138 mX11_rodOf 2 := ⟨twl_of 873 rfl rfl, imX11_rodOf, slX11_rodOf, izX11, kcX11_rodOf, ⟨by decide +kernel, by decide +kernel, by decide +kernel⟩, by decide⟩
set_option maxRecDepth 20000 in
theorem wkX11_123 : WV RX11 123 mX11_digitOf 1 := ⟨twl_of 877 rfl rfl, imX11_digitOf, slX11_digitOf, izX11, kcX11_digitOf, ⟨by decide +kernel, by decide +kernel, by decide +kernel⟩, by decide⟩
set_option maxRecDepth 20000 in
theorem wkX11_119 : WS RX11 119 mX11_has 2 := ⟨twl_of 881 rfl rfl, stX11_has, izX11, kcX11_has, ⟨by decide +kernel, by decide +kernel, by decide +kernel⟩, by decide⟩
set_option maxRecDepth 20000 in
theorem wkX11_130 : WV RX11 130 mX11_placeOf 1 := ⟨twl_of 884 rfl rfl, imX11_placeOf, slX11_placeOf, izX11, kcX11_placeOf, ⟨by decide +kernel, by decide +kernel, by decide +kernel⟩, by decide⟩
set_option maxRecDepth 20000 in
theorem wkL_64 : WV RL 64 mX11_mark 2 := ⟨twl_of 888 rfl rfl, imX11_mark, slX11_mark, izX11, kcX11_mark, ⟨by decide +kernel, by decide +kernel, by decide +kernel⟩, by decide⟩
set_option maxRecDepth 20000 in
theorem wkX11_145 : WS RX11 145 mX11_isA 2 := ⟨twl_of 892 rfl rfl, stX11_isA, izX11, kcX11_isA, ⟨by decide +kernel, by decide +kernel, by decide +kernel⟩, by decide⟩
set_option maxRecDepth 20000 in
theorem wkX11_148 : WV RX11 148 mX11_linesAgainst 3 := ⟨twl_of 895 rfl rfl, imX11_linesAgainst, slX11_linesAgainst, izX11, kcX11_linesAgainst, ⟨by decide +kernel, by decide +kernel, by decide +kernel⟩, by decide⟩
set_option maxRecDepth 20000 in
theorem wkX11_142 : WV RX11 142 mX11_showsOf 2 := ⟨twl_of 899 rfl rfl, imX11_showsOf, slX11_showsOf, izX11, kcX11_showsOf, ⟨by decide +kernel, by decide +kernel, by decide +kernel⟩, by decide⟩
set_option maxRecDepth 20000 in
theorem wkX11_126 : WS RX11 126 mX11_showsBy 4 := ⟨twl_of 903 rfl rfl, stX11_showsBy, izX11, kcX11_showsBy, ⟨by decide +kernel, by decide +kernel, by decide +kernel⟩, by decide⟩
set_option maxRecDepth 20000 in
theorem wkX11_115 : WS RX11 115 mX11_worn 3 := ⟨twl_of 906 rfl rfl, stX11_worn, izX11, kcX11_worn, ⟨by decide +kernel, by decide +kernel, by decide +kernel⟩, by decide⟩
set_option maxRecDepth 20000 in
theorem wkL_68 : WV RL 68 mX11_shows 2 := ⟨twl_of 909 rfl rfl, imX11_shows, slX11_shows, izX11, kcX11_shows, ⟨by decide +kernel, by decide +kernel, by decide +kernel⟩, by decide⟩
set_option maxRecDepth 20000 in
theorem wkX11_151 : WS RX11 151 mX11_isLine 1 := ⟨twl_of 913 rfl rfl, stX11_isLine, izX11, kcX11_isLine, ⟨by decide +kernel, by decide +kernel, by decide +kernel⟩, by decide⟩
set_option maxRecDepth 20000 in
theorem wkL_72 : WV RL 72 mX11_laid 1 := ⟨twl_of 916 rfl rfl, imX11_laid, slX11_laid, izX11, kcX11_laid, ⟨by decide +kernel, by decide +kernel, by decide +kernel⟩, by decide⟩
set_option maxRecDepth 20000 in
theorem wkX11_154 : WV RX11 154 mX11_minds 0 := ⟨twl_of 920 rfl rfl, imX11_minds, slX11_minds, izX11, kcX11_minds, ⟨by decide +kernel, by decide +kernel, by decide +kernel⟩, by decide⟩
set_option maxRecDepth 20000 in
theorem wkX11_157 : WV RX11 157 mX11_lays 1 := ⟨twl_of 924 rfl rfl, imX11_lays, slX11_lays, izX11, kcX11_lays, ⟨by decide +kernel, by decide +kernel, by decide +kernel⟩, by decide⟩
set_option maxRecDepth 20000 in
theorem wkL_77 : WV RL 77 mX11_lift 0 := ⟨twl_of 928 rfl rfl, imX11_lift, slX11_lift, izX11, kcX11_lift, ⟨by decide +kernel, by decide +kernel, by decide +kernel⟩, by decide⟩
set_option maxRecDepth 20000 in
theorem wkX11_161 : WV RX11 161 mX11_lifts 0 := ⟨twl_of 932 rfl rfl, imX11_lifts, slX11_lifts, izX11, kcX11_lifts, ⟨by decide +kernel, by decide +kernel, by decide +kernel⟩, by decide⟩
set_option maxRecDepth 20000 in
theorem wkL_81 : WV RL 81 mX11_change 2 := ⟨twl_of 936 rfl rfl, imX11_change, slX11_change, izX11, kcX11_change, ⟨by decide +kernel, by decide +kernel, by decide +kernel⟩, by decide⟩
set_option maxRecDepth 20000 in
theorem wkL_85 : WV RL 85 mX11_over 1 := ⟨twl_of 940 rfl rfl, imX11_over, slX11_over, izX11, kcX11_over, ⟨by decide +kernel, by decide +kernel, by decide +kernel⟩, by decide⟩
set_option maxRecDepth 20000 in
theorem wkL_89 : WV RL 89 mX11_undo 1 := ⟨twl_of 944 rfl rfl, imX11_undo, slX11_undo, izX11, kcX11_undo, ⟨by decide +kernel, by decide +kernel, by decide +kernel⟩, by decide⟩
set_option maxRecDepth 20000 in
theorem wkL_93 : WV RL 93 mX11_keep 1 := ⟨twl_of 948 rfl rfl, imX11_keep, slX11_keep, izX11, kcX11_keep, ⟨by decide +kernel, by decide +kernel, by decide +kernel⟩, by decide⟩
set_option maxRecDepth 20000 in
theorem wkX11_166 : WV RX11 166 mX11_bring 2 := ⟨twl_of 953 rfl rfl, imX11_bring, slX11_bring, izX11, kcX11_bring, ⟨by decide +kernel, by decide +kernel, by decide +kernel⟩, by decide⟩
set_option maxRecDepth 20000 in
theorem wkL_97 : WV RL 97 mX11_on 1 := ⟨twl_of 957 rfl rfl, imX11_on, slX11_on, izX11, kcX11_on, ⟨by decide +kernel, by decide +kernel, by decide +kernel⟩, by decide⟩
set_option maxRecDepth 20000 in
theorem wkL_101 : WV RL 101 mX11_reads 1 := ⟨twl_of 961 rfl rfl, imX11_reads, slX11_reads, izX11, kcX11_reads, ⟨by decide +kernel, by decide +kernel, by decide +kernel⟩, by decide⟩
set_option maxRecDepth 20000 in
theorem wkX11_170 : WV RX11 170 mX11_rightBy 1 := ⟨twl_of 965 rfl rfl, imX11_rightBy, slX11_rightBy, izX11, kcX11_rightBy, ⟨by decide +kernel, by decide +kernel, by decide +kernel⟩, by decide⟩
set_option maxRecDepth 20000 in
theorem wkX11_173 : WV RX11 173 mX11_readBy 1 := ⟨twl_of 969 rfl rfl, imX11_readBy, slX11_readBy, izX11, kcX11_readBy, ⟨by decide +kernel, by decide +kernel, by decide +kernel⟩, by decide⟩
set_option maxRecDepth 20000 in
theorem wkL_105 : WV RL 105 mX11_wrong 0 := ⟨twl_of 973 rfl rfl, imX11_wrong, slX11_wrong, izX11, kcX11_wrong, ⟨by decide +kernel, by decide +kernel, by decide +kernel⟩, by decide⟩
set_option maxRecDepth 20000 in
theorem wkL_109 : WV RL 109 mX11_carries 1 := ⟨twl_of 977 rfl rfl, imX11_carries, slX11_carries, izX11, kcX11_carries, ⟨by decide +kernel, by decide +kernel, by decide +kernel⟩, by decide⟩
set_option maxRecDepth 20000 in
theorem wkL_113 : WV RL 113 mX11_makes 3 := ⟨twl_of 981 rfl rfl, imX11_makes, slX11_makes, izX11, kcX11_makes, ⟨by decide +kernel, by decide +kernel, by decide +kernel⟩, by decide⟩
set_option maxRecDepth 20000 in
theorem wkX11_181 : WV RX11 181 mX11_goesNext 3 := ⟨twl_of 986 rfl rfl, imX11_goesNext, slX11_goesNext, izX11, kcX11_goesNext, ⟨by decide +kernel, by decide +kernel, by decide +kernel⟩, by decide⟩
set_option maxRecDepth 20000 in
theorem wkX11_185 : WV RX11 185 mX11_keeps 1 := ⟨twl_of 990 rfl rfl, imX11_keeps, slX11_keeps, izX11, kcX11_keeps, ⟨by decide +kernel, by decide +kernel, by decide +kernel⟩, by decide⟩
set_option maxRecDepth 20000 in
theorem wkX11_188 : WV RX11 188 mX11_laysBest 2 := ⟨twl_of 994 rfl rfl, imX11_laysBest, slX11_laysBest, izX11, kcX11_laysBest, ⟨by decide +kernel, by decide +kernel, by decide +kernel⟩, by decide⟩
set_option maxRecDepth 20000 in
theorem wkL_117 : WV RL 117 mX11_most 3 := ⟨twl_of 998 rfl rfl, imX11_most, slX11_most, izX11, kcX11_most, ⟨by decide +kernel, by decide +kernel, by decide +kernel⟩, by decide⟩
set_option maxRecDepth 20000 in
theorem wkL_121 : WV RL 121 mX11_near 2 := ⟨twl_of 1002 rfl rfl, imX11_near, slX11_near, izX11, kcX11_near, ⟨by decide +kernel, by decide +kernel, by decide +kernel⟩, by decide⟩
set_option maxRecDepth 20000 in
theorem wkL_125 : WV RL 125 mX11_digits 2 := ⟨twl_of 1008 rfl rfl, imX11_digits, slX11_digits, izX11, kcX11_digits, ⟨by decide +kernel, by decide +kernel, by decide +kernel⟩, by decide⟩
set_option maxRecDepth 20000 in
theorem wkX11_196 : WV RX11 196 mX11_againstPairs 1 := ⟨twl_of 1012 rfl rfl, imX11_againstPairs, slX11_againstPairs, izX11, kcX11_againstPairs, ⟨by decide +kernel, by decide +kernel, by decide +kernel⟩, by decide⟩
set_option maxRecDepth 20000 in
theorem wkX11_199 : WV RX11 199 mX11_showedSo 4 := ⟨twl_of 1017 rfl rfl, imX11_showedSo, slX11_showedSo, izX11, kcX11_showedSo, ⟨by decide +kernel, by decide +kernel, by decide +kernel⟩, by decide⟩
set_option maxRecDepth 20000 in
theorem wkL_129 : WV RL 129 mX11_kinds 2 := ⟨twl_of 1021 rfl rfl, imX11_kinds, slX11_kinds, izX11, kcX11_kinds, ⟨by decide +kernel, by decide +kernel, by decide +kernel⟩, by decide⟩
set_option maxRecDepth 20000 in
theorem wkX11_203 : WV RX11 203 mX11_kindsOf 2 := ⟨twl_of 1025 rfl rfl, imX11_kindsOf, slX11_kindsOf, izX11, kcX11_kindsOf, ⟨by decide +kernel, by decide +kernel, by decide +kernel⟩, by decide⟩
set_option maxRecDepth 20000 in
theorem wkL_133 : WV RL 133 mX11_test 2 := ⟨twl_of 1029 rfl rfl, imX11_test, slX11_test, izX11, kcX11_test, ⟨by decide +kernel, by decide +kernel, by decide +kernel⟩, by decide⟩
set_option maxRecDepth 20000 in
theorem wkL_137 : WV RL 137 mX11_other 1 := ⟨twl_of 1033 rfl rfl, imX11_other, slX11_other, izX11, kcX11_other, ⟨by decide +kernel, by decide +kernel, by decide +kernel⟩, by decide⟩
set_option maxRecDepth 20000 in
theorem wkX11_206 : WV RX11 206 mX11_readWith 3 := ⟨twl_of 1037 rfl rfl, imX11_readWith, slX11_readWith, izX11, kcX11_readWith, ⟨by decide +kernel, by decide +kernel, by decide +kernel⟩, by decide⟩
set_option maxRecDepth 20000 in
theorem wkL_141 : WV RL 141 mX11_duel 2 := ⟨twl_of 1041 rfl rfl, imX11_duel, slX11_duel, izX11, kcX11_duel, ⟨by decide +kernel, by decide +kernel, by decide +kernel⟩, by decide⟩
set_option maxRecDepth 20000 in
theorem wkX11_209 : WV RX11 209 mX11_isLaidOr 2 := ⟨twl_of 1045 rfl rfl, imX11_isLaidOr, slX11_isLaidOr, izX11, kcX11_isLaidOr, ⟨by decide +kernel, by decide +kernel, by decide +kernel⟩, by decide⟩
set_option maxRecDepth 20000 in
theorem wkL_145 : WV RL 145 mX11_odds 2 := ⟨twl_of 1049 rfl rfl, imX11_odds, slX11_odds, izX11, kcX11_odds, ⟨by decide +kernel, by decide +kernel, by decide +kernel⟩, by decide⟩
set_option maxRecDepth 20000 in
theorem wkX11_221 : WV RX11 221 mX11_chance 3 := ⟨twl_of 1053 rfl rfl, imX11_chance, slX11_chance, izX11, kcX11_chance, ⟨by decide +kernel, by decide +kernel, by decide +kernel⟩, by decide⟩
set_option maxRecDepth 20000 in
theorem wkX11_214 : WV RX11 214 mX11_readWithout 2 := ⟨twl_of 1058 rfl rfl, imX11_readWithout, slX11_readWithout, izX11, kcX11_readWithout, ⟨by decide +kernel, by decide +kernel, by decide +kernel⟩, by decide⟩
set_option maxRecDepth 20000 in
theorem wkX11_217 : WV RX11 217 mX11_tellsPart 2 := ⟨twl_of 1062 rfl rfl, imX11_tellsPart, slX11_tellsPart, izX11, kcX11_tellsPart, ⟨by decide +kernel, by decide +kernel, by decide +kernel⟩, by decide⟩
set_option maxRecDepth 20000 in
theorem wkL_149 : WV RL 149 mX11_mid 2 := ⟨twl_of 1066 rfl rfl, imX11_mid, slX11_mid, izX11, kcX11_mid, ⟨by decide +kernel, by decide +kernel, by decide +kernel⟩, by decide⟩
set_option maxRecDepth 20000 in
theorem wkL_153 : WV RL 153 mX11_lots 2 := ⟨twl_of 1070 rfl rfl, imX11_lots, slX11_lots, izX11, kcX11_lots, ⟨by decide +kernel, by decide +kernel, by decide +kernel⟩, by decide⟩
set_option maxRecDepth 20000 in
theorem wkL_157 : WV RL 157 mX11_asked 0 := ⟨twl_of 1079 rfl rfl, imX11_asked, slX11_asked, izX11, kcX11_asked, ⟨by decide +kernel, by decide +kernel, by decide +kernel⟩, by decide⟩
set_option maxRecDepth 20000 in
theorem wkL_162 : WV RL 162 mX11_upper 0 := ⟨twl_of 1083 rfl rfl, imX11_upper, slX11_upper, izX11, kcX11_upper, ⟨by decide +kernel, by decide +kernel, by decide +kernel⟩, by decide⟩
set_option maxRecDepth 20000 in
theorem wkL_166 : WV RL 166 mX11_lower 0 := ⟨twl_of 1087 rfl rfl, imX11_lower, slX11_lower, izX11, kcX11_lower, ⟨by decide +kernel, by decide +kernel, by decide +kernel⟩, by decide⟩
set_option maxRecDepth 20000 in
theorem wkL_170 : WV RL 170 mX11_count 1 := ⟨twl_of 1091 rfl rfl, imX11_count, slX11_count, izX11, kcX11_count, ⟨by decide +kernel, by decide +kernel, by decide +kernel⟩, by decide⟩
set_option maxRecDepth 20000 in
theorem wkX11_235 : WV RX11 235 mX11_framed 0 := ⟨twl_of 1095 rfl rfl, imX11_framed, slX11_framed, izX11, kcX11_framed, ⟨by decide +kernel, by decide +kernel, by decide +kernel⟩, by decide⟩
set_option maxRecDepth 20000 in
theorem wkX11_238 : WV RX11 238 mX11_rowsThere 0 := ⟨twl_of 1099 rfl rfl, imX11_rowsThere, slX11_rowsThere, izX11, kcX11_rowsThere, ⟨by decide +kernel, by decide +kernel, by decide +kernel⟩, by decide⟩
set_option maxRecDepth 20000 in
theorem wkX11_241 : WV RX11 241 mX11_textsThere 0 := ⟨twl_of 1103 rfl rfl, imX11_textsThere, slX11_textsThere, izX11, kcX11_textsThere, ⟨by decide +kernel, by decide +kernel, by decide +kernel⟩, by decide⟩
set_option maxRecDepth 20000 in
theorem wkX11_244 : WV RX11 244 mX11_boxesKept 0 := ⟨twl_of 1107 rfl rfl, imX11_boxesKept, slX11_boxesKept, izX11, kcX11_boxesKept, ⟨by decide +kernel, by decide +kernel, by decide +kernel⟩, by decide⟩
set_option maxRecDepth 20000 in
theorem wkX11_247 : WV RX11 247 mX11_manyOf 1 := ⟨twl_of 1111 rfl rfl, imX11_manyOf, slX11_manyOf, izX11, kcX11_manyOf, ⟨by decide +kernel, by decide +kernel, by decide +kernel⟩, by decide⟩
set_option maxRecDepth 20000 in
theorem wkL_174 : WV RL 174 mX11_finding 0 := ⟨twl_of 1115 rfl rfl, imX11_finding, slX11_finding, izX11, kcX11_finding, ⟨by decide +kernel, by decide +kernel, by decide +kernel⟩, by decide⟩
set_option maxRecDepth 20000 in
theorem wkL_178 : WV RL 178 mX11_findings 1 := ⟨twl_of 1119 rfl rfl, imX11_findings, slX11_findings, izX11, kcX11_findings, ⟨by decide +kernel, by decide +kernel, by decide +kernel⟩, by decide⟩
set_option maxRecDepth 20000 in
theorem wkL_182 : WV RL 182 mX11_digest 0 := ⟨twl_of 1123 rfl rfl, imX11_digest, slX11_digest, izX11, kcX11_digest, ⟨by decide +kernel, by decide +kernel, by decide +kernel⟩, by decide⟩
set_option maxRecDepth 20000 in
theorem wkX11_257 : WV RX11 257 mX11_count 1 := ⟨twl_of 1128 rfl rfl, imX11_count, slX11_count, izX11, kcX11_count, ⟨by decide +kernel, by decide +kernel, by decide +kernel⟩, by decide⟩
set_option maxRecDepth 20000 in
theorem wkX11_260 : WV RX11 260 mX11_mix 1 := ⟨twl_of 1129 rfl rfl, imX11_mix, slX11_mix, izX11, kcX11_mix, ⟨by decide +kernel, by decide +kernel, by decide +kernel⟩, by decide⟩
set_option maxRecDepth 20000 in
theorem wlL_7 : Cond.classLink RL 7 RX10 ∈ twl := twl_of 75 rfl rfl
set_option maxRecDepth 20000 in
theorem wlX10_9 : Cond.classLink RX10 9 RX7 ∈ twl := twl_of 83 rfl rfl
set_option maxRecDepth 20000 in
theorem wfX7_9 : Cond.fieldLink RX7 9 RX7 "places" "[I" ∈ twl := twl_of 90 rfl rfl
set_option maxRecDepth 20000 in
theorem wfX10_92 : Cond.fieldLinkNest RX10 92 RX7 "places" "[I" "BoneRods" ∈ nwl := nwl_of 91 rfl rfl
set_option maxRecDepth 20000 in
theorem wfX7_15 : Cond.fieldLink RX7 15 RX7 "size" "I" ∈ twl := twl_of 92 rfl rfl
set_option maxRecDepth 20000 in
theorem wfX10_103 : Cond.fieldLinkNest RX10 103 RX7 "size" "I" "BoneRods" ∈ nwl := nwl_of 93 rfl rfl
set_option maxRecDepth 20000 in
theorem wlX10_19 : Cond.classLink RX10 19 RX3 ∈ twl := twl_of 100 rfl rfl
set_option maxRecDepth 20000 in
theorem wlX10_26 : Cond.classLink RX10 26 RX9 ∈ twl := twl_of 108 rfl rfl
set_option maxRecDepth 20000 in
theorem wlX10_29 : Cond.classLink RX10 29 RX8 ∈ twl := twl_of 115 rfl rfl
set_option maxRecDepth 20000 in
theorem wlX10_32 : Cond.classLink RX10 32 RX6 ∈ twl := twl_of 122 rfl rfl
set_option maxRecDepth 20000 in
theorem wlX10_35 : Cond.classLink RX10 35 RX1 ∈ twl := twl_of 129 rfl rfl
set_option maxRecDepth 20000 in
theorem wlX10_38 : Cond.classLink RX10 38 RX2 ∈ twl := twl_of 136 rfl rfl
set_option maxRecDepth 20000 in
theorem wlX10_41 : Cond.classLink RX10 41 RX4 ∈ twl := twl_of 143 rfl rfl
set_option maxRecDepth 20000 in
theorem wfX4_7 : Cond.fieldLink RX4 7 RX4 "kind" "LBoneRods$Kind;" ∈ twl := twl_of 150 rfl rfl
set_option maxRecDepth 20000 in
theorem wfX10_144 : Cond.fieldLinkNest RX10 144 RX4 "kind" "LBoneRods$Kind;" "BoneRods" ∈ nwl := nwl_of 151 rfl rfl
set_option maxRecDepth 20000 in
theorem wfX10_327 : Cond.fieldLinkNest RX10 327 RX4 "kindNumber" "I" "BoneRods" ∈ nwl := nwl_of 152 rfl rfl
set_option maxRecDepth 20000 in
theorem wfX10_330 : Cond.fieldLinkNest RX10 330 RX4 "digit" "I" "BoneRods" ∈ nwl := nwl_of 153 rfl rfl
set_option maxRecDepth 20000 in
theorem wfX10_238 : Cond.fieldLinkNest RX10 238 RX4 "mark" "I" "BoneRods" ∈ nwl := nwl_of 154 rfl rfl
set_option maxRecDepth 20000 in
theorem wlX10_50 : Cond.classLink RX10 50 RX0 ∈ twl := twl_of 164 rfl rfl
set_option maxRecDepth 20000 in
theorem wfX0_9 : Cond.fieldLink RX0 9 RX0 "frame" "[I" ∈ twl := twl_of 170 rfl rfl
set_option maxRecDepth 20000 in
theorem wfX10_185 : Cond.fieldLinkNest RX10 185 RX0 "frame" "[I" "BoneRods" ∈ nwl := nwl_of 171 rfl rfl
set_option maxRecDepth 20000 in
theorem wfX0_24 : Cond.fieldLink RX0 24 RX0 "held" "I" ∈ twl := twl_of 172 rfl rfl
set_option maxRecDepth 20000 in
theorem wfX10_175 : Cond.fieldLinkNest RX10 175 RX0 "held" "I" "BoneRods" ∈ nwl := nwl_of 173 rfl rfl
set_option maxRecDepth 20000 in
theorem wfX0_28 : Cond.fieldLink RX0 28 RX0 "overs" "I" ∈ twl := twl_of 174 rfl rfl
set_option maxRecDepth 20000 in
theorem wfX10_290 : Cond.fieldLinkNest RX10 290 RX0 "overs" "I" "BoneRods" ∈ nwl := nwl_of 175 rfl rfl
set_option maxRecDepth 20000 in
theorem wfX0_15 : Cond.fieldLink RX0 15 RX0 "deeds" "[I" ∈ twl := twl_of 176 rfl rfl
set_option maxRecDepth 20000 in
theorem wfX0_18 : Cond.fieldLink RX0 18 RX0 "firsts" "[I" ∈ twl := twl_of 177 rfl rfl
set_option maxRecDepth 20000 in
theorem wfX0_21 : Cond.fieldLink RX0 21 RX0 "seconds" "[I" ∈ twl := twl_of 178 rfl rfl
set_option maxRecDepth 20000 in
theorem wfX0_31 : Cond.fieldLink RX0 31 RX0 "done" "I" ∈ twl := twl_of 179 rfl rfl
set_option maxRecDepth 20000 in
theorem wfX10_191 : Cond.fieldLinkNest RX10 191 RX0 "done" "I" "BoneRods" ∈ nwl := nwl_of 180 rfl rfl
set_option maxRecDepth 20000 in
theorem wfX10_130 : Cond.fieldLinkNest RX10 130 RX0 "there" "Z" "BoneRods" ∈ nwl := nwl_of 181 rfl rfl
set_option maxRecDepth 20000 in
theorem wlX10_61 : Cond.classLink RX10 61 RX5 ∈ twl := twl_of 200 rfl rfl
set_option maxRecDepth 20000 in
theorem wfX5_9 : Cond.fieldLink RX5 9 RX5 "shown" "[I" ∈ twl := twl_of 206 rfl rfl
set_option maxRecDepth 20000 in
theorem wfX10_347 : Cond.fieldLinkNest RX10 347 RX5 "shown" "[I" "BoneRods" ∈ nwl := nwl_of 207 rfl rfl
set_option maxRecDepth 20000 in
theorem wfX5_25 : Cond.fieldLink RX5 25 RX5 "rods" "I" ∈ twl := twl_of 208 rfl rfl
set_option maxRecDepth 20000 in
theorem wfX10_345 : Cond.fieldLinkNest RX10 345 RX5 "rods" "I" "BoneRods" ∈ nwl := nwl_of 209 rfl rfl
set_option maxRecDepth 20000 in
theorem wfX5_15 : Cond.fieldLink RX5 15 RX5 "chosen" "[I" ∈ twl := twl_of 210 rfl rfl
set_option maxRecDepth 20000 in
theorem wfX5_18 : Cond.fieldLink RX5 18 RX5 "best" "[I" ∈ twl := twl_of 211 rfl rfl
set_option maxRecDepth 20000 in
theorem wfX10_224 : Cond.fieldLinkNest RX10 224 RX5 "best" "[I" "BoneRods" ∈ nwl := nwl_of 212 rfl rfl
set_option maxRecDepth 20000 in
theorem wfX5_21 : Cond.fieldLink RX5 21 RX5 "goal" "I" ∈ twl := twl_of 213 rfl rfl
set_option maxRecDepth 20000 in
theorem wfX5_34 : Cond.fieldLink RX5 34 RX5 "length" "I" ∈ twl := twl_of 214 rfl rfl
set_option maxRecDepth 20000 in
theorem wfX5_37 : Cond.fieldLink RX5 37 RX5 "gap" "I" ∈ twl := twl_of 215 rfl rfl
set_option maxRecDepth 20000 in
theorem wfX10_11 : Cond.fieldLink RX10 11 RX10 "rows" "[LBoneRods$Strip;" ∈ twl := twl_of 231 rfl rfl
set_option maxRecDepth 20000 in
theorem wfX10_16 : Cond.fieldLink RX10 16 RX10 "texts" "[LBoneRods$Strip;" ∈ twl := twl_of 232 rfl rfl
set_option maxRecDepth 20000 in
theorem wfX10_21 : Cond.fieldLink RX10 21 RX10 "kindOf" "[LBoneRods$Kind;" ∈ twl := twl_of 233 rfl rfl
set_option maxRecDepth 20000 in
theorem wfX10_43 : Cond.fieldLink RX10 43 RX10 "rods" "[LBoneRods$Rod;" ∈ twl := twl_of 234 rfl rfl
set_option maxRecDepth 20000 in
theorem wfX10_134 : Cond.fieldLink RX10 134 RX10 "rodCount" "I" ∈ twl := twl_of 235 rfl rfl
set_option maxRecDepth 20000 in
theorem wfX10_53 : Cond.fieldLink RX10 53 RX10 "bench" "LBoneRods$Bench;" ∈ twl := twl_of 236 rfl rfl
set_option maxRecDepth 20000 in
theorem wfX10_57 : Cond.fieldLink RX10 57 RX10 "kept" "[LBoneRods$Bench;" ∈ twl := twl_of 237 rfl rfl
set_option maxRecDepth 20000 in
theorem wfX10_64 : Cond.fieldLink RX10 64 RX10 "search" "LBoneRods$Search;" ∈ twl := twl_of 238 rfl rfl
set_option maxRecDepth 20000 in
theorem wfX10_95 : Cond.fieldLink RX10 95 RX10 "told" "I" ∈ twl := twl_of 239 rfl rfl
set_option maxRecDepth 20000 in
theorem wfX10_287 : Cond.fieldLink RX10 287 RX10 "upperTold" "J" ∈ twl := twl_of 240 rfl rfl
set_option maxRecDepth 20000 in
theorem wfX10_68 : Cond.fieldLink RX10 68 RX10 "lowerTold" "J" ∈ twl := twl_of 241 rfl rfl
set_option maxRecDepth 20000 in
theorem wfX10_303 : Cond.fieldLink RX10 303 RX10 "latestFinding" "I" ∈ twl := twl_of 242 rfl rfl
set_option maxRecDepth 20000 in
theorem wfX10_72 : Cond.fieldLink RX10 72 RX10 "findingTimes" "[I" ∈ twl := twl_of 243 rfl rfl
set_option maxRecDepth 20000 in
theorem wfX10_318 : Cond.fieldLink RX10 318 RX10 "LETTERS" "[I" ∈ twl := twl_of 344 rfl rfl
set_option maxRecDepth 20000 in
theorem wcX10_215 : Cond.constant RX10 215 99999999 ∈ twl := twl_of 539 rfl rfl
set_option maxRecDepth 20000 in
theorem wfX5_53 : Cond.fieldLinkNest RX5 53 RX10 "TENS" "[I" "BoneRods" ∈ nwl := nwl_of 559 rfl rfl
set_option maxRecDepth 20000 in
theorem wcX10_231 : Cond.constant RX10 231 100000000 ∈ twl := twl_of 572 rfl rfl
set_option maxRecDepth 20000 in
theorem wcX10_317 : Cond.constant RX10 317 999999999 ∈ twl := twl_of 585 rfl rfl
set_option maxRecDepth 20000 in
theorem wcX10_273 : Cond.constantLong RX10 273 12 ∈ twl := twl_of 641 rfl rfl
set_option maxRecDepth 20000 in
theorem wcX10_279 : Cond.constantLong RX10 279 2147483647 ∈ twl := twl_of 657 rfl rfl
set_option maxRecDepth 20000 in
theorem wcX10_281 : Cond.constantLong RX10 281 48271 ∈ twl := twl_of 658 rfl rfl
set_option maxRecDepth 20000 in
theorem wcX10_349 : Cond.constantLong RX10 349 8 ∈ twl := twl_of 663 rfl rfl
set_option maxRecDepth 20000 in
theorem wcX10_351 : Cond.constantLong RX10 351 4 ∈ twl := twl_of 664 rfl rfl
set_option maxRecDepth 20000 in
theorem wcX10_306 : Cond.constantLong RX10 306 17 ∈ twl := twl_of 704 rfl rfl
set_option maxRecDepth 20000 in
theorem wcX10_308 : Cond.constantLong RX10 308 31 ∈ twl := twl_of 705 rfl rfl
set_option maxRecDepth 20000 in
theorem wlL_10 : Cond.classLink RL 10 RX11 ∈ twl := twl_of 710 rfl rfl
set_option maxRecDepth 20000 in
theorem wfX11_7 : Cond.fieldLink RX11 7 RX11 "w" "[I" ∈ twl := twl_of 716 rfl rfl
set_option maxRecDepth 20000 in
theorem wfX11_13 : Cond.fieldLink RX11 13 RX11 "rowSize" "[I" ∈ twl := twl_of 717 rfl rfl
set_option maxRecDepth 20000 in
theorem wfX11_16 : Cond.fieldLink RX11 16 RX11 "ints" "[I" ∈ twl := twl_of 718 rfl rfl
set_option maxRecDepth 20000 in
theorem wfX11_19 : Cond.fieldLink RX11 19 RX11 "textSize" "[I" ∈ twl := twl_of 719 rfl rfl
set_option maxRecDepth 20000 in
theorem wfX11_22 : Cond.fieldLink RX11 22 RX11 "bytes" "[I" ∈ twl := twl_of 720 rfl rfl
set_option maxRecDepth 20000 in
theorem wfX11_56 : Cond.fieldLink RX11 56 RX11 "found" "I" ∈ twl := twl_of 721 rfl rfl
set_option maxRecDepth 20000 in
theorem wfX11_25 : Cond.fieldLink RX11 25 RX11 "finds" "[I" ∈ twl := twl_of 722 rfl rfl
set_option maxRecDepth 20000 in
theorem wfX11_60 : Cond.fieldLink RX11 60 RX11 "asked" "I" ∈ twl := twl_of 723 rfl rfl
set_option maxRecDepth 20000 in
theorem wfX11_63 : Cond.fieldLink RX11 63 RX11 "upper" "J" ∈ twl := twl_of 724 rfl rfl
set_option maxRecDepth 20000 in
theorem wfX11_28 : Cond.fieldLink RX11 28 RX11 "lower" "J" ∈ twl := twl_of 725 rfl rfl
set_option maxRecDepth 20000 in
theorem wfX11_32 : Cond.fieldLink RX11 32 RX11 "held" "[I" ∈ twl := twl_of 726 rfl rfl
set_option maxRecDepth 20000 in
theorem wfX11_95 : Cond.fieldLink RX11 95 RX11 "from" "I" ∈ twl := twl_of 727 rfl rfl
set_option maxRecDepth 20000 in
theorem wfX11_89 : Cond.fieldLink RX11 89 RX11 "place" "I" ∈ twl := twl_of 728 rfl rfl
set_option maxRecDepth 20000 in
theorem wfX11_92 : Cond.fieldLink RX11 92 RX11 "end" "I" ∈ twl := twl_of 729 rfl rfl
set_option maxRecDepth 20000 in
theorem wfX11_105 : Cond.fieldLink RX11 105 RX11 "readMany" "I" ∈ twl := twl_of 730 rfl rfl
set_option maxRecDepth 20000 in
theorem wfX11_35 : Cond.fieldLink RX11 35 RX11 "read" "[I" ∈ twl := twl_of 731 rfl rfl
set_option maxRecDepth 20000 in
theorem wfX11_38 : Cond.fieldLink RX11 38 RX11 "tried" "[I" ∈ twl := twl_of 732 rfl rfl
set_option maxRecDepth 20000 in
theorem wfX11_41 : Cond.fieldLink RX11 41 RX11 "soFar" "[I" ∈ twl := twl_of 733 rfl rfl
set_option maxRecDepth 20000 in
theorem wfX11_44 : Cond.fieldLink RX11 44 RX11 "best" "[I" ∈ twl := twl_of 734 rfl rfl
set_option maxRecDepth 20000 in
theorem wfX11_176 : Cond.fieldLink RX11 176 RX11 "depth" "I" ∈ twl := twl_of 735 rfl rfl
set_option maxRecDepth 20000 in
theorem wfX11_47 : Cond.fieldLink RX11 47 RX11 "turnRod" "[I" ∈ twl := twl_of 736 rfl rfl
set_option maxRecDepth 20000 in
theorem wfX11_50 : Cond.fieldLink RX11 50 RX11 "turnRead" "[I" ∈ twl := twl_of 737 rfl rfl
set_option maxRecDepth 20000 in
theorem wfX11_53 : Cond.fieldLink RX11 53 RX11 "turnBest" "[I" ∈ twl := twl_of 738 rfl rfl
set_option maxRecDepth 20000 in
theorem wfX11_252 : Cond.fieldLink RX11 252 RX11 "h" "J" ∈ twl := twl_of 739 rfl rfl
set_option maxRecDepth 20000 in
theorem wcX11_66 : Cond.constantLong RX11 66 5 ∈ twl := twl_of 796 rfl rfl
set_option maxRecDepth 20000 in
theorem wcX11_72 : Cond.constantLong RX11 72 3 ∈ twl := twl_of 835 rfl rfl
set_option maxRecDepth 20000 in
theorem wcX11_74 : Cond.constantLong RX11 74 9 ∈ twl := twl_of 859 rfl rfl
set_option maxRecDepth 20000 in
theorem wcX11_136 : Cond.constantLong RX11 136 4 ∈ twl := twl_of 872 rfl rfl
set_option maxRecDepth 20000 in
theorem wcX11_164 : Cond.constantLong RX11 164 2 ∈ twl := twl_of 952 rfl rfl
set_option maxRecDepth 20000 in
theorem wcX11_179 : Cond.constantLong RX11 179 99999999 ∈ twl := twl_of 985 rfl rfl
set_option maxRecDepth 20000 in
theorem wcX11_191 : Cond.constantLong RX11 191 9999 ∈ twl := twl_of 1006 rfl rfl
set_option maxRecDepth 20000 in
theorem wcX11_193 : Cond.constant RX11 193 1000000000 ∈ twl := twl_of 1007 rfl rfl
set_option maxRecDepth 20000 in
theorem wcX11_194 : Cond.constantLong RX11 194 999999999 ∈ twl := twl_of 1016 rfl rfl
set_option maxRecDepth 20000 in
theorem wcX11_212 : Cond.constantLong RX11 212 12 ∈ twl := twl_of 1057 rfl rfl
set_option maxRecDepth 20000 in
theorem wcX11_225 : Cond.constantLong RX11 225 20 ∈ twl := twl_of 1074 rfl rfl
set_option maxRecDepth 20000 in
theorem wcX11_227 : Cond.constantLong RX11 227 2147483646 ∈ twl := twl_of 1075 rfl rfl
set_option maxRecDepth 20000 in
theorem wcX11_229 : Cond.constantLong RX11 229 48271 ∈ twl := twl_of 1076 rfl rfl
set_option maxRecDepth 20000 in
theorem wcX11_231 : Cond.constantLong RX11 231 2147483647 ∈ twl := twl_of 1077 rfl rfl
set_option maxRecDepth 20000 in
theorem wcX11_233 : Cond.constantLong RX11 233 8 ∈ twl := twl_of 1078 rfl rfl
set_option maxRecDepth 20000 in
theorem wcX11_255 : Cond.constantLong RX11 255 17 ∈ twl := twl_of 1127 rfl rfl
set_option maxRecDepth 20000 in
theorem wcX11_250 : Cond.constantLong RX11 250 31 ∈ twl := twl_of 1133 rfl rfl
set_option maxRecDepth 20000 in
theorem wcX11_264 : Cond.constantLong RX11 264 (-1) ∈ twl := twl_of 1134 rfl rfl
set_option maxRecDepth 20000 in
theorem wyX1_X9 : Cond.castable RX1 RX9 ∈ nwl := nwl_of 1136 rfl rfl
set_option maxRecDepth 20000 in
theorem wyX2_X8 : Cond.castable RX2 RX8 ∈ nwl := nwl_of 1137 rfl rfl
set_option maxRecDepth 20000 in
theorem wyX9_X3 : Cond.castable RX9 RX3 ∈ nwl := nwl_of 1138 rfl rfl
set_option maxRecDepth 20000 in
theorem wyX8_X3 : Cond.castable RX8 RX3 ∈ nwl := nwl_of 1139 rfl rfl
set_option maxRecDepth 20000 in
theorem wyX6_X3 : Cond.castable RX6 RX3 ∈ nwl := nwl_of 1140 rfl rfl
set_option maxRecDepth 20000 in
theorem wyX1_X3 : Cond.castable RX1 RX3 ∈ nwl := nwl_of 1141 rfl rfl
set_option maxRecDepth 20000 in
theorem wyX2_X3 : Cond.castable RX2 RX3 ∈ nwl := nwl_of 1142 rfl rfl
set_option maxRecDepth 20000 in
theorem nuX0 : ∀ w ∈ wsX00, w ∈ twl := twl_mem ngX0 (by decide +kernel)
set_option maxRecDepth 20000 in
theorem nuX1 : ∀ w ∈ wsX10, w ∈ twl := twl_mem ngX1 (by decide +kernel)
set_option maxRecDepth 20000 in
theorem nuX2 : ∀ w ∈ wsX20, w ∈ twl := twl_mem ngX2 (by decide +kernel)
set_option maxRecDepth 20000 in
theorem nuX3 : ∀ w ∈ wsX30, w ∈ twl := twl_mem ngX3 (by decide +kernel)
set_option maxRecDepth 20000 in
theorem nuX4 : ∀ w ∈ wsX40, w ∈ twl := twl_mem ngX4 (by decide +kernel)
set_option maxRecDepth 20000 in
theorem nuX5 : ∀ w ∈ wsX50, w ∈ twl := twl_mem ngX5 (by decide +kernel)
set_option maxRecDepth 20000 in
theorem nuX6 : ∀ w ∈ wsX60, w ∈ twl := twl_mem ngX6 (by decide +kernel)
set_option maxRecDepth 20000 in
theorem nuX7 : ∀ w ∈ wsX70, w ∈ twl := twl_mem ngX7 (by decide +kernel)
set_option maxRecDepth 20000 in
theorem nuX8 : ∀ w ∈ wsX80, w ∈ twl := twl_mem ngX8 (by decide +kernel)
set_option maxRecDepth 20000 in
theorem nuX9 : ∀ w ∈ wsX90, w ∈ twl := twl_mem ngX9 (by decide +kernel)
set_option maxRecDepth 20000 in
theorem nuX10 : ∀ w ∈ wsX100, w ∈ twl := twl_mem ngX10 (by decide +kernel)
set_option maxRecDepth 20000 in
theorem nuX11 : ∀ w ∈ wsX110, w ∈ twl := twl_mem ngX11 (by decide +kernel)
