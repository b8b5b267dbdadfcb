abbrev mi_J6_bitCount_0f7a4 : zM := (yJ6_bitCount_0f7a4, cJ6_bitCount_0f7a4, 1, some .int)
abbrev mi_J9_max_7cf53 : zM := (yJ9_max_7cf53, cJ9_max_7cf53, 2, some .int)
abbrev mi_J9_min_7cf53 : zM := (yJ9_min_7cf53, cJ9_min_7cf53, 2, some .int)
abbrev mi_X0_become : zM := (yX0_become, cX0_become, 3, none)
abbrev mi_X0_behindPress : zM := (yX0_behindPress, cX0_behindPress, 4, some .int)
abbrev mi_X0_behindTouch : zM := (yX0_behindTouch, cX0_behindTouch, 13, some .int)
abbrev mi_X0_changed : zM := (yX0_changed, cX0_changed, 3, some .int)
abbrev mi_X0_init : zM := (yX0_init, cX0_init, 1, none)
abbrev mi_X0_isA : zM := (yX0_isA, cX0_isA, 2, some .boolean)
abbrev mi_X0_kindOf : zM := (yX0_kindOf, cX0_kindOf, 3, some .int)
abbrev mi_X0_lastStep : zM := (yX0_lastStep, cX0_lastStep, 1, some .int)
abbrev mi_X0_showing : zM := (yX0_showing, cX0_showing, 2, some .int)
abbrev mi_X0_takeFrom : zM := (yX0_takeFrom, cX0_takeFrom, 2, none)
abbrev mi_X1_begin : zM := (yX1_begin, cX1_begin, 2, none)
abbrev mi_X1_deeds : zM := (yX1_deeds, cX1_deeds, 1, some .int)
abbrev mi_X1_forget : zM := (yX1_forget, cX1_forget, 1, none)
abbrev mi_X1_go : zM := (yX1_go, cX1_go, 4, none)
abbrev mi_X1_goBack : zM := (yX1_goBack, cX1_goBack, 2, none)
abbrev mi_X1_init : zM := (yX1_init, cX1_init, 1, none)
abbrev mi_X1_isThere : zM := (yX1_isThere, cX1_isThere, 1, some .boolean)
abbrev mi_X1_number : zM := (yX1_number, cX1_number, 1, some .int)
abbrev mi_X1_room : zM := (yX1_room, cX1_room, 1, some .int)
abbrev mi_X1_state : zM := (yX1_state, cX1_state, 1, some .int)
abbrev mi_X1_takeFrom : zM := (yX1_takeFrom, cX1_takeFrom, 3, none)
abbrev mi_X2_faultOf : zM := (yX2_faultOf, cX2_faultOf, 8, some .int)
abbrev mi_X2_init : zM := (yX2_init, cX2_init, 1, none)
abbrev mi_X2_kindBy : zM := (yX2_kindBy, cX2_kindBy, 1, some .int)
abbrev mi_X3_change : zM := (yX3_change, cX3_change, 3, none)
abbrev mi_X3_has : zM := (yX3_has, cX3_has, 2, some .boolean)
abbrev mi_X3_hasRun : zM := (yX3_hasRun, cX3_hasRun, 3, some .boolean)
abbrev mi_X3_init : zM := (yX3_init, cX3_init, 2, none)
abbrev mi_X3_isThere : zM := (yX3_isThere, cX3_isThere, 1, some .boolean)
abbrev mi_X3_make : zM := (yX3_make, cX3_make, 4, none)
abbrev mi_X3_mixedInto : zM := (yX3_mixedInto, cX3_mixedInto, 6, some .long)
abbrev mi_X3_remove : zM := (yX3_remove, cX3_remove, 1, none)
abbrev mi_X3_size : zM := (yX3_size, cX3_size, 1, some .int)
abbrev mi_X3_takeRun : zM := (yX3_takeRun, cX3_takeRun, 5, none)
abbrev mi_X3_total : zM := (yX3_total, cX3_total, 4, some .long)
abbrev mi_X3_valueAt : zM := (yX3_valueAt, cX3_valueAt, 2, some .int)
abbrev mi_X4_above : zM := (yX4_above, cX4_above, 1, some .int)
abbrev mi_X4_broken : zM := (yX4_broken, cX4_broken, 1, some .int)
abbrev mi_X4_join : zM := (yX4_join, cX4_join, 3, some .int)
abbrev mi_X4_of : zM := (yX4_of, cX4_of, 2, some .int)
abbrev mi_X4_ones : zM := (yX4_ones, cX4_ones, 1, some .int)
abbrev mi_X4_total : zM := (yX4_total, cX4_total, 2, some .int)
abbrev mi_X4_twos : zM := (yX4_twos, cX4_twos, 1, some .int)
abbrev mi_X4_with : zM := (yX4_with, cX4_with, 6, some .int)
abbrev mi_X4_withBroken : zM := (yX4_withBroken, cX4_withBroken, 2, some .int)
abbrev mi_X5_asked : zM := (yX5_asked, cX5_asked, 1, some .int)
abbrev mi_X5_at : zM := (yX5_at, cX5_at, 5, some .int)
abbrev mi_X5_commonDivisor : zM := (yX5_commonDivisor, cX5_commonDivisor, 11, some .long)
abbrev mi_X5_copy : zM := (yX5_copy, cX5_copy, 8, some .int)
abbrev mi_X5_count : zM := (yX5_count, cX5_count, 2, some .int)
abbrev mi_X5_countKept : zM := (yX5_countKept, cX5_countKept, 3, some .int)
abbrev mi_X5_countRows : zM := (yX5_countRows, cX5_countRows, 4, some .int)
abbrev mi_X5_counted : zM := (yX5_counted, cX5_counted, 2, some .int)
abbrev mi_X5_countedOfWall : zM := (yX5_countedOfWall, cX5_countedOfWall, 3, some .int)
abbrev mi_X5_crack : zM := (yX5_crack, cX5_crack, 2, some .int)
abbrev mi_X5_digest : zM := (yX5_digest, cX5_digest, 5, some .long)
abbrev mi_X5_doByLot : zM := (yX5_doByLot, cX5_doByLot, 4, none)
abbrev mi_X5_doCrack : zM := (yX5_doCrack, cX5_doCrack, 2, none)
abbrev mi_X5_doPress : zM := (yX5_doPress, cX5_doPress, 2, none)
abbrev mi_X5_doSet : zM := (yX5_doSet, cX5_doSet, 3, none)
abbrev mi_X5_duel : zM := (yX5_duel, cX5_duel, 4, some .int)
abbrev mi_X5_fault : zM := (yX5_fault, cX5_fault, 4, some .int)
abbrev mi_X5_fewest : zM := (yX5_fewest, cX5_fewest, 7, some .int)
abbrev mi_X5_fillBehindSets : zM := (yX5_fillBehindSets, cX5_fillBehindSets, 5, none)
abbrev mi_X5_finding : zM := (yX5_finding, cX5_finding, 1, some .int)
abbrev mi_X5_findings : zM := (yX5_findings, cX5_findings, 2, some .int)
abbrev mi_X5_fits : zM := (yX5_fits, cX5_fits, 5, some .boolean)
abbrev mi_X5_found : zM := (yX5_found, cX5_found, 2, some .int)
abbrev mi_X5_greatestPart : zM := (yX5_greatestPart, cX5_greatestPart, 6, some .int)
abbrev mi_X5_hasStep : zM := (yX5_hasStep, cX5_hasStep, 3, some .boolean)
abbrev mi_X5_init : zM := (yX5_init, cX5_init, 2, none)
abbrev mi_X5_isLamp : zM := (yX5_isLamp, cX5_isLamp, 2, some .boolean)
abbrev mi_X5_keep : zM := (yX5_keep, cX5_keep, 3, some .int)
abbrev mi_X5_keptAt : zM := (yX5_keptAt, cX5_keptAt, 2, some (.object "TouchedLamps$Past"))
abbrev mi_X5_kinds : zM := (yX5_kinds, cX5_kinds, 5, some .int)
abbrev mi_X5_kindsBy : zM := (yX5_kindsBy, cX5_kindsBy, 6, some .int)
abbrev mi_X5_lamp : zM := (yX5_lamp, cX5_lamp, 3, some .int)
abbrev mi_X5_lay : zM := (yX5_lay, cX5_lay, 7, some .int)
abbrev mi_X5_lots : zM := (yX5_lots, cX5_lots, 6, some .int)
abbrev mi_X5_lower : zM := (yX5_lower, cX5_lower, 1, some .long)
abbrev mi_X5_makeAnew : zM := (yX5_makeAnew, cX5_makeAnew, 5, some .int)
abbrev mi_X5_mark : zM := (yX5_mark, cX5_mark, 4, some .int)
abbrev mi_X5_mean : zM := (yX5_mean, cX5_mean, 5, some .int)
abbrev mi_X5_mid : zM := (yX5_mid, cX5_mid, 8, some .int)
abbrev mi_X5_most : zM := (yX5_most, cX5_most, 5, some .int)
abbrev mi_X5_next : zM := (yX5_next, cX5_next, 10, some .int)
abbrev mi_X5_odds : zM := (yX5_odds, cX5_odds, 12, some .int)
abbrev mi_X5_on : zM := (yX5_on, cX5_on, 3, some .int)
abbrev mi_X5_press : zM := (yX5_press, cX5_press, 2, some .int)
abbrev mi_X5_put : zM := (yX5_put, cX5_put, 7, some .int)
abbrev mi_X5_reaches : zM := (yX5_reaches, cX5_reaches, 9, some .boolean)
abbrev mi_X5_refusalOfMissing : zM := (yX5_refusalOfMissing, cX5_refusalOfMissing, 2, some .int)
abbrev mi_X5_refusalOfPairs : zM := (yX5_refusalOfPairs, cX5_refusalOfPairs, 5, some .int)
abbrev mi_X5_refusalOfPlace : zM := (yX5_refusalOfPlace, cX5_refusalOfPlace, 4, some .int)
abbrev mi_X5_refusalOfSet : zM := (yX5_refusalOfSet, cX5_refusalOfSet, 2, some .int)
abbrev mi_X5_row : zM := (yX5_row, cX5_row, 3, some .int)
abbrev mi_X5_rowAt : zM := (yX5_rowAt, cX5_rowAt, 2, some (.object "TouchedLamps$Row"))
abbrev mi_X5_set : zM := (yX5_set, cX5_set, 4, some .int)
abbrev mi_X5_showingBehind : zM := (yX5_showingBehind, cX5_showingBehind, 2, some .int)
abbrev mi_X5_shownAs : zM := (yX5_shownAs, cX5_shownAs, 4, some .int)
abbrev mi_X5_shows : zM := (yX5_shows, cX5_shows, 6, some .int)
abbrev mi_X5_sums : zM := (yX5_sums, cX5_sums, 6, some .int)
abbrev mi_X5_sure : zM := (yX5_sure, cX5_sure, 7, some .int)
abbrev mi_X5_tear : zM := (yX5_tear, cX5_tear, 4, some .int)
abbrev mi_X5_tellAsked : zM := (yX5_tellAsked, cX5_tellAsked, 2, some .int)
abbrev mi_X5_tellParts : zM := (yX5_tellParts, cX5_tellParts, 7, none)
abbrev mi_X5_text : zM := (yX5_text, cX5_text, 3, some .int)
abbrev mi_X5_textAt : zM := (yX5_textAt, cX5_textAt, 2, some (.object "TouchedLamps$Row"))
abbrev mi_X5_toldOfLamp : zM := (yX5_toldOfLamp, cX5_toldOfLamp, 4, some .int)
abbrev mi_X5_touched : zM := (yX5_touched, cX5_touched, 6, some .int)
abbrev mi_X5_touchedBy : zM := (yX5_touchedBy, cX5_touchedBy, 1, some .int)
abbrev mi_X5_twelfths : zM := (yX5_twelfths, cX5_twelfths, 4, some .int)
abbrev mi_X5_undo : zM := (yX5_undo, cX5_undo, 3, some .int)
abbrev mi_X5_upper : zM := (yX5_upper, cX5_upper, 1, some .long)
abbrev mi_X5_wall : zM := (yX5_wall, cX5_wall, 5, some .int)
abbrev mi_X5_ways : zM := (yX5_ways, cX5_ways, 6, some .int)
abbrev mi_X5_which : zM := (yX5_which, cX5_which, 5, some .int)
abbrev mi_X5_wonBy : zM := (yX5_wonBy, cX5_wonBy, 14, some .int)
abbrev mi_X6_after : zM := (yX6_after, cX6_after, 4, some .int)
abbrev mi_X6_allWays : zM := (yX6_allWays, cX6_allWays, 5, some .long)
abbrev mi_X6_asked : zM := (yX6_asked, cX6_asked, 1, some .int)
abbrev mi_X6_at : zM := (yX6_at, cX6_at, 3, some .int)
abbrev mi_X6_begin : zM := (yX6_begin, cX6_begin, 2, none)
abbrev mi_X6_bitsOf : zM := (yX6_bitsOf, cX6_bitsOf, 3, some .int)
abbrev mi_X6_copy : zM := (yX6_copy, cX6_copy, 7, some .int)
abbrev mi_X6_count : zM := (yX6_count, cX6_count, 2, some .int)
abbrev mi_X6_crack : zM := (yX6_crack, cX6_crack, 2, some .int)
abbrev mi_X6_digest : zM := (yX6_digest, cX6_digest, 5, some .long)
abbrev mi_X6_doesShow : zM := (yX6_doesShow, cX6_doesShow, 2, some .boolean)
abbrev mi_X6_doesTouch : zM := (yX6_doesTouch, cX6_doesTouch, 4, some .boolean)
abbrev mi_X6_duel : zM := (yX6_duel, cX6_duel, 10, some .int)
abbrev mi_X6_factOf : zM := (yX6_factOf, cX6_factOf, 3, some .int)
abbrev mi_X6_fault : zM := (yX6_fault, cX6_fault, 2, some .int)
abbrev mi_X6_fewest : zM := (yX6_fewest, cX6_fewest, 8, some .int)
abbrev mi_X6_find : zM := (yX6_find, cX6_find, 2, some .int)
abbrev mi_X6_finding : zM := (yX6_finding, cX6_finding, 1, some .int)
abbrev mi_X6_findings : zM := (yX6_findings, cX6_findings, 2, some .int)
abbrev mi_X6_flipped : zM := (yX6_flipped, cX6_flipped, 2, some .int)
abbrev mi_X6_fraction : zM := (yX6_fraction, cX6_fraction, 11, some .int)
abbrev mi_X6_has : zM := (yX6_has, cX6_has, 2, some .boolean)
abbrev mi_X6_in : zM := (yX6_in, cX6_in, 3, some .boolean)
abbrev mi_X6_init : zM := (yX6_init, cX6_init, 2, none)
abbrev mi_X6_isButton : zM := (yX6_isButton, cX6_isButton, 1, some .boolean)
abbrev mi_X6_isBy : zM := (yX6_isBy, cX6_isBy, 4, some .boolean)
abbrev mi_X6_isLamp : zM := (yX6_isLamp, cX6_isLamp, 2, some .boolean)
abbrev mi_X6_isPicture : zM := (yX6_isPicture, cX6_isPicture, 1, some .boolean)
abbrev mi_X6_isRow : zM := (yX6_isRow, cX6_isRow, 1, some .boolean)
abbrev mi_X6_isText : zM := (yX6_isText, cX6_isText, 1, some .boolean)
abbrev mi_X6_isThree : zM := (yX6_isThree, cX6_isThree, 1, some .boolean)
abbrev mi_X6_keep : zM := (yX6_keep, cX6_keep, 3, some .int)
abbrev mi_X6_kindOf : zM := (yX6_kindOf, cX6_kindOf, 1, some .int)
abbrev mi_X6_kinds : zM := (yX6_kinds, cX6_kinds, 4, some .int)
abbrev mi_X6_kindsBy : zM := (yX6_kindsBy, cX6_kindsBy, 7, some .int)
abbrev mi_X6_lamp : zM := (yX6_lamp, cX6_lamp, 3, some .int)
abbrev mi_X6_lay : zM := (yX6_lay, cX6_lay, 5, some .int)
abbrev mi_X6_lot : zM := (yX6_lot, cX6_lot, 4, none)
abbrev mi_X6_lots : zM := (yX6_lots, cX6_lots, 6, some .int)
abbrev mi_X6_lower : zM := (yX6_lower, cX6_lower, 1, some .long)
abbrev mi_X6_mark : zM := (yX6_mark, cX6_mark, 5, some .int)
abbrev mi_X6_mean : zM := (yX6_mean, cX6_mean, 5, some .int)
abbrev mi_X6_mid : zM := (yX6_mid, cX6_mid, 9, some .int)
abbrev mi_X6_most : zM := (yX6_most, cX6_most, 5, some .int)
abbrev mi_X6_next : zM := (yX6_next, cX6_next, 10, some .int)
abbrev mi_X6_now : zM := (yX6_now, cX6_now, 2, some .int)
abbrev mi_X6_odds : zM := (yX6_odds, cX6_odds, 10, some .int)
abbrev mi_X6_on : zM := (yX6_on, cX6_on, 3, some .int)
abbrev mi_X6_pairs : zM := (yX6_pairs, cX6_pairs, 4, some .int)
abbrev mi_X6_press : zM := (yX6_press, cX6_press, 2, some .int)
abbrev mi_X6_pressOn : zM := (yX6_pressOn, cX6_pressOn, 6, none)
abbrev mi_X6_put : zM := (yX6_put, cX6_put, 5, some .int)
abbrev mi_X6_read : zM := (yX6_read, cX6_read, 5, some .int)
abbrev mi_X6_row : zM := (yX6_row, cX6_row, 4, some .int)
abbrev mi_X6_set : zM := (yX6_set, cX6_set, 4, some .int)
abbrev mi_X6_shown : zM := (yX6_shown, cX6_shown, 1, some .int)
abbrev mi_X6_shownBehind : zM := (yX6_shownBehind, cX6_shownBehind, 2, some .int)
abbrev mi_X6_shownBut : zM := (yX6_shownBut, cX6_shownBut, 3, some .int)
abbrev mi_X6_shownBy : zM := (yX6_shownBy, cX6_shownBy, 5, some .int)
abbrev mi_X6_shownByCode : zM := (yX6_shownByCode, cX6_shownByCode, 5, some .int)
abbrev mi_X6_shows : zM := (yX6_shows, cX6_shows, 4, some .int)
abbrev mi_X6_stepsOf : zM := (yX6_stepsOf, cX6_stepsOf, 1, some .int)
abbrev mi_X6_sumOf : zM := (yX6_sumOf, cX6_sumOf, 4, some .int)
abbrev mi_X6_sums : zM := (yX6_sums, cX6_sums, 7, some .int)
abbrev mi_X6_sure : zM := (yX6_sure, cX6_sure, 6, some .int)
abbrev mi_X6_take : zM := (yX6_take, cX6_take, 2, none)
abbrev mi_X6_tear : zM := (yX6_tear, cX6_tear, 2, some .int)
abbrev mi_X6_text : zM := (yX6_text, cX6_text, 4, some .int)
abbrev mi_X6_thereAre : zM := (yX6_thereAre, cX6_thereAre, 4, some .int)
abbrev mi_X6_told : zM := (yX6_told, cX6_told, 2, some .int)
abbrev mi_X6_touched : zM := (yX6_touched, cX6_touched, 5, some .int)
abbrev mi_X6_touchedBy : zM := (yX6_touchedBy, cX6_touchedBy, 3, some .int)
abbrev mi_X6_undo : zM := (yX6_undo, cX6_undo, 3, some .int)
abbrev mi_X6_upper : zM := (yX6_upper, cX6_upper, 1, some .long)
abbrev mi_X6_wall : zM := (yX6_wall, cX6_wall, 3, some .int)
abbrev mi_X6_ways : zM := (yX6_ways, cX6_ways, 5, some .int)
abbrev mi_X6_waysOf : zM := (yX6_waysOf, cX6_waysOf, 7, some .long)
abbrev mi_X6_which : zM := (yX6_which, cX6_which, 4, some .int)
abbrev mi_X6_worthOf : zM := (yX6_worthOf, cX6_worthOf, 7, some .int)
abbrev mi_X6_wouldShow : zM := (yX6_wouldShow, cX6_wouldShow, 6, some .boolean)
theorem zat {w : Cond} (i : Nat) (h : lw_tbl[i]? = some w) (g : goodWord w = true) : w ∈ ztbl := zmem (List.mem_of_getElem? h) g
theorem mk_J6_bitCount_0f7a4 : zKS mi_J6_bitCount_0f7a4 1 := ⟨⟨zat 413 (by decide +kernel) rfl, zat 62 (by decide +kernel) rfl, zat 414 (by decide +kernel) rfl⟩, ⟨by decide +kernel, by decide +kernel, by decide +kernel⟩, by decide⟩
theorem mk_J9_max_7cf53 : zKS mi_J9_max_7cf53 2 := ⟨⟨zat 139 (by decide +kernel) rfl, zat 58 (by decide +kernel) rfl, zat 140 (by decide +kernel) rfl⟩, ⟨by decide +kernel, by decide +kernel, by decide +kernel⟩, by decide⟩
theorem mk_J9_min_7cf53 : zKS mi_J9_min_7cf53 2 := ⟨⟨zat 593 (by decide +kernel) rfl, zat 58 (by decide +kernel) rfl, zat 594 (by decide +kernel) rfl⟩, ⟨by decide +kernel, by decide +kernel, by decide +kernel⟩, by decide⟩
theorem mk_X0_become : zKV mi_X0_become 2 := ⟨⟨zat 317 (by decide +kernel) rfl, zat 318 (by decide +kernel) rfl, zat 55 (by decide +kernel) rfl, zat 319 (by decide +kernel) rfl⟩, ⟨by decide +kernel, by decide +kernel, by decide +kernel⟩, by decide⟩
theorem mk_X0_behindPress : zKV mi_X0_behindPress 3 := ⟨⟨zat 432 (by decide +kernel) rfl, zat 433 (by decide +kernel) rfl, zat 55 (by decide +kernel) rfl, zat 434 (by decide +kernel) rfl⟩, ⟨by decide +kernel, by decide +kernel, by decide +kernel⟩, by decide⟩
theorem mk_X0_behindTouch : zKV mi_X0_behindTouch 4 := ⟨⟨zat 400 (by decide +kernel) rfl, zat 401 (by decide +kernel) rfl, zat 55 (by decide +kernel) rfl, zat 402 (by decide +kernel) rfl⟩, ⟨by decide +kernel, by decide +kernel, by decide +kernel⟩, by decide⟩
theorem mk_X0_changed : zKS mi_X0_changed 3 := ⟨⟨zat 321 (by decide +kernel) rfl, zat 55 (by decide +kernel) rfl, zat 322 (by decide +kernel) rfl⟩, ⟨by decide +kernel, by decide +kernel, by decide +kernel⟩, by decide⟩
theorem mk_X0_isA : zKS mi_X0_isA 2 := ⟨⟨zat 314 (by decide +kernel) rfl, zat 55 (by decide +kernel) rfl, zat 315 (by decide +kernel) rfl⟩, ⟨by decide +kernel, by decide +kernel, by decide +kernel⟩, by decide⟩
theorem mk_X0_kindOf : zKV mi_X0_kindOf 1 := ⟨⟨zat 375 (by decide +kernel) rfl, zat 376 (by decide +kernel) rfl, zat 55 (by decide +kernel) rfl, zat 377 (by decide +kernel) rfl⟩, ⟨by decide +kernel, by decide +kernel, by decide +kernel⟩, by decide⟩
theorem mk_X0_lastStep : zKS mi_X0_lastStep 1 := ⟨⟨zat 311 (by decide +kernel) rfl, zat 55 (by decide +kernel) rfl, zat 312 (by decide +kernel) rfl⟩, ⟨by decide +kernel, by decide +kernel, by decide +kernel⟩, by decide⟩
theorem mk_X0_showing : zKV mi_X0_showing 1 := ⟨⟨zat 382 (by decide +kernel) rfl, zat 383 (by decide +kernel) rfl, zat 55 (by decide +kernel) rfl, zat 384 (by decide +kernel) rfl⟩, ⟨by decide +kernel, by decide +kernel, by decide +kernel⟩, by decide⟩
theorem mk_X0_takeFrom : zKV mi_X0_takeFrom 1 := ⟨⟨zat 343 (by decide +kernel) rfl, zat 344 (by decide +kernel) rfl, zat 55 (by decide +kernel) rfl, zat 345 (by decide +kernel) rfl⟩, ⟨by decide +kernel, by decide +kernel, by decide +kernel⟩, by decide⟩
theorem mk_X1_begin : zKV mi_X1_begin 1 := ⟨⟨zat 347 (by decide +kernel) rfl, zat 348 (by decide +kernel) rfl, zat 54 (by decide +kernel) rfl, zat 349 (by decide +kernel) rfl⟩, ⟨by decide +kernel, by decide +kernel, by decide +kernel⟩, by decide⟩
theorem mk_X1_deeds : zKV mi_X1_deeds 0 := ⟨⟨zat 473 (by decide +kernel) rfl, zat 474 (by decide +kernel) rfl, zat 54 (by decide +kernel) rfl, zat 475 (by decide +kernel) rfl⟩, ⟨by decide +kernel, by decide +kernel, by decide +kernel⟩, by decide⟩
theorem mk_X1_forget : zKV mi_X1_forget 0 := ⟨⟨zat 351 (by decide +kernel) rfl, zat 352 (by decide +kernel) rfl, zat 54 (by decide +kernel) rfl, zat 353 (by decide +kernel) rfl⟩, ⟨by decide +kernel, by decide +kernel, by decide +kernel⟩, by decide⟩
theorem mk_X1_go : zKV mi_X1_go 2 := ⟨⟨zat 438 (by decide +kernel) rfl, zat 439 (by decide +kernel) rfl, zat 54 (by decide +kernel) rfl, zat 440 (by decide +kernel) rfl⟩, ⟨by decide +kernel, by decide +kernel, by decide +kernel⟩, by decide⟩
theorem mk_X1_goBack : zKV mi_X1_goBack 1 := ⟨⟨zat 478 (by decide +kernel) rfl, zat 479 (by decide +kernel) rfl, zat 54 (by decide +kernel) rfl, zat 480 (by decide +kernel) rfl⟩, ⟨by decide +kernel, by decide +kernel, by decide +kernel⟩, by decide⟩
theorem mk_X1_isThere : zKV mi_X1_isThere 0 := ⟨⟨zat 363 (by decide +kernel) rfl, zat 364 (by decide +kernel) rfl, zat 54 (by decide +kernel) rfl, zat 365 (by decide +kernel) rfl⟩, ⟨by decide +kernel, by decide +kernel, by decide +kernel⟩, by decide⟩
theorem mk_X1_number : zKV mi_X1_number 0 := ⟨⟨zat 396 (by decide +kernel) rfl, zat 397 (by decide +kernel) rfl, zat 54 (by decide +kernel) rfl, zat 398 (by decide +kernel) rfl⟩, ⟨by decide +kernel, by decide +kernel, by decide +kernel⟩, by decide⟩
theorem mk_X1_room : zKV mi_X1_room 0 := ⟨⟨zat 423 (by decide +kernel) rfl, zat 424 (by decide +kernel) rfl, zat 54 (by decide +kernel) rfl, zat 425 (by decide +kernel) rfl⟩, ⟨by decide +kernel, by decide +kernel, by decide +kernel⟩, by decide⟩
theorem mk_X1_state : zKV mi_X1_state 0 := ⟨⟨zat 371 (by decide +kernel) rfl, zat 372 (by decide +kernel) rfl, zat 54 (by decide +kernel) rfl, zat 373 (by decide +kernel) rfl⟩, ⟨by decide +kernel, by decide +kernel, by decide +kernel⟩, by decide⟩
theorem mk_X1_takeFrom : zKV mi_X1_takeFrom 1 := ⟨⟨zat 490 (by decide +kernel) rfl, zat 491 (by decide +kernel) rfl, zat 54 (by decide +kernel) rfl, zat 492 (by decide +kernel) rfl⟩, ⟨by decide +kernel, by decide +kernel, by decide +kernel⟩, by decide⟩
theorem mk_X2_faultOf : zKV mi_X2_faultOf 1 := ⟨⟨zat 302 (by decide +kernel) rfl, zat 303 (by decide +kernel) rfl, zat 56 (by decide +kernel) rfl, zat 304 (by decide +kernel) rfl⟩, ⟨by decide +kernel, by decide +kernel, by decide +kernel⟩, by decide⟩
theorem mk_X2_kindBy : zKS mi_X2_kindBy 1 := ⟨⟨zat 308 (by decide +kernel) rfl, zat 56 (by decide +kernel) rfl, zat 309 (by decide +kernel) rfl⟩, ⟨by decide +kernel, by decide +kernel, by decide +kernel⟩, by decide⟩
theorem mk_X3_change : zKV mi_X3_change 2 := ⟨⟨zat 237 (by decide +kernel) rfl, zat 238 (by decide +kernel) rfl, zat 57 (by decide +kernel) rfl, zat 239 (by decide +kernel) rfl⟩, ⟨by decide +kernel, by decide +kernel, by decide +kernel⟩, by decide⟩
theorem mk_X3_has : zKV mi_X3_has 1 := ⟨⟨zat 228 (by decide +kernel) rfl, zat 229 (by decide +kernel) rfl, zat 57 (by decide +kernel) rfl, zat 230 (by decide +kernel) rfl⟩, ⟨by decide +kernel, by decide +kernel, by decide +kernel⟩, by decide⟩
theorem mk_X3_hasRun : zKV mi_X3_hasRun 2 := ⟨⟨zat 261 (by decide +kernel) rfl, zat 262 (by decide +kernel) rfl, zat 57 (by decide +kernel) rfl, zat 263 (by decide +kernel) rfl⟩, ⟨by decide +kernel, by decide +kernel, by decide +kernel⟩, by decide⟩
theorem mk_X3_isThere : zKV mi_X3_isThere 0 := ⟨⟨zat 224 (by decide +kernel) rfl, zat 225 (by decide +kernel) rfl, zat 57 (by decide +kernel) rfl, zat 226 (by decide +kernel) rfl⟩, ⟨by decide +kernel, by decide +kernel, by decide +kernel⟩, by decide⟩
theorem mk_X3_make : zKV mi_X3_make 2 := ⟨⟨zat 208 (by decide +kernel) rfl, zat 209 (by decide +kernel) rfl, zat 57 (by decide +kernel) rfl, zat 210 (by decide +kernel) rfl⟩, ⟨by decide +kernel, by decide +kernel, by decide +kernel⟩, by decide⟩
theorem mk_X3_mixedInto : zKV mi_X3_mixedInto 1 := ⟨⟨zat 666 (by decide +kernel) rfl, zat 667 (by decide +kernel) rfl, zat 57 (by decide +kernel) rfl, zat 668 (by decide +kernel) rfl⟩, ⟨by decide +kernel, by decide +kernel, by decide +kernel⟩, by decide⟩
theorem mk_X3_remove : zKV mi_X3_remove 0 := ⟨⟨zat 253 (by decide +kernel) rfl, zat 254 (by decide +kernel) rfl, zat 57 (by decide +kernel) rfl, zat 255 (by decide +kernel) rfl⟩, ⟨by decide +kernel, by decide +kernel, by decide +kernel⟩, by decide⟩
theorem mk_X3_size : zKV mi_X3_size 0 := ⟨⟨zat 277 (by decide +kernel) rfl, zat 278 (by decide +kernel) rfl, zat 57 (by decide +kernel) rfl, zat 279 (by decide +kernel) rfl⟩, ⟨by decide +kernel, by decide +kernel, by decide +kernel⟩, by decide⟩
theorem mk_X3_takeRun : zKV mi_X3_takeRun 4 := ⟨⟨zat 265 (by decide +kernel) rfl, zat 266 (by decide +kernel) rfl, zat 57 (by decide +kernel) rfl, zat 267 (by decide +kernel) rfl⟩, ⟨by decide +kernel, by decide +kernel, by decide +kernel⟩, by decide⟩
theorem mk_X3_total : zKV mi_X3_total 0 := ⟨⟨zat 281 (by decide +kernel) rfl, zat 282 (by decide +kernel) rfl, zat 57 (by decide +kernel) rfl, zat 283 (by decide +kernel) rfl⟩, ⟨by decide +kernel, by decide +kernel, by decide +kernel⟩, by decide⟩
theorem mk_X3_valueAt : zKV mi_X3_valueAt 1 := ⟨⟨zat 232 (by decide +kernel) rfl, zat 233 (by decide +kernel) rfl, zat 57 (by decide +kernel) rfl, zat 234 (by decide +kernel) rfl⟩, ⟨by decide +kernel, by decide +kernel, by decide +kernel⟩, by decide⟩
theorem mk_X4_above : zKS mi_X4_above 1 := ⟨⟨zat 386 (by decide +kernel) rfl, zat 61 (by decide +kernel) rfl, zat 387 (by decide +kernel) rfl⟩, ⟨by decide +kernel, by decide +kernel, by decide +kernel⟩, by decide⟩
theorem mk_X4_broken : zKS mi_X4_broken 1 := ⟨⟨zat 333 (by decide +kernel) rfl, zat 61 (by decide +kernel) rfl, zat 334 (by decide +kernel) rfl⟩, ⟨by decide +kernel, by decide +kernel, by decide +kernel⟩, by decide⟩
theorem mk_X4_join : zKS mi_X4_join 3 := ⟨⟨zat 336 (by decide +kernel) rfl, zat 61 (by decide +kernel) rfl, zat 337 (by decide +kernel) rfl⟩, ⟨by decide +kernel, by decide +kernel, by decide +kernel⟩, by decide⟩
theorem mk_X4_of : zKS mi_X4_of 2 := ⟨⟨zat 379 (by decide +kernel) rfl, zat 61 (by decide +kernel) rfl, zat 380 (by decide +kernel) rfl⟩, ⟨by decide +kernel, by decide +kernel, by decide +kernel⟩, by decide⟩
theorem mk_X4_ones : zKS mi_X4_ones 1 := ⟨⟨zat 327 (by decide +kernel) rfl, zat 61 (by decide +kernel) rfl, zat 328 (by decide +kernel) rfl⟩, ⟨by decide +kernel, by decide +kernel, by decide +kernel⟩, by decide⟩
theorem mk_X4_total : zKS mi_X4_total 2 := ⟨⟨zat 582 (by decide +kernel) rfl, zat 61 (by decide +kernel) rfl, zat 583 (by decide +kernel) rfl⟩, ⟨by decide +kernel, by decide +kernel, by decide +kernel⟩, by decide⟩
theorem mk_X4_twos : zKS mi_X4_twos 1 := ⟨⟨zat 330 (by decide +kernel) rfl, zat 61 (by decide +kernel) rfl, zat 331 (by decide +kernel) rfl⟩, ⟨by decide +kernel, by decide +kernel, by decide +kernel⟩, by decide⟩
theorem mk_X4_with : zKS mi_X4_with 3 := ⟨⟨zat 324 (by decide +kernel) rfl, zat 61 (by decide +kernel) rfl, zat 325 (by decide +kernel) rfl⟩, ⟨by decide +kernel, by decide +kernel, by decide +kernel⟩, by decide⟩
theorem mk_X4_withBroken : zKS mi_X4_withBroken 2 := ⟨⟨zat 466 (by decide +kernel) rfl, zat 61 (by decide +kernel) rfl, zat 467 (by decide +kernel) rfl⟩, ⟨by decide +kernel, by decide +kernel, by decide +kernel⟩, by decide⟩
theorem mk_X5_asked : zKV mi_X5_asked 0 := ⟨⟨zat 621 (by decide +kernel) rfl, zat 622 (by decide +kernel) rfl, zat 53 (by decide +kernel) rfl, zat 623 (by decide +kernel) rfl⟩, ⟨by decide +kernel, by decide +kernel, by decide +kernel⟩, by decide⟩
theorem mk_X5_at : zKV mi_X5_at 2 := ⟨⟨zat 245 (by decide +kernel) rfl, zat 246 (by decide +kernel) rfl, zat 53 (by decide +kernel) rfl, zat 247 (by decide +kernel) rfl⟩, ⟨by decide +kernel, by decide +kernel, by decide +kernel⟩, by decide⟩
theorem mk_X5_commonDivisor : zKS mi_X5_commonDivisor 2 := ⟨⟨zat 537 (by decide +kernel) rfl, zat 53 (by decide +kernel) rfl, zat 538 (by decide +kernel) rfl⟩, ⟨by decide +kernel, by decide +kernel, by decide +kernel⟩, by decide⟩
theorem mk_X5_copy : zKV mi_X5_copy 5 := ⟨⟨zat 257 (by decide +kernel) rfl, zat 258 (by decide +kernel) rfl, zat 53 (by decide +kernel) rfl, zat 259 (by decide +kernel) rfl⟩, ⟨by decide +kernel, by decide +kernel, by decide +kernel⟩, by decide⟩
theorem mk_X5_count : zKV mi_X5_count 1 := ⟨⟨zat 633 (by decide +kernel) rfl, zat 634 (by decide +kernel) rfl, zat 53 (by decide +kernel) rfl, zat 635 (by decide +kernel) rfl⟩, ⟨by decide +kernel, by decide +kernel, by decide +kernel⟩, by decide⟩
theorem mk_X5_countKept : zKV mi_X5_countKept 0 := ⟨⟨zat 645 (by decide +kernel) rfl, zat 25 (by decide +kernel) rfl, zat 53 (by decide +kernel) rfl, zat 646 (by decide +kernel) rfl⟩, ⟨by decide +kernel, by decide +kernel, by decide +kernel⟩, by decide⟩
theorem mk_X5_countRows : zKS mi_X5_countRows 2 := ⟨⟨zat 641 (by decide +kernel) rfl, zat 53 (by decide +kernel) rfl, zat 642 (by decide +kernel) rfl⟩, ⟨by decide +kernel, by decide +kernel, by decide +kernel⟩, by decide⟩
theorem mk_X5_counted : zKV mi_X5_counted 1 := ⟨⟨zat 638 (by decide +kernel) rfl, zat 24 (by decide +kernel) rfl, zat 53 (by decide +kernel) rfl, zat 639 (by decide +kernel) rfl⟩, ⟨by decide +kernel, by decide +kernel, by decide +kernel⟩, by decide⟩
theorem mk_X5_countedOfWall : zKV mi_X5_countedOfWall 1 := ⟨⟨zat 649 (by decide +kernel) rfl, zat 26 (by decide +kernel) rfl, zat 53 (by decide +kernel) rfl, zat 650 (by decide +kernel) rfl⟩, ⟨by decide +kernel, by decide +kernel, by decide +kernel⟩, by decide⟩
theorem mk_X5_crack : zKV mi_X5_crack 1 := ⟨⟨zat 458 (by decide +kernel) rfl, zat 459 (by decide +kernel) rfl, zat 53 (by decide +kernel) rfl, zat 460 (by decide +kernel) rfl⟩, ⟨by decide +kernel, by decide +kernel, by decide +kernel⟩, by decide⟩
theorem mk_X5_digest : zKV mi_X5_digest 0 := ⟨⟨zat 660 (by decide +kernel) rfl, zat 661 (by decide +kernel) rfl, zat 53 (by decide +kernel) rfl, zat 662 (by decide +kernel) rfl⟩, ⟨by decide +kernel, by decide +kernel, by decide +kernel⟩, by decide⟩
theorem mk_X5_doByLot : zKV mi_X5_doByLot 2 := ⟨⟨zat 618 (by decide +kernel) rfl, zat 23 (by decide +kernel) rfl, zat 53 (by decide +kernel) rfl, zat 619 (by decide +kernel) rfl⟩, ⟨by decide +kernel, by decide +kernel, by decide +kernel⟩, by decide⟩
theorem mk_X5_doCrack : zKV mi_X5_doCrack 1 := ⟨⟨zat 463 (by decide +kernel) rfl, zat 12 (by decide +kernel) rfl, zat 53 (by decide +kernel) rfl, zat 464 (by decide +kernel) rfl⟩, ⟨by decide +kernel, by decide +kernel, by decide +kernel⟩, by decide⟩
theorem mk_X5_doPress : zKV mi_X5_doPress 1 := ⟨⟨zat 429 (by decide +kernel) rfl, zat 9 (by decide +kernel) rfl, zat 53 (by decide +kernel) rfl, zat 430 (by decide +kernel) rfl⟩, ⟨by decide +kernel, by decide +kernel, by decide +kernel⟩, by decide⟩
theorem mk_X5_doSet : zKV mi_X5_doSet 2 := ⟨⟨zat 454 (by decide +kernel) rfl, zat 11 (by decide +kernel) rfl, zat 53 (by decide +kernel) rfl, zat 455 (by decide +kernel) rfl⟩, ⟨by decide +kernel, by decide +kernel, by decide +kernel⟩, by decide⟩
theorem mk_X5_duel : zKV mi_X5_duel 2 := ⟨⟨zat 586 (by decide +kernel) rfl, zat 587 (by decide +kernel) rfl, zat 53 (by decide +kernel) rfl, zat 588 (by decide +kernel) rfl⟩, ⟨by decide +kernel, by decide +kernel, by decide +kernel⟩, by decide⟩
theorem mk_X5_fault : zKV mi_X5_fault 1 := ⟨⟨zat 298 (by decide +kernel) rfl, zat 299 (by decide +kernel) rfl, zat 53 (by decide +kernel) rfl, zat 300 (by decide +kernel) rfl⟩, ⟨by decide +kernel, by decide +kernel, by decide +kernel⟩, by decide⟩
theorem mk_X5_fewest : zKV mi_X5_fewest 2 := ⟨⟨zat 514 (by decide +kernel) rfl, zat 515 (by decide +kernel) rfl, zat 53 (by decide +kernel) rfl, zat 516 (by decide +kernel) rfl⟩, ⟨by decide +kernel, by decide +kernel, by decide +kernel⟩, by decide⟩
theorem mk_X5_fillBehindSets : zKV mi_X5_fillBehindSets 0 := ⟨⟨zat 530 (by decide +kernel) rfl, zat 16 (by decide +kernel) rfl, zat 53 (by decide +kernel) rfl, zat 531 (by decide +kernel) rfl⟩, ⟨by decide +kernel, by decide +kernel, by decide +kernel⟩, by decide⟩
theorem mk_X5_finding : zKV mi_X5_finding 0 := ⟨⟨zat 652 (by decide +kernel) rfl, zat 653 (by decide +kernel) rfl, zat 53 (by decide +kernel) rfl, zat 654 (by decide +kernel) rfl⟩, ⟨by decide +kernel, by decide +kernel, by decide +kernel⟩, by decide⟩
theorem mk_X5_findings : zKV mi_X5_findings 1 := ⟨⟨zat 656 (by decide +kernel) rfl, zat 657 (by decide +kernel) rfl, zat 53 (by decide +kernel) rfl, zat 658 (by decide +kernel) rfl⟩, ⟨by decide +kernel, by decide +kernel, by decide +kernel⟩, by decide⟩
theorem mk_X5_fits : zKV mi_X5_fits 3 := ⟨⟨zat 561 (by decide +kernel) rfl, zat 20 (by decide +kernel) rfl, zat 53 (by decide +kernel) rfl, zat 562 (by decide +kernel) rfl⟩, ⟨by decide +kernel, by decide +kernel, by decide +kernel⟩, by decide⟩
theorem mk_X5_found : zKV mi_X5_found 1 := ⟨⟨zat 205 (by decide +kernel) rfl, zat 2 (by decide +kernel) rfl, zat 53 (by decide +kernel) rfl, zat 206 (by decide +kernel) rfl⟩, ⟨by decide +kernel, by decide +kernel, by decide +kernel⟩, by decide⟩
theorem mk_X5_greatestPart : zKV mi_X5_greatestPart 3 := ⟨⟨zat 574 (by decide +kernel) rfl, zat 22 (by decide +kernel) rfl, zat 53 (by decide +kernel) rfl, zat 575 (by decide +kernel) rfl⟩, ⟨by decide +kernel, by decide +kernel, by decide +kernel⟩, by decide⟩
theorem mk_X5_hasStep : zKV mi_X5_hasStep 2 := ⟨⟨zat 449 (by decide +kernel) rfl, zat 10 (by decide +kernel) rfl, zat 53 (by decide +kernel) rfl, zat 450 (by decide +kernel) rfl⟩, ⟨by decide +kernel, by decide +kernel, by decide +kernel⟩, by decide⟩
theorem mk_X5_isLamp : zKV mi_X5_isLamp 1 := ⟨⟨zat 360 (by decide +kernel) rfl, zat 7 (by decide +kernel) rfl, zat 53 (by decide +kernel) rfl, zat 361 (by decide +kernel) rfl⟩, ⟨by decide +kernel, by decide +kernel, by decide +kernel⟩, by decide⟩
theorem mk_X5_keep : zKV mi_X5_keep 1 := ⟨⟨zat 482 (by decide +kernel) rfl, zat 483 (by decide +kernel) rfl, zat 53 (by decide +kernel) rfl, zat 484 (by decide +kernel) rfl⟩, ⟨by decide +kernel, by decide +kernel, by decide +kernel⟩, by decide⟩
theorem mk_X5_keptAt : zKV mi_X5_keptAt 1 := ⟨⟨zat 487 (by decide +kernel) rfl, zat 13 (by decide +kernel) rfl, zat 53 (by decide +kernel) rfl, zat 488 (by decide +kernel) rfl⟩, ⟨by decide +kernel, by decide +kernel, by decide +kernel⟩, by decide⟩
theorem mk_X5_kinds : zKV mi_X5_kinds 2 := ⟨⟨zat 548 (by decide +kernel) rfl, zat 549 (by decide +kernel) rfl, zat 53 (by decide +kernel) rfl, zat 550 (by decide +kernel) rfl⟩, ⟨by decide +kernel, by decide +kernel, by decide +kernel⟩, by decide⟩
theorem mk_X5_kindsBy : zKV mi_X5_kindsBy 2 := ⟨⟨zat 557 (by decide +kernel) rfl, zat 19 (by decide +kernel) rfl, zat 53 (by decide +kernel) rfl, zat 558 (by decide +kernel) rfl⟩, ⟨by decide +kernel, by decide +kernel, by decide +kernel⟩, by decide⟩
theorem mk_X5_lamp : zKV mi_X5_lamp 2 := ⟨⟨zat 355 (by decide +kernel) rfl, zat 356 (by decide +kernel) rfl, zat 53 (by decide +kernel) rfl, zat 357 (by decide +kernel) rfl⟩, ⟨by decide +kernel, by decide +kernel, by decide +kernel⟩, by decide⟩
theorem mk_X5_lay : zKV mi_X5_lay 3 := ⟨⟨zat 212 (by decide +kernel) rfl, zat 213 (by decide +kernel) rfl, zat 53 (by decide +kernel) rfl, zat 214 (by decide +kernel) rfl⟩, ⟨by decide +kernel, by decide +kernel, by decide +kernel⟩, by decide⟩
theorem mk_X5_lots : zKV mi_X5_lots 2 := ⟨⟨zat 608 (by decide +kernel) rfl, zat 609 (by decide +kernel) rfl, zat 53 (by decide +kernel) rfl, zat 610 (by decide +kernel) rfl⟩, ⟨by decide +kernel, by decide +kernel, by decide +kernel⟩, by decide⟩
theorem mk_X5_lower : zKV mi_X5_lower 0 := ⟨⟨zat 629 (by decide +kernel) rfl, zat 630 (by decide +kernel) rfl, zat 53 (by decide +kernel) rfl, zat 631 (by decide +kernel) rfl⟩, ⟨by decide +kernel, by decide +kernel, by decide +kernel⟩, by decide⟩
theorem mk_X5_makeAnew : zKV mi_X5_makeAnew 4 := ⟨⟨zat 201 (by decide +kernel) rfl, zat 1 (by decide +kernel) rfl, zat 53 (by decide +kernel) rfl, zat 202 (by decide +kernel) rfl⟩, ⟨by decide +kernel, by decide +kernel, by decide +kernel⟩, by decide⟩
theorem mk_X5_mark : zKV mi_X5_mark 2 := ⟨⟨zat 407 (by decide +kernel) rfl, zat 408 (by decide +kernel) rfl, zat 53 (by decide +kernel) rfl, zat 409 (by decide +kernel) rfl⟩, ⟨by decide +kernel, by decide +kernel, by decide +kernel⟩, by decide⟩
theorem mk_X5_mean : zKV mi_X5_mean 1 := ⟨⟨zat 273 (by decide +kernel) rfl, zat 274 (by decide +kernel) rfl, zat 53 (by decide +kernel) rfl, zat 275 (by decide +kernel) rfl⟩, ⟨by decide +kernel, by decide +kernel, by decide +kernel⟩, by decide⟩
theorem mk_X5_mid : zKV mi_X5_mid 2 := ⟨⟨zat 604 (by decide +kernel) rfl, zat 605 (by decide +kernel) rfl, zat 53 (by decide +kernel) rfl, zat 606 (by decide +kernel) rfl⟩, ⟨by decide +kernel, by decide +kernel, by decide +kernel⟩, by decide⟩
theorem mk_X5_most : zKV mi_X5_most 0 := ⟨⟨zat 506 (by decide +kernel) rfl, zat 507 (by decide +kernel) rfl, zat 53 (by decide +kernel) rfl, zat 508 (by decide +kernel) rfl⟩, ⟨by decide +kernel, by decide +kernel, by decide +kernel⟩, by decide⟩
theorem mk_X5_next : zKV mi_X5_next 2 := ⟨⟨zat 569 (by decide +kernel) rfl, zat 570 (by decide +kernel) rfl, zat 53 (by decide +kernel) rfl, zat 571 (by decide +kernel) rfl⟩, ⟨by decide +kernel, by decide +kernel, by decide +kernel⟩, by decide⟩
theorem mk_X5_odds : zKV mi_X5_odds 3 := ⟨⟨zat 596 (by decide +kernel) rfl, zat 597 (by decide +kernel) rfl, zat 53 (by decide +kernel) rfl, zat 598 (by decide +kernel) rfl⟩, ⟨by decide +kernel, by decide +kernel, by decide +kernel⟩, by decide⟩
theorem mk_X5_on : zKV mi_X5_on 1 := ⟨⟨zat 494 (by decide +kernel) rfl, zat 495 (by decide +kernel) rfl, zat 53 (by decide +kernel) rfl, zat 496 (by decide +kernel) rfl⟩, ⟨by decide +kernel, by decide +kernel, by decide +kernel⟩, by decide⟩
theorem mk_X5_press : zKV mi_X5_press 1 := ⟨⟨zat 419 (by decide +kernel) rfl, zat 420 (by decide +kernel) rfl, zat 53 (by decide +kernel) rfl, zat 421 (by decide +kernel) rfl⟩, ⟨by decide +kernel, by decide +kernel, by decide +kernel⟩, by decide⟩
theorem mk_X5_put : zKV mi_X5_put 3 := ⟨⟨zat 294 (by decide +kernel) rfl, zat 295 (by decide +kernel) rfl, zat 53 (by decide +kernel) rfl, zat 296 (by decide +kernel) rfl⟩, ⟨by decide +kernel, by decide +kernel, by decide +kernel⟩, by decide⟩
theorem mk_X5_reaches : zKS mi_X5_reaches 7 := ⟨⟨zat 522 (by decide +kernel) rfl, zat 53 (by decide +kernel) rfl, zat 523 (by decide +kernel) rfl⟩, ⟨by decide +kernel, by decide +kernel, by decide +kernel⟩, by decide⟩
theorem mk_X5_refusalOfMissing : zKV mi_X5_refusalOfMissing 1 := ⟨⟨zat 221 (by decide +kernel) rfl, zat 4 (by decide +kernel) rfl, zat 53 (by decide +kernel) rfl, zat 222 (by decide +kernel) rfl⟩, ⟨by decide +kernel, by decide +kernel, by decide +kernel⟩, by decide⟩
theorem mk_X5_refusalOfPairs : zKV mi_X5_refusalOfPairs 2 := ⟨⟨zat 553 (by decide +kernel) rfl, zat 18 (by decide +kernel) rfl, zat 53 (by decide +kernel) rfl, zat 554 (by decide +kernel) rfl⟩, ⟨by decide +kernel, by decide +kernel, by decide +kernel⟩, by decide⟩
theorem mk_X5_refusalOfPlace : zKV mi_X5_refusalOfPlace 2 := ⟨⟨zat 217 (by decide +kernel) rfl, zat 3 (by decide +kernel) rfl, zat 53 (by decide +kernel) rfl, zat 218 (by decide +kernel) rfl⟩, ⟨by decide +kernel, by decide +kernel, by decide +kernel⟩, by decide⟩
theorem mk_X5_refusalOfSet : zKV mi_X5_refusalOfSet 1 := ⟨⟨zat 519 (by decide +kernel) rfl, zat 15 (by decide +kernel) rfl, zat 53 (by decide +kernel) rfl, zat 520 (by decide +kernel) rfl⟩, ⟨by decide +kernel, by decide +kernel, by decide +kernel⟩, by decide⟩
theorem mk_X5_row : zKV mi_X5_row 2 := ⟨⟨zat 192 (by decide +kernel) rfl, zat 193 (by decide +kernel) rfl, zat 53 (by decide +kernel) rfl, zat 194 (by decide +kernel) rfl⟩, ⟨by decide +kernel, by decide +kernel, by decide +kernel⟩, by decide⟩
theorem mk_X5_rowAt : zKV mi_X5_rowAt 1 := ⟨⟨zat 197 (by decide +kernel) rfl, zat 0 (by decide +kernel) rfl, zat 53 (by decide +kernel) rfl, zat 198 (by decide +kernel) rfl⟩, ⟨by decide +kernel, by decide +kernel, by decide +kernel⟩, by decide⟩
theorem mk_X5_set : zKV mi_X5_set 2 := ⟨⟨zat 444 (by decide +kernel) rfl, zat 445 (by decide +kernel) rfl, zat 53 (by decide +kernel) rfl, zat 446 (by decide +kernel) rfl⟩, ⟨by decide +kernel, by decide +kernel, by decide +kernel⟩, by decide⟩
theorem mk_X5_showingBehind : zKV mi_X5_showingBehind 1 := ⟨⟨zat 511 (by decide +kernel) rfl, zat 14 (by decide +kernel) rfl, zat 53 (by decide +kernel) rfl, zat 512 (by decide +kernel) rfl⟩, ⟨by decide +kernel, by decide +kernel, by decide +kernel⟩, by decide⟩
theorem mk_X5_shownAs : zKV mi_X5_shownAs 3 := ⟨⟨zat 565 (by decide +kernel) rfl, zat 21 (by decide +kernel) rfl, zat 53 (by decide +kernel) rfl, zat 566 (by decide +kernel) rfl⟩, ⟨by decide +kernel, by decide +kernel, by decide +kernel⟩, by decide⟩
theorem mk_X5_shows : zKV mi_X5_shows 1 := ⟨⟨zat 502 (by decide +kernel) rfl, zat 503 (by decide +kernel) rfl, zat 53 (by decide +kernel) rfl, zat 504 (by decide +kernel) rfl⟩, ⟨by decide +kernel, by decide +kernel, by decide +kernel⟩, by decide⟩
theorem mk_X5_sums : zKV mi_X5_sums 1 := ⟨⟨zat 578 (by decide +kernel) rfl, zat 579 (by decide +kernel) rfl, zat 53 (by decide +kernel) rfl, zat 580 (by decide +kernel) rfl⟩, ⟨by decide +kernel, by decide +kernel, by decide +kernel⟩, by decide⟩
theorem mk_X5_sure : zKV mi_X5_sure 1 := ⟨⟨zat 540 (by decide +kernel) rfl, zat 541 (by decide +kernel) rfl, zat 53 (by decide +kernel) rfl, zat 542 (by decide +kernel) rfl⟩, ⟨by decide +kernel, by decide +kernel, by decide +kernel⟩, by decide⟩
theorem mk_X5_tear : zKV mi_X5_tear 1 := ⟨⟨zat 249 (by decide +kernel) rfl, zat 250 (by decide +kernel) rfl, zat 53 (by decide +kernel) rfl, zat 251 (by decide +kernel) rfl⟩, ⟨by decide +kernel, by decide +kernel, by decide +kernel⟩, by decide⟩
theorem mk_X5_tellAsked : zKV mi_X5_tellAsked 1 := ⟨⟨zat 242 (by decide +kernel) rfl, zat 5 (by decide +kernel) rfl, zat 53 (by decide +kernel) rfl, zat 243 (by decide +kernel) rfl⟩, ⟨by decide +kernel, by decide +kernel, by decide +kernel⟩, by decide⟩
theorem mk_X5_tellParts : zKV mi_X5_tellParts 2 := ⟨⟨zat 534 (by decide +kernel) rfl, zat 17 (by decide +kernel) rfl, zat 53 (by decide +kernel) rfl, zat 535 (by decide +kernel) rfl⟩, ⟨by decide +kernel, by decide +kernel, by decide +kernel⟩, by decide⟩
theorem mk_X5_text : zKV mi_X5_text 2 := ⟨⟨zat 286 (by decide +kernel) rfl, zat 287 (by decide +kernel) rfl, zat 53 (by decide +kernel) rfl, zat 288 (by decide +kernel) rfl⟩, ⟨by decide +kernel, by decide +kernel, by decide +kernel⟩, by decide⟩
theorem mk_X5_textAt : zKV mi_X5_textAt 1 := ⟨⟨zat 291 (by decide +kernel) rfl, zat 6 (by decide +kernel) rfl, zat 53 (by decide +kernel) rfl, zat 292 (by decide +kernel) rfl⟩, ⟨by decide +kernel, by decide +kernel, by decide +kernel⟩, by decide⟩
theorem mk_X5_toldOfLamp : zKV mi_X5_toldOfLamp 2 := ⟨⟨zat 368 (by decide +kernel) rfl, zat 8 (by decide +kernel) rfl, zat 53 (by decide +kernel) rfl, zat 369 (by decide +kernel) rfl⟩, ⟨by decide +kernel, by decide +kernel, by decide +kernel⟩, by decide⟩
theorem mk_X5_touched : zKV mi_X5_touched 4 := ⟨⟨zat 498 (by decide +kernel) rfl, zat 499 (by decide +kernel) rfl, zat 53 (by decide +kernel) rfl, zat 500 (by decide +kernel) rfl⟩, ⟨by decide +kernel, by decide +kernel, by decide +kernel⟩, by decide⟩
theorem mk_X5_touchedBy : zKS mi_X5_touchedBy 1 := ⟨⟨zat 391 (by decide +kernel) rfl, zat 53 (by decide +kernel) rfl, zat 392 (by decide +kernel) rfl⟩, ⟨by decide +kernel, by decide +kernel, by decide +kernel⟩, by decide⟩
theorem mk_X5_twelfths : zKS mi_X5_twelfths 4 := ⟨⟨zat 600 (by decide +kernel) rfl, zat 53 (by decide +kernel) rfl, zat 601 (by decide +kernel) rfl⟩, ⟨by decide +kernel, by decide +kernel, by decide +kernel⟩, by decide⟩
theorem mk_X5_undo : zKV mi_X5_undo 1 := ⟨⟨zat 469 (by decide +kernel) rfl, zat 470 (by decide +kernel) rfl, zat 53 (by decide +kernel) rfl, zat 471 (by decide +kernel) rfl⟩, ⟨by decide +kernel, by decide +kernel, by decide +kernel⟩, by decide⟩
theorem mk_X5_upper : zKV mi_X5_upper 0 := ⟨⟨zat 625 (by decide +kernel) rfl, zat 626 (by decide +kernel) rfl, zat 53 (by decide +kernel) rfl, zat 627 (by decide +kernel) rfl⟩, ⟨by decide +kernel, by decide +kernel, by decide +kernel⟩, by decide⟩
theorem mk_X5_wall : zKV mi_X5_wall 1 := ⟨⟨zat 339 (by decide +kernel) rfl, zat 340 (by decide +kernel) rfl, zat 53 (by decide +kernel) rfl, zat 341 (by decide +kernel) rfl⟩, ⟨by decide +kernel, by decide +kernel, by decide +kernel⟩, by decide⟩
theorem mk_X5_ways : zKV mi_X5_ways 1 := ⟨⟨zat 525 (by decide +kernel) rfl, zat 526 (by decide +kernel) rfl, zat 53 (by decide +kernel) rfl, zat 527 (by decide +kernel) rfl⟩, ⟨by decide +kernel, by decide +kernel, by decide +kernel⟩, by decide⟩
theorem mk_X5_which : zKV mi_X5_which 1 := ⟨⟨zat 544 (by decide +kernel) rfl, zat 545 (by decide +kernel) rfl, zat 53 (by decide +kernel) rfl, zat 546 (by decide +kernel) rfl⟩, ⟨by decide +kernel, by decide +kernel, by decide +kernel⟩, by decide⟩
theorem mk_X5_wonBy : zKS mi_X5_wonBy 7 := ⟨⟨zat 590 (by decide +kernel) rfl, zat 53 (by decide +kernel) rfl, zat 591 (by decide +kernel) rfl⟩, ⟨by decide +kernel, by decide +kernel, by decide +kernel⟩, by decide⟩
theorem mk_X6_after : zKS mi_X6_after 4 := ⟨⟨zat 842 (by decide +kernel) rfl, zat 59 (by decide +kernel) rfl, zat 843 (by decide +kernel) rfl⟩, ⟨by decide +kernel, by decide +kernel, by decide +kernel⟩, by decide⟩
theorem mk_X6_allWays : zKV mi_X6_allWays 1 := ⟨⟨zat 984 (by decide +kernel) rfl, zat 47 (by decide +kernel) rfl, zat 59 (by decide +kernel) rfl, zat 985 (by decide +kernel) rfl⟩, ⟨by decide +kernel, by decide +kernel, by decide +kernel⟩, by decide⟩
theorem mk_X6_asked : zKV mi_X6_asked 0 := ⟨⟨zat 1009 (by decide +kernel) rfl, zat 1010 (by decide +kernel) rfl, zat 59 (by decide +kernel) rfl, zat 1011 (by decide +kernel) rfl⟩, ⟨by decide +kernel, by decide +kernel, by decide +kernel⟩, by decide⟩
theorem mk_X6_at : zKV mi_X6_at 2 := ⟨⟨zat 758 (by decide +kernel) rfl, zat 759 (by decide +kernel) rfl, zat 59 (by decide +kernel) rfl, zat 760 (by decide +kernel) rfl⟩, ⟨by decide +kernel, by decide +kernel, by decide +kernel⟩, by decide⟩
theorem mk_X6_begin : zKV mi_X6_begin 0 := ⟨⟨zat 860 (by decide +kernel) rfl, zat 35 (by decide +kernel) rfl, zat 59 (by decide +kernel) rfl, zat 861 (by decide +kernel) rfl⟩, ⟨by decide +kernel, by decide +kernel, by decide +kernel⟩, by decide⟩
theorem mk_X6_bitsOf : zKS mi_X6_bitsOf 1 := ⟨⟨zat 849 (by decide +kernel) rfl, zat 59 (by decide +kernel) rfl, zat 850 (by decide +kernel) rfl⟩, ⟨by decide +kernel, by decide +kernel, by decide +kernel⟩, by decide⟩
theorem mk_X6_copy : zKV mi_X6_copy 5 := ⟨⟨zat 766 (by decide +kernel) rfl, zat 767 (by decide +kernel) rfl, zat 59 (by decide +kernel) rfl, zat 768 (by decide +kernel) rfl⟩, ⟨by decide +kernel, by decide +kernel, by decide +kernel⟩, by decide⟩
theorem mk_X6_count : zKV mi_X6_count 1 := ⟨⟨zat 1021 (by decide +kernel) rfl, zat 1022 (by decide +kernel) rfl, zat 59 (by decide +kernel) rfl, zat 1023 (by decide +kernel) rfl⟩, ⟨by decide +kernel, by decide +kernel, by decide +kernel⟩, by decide⟩
theorem mk_X6_crack : zKV mi_X6_crack 1 := ⟨⟨zat 871 (by decide +kernel) rfl, zat 872 (by decide +kernel) rfl, zat 59 (by decide +kernel) rfl, zat 873 (by decide +kernel) rfl⟩, ⟨by decide +kernel, by decide +kernel, by decide +kernel⟩, by decide⟩
theorem mk_X6_digest : zKV mi_X6_digest 0 := ⟨⟨zat 1041 (by decide +kernel) rfl, zat 1042 (by decide +kernel) rfl, zat 59 (by decide +kernel) rfl, zat 1043 (by decide +kernel) rfl⟩, ⟨by decide +kernel, by decide +kernel, by decide +kernel⟩, by decide⟩
theorem mk_X6_doesShow : zKS mi_X6_doesShow 2 := ⟨⟨zat 833 (by decide +kernel) rfl, zat 59 (by decide +kernel) rfl, zat 834 (by decide +kernel) rfl⟩, ⟨by decide +kernel, by decide +kernel, by decide +kernel⟩, by decide⟩
theorem mk_X6_doesTouch : zKS mi_X6_doesTouch 2 := ⟨⟨zat 839 (by decide +kernel) rfl, zat 59 (by decide +kernel) rfl, zat 840 (by decide +kernel) rfl⟩, ⟨by decide +kernel, by decide +kernel, by decide +kernel⟩, by decide⟩
theorem mk_X6_duel : zKV mi_X6_duel 2 := ⟨⟨zat 962 (by decide +kernel) rfl, zat 963 (by decide +kernel) rfl, zat 59 (by decide +kernel) rfl, zat 964 (by decide +kernel) rfl⟩, ⟨by decide +kernel, by decide +kernel, by decide +kernel⟩, by decide⟩
theorem mk_X6_factOf : zKV mi_X6_factOf 2 := ⟨⟨zat 815 (by decide +kernel) rfl, zat 31 (by decide +kernel) rfl, zat 59 (by decide +kernel) rfl, zat 816 (by decide +kernel) rfl⟩, ⟨by decide +kernel, by decide +kernel, by decide +kernel⟩, by decide⟩
theorem mk_X6_fault : zKV mi_X6_fault 1 := ⟨⟨zat 785 (by decide +kernel) rfl, zat 786 (by decide +kernel) rfl, zat 59 (by decide +kernel) rfl, zat 787 (by decide +kernel) rfl⟩, ⟨by decide +kernel, by decide +kernel, by decide +kernel⟩, by decide⟩
theorem mk_X6_fewest : zKV mi_X6_fewest 2 := ⟨⟨zat 910 (by decide +kernel) rfl, zat 911 (by decide +kernel) rfl, zat 59 (by decide +kernel) rfl, zat 912 (by decide +kernel) rfl⟩, ⟨by decide +kernel, by decide +kernel, by decide +kernel⟩, by decide⟩
theorem mk_X6_find : zKV mi_X6_find 1 := ⟨⟨zat 747 (by decide +kernel) rfl, zat 27 (by decide +kernel) rfl, zat 59 (by decide +kernel) rfl, zat 748 (by decide +kernel) rfl⟩, ⟨by decide +kernel, by decide +kernel, by decide +kernel⟩, by decide⟩
theorem mk_X6_finding : zKV mi_X6_finding 0 := ⟨⟨zat 1033 (by decide +kernel) rfl, zat 1034 (by decide +kernel) rfl, zat 59 (by decide +kernel) rfl, zat 1035 (by decide +kernel) rfl⟩, ⟨by decide +kernel, by decide +kernel, by decide +kernel⟩, by decide⟩
theorem mk_X6_findings : zKV mi_X6_findings 1 := ⟨⟨zat 1037 (by decide +kernel) rfl, zat 1038 (by decide +kernel) rfl, zat 59 (by decide +kernel) rfl, zat 1039 (by decide +kernel) rfl⟩, ⟨by decide +kernel, by decide +kernel, by decide +kernel⟩, by decide⟩
theorem mk_X6_flipped : zKS mi_X6_flipped 2 := ⟨⟨zat 875 (by decide +kernel) rfl, zat 59 (by decide +kernel) rfl, zat 876 (by decide +kernel) rfl⟩, ⟨by decide +kernel, by decide +kernel, by decide +kernel⟩, by decide⟩
theorem mk_X6_fraction : zKV mi_X6_fraction 2 := ⟨⟨zat 988 (by decide +kernel) rfl, zat 48 (by decide +kernel) rfl, zat 59 (by decide +kernel) rfl, zat 989 (by decide +kernel) rfl⟩, ⟨by decide +kernel, by decide +kernel, by decide +kernel⟩, by decide⟩
theorem mk_X6_has : zKS mi_X6_has 2 := ⟨⟨zat 830 (by decide +kernel) rfl, zat 59 (by decide +kernel) rfl, zat 831 (by decide +kernel) rfl⟩, ⟨by decide +kernel, by decide +kernel, by decide +kernel⟩, by decide⟩
theorem mk_X6_in : zKS mi_X6_in 3 := ⟨⟨zat 743 (by decide +kernel) rfl, zat 59 (by decide +kernel) rfl, zat 744 (by decide +kernel) rfl⟩, ⟨by decide +kernel, by decide +kernel, by decide +kernel⟩, by decide⟩
theorem mk_X6_isButton : zKS mi_X6_isButton 1 := ⟨⟨zat 856 (by decide +kernel) rfl, zat 59 (by decide +kernel) rfl, zat 857 (by decide +kernel) rfl⟩, ⟨by decide +kernel, by decide +kernel, by decide +kernel⟩, by decide⟩
theorem mk_X6_isBy : zKV mi_X6_isBy 2 := ⟨⟨zat 927 (by decide +kernel) rfl, zat 40 (by decide +kernel) rfl, zat 59 (by decide +kernel) rfl, zat 928 (by decide +kernel) rfl⟩, ⟨by decide +kernel, by decide +kernel, by decide +kernel⟩, by decide⟩
theorem mk_X6_isLamp : zKV mi_X6_isLamp 1 := ⟨⟨zat 811 (by decide +kernel) rfl, zat 30 (by decide +kernel) rfl, zat 59 (by decide +kernel) rfl, zat 812 (by decide +kernel) rfl⟩, ⟨by decide +kernel, by decide +kernel, by decide +kernel⟩, by decide⟩
theorem mk_X6_isPicture : zKS mi_X6_isPicture 1 := ⟨⟨zat 914 (by decide +kernel) rfl, zat 59 (by decide +kernel) rfl, zat 915 (by decide +kernel) rfl⟩, ⟨by decide +kernel, by decide +kernel, by decide +kernel⟩, by decide⟩
theorem mk_X6_isRow : zKS mi_X6_isRow 1 := ⟨⟨zat 740 (by decide +kernel) rfl, zat 59 (by decide +kernel) rfl, zat 741 (by decide +kernel) rfl⟩, ⟨by decide +kernel, by decide +kernel, by decide +kernel⟩, by decide⟩
theorem mk_X6_isText : zKS mi_X6_isText 1 := ⟨⟨zat 778 (by decide +kernel) rfl, zat 59 (by decide +kernel) rfl, zat 779 (by decide +kernel) rfl⟩, ⟨by decide +kernel, by decide +kernel, by decide +kernel⟩, by decide⟩
theorem mk_X6_isThree : zKS mi_X6_isThree 1 := ⟨⟨zat 799 (by decide +kernel) rfl, zat 59 (by decide +kernel) rfl, zat 800 (by decide +kernel) rfl⟩, ⟨by decide +kernel, by decide +kernel, by decide +kernel⟩, by decide⟩
theorem mk_X6_keep : zKV mi_X6_keep 1 := ⟨⟨zat 882 (by decide +kernel) rfl, zat 883 (by decide +kernel) rfl, zat 59 (by decide +kernel) rfl, zat 884 (by decide +kernel) rfl⟩, ⟨by decide +kernel, by decide +kernel, by decide +kernel⟩, by decide⟩
theorem mk_X6_kindOf : zKS mi_X6_kindOf 1 := ⟨⟨zat 793 (by decide +kernel) rfl, zat 59 (by decide +kernel) rfl, zat 794 (by decide +kernel) rfl⟩, ⟨by decide +kernel, by decide +kernel, by decide +kernel⟩, by decide⟩
theorem mk_X6_kinds : zKV mi_X6_kinds 2 := ⟨⟨zat 938 (by decide +kernel) rfl, zat 939 (by decide +kernel) rfl, zat 59 (by decide +kernel) rfl, zat 940 (by decide +kernel) rfl⟩, ⟨by decide +kernel, by decide +kernel, by decide +kernel⟩, by decide⟩
theorem mk_X6_kindsBy : zKV mi_X6_kindsBy 2 := ⟨⟨zat 947 (by decide +kernel) rfl, zat 42 (by decide +kernel) rfl, zat 59 (by decide +kernel) rfl, zat 948 (by decide +kernel) rfl⟩, ⟨by decide +kernel, by decide +kernel, by decide +kernel⟩, by decide⟩
theorem mk_X6_lamp : zKV mi_X6_lamp 2 := ⟨⟨zat 806 (by decide +kernel) rfl, zat 807 (by decide +kernel) rfl, zat 59 (by decide +kernel) rfl, zat 808 (by decide +kernel) rfl⟩, ⟨by decide +kernel, by decide +kernel, by decide +kernel⟩, by decide⟩
theorem mk_X6_lay : zKV mi_X6_lay 3 := ⟨⟨zat 750 (by decide +kernel) rfl, zat 751 (by decide +kernel) rfl, zat 59 (by decide +kernel) rfl, zat 752 (by decide +kernel) rfl⟩, ⟨by decide +kernel, by decide +kernel, by decide +kernel⟩, by decide⟩
theorem mk_X6_lot : zKV mi_X6_lot 2 := ⟨⟨zat 1006 (by decide +kernel) rfl, zat 49 (by decide +kernel) rfl, zat 59 (by decide +kernel) rfl, zat 1007 (by decide +kernel) rfl⟩, ⟨by decide +kernel, by decide +kernel, by decide +kernel⟩, by decide⟩
theorem mk_X6_lots : zKV mi_X6_lots 2 := ⟨⟨zat 995 (by decide +kernel) rfl, zat 996 (by decide +kernel) rfl, zat 59 (by decide +kernel) rfl, zat 997 (by decide +kernel) rfl⟩, ⟨by decide +kernel, by decide +kernel, by decide +kernel⟩, by decide⟩
theorem mk_X6_lower : zKV mi_X6_lower 0 := ⟨⟨zat 1017 (by decide +kernel) rfl, zat 1018 (by decide +kernel) rfl, zat 59 (by decide +kernel) rfl, zat 1019 (by decide +kernel) rfl⟩, ⟨by decide +kernel, by decide +kernel, by decide +kernel⟩, by decide⟩
theorem mk_X6_mark : zKV mi_X6_mark 2 := ⟨⟨zat 845 (by decide +kernel) rfl, zat 846 (by decide +kernel) rfl, zat 59 (by decide +kernel) rfl, zat 847 (by decide +kernel) rfl⟩, ⟨by decide +kernel, by decide +kernel, by decide +kernel⟩, by decide⟩
theorem mk_X6_mean : zKV mi_X6_mean 1 := ⟨⟨zat 770 (by decide +kernel) rfl, zat 771 (by decide +kernel) rfl, zat 59 (by decide +kernel) rfl, zat 772 (by decide +kernel) rfl⟩, ⟨by decide +kernel, by decide +kernel, by decide +kernel⟩, by decide⟩
theorem mk_X6_mid : zKV mi_X6_mid 2 := ⟨⟨zat 991 (by decide +kernel) rfl, zat 992 (by decide +kernel) rfl, zat 59 (by decide +kernel) rfl, zat 993 (by decide +kernel) rfl⟩, ⟨by decide +kernel, by decide +kernel, by decide +kernel⟩, by decide⟩
theorem mk_X6_most : zKV mi_X6_most 0 := ⟨⟨zat 902 (by decide +kernel) rfl, zat 903 (by decide +kernel) rfl, zat 59 (by decide +kernel) rfl, zat 904 (by decide +kernel) rfl⟩, ⟨by decide +kernel, by decide +kernel, by decide +kernel⟩, by decide⟩
theorem mk_X6_next : zKV mi_X6_next 2 := ⟨⟨zat 954 (by decide +kernel) rfl, zat 955 (by decide +kernel) rfl, zat 59 (by decide +kernel) rfl, zat 956 (by decide +kernel) rfl⟩, ⟨by decide +kernel, by decide +kernel, by decide +kernel⟩, by decide⟩
theorem mk_X6_now : zKV mi_X6_now 1 := ⟨⟨zat 819 (by decide +kernel) rfl, zat 32 (by decide +kernel) rfl, zat 59 (by decide +kernel) rfl, zat 820 (by decide +kernel) rfl⟩, ⟨by decide +kernel, by decide +kernel, by decide +kernel⟩, by decide⟩
theorem mk_X6_odds : zKV mi_X6_odds 3 := ⟨⟨zat 970 (by decide +kernel) rfl, zat 971 (by decide +kernel) rfl, zat 59 (by decide +kernel) rfl, zat 972 (by decide +kernel) rfl⟩, ⟨by decide +kernel, by decide +kernel, by decide +kernel⟩, by decide⟩
theorem mk_X6_on : zKV mi_X6_on 1 := ⟨⟨zat 886 (by decide +kernel) rfl, zat 887 (by decide +kernel) rfl, zat 59 (by decide +kernel) rfl, zat 888 (by decide +kernel) rfl⟩, ⟨by decide +kernel, by decide +kernel, by decide +kernel⟩, by decide⟩
theorem mk_X6_pairs : zKV mi_X6_pairs 1 := ⟨⟨zat 943 (by decide +kernel) rfl, zat 41 (by decide +kernel) rfl, zat 59 (by decide +kernel) rfl, zat 944 (by decide +kernel) rfl⟩, ⟨by decide +kernel, by decide +kernel, by decide +kernel⟩, by decide⟩
theorem mk_X6_press : zKV mi_X6_press 1 := ⟨⟨zat 852 (by decide +kernel) rfl, zat 853 (by decide +kernel) rfl, zat 59 (by decide +kernel) rfl, zat 854 (by decide +kernel) rfl⟩, ⟨by decide +kernel, by decide +kernel, by decide +kernel⟩, by decide⟩
theorem mk_X6_pressOn : zKV mi_X6_pressOn 4 := ⟨⟨zat 864 (by decide +kernel) rfl, zat 36 (by decide +kernel) rfl, zat 59 (by decide +kernel) rfl, zat 865 (by decide +kernel) rfl⟩, ⟨by decide +kernel, by decide +kernel, by decide +kernel⟩, by decide⟩
theorem mk_X6_put : zKV mi_X6_put 3 := ⟨⟨zat 781 (by decide +kernel) rfl, zat 782 (by decide +kernel) rfl, zat 59 (by decide +kernel) rfl, zat 783 (by decide +kernel) rfl⟩, ⟨by decide +kernel, by decide +kernel, by decide +kernel⟩, by decide⟩
theorem mk_X6_read : zKV mi_X6_read 1 := ⟨⟨zat 790 (by decide +kernel) rfl, zat 29 (by decide +kernel) rfl, zat 59 (by decide +kernel) rfl, zat 791 (by decide +kernel) rfl⟩, ⟨by decide +kernel, by decide +kernel, by decide +kernel⟩, by decide⟩
theorem mk_X6_row : zKV mi_X6_row 2 := ⟨⟨zat 736 (by decide +kernel) rfl, zat 737 (by decide +kernel) rfl, zat 59 (by decide +kernel) rfl, zat 738 (by decide +kernel) rfl⟩, ⟨by decide +kernel, by decide +kernel, by decide +kernel⟩, by decide⟩
theorem mk_X6_set : zKV mi_X6_set 2 := ⟨⟨zat 867 (by decide +kernel) rfl, zat 868 (by decide +kernel) rfl, zat 59 (by decide +kernel) rfl, zat 869 (by decide +kernel) rfl⟩, ⟨by decide +kernel, by decide +kernel, by decide +kernel⟩, by decide⟩
theorem mk_X6_shown : zKV mi_X6_shown 0 := ⟨⟨zat 823 (by decide +kernel) rfl, zat 33 (by decide +kernel) rfl, zat 59 (by decide +kernel) rfl, zat 824 (by decide +kernel) rfl⟩, ⟨by decide +kernel, by decide +kernel, by decide +kernel⟩, by decide⟩
theorem mk_X6_shownBehind : zKV mi_X6_shownBehind 1 := ⟨⟨zat 907 (by decide +kernel) rfl, zat 38 (by decide +kernel) rfl, zat 59 (by decide +kernel) rfl, zat 908 (by decide +kernel) rfl⟩, ⟨by decide +kernel, by decide +kernel, by decide +kernel⟩, by decide⟩
theorem mk_X6_shownBut : zKV mi_X6_shownBut 2 := ⟨⟨zat 980 (by decide +kernel) rfl, zat 46 (by decide +kernel) rfl, zat 59 (by decide +kernel) rfl, zat 981 (by decide +kernel) rfl⟩, ⟨by decide +kernel, by decide +kernel, by decide +kernel⟩, by decide⟩
theorem mk_X6_shownBy : zKV mi_X6_shownBy 2 := ⟨⟨zat 827 (by decide +kernel) rfl, zat 34 (by decide +kernel) rfl, zat 59 (by decide +kernel) rfl, zat 828 (by decide +kernel) rfl⟩, ⟨by decide +kernel, by decide +kernel, by decide +kernel⟩, by decide⟩
theorem mk_X6_shownByCode : zKV mi_X6_shownByCode 2 := ⟨⟨zat 918 (by decide +kernel) rfl, zat 39 (by decide +kernel) rfl, zat 59 (by decide +kernel) rfl, zat 919 (by decide +kernel) rfl⟩, ⟨by decide +kernel, by decide +kernel, by decide +kernel⟩, by decide⟩
theorem mk_X6_shows : zKV mi_X6_shows 1 := ⟨⟨zat 894 (by decide +kernel) rfl, zat 895 (by decide +kernel) rfl, zat 59 (by decide +kernel) rfl, zat 896 (by decide +kernel) rfl⟩, ⟨by decide +kernel, by decide +kernel, by decide +kernel⟩, by decide⟩
theorem mk_X6_stepsOf : zKS mi_X6_stepsOf 1 := ⟨⟨zat 796 (by decide +kernel) rfl, zat 59 (by decide +kernel) rfl, zat 797 (by decide +kernel) rfl⟩, ⟨by decide +kernel, by decide +kernel, by decide +kernel⟩, by decide⟩
theorem mk_X6_sumOf : zKV mi_X6_sumOf 1 := ⟨⟨zat 1026 (by decide +kernel) rfl, zat 50 (by decide +kernel) rfl, zat 59 (by decide +kernel) rfl, zat 1027 (by decide +kernel) rfl⟩, ⟨by decide +kernel, by decide +kernel, by decide +kernel⟩, by decide⟩
theorem mk_X6_sums : zKV mi_X6_sums 1 := ⟨⟨zat 958 (by decide +kernel) rfl, zat 959 (by decide +kernel) rfl, zat 59 (by decide +kernel) rfl, zat 960 (by decide +kernel) rfl⟩, ⟨by decide +kernel, by decide +kernel, by decide +kernel⟩, by decide⟩
theorem mk_X6_sure : zKV mi_X6_sure 1 := ⟨⟨zat 930 (by decide +kernel) rfl, zat 931 (by decide +kernel) rfl, zat 59 (by decide +kernel) rfl, zat 932 (by decide +kernel) rfl⟩, ⟨by decide +kernel, by decide +kernel, by decide +kernel⟩, by decide⟩
theorem mk_X6_take : zKV mi_X6_take 0 := ⟨⟨zat 899 (by decide +kernel) rfl, zat 37 (by decide +kernel) rfl, zat 59 (by decide +kernel) rfl, zat 900 (by decide +kernel) rfl⟩, ⟨by decide +kernel, by decide +kernel, by decide +kernel⟩, by decide⟩
theorem mk_X6_tear : zKV mi_X6_tear 1 := ⟨⟨zat 762 (by decide +kernel) rfl, zat 763 (by decide +kernel) rfl, zat 59 (by decide +kernel) rfl, zat 764 (by decide +kernel) rfl⟩, ⟨by decide +kernel, by decide +kernel, by decide +kernel⟩, by decide⟩
theorem mk_X6_text : zKV mi_X6_text 2 := ⟨⟨zat 774 (by decide +kernel) rfl, zat 775 (by decide +kernel) rfl, zat 59 (by decide +kernel) rfl, zat 776 (by decide +kernel) rfl⟩, ⟨by decide +kernel, by decide +kernel, by decide +kernel⟩, by decide⟩
theorem mk_X6_thereAre : zKV mi_X6_thereAre 1 := ⟨⟨zat 1030 (by decide +kernel) rfl, zat 51 (by decide +kernel) rfl, zat 59 (by decide +kernel) rfl, zat 1031 (by decide +kernel) rfl⟩, ⟨by decide +kernel, by decide +kernel, by decide +kernel⟩, by decide⟩
theorem mk_X6_told : zKV mi_X6_told 1 := ⟨⟨zat 755 (by decide +kernel) rfl, zat 28 (by decide +kernel) rfl, zat 59 (by decide +kernel) rfl, zat 756 (by decide +kernel) rfl⟩, ⟨by decide +kernel, by decide +kernel, by decide +kernel⟩, by decide⟩
theorem mk_X6_touched : zKV mi_X6_touched 4 := ⟨⟨zat 890 (by decide +kernel) rfl, zat 891 (by decide +kernel) rfl, zat 59 (by decide +kernel) rfl, zat 892 (by decide +kernel) rfl⟩, ⟨by decide +kernel, by decide +kernel, by decide +kernel⟩, by decide⟩
theorem mk_X6_touchedBy : zKS mi_X6_touchedBy 1 := ⟨⟨zat 836 (by decide +kernel) rfl, zat 59 (by decide +kernel) rfl, zat 837 (by decide +kernel) rfl⟩, ⟨by decide +kernel, by decide +kernel, by decide +kernel⟩, by decide⟩
theorem mk_X6_undo : zKV mi_X6_undo 1 := ⟨⟨zat 878 (by decide +kernel) rfl, zat 879 (by decide +kernel) rfl, zat 59 (by decide +kernel) rfl, zat 880 (by decide +kernel) rfl⟩, ⟨by decide +kernel, by decide +kernel, by decide +kernel⟩, by decide⟩
theorem mk_X6_upper : zKV mi_X6_upper 0 := ⟨⟨zat 1013 (by decide +kernel) rfl, zat 1014 (by decide +kernel) rfl, zat 59 (by decide +kernel) rfl, zat 1015 (by decide +kernel) rfl⟩, ⟨by decide +kernel, by decide +kernel, by decide +kernel⟩, by decide⟩
theorem mk_X6_wall : zKV mi_X6_wall 1 := ⟨⟨zat 802 (by decide +kernel) rfl, zat 803 (by decide +kernel) rfl, zat 59 (by decide +kernel) rfl, zat 804 (by decide +kernel) rfl⟩, ⟨by decide +kernel, by decide +kernel, by decide +kernel⟩, by decide⟩
theorem mk_X6_ways : zKV mi_X6_ways 1 := ⟨⟨zat 922 (by decide +kernel) rfl, zat 923 (by decide +kernel) rfl, zat 59 (by decide +kernel) rfl, zat 924 (by decide +kernel) rfl⟩, ⟨by decide +kernel, by decide +kernel, by decide +kernel⟩, by decide⟩
theorem mk_X6_waysOf : zKV mi_X6_waysOf 3 := ⟨⟨zat 975 (by decide +kernel) rfl, zat 45 (by decide +kernel) rfl, zat 59 (by decide +kernel) rfl, zat 976 (by decide +kernel) rfl⟩, ⟨by decide +kernel, by decide +kernel, by decide +kernel⟩, by decide⟩
theorem mk_X6_which : zKV mi_X6_which 1 := ⟨⟨zat 934 (by decide +kernel) rfl, zat 935 (by decide +kernel) rfl, zat 59 (by decide +kernel) rfl, zat 936 (by decide +kernel) rfl⟩, ⟨by decide +kernel, by decide +kernel, by decide +kernel⟩, by decide⟩
theorem mk_X6_worthOf : zKV mi_X6_worthOf 3 := ⟨⟨zat 967 (by decide +kernel) rfl, zat 44 (by decide +kernel) rfl, zat 59 (by decide +kernel) rfl, zat 968 (by decide +kernel) rfl⟩, ⟨by decide +kernel, by decide +kernel, by decide +kernel⟩, by decide⟩
theorem mk_X6_wouldShow : zKV mi_X6_wouldShow 3 := ⟨⟨zat 951 (by decide +kernel) rfl, zat 43 (by decide +kernel) rfl, zat 59 (by decide +kernel) rfl, zat 952 (by decide +kernel) rfl⟩, ⟨by decide +kernel, by decide +kernel, by decide +kernel⟩, by decide⟩
theorem ck_J6_265 : Cond.constant RJ6 265 (1431655765) ∈ ztbl := zat 415 (by decide +kernel) rfl
theorem ck_J6_266 : Cond.constant RJ6 266 (858993459) ∈ ztbl := zat 416 (by decide +kernel) rfl
theorem ck_J6_267 : Cond.constant RJ6 267 (252645135) ∈ ztbl := zat 417 (by decide +kernel) rfl
theorem ck_X3_43 : Cond.constantLong RX3 43 (31) ∈ ztbl := zat 669 (by decide +kernel) rfl
theorem ck_X5_269 : Cond.constantLong RX5 269 (12) ∈ ztbl := zat 602 (by decide +kernel) rfl
theorem ck_X5_271 : Cond.constantLong RX5 271 (2147483647) ∈ ztbl := zat 611 (by decide +kernel) rfl
theorem ck_X5_273 : Cond.constantLong RX5 273 (48271) ∈ ztbl := zat 612 (by decide +kernel) rfl
theorem ck_X5_275 : Cond.constantLong RX5 275 (9) ∈ ztbl := zat 613 (by decide +kernel) rfl
theorem ck_X5_277 : Cond.constantLong RX5 277 (16) ∈ ztbl := zat 614 (by decide +kernel) rfl
theorem ck_X5_279 : Cond.constantLong RX5 279 (8) ∈ ztbl := zat 615 (by decide +kernel) rfl
theorem ck_X5_287 : Cond.constantLong RX5 287 (17) ∈ ztbl := zat 663 (by decide +kernel) rfl
theorem ck_X5_289 : Cond.constantLong RX5 289 (31) ∈ ztbl := zat 664 (by decide +kernel) rfl
theorem ck_X6_182 : Cond.constantLong RX6 182 (12) ∈ ztbl := zat 977 (by decide +kernel) rfl
theorem ck_X6_199 : Cond.constant RX6 199 (2147483646) ∈ ztbl := zat 998 (by decide +kernel) rfl
theorem ck_X6_200 : Cond.constantLong RX6 200 (48271) ∈ ztbl := zat 999 (by decide +kernel) rfl
theorem ck_X6_202 : Cond.constantLong RX6 202 (2147483647) ∈ ztbl := zat 1000 (by decide +kernel) rfl
theorem ck_X6_204 : Cond.constantLong RX6 204 (16) ∈ ztbl := zat 1001 (by decide +kernel) rfl
theorem ck_X6_206 : Cond.constantLong RX6 206 (8) ∈ ztbl := zat 1002 (by decide +kernel) rfl
theorem ck_X6_208 : Cond.constantLong RX6 208 (9) ∈ ztbl := zat 1003 (by decide +kernel) rfl
theorem ck_X6_220 : Cond.constantLong RX6 220 (17) ∈ ztbl := zat 1044 (by decide +kernel) rfl
theorem ck_X6_222 : Cond.constantLong RX6 222 (31) ∈ ztbl := zat 1045 (by decide +kernel) rfl
theorem fk_X0_15 : zFK RX0 15 1 0 := ⟨by decide, by decide, zat 97 (by decide +kernel) rfl⟩
theorem fk_X0_19 : zFK RX0 19 1 1 := ⟨by decide, by decide, zat 99 (by decide +kernel) rfl⟩
theorem fk_X0_22 : zFK RX0 22 1 2 := ⟨by decide, by decide, zat 101 (by decide +kernel) rfl⟩
theorem fk_X0_25 : zFK RX0 25 1 3 := ⟨by decide, by decide, zat 103 (by decide +kernel) rfl⟩
theorem fk_X0_28 : zFK RX0 28 1 4 := ⟨by decide, by decide, zat 104 (by decide +kernel) rfl⟩
theorem fk_X1_9 : zFK RX1 9 2 0 := ⟨by decide, by decide, zat 80 (by decide +kernel) rfl⟩
theorem fk_X1_15 : zFK RX1 15 2 1 := ⟨by decide, by decide, zat 81 (by decide +kernel) rfl⟩
theorem fk_X1_18 : zFK RX1 18 2 2 := ⟨by decide, by decide, zat 82 (by decide +kernel) rfl⟩
theorem fk_X2_12 : zFK RX2 12 3 0 := ⟨by decide, by decide, zat 124 (by decide +kernel) rfl⟩
theorem fk_X2_18 : zFK RX2 18 3 1 := ⟨by decide, by decide, zat 126 (by decide +kernel) rfl⟩
theorem fk_X3_9 : zFK RX3 9 4 1 := ⟨by decide, by decide, zat 142 (by decide +kernel) rfl⟩
theorem fk_X3_21 : zFK RX3 21 4 0 := ⟨by decide, by decide, zat 141 (by decide +kernel) rfl⟩
theorem fk_X5_11 : zFK RX5 11 0 0 := ⟨by decide, by decide, zat 148 (by decide +kernel) rfl⟩
theorem fk_X5_15 : zFK RX5 15 0 1 := ⟨by decide, by decide, zat 149 (by decide +kernel) rfl⟩
theorem fk_X5_20 : zFK RX5 20 0 2 := ⟨by decide, by decide, zat 150 (by decide +kernel) rfl⟩
theorem fk_X5_25 : zFK RX5 25 0 3 := ⟨by decide, by decide, zat 151 (by decide +kernel) rfl⟩
theorem fk_X5_32 : zFK RX5 32 0 4 := ⟨by decide, by decide, zat 152 (by decide +kernel) rfl⟩
theorem fk_X5_36 : zFK RX5 36 0 5 := ⟨by decide, by decide, zat 153 (by decide +kernel) rfl⟩
theorem fk_X5_42 : zFK RX5 42 0 6 := ⟨by decide, by decide, zat 154 (by decide +kernel) rfl⟩
theorem fk_X5_46 : zFK RX5 46 0 7 := ⟨by decide, by decide, zat 155 (by decide +kernel) rfl⟩
theorem fk_X5_50 : zFK RX5 50 0 8 := ⟨by decide, by decide, zat 156 (by decide +kernel) rfl⟩
theorem fk_X5_53 : zFK RX5 53 0 9 := ⟨by decide, by decide, zat 157 (by decide +kernel) rfl⟩
theorem fk_X5_56 : zFK RX5 56 0 10 := ⟨by decide, by decide, zat 158 (by decide +kernel) rfl⟩
theorem fk_X5_60 : zFK RX5 60 0 11 := ⟨by decide, by decide, zat 159 (by decide +kernel) rfl⟩
theorem fk_X5_63 : zFK RX5 63 0 12 := ⟨by decide, by decide, zat 160 (by decide +kernel) rfl⟩
theorem fk_X5_67 : zFK RX5 67 0 13 := ⟨by decide, by decide, zat 161 (by decide +kernel) rfl⟩
theorem fk_X5_132 : zFK RX5 132 3 0 := ⟨by decide, by decide, zat 125 (by decide +kernel) rfl⟩
theorem fk_X5_137 : zFK RX5 137 3 1 := ⟨by decide, by decide, zat 127 (by decide +kernel) rfl⟩
theorem fk_X5_167 : zFK RX5 167 1 1 := ⟨by decide, by decide, zat 100 (by decide +kernel) rfl⟩
theorem fk_X5_318 : zFK RX5 318 1 0 := ⟨by decide, by decide, zat 98 (by decide +kernel) rfl⟩
theorem fk_X5_321 : zFK RX5 321 1 2 := ⟨by decide, by decide, zat 102 (by decide +kernel) rfl⟩
theorem fk_X6_7 : zFK RX6 7 5 1 := ⟨by decide, by decide, zat 677 (by decide +kernel) rfl⟩
theorem fk_X6_13 : zFK RX6 13 5 4 := ⟨by decide, by decide, zat 680 (by decide +kernel) rfl⟩
theorem fk_X6_17 : zFK RX6 17 5 5 := ⟨by decide, by decide, zat 681 (by decide +kernel) rfl⟩
theorem fk_X6_20 : zFK RX6 20 5 6 := ⟨by decide, by decide, zat 682 (by decide +kernel) rfl⟩
theorem fk_X6_23 : zFK RX6 23 5 7 := ⟨by decide, by decide, zat 683 (by decide +kernel) rfl⟩
theorem fk_X6_26 : zFK RX6 26 5 8 := ⟨by decide, by decide, zat 684 (by decide +kernel) rfl⟩
theorem fk_X6_30 : zFK RX6 30 5 9 := ⟨by decide, by decide, zat 685 (by decide +kernel) rfl⟩
theorem fk_X6_33 : zFK RX6 33 5 11 := ⟨by decide, by decide, zat 687 (by decide +kernel) rfl⟩
theorem fk_X6_36 : zFK RX6 36 5 12 := ⟨by decide, by decide, zat 688 (by decide +kernel) rfl⟩
theorem fk_X6_39 : zFK RX6 39 5 13 := ⟨by decide, by decide, zat 689 (by decide +kernel) rfl⟩
theorem fk_X6_42 : zFK RX6 42 5 15 := ⟨by decide, by decide, zat 691 (by decide +kernel) rfl⟩
theorem fk_X6_45 : zFK RX6 45 5 16 := ⟨by decide, by decide, zat 692 (by decide +kernel) rfl⟩
theorem fk_X6_48 : zFK RX6 48 5 17 := ⟨by decide, by decide, zat 693 (by decide +kernel) rfl⟩
theorem fk_X6_51 : zFK RX6 51 5 18 := ⟨by decide, by decide, zat 694 (by decide +kernel) rfl⟩
theorem fk_X6_54 : zFK RX6 54 5 0 := ⟨by decide, by decide, zat 676 (by decide +kernel) rfl⟩
theorem fk_X6_58 : zFK RX6 58 5 2 := ⟨by decide, by decide, zat 678 (by decide +kernel) rfl⟩
theorem fk_X6_61 : zFK RX6 61 5 3 := ⟨by decide, by decide, zat 679 (by decide +kernel) rfl⟩
theorem fk_X6_94 : zFK RX6 94 5 10 := ⟨by decide, by decide, zat 686 (by decide +kernel) rfl⟩
theorem fk_X6_97 : zFK RX6 97 5 14 := ⟨by decide, by decide, zat 690 (by decide +kernel) rfl⟩
theorem lk_X0_9 : zLS RX0 9 mi_X0_isA 2 := ⟨zat 313 (by decide +kernel) rfl, mk_X0_isA⟩
theorem lk_X0_31 : zLS RX0 31 mi_X0_changed 3 := ⟨zat 320 (by decide +kernel) rfl, mk_X0_changed⟩
theorem lk_X0_35 : zLS RX0 35 mi_X4_above 1 := ⟨zat 385 (by decide +kernel) rfl, mk_X4_above⟩
theorem lk_X0_41 : zLS RX0 41 mi_X4_broken 1 := ⟨zat 388 (by decide +kernel) rfl, mk_X4_broken⟩
theorem lk_X0_44 : Cond.methodLinkNest RX0 44 mi_X5_touchedBy.1 "TouchedLamps" = zNL ∧ zKS mi_X5_touchedBy 1 := ⟨rfl, mk_X5_touchedBy⟩
theorem lk_X0_51 : zLS RX0 51 mi_X4_ones 1 := ⟨zat 403 (by decide +kernel) rfl, mk_X4_ones⟩
theorem lk_X0_54 : zLS RX0 54 mi_X4_twos 1 := ⟨zat 404 (by decide +kernel) rfl, mk_X4_twos⟩
theorem lk_X0_57 : zLS RX0 57 mi_X4_join 3 := ⟨zat 405 (by decide +kernel) rfl, mk_X4_join⟩
theorem lk_X1_22 : zLS RX1 22 mi_J9_max_7cf53 2 := ⟨zat 476 (by decide +kernel) rfl, mk_J9_max_7cf53⟩
theorem lk_X2_32 : zLS RX2 32 mi_X2_kindBy 1 := ⟨zat 307 (by decide +kernel) rfl, mk_X2_kindBy⟩
theorem lk_X2_35 : zLS RX2 35 mi_X0_lastStep 1 := ⟨zat 310 (by decide +kernel) rfl, mk_X0_lastStep⟩
theorem lk_X2_42 : zLS RX2 42 mi_X4_with 3 := ⟨zat 323 (by decide +kernel) rfl, mk_X4_with⟩
theorem lk_X3_15 : zLS RX3 15 mi_J9_max_7cf53 2 := ⟨zat 138 (by decide +kernel) rfl, mk_J9_max_7cf53⟩
theorem lk_X4_11 : zLS RX4 11 mi_X4_ones 1 := ⟨zat 326 (by decide +kernel) rfl, mk_X4_ones⟩
theorem lk_X4_15 : zLS RX4 15 mi_X4_twos 1 := ⟨zat 329 (by decide +kernel) rfl, mk_X4_twos⟩
theorem lk_X4_18 : zLS RX4 18 mi_X4_broken 1 := ⟨zat 332 (by decide +kernel) rfl, mk_X4_broken⟩
theorem lk_X4_21 : zLS RX4 21 mi_X4_join 3 := ⟨zat 335 (by decide +kernel) rfl, mk_X4_join⟩
theorem lk_X4_25 : zLS RX4 25 mi_J6_bitCount_0f7a4 1 := ⟨zat 584 (by decide +kernel) rfl, mk_J6_bitCount_0f7a4⟩
theorem lk_X5_157 : zLS RX5 157 mi_X0_isA 2 := ⟨zat 410 (by decide +kernel) rfl, mk_X0_isA⟩
theorem lk_X5_162 : zLS RX5 162 mi_X4_of 2 := ⟨zat 378 (by decide +kernel) rfl, mk_X4_of⟩
theorem lk_X5_170 : zLS RX5 170 mi_X4_above 1 := ⟨zat 411 (by decide +kernel) rfl, mk_X4_above⟩
theorem lk_X5_173 : zLS RX5 173 mi_J6_bitCount_0f7a4 1 := ⟨zat 412 (by decide +kernel) rfl, mk_J6_bitCount_0f7a4⟩
theorem lk_X5_178 : zLS RX5 178 mi_X5_touchedBy 1 := ⟨zat 390 (by decide +kernel) rfl, mk_X5_touchedBy⟩
theorem lk_X5_203 : zLS RX5 203 mi_X4_broken 1 := ⟨zat 389 (by decide +kernel) rfl, mk_X4_broken⟩
theorem lk_X5_219 : zLS RX5 219 mi_X4_with 3 := ⟨zat 456 (by decide +kernel) rfl, mk_X4_with⟩
theorem lk_X5_236 : zLS RX5 236 mi_X5_reaches 7 := ⟨zat 521 (by decide +kernel) rfl, mk_X5_reaches⟩
theorem lk_X5_260 : zLS RX5 260 mi_X4_total 2 := ⟨zat 581 (by decide +kernel) rfl, mk_X4_total⟩
theorem lk_X5_262 : zLS RX5 262 mi_X5_wonBy 7 := ⟨zat 589 (by decide +kernel) rfl, mk_X5_wonBy⟩
theorem lk_X5_266 : zLS RX5 266 mi_X5_twelfths 4 := ⟨zat 599 (by decide +kernel) rfl, mk_X5_twelfths⟩
theorem lk_X5_298 : zLS RX5 298 mi_X0_lastStep 1 := ⟨zat 451 (by decide +kernel) rfl, mk_X0_lastStep⟩
theorem lk_X5_304 : zLS RX5 304 mi_X5_commonDivisor 2 := ⟨zat 536 (by decide +kernel) rfl, mk_X5_commonDivisor⟩
theorem lk_X5_308 : zLS RX5 308 mi_X5_countRows 2 := ⟨zat 640 (by decide +kernel) rfl, mk_X5_countRows⟩
theorem lk_X5_327 : zLS RX5 327 mi_X4_withBroken 2 := ⟨zat 465 (by decide +kernel) rfl, mk_X4_withBroken⟩
theorem lk_X5_340 : zLS RX5 340 mi_J9_max_7cf53 2 := ⟨zat 576 (by decide +kernel) rfl, mk_J9_max_7cf53⟩
theorem lk_X5_345 : zLS RX5 345 mi_J9_min_7cf53 2 := ⟨zat 592 (by decide +kernel) rfl, mk_J9_min_7cf53⟩
theorem lk_X6_64 : zLS RX6 64 mi_X6_in 3 := ⟨zat 742 (by decide +kernel) rfl, mk_X6_in⟩
theorem lk_X6_68 : zLS RX6 68 mi_X6_isRow 1 := ⟨zat 739 (by decide +kernel) rfl, mk_X6_isRow⟩
theorem lk_X6_79 : zLS RX6 79 mi_X6_isText 1 := ⟨zat 777 (by decide +kernel) rfl, mk_X6_isText⟩
theorem lk_X6_82 : zLS RX6 82 mi_X6_isThree 1 := ⟨zat 798 (by decide +kernel) rfl, mk_X6_isThree⟩
theorem lk_X6_85 : zLS RX6 85 mi_X6_kindOf 1 := ⟨zat 792 (by decide +kernel) rfl, mk_X6_kindOf⟩
theorem lk_X6_88 : zLS RX6 88 mi_X6_stepsOf 1 := ⟨zat 795 (by decide +kernel) rfl, mk_X6_stepsOf⟩
theorem lk_X6_100 : zLS RX6 100 mi_X6_doesTouch 2 := ⟨zat 838 (by decide +kernel) rfl, mk_X6_doesTouch⟩
theorem lk_X6_104 : zLS RX6 104 mi_X6_has 2 := ⟨zat 829 (by decide +kernel) rfl, mk_X6_has⟩
theorem lk_X6_107 : zLS RX6 107 mi_X6_doesShow 2 := ⟨zat 832 (by decide +kernel) rfl, mk_X6_doesShow⟩
theorem lk_X6_114 : zLS RX6 114 mi_X6_after 4 := ⟨zat 841 (by decide +kernel) rfl, mk_X6_after⟩
theorem lk_X6_125 : zLS RX6 125 mi_X6_touchedBy 1 := ⟨zat 835 (by decide +kernel) rfl, mk_X6_touchedBy⟩
theorem lk_X6_135 : zLS RX6 135 mi_X6_bitsOf 1 := ⟨zat 848 (by decide +kernel) rfl, mk_X6_bitsOf⟩
theorem lk_X6_138 : zLS RX6 138 mi_X6_isButton 1 := ⟨zat 855 (by decide +kernel) rfl, mk_X6_isButton⟩
theorem lk_X6_148 : zLS RX6 148 mi_X6_flipped 2 := ⟨zat 874 (by decide +kernel) rfl, mk_X6_flipped⟩
theorem lk_X6_157 : zLS RX6 157 mi_X6_isPicture 1 := ⟨zat 913 (by decide +kernel) rfl, mk_X6_isPicture⟩
theorem lk_L_13 : zLV RL 13 mi_X5_row 2 := ⟨zat 191 (by decide +kernel) rfl, mk_X5_row⟩
theorem lk_L_17 : zLV RL 17 mi_X6_row 2 := ⟨zat 735 (by decide +kernel) rfl, mk_X6_row⟩
theorem lk_L_18 : zLV RL 18 mi_X5_lay 3 := ⟨zat 211 (by decide +kernel) rfl, mk_X5_lay⟩
theorem lk_L_22 : zLV RL 22 mi_X6_lay 3 := ⟨zat 749 (by decide +kernel) rfl, mk_X6_lay⟩
theorem lk_L_23 : zLV RL 23 mi_X5_at 2 := ⟨zat 244 (by decide +kernel) rfl, mk_X5_at⟩
theorem lk_L_26 : zLV RL 26 mi_X6_at 2 := ⟨zat 757 (by decide +kernel) rfl, mk_X6_at⟩
theorem lk_L_27 : zLV RL 27 mi_X5_tear 1 := ⟨zat 248 (by decide +kernel) rfl, mk_X5_tear⟩
theorem lk_L_31 : zLV RL 31 mi_X6_tear 1 := ⟨zat 761 (by decide +kernel) rfl, mk_X6_tear⟩
theorem lk_L_32 : zLV RL 32 mi_X5_copy 5 := ⟨zat 256 (by decide +kernel) rfl, mk_X5_copy⟩
theorem lk_L_36 : zLV RL 36 mi_X6_copy 5 := ⟨zat 765 (by decide +kernel) rfl, mk_X6_copy⟩
theorem lk_L_37 : zLV RL 37 mi_X5_mean 1 := ⟨zat 272 (by decide +kernel) rfl, mk_X5_mean⟩
theorem lk_L_40 : zLV RL 40 mi_X6_mean 1 := ⟨zat 769 (by decide +kernel) rfl, mk_X6_mean⟩
theorem lk_L_41 : zLV RL 41 mi_X5_text 2 := ⟨zat 285 (by decide +kernel) rfl, mk_X5_text⟩
theorem lk_L_44 : zLV RL 44 mi_X6_text 2 := ⟨zat 773 (by decide +kernel) rfl, mk_X6_text⟩
theorem lk_L_45 : zLV RL 45 mi_X5_put 3 := ⟨zat 293 (by decide +kernel) rfl, mk_X5_put⟩
theorem lk_L_48 : zLV RL 48 mi_X6_put 3 := ⟨zat 780 (by decide +kernel) rfl, mk_X6_put⟩
theorem lk_L_49 : zLV RL 49 mi_X5_fault 1 := ⟨zat 297 (by decide +kernel) rfl, mk_X5_fault⟩
theorem lk_L_52 : zLV RL 52 mi_X6_fault 1 := ⟨zat 784 (by decide +kernel) rfl, mk_X6_fault⟩
theorem lk_L_53 : zLV RL 53 mi_X5_wall 1 := ⟨zat 338 (by decide +kernel) rfl, mk_X5_wall⟩
theorem lk_L_56 : zLV RL 56 mi_X6_wall 1 := ⟨zat 801 (by decide +kernel) rfl, mk_X6_wall⟩
theorem lk_L_57 : zLV RL 57 mi_X5_lamp 2 := ⟨zat 354 (by decide +kernel) rfl, mk_X5_lamp⟩
theorem lk_L_60 : zLV RL 60 mi_X6_lamp 2 := ⟨zat 805 (by decide +kernel) rfl, mk_X6_lamp⟩
theorem lk_L_61 : zLV RL 61 mi_X5_mark 2 := ⟨zat 406 (by decide +kernel) rfl, mk_X5_mark⟩
theorem lk_L_64 : zLV RL 64 mi_X6_mark 2 := ⟨zat 844 (by decide +kernel) rfl, mk_X6_mark⟩
theorem lk_L_65 : zLV RL 65 mi_X5_press 1 := ⟨zat 418 (by decide +kernel) rfl, mk_X5_press⟩
theorem lk_L_68 : zLV RL 68 mi_X6_press 1 := ⟨zat 851 (by decide +kernel) rfl, mk_X6_press⟩
theorem lk_L_69 : zLV RL 69 mi_X5_set 2 := ⟨zat 443 (by decide +kernel) rfl, mk_X5_set⟩
theorem lk_L_72 : zLV RL 72 mi_X6_set 2 := ⟨zat 866 (by decide +kernel) rfl, mk_X6_set⟩
theorem lk_L_73 : zLV RL 73 mi_X5_crack 1 := ⟨zat 457 (by decide +kernel) rfl, mk_X5_crack⟩
theorem lk_L_76 : zLV RL 76 mi_X6_crack 1 := ⟨zat 870 (by decide +kernel) rfl, mk_X6_crack⟩
theorem lk_L_77 : zLV RL 77 mi_X5_undo 1 := ⟨zat 468 (by decide +kernel) rfl, mk_X5_undo⟩
theorem lk_L_80 : zLV RL 80 mi_X6_undo 1 := ⟨zat 877 (by decide +kernel) rfl, mk_X6_undo⟩
theorem lk_L_81 : zLV RL 81 mi_X5_keep 1 := ⟨zat 481 (by decide +kernel) rfl, mk_X5_keep⟩
theorem lk_L_84 : zLV RL 84 mi_X6_keep 1 := ⟨zat 881 (by decide +kernel) rfl, mk_X6_keep⟩
theorem lk_L_85 : zLV RL 85 mi_X5_on 1 := ⟨zat 493 (by decide +kernel) rfl, mk_X5_on⟩
theorem lk_L_88 : zLV RL 88 mi_X6_on 1 := ⟨zat 885 (by decide +kernel) rfl, mk_X6_on⟩
theorem lk_L_89 : zLV RL 89 mi_X5_touched 4 := ⟨zat 497 (by decide +kernel) rfl, mk_X5_touched⟩
theorem lk_L_93 : zLV RL 93 mi_X6_touched 4 := ⟨zat 889 (by decide +kernel) rfl, mk_X6_touched⟩
theorem lk_L_94 : zLV RL 94 mi_X5_shows 1 := ⟨zat 501 (by decide +kernel) rfl, mk_X5_shows⟩
theorem lk_L_97 : zLV RL 97 mi_X6_shows 1 := ⟨zat 893 (by decide +kernel) rfl, mk_X6_shows⟩
theorem lk_L_98 : zLV RL 98 mi_X5_most 0 := ⟨zat 505 (by decide +kernel) rfl, mk_X5_most⟩
theorem lk_L_102 : zLV RL 102 mi_X6_most 0 := ⟨zat 901 (by decide +kernel) rfl, mk_X6_most⟩
theorem lk_L_103 : zLV RL 103 mi_X5_fewest 2 := ⟨zat 513 (by decide +kernel) rfl, mk_X5_fewest⟩
theorem lk_L_106 : zLV RL 106 mi_X6_fewest 2 := ⟨zat 909 (by decide +kernel) rfl, mk_X6_fewest⟩
theorem lk_L_107 : zLV RL 107 mi_X5_ways 1 := ⟨zat 524 (by decide +kernel) rfl, mk_X5_ways⟩
theorem lk_L_110 : zLV RL 110 mi_X6_ways 1 := ⟨zat 921 (by decide +kernel) rfl, mk_X6_ways⟩
theorem lk_L_111 : zLV RL 111 mi_X5_sure 1 := ⟨zat 539 (by decide +kernel) rfl, mk_X5_sure⟩
theorem lk_L_114 : zLV RL 114 mi_X6_sure 1 := ⟨zat 929 (by decide +kernel) rfl, mk_X6_sure⟩
theorem lk_L_115 : zLV RL 115 mi_X5_which 1 := ⟨zat 543 (by decide +kernel) rfl, mk_X5_which⟩
theorem lk_L_118 : zLV RL 118 mi_X6_which 1 := ⟨zat 933 (by decide +kernel) rfl, mk_X6_which⟩
theorem lk_L_119 : zLV RL 119 mi_X5_kinds 2 := ⟨zat 547 (by decide +kernel) rfl, mk_X5_kinds⟩
theorem lk_L_122 : zLV RL 122 mi_X6_kinds 2 := ⟨zat 937 (by decide +kernel) rfl, mk_X6_kinds⟩
theorem lk_L_123 : zLV RL 123 mi_X5_next 2 := ⟨zat 568 (by decide +kernel) rfl, mk_X5_next⟩
theorem lk_L_126 : zLV RL 126 mi_X6_next 2 := ⟨zat 953 (by decide +kernel) rfl, mk_X6_next⟩
theorem lk_L_127 : zLV RL 127 mi_X5_sums 1 := ⟨zat 577 (by decide +kernel) rfl, mk_X5_sums⟩
theorem lk_L_130 : zLV RL 130 mi_X6_sums 1 := ⟨zat 957 (by decide +kernel) rfl, mk_X6_sums⟩
theorem lk_L_131 : zLV RL 131 mi_X5_duel 2 := ⟨zat 585 (by decide +kernel) rfl, mk_X5_duel⟩
theorem lk_L_134 : zLV RL 134 mi_X6_duel 2 := ⟨zat 961 (by decide +kernel) rfl, mk_X6_duel⟩
theorem lk_L_135 : zLV RL 135 mi_X5_odds 3 := ⟨zat 595 (by decide +kernel) rfl, mk_X5_odds⟩
theorem lk_L_138 : zLV RL 138 mi_X6_odds 3 := ⟨zat 969 (by decide +kernel) rfl, mk_X6_odds⟩
theorem lk_L_139 : zLV RL 139 mi_X5_mid 2 := ⟨zat 603 (by decide +kernel) rfl, mk_X5_mid⟩
theorem lk_L_142 : zLV RL 142 mi_X6_mid 2 := ⟨zat 990 (by decide +kernel) rfl, mk_X6_mid⟩
theorem lk_L_143 : zLV RL 143 mi_X5_lots 2 := ⟨zat 607 (by decide +kernel) rfl, mk_X5_lots⟩
theorem lk_L_146 : zLV RL 146 mi_X6_lots 2 := ⟨zat 994 (by decide +kernel) rfl, mk_X6_lots⟩
theorem lk_L_147 : zLV RL 147 mi_X5_asked 0 := ⟨zat 620 (by decide +kernel) rfl, mk_X5_asked⟩
theorem lk_L_150 : zLV RL 150 mi_X6_asked 0 := ⟨zat 1008 (by decide +kernel) rfl, mk_X6_asked⟩
theorem lk_L_151 : zLV RL 151 mi_X5_upper 0 := ⟨zat 624 (by decide +kernel) rfl, mk_X5_upper⟩
theorem lk_L_155 : zLV RL 155 mi_X6_upper 0 := ⟨zat 1012 (by decide +kernel) rfl, mk_X6_upper⟩
theorem lk_L_156 : zLV RL 156 mi_X5_lower 0 := ⟨zat 628 (by decide +kernel) rfl, mk_X5_lower⟩
theorem lk_L_159 : zLV RL 159 mi_X6_lower 0 := ⟨zat 1016 (by decide +kernel) rfl, mk_X6_lower⟩
theorem lk_L_160 : zLV RL 160 mi_X5_count 1 := ⟨zat 632 (by decide +kernel) rfl, mk_X5_count⟩
theorem lk_L_163 : zLV RL 163 mi_X6_count 1 := ⟨zat 1020 (by decide +kernel) rfl, mk_X6_count⟩
theorem lk_L_164 : zLV RL 164 mi_X5_finding 0 := ⟨zat 651 (by decide +kernel) rfl, mk_X5_finding⟩
theorem lk_L_167 : zLV RL 167 mi_X6_finding 0 := ⟨zat 1032 (by decide +kernel) rfl, mk_X6_finding⟩
theorem lk_L_168 : zLV RL 168 mi_X5_findings 1 := ⟨zat 655 (by decide +kernel) rfl, mk_X5_findings⟩
theorem lk_L_171 : zLV RL 171 mi_X6_findings 1 := ⟨zat 1036 (by decide +kernel) rfl, mk_X6_findings⟩
theorem lk_L_172 : zLV RL 172 mi_X5_digest 0 := ⟨zat 659 (by decide +kernel) rfl, mk_X5_digest⟩
theorem lk_L_175 : zLV RL 175 mi_X6_digest 0 := ⟨zat 1040 (by decide +kernel) rfl, mk_X6_digest⟩
theorem lk_X0_47 : zLV RX0 47 mi_X0_behindTouch 4 := ⟨zat 436 (by decide +kernel) rfl, mk_X0_behindTouch⟩
theorem lk_X1_28 : zLV RX1 28 mi_X1_isThere 0 := ⟨zat 426 (by decide +kernel) rfl, mk_X1_isThere⟩
theorem lk_X1_32 : zLV RX1 32 mi_X1_room 0 := ⟨zat 441 (by decide +kernel) rfl, mk_X1_room⟩
theorem lk_X1_36 : zLV RX1 36 mi_X1_number 0 := ⟨zat 442 (by decide +kernel) rfl, mk_X1_number⟩
theorem lk_X2_22 : zLV RX2 22 mi_X3_size 0 := ⟨zat 305 (by decide +kernel) rfl, mk_X3_size⟩
theorem lk_X2_28 : zLV RX2 28 mi_X3_valueAt 1 := ⟨zat 306 (by decide +kernel) rfl, mk_X3_valueAt⟩
theorem lk_X2_38 : zLV RX2 38 mi_X0_become 2 := ⟨zat 316 (by decide +kernel) rfl, mk_X0_become⟩
theorem lk_X3_25 : zLV RX3 25 mi_X3_has 1 := ⟨zat 235 (by decide +kernel) rfl, mk_X3_has⟩
theorem lk_X3_29 : zLV RX3 29 mi_X3_hasRun 2 := ⟨zat 268 (by decide +kernel) rfl, mk_X3_hasRun⟩
theorem lk_X3_39 : zLV RX3 39 mi_X3_valueAt 1 := ⟨zat 284 (by decide +kernel) rfl, mk_X3_valueAt⟩
theorem lk_X5_73 : zLV RX5 73 mi_X5_rowAt 1 := ⟨zat 195 (by decide +kernel) rfl, mk_X5_rowAt⟩
theorem lk_X5_77 : zLV RX5 77 mi_X5_makeAnew 4 := ⟨zat 199 (by decide +kernel) rfl, mk_X5_makeAnew⟩
theorem lk_X5_81 : zLV RX5 81 mi_X5_refusalOfPlace 2 := ⟨zat 215 (by decide +kernel) rfl, mk_X5_refusalOfPlace⟩
theorem lk_X5_85 : zLV RX5 85 mi_X3_valueAt 1 := ⟨zat 231 (by decide +kernel) rfl, mk_X3_valueAt⟩
theorem lk_X5_89 : zLV RX5 89 mi_X3_change 2 := ⟨zat 236 (by decide +kernel) rfl, mk_X3_change⟩
theorem lk_X5_93 : zLV RX5 93 mi_X5_tellAsked 1 := ⟨zat 240 (by decide +kernel) rfl, mk_X5_tellAsked⟩
theorem lk_X5_96 : zLV RX5 96 mi_X5_refusalOfMissing 1 := ⟨zat 219 (by decide +kernel) rfl, mk_X5_refusalOfMissing⟩
theorem lk_X5_100 : zLV RX5 100 mi_X3_remove 0 := ⟨zat 252 (by decide +kernel) rfl, mk_X3_remove⟩
theorem lk_X5_103 : zLV RX5 103 mi_X5_found 1 := ⟨zat 203 (by decide +kernel) rfl, mk_X5_found⟩
theorem lk_X5_106 : zLV RX5 106 mi_X3_isThere 0 := ⟨zat 223 (by decide +kernel) rfl, mk_X3_isThere⟩
theorem lk_X5_110 : zLV RX5 110 mi_X3_hasRun 2 := ⟨zat 260 (by decide +kernel) rfl, mk_X3_hasRun⟩
theorem lk_X5_114 : zLV RX5 114 mi_X3_takeRun 4 := ⟨zat 264 (by decide +kernel) rfl, mk_X3_takeRun⟩
theorem lk_X5_118 : zLV RX5 118 mi_X3_size 0 := ⟨zat 276 (by decide +kernel) rfl, mk_X3_size⟩
theorem lk_X5_122 : zLV RX5 122 mi_X3_total 0 := ⟨zat 280 (by decide +kernel) rfl, mk_X3_total⟩
theorem lk_X5_126 : zLV RX5 126 mi_X5_textAt 1 := ⟨zat 289 (by decide +kernel) rfl, mk_X5_textAt⟩
theorem lk_X5_129 : zLV RX5 129 mi_X2_faultOf 1 := ⟨zat 301 (by decide +kernel) rfl, mk_X2_faultOf⟩
theorem lk_X5_133 : zLV RX5 133 mi_X0_takeFrom 1 := ⟨zat 342 (by decide +kernel) rfl, mk_X0_takeFrom⟩
theorem lk_X5_140 : zLV RX5 140 mi_X1_begin 1 := ⟨zat 346 (by decide +kernel) rfl, mk_X1_begin⟩
theorem lk_X5_143 : zLV RX5 143 mi_X1_forget 0 := ⟨zat 350 (by decide +kernel) rfl, mk_X1_forget⟩
theorem lk_X5_146 : zLV RX5 146 mi_X5_isLamp 1 := ⟨zat 358 (by decide +kernel) rfl, mk_X5_isLamp⟩
theorem lk_X5_150 : zLV RX5 150 mi_X5_toldOfLamp 2 := ⟨zat 366 (by decide +kernel) rfl, mk_X5_toldOfLamp⟩
theorem lk_X5_154 : zLV RX5 154 mi_X0_kindOf 1 := ⟨zat 374 (by decide +kernel) rfl, mk_X0_kindOf⟩
theorem lk_X5_160 : zLV RX5 160 mi_X1_state 0 := ⟨zat 370 (by decide +kernel) rfl, mk_X1_state⟩
theorem lk_X5_181 : zLV RX5 181 mi_X1_number 0 := ⟨zat 395 (by decide +kernel) rfl, mk_X1_number⟩
theorem lk_X5_184 : zLV RX5 184 mi_X0_showing 1 := ⟨zat 381 (by decide +kernel) rfl, mk_X0_showing⟩
theorem lk_X5_187 : zLV RX5 187 mi_X1_isThere 0 := ⟨zat 362 (by decide +kernel) rfl, mk_X1_isThere⟩
theorem lk_X5_188 : zLV RX5 188 mi_X1_room 0 := ⟨zat 422 (by decide +kernel) rfl, mk_X1_room⟩
theorem lk_X5_191 : zLV RX5 191 mi_X5_doPress 1 := ⟨zat 427 (by decide +kernel) rfl, mk_X5_doPress⟩
theorem lk_X5_194 : zLV RX5 194 mi_X5_hasStep 2 := ⟨zat 447 (by decide +kernel) rfl, mk_X5_hasStep⟩
theorem lk_X5_197 : zLV RX5 197 mi_X5_doSet 2 := ⟨zat 452 (by decide +kernel) rfl, mk_X5_doSet⟩
theorem lk_X5_200 : zLV RX5 200 mi_X5_doCrack 1 := ⟨zat 461 (by decide +kernel) rfl, mk_X5_doCrack⟩
theorem lk_X5_206 : zLV RX5 206 mi_X1_deeds 0 := ⟨zat 472 (by decide +kernel) rfl, mk_X1_deeds⟩
theorem lk_X5_209 : zLV RX5 209 mi_X1_goBack 1 := ⟨zat 477 (by decide +kernel) rfl, mk_X1_goBack⟩
theorem lk_X5_212 : zLV RX5 212 mi_X5_keptAt 1 := ⟨zat 485 (by decide +kernel) rfl, mk_X5_keptAt⟩
theorem lk_X5_216 : zLV RX5 216 mi_X1_takeFrom 1 := ⟨zat 489 (by decide +kernel) rfl, mk_X1_takeFrom⟩
theorem lk_X5_223 : zLV RX5 223 mi_X0_behindTouch 4 := ⟨zat 399 (by decide +kernel) rfl, mk_X0_behindTouch⟩
theorem lk_X5_227 : zLV RX5 227 mi_X0_behindPress 3 := ⟨zat 431 (by decide +kernel) rfl, mk_X0_behindPress⟩
theorem lk_X5_230 : zLV RX5 230 mi_X5_showingBehind 1 := ⟨zat 509 (by decide +kernel) rfl, mk_X5_showingBehind⟩
theorem lk_X5_233 : zLV RX5 233 mi_X5_refusalOfSet 1 := ⟨zat 517 (by decide +kernel) rfl, mk_X5_refusalOfSet⟩
theorem lk_X5_240 : zLV RX5 240 mi_X3_make 2 := ⟨zat 207 (by decide +kernel) rfl, mk_X3_make⟩
theorem lk_X5_243 : zLV RX5 243 mi_X5_fillBehindSets 0 := ⟨zat 528 (by decide +kernel) rfl, mk_X5_fillBehindSets⟩
theorem lk_X5_246 : zLV RX5 246 mi_X5_tellParts 2 := ⟨zat 532 (by decide +kernel) rfl, mk_X5_tellParts⟩
theorem lk_X5_250 : zLV RX5 250 mi_X5_refusalOfPairs 2 := ⟨zat 551 (by decide +kernel) rfl, mk_X5_refusalOfPairs⟩
theorem lk_X5_254 : zLV RX5 254 mi_X5_kindsBy 2 := ⟨zat 555 (by decide +kernel) rfl, mk_X5_kindsBy⟩
theorem lk_X5_257 : zLV RX5 257 mi_X5_greatestPart 3 := ⟨zat 572 (by decide +kernel) rfl, mk_X5_greatestPart⟩
theorem lk_X5_281 : zLV RX5 281 mi_X5_doByLot 2 := ⟨zat 616 (by decide +kernel) rfl, mk_X5_doByLot⟩
theorem lk_X5_284 : zLV RX5 284 mi_X5_counted 1 := ⟨zat 636 (by decide +kernel) rfl, mk_X5_counted⟩
theorem lk_X5_291 : zLV RX5 291 mi_X3_mixedInto 1 := ⟨zat 665 (by decide +kernel) rfl, mk_X3_mixedInto⟩
theorem lk_X5_295 : zLV RX5 295 mi_X3_has 1 := ⟨zat 227 (by decide +kernel) rfl, mk_X3_has⟩
theorem lk_X5_312 : zLV RX5 312 mi_X5_countKept 0 := ⟨zat 643 (by decide +kernel) rfl, mk_X5_countKept⟩
theorem lk_X5_315 : zLV RX5 315 mi_X5_countedOfWall 1 := ⟨zat 647 (by decide +kernel) rfl, mk_X5_countedOfWall⟩
theorem lk_X5_324 : zLV RX5 324 mi_X1_go 2 := ⟨zat 437 (by decide +kernel) rfl, mk_X1_go⟩
theorem lk_X5_330 : zLV RX5 330 mi_X5_fits 3 := ⟨zat 559 (by decide +kernel) rfl, mk_X5_fits⟩
theorem lk_X5_334 : zLV RX5 334 mi_X5_shownAs 3 := ⟨zat 563 (by decide +kernel) rfl, mk_X5_shownAs⟩
theorem lk_X5_337 : zLV RX5 337 mi_X0_become 2 := ⟨zat 567 (by decide +kernel) rfl, mk_X0_become⟩
theorem lk_X6_72 : zLV RX6 72 mi_X6_find 1 := ⟨zat 745 (by decide +kernel) rfl, mk_X6_find⟩
theorem lk_X6_76 : zLV RX6 76 mi_X6_told 1 := ⟨zat 753 (by decide +kernel) rfl, mk_X6_told⟩
theorem lk_X6_91 : zLV RX6 91 mi_X6_read 1 := ⟨zat 788 (by decide +kernel) rfl, mk_X6_read⟩
theorem lk_X6_110 : zLV RX6 110 mi_X6_shownBy 2 := ⟨zat 825 (by decide +kernel) rfl, mk_X6_shownBy⟩
theorem lk_X6_118 : zLV RX6 118 mi_X6_now 1 := ⟨zat 817 (by decide +kernel) rfl, mk_X6_now⟩
theorem lk_X6_121 : zLV RX6 121 mi_X6_shown 0 := ⟨zat 821 (by decide +kernel) rfl, mk_X6_shown⟩
theorem lk_X6_128 : zLV RX6 128 mi_X6_isLamp 1 := ⟨zat 809 (by decide +kernel) rfl, mk_X6_isLamp⟩
theorem lk_X6_131 : zLV RX6 131 mi_X6_factOf 2 := ⟨zat 813 (by decide +kernel) rfl, mk_X6_factOf⟩
theorem lk_X6_141 : zLV RX6 141 mi_X6_begin 0 := ⟨zat 858 (by decide +kernel) rfl, mk_X6_begin⟩
theorem lk_X6_144 : zLV RX6 144 mi_X6_pressOn 4 := ⟨zat 862 (by decide +kernel) rfl, mk_X6_pressOn⟩
theorem lk_X6_151 : zLV RX6 151 mi_X6_take 0 := ⟨zat 897 (by decide +kernel) rfl, mk_X6_take⟩
theorem lk_X6_154 : zLV RX6 154 mi_X6_shownBehind 1 := ⟨zat 905 (by decide +kernel) rfl, mk_X6_shownBehind⟩
theorem lk_X6_160 : zLV RX6 160 mi_X6_shownByCode 2 := ⟨zat 916 (by decide +kernel) rfl, mk_X6_shownByCode⟩
theorem lk_X6_163 : zLV RX6 163 mi_X6_row 2 := ⟨zat 920 (by decide +kernel) rfl, mk_X6_row⟩
theorem lk_X6_166 : zLV RX6 166 mi_X6_isBy 2 := ⟨zat 925 (by decide +kernel) rfl, mk_X6_isBy⟩
theorem lk_X6_169 : zLV RX6 169 mi_X6_wouldShow 3 := ⟨zat 949 (by decide +kernel) rfl, mk_X6_wouldShow⟩
theorem lk_X6_172 : zLV RX6 172 mi_X6_pairs 1 := ⟨zat 941 (by decide +kernel) rfl, mk_X6_pairs⟩
theorem lk_X6_175 : zLV RX6 175 mi_X6_kindsBy 2 := ⟨zat 945 (by decide +kernel) rfl, mk_X6_kindsBy⟩
theorem lk_X6_178 : zLV RX6 178 mi_X6_worthOf 3 := ⟨zat 965 (by decide +kernel) rfl, mk_X6_worthOf⟩
theorem lk_X6_184 : zLV RX6 184 mi_X6_waysOf 3 := ⟨zat 973 (by decide +kernel) rfl, mk_X6_waysOf⟩
theorem lk_X6_188 : zLV RX6 188 mi_X6_shownBut 2 := ⟨zat 978 (by decide +kernel) rfl, mk_X6_shownBut⟩
theorem lk_X6_191 : zLV RX6 191 mi_X6_allWays 1 := ⟨zat 982 (by decide +kernel) rfl, mk_X6_allWays⟩
theorem lk_X6_195 : zLV RX6 195 mi_X6_fraction 2 := ⟨zat 986 (by decide +kernel) rfl, mk_X6_fraction⟩
theorem lk_X6_210 : zLV RX6 210 mi_X6_lot 2 := ⟨zat 1004 (by decide +kernel) rfl, mk_X6_lot⟩
theorem lk_X6_214 : zLV RX6 214 mi_X6_sumOf 1 := ⟨zat 1024 (by decide +kernel) rfl, mk_X6_sumOf⟩
theorem lk_X6_217 : zLV RX6 217 mi_X6_thereAre 1 := ⟨zat 1028 (by decide +kernel) rfl, mk_X6_thereAre⟩
theorem lk_X6_224 : zLV RX6 224 mi_X6_count 1 := ⟨zat 1046 (by decide +kernel) rfl, mk_X6_count⟩
theorem gv_0_0 (σ : zSt) (j : Nat) : (zf σ 0 j)[0]? = some (zr 8 0) := rfl
theorem gv_0_1 (σ : zSt) (j : Nat) : (zf σ 0 j)[1]? = some (zr 8 1) := rfl
theorem gv_0_2 (σ : zSt) (j : Nat) : (zf σ 0 j)[2]? = some (zr 9 0) := rfl
theorem gv_0_3 (σ : zSt) (j : Nat) : (zf σ 0 j)[3]? = some (zr 2 3) := rfl
theorem gv_0_4 (σ : zSt) (j : Nat) : (zf σ 0 j)[4]? = some (zr 1 0) := rfl
theorem gv_0_5 (σ : zSt) (j : Nat) : (zf σ 0 j)[5]? = some (zr 1 1) := rfl
theorem gv_0_6 (σ : zSt) (j : Nat) : (zf σ 0 j)[6]? = some (zr 3 0) := rfl
theorem gv_0_7 (σ : zSt) (j : Nat) : (zf σ 0 j)[7]? = some (zr 6 18) := rfl
theorem gv_0_8 (σ : zSt) (j : Nat) : (zf σ 0 j)[8]? = some (zr 6 19) := rfl
theorem gv_0_9 (σ : zSt) (j : Nat) : (zf σ 0 j)[9]? = some (zr 6 20) := rfl
theorem gv_0_10 (σ : zSt) (j : Nat) : (zf σ 0 j)[10]? = some (zi (fI σ 0 j 10)) := rfl
theorem gv_0_11 (σ : zSt) (j : Nat) : (zf σ 0 j)[11]? = some (zi (fI σ 0 j 11)) := rfl
theorem gv_0_12 (σ : zSt) (j : Nat) : (zf σ 0 j)[12]? = some (zl (fL σ 0 j 12)) := rfl
theorem gv_0_13 (σ : zSt) (j : Nat) : (zf σ 0 j)[13]? = some (zl (fL σ 0 j 13)) := rfl
theorem gv_1_0 (σ : zSt) (j : Nat) : (zf σ 1 j)[0]? = some (zi (fI σ 1 j 0)) := rfl
theorem gv_1_1 (σ : zSt) (j : Nat) : (zf σ 1 j)[1]? = some (zi (fI σ 1 j 1)) := rfl
theorem gv_1_2 (σ : zSt) (j : Nat) : (zf σ 1 j)[2]? = some (zi (fI σ 1 j 2)) := rfl
theorem gv_1_3 (σ : zSt) (j : Nat) : (zf σ 1 j)[3]? = some (zi (fI σ 1 j 3)) := rfl
theorem gv_1_4 (σ : zSt) (j : Nat) : (zf σ 1 j)[4]? = some (zi (fI σ 1 j 4)) := rfl
theorem gv_2_0 (σ : zSt) (j : Nat) : (zf σ 2 j)[0]? = some (zr 6 (10 + j)) := rfl
theorem gv_2_1 (σ : zSt) (j : Nat) : (zf σ 2 j)[1]? = some (zr 6 (14 + j)) := rfl
theorem gv_2_2 (σ : zSt) (j : Nat) : (zf σ 2 j)[2]? = some (zi (fI σ 2 j 2)) := rfl
theorem gv_3_0 (σ : zSt) (j : Nat) : (zf σ 3 j)[0]? = some (zr 1 2) := rfl
theorem gv_3_1 (σ : zSt) (j : Nat) : (zf σ 3 j)[1]? = some (zi (fI σ 3 j 1)) := rfl
theorem gv_4_0 (σ : zSt) (j : Nat) : (zf σ 4 j)[0]? = some (zr 6 j) := rfl
theorem gv_4_1 (σ : zSt) (j : Nat) : (zf σ 4 j)[1]? = some (zi (fI σ 4 j 1)) := rfl
theorem gv_5_0 (σ : zSt) (j : Nat) : (zf σ 5 j)[0]? = some (zi (fI σ 5 j 0)) := rfl
theorem gv_5_1 (σ : zSt) (j : Nat) : (zf σ 5 j)[1]? = some (zr 6 21) := rfl
theorem gv_5_2 (σ : zSt) (j : Nat) : (zf σ 5 j)[2]? = some (zi (fI σ 5 j 2)) := rfl
theorem gv_5_3 (σ : zSt) (j : Nat) : (zf σ 5 j)[3]? = some (zl (fL σ 5 j 3)) := rfl
theorem gv_5_4 (σ : zSt) (j : Nat) : (zf σ 5 j)[4]? = some (zl (fL σ 5 j 4)) := rfl
theorem gv_5_5 (σ : zSt) (j : Nat) : (zf σ 5 j)[5]? = some (zr 6 22) := rfl
theorem gv_5_6 (σ : zSt) (j : Nat) : (zf σ 5 j)[6]? = some (zr 6 23) := rfl
theorem gv_5_7 (σ : zSt) (j : Nat) : (zf σ 5 j)[7]? = some (zr 6 24) := rfl
theorem gv_5_8 (σ : zSt) (j : Nat) : (zf σ 5 j)[8]? = some (zr 7 0) := rfl
theorem gv_5_9 (σ : zSt) (j : Nat) : (zf σ 5 j)[9]? = some (zr 6 25) := rfl
theorem gv_5_10 (σ : zSt) (j : Nat) : (zf σ 5 j)[10]? = some (zi (fI σ 5 j 10)) := rfl
theorem gv_5_11 (σ : zSt) (j : Nat) : (zf σ 5 j)[11]? = some (zr 6 26) := rfl
theorem gv_5_12 (σ : zSt) (j : Nat) : (zf σ 5 j)[12]? = some (zr 6 27) := rfl
theorem gv_5_13 (σ : zSt) (j : Nat) : (zf σ 5 j)[13]? = some (zr 6 28) := rfl
theorem gv_5_14 (σ : zSt) (j : Nat) : (zf σ 5 j)[14]? = some (zi (fI σ 5 j 14)) := rfl
theorem gv_5_15 (σ : zSt) (j : Nat) : (zf σ 5 j)[15]? = some (zr 6 29) := rfl
theorem gv_5_16 (σ : zSt) (j : Nat) : (zf σ 5 j)[16]? = some (zr 6 30) := rfl
theorem gv_5_17 (σ : zSt) (j : Nat) : (zf σ 5 j)[17]? = some (zr 6 31) := rfl
theorem gv_5_18 (σ : zSt) (j : Nat) : (zf σ 5 j)[18]? = some (zr 6 32) := rfl
theorem bp_m2 : (Int8.ofInt (-2)).toInt32 = (-2) := by decide
theorem bp_m3 : (Int8.ofInt (-3)).toInt32 = (-3) := by decide
theorem bp_m4 : (Int8.ofInt (-4)).toInt32 = (-4) := by decide
theorem bp_m9 : (Int8.ofInt (-9)).toInt32 = (-9) := by decide
theorem bp_10 : (Int8.ofInt 10).toInt32 = 10 := by decide
theorem bp_102 : (Int8.ofInt 102).toInt32 = 102 := by decide
theorem bp_104 : (Int8.ofInt 104).toInt32 = 104 := by decide
theorem bp_107 : (Int8.ofInt 107).toInt32 = 107 := by decide
theorem bp_108 : (Int8.ofInt 108).toInt32 = 108 := by decide
theorem bp_11 : (Int8.ofInt 11).toInt32 = 11 := by decide
theorem bp_116 : (Int8.ofInt 116).toInt32 = 116 := by decide
theorem bp_119 : (Int8.ofInt 119).toInt32 = 119 := by decide
theorem bp_12 : (Int8.ofInt 12).toInt32 = 12 := by decide
theorem bp_16 : (Int8.ofInt 16).toInt32 = 16 := by decide
theorem bp_18 : (Int8.ofInt 18).toInt32 = 18 := by decide
theorem bp_20 : (Int8.ofInt 20).toInt32 = 20 := by decide
theorem bp_32 : (Int8.ofInt 32).toInt32 = 32 := by decide
theorem bp_40 : (Int8.ofInt 40).toInt32 = 40 := by decide
theorem bp_41 : (Int8.ofInt 41).toInt32 = 41 := by decide
theorem bp_48 : (Int8.ofInt 48).toInt32 = 48 := by decide
theorem bp_6 : (Int8.ofInt 6).toInt32 = 6 := by decide
theorem bp_60 : (Int8.ofInt 60).toInt32 = 60 := by decide
theorem bp_63 : (Int8.ofInt 63).toInt32 = 63 := by decide
theorem bp_7 : (Int8.ofInt 7).toInt32 = 7 := by decide
theorem bp_8 : (Int8.ofInt 8).toInt32 = 8 := by decide
theorem bp_9 : (Int8.ofInt 9).toInt32 = 9 := by decide
theorem ic_m1 : Int32.ofInt (-1) = (-1) := by decide
theorem ic_0 : Int32.ofInt 0 = 0 := by decide
theorem ic_1 : Int32.ofInt 1 = 1 := by decide
theorem ic_2 : Int32.ofInt 2 = 2 := by decide
theorem ic_3 : Int32.ofInt 3 = 3 := by decide
theorem ic_4 : Int32.ofInt 4 = 4 := by decide
theorem ic_5 : Int32.ofInt 5 = 5 := by decide
theorem ic_6 : Int32.ofInt 6 = 6 := by decide
theorem sp_1000 : (Int16.ofInt 1000).toInt32 = 1000 := by decide
theorem sp_10000 : (Int16.ofInt 10000).toInt32 = 10000 := by decide
theorem sp_1353 : (Int16.ofInt 1353).toInt32 = 1353 := by decide
theorem sp_200 : (Int16.ofInt 200).toInt32 = 200 := by decide
theorem sp_240 : (Int16.ofInt 240).toInt32 = 240 := by decide
theorem sp_451 : (Int16.ofInt 451).toInt32 = 451 := by decide
theorem sp_511 : (Int16.ofInt 511).toInt32 = 511 := by decide
theorem sp_512 : (Int16.ofInt 512).toInt32 = 512 := by decide
theorem sp_999 : (Int16.ofInt 999).toInt32 = 999 := by decide
theorem lc_0 : Int64.ofNat ((0 : Fin 2) : Nat) = 0 := by decide
theorem lc_1 : Int64.ofNat ((1 : Fin 2) : Nat) = 1 := by decide
def b2i (c : Prop) [Decidable c] : Int32 := if c then 1 else 0
theorem b2i_t {c : Prop} [Decidable c] (h : c) : b2i c = 1 := if_pos h
theorem b2i_f {c : Prop} [Decidable c] (h : ¬ c) : b2i c = 0 := if_neg h
theorem b2i_0 {c : Prop} [Decidable c] : b2i c = 0 ↔ ¬ c := by
  unfold b2i
  by_cases h : c <;> simp [h]
theorem b2i_1 {c : Prop} [Decidable c] : b2i c = 1 ↔ c := by
  unfold b2i
  by_cases h : c <;> simp [h]
theorem b2i_or (c : Prop) [Decidable c] : b2i c = 0 ∨ b2i c = 1 := by
  unfold b2i
  by_cases h : c <;> simp [h]
theorem b2i_c {c e : Prop} [Decidable c] [Decidable e] (h : c ↔ e) : b2i c = b2i e := by
  unfold b2i
  by_cases hc : c
  · rw [if_pos hc, if_pos (h.mp hc)]
  · rw [if_neg hc, if_neg (fun x => hc (h.mpr x))]
section
variable {M : zM} {d : Nat} {Q : zQ} {pc q : Nat} {ls : List (Option zV)} {st : List zV} {σ : zSt}
theorem y_if_eqB {c : Prop} [Decidable c] {off : Int} (tgt : Nat) (hd : decode M.2.1 pc = .ok (.ifCond .eq off, 3)) (ht : (pc : Int) + off = (tgt : Int)) (hq : pc + 3 = q) (kt : ¬ c → zY M d Q tgt ls st σ) (kf : c → zY M d Q q ls st σ) : zY M d Q pc ls (zi (b2i c) :: st) σ := y_if_eq tgt hd ht hq (fun h => kt (b2i_0.mp h)) (fun h => kf (Decidable.not_not.mp fun x => h (b2i_0.mpr x)))
theorem y_if_neB {c : Prop} [Decidable c] {off : Int} (tgt : Nat) (hd : decode M.2.1 pc = .ok (.ifCond .ne off, 3)) (ht : (pc : Int) + off = (tgt : Int)) (hq : pc + 3 = q) (kt : c → zY M d Q tgt ls st σ) (kf : ¬ c → zY M d Q q ls st σ) : zY M d Q pc ls (zi (b2i c) :: st) σ := y_if_ne tgt hd ht hq (fun h => kt (Decidable.not_not.mp fun x => h (b2i_0.mpr x))) (fun h => kf (b2i_0.mp h))
theorem y_zretB {c : Prop} [Decidable c] (hd : decode M.2.1 pc = .ok (.ireturn, 1)) (hr : M.2.2.2 = some .boolean) (hq : Q (some (zi (b2i c))) σ) : zY M d Q pc ls [zi (b2i c)] σ := y_zret (b2i_or c) hd hr hq
theorem y_cV {d' idx n k j : Nat} {M' : zM} {as rest : List zV} {v : zV} {σ' : zSt} (hM : Mf d' M' (zr k j :: as) σ (some v) σ') (hl : zLV M.1.cls idx M' n) (hk : zok k j) (hk6 : k < 6) (hcl : (zcl k).1 = M'.1.cls) (hdd : Nat.ble (d' + 1) d = true) (hn : as.length = n) (hst : st = as.reverse ++ zr k j :: rest) (hroom : Nat.ble (rest.map zcat).sum 8 = true) (hd : decode M.2.1 pc = .ok (.invokevirtual idx, 3)) (hq : pc + 3 = q) (kk : zY M d Q q ls (v :: rest) σ') : zY M d Q pc ls st σ :=
  y_callV hM hl hk hk6 hcl hdd hn hst hroom hd hq (fun r σ'' h => by obtain ⟨rfl, rfl⟩ := h; exact kk)
theorem y_cV0 {d' idx n k j : Nat} {M' : zM} {as rest : List zV} {σ' : zSt} (hM : Mf d' M' (zr k j :: as) σ none σ') (hl : zLV M.1.cls idx M' n) (hk : zok k j) (hk6 : k < 6) (hcl : (zcl k).1 = M'.1.cls) (hdd : Nat.ble (d' + 1) d = true) (hn : as.length = n) (hst : st = as.reverse ++ zr k j :: rest) (hroom : Nat.ble (rest.map zcat).sum 8 = true) (hd : decode M.2.1 pc = .ok (.invokevirtual idx, 3)) (hq : pc + 3 = q) (kk : zY M d Q q ls rest σ') : zY M d Q pc ls st σ :=
  y_callV hM hl hk hk6 hcl hdd hn hst hroom hd hq (fun r σ'' h => by obtain ⟨rfl, rfl⟩ := h; exact kk)
theorem y_cS {d' idx n : Nat} {M' : zM} {as rest : List zV} {v : zV} {σ' : zSt} (hM : Mf d' M' as σ (some v) σ') (hl : zLS M.1.cls idx M' n) (hdd : Nat.ble (d' + 1) d = true) (hn : as.length = n) (hst : st = as.reverse ++ rest) (hroom : Nat.ble (rest.map zcat).sum 8 = true) (hd : decode M.2.1 pc = .ok (.invokestatic idx, 3)) (hq : pc + 3 = q) (kk : zY M d Q q ls (v :: rest) σ') : zY M d Q pc ls st σ :=
  y_callS hM hl hdd hn hst hroom hd hq (fun r σ'' h => by obtain ⟨rfl, rfl⟩ := h; exact kk)
theorem y_cN {d' idx n : Nat} {M' : zM} {host : String} {as rest : List zV} {v : zV} {σ' : zSt} (hM : Mf d' M' as σ (some v) σ') (hl : Cond.methodLinkNest M.1.cls idx M'.1 host = zNL ∧ zKS M' n) (hdd : Nat.ble (d' + 1) d = true) (hn : as.length = n) (hst : st = as.reverse ++ rest) (hroom : Nat.ble (rest.map zcat).sum 8 = true) (hd : decode M.2.1 pc = .ok (.invokestatic idx, 3)) (hq : pc + 3 = q) (kk : zY M d Q q ls (v :: rest) σ') : zY M d Q pc ls st σ :=
  y_callN hM hl hdd hn hst hroom hd hq (fun r σ'' h => by obtain ⟨rfl, rfl⟩ := h; exact kk)
end
theorem zok0 : zok 0 0 := by decide
theorem zok1 {j : Nat} (h : j < 3) : zok 1 j := ⟨by decide, h⟩
theorem zok2 {j : Nat} (h : j < 4) : zok 2 j := ⟨by decide, h⟩
theorem zok3 : zok 3 0 := by decide
theorem zok4 {j : Nat} (h : j < 10) : zok 4 j := ⟨by decide, h⟩
theorem zok5 : zok 5 0 := by decide
