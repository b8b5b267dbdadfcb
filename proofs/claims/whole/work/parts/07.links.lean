abbrev mi_J6_bitCount_0f7a4 : zM := (yJ6_bitCount_0f7a4, cJ6_bitCount_0f7a4, 1, some .int)
abbrev mi_J9_max_7cf53 : zM := (yJ9_max_7cf53, cJ9_max_7cf53, 2, some .int)
abbrev mi_J9_min_7cf53 : zM := (yJ9_min_7cf53, cJ9_min_7cf53, 2, some .int)
abbrev mi_X0_become : zM := (yX0_become, cX0_become, 3, none)
abbrev mi_X0_behindPress : zM := (yX0_behindPress, cX0_behindPress, 4, some .int)
abbrev mi_X0_behindTouch : zM := (yX0_behindTouch, cX0_behindTouch, 13, some .int)
abbrev mi_X0_changed : zM := (yX0_changed, cX0_changed, 3, some .int)
abbrev mi_X0_init : zM := (yX0_init, cX0_init, 1, none)
abbrev mi_X0_isA : zM := (yX0_isA, cX0_isA, 2, some .boolean)
abbrev mi_X0_kindOf : zM := (yX0_kindOf, cX0_kindOf, 3, some .int)
abbrev mi_X0_lastStep : zM := (yX0_lastStep, cX0_lastStep, 1, some .int)
abbrev mi_X0_showing : zM := (yX0_showing, cX0_showing, 2, some .int)
abbrev mi_X0_takeFrom : zM := (yX0_takeFrom, cX0_takeFrom, 2, none)
abbrev mi_X1_begin : zM := (yX1_begin, cX1_begin, 2, none)
abbrev mi_X1_deeds : zM := (yX1_deeds, cX1_deeds, 1, some .int)
abbrev mi_X1_forget : zM := (yX1_forget, cX1_forget, 1, none)
abbrev mi_X1_go : zM := (yX1_go, cX1_go, 4, none)
abbrev mi_X1_goBack : zM := (yX1_goBack, cX1_goBack, 2, none)
abbrev mi_X1_init : zM := (yX1_init, cX1_init, 1, none)
abbrev mi_X1_isThere : zM := (yX1_isThere, cX1_isThere, 1, some .boolean)
abbrev mi_X1_number : zM := (yX1_number, cX1_number, 1, some .int)
abbrev mi_X1_room : zM := (yX1_room, cX1_room, 1, some .int)
abbrev mi_X1_state : zM := (yX1_state, cX1_state, 1, some .int)
abbrev mi_X1_takeFrom : zM := (yX1_takeFrom, cX1_takeFrom, 3, none)
abbrev mi_X2_faultOf : zM := (yX2_faultOf, cX2_faultOf, 8, some .int)
abbrev mi_X2_init : zM := (yX2_init, cX2_init, 1, none)
abbrev mi_X2_kindBy : zM := (yX2_kindBy, cX2_kindBy, 1, some .int)
abbrev mi_X3_change : zM := (yX3_change, cX3_change, 3, none)
abbrev mi_X3_has : zM := (yX3_has, cX3_has, 2, some .boolean)
abbrev mi_X3_hasRun : zM := (yX3_hasRun, cX3_hasRun, 3, some .boolean)
abbrev mi_X3_init : zM := (yX3_init, cX3_init, 2, none)
abbrev mi_X3_isThere : zM := (yX3_isThere, cX3_isThere, 1, some .boolean)
abbrev mi_X3_make : zM := (yX3_make, cX3_make, 4, none)
abbrev mi_X3_mixedInto : zM := (yX3_mixedInto, cX3_mixedInto, 6, some .long)
abbrev mi_X3_remove : zM := (yX3_remove, cX3_remove, 1, none)
abbrev mi_X3_size : zM := (yX3_size, cX3_size, 1, some .int)
abbrev mi_X3_takeRun : zM := (yX3_takeRun, cX3_takeRun, 5, none)
abbrev mi_X3_total : zM := (yX3_total, cX3_total, 4, some .long)
abbrev mi_X3_valueAt : zM := (yX3_valueAt, cX3_valueAt, 2, some .int)
abbrev mi_X4_above : zM := (yX4_above, cX4_above, 1, some .int)
abbrev mi_X4_broken : zM := (yX4_broken, cX4_broken, 1, some .int)
abbrev mi_X4_join : zM := (yX4_join, cX4_join, 3, some .int)
abbrev mi_X4_of : zM := (yX4_of, cX4_of, 2, some .int)
abbrev mi_X4_ones : zM := (yX4_ones, cX4_ones, 1, some .int)
abbrev mi_X4_total : zM := (yX4_total, cX4_total, 2, some .int)
abbrev mi_X4_twos : zM := (yX4_twos, cX4_twos, 1, some .int)
abbrev mi_X4_with : zM := (yX4_with, cX4_with, 6, some .int)
abbrev mi_X4_withBroken : zM := (yX4_withBroken, cX4_withBroken, 2, some .int)
abbrev mi_X5_asked : zM := (yX5_asked, cX5_asked, 1, some .int)
abbrev mi_X5_at : zM := (yX5_at, cX5_at, 5, some .int)
abbrev mi_X5_commonDivisor : zM := (yX5_commonDivisor, cX5_commonDivisor, 11, some .long)
abbrev mi_X5_copy : zM := (yX5_copy, cX5_copy, 8, some .int)
abbrev mi_X5_count : zM := (yX5_count, cX5_count, 2, some .int)
abbrev mi_X5_countKept : zM := (yX5_countKept, cX5_countKept, 3, some .int)
abbrev mi_X5_countRows : zM := (yX5_countRows, cX5_countRows, 4, some .int)
abbrev mi_X5_counted : zM := (yX5_counted, cX5_counted, 2, some .int)
abbrev mi_X5_countedOfWall : zM := (yX5_countedOfWall, cX5_countedOfWall, 3, some .int)
abbrev mi_X5_crack : zM := (yX5_crack, cX5_crack, 2, some .int)
abbrev mi_X5_digest : zM := (yX5_digest, cX5_digest, 5, some .long)
abbrev mi_X5_doByLot : zM := (yX5_doByLot, cX5_doByLot, 4, none)
abbrev mi_X5_doCrack : zM := (yX5_doCrack, cX5_doCrack, 2, none)
abbrev mi_X5_doPress : zM := (yX5_doPress, cX5_doPress, 2, none)
abbrev mi_X5_doSet : zM := (yX5_doSet, cX5_doSet, 3, none)
abbrev mi_X5_duel : zM := (yX5_duel, cX5_duel, 4, some .int)
abbrev mi_X5_fault : zM := (yX5_fault, cX5_fault, 4, some .int)
abbrev mi_X5_fewest : zM := (yX5_fewest, cX5_fewest, 7, some .int)
abbrev mi_X5_fillBehindSets : zM := (yX5_fillBehindSets, cX5_fillBehindSets, 5, none)
abbrev mi_X5_finding : zM := (yX5_finding, cX5_finding, 1, some .int)
abbrev mi_X5_findings : zM := (yX5_findings, cX5_findings, 2, some .int)
abbrev mi_X5_fits : zM := (yX5_fits, cX5_fits, 5, some .boolean)
abbrev mi_X5_found : zM := (yX5_found, cX5_found, 2, some .int)
abbrev mi_X5_greatestPart : zM := (yX5_greatestPart, cX5_greatestPart, 6, some .int)
abbrev mi_X5_hasStep : zM := (yX5_hasStep, cX5_hasStep, 3, some .boolean)
abbrev mi_X5_init : zM := (yX5_init, cX5_init, 2, none)
abbrev mi_X5_isLamp : zM := (yX5_isLamp, cX5_isLamp, 2, some .boolean)
abbrev mi_X5_keep : zM := (yX5_keep, cX5_keep, 3, some .int)
abbrev mi_X5_keptAt : zM := (yX5_keptAt, cX5_keptAt, 2, some (.object "TouchedLamps$Past"))
abbrev mi_X5_kinds : zM := (yX5_kinds, cX5_kinds, 5, some .int)
abbrev mi_X5_kindsBy : zM := (yX5_kindsBy, cX5_kindsBy, 6, some .int)
abbrev mi_X5_lamp : zM := (yX5_lamp, cX5_lamp, 3, some .int)
abbrev mi_X5_lay : zM := (yX5_lay, cX5_lay, 7, some .int)
abbrev mi_X5_lots : zM := (yX5_lots, cX5_lots, 6, some .int)
abbrev mi_X5_lower : zM := (yX5_lower, cX5_lower, 1, some .long)
abbrev mi_X5_makeAnew : zM := (yX5_makeAnew, cX5_makeAnew, 5, some .int)
abbrev mi_X5_mark : zM := (yX5_mark, cX5_mark, 4, some .int)
abbrev mi_X5_mean : zM := (yX5_mean, cX5_mean, 5, some .int)
abbrev mi_X5_mid : zM := (yX5_mid, cX5_mid, 8, some .int)
abbrev mi_X5_most : zM := (yX5_most, cX5_most, 5, some .int)
abbrev mi_X5_next : zM := (yX5_next, cX5_next, 10, some .int)
abbrev mi_X5_odds : zM := (yX5_odds, cX5_odds, 12, some .int)
abbrev mi_X5_on : zM := (yX5_on, cX5_on, 3, some .int)
abbrev mi_X5_press : zM := (yX5_press, cX5_press, 2, some .int)
abbrev mi_X5_put : zM := (yX5_put, cX5_put, 7, some .int)
abbrev mi_X5_reaches : zM := (yX5_reaches, cX5_reaches, 9, some .boolean)
abbrev mi_X5_refusalOfMissing : zM := (yX5_refusalOfMissing, cX5_refusalOfMissing, 2, some .int)
abbrev mi_X5_refusalOfPairs : zM := (yX5_refusalOfPairs, cX5_refusalOfPairs, 5, some .int)
abbrev mi_X5_refusalOfPlace : zM := (yX5_refusalOfPlace, cX5_refusalOfPlace, 4, some .int)
abbrev mi_X5_refusalOfSet : zM := (yX5_refusalOfSet, cX5_refusalOfSet, 2, some .int)
abbrev mi_X5_row : zM := (yX5_row, cX5_row, 3, some .int)
abbrev mi_X5_rowAt : zM := (yX5_rowAt, cX5_rowAt, 2, some (.object "TouchedLamps$Row"))
abbrev mi_X5_set : zM := (yX5_set, cX5_set, 4, some .int)
abbrev mi_X5_showingBehind : zM := (yX5_showingBehind, cX5_showingBehind, 2, some .int)
abbrev mi_X5_shownAs : zM := (yX5_shownAs, cX5_shownAs, 4, some .int)
abbrev mi_X5_shows : zM := (yX5_shows, cX5_shows, 6, some .int)
abbrev mi_X5_sums : zM := (yX5_sums, cX5_sums, 6, some .int)
abbrev mi_X5_sure : zM := (yX5_sure, cX5_sure, 7, some .int)
abbrev mi_X5_tear : zM := (yX5_tear, cX5_tear, 4, some .int)
abbrev mi_X5_tellAsked : zM := (yX5_tellAsked, cX5_tellAsked, 2, some .int)
abbrev mi_X5_tellParts : zM := (yX5_tellParts, cX5_tellParts, 7, none)
abbrev mi_X5_text : zM := (yX5_text, cX5_text, 3, some .int)
abbrev mi_X5_textAt : zM := (yX5_textAt, cX5_textAt, 2, some (.object "TouchedLamps$Row"))
abbrev mi_X5_toldOfLamp : zM := (yX5_toldOfLamp, cX5_toldOfLamp, 4, some .int)
abbrev mi_X5_touched : zM := (yX5_touched, cX5_touched, 6, some .int)
abbrev mi_X5_touchedBy : zM := (yX5_touchedBy, cX5_touchedBy, 1, some .int)
abbrev mi_X5_twelfths : zM := (yX5_twelfths, cX5_twelfths, 4, some .int)
abbrev mi_X5_undo : zM := (yX5_undo, cX5_undo, 3, some .int)
abbrev mi_X5_upper : zM := (yX5_upper, cX5_upper, 1, some .long)
abbrev mi_X5_wall : zM := (yX5_wall, cX5_wall, 5, some .int)
abbrev mi_X5_ways : zM := (yX5_ways, cX5_ways, 6, some .int)
abbrev mi_X5_which : zM := (yX5_which, cX5_which, 5, some .int)
abbrev mi_X5_wonBy : zM := (yX5_wonBy, cX5_wonBy, 14, some .int)
abbrev mi_X6_after : zM := (yX6_after, cX6_after, 4, some .int)
abbrev mi_X6_allWays : zM := (yX6_allWays, cX6_allWays, 5, some .long)
abbrev mi_X6_asked : zM := (yX6_asked, cX6_asked, 1, some .int)
abbrev mi_X6_at : zM := (yX6_at, cX6_at, 3, some .int)
abbrev mi_X6_begin : zM := (yX6_begin, cX6_begin, 2, none)
abbrev mi_X6_bitsOf : zM := (yX6_bitsOf, cX6_bitsOf, 3, some .int)
abbrev mi_X6_copy : zM := (yX6_copy, cX6_copy, 7, some .int)
abbrev mi_X6_count : zM := (yX6_count, cX6_count, 2, some .int)
abbrev mi_X6_crack : zM := (yX6_crack, cX6_crack, 2, some .int)
abbrev mi_X6_digest : zM := (yX6_digest, cX6_digest, 5, some .long)
abbrev mi_X6_doesShow : zM := (yX6_doesShow, cX6_doesShow, 2, some .boolean)
abbrev mi_X6_doesTouch : zM := (yX6_doesTouch, cX6_doesTouch, 4, some .boolean)
abbrev mi_X6_duel : zM := (yX6_duel, cX6_duel, 10, some .int)
abbrev mi_X6_factOf : zM := (yX6_factOf, cX6_factOf, 3, some .int)
abbrev mi_X6_fault : zM := (yX6_fault, cX6_fault, 2, some .int)
abbrev mi_X6_fewest : zM := (yX6_fewest, cX6_fewest, 8, some .int)
abbrev mi_X6_find : zM := (yX6_find, cX6_find, 2, some .int)
abbrev mi_X6_finding : zM := (yX6_finding, cX6_finding, 1, some .int)
abbrev mi_X6_findings : zM := (yX6_findings, cX6_findings, 2, some .int)
abbrev mi_X6_flipped : zM := (yX6_flipped, cX6_flipped, 2, some .int)
abbrev mi_X6_fraction : zM := (yX6_fraction, cX6_fraction, 11, some .int)
abbrev mi_X6_has : zM := (yX6_has, cX6_has, 2, some .boolean)
abbrev mi_X6_in : zM := (yX6_in, cX6_in, 3, some .boolean)
abbrev mi_X6_init : zM := (yX6_init, cX6_init, 2, none)
abbrev mi_X6_isButton : zM := (yX6_isButton, cX6_isButton, 1, some .boolean)
abbrev mi_X6_isBy : zM := (yX6_isBy, cX6_isBy, 4, some .boolean)
abbrev mi_X6_isLamp : zM := (yX6_isLamp, cX6_isLamp, 2, some .boolean)
abbrev mi_X6_isPicture : zM := (yX6_isPicture, cX6_isPicture, 1, some .boolean)
abbrev mi_X6_isRow : zM := (yX6_isRow, cX6_isRow, 1, some .boolean)
abbrev mi_X6_isText : zM := (yX6_isText, cX6_isText, 1, some .boolean)
abbrev mi_X6_isThree : zM := (yX6_isThree, cX6_isThree, 1, some .boolean)
abbrev mi_X6_keep : zM := (yX6_keep, cX6_keep, 3, some .int)
abbrev mi_X6_kindOf : zM := (yX6_kindOf, cX6_kindOf, 1, some .int)
abbrev mi_X6_kinds : zM := (yX6_kinds, cX6_kinds, 4, some .int)
abbrev mi_X6_kindsBy : zM := (yX6_kindsBy, cX6_kindsBy, 7, some .int)
abbrev mi_X6_lamp : zM := (yX6_lamp, cX6_lamp, 3, some .int)
abbrev mi_X6_lay : zM := (yX6_lay, cX6_lay, 5, some .int)
abbrev mi_X6_lot : zM := (yX6_lot, cX6_lot, 4, none)
abbrev mi_X6_lots : zM := (yX6_lots, cX6_lots, 6, some .int)
abbrev mi_X6_lower : zM := (yX6_lower, cX6_lower, 1, some .long)
abbrev mi_X6_mark : zM := (yX6_mark, cX6_mark, 5, some .int)
abbrev mi_X6_mean : zM := (yX6_mean, cX6_mean, 5, some .int)
abbrev mi_X6_mid : zM := (yX6_mid, cX6_mid, 9, some .int)
abbrev mi_X6_most : zM := (yX6_most, cX6_most, 5, some .int)
abbrev mi_X6_next : zM := (yX6_next, cX6_next, 10, some .int)
abbrev mi_X6_now : zM := (yX6_now, cX6_now, 2, some .int)
abbrev mi_X6_odds : zM := (yX6_odds, cX6_odds, 10, some .int)
abbrev mi_X6_on : zM := (yX6_on, cX6_on, 3, some .int)
abbrev mi_X6_pairs : zM := (yX6_pairs, cX6_pairs, 4, some .int)
abbrev mi_X6_press : zM := (yX6_press, cX6_press, 2, some .int)
abbrev mi_X6_pressOn : zM := (yX6_pressOn, cX6_pressOn, 6, none)
abbrev mi_X6_put : zM := (yX6_put, cX6_put, 5, some .int)
abbrev mi_X6_read : zM := (yX6_read, cX6_read, 5, some .int)
abbrev mi_X6_row : zM := (yX6_row, cX6_row, 4, some .int)
abbrev mi_X6_set : zM := (yX6_set, cX6_set, 4, some .int)
abbrev mi_X6_shown : zM := (yX6_shown, cX6_shown, 1, some .int)
abbrev mi_X6_shownBehind : zM := (yX6_shownBehind, cX6_shownBehind, 2, some .int)
abbrev mi_X6_shownBut : zM := (yX6_shownBut, cX6_shownBut, 3, some .int)
abbrev mi_X6_shownBy : zM := (yX6_shownBy, cX6_shownBy, 5, some .int)
abbrev mi_X6_shownByCode : zM := (yX6_shownByCode, cX6_shownByCode, 5, some .int)
abbrev mi_X6_shows : zM := (yX6_shows, cX6_shows, 4, some .int)
abbrev mi_X6_stepsOf : zM := (yX6_stepsOf, cX6_stepsOf, 1, some .int)
abbrev mi_X6_sumOf : zM := (yX6_sumOf, cX6_sumOf, 4, some .int)
abbrev mi_X6_sums : zM := (yX6_sums, cX6_sums, 7, some .int)
abbrev mi_X6_sure : zM := (yX6_sure, cX6_sure, 6, some .int)
abbrev mi_X6_take : zM := (yX6_take, cX6_take, 2, none)
abbrev mi_X6_tear : zM := (yX6_tear, cX6_tear, 2, some .int)
abbrev mi_X6_text : zM := (yX6_text, cX6_text, 4, some .int)
abbrev mi_X6_thereAre : zM := (yX6_thereAre, cX6_thereAre, 4, some .int)
abbrev mi_X6_told : zM := (yX6_told, cX6_told, 2, some .int)
abbrev mi_X6_touched : zM := (yX6_touched, cX6_touched, 5, some .int)
abbrev mi_X6_touchedBy : zM := (yX6_touchedBy, cX6_touchedBy, 3, some .int)
abbrev mi_X6_undo : zM := (yX6_undo, cX6_undo, 3, some .int)
abbrev mi_X6_upper : zM := (yX6_upper, cX6_upper, 1, some .long)
abbrev mi_X6_wall : zM := (yX6_wall, cX6_wall, 3, some .int)
abbrev mi_X6_ways : zM := (yX6_ways, cX6_ways, 5, some .int)
abbrev mi_X6_waysOf : zM := (yX6_waysOf, cX6_waysOf, 7, some .long)
abbrev mi_X6_which : zM := (yX6_which, cX6_which, 4, some .int)
abbrev mi_X6_worthOf : zM := (yX6_worthOf, cX6_worthOf, 7, some .int)
abbrev mi_X6_wouldShow : zM := (yX6_wouldShow, cX6_wouldShow, 6, some .boolean)
theorem ck_J6_265 : Cond.constant RJ6 265 (1431655765) ∈ ztbl := zmem (by decide +kernel) rfl
theorem ck_J6_266 : Cond.constant RJ6 266 (858993459) ∈ ztbl := zmem (by decide +kernel) rfl
theorem ck_J6_267 : Cond.constant RJ6 267 (252645135) ∈ ztbl := zmem (by decide +kernel) rfl
theorem ck_X3_43 : Cond.constantLong RX3 43 (31) ∈ ztbl := zmem (by decide +kernel) rfl
theorem ck_X5_269 : Cond.constantLong RX5 269 (12) ∈ ztbl := zmem (by decide +kernel) rfl
theorem ck_X5_271 : Cond.constantLong RX5 271 (2147483647) ∈ ztbl := zmem (by decide +kernel) rfl
theorem ck_X5_273 : Cond.constantLong RX5 273 (48271) ∈ ztbl := zmem (by decide +kernel) rfl
theorem ck_X5_275 : Cond.constantLong RX5 275 (9) ∈ ztbl := zmem (by decide +kernel) rfl
theorem ck_X5_277 : Cond.constantLong RX5 277 (16) ∈ ztbl := zmem (by decide +kernel) rfl
theorem ck_X5_279 : Cond.constantLong RX5 279 (8) ∈ ztbl := zmem (by decide +kernel) rfl
theorem ck_X5_287 : Cond.constantLong RX5 287 (17) ∈ ztbl := zmem (by decide +kernel) rfl
theorem ck_X5_289 : Cond.constantLong RX5 289 (31) ∈ ztbl := zmem (by decide +kernel) rfl
theorem ck_X6_182 : Cond.constantLong RX6 182 (12) ∈ ztbl := zmem (by decide +kernel) rfl
theorem ck_X6_199 : Cond.constant RX6 199 (2147483646) ∈ ztbl := zmem (by decide +kernel) rfl
theorem ck_X6_200 : Cond.constantLong RX6 200 (48271) ∈ ztbl := zmem (by decide +kernel) rfl
theorem ck_X6_202 : Cond.constantLong RX6 202 (2147483647) ∈ ztbl := zmem (by decide +kernel) rfl
theorem ck_X6_204 : Cond.constantLong RX6 204 (16) ∈ ztbl := zmem (by decide +kernel) rfl
theorem ck_X6_206 : Cond.constantLong RX6 206 (8) ∈ ztbl := zmem (by decide +kernel) rfl
theorem ck_X6_208 : Cond.constantLong RX6 208 (9) ∈ ztbl := zmem (by decide +kernel) rfl
theorem ck_X6_220 : Cond.constantLong RX6 220 (17) ∈ ztbl := zmem (by decide +kernel) rfl
theorem ck_X6_222 : Cond.constantLong RX6 222 (31) ∈ ztbl := zmem (by decide +kernel) rfl
theorem fk_X0_15 : zFK RX0 15 1 0 := ⟨by decide, by decide, zmem (by decide +kernel) rfl⟩
theorem fk_X0_19 : zFK RX0 19 1 1 := ⟨by decide, by decide, zmem (by decide +kernel) rfl⟩
theorem fk_X0_22 : zFK RX0 22 1 2 := ⟨by decide, by decide, zmem (by decide +kernel) rfl⟩
theorem fk_X0_25 : zFK RX0 25 1 3 := ⟨by decide, by decide, zmem (by decide +kernel) rfl⟩
theorem fk_X0_28 : zFK RX0 28 1 4 := ⟨by decide, by decide, zmem (by decide +kernel) rfl⟩
theorem fk_X1_9 : zFK RX1 9 2 0 := ⟨by decide, by decide, zmem (by decide +kernel) rfl⟩
theorem fk_X1_15 : zFK RX1 15 2 1 := ⟨by decide, by decide, zmem (by decide +kernel) rfl⟩
theorem fk_X1_18 : zFK RX1 18 2 2 := ⟨by decide, by decide, zmem (by decide +kernel) rfl⟩
theorem fk_X2_12 : zFK RX2 12 3 0 := ⟨by decide, by decide, zmem (by decide +kernel) rfl⟩
theorem fk_X2_18 : zFK RX2 18 3 1 := ⟨by decide, by decide, zmem (by decide +kernel) rfl⟩
theorem fk_X3_9 : zFK RX3 9 4 1 := ⟨by decide, by decide, zmem (by decide +kernel) rfl⟩
theorem fk_X3_21 : zFK RX3 21 4 0 := ⟨by decide, by decide, zmem (by decide +kernel) rfl⟩
theorem fk_X5_11 : zFK RX5 11 0 0 := ⟨by decide, by decide, zmem (by decide +kernel) rfl⟩
theorem fk_X5_15 : zFK RX5 15 0 1 := ⟨by decide, by decide, zmem (by decide +kernel) rfl⟩
theorem fk_X5_20 : zFK RX5 20 0 2 := ⟨by decide, by decide, zmem (by decide +kernel) rfl⟩
theorem fk_X5_25 : zFK RX5 25 0 3 := ⟨by decide, by decide, zmem (by decide +kernel) rfl⟩
theorem fk_X5_32 : zFK RX5 32 0 4 := ⟨by decide, by decide, zmem (by decide +kernel) rfl⟩
theorem fk_X5_36 : zFK RX5 36 0 5 := ⟨by decide, by decide, zmem (by decide +kernel) rfl⟩
theorem fk_X5_42 : zFK RX5 42 0 6 := ⟨by decide, by decide, zmem (by decide +kernel) rfl⟩
theorem fk_X5_46 : zFK RX5 46 0 7 := ⟨by decide, by decide, zmem (by decide +kernel) rfl⟩
theorem fk_X5_50 : zFK RX5 50 0 8 := ⟨by decide, by decide, zmem (by decide +kernel) rfl⟩
theorem fk_X5_53 : zFK RX5 53 0 9 := ⟨by decide, by decide, zmem (by decide +kernel) rfl⟩
theorem fk_X5_56 : zFK RX5 56 0 10 := ⟨by decide, by decide, zmem (by decide +kernel) rfl⟩
theorem fk_X5_60 : zFK RX5 60 0 11 := ⟨by decide, by decide, zmem (by decide +kernel) rfl⟩
theorem fk_X5_63 : zFK RX5 63 0 12 := ⟨by decide, by decide, zmem (by decide +kernel) rfl⟩
theorem fk_X5_67 : zFK RX5 67 0 13 := ⟨by decide, by decide, zmem (by decide +kernel) rfl⟩
theorem fk_X5_132 : zFK RX5 132 3 0 := ⟨by decide, by decide, zmem (by decide +kernel) rfl⟩
theorem fk_X5_137 : zFK RX5 137 3 1 := ⟨by decide, by decide, zmem (by decide +kernel) rfl⟩
theorem fk_X5_167 : zFK RX5 167 1 1 := ⟨by decide, by decide, zmem (by decide +kernel) rfl⟩
theorem fk_X5_318 : zFK RX5 318 1 0 := ⟨by decide, by decide, zmem (by decide +kernel) rfl⟩
theorem fk_X5_321 : zFK RX5 321 1 2 := ⟨by decide, by decide, zmem (by decide +kernel) rfl⟩
theorem fk_X6_7 : zFK RX6 7 5 1 := ⟨by decide, by decide, zmem (by decide +kernel) rfl⟩
theorem fk_X6_13 : zFK RX6 13 5 4 := ⟨by decide, by decide, zmem (by decide +kernel) rfl⟩
theorem fk_X6_17 : zFK RX6 17 5 5 := ⟨by decide, by decide, zmem (by decide +kernel) rfl⟩
theorem fk_X6_20 : zFK RX6 20 5 6 := ⟨by decide, by decide, zmem (by decide +kernel) rfl⟩
theorem fk_X6_23 : zFK RX6 23 5 7 := ⟨by decide, by decide, zmem (by decide +kernel) rfl⟩
theorem fk_X6_26 : zFK RX6 26 5 8 := ⟨by decide, by decide, zmem (by decide +kernel) rfl⟩
theorem fk_X6_30 : zFK RX6 30 5 9 := ⟨by decide, by decide, zmem (by decide +kernel) rfl⟩
theorem fk_X6_33 : zFK RX6 33 5 11 := ⟨by decide, by decide, zmem (by decide +kernel) rfl⟩
theorem fk_X6_36 : zFK RX6 36 5 12 := ⟨by decide, by decide, zmem (by decide +kernel) rfl⟩
theorem fk_X6_39 : zFK RX6 39 5 13 := ⟨by decide, by decide, zmem (by decide +kernel) rfl⟩
theorem fk_X6_42 : zFK RX6 42 5 15 := ⟨by decide, by decide, zmem (by decide +kernel) rfl⟩
theorem fk_X6_45 : zFK RX6 45 5 16 := ⟨by decide, by decide, zmem (by decide +kernel) rfl⟩
theorem fk_X6_48 : zFK RX6 48 5 17 := ⟨by decide, by decide, zmem (by decide +kernel) rfl⟩
theorem fk_X6_51 : zFK RX6 51 5 18 := ⟨by decide, by decide, zmem (by decide +kernel) rfl⟩
theorem fk_X6_54 : zFK RX6 54 5 0 := ⟨by decide, by decide, zmem (by decide +kernel) rfl⟩
theorem fk_X6_58 : zFK RX6 58 5 2 := ⟨by decide, by decide, zmem (by decide +kernel) rfl⟩
theorem fk_X6_61 : zFK RX6 61 5 3 := ⟨by decide, by decide, zmem (by decide +kernel) rfl⟩
theorem fk_X6_94 : zFK RX6 94 5 10 := ⟨by decide, by decide, zmem (by decide +kernel) rfl⟩
theorem fk_X6_97 : zFK RX6 97 5 14 := ⟨by decide, by decide, zmem (by decide +kernel) rfl⟩
theorem lk_X0_9 : zLS RX0 9 mi_X0_isA 2 := ⟨⟨zmem (by decide +kernel) rfl, zmem (by decide +kernel) rfl, zmem (by decide +kernel) rfl, zmem (by decide +kernel) rfl⟩, ⟨by decide +kernel, by decide +kernel, by decide +kernel⟩, by decide⟩
theorem lk_X0_31 : zLS RX0 31 mi_X0_changed 3 := ⟨⟨zmem (by decide +kernel) rfl, zmem (by decide +kernel) rfl, zmem (by decide +kernel) rfl, zmem (by decide +kernel) rfl⟩, ⟨by decide +kernel, by decide +kernel, by decide +kernel⟩, by decide⟩
theorem lk_X0_35 : zLS RX0 35 mi_X4_above 1 := ⟨⟨zmem (by decide +kernel) rfl, zmem (by decide +kernel) rfl, zmem (by decide +kernel) rfl, zmem (by decide +kernel) rfl⟩, ⟨by decide +kernel, by decide +kernel, by decide +kernel⟩, by decide⟩
theorem lk_X0_41 : zLS RX0 41 mi_X4_broken 1 := ⟨⟨zmem (by decide +kernel) rfl, zmem (by decide +kernel) rfl, zmem (by decide +kernel) rfl, zmem (by decide +kernel) rfl⟩, ⟨by decide +kernel, by decide +kernel, by decide +kernel⟩, by decide⟩
theorem lk_X0_44 : zLN RX0 44 mi_X5_touchedBy "TouchedLamps" 1 := ⟨⟨zmem (by decide +kernel) rfl, zmem (by decide +kernel) rfl, zmem (by decide +kernel) rfl, zmem (by decide +kernel) rfl⟩, ⟨by decide +kernel, by decide +kernel, by decide +kernel⟩, by decide⟩
theorem lk_X0_51 : zLS RX0 51 mi_X4_ones 1 := ⟨⟨zmem (by decide +kernel) rfl, zmem (by decide +kernel) rfl, zmem (by decide +kernel) rfl, zmem (by decide +kernel) rfl⟩, ⟨by decide +kernel, by decide +kernel, by decide +kernel⟩, by decide⟩
theorem lk_X0_54 : zLS RX0 54 mi_X4_twos 1 := ⟨⟨zmem (by decide +kernel) rfl, zmem (by decide +kernel) rfl, zmem (by decide +kernel) rfl, zmem (by decide +kernel) rfl⟩, ⟨by decide +kernel, by decide +kernel, by decide +kernel⟩, by decide⟩
theorem lk_X0_57 : zLS RX0 57 mi_X4_join 3 := ⟨⟨zmem (by decide +kernel) rfl, zmem (by decide +kernel) rfl, zmem (by decide +kernel) rfl, zmem (by decide +kernel) rfl⟩, ⟨by decide +kernel, by decide +kernel, by decide +kernel⟩, by decide⟩
theorem lk_X1_22 : zLS RX1 22 mi_J9_max_7cf53 2 := ⟨⟨zmem (by decide +kernel) rfl, zmem (by decide +kernel) rfl, zmem (by decide +kernel) rfl, zmem (by decide +kernel) rfl⟩, ⟨by decide +kernel, by decide +kernel, by decide +kernel⟩, by decide⟩
theorem lk_X2_32 : zLS RX2 32 mi_X2_kindBy 1 := ⟨⟨zmem (by decide +kernel) rfl, zmem (by decide +kernel) rfl, zmem (by decide +kernel) rfl, zmem (by decide +kernel) rfl⟩, ⟨by decide +kernel, by decide +kernel, by decide +kernel⟩, by decide⟩
theorem lk_X2_35 : zLS RX2 35 mi_X0_lastStep 1 := ⟨⟨zmem (by decide +kernel) rfl, zmem (by decide +kernel) rfl, zmem (by decide +kernel) rfl, zmem (by decide +kernel) rfl⟩, ⟨by decide +kernel, by decide +kernel, by decide +kernel⟩, by decide⟩
theorem lk_X2_42 : zLS RX2 42 mi_X4_with 3 := ⟨⟨zmem (by decide +kernel) rfl, zmem (by decide +kernel) rfl, zmem (by decide +kernel) rfl, zmem (by decide +kernel) rfl⟩, ⟨by decide +kernel, by decide +kernel, by decide +kernel⟩, by decide⟩
theorem lk_X3_15 : zLS RX3 15 mi_J9_max_7cf53 2 := ⟨⟨zmem (by decide +kernel) rfl, zmem (by decide +kernel) rfl, zmem (by decide +kernel) rfl, zmem (by decide +kernel) rfl⟩, ⟨by decide +kernel, by decide +kernel, by decide +kernel⟩, by decide⟩
theorem lk_X4_11 : zLS RX4 11 mi_X4_ones 1 := ⟨⟨zmem (by decide +kernel) rfl, zmem (by decide +kernel) rfl, zmem (by decide +kernel) rfl, zmem (by decide +kernel) rfl⟩, ⟨by decide +kernel, by decide +kernel, by decide +kernel⟩, by decide⟩
theorem lk_X4_15 : zLS RX4 15 mi_X4_twos 1 := ⟨⟨zmem (by decide +kernel) rfl, zmem (by decide +kernel) rfl, zmem (by decide +kernel) rfl, zmem (by decide +kernel) rfl⟩, ⟨by decide +kernel, by decide +kernel, by decide +kernel⟩, by decide⟩
theorem lk_X4_18 : zLS RX4 18 mi_X4_broken 1 := ⟨⟨zmem (by decide +kernel) rfl, zmem (by decide +kernel) rfl, zmem (by decide +kernel) rfl, zmem (by decide +kernel) rfl⟩, ⟨by decide +kernel, by decide +kernel, by decide +kernel⟩, by decide⟩
theorem lk_X4_21 : zLS RX4 21 mi_X4_join 3 := ⟨⟨zmem (by decide +kernel) rfl, zmem (by decide +kernel) rfl, zmem (by decide +kernel) rfl, zmem (by decide +kernel) rfl⟩, ⟨by decide +kernel, by decide +kernel, by decide +kernel⟩, by decide⟩
theorem lk_X4_25 : zLS RX4 25 mi_J6_bitCount_0f7a4 1 := ⟨⟨zmem (by decide +kernel) rfl, zmem (by decide +kernel) rfl, zmem (by decide +kernel) rfl, zmem (by decide +kernel) rfl⟩, ⟨by decide +kernel, by decide +kernel, by decide +kernel⟩, by decide⟩
theorem lk_X5_157 : zLS RX5 157 mi_X0_isA 2 := ⟨⟨zmem (by decide +kernel) rfl, zmem (by decide +kernel) rfl, zmem (by decide +kernel) rfl, zmem (by decide +kernel) rfl⟩, ⟨by decide +kernel, by decide +kernel, by decide +kernel⟩, by decide⟩
theorem lk_X5_162 : zLS RX5 162 mi_X4_of 2 := ⟨⟨zmem (by decide +kernel) rfl, zmem (by decide +kernel) rfl, zmem (by decide +kernel) rfl, zmem (by decide +kernel) rfl⟩, ⟨by decide +kernel, by decide +kernel, by decide +kernel⟩, by decide⟩
theorem lk_X5_170 : zLS RX5 170 mi_X4_above 1 := ⟨⟨zmem (by decide +kernel) rfl, zmem (by decide +kernel) rfl, zmem (by decide +kernel) rfl, zmem (by decide +kernel) rfl⟩, ⟨by decide +kernel, by decide +kernel, by decide +kernel⟩, by decide⟩
theorem lk_X5_173 : zLS RX5 173 mi_J6_bitCount_0f7a4 1 := ⟨⟨zmem (by decide +kernel) rfl, zmem (by decide +kernel) rfl, zmem (by decide +kernel) rfl, zmem (by decide +kernel) rfl⟩, ⟨by decide +kernel, by decide +kernel, by decide +kernel⟩, by decide⟩
theorem lk_X5_178 : zLS RX5 178 mi_X5_touchedBy 1 := ⟨⟨zmem (by decide +kernel) rfl, zmem (by decide +kernel) rfl, zmem (by decide +kernel) rfl, zmem (by decide +kernel) rfl⟩, ⟨by decide +kernel, by decide +kernel, by decide +kernel⟩, by decide⟩
theorem lk_X5_203 : zLS RX5 203 mi_X4_broken 1 := ⟨⟨zmem (by decide +kernel) rfl, zmem (by decide +kernel) rfl, zmem (by decide +kernel) rfl, zmem (by decide +kernel) rfl⟩, ⟨by decide +kernel, by decide +kernel, by decide +kernel⟩, by decide⟩
theorem lk_X5_219 : zLS RX5 219 mi_X4_with 3 := ⟨⟨zmem (by decide +kernel) rfl, zmem (by decide +kernel) rfl, zmem (by decide +kernel) rfl, zmem (by decide +kernel) rfl⟩, ⟨by decide +kernel, by decide +kernel, by decide +kernel⟩, by decide⟩
theorem lk_X5_236 : zLS RX5 236 mi_X5_reaches 7 := ⟨⟨zmem (by decide +kernel) rfl, zmem (by decide +kernel) rfl, zmem (by decide +kernel) rfl, zmem (by decide +kernel) rfl⟩, ⟨by decide +kernel, by decide +kernel, by decide +kernel⟩, by decide⟩
theorem lk_X5_260 : zLS RX5 260 mi_X4_total 2 := ⟨⟨zmem (by decide +kernel) rfl, zmem (by decide +kernel) rfl, zmem (by decide +kernel) rfl, zmem (by decide +kernel) rfl⟩, ⟨by decide +kernel, by decide +kernel, by decide +kernel⟩, by decide⟩
theorem lk_X5_262 : zLS RX5 262 mi_X5_wonBy 7 := ⟨⟨zmem (by decide +kernel) rfl, zmem (by decide +kernel) rfl, zmem (by decide +kernel) rfl, zmem (by decide +kernel) rfl⟩, ⟨by decide +kernel, by decide +kernel, by decide +kernel⟩, by decide⟩
theorem lk_X5_266 : zLS RX5 266 mi_X5_twelfths 4 := ⟨⟨zmem (by decide +kernel) rfl, zmem (by decide +kernel) rfl, zmem (by decide +kernel) rfl, zmem (by decide +kernel) rfl⟩, ⟨by decide +kernel, by decide +kernel, by decide +kernel⟩, by decide⟩
theorem lk_X5_298 : zLS RX5 298 mi_X0_lastStep 1 := ⟨⟨zmem (by decide +kernel) rfl, zmem (by decide +kernel) rfl, zmem (by decide +kernel) rfl, zmem (by decide +kernel) rfl⟩, ⟨by decide +kernel, by decide +kernel, by decide +kernel⟩, by decide⟩
theorem lk_X5_304 : zLS RX5 304 mi_X5_commonDivisor 2 := ⟨⟨zmem (by decide +kernel) rfl, zmem (by decide +kernel) rfl, zmem (by decide +kernel) rfl, zmem (by decide +kernel) rfl⟩, ⟨by decide +kernel, by decide +kernel, by decide +kernel⟩, by decide⟩
theorem lk_X5_308 : zLS RX5 308 mi_X5_countRows 2 := ⟨⟨zmem (by decide +kernel) rfl, zmem (by decide +kernel) rfl, zmem (by decide +kernel) rfl, zmem (by decide +kernel) rfl⟩, ⟨by decide +kernel, by decide +kernel, by decide +kernel⟩, by decide⟩
theorem lk_X5_327 : zLS RX5 327 mi_X4_withBroken 2 := ⟨⟨zmem (by decide +kernel) rfl, zmem (by decide +kernel) rfl, zmem (by decide +kernel) rfl, zmem (by decide +kernel) rfl⟩, ⟨by decide +kernel, by decide +kernel, by decide +kernel⟩, by decide⟩
theorem lk_X5_340 : zLS RX5 340 mi_J9_max_7cf53 2 := ⟨⟨zmem (by decide +kernel) rfl, zmem (by decide +kernel) rfl, zmem (by decide +kernel) rfl, zmem (by decide +kernel) rfl⟩, ⟨by decide +kernel, by decide +kernel, by decide +kernel⟩, by decide⟩
theorem lk_X5_345 : zLS RX5 345 mi_J9_min_7cf53 2 := ⟨⟨zmem (by decide +kernel) rfl, zmem (by decide +kernel) rfl, zmem (by decide +kernel) rfl, zmem (by decide +kernel) rfl⟩, ⟨by decide +kernel, by decide +kernel, by decide +kernel⟩, by decide⟩
theorem lk_X6_64 : zLS RX6 64 mi_X6_in 3 := ⟨⟨zmem (by decide +kernel) rfl, zmem (by decide +kernel) rfl, zmem (by decide +kernel) rfl, zmem (by decide +kernel) rfl⟩, ⟨by decide +kernel, by decide +kernel, by decide +kernel⟩, by decide⟩
theorem lk_X6_68 : zLS RX6 68 mi_X6_isRow 1 := ⟨⟨zmem (by decide +kernel) rfl, zmem (by decide +kernel) rfl, zmem (by decide +kernel) rfl, zmem (by decide +kernel) rfl⟩, ⟨by decide +kernel, by decide +kernel, by decide +kernel⟩, by decide⟩
theorem lk_X6_79 : zLS RX6 79 mi_X6_isText 1 := ⟨⟨zmem (by decide +kernel) rfl, zmem (by decide +kernel) rfl, zmem (by decide +kernel) rfl, zmem (by decide +kernel) rfl⟩, ⟨by decide +kernel, by decide +kernel, by decide +kernel⟩, by decide⟩
theorem lk_X6_82 : zLS RX6 82 mi_X6_isThree 1 := ⟨⟨zmem (by decide +kernel) rfl, zmem (by decide +kernel) rfl, zmem (by decide +kernel) rfl, zmem (by decide +kernel) rfl⟩, ⟨by decide +kernel, by decide +kernel, by decide +kernel⟩, by decide⟩
theorem lk_X6_85 : zLS RX6 85 mi_X6_kindOf 1 := ⟨⟨zmem (by decide +kernel) rfl, zmem (by decide +kernel) rfl, zmem (by decide +kernel) rfl, zmem (by decide +kernel) rfl⟩, ⟨by decide +kernel, by decide +kernel, by decide +kernel⟩, by decide⟩
theorem lk_X6_88 : zLS RX6 88 mi_X6_stepsOf 1 := ⟨⟨zmem (by decide +kernel) rfl, zmem (by decide +kernel) rfl, zmem (by decide +kernel) rfl, zmem (by decide +kernel) rfl⟩, ⟨by decide +kernel, by decide +kernel, by decide +kernel⟩, by decide⟩
theorem lk_X6_100 : zLS RX6 100 mi_X6_doesTouch 2 := ⟨⟨zmem (by decide +kernel) rfl, zmem (by decide +kernel) rfl, zmem (by decide +kernel) rfl, zmem (by decide +kernel) rfl⟩, ⟨by decide +kernel, by decide +kernel, by decide +kernel⟩, by decide⟩
theorem lk_X6_104 : zLS RX6 104 mi_X6_has 2 := ⟨⟨zmem (by decide +kernel) rfl, zmem (by decide +kernel) rfl, zmem (by decide +kernel) rfl, zmem (by decide +kernel) rfl⟩, ⟨by decide +kernel, by decide +kernel, by decide +kernel⟩, by decide⟩
theorem lk_X6_107 : zLS RX6 107 mi_X6_doesShow 2 := ⟨⟨zmem (by decide +kernel) rfl, zmem (by decide +kernel) rfl, zmem (by decide +kernel) rfl, zmem (by decide +kernel) rfl⟩, ⟨by decide +kernel, by decide +kernel, by decide +kernel⟩, by decide⟩
theorem lk_X6_114 : zLS RX6 114 mi_X6_after 4 := ⟨⟨zmem (by decide +kernel) rfl, zmem (by decide +kernel) rfl, zmem (by decide +kernel) rfl, zmem (by decide +kernel) rfl⟩, ⟨by decide +kernel, by decide +kernel, by decide +kernel⟩, by decide⟩
theorem lk_X6_125 : zLS RX6 125 mi_X6_touchedBy 1 := ⟨⟨zmem (by decide +kernel) rfl, zmem (by decide +kernel) rfl, zmem (by decide +kernel) rfl, zmem (by decide +kernel) rfl⟩, ⟨by decide +kernel, by decide +kernel, by decide +kernel⟩, by decide⟩
theorem lk_X6_135 : zLS RX6 135 mi_X6_bitsOf 1 := ⟨⟨zmem (by decide +kernel) rfl, zmem (by decide +kernel) rfl, zmem (by decide +kernel) rfl, zmem (by decide +kernel) rfl⟩, ⟨by decide +kernel, by decide +kernel, by decide +kernel⟩, by decide⟩
theorem lk_X6_138 : zLS RX6 138 mi_X6_isButton 1 := ⟨⟨zmem (by decide +kernel) rfl, zmem (by decide +kernel) rfl, zmem (by decide +kernel) rfl, zmem (by decide +kernel) rfl⟩, ⟨by decide +kernel, by decide +kernel, by decide +kernel⟩, by decide⟩
theorem lk_X6_148 : zLS RX6 148 mi_X6_flipped 2 := ⟨⟨zmem (by decide +kernel) rfl, zmem (by decide +kernel) rfl, zmem (by decide +kernel) rfl, zmem (by decide +kernel) rfl⟩, ⟨by decide +kernel, by decide +kernel, by decide +kernel⟩, by decide⟩
theorem lk_X6_157 : zLS RX6 157 mi_X6_isPicture 1 := ⟨⟨zmem (by decide +kernel) rfl, zmem (by decide +kernel) rfl, zmem (by decide +kernel) rfl, zmem (by decide +kernel) rfl⟩, ⟨by decide +kernel, by decide +kernel, by decide +kernel⟩, by decide⟩
theorem lk_L_13 : zLV RL 13 mi_X5_row 2 := ⟨⟨zmem (by decide +kernel) rfl, zmem (by decide +kernel) rfl, zmem (by decide +kernel) rfl, zmem (by decide +kernel) rfl, zmem (by decide +kernel) rfl⟩, ⟨by decide +kernel, by decide +kernel, by decide +kernel⟩, by decide⟩
theorem lk_L_17 : zLV RL 17 mi_X6_row 2 := ⟨⟨zmem (by decide +kernel) rfl, zmem (by decide +kernel) rfl, zmem (by decide +kernel) rfl, zmem (by decide +kernel) rfl, zmem (by decide +kernel) rfl⟩, ⟨by decide +kernel, by decide +kernel, by decide +kernel⟩, by decide⟩
theorem lk_L_18 : zLV RL 18 mi_X5_lay 3 := ⟨⟨zmem (by decide +kernel) rfl, zmem (by decide +kernel) rfl, zmem (by decide +kernel) rfl, zmem (by decide +kernel) rfl, zmem (by decide +kernel) rfl⟩, ⟨by decide +kernel, by decide +kernel, by decide +kernel⟩, by decide⟩
theorem lk_L_22 : zLV RL 22 mi_X6_lay 3 := ⟨⟨zmem (by decide +kernel) rfl, zmem (by decide +kernel) rfl, zmem (by decide +kernel) rfl, zmem (by decide +kernel) rfl, zmem (by decide +kernel) rfl⟩, ⟨by decide +kernel, by decide +kernel, by decide +kernel⟩, by decide⟩
theorem lk_L_23 : zLV RL 23 mi_X5_at 2 := ⟨⟨zmem (by decide +kernel) rfl, zmem (by decide +kernel) rfl, zmem (by decide +kernel) rfl, zmem (by decide +kernel) rfl, zmem (by decide +kernel) rfl⟩, ⟨by decide +kernel, by decide +kernel, by decide +kernel⟩, by decide⟩
theorem lk_L_26 : zLV RL 26 mi_X6_at 2 := ⟨⟨zmem (by decide +kernel) rfl, zmem (by decide +kernel) rfl, zmem (by decide +kernel) rfl, zmem (by decide +kernel) rfl, zmem (by decide +kernel) rfl⟩, ⟨by decide +kernel, by decide +kernel, by decide +kernel⟩, by decide⟩
theorem lk_L_27 : zLV RL 27 mi_X5_tear 1 := ⟨⟨zmem (by decide +kernel) rfl, zmem (by decide +kernel) rfl, zmem (by decide +kernel) rfl, zmem (by decide +kernel) rfl, zmem (by decide +kernel) rfl⟩, ⟨by decide +kernel, by decide +kernel, by decide +kernel⟩, by decide⟩
theorem lk_L_31 : zLV RL 31 mi_X6_tear 1 := ⟨⟨zmem (by decide +kernel) rfl, zmem (by decide +kernel) rfl, zmem (by decide +kernel) rfl, zmem (by decide +kernel) rfl, zmem (by decide +kernel) rfl⟩, ⟨by decide +kernel, by decide +kernel, by decide +kernel⟩, by decide⟩
theorem lk_L_32 : zLV RL 32 mi_X5_copy 5 := ⟨⟨zmem (by decide +kernel) rfl, zmem (by decide +kernel) rfl, zmem (by decide +kernel) rfl, zmem (by decide +kernel) rfl, zmem (by decide +kernel) rfl⟩, ⟨by decide +kernel, by decide +kernel, by decide +kernel⟩, by decide⟩
theorem lk_L_36 : zLV RL 36 mi_X6_copy 5 := ⟨⟨zmem (by decide +kernel) rfl, zmem (by decide +kernel) rfl, zmem (by decide +kernel) rfl, zmem (by decide +kernel) rfl, zmem (by decide +kernel) rfl⟩, ⟨by decide +kernel, by decide +kernel, by decide +kernel⟩, by decide⟩
theorem lk_L_37 : zLV RL 37 mi_X5_mean 1 := ⟨⟨zmem (by decide +kernel) rfl, zmem (by decide +kernel) rfl, zmem (by decide +kernel) rfl, zmem (by decide +kernel) rfl, zmem (by decide +kernel) rfl⟩, ⟨by decide +kernel, by decide +kernel, by decide +kernel⟩, by decide⟩
theorem lk_L_40 : zLV RL 40 mi_X6_mean 1 := ⟨⟨zmem (by decide +kernel) rfl, zmem (by decide +kernel) rfl, zmem (by decide +kernel) rfl, zmem (by decide +kernel) rfl, zmem (by decide +kernel) rfl⟩, ⟨by decide +kernel, by decide +kernel, by decide +kernel⟩, by decide⟩
theorem lk_L_41 : zLV RL 41 mi_X5_text 2 := ⟨⟨zmem (by decide +kernel) rfl, zmem (by decide +kernel) rfl, zmem (by decide +kernel) rfl, zmem (by decide +kernel) rfl, zmem (by decide +kernel) rfl⟩, ⟨by decide +kernel, by decide +kernel, by decide +kernel⟩, by decide⟩
theorem lk_L_44 : zLV RL 44 mi_X6_text 2 := ⟨⟨zmem (by decide +kernel) rfl, zmem (by decide +kernel) rfl, zmem (by decide +kernel) rfl, zmem (by decide +kernel) rfl, zmem (by decide +kernel) rfl⟩, ⟨by decide +kernel, by decide +kernel, by decide +kernel⟩, by decide⟩
theorem lk_L_45 : zLV RL 45 mi_X5_put 3 := ⟨⟨zmem (by decide +kernel) rfl, zmem (by decide +kernel) rfl, zmem (by decide +kernel) rfl, zmem (by decide +kernel) rfl, zmem (by decide +kernel) rfl⟩, ⟨by decide +kernel, by decide +kernel, by decide +kernel⟩, by decide⟩
theorem lk_L_48 : zLV RL 48 mi_X6_put 3 := ⟨⟨zmem (by decide +kernel) rfl, zmem (by decide +kernel) rfl, zmem (by decide +kernel) rfl, zmem (by decide +kernel) rfl, zmem (by decide +kernel) rfl⟩, ⟨by decide +kernel, by decide +kernel, by decide +kernel⟩, by decide⟩
theorem lk_L_49 : zLV RL 49 mi_X5_fault 1 := ⟨⟨zmem (by decide +kernel) rfl, zmem (by decide +kernel) rfl, zmem (by decide +kernel) rfl, zmem (by decide +kernel) rfl, zmem (by decide +kernel) rfl⟩, ⟨by decide +kernel, by decide +kernel, by decide +kernel⟩, by decide⟩
theorem lk_L_52 : zLV RL 52 mi_X6_fault 1 := ⟨⟨zmem (by decide +kernel) rfl, zmem (by decide +kernel) rfl, zmem (by decide +kernel) rfl, zmem (by decide +kernel) rfl, zmem (by decide +kernel) rfl⟩, ⟨by decide +kernel, by decide +kernel, by decide +kernel⟩, by decide⟩
theorem lk_L_53 : zLV RL 53 mi_X5_wall 1 := ⟨⟨zmem (by decide +kernel) rfl, zmem (by decide +kernel) rfl, zmem (by decide +kernel) rfl, zmem (by decide +kernel) rfl, zmem (by decide +kernel) rfl⟩, ⟨by decide +kernel, by decide +kernel, by decide +kernel⟩, by decide⟩
theorem lk_L_56 : zLV RL 56 mi_X6_wall 1 := ⟨⟨zmem (by decide +kernel) rfl, zmem (by decide +kernel) rfl, zmem (by decide +kernel) rfl, zmem (by decide +kernel) rfl, zmem (by decide +kernel) rfl⟩, ⟨by decide +kernel, by decide +kernel, by decide +kernel⟩, by decide⟩
theorem lk_L_57 : zLV RL 57 mi_X5_lamp 2 := ⟨⟨zmem (by decide +kernel) rfl, zmem (by decide +kernel) rfl, zmem (by decide +kernel) rfl, zmem (by decide +kernel) rfl, zmem (by decide +kernel) rfl⟩, ⟨by decide +kernel, by decide +kernel, by decide +kernel⟩, by decide⟩
theorem lk_L_60 : zLV RL 60 mi_X6_lamp 2 := ⟨⟨zmem (by decide +kernel) rfl, zmem (by decide +kernel) rfl, zmem (by decide +kernel) rfl, zmem (by decide +kernel) rfl, zmem (by decide +kernel) rfl⟩, ⟨by decide +kernel, by decide +kernel, by decide +kernel⟩, by decide⟩
theorem lk_L_61 : zLV RL 61 mi_X5_mark 2 := ⟨⟨zmem (by decide +kernel) rfl, zmem (by decide +kernel) rfl, zmem (by decide +kernel) rfl, zmem (by decide +kernel) rfl, zmem (by decide +kernel) rfl⟩, ⟨by decide +kernel, by decide +kernel, by decide +kernel⟩, by decide⟩
theorem lk_L_64 : zLV RL 64 mi_X6_mark 2 := ⟨⟨zmem (by decide +kernel) rfl, zmem (by decide +kernel) rfl, zmem (by decide +kernel) rfl, zmem (by decide +kernel) rfl, zmem (by decide +kernel) rfl⟩, ⟨by decide +kernel, by decide +kernel, by decide +kernel⟩, by decide⟩
theorem lk_L_65 : zLV RL 65 mi_X5_press 1 := ⟨⟨zmem (by decide +kernel) rfl, zmem (by decide +kernel) rfl, zmem (by decide +kernel) rfl, zmem (by decide +kernel) rfl, zmem (by decide +kernel) rfl⟩, ⟨by decide +kernel, by decide +kernel, by decide +kernel⟩, by decide⟩
theorem lk_L_68 : zLV RL 68 mi_X6_press 1 := ⟨⟨zmem (by decide +kernel) rfl, zmem (by decide +kernel) rfl, zmem (by decide +kernel) rfl, zmem (by decide +kernel) rfl, zmem (by decide +kernel) rfl⟩, ⟨by decide +kernel, by decide +kernel, by decide +kernel⟩, by decide⟩
theorem lk_L_69 : zLV RL 69 mi_X5_set 2 := ⟨⟨zmem (by decide +kernel) rfl, zmem (by decide +kernel) rfl, zmem (by decide +kernel) rfl, zmem (by decide +kernel) rfl, zmem (by decide +kernel) rfl⟩, ⟨by decide +kernel, by decide +kernel, by decide +kernel⟩, by decide⟩
theorem lk_L_72 : zLV RL 72 mi_X6_set 2 := ⟨⟨zmem (by decide +kernel) rfl, zmem (by decide +kernel) rfl, zmem (by decide +kernel) rfl, zmem (by decide +kernel) rfl, zmem (by decide +kernel) rfl⟩, ⟨by decide +kernel, by decide +kernel, by decide +kernel⟩, by decide⟩
theorem lk_L_73 : zLV RL 73 mi_X5_crack 1 := ⟨⟨zmem (by decide +kernel) rfl, zmem (by decide +kernel) rfl, zmem (by decide +kernel) rfl, zmem (by decide +kernel) rfl, zmem (by decide +kernel) rfl⟩, ⟨by decide +kernel, by decide +kernel, by decide +kernel⟩, by decide⟩
theorem lk_L_76 : zLV RL 76 mi_X6_crack 1 := ⟨⟨zmem (by decide +kernel) rfl, zmem (by decide +kernel) rfl, zmem (by decide +kernel) rfl, zmem (by decide +kernel) rfl, zmem (by decide +kernel) rfl⟩, ⟨by decide +kernel, by decide +kernel, by decide +kernel⟩, by decide⟩
theorem lk_L_77 : zLV RL 77 mi_X5_undo 1 := ⟨⟨zmem (by decide +kernel) rfl, zmem (by decide +kernel) rfl, zmem (by decide +kernel) rfl, zmem (by decide +kernel) rfl, zmem (by decide +kernel) rfl⟩, ⟨by decide +kernel, by decide +kernel, by decide +kernel⟩, by decide⟩
theorem lk_L_80 : zLV RL 80 mi_X6_undo 1 := ⟨⟨zmem (by decide +kernel) rfl, zmem (by decide +kernel) rfl, zmem (by decide +kernel) rfl, zmem (by decide +kernel) rfl, zmem (by decide +kernel) rfl⟩, ⟨by decide +kernel, by decide +kernel, by decide +kernel⟩, by decide⟩
theorem lk_L_81 : zLV RL 81 mi_X5_keep 1 := ⟨⟨zmem (by decide +kernel) rfl, zmem (by decide +kernel) rfl, zmem (by decide +kernel) rfl, zmem (by decide +kernel) rfl, zmem (by decide +kernel) rfl⟩, ⟨by decide +kernel, by decide +kernel, by decide +kernel⟩, by decide⟩
theorem lk_L_84 : zLV RL 84 mi_X6_keep 1 := ⟨⟨zmem (by decide +kernel) rfl, zmem (by decide +kernel) rfl, zmem (by decide +kernel) rfl, zmem (by decide +kernel) rfl, zmem (by decide +kernel) rfl⟩, ⟨by decide +kernel, by decide +kernel, by decide +kernel⟩, by decide⟩
theorem lk_L_85 : zLV RL 85 mi_X5_on 1 := ⟨⟨zmem (by decide +kernel) rfl, zmem (by decide +kernel) rfl, zmem (by decide +kernel) rfl, zmem (by decide +kernel) rfl, zmem (by decide +kernel) rfl⟩, ⟨by decide +kernel, by decide +kernel, by decide +kernel⟩, by decide⟩
theorem lk_L_88 : zLV RL 88 mi_X6_on 1 := ⟨⟨zmem (by decide +kernel) rfl, zmem (by decide +kernel) rfl, zmem (by decide +kernel) rfl, zmem (by decide +kernel) rfl, zmem (by decide +kernel) rfl⟩, ⟨by decide +kernel, by decide +kernel, by decide +kernel⟩, by decide⟩
theorem lk_L_89 : zLV RL 89 mi_X5_touched 4 := ⟨⟨zmem (by decide +kernel) rfl, zmem (by decide +kernel) rfl, zmem (by decide +kernel) rfl, zmem (by decide +kernel) rfl, zmem (by decide +kernel) rfl⟩, ⟨by decide +kernel, by decide +kernel, by decide +kernel⟩, by decide⟩
theorem lk_L_93 : zLV RL 93 mi_X6_touched 4 := ⟨⟨zmem (by decide +kernel) rfl, zmem (by decide +kernel) rfl, zmem (by decide +kernel) rfl, zmem (by decide +kernel) rfl, zmem (by decide +kernel) rfl⟩, ⟨by decide +kernel, by decide +kernel, by decide +kernel⟩, by decide⟩
theorem lk_L_94 : zLV RL 94 mi_X5_shows 1 := ⟨⟨zmem (by decide +kernel) rfl, zmem (by decide +kernel) rfl, zmem (by decide +kernel) rfl, zmem (by decide +kernel) rfl, zmem (by decide +kernel) rfl⟩, ⟨by decide +kernel, by decide +kernel, by decide +kernel⟩, by decide⟩
theorem lk_L_97 : zLV RL 97 mi_X6_shows 1 := ⟨⟨zmem (by decide +kernel) rfl, zmem (by decide +kernel) rfl, zmem (by decide +kernel) rfl, zmem (by decide +kernel) rfl, zmem (by decide +kernel) rfl⟩, ⟨by decide +kernel, by decide +kernel, by decide +kernel⟩, by decide⟩
theorem lk_L_98 : zLV RL 98 mi_X5_most 0 := ⟨⟨zmem (by decide +kernel) rfl, zmem (by decide +kernel) rfl, zmem (by decide +kernel) rfl, zmem (by decide +kernel) rfl, zmem (by decide +kernel) rfl⟩, ⟨by decide +kernel, by decide +kernel, by decide +kernel⟩, by decide⟩
theorem lk_L_102 : zLV RL 102 mi_X6_most 0 := ⟨⟨zmem (by decide +kernel) rfl, zmem (by decide +kernel) rfl, zmem (by decide +kernel) rfl, zmem (by decide +kernel) rfl, zmem (by decide +kernel) rfl⟩, ⟨by decide +kernel, by decide +kernel, by decide +kernel⟩, by decide⟩
theorem lk_L_103 : zLV RL 103 mi_X5_fewest 2 := ⟨⟨zmem (by decide +kernel) rfl, zmem (by decide +kernel) rfl, zmem (by decide +kernel) rfl, zmem (by decide +kernel) rfl, zmem (by decide +kernel) rfl⟩, ⟨by decide +kernel, by decide +kernel, by decide +kernel⟩, by decide⟩
theorem lk_L_106 : zLV RL 106 mi_X6_fewest 2 := ⟨⟨zmem (by decide +kernel) rfl, zmem (by decide +kernel) rfl, zmem (by decide +kernel) rfl, zmem (by decide +kernel) rfl, zmem (by decide +kernel) rfl⟩, ⟨by decide +kernel, by decide +kernel, by decide +kernel⟩, by decide⟩
theorem lk_L_107 : zLV RL 107 mi_X5_ways 1 := ⟨⟨zmem (by decide +kernel) rfl, zmem (by decide +kernel) rfl, zmem (by decide +kernel) rfl, zmem (by decide +kernel) rfl, zmem (by decide +kernel) rfl⟩, ⟨by decide +kernel, by decide +kernel, by decide +kernel⟩, by decide⟩
theorem lk_L_110 : zLV RL 110 mi_X6_ways 1 := ⟨⟨zmem (by decide +kernel) rfl, zmem (by decide +kernel) rfl, zmem (by decide +kernel) rfl, zmem (by decide +kernel) rfl, zmem (by decide +kernel) rfl⟩, ⟨by decide +kernel, by decide +kernel, by decide +kernel⟩, by decide⟩
theorem lk_L_111 : zLV RL 111 mi_X5_sure 1 := ⟨⟨zmem (by decide +kernel) rfl, zmem (by decide +kernel) rfl, zmem (by decide +kernel) rfl, zmem (by decide +kernel) rfl, zmem (by decide +kernel) rfl⟩, ⟨by decide +kernel, by decide +kernel, by decide +kernel⟩, by decide⟩
theorem lk_L_114 : zLV RL 114 mi_X6_sure 1 := ⟨⟨zmem (by decide +kernel) rfl, zmem (by decide +kernel) rfl, zmem (by decide +kernel) rfl, zmem (by decide +kernel) rfl, zmem (by decide +kernel) rfl⟩, ⟨by decide +kernel, by decide +kernel, by decide +kernel⟩, by decide⟩
theorem lk_L_115 : zLV RL 115 mi_X5_which 1 := ⟨⟨zmem (by decide +kernel) rfl, zmem (by decide +kernel) rfl, zmem (by decide +kernel) rfl, zmem (by decide +kernel) rfl, zmem (by decide +kernel) rfl⟩, ⟨by decide +kernel, by decide +kernel, by decide +kernel⟩, by decide⟩
theorem lk_L_118 : zLV RL 118 mi_X6_which 1 := ⟨⟨zmem (by decide +kernel) rfl, zmem (by decide +kernel) rfl, zmem (by decide +kernel) rfl, zmem (by decide +kernel) rfl, zmem (by decide +kernel) rfl⟩, ⟨by decide +kernel, by decide +kernel, by decide +kernel⟩, by decide⟩
theorem lk_L_119 : zLV RL 119 mi_X5_kinds 2 := ⟨⟨zmem (by decide +kernel) rfl, zmem (by decide +kernel) rfl, zmem (by decide +kernel) rfl, zmem (by decide +kernel) rfl, zmem (by decide +kernel) rfl⟩, ⟨by decide +kernel, by decide +kernel, by decide +kernel⟩, by decide⟩
theorem lk_L_122 : zLV RL 122 mi_X6_kinds 2 := ⟨⟨zmem (by decide +kernel) rfl, zmem (by decide +kernel) rfl, zmem (by decide +kernel) rfl, zmem (by decide +kernel) rfl, zmem (by decide +kernel) rfl⟩, ⟨by decide +kernel, by decide +kernel, by decide +kernel⟩, by decide⟩
theorem lk_L_123 : zLV RL 123 mi_X5_next 2 := ⟨⟨zmem (by decide +kernel) rfl, zmem (by decide +kernel) rfl, zmem (by decide +kernel) rfl, zmem (by decide +kernel) rfl, zmem (by decide +kernel) rfl⟩, ⟨by decide +kernel, by decide +kernel, by decide +kernel⟩, by decide⟩
theorem lk_L_126 : zLV RL 126 mi_X6_next 2 := ⟨⟨zmem (by decide +kernel) rfl, zmem (by decide +kernel) rfl, zmem (by decide +kernel) rfl, zmem (by decide +kernel) rfl, zmem (by decide +kernel) rfl⟩, ⟨by decide +kernel, by decide +kernel, by decide +kernel⟩, by decide⟩
theorem lk_L_127 : zLV RL 127 mi_X5_sums 1 := ⟨⟨zmem (by decide +kernel) rfl, zmem (by decide +kernel) rfl, zmem (by decide +kernel) rfl, zmem (by decide +kernel) rfl, zmem (by decide +kernel) rfl⟩, ⟨by decide +kernel, by decide +kernel, by decide +kernel⟩, by decide⟩
theorem lk_L_130 : zLV RL 130 mi_X6_sums 1 := ⟨⟨zmem (by decide +kernel) rfl, zmem (by decide +kernel) rfl, zmem (by decide +kernel) rfl, zmem (by decide +kernel) rfl, zmem (by decide +kernel) rfl⟩, ⟨by decide +kernel, by decide +kernel, by decide +kernel⟩, by decide⟩
theorem lk_L_131 : zLV RL 131 mi_X5_duel 2 := ⟨⟨zmem (by decide +kernel) rfl, zmem (by decide +kernel) rfl, zmem (by decide +kernel) rfl, zmem (by decide +kernel) rfl, zmem (by decide +kernel) rfl⟩, ⟨by decide +kernel, by decide +kernel, by decide +kernel⟩, by decide⟩
theorem lk_L_134 : zLV RL 134 mi_X6_duel 2 := ⟨⟨zmem (by decide +kernel) rfl, zmem (by decide +kernel) rfl, zmem (by decide +kernel) rfl, zmem (by decide +kernel) rfl, zmem (by decide +kernel) rfl⟩, ⟨by decide +kernel, by decide +kernel, by decide +kernel⟩, by decide⟩
theorem lk_L_135 : zLV RL 135 mi_X5_odds 3 := ⟨⟨zmem (by decide +kernel) rfl, zmem (by decide +kernel) rfl, zmem (by decide +kernel) rfl, zmem (by decide +kernel) rfl, zmem (by decide +kernel) rfl⟩, ⟨by decide +kernel, by decide +kernel, by decide +kernel⟩, by decide⟩
theorem lk_L_138 : zLV RL 138 mi_X6_odds 3 := ⟨⟨zmem (by decide +kernel) rfl, zmem (by decide +kernel) rfl, zmem (by decide +kernel) rfl, zmem (by decide +kernel) rfl, zmem (by decide +kernel) rfl⟩, ⟨by decide +kernel, by decide +kernel, by decide +kernel⟩, by decide⟩
theorem lk_L_139 : zLV RL 139 mi_X5_mid 2 := ⟨⟨zmem (by decide +kernel) rfl, zmem (by decide +kernel) rfl, zmem (by decide +kernel) rfl, zmem (by decide +kernel) rfl, zmem (by decide +kernel) rfl⟩, ⟨by decide +kernel, by decide +kernel, by decide +kernel⟩, by decide⟩
theorem lk_L_142 : zLV RL 142 mi_X6_mid 2 := ⟨⟨zmem (by decide +kernel) rfl, zmem (by decide +kernel) rfl, zmem (by decide +kernel) rfl, zmem (by decide +kernel) rfl, zmem (by decide +kernel) rfl⟩, ⟨by decide +kernel, by decide +kernel, by decide +kernel⟩, by decide⟩
theorem lk_L_143 : zLV RL 143 mi_X5_lots 2 := ⟨⟨zmem (by decide +kernel) rfl, zmem (by decide +kernel) rfl, zmem (by decide +kernel) rfl, zmem (by decide +kernel) rfl, zmem (by decide +kernel) rfl⟩, ⟨by decide +kernel, by decide +kernel, by decide +kernel⟩, by decide⟩
theorem lk_L_146 : zLV RL 146 mi_X6_lots 2 := ⟨⟨zmem (by decide +kernel) rfl, zmem (by decide +kernel) rfl, zmem (by decide +kernel) rfl, zmem (by decide +kernel) rfl, zmem (by decide +kernel) rfl⟩, ⟨by decide +kernel, by decide +kernel, by decide +kernel⟩, by decide⟩
theorem lk_L_147 : zLV RL 147 mi_X5_asked 0 := ⟨⟨zmem (by decide +kernel) rfl, zmem (by decide +kernel) rfl, zmem (by decide +kernel) rfl, zmem (by decide +kernel) rfl, zmem (by decide +kernel) rfl⟩, ⟨by decide +kernel, by decide +kernel, by decide +kernel⟩, by decide⟩
theorem lk_L_150 : zLV RL 150 mi_X6_asked 0 := ⟨⟨zmem (by decide +kernel) rfl, zmem (by decide +kernel) rfl, zmem (by decide +kernel) rfl, zmem (by decide +kernel) rfl, zmem (by decide +kernel) rfl⟩, ⟨by decide +kernel, by decide +kernel, by decide +kernel⟩, by decide⟩
theorem lk_L_151 : zLV RL 151 mi_X5_upper 0 := ⟨⟨zmem (by decide +kernel) rfl, zmem (by decide +kernel) rfl, zmem (by decide +kernel) rfl, zmem (by decide +kernel) rfl, zmem (by decide +kernel) rfl⟩, ⟨by decide +kernel, by decide +kernel, by decide +kernel⟩, by decide⟩
theorem lk_L_155 : zLV RL 155 mi_X6_upper 0 := ⟨⟨zmem (by decide +kernel) rfl, zmem (by decide +kernel) rfl, zmem (by decide +kernel) rfl, zmem (by decide +kernel) rfl, zmem (by decide +kernel) rfl⟩, ⟨by decide +kernel, by decide +kernel, by decide +kernel⟩, by decide⟩
theorem lk_L_156 : zLV RL 156 mi_X5_lower 0 := ⟨⟨zmem (by decide +kernel) rfl, zmem (by decide +kernel) rfl, zmem (by decide +kernel) rfl, zmem (by decide +kernel) rfl, zmem (by decide +kernel) rfl⟩, ⟨by decide +kernel, by decide +kernel, by decide +kernel⟩, by decide⟩
theorem lk_L_159 : zLV RL 159 mi_X6_lower 0 := ⟨⟨zmem (by decide +kernel) rfl, zmem (by decide +kernel) rfl, zmem (by decide +kernel) rfl, zmem (by decide +kernel) rfl, zmem (by decide +kernel) rfl⟩, ⟨by decide +kernel, by decide +kernel, by decide +kernel⟩, by decide⟩
theorem lk_L_160 : zLV RL 160 mi_X5_count 1 := ⟨⟨zmem (by decide +kernel) rfl, zmem (by decide +kernel) rfl, zmem (by decide +kernel) rfl, zmem (by decide +kernel) rfl, zmem (by decide +kernel) rfl⟩, ⟨by decide +kernel, by decide +kernel, by decide +kernel⟩, by decide⟩
theorem lk_L_163 : zLV RL 163 mi_X6_count 1 := ⟨⟨zmem (by decide +kernel) rfl, zmem (by decide +kernel) rfl, zmem (by decide +kernel) rfl, zmem (by decide +kernel) rfl, zmem (by decide +kernel) rfl⟩, ⟨by decide +kernel, by decide +kernel, by decide +kernel⟩, by decide⟩
theorem lk_L_164 : zLV RL 164 mi_X5_finding 0 := ⟨⟨zmem (by decide +kernel) rfl, zmem (by decide +kernel) rfl, zmem (by decide +kernel) rfl, zmem (by decide +kernel) rfl, zmem (by decide +kernel) rfl⟩, ⟨by decide +kernel, by decide +kernel, by decide +kernel⟩, by decide⟩
theorem lk_L_167 : zLV RL 167 mi_X6_finding 0 := ⟨⟨zmem (by decide +kernel) rfl, zmem (by decide +kernel) rfl, zmem (by decide +kernel) rfl, zmem (by decide +kernel) rfl, zmem (by decide +kernel) rfl⟩, ⟨by decide +kernel, by decide +kernel, by decide +kernel⟩, by decide⟩
theorem lk_L_168 : zLV RL 168 mi_X5_findings 1 := ⟨⟨zmem (by decide +kernel) rfl, zmem (by decide +kernel) rfl, zmem (by decide +kernel) rfl, zmem (by decide +kernel) rfl, zmem (by decide +kernel) rfl⟩, ⟨by decide +kernel, by decide +kernel, by decide +kernel⟩, by decide⟩
theorem lk_L_171 : zLV RL 171 mi_X6_findings 1 := ⟨⟨zmem (by decide +kernel) rfl, zmem (by decide +kernel) rfl, zmem (by decide +kernel) rfl, zmem (by decide +kernel) rfl, zmem (by decide +kernel) rfl⟩, ⟨by decide +kernel, by decide +kernel, by decide +kernel⟩, by decide⟩
theorem lk_L_172 : zLV RL 172 mi_X5_digest 0 := ⟨⟨zmem (by decide +kernel) rfl, zmem (by decide +kernel) rfl, zmem (by decide +kernel) rfl, zmem (by decide +kernel) rfl, zmem (by decide +kernel) rfl⟩, ⟨by decide +kernel, by decide +kernel, by decide +kernel⟩, by decide⟩
theorem lk_L_175 : zLV RL 175 mi_X6_digest 0 := ⟨⟨zmem (by decide +kernel) rfl, zmem (by decide +kernel) rfl, zmem (by decide +kernel) rfl, zmem (by decide +kernel) rfl, zmem (by decide +kernel) rfl⟩, ⟨by decide +kernel, by decide +kernel, by decide +kernel⟩, by decide⟩
theorem lk_X0_47 : zLV RX0 47 mi_X0_behindTouch 4 := ⟨⟨zmem (by decide +kernel) rfl, zmem (by decide +kernel) rfl, zmem (by decide +kernel) rfl, zmem (by decide +kernel) rfl, zmem (by decide +kernel) rfl⟩, ⟨by decide +kernel, by decide +kernel, by decide +kernel⟩, by decide⟩
theorem lk_X1_28 : zLV RX1 28 mi_X1_isThere 0 := ⟨⟨zmem (by decide +kernel) rfl, zmem (by decide +kernel) rfl, zmem (by decide +kernel) rfl, zmem (by decide +kernel) rfl, zmem (by decide +kernel) rfl⟩, ⟨by decide +kernel, by decide +kernel, by decide +kernel⟩, by decide⟩
theorem lk_X1_32 : zLV RX1 32 mi_X1_room 0 := ⟨⟨zmem (by decide +kernel) rfl, zmem (by decide +kernel) rfl, zmem (by decide +kernel) rfl, zmem (by decide +kernel) rfl, zmem (by decide +kernel) rfl⟩, ⟨by decide +kernel, by decide +kernel, by decide +kernel⟩, by decide⟩
theorem lk_X1_36 : zLV RX1 36 mi_X1_number 0 := ⟨⟨zmem (by decide +kernel) rfl, zmem (by decide +kernel) rfl, zmem (by decide +kernel) rfl, zmem (by decide +kernel) rfl, zmem (by decide +kernel) rfl⟩, ⟨by decide +kernel, by decide +kernel, by decide +kernel⟩, by decide⟩
theorem lk_X2_22 : zLV RX2 22 mi_X3_size 0 := ⟨⟨zmem (by decide +kernel) rfl, zmem (by decide +kernel) rfl, zmem (by decide +kernel) rfl, zmem (by decide +kernel) rfl, zmem (by decide +kernel) rfl⟩, ⟨by decide +kernel, by decide +kernel, by decide +kernel⟩, by decide⟩
theorem lk_X2_28 : zLV RX2 28 mi_X3_valueAt 1 := ⟨⟨zmem (by decide +kernel) rfl, zmem (by decide +kernel) rfl, zmem (by decide +kernel) rfl, zmem (by decide +kernel) rfl, zmem (by decide +kernel) rfl⟩, ⟨by decide +kernel, by decide +kernel, by decide +kernel⟩, by decide⟩
theorem lk_X2_38 : zLV RX2 38 mi_X0_become 2 := ⟨⟨zmem (by decide +kernel) rfl, zmem (by decide +kernel) rfl, zmem (by decide +kernel) rfl, zmem (by decide +kernel) rfl, zmem (by decide +kernel) rfl⟩, ⟨by decide +kernel, by decide +kernel, by decide +kernel⟩, by decide⟩
theorem lk_X3_25 : zLV RX3 25 mi_X3_has 1 := ⟨⟨zmem (by decide +kernel) rfl, zmem (by decide +kernel) rfl, zmem (by decide +kernel) rfl, zmem (by decide +kernel) rfl, zmem (by decide +kernel) rfl⟩, ⟨by decide +kernel, by decide +kernel, by decide +kernel⟩, by decide⟩
theorem lk_X3_29 : zLV RX3 29 mi_X3_hasRun 2 := ⟨⟨zmem (by decide +kernel) rfl, zmem (by decide +kernel) rfl, zmem (by decide +kernel) rfl, zmem (by decide +kernel) rfl, zmem (by decide +kernel) rfl⟩, ⟨by decide +kernel, by decide +kernel, by decide +kernel⟩, by decide⟩
theorem lk_X3_39 : zLV RX3 39 mi_X3_valueAt 1 := ⟨⟨zmem (by decide +kernel) rfl, zmem (by decide +kernel) rfl, zmem (by decide +kernel) rfl, zmem (by decide +kernel) rfl, zmem (by decide +kernel) rfl⟩, ⟨by decide +kernel, by decide +kernel, by decide +kernel⟩, by decide⟩
theorem lk_X5_73 : zLV RX5 73 mi_X5_rowAt 1 := ⟨⟨zmem (by decide +kernel) rfl, zmem (by decide +kernel) rfl, zmem (by decide +kernel) rfl, zmem (by decide +kernel) rfl, zmem (by decide +kernel) rfl⟩, ⟨by decide +kernel, by decide +kernel, by decide +kernel⟩, by decide⟩
theorem lk_X5_77 : zLV RX5 77 mi_X5_makeAnew 4 := ⟨⟨zmem (by decide +kernel) rfl, zmem (by decide +kernel) rfl, zmem (by decide +kernel) rfl, zmem (by decide +kernel) rfl, zmem (by decide +kernel) rfl⟩, ⟨by decide +kernel, by decide +kernel, by decide +kernel⟩, by decide⟩
theorem lk_X5_81 : zLV RX5 81 mi_X5_refusalOfPlace 2 := ⟨⟨zmem (by decide +kernel) rfl, zmem (by decide +kernel) rfl, zmem (by decide +kernel) rfl, zmem (by decide +kernel) rfl, zmem (by decide +kernel) rfl⟩, ⟨by decide +kernel, by decide +kernel, by decide +kernel⟩, by decide⟩
theorem lk_X5_85 : zLV RX5 85 mi_X3_valueAt 1 := ⟨⟨zmem (by decide +kernel) rfl, zmem (by decide +kernel) rfl, zmem (by decide +kernel) rfl, zmem (by decide +kernel) rfl, zmem (by decide +kernel) rfl⟩, ⟨by decide +kernel, by decide +kernel, by decide +kernel⟩, by decide⟩
theorem lk_X5_89 : zLV RX5 89 mi_X3_change 2 := ⟨⟨zmem (by decide +kernel) rfl, zmem (by decide +kernel) rfl, zmem (by decide +kernel) rfl, zmem (by decide +kernel) rfl, zmem (by decide +kernel) rfl⟩, ⟨by decide +kernel, by decide +kernel, by decide +kernel⟩, by decide⟩
theorem lk_X5_93 : zLV RX5 93 mi_X5_tellAsked 1 := ⟨⟨zmem (by decide +kernel) rfl, zmem (by decide +kernel) rfl, zmem (by decide +kernel) rfl, zmem (by decide +kernel) rfl, zmem (by decide +kernel) rfl⟩, ⟨by decide +kernel, by decide +kernel, by decide +kernel⟩, by decide⟩
theorem lk_X5_96 : zLV RX5 96 mi_X5_refusalOfMissing 1 := ⟨⟨zmem (by decide +kernel) rfl, zmem (by decide +kernel) rfl, zmem (by decide +kernel) rfl, zmem (by decide +kernel) rfl, zmem (by decide +kernel) rfl⟩, ⟨by decide +kernel, by decide +kernel, by decide +kernel⟩, by decide⟩
theorem lk_X5_100 : zLV RX5 100 mi_X3_remove 0 := ⟨⟨zmem (by decide +kernel) rfl, zmem (by decide +kernel) rfl, zmem (by decide +kernel) rfl, zmem (by decide +kernel) rfl, zmem (by decide +kernel) rfl⟩, ⟨by decide +kernel, by decide +kernel, by decide +kernel⟩, by decide⟩
theorem lk_X5_103 : zLV RX5 103 mi_X5_found 1 := ⟨⟨zmem (by decide +kernel) rfl, zmem (by decide +kernel) rfl, zmem (by decide +kernel) rfl, zmem (by decide +kernel) rfl, zmem (by decide +kernel) rfl⟩, ⟨by decide +kernel, by decide +kernel, by decide +kernel⟩, by decide⟩
theorem lk_X5_106 : zLV RX5 106 mi_X3_isThere 0 := ⟨⟨zmem (by decide +kernel) rfl, zmem (by decide +kernel) rfl, zmem (by decide +kernel) rfl, zmem (by decide +kernel) rfl, zmem (by decide +kernel) rfl⟩, ⟨by decide +kernel, by decide +kernel, by decide +kernel⟩, by decide⟩
theorem lk_X5_110 : zLV RX5 110 mi_X3_hasRun 2 := ⟨⟨zmem (by decide +kernel) rfl, zmem (by decide +kernel) rfl, zmem (by decide +kernel) rfl, zmem (by decide +kernel) rfl, zmem (by decide +kernel) rfl⟩, ⟨by decide +kernel, by decide +kernel, by decide +kernel⟩, by decide⟩
theorem lk_X5_114 : zLV RX5 114 mi_X3_takeRun 4 := ⟨⟨zmem (by decide +kernel) rfl, zmem (by decide +kernel) rfl, zmem (by decide +kernel) rfl, zmem (by decide +kernel) rfl, zmem (by decide +kernel) rfl⟩, ⟨by decide +kernel, by decide +kernel, by decide +kernel⟩, by decide⟩
theorem lk_X5_118 : zLV RX5 118 mi_X3_size 0 := ⟨⟨zmem (by decide +kernel) rfl, zmem (by decide +kernel) rfl, zmem (by decide +kernel) rfl, zmem (by decide +kernel) rfl, zmem (by decide +kernel) rfl⟩, ⟨by decide +kernel, by decide +kernel, by decide +kernel⟩, by decide⟩
theorem lk_X5_122 : zLV RX5 122 mi_X3_total 0 := ⟨⟨zmem (by decide +kernel) rfl, zmem (by decide +kernel) rfl, zmem (by decide +kernel) rfl, zmem (by decide +kernel) rfl, zmem (by decide +kernel) rfl⟩, ⟨by decide +kernel, by decide +kernel, by decide +kernel⟩, by decide⟩
theorem lk_X5_126 : zLV RX5 126 mi_X5_textAt 1 := ⟨⟨zmem (by decide +kernel) rfl, zmem (by decide +kernel) rfl, zmem (by decide +kernel) rfl, zmem (by decide +kernel) rfl, zmem (by decide +kernel) rfl⟩, ⟨by decide +kernel, by decide +kernel, by decide +kernel⟩, by decide⟩
theorem lk_X5_129 : zLV RX5 129 mi_X2_faultOf 1 := ⟨⟨zmem (by decide +kernel) rfl, zmem (by decide +kernel) rfl, zmem (by decide +kernel) rfl, zmem (by decide +kernel) rfl, zmem (by decide +kernel) rfl⟩, ⟨by decide +kernel, by decide +kernel, by decide +kernel⟩, by decide⟩
theorem lk_X5_133 : zLV RX5 133 mi_X0_takeFrom 1 := ⟨⟨zmem (by decide +kernel) rfl, zmem (by decide +kernel) rfl, zmem (by decide +kernel) rfl, zmem (by decide +kernel) rfl, zmem (by decide +kernel) rfl⟩, ⟨by decide +kernel, by decide +kernel, by decide +kernel⟩, by decide⟩
theorem lk_X5_140 : zLV RX5 140 mi_X1_begin 1 := ⟨⟨zmem (by decide +kernel) rfl, zmem (by decide +kernel) rfl, zmem (by decide +kernel) rfl, zmem (by decide +kernel) rfl, zmem (by decide +kernel) rfl⟩, ⟨by decide +kernel, by decide +kernel, by decide +kernel⟩, by decide⟩
theorem lk_X5_143 : zLV RX5 143 mi_X1_forget 0 := ⟨⟨zmem (by decide +kernel) rfl, zmem (by decide +kernel) rfl, zmem (by decide +kernel) rfl, zmem (by decide +kernel) rfl, zmem (by decide +kernel) rfl⟩, ⟨by decide +kernel, by decide +kernel, by decide +kernel⟩, by decide⟩
theorem lk_X5_146 : zLV RX5 146 mi_X5_isLamp 1 := ⟨⟨zmem (by decide +kernel) rfl, zmem (by decide +kernel) rfl, zmem (by decide +kernel) rfl, zmem (by decide +kernel) rfl, zmem (by decide +kernel) rfl⟩, ⟨by decide +kernel, by decide +kernel, by decide +kernel⟩, by decide⟩
theorem lk_X5_150 : zLV RX5 150 mi_X5_toldOfLamp 2 := ⟨⟨zmem (by decide +kernel) rfl, zmem (by decide +kernel) rfl, zmem (by decide +kernel) rfl, zmem (by decide +kernel) rfl, zmem (by decide +kernel) rfl⟩, ⟨by decide +kernel, by decide +kernel, by decide +kernel⟩, by decide⟩
theorem lk_X5_154 : zLV RX5 154 mi_X0_kindOf 1 := ⟨⟨zmem (by decide +kernel) rfl, zmem (by decide +kernel) rfl, zmem (by decide +kernel) rfl, zmem (by decide +kernel) rfl, zmem (by decide +kernel) rfl⟩, ⟨by decide +kernel, by decide +kernel, by decide +kernel⟩, by decide⟩
theorem lk_X5_160 : zLV RX5 160 mi_X1_state 0 := ⟨⟨zmem (by decide +kernel) rfl, zmem (by decide +kernel) rfl, zmem (by decide +kernel) rfl, zmem (by decide +kernel) rfl, zmem (by decide +kernel) rfl⟩, ⟨by decide +kernel, by decide +kernel, by decide +kernel⟩, by decide⟩
theorem lk_X5_181 : zLV RX5 181 mi_X1_number 0 := ⟨⟨zmem (by decide +kernel) rfl, zmem (by decide +kernel) rfl, zmem (by decide +kernel) rfl, zmem (by decide +kernel) rfl, zmem (by decide +kernel) rfl⟩, ⟨by decide +kernel, by decide +kernel, by decide +kernel⟩, by decide⟩
theorem lk_X5_184 : zLV RX5 184 mi_X0_showing 1 := ⟨⟨zmem (by decide +kernel) rfl, zmem (by decide +kernel) rfl, zmem (by decide +kernel) rfl, zmem (by decide +kernel) rfl, zmem (by decide +kernel) rfl⟩, ⟨by decide +kernel, by decide +kernel, by decide +kernel⟩, by decide⟩
theorem lk_X5_187 : zLV RX5 187 mi_X1_isThere 0 := ⟨⟨zmem (by decide +kernel) rfl, zmem (by decide +kernel) rfl, zmem (by decide +kernel) rfl, zmem (by decide +kernel) rfl, zmem (by decide +kernel) rfl⟩, ⟨by decide +kernel, by decide +kernel, by decide +kernel⟩, by decide⟩
theorem lk_X5_188 : zLV RX5 188 mi_X1_room 0 := ⟨⟨zmem (by decide +kernel) rfl, zmem (by decide +kernel) rfl, zmem (by decide +kernel) rfl, zmem (by decide +kernel) rfl, zmem (by decide +kernel) rfl⟩, ⟨by decide +kernel, by decide +kernel, by decide +kernel⟩, by decide⟩
theorem lk_X5_191 : zLV RX5 191 mi_X5_doPress 1 := ⟨⟨zmem (by decide +kernel) rfl, zmem (by decide +kernel) rfl, zmem (by decide +kernel) rfl, zmem (by decide +kernel) rfl, zmem (by decide +kernel) rfl⟩, ⟨by decide +kernel, by decide +kernel, by decide +kernel⟩, by decide⟩
theorem lk_X5_194 : zLV RX5 194 mi_X5_hasStep 2 := ⟨⟨zmem (by decide +kernel) rfl, zmem (by decide +kernel) rfl, zmem (by decide +kernel) rfl, zmem (by decide +kernel) rfl, zmem (by decide +kernel) rfl⟩, ⟨by decide +kernel, by decide +kernel, by decide +kernel⟩, by decide⟩
theorem lk_X5_197 : zLV RX5 197 mi_X5_doSet 2 := ⟨⟨zmem (by decide +kernel) rfl, zmem (by decide +kernel) rfl, zmem (by decide +kernel) rfl, zmem (by decide +kernel) rfl, zmem (by decide +kernel) rfl⟩, ⟨by decide +kernel, by decide +kernel, by decide +kernel⟩, by decide⟩
theorem lk_X5_200 : zLV RX5 200 mi_X5_doCrack 1 := ⟨⟨zmem (by decide +kernel) rfl, zmem (by decide +kernel) rfl, zmem (by decide +kernel) rfl, zmem (by decide +kernel) rfl, zmem (by decide +kernel) rfl⟩, ⟨by decide +kernel, by decide +kernel, by decide +kernel⟩, by decide⟩
theorem lk_X5_206 : zLV RX5 206 mi_X1_deeds 0 := ⟨⟨zmem (by decide +kernel) rfl, zmem (by decide +kernel) rfl, zmem (by decide +kernel) rfl, zmem (by decide +kernel) rfl, zmem (by decide +kernel) rfl⟩, ⟨by decide +kernel, by decide +kernel, by decide +kernel⟩, by decide⟩
theorem lk_X5_209 : zLV RX5 209 mi_X1_goBack 1 := ⟨⟨zmem (by decide +kernel) rfl, zmem (by decide +kernel) rfl, zmem (by decide +kernel) rfl, zmem (by decide +kernel) rfl, zmem (by decide +kernel) rfl⟩, ⟨by decide +kernel, by decide +kernel, by decide +kernel⟩, by decide⟩
theorem lk_X5_212 : zLV RX5 212 mi_X5_keptAt 1 := ⟨⟨zmem (by decide +kernel) rfl, zmem (by decide +kernel) rfl, zmem (by decide +kernel) rfl, zmem (by decide +kernel) rfl, zmem (by decide +kernel) rfl⟩, ⟨by decide +kernel, by decide +kernel, by decide +kernel⟩, by decide⟩
theorem lk_X5_216 : zLV RX5 216 mi_X1_takeFrom 1 := ⟨⟨zmem (by decide +kernel) rfl, zmem (by decide +kernel) rfl, zmem (by decide +kernel) rfl, zmem (by decide +kernel) rfl, zmem (by decide +kernel) rfl⟩, ⟨by decide +kernel, by decide +kernel, by decide +kernel⟩, by decide⟩
theorem lk_X5_223 : zLV RX5 223 mi_X0_behindTouch 4 := ⟨⟨zmem (by decide +kernel) rfl, zmem (by decide +kernel) rfl, zmem (by decide +kernel) rfl, zmem (by decide +kernel) rfl, zmem (by decide +kernel) rfl⟩, ⟨by decide +kernel, by decide +kernel, by decide +kernel⟩, by decide⟩
theorem lk_X5_227 : zLV RX5 227 mi_X0_behindPress 3 := ⟨⟨zmem (by decide +kernel) rfl, zmem (by decide +kernel) rfl, zmem (by decide +kernel) rfl, zmem (by decide +kernel) rfl, zmem (by decide +kernel) rfl⟩, ⟨by decide +kernel, by decide +kernel, by decide +kernel⟩, by decide⟩
theorem lk_X5_230 : zLV RX5 230 mi_X5_showingBehind 1 := ⟨⟨zmem (by decide +kernel) rfl, zmem (by decide +kernel) rfl, zmem (by decide +kernel) rfl, zmem (by decide +kernel) rfl, zmem (by decide +kernel) rfl⟩, ⟨by decide +kernel, by decide +kernel, by decide +kernel⟩, by decide⟩
theorem lk_X5_233 : zLV RX5 233 mi_X5_refusalOfSet 1 := ⟨⟨zmem (by decide +kernel) rfl, zmem (by decide +kernel) rfl, zmem (by decide +kernel) rfl, zmem (by decide +kernel) rfl, zmem (by decide +kernel) rfl⟩, ⟨by decide +kernel, by decide +kernel, by decide +kernel⟩, by decide⟩
theorem lk_X5_240 : zLV RX5 240 mi_X3_make 2 := ⟨⟨zmem (by decide +kernel) rfl, zmem (by decide +kernel) rfl, zmem (by decide +kernel) rfl, zmem (by decide +kernel) rfl, zmem (by decide +kernel) rfl⟩, ⟨by decide +kernel, by decide +kernel, by decide +kernel⟩, by decide⟩
theorem lk_X5_243 : zLV RX5 243 mi_X5_fillBehindSets 0 := ⟨⟨zmem (by decide +kernel) rfl, zmem (by decide +kernel) rfl, zmem (by decide +kernel) rfl, zmem (by decide +kernel) rfl, zmem (by decide +kernel) rfl⟩, ⟨by decide +kernel, by decide +kernel, by decide +kernel⟩, by decide⟩
theorem lk_X5_246 : zLV RX5 246 mi_X5_tellParts 2 := ⟨⟨zmem (by decide +kernel) rfl, zmem (by decide +kernel) rfl, zmem (by decide +kernel) rfl, zmem (by decide +kernel) rfl, zmem (by decide +kernel) rfl⟩, ⟨by decide +kernel, by decide +kernel, by decide +kernel⟩, by decide⟩
theorem lk_X5_250 : zLV RX5 250 mi_X5_refusalOfPairs 2 := ⟨⟨zmem (by decide +kernel) rfl, zmem (by decide +kernel) rfl, zmem (by decide +kernel) rfl, zmem (by decide +kernel) rfl, zmem (by decide +kernel) rfl⟩, ⟨by decide +kernel, by decide +kernel, by decide +kernel⟩, by decide⟩
theorem lk_X5_254 : zLV RX5 254 mi_X5_kindsBy 2 := ⟨⟨zmem (by decide +kernel) rfl, zmem (by decide +kernel) rfl, zmem (by decide +kernel) rfl, zmem (by decide +kernel) rfl, zmem (by decide +kernel) rfl⟩, ⟨by decide +kernel, by decide +kernel, by decide +kernel⟩, by decide⟩
theorem lk_X5_257 : zLV RX5 257 mi_X5_greatestPart 3 := ⟨⟨zmem (by decide +kernel) rfl, zmem (by decide +kernel) rfl, zmem (by decide +kernel) rfl, zmem (by decide +kernel) rfl, zmem (by decide +kernel) rfl⟩, ⟨by decide +kernel, by decide +kernel, by decide +kernel⟩, by decide⟩
theorem lk_X5_281 : zLV RX5 281 mi_X5_doByLot 2 := ⟨⟨zmem (by decide +kernel) rfl, zmem (by decide +kernel) rfl, zmem (by decide +kernel) rfl, zmem (by decide +kernel) rfl, zmem (by decide +kernel) rfl⟩, ⟨by decide +kernel, by decide +kernel, by decide +kernel⟩, by decide⟩
theorem lk_X5_284 : zLV RX5 284 mi_X5_counted 1 := ⟨⟨zmem (by decide +kernel) rfl, zmem (by decide +kernel) rfl, zmem (by decide +kernel) rfl, zmem (by decide +kernel) rfl, zmem (by decide +kernel) rfl⟩, ⟨by decide +kernel, by decide +kernel, by decide +kernel⟩, by decide⟩
theorem lk_X5_291 : zLV RX5 291 mi_X3_mixedInto 1 := ⟨⟨zmem (by decide +kernel) rfl, zmem (by decide +kernel) rfl, zmem (by decide +kernel) rfl, zmem (by decide +kernel) rfl, zmem (by decide +kernel) rfl⟩, ⟨by decide +kernel, by decide +kernel, by decide +kernel⟩, by decide⟩
theorem lk_X5_295 : zLV RX5 295 mi_X3_has 1 := ⟨⟨zmem (by decide +kernel) rfl, zmem (by decide +kernel) rfl, zmem (by decide +kernel) rfl, zmem (by decide +kernel) rfl, zmem (by decide +kernel) rfl⟩, ⟨by decide +kernel, by decide +kernel, by decide +kernel⟩, by decide⟩
theorem lk_X5_312 : zLV RX5 312 mi_X5_countKept 0 := ⟨⟨zmem (by decide +kernel) rfl, zmem (by decide +kernel) rfl, zmem (by decide +kernel) rfl, zmem (by decide +kernel) rfl, zmem (by decide +kernel) rfl⟩, ⟨by decide +kernel, by decide +kernel, by decide +kernel⟩, by decide⟩
theorem lk_X5_315 : zLV RX5 315 mi_X5_countedOfWall 1 := ⟨⟨zmem (by decide +kernel) rfl, zmem (by decide +kernel) rfl, zmem (by decide +kernel) rfl, zmem (by decide +kernel) rfl, zmem (by decide +kernel) rfl⟩, ⟨by decide +kernel, by decide +kernel, by decide +kernel⟩, by decide⟩
theorem lk_X5_324 : zLV RX5 324 mi_X1_go 2 := ⟨⟨zmem (by decide +kernel) rfl, zmem (by decide +kernel) rfl, zmem (by decide +kernel) rfl, zmem (by decide +kernel) rfl, zmem (by decide +kernel) rfl⟩, ⟨by decide +kernel, by decide +kernel, by decide +kernel⟩, by decide⟩
theorem lk_X5_330 : zLV RX5 330 mi_X5_fits 3 := ⟨⟨zmem (by decide +kernel) rfl, zmem (by decide +kernel) rfl, zmem (by decide +kernel) rfl, zmem (by decide +kernel) rfl, zmem (by decide +kernel) rfl⟩, ⟨by decide +kernel, by decide +kernel, by decide +kernel⟩, by decide⟩
theorem lk_X5_334 : zLV RX5 334 mi_X5_shownAs 3 := ⟨⟨zmem (by decide +kernel) rfl, zmem (by decide +kernel) rfl, zmem (by decide +kernel) rfl, zmem (by decide +kernel) rfl, zmem (by decide +kernel) rfl⟩, ⟨by decide +kernel, by decide +kernel, by decide +kernel⟩, by decide⟩
theorem lk_X5_337 : zLV RX5 337 mi_X0_become 2 := ⟨⟨zmem (by decide +kernel) rfl, zmem (by decide +kernel) rfl, zmem (by decide +kernel) rfl, zmem (by decide +kernel) rfl, zmem (by decide +kernel) rfl⟩, ⟨by decide +kernel, by decide +kernel, by decide +kernel⟩, by decide⟩
theorem lk_X6_72 : zLV RX6 72 mi_X6_find 1 := ⟨⟨zmem (by decide +kernel) rfl, zmem (by decide +kernel) rfl, zmem (by decide +kernel) rfl, zmem (by decide +kernel) rfl, zmem (by decide +kernel) rfl⟩, ⟨by decide +kernel, by decide +kernel, by decide +kernel⟩, by decide⟩
theorem lk_X6_76 : zLV RX6 76 mi_X6_told 1 := ⟨⟨zmem (by decide +kernel) rfl, zmem (by decide +kernel) rfl, zmem (by decide +kernel) rfl, zmem (by decide +kernel) rfl, zmem (by decide +kernel) rfl⟩, ⟨by decide +kernel, by decide +kernel, by decide +kernel⟩, by decide⟩
theorem lk_X6_91 : zLV RX6 91 mi_X6_read 1 := ⟨⟨zmem (by decide +kernel) rfl, zmem (by decide +kernel) rfl, zmem (by decide +kernel) rfl, zmem (by decide +kernel) rfl, zmem (by decide +kernel) rfl⟩, ⟨by decide +kernel, by decide +kernel, by decide +kernel⟩, by decide⟩
theorem lk_X6_110 : zLV RX6 110 mi_X6_shownBy 2 := ⟨⟨zmem (by decide +kernel) rfl, zmem (by decide +kernel) rfl, zmem (by decide +kernel) rfl, zmem (by decide +kernel) rfl, zmem (by decide +kernel) rfl⟩, ⟨by decide +kernel, by decide +kernel, by decide +kernel⟩, by decide⟩
theorem lk_X6_118 : zLV RX6 118 mi_X6_now 1 := ⟨⟨zmem (by decide +kernel) rfl, zmem (by decide +kernel) rfl, zmem (by decide +kernel) rfl, zmem (by decide +kernel) rfl, zmem (by decide +kernel) rfl⟩, ⟨by decide +kernel, by decide +kernel, by decide +kernel⟩, by decide⟩
theorem lk_X6_121 : zLV RX6 121 mi_X6_shown 0 := ⟨⟨zmem (by decide +kernel) rfl, zmem (by decide +kernel) rfl, zmem (by decide +kernel) rfl, zmem (by decide +kernel) rfl, zmem (by decide +kernel) rfl⟩, ⟨by decide +kernel, by decide +kernel, by decide +kernel⟩, by decide⟩
theorem lk_X6_128 : zLV RX6 128 mi_X6_isLamp 1 := ⟨⟨zmem (by decide +kernel) rfl, zmem (by decide +kernel) rfl, zmem (by decide +kernel) rfl, zmem (by decide +kernel) rfl, zmem (by decide +kernel) rfl⟩, ⟨by decide +kernel, by decide +kernel, by decide +kernel⟩, by decide⟩
theorem lk_X6_131 : zLV RX6 131 mi_X6_factOf 2 := ⟨⟨zmem (by decide +kernel) rfl, zmem (by decide +kernel) rfl, zmem (by decide +kernel) rfl, zmem (by decide +kernel) rfl, zmem (by decide +kernel) rfl⟩, ⟨by decide +kernel, by decide +kernel, by decide +kernel⟩, by decide⟩
theorem lk_X6_141 : zLV RX6 141 mi_X6_begin 0 := ⟨⟨zmem (by decide +kernel) rfl, zmem (by decide +kernel) rfl, zmem (by decide +kernel) rfl, zmem (by decide +kernel) rfl, zmem (by decide +kernel) rfl⟩, ⟨by decide +kernel, by decide +kernel, by decide +kernel⟩, by decide⟩
theorem lk_X6_144 : zLV RX6 144 mi_X6_pressOn 4 := ⟨⟨zmem (by decide +kernel) rfl, zmem (by decide +kernel) rfl, zmem (by decide +kernel) rfl, zmem (by decide +kernel) rfl, zmem (by decide +kernel) rfl⟩, ⟨by decide +kernel, by decide +kernel, by decide +kernel⟩, by decide⟩
theorem lk_X6_151 : zLV RX6 151 mi_X6_take 0 := ⟨⟨zmem (by decide +kernel) rfl, zmem (by decide +kernel) rfl, zmem (by decide +kernel) rfl, zmem (by decide +kernel) rfl, zmem (by decide +kernel) rfl⟩, ⟨by decide +kernel, by decide +kernel, by decide +kernel⟩, by decide⟩
theorem lk_X6_154 : zLV RX6 154 mi_X6_shownBehind 1 := ⟨⟨zmem (by decide +kernel) rfl, zmem (by decide +kernel) rfl, zmem (by decide +kernel) rfl, zmem (by decide +kernel) rfl, zmem (by decide +kernel) rfl⟩, ⟨by decide +kernel, by decide +kernel, by decide +kernel⟩, by decide⟩
theorem lk_X6_160 : zLV RX6 160 mi_X6_shownByCode 2 := ⟨⟨zmem (by decide +kernel) rfl, zmem (by decide +kernel) rfl, zmem (by decide +kernel) rfl, zmem (by decide +kernel) rfl, zmem (by decide +kernel) rfl⟩, ⟨by decide +kernel, by decide +kernel, by decide +kernel⟩, by decide⟩
theorem lk_X6_163 : zLV RX6 163 mi_X6_row 2 := ⟨⟨zmem (by decide +kernel) rfl, zmem (by decide +kernel) rfl, zmem (by decide +kernel) rfl, zmem (by decide +kernel) rfl, zmem (by decide +kernel) rfl⟩, ⟨by decide +kernel, by decide +kernel, by decide +kernel⟩, by decide⟩
theorem lk_X6_166 : zLV RX6 166 mi_X6_isBy 2 := ⟨⟨zmem (by decide +kernel) rfl, zmem (by decide +kernel) rfl, zmem (by decide +kernel) rfl, zmem (by decide +kernel) rfl, zmem (by decide +kernel) rfl⟩, ⟨by decide +kernel, by decide +kernel, by decide +kernel⟩, by decide⟩
theorem lk_X6_169 : zLV RX6 169 mi_X6_wouldShow 3 := ⟨⟨zmem (by decide +kernel) rfl, zmem (by decide +kernel) rfl, zmem (by decide +kernel) rfl, zmem (by decide +kernel) rfl, zmem (by decide +kernel) rfl⟩, ⟨by decide +kernel, by decide +kernel, by decide +kernel⟩, by decide⟩
theorem lk_X6_172 : zLV RX6 172 mi_X6_pairs 1 := ⟨⟨zmem (by decide +kernel) rfl, zmem (by decide +kernel) rfl, zmem (by decide +kernel) rfl, zmem (by decide +kernel) rfl, zmem (by decide +kernel) rfl⟩, ⟨by decide +kernel, by decide +kernel, by decide +kernel⟩, by decide⟩
theorem lk_X6_175 : zLV RX6 175 mi_X6_kindsBy 2 := ⟨⟨zmem (by decide +kernel) rfl, zmem (by decide +kernel) rfl, zmem (by decide +kernel) rfl, zmem (by decide +kernel) rfl, zmem (by decide +kernel) rfl⟩, ⟨by decide +kernel, by decide +kernel, by decide +kernel⟩, by decide⟩
theorem lk_X6_178 : zLV RX6 178 mi_X6_worthOf 3 := ⟨⟨zmem (by decide +kernel) rfl, zmem (by decide +kernel) rfl, zmem (by decide +kernel) rfl, zmem (by decide +kernel) rfl, zmem (by decide +kernel) rfl⟩, ⟨by decide +kernel, by decide +kernel, by decide +kernel⟩, by decide⟩
theorem lk_X6_184 : zLV RX6 184 mi_X6_waysOf 3 := ⟨⟨zmem (by decide +kernel) rfl, zmem (by decide +kernel) rfl, zmem (by decide +kernel) rfl, zmem (by decide +kernel) rfl, zmem (by decide +kernel) rfl⟩, ⟨by decide +kernel, by decide +kernel, by decide +kernel⟩, by decide⟩
theorem lk_X6_188 : zLV RX6 188 mi_X6_shownBut 2 := ⟨⟨zmem (by decide +kernel) rfl, zmem (by decide +kernel) rfl, zmem (by decide +kernel) rfl, zmem (by decide +kernel) rfl, zmem (by decide +kernel) rfl⟩, ⟨by decide +kernel, by decide +kernel, by decide +kernel⟩, by decide⟩
theorem lk_X6_191 : zLV RX6 191 mi_X6_allWays 1 := ⟨⟨zmem (by decide +kernel) rfl, zmem (by decide +kernel) rfl, zmem (by decide +kernel) rfl, zmem (by decide +kernel) rfl, zmem (by decide +kernel) rfl⟩, ⟨by decide +kernel, by decide +kernel, by decide +kernel⟩, by decide⟩
theorem lk_X6_195 : zLV RX6 195 mi_X6_fraction 2 := ⟨⟨zmem (by decide +kernel) rfl, zmem (by decide +kernel) rfl, zmem (by decide +kernel) rfl, zmem (by decide +kernel) rfl, zmem (by decide +kernel) rfl⟩, ⟨by decide +kernel, by decide +kernel, by decide +kernel⟩, by decide⟩
theorem lk_X6_210 : zLV RX6 210 mi_X6_lot 2 := ⟨⟨zmem (by decide +kernel) rfl, zmem (by decide +kernel) rfl, zmem (by decide +kernel) rfl, zmem (by decide +kernel) rfl, zmem (by decide +kernel) rfl⟩, ⟨by decide +kernel, by decide +kernel, by decide +kernel⟩, by decide⟩
theorem lk_X6_214 : zLV RX6 214 mi_X6_sumOf 1 := ⟨⟨zmem (by decide +kernel) rfl, zmem (by decide +kernel) rfl, zmem (by decide +kernel) rfl, zmem (by decide +kernel) rfl, zmem (by decide +kernel) rfl⟩, ⟨by decide +kernel, by decide +kernel, by decide +kernel⟩, by decide⟩
theorem lk_X6_217 : zLV RX6 217 mi_X6_thereAre 1 := ⟨⟨zmem (by decide +kernel) rfl, zmem (by decide +kernel) rfl, zmem (by decide +kernel) rfl, zmem (by decide +kernel) rfl, zmem (by decide +kernel) rfl⟩, ⟨by decide +kernel, by decide +kernel, by decide +kernel⟩, by decide⟩
theorem lk_X6_224 : zLV RX6 224 mi_X6_count 1 := ⟨⟨zmem (by decide +kernel) rfl, zmem (by decide +kernel) rfl, zmem (by decide +kernel) rfl, zmem (by decide +kernel) rfl, zmem (by decide +kernel) rfl⟩, ⟨by decide +kernel, by decide +kernel, by decide +kernel⟩, by decide⟩
theorem gv_0_0 (σ : zSt) (j : Nat) : (zf σ 0 j)[0]? = some (zr 8 0) := rfl
theorem gv_0_1 (σ : zSt) (j : Nat) : (zf σ 0 j)[1]? = some (zr 8 1) := rfl
theorem gv_0_2 (σ : zSt) (j : Nat) : (zf σ 0 j)[2]? = some (zr 9 0) := rfl
theorem gv_0_3 (σ : zSt) (j : Nat) : (zf σ 0 j)[3]? = some (zr 2 3) := rfl
theorem gv_0_4 (σ : zSt) (j : Nat) : (zf σ 0 j)[4]? = some (zr 1 0) := rfl
theorem gv_0_5 (σ : zSt) (j : Nat) : (zf σ 0 j)[5]? = some (zr 1 1) := rfl
theorem gv_0_6 (σ : zSt) (j : Nat) : (zf σ 0 j)[6]? = some (zr 3 0) := rfl
theorem gv_0_7 (σ : zSt) (j : Nat) : (zf σ 0 j)[7]? = some (zr 6 18) := rfl
theorem gv_0_8 (σ : zSt) (j : Nat) : (zf σ 0 j)[8]? = some (zr 6 19) := rfl
theorem gv_0_9 (σ : zSt) (j : Nat) : (zf σ 0 j)[9]? = some (zr 6 20) := rfl
theorem gv_0_10 (σ : zSt) (j : Nat) : (zf σ 0 j)[10]? = some (zi (fI σ 0 j 10)) := rfl
theorem gv_0_11 (σ : zSt) (j : Nat) : (zf σ 0 j)[11]? = some (zi (fI σ 0 j 11)) := rfl
theorem gv_0_12 (σ : zSt) (j : Nat) : (zf σ 0 j)[12]? = some (zl (fL σ 0 j 12)) := rfl
theorem gv_0_13 (σ : zSt) (j : Nat) : (zf σ 0 j)[13]? = some (zl (fL σ 0 j 13)) := rfl
theorem gv_1_0 (σ : zSt) (j : Nat) : (zf σ 1 j)[0]? = some (zi (fI σ 1 j 0)) := rfl
theorem gv_1_1 (σ : zSt) (j : Nat) : (zf σ 1 j)[1]? = some (zi (fI σ 1 j 1)) := rfl
theorem gv_1_2 (σ : zSt) (j : Nat) : (zf σ 1 j)[2]? = some (zi (fI σ 1 j 2)) := rfl
theorem gv_1_3 (σ : zSt) (j : Nat) : (zf σ 1 j)[3]? = some (zi (fI σ 1 j 3)) := rfl
theorem gv_1_4 (σ : zSt) (j : Nat) : (zf σ 1 j)[4]? = some (zi (fI σ 1 j 4)) := rfl
theorem gv_2_0 (σ : zSt) (j : Nat) : (zf σ 2 j)[0]? = some (zr 6 (10 + j)) := rfl
theorem gv_2_1 (σ : zSt) (j : Nat) : (zf σ 2 j)[1]? = some (zr 6 (14 + j)) := rfl
theorem gv_2_2 (σ : zSt) (j : Nat) : (zf σ 2 j)[2]? = some (zi (fI σ 2 j 2)) := rfl
theorem gv_3_0 (σ : zSt) (j : Nat) : (zf σ 3 j)[0]? = some (zr 1 2) := rfl
theorem gv_3_1 (σ : zSt) (j : Nat) : (zf σ 3 j)[1]? = some (zi (fI σ 3 j 1)) := rfl
theorem gv_4_0 (σ : zSt) (j : Nat) : (zf σ 4 j)[0]? = some (zr 6 j) := rfl
theorem gv_4_1 (σ : zSt) (j : Nat) : (zf σ 4 j)[1]? = some (zi (fI σ 4 j 1)) := rfl
theorem gv_5_0 (σ : zSt) (j : Nat) : (zf σ 5 j)[0]? = some (zi (fI σ 5 j 0)) := rfl
theorem gv_5_1 (σ : zSt) (j : Nat) : (zf σ 5 j)[1]? = some (zr 6 21) := rfl
theorem gv_5_2 (σ : zSt) (j : Nat) : (zf σ 5 j)[2]? = some (zi (fI σ 5 j 2)) := rfl
theorem gv_5_3 (σ : zSt) (j : Nat) : (zf σ 5 j)[3]? = some (zl (fL σ 5 j 3)) := rfl
theorem gv_5_4 (σ : zSt) (j : Nat) : (zf σ 5 j)[4]? = some (zl (fL σ 5 j 4)) := rfl
theorem gv_5_5 (σ : zSt) (j : Nat) : (zf σ 5 j)[5]? = some (zr 6 22) := rfl
theorem gv_5_6 (σ : zSt) (j : Nat) : (zf σ 5 j)[6]? = some (zr 6 23) := rfl
theorem gv_5_7 (σ : zSt) (j : Nat) : (zf σ 5 j)[7]? = some (zr 6 24) := rfl
theorem gv_5_8 (σ : zSt) (j : Nat) : (zf σ 5 j)[8]? = some (zr 7 0) := rfl
theorem gv_5_9 (σ : zSt) (j : Nat) : (zf σ 5 j)[9]? = some (zr 6 25) := rfl
theorem gv_5_10 (σ : zSt) (j : Nat) : (zf σ 5 j)[10]? = some (zi (fI σ 5 j 10)) := rfl
theorem gv_5_11 (σ : zSt) (j : Nat) : (zf σ 5 j)[11]? = some (zr 6 26) := rfl
theorem gv_5_12 (σ : zSt) (j : Nat) : (zf σ 5 j)[12]? = some (zr 6 27) := rfl
theorem gv_5_13 (σ : zSt) (j : Nat) : (zf σ 5 j)[13]? = some (zr 6 28) := rfl
theorem gv_5_14 (σ : zSt) (j : Nat) : (zf σ 5 j)[14]? = some (zi (fI σ 5 j 14)) := rfl
theorem gv_5_15 (σ : zSt) (j : Nat) : (zf σ 5 j)[15]? = some (zr 6 29) := rfl
theorem gv_5_16 (σ : zSt) (j : Nat) : (zf σ 5 j)[16]? = some (zr 6 30) := rfl
theorem gv_5_17 (σ : zSt) (j : Nat) : (zf σ 5 j)[17]? = some (zr 6 31) := rfl
theorem gv_5_18 (σ : zSt) (j : Nat) : (zf σ 5 j)[18]? = some (zr 6 32) := rfl
theorem bp_m2 : (Int8.ofInt (-2)).toInt32 = (-2) := by decide
theorem bp_m3 : (Int8.ofInt (-3)).toInt32 = (-3) := by decide
theorem bp_m4 : (Int8.ofInt (-4)).toInt32 = (-4) := by decide
theorem bp_m9 : (Int8.ofInt (-9)).toInt32 = (-9) := by decide
theorem bp_10 : (Int8.ofInt 10).toInt32 = 10 := by decide
theorem bp_102 : (Int8.ofInt 102).toInt32 = 102 := by decide
theorem bp_104 : (Int8.ofInt 104).toInt32 = 104 := by decide
theorem bp_107 : (Int8.ofInt 107).toInt32 = 107 := by decide
theorem bp_108 : (Int8.ofInt 108).toInt32 = 108 := by decide
theorem bp_11 : (Int8.ofInt 11).toInt32 = 11 := by decide
theorem bp_116 : (Int8.ofInt 116).toInt32 = 116 := by decide
theorem bp_119 : (Int8.ofInt 119).toInt32 = 119 := by decide
theorem bp_12 : (Int8.ofInt 12).toInt32 = 12 := by decide
theorem bp_16 : (Int8.ofInt 16).toInt32 = 16 := by decide
theorem bp_18 : (Int8.ofInt 18).toInt32 = 18 := by decide
theorem bp_20 : (Int8.ofInt 20).toInt32 = 20 := by decide
theorem bp_32 : (Int8.ofInt 32).toInt32 = 32 := by decide
theorem bp_40 : (Int8.ofInt 40).toInt32 = 40 := by decide
theorem bp_41 : (Int8.ofInt 41).toInt32 = 41 := by decide
theorem bp_48 : (Int8.ofInt 48).toInt32 = 48 := by decide
theorem bp_6 : (Int8.ofInt 6).toInt32 = 6 := by decide
theorem bp_60 : (Int8.ofInt 60).toInt32 = 60 := by decide
theorem bp_63 : (Int8.ofInt 63).toInt32 = 63 := by decide
theorem bp_7 : (Int8.ofInt 7).toInt32 = 7 := by decide
theorem bp_8 : (Int8.ofInt 8).toInt32 = 8 := by decide
theorem bp_9 : (Int8.ofInt 9).toInt32 = 9 := by decide
theorem ic_m1 : Int32.ofInt (-1) = (-1) := by decide
theorem ic_0 : Int32.ofInt 0 = 0 := by decide
theorem ic_1 : Int32.ofInt 1 = 1 := by decide
theorem ic_2 : Int32.ofInt 2 = 2 := by decide
theorem ic_3 : Int32.ofInt 3 = 3 := by decide
theorem ic_4 : Int32.ofInt 4 = 4 := by decide
theorem ic_5 : Int32.ofInt 5 = 5 := by decide
theorem ic_6 : Int32.ofInt 6 = 6 := by decide
theorem sp_1000 : (Int16.ofInt 1000).toInt32 = 1000 := by decide
theorem sp_10000 : (Int16.ofInt 10000).toInt32 = 10000 := by decide
theorem sp_1353 : (Int16.ofInt 1353).toInt32 = 1353 := by decide
theorem sp_200 : (Int16.ofInt 200).toInt32 = 200 := by decide
theorem sp_240 : (Int16.ofInt 240).toInt32 = 240 := by decide
theorem sp_451 : (Int16.ofInt 451).toInt32 = 451 := by decide
theorem sp_511 : (Int16.ofInt 511).toInt32 = 511 := by decide
theorem sp_512 : (Int16.ofInt 512).toInt32 = 512 := by decide
theorem sp_999 : (Int16.ofInt 999).toInt32 = 999 := by decide
theorem lc_0 : Int64.ofNat ((0 : Fin 2) : Nat) = 0 := by decide
theorem lc_1 : Int64.ofNat ((1 : Fin 2) : Nat) = 1 := by decide
def b2i (c : Prop) [Decidable c] : Int32 := if c then 1 else 0
theorem b2i_t {c : Prop} [Decidable c] (h : c) : b2i c = 1 := if_pos h
theorem b2i_f {c : Prop} [Decidable c] (h : ¬ c) : b2i c = 0 := if_neg h
theorem b2i_0 {c : Prop} [Decidable c] : b2i c = 0 ↔ ¬ c := by
  unfold b2i
  by_cases h : c <;> simp [h]
theorem b2i_1 {c : Prop} [Decidable c] : b2i c = 1 ↔ c := by
  unfold b2i
  by_cases h : c <;> simp [h]
theorem b2i_or (c : Prop) [Decidable c] : b2i c = 0 ∨ b2i c = 1 := by
  unfold b2i
  by_cases h : c <;> simp [h]
theorem b2i_c {c e : Prop} [Decidable c] [Decidable e] (h : c ↔ e) : b2i c = b2i e := by
  unfold b2i
  by_cases hc : c
  · rw [if_pos hc, if_pos (h.mp hc)]
  · rw [if_neg hc, if_neg (fun x => hc (h.mpr x))]
section
variable {M : zM} {d : Nat} {Q : zQ} {pc q : Nat} {ls : List (Option zV)} {st : List zV} {σ : zSt}
theorem y_if_eqB {c : Prop} [Decidable c] {off : Int} (tgt : Nat) (hd : decode M.2.1 pc = .ok (.ifCond .eq off, 3)) (ht : (pc : Int) + off = (tgt : Int)) (hq : pc + 3 = q) (kt : ¬ c → zY M d Q tgt ls st σ) (kf : c → zY M d Q q ls st σ) : zY M d Q pc ls (zi (b2i c) :: st) σ := y_if_eq tgt hd ht hq (fun h => kt (b2i_0.mp h)) (fun h => kf (Decidable.not_not.mp fun x => h (b2i_0.mpr x)))
theorem y_if_neB {c : Prop} [Decidable c] {off : Int} (tgt : Nat) (hd : decode M.2.1 pc = .ok (.ifCond .ne off, 3)) (ht : (pc : Int) + off = (tgt : Int)) (hq : pc + 3 = q) (kt : c → zY M d Q tgt ls st σ) (kf : ¬ c → zY M d Q q ls st σ) : zY M d Q pc ls (zi (b2i c) :: st) σ := y_if_ne tgt hd ht hq (fun h => kt (Decidable.not_not.mp fun x => h (b2i_0.mpr x))) (fun h => kf (b2i_0.mp h))
theorem y_zretB {c : Prop} [Decidable c] (hd : decode M.2.1 pc = .ok (.ireturn, 1)) (hr : M.2.2.2 = some .boolean) (hq : Q (some (zi (b2i c))) σ) : zY M d Q pc ls [zi (b2i c)] σ := y_zret (b2i_or c) hd hr hq
theorem y_cV {d' idx n k j : Nat} {M' : zM} {as rest : List zV} {v : zV} {σ' : zSt} (hM : Mf d' M' (zr k j :: as) σ (some v) σ') (hl : zLV M.1.cls idx M' n) (hk : zok k j) (hk6 : k < 6) (hcl : (zcl k).1 = M'.1.cls) (hdd : Nat.ble (d' + 1) d = true) (hn : as.length = n) (hst : st = as.reverse ++ zr k j :: rest) (hroom : Nat.ble (rest.map zcat).sum 8 = true) (hd : decode M.2.1 pc = .ok (.invokevirtual idx, 3)) (hq : pc + 3 = q) (kk : zY M d Q q ls (v :: rest) σ') : zY M d Q pc ls st σ :=
  y_callV hM hl hk hk6 hcl hdd hn hst hroom hd hq (fun r σ'' h => by obtain ⟨rfl, rfl⟩ := h; exact kk)
theorem y_cV0 {d' idx n k j : Nat} {M' : zM} {as rest : List zV} {σ' : zSt} (hM : Mf d' M' (zr k j :: as) σ none σ') (hl : zLV M.1.cls idx M' n) (hk : zok k j) (hk6 : k < 6) (hcl : (zcl k).1 = M'.1.cls) (hdd : Nat.ble (d' + 1) d = true) (hn : as.length = n) (hst : st = as.reverse ++ zr k j :: rest) (hroom : Nat.ble (rest.map zcat).sum 8 = true) (hd : decode M.2.1 pc = .ok (.invokevirtual idx, 3)) (hq : pc + 3 = q) (kk : zY M d Q q ls rest σ') : zY M d Q pc ls st σ :=
  y_callV hM hl hk hk6 hcl hdd hn hst hroom hd hq (fun r σ'' h => by obtain ⟨rfl, rfl⟩ := h; exact kk)
theorem y_cS {d' idx n : Nat} {M' : zM} {as rest : List zV} {v : zV} {σ' : zSt} (hM : Mf d' M' as σ (some v) σ') (hl : zLS M.1.cls idx M' n) (hdd : Nat.ble (d' + 1) d = true) (hn : as.length = n) (hst : st = as.reverse ++ rest) (hroom : Nat.ble (rest.map zcat).sum 8 = true) (hd : decode M.2.1 pc = .ok (.invokestatic idx, 3)) (hq : pc + 3 = q) (kk : zY M d Q q ls (v :: rest) σ') : zY M d Q pc ls st σ :=
  y_callS hM hl hdd hn hst hroom hd hq (fun r σ'' h => by obtain ⟨rfl, rfl⟩ := h; exact kk)
theorem y_cN {d' idx n : Nat} {M' : zM} {host : String} {as rest : List zV} {v : zV} {σ' : zSt} (hM : Mf d' M' as σ (some v) σ') (hl : zLN M.1.cls idx M' host n) (hdd : Nat.ble (d' + 1) d = true) (hn : as.length = n) (hst : st = as.reverse ++ rest) (hroom : Nat.ble (rest.map zcat).sum 8 = true) (hd : decode M.2.1 pc = .ok (.invokestatic idx, 3)) (hq : pc + 3 = q) (kk : zY M d Q q ls (v :: rest) σ') : zY M d Q pc ls st σ :=
  y_callN hM hl hdd hn hst hroom hd hq (fun r σ'' h => by obtain ⟨rfl, rfl⟩ := h; exact kk)
end
theorem zok0 : zok 0 0 := by decide
theorem zok1 {j : Nat} (h : j < 3) : zok 1 j := ⟨by decide, h⟩
theorem zok2 {j : Nat} (h : j < 4) : zok 2 j := ⟨by decide, h⟩
theorem zok3 : zok 3 0 := by decide
theorem zok4 {j : Nat} (h : j < 10) : zok 4 j := ⟨by decide, h⟩
theorem zok5 : zok 5 0 := by decide
