/-! the methods: code, own class, locals, arguments, rank, name, answer -/
abbrev mm_Y : Type := ByteArray × Nat × Nat × Nat × Nat × MethodName × Option FieldType
abbrev yc (y : mm_Y) : ByteArray := y.1
abbrev yo (y : mm_Y) : Nat := y.2.1
abbrev yl (y : mm_Y) : Nat := y.2.2.1
abbrev yn (y : mm_Y) : Nat := y.2.2.2.1
abbrev yr (y : mm_Y) : Nat := y.2.2.2.2.1
abbrev yy (y : mm_Y) : MethodName := y.2.2.2.2.2.1
abbrev yt (y : mm_Y) : Option FieldType := y.2.2.2.2.2.2
def zX0_clear : mm_Y := (cX0_clear, 0, 1, 1, 0, yX0_clear, none)
def zX0_copyOf : mm_Y := (cX0_copyOf, 0, 2, 2, 1, yX0_copyOf, none)
def zX0_write : mm_Y := (cX0_write, 0, 4, 4, 0, yX0_write, none)
def zX0_read : mm_Y := (cX0_read, 0, 4, 3, 1, yX0_read, (some .int))
def zX1_begin : mm_Y := (cX1_begin, 1, 3, 3, 4, yX1_begin, none)
def zX1_copyOf : mm_Y := (cX1_copyOf, 1, 2, 2, 2, yX1_copyOf, none)
def zX1_refuse : mm_Y := (cX1_refuse, 1, 2, 2, 0, yX1_refuse, (some .int))
def zX1_flipWall : mm_Y := (cX1_flipWall, 1, 2, 2, 2, yX1_flipWall, none)
def zX1_shrinkCell : mm_Y := (cX1_shrinkCell, 1, 3, 2, 3, yX1_shrinkCell, (some .int))
def zX1_splitCell : mm_Y := (cX1_splitCell, 1, 5, 4, 4, yX1_splitCell, (some .int))
def zX1_joinAcross : mm_Y := (cX1_joinAcross, 1, 3, 2, 3, yX1_joinAcross, (some .int))
def zX1_goOn : mm_Y := (cX1_goOn, 1, 2, 1, 5, yX1_goOn, none)
def zX1_giveWay : mm_Y := (cX1_giveWay, 1, 3, 2, 4, yX1_giveWay, none)
def zX1_calm : mm_Y := (cX1_calm, 1, 3, 1, 3, yX1_calm, (some .int))
def zX1_jolt : mm_Y := (cX1_jolt, 1, 8, 4, 3, yX1_jolt, (some .int))
def zX2_copyOf : mm_Y := (cX2_copyOf, 2, 2, 2, 1, yX2_copyOf, none)
def zX2_layRing : mm_Y := (cX2_layRing, 2, 5, 3, 3, yX2_layRing, none)
def zX2_layCell : mm_Y := (cX2_layCell, 2, 9, 5, 2, yX2_layCell, none)
def zX2_halfOnRing : mm_Y := (cX2_halfOnRing, 2, 7, 5, 1, yX2_halfOnRing, (some .int))
def zX2_over : mm_Y := (cX2_over, 2, 2, 2, 0, yX2_over, (some .int))
def zX2_link : mm_Y := (cX2_link, 2, 3, 3, 0, yX2_link, none)
def zX2_unlink : mm_Y := (cX2_unlink, 2, 2, 2, 0, yX2_unlink, none)
def zX2_setRound : mm_Y := (cX2_setRound, 2, 4, 4, 0, yX2_setRound, none)
def zX2_hasCell : mm_Y := (cX2_hasCell, 2, 2, 2, 0, yX2_hasCell, (some .boolean))
def zX2_hasWall : mm_Y := (cX2_hasWall, 2, 2, 2, 0, yX2_hasWall, (some .boolean))
def zX2_across : mm_Y := (cX2_across, 2, 2, 2, 0, yX2_across, (some .int))
def zX2_endOf : mm_Y := (cX2_endOf, 2, 2, 2, 0, yX2_endOf, (some .int))
def zX2_firstHalf : mm_Y := (cX2_firstHalf, 2, 3, 2, 0, yX2_firstHalf, (some .int))
def zX2_halfAt : mm_Y := (cX2_halfAt, 2, 5, 3, 1, yX2_halfAt, (some .int))
def zX2_canFlip : mm_Y := (cX2_canFlip, 2, 4, 2, 1, yX2_canFlip, (some .boolean))
def zX2_areFour : mm_Y := (cX2_areFour, 2, 4, 4, 0, yX2_areFour, (some .boolean))
def zX2_easing : mm_Y := (cX2_easing, 2, 4, 2, 1, yX2_easing, (some .int))
def zX2_flip : mm_Y := (cX2_flip, 2, 10, 2, 1, yX2_flip, none)
def zX2_insert : mm_Y := (cX2_insert, 2, 4, 4, 0, yX2_insert, none)
def zX2_easiestWall : mm_Y := (cX2_easiestWall, 2, 5, 1, 2, yX2_easiestWall, (some .int))
def zX2_flippable : mm_Y := (cX2_flippable, 2, 3, 1, 2, yX2_flippable, (some .int))
def zX2_shortestSide : mm_Y := (cX2_shortestSide, 2, 5, 2, 2, yX2_shortestSide, (some .int))
def zX2_canShrink : mm_Y := (cX2_canShrink, 2, 6, 2, 1, yX2_canShrink, (some .boolean))
def zX2_shrink : mm_Y := (cX2_shrink, 2, 6, 2, 2, yX2_shrink, (some .int))
def zX2_greater : mm_Y := (cX2_greater, 2, 3, 3, 1, yX2_greater, (some .int))
def zX2_dropWall : mm_Y := (cX2_dropWall, 2, 2, 2, 0, yX2_dropWall, none)
def zX2_dropCell : mm_Y := (cX2_dropCell, 2, 2, 2, 0, yX2_dropCell, none)
def zX2_split : mm_Y := (cX2_split, 2, 11, 4, 3, yX2_split, (some .int))
def zX2_handOver : mm_Y := (cX2_handOver, 2, 8, 5, 0, yX2_handOver, (some .int))
def zX2_halve : mm_Y := (cX2_halve, 2, 5, 3, 2, yX2_halve, (some .int))
def zX2_addWall : mm_Y := (cX2_addWall, 2, 5, 4, 1, yX2_addWall, (some .int))
def zX2_freeCell : mm_Y := (cX2_freeCell, 2, 2, 1, 0, yX2_freeCell, (some .int))
def zX2_canJoin : mm_Y := (cX2_canJoin, 2, 6, 2, 2, yX2_canJoin, (some .boolean))
def zX2_join : mm_Y := (cX2_join, 2, 13, 2, 2, yX2_join, (some .int))
def zX2_makeOne : mm_Y := (cX2_makeOne, 2, 6, 3, 1, yX2_makeOne, none)
def zX2_wallsBetween : mm_Y := (cX2_wallsBetween, 2, 5, 3, 1, yX2_wallsBetween, (some .int))
def zX2_leastBetween : mm_Y := (cX2_leastBetween, 2, 4, 3, 1, yX2_leastBetween, (some .int))
def zX2_liesBetween : mm_Y := (cX2_liesBetween, 2, 6, 4, 0, yX2_liesBetween, (some .boolean))
def zX2_border : mm_Y := (cX2_border, 2, 4, 2, 0, yX2_border, (some .int))
def zX2_sidesAbout : mm_Y := (cX2_sidesAbout, 2, 4, 2, 1, yX2_sidesAbout, (some .int))
def zX2_unlikeAbout : mm_Y := (cX2_unlikeAbout, 2, 4, 2, 2, yX2_unlikeAbout, (some .int))
def zX2_howMany : mm_Y := (cX2_howMany, 2, 4, 2, 1, yX2_howMany, (some .int))
def zX2_areaOfAll : mm_Y := (cX2_areaOfAll, 2, 4, 2, 1, yX2_areaOfAll, (some .int))
def zX2_sidesAboutAll : mm_Y := (cX2_sidesAboutAll, 2, 4, 2, 1, yX2_sidesAboutAll, (some .int))
def zX2_rankOf : mm_Y := (cX2_rankOf, 2, 4, 2, 1, yX2_rankOf, (some .int))
def zX2_howManyCells : mm_Y := (cX2_howManyCells, 2, 3, 1, 1, yX2_howManyCells, (some .int))
def zX2_howManyWalls : mm_Y := (cX2_howManyWalls, 2, 3, 1, 1, yX2_howManyWalls, (some .int))
def zX2_strain : mm_Y := (cX2_strain, 2, 3, 1, 1, yX2_strain, (some .int))
def zX2_turns : mm_Y := (cX2_turns, 2, 3, 1, 1, yX2_turns, (some .int))
def zX2_sumOfAreas : mm_Y := (cX2_sumOfAreas, 2, 3, 1, 1, yX2_sumOfAreas, (some .int))
def zX2_greatestArea : mm_Y := (cX2_greatestArea, 2, 3, 1, 1, yX2_greatestArea, (some .int))
def zX2_leastArea : mm_Y := (cX2_leastArea, 2, 3, 1, 1, yX2_leastArea, (some .int))
def zX2_sumOfLengths : mm_Y := (cX2_sumOfLengths, 2, 3, 1, 1, yX2_sumOfLengths, (some .int))
def zX2_mostSides : mm_Y := (cX2_mostSides, 2, 3, 1, 1, yX2_mostSides, (some .int))
def zX2_fewestSides : mm_Y := (cX2_fewestSides, 2, 3, 1, 1, yX2_fewestSides, (some .int))
def zX2_hasSidesOf : mm_Y := (cX2_hasSidesOf, 2, 3, 2, 0, yX2_hasSidesOf, (some .boolean))
def zX2_growAreas : mm_Y := (cX2_growAreas, 2, 3, 2, 1, yX2_growAreas, none)
def zX2_stretchWalls : mm_Y := (cX2_stretchWalls, 2, 5, 1, 1, yX2_stretchWalls, none)
def zX3_leastStrain : mm_Y := (cX3_leastStrain, 3, 8, 3, 4, yX3_leastStrain, (some .int))
def zX3_mostEased : mm_Y := (cX3_mostEased, 3, 2, 1, 3, yX3_mostEased, (some .int))
def zX3_oneSwapTo : mm_Y := (cX3_oneSwapTo, 3, 4, 4, 3, yX3_oneSwapTo, (some .int))
def zX3_twoSwapsTo : mm_Y := (cX3_twoSwapsTo, 3, 6, 4, 3, yX3_twoSwapsTo, (some .int))
def zX3_swapTo : mm_Y := (cX3_swapTo, 3, 4, 3, 2, yX3_swapTo, (some .int))
def zX3_gain : mm_Y := (cX3_gain, 3, 3, 3, 1, yX3_gain, (some .int))
def zX3_stepsToAlike : mm_Y := (cX3_stepsToAlike, 3, 3, 2, 6, yX3_stepsToAlike, (some .int))
def zX3_stepsToFew : mm_Y := (cX3_stepsToFew, 3, 4, 3, 6, yX3_stepsToFew, (some .int))
def zX3_bestSeed : mm_Y := (cX3_bestSeed, 3, 9, 6, 4, yX3_bestSeed, (some .int))
def zX3_swapsToRest : mm_Y := (cX3_swapsToRest, 3, 2, 2, 4, yX3_swapsToRest, (some .int))
def zX3_goOnFrom : mm_Y := (cX3_goOnFrom, 3, 4, 3, 6, yX3_goOnFrom, none)
def zX3_stepsToGone : mm_Y := (cX3_stepsToGone, 3, 4, 3, 6, yX3_stepsToGone, (some .int))
def zX3_stepsToFirst : mm_Y := (cX3_stepsToFirst, 3, 5, 3, 6, yX3_stepsToFirst, (some .int))
def zX4_spot : mm_Y := (cX4_spot, 4, 3, 3, 0, yX4_spot, (some .int))
def zX4_clearDistances : mm_Y := (cX4_clearDistances, 4, 3, 2, 1, yX4_clearDistances, none)
def zX4_spread : mm_Y := (cX4_spread, 4, 3, 3, 2, yX4_spread, none)
def zX4_spreadWithin : mm_Y := (cX4_spreadWithin, 4, 9, 4, 1, yX4_spreadWithin, (some .int))
def zX4_howManyAt : mm_Y := (cX4_howManyAt, 4, 4, 2, 0, yX4_howManyAt, (some .int))
def zX4_whichAt : mm_Y := (cX4_whichAt, 4, 5, 3, 0, yX4_whichAt, (some .int))
def zX4_comeNearer : mm_Y := (cX4_comeNearer, 4, 6, 4, 2, yX4_comeNearer, (some .int))
def zX4_leastNearer : mm_Y := (cX4_leastNearer, 4, 7, 3, 1, yX4_leastNearer, (some .int))
def zX4_gatherPieces : mm_Y := (cX4_gatherPieces, 4, 5, 3, 2, yX4_gatherPieces, none)
def zX4_spreadRound : mm_Y := (cX4_spreadRound, 4, 5, 4, 2, yX4_spreadRound, none)
def zX4_goRound : mm_Y := (cX4_goRound, 4, 12, 4, 1, yX4_goRound, none)
def zX4_isNear : mm_Y := (cX4_isNear, 4, 1, 1, 0, yX4_isNear, (some .boolean))
def zX4_put : mm_Y := (cX4_put, 4, 3, 3, 0, yX4_put, none)
def zX5_ring : mm_Y := (cX5_ring, 5, 3, 3, 5, yX5_ring, (some .int))
def zX5_rate : mm_Y := (cX5_rate, 5, 3, 2, 1, yX5_rate, (some .int))
def zX5_area : mm_Y := (cX5_area, 5, 4, 3, 1, yX5_area, (some .int))
def zX5_length : mm_Y := (cX5_length, 5, 4, 3, 1, yX5_length, (some .int))
def zX5_swap : mm_Y := (cX5_swap, 5, 3, 2, 3, yX5_swap, (some .int))
def zX5_vanish : mm_Y := (cX5_vanish, 5, 2, 2, 4, yX5_vanish, (some .int))
def zX5_cut : mm_Y := (cX5_cut, 5, 7, 4, 5, yX5_cut, (some .int))
def zX5_burst : mm_Y := (cX5_burst, 5, 2, 2, 4, yX5_burst, (some .int))
def zX5_shake : mm_Y := (cX5_shake, 5, 4, 4, 4, yX5_shake, (some .int))
def zX5_steps : mm_Y := (cX5_steps, 5, 4, 2, 6, yX5_steps, (some .int))
def zX5_relax : mm_Y := (cX5_relax, 5, 1, 1, 4, yX5_relax, (some .int))
def zX5_wall : mm_Y := (cX5_wall, 5, 8, 3, 2, yX5_wall, (some .int))
def zX5_between : mm_Y := (cX5_between, 5, 4, 4, 2, yX5_between, (some .int))
def zX5_far : mm_Y := (cX5_far, 5, 3, 3, 3, yX5_far, (some .int))
def zX5_shell : mm_Y := (cX5_shell, 5, 3, 3, 3, yX5_shell, (some .int))
def zX5_shellOf : mm_Y := (cX5_shellOf, 5, 4, 4, 3, yX5_shellOf, (some .int))
def zX5_way : mm_Y := (cX5_way, 5, 4, 4, 3, yX5_way, (some .int))
def zX5_mutual : mm_Y := (cX5_mutual, 5, 5, 3, 2, yX5_mutual, (some .int))
def zX5_about : mm_Y := (cX5_about, 5, 6, 3, 2, yX5_about, (some .int))
def zX5_kind : mm_Y := (cX5_kind, 5, 3, 3, 2, yX5_kind, (some .int))
def zX5_pairs : mm_Y := (cX5_pairs, 5, 8, 3, 1, yX5_pairs, (some .int))
def zX5_ranked : mm_Y := (cX5_ranked, 5, 3, 2, 2, yX5_ranked, (some .int))
def zX5_around : mm_Y := (cX5_around, 5, 4, 4, 3, yX5_around, (some .int))
def zX5_rounds : mm_Y := (cX5_rounds, 5, 5, 3, 1, yX5_rounds, (some .int))
def zX5_spans : mm_Y := (cX5_spans, 5, 6, 4, 3, yX5_spans, (some .int))
def zX5_pieces : mm_Y := (cX5_pieces, 5, 3, 3, 3, yX5_pieces, (some .int))
def zX5_all : mm_Y := (cX5_all, 5, 3, 2, 3, yX5_all, (some .int))
def zX5_easiest : mm_Y := (cX5_easiest, 5, 1, 1, 3, yX5_easiest, (some .int))
def zX5_lowest : mm_Y := (cX5_lowest, 5, 2, 2, 5, yX5_lowest, (some .int))
def zX5_reach : mm_Y := (cX5_reach, 5, 5, 4, 4, yX5_reach, (some .int))
def zX5_alike : mm_Y := (cX5_alike, 5, 1, 1, 7, yX5_alike, (some .int))
def zX5_until : mm_Y := (cX5_until, 5, 2, 2, 7, yX5_until, (some .int))
def zX5_rested : mm_Y := (cX5_rested, 5, 7, 6, 5, yX5_rested, (some .int))
def zX5_resting : mm_Y := (cX5_resting, 5, 3, 2, 5, yX5_resting, (some .int))
def zX5_later : mm_Y := (cX5_later, 5, 3, 3, 7, yX5_later, (some .int))
def zX5_gone : mm_Y := (cX5_gone, 5, 2, 2, 7, yX5_gone, (some .int))
def zX5_first : mm_Y := (cX5_first, 5, 2, 2, 7, yX5_first, (some .int))
def zX5_log : mm_Y := (cX5_log, 5, 3, 3, 2, yX5_log, (some .int))
def zX5_count : mm_Y := (cX5_count, 5, 2, 2, 2, yX5_count, (some .int))
def zX5_areTwo : mm_Y := (cX5_areTwo, 5, 3, 3, 1, yX5_areTwo, (some .boolean))
def zX5_isShake : mm_Y := (cX5_isShake, 5, 3, 3, 0, yX5_isShake, (some .boolean))
def zX5_commonDivisor : mm_Y := (cX5_commonDivisor, 5, 6, 2, 0, yX5_commonDivisor, (some .int))
def zX6_thrown : mm_Y := (cX6_thrown, 6, 1, 1, 0, yX6_thrown, (some .int))
def zX6_copy : mm_Y := (cX6_copy, 6, 5, 4, 0, yX6_copy, none)
def zX6_refuse : mm_Y := (cX6_refuse, 6, 2, 2, 0, yX6_refuse, (some .int))
def zX6_keep : mm_Y := (cX6_keep, 6, 2, 2, 1, yX6_keep, (some .boolean))
def zX6_again : mm_Y := (cX6_again, 6, 2, 2, 1, yX6_again, (some .boolean))
def zX6_think : mm_Y := (cX6_think, 6, 1, 1, 1, yX6_think, none)
def zX6_endThought : mm_Y := (cX6_endThought, 6, 1, 1, 1, yX6_endThought, none)
def zX6_sign : mm_Y := (cX6_sign, 6, 3, 3, 0, yX6_sign, (some .int))
def zX6_halfOf : mm_Y := (cX6_halfOf, 6, 9, 7, 0, yX6_halfOf, (some .int))
def zX6_lay : mm_Y := (cX6_lay, 6, 10, 3, 1, yX6_lay, none)
def zX6_ring : mm_Y := (cX6_ring, 6, 3, 3, 2, yX6_ring, (some .int))
def zX6_next : mm_Y := (cX6_next, 6, 2, 2, 0, yX6_next, (some .int))
def zX6_before : mm_Y := (cX6_before, 6, 2, 2, 0, yX6_before, (some .int))
def zX6_cellOf : mm_Y := (cX6_cellOf, 6, 2, 2, 0, yX6_cellOf, (some .int))
def zX6_over : mm_Y := (cX6_over, 6, 2, 2, 0, yX6_over, (some .int))
def zX6_isCell : mm_Y := (cX6_isCell, 6, 2, 2, 1, yX6_isCell, (some .boolean))
def zX6_isWall : mm_Y := (cX6_isWall, 6, 2, 2, 1, yX6_isWall, (some .boolean))
def zX6_sidesOf : mm_Y := (cX6_sidesOf, 6, 2, 2, 0, yX6_sidesOf, (some .int))
def zX6_firstSide : mm_Y := (cX6_firstSide, 6, 3, 2, 2, yX6_firstSide, (some .int))
def zX6_sideAt : mm_Y := (cX6_sideAt, 6, 5, 3, 3, yX6_sideAt, (some .int))
def zX6_many : mm_Y := (cX6_many, 6, 4, 2, 2, yX6_many, (some .int))
def zX6_join : mm_Y := (cX6_join, 6, 3, 3, 0, yX6_join, none)
def zX6_leave : mm_Y := (cX6_leave, 6, 2, 2, 1, yX6_leave, none)
def zX6_enter : mm_Y := (cX6_enter, 6, 4, 3, 1, yX6_enter, none)
def zX6_counts : mm_Y := (cX6_counts, 6, 4, 4, 0, yX6_counts, none)
def zX6_notes : mm_Y := (cX6_notes, 6, 4, 3, 0, yX6_notes, none)
def zX6_areFour : mm_Y := (cX6_areFour, 6, 4, 4, 0, yX6_areFour, (some .boolean))
def zX6_hasFour : mm_Y := (cX6_hasFour, 6, 3, 2, 1, yX6_hasFour, (some .boolean))
def zX6_canSwap : mm_Y := (cX6_canSwap, 6, 3, 2, 2, yX6_canSwap, (some .boolean))
def zX6_square : mm_Y := (cX6_square, 6, 1, 1, 0, yX6_square, (some .int))
def zX6_turn : mm_Y := (cX6_turn, 6, 2, 2, 1, yX6_turn, (some .int))
def zX6_easing : mm_Y := (cX6_easing, 6, 7, 2, 2, yX6_easing, (some .int))
def zX6_turnWall : mm_Y := (cX6_turnWall, 6, 9, 2, 2, yX6_turnWall, none)
def zX6_swaps : mm_Y := (cX6_swaps, 6, 2, 2, 3, yX6_swaps, none)
def zX6_rate : mm_Y := (cX6_rate, 6, 3, 2, 1, yX6_rate, (some .int))
def zX6_area : mm_Y := (cX6_area, 6, 4, 3, 2, yX6_area, (some .int))
def zX6_length : mm_Y := (cX6_length, 6, 4, 3, 2, yX6_length, (some .int))
def zX6_swap : mm_Y := (cX6_swap, 6, 3, 2, 4, yX6_swap, (some .int))
def zX6_canVanish : mm_Y := (cX6_canVanish, 6, 6, 2, 3, yX6_canVanish, (some .boolean))
def zX6_isRicher : mm_Y := (cX6_isRicher, 6, 3, 3, 0, yX6_isRicher, (some .boolean))
def zX6_vanishes : mm_Y := (cX6_vanishes, 6, 5, 2, 3, yX6_vanishes, (some .int))
def zX6_vanish : mm_Y := (cX6_vanish, 6, 2, 2, 4, yX6_vanish, (some .int))
def zX6_freeWall : mm_Y := (cX6_freeWall, 6, 2, 1, 2, yX6_freeWall, (some .int))
def zX6_freeCell : mm_Y := (cX6_freeCell, 6, 2, 1, 2, yX6_freeCell, (some .int))
def zX6_newWall : mm_Y := (cX6_newWall, 6, 3, 2, 3, yX6_newWall, (some .int))
def zX6_halves : mm_Y := (cX6_halves, 6, 3, 2, 0, yX6_halves, (some .int))
def zX6_cut : mm_Y := (cX6_cut, 6, 5, 4, 5, yX6_cut, (some .int))
def zX6_cutBy : mm_Y := (cX6_cutBy, 6, 11, 5, 4, yX6_cutBy, none)
def zX6_countRound : mm_Y := (cX6_countRound, 6, 5, 3, 1, yX6_countRound, (some .int))
def zX6_wallsBetween : mm_Y := (cX6_wallsBetween, 6, 5, 3, 2, yX6_wallsBetween, (some .int))
def zX6_canBurst : mm_Y := (cX6_canBurst, 6, 5, 2, 3, yX6_canBurst, (some .boolean))
def zX6_melt : mm_Y := (cX6_melt, 6, 6, 3, 2, yX6_melt, none)
def zX6_burst : mm_Y := (cX6_burst, 6, 10, 2, 4, yX6_burst, (some .int))
def zX6_draw : mm_Y := (cX6_draw, 6, 2, 2, 0, yX6_draw, (some .int))
def zX6_shakes : mm_Y := (cX6_shakes, 6, 7, 4, 4, yX6_shakes, (some .int))
def zX6_shake : mm_Y := (cX6_shake, 6, 4, 4, 5, yX6_shake, (some .int))
def zX6_grows : mm_Y := (cX6_grows, 6, 3, 2, 1, yX6_grows, (some .int))
def zX6_shortest : mm_Y := (cX6_shortest, 6, 5, 2, 3, yX6_shortest, (some .int))
def zX6_step : mm_Y := (cX6_step, 6, 3, 1, 5, yX6_step, none)
def zX6_shrinks : mm_Y := (cX6_shrinks, 6, 3, 2, 4, yX6_shrinks, none)
def zX6_steps : mm_Y := (cX6_steps, 6, 4, 2, 6, yX6_steps, (some .int))
def zX6_easier : mm_Y := (cX6_easier, 6, 5, 1, 3, yX6_easier, (some .int))
def zX6_relaxes : mm_Y := (cX6_relaxes, 6, 3, 1, 4, yX6_relaxes, (some .int))
def zX6_relax : mm_Y := (cX6_relax, 6, 1, 1, 5, yX6_relax, (some .int))
def zX6_isThere : mm_Y := (cX6_isThere, 6, 2, 2, 2, yX6_isThere, (some .boolean))
def zX6_aboutOf : mm_Y := (cX6_aboutOf, 6, 5, 2, 3, yX6_aboutOf, (some .int))
def zX6_lengthsOf : mm_Y := (cX6_lengthsOf, 6, 5, 2, 3, yX6_lengthsOf, (some .int))
def zX6_areBeside : mm_Y := (cX6_areBeside, 6, 3, 3, 3, yX6_areBeside, (some .boolean))
def zX6_neighbours : mm_Y := (cX6_neighbours, 6, 4, 2, 4, yX6_neighbours, (some .int))
def zX6_cell : mm_Y := (cX6_cell, 6, 3, 3, 5, yX6_cell, (some .int))
def zX6_side : mm_Y := (cX6_side, 6, 5, 4, 4, yX6_side, (some .int))
def zX6_lesser : mm_Y := (cX6_lesser, 6, 2, 2, 0, yX6_lesser, (some .int))
def zX6_greater : mm_Y := (cX6_greater, 6, 2, 2, 0, yX6_greater, (some .int))
def zX6_wall : mm_Y := (cX6_wall, 6, 6, 3, 3, yX6_wall, (some .int))
def zX6_between : mm_Y := (cX6_between, 6, 5, 4, 3, yX6_between, (some .int))
def zX6_layFar : mm_Y := (cX6_layFar, 6, 5, 2, 2, yX6_layFar, none)
def zX6_far : mm_Y := (cX6_far, 6, 3, 3, 3, yX6_far, (some .int))
def zX6_shell : mm_Y := (cX6_shell, 6, 5, 3, 3, yX6_shell, (some .int))
def zX6_shellOf : mm_Y := (cX6_shellOf, 6, 6, 4, 3, yX6_shellOf, (some .int))
def zX6_way : mm_Y := (cX6_way, 6, 8, 4, 4, yX6_way, (some .int))
def zX6_mutual : mm_Y := (cX6_mutual, 6, 5, 3, 4, yX6_mutual, (some .int))
def zX6_ofKind : mm_Y := (cX6_ofKind, 6, 5, 3, 4, yX6_ofKind, (some .int))
def zX6_common : mm_Y := (cX6_common, 6, 5, 2, 0, yX6_common, (some .int))
def zX6_about : mm_Y := (cX6_about, 6, 6, 3, 5, yX6_about, (some .int))
def zX6_kind : mm_Y := (cX6_kind, 6, 3, 3, 5, yX6_kind, (some .int))
def zX6_pairs : mm_Y := (cX6_pairs, 6, 7, 3, 2, yX6_pairs, (some .int))
def zX6_ranked : mm_Y := (cX6_ranked, 6, 5, 2, 2, yX6_ranked, (some .int))
def zX6_stateOf : mm_Y := (cX6_stateOf, 6, 3, 3, 0, yX6_stateOf, (some .int))
def zX6_layWays : mm_Y := (cX6_layWays, 6, 6, 3, 4, yX6_layWays, none)
def zX6_spread : mm_Y := (cX6_spread, 6, 10, 4, 3, yX6_spread, (some .boolean))
def zX6_around : mm_Y := (cX6_around, 6, 4, 4, 5, yX6_around, (some .int))
def zX6_rounds : mm_Y := (cX6_rounds, 6, 4, 3, 2, yX6_rounds, (some .int))
def zX6_spans : mm_Y := (cX6_spans, 6, 6, 4, 5, yX6_spans, (some .int))
def zX6_layPieces : mm_Y := (cX6_layPieces, 6, 4, 2, 2, yX6_layPieces, none)
def zX6_pieces : mm_Y := (cX6_pieces, 6, 9, 3, 3, yX6_pieces, (some .int))
def zX6_strain : mm_Y := (cX6_strain, 6, 3, 1, 2, yX6_strain, (some .int))
def zX6_ofCells : mm_Y := (cX6_ofCells, 6, 5, 2, 2, yX6_ofCells, (some .int))
def zX6_ofWalls : mm_Y := (cX6_ofWalls, 6, 4, 2, 3, yX6_ofWalls, (some .int))
def zX6_all : mm_Y := (cX6_all, 6, 2, 2, 4, yX6_all, (some .int))
def zX6_easiest : mm_Y := (cX6_easiest, 6, 1, 1, 4, yX6_easiest, (some .int))
def zX6_eased : mm_Y := (cX6_eased, 6, 2, 1, 4, yX6_eased, (some .int))
def zX6_lowest : mm_Y := (cX6_lowest, 6, 6, 2, 5, yX6_lowest, (some .int))
def zX6_bringsTo : mm_Y := (cX6_bringsTo, 6, 4, 3, 3, yX6_bringsTo, (some .int))
def zX6_changes : mm_Y := (cX6_changes, 6, 4, 3, 1, yX6_changes, (some .int))
def zX6_reach : mm_Y := (cX6_reach, 6, 7, 4, 4, yX6_reach, (some .int))
def zX6_areAlike : mm_Y := (cX6_areAlike, 6, 3, 1, 0, yX6_areAlike, (some .boolean))
def zX6_alike : mm_Y := (cX6_alike, 6, 3, 1, 6, yX6_alike, (some .int))
def zX6_until : mm_Y := (cX6_until, 6, 4, 2, 6, yX6_until, (some .int))
def zX6_rested : mm_Y := (cX6_rested, 6, 9, 6, 5, yX6_rested, (some .int))
def zX6_resting : mm_Y := (cX6_resting, 6, 4, 2, 5, yX6_resting, (some .int))
def zX6_later : mm_Y := (cX6_later, 6, 4, 3, 6, yX6_later, (some .int))
def zX6_gone : mm_Y := (cX6_gone, 6, 4, 2, 6, yX6_gone, (some .int))
def zX6_first : mm_Y := (cX6_first, 6, 5, 2, 6, yX6_first, (some .int))
def zX6_log : mm_Y := (cX6_log, 6, 3, 3, 1, yX6_log, (some .int))
def zX6_count : mm_Y := (cX6_count, 6, 2, 2, 3, yX6_count, (some .int))
def zJ9_floorDiv_7cf53 : mm_Y := (cJ9_floorDiv_7cf53, 7, 3, 2, 0, yJ9_floorDiv_7cf53, (some .int))
def zJ9_floorMod_7cf53 : mm_Y := (cJ9_floorMod_7cf53, 7, 3, 2, 0, yJ9_floorMod_7cf53, (some .int))
def zJ9_max_7cf53 : mm_Y := (cJ9_max_7cf53, 7, 2, 2, 0, yJ9_max_7cf53, (some .int))
def zJ9_min_7cf53 : mm_Y := (cJ9_min_7cf53, 7, 2, 2, 0, yJ9_min_7cf53, (some .int))
def mm_cn (o : Nat) : String := [RX0, RX1, RX2, RX3, RX4, RX5, RX6, RJ9].getD o ""
def mm_M0 : List (Nat × Bool × mm_Y) := [(34, false, zJ9_floorMod_7cf53)]
def mm_F0 : List (Nat × Nat × Nat) := [(9, 0, 0), (15, 0, 1), (18, 0, 2), (21, 0, 3), (25, 0, 4)]
def mm_C0 : List (Nat × Int32) := []
def mm_L0 : List (Nat × Int64) := []
def mm_S0 : List (Nat × Nat) := []
def mm_P0 : List (Nat × Nat) := [(28, 0)]
def mm_M1 : List (Nat × Bool × mm_Y) := [(54, true, zX0_clear), (57, true, zX2_layRing), (61, true, zX2_copyOf), (65, true, zX0_copyOf), (74, true, zX2_flip), (78, true, zX0_write), (82, true, zX2_shrink), (86, true, zX2_split), (90, true, zX2_join), (93, true, zX2_growAreas), (96, true, zX2_stretchWalls), (99, true, zX2_hasWall), (106, true, zX2_canFlip), (109, true, zX1_flipWall), (112, true, zX2_hasCell), (118, true, zX1_giveWay), (124, true, zX2_shortestSide), (127, true, zX2_canShrink), (130, true, zX1_shrinkCell), (134, true, zX2_easiestWall), (139, true, zX2_easing)]
def mm_F1 : List (Nat × Nat × Nat) := [(103, 2, 5), (121, 2, 6), (115, 2, 7), (12, 1, 0), (21, 1, 1), (25, 1, 2), (33, 1, 3), (36, 1, 4), (29, 1, 5), (39, 1, 6), (42, 1, 7), (45, 1, 8), (48, 1, 9), (51, 1, 10)]
def mm_C1 : List (Nat × Int32) := [(138, (1000003)), (133, (1000000))]
def mm_L1 : List (Nat × Int64) := []
def mm_S1 : List (Nat × Nat) := []
def mm_P1 : List (Nat × Nat) := [(68, 0)]
def mm_M2 : List (Nat × Bool × mm_Y) := [(42, true, zX2_layCell), (46, false, zX2_halfOnRing), (50, true, zX2_link), (57, false, zX2_over), (64, true, zX2_setRound), (68, false, zJ9_floorMod_7cf53), (73, true, zX2_firstHalf), (77, true, zX2_endOf), (80, false, zX2_areFour), (84, true, zX2_unlink), (88, true, zX2_insert), (91, true, zX2_hasWall), (95, true, zX2_easing), (98, true, zX2_canFlip), (101, true, zX2_across), (104, true, zX2_greater), (107, true, zX2_dropWall), (110, true, zX2_dropCell), (113, false, zJ9_min_7cf53), (116, true, zX2_freeCell), (120, true, zX2_howManyWalls), (123, true, zX2_handOver), (127, true, zX2_halve), (130, true, zX2_addWall), (134, false, zJ9_floorDiv_7cf53), (137, true, zX2_wallsBetween), (140, true, zX2_makeOne), (143, true, zX2_liesBetween), (147, true, zX2_leastBetween), (150, true, zX2_hasCell), (156, false, zJ9_max_7cf53)]
def mm_F2 : List (Nat × Nat × Nat) := [(9, 2, 0), (15, 2, 1), (18, 2, 2), (21, 2, 3), (24, 2, 4), (27, 2, 5), (30, 2, 6), (33, 2, 7)]
def mm_C2 : List (Nat × Int32) := [(155, (-2147483648)), (159, (2147483647))]
def mm_L2 : List (Nat × Int64) := []
def mm_S2 : List (Nat × Nat) := [(54, 0), (61, 1)]
def mm_P2 : List (Nat × Nat) := [(36, 0)]
def mm_M3 : List (Nat × Bool × mm_Y) := [(18, true, zX1_copyOf), (26, true, zX2_strain), (32, false, zX3_mostEased), (36, true, zX2_hasWall), (40, true, zX2_canFlip), (43, true, zX2_easing), (47, true, zX2_flip), (51, false, zJ9_max_7cf53), (57, true, zX2_easiestWall), (60, false, zX3_swapTo), (68, false, zX3_gain), (74, true, zX2_endOf), (77, true, zX1_goOn), (80, true, zX2_hasSidesOf), (84, true, zX2_howManyCells), (87, true, zX1_jolt), (91, true, zX1_calm), (98, true, zX2_hasCell)]
def mm_F3 : List (Nat × Nat × Nat) := [(71, 2, 0), (64, 2, 6), (22, 1, 0), (101, 1, 7), (104, 1, 8), (12, 3, 0), (94, 3, 1)]
def mm_C3 : List (Nat × Int32) := []
def mm_L3 : List (Nat × Int64) := []
def mm_S3 : List (Nat × Nat) := []
def mm_P3 : List (Nat × Nat) := []
def mm_M4 : List (Nat × Bool × mm_Y) := [(24, true, zX2_hasCell), (30, true, zX2_firstHalf), (34, true, zX4_clearDistances), (38, true, zX4_spreadWithin), (49, true, zX2_across), (55, true, zX4_leastNearer), (68, false, zX4_spot), (72, true, zX4_put), (76, true, zX4_goRound), (86, false, zX4_isNear)]
def mm_F4 : List (Nat × Nat × Nat) := [(52, 2, 1), (80, 2, 3), (83, 2, 4), (46, 2, 6), (9, 4, 0), (15, 4, 1), (18, 4, 2), (21, 4, 3), (42, 4, 4), (59, 4, 5), (62, 4, 6), (65, 4, 7)]
def mm_C4 : List (Nat × Int32) := []
def mm_L4 : List (Nat × Int64) := []
def mm_S4 : List (Nat × Nat) := []
def mm_P4 : List (Nat × Nat) := []
def mm_M5 : List (Nat × Bool × mm_Y) := [(34, true, zX1_begin), (38, true, zX1_refuse), (50, true, zX2_hasCell), (60, true, zX2_hasWall), (66, true, zX2_canFlip), (69, true, zX2_easing), (72, true, zX1_flipWall), (76, true, zX2_canShrink), (79, true, zX1_shrinkCell), (82, true, zX2_halfAt), (86, true, zX1_splitCell), (90, true, zX2_canJoin), (93, true, zX1_joinAcross), (96, false, zX5_isShake), (100, true, zX1_jolt), (109, true, zX1_goOn), (112, true, zX1_calm), (145, true, zX2_endOf), (151, false, zJ9_min_7cf53), (156, false, zJ9_max_7cf53), (159, true, zX5_areTwo), (163, true, zX2_wallsBetween), (166, true, zX2_leastBetween), (169, true, zX4_spread), (176, true, zX4_howManyAt), (179, true, zX4_whichAt), (182, true, zX4_comeNearer), (186, true, zX2_howMany), (189, true, zX2_sidesAboutAll), (192, false, zX5_commonDivisor), (195, true, zX2_areaOfAll), (198, true, zX2_rankOf), (201, true, zX4_spreadRound), (208, false, zX4_spot), (217, true, zX4_gatherPieces), (229, true, zX2_strain), (232, true, zX2_turns), (235, true, zX2_sumOfAreas), (238, true, zX2_greatestArea), (241, true, zX2_leastArea), (244, true, zX2_sumOfLengths), (247, true, zX2_easiestWall), (250, true, zX2_flippable), (253, true, zX2_mostSides), (256, true, zX2_fewestSides), (259, true, zX3_leastStrain), (263, true, zX3_oneSwapTo), (267, true, zX3_twoSwapsTo), (270, true, zX3_stepsToAlike), (274, true, zX3_stepsToFew), (278, true, zX3_bestSeed), (285, true, zX3_swapsToRest), (291, true, zX3_goOnFrom), (295, true, zX2_howManyCells), (298, true, zX3_stepsToGone), (301, true, zX3_stepsToFirst), (308, true, zX0_read), (313, true, zX2_howManyWalls)]
def mm_F5 : List (Nat × Nat × Nat) := [(148, 2, 0), (211, 2, 3), (214, 2, 4), (63, 2, 5), (127, 2, 6), (56, 2, 7), (328, 0, 3), (46, 1, 0), (304, 1, 1), (331, 1, 2), (322, 1, 3), (325, 1, 4), (42, 1, 5), (316, 1, 6), (103, 1, 7), (106, 1, 8), (319, 1, 9), (334, 1, 10), (288, 3, 0), (282, 3, 1), (173, 4, 0), (205, 4, 1), (220, 4, 5), (223, 4, 6), (226, 4, 7), (10, 5, 0), (19, 5, 1), (26, 5, 2), (30, 5, 3)]
def mm_C5 : List (Nat × Int32) := [(277, (999999)), (141, (-2147483648))]
def mm_L5 : List (Nat × Int64) := []
def mm_S5 : List (Nat × Nat) := []
def mm_P5 : List (Nat × Nat) := []
def mm_M6 : List (Nat × Bool × mm_Y) := [(40, true, zX6_lay), (52, false, zX6_copy), (60, false, zX6_halfOf), (64, false, zX6_sign), (72, true, zX6_refuse), (80, true, zX6_isWall), (84, true, zX6_cellOf), (87, true, zX6_firstSide), (90, true, zX6_next), (93, true, zX6_isCell), (96, true, zX6_before), (99, true, zX6_join), (105, true, zX6_over), (108, false, zX6_areFour), (112, true, zX6_hasFour), (115, true, zX6_sidesOf), (118, true, zX6_turn), (121, false, zX6_square), (124, true, zX6_leave), (128, true, zX6_enter), (131, true, zX6_counts), (135, true, zX6_turnWall), (138, true, zX6_notes), (147, true, zX6_canSwap), (150, true, zX6_easing), (153, true, zX6_swaps), (156, true, zX6_isRicher), (160, true, zX6_canVanish), (163, true, zX6_vanishes), (166, true, zX6_freeWall), (170, true, zX6_freeCell), (173, true, zX6_sideAt), (177, true, zX6_cutBy), (181, true, zX6_halves), (184, true, zX6_newWall), (187, true, zX6_countRound), (190, true, zX6_wallsBetween), (193, true, zX6_canBurst), (196, true, zX6_melt), (209, true, zX6_draw), (214, true, zX6_shakes), (217, true, zX6_grows), (220, true, zX6_shrinks), (223, true, zX6_shortest), (228, true, zX6_step), (231, true, zX6_easier), (234, true, zX6_relaxes), (237, true, zX6_areBeside), (240, true, zX6_isThere), (243, true, zX6_lengthsOf), (246, true, zX6_aboutOf), (249, true, zX6_neighbours), (255, false, zX6_lesser), (258, false, zX6_greater), (261, true, zX6_layFar), (264, true, zX6_ofKind), (267, false, zX6_common), (270, false, zX6_stateOf), (273, true, zX6_spread), (281, true, zX6_layWays), (284, true, zX6_layPieces), (288, true, zX6_strain), (291, true, zX6_ofWalls), (295, true, zX6_ofCells), (298, true, zX6_eased), (301, true, zX6_think), (304, true, zX6_changes), (307, true, zX6_bringsTo), (310, true, zX6_areAlike), (314, true, zX6_endThought), (317, true, zX6_many)]
def mm_F6 : List (Nat × Nat × Nat) := [(44, 6, 0), (9, 6, 1), (15, 6, 2), (18, 6, 3), (21, 6, 4), (25, 6, 5), (28, 6, 6), (102, 6, 7), (199, 6, 8), (31, 6, 9), (34, 6, 10), (37, 6, 11)]
def mm_C6 : List (Nat × Int32) := [(252, (-2147483648)), (287, (2147483647))]
def mm_L6 : List (Nat × Int64) := [(56, (9)), (58, (15)), (68, (3)), (70, (6)), (141, (-999)), (143, (9999)), (76, (47)), (145, (99)), (78, (143)), (212, (999999)), (203, (1103)), (205, (12345)), (207, (1000003)), (226, (50)), (253, (2)), (279, (-1)), (277, (-2)), (320, (10)), (322, (1000000)), (324, (4)), (326, (11)), (328, (14))]
def mm_S6 : List (Nat × Nat) := []
def mm_P6 : List (Nat × Nat) := [(48, 1)]
def mm_M7 : List (Nat × Bool × mm_Y) := []
def mm_F7 : List (Nat × Nat × Nat) := []
def mm_C7 : List (Nat × Int32) := []
def mm_L7 : List (Nat × Int64) := []
def mm_S7 : List (Nat × Nat) := []
def mm_P7 : List (Nat × Nat) := []
def mm_M (o : Nat) : List (Nat × Bool × mm_Y) := match o with
  | 0 => mm_M0
  | 1 => mm_M1
  | 2 => mm_M2
  | 3 => mm_M3
  | 4 => mm_M4
  | 5 => mm_M5
  | 6 => mm_M6
  | 7 => mm_M7
  | _ => []
def mm_F (o : Nat) : List (Nat × Nat × Nat) := match o with
  | 0 => mm_F0
  | 1 => mm_F1
  | 2 => mm_F2
  | 3 => mm_F3
  | 4 => mm_F4
  | 5 => mm_F5
  | 6 => mm_F6
  | 7 => mm_F7
  | _ => []
def mm_C (o : Nat) : List (Nat × Int32) := match o with
  | 0 => mm_C0
  | 1 => mm_C1
  | 2 => mm_C2
  | 3 => mm_C3
  | 4 => mm_C4
  | 5 => mm_C5
  | 6 => mm_C6
  | 7 => mm_C7
  | _ => []
def mm_L (o : Nat) : List (Nat × Int64) := match o with
  | 0 => mm_L0
  | 1 => mm_L1
  | 2 => mm_L2
  | 3 => mm_L3
  | 4 => mm_L4
  | 5 => mm_L5
  | 6 => mm_L6
  | 7 => mm_L7
  | _ => []
def mm_S (o : Nat) : List (Nat × Nat) := match o with
  | 0 => mm_S0
  | 1 => mm_S1
  | 2 => mm_S2
  | 3 => mm_S3
  | 4 => mm_S4
  | 5 => mm_S5
  | 6 => mm_S6
  | 7 => mm_S7
  | _ => []
def mm_P (o : Nat) : List (Nat × Nat) := match o with
  | 0 => mm_P0
  | 1 => mm_P1
  | 2 => mm_P2
  | 3 => mm_P3
  | 4 => mm_P4
  | 5 => mm_P5
  | 6 => mm_P6
  | 7 => mm_P7
  | _ => []
def mm_lk {α : Type} (l : List (Nat × α)) (i : Nat) : Option α := match l with
  | [] => none
  | e :: r => if e.1 = i then some e.2 else mm_lk r i
theorem kM0_34 : mm_lk (mm_M 0) 34 = some (false, zJ9_floorMod_7cf53) := rfl
theorem kM1_54 : mm_lk (mm_M 1) 54 = some (true, zX0_clear) := rfl
theorem kM1_57 : mm_lk (mm_M 1) 57 = some (true, zX2_layRing) := rfl
theorem kM1_61 : mm_lk (mm_M 1) 61 = some (true, zX2_copyOf) := rfl
theorem kM1_65 : mm_lk (mm_M 1) 65 = some (true, zX0_copyOf) := rfl
theorem kM1_74 : mm_lk (mm_M 1) 74 = some (true, zX2_flip) := rfl
theorem kM1_78 : mm_lk (mm_M 1) 78 = some (true, zX0_write) := rfl
theorem kM1_82 : mm_lk (mm_M 1) 82 = some (true, zX2_shrink) := rfl
theorem kM1_86 : mm_lk (mm_M 1) 86 = some (true, zX2_split) := rfl
theorem kM1_90 : mm_lk (mm_M 1) 90 = some (true, zX2_join) := rfl
theorem kM1_93 : mm_lk (mm_M 1) 93 = some (true, zX2_growAreas) := rfl
theorem kM1_96 : mm_lk (mm_M 1) 96 = some (true, zX2_stretchWalls) := rfl
theorem kM1_99 : mm_lk (mm_M 1) 99 = some (true, zX2_hasWall) := rfl
theorem kM1_106 : mm_lk (mm_M 1) 106 = some (true, zX2_canFlip) := rfl
theorem kM1_109 : mm_lk (mm_M 1) 109 = some (true, zX1_flipWall) := rfl
theorem kM1_112 : mm_lk (mm_M 1) 112 = some (true, zX2_hasCell) := rfl
theorem kM1_118 : mm_lk (mm_M 1) 118 = some (true, zX1_giveWay) := rfl
theorem kM1_124 : mm_lk (mm_M 1) 124 = some (true, zX2_shortestSide) := rfl
theorem kM1_127 : mm_lk (mm_M 1) 127 = some (true, zX2_canShrink) := rfl
theorem kM1_130 : mm_lk (mm_M 1) 130 = some (true, zX1_shrinkCell) := rfl
theorem kM1_134 : mm_lk (mm_M 1) 134 = some (true, zX2_easiestWall) := rfl
theorem kM1_139 : mm_lk (mm_M 1) 139 = some (true, zX2_easing) := rfl
theorem kM2_42 : mm_lk (mm_M 2) 42 = some (true, zX2_layCell) := rfl
theorem kM2_46 : mm_lk (mm_M 2) 46 = some (false, zX2_halfOnRing) := rfl
theorem kM2_50 : mm_lk (mm_M 2) 50 = some (true, zX2_link) := rfl
theorem kM2_57 : mm_lk (mm_M 2) 57 = some (false, zX2_over) := rfl
theorem kM2_64 : mm_lk (mm_M 2) 64 = some (true, zX2_setRound) := rfl
theorem kM2_68 : mm_lk (mm_M 2) 68 = some (false, zJ9_floorMod_7cf53) := rfl
theorem kM2_73 : mm_lk (mm_M 2) 73 = some (true, zX2_firstHalf) := rfl
theorem kM2_77 : mm_lk (mm_M 2) 77 = some (true, zX2_endOf) := rfl
theorem kM2_80 : mm_lk (mm_M 2) 80 = some (false, zX2_areFour) := rfl
theorem kM2_84 : mm_lk (mm_M 2) 84 = some (true, zX2_unlink) := rfl
theorem kM2_88 : mm_lk (mm_M 2) 88 = some (true, zX2_insert) := rfl
theorem kM2_91 : mm_lk (mm_M 2) 91 = some (true, zX2_hasWall) := rfl
theorem kM2_95 : mm_lk (mm_M 2) 95 = some (true, zX2_easing) := rfl
theorem kM2_98 : mm_lk (mm_M 2) 98 = some (true, zX2_canFlip) := rfl
theorem kM2_101 : mm_lk (mm_M 2) 101 = some (true, zX2_across) := rfl
theorem kM2_104 : mm_lk (mm_M 2) 104 = some (true, zX2_greater) := rfl
theorem kM2_107 : mm_lk (mm_M 2) 107 = some (true, zX2_dropWall) := rfl
theorem kM2_110 : mm_lk (mm_M 2) 110 = some (true, zX2_dropCell) := rfl
theorem kM2_113 : mm_lk (mm_M 2) 113 = some (false, zJ9_min_7cf53) := rfl
theorem kM2_116 : mm_lk (mm_M 2) 116 = some (true, zX2_freeCell) := rfl
theorem kM2_120 : mm_lk (mm_M 2) 120 = some (true, zX2_howManyWalls) := rfl
theorem kM2_123 : mm_lk (mm_M 2) 123 = some (true, zX2_handOver) := rfl
theorem kM2_127 : mm_lk (mm_M 2) 127 = some (true, zX2_halve) := rfl
theorem kM2_130 : mm_lk (mm_M 2) 130 = some (true, zX2_addWall) := rfl
theorem kM2_134 : mm_lk (mm_M 2) 134 = some (false, zJ9_floorDiv_7cf53) := rfl
theorem kM2_137 : mm_lk (mm_M 2) 137 = some (true, zX2_wallsBetween) := rfl
theorem kM2_140 : mm_lk (mm_M 2) 140 = some (true, zX2_makeOne) := rfl
theorem kM2_143 : mm_lk (mm_M 2) 143 = some (true, zX2_liesBetween) := rfl
theorem kM2_147 : mm_lk (mm_M 2) 147 = some (true, zX2_leastBetween) := rfl
theorem kM2_150 : mm_lk (mm_M 2) 150 = some (true, zX2_hasCell) := rfl
theorem kM2_156 : mm_lk (mm_M 2) 156 = some (false, zJ9_max_7cf53) := rfl
theorem kM3_18 : mm_lk (mm_M 3) 18 = some (true, zX1_copyOf) := rfl
theorem kM3_26 : mm_lk (mm_M 3) 26 = some (true, zX2_strain) := rfl
theorem kM3_32 : mm_lk (mm_M 3) 32 = some (false, zX3_mostEased) := rfl
theorem kM3_36 : mm_lk (mm_M 3) 36 = some (true, zX2_hasWall) := rfl
theorem kM3_40 : mm_lk (mm_M 3) 40 = some (true, zX2_canFlip) := rfl
theorem kM3_43 : mm_lk (mm_M 3) 43 = some (true, zX2_easing) := rfl
theorem kM3_47 : mm_lk (mm_M 3) 47 = some (true, zX2_flip) := rfl
theorem kM3_51 : mm_lk (mm_M 3) 51 = some (false, zJ9_max_7cf53) := rfl
theorem kM3_57 : mm_lk (mm_M 3) 57 = some (true, zX2_easiestWall) := rfl
theorem kM3_60 : mm_lk (mm_M 3) 60 = some (false, zX3_swapTo) := rfl
theorem kM3_68 : mm_lk (mm_M 3) 68 = some (false, zX3_gain) := rfl
theorem kM3_74 : mm_lk (mm_M 3) 74 = some (true, zX2_endOf) := rfl
theorem kM3_77 : mm_lk (mm_M 3) 77 = some (true, zX1_goOn) := rfl
theorem kM3_80 : mm_lk (mm_M 3) 80 = some (true, zX2_hasSidesOf) := rfl
theorem kM3_84 : mm_lk (mm_M 3) 84 = some (true, zX2_howManyCells) := rfl
theorem kM3_87 : mm_lk (mm_M 3) 87 = some (true, zX1_jolt) := rfl
theorem kM3_91 : mm_lk (mm_M 3) 91 = some (true, zX1_calm) := rfl
theorem kM3_98 : mm_lk (mm_M 3) 98 = some (true, zX2_hasCell) := rfl
theorem kM4_24 : mm_lk (mm_M 4) 24 = some (true, zX2_hasCell) := rfl
theorem kM4_30 : mm_lk (mm_M 4) 30 = some (true, zX2_firstHalf) := rfl
theorem kM4_34 : mm_lk (mm_M 4) 34 = some (true, zX4_clearDistances) := rfl
theorem kM4_38 : mm_lk (mm_M 4) 38 = some (true, zX4_spreadWithin) := rfl
theorem kM4_49 : mm_lk (mm_M 4) 49 = some (true, zX2_across) := rfl
theorem kM4_55 : mm_lk (mm_M 4) 55 = some (true, zX4_leastNearer) := rfl
theorem kM4_68 : mm_lk (mm_M 4) 68 = some (false, zX4_spot) := rfl
theorem kM4_72 : mm_lk (mm_M 4) 72 = some (true, zX4_put) := rfl
theorem kM4_76 : mm_lk (mm_M 4) 76 = some (true, zX4_goRound) := rfl
theorem kM4_86 : mm_lk (mm_M 4) 86 = some (false, zX4_isNear) := rfl
theorem kM5_34 : mm_lk (mm_M 5) 34 = some (true, zX1_begin) := rfl
theorem kM5_38 : mm_lk (mm_M 5) 38 = some (true, zX1_refuse) := rfl
theorem kM5_50 : mm_lk (mm_M 5) 50 = some (true, zX2_hasCell) := rfl
theorem kM5_60 : mm_lk (mm_M 5) 60 = some (true, zX2_hasWall) := rfl
theorem kM5_66 : mm_lk (mm_M 5) 66 = some (true, zX2_canFlip) := rfl
theorem kM5_69 : mm_lk (mm_M 5) 69 = some (true, zX2_easing) := rfl
theorem kM5_72 : mm_lk (mm_M 5) 72 = some (true, zX1_flipWall) := rfl
theorem kM5_76 : mm_lk (mm_M 5) 76 = some (true, zX2_canShrink) := rfl
theorem kM5_79 : mm_lk (mm_M 5) 79 = some (true, zX1_shrinkCell) := rfl
theorem kM5_82 : mm_lk (mm_M 5) 82 = some (true, zX2_halfAt) := rfl
theorem kM5_86 : mm_lk (mm_M 5) 86 = some (true, zX1_splitCell) := rfl
theorem kM5_90 : mm_lk (mm_M 5) 90 = some (true, zX2_canJoin) := rfl
theorem kM5_93 : mm_lk (mm_M 5) 93 = some (true, zX1_joinAcross) := rfl
theorem kM5_96 : mm_lk (mm_M 5) 96 = some (false, zX5_isShake) := rfl
theorem kM5_100 : mm_lk (mm_M 5) 100 = some (true, zX1_jolt) := rfl
theorem kM5_109 : mm_lk (mm_M 5) 109 = some (true, zX1_goOn) := rfl
theorem kM5_112 : mm_lk (mm_M 5) 112 = some (true, zX1_calm) := rfl
theorem kM5_145 : mm_lk (mm_M 5) 145 = some (true, zX2_endOf) := rfl
theorem kM5_151 : mm_lk (mm_M 5) 151 = some (false, zJ9_min_7cf53) := rfl
theorem kM5_156 : mm_lk (mm_M 5) 156 = some (false, zJ9_max_7cf53) := rfl
theorem kM5_159 : mm_lk (mm_M 5) 159 = some (true, zX5_areTwo) := rfl
theorem kM5_163 : mm_lk (mm_M 5) 163 = some (true, zX2_wallsBetween) := rfl
theorem kM5_166 : mm_lk (mm_M 5) 166 = some (true, zX2_leastBetween) := rfl
theorem kM5_169 : mm_lk (mm_M 5) 169 = some (true, zX4_spread) := rfl
theorem kM5_176 : mm_lk (mm_M 5) 176 = some (true, zX4_howManyAt) := rfl
theorem kM5_179 : mm_lk (mm_M 5) 179 = some (true, zX4_whichAt) := rfl
theorem kM5_182 : mm_lk (mm_M 5) 182 = some (true, zX4_comeNearer) := rfl
theorem kM5_186 : mm_lk (mm_M 5) 186 = some (true, zX2_howMany) := rfl
theorem kM5_189 : mm_lk (mm_M 5) 189 = some (true, zX2_sidesAboutAll) := rfl
theorem kM5_192 : mm_lk (mm_M 5) 192 = some (false, zX5_commonDivisor) := rfl
theorem kM5_195 : mm_lk (mm_M 5) 195 = some (true, zX2_areaOfAll) := rfl
theorem kM5_198 : mm_lk (mm_M 5) 198 = some (true, zX2_rankOf) := rfl
theorem kM5_201 : mm_lk (mm_M 5) 201 = some (true, zX4_spreadRound) := rfl
theorem kM5_208 : mm_lk (mm_M 5) 208 = some (false, zX4_spot) := rfl
theorem kM5_217 : mm_lk (mm_M 5) 217 = some (true, zX4_gatherPieces) := rfl
theorem kM5_229 : mm_lk (mm_M 5) 229 = some (true, zX2_strain) := rfl
theorem kM5_232 : mm_lk (mm_M 5) 232 = some (true, zX2_turns) := rfl
theorem kM5_235 : mm_lk (mm_M 5) 235 = some (true, zX2_sumOfAreas) := rfl
theorem kM5_238 : mm_lk (mm_M 5) 238 = some (true, zX2_greatestArea) := rfl
theorem kM5_241 : mm_lk (mm_M 5) 241 = some (true, zX2_leastArea) := rfl
theorem kM5_244 : mm_lk (mm_M 5) 244 = some (true, zX2_sumOfLengths) := rfl
theorem kM5_247 : mm_lk (mm_M 5) 247 = some (true, zX2_easiestWall) := rfl
theorem kM5_250 : mm_lk (mm_M 5) 250 = some (true, zX2_flippable) := rfl
theorem kM5_253 : mm_lk (mm_M 5) 253 = some (true, zX2_mostSides) := rfl
theorem kM5_256 : mm_lk (mm_M 5) 256 = some (true, zX2_fewestSides) := rfl
theorem kM5_259 : mm_lk (mm_M 5) 259 = some (true, zX3_leastStrain) := rfl
theorem kM5_263 : mm_lk (mm_M 5) 263 = some (true, zX3_oneSwapTo) := rfl
theorem kM5_267 : mm_lk (mm_M 5) 267 = some (true, zX3_twoSwapsTo) := rfl
theorem kM5_270 : mm_lk (mm_M 5) 270 = some (true, zX3_stepsToAlike) := rfl
theorem kM5_274 : mm_lk (mm_M 5) 274 = some (true, zX3_stepsToFew) := rfl
theorem kM5_278 : mm_lk (mm_M 5) 278 = some (true, zX3_bestSeed) := rfl
theorem kM5_285 : mm_lk (mm_M 5) 285 = some (true, zX3_swapsToRest) := rfl
theorem kM5_291 : mm_lk (mm_M 5) 291 = some (true, zX3_goOnFrom) := rfl
theorem kM5_295 : mm_lk (mm_M 5) 295 = some (true, zX2_howManyCells) := rfl
theorem kM5_298 : mm_lk (mm_M 5) 298 = some (true, zX3_stepsToGone) := rfl
theorem kM5_301 : mm_lk (mm_M 5) 301 = some (true, zX3_stepsToFirst) := rfl
theorem kM5_308 : mm_lk (mm_M 5) 308 = some (true, zX0_read) := rfl
theorem kM5_313 : mm_lk (mm_M 5) 313 = some (true, zX2_howManyWalls) := rfl
theorem kM6_40 : mm_lk (mm_M 6) 40 = some (true, zX6_lay) := rfl
theorem kM6_52 : mm_lk (mm_M 6) 52 = some (false, zX6_copy) := rfl
theorem kM6_60 : mm_lk (mm_M 6) 60 = some (false, zX6_halfOf) := rfl
theorem kM6_64 : mm_lk (mm_M 6) 64 = some (false, zX6_sign) := rfl
theorem kM6_72 : mm_lk (mm_M 6) 72 = some (true, zX6_refuse) := rfl
theorem kM6_80 : mm_lk (mm_M 6) 80 = some (true, zX6_isWall) := rfl
theorem kM6_84 : mm_lk (mm_M 6) 84 = some (true, zX6_cellOf) := rfl
theorem kM6_87 : mm_lk (mm_M 6) 87 = some (true, zX6_firstSide) := rfl
theorem kM6_90 : mm_lk (mm_M 6) 90 = some (true, zX6_next) := rfl
theorem kM6_93 : mm_lk (mm_M 6) 93 = some (true, zX6_isCell) := rfl
theorem kM6_96 : mm_lk (mm_M 6) 96 = some (true, zX6_before) := rfl
theorem kM6_99 : mm_lk (mm_M 6) 99 = some (true, zX6_join) := rfl
theorem kM6_105 : mm_lk (mm_M 6) 105 = some (true, zX6_over) := rfl
theorem kM6_108 : mm_lk (mm_M 6) 108 = some (false, zX6_areFour) := rfl
theorem kM6_112 : mm_lk (mm_M 6) 112 = some (true, zX6_hasFour) := rfl
theorem kM6_115 : mm_lk (mm_M 6) 115 = some (true, zX6_sidesOf) := rfl
theorem kM6_118 : mm_lk (mm_M 6) 118 = some (true, zX6_turn) := rfl
theorem kM6_121 : mm_lk (mm_M 6) 121 = some (false, zX6_square) := rfl
theorem kM6_124 : mm_lk (mm_M 6) 124 = some (true, zX6_leave) := rfl
theorem kM6_128 : mm_lk (mm_M 6) 128 = some (true, zX6_enter) := rfl
theorem kM6_131 : mm_lk (mm_M 6) 131 = some (true, zX6_counts) := rfl
theorem kM6_135 : mm_lk (mm_M 6) 135 = some (true, zX6_turnWall) := rfl
theorem kM6_138 : mm_lk (mm_M 6) 138 = some (true, zX6_notes) := rfl
theorem kM6_147 : mm_lk (mm_M 6) 147 = some (true, zX6_canSwap) := rfl
theorem kM6_150 : mm_lk (mm_M 6) 150 = some (true, zX6_easing) := rfl
theorem kM6_153 : mm_lk (mm_M 6) 153 = some (true, zX6_swaps) := rfl
theorem kM6_156 : mm_lk (mm_M 6) 156 = some (true, zX6_isRicher) := rfl
theorem kM6_160 : mm_lk (mm_M 6) 160 = some (true, zX6_canVanish) := rfl
theorem kM6_163 : mm_lk (mm_M 6) 163 = some (true, zX6_vanishes) := rfl
theorem kM6_166 : mm_lk (mm_M 6) 166 = some (true, zX6_freeWall) := rfl
theorem kM6_170 : mm_lk (mm_M 6) 170 = some (true, zX6_freeCell) := rfl
theorem kM6_173 : mm_lk (mm_M 6) 173 = some (true, zX6_sideAt) := rfl
theorem kM6_177 : mm_lk (mm_M 6) 177 = some (true, zX6_cutBy) := rfl
theorem kM6_181 : mm_lk (mm_M 6) 181 = some (true, zX6_halves) := rfl
theorem kM6_184 : mm_lk (mm_M 6) 184 = some (true, zX6_newWall) := rfl
theorem kM6_187 : mm_lk (mm_M 6) 187 = some (true, zX6_countRound) := rfl
theorem kM6_190 : mm_lk (mm_M 6) 190 = some (true, zX6_wallsBetween) := rfl
theorem kM6_193 : mm_lk (mm_M 6) 193 = some (true, zX6_canBurst) := rfl
theorem kM6_196 : mm_lk (mm_M 6) 196 = some (true, zX6_melt) := rfl
theorem kM6_209 : mm_lk (mm_M 6) 209 = some (true, zX6_draw) := rfl
theorem kM6_214 : mm_lk (mm_M 6) 214 = some (true, zX6_shakes) := rfl
theorem kM6_217 : mm_lk (mm_M 6) 217 = some (true, zX6_grows) := rfl
theorem kM6_220 : mm_lk (mm_M 6) 220 = some (true, zX6_shrinks) := rfl
theorem kM6_223 : mm_lk (mm_M 6) 223 = some (true, zX6_shortest) := rfl
theorem kM6_228 : mm_lk (mm_M 6) 228 = some (true, zX6_step) := rfl
theorem kM6_231 : mm_lk (mm_M 6) 231 = some (true, zX6_easier) := rfl
theorem kM6_234 : mm_lk (mm_M 6) 234 = some (true, zX6_relaxes) := rfl
theorem kM6_237 : mm_lk (mm_M 6) 237 = some (true, zX6_areBeside) := rfl
theorem kM6_240 : mm_lk (mm_M 6) 240 = some (true, zX6_isThere) := rfl
theorem kM6_243 : mm_lk (mm_M 6) 243 = some (true, zX6_lengthsOf) := rfl
theorem kM6_246 : mm_lk (mm_M 6) 246 = some (true, zX6_aboutOf) := rfl
theorem kM6_249 : mm_lk (mm_M 6) 249 = some (true, zX6_neighbours) := rfl
theorem kM6_255 : mm_lk (mm_M 6) 255 = some (false, zX6_lesser) := rfl
theorem kM6_258 : mm_lk (mm_M 6) 258 = some (false, zX6_greater) := rfl
theorem kM6_261 : mm_lk (mm_M 6) 261 = some (true, zX6_layFar) := rfl
theorem kM6_264 : mm_lk (mm_M 6) 264 = some (true, zX6_ofKind) := rfl
theorem kM6_267 : mm_lk (mm_M 6) 267 = some (false, zX6_common) := rfl
theorem kM6_270 : mm_lk (mm_M 6) 270 = some (false, zX6_stateOf) := rfl
theorem kM6_273 : mm_lk (mm_M 6) 273 = some (true, zX6_spread) := rfl
theorem kM6_281 : mm_lk (mm_M 6) 281 = some (true, zX6_layWays) := rfl
theorem kM6_284 : mm_lk (mm_M 6) 284 = some (true, zX6_layPieces) := rfl
theorem kM6_288 : mm_lk (mm_M 6) 288 = some (true, zX6_strain) := rfl
theorem kM6_291 : mm_lk (mm_M 6) 291 = some (true, zX6_ofWalls) := rfl
theorem kM6_295 : mm_lk (mm_M 6) 295 = some (true, zX6_ofCells) := rfl
theorem kM6_298 : mm_lk (mm_M 6) 298 = some (true, zX6_eased) := rfl
theorem kM6_301 : mm_lk (mm_M 6) 301 = some (true, zX6_think) := rfl
theorem kM6_304 : mm_lk (mm_M 6) 304 = some (true, zX6_changes) := rfl
theorem kM6_307 : mm_lk (mm_M 6) 307 = some (true, zX6_bringsTo) := rfl
theorem kM6_310 : mm_lk (mm_M 6) 310 = some (true, zX6_areAlike) := rfl
theorem kM6_314 : mm_lk (mm_M 6) 314 = some (true, zX6_endThought) := rfl
theorem kM6_317 : mm_lk (mm_M 6) 317 = some (true, zX6_many) := rfl
theorem kF2_9 : mm_lk (mm_F 2) 9 = some (2, 0) := rfl
theorem kF3_71 : mm_lk (mm_F 3) 71 = some (2, 0) := rfl
theorem kF5_148 : mm_lk (mm_F 5) 148 = some (2, 0) := rfl
theorem kF2_15 : mm_lk (mm_F 2) 15 = some (2, 1) := rfl
theorem kF4_52 : mm_lk (mm_F 4) 52 = some (2, 1) := rfl
theorem kF2_18 : mm_lk (mm_F 2) 18 = some (2, 2) := rfl
theorem kF2_21 : mm_lk (mm_F 2) 21 = some (2, 3) := rfl
theorem kF4_80 : mm_lk (mm_F 4) 80 = some (2, 3) := rfl
theorem kF5_211 : mm_lk (mm_F 5) 211 = some (2, 3) := rfl
theorem kF2_24 : mm_lk (mm_F 2) 24 = some (2, 4) := rfl
theorem kF4_83 : mm_lk (mm_F 4) 83 = some (2, 4) := rfl
theorem kF5_214 : mm_lk (mm_F 5) 214 = some (2, 4) := rfl
theorem kF2_27 : mm_lk (mm_F 2) 27 = some (2, 5) := rfl
theorem kF5_63 : mm_lk (mm_F 5) 63 = some (2, 5) := rfl
theorem kF1_103 : mm_lk (mm_F 1) 103 = some (2, 5) := rfl
theorem kF2_30 : mm_lk (mm_F 2) 30 = some (2, 6) := rfl
theorem kF4_46 : mm_lk (mm_F 4) 46 = some (2, 6) := rfl
theorem kF3_64 : mm_lk (mm_F 3) 64 = some (2, 6) := rfl
theorem kF1_121 : mm_lk (mm_F 1) 121 = some (2, 6) := rfl
theorem kF5_127 : mm_lk (mm_F 5) 127 = some (2, 6) := rfl
theorem kF2_33 : mm_lk (mm_F 2) 33 = some (2, 7) := rfl
theorem kF5_56 : mm_lk (mm_F 5) 56 = some (2, 7) := rfl
theorem kF1_115 : mm_lk (mm_F 1) 115 = some (2, 7) := rfl
theorem kF0_9 : mm_lk (mm_F 0) 9 = some (0, 0) := rfl
theorem kF0_15 : mm_lk (mm_F 0) 15 = some (0, 1) := rfl
theorem kF0_18 : mm_lk (mm_F 0) 18 = some (0, 2) := rfl
theorem kF0_21 : mm_lk (mm_F 0) 21 = some (0, 3) := rfl
theorem kF5_328 : mm_lk (mm_F 5) 328 = some (0, 3) := rfl
theorem kF0_25 : mm_lk (mm_F 0) 25 = some (0, 4) := rfl
theorem kF1_12 : mm_lk (mm_F 1) 12 = some (1, 0) := rfl
theorem kF3_22 : mm_lk (mm_F 3) 22 = some (1, 0) := rfl
theorem kF5_46 : mm_lk (mm_F 5) 46 = some (1, 0) := rfl
theorem kF1_21 : mm_lk (mm_F 1) 21 = some (1, 1) := rfl
theorem kF5_304 : mm_lk (mm_F 5) 304 = some (1, 1) := rfl
theorem kF1_25 : mm_lk (mm_F 1) 25 = some (1, 2) := rfl
theorem kF5_331 : mm_lk (mm_F 5) 331 = some (1, 2) := rfl
theorem kF1_33 : mm_lk (mm_F 1) 33 = some (1, 3) := rfl
theorem kF5_322 : mm_lk (mm_F 5) 322 = some (1, 3) := rfl
theorem kF1_36 : mm_lk (mm_F 1) 36 = some (1, 4) := rfl
theorem kF5_325 : mm_lk (mm_F 5) 325 = some (1, 4) := rfl
theorem kF1_29 : mm_lk (mm_F 1) 29 = some (1, 5) := rfl
theorem kF5_42 : mm_lk (mm_F 5) 42 = some (1, 5) := rfl
theorem kF1_39 : mm_lk (mm_F 1) 39 = some (1, 6) := rfl
theorem kF5_316 : mm_lk (mm_F 5) 316 = some (1, 6) := rfl
theorem kF1_42 : mm_lk (mm_F 1) 42 = some (1, 7) := rfl
theorem kF5_103 : mm_lk (mm_F 5) 103 = some (1, 7) := rfl
theorem kF3_101 : mm_lk (mm_F 3) 101 = some (1, 7) := rfl
theorem kF1_45 : mm_lk (mm_F 1) 45 = some (1, 8) := rfl
theorem kF5_106 : mm_lk (mm_F 5) 106 = some (1, 8) := rfl
theorem kF3_104 : mm_lk (mm_F 3) 104 = some (1, 8) := rfl
theorem kF1_48 : mm_lk (mm_F 1) 48 = some (1, 9) := rfl
theorem kF5_319 : mm_lk (mm_F 5) 319 = some (1, 9) := rfl
theorem kF1_51 : mm_lk (mm_F 1) 51 = some (1, 10) := rfl
theorem kF5_334 : mm_lk (mm_F 5) 334 = some (1, 10) := rfl
theorem kF3_12 : mm_lk (mm_F 3) 12 = some (3, 0) := rfl
theorem kF5_288 : mm_lk (mm_F 5) 288 = some (3, 0) := rfl
theorem kF3_94 : mm_lk (mm_F 3) 94 = some (3, 1) := rfl
theorem kF5_282 : mm_lk (mm_F 5) 282 = some (3, 1) := rfl
theorem kF4_9 : mm_lk (mm_F 4) 9 = some (4, 0) := rfl
theorem kF5_173 : mm_lk (mm_F 5) 173 = some (4, 0) := rfl
theorem kF4_15 : mm_lk (mm_F 4) 15 = some (4, 1) := rfl
theorem kF5_205 : mm_lk (mm_F 5) 205 = some (4, 1) := rfl
theorem kF4_18 : mm_lk (mm_F 4) 18 = some (4, 2) := rfl
theorem kF4_21 : mm_lk (mm_F 4) 21 = some (4, 3) := rfl
theorem kF4_42 : mm_lk (mm_F 4) 42 = some (4, 4) := rfl
theorem kF4_59 : mm_lk (mm_F 4) 59 = some (4, 5) := rfl
theorem kF5_220 : mm_lk (mm_F 5) 220 = some (4, 5) := rfl
theorem kF4_62 : mm_lk (mm_F 4) 62 = some (4, 6) := rfl
theorem kF5_223 : mm_lk (mm_F 5) 223 = some (4, 6) := rfl
theorem kF4_65 : mm_lk (mm_F 4) 65 = some (4, 7) := rfl
theorem kF5_226 : mm_lk (mm_F 5) 226 = some (4, 7) := rfl
theorem kF5_10 : mm_lk (mm_F 5) 10 = some (5, 0) := rfl
theorem kF5_19 : mm_lk (mm_F 5) 19 = some (5, 1) := rfl
theorem kF5_26 : mm_lk (mm_F 5) 26 = some (5, 2) := rfl
theorem kF5_30 : mm_lk (mm_F 5) 30 = some (5, 3) := rfl
theorem kF6_44 : mm_lk (mm_F 6) 44 = some (6, 0) := rfl
theorem kF6_9 : mm_lk (mm_F 6) 9 = some (6, 1) := rfl
theorem kF6_15 : mm_lk (mm_F 6) 15 = some (6, 2) := rfl
theorem kF6_18 : mm_lk (mm_F 6) 18 = some (6, 3) := rfl
theorem kF6_21 : mm_lk (mm_F 6) 21 = some (6, 4) := rfl
theorem kF6_25 : mm_lk (mm_F 6) 25 = some (6, 5) := rfl
theorem kF6_28 : mm_lk (mm_F 6) 28 = some (6, 6) := rfl
theorem kF6_102 : mm_lk (mm_F 6) 102 = some (6, 7) := rfl
theorem kF6_199 : mm_lk (mm_F 6) 199 = some (6, 8) := rfl
theorem kF6_31 : mm_lk (mm_F 6) 31 = some (6, 9) := rfl
theorem kF6_34 : mm_lk (mm_F 6) 34 = some (6, 10) := rfl
theorem kF6_37 : mm_lk (mm_F 6) 37 = some (6, 11) := rfl
theorem kC5_277 : mm_lk (mm_C 5) 277 = some (999999) := rfl
theorem kC1_138 : mm_lk (mm_C 1) 138 = some (1000003) := rfl
theorem kC1_133 : mm_lk (mm_C 1) 133 = some (1000000) := rfl
theorem kC5_141 : mm_lk (mm_C 5) 141 = some (-2147483648) := rfl
theorem kC2_155 : mm_lk (mm_C 2) 155 = some (-2147483648) := rfl
theorem kC2_159 : mm_lk (mm_C 2) 159 = some (2147483647) := rfl
theorem kC6_252 : mm_lk (mm_C 6) 252 = some (-2147483648) := rfl
theorem kC6_287 : mm_lk (mm_C 6) 287 = some (2147483647) := rfl
theorem kL6_56 : mm_lk (mm_L 6) 56 = some (9) := rfl
theorem kL6_58 : mm_lk (mm_L 6) 58 = some (15) := rfl
theorem kL6_68 : mm_lk (mm_L 6) 68 = some (3) := rfl
theorem kL6_70 : mm_lk (mm_L 6) 70 = some (6) := rfl
theorem kL6_141 : mm_lk (mm_L 6) 141 = some (-999) := rfl
theorem kL6_143 : mm_lk (mm_L 6) 143 = some (9999) := rfl
theorem kL6_76 : mm_lk (mm_L 6) 76 = some (47) := rfl
theorem kL6_145 : mm_lk (mm_L 6) 145 = some (99) := rfl
theorem kL6_78 : mm_lk (mm_L 6) 78 = some (143) := rfl
theorem kL6_212 : mm_lk (mm_L 6) 212 = some (999999) := rfl
theorem kL6_203 : mm_lk (mm_L 6) 203 = some (1103) := rfl
theorem kL6_205 : mm_lk (mm_L 6) 205 = some (12345) := rfl
theorem kL6_207 : mm_lk (mm_L 6) 207 = some (1000003) := rfl
theorem kL6_226 : mm_lk (mm_L 6) 226 = some (50) := rfl
theorem kL6_253 : mm_lk (mm_L 6) 253 = some (2) := rfl
theorem kL6_279 : mm_lk (mm_L 6) 279 = some (-1) := rfl
theorem kL6_277 : mm_lk (mm_L 6) 277 = some (-2) := rfl
theorem kL6_320 : mm_lk (mm_L 6) 320 = some (10) := rfl
theorem kL6_322 : mm_lk (mm_L 6) 322 = some (1000000) := rfl
theorem kL6_324 : mm_lk (mm_L 6) 324 = some (4) := rfl
theorem kL6_326 : mm_lk (mm_L 6) 326 = some (11) := rfl
theorem kL6_328 : mm_lk (mm_L 6) 328 = some (14) := rfl
theorem kS2_54 : mm_lk (mm_S 2) 54 = some 0 := rfl
theorem kS2_61 : mm_lk (mm_S 2) 61 = some 1 := rfl
theorem kP0_28 : mm_lk (mm_P 0) 28 = some 0 := rfl
theorem kP1_68 : mm_lk (mm_P 1) 68 = some 0 := rfl
theorem kP2_36 : mm_lk (mm_P 2) 36 = some 0 := rfl
theorem kP6_48 : mm_lk (mm_P 6) 48 = some 1 := rfl
