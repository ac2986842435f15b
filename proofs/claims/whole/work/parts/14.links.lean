set_option maxRecDepth 100000
theorem zin1 {i : Nat} {w : Cond} (h : tables_1_1[i]? = some w) (hg : goodWord w = true) : w ∈ zTb := List.mem_filter.mpr ⟨List.mem_append_right _ (List.mem_append_left _ (List.mem_of_getElem? h)), hg⟩
theorem zin2 {i : Nat} {w : Cond} (h : tables_1_2[i]? = some w) (hg : goodWord w = true) : w ∈ zTb := List.mem_filter.mpr ⟨List.mem_append_right _ (List.mem_append_right _ (List.mem_append_left _ (List.mem_of_getElem? h))), hg⟩
theorem zin3 {i : Nat} {w : Cond} (h : tables_1_3[i]? = some w) (hg : goodWord w = true) : w ∈ zTb := List.mem_filter.mpr ⟨List.mem_append_right _ (List.mem_append_right _ (List.mem_append_right _ (List.mem_append_left _ (List.mem_of_getElem? h)))), hg⟩
theorem zin4 {i : Nat} {w : Cond} (h : tables_1_4[i]? = some w) (hg : goodWord w = true) : w ∈ zTb := List.mem_filter.mpr ⟨List.mem_append_right _ (List.mem_append_right _ (List.mem_append_right _ (List.mem_append_right _ (List.mem_append_left _ (List.mem_of_getElem? h))))), hg⟩
theorem zin5 {i : Nat} {w : Cond} (h : tables_1_5[i]? = some w) (hg : goodWord w = true) : w ∈ zTb := List.mem_filter.mpr ⟨List.mem_append_right _ (List.mem_append_right _ (List.mem_append_right _ (List.mem_append_right _ (List.mem_append_right _ (List.mem_append_left _ (List.mem_of_getElem? h)))))), hg⟩
theorem zin6 {i : Nat} {w : Cond} (h : tables_1_6[i]? = some w) (hg : goodWord w = true) : w ∈ zTb := List.mem_filter.mpr ⟨List.mem_append_right _ (List.mem_append_right _ (List.mem_append_right _ (List.mem_append_right _ (List.mem_append_right _ (List.mem_append_right _ (List.mem_append_left _ (List.mem_of_getElem? h))))))), hg⟩
theorem zin7 {i : Nat} {w : Cond} (h : tables_1_7[i]? = some w) (hg : goodWord w = true) : w ∈ zTb := List.mem_filter.mpr ⟨List.mem_append_right _ (List.mem_append_right _ (List.mem_append_right _ (List.mem_append_right _ (List.mem_append_right _ (List.mem_append_right _ (List.mem_append_right _ (List.mem_of_getElem? h))))))), hg⟩
abbrev mX6_init : zM := (yX6_init, cX6_init, 2, none)
abbrev mX1_init : zM := (yX1_init, cX1_init, 1, none)
abbrev mX3_init : zM := (yX3_init, cX3_init, 3, none)
abbrev mJ9_max_7cf53 : zM := (yJ9_max_7cf53, cJ9_max_7cf53, 2, (some .int))
abbrev mX5_init : zM := (yX5_init, cX5_init, 1, none)
abbrev mX0_init : zM := (yX0_init, cX0_init, 1, none)
abbrev mX4_init : zM := (yX4_init, cX4_init, 1, none)
abbrev mX2_init : zM := (yX2_init, cX2_init, 1, none)
abbrev mX6_row : zM := (yX6_row, cX6_row, 5, (some .int))
abbrev mX6_shelfAt : zM := (yX6_shelfAt, cX6_shelfAt, 2, (some (FieldType.object "OnTheRoof$Shelf")))
abbrev mX6_isWithin : zM := (yX6_isWithin, cX6_isWithin, 3, (some .boolean))
abbrev mX6_refuse : zM := (yX6_refuse, cX6_refuse, 3, (some .int))
abbrev mX2_takeRow : zM := (yX2_takeRow, cX2_takeRow, 4, none)
abbrev mX6_set : zM := (yX6_set, cX6_set, 6, (some .int))
abbrev mX2_isRow : zM := (yX2_isRow, cX2_isRow, 1, (some .boolean))
abbrev mX2_isEmpty : zM := (yX2_isEmpty, cX2_isEmpty, 1, (some .boolean))
abbrev mX2_hasElement : zM := (yX2_hasElement, cX2_hasElement, 2, (some .boolean))
abbrev mX2_putElement : zM := (yX2_putElement, cX2_putElement, 4, none)
abbrev mX2_keptOf : zM := (yX2_keptOf, cX2_keptOf, 3, (some .long))
abbrev mX6_copy : zM := (yX6_copy, cX6_copy, 8, (some .int))
abbrev mX2_isBend : zM := (yX2_isBend, cX2_isBend, 1, (some .boolean))
abbrev mX2_hasElements : zM := (yX2_hasElements, cX2_hasElements, 3, (some .boolean))
abbrev mX2_takeElements : zM := (yX2_takeElements, cX2_takeElements, 5, none)
abbrev mX6_element : zM := (yX6_element, cX6_element, 4, (some .long))
abbrev mX2_elementAt : zM := (yX2_elementAt, cX2_elementAt, 2, (some .long))
abbrev mX6_holds : zM := (yX6_holds, cX6_holds, 3, (some .int))
abbrev mX6_show : zM := (yX6_show, cX6_show, 4, (some .int))
abbrev mX6_isBendOrNone : zM := (yX6_isBendOrNone, cX6_isBendOrNone, 2, (some .boolean))
abbrev mX3_has : zM := (yX3_has, cX3_has, 2, (some .boolean))
abbrev mX2_takeBend : zM := (yX2_takeBend, cX2_takeBend, 2, none)
abbrev mX6_says : zM := (yX6_says, cX6_says, 5, (some .int))
abbrev mX2_bendNumber : zM := (yX2_bendNumber, cX2_bendNumber, 1, (some .int))
abbrev mX3_at : zM := (yX3_at, cX3_at, 4, (some .int))
abbrev mX3_cellOf : zM := (yX3_cellOf, cX3_cellOf, 3, (some .int))
abbrev mX6_isUnder : zM := (yX6_isUnder, cX6_isUnder, 2, (some .boolean))
abbrev mX1_fallAt : zM := (yX1_fallAt, cX1_fallAt, 3, (some .int))
abbrev mX1_fallBy : zM := (yX1_fallBy, cX1_fallBy, 7, (some .int))
abbrev mX1_dryFall : zM := (yX1_dryFall, cX1_dryFall, 3, (some .int))
abbrev mJ9_min_7cf53 : zM := (yJ9_min_7cf53, cJ9_min_7cf53, 2, (some .int))
abbrev mX6_bend : zM := (yX6_bend, cX6_bend, 5, (some .int))
abbrev mX1_takes : zM := (yX1_takes, cX1_takes, 6, (some .boolean))
abbrev mX3_isFull : zM := (yX3_isFull, cX3_isFull, 1, (some .boolean))
abbrev mX1_addBend : zM := (yX1_addBend, cX1_addBend, 6, (some .int))
abbrev mX3_grow : zM := (yX3_grow, cX3_grow, 1, (some .int))
abbrev mX3_put : zM := (yX3_put, cX3_put, 5, none)
abbrev mX6_ask : zM := (yX6_ask, cX6_ask, 3, (some .int))
abbrev mX1_settle : zM := (yX1_settle, cX1_settle, 4, (some .int))
abbrev mX6_sign : zM := (yX6_sign, cX6_sign, 4, (some .int))
abbrev mX6_isSign : zM := (yX6_isSign, cX6_isSign, 3, (some .boolean))
abbrev mX1_addSign : zM := (yX1_addSign, cX1_addSign, 5, none)
abbrev mX6_anew : zM := (yX6_anew, cX6_anew, 2, (some .int))
abbrev mX1_forget : zM := (yX1_forget, cX1_forget, 2, none)
abbrev mX6_feed : zM := (yX6_feed, cX6_feed, 2, (some .int))
abbrev mX4_isFull : zM := (yX4_isFull, cX4_isFull, 1, (some .boolean))
abbrev mX4_write : zM := (yX4_write, cX4_write, 2, none)
abbrev mX6_wipe : zM := (yX6_wipe, cX6_wipe, 2, (some .int))
abbrev mX6_way : zM := (yX6_way, cX6_way, 2, (some .int))
abbrev mX1_takeFrom : zM := (yX1_takeFrom, cX1_takeFrom, 2, none)
abbrev mX3_takeFrom : zM := (yX3_takeFrom, cX3_takeFrom, 2, none)
abbrev mX4_readInto : zM := (yX4_readInto, cX4_readInto, 3, (some .int))
abbrev mX4_step : zM := (yX4_step, cX4_step, 1, none)
abbrev mX4_byteAt : zM := (yX4_byteAt, cX4_byteAt, 2, (some .int))
abbrev mX4_sortOf : zM := (yX4_sortOf, cX4_sortOf, 1, (some .int))
abbrev mX4_readStatement : zM := (yX4_readStatement, cX4_readStatement, 4, (some .boolean))
abbrev mX4_statementOf : zM := (yX4_statementOf, cX4_statementOf, 1, (some .int))
abbrev mX4_isWord : zM := (yX4_isWord, cX4_isWord, 3, (some .boolean))
abbrev mJ0_length_8abf5 : zM := (yJ0_length_8abf5, cJ0_length_8abf5, 1, (some .int))
abbrev mJ0_coder_7d493 : zM := (yJ0_coder_7d493, cJ0_coder_7d493, 1, (some .byte))
abbrev mJ0_charAt_5068e : zM := (yJ0_charAt_5068e, cJ0_charAt_5068e, 2, (some .char))
abbrev mJ0_isLatin1_aae02 : zM := (yJ0_isLatin1_aae02, cJ0_isLatin1_aae02, 1, (some .boolean))
abbrev mJ1_charAt_3b067 : zM := (yJ1_charAt_3b067, cJ1_charAt_3b067, 2, (some .char))
abbrev mJ0_checkIndex_df160 : zM := (yJ0_checkIndex_df160, cJ0_checkIndex_df160, 2, none)
abbrev mJ3_checkIndex_8e157 : zM := (yJ3_checkIndex_8e157, cJ3_checkIndex_8e157, 3, (some .int))
abbrev mJ2_charAt_3b067 : zM := (yJ2_charAt_3b067, cJ2_charAt_3b067, 2, (some .char))
abbrev mJ2_checkIndex_2214a : zM := (yJ2_checkIndex_2214a, cJ2_checkIndex_2214a, 2, none)
abbrev mJ2_length_9d52b : zM := (yJ2_length_9d52b, cJ2_length_9d52b, 1, (some .int))
abbrev mJ2_getChar_3b067 : zM := (yJ2_getChar_3b067, cJ2_getChar_3b067, 2, (some .char))
abbrev mX1_hasRoomFor : zM := (yX1_hasRoomFor, cX1_hasRoomFor, 2, (some .boolean))
abbrev mX1_numbersOf : zM := (yX1_numbersOf, cX1_numbersOf, 1, (some .int))
abbrev mX4_valueOf : zM := (yX4_valueOf, cX4_valueOf, 3, (some .int))
abbrev mX4_carryOut : zM := (yX4_carryOut, cX4_carryOut, 3, none)
abbrev mX1_addCall : zM := (yX1_addCall, cX1_addCall, 5, (some .int))
abbrev mX1_lookInVain : zM := (yX1_lookInVain, cX1_lookInVain, 3, none)
abbrev mX6_missBehind : zM := (yX6_missBehind, cX6_missBehind, 2, (some .int))
abbrev mX6_seenBy : zM := (yX6_seenBy, cX6_seenBy, 1, (some .int))
abbrev mX6_bendOf : zM := (yX6_bendOf, cX6_bendOf, 3, (some .int))
abbrev mX1_yardsTo : zM := (yX1_yardsTo, cX1_yardsTo, 4, (some .int))
abbrev mX6_signOf : zM := (yX6_signOf, cX6_signOf, 3, (some .int))
abbrev mX6_call : zM := (yX6_call, cX6_call, 4, (some .int))
abbrev mX6_callOf : zM := (yX6_callOf, cX6_callOf, 3, (some .int))
abbrev mX6_fall : zM := (yX6_fall, cX6_fall, 3, (some .int))
abbrev mX6_fell : zM := (yX6_fell, cX6_fell, 3, (some .int))
abbrev mX1_fellAt : zM := (yX1_fellAt, cX1_fellAt, 6, (some .int))
abbrev mX6_weight : zM := (yX6_weight, cX6_weight, 2, (some .int))
abbrev mX5_weigh : zM := (yX5_weigh, cX5_weigh, 3, none)
abbrev mX5_heed : zM := (yX5_heed, cX5_heed, 6, none)
abbrev mX5_at : zM := (yX5_at, cX5_at, 2, (some .int))
abbrev mX6_likely : zM := (yX6_likely, cX6_likely, 2, (some .int))
abbrev mX6_thousandthsOfAll : zM := (yX6_thousandthsOfAll, cX6_thousandthsOfAll, 3, (some .int))
abbrev mX5_all : zM := (yX5_all, cX5_all, 1, (some .int))
abbrev mX5_sum : zM := (yX5_sum, cX5_sum, 5, (some .int))
abbrev mX6_between : zM := (yX6_between, cX6_between, 3, (some .int))
abbrev mX6_half : zM := (yX6_half, cX6_half, 3, (some .int))
abbrev mX6_few : zM := (yX6_few, cX6_few, 2, (some .int))
abbrev mX5_fewestFor : zM := (yX5_fewestFor, cX5_fewestFor, 9, (some .int))
abbrev mX5_greatestBut : zM := (yX5_greatestBut, cX5_greatestBut, 4, (some .int))
abbrev mX6_isIn : zM := (yX6_isIn, cX6_isIn, 2, (some .boolean))
abbrev mX6_asks : zM := (yX6_asks, cX6_asks, 1, (some .int))
abbrev mX5_evenestBend : zM := (yX5_evenestBend, cX5_evenestBend, 4, (some .int))
abbrev mJ9_abs_0f7a4 : zM := (yJ9_abs_0f7a4, cJ9_abs_0f7a4, 1, (some .int))
abbrev mX6_after : zM := (yX6_after, cX6_after, 4, (some .int))
abbrev mX6_where : zM := (yX6_where, cX6_where, 1, (some .int))
abbrev mX6_last : zM := (yX6_last, cX6_last, 2, (some .int))
abbrev mX6_worst : zM := (yX6_worst, cX6_worst, 3, (some .int))
abbrev mX6_seconds : zM := (yX6_seconds, cX6_seconds, 3, (some .int))
abbrev mX6_isLookAt : zM := (yX6_isLookAt, cX6_isLookAt, 3, (some .boolean))
abbrev mX6_isLook : zM := (yX6_isLook, cX6_isLook, 1, (some .boolean))
abbrev mX1_secondsOf : zM := (yX1_secondsOf, cX1_secondsOf, 4, (some .int))
abbrev mX6_found : zM := (yX6_found, cX6_found, 3, (some .int))
abbrev mX5_foundBy : zM := (yX5_foundBy, cX5_foundBy, 3, (some .int))
abbrev mX6_best : zM := (yX6_best, cX6_best, 4, (some .int))
abbrev mX0_make : zM := (yX0_make, cX0_make, 7, none)
abbrev mX0_chooseLook : zM := (yX0_chooseLook, cX0_chooseLook, 7, none)
abbrev mX0_foundIn : zM := (yX0_foundIn, cX0_foundIn, 2, (some .int))
abbrev mX0_lookIn : zM := (yX0_lookIn, cX0_lookIn, 3, (some .int))
abbrev mX6_next : zM := (yX6_next, cX6_next, 1, (some .int))
abbrev mX5_nextLook : zM := (yX5_nextLook, cX5_nextLook, 9, (some .int))
abbrev mX5_rateOf : zM := (yX5_rateOf, cX5_rateOf, 5, (some .long))
abbrev mX6_soonest : zM := (yX6_soonest, cX6_soonest, 3, (some .int))
abbrev mX6_order : zM := (yX6_order, cX6_order, 2, (some .int))
abbrev mX5_lookOnInVain : zM := (yX5_lookOnInVain, cX5_lookOnInVain, 5, none)
abbrev mX5_lookInVain : zM := (yX5_lookInVain, cX5_lookInVain, 3, none)
abbrev mX6_vain : zM := (yX6_vain, cX6_vain, 2, (some .int))
abbrev mX6_others : zM := (yX6_others, cX6_others, 4, (some .int))
abbrev mX6_goneBy : zM := (yX6_goneBy, cX6_goneBy, 5, (some .int))
abbrev mX6_fast : zM := (yX6_fast, cX6_fast, 3, (some .int))
abbrev mX1_heldBy : zM := (yX1_heldBy, cX1_heldBy, 6, (some .int))
abbrev mX6_drove : zM := (yX6_drove, cX6_drove, 4, (some .int))
abbrev mX6_gripFor : zM := (yX6_gripFor, cX6_gripFor, 3, (some .int))
abbrev mX6_otherwise : zM := (yX6_otherwise, cX6_otherwise, 1, (some .int))
abbrev mX6_slows : zM := (yX6_slows, cX6_slows, 7, (some .int))
abbrev mJ6_bitCount_0f7a4 : zM := (yJ6_bitCount_0f7a4, cJ6_bitCount_0f7a4, 1, (some .int))
abbrev mX1_heldWith : zM := (yX1_heldWith, cX1_heldWith, 5, (some .int))
abbrev mX6_without : zM := (yX6_without, cX6_without, 2, (some .int))
abbrev mX6_once : zM := (yX6_once, cX6_once, 5, (some .int))
abbrev mX6_heldNow : zM := (yX6_heldNow, cX6_heldNow, 1, (some .int))
abbrev mX6_afterTrip : zM := (yX6_afterTrip, cX6_afterTrip, 2, (some .int))
abbrev mX6_until : zM := (yX6_until, cX6_until, 5, (some .int))
abbrev mX6_worth : zM := (yX6_worth, cX6_worth, 6, (some .int))
abbrev mX6_hears : zM := (yX6_hears, cX6_hears, 2, (some .int))
abbrev mX6_heardBy : zM := (yX6_heardBy, cX6_heardBy, 6, (some .int))
abbrev mX6_rings : zM := (yX6_rings, cX6_rings, 7, (some .int))
abbrev mX6_minutesOf : zM := (yX6_minutesOf, cX6_minutesOf, 4, (some .int))
abbrev mX6_heardBySet : zM := (yX6_heardBySet, cX6_heardBySet, 4, (some .int))
abbrev mX6_judge : zM := (yX6_judge, cX6_judge, 5, (some .int))
abbrev mX2_refusalOfTold : zM := (yX2_refusalOfTold, cX2_refusalOfTold, 2, (some .int))
abbrev mX6_wrongPiece : zM := (yX6_wrongPiece, cX6_wrongPiece, 8, (some .int))
abbrev mX6_apart : zM := (yX6_apart, cX6_apart, 8, (some .int))
abbrev mX6_search : zM := (yX6_search, cX6_search, 11, (some .int))
abbrev mX6_isToldLook : zM := (yX6_isToldLook, cX6_isToldLook, 3, (some .boolean))
abbrev mX6_lies : zM := (yX6_lies, cX6_lies, 3, (some .int))
abbrev mX6_drive : zM := (yX6_drive, cX6_drive, 1, (some .int))
abbrev mX1_driveInTruth : zM := (yX1_driveInTruth, cX1_driveInTruth, 2, (some .int))
abbrev mX1_draw : zM := (yX1_draw, cX1_draw, 2, (some .int))
abbrev mX6_look : zM := (yX6_look, cX6_look, 3, (some .int))
abbrev mX1_lookInTruth : zM := (yX1_lookInTruth, cX1_lookInTruth, 3, (some .int))
abbrev mX6_trips : zM := (yX6_trips, cX6_trips, 4, (some .int))
abbrev mX6_seed : zM := (yX6_seed, cX6_seed, 3, (some .int))
abbrev mX6_image : zM := (yX6_image, cX6_image, 1, (some .int))
abbrev mX6_back : zM := (yX6_back, cX6_back, 3, (some .int))
abbrev mX6_status : zM := (yX6_status, cX6_status, 2, (some .int))
abbrev mX6_refused : zM := (yX6_refused, cX6_refused, 2, (some .int))
abbrev mX6_fullShelves : zM := (yX6_fullShelves, cX6_fullShelves, 4, (some .int))
abbrev mX1_bendsLookedAt : zM := (yX1_bendsLookedAt, cX1_bendsLookedAt, 3, (some .int))
abbrev mX7_init : zM := (yX7_init, cX7_init, 1, none)
abbrev mX7_row : zM := (yX7_row, cX7_row, 5, (some .int))
abbrev mX7_in : zM := (yX7_in, cX7_in, 6, (some .boolean))
abbrev mX7_refuse : zM := (yX7_refuse, cX7_refuse, 2, (some .int))
abbrev mX7_set : zM := (yX7_set, cX7_set, 6, (some .int))
abbrev mX7_noRow : zM := (yX7_noRow, cX7_noRow, 2, (some .int))
abbrev mX7_fit : zM := (yX7_fit, cX7_fit, 3, (some .long))
abbrev mX7_copy : zM := (yX7_copy, cX7_copy, 7, (some .int))
abbrev mX7_element : zM := (yX7_element, cX7_element, 3, (some .long))
abbrev mX7_holds : zM := (yX7_holds, cX7_holds, 2, (some .int))
abbrev mX7_show : zM := (yX7_show, cX7_show, 3, (some .int))
abbrev mX7_isBend : zM := (yX7_isBend, cX7_isBend, 3, (some .boolean))
abbrev mX7_says : zM := (yX7_says, cX7_says, 4, (some .int))
abbrev mX7_isUnder : zM := (yX7_isUnder, cX7_isUnder, 2, (some .boolean))
abbrev mX7_fallOf : zM := (yX7_fallOf, cX7_fallOf, 6, (some .int))
abbrev mX7_bend : zM := (yX7_bend, cX7_bend, 5, (some .int))
abbrev mX7_addBend : zM := (yX7_addBend, cX7_addBend, 5, none)
abbrev mX7_ask : zM := (yX7_ask, cX7_ask, 5, (some .int))
abbrev mX7_sign : zM := (yX7_sign, cX7_sign, 4, (some .int))
abbrev mX7_addSign : zM := (yX7_addSign, cX7_addSign, 4, none)
abbrev mX7_anew : zM := (yX7_anew, cX7_anew, 1, (some .int))
abbrev mX7_noSigns : zM := (yX7_noSigns, cX7_noSigns, 3, (some .int))
abbrev mX7_call : zM := (yX7_call, cX7_call, 4, (some .int))
abbrev mX7_addCall : zM := (yX7_addCall, cX7_addCall, 4, none)
abbrev mX7_feed : zM := (yX7_feed, cX7_feed, 2, (some .int))
abbrev mX7_wipe : zM := (yX7_wipe, cX7_wipe, 2, (some .int))
abbrev mX7_way : zM := (yX7_way, cX7_way, 3, (some .int))
abbrev mX7_fresh : zM := (yX7_fresh, cX7_fresh, 1, (some (FieldType.object "OnTheRoofModel")))
abbrev mX7_takeFrom : zM := (yX7_takeFrom, cX7_takeFrom, 2, none)
abbrev mX7_copied : zM := (yX7_copied, cX7_copied, 3, none)
abbrev mX7_readAll : zM := (yX7_readAll, cX7_readAll, 1, (some .boolean))
abbrev mX7_token : zM := (yX7_token, cX7_token, 1, none)
abbrev mX7_isLetter : zM := (yX7_isLetter, cX7_isLetter, 1, (some .boolean))
abbrev mX7_isDigit : zM := (yX7_isDigit, cX7_isDigit, 1, (some .boolean))
abbrev mX7_statement : zM := (yX7_statement, cX7_statement, 2, (some .boolean))
abbrev mX7_isWord : zM := (yX7_isWord, cX7_isWord, 3, (some .boolean))
abbrev mX7_tells : zM := (yX7_tells, cX7_tells, 3, (some .boolean))
abbrev mX7_number : zM := (yX7_number, cX7_number, 4, (some .boolean))
abbrev mX7_wrong : zM := (yX7_wrong, cX7_wrong, 1, (some .boolean))
abbrev mX7_asked : zM := (yX7_asked, cX7_asked, 4, (some .boolean))
abbrev mX7_misses : zM := (yX7_misses, cX7_misses, 3, none)
abbrev mX7_sees : zM := (yX7_sees, cX7_sees, 1, (some .int))
abbrev mX7_part : zM := (yX7_part, cX7_part, 2, (some .int))
abbrev mX7_bendOf : zM := (yX7_bendOf, cX7_bendOf, 3, (some .int))
abbrev mX7_yardsTo : zM := (yX7_yardsTo, cX7_yardsTo, 4, (some .int))
abbrev mX7_signOf : zM := (yX7_signOf, cX7_signOf, 3, (some .int))
abbrev mX7_callOf : zM := (yX7_callOf, cX7_callOf, 3, (some .int))
abbrev mX7_fall : zM := (yX7_fall, cX7_fall, 3, (some .int))
abbrev mX7_fell : zM := (yX7_fell, cX7_fell, 3, (some .int))
abbrev mX7_goes : zM := (yX7_goes, cX7_goes, 6, none)
abbrev mX7_has : zM := (yX7_has, cX7_has, 2, (some .boolean))
abbrev mX7_weight : zM := (yX7_weight, cX7_weight, 2, (some .int))
abbrev mX7_weigh : zM := (yX7_weigh, cX7_weigh, 4, none)
abbrev mX7_likely : zM := (yX7_likely, cX7_likely, 2, (some .int))
abbrev mX7_thousandths : zM := (yX7_thousandths, cX7_thousandths, 3, (some .int))
abbrev mX7_between : zM := (yX7_between, cX7_between, 3, (some .int))
abbrev mX7_sumOf : zM := (yX7_sumOf, cX7_sumOf, 5, (some .int))
abbrev mX7_half : zM := (yX7_half, cX7_half, 2, (some .int))
abbrev mX7_few : zM := (yX7_few, cX7_few, 10, (some .int))
abbrev mX7_asks : zM := (yX7_asks, cX7_asks, 5, (some .int))
abbrev mX7_after : zM := (yX7_after, cX7_after, 4, (some .int))
abbrev mX7_where : zM := (yX7_where, cX7_where, 3, (some .int))
abbrev mX7_seconds : zM := (yX7_seconds, cX7_seconds, 3, (some .int))
abbrev mX7_isLook : zM := (yX7_isLook, cX7_isLook, 1, (some .boolean))
abbrev mX7_secondsOf : zM := (yX7_secondsOf, cX7_secondsOf, 3, (some .int))
abbrev mX7_found : zM := (yX7_found, cX7_found, 3, (some .int))
abbrev mX7_foundBy : zM := (yX7_foundBy, cX7_foundBy, 3, (some .int))
abbrev mX7_best : zM := (yX7_best, cX7_best, 6, (some .int))
abbrev mX7_findMost : zM := (yX7_findMost, cX7_findMost, 6, none)
abbrev mX7_mostBy : zM := (yX7_mostBy, cX7_mostBy, 5, (some .int))
abbrev mX7_tensOf : zM := (yX7_tensOf, cX7_tensOf, 3, (some .int))
abbrev mX7_next : zM := (yX7_next, cX7_next, 1, (some .int))
abbrev mX7_nextNow : zM := (yX7_nextNow, cX7_nextNow, 8, (some .int))
abbrev mX7_soonest : zM := (yX7_soonest, cX7_soonest, 3, (some .int))
abbrev mX7_order : zM := (yX7_order, cX7_order, 2, (some .int))
abbrev mX7_vainly : zM := (yX7_vainly, cX7_vainly, 5, (some (FieldType.object "OnTheRoofModel")))
abbrev mX7_vain : zM := (yX7_vain, cX7_vain, 2, (some .int))
abbrev mX7_others : zM := (yX7_others, cX7_others, 6, (some .int))
abbrev mX7_fast : zM := (yX7_fast, cX7_fast, 4, (some .int))
abbrev mX7_heldBy : zM := (yX7_heldBy, cX7_heldBy, 2, (some .int))
abbrev mX7_drove : zM := (yX7_drove, cX7_drove, 5, (some .int))
abbrev mX7_gripFor : zM := (yX7_gripFor, cX7_gripFor, 4, (some .int))
abbrev mX7_otherwise : zM := (yX7_otherwise, cX7_otherwise, 2, (some .int))
abbrev mX7_slows : zM := (yX7_slows, cX7_slows, 5, (some .int))
abbrev mX7_bits : zM := (yX7_bits, cX7_bits, 3, (some .int))
abbrev mX7_without : zM := (yX7_without, cX7_without, 2, (some .int))
abbrev mX7_once : zM := (yX7_once, cX7_once, 7, (some .int))
abbrev mX7_until : zM := (yX7_until, cX7_until, 7, (some .int))
abbrev mX7_worst : zM := (yX7_worst, cX7_worst, 3, (some .int))
abbrev mX7_last : zM := (yX7_last, cX7_last, 3, (some .int))
abbrev mX7_hears : zM := (yX7_hears, cX7_hears, 2, (some .int))
abbrev mX7_hearsOf : zM := (yX7_hearsOf, cX7_hearsOf, 4, (some .int))
abbrev mX7_rings : zM := (yX7_rings, cX7_rings, 8, (some .int))
abbrev mX7_worth : zM := (yX7_worth, cX7_worth, 6, (some .int))
abbrev mX7_judge : zM := (yX7_judge, cX7_judge, 4, (some .int))
abbrev mX7_noList : zM := (yX7_noList, cX7_noList, 4, (some .int))
abbrev mX7_wrongIn : zM := (yX7_wrongIn, cX7_wrongIn, 4, (some .int))
abbrev mX7_apart : zM := (yX7_apart, cX7_apart, 7, (some .int))
abbrev mX7_search : zM := (yX7_search, cX7_search, 11, (some .int))
abbrev mX7_areLooks : zM := (yX7_areLooks, cX7_areLooks, 4, (some .boolean))
abbrev mX7_lies : zM := (yX7_lies, cX7_lies, 3, (some .int))
abbrev mX7_drive : zM := (yX7_drive, cX7_drive, 1, (some .int))
abbrev mX7_driven : zM := (yX7_driven, cX7_driven, 2, (some .int))
abbrev mX7_below : zM := (yX7_below, cX7_below, 2, (some .int))
abbrev mX7_look : zM := (yX7_look, cX7_look, 3, (some .int))
abbrev mX7_trips : zM := (yX7_trips, cX7_trips, 4, (some .int))
abbrev mX7_seed : zM := (yX7_seed, cX7_seed, 3, (some .int))
abbrev mX7_image : zM := (yX7_image, cX7_image, 1, (some .int))
abbrev mX7_back : zM := (yX7_back, cX7_back, 2, (some .int))
abbrev mX7_status : zM := (yX7_status, cX7_status, 4, (some .int))
abbrev mX7_looked : zM := (yX7_looked, cX7_looked, 3, (some .int))
theorem zpX6_init : zPay mX6_init 0 := ⟨zin1 (i := 20) rfl rfl, zin1 (i := 1) rfl rfl, by decide +kernel, by decide⟩
theorem zpX1_init : zPay mX1_init 0 := ⟨zin1 (i := 28) rfl rfl, zin1 (i := 2) rfl rfl, by decide +kernel, by decide⟩
theorem zpX3_init : zPay mX3_init 2 := ⟨zin1 (i := 34) rfl rfl, zin1 (i := 3) rfl rfl, by decide +kernel, by decide⟩
theorem zpJ9_max_7cf53 : zPay mJ9_max_7cf53 2 := ⟨zin1 (i := 38) rfl rfl, zin1 (i := 4) rfl rfl, by decide +kernel, by decide⟩
theorem zpX5_init : zPay mX5_init 0 := ⟨zin1 (i := 93) rfl rfl, zin1 (i := 5) rfl rfl, by decide +kernel, by decide⟩
theorem zpX0_init : zPay mX0_init 0 := ⟨zin1 (i := 113) rfl rfl, zin1 (i := 6) rfl rfl, by decide +kernel, by decide⟩
theorem zpX4_init : zPay mX4_init 0 := ⟨zin1 (i := 132) rfl rfl, zin1 (i := 7) rfl rfl, by decide +kernel, by decide⟩
theorem zpX2_init : zPay mX2_init 0 := ⟨zin1 (i := 159) rfl rfl, zin1 (i := 8) rfl rfl, by decide +kernel, by decide⟩
theorem zpX6_row : zPay mX6_row 3 := ⟨zin1 (i := 204) rfl rfl, zin1 (i := 1) rfl rfl, by decide +kernel, by decide⟩
theorem zpX6_shelfAt : zPay mX6_shelfAt 1 := ⟨zin1 (i := 208) rfl rfl, zin1 (i := 1) rfl rfl, by decide +kernel, by decide⟩
theorem zpX6_isWithin : zPay mX6_isWithin 3 := ⟨zin1 (i := 211) rfl rfl, zin1 (i := 1) rfl rfl, by decide +kernel, by decide⟩
theorem zpX6_refuse : zPay mX6_refuse 1 := ⟨zin1 (i := 215) rfl rfl, zin1 (i := 1) rfl rfl, by decide +kernel, by decide⟩
theorem zpX2_takeRow : zPay mX2_takeRow 2 := ⟨zin1 (i := 219) rfl rfl, zin1 (i := 8) rfl rfl, by decide +kernel, by decide⟩
theorem zpX6_set : zPay mX6_set 3 := ⟨zin1 (i := 223) rfl rfl, zin1 (i := 1) rfl rfl, by decide +kernel, by decide⟩
theorem zpX2_isRow : zPay mX2_isRow 0 := ⟨zin1 (i := 227) rfl rfl, zin1 (i := 8) rfl rfl, by decide +kernel, by decide⟩
theorem zpX2_isEmpty : zPay mX2_isEmpty 0 := ⟨zin1 (i := 231) rfl rfl, zin1 (i := 8) rfl rfl, by decide +kernel, by decide⟩
theorem zpX2_hasElement : zPay mX2_hasElement 1 := ⟨zin1 (i := 235) rfl rfl, zin1 (i := 8) rfl rfl, by decide +kernel, by decide⟩
theorem zpX2_putElement : zPay mX2_putElement 2 := ⟨zin2 (i := 0) rfl rfl, zin1 (i := 8) rfl rfl, by decide +kernel, by decide⟩
theorem zpX2_keptOf : zPay mX2_keptOf 1 := ⟨zin2 (i := 5) rfl rfl, zin1 (i := 8) rfl rfl, by decide +kernel, by decide⟩
theorem zpX6_copy : zPay mX6_copy 5 := ⟨zin2 (i := 9) rfl rfl, zin1 (i := 1) rfl rfl, by decide +kernel, by decide⟩
theorem zpX2_isBend : zPay mX2_isBend 0 := ⟨zin2 (i := 13) rfl rfl, zin1 (i := 8) rfl rfl, by decide +kernel, by decide⟩
theorem zpX2_hasElements : zPay mX2_hasElements 2 := ⟨zin2 (i := 17) rfl rfl, zin1 (i := 8) rfl rfl, by decide +kernel, by decide⟩
theorem zpX2_takeElements : zPay mX2_takeElements 4 := ⟨zin2 (i := 21) rfl rfl, zin1 (i := 8) rfl rfl, by decide +kernel, by decide⟩
theorem zpX6_element : zPay mX6_element 2 := ⟨zin2 (i := 29) rfl rfl, zin1 (i := 1) rfl rfl, by decide +kernel, by decide⟩
theorem zpX2_elementAt : zPay mX2_elementAt 1 := ⟨zin2 (i := 33) rfl rfl, zin1 (i := 8) rfl rfl, by decide +kernel, by decide⟩
theorem zpX6_holds : zPay mX6_holds 1 := ⟨zin2 (i := 37) rfl rfl, zin1 (i := 1) rfl rfl, by decide +kernel, by decide⟩
theorem zpX6_show : zPay mX6_show 2 := ⟨zin2 (i := 41) rfl rfl, zin1 (i := 1) rfl rfl, by decide +kernel, by decide⟩
theorem zpX6_isBendOrNone : zPay mX6_isBendOrNone 1 := ⟨zin2 (i := 45) rfl rfl, zin1 (i := 1) rfl rfl, by decide +kernel, by decide⟩
theorem zpX3_has : zPay mX3_has 1 := ⟨zin2 (i := 49) rfl rfl, zin1 (i := 3) rfl rfl, by decide +kernel, by decide⟩
theorem zpX2_takeBend : zPay mX2_takeBend 1 := ⟨zin2 (i := 53) rfl rfl, zin1 (i := 8) rfl rfl, by decide +kernel, by decide⟩
theorem zpX6_says : zPay mX6_says 2 := ⟨zin2 (i := 57) rfl rfl, zin1 (i := 1) rfl rfl, by decide +kernel, by decide⟩
theorem zpX2_bendNumber : zPay mX2_bendNumber 0 := ⟨zin2 (i := 61) rfl rfl, zin1 (i := 8) rfl rfl, by decide +kernel, by decide⟩
theorem zpX3_at : zPay mX3_at 2 := ⟨zin2 (i := 66) rfl rfl, zin1 (i := 3) rfl rfl, by decide +kernel, by decide⟩
theorem zpX3_cellOf : zPay mX3_cellOf 2 := ⟨zin2 (i := 70) rfl rfl, zin1 (i := 3) rfl rfl, by decide +kernel, by decide⟩
theorem zpX6_isUnder : zPay mX6_isUnder 2 := ⟨zin2 (i := 73) rfl rfl, zin1 (i := 1) rfl rfl, by decide +kernel, by decide⟩
theorem zpX1_fallAt : zPay mX1_fallAt 2 := ⟨zin2 (i := 77) rfl rfl, zin1 (i := 2) rfl rfl, by decide +kernel, by decide⟩
theorem zpX1_fallBy : zPay mX1_fallBy 4 := ⟨zin2 (i := 81) rfl rfl, zin1 (i := 2) rfl rfl, by decide +kernel, by decide⟩
theorem zpX1_dryFall : zPay mX1_dryFall 3 := ⟨zin2 (i := 85) rfl rfl, zin1 (i := 2) rfl rfl, by decide +kernel, by decide⟩
theorem zpJ9_min_7cf53 : zPay mJ9_min_7cf53 2 := ⟨zin2 (i := 88) rfl rfl, zin1 (i := 4) rfl rfl, by decide +kernel, by decide⟩
theorem zpX6_bend : zPay mX6_bend 4 := ⟨zin2 (i := 93) rfl rfl, zin1 (i := 1) rfl rfl, by decide +kernel, by decide⟩
theorem zpX1_takes : zPay mX1_takes 3 := ⟨zin2 (i := 97) rfl rfl, zin1 (i := 2) rfl rfl, by decide +kernel, by decide⟩
theorem zpX3_isFull : zPay mX3_isFull 0 := ⟨zin2 (i := 105) rfl rfl, zin1 (i := 3) rfl rfl, by decide +kernel, by decide⟩
theorem zpX1_addBend : zPay mX1_addBend 4 := ⟨zin2 (i := 109) rfl rfl, zin1 (i := 2) rfl rfl, by decide +kernel, by decide⟩
theorem zpX3_grow : zPay mX3_grow 0 := ⟨zin2 (i := 113) rfl rfl, zin1 (i := 3) rfl rfl, by decide +kernel, by decide⟩
theorem zpX3_put : zPay mX3_put 3 := ⟨zin2 (i := 118) rfl rfl, zin1 (i := 3) rfl rfl, by decide +kernel, by decide⟩
theorem zpX6_ask : zPay mX6_ask 2 := ⟨zin2 (i := 122) rfl rfl, zin1 (i := 1) rfl rfl, by decide +kernel, by decide⟩
theorem zpX1_settle : zPay mX1_settle 2 := ⟨zin2 (i := 126) rfl rfl, zin1 (i := 2) rfl rfl, by decide +kernel, by decide⟩
theorem zpX6_sign : zPay mX6_sign 3 := ⟨zin2 (i := 130) rfl rfl, zin1 (i := 1) rfl rfl, by decide +kernel, by decide⟩
theorem zpX6_isSign : zPay mX6_isSign 2 := ⟨zin2 (i := 134) rfl rfl, zin1 (i := 1) rfl rfl, by decide +kernel, by decide⟩
theorem zpX1_addSign : zPay mX1_addSign 3 := ⟨zin2 (i := 138) rfl rfl, zin1 (i := 2) rfl rfl, by decide +kernel, by decide⟩
theorem zpX6_anew : zPay mX6_anew 0 := ⟨zin2 (i := 142) rfl rfl, zin1 (i := 1) rfl rfl, by decide +kernel, by decide⟩
theorem zpX1_forget : zPay mX1_forget 0 := ⟨zin2 (i := 146) rfl rfl, zin1 (i := 2) rfl rfl, by decide +kernel, by decide⟩
theorem zpX6_feed : zPay mX6_feed 1 := ⟨zin2 (i := 150) rfl rfl, zin1 (i := 1) rfl rfl, by decide +kernel, by decide⟩
theorem zpX4_isFull : zPay mX4_isFull 0 := ⟨zin2 (i := 154) rfl rfl, zin1 (i := 7) rfl rfl, by decide +kernel, by decide⟩
theorem zpX4_write : zPay mX4_write 1 := ⟨zin2 (i := 158) rfl rfl, zin1 (i := 7) rfl rfl, by decide +kernel, by decide⟩
theorem zpX6_wipe : zPay mX6_wipe 0 := ⟨zin2 (i := 162) rfl rfl, zin1 (i := 1) rfl rfl, by decide +kernel, by decide⟩
theorem zpX6_way : zPay mX6_way 0 := ⟨zin2 (i := 166) rfl rfl, zin1 (i := 1) rfl rfl, by decide +kernel, by decide⟩
theorem zpX1_takeFrom : zPay mX1_takeFrom 1 := ⟨zin2 (i := 170) rfl rfl, zin1 (i := 2) rfl rfl, by decide +kernel, by decide⟩
theorem zpX3_takeFrom : zPay mX3_takeFrom 1 := ⟨zin2 (i := 174) rfl rfl, zin1 (i := 3) rfl rfl, by decide +kernel, by decide⟩
theorem zpX4_readInto : zPay mX4_readInto 1 := ⟨zin2 (i := 180) rfl rfl, zin1 (i := 7) rfl rfl, by decide +kernel, by decide⟩
theorem zpX4_step : zPay mX4_step 0 := ⟨zin2 (i := 184) rfl rfl, zin1 (i := 7) rfl rfl, by decide +kernel, by decide⟩
theorem zpX4_byteAt : zPay mX4_byteAt 1 := ⟨zin2 (i := 188) rfl rfl, zin1 (i := 7) rfl rfl, by decide +kernel, by decide⟩
theorem zpX4_sortOf : zPay mX4_sortOf 1 := ⟨zin2 (i := 191) rfl rfl, zin1 (i := 7) rfl rfl, by decide +kernel, by decide⟩
theorem zpX4_readStatement : zPay mX4_readStatement 1 := ⟨zin2 (i := 195) rfl rfl, zin1 (i := 7) rfl rfl, by decide +kernel, by decide⟩
theorem zpX4_statementOf : zPay mX4_statementOf 0 := ⟨zin2 (i := 199) rfl rfl, zin1 (i := 7) rfl rfl, by decide +kernel, by decide⟩
theorem zpX4_isWord : zPay mX4_isWord 1 := ⟨zin2 (i := 204) rfl rfl, zin1 (i := 7) rfl rfl, by decide +kernel, by decide⟩
theorem zpJ0_length_8abf5 : zPay mJ0_length_8abf5 0 := ⟨zin2 (i := 208) rfl rfl, zin1 (i := 11) rfl rfl, by decide +kernel, by decide⟩
theorem zpJ0_coder_7d493 : zPay mJ0_coder_7d493 0 := ⟨zin2 (i := 212) rfl rfl, zin1 (i := 11) rfl rfl, by decide +kernel, by decide⟩
theorem zpJ0_charAt_5068e : zPay mJ0_charAt_5068e 1 := ⟨zin2 (i := 218) rfl rfl, zin1 (i := 11) rfl rfl, by decide +kernel, by decide⟩
theorem zpJ0_isLatin1_aae02 : zPay mJ0_isLatin1_aae02 0 := ⟨zin2 (i := 222) rfl rfl, zin1 (i := 11) rfl rfl, by decide +kernel, by decide⟩
theorem zpJ1_charAt_3b067 : zPay mJ1_charAt_3b067 2 := ⟨zin2 (i := 225) rfl rfl, zin1 (i := 12) rfl rfl, by decide +kernel, by decide⟩
theorem zpJ0_checkIndex_df160 : zPay mJ0_checkIndex_df160 2 := ⟨zin2 (i := 228) rfl rfl, zin1 (i := 11) rfl rfl, by decide +kernel, by decide⟩
theorem zpJ3_checkIndex_8e157 : zPay mJ3_checkIndex_8e157 3 := ⟨zin2 (i := 233) rfl rfl, zin1 (i := 13) rfl rfl, by decide +kernel, by decide⟩
theorem zpJ2_charAt_3b067 : zPay mJ2_charAt_3b067 2 := ⟨zin2 (i := 236) rfl rfl, zin1 (i := 14) rfl rfl, by decide +kernel, by decide⟩
theorem zpJ2_checkIndex_2214a : zPay mJ2_checkIndex_2214a 2 := ⟨zin2 (i := 239) rfl rfl, zin1 (i := 14) rfl rfl, by decide +kernel, by decide⟩
theorem zpJ2_length_9d52b : zPay mJ2_length_9d52b 1 := ⟨zin3 (i := 2) rfl rfl, zin1 (i := 14) rfl rfl, by decide +kernel, by decide⟩
theorem zpJ2_getChar_3b067 : zPay mJ2_getChar_3b067 2 := ⟨zin3 (i := 6) rfl rfl, zin1 (i := 14) rfl rfl, by decide +kernel, by decide⟩
theorem zpX1_hasRoomFor : zPay mX1_hasRoomFor 1 := ⟨zin3 (i := 23) rfl rfl, zin1 (i := 2) rfl rfl, by decide +kernel, by decide⟩
theorem zpX1_numbersOf : zPay mX1_numbersOf 1 := ⟨zin3 (i := 27) rfl rfl, zin1 (i := 2) rfl rfl, by decide +kernel, by decide⟩
theorem zpX4_valueOf : zPay mX4_valueOf 0 := ⟨zin3 (i := 33) rfl rfl, zin1 (i := 7) rfl rfl, by decide +kernel, by decide⟩
theorem zpX4_carryOut : zPay mX4_carryOut 2 := ⟨zin3 (i := 38) rfl rfl, zin1 (i := 7) rfl rfl, by decide +kernel, by decide⟩
theorem zpX1_addCall : zPay mX1_addCall 3 := ⟨zin3 (i := 44) rfl rfl, zin1 (i := 2) rfl rfl, by decide +kernel, by decide⟩
theorem zpX1_lookInVain : zPay mX1_lookInVain 2 := ⟨zin3 (i := 48) rfl rfl, zin1 (i := 2) rfl rfl, by decide +kernel, by decide⟩
theorem zpX6_missBehind : zPay mX6_missBehind 2 := ⟨zin3 (i := 51) rfl rfl, zin1 (i := 1) rfl rfl, by decide +kernel, by decide⟩
theorem zpX6_seenBy : zPay mX6_seenBy 1 := ⟨zin3 (i := 54) rfl rfl, zin1 (i := 1) rfl rfl, by decide +kernel, by decide⟩
theorem zpX6_bendOf : zPay mX6_bendOf 2 := ⟨zin3 (i := 60) rfl rfl, zin1 (i := 1) rfl rfl, by decide +kernel, by decide⟩
theorem zpX1_yardsTo : zPay mX1_yardsTo 1 := ⟨zin3 (i := 64) rfl rfl, zin1 (i := 2) rfl rfl, by decide +kernel, by decide⟩
theorem zpX6_signOf : zPay mX6_signOf 2 := ⟨zin3 (i := 68) rfl rfl, zin1 (i := 1) rfl rfl, by decide +kernel, by decide⟩
theorem zpX6_call : zPay mX6_call 3 := ⟨zin3 (i := 72) rfl rfl, zin1 (i := 1) rfl rfl, by decide +kernel, by decide⟩
theorem zpX6_callOf : zPay mX6_callOf 2 := ⟨zin3 (i := 77) rfl rfl, zin1 (i := 1) rfl rfl, by decide +kernel, by decide⟩
theorem zpX6_fall : zPay mX6_fall 2 := ⟨zin3 (i := 81) rfl rfl, zin1 (i := 1) rfl rfl, by decide +kernel, by decide⟩
theorem zpX6_fell : zPay mX6_fell 2 := ⟨zin3 (i := 85) rfl rfl, zin1 (i := 1) rfl rfl, by decide +kernel, by decide⟩
theorem zpX1_fellAt : zPay mX1_fellAt 2 := ⟨zin3 (i := 89) rfl rfl, zin1 (i := 2) rfl rfl, by decide +kernel, by decide⟩
theorem zpX6_weight : zPay mX6_weight 1 := ⟨zin3 (i := 95) rfl rfl, zin1 (i := 1) rfl rfl, by decide +kernel, by decide⟩
theorem zpX5_weigh : zPay mX5_weigh 1 := ⟨zin3 (i := 99) rfl rfl, zin1 (i := 5) rfl rfl, by decide +kernel, by decide⟩
theorem zpX5_heed : zPay mX5_heed 3 := ⟨zin3 (i := 106) rfl rfl, zin1 (i := 5) rfl rfl, by decide +kernel, by decide⟩
theorem zpX5_at : zPay mX5_at 1 := ⟨zin3 (i := 110) rfl rfl, zin1 (i := 5) rfl rfl, by decide +kernel, by decide⟩
theorem zpX6_likely : zPay mX6_likely 1 := ⟨zin3 (i := 114) rfl rfl, zin1 (i := 1) rfl rfl, by decide +kernel, by decide⟩
theorem zpX6_thousandthsOfAll : zPay mX6_thousandthsOfAll 1 := ⟨zin3 (i := 118) rfl rfl, zin1 (i := 1) rfl rfl, by decide +kernel, by decide⟩
theorem zpX5_all : zPay mX5_all 0 := ⟨zin3 (i := 122) rfl rfl, zin1 (i := 5) rfl rfl, by decide +kernel, by decide⟩
theorem zpX5_sum : zPay mX5_sum 2 := ⟨zin3 (i := 126) rfl rfl, zin1 (i := 5) rfl rfl, by decide +kernel, by decide⟩
theorem zpX6_between : zPay mX6_between 2 := ⟨zin3 (i := 133) rfl rfl, zin1 (i := 1) rfl rfl, by decide +kernel, by decide⟩
theorem zpX6_half : zPay mX6_half 0 := ⟨zin3 (i := 138) rfl rfl, zin1 (i := 1) rfl rfl, by decide +kernel, by decide⟩
theorem zpX6_few : zPay mX6_few 1 := ⟨zin3 (i := 142) rfl rfl, zin1 (i := 1) rfl rfl, by decide +kernel, by decide⟩
theorem zpX5_fewestFor : zPay mX5_fewestFor 1 := ⟨zin3 (i := 146) rfl rfl, zin1 (i := 5) rfl rfl, by decide +kernel, by decide⟩
theorem zpX5_greatestBut : zPay mX5_greatestBut 1 := ⟨zin3 (i := 151) rfl rfl, zin1 (i := 5) rfl rfl, by decide +kernel, by decide⟩
theorem zpX6_isIn : zPay mX6_isIn 2 := ⟨zin3 (i := 154) rfl rfl, zin1 (i := 1) rfl rfl, by decide +kernel, by decide⟩
theorem zpX6_asks : zPay mX6_asks 0 := ⟨zin3 (i := 158) rfl rfl, zin1 (i := 1) rfl rfl, by decide +kernel, by decide⟩
theorem zpX5_evenestBend : zPay mX5_evenestBend 0 := ⟨zin3 (i := 162) rfl rfl, zin1 (i := 5) rfl rfl, by decide +kernel, by decide⟩
theorem zpJ9_abs_0f7a4 : zPay mJ9_abs_0f7a4 1 := ⟨zin3 (i := 166) rfl rfl, zin1 (i := 4) rfl rfl, by decide +kernel, by decide⟩
theorem zpX6_after : zPay mX6_after 3 := ⟨zin3 (i := 170) rfl rfl, zin1 (i := 1) rfl rfl, by decide +kernel, by decide⟩
theorem zpX6_where : zPay mX6_where 0 := ⟨zin3 (i := 175) rfl rfl, zin1 (i := 1) rfl rfl, by decide +kernel, by decide⟩
theorem zpX6_last : zPay mX6_last 0 := ⟨zin3 (i := 180) rfl rfl, zin1 (i := 1) rfl rfl, by decide +kernel, by decide⟩
theorem zpX6_worst : zPay mX6_worst 0 := ⟨zin3 (i := 184) rfl rfl, zin1 (i := 1) rfl rfl, by decide +kernel, by decide⟩
theorem zpX6_seconds : zPay mX6_seconds 2 := ⟨zin3 (i := 188) rfl rfl, zin1 (i := 1) rfl rfl, by decide +kernel, by decide⟩
theorem zpX6_isLookAt : zPay mX6_isLookAt 2 := ⟨zin3 (i := 192) rfl rfl, zin1 (i := 1) rfl rfl, by decide +kernel, by decide⟩
theorem zpX6_isLook : zPay mX6_isLook 1 := ⟨zin3 (i := 195) rfl rfl, zin1 (i := 1) rfl rfl, by decide +kernel, by decide⟩
theorem zpX1_secondsOf : zPay mX1_secondsOf 2 := ⟨zin3 (i := 199) rfl rfl, zin1 (i := 2) rfl rfl, by decide +kernel, by decide⟩
theorem zpX6_found : zPay mX6_found 2 := ⟨zin3 (i := 203) rfl rfl, zin1 (i := 1) rfl rfl, by decide +kernel, by decide⟩
theorem zpX5_foundBy : zPay mX5_foundBy 2 := ⟨zin3 (i := 207) rfl rfl, zin1 (i := 5) rfl rfl, by decide +kernel, by decide⟩
theorem zpX6_best : zPay mX6_best 2 := ⟨zin3 (i := 212) rfl rfl, zin1 (i := 1) rfl rfl, by decide +kernel, by decide⟩
theorem zpX0_make : zPay mX0_make 3 := ⟨zin3 (i := 216) rfl rfl, zin1 (i := 6) rfl rfl, by decide +kernel, by decide⟩
theorem zpX0_chooseLook : zPay mX0_chooseLook 2 := ⟨zin3 (i := 223) rfl rfl, zin1 (i := 6) rfl rfl, by decide +kernel, by decide⟩
theorem zpX0_foundIn : zPay mX0_foundIn 1 := ⟨zin3 (i := 227) rfl rfl, zin1 (i := 6) rfl rfl, by decide +kernel, by decide⟩
theorem zpX0_lookIn : zPay mX0_lookIn 2 := ⟨zin3 (i := 231) rfl rfl, zin1 (i := 6) rfl rfl, by decide +kernel, by decide⟩
theorem zpX6_next : zPay mX6_next 0 := ⟨zin3 (i := 235) rfl rfl, zin1 (i := 1) rfl rfl, by decide +kernel, by decide⟩
theorem zpX5_nextLook : zPay mX5_nextLook 1 := ⟨zin3 (i := 239) rfl rfl, zin1 (i := 5) rfl rfl, by decide +kernel, by decide⟩
theorem zpX5_rateOf : zPay mX5_rateOf 3 := ⟨zin4 (i := 3) rfl rfl, zin1 (i := 5) rfl rfl, by decide +kernel, by decide⟩
theorem zpX6_soonest : zPay mX6_soonest 1 := ⟨zin4 (i := 9) rfl rfl, zin1 (i := 1) rfl rfl, by decide +kernel, by decide⟩
theorem zpX6_order : zPay mX6_order 1 := ⟨zin4 (i := 14) rfl rfl, zin1 (i := 1) rfl rfl, by decide +kernel, by decide⟩
theorem zpX5_lookOnInVain : zPay mX5_lookOnInVain 2 := ⟨zin4 (i := 18) rfl rfl, zin1 (i := 5) rfl rfl, by decide +kernel, by decide⟩
theorem zpX5_lookInVain : zPay mX5_lookInVain 2 := ⟨zin4 (i := 23) rfl rfl, zin1 (i := 5) rfl rfl, by decide +kernel, by decide⟩
theorem zpX6_vain : zPay mX6_vain 1 := ⟨zin4 (i := 28) rfl rfl, zin1 (i := 1) rfl rfl, by decide +kernel, by decide⟩
theorem zpX6_others : zPay mX6_others 1 := ⟨zin4 (i := 32) rfl rfl, zin1 (i := 1) rfl rfl, by decide +kernel, by decide⟩
theorem zpX6_goneBy : zPay mX6_goneBy 3 := ⟨zin4 (i := 35) rfl rfl, zin1 (i := 1) rfl rfl, by decide +kernel, by decide⟩
theorem zpX6_fast : zPay mX6_fast 1 := ⟨zin4 (i := 39) rfl rfl, zin1 (i := 1) rfl rfl, by decide +kernel, by decide⟩
theorem zpX1_heldBy : zPay mX1_heldBy 3 := ⟨zin4 (i := 43) rfl rfl, zin1 (i := 2) rfl rfl, by decide +kernel, by decide⟩
theorem zpX6_drove : zPay mX6_drove 1 := ⟨zin4 (i := 47) rfl rfl, zin1 (i := 1) rfl rfl, by decide +kernel, by decide⟩
theorem zpX6_gripFor : zPay mX6_gripFor 1 := ⟨zin4 (i := 51) rfl rfl, zin1 (i := 1) rfl rfl, by decide +kernel, by decide⟩
theorem zpX6_otherwise : zPay mX6_otherwise 0 := ⟨zin4 (i := 55) rfl rfl, zin1 (i := 1) rfl rfl, by decide +kernel, by decide⟩
theorem zpX6_slows : zPay mX6_slows 1 := ⟨zin4 (i := 59) rfl rfl, zin1 (i := 1) rfl rfl, by decide +kernel, by decide⟩
theorem zpJ6_bitCount_0f7a4 : zPay mJ6_bitCount_0f7a4 1 := ⟨zin4 (i := 62) rfl rfl, zin1 (i := 15) rfl rfl, by decide +kernel, by decide⟩
theorem zpX1_heldWith : zPay mX1_heldWith 2 := ⟨zin4 (i := 69) rfl rfl, zin1 (i := 2) rfl rfl, by decide +kernel, by decide⟩
theorem zpX6_without : zPay mX6_without 1 := ⟨zin4 (i := 74) rfl rfl, zin1 (i := 1) rfl rfl, by decide +kernel, by decide⟩
theorem zpX6_once : zPay mX6_once 1 := ⟨zin4 (i := 78) rfl rfl, zin1 (i := 1) rfl rfl, by decide +kernel, by decide⟩
theorem zpX6_heldNow : zPay mX6_heldNow 0 := ⟨zin4 (i := 82) rfl rfl, zin1 (i := 1) rfl rfl, by decide +kernel, by decide⟩
theorem zpX6_afterTrip : zPay mX6_afterTrip 2 := ⟨zin4 (i := 85) rfl rfl, zin1 (i := 1) rfl rfl, by decide +kernel, by decide⟩
theorem zpX6_until : zPay mX6_until 1 := ⟨zin4 (i := 90) rfl rfl, zin1 (i := 1) rfl rfl, by decide +kernel, by decide⟩
theorem zpX6_worth : zPay mX6_worth 3 := ⟨zin4 (i := 94) rfl rfl, zin1 (i := 1) rfl rfl, by decide +kernel, by decide⟩
theorem zpX6_hears : zPay mX6_hears 1 := ⟨zin4 (i := 99) rfl rfl, zin1 (i := 1) rfl rfl, by decide +kernel, by decide⟩
theorem zpX6_heardBy : zPay mX6_heardBy 1 := ⟨zin4 (i := 103) rfl rfl, zin1 (i := 1) rfl rfl, by decide +kernel, by decide⟩
theorem zpX6_rings : zPay mX6_rings 1 := ⟨zin4 (i := 108) rfl rfl, zin1 (i := 1) rfl rfl, by decide +kernel, by decide⟩
theorem zpX6_minutesOf : zPay mX6_minutesOf 1 := ⟨zin4 (i := 112) rfl rfl, zin1 (i := 1) rfl rfl, by decide +kernel, by decide⟩
theorem zpX6_heardBySet : zPay mX6_heardBySet 1 := ⟨zin4 (i := 117) rfl rfl, zin1 (i := 1) rfl rfl, by decide +kernel, by decide⟩
theorem zpX6_judge : zPay mX6_judge 2 := ⟨zin4 (i := 121) rfl rfl, zin1 (i := 1) rfl rfl, by decide +kernel, by decide⟩
theorem zpX2_refusalOfTold : zPay mX2_refusalOfTold 1 := ⟨zin4 (i := 125) rfl rfl, zin1 (i := 8) rfl rfl, by decide +kernel, by decide⟩
theorem zpX6_wrongPiece : zPay mX6_wrongPiece 2 := ⟨zin4 (i := 131) rfl rfl, zin1 (i := 1) rfl rfl, by decide +kernel, by decide⟩
theorem zpX6_apart : zPay mX6_apart 2 := ⟨zin4 (i := 135) rfl rfl, zin1 (i := 1) rfl rfl, by decide +kernel, by decide⟩
theorem zpX6_search : zPay mX6_search 3 := ⟨zin4 (i := 139) rfl rfl, zin1 (i := 1) rfl rfl, by decide +kernel, by decide⟩
theorem zpX6_isToldLook : zPay mX6_isToldLook 1 := ⟨zin4 (i := 143) rfl rfl, zin1 (i := 1) rfl rfl, by decide +kernel, by decide⟩
theorem zpX6_lies : zPay mX6_lies 1 := ⟨zin4 (i := 149) rfl rfl, zin1 (i := 1) rfl rfl, by decide +kernel, by decide⟩
theorem zpX6_drive : zPay mX6_drive 0 := ⟨zin4 (i := 153) rfl rfl, zin1 (i := 1) rfl rfl, by decide +kernel, by decide⟩
theorem zpX1_driveInTruth : zPay mX1_driveInTruth 0 := ⟨zin4 (i := 157) rfl rfl, zin1 (i := 2) rfl rfl, by decide +kernel, by decide⟩
theorem zpX1_draw : zPay mX1_draw 1 := ⟨zin4 (i := 162) rfl rfl, zin1 (i := 2) rfl rfl, by decide +kernel, by decide⟩
theorem zpX6_look : zPay mX6_look 2 := ⟨zin4 (i := 167) rfl rfl, zin1 (i := 1) rfl rfl, by decide +kernel, by decide⟩
theorem zpX1_lookInTruth : zPay mX1_lookInTruth 2 := ⟨zin4 (i := 171) rfl rfl, zin1 (i := 2) rfl rfl, by decide +kernel, by decide⟩
theorem zpX6_trips : zPay mX6_trips 1 := ⟨zin4 (i := 177) rfl rfl, zin1 (i := 1) rfl rfl, by decide +kernel, by decide⟩
theorem zpX6_seed : zPay mX6_seed 1 := ⟨zin4 (i := 181) rfl rfl, zin1 (i := 1) rfl rfl, by decide +kernel, by decide⟩
theorem zpX6_image : zPay mX6_image 0 := ⟨zin4 (i := 185) rfl rfl, zin1 (i := 1) rfl rfl, by decide +kernel, by decide⟩
theorem zpX6_back : zPay mX6_back 0 := ⟨zin4 (i := 189) rfl rfl, zin1 (i := 1) rfl rfl, by decide +kernel, by decide⟩
theorem zpX6_status : zPay mX6_status 1 := ⟨zin4 (i := 193) rfl rfl, zin1 (i := 1) rfl rfl, by decide +kernel, by decide⟩
theorem zpX6_refused : zPay mX6_refused 1 := ⟨zin4 (i := 197) rfl rfl, zin1 (i := 1) rfl rfl, by decide +kernel, by decide⟩
theorem zpX6_fullShelves : zPay mX6_fullShelves 0 := ⟨zin4 (i := 201) rfl rfl, zin1 (i := 1) rfl rfl, by decide +kernel, by decide⟩
theorem zpX1_bendsLookedAt : zPay mX1_bendsLookedAt 0 := ⟨zin4 (i := 205) rfl rfl, zin1 (i := 2) rfl rfl, by decide +kernel, by decide⟩
theorem zpX7_init : zPay mX7_init 0 := ⟨zin4 (i := 210) rfl rfl, zin1 (i := 9) rfl rfl, by decide +kernel, by decide⟩
theorem zpX7_row : zPay mX7_row 3 := ⟨zin5 (i := 109) rfl rfl, zin1 (i := 9) rfl rfl, by decide +kernel, by decide⟩
theorem zpX7_in : zPay mX7_in 3 := ⟨zin5 (i := 113) rfl rfl, zin1 (i := 9) rfl rfl, by decide +kernel, by decide⟩
theorem zpX7_refuse : zPay mX7_refuse 1 := ⟨zin5 (i := 119) rfl rfl, zin1 (i := 9) rfl rfl, by decide +kernel, by decide⟩
theorem zpX7_set : zPay mX7_set 3 := ⟨zin5 (i := 123) rfl rfl, zin1 (i := 9) rfl rfl, by decide +kernel, by decide⟩
theorem zpX7_noRow : zPay mX7_noRow 1 := ⟨zin5 (i := 127) rfl rfl, zin1 (i := 9) rfl rfl, by decide +kernel, by decide⟩
theorem zpX7_fit : zPay mX7_fit 2 := ⟨zin5 (i := 130) rfl rfl, zin1 (i := 9) rfl rfl, by decide +kernel, by decide⟩
theorem zpX7_copy : zPay mX7_copy 5 := ⟨zin5 (i := 134) rfl rfl, zin1 (i := 9) rfl rfl, by decide +kernel, by decide⟩
theorem zpX7_element : zPay mX7_element 2 := ⟨zin5 (i := 138) rfl rfl, zin1 (i := 9) rfl rfl, by decide +kernel, by decide⟩
theorem zpX7_holds : zPay mX7_holds 1 := ⟨zin5 (i := 142) rfl rfl, zin1 (i := 9) rfl rfl, by decide +kernel, by decide⟩
theorem zpX7_show : zPay mX7_show 2 := ⟨zin5 (i := 146) rfl rfl, zin1 (i := 9) rfl rfl, by decide +kernel, by decide⟩
theorem zpX7_isBend : zPay mX7_isBend 1 := ⟨zin5 (i := 150) rfl rfl, zin1 (i := 9) rfl rfl, by decide +kernel, by decide⟩
theorem zpX7_says : zPay mX7_says 2 := ⟨zin5 (i := 154) rfl rfl, zin1 (i := 9) rfl rfl, by decide +kernel, by decide⟩
theorem zpX7_isUnder : zPay mX7_isUnder 2 := ⟨zin5 (i := 158) rfl rfl, zin1 (i := 9) rfl rfl, by decide +kernel, by decide⟩
theorem zpX7_fallOf : zPay mX7_fallOf 2 := ⟨zin5 (i := 162) rfl rfl, zin1 (i := 9) rfl rfl, by decide +kernel, by decide⟩
theorem zpX7_bend : zPay mX7_bend 4 := ⟨zin5 (i := 166) rfl rfl, zin1 (i := 9) rfl rfl, by decide +kernel, by decide⟩
theorem zpX7_addBend : zPay mX7_addBend 4 := ⟨zin5 (i := 173) rfl rfl, zin1 (i := 9) rfl rfl, by decide +kernel, by decide⟩
theorem zpX7_ask : zPay mX7_ask 2 := ⟨zin5 (i := 177) rfl rfl, zin1 (i := 9) rfl rfl, by decide +kernel, by decide⟩
theorem zpX7_sign : zPay mX7_sign 3 := ⟨zin5 (i := 182) rfl rfl, zin1 (i := 9) rfl rfl, by decide +kernel, by decide⟩
theorem zpX7_addSign : zPay mX7_addSign 3 := ⟨zin5 (i := 187) rfl rfl, zin1 (i := 9) rfl rfl, by decide +kernel, by decide⟩
theorem zpX7_anew : zPay mX7_anew 0 := ⟨zin5 (i := 191) rfl rfl, zin1 (i := 9) rfl rfl, by decide +kernel, by decide⟩
theorem zpX7_noSigns : zPay mX7_noSigns 0 := ⟨zin5 (i := 195) rfl rfl, zin1 (i := 9) rfl rfl, by decide +kernel, by decide⟩
theorem zpX7_call : zPay mX7_call 3 := ⟨zin5 (i := 199) rfl rfl, zin1 (i := 9) rfl rfl, by decide +kernel, by decide⟩
theorem zpX7_addCall : zPay mX7_addCall 3 := ⟨zin5 (i := 204) rfl rfl, zin1 (i := 9) rfl rfl, by decide +kernel, by decide⟩
theorem zpX7_feed : zPay mX7_feed 1 := ⟨zin5 (i := 208) rfl rfl, zin1 (i := 9) rfl rfl, by decide +kernel, by decide⟩
theorem zpX7_wipe : zPay mX7_wipe 0 := ⟨zin5 (i := 213) rfl rfl, zin1 (i := 9) rfl rfl, by decide +kernel, by decide⟩
theorem zpX7_way : zPay mX7_way 0 := ⟨zin5 (i := 217) rfl rfl, zin1 (i := 9) rfl rfl, by decide +kernel, by decide⟩
theorem zpX7_fresh : zPay mX7_fresh 0 := ⟨zin5 (i := 221) rfl rfl, zin1 (i := 9) rfl rfl, by decide +kernel, by decide⟩
theorem zpX7_takeFrom : zPay mX7_takeFrom 1 := ⟨zin5 (i := 227) rfl rfl, zin1 (i := 9) rfl rfl, by decide +kernel, by decide⟩
theorem zpX7_copied : zPay mX7_copied 2 := ⟨zin5 (i := 230) rfl rfl, zin1 (i := 9) rfl rfl, by decide +kernel, by decide⟩
theorem zpX7_readAll : zPay mX7_readAll 0 := ⟨zin5 (i := 234) rfl rfl, zin1 (i := 9) rfl rfl, by decide +kernel, by decide⟩
theorem zpX7_token : zPay mX7_token 0 := ⟨zin5 (i := 238) rfl rfl, zin1 (i := 9) rfl rfl, by decide +kernel, by decide⟩
theorem zpX7_isLetter : zPay mX7_isLetter 1 := ⟨zin6 (i := 1) rfl rfl, zin1 (i := 9) rfl rfl, by decide +kernel, by decide⟩
theorem zpX7_isDigit : zPay mX7_isDigit 1 := ⟨zin6 (i := 4) rfl rfl, zin1 (i := 9) rfl rfl, by decide +kernel, by decide⟩
theorem zpX7_statement : zPay mX7_statement 0 := ⟨zin6 (i := 9) rfl rfl, zin1 (i := 9) rfl rfl, by decide +kernel, by decide⟩
theorem zpX7_isWord : zPay mX7_isWord 1 := ⟨zin6 (i := 14) rfl rfl, zin1 (i := 9) rfl rfl, by decide +kernel, by decide⟩
theorem zpX7_tells : zPay mX7_tells 2 := ⟨zin6 (i := 20) rfl rfl, zin1 (i := 9) rfl rfl, by decide +kernel, by decide⟩
theorem zpX7_number : zPay mX7_number 3 := ⟨zin6 (i := 24) rfl rfl, zin1 (i := 9) rfl rfl, by decide +kernel, by decide⟩
theorem zpX7_wrong : zPay mX7_wrong 0 := ⟨zin6 (i := 28) rfl rfl, zin1 (i := 9) rfl rfl, by decide +kernel, by decide⟩
theorem zpX7_asked : zPay mX7_asked 3 := ⟨zin6 (i := 33) rfl rfl, zin1 (i := 9) rfl rfl, by decide +kernel, by decide⟩
theorem zpX7_misses : zPay mX7_misses 2 := ⟨zin6 (i := 44) rfl rfl, zin1 (i := 9) rfl rfl, by decide +kernel, by decide⟩
theorem zpX7_sees : zPay mX7_sees 1 := ⟨zin6 (i := 47) rfl rfl, zin1 (i := 9) rfl rfl, by decide +kernel, by decide⟩
theorem zpX7_part : zPay mX7_part 2 := ⟨zin6 (i := 50) rfl rfl, zin1 (i := 9) rfl rfl, by decide +kernel, by decide⟩
theorem zpX7_bendOf : zPay mX7_bendOf 2 := ⟨zin6 (i := 54) rfl rfl, zin1 (i := 9) rfl rfl, by decide +kernel, by decide⟩
theorem zpX7_yardsTo : zPay mX7_yardsTo 1 := ⟨zin6 (i := 58) rfl rfl, zin1 (i := 9) rfl rfl, by decide +kernel, by decide⟩
theorem zpX7_signOf : zPay mX7_signOf 2 := ⟨zin6 (i := 62) rfl rfl, zin1 (i := 9) rfl rfl, by decide +kernel, by decide⟩
theorem zpX7_callOf : zPay mX7_callOf 2 := ⟨zin6 (i := 67) rfl rfl, zin1 (i := 9) rfl rfl, by decide +kernel, by decide⟩
theorem zpX7_fall : zPay mX7_fall 2 := ⟨zin6 (i := 71) rfl rfl, zin1 (i := 9) rfl rfl, by decide +kernel, by decide⟩
theorem zpX7_fell : zPay mX7_fell 2 := ⟨zin6 (i := 75) rfl rfl, zin1 (i := 9) rfl rfl, by decide +kernel, by decide⟩
theorem zpX7_goes : zPay mX7_goes 3 := ⟨zin6 (i := 79) rfl rfl, zin1 (i := 9) rfl rfl, by decide +kernel, by decide⟩
theorem zpX7_has : zPay mX7_has 2 := ⟨zin6 (i := 83) rfl rfl, zin1 (i := 9) rfl rfl, by decide +kernel, by decide⟩
theorem zpX7_weight : zPay mX7_weight 1 := ⟨zin6 (i := 87) rfl rfl, zin1 (i := 9) rfl rfl, by decide +kernel, by decide⟩
theorem zpX7_weigh : zPay mX7_weigh 0 := ⟨zin6 (i := 91) rfl rfl, zin1 (i := 9) rfl rfl, by decide +kernel, by decide⟩
theorem zpX7_likely : zPay mX7_likely 1 := ⟨zin6 (i := 95) rfl rfl, zin1 (i := 9) rfl rfl, by decide +kernel, by decide⟩
theorem zpX7_thousandths : zPay mX7_thousandths 1 := ⟨zin6 (i := 99) rfl rfl, zin1 (i := 9) rfl rfl, by decide +kernel, by decide⟩
theorem zpX7_between : zPay mX7_between 2 := ⟨zin6 (i := 103) rfl rfl, zin1 (i := 9) rfl rfl, by decide +kernel, by decide⟩
theorem zpX7_sumOf : zPay mX7_sumOf 2 := ⟨zin6 (i := 107) rfl rfl, zin1 (i := 9) rfl rfl, by decide +kernel, by decide⟩
theorem zpX7_half : zPay mX7_half 0 := ⟨zin6 (i := 111) rfl rfl, zin1 (i := 9) rfl rfl, by decide +kernel, by decide⟩
theorem zpX7_few : zPay mX7_few 1 := ⟨zin6 (i := 115) rfl rfl, zin1 (i := 9) rfl rfl, by decide +kernel, by decide⟩
theorem zpX7_asks : zPay mX7_asks 0 := ⟨zin6 (i := 119) rfl rfl, zin1 (i := 9) rfl rfl, by decide +kernel, by decide⟩
theorem zpX7_after : zPay mX7_after 3 := ⟨zin6 (i := 123) rfl rfl, zin1 (i := 9) rfl rfl, by decide +kernel, by decide⟩
theorem zpX7_where : zPay mX7_where 0 := ⟨zin6 (i := 127) rfl rfl, zin1 (i := 9) rfl rfl, by decide +kernel, by decide⟩
theorem zpX7_seconds : zPay mX7_seconds 2 := ⟨zin6 (i := 131) rfl rfl, zin1 (i := 9) rfl rfl, by decide +kernel, by decide⟩
theorem zpX7_isLook : zPay mX7_isLook 1 := ⟨zin6 (i := 134) rfl rfl, zin1 (i := 9) rfl rfl, by decide +kernel, by decide⟩
theorem zpX7_secondsOf : zPay mX7_secondsOf 2 := ⟨zin6 (i := 139) rfl rfl, zin1 (i := 9) rfl rfl, by decide +kernel, by decide⟩
theorem zpX7_found : zPay mX7_found 2 := ⟨zin6 (i := 143) rfl rfl, zin1 (i := 9) rfl rfl, by decide +kernel, by decide⟩
theorem zpX7_foundBy : zPay mX7_foundBy 2 := ⟨zin6 (i := 147) rfl rfl, zin1 (i := 9) rfl rfl, by decide +kernel, by decide⟩
theorem zpX7_best : zPay mX7_best 2 := ⟨zin6 (i := 151) rfl rfl, zin1 (i := 9) rfl rfl, by decide +kernel, by decide⟩
theorem zpX7_findMost : zPay mX7_findMost 0 := ⟨zin6 (i := 156) rfl rfl, zin1 (i := 9) rfl rfl, by decide +kernel, by decide⟩
theorem zpX7_mostBy : zPay mX7_mostBy 3 := ⟨zin6 (i := 160) rfl rfl, zin1 (i := 9) rfl rfl, by decide +kernel, by decide⟩
theorem zpX7_tensOf : zPay mX7_tensOf 2 := ⟨zin6 (i := 164) rfl rfl, zin1 (i := 9) rfl rfl, by decide +kernel, by decide⟩
theorem zpX7_next : zPay mX7_next 0 := ⟨zin6 (i := 168) rfl rfl, zin1 (i := 9) rfl rfl, by decide +kernel, by decide⟩
theorem zpX7_nextNow : zPay mX7_nextNow 0 := ⟨zin6 (i := 172) rfl rfl, zin1 (i := 9) rfl rfl, by decide +kernel, by decide⟩
theorem zpX7_soonest : zPay mX7_soonest 1 := ⟨zin6 (i := 176) rfl rfl, zin1 (i := 9) rfl rfl, by decide +kernel, by decide⟩
theorem zpX7_order : zPay mX7_order 1 := ⟨zin6 (i := 181) rfl rfl, zin1 (i := 9) rfl rfl, by decide +kernel, by decide⟩
theorem zpX7_vainly : zPay mX7_vainly 1 := ⟨zin6 (i := 185) rfl rfl, zin1 (i := 9) rfl rfl, by decide +kernel, by decide⟩
theorem zpX7_vain : zPay mX7_vain 1 := ⟨zin6 (i := 189) rfl rfl, zin1 (i := 9) rfl rfl, by decide +kernel, by decide⟩
theorem zpX7_others : zPay mX7_others 1 := ⟨zin6 (i := 193) rfl rfl, zin1 (i := 9) rfl rfl, by decide +kernel, by decide⟩
theorem zpX7_fast : zPay mX7_fast 1 := ⟨zin6 (i := 198) rfl rfl, zin1 (i := 9) rfl rfl, by decide +kernel, by decide⟩
theorem zpX7_heldBy : zPay mX7_heldBy 1 := ⟨zin6 (i := 202) rfl rfl, zin1 (i := 9) rfl rfl, by decide +kernel, by decide⟩
theorem zpX7_drove : zPay mX7_drove 1 := ⟨zin6 (i := 206) rfl rfl, zin1 (i := 9) rfl rfl, by decide +kernel, by decide⟩
theorem zpX7_gripFor : zPay mX7_gripFor 1 := ⟨zin6 (i := 210) rfl rfl, zin1 (i := 9) rfl rfl, by decide +kernel, by decide⟩
theorem zpX7_otherwise : zPay mX7_otherwise 0 := ⟨zin6 (i := 214) rfl rfl, zin1 (i := 9) rfl rfl, by decide +kernel, by decide⟩
theorem zpX7_slows : zPay mX7_slows 1 := ⟨zin6 (i := 218) rfl rfl, zin1 (i := 9) rfl rfl, by decide +kernel, by decide⟩
theorem zpX7_bits : zPay mX7_bits 1 := ⟨zin6 (i := 221) rfl rfl, zin1 (i := 9) rfl rfl, by decide +kernel, by decide⟩
theorem zpX7_without : zPay mX7_without 1 := ⟨zin6 (i := 225) rfl rfl, zin1 (i := 9) rfl rfl, by decide +kernel, by decide⟩
theorem zpX7_once : zPay mX7_once 1 := ⟨zin6 (i := 229) rfl rfl, zin1 (i := 9) rfl rfl, by decide +kernel, by decide⟩
theorem zpX7_until : zPay mX7_until 1 := ⟨zin6 (i := 233) rfl rfl, zin1 (i := 9) rfl rfl, by decide +kernel, by decide⟩
theorem zpX7_worst : zPay mX7_worst 0 := ⟨zin6 (i := 237) rfl rfl, zin1 (i := 9) rfl rfl, by decide +kernel, by decide⟩
theorem zpX7_last : zPay mX7_last 0 := ⟨zin7 (i := 1) rfl rfl, zin1 (i := 9) rfl rfl, by decide +kernel, by decide⟩
theorem zpX7_hears : zPay mX7_hears 1 := ⟨zin7 (i := 5) rfl rfl, zin1 (i := 9) rfl rfl, by decide +kernel, by decide⟩
theorem zpX7_hearsOf : zPay mX7_hearsOf 1 := ⟨zin7 (i := 9) rfl rfl, zin1 (i := 9) rfl rfl, by decide +kernel, by decide⟩
theorem zpX7_rings : zPay mX7_rings 1 := ⟨zin7 (i := 13) rfl rfl, zin1 (i := 9) rfl rfl, by decide +kernel, by decide⟩
theorem zpX7_worth : zPay mX7_worth 3 := ⟨zin7 (i := 17) rfl rfl, zin1 (i := 9) rfl rfl, by decide +kernel, by decide⟩
theorem zpX7_judge : zPay mX7_judge 2 := ⟨zin7 (i := 23) rfl rfl, zin1 (i := 9) rfl rfl, by decide +kernel, by decide⟩
theorem zpX7_noList : zPay mX7_noList 2 := ⟨zin7 (i := 27) rfl rfl, zin1 (i := 9) rfl rfl, by decide +kernel, by decide⟩
theorem zpX7_wrongIn : zPay mX7_wrongIn 2 := ⟨zin7 (i := 31) rfl rfl, zin1 (i := 9) rfl rfl, by decide +kernel, by decide⟩
theorem zpX7_apart : zPay mX7_apart 2 := ⟨zin7 (i := 35) rfl rfl, zin1 (i := 9) rfl rfl, by decide +kernel, by decide⟩
theorem zpX7_search : zPay mX7_search 3 := ⟨zin7 (i := 39) rfl rfl, zin1 (i := 9) rfl rfl, by decide +kernel, by decide⟩
theorem zpX7_areLooks : zPay mX7_areLooks 2 := ⟨zin7 (i := 43) rfl rfl, zin1 (i := 9) rfl rfl, by decide +kernel, by decide⟩
theorem zpX7_lies : zPay mX7_lies 1 := ⟨zin7 (i := 47) rfl rfl, zin1 (i := 9) rfl rfl, by decide +kernel, by decide⟩
theorem zpX7_drive : zPay mX7_drive 0 := ⟨zin7 (i := 51) rfl rfl, zin1 (i := 9) rfl rfl, by decide +kernel, by decide⟩
theorem zpX7_driven : zPay mX7_driven 0 := ⟨zin7 (i := 55) rfl rfl, zin1 (i := 9) rfl rfl, by decide +kernel, by decide⟩
theorem zpX7_below : zPay mX7_below 1 := ⟨zin7 (i := 59) rfl rfl, zin1 (i := 9) rfl rfl, by decide +kernel, by decide⟩
theorem zpX7_look : zPay mX7_look 2 := ⟨zin7 (i := 64) rfl rfl, zin1 (i := 9) rfl rfl, by decide +kernel, by decide⟩
theorem zpX7_trips : zPay mX7_trips 1 := ⟨zin7 (i := 68) rfl rfl, zin1 (i := 9) rfl rfl, by decide +kernel, by decide⟩
theorem zpX7_seed : zPay mX7_seed 1 := ⟨zin7 (i := 72) rfl rfl, zin1 (i := 9) rfl rfl, by decide +kernel, by decide⟩
theorem zpX7_image : zPay mX7_image 0 := ⟨zin7 (i := 76) rfl rfl, zin1 (i := 9) rfl rfl, by decide +kernel, by decide⟩
theorem zpX7_back : zPay mX7_back 0 := ⟨zin7 (i := 80) rfl rfl, zin1 (i := 9) rfl rfl, by decide +kernel, by decide⟩
theorem zpX7_status : zPay mX7_status 1 := ⟨zin7 (i := 84) rfl rfl, zin1 (i := 9) rfl rfl, by decide +kernel, by decide⟩
theorem zpX7_looked : zPay mX7_looked 0 := ⟨zin7 (i := 88) rfl rfl, zin1 (i := 9) rfl rfl, by decide +kernel, by decide⟩
theorem zlL_9 : zIni RL 9 mX6_init 0 := ⟨zpX6_init, zin1 (i := 18) rfl rfl, zin1 (i := 19) rfl rfl, rfl, rfl⟩
theorem zlX6_9 : zIni RX6 9 mX1_init 0 := ⟨zpX1_init, zin1 (i := 26) rfl rfl, zin1 (i := 27) rfl rfl, rfl, rfl⟩
theorem zlX1_11 : zIni RX1 11 mX3_init 2 := ⟨zpX3_init, zin1 (i := 32) rfl rfl, zin1 (i := 33) rfl rfl, rfl, rfl⟩
theorem zlX3_9 : zSta RX3 9 mJ9_max_7cf53 2 := ⟨zpJ9_max_7cf53, zin1 (i := 36) rfl rfl, zin1 (i := 37) rfl rfl⟩
theorem zfX3_15 : zFld RX3 15 3 0 := ⟨_, rfl, by decide, zin1 (i := 39) rfl rfl⟩
theorem zfX3_21 : zFld RX3 21 3 1 := ⟨_, rfl, by decide, zin1 (i := 40) rfl rfl⟩
theorem zfX5_24 : zFld RX5 24 3 2 := ⟨_, rfl, by decide, zin1 (i := 41) rfl rfl⟩
theorem zfX3_25 : zFld RX3 25 3 2 := ⟨_, rfl, by decide, zin1 (i := 42) rfl rfl⟩
theorem zfX1_56 : zFld RX1 56 3 2 := ⟨_, rfl, by decide, zin1 (i := 43) rfl rfl⟩
theorem zfX6_160 : zFld RX6 160 3 2 := ⟨_, rfl, by decide, zin1 (i := 44) rfl rfl⟩
theorem zfX1_14 : zFld RX1 14 1 0 := ⟨_, rfl, by decide, zin1 (i := 53) rfl rfl⟩
theorem zfX5_18 : zFld RX5 18 1 0 := ⟨_, rfl, by decide, zin1 (i := 54) rfl rfl⟩
theorem zfX6_115 : zFld RX6 115 1 0 := ⟨_, rfl, by decide, zin1 (i := 55) rfl rfl⟩
theorem zfX1_20 : zFld RX1 20 1 1 := ⟨_, rfl, by decide, zin1 (i := 56) rfl rfl⟩
theorem zfX5_50 : zFld RX5 50 1 1 := ⟨_, rfl, by decide, zin1 (i := 57) rfl rfl⟩
theorem zfX6_153 : zFld RX6 153 1 1 := ⟨_, rfl, by decide, zin1 (i := 58) rfl rfl⟩
theorem zfX1_23 : zFld RX1 23 1 2 := ⟨_, rfl, by decide, zin1 (i := 59) rfl rfl⟩
theorem zfX6_184 : zFld RX6 184 1 2 := ⟨_, rfl, by decide, zin1 (i := 60) rfl rfl⟩
theorem zfX1_26 : zFld RX1 26 1 3 := ⟨_, rfl, by decide, zin1 (i := 61) rfl rfl⟩
theorem zfX5_38 : zFld RX5 38 1 3 := ⟨_, rfl, by decide, zin1 (i := 62) rfl rfl⟩
theorem zfX6_134 : zFld RX6 134 1 3 := ⟨_, rfl, by decide, zin1 (i := 63) rfl rfl⟩
theorem zfX1_40 : zFld RX1 40 1 4 := ⟨_, rfl, by decide, zin1 (i := 64) rfl rfl⟩
theorem zfX6_250 : zFld RX6 250 1 4 := ⟨_, rfl, by decide, zin1 (i := 65) rfl rfl⟩
theorem zfX1_43 : zFld RX1 43 1 5 := ⟨_, rfl, by decide, zin1 (i := 66) rfl rfl⟩
theorem zfX6_253 : zFld RX6 253 1 5 := ⟨_, rfl, by decide, zin1 (i := 67) rfl rfl⟩
theorem zfX1_30 : zFld RX1 30 1 6 := ⟨_, rfl, by decide, zin1 (i := 68) rfl rfl⟩
theorem zfX6_306 : zFld RX6 306 1 6 := ⟨_, rfl, by decide, zin1 (i := 69) rfl rfl⟩
theorem zfX1_33 : zFld RX1 33 1 7 := ⟨_, rfl, by decide, zin1 (i := 70) rfl rfl⟩
theorem zfX6_315 : zFld RX6 315 1 7 := ⟨_, rfl, by decide, zin1 (i := 71) rfl rfl⟩
theorem zlX6_24 : zIni RX6 24 mX5_init 0 := ⟨zpX5_init, zin1 (i := 91) rfl rfl, zin1 (i := 92) rfl rfl, rfl, rfl⟩
theorem zfX5_9 : zFld RX5 9 5 0 := ⟨_, rfl, by decide, zin1 (i := 95) rfl rfl⟩
theorem zfX5_15 : zFld RX5 15 5 1 := ⟨_, rfl, by decide, zin1 (i := 96) rfl rfl⟩
theorem zfX5_36 : zFld RX5 36 5 2 := ⟨_, rfl, by decide, zin1 (i := 97) rfl rfl⟩
theorem zfX0_30 : zFld RX0 30 5 2 := ⟨_, rfl, by decide, zin1 (i := 98) rfl rfl⟩
theorem zfX5_47 : zFld RX5 47 5 3 := ⟨_, rfl, by decide, zin1 (i := 99) rfl rfl⟩
theorem zlX6_31 : zIni RX6 31 mX0_init 0 := ⟨zpX0_init, zin1 (i := 111) rfl rfl, zin1 (i := 112) rfl rfl, rfl, rfl⟩
theorem zfX0_9 : zFld RX0 9 0 0 := ⟨_, rfl, by decide, zin1 (i := 115) rfl rfl⟩
theorem zfX0_15 : zFld RX0 15 0 1 := ⟨_, rfl, by decide, zin1 (i := 116) rfl rfl⟩
theorem zfX0_18 : zFld RX0 18 0 2 := ⟨_, rfl, by decide, zin1 (i := 117) rfl rfl⟩
theorem zfX0_21 : zFld RX0 21 0 3 := ⟨_, rfl, by decide, zin1 (i := 118) rfl rfl⟩
theorem zlX6_38 : zIni RX6 38 mX4_init 0 := ⟨zpX4_init, zin1 (i := 130) rfl rfl, zin1 (i := 131) rfl rfl, rfl, rfl⟩
theorem zfX4_9 : zFld RX4 9 4 0 := ⟨_, rfl, by decide, zin1 (i := 134) rfl rfl⟩
theorem zfX4_18 : zFld RX4 18 4 1 := ⟨_, rfl, by decide, zin1 (i := 135) rfl rfl⟩
theorem zfX6_170 : zFld RX6 170 4 1 := ⟨_, rfl, by decide, zin1 (i := 136) rfl rfl⟩
theorem zfX4_35 : zFld RX4 35 4 2 := ⟨_, rfl, by decide, zin1 (i := 137) rfl rfl⟩
theorem zfX4_32 : zFld RX4 32 4 3 := ⟨_, rfl, by decide, zin1 (i := 138) rfl rfl⟩
theorem zfX4_22 : zFld RX4 22 4 4 := ⟨_, rfl, by decide, zin1 (i := 139) rfl rfl⟩
theorem zfX4_15 : zFld RX4 15 4 5 := ⟨_, rfl, by decide, zin1 (i := 140) rfl rfl⟩
theorem zlX6_53 : zIni RX6 53 mX2_init 0 := ⟨zpX2_init, zin1 (i := 157) rfl rfl, zin1 (i := 158) rfl rfl, rfl, rfl⟩
theorem zfX2_9 : zFld RX2 9 2 0 := ⟨_, rfl, by decide, zin1 (i := 161) rfl rfl⟩
theorem zfX6_88 : zFld RX6 88 2 0 := ⟨_, rfl, by decide, zin1 (i := 162) rfl rfl⟩
theorem zfX2_23 : zFld RX2 23 2 1 := ⟨_, rfl, by decide, zin1 (i := 163) rfl rfl⟩
theorem zfX2_15 : zFld RX2 15 2 2 := ⟨_, rfl, by decide, zin1 (i := 164) rfl rfl⟩
theorem zfX6_10 : zFld RX6 10 6 0 := ⟨_, rfl, by decide, zin1 (i := 173) rfl rfl⟩
theorem zfX6_16 : zFld RX6 16 6 1 := ⟨_, rfl, by decide, zin1 (i := 174) rfl rfl⟩
theorem zfX6_19 : zFld RX6 19 6 2 := ⟨_, rfl, by decide, zin1 (i := 175) rfl rfl⟩
theorem zfX6_25 : zFld RX6 25 6 3 := ⟨_, rfl, by decide, zin1 (i := 176) rfl rfl⟩
theorem zfX6_32 : zFld RX6 32 6 4 := ⟨_, rfl, by decide, zin1 (i := 177) rfl rfl⟩
theorem zfX6_39 : zFld RX6 39 6 5 := ⟨_, rfl, by decide, zin1 (i := 178) rfl rfl⟩
theorem zfX6_49 : zFld RX6 49 6 6 := ⟨_, rfl, by decide, zin1 (i := 179) rfl rfl⟩
theorem zfX6_43 : zFld RX6 43 6 7 := ⟨_, rfl, by decide, zin1 (i := 180) rfl rfl⟩
theorem zfX6_318 : zFld RX6 318 6 8 := ⟨_, rfl, by decide, zin1 (i := 181) rfl rfl⟩
theorem zlL_13 : zVir RL 13 mX6_row 3 := ⟨zpX6_row, zin1 (i := 201) rfl rfl, zin1 (i := 202) rfl rfl, zin1 (i := 203) rfl rfl⟩
theorem zlX6_54 : zVir RX6 54 mX6_shelfAt 1 := ⟨zpX6_shelfAt, zin1 (i := 205) rfl rfl, zin1 (i := 207) rfl rfl, zinP (i := 0) (q := (⟨"OnTheRoof", "shelfAt", "(I)LOnTheRoof$Shelf;"⟩, 9)) rfl rfl⟩
theorem zlX6_58 : zSta RX6 58 mX6_isWithin 3 := ⟨zpX6_isWithin, zin1 (i := 209) rfl rfl, zin1 (i := 210) rfl rfl⟩
theorem zlX6_62 : zVir RX6 62 mX6_refuse 1 := ⟨zpX6_refuse, zin1 (i := 212) rfl rfl, zin1 (i := 214) rfl rfl, zinP (i := 1) (q := (⟨"OnTheRoof", "refuse", "(I)I"⟩, 9)) rfl rfl⟩
theorem zlX6_66 : zVir RX6 66 mX2_takeRow 2 := ⟨zpX2_takeRow, zin1 (i := 216) rfl rfl, zin1 (i := 217) rfl rfl, zin1 (i := 218) rfl rfl⟩
theorem zlL_20 : zVir RL 20 mX6_set 3 := ⟨zpX6_set, zin1 (i := 220) rfl rfl, zin1 (i := 221) rfl rfl, zin1 (i := 222) rfl rfl⟩
theorem zlX6_70 : zVir RX6 70 mX2_isRow 0 := ⟨zpX2_isRow, zin1 (i := 224) rfl rfl, zin1 (i := 225) rfl rfl, zin1 (i := 226) rfl rfl⟩
theorem zlX6_74 : zVir RX6 74 mX2_isEmpty 0 := ⟨zpX2_isEmpty, zin1 (i := 228) rfl rfl, zin1 (i := 229) rfl rfl, zin1 (i := 230) rfl rfl⟩
theorem zlX6_77 : zVir RX6 77 mX2_hasElement 1 := ⟨zpX2_hasElement, zin1 (i := 232) rfl rfl, zin1 (i := 233) rfl rfl, zin1 (i := 234) rfl rfl⟩
theorem zlX2_26 : zVir RX2 26 mX2_isRow 0 := ⟨zpX2_isRow, zin1 (i := 236) rfl rfl, zin1 (i := 225) rfl rfl, zin1 (i := 226) rfl rfl⟩
theorem zlX6_81 : zVir RX6 81 mX2_putElement 2 := ⟨zpX2_putElement, zin1 (i := 237) rfl rfl, zin1 (i := 238) rfl rfl, zin1 (i := 239) rfl rfl⟩
theorem zlX2_29 : zVir RX2 29 mX2_hasElement 1 := ⟨zpX2_hasElement, zin2 (i := 1) rfl rfl, zin1 (i := 233) rfl rfl, zin1 (i := 234) rfl rfl⟩
theorem zlX2_33 : zVir RX2 33 mX2_keptOf 1 := ⟨zpX2_keptOf, zin2 (i := 2) rfl rfl, zin2 (i := 4) rfl rfl, zinP (i := 2) (q := (⟨"OnTheRoof$Shelf", "keptOf", "(J)J"⟩, 3)) rfl rfl⟩
theorem zlL_25 : zVir RL 25 mX6_copy 5 := ⟨zpX6_copy, zin2 (i := 6) rfl rfl, zin2 (i := 7) rfl rfl, zin2 (i := 8) rfl rfl⟩
theorem zlX6_85 : zVir RX6 85 mX2_isBend 0 := ⟨zpX2_isBend, zin2 (i := 10) rfl rfl, zin2 (i := 11) rfl rfl, zin2 (i := 12) rfl rfl⟩
theorem zlX6_92 : zVir RX6 92 mX2_hasElements 2 := ⟨zpX2_hasElements, zin2 (i := 14) rfl rfl, zin2 (i := 15) rfl rfl, zin2 (i := 16) rfl rfl⟩
theorem zlX6_96 : zVir RX6 96 mX2_takeElements 4 := ⟨zpX2_takeElements, zin2 (i := 18) rfl rfl, zin2 (i := 19) rfl rfl, zin2 (i := 20) rfl rfl⟩
theorem zlX2_37 : zVir RX2 37 mX2_hasElements 2 := ⟨zpX2_hasElements, zin2 (i := 22) rfl rfl, zin2 (i := 15) rfl rfl, zin2 (i := 16) rfl rfl⟩
theorem zlL_30 : zVir RL 30 mX6_element 2 := ⟨zpX6_element, zin2 (i := 26) rfl rfl, zin2 (i := 27) rfl rfl, zin2 (i := 28) rfl rfl⟩
theorem zlX6_100 : zVir RX6 100 mX2_elementAt 1 := ⟨zpX2_elementAt, zin2 (i := 30) rfl rfl, zin2 (i := 31) rfl rfl, zin2 (i := 32) rfl rfl⟩
theorem zlL_35 : zVir RL 35 mX6_holds 1 := ⟨zpX6_holds, zin2 (i := 34) rfl rfl, zin2 (i := 35) rfl rfl, zin2 (i := 36) rfl rfl⟩
theorem zlL_40 : zVir RL 40 mX6_show 2 := ⟨zpX6_show, zin2 (i := 38) rfl rfl, zin2 (i := 39) rfl rfl, zin2 (i := 40) rfl rfl⟩
theorem zlX6_104 : zVir RX6 104 mX6_isBendOrNone 1 := ⟨zpX6_isBendOrNone, zin2 (i := 42) rfl rfl, zin2 (i := 44) rfl rfl, zinP (i := 3) (q := (⟨"OnTheRoof", "isBendOrNone", "(I)Z"⟩, 9)) rfl rfl⟩
theorem zlX6_119 : zVir RX6 119 mX3_has 1 := ⟨zpX3_has, zin2 (i := 46) rfl rfl, zin2 (i := 47) rfl rfl, zin2 (i := 48) rfl rfl⟩
theorem zlX6_107 : zVir RX6 107 mX2_takeBend 1 := ⟨zpX2_takeBend, zin2 (i := 50) rfl rfl, zin2 (i := 51) rfl rfl, zin2 (i := 52) rfl rfl⟩
theorem zlL_45 : zVir RL 45 mX6_says 2 := ⟨zpX6_says, zin2 (i := 54) rfl rfl, zin2 (i := 55) rfl rfl, zin2 (i := 56) rfl rfl⟩
theorem zlX6_111 : zVir RX6 111 mX2_bendNumber 0 := ⟨zpX2_bendNumber, zin2 (i := 58) rfl rfl, zin2 (i := 59) rfl rfl, zin2 (i := 60) rfl rfl⟩
theorem zlX2_19 : zVir RX2 19 mX2_isBend 0 := ⟨zpX2_isBend, zin2 (i := 62) rfl rfl, zin2 (i := 11) rfl rfl, zin2 (i := 12) rfl rfl⟩
theorem zlX6_124 : zVir RX6 124 mX3_at 2 := ⟨zpX3_at, zin2 (i := 63) rfl rfl, zin2 (i := 64) rfl rfl, zin2 (i := 65) rfl rfl⟩
theorem zlX3_28 : zVir RX3 28 mX3_cellOf 2 := ⟨zpX3_cellOf, zin2 (i := 67) rfl rfl, zin2 (i := 69) rfl rfl, zinP (i := 4) (q := (⟨"OnTheRoof$Table", "cellOf", "(II)I"⟩, 3)) rfl rfl⟩
theorem zlX6_128 : zSta RX6 128 mX6_isUnder 2 := ⟨zpX6_isUnder, zin2 (i := 71) rfl rfl, zin2 (i := 72) rfl rfl⟩
theorem zlX6_131 : zVir RX6 131 mX1_fallAt 2 := ⟨zpX1_fallAt, zin2 (i := 74) rfl rfl, zin2 (i := 75) rfl rfl, zin2 (i := 76) rfl rfl⟩
theorem zlX1_78 : zVir RX1 78 mX1_fallBy 4 := ⟨zpX1_fallBy, zin2 (i := 78) rfl rfl, zin2 (i := 80) rfl rfl, zinP (i := 5) (q := (⟨"OnTheRoof$Road", "fallBy", "(IIII)I"⟩, 8)) rfl rfl⟩
theorem zlX1_71 : zVir RX1 71 mX3_at 2 := ⟨zpX3_at, zin2 (i := 82) rfl rfl, zin2 (i := 64) rfl rfl, zin2 (i := 65) rfl rfl⟩
theorem zlX1_82 : zSta RX1 82 mX1_dryFall 3 := ⟨zpX1_dryFall, zin2 (i := 83) rfl rfl, zin2 (i := 84) rfl rfl⟩
theorem zlX1_86 : zSta RX1 86 mJ9_min_7cf53 2 := ⟨zpJ9_min_7cf53, zin2 (i := 86) rfl rfl, zin2 (i := 87) rfl rfl⟩
theorem zlX1_91 : zSta RX1 91 mJ9_max_7cf53 2 := ⟨zpJ9_max_7cf53, zin2 (i := 89) rfl rfl, zin1 (i := 37) rfl rfl⟩
theorem zlL_49 : zVir RL 49 mX6_bend 4 := ⟨zpX6_bend, zin2 (i := 90) rfl rfl, zin2 (i := 91) rfl rfl, zin2 (i := 92) rfl rfl⟩
theorem zlX6_137 : zVir RX6 137 mX1_takes 3 := ⟨zpX1_takes, zin2 (i := 94) rfl rfl, zin2 (i := 95) rfl rfl, zin2 (i := 96) rfl rfl⟩
theorem zlX6_140 : zVir RX6 140 mX3_isFull 0 := ⟨zpX3_isFull, zin2 (i := 102) rfl rfl, zin2 (i := 103) rfl rfl, zin2 (i := 104) rfl rfl⟩
theorem zlX6_143 : zVir RX6 143 mX1_addBend 4 := ⟨zpX1_addBend, zin2 (i := 106) rfl rfl, zin2 (i := 107) rfl rfl, zin2 (i := 108) rfl rfl⟩
theorem zlX1_63 : zVir RX1 63 mX3_grow 0 := ⟨zpX3_grow, zin2 (i := 110) rfl rfl, zin2 (i := 111) rfl rfl, zin2 (i := 112) rfl rfl⟩
theorem zlX3_31 : zVir RX3 31 mX3_isFull 0 := ⟨zpX3_isFull, zin2 (i := 114) rfl rfl, zin2 (i := 103) rfl rfl, zin2 (i := 104) rfl rfl⟩
theorem zlX1_67 : zVir RX1 67 mX3_put 3 := ⟨zpX3_put, zin2 (i := 115) rfl rfl, zin2 (i := 116) rfl rfl, zin2 (i := 117) rfl rfl⟩
theorem zlL_54 : zVir RL 54 mX6_ask 2 := ⟨zpX6_ask, zin2 (i := 119) rfl rfl, zin2 (i := 120) rfl rfl, zin2 (i := 121) rfl rfl⟩
theorem zlX6_147 : zVir RX6 147 mX1_settle 2 := ⟨zpX1_settle, zin2 (i := 123) rfl rfl, zin2 (i := 124) rfl rfl, zin2 (i := 125) rfl rfl⟩
theorem zlL_58 : zVir RL 58 mX6_sign 3 := ⟨zpX6_sign, zin2 (i := 127) rfl rfl, zin2 (i := 128) rfl rfl, zin2 (i := 129) rfl rfl⟩
theorem zlX6_150 : zVir RX6 150 mX6_isSign 2 := ⟨zpX6_isSign, zin2 (i := 131) rfl rfl, zin2 (i := 133) rfl rfl, zinP (i := 6) (q := (⟨"OnTheRoof", "isSign", "(II)Z"⟩, 9)) rfl rfl⟩
theorem zlX6_156 : zVir RX6 156 mX1_addSign 3 := ⟨zpX1_addSign, zin2 (i := 135) rfl rfl, zin2 (i := 136) rfl rfl, zin2 (i := 137) rfl rfl⟩
theorem zlL_63 : zVir RL 63 mX6_anew 0 := ⟨zpX6_anew, zin2 (i := 139) rfl rfl, zin2 (i := 140) rfl rfl, zin2 (i := 141) rfl rfl⟩
theorem zlX6_163 : zVir RX6 163 mX1_forget 0 := ⟨zpX1_forget, zin2 (i := 143) rfl rfl, zin2 (i := 144) rfl rfl, zin2 (i := 145) rfl rfl⟩
theorem zlL_68 : zVir RL 68 mX6_feed 1 := ⟨zpX6_feed, zin2 (i := 147) rfl rfl, zin2 (i := 148) rfl rfl, zin2 (i := 149) rfl rfl⟩
theorem zlX6_166 : zVir RX6 166 mX4_isFull 0 := ⟨zpX4_isFull, zin2 (i := 151) rfl rfl, zin2 (i := 152) rfl rfl, zin2 (i := 153) rfl rfl⟩
theorem zlX6_167 : zVir RX6 167 mX4_write 1 := ⟨zpX4_write, zin2 (i := 155) rfl rfl, zin2 (i := 156) rfl rfl, zin2 (i := 157) rfl rfl⟩
theorem zlL_72 : zVir RL 72 mX6_wipe 0 := ⟨zpX6_wipe, zin2 (i := 159) rfl rfl, zin2 (i := 160) rfl rfl, zin2 (i := 161) rfl rfl⟩
theorem zlL_76 : zVir RL 76 mX6_way 0 := ⟨zpX6_way, zin2 (i := 163) rfl rfl, zin2 (i := 164) rfl rfl, zin2 (i := 165) rfl rfl⟩
theorem zlX6_173 : zVir RX6 173 mX1_takeFrom 1 := ⟨zpX1_takeFrom, zin2 (i := 167) rfl rfl, zin2 (i := 168) rfl rfl, zin2 (i := 169) rfl rfl⟩
theorem zlX1_36 : zVir RX1 36 mX3_takeFrom 1 := ⟨zpX3_takeFrom, zin2 (i := 171) rfl rfl, zin2 (i := 172) rfl rfl, zin2 (i := 173) rfl rfl⟩
theorem zlX3_35 : zSta RX3 35 mJ9_min_7cf53 2 := ⟨zpJ9_min_7cf53, zin2 (i := 175) rfl rfl, zin2 (i := 87) rfl rfl⟩
theorem zlX6_177 : zVir RX6 177 mX4_readInto 1 := ⟨zpX4_readInto, zin2 (i := 177) rfl rfl, zin2 (i := 178) rfl rfl, zin2 (i := 179) rfl rfl⟩
theorem zlX4_25 : zVir RX4 25 mX4_step 0 := ⟨zpX4_step, zin2 (i := 181) rfl rfl, zin2 (i := 183) rfl rfl, zinP (i := 7) (q := (⟨"OnTheRoof$Tape", "step", "()V"⟩, 6)) rfl rfl⟩
theorem zlX4_83 : zVir RX4 83 mX4_byteAt 1 := ⟨zpX4_byteAt, zin2 (i := 185) rfl rfl, zin2 (i := 187) rfl rfl, zinP (i := 8) (q := (⟨"OnTheRoof$Tape", "byteAt", "(I)I"⟩, 6)) rfl rfl⟩
theorem zlX4_86 : zSta RX4 86 mX4_sortOf 1 := ⟨zpX4_sortOf, zin2 (i := 189) rfl rfl, zin2 (i := 190) rfl rfl⟩
theorem zlX4_28 : zVir RX4 28 mX4_readStatement 1 := ⟨zpX4_readStatement, zin2 (i := 192) rfl rfl, zin2 (i := 194) rfl rfl, zinP (i := 9) (q := (⟨"OnTheRoof$Tape", "readStatement", "(LOnTheRoof$Road;)Z"⟩, 6)) rfl rfl⟩
theorem zlX4_38 : zVir RX4 38 mX4_statementOf 0 := ⟨zpX4_statementOf, zin2 (i := 196) rfl rfl, zin2 (i := 198) rfl rfl, zinP (i := 10) (q := (⟨"OnTheRoof$Tape", "statementOf", "()I"⟩, 6)) rfl rfl⟩
theorem zlX4_91 : zVir RX4 91 mX4_isWord 1 := ⟨zpX4_isWord, zin2 (i := 201) rfl rfl, zin2 (i := 203) rfl rfl, zinP (i := 11) (q := (⟨"OnTheRoof$Tape", "isWord", "(Ljava/lang/String;)Z"⟩, 6)) rfl rfl⟩
theorem zlX4_109 : zVir RX4 109 mJ0_length_8abf5 0 := ⟨zpJ0_length_8abf5, zin2 (i := 205) rfl rfl, zin2 (i := 206) rfl rfl, zin2 (i := 207) rfl rfl⟩
theorem zlJ0_335 : zVir RJ0 335 mJ0_coder_7d493 0 := ⟨zpJ0_coder_7d493, zin2 (i := 209) rfl rfl, zin2 (i := 210) rfl rfl, zin2 (i := 211) rfl rfl⟩
theorem zlX4_114 : zVir RX4 114 mJ0_charAt_5068e 1 := ⟨zpJ0_charAt_5068e, zin2 (i := 215) rfl rfl, zin2 (i := 216) rfl rfl, zin2 (i := 217) rfl rfl⟩
theorem zlJ0_492 : zVir RJ0 492 mJ0_isLatin1_aae02 0 := ⟨zpJ0_isLatin1_aae02, zin2 (i := 219) rfl rfl, zin2 (i := 220) rfl rfl, zin2 (i := 221) rfl rfl⟩
theorem zlJ0_495 : zSta RJ0 495 mJ1_charAt_3b067 2 := ⟨zpJ1_charAt_3b067, zin2 (i := 223) rfl rfl, zin2 (i := 224) rfl rfl⟩
theorem zlJ1_9 : zSta RJ1 9 mJ0_checkIndex_df160 2 := ⟨zpJ0_checkIndex_df160, zin2 (i := 226) rfl rfl, zin2 (i := 227) rfl rfl⟩
theorem zlJ0_1059 : zSta RJ0 1059 mJ3_checkIndex_8e157 3 := ⟨zpJ3_checkIndex_8e157, zin2 (i := 231) rfl rfl, zin2 (i := 232) rfl rfl⟩
theorem zlJ0_498 : zSta RJ0 498 mJ2_charAt_3b067 2 := ⟨zpJ2_charAt_3b067, zin2 (i := 234) rfl rfl, zin2 (i := 235) rfl rfl⟩
theorem zlJ2_67 : zSta RJ2 67 mJ2_checkIndex_2214a 2 := ⟨zpJ2_checkIndex_2214a, zin2 (i := 237) rfl rfl, zin2 (i := 238) rfl rfl⟩
theorem zlJ2_48 : zSta RJ2 48 mJ2_length_9d52b 1 := ⟨zpJ2_length_9d52b, zin3 (i := 0) rfl rfl, zin3 (i := 1) rfl rfl⟩
theorem zlJ2_414 : zSta RJ2 414 mJ0_checkIndex_df160 2 := ⟨zpJ0_checkIndex_df160, zin3 (i := 3) rfl rfl, zin2 (i := 227) rfl rfl⟩
theorem zlJ2_71 : zSta RJ2 71 mJ2_getChar_3b067 2 := ⟨zpJ2_getChar_3b067, zin3 (i := 4) rfl rfl, zin3 (i := 5) rfl rfl⟩
theorem zlX4_42 : zVir RX4 42 mX1_hasRoomFor 1 := ⟨zpX1_hasRoomFor, zin3 (i := 20) rfl rfl, zin3 (i := 21) rfl rfl, zin3 (i := 22) rfl rfl⟩
theorem zlX1_59 : zVir RX1 59 mX3_isFull 0 := ⟨zpX3_isFull, zin3 (i := 24) rfl rfl, zin2 (i := 103) rfl rfl, zin2 (i := 104) rfl rfl⟩
theorem zlX4_48 : zSta RX4 48 mX1_numbersOf 1 := ⟨zpX1_numbersOf, zin3 (i := 25) rfl rfl, zin3 (i := 26) rfl rfl⟩
theorem zlX4_52 : zVir RX4 52 mX4_valueOf 0 := ⟨zpX4_valueOf, zin3 (i := 30) rfl rfl, zin3 (i := 32) rfl rfl, zinP (i := 12) (q := (⟨"OnTheRoof$Tape", "valueOf", "()I"⟩, 6)) rfl rfl⟩
theorem zlX4_55 : zVir RX4 55 mX1_takes 3 := ⟨zpX1_takes, zin3 (i := 34) rfl rfl, zin2 (i := 95) rfl rfl, zin2 (i := 96) rfl rfl⟩
theorem zlX4_59 : zVir RX4 59 mX4_carryOut 2 := ⟨zpX4_carryOut, zin3 (i := 35) rfl rfl, zin3 (i := 37) rfl rfl, zinP (i := 13) (q := (⟨"OnTheRoof$Tape", "carryOut", "(LOnTheRoof$Road;I)V"⟩, 6)) rfl rfl⟩
theorem zlX4_63 : zVir RX4 63 mX1_addBend 4 := ⟨zpX1_addBend, zin3 (i := 39) rfl rfl, zin2 (i := 107) rfl rfl, zin2 (i := 108) rfl rfl⟩
theorem zlX4_67 : zVir RX4 67 mX1_addSign 3 := ⟨zpX1_addSign, zin3 (i := 40) rfl rfl, zin2 (i := 136) rfl rfl, zin2 (i := 137) rfl rfl⟩
theorem zlX4_71 : zVir RX4 71 mX1_addCall 3 := ⟨zpX1_addCall, zin3 (i := 41) rfl rfl, zin3 (i := 42) rfl rfl, zin3 (i := 43) rfl rfl⟩
theorem zlX4_75 : zVir RX4 75 mX1_lookInVain 2 := ⟨zpX1_lookInVain, zin3 (i := 45) rfl rfl, zin3 (i := 46) rfl rfl, zin3 (i := 47) rfl rfl⟩
theorem zlX1_75 : zNst RX1 75 mX6_missBehind 2 := ⟨zpX6_missBehind, ⟨_, List.mem_of_getElem? (i := 0) rfl⟩, zin3 (i := 50) rfl rfl⟩
theorem zlX6_339 : zSta RX6 339 mX6_seenBy 1 := ⟨zpX6_seenBy, zin3 (i := 52) rfl rfl, zin3 (i := 53) rfl rfl⟩
theorem zlX4_79 : zVir RX4 79 mX1_settle 2 := ⟨zpX1_settle, zin3 (i := 55) rfl rfl, zin2 (i := 124) rfl rfl, zin2 (i := 125) rfl rfl⟩
theorem zlL_80 : zVir RL 80 mX6_bendOf 2 := ⟨zpX6_bendOf, zin3 (i := 57) rfl rfl, zin3 (i := 58) rfl rfl, zin3 (i := 59) rfl rfl⟩
theorem zlX6_181 : zVir RX6 181 mX1_yardsTo 1 := ⟨zpX1_yardsTo, zin3 (i := 61) rfl rfl, zin3 (i := 62) rfl rfl, zin3 (i := 63) rfl rfl⟩
theorem zlL_84 : zVir RL 84 mX6_signOf 2 := ⟨zpX6_signOf, zin3 (i := 65) rfl rfl, zin3 (i := 66) rfl rfl, zin3 (i := 67) rfl rfl⟩
theorem zlL_200 : zVir RL 200 mX6_call 3 := ⟨zpX6_call, zin3 (i := 69) rfl rfl, zin3 (i := 70) rfl rfl, zin3 (i := 71) rfl rfl⟩
theorem zlX6_187 : zVir RX6 187 mX1_addCall 3 := ⟨zpX1_addCall, zin3 (i := 73) rfl rfl, zin3 (i := 42) rfl rfl, zin3 (i := 43) rfl rfl⟩
theorem zlL_204 : zVir RL 204 mX6_callOf 2 := ⟨zpX6_callOf, zin3 (i := 74) rfl rfl, zin3 (i := 75) rfl rfl, zin3 (i := 76) rfl rfl⟩
theorem zlL_88 : zVir RL 88 mX6_fall 2 := ⟨zpX6_fall, zin3 (i := 78) rfl rfl, zin3 (i := 79) rfl rfl, zin3 (i := 80) rfl rfl⟩
theorem zlL_92 : zVir RL 92 mX6_fell 2 := ⟨zpX6_fell, zin3 (i := 82) rfl rfl, zin3 (i := 83) rfl rfl, zin3 (i := 84) rfl rfl⟩
theorem zlX6_191 : zVir RX6 191 mX1_fellAt 2 := ⟨zpX1_fellAt, zin3 (i := 86) rfl rfl, zin3 (i := 87) rfl rfl, zin3 (i := 88) rfl rfl⟩
theorem zlX1_95 : zVir RX1 95 mX1_fallAt 2 := ⟨zpX1_fallAt, zin3 (i := 91) rfl rfl, zin2 (i := 75) rfl rfl, zin2 (i := 76) rfl rfl⟩
theorem zlL_96 : zVir RL 96 mX6_weight 1 := ⟨zpX6_weight, zin3 (i := 92) rfl rfl, zin3 (i := 93) rfl rfl, zin3 (i := 94) rfl rfl⟩
theorem zlX6_194 : zVir RX6 194 mX5_weigh 1 := ⟨zpX5_weigh, zin3 (i := 96) rfl rfl, zin3 (i := 97) rfl rfl, zin3 (i := 98) rfl rfl⟩
theorem zlX5_30 : zSta RX5 30 mJ9_min_7cf53 2 := ⟨zpJ9_min_7cf53, zin3 (i := 100) rfl rfl, zin2 (i := 87) rfl rfl⟩
theorem zlX5_41 : zVir RX5 41 mX1_fellAt 2 := ⟨zpX1_fellAt, zin3 (i := 101) rfl rfl, zin3 (i := 87) rfl rfl, zin3 (i := 88) rfl rfl⟩
theorem zlX5_44 : zVir RX5 44 mX3_at 2 := ⟨zpX3_at, zin3 (i := 102) rfl rfl, zin2 (i := 64) rfl rfl, zin2 (i := 65) rfl rfl⟩
theorem zlX5_53 : zVir RX5 53 mX5_heed 3 := ⟨zpX5_heed, zin3 (i := 103) rfl rfl, zin3 (i := 104) rfl rfl, zin3 (i := 105) rfl rfl⟩
theorem zlX6_197 : zVir RX6 197 mX5_at 1 := ⟨zpX5_at, zin3 (i := 107) rfl rfl, zin3 (i := 108) rfl rfl, zin3 (i := 109) rfl rfl⟩
theorem zlL_100 : zVir RL 100 mX6_likely 1 := ⟨zpX6_likely, zin3 (i := 111) rfl rfl, zin3 (i := 112) rfl rfl, zin3 (i := 113) rfl rfl⟩
theorem zlX6_199 : zVir RX6 199 mX6_thousandthsOfAll 1 := ⟨zpX6_thousandthsOfAll, zin3 (i := 115) rfl rfl, zin3 (i := 117) rfl rfl, zinP (i := 14) (q := (⟨"OnTheRoof", "thousandthsOfAll", "(I)I"⟩, 9)) rfl rfl⟩
theorem zlX6_205 : zVir RX6 205 mX5_all 0 := ⟨zpX5_all, zin3 (i := 119) rfl rfl, zin3 (i := 120) rfl rfl, zin3 (i := 121) rfl rfl⟩
theorem zlX5_63 : zVir RX5 63 mX5_sum 2 := ⟨zpX5_sum, zin3 (i := 123) rfl rfl, zin3 (i := 124) rfl rfl, zin3 (i := 125) rfl rfl⟩
theorem zlX5_57 : zSta RX5 57 mJ9_max_7cf53 2 := ⟨zpJ9_max_7cf53, zin3 (i := 127) rfl rfl, zin1 (i := 37) rfl rfl⟩
theorem zlX5_60 : zVir RX5 60 mX5_at 1 := ⟨zpX5_at, zin3 (i := 128) rfl rfl, zin3 (i := 108) rfl rfl, zin3 (i := 109) rfl rfl⟩
theorem zlL_104 : zVir RL 104 mX6_between 2 := ⟨zpX6_between, zin3 (i := 130) rfl rfl, zin3 (i := 131) rfl rfl, zin3 (i := 132) rfl rfl⟩
theorem zlX6_202 : zVir RX6 202 mX5_sum 2 := ⟨zpX5_sum, zin3 (i := 134) rfl rfl, zin3 (i := 124) rfl rfl, zin3 (i := 125) rfl rfl⟩
theorem zlL_108 : zVir RL 108 mX6_half 0 := ⟨zpX6_half, zin3 (i := 135) rfl rfl, zin3 (i := 136) rfl rfl, zin3 (i := 137) rfl rfl⟩
theorem zlL_112 : zVir RL 112 mX6_few 1 := ⟨zpX6_few, zin3 (i := 139) rfl rfl, zin3 (i := 140) rfl rfl, zin3 (i := 141) rfl rfl⟩
theorem zlX6_208 : zVir RX6 208 mX5_fewestFor 1 := ⟨zpX5_fewestFor, zin3 (i := 143) rfl rfl, zin3 (i := 144) rfl rfl, zin3 (i := 145) rfl rfl⟩
theorem zlX5_72 : zVir RX5 72 mX5_greatestBut 1 := ⟨zpX5_greatestBut, zin3 (i := 148) rfl rfl, zin3 (i := 149) rfl rfl, zin3 (i := 150) rfl rfl⟩
theorem zlX5_66 : zNst RX5 66 mX6_isIn 2 := ⟨zpX6_isIn, ⟨_, List.mem_of_getElem? (i := 1) rfl⟩, zin3 (i := 153) rfl rfl⟩
theorem zlL_116 : zVir RL 116 mX6_asks 0 := ⟨zpX6_asks, zin3 (i := 155) rfl rfl, zin3 (i := 156) rfl rfl, zin3 (i := 157) rfl rfl⟩
theorem zlX6_211 : zVir RX6 211 mX5_evenestBend 0 := ⟨zpX5_evenestBend, zin3 (i := 159) rfl rfl, zin3 (i := 160) rfl rfl, zin3 (i := 161) rfl rfl⟩
theorem zlX5_75 : zVir RX5 75 mX5_all 0 := ⟨zpX5_all, zin3 (i := 163) rfl rfl, zin3 (i := 120) rfl rfl, zin3 (i := 121) rfl rfl⟩
theorem zlX5_79 : zSta RX5 79 mJ9_abs_0f7a4 1 := ⟨zpJ9_abs_0f7a4, zin3 (i := 164) rfl rfl, zin3 (i := 165) rfl rfl⟩
theorem zlL_120 : zVir RL 120 mX6_after 3 := ⟨zpX6_after, zin3 (i := 167) rfl rfl, zin3 (i := 168) rfl rfl, zin3 (i := 169) rfl rfl⟩
theorem zlX6_214 : zVir RX6 214 mX5_heed 3 := ⟨zpX5_heed, zin3 (i := 171) rfl rfl, zin3 (i := 104) rfl rfl, zin3 (i := 105) rfl rfl⟩
theorem zlL_124 : zVir RL 124 mX6_where 0 := ⟨zpX6_where, zin3 (i := 172) rfl rfl, zin3 (i := 173) rfl rfl, zin3 (i := 174) rfl rfl⟩
theorem zlX6_217 : zVir RX6 217 mX5_greatestBut 1 := ⟨zpX5_greatestBut, zin3 (i := 176) rfl rfl, zin3 (i := 149) rfl rfl, zin3 (i := 150) rfl rfl⟩
theorem zlL_196 : zVir RL 196 mX6_last 0 := ⟨zpX6_last, zin3 (i := 177) rfl rfl, zin3 (i := 178) rfl rfl, zin3 (i := 179) rfl rfl⟩
theorem zlL_192 : zVir RL 192 mX6_worst 0 := ⟨zpX6_worst, zin3 (i := 181) rfl rfl, zin3 (i := 182) rfl rfl, zin3 (i := 183) rfl rfl⟩
theorem zlL_128 : zVir RL 128 mX6_seconds 2 := ⟨zpX6_seconds, zin3 (i := 185) rfl rfl, zin3 (i := 186) rfl rfl, zin3 (i := 187) rfl rfl⟩
theorem zlX6_220 : zVir RX6 220 mX6_isLookAt 2 := ⟨zpX6_isLookAt, zin3 (i := 189) rfl rfl, zin3 (i := 191) rfl rfl, zinP (i := 15) (q := (⟨"OnTheRoof", "isLookAt", "(II)Z"⟩, 9)) rfl rfl⟩
theorem zlX6_331 : zSta RX6 331 mX6_isLook 1 := ⟨zpX6_isLook, zin3 (i := 193) rfl rfl, zin3 (i := 194) rfl rfl⟩
theorem zlX6_223 : zVir RX6 223 mX1_secondsOf 2 := ⟨zpX1_secondsOf, zin3 (i := 196) rfl rfl, zin3 (i := 197) rfl rfl, zin3 (i := 198) rfl rfl⟩
theorem zlL_132 : zVir RL 132 mX6_found 2 := ⟨zpX6_found, zin3 (i := 200) rfl rfl, zin3 (i := 201) rfl rfl, zin3 (i := 202) rfl rfl⟩
theorem zlX6_226 : zVir RX6 226 mX5_foundBy 2 := ⟨zpX5_foundBy, zin3 (i := 204) rfl rfl, zin3 (i := 205) rfl rfl, zin3 (i := 206) rfl rfl⟩
theorem zlX5_82 : zNst RX5 82 mX6_seenBy 1 := ⟨zpX6_seenBy, ⟨_, List.mem_of_getElem? (i := 2) rfl⟩, zin3 (i := 53) rfl rfl⟩
theorem zlL_136 : zVir RL 136 mX6_best 2 := ⟨zpX6_best, zin3 (i := 209) rfl rfl, zin3 (i := 210) rfl rfl, zin3 (i := 211) rfl rfl⟩
theorem zlX6_229 : zVir RX6 229 mX0_make 3 := ⟨zpX0_make, zin3 (i := 213) rfl rfl, zin3 (i := 214) rfl rfl, zin3 (i := 215) rfl rfl⟩
theorem zlX0_24 : zSta RX0 24 mJ9_min_7cf53 2 := ⟨zpJ9_min_7cf53, zin3 (i := 217) rfl rfl, zin2 (i := 87) rfl rfl⟩
theorem zlX0_36 : zVir RX0 36 mX1_secondsOf 2 := ⟨zpX1_secondsOf, zin3 (i := 218) rfl rfl, zin3 (i := 197) rfl rfl, zin3 (i := 198) rfl rfl⟩
theorem zlX0_41 : zVir RX0 41 mX5_foundBy 2 := ⟨zpX5_foundBy, zin3 (i := 219) rfl rfl, zin3 (i := 205) rfl rfl, zin3 (i := 206) rfl rfl⟩
theorem zlX0_44 : zVir RX0 44 mX0_chooseLook 2 := ⟨zpX0_chooseLook, zin3 (i := 220) rfl rfl, zin3 (i := 222) rfl rfl, zinP (i := 16) (q := (⟨"OnTheRoof$Plan", "chooseLook", "(II)V"⟩, 4)) rfl rfl⟩
theorem zlX6_233 : zVir RX6 233 mX0_foundIn 1 := ⟨zpX0_foundIn, zin3 (i := 224) rfl rfl, zin3 (i := 225) rfl rfl, zin3 (i := 226) rfl rfl⟩
theorem zlX6_236 : zVir RX6 236 mX0_lookIn 2 := ⟨zpX0_lookIn, zin3 (i := 228) rfl rfl, zin3 (i := 229) rfl rfl, zin3 (i := 230) rfl rfl⟩
theorem zlL_140 : zVir RL 140 mX6_next 0 := ⟨zpX6_next, zin3 (i := 232) rfl rfl, zin3 (i := 233) rfl rfl, zin3 (i := 234) rfl rfl⟩
theorem zlX6_239 : zVir RX6 239 mX5_nextLook 1 := ⟨zpX5_nextLook, zin3 (i := 236) rfl rfl, zin3 (i := 237) rfl rfl, zin3 (i := 238) rfl rfl⟩
theorem zlX5_88 : zVir RX5 88 mX5_rateOf 3 := ⟨zpX5_rateOf, zin4 (i := 0) rfl rfl, zin4 (i := 2) rfl rfl, zinP (i := 17) (q := (⟨"OnTheRoof$Weights", "rateOf", "(LOnTheRoof$Road;II)J"⟩, 4)) rfl rfl⟩
theorem zlX5_92 : zVir RX5 92 mX1_secondsOf 2 := ⟨zpX1_secondsOf, zin4 (i := 4) rfl rfl, zin3 (i := 197) rfl rfl, zin3 (i := 198) rfl rfl⟩
theorem zlX5_95 : zVir RX5 95 mX5_foundBy 2 := ⟨zpX5_foundBy, zin4 (i := 5) rfl rfl, zin3 (i := 205) rfl rfl, zin3 (i := 206) rfl rfl⟩
theorem zlL_144 : zVir RL 144 mX6_soonest 1 := ⟨zpX6_soonest, zin4 (i := 6) rfl rfl, zin4 (i := 7) rfl rfl, zin4 (i := 8) rfl rfl⟩
theorem zlL_148 : zVir RL 148 mX6_order 1 := ⟨zpX6_order, zin4 (i := 11) rfl rfl, zin4 (i := 12) rfl rfl, zin4 (i := 13) rfl rfl⟩
theorem zlX6_243 : zVir RX6 243 mX5_lookOnInVain 2 := ⟨zpX5_lookOnInVain, zin4 (i := 15) rfl rfl, zin4 (i := 16) rfl rfl, zin4 (i := 17) rfl rfl⟩
theorem zlX5_98 : zVir RX5 98 mX5_nextLook 1 := ⟨zpX5_nextLook, zin4 (i := 19) rfl rfl, zin3 (i := 237) rfl rfl, zin3 (i := 238) rfl rfl⟩
theorem zlX5_102 : zVir RX5 102 mX5_lookInVain 2 := ⟨zpX5_lookInVain, zin4 (i := 20) rfl rfl, zin4 (i := 21) rfl rfl, zin4 (i := 22) rfl rfl⟩
theorem zlX5_85 : zNst RX5 85 mX6_missBehind 2 := ⟨zpX6_missBehind, ⟨_, List.mem_of_getElem? (i := 3) rfl⟩, zin3 (i := 50) rfl rfl⟩
theorem zlL_152 : zVir RL 152 mX6_vain 1 := ⟨zpX6_vain, zin4 (i := 25) rfl rfl, zin4 (i := 26) rfl rfl, zin4 (i := 27) rfl rfl⟩
theorem zlL_156 : zVir RL 156 mX6_others 1 := ⟨zpX6_others, zin4 (i := 29) rfl rfl, zin4 (i := 30) rfl rfl, zin4 (i := 31) rfl rfl⟩
theorem zlX6_247 : zSta RX6 247 mX6_goneBy 3 := ⟨zpX6_goneBy, zin4 (i := 33) rfl rfl, zin4 (i := 34) rfl rfl⟩
theorem zlL_160 : zVir RL 160 mX6_fast 1 := ⟨zpX6_fast, zin4 (i := 36) rfl rfl, zin4 (i := 37) rfl rfl, zin4 (i := 38) rfl rfl⟩
theorem zlX6_256 : zVir RX6 256 mX1_heldBy 3 := ⟨zpX1_heldBy, zin4 (i := 40) rfl rfl, zin4 (i := 41) rfl rfl, zin4 (i := 42) rfl rfl⟩
theorem zlL_164 : zVir RL 164 mX6_drove 1 := ⟨zpX6_drove, zin4 (i := 44) rfl rfl, zin4 (i := 45) rfl rfl, zin4 (i := 46) rfl rfl⟩
theorem zlL_168 : zVir RL 168 mX6_gripFor 1 := ⟨zpX6_gripFor, zin4 (i := 48) rfl rfl, zin4 (i := 49) rfl rfl, zin4 (i := 50) rfl rfl⟩
theorem zlL_172 : zVir RL 172 mX6_otherwise 0 := ⟨zpX6_otherwise, zin4 (i := 52) rfl rfl, zin4 (i := 53) rfl rfl, zin4 (i := 54) rfl rfl⟩
theorem zlL_176 : zVir RL 176 mX6_slows 1 := ⟨zpX6_slows, zin4 (i := 56) rfl rfl, zin4 (i := 57) rfl rfl, zin4 (i := 58) rfl rfl⟩
theorem zlX6_259 : zSta RX6 259 mJ6_bitCount_0f7a4 1 := ⟨zpJ6_bitCount_0f7a4, zin4 (i := 60) rfl rfl, zin4 (i := 61) rfl rfl⟩
theorem zlX6_264 : zVir RX6 264 mX1_heldWith 2 := ⟨zpX1_heldWith, zin4 (i := 66) rfl rfl, zin4 (i := 67) rfl rfl, zin4 (i := 68) rfl rfl⟩
theorem zlX1_98 : zNst RX1 98 mX6_isIn 2 := ⟨zpX6_isIn, ⟨_, List.mem_of_getElem? (i := 4) rfl⟩, zin3 (i := 153) rfl rfl⟩
theorem zlL_180 : zVir RL 180 mX6_without 1 := ⟨zpX6_without, zin4 (i := 71) rfl rfl, zin4 (i := 72) rfl rfl, zin4 (i := 73) rfl rfl⟩
theorem zlL_184 : zVir RL 184 mX6_once 1 := ⟨zpX6_once, zin4 (i := 75) rfl rfl, zin4 (i := 76) rfl rfl, zin4 (i := 77) rfl rfl⟩
theorem zlX6_267 : zVir RX6 267 mX6_heldNow 0 := ⟨zpX6_heldNow, zin4 (i := 79) rfl rfl, zin4 (i := 81) rfl rfl, zinP (i := 18) (q := (⟨"OnTheRoof", "heldNow", "()I"⟩, 9)) rfl rfl⟩
theorem zlX6_270 : zSta RX6 270 mX6_afterTrip 2 := ⟨zpX6_afterTrip, zin4 (i := 83) rfl rfl, zin4 (i := 84) rfl rfl⟩
theorem zlL_188 : zVir RL 188 mX6_until 1 := ⟨zpX6_until, zin4 (i := 87) rfl rfl, zin4 (i := 88) rfl rfl, zin4 (i := 89) rfl rfl⟩
theorem zlL_216 : zVir RL 216 mX6_worth 3 := ⟨zpX6_worth, zin4 (i := 91) rfl rfl, zin4 (i := 92) rfl rfl, zin4 (i := 93) rfl rfl⟩
theorem zlL_208 : zVir RL 208 mX6_hears 1 := ⟨zpX6_hears, zin4 (i := 96) rfl rfl, zin4 (i := 97) rfl rfl, zin4 (i := 98) rfl rfl⟩
theorem zlX6_276 : zVir RX6 276 mX6_heardBy 1 := ⟨zpX6_heardBy, zin4 (i := 100) rfl rfl, zin4 (i := 102) rfl rfl, zinP (i := 19) (q := (⟨"OnTheRoof", "heardBy", "(I)I"⟩, 9)) rfl rfl⟩
theorem zlX6_292 : zSta RX6 292 mJ9_max_7cf53 2 := ⟨zpJ9_max_7cf53, zin4 (i := 104) rfl rfl, zin1 (i := 37) rfl rfl⟩
theorem zlL_212 : zVir RL 212 mX6_rings 1 := ⟨zpX6_rings, zin4 (i := 105) rfl rfl, zin4 (i := 106) rfl rfl, zin4 (i := 107) rfl rfl⟩
theorem zlX6_279 : zVir RX6 279 mX6_minutesOf 1 := ⟨zpX6_minutesOf, zin4 (i := 109) rfl rfl, zin4 (i := 111) rfl rfl, zinP (i := 20) (q := (⟨"OnTheRoof", "minutesOf", "(I)I"⟩, 9)) rfl rfl⟩
theorem zlX6_336 : zSta RX6 336 mX6_isIn 2 := ⟨zpX6_isIn, zin4 (i := 113) rfl rfl, zin3 (i := 153) rfl rfl⟩
theorem zlX6_282 : zVir RX6 282 mX6_heardBySet 1 := ⟨zpX6_heardBySet, zin4 (i := 114) rfl rfl, zin4 (i := 116) rfl rfl, zinP (i := 21) (q := (⟨"OnTheRoof", "heardBySet", "(I)I"⟩, 9)) rfl rfl⟩
theorem zlL_220 : zVir RL 220 mX6_judge 2 := ⟨zpX6_judge, zin4 (i := 118) rfl rfl, zin4 (i := 119) rfl rfl, zin4 (i := 120) rfl rfl⟩
theorem zlX6_285 : zVir RX6 285 mX2_refusalOfTold 1 := ⟨zpX2_refusalOfTold, zin4 (i := 122) rfl rfl, zin4 (i := 123) rfl rfl, zin4 (i := 124) rfl rfl⟩
theorem zlX2_47 : zNst RX2 47 mX6_isWithin 3 := ⟨zpX6_isWithin, ⟨_, List.mem_of_getElem? (i := 5) rfl⟩, zin1 (i := 210) rfl rfl⟩
theorem zlX2_51 : zVir RX2 51 mX2_isEmpty 0 := ⟨zpX2_isEmpty, zin4 (i := 127) rfl rfl, zin1 (i := 229) rfl rfl, zin1 (i := 230) rfl rfl⟩
theorem zlX6_288 : zVir RX6 288 mX6_wrongPiece 2 := ⟨zpX6_wrongPiece, zin4 (i := 128) rfl rfl, zin4 (i := 130) rfl rfl, zinP (i := 22) (q := (⟨"OnTheRoof", "wrongPiece", "(LOnTheRoof$Shelf;I)I"⟩, 9)) rfl rfl⟩
theorem zlL_224 : zVir RL 224 mX6_apart 2 := ⟨zpX6_apart, zin4 (i := 132) rfl rfl, zin4 (i := 133) rfl rfl, zin4 (i := 134) rfl rfl⟩
theorem zlL_228 : zVir RL 228 mX6_search 3 := ⟨zpX6_search, zin4 (i := 136) rfl rfl, zin4 (i := 137) rfl rfl, zin4 (i := 138) rfl rfl⟩
theorem zlX6_297 : zVir RX6 297 mX6_isToldLook 1 := ⟨zpX6_isToldLook, zin4 (i := 140) rfl rfl, zin4 (i := 142) rfl rfl, zinP (i := 23) (q := (⟨"OnTheRoof", "isToldLook", "(J)Z"⟩, 9)) rfl rfl⟩
theorem zlX6_303 : zVir RX6 303 mX5_lookInVain 2 := ⟨zpX5_lookInVain, zin4 (i := 145) rfl rfl, zin4 (i := 21) rfl rfl, zin4 (i := 22) rfl rfl⟩
theorem zlL_232 : zVir RL 232 mX6_lies 1 := ⟨zpX6_lies, zin4 (i := 146) rfl rfl, zin4 (i := 147) rfl rfl, zin4 (i := 148) rfl rfl⟩
theorem zlL_236 : zVir RL 236 mX6_drive 0 := ⟨zpX6_drive, zin4 (i := 150) rfl rfl, zin4 (i := 151) rfl rfl, zin4 (i := 152) rfl rfl⟩
theorem zlX6_309 : zVir RX6 309 mX1_driveInTruth 0 := ⟨zpX1_driveInTruth, zin4 (i := 154) rfl rfl, zin4 (i := 155) rfl rfl, zin4 (i := 156) rfl rfl⟩
theorem zlX1_103 : zVir RX1 103 mX1_forget 0 := ⟨zpX1_forget, zin4 (i := 158) rfl rfl, zin2 (i := 144) rfl rfl, zin2 (i := 145) rfl rfl⟩
theorem zlX1_106 : zVir RX1 106 mX1_draw 1 := ⟨zpX1_draw, zin4 (i := 159) rfl rfl, zin4 (i := 161) rfl rfl, zinP (i := 24) (q := (⟨"OnTheRoof$Road", "draw", "(I)I"⟩, 8)) rfl rfl⟩
theorem zlL_240 : zVir RL 240 mX6_look 2 := ⟨zpX6_look, zin4 (i := 164) rfl rfl, zin4 (i := 165) rfl rfl, zin4 (i := 166) rfl rfl⟩
theorem zlX6_312 : zVir RX6 312 mX1_lookInTruth 2 := ⟨zpX1_lookInTruth, zin4 (i := 168) rfl rfl, zin4 (i := 169) rfl rfl, zin4 (i := 170) rfl rfl⟩
theorem zlX1_110 : zNst RX1 110 mX6_seenBy 1 := ⟨zpX6_seenBy, ⟨_, List.mem_of_getElem? (i := 6) rfl⟩, zin3 (i := 53) rfl rfl⟩
theorem zlX1_113 : zVir RX1 113 mX1_lookInVain 2 := ⟨zpX1_lookInVain, zin4 (i := 173) rfl rfl, zin3 (i := 46) rfl rfl, zin3 (i := 47) rfl rfl⟩
theorem zlL_244 : zVir RL 244 mX6_trips 1 := ⟨zpX6_trips, zin4 (i := 174) rfl rfl, zin4 (i := 175) rfl rfl, zin4 (i := 176) rfl rfl⟩
theorem zlL_248 : zVir RL 248 mX6_seed 1 := ⟨zpX6_seed, zin4 (i := 178) rfl rfl, zin4 (i := 179) rfl rfl, zin4 (i := 180) rfl rfl⟩
theorem zlL_252 : zVir RL 252 mX6_image 0 := ⟨zpX6_image, zin4 (i := 182) rfl rfl, zin4 (i := 183) rfl rfl, zin4 (i := 184) rfl rfl⟩
theorem zlL_256 : zVir RL 256 mX6_back 0 := ⟨zpX6_back, zin4 (i := 186) rfl rfl, zin4 (i := 187) rfl rfl, zin4 (i := 188) rfl rfl⟩
theorem zlL_260 : zVir RL 260 mX6_status 1 := ⟨zpX6_status, zin4 (i := 190) rfl rfl, zin4 (i := 191) rfl rfl, zin4 (i := 192) rfl rfl⟩
theorem zlX6_322 : zVir RX6 322 mX6_refused 1 := ⟨zpX6_refused, zin4 (i := 194) rfl rfl, zin4 (i := 196) rfl rfl, zinP (i := 25) (q := (⟨"OnTheRoof", "refused", "(I)I"⟩, 9)) rfl rfl⟩
theorem zlX6_325 : zVir RX6 325 mX6_fullShelves 0 := ⟨zpX6_fullShelves, zin4 (i := 198) rfl rfl, zin4 (i := 200) rfl rfl, zinP (i := 26) (q := (⟨"OnTheRoof", "fullShelves", "()I"⟩, 9)) rfl rfl⟩
theorem zlX6_328 : zVir RX6 328 mX1_bendsLookedAt 0 := ⟨zpX1_bendsLookedAt, zin4 (i := 202) rfl rfl, zin4 (i := 203) rfl rfl, zin4 (i := 204) rfl rfl⟩
theorem zlL_12 : zIni RL 12 mX7_init 0 := ⟨zpX7_init, zin4 (i := 208) rfl rfl, zin4 (i := 209) rfl rfl, rfl, rfl⟩
theorem zfX7_7 : zFld RX7 7 7 0 := ⟨_, rfl, by decide, zin4 (i := 216) rfl rfl⟩
theorem zfX7_13 : zFld RX7 13 7 1 := ⟨_, rfl, by decide, zin4 (i := 217) rfl rfl⟩
theorem zfX7_16 : zFld RX7 16 7 2 := ⟨_, rfl, by decide, zin4 (i := 218) rfl rfl⟩
theorem zfX7_21 : zFld RX7 21 7 3 := ⟨_, rfl, by decide, zin4 (i := 219) rfl rfl⟩
theorem zfX7_24 : zFld RX7 24 7 4 := ⟨_, rfl, by decide, zin4 (i := 220) rfl rfl⟩
theorem zfX7_28 : zFld RX7 28 7 5 := ⟨_, rfl, by decide, zin4 (i := 221) rfl rfl⟩
theorem zfX7_31 : zFld RX7 31 7 6 := ⟨_, rfl, by decide, zin4 (i := 222) rfl rfl⟩
theorem zfX7_173 : zFld RX7 173 7 7 := ⟨_, rfl, by decide, zin4 (i := 223) rfl rfl⟩
theorem zfX7_34 : zFld RX7 34 7 8 := ⟨_, rfl, by decide, zin4 (i := 224) rfl rfl⟩
theorem zfX7_94 : zFld RX7 94 7 9 := ⟨_, rfl, by decide, zin4 (i := 225) rfl rfl⟩
theorem zfX7_37 : zFld RX7 37 7 10 := ⟨_, rfl, by decide, zin4 (i := 226) rfl rfl⟩
theorem zfX7_40 : zFld RX7 40 7 11 := ⟨_, rfl, by decide, zin4 (i := 227) rfl rfl⟩
theorem zfX7_43 : zFld RX7 43 7 12 := ⟨_, rfl, by decide, zin4 (i := 228) rfl rfl⟩
theorem zfX7_46 : zFld RX7 46 7 13 := ⟨_, rfl, by decide, zin4 (i := 229) rfl rfl⟩
theorem zfX7_49 : zFld RX7 49 7 14 := ⟨_, rfl, by decide, zin4 (i := 230) rfl rfl⟩
theorem zfX7_150 : zFld RX7 150 7 15 := ⟨_, rfl, by decide, zin4 (i := 231) rfl rfl⟩
theorem zfX7_52 : zFld RX7 52 7 16 := ⟨_, rfl, by decide, zin4 (i := 232) rfl rfl⟩
theorem zfX7_55 : zFld RX7 55 7 17 := ⟨_, rfl, by decide, zin4 (i := 233) rfl rfl⟩
theorem zfX7_58 : zFld RX7 58 7 18 := ⟨_, rfl, by decide, zin4 (i := 234) rfl rfl⟩
theorem zfX7_163 : zFld RX7 163 7 19 := ⟨_, rfl, by decide, zin4 (i := 235) rfl rfl⟩
theorem zfX7_61 : zFld RX7 61 7 20 := ⟨_, rfl, by decide, zin4 (i := 236) rfl rfl⟩
theorem zfX7_64 : zFld RX7 64 7 21 := ⟨_, rfl, by decide, zin4 (i := 237) rfl rfl⟩
theorem zfX7_67 : zFld RX7 67 7 22 := ⟨_, rfl, by decide, zin4 (i := 238) rfl rfl⟩
theorem zfX7_70 : zFld RX7 70 7 23 := ⟨_, rfl, by decide, zin4 (i := 239) rfl rfl⟩
theorem zfX7_144 : zFld RX7 144 7 24 := ⟨_, rfl, by decide, zin5 (i := 0) rfl rfl⟩
theorem zfX7_147 : zFld RX7 147 7 25 := ⟨_, rfl, by decide, zin5 (i := 1) rfl rfl⟩
theorem zfX7_74 : zFld RX7 74 7 26 := ⟨_, rfl, by decide, zin5 (i := 2) rfl rfl⟩
theorem zfX7_77 : zFld RX7 77 7 27 := ⟨_, rfl, by decide, zin5 (i := 3) rfl rfl⟩
theorem zfX7_375 : zFld RX7 375 7 28 := ⟨_, rfl, by decide, zin5 (i := 4) rfl rfl⟩
theorem zfX7_254 : zFld RX7 254 7 29 := ⟨_, rfl, by decide, zin5 (i := 5) rfl rfl⟩
theorem zfX7_176 : zFld RX7 176 7 30 := ⟨_, rfl, by decide, zin5 (i := 6) rfl rfl⟩
theorem zfX7_185 : zFld RX7 185 7 31 := ⟨_, rfl, by decide, zin5 (i := 7) rfl rfl⟩
theorem zfX7_179 : zFld RX7 179 7 32 := ⟨_, rfl, by decide, zin5 (i := 8) rfl rfl⟩
theorem zfX7_182 : zFld RX7 182 7 33 := ⟨_, rfl, by decide, zin5 (i := 9) rfl rfl⟩
theorem zfX7_196 : zFld RX7 196 7 34 := ⟨_, rfl, by decide, zin5 (i := 10) rfl rfl⟩
theorem zfX7_80 : zFld RX7 80 7 35 := ⟨_, rfl, by decide, zin5 (i := 11) rfl rfl⟩
theorem zfX7_248 : zFld RX7 248 7 36 := ⟨_, rfl, by decide, zin5 (i := 12) rfl rfl⟩
theorem zfX7_83 : zFld RX7 83 7 37 := ⟨_, rfl, by decide, zin5 (i := 13) rfl rfl⟩
theorem zfX7_276 : zFld RX7 276 7 38 := ⟨_, rfl, by decide, zin5 (i := 14) rfl rfl⟩
theorem zfX7_86 : zFld RX7 86 7 39 := ⟨_, rfl, by decide, zin5 (i := 15) rfl rfl⟩
theorem zfX7_285 : zFld RX7 285 7 40 := ⟨_, rfl, by decide, zin5 (i := 16) rfl rfl⟩
theorem zfX7_291 : zFld RX7 291 7 41 := ⟨_, rfl, by decide, zin5 (i := 17) rfl rfl⟩
theorem zfX7_91 : zFld RX7 91 7 42 := ⟨_, rfl, by decide, zin5 (i := 18) rfl rfl⟩
theorem zlL_17 : zVir RL 17 mX7_row 3 := ⟨zpX7_row, zin5 (i := 106) rfl rfl, zin5 (i := 107) rfl rfl, zin5 (i := 108) rfl rfl⟩
theorem zlX7_97 : zSta RX7 97 mX7_in 3 := ⟨zpX7_in, zin5 (i := 111) rfl rfl, zin5 (i := 112) rfl rfl⟩
theorem zlX7_107 : zVir RX7 107 mX7_refuse 1 := ⟨zpX7_refuse, zin5 (i := 116) rfl rfl, zin5 (i := 118) rfl rfl, zinP (i := 27) (q := (⟨"OnTheRoofModel", "refuse", "(I)I"⟩, 43)) rfl rfl⟩
theorem zlL_24 : zVir RL 24 mX7_set 3 := ⟨zpX7_set, zin5 (i := 120) rfl rfl, zin5 (i := 121) rfl rfl, zin5 (i := 122) rfl rfl⟩
theorem zlX7_111 : zVir RX7 111 mX7_noRow 1 := ⟨zpX7_noRow, zin5 (i := 124) rfl rfl, zin5 (i := 126) rfl rfl, zinP (i := 28) (q := (⟨"OnTheRoofModel", "noRow", "(I)I"⟩, 43)) rfl rfl⟩
theorem zlX7_114 : zSta RX7 114 mX7_fit 2 := ⟨zpX7_fit, zin5 (i := 128) rfl rfl, zin5 (i := 129) rfl rfl⟩
theorem zlL_29 : zVir RL 29 mX7_copy 5 := ⟨zpX7_copy, zin5 (i := 131) rfl rfl, zin5 (i := 132) rfl rfl, zin5 (i := 133) rfl rfl⟩
theorem zlL_34 : zVir RL 34 mX7_element 2 := ⟨zpX7_element, zin5 (i := 135) rfl rfl, zin5 (i := 136) rfl rfl, zin5 (i := 137) rfl rfl⟩
theorem zlL_39 : zVir RL 39 mX7_holds 1 := ⟨zpX7_holds, zin5 (i := 139) rfl rfl, zin5 (i := 140) rfl rfl, zin5 (i := 141) rfl rfl⟩
theorem zlL_44 : zVir RL 44 mX7_show 2 := ⟨zpX7_show, zin5 (i := 143) rfl rfl, zin5 (i := 144) rfl rfl, zin5 (i := 145) rfl rfl⟩
theorem zlX7_118 : zVir RX7 118 mX7_isBend 1 := ⟨zpX7_isBend, zin5 (i := 147) rfl rfl, zin5 (i := 149) rfl rfl, zinP (i := 29) (q := (⟨"OnTheRoofModel", "isBend", "(J)Z"⟩, 43)) rfl rfl⟩
theorem zlL_48 : zVir RL 48 mX7_says 2 := ⟨zpX7_says, zin5 (i := 151) rfl rfl, zin5 (i := 152) rfl rfl, zin5 (i := 153) rfl rfl⟩
theorem zlX7_124 : zSta RX7 124 mX7_isUnder 2 := ⟨zpX7_isUnder, zin5 (i := 156) rfl rfl, zin5 (i := 157) rfl rfl⟩
theorem zlX7_128 : zVir RX7 128 mX7_fallOf 2 := ⟨zpX7_fallOf, zin5 (i := 159) rfl rfl, zin5 (i := 161) rfl rfl, zinP (i := 30) (q := (⟨"OnTheRoofModel", "fallOf", "(II)I"⟩, 43)) rfl rfl⟩
theorem zlL_53 : zVir RL 53 mX7_bend 4 := ⟨zpX7_bend, zin5 (i := 163) rfl rfl, zin5 (i := 164) rfl rfl, zin5 (i := 165) rfl rfl⟩
theorem zlX7_138 : zVir RX7 138 mX7_addBend 4 := ⟨zpX7_addBend, zin5 (i := 170) rfl rfl, zin5 (i := 172) rfl rfl, zinP (i := 31) (q := (⟨"OnTheRoofModel", "addBend", "(IIII)V"⟩, 43)) rfl rfl⟩
theorem zlL_57 : zVir RL 57 mX7_ask 2 := ⟨zpX7_ask, zin5 (i := 174) rfl rfl, zin5 (i := 175) rfl rfl, zin5 (i := 176) rfl rfl⟩
theorem zlL_62 : zVir RL 62 mX7_sign 3 := ⟨zpX7_sign, zin5 (i := 179) rfl rfl, zin5 (i := 180) rfl rfl, zin5 (i := 181) rfl rfl⟩
theorem zlX7_155 : zVir RX7 155 mX7_addSign 3 := ⟨zpX7_addSign, zin5 (i := 184) rfl rfl, zin5 (i := 186) rfl rfl, zinP (i := 32) (q := (⟨"OnTheRoofModel", "addSign", "(III)V"⟩, 43)) rfl rfl⟩
theorem zlL_67 : zVir RL 67 mX7_anew 0 := ⟨zpX7_anew, zin5 (i := 188) rfl rfl, zin5 (i := 189) rfl rfl, zin5 (i := 190) rfl rfl⟩
theorem zlX7_159 : zVir RX7 159 mX7_noSigns 0 := ⟨zpX7_noSigns, zin5 (i := 192) rfl rfl, zin5 (i := 194) rfl rfl, zinP (i := 33) (q := (⟨"OnTheRoofModel", "noSigns", "()I"⟩, 43)) rfl rfl⟩
theorem zlL_203 : zVir RL 203 mX7_call 3 := ⟨zpX7_call, zin5 (i := 196) rfl rfl, zin5 (i := 197) rfl rfl, zin5 (i := 198) rfl rfl⟩
theorem zlX7_168 : zVir RX7 168 mX7_addCall 3 := ⟨zpX7_addCall, zin5 (i := 201) rfl rfl, zin5 (i := 203) rfl rfl, zinP (i := 34) (q := (⟨"OnTheRoofModel", "addCall", "(III)V"⟩, 43)) rfl rfl⟩
theorem zlL_71 : zVir RL 71 mX7_feed 1 := ⟨zpX7_feed, zin5 (i := 205) rfl rfl, zin5 (i := 206) rfl rfl, zin5 (i := 207) rfl rfl⟩
theorem zlL_75 : zVir RL 75 mX7_wipe 0 := ⟨zpX7_wipe, zin5 (i := 210) rfl rfl, zin5 (i := 211) rfl rfl, zin5 (i := 212) rfl rfl⟩
theorem zlL_79 : zVir RL 79 mX7_way 0 := ⟨zpX7_way, zin5 (i := 214) rfl rfl, zin5 (i := 215) rfl rfl, zin5 (i := 216) rfl rfl⟩
theorem zlX7_263 : zVir RX7 263 mX7_fresh 0 := ⟨zpX7_fresh, zin5 (i := 218) rfl rfl, zin5 (i := 220) rfl rfl, zinP (i := 35) (q := (⟨"OnTheRoofModel", "fresh", "()LOnTheRoofModel;"⟩, 43)) rfl rfl⟩
theorem zlX7_258 : zIni RX7 258 mX7_init 0 := ⟨zpX7_init, zin5 (i := 223) rfl rfl, zin4 (i := 209) rfl rfl, rfl, rfl⟩
theorem zlX7_259 : zVir RX7 259 mX7_takeFrom 1 := ⟨zpX7_takeFrom, zin5 (i := 224) rfl rfl, zin5 (i := 226) rfl rfl, zinP (i := 36) (q := (⟨"OnTheRoofModel", "takeFrom", "(LOnTheRoofModel;)V"⟩, 43)) rfl rfl⟩
theorem zlX7_371 : zSta RX7 371 mX7_copied 2 := ⟨zpX7_copied, zin5 (i := 228) rfl rfl, zin5 (i := 229) rfl rfl⟩
theorem zlX7_267 : zVir RX7 267 mX7_readAll 0 := ⟨zpX7_readAll, zin5 (i := 231) rfl rfl, zin5 (i := 233) rfl rfl, zinP (i := 37) (q := (⟨"OnTheRoofModel", "readAll", "()Z"⟩, 43)) rfl rfl⟩
theorem zlX7_212 : zVir RX7 212 mX7_token 0 := ⟨zpX7_token, zin5 (i := 235) rfl rfl, zin5 (i := 237) rfl rfl, zinP (i := 38) (q := (⟨"OnTheRoofModel", "token", "()V"⟩, 43)) rfl rfl⟩
theorem zlX7_188 : zSta RX7 188 mX7_isLetter 1 := ⟨zpX7_isLetter, zin5 (i := 239) rfl rfl, zin6 (i := 0) rfl rfl⟩
theorem zlX7_192 : zSta RX7 192 mX7_isDigit 1 := ⟨zpX7_isDigit, zin6 (i := 2) rfl rfl, zin6 (i := 3) rfl rfl⟩
theorem zlX7_251 : zVir RX7 251 mX7_statement 0 := ⟨zpX7_statement, zin6 (i := 6) rfl rfl, zin6 (i := 8) rfl rfl, zinP (i := 39) (q := (⟨"OnTheRoofModel", "statement", "()Z"⟩, 43)) rfl rfl⟩
theorem zlX7_226 : zVir RX7 226 mX7_isWord 1 := ⟨zpX7_isWord, zin6 (i := 11) rfl rfl, zin6 (i := 13) rfl rfl, zinP (i := 40) (q := (⟨"OnTheRoofModel", "isWord", "(Ljava/lang/String;)Z"⟩, 43)) rfl rfl⟩
theorem zlX7_199 : zVir RX7 199 mJ0_length_8abf5 0 := ⟨zpJ0_length_8abf5, zin6 (i := 15) rfl rfl, zin2 (i := 206) rfl rfl, zin2 (i := 207) rfl rfl⟩
theorem zlX7_204 : zVir RX7 204 mJ0_charAt_5068e 1 := ⟨zpJ0_charAt_5068e, zin6 (i := 16) rfl rfl, zin2 (i := 216) rfl rfl, zin2 (i := 217) rfl rfl⟩
theorem zlX7_218 : zVir RX7 218 mX7_tells 2 := ⟨zpX7_tells, zin6 (i := 17) rfl rfl, zin6 (i := 19) rfl rfl, zinP (i := 41) (q := (⟨"OnTheRoofModel", "tells", "(II)Z"⟩, 43)) rfl rfl⟩
theorem zlX7_214 : zVir RX7 214 mX7_number 3 := ⟨zpX7_number, zin6 (i := 21) rfl rfl, zin6 (i := 23) rfl rfl, zinP (i := 42) (q := (⟨"OnTheRoofModel", "number", "(III)Z"⟩, 43)) rfl rfl⟩
theorem zlX7_208 : zVir RX7 208 mX7_wrong 0 := ⟨zpX7_wrong, zin6 (i := 25) rfl rfl, zin6 (i := 27) rfl rfl, zinP (i := 43) (q := (⟨"OnTheRoofModel", "wrong", "()Z"⟩, 43)) rfl rfl⟩
theorem zlX7_231 : zVir RX7 231 mX7_asked 3 := ⟨zpX7_asked, zin6 (i := 30) rfl rfl, zin6 (i := 32) rfl rfl, zinP (i := 44) (q := (⟨"OnTheRoofModel", "asked", "(III)Z"⟩, 43)) rfl rfl⟩
theorem zlX7_221 : zVir RX7 221 mX7_ask 2 := ⟨zpX7_ask, zin6 (i := 34) rfl rfl, zin5 (i := 175) rfl rfl, zin5 (i := 176) rfl rfl⟩
theorem zlX7_244 : zVir RX7 244 mX7_misses 2 := ⟨zpX7_misses, zin6 (i := 41) rfl rfl, zin6 (i := 43) rfl rfl, zinP (i := 45) (q := (⟨"OnTheRoofModel", "misses", "(II)V"⟩, 43)) rfl rfl⟩
theorem zlX7_304 : zSta RX7 304 mX7_sees 1 := ⟨zpX7_sees, zin6 (i := 45) rfl rfl, zin6 (i := 46) rfl rfl⟩
theorem zlX7_288 : zSta RX7 288 mX7_part 2 := ⟨zpX7_part, zin6 (i := 48) rfl rfl, zin6 (i := 49) rfl rfl⟩
theorem zlL_83 : zVir RL 83 mX7_bendOf 2 := ⟨zpX7_bendOf, zin6 (i := 51) rfl rfl, zin6 (i := 52) rfl rfl, zin6 (i := 53) rfl rfl⟩
theorem zlX7_270 : zVir RX7 270 mX7_yardsTo 1 := ⟨zpX7_yardsTo, zin6 (i := 55) rfl rfl, zin6 (i := 57) rfl rfl, zinP (i := 46) (q := (⟨"OnTheRoofModel", "yardsTo", "(I)I"⟩, 43)) rfl rfl⟩
theorem zlL_87 : zVir RL 87 mX7_signOf 2 := ⟨zpX7_signOf, zin6 (i := 59) rfl rfl, zin6 (i := 60) rfl rfl, zin6 (i := 61) rfl rfl⟩
theorem zlL_207 : zVir RL 207 mX7_callOf 2 := ⟨zpX7_callOf, zin6 (i := 64) rfl rfl, zin6 (i := 65) rfl rfl, zin6 (i := 66) rfl rfl⟩
theorem zlL_91 : zVir RL 91 mX7_fall 2 := ⟨zpX7_fall, zin6 (i := 68) rfl rfl, zin6 (i := 69) rfl rfl, zin6 (i := 70) rfl rfl⟩
theorem zlL_95 : zVir RL 95 mX7_fell 2 := ⟨zpX7_fell, zin6 (i := 72) rfl rfl, zin6 (i := 73) rfl rfl, zin6 (i := 74) rfl rfl⟩
theorem zlX7_282 : zVir RX7 282 mX7_goes 3 := ⟨zpX7_goes, zin6 (i := 76) rfl rfl, zin6 (i := 78) rfl rfl, zinP (i := 47) (q := (⟨"OnTheRoofModel", "goes", "(III)V"⟩, 43)) rfl rfl⟩
theorem zlX7_279 : zSta RX7 279 mX7_has 2 := ⟨zpX7_has, zin6 (i := 81) rfl rfl, zin6 (i := 82) rfl rfl⟩
theorem zlL_99 : zVir RL 99 mX7_weight 1 := ⟨zpX7_weight, zin6 (i := 84) rfl rfl, zin6 (i := 85) rfl rfl, zin6 (i := 86) rfl rfl⟩
theorem zlX7_294 : zVir RX7 294 mX7_weigh 0 := ⟨zpX7_weigh, zin6 (i := 88) rfl rfl, zin6 (i := 90) rfl rfl, zinP (i := 48) (q := (⟨"OnTheRoofModel", "weigh", "()V"⟩, 43)) rfl rfl⟩
theorem zlL_103 : zVir RL 103 mX7_likely 1 := ⟨zpX7_likely, zin6 (i := 92) rfl rfl, zin6 (i := 93) rfl rfl, zin6 (i := 94) rfl rfl⟩
theorem zlX7_297 : zVir RX7 297 mX7_thousandths 1 := ⟨zpX7_thousandths, zin6 (i := 96) rfl rfl, zin6 (i := 98) rfl rfl, zinP (i := 49) (q := (⟨"OnTheRoofModel", "thousandths", "(J)I"⟩, 43)) rfl rfl⟩
theorem zlL_107 : zVir RL 107 mX7_between 2 := ⟨zpX7_between, zin6 (i := 100) rfl rfl, zin6 (i := 101) rfl rfl, zin6 (i := 102) rfl rfl⟩
theorem zlX7_301 : zVir RX7 301 mX7_sumOf 2 := ⟨zpX7_sumOf, zin6 (i := 104) rfl rfl, zin6 (i := 106) rfl rfl, zinP (i := 50) (q := (⟨"OnTheRoofModel", "sumOf", "(II)I"⟩, 43)) rfl rfl⟩
theorem zlL_111 : zVir RL 111 mX7_half 0 := ⟨zpX7_half, zin6 (i := 108) rfl rfl, zin6 (i := 109) rfl rfl, zin6 (i := 110) rfl rfl⟩
theorem zlL_115 : zVir RL 115 mX7_few 1 := ⟨zpX7_few, zin6 (i := 112) rfl rfl, zin6 (i := 113) rfl rfl, zin6 (i := 114) rfl rfl⟩
theorem zlL_119 : zVir RL 119 mX7_asks 0 := ⟨zpX7_asks, zin6 (i := 116) rfl rfl, zin6 (i := 117) rfl rfl, zin6 (i := 118) rfl rfl⟩
theorem zlL_123 : zVir RL 123 mX7_after 3 := ⟨zpX7_after, zin6 (i := 120) rfl rfl, zin6 (i := 121) rfl rfl, zin6 (i := 122) rfl rfl⟩
theorem zlL_127 : zVir RL 127 mX7_where 0 := ⟨zpX7_where, zin6 (i := 124) rfl rfl, zin6 (i := 125) rfl rfl, zin6 (i := 126) rfl rfl⟩
theorem zlL_131 : zVir RL 131 mX7_seconds 2 := ⟨zpX7_seconds, zin6 (i := 128) rfl rfl, zin6 (i := 129) rfl rfl, zin6 (i := 130) rfl rfl⟩
theorem zlX7_309 : zSta RX7 309 mX7_isLook 1 := ⟨zpX7_isLook, zin6 (i := 132) rfl rfl, zin6 (i := 133) rfl rfl⟩
theorem zlX7_312 : zVir RX7 312 mX7_secondsOf 2 := ⟨zpX7_secondsOf, zin6 (i := 136) rfl rfl, zin6 (i := 138) rfl rfl, zinP (i := 51) (q := (⟨"OnTheRoofModel", "secondsOf", "(II)I"⟩, 43)) rfl rfl⟩
theorem zlL_135 : zVir RL 135 mX7_found 2 := ⟨zpX7_found, zin6 (i := 140) rfl rfl, zin6 (i := 141) rfl rfl, zin6 (i := 142) rfl rfl⟩
theorem zlX7_315 : zVir RX7 315 mX7_foundBy 2 := ⟨zpX7_foundBy, zin6 (i := 144) rfl rfl, zin6 (i := 146) rfl rfl, zinP (i := 52) (q := (⟨"OnTheRoofModel", "foundBy", "(II)I"⟩, 43)) rfl rfl⟩
theorem zlL_139 : zVir RL 139 mX7_best 2 := ⟨zpX7_best, zin6 (i := 148) rfl rfl, zin6 (i := 149) rfl rfl, zin6 (i := 150) rfl rfl⟩
theorem zlX7_327 : zVir RX7 327 mX7_findMost 0 := ⟨zpX7_findMost, zin6 (i := 153) rfl rfl, zin6 (i := 155) rfl rfl, zinP (i := 53) (q := (⟨"OnTheRoofModel", "findMost", "()V"⟩, 43)) rfl rfl⟩
theorem zlX7_321 : zVir RX7 321 mX7_mostBy 3 := ⟨zpX7_mostBy, zin6 (i := 157) rfl rfl, zin6 (i := 159) rfl rfl, zinP (i := 54) (q := (⟨"OnTheRoofModel", "mostBy", "(III)I"⟩, 43)) rfl rfl⟩
theorem zlX7_318 : zVir RX7 318 mX7_tensOf 2 := ⟨zpX7_tensOf, zin6 (i := 161) rfl rfl, zin6 (i := 163) rfl rfl, zinP (i := 55) (q := (⟨"OnTheRoofModel", "tensOf", "(II)I"⟩, 43)) rfl rfl⟩
theorem zlL_143 : zVir RL 143 mX7_next 0 := ⟨zpX7_next, zin6 (i := 165) rfl rfl, zin6 (i := 166) rfl rfl, zin6 (i := 167) rfl rfl⟩
theorem zlX7_330 : zVir RX7 330 mX7_nextNow 0 := ⟨zpX7_nextNow, zin6 (i := 169) rfl rfl, zin6 (i := 171) rfl rfl, zinP (i := 56) (q := (⟨"OnTheRoofModel", "nextNow", "()I"⟩, 43)) rfl rfl⟩
theorem zlL_147 : zVir RL 147 mX7_soonest 1 := ⟨zpX7_soonest, zin6 (i := 173) rfl rfl, zin6 (i := 174) rfl rfl, zin6 (i := 175) rfl rfl⟩
theorem zlL_151 : zVir RL 151 mX7_order 1 := ⟨zpX7_order, zin6 (i := 178) rfl rfl, zin6 (i := 179) rfl rfl, zin6 (i := 180) rfl rfl⟩
theorem zlX7_335 : zVir RX7 335 mX7_vainly 1 := ⟨zpX7_vainly, zin6 (i := 182) rfl rfl, zin6 (i := 184) rfl rfl, zinP (i := 57) (q := (⟨"OnTheRoofModel", "vainly", "(I)LOnTheRoofModel;"⟩, 43)) rfl rfl⟩
theorem zlL_155 : zVir RL 155 mX7_vain 1 := ⟨zpX7_vain, zin6 (i := 186) rfl rfl, zin6 (i := 187) rfl rfl, zin6 (i := 188) rfl rfl⟩
theorem zlL_159 : zVir RL 159 mX7_others 1 := ⟨zpX7_others, zin6 (i := 190) rfl rfl, zin6 (i := 191) rfl rfl, zin6 (i := 192) rfl rfl⟩
theorem zlL_163 : zVir RL 163 mX7_fast 1 := ⟨zpX7_fast, zin6 (i := 195) rfl rfl, zin6 (i := 196) rfl rfl, zin6 (i := 197) rfl rfl⟩
theorem zlX7_341 : zVir RX7 341 mX7_heldBy 1 := ⟨zpX7_heldBy, zin6 (i := 199) rfl rfl, zin6 (i := 201) rfl rfl, zinP (i := 58) (q := (⟨"OnTheRoofModel", "heldBy", "(I)I"⟩, 43)) rfl rfl⟩
theorem zlL_167 : zVir RL 167 mX7_drove 1 := ⟨zpX7_drove, zin6 (i := 203) rfl rfl, zin6 (i := 204) rfl rfl, zin6 (i := 205) rfl rfl⟩
theorem zlL_171 : zVir RL 171 mX7_gripFor 1 := ⟨zpX7_gripFor, zin6 (i := 207) rfl rfl, zin6 (i := 208) rfl rfl, zin6 (i := 209) rfl rfl⟩
theorem zlL_175 : zVir RL 175 mX7_otherwise 0 := ⟨zpX7_otherwise, zin6 (i := 211) rfl rfl, zin6 (i := 212) rfl rfl, zin6 (i := 213) rfl rfl⟩
theorem zlL_179 : zVir RL 179 mX7_slows 1 := ⟨zpX7_slows, zin6 (i := 215) rfl rfl, zin6 (i := 216) rfl rfl, zin6 (i := 217) rfl rfl⟩
theorem zlX7_344 : zSta RX7 344 mX7_bits 1 := ⟨zpX7_bits, zin6 (i := 219) rfl rfl, zin6 (i := 220) rfl rfl⟩
theorem zlL_183 : zVir RL 183 mX7_without 1 := ⟨zpX7_without, zin6 (i := 222) rfl rfl, zin6 (i := 223) rfl rfl, zin6 (i := 224) rfl rfl⟩
theorem zlL_187 : zVir RL 187 mX7_once 1 := ⟨zpX7_once, zin6 (i := 226) rfl rfl, zin6 (i := 227) rfl rfl, zin6 (i := 228) rfl rfl⟩
theorem zlL_191 : zVir RL 191 mX7_until 1 := ⟨zpX7_until, zin6 (i := 230) rfl rfl, zin6 (i := 231) rfl rfl, zin6 (i := 232) rfl rfl⟩
theorem zlL_195 : zVir RL 195 mX7_worst 0 := ⟨zpX7_worst, zin6 (i := 234) rfl rfl, zin6 (i := 235) rfl rfl, zin6 (i := 236) rfl rfl⟩
theorem zlL_199 : zVir RL 199 mX7_last 0 := ⟨zpX7_last, zin6 (i := 238) rfl rfl, zin6 (i := 239) rfl rfl, zin7 (i := 0) rfl rfl⟩
theorem zlL_211 : zVir RL 211 mX7_hears 1 := ⟨zpX7_hears, zin7 (i := 2) rfl rfl, zin7 (i := 3) rfl rfl, zin7 (i := 4) rfl rfl⟩
theorem zlX7_347 : zVir RX7 347 mX7_hearsOf 1 := ⟨zpX7_hearsOf, zin7 (i := 6) rfl rfl, zin7 (i := 8) rfl rfl, zinP (i := 59) (q := (⟨"OnTheRoofModel", "hearsOf", "(I)I"⟩, 43)) rfl rfl⟩
theorem zlL_215 : zVir RL 215 mX7_rings 1 := ⟨zpX7_rings, zin7 (i := 10) rfl rfl, zin7 (i := 11) rfl rfl, zin7 (i := 12) rfl rfl⟩
theorem zlL_219 : zVir RL 219 mX7_worth 3 := ⟨zpX7_worth, zin7 (i := 14) rfl rfl, zin7 (i := 15) rfl rfl, zin7 (i := 16) rfl rfl⟩
theorem zlL_223 : zVir RL 223 mX7_judge 2 := ⟨zpX7_judge, zin7 (i := 20) rfl rfl, zin7 (i := 21) rfl rfl, zin7 (i := 22) rfl rfl⟩
theorem zlX7_353 : zVir RX7 353 mX7_noList 2 := ⟨zpX7_noList, zin7 (i := 24) rfl rfl, zin7 (i := 26) rfl rfl, zinP (i := 60) (q := (⟨"OnTheRoofModel", "noList", "(II)I"⟩, 43)) rfl rfl⟩
theorem zlX7_356 : zVir RX7 356 mX7_wrongIn 2 := ⟨zpX7_wrongIn, zin7 (i := 28) rfl rfl, zin7 (i := 30) rfl rfl, zinP (i := 61) (q := (⟨"OnTheRoofModel", "wrongIn", "([JI)I"⟩, 43)) rfl rfl⟩
theorem zlL_227 : zVir RL 227 mX7_apart 2 := ⟨zpX7_apart, zin7 (i := 32) rfl rfl, zin7 (i := 33) rfl rfl, zin7 (i := 34) rfl rfl⟩
theorem zlL_231 : zVir RL 231 mX7_search 3 := ⟨zpX7_search, zin7 (i := 36) rfl rfl, zin7 (i := 37) rfl rfl, zin7 (i := 38) rfl rfl⟩
theorem zlX7_360 : zVir RX7 360 mX7_areLooks 2 := ⟨zpX7_areLooks, zin7 (i := 40) rfl rfl, zin7 (i := 42) rfl rfl, zinP (i := 62) (q := (⟨"OnTheRoofModel", "areLooks", "([JI)Z"⟩, 43)) rfl rfl⟩
theorem zlL_235 : zVir RL 235 mX7_lies 1 := ⟨zpX7_lies, zin7 (i := 44) rfl rfl, zin7 (i := 45) rfl rfl, zin7 (i := 46) rfl rfl⟩
theorem zlL_239 : zVir RL 239 mX7_drive 0 := ⟨zpX7_drive, zin7 (i := 48) rfl rfl, zin7 (i := 49) rfl rfl, zin7 (i := 50) rfl rfl⟩
theorem zlX7_368 : zVir RX7 368 mX7_driven 0 := ⟨zpX7_driven, zin7 (i := 52) rfl rfl, zin7 (i := 54) rfl rfl, zinP (i := 63) (q := (⟨"OnTheRoofModel", "driven", "()I"⟩, 43)) rfl rfl⟩
theorem zlX7_365 : zVir RX7 365 mX7_below 1 := ⟨zpX7_below, zin7 (i := 56) rfl rfl, zin7 (i := 58) rfl rfl, zinP (i := 64) (q := (⟨"OnTheRoofModel", "below", "(I)I"⟩, 43)) rfl rfl⟩
theorem zlL_243 : zVir RL 243 mX7_look 2 := ⟨zpX7_look, zin7 (i := 61) rfl rfl, zin7 (i := 62) rfl rfl, zin7 (i := 63) rfl rfl⟩
theorem zlL_247 : zVir RL 247 mX7_trips 1 := ⟨zpX7_trips, zin7 (i := 65) rfl rfl, zin7 (i := 66) rfl rfl, zin7 (i := 67) rfl rfl⟩
theorem zlL_251 : zVir RL 251 mX7_seed 1 := ⟨zpX7_seed, zin7 (i := 69) rfl rfl, zin7 (i := 70) rfl rfl, zin7 (i := 71) rfl rfl⟩
theorem zlL_255 : zVir RL 255 mX7_image 0 := ⟨zpX7_image, zin7 (i := 73) rfl rfl, zin7 (i := 74) rfl rfl, zin7 (i := 75) rfl rfl⟩
theorem zlL_259 : zVir RL 259 mX7_back 0 := ⟨zpX7_back, zin7 (i := 77) rfl rfl, zin7 (i := 78) rfl rfl, zin7 (i := 79) rfl rfl⟩
theorem zlL_263 : zVir RL 263 mX7_status 1 := ⟨zpX7_status, zin7 (i := 81) rfl rfl, zin7 (i := 82) rfl rfl, zin7 (i := 83) rfl rfl⟩
theorem zlX7_378 : zVir RX7 378 mX7_looked 0 := ⟨zpX7_looked, zin7 (i := 85) rfl rfl, zin7 (i := 87) rfl rfl, zinP (i := 65) (q := (⟨"OnTheRoofModel", "looked", "()I"⟩, 43)) rfl rfl⟩
