abbrev me_J6_bitCount_0f7a4 : ab_Me := (yJ6_bitCount_0f7a4, RJ6, cJ6_bitCount_0f7a4, 1, some .int)
abbrev me_J7_fill_d0a16 : ab_Me := (yJ7_fill_d0a16, RJ7, cJ7_fill_d0a16, 5, none)
abbrev me_J7_fill_031fb : ab_Me := (yJ7_fill_031fb, RJ7, cJ7_fill_031fb, 4, none)
abbrev me_X4_goTo : ab_Me := (yX4_goTo, RX4, cX4_goTo, 2, none)
abbrev me_X4_begin : ab_Me := (yX4_begin, RX4, cX4_begin, 7, none)
abbrev me_X4_takeAll : ab_Me := (yX4_takeAll, RX4, cX4_takeAll, 2, none)
abbrev me_X4_trait : ab_Me := (yX4_trait, RX4, cX4_trait, 2, some .int)
abbrev me_X4_heaviness : ab_Me := (yX4_heaviness, RX4, cX4_heaviness, 2, some .int)
abbrev me_X7_add : ab_Me := (yX7_add, RX7, cX7_add, 4, none)
abbrev me_X7_greatest : ab_Me := (yX7_greatest, RX7, cX7_greatest, 5, some .int)
abbrev me_X1_tell : ab_Me := (yX1_tell, RX1, cX1_tell, 5, none)
abbrev me_X1_swap : ab_Me := (yX1_swap, RX1, cX1_swap, 2, none)
abbrev me_X1_allows : ab_Me := (yX1_allows, RX1, cX1_allows, 2, some .int)
abbrev me_X3_hasMast : ab_Me := (yX3_hasMast, RX3, cX3_hasMast, 2, some .boolean)
abbrev me_X3_hasWant : ab_Me := (yX3_hasWant, RX3, cX3_hasWant, 2, some .boolean)
abbrev me_X3_square : ab_Me := (yX3_square, RX3, cX3_square, 5, some .int)
abbrev me_X3_freshBar : ab_Me := (yX3_freshBar, RX3, cX3_freshBar, 3, some .int)
abbrev me_X3_measure : ab_Me := (yX3_measure, RX3, cX3_measure, 3, none)
abbrev me_X3_addMast : ab_Me := (yX3_addMast, RX3, cX3_addMast, 7, some .int)
abbrev me_X3_barOf : ab_Me := (yX3_barOf, RX3, cX3_barOf, 3, some .int)
abbrev me_X3_shift : ab_Me := (yX3_shift, RX3, cX3_shift, 5, some .int)
abbrev me_X3_barOfWants : ab_Me := (yX3_barOfWants, RX3, cX3_barOfWants, 3, some .int)
abbrev me_X3_areNear : ab_Me := (yX3_areNear, RX3, cX3_areNear, 3, some .boolean)
abbrev me_X3_areIn : ab_Me := (yX3_areIn, RX3, cX3_areIn, 4, some .boolean)
abbrev me_X3_kindOfWant : ab_Me := (yX3_kindOfWant, RX3, cX3_kindOfWant, 2, some .int)
abbrev me_X3_gapOf : ab_Me := (yX3_gapOf, RX3, cX3_gapOf, 3, some .int)
abbrev me_X3_allowed : ab_Me := (yX3_allowed, RX3, cX3_allowed, 4, some .int)
abbrev me_X3_barredTwos : ab_Me := (yX3_barredTwos, RX3, cX3_barredTwos, 4, some .int)
abbrev me_X3_threesIn : ab_Me := (yX3_threesIn, RX3, cX3_threesIn, 5, some .int)
abbrev me_X3_joinedTo : ab_Me := (yX3_joinedTo, RX3, cX3_joinedTo, 5, some .int)
abbrev me_X3_partAround : ab_Me := (yX3_partAround, RX3, cX3_partAround, 6, some .int)
abbrev me_X3_parts : ab_Me := (yX3_parts, RX3, cX3_parts, 4, some .int)
abbrev me_X3_partOf : ab_Me := (yX3_partOf, RX3, cX3_partOf, 6, some .int)
abbrev me_X9_within : ab_Me := (yX9_within, RX9, cX9_within, 3, some .boolean)
abbrev me_X9_isShelf : ab_Me := (yX9_isShelf, RX9, cX9_isShelf, 1, some .boolean)
abbrev me_X9_isPlace : ab_Me := (yX9_isPlace, RX9, cX9_isPlace, 1, some .boolean)
abbrev me_X2_served : ab_Me := (yX2_served, RX2, cX2_served, 4, some .int)
abbrev me_X2_lackAt : ab_Me := (yX2_lackAt, RX2, cX2_lackAt, 11, some .int)
abbrev me_X2_lackOf : ab_Me := (yX2_lackOf, RX2, cX2_lackOf, 4, some .int)
abbrev me_X2_lacks : ab_Me := (yX2_lacks, RX2, cX2_lacks, 5, some .int)
abbrev me_X2_sumTogether : ab_Me := (yX2_sumTogether, RX2, cX2_sumTogether, 5, some .boolean)
abbrev me_X2_sumsOfThree : ab_Me := (yX2_sumsOfThree, RX2, cX2_sumsOfThree, 12, some .int)
abbrev me_X2_sums : ab_Me := (yX2_sums, RX2, cX2_sums, 7, some .int)
abbrev me_X2_strayBits : ab_Me := (yX2_strayBits, RX2, cX2_strayBits, 5, some .int)
abbrev me_X2_totalHarm : ab_Me := (yX2_totalHarm, RX2, cX2_totalHarm, 2, some .int)
abbrev me_X2_lackingTwos : ab_Me := (yX2_lackingTwos, RX2, cX2_lackingTwos, 5, some .int)
abbrev me_X2_tooNear : ab_Me := (yX2_tooNear, RX2, cX2_tooNear, 9, some .long)
abbrev me_X2_sumMates : ab_Me := (yX2_sumMates, RX2, cX2_sumMates, 5, some .boolean)
abbrev me_X2_bitOf : ab_Me := (yX2_bitOf, RX2, cX2_bitOf, 1, some .long)
abbrev me_X2_sumTargets : ab_Me := (yX2_sumTargets, RX2, cX2_sumTargets, 10, some .long)
abbrev me_X2_freeChannels : ab_Me := (yX2_freeChannels, RX2, cX2_freeChannels, 9, some .int)
abbrev me_X2_isClean : ab_Me := (yX2_isClean, RX2, cX2_isClean, 3, some .boolean)
abbrev me_X2_addLacks : ab_Me := (yX2_addLacks, RX2, cX2_addLacks, 8, none)
abbrev me_X2_addSumAt : ab_Me := (yX2_addSumAt, RX2, cX2_addSumAt, 3, none)
abbrev me_X2_addSums : ab_Me := (yX2_addSums, RX2, cX2_addSums, 9, none)
abbrev me_X2_weigh : ab_Me := (yX2_weigh, RX2, cX2_weigh, 7, some (.array .int))
abbrev me_X8_below : ab_Me := (yX8_below, RX8, cX8_below, 1, some .int)
abbrev me_X8_open : ab_Me := (yX8_open, RX8, cX8_open, 3, none)
abbrev me_X8_takes : ab_Me := (yX8_takes, RX8, cX8_takes, 3, some .boolean)
abbrev me_X8_search : ab_Me := (yX8_search, RX8, cX8_search, 4, some .int)
abbrev me_X8_handOver : ab_Me := (yX8_handOver, RX8, cX8_handOver, 2, none)
abbrev me_X5_canChange : ab_Me := (yX5_canChange, RX5, cX5_canChange, 3, some .boolean)
abbrev me_X5_improve : ab_Me := (yX5_improve, RX5, cX5_improve, 10, some .boolean)
abbrev me_X5_leastFree : ab_Me := (yX5_leastFree, RX5, cX5_leastFree, 6, some .int)
abbrev me_X5_changeOne : ab_Me := (yX5_changeOne, RX5, cX5_changeOne, 4, some .boolean)
abbrev me_X5_changeBoth : ab_Me := (yX5_changeBoth, RX5, cX5_changeBoth, 8, some .boolean)
abbrev me_X5_changeTwo : ab_Me := (yX5_changeTwo, RX5, cX5_changeTwo, 4, some .boolean)
abbrev me_X0_barsAll : ab_Me := (yX0_barsAll, RX0, cX0_barsAll, 4, some .boolean)
abbrev me_X0_isCrowd : ab_Me := (yX0_isCrowd, RX0, cX0_isCrowd, 3, some .boolean)
abbrev me_X0_wantsOf : ab_Me := (yX0_wantsOf, RX0, cX0_wantsOf, 4, some .int)
abbrev me_X0_leastSum : ab_Me := (yX0_leastSum, RX0, cX0_leastSum, 6, some .int)
abbrev me_X0_sumUp : ab_Me := (yX0_sumUp, RX0, cX0_sumUp, 4, none)
abbrev me_X0_seat : ab_Me := (yX0_seat, RX0, cX0_seat, 6, some .int)
abbrev me_X0_boundOfSeated : ab_Me := (yX0_boundOfSeated, RX0, cX0_boundOfSeated, 5, some .int)
abbrev me_X0_boundOf : ab_Me := (yX0_boundOf, RX0, cX0_boundOf, 4, some .int)
abbrev me_X0_consider : ab_Me := (yX0_consider, RX0, cX0_consider, 3, none)
abbrev me_X0_grow : ab_Me := (yX0_grow, RX0, cX0_grow, 7, none)
abbrev me_X0_greatest : ab_Me := (yX0_greatest, RX0, cX0_greatest, 1, some .int)
abbrev me_X6_clear : ab_Me := (yX6_clear, RX6, cX6_clear, 1, none)
abbrev me_X6_takeMast : ab_Me := (yX6_takeMast, RX6, cX6_takeMast, 2, none)
abbrev me_X6_takeChannels : ab_Me := (yX6_takeChannels, RX6, cX6_takeChannels, 4, none)
abbrev me_X6_takeSquares : ab_Me := (yX6_takeSquares, RX6, cX6_takeSquares, 4, none)
abbrev me_X6_takeZeros : ab_Me := (yX6_takeZeros, RX6, cX6_takeZeros, 3, none)
abbrev me_X6_isRow : ab_Me := (yX6_isRow, RX6, cX6_isRow, 1, some .boolean)
abbrev me_X6_hasRange : ab_Me := (yX6_hasRange, RX6, cX6_hasRange, 3, some .boolean)
abbrev me_X6_at : ab_Me := (yX6_at, RX6, cX6_at, 2, some .long)
abbrev me_X6_copyTo : ab_Me := (yX6_copyTo, RX6, cX6_copyTo, 5, none)
abbrev me_X9_mast : ab_Me := (yX9_mast, RX9, cX9_mast, 5, some .int)
abbrev me_X9_move : ab_Me := (yX9_move, RX9, cX9_move, 3, some .int)
abbrev me_X9_list : ab_Me := (yX9_list, RX9, cX9_list, 3, some .int)
abbrev me_X9_gap : ab_Me := (yX9_gap, RX9, cX9_gap, 4, some .int)
abbrev me_X9_stay : ab_Me := (yX9_stay, RX9, cX9_stay, 3, some .int)
abbrev me_X9_row : ab_Me := (yX9_row, RX9, cX9_row, 4, some .int)
abbrev me_X9_own : ab_Me := (yX9_own, RX9, cX9_own, 3, some .int)
abbrev me_X9_border : ab_Me := (yX9_border, RX9, cX9_border, 5, some .int)
abbrev me_X9_turn : ab_Me := (yX9_turn, RX9, cX9_turn, 2, some .int)
abbrev me_X9_bar : ab_Me := (yX9_bar, RX9, cX9_bar, 3, some .int)
abbrev me_X9_may : ab_Me := (yX9_may, RX9, cX9_may, 3, some .int)
abbrev me_X9_set : ab_Me := (yX9_set, RX9, cX9_set, 4, some .int)
abbrev me_X9_channel : ab_Me := (yX9_channel, RX9, cX9_channel, 2, some .int)
abbrev me_X9_of : ab_Me := (yX9_of, RX9, cX9_of, 2, some .int)
abbrev me_X9_harm : ab_Me := (yX9_harm, RX9, cX9_harm, 1, some .int)
abbrev me_X9_kept : ab_Me := (yX9_kept, RX9, cX9_kept, 1, some .int)
abbrev me_X9_broken : ab_Me := (yX9_broken, RX9, cX9_broken, 2, some .int)
abbrev me_X9_pair : ab_Me := (yX9_pair, RX9, cX9_pair, 7, some .int)
abbrev me_X9_plan : ab_Me := (yX9_plan, RX9, cX9_plan, 3, some .int)
abbrev me_X9_tries : ab_Me := (yX9_tries, RX9, cX9_tries, 1, some .int)
abbrev me_X9_least : ab_Me := (yX9_least, RX9, cX9_least, 3, some .int)
abbrev me_X9_span : ab_Me := (yX9_span, RX9, cX9_span, 4, some .int)
abbrev me_X9_better : ab_Me := (yX9_better, RX9, cX9_better, 3, some .int)
abbrev me_X9_fewest : ab_Me := (yX9_fewest, RX9, cX9_fewest, 2, some .int)
abbrev me_X9_bound : ab_Me := (yX9_bound, RX9, cX9_bound, 2, some .int)
abbrev me_X9_crowd : ab_Me := (yX9_crowd, RX9, cX9_crowd, 1, some .int)
abbrev me_X9_part : ab_Me := (yX9_part, RX9, cX9_part, 2, some .int)
abbrev me_X9_image : ab_Me := (yX9_image, RX9, cX9_image, 1, some .int)
abbrev me_X9_restore : ab_Me := (yX9_restore, RX9, cX9_restore, 3, some .int)
abbrev me_X9_count : ab_Me := (yX9_count, RX9, cX9_count, 2, some .int)
abbrev me_X9_look : ab_Me := (yX9_look, RX9, cX9_look, 3, some .int)
abbrev me_X9_keep : ab_Me := (yX9_keep, RX9, cX9_keep, 5, some .int)
abbrev me_X9_make : ab_Me := (yX9_make, RX9, cX9_make, 4, some .int)
abbrev me_X9_copy : ab_Me := (yX9_copy, RX9, cX9_copy, 8, some .int)
abbrev me_X9_refusalOfMast : ab_Me := (yX9_refusalOfMast, RX9, cX9_refusalOfMast, 2, some .int)
abbrev me_X9_weight : ab_Me := (yX9_weight, RX9, cX9_weight, 3, some .int)
abbrev me_X10_thrown : ab_Me := (yX10_thrown, RX10, cX10_thrown, 1, some .int)
abbrev me_X10_isIn : ab_Me := (yX10_isIn, RX10, cX10_isIn, 6, some .boolean)
abbrev me_X10_isMast : ab_Me := (yX10_isMast, RX10, cX10_isMast, 2, some .boolean)
abbrev me_X10_isWant : ab_Me := (yX10_isWant, RX10, cX10_isWant, 2, some .boolean)
abbrev me_X10_isPlace : ab_Me := (yX10_isPlace, RX10, cX10_isPlace, 1, some .boolean)
abbrev me_X10_isSet : ab_Me := (yX10_isSet, RX10, cX10_isSet, 1, some .boolean)
abbrev me_X10_mast : ab_Me := (yX10_mast, RX10, cX10_mast, 6, some .int)
abbrev me_X10_square : ab_Me := (yX10_square, RX10, cX10_square, 3, some .int)
abbrev me_X10_barOf : ab_Me := (yX10_barOf, RX10, cX10_barOf, 6, some .int)
abbrev me_X10_move : ab_Me := (yX10_move, RX10, cX10_move, 5, some .int)
abbrev me_X10_countBits : ab_Me := (yX10_countBits, RX10, cX10_countBits, 4, some .int)
abbrev me_X10_list : ab_Me := (yX10_list, RX10, cX10_list, 3, some .int)
abbrev me_X10_gap : ab_Me := (yX10_gap, RX10, cX10_gap, 4, some .int)
abbrev me_X10_stay : ab_Me := (yX10_stay, RX10, cX10_stay, 3, some .int)
abbrev me_X10_row : ab_Me := (yX10_row, RX10, cX10_row, 4, some .int)
abbrev me_X10_own : ab_Me := (yX10_own, RX10, cX10_own, 3, some .int)
abbrev me_X10_border : ab_Me := (yX10_border, RX10, cX10_border, 5, some .int)
abbrev me_X10_isFree : ab_Me := (yX10_isFree, RX10, cX10_isFree, 4, some .boolean)
abbrev me_X10_isListed : ab_Me := (yX10_isListed, RX10, cX10_isListed, 3, some .boolean)
abbrev me_X10_mayHave : ab_Me := (yX10_mayHave, RX10, cX10_mayHave, 5, some .boolean)
abbrev me_X10_turn : ab_Me := (yX10_turn, RX10, cX10_turn, 5, some .int)
abbrev me_X10_bar : ab_Me := (yX10_bar, RX10, cX10_bar, 3, some .int)
abbrev me_X10_may : ab_Me := (yX10_may, RX10, cX10_may, 3, some .int)
abbrev me_X10_set : ab_Me := (yX10_set, RX10, cX10_set, 4, some .int)
abbrev me_X10_channel : ab_Me := (yX10_channel, RX10, cX10_channel, 2, some .int)
abbrev me_X10_of : ab_Me := (yX10_of, RX10, cX10_of, 2, some .int)
abbrev me_X10_channelOf : ab_Me := (yX10_channelOf, RX10, cX10_channelOf, 3, some .int)
abbrev me_X10_channelsOf : ab_Me := (yX10_channelsOf, RX10, cX10_channelsOf, 2, some .int)
abbrev me_X10_lack : ab_Me := (yX10_lack, RX10, cX10_lack, 9, some .int)
abbrev me_X10_areIn : ab_Me := (yX10_areIn, RX10, cX10_areIn, 4, some .boolean)
abbrev me_X10_middles : ab_Me := (yX10_middles, RX10, cX10_middles, 8, some .int)
abbrev me_X10_brokenOf : ab_Me := (yX10_brokenOf, RX10, cX10_brokenOf, 7, some .int)
abbrev me_X10_harmNow : ab_Me := (yX10_harmNow, RX10, cX10_harmNow, 1, some .int)
abbrev me_X10_harm : ab_Me := (yX10_harm, RX10, cX10_harm, 1, some .int)
abbrev me_X10_kept : ab_Me := (yX10_kept, RX10, cX10_kept, 3, some .int)
abbrev me_X10_broken : ab_Me := (yX10_broken, RX10, cX10_broken, 2, some .int)
abbrev me_X10_pair : ab_Me := (yX10_pair, RX10, cX10_pair, 7, some .int)
abbrev me_X10_isFine : ab_Me := (yX10_isFine, RX10, cX10_isFine, 4, some .boolean)
abbrev me_X10_isTaken : ab_Me := (yX10_isTaken, RX10, cX10_isTaken, 6, some .boolean)
abbrev me_X10_tryBelow : ab_Me := (yX10_tryBelow, RX10, cX10_tryBelow, 5, some .boolean)
abbrev me_X10_keepPlan : ab_Me := (yX10_keepPlan, RX10, cX10_keepPlan, 2, none)
abbrev me_X10_givePlan : ab_Me := (yX10_givePlan, RX10, cX10_givePlan, 2, none)
abbrev me_X10_plan : ab_Me := (yX10_plan, RX10, cX10_plan, 2, some .int)
abbrev me_X10_tries : ab_Me := (yX10_tries, RX10, cX10_tries, 1, some .int)
abbrev me_X10_least : ab_Me := (yX10_least, RX10, cX10_least, 2, some .int)
abbrev me_X10_span : ab_Me := (yX10_span, RX10, cX10_span, 6, some .int)
abbrev me_X10_isBettered : ab_Me := (yX10_isBettered, RX10, cX10_isBettered, 9, some .boolean)
abbrev me_X10_better : ab_Me := (yX10_better, RX10, cX10_better, 3, some .int)
abbrev me_X10_isHealedBy : ab_Me := (yX10_isHealedBy, RX10, cX10_isHealedBy, 4, some .boolean)
abbrev me_X10_isHealedByTwo : ab_Me := (yX10_isHealedByTwo, RX10, cX10_isHealedByTwo, 5, some .boolean)
abbrev me_X10_fewest : ab_Me := (yX10_fewest, RX10, cX10_fewest, 3, some .int)
abbrev me_X10_wantsIn : ab_Me := (yX10_wantsIn, RX10, cX10_wantsIn, 4, some .int)
abbrev me_X10_isCrowd : ab_Me := (yX10_isCrowd, RX10, cX10_isCrowd, 5, some .boolean)
abbrev me_X10_boundOf : ab_Me := (yX10_boundOf, RX10, cX10_boundOf, 9, some .int)
abbrev me_X10_bound : ab_Me := (yX10_bound, RX10, cX10_bound, 2, some .int)
abbrev me_X10_crowd : ab_Me := (yX10_crowd, RX10, cX10_crowd, 5, some .int)
abbrev me_X10_areNear : ab_Me := (yX10_areNear, RX10, cX10_areNear, 5, some .boolean)
abbrev me_X10_findParts : ab_Me := (yX10_findParts, RX10, cX10_findParts, 4, some .int)
abbrev me_X10_part : ab_Me := (yX10_part, RX10, cX10_part, 3, some .int)
abbrev me_X10_withChannel : ab_Me := (yX10_withChannel, RX10, cX10_withChannel, 3, some .int)
abbrev me_X10_image : ab_Me := (yX10_image, RX10, cX10_image, 2, some .int)
abbrev me_X10_restore : ab_Me := (yX10_restore, RX10, cX10_restore, 3, some .int)
abbrev me_X10_bars : ab_Me := (yX10_bars, RX10, cX10_bars, 4, some .int)
abbrev me_X10_threes : ab_Me := (yX10_threes, RX10, cX10_threes, 5, some .int)
abbrev me_X10_count : ab_Me := (yX10_count, RX10, cX10_count, 2, some .int)
abbrev me_X10_look : ab_Me := (yX10_look, RX10, cX10_look, 3, some .int)
abbrev me_X10_isShelf : ab_Me := (yX10_isShelf, RX10, cX10_isShelf, 1, some .boolean)
abbrev me_X10_weightOf : ab_Me := (yX10_weightOf, RX10, cX10_weightOf, 3, some .int)
abbrev me_X10_keep : ab_Me := (yX10_keep, RX10, cX10_keep, 6, some .int)
abbrev me_X10_make : ab_Me := (yX10_make, RX10, cX10_make, 5, some .int)
abbrev me_X10_element : ab_Me := (yX10_element, RX10, cX10_element, 4, some .long)
abbrev me_X10_hasPlaces : ab_Me := (yX10_hasPlaces, RX10, cX10_hasPlaces, 4, some .boolean)
abbrev me_X10_copy : ab_Me := (yX10_copy, RX10, cX10_copy, 7, some .int)
abbrev me_X10_denied : ab_Me := (yX10_denied, RX10, cX10_denied, 2, some .int)
abbrev me_X10_weight : ab_Me := (yX10_weight, RX10, cX10_weight, 3, some .int)
abbrev me_X10_toss : ab_Me := (yX10_toss, RX10, cX10_toss, 3, some .int)
theorem gi_X0 : ∀ w ∈ u_ws RX0 TX0 5, w ∈ ab_G := by
  intro w hw
  have h := goodIn_r (big := lw_tbl) (u_ws RX0 TX0 5) [302, 304, 306, 308, 310] (by decide +kernel) (by decide +kernel) w hw
  exact List.mem_filter.mpr ⟨h.1, List.all_eq_true.mp (show (u_ws RX0 TX0 5).all goodWord = true by decide +kernel) w hw⟩
theorem gi_X1 : ∀ w ∈ u_ws RX1 TX1 4, w ∈ ab_G := by
  intro w hw
  have h := goodIn_r (big := lw_tbl) (u_ws RX1 TX1 4) [129, 131, 133, 135] (by decide +kernel) (by decide +kernel) w hw
  exact List.mem_filter.mpr ⟨h.1, List.all_eq_true.mp (show (u_ws RX1 TX1 4).all goodWord = true by decide +kernel) w hw⟩
theorem gi_X2 : ∀ w ∈ u_ws RX2 TX2 2, w ∈ ab_G := by
  intro w hw
  have h := goodIn_r (big := lw_tbl) (u_ws RX2 TX2 2) [247, 249] (by decide +kernel) (by decide +kernel) w hw
  exact List.mem_filter.mpr ⟨h.1, List.all_eq_true.mp (show (u_ws RX2 TX2 2).all goodWord = true by decide +kernel) w hw⟩
theorem gi_X3 : ∀ w ∈ u_ws RX3 TX3 11, w ∈ ab_G := by
  intro w hw
  have h := goodIn_r (big := lw_tbl) (u_ws RX3 TX3 11) [216, 218, 220, 222, 224, 226, 228, 230, 232, 234, 236] (by decide +kernel) (by decide +kernel) w hw
  exact List.mem_filter.mpr ⟨h.1, List.all_eq_true.mp (show (u_ws RX3 TX3 11).all goodWord = true by decide +kernel) w hw⟩
theorem gi_X4 : ∀ w ∈ u_ws RX4 TX4 9, w ∈ ab_G := by
  intro w hw
  have h := goodIn_r (big := lw_tbl) (u_ws RX4 TX4 9) [165, 167, 169, 171, 173, 175, 177, 179, 181] (by decide +kernel) (by decide +kernel) w hw
  exact List.mem_filter.mpr ⟨h.1, List.all_eq_true.mp (show (u_ws RX4 TX4 9).all goodWord = true by decide +kernel) w hw⟩
theorem gi_X5 : ∀ w ∈ u_ws RX5 TX5 2, w ∈ ab_G := by
  intro w hw
  have h := goodIn_r (big := lw_tbl) (u_ws RX5 TX5 2) [286, 288] (by decide +kernel) (by decide +kernel) w hw
  exact List.mem_filter.mpr ⟨h.1, List.all_eq_true.mp (show (u_ws RX5 TX5 2).all goodWord = true by decide +kernel) w hw⟩
theorem gi_X6 : ∀ w ∈ u_ws RX6 TX6 5, w ∈ ab_G := by
  intro w hw
  have h := goodIn_r (big := lw_tbl) (u_ws RX6 TX6 5) [330, 332, 334, 336, 338] (by decide +kernel) (by decide +kernel) w hw
  exact List.mem_filter.mpr ⟨h.1, List.all_eq_true.mp (show (u_ws RX6 TX6 5).all goodWord = true by decide +kernel) w hw⟩
theorem gi_X7 : ∀ w ∈ u_ws RX7 TX7 4, w ∈ ab_G := by
  intro w hw
  have h := goodIn_r (big := lw_tbl) (u_ws RX7 TX7 4) [109, 111, 113, 115] (by decide +kernel) (by decide +kernel) w hw
  exact List.mem_filter.mpr ⟨h.1, List.all_eq_true.mp (show (u_ws RX7 TX7 4).all goodWord = true by decide +kernel) w hw⟩
theorem gi_X8 : ∀ w ∈ u_ws RX8 TX8 6, w ∈ ab_G := by
  intro w hw
  have h := goodIn_r (big := lw_tbl) (u_ws RX8 TX8 6) [265, 267, 269, 271, 273, 275] (by decide +kernel) (by decide +kernel) w hw
  exact List.mem_filter.mpr ⟨h.1, List.all_eq_true.mp (show (u_ws RX8 TX8 6).all goodWord = true by decide +kernel) w hw⟩
theorem gi_X9 : ∀ w ∈ u_ws RX9 TX9 9, w ∈ ab_G := by
  intro w hw
  have h := goodIn_r (big := lw_tbl) (u_ws RX9 TX9 9) [353, 355, 357, 359, 361, 363, 365, 367, 369] (by decide +kernel) (by decide +kernel) w hw
  exact List.mem_filter.mpr ⟨h.1, List.all_eq_true.mp (show (u_ws RX9 TX9 9).all goodWord = true by decide +kernel) w hw⟩
theorem gi_X10 : ∀ w ∈ u_ws RX10 TX10 39, w ∈ ab_G := by
  intro w hw
  have h := goodIn_r (big := lw_tbl) (u_ws RX10 TX10 39) [1074, 1076, 1078, 1080, 1082, 1084, 1086, 1088, 1090, 1092, 1094, 1096, 1098, 1100, 1102, 1104, 1106, 1108, 1110, 1112, 1114, 1116, 1118, 1120, 1122, 1124, 1126, 1128, 1130, 1132, 1134, 1136, 1138, 1140, 1142, 1144, 1146, 1148, 1150] (by decide +kernel) (by decide +kernel) w hw
  exact List.mem_filter.mpr ⟨h.1, List.all_eq_true.mp (show (u_ws RX10 TX10 39).all goodWord = true by decide +kernel) w hw⟩
theorem fl_RX9_12 : ab_FL RX9 12 9 0 (tyX9 0) true := ⟨RX9, TX9, 9, tyX9, rfl, by decide, gi_X9, tyX9_ok, nmX9, rfl, rfl, Or.inl (ab_G_in (i := 344) (by decide +kernel) (by decide +kernel))⟩
theorem fl_RX9_21 : ab_FL RX9 21 9 1 (tyX9 1) true := ⟨RX9, TX9, 9, tyX9, rfl, by decide, gi_X9, tyX9_ok, nmX9, rfl, rfl, Or.inl (ab_G_in (i := 345) (by decide +kernel) (by decide +kernel))⟩
theorem fl_RX9_30 : ab_FL RX9 30 9 2 (tyX9 2) true := ⟨RX9, TX9, 9, tyX9, rfl, by decide, gi_X9, tyX9_ok, nmX9, rfl, rfl, Or.inl (ab_G_in (i := 346) (by decide +kernel) (by decide +kernel))⟩
theorem fl_RX9_37 : ab_FL RX9 37 9 3 (tyX9 3) true := ⟨RX9, TX9, 9, tyX9, rfl, by decide, gi_X9, tyX9_ok, nmX9, rfl, rfl, Or.inl (ab_G_in (i := 347) (by decide +kernel) (by decide +kernel))⟩
theorem fl_RX9_44 : ab_FL RX9 44 9 4 (tyX9 4) true := ⟨RX9, TX9, 9, tyX9, rfl, by decide, gi_X9, tyX9_ok, nmX9, rfl, rfl, Or.inl (ab_G_in (i := 348) (by decide +kernel) (by decide +kernel))⟩
theorem fl_RX9_50 : ab_FL RX9 50 9 5 (tyX9 5) true := ⟨RX9, TX9, 9, tyX9, rfl, by decide, gi_X9, tyX9_ok, nmX9, rfl, rfl, Or.inl (ab_G_in (i := 349) (by decide +kernel) (by decide +kernel))⟩
theorem fl_RX9_55 : ab_FL RX9 55 9 6 (tyX9 6) true := ⟨RX9, TX9, 9, tyX9, rfl, by decide, gi_X9, tyX9_ok, nmX9, rfl, rfl, Or.inl (ab_G_in (i := 350) (by decide +kernel) (by decide +kernel))⟩
theorem fl_RX9_59 : ab_FL RX9 59 9 7 (tyX9 7) true := ⟨RX9, TX9, 9, tyX9, rfl, by decide, gi_X9, tyX9_ok, nmX9, rfl, rfl, Or.inl (ab_G_in (i := 351) (by decide +kernel) (by decide +kernel))⟩
theorem fl_RX9_68 : ab_FL RX9 68 9 8 (tyX9 8) false := ⟨RX9, TX9, 9, tyX9, rfl, by decide, gi_X9, tyX9_ok, nmX9, rfl, rfl, Or.inl (ab_G_in (i := 352) (by decide +kernel) (by decide +kernel))⟩
theorem fl_RX9_80 : ab_FL RX9 80 3 7 (tyX3 7) false := ⟨RX3, TX3, 11, tyX3, rfl, by decide, gi_X3, tyX3_ok, nmX3, rfl, rfl, Or.inr ⟨"WavePlan", ab_n_in (i := 205) (by decide +kernel) rfl⟩⟩
theorem fl_RX9_83 : ab_FL RX9 83 3 8 (tyX3 8) false := ⟨RX3, TX3, 11, tyX3, rfl, by decide, gi_X3, tyX3_ok, nmX3, rfl, rfl, Or.inr ⟨"WavePlan", ab_n_in (i := 209) (by decide +kernel) rfl⟩⟩
theorem fl_RX9_98 : ab_FL RX9 98 3 0 (tyX3 0) true := ⟨RX3, TX3, 11, tyX3, rfl, by decide, gi_X3, tyX3_ok, nmX3, rfl, rfl, Or.inr ⟨"WavePlan", ab_n_in (i := 188) (by decide +kernel) rfl⟩⟩
theorem fl_RX9_102 : ab_FL RX9 102 4 7 (tyX4 7) false := ⟨RX4, TX4, 9, tyX4, rfl, by decide, gi_X4, tyX4_ok, nmX4, rfl, rfl, Or.inr ⟨"WavePlan", ab_n_in (i := 160) (by decide +kernel) rfl⟩⟩
theorem fl_RX9_113 : ab_FL RX9 113 4 1 (tyX4 1) false := ⟨RX4, TX4, 9, tyX4, rfl, by decide, gi_X4, tyX4_ok, nmX4, rfl, rfl, Or.inr ⟨"WavePlan", ab_n_in (i := 147) (by decide +kernel) rfl⟩⟩
theorem fl_RX9_116 : ab_FL RX9 116 4 8 (tyX4 8) false := ⟨RX4, TX4, 9, tyX4, rfl, by decide, gi_X4, tyX4_ok, nmX4, rfl, rfl, Or.inr ⟨"WavePlan", ab_n_in (i := 163) (by decide +kernel) rfl⟩⟩
theorem fl_RX9_125 : ab_FL RX9 125 3 2 (tyX3 2) true := ⟨RX3, TX3, 11, tyX3, rfl, by decide, gi_X3, tyX3_ok, nmX3, rfl, rfl, Or.inr ⟨"WavePlan", ab_n_in (i := 196) (by decide +kernel) rfl⟩⟩
theorem fl_RX9_128 : ab_FL RX9 128 3 3 (tyX3 3) true := ⟨RX3, TX3, 11, tyX3, rfl, by decide, gi_X3, tyX3_ok, nmX3, rfl, rfl, Or.inr ⟨"WavePlan", ab_n_in (i := 198) (by decide +kernel) rfl⟩⟩
theorem fl_RX9_132 : ab_FL RX9 132 7 3 (tyX7 3) false := ⟨RX7, TX7, 4, tyX7, rfl, by decide, gi_X7, tyX7_ok, nmX7, rfl, rfl, Or.inr ⟨"WavePlan", ab_n_in (i := 108) (by decide +kernel) rfl⟩⟩
theorem fl_RX9_144 : ab_FL RX9 144 3 9 (tyX3 9) false := ⟨RX3, TX3, 11, tyX3, rfl, by decide, gi_X3, tyX3_ok, nmX3, rfl, rfl, Or.inr ⟨"WavePlan", ab_n_in (i := 213) (by decide +kernel) rfl⟩⟩
theorem fl_RX9_147 : ab_FL RX9 147 3 10 (tyX3 10) false := ⟨RX3, TX3, 11, tyX3, rfl, by decide, gi_X3, tyX3_ok, nmX3, rfl, rfl, Or.inr ⟨"WavePlan", ab_n_in (i := 215) (by decide +kernel) rfl⟩⟩
theorem fl_RX9_150 : ab_FL RX9 150 3 4 (tyX3 4) true := ⟨RX3, TX3, 11, tyX3, rfl, by decide, gi_X3, tyX3_ok, nmX3, rfl, rfl, Or.inr ⟨"WavePlan", ab_n_in (i := 200) (by decide +kernel) rfl⟩⟩
theorem fl_RX9_173 : ab_FL RX9 173 3 1 (tyX3 1) true := ⟨RX3, TX3, 11, tyX3, rfl, by decide, gi_X3, tyX3_ok, nmX3, rfl, rfl, Or.inr ⟨"WavePlan", ab_n_in (i := 193) (by decide +kernel) rfl⟩⟩
theorem fl_RX9_195 : ab_FL RX9 195 8 5 (tyX8 5) false := ⟨RX8, TX8, 6, tyX8, rfl, by decide, gi_X8, tyX8_ok, nmX8, rfl, rfl, Or.inr ⟨"WavePlan", ab_n_in (i := 264) (by decide +kernel) rfl⟩⟩
theorem fl_RX9_308 : ab_FL RX9 308 6 3 (tyX6 3) false := ⟨RX6, TX6, 5, tyX6, rfl, by decide, gi_X6, tyX6_ok, nmX6, rfl, rfl, Or.inr ⟨"WavePlan", ab_n_in (i := 327) (by decide +kernel) rfl⟩⟩
theorem fl_RX9_322 : ab_FL RX9 322 6 0 (tyX6 0) true := ⟨RX6, TX6, 5, tyX6, rfl, by decide, gi_X6, tyX6_ok, nmX6, rfl, rfl, Or.inr ⟨"WavePlan", ab_n_in (i := 323) (by decide +kernel) rfl⟩⟩
theorem fl_RX0_9 : ab_FL RX0 9 0 1 (tyX0 1) true := ⟨RX0, TX0, 5, tyX0, rfl, by decide, gi_X0, tyX0_ok, nmX0, rfl, rfl, Or.inl (ab_G_in (i := 298) (by decide +kernel) (by decide +kernel))⟩
theorem fl_RX0_15 : ab_FL RX0 15 0 2 (tyX0 2) true := ⟨RX0, TX0, 5, tyX0, rfl, by decide, gi_X0, tyX0_ok, nmX0, rfl, rfl, Or.inl (ab_G_in (i := 299) (by decide +kernel) (by decide +kernel))⟩
theorem fl_RX0_18 : ab_FL RX0 18 0 0 (tyX0 0) true := ⟨RX0, TX0, 5, tyX0, rfl, by decide, gi_X0, tyX0_ok, nmX0, rfl, rfl, Or.inl (ab_G_in (i := 297) (by decide +kernel) (by decide +kernel))⟩
theorem fl_RX0_22 : ab_FL RX0 22 3 7 (tyX3 7) false := ⟨RX3, TX3, 11, tyX3, rfl, by decide, gi_X3, tyX3_ok, nmX3, rfl, rfl, Or.inr ⟨"WavePlan", ab_n_in (i := 204) (by decide +kernel) rfl⟩⟩
theorem fl_RX0_36 : ab_FL RX0 36 3 0 (tyX3 0) true := ⟨RX3, TX3, 11, tyX3, rfl, by decide, gi_X3, tyX3_ok, nmX3, rfl, rfl, Or.inr ⟨"WavePlan", ab_n_in (i := 189) (by decide +kernel) rfl⟩⟩
theorem fl_RX0_40 : ab_FL RX0 40 4 5 (tyX4 5) false := ⟨RX4, TX4, 9, tyX4, rfl, by decide, gi_X4, tyX4_ok, nmX4, rfl, rfl, Or.inr ⟨"WavePlan", ab_n_in (i := 157) (by decide +kernel) rfl⟩⟩
theorem fl_RX0_52 : ab_FL RX0 52 0 3 (tyX0 3) false := ⟨RX0, TX0, 5, tyX0, rfl, by decide, gi_X0, tyX0_ok, nmX0, rfl, rfl, Or.inl (ab_G_in (i := 300) (by decide +kernel) (by decide +kernel))⟩
theorem fl_RX0_55 : ab_FL RX0 55 0 4 (tyX0 4) false := ⟨RX0, TX0, 5, tyX0, rfl, by decide, gi_X0, tyX0_ok, nmX0, rfl, rfl, Or.inl (ab_G_in (i := 301) (by decide +kernel) (by decide +kernel))⟩
theorem fl_RX1_9 : ab_FL RX1 9 1 0 (tyX1 0) false := ⟨RX1, TX1, 4, tyX1, rfl, by decide, gi_X1, tyX1_ok, nmX1, rfl, rfl, Or.inl (ab_G_in (i := 125) (by decide +kernel) (by decide +kernel))⟩
theorem fl_RX1_15 : ab_FL RX1 15 1 1 (tyX1 1) false := ⟨RX1, TX1, 4, tyX1, rfl, by decide, gi_X1, tyX1_ok, nmX1, rfl, rfl, Or.inl (ab_G_in (i := 126) (by decide +kernel) (by decide +kernel))⟩
theorem fl_RX1_18 : ab_FL RX1 18 1 2 (tyX1 2) false := ⟨RX1, TX1, 4, tyX1, rfl, by decide, gi_X1, tyX1_ok, nmX1, rfl, rfl, Or.inl (ab_G_in (i := 127) (by decide +kernel) (by decide +kernel))⟩
theorem fl_RX1_21 : ab_FL RX1 21 1 3 (tyX1 3) false := ⟨RX1, TX1, 4, tyX1, rfl, by decide, gi_X1, tyX1_ok, nmX1, rfl, rfl, Or.inl (ab_G_in (i := 128) (by decide +kernel) (by decide +kernel))⟩
theorem fl_RX1_24 : ab_FL RX1 24 4 1 (tyX4 1) false := ⟨RX4, TX4, 9, tyX4, rfl, by decide, gi_X4, tyX4_ok, nmX4, rfl, rfl, Or.inr ⟨"WavePlan", ab_n_in (i := 146) (by decide +kernel) rfl⟩⟩
theorem fl_RX1_29 : ab_FL RX1 29 4 2 (tyX4 2) false := ⟨RX4, TX4, 9, tyX4, rfl, by decide, gi_X4, tyX4_ok, nmX4, rfl, rfl, Or.inr ⟨"WavePlan", ab_n_in (i := 150) (by decide +kernel) rfl⟩⟩
theorem fl_RX2_9 : ab_FL RX2 9 2 1 (tyX2 1) true := ⟨RX2, TX2, 2, tyX2, rfl, by decide, gi_X2, tyX2_ok, nmX2, rfl, rfl, Or.inl (ab_G_in (i := 246) (by decide +kernel) (by decide +kernel))⟩
theorem fl_RX2_15 : ab_FL RX2 15 2 0 (tyX2 0) true := ⟨RX2, TX2, 2, tyX2, rfl, by decide, gi_X2, tyX2_ok, nmX2, rfl, rfl, Or.inl (ab_G_in (i := 245) (by decide +kernel) (by decide +kernel))⟩
theorem fl_RX2_19 : ab_FL RX2 19 3 8 (tyX3 8) false := ⟨RX3, TX3, 11, tyX3, rfl, by decide, gi_X3, tyX3_ok, nmX3, rfl, rfl, Or.inr ⟨"WavePlan", ab_n_in (i := 208) (by decide +kernel) rfl⟩⟩
theorem fl_RX2_76 : ab_FL RX2 76 3 1 (tyX3 1) true := ⟨RX3, TX3, 11, tyX3, rfl, by decide, gi_X3, tyX3_ok, nmX3, rfl, rfl, Or.inr ⟨"WavePlan", ab_n_in (i := 192) (by decide +kernel) rfl⟩⟩
theorem fl_RX3_11 : ab_FL RX3 11 3 0 (tyX3 0) true := ⟨RX3, TX3, 11, tyX3, rfl, by decide, gi_X3, tyX3_ok, nmX3, rfl, rfl, Or.inl (ab_G_in (i := 187) (by decide +kernel) (by decide +kernel))⟩
theorem fl_RX3_17 : ab_FL RX3 17 3 1 (tyX3 1) true := ⟨RX3, TX3, 11, tyX3, rfl, by decide, gi_X3, tyX3_ok, nmX3, rfl, rfl, Or.inl (ab_G_in (i := 190) (by decide +kernel) (by decide +kernel))⟩
theorem fl_RX3_21 : ab_FL RX3 21 3 2 (tyX3 2) true := ⟨RX3, TX3, 11, tyX3, rfl, by decide, gi_X3, tyX3_ok, nmX3, rfl, rfl, Or.inl (ab_G_in (i := 194) (by decide +kernel) (by decide +kernel))⟩
theorem fl_RX3_27 : ab_FL RX3 27 3 3 (tyX3 3) true := ⟨RX3, TX3, 11, tyX3, rfl, by decide, gi_X3, tyX3_ok, nmX3, rfl, rfl, Or.inl (ab_G_in (i := 197) (by decide +kernel) (by decide +kernel))⟩
theorem fl_RX3_34 : ab_FL RX3 34 3 4 (tyX3 4) true := ⟨RX3, TX3, 11, tyX3, rfl, by decide, gi_X3, tyX3_ok, nmX3, rfl, rfl, Or.inl (ab_G_in (i := 199) (by decide +kernel) (by decide +kernel))⟩
theorem fl_RX3_38 : ab_FL RX3 38 3 5 (tyX3 5) true := ⟨RX3, TX3, 11, tyX3, rfl, by decide, gi_X3, tyX3_ok, nmX3, rfl, rfl, Or.inl (ab_G_in (i := 201) (by decide +kernel) (by decide +kernel))⟩
theorem fl_RX3_41 : ab_FL RX3 41 3 6 (tyX3 6) true := ⟨RX3, TX3, 11, tyX3, rfl, by decide, gi_X3, tyX3_ok, nmX3, rfl, rfl, Or.inl (ab_G_in (i := 202) (by decide +kernel) (by decide +kernel))⟩
theorem fl_RX3_44 : ab_FL RX3 44 3 9 (tyX3 9) false := ⟨RX3, TX3, 11, tyX3, rfl, by decide, gi_X3, tyX3_ok, nmX3, rfl, rfl, Or.inl (ab_G_in (i := 212) (by decide +kernel) (by decide +kernel))⟩
theorem fl_RX3_48 : ab_FL RX3 48 3 10 (tyX3 10) false := ⟨RX3, TX3, 11, tyX3, rfl, by decide, gi_X3, tyX3_ok, nmX3, rfl, rfl, Or.inl (ab_G_in (i := 214) (by decide +kernel) (by decide +kernel))⟩
theorem fl_RX3_58 : ab_FL RX3 58 3 7 (tyX3 7) false := ⟨RX3, TX3, 11, tyX3, rfl, by decide, gi_X3, tyX3_ok, nmX3, rfl, rfl, Or.inl (ab_G_in (i := 203) (by decide +kernel) (by decide +kernel))⟩
theorem fl_RX3_61 : ab_FL RX3 61 3 8 (tyX3 8) false := ⟨RX3, TX3, 11, tyX3, rfl, by decide, gi_X3, tyX3_ok, nmX3, rfl, rfl, Or.inl (ab_G_in (i := 210) (by decide +kernel) (by decide +kernel))⟩
theorem fl_RX3_85 : ab_FL RX3 85 4 4 (tyX4 4) false := ⟨RX4, TX4, 9, tyX4, rfl, by decide, gi_X4, tyX4_ok, nmX4, rfl, rfl, Or.inr ⟨"WavePlan", ab_n_in (i := 155) (by decide +kernel) rfl⟩⟩
theorem fl_RX3_91 : ab_FL RX3 91 4 2 (tyX4 2) false := ⟨RX4, TX4, 9, tyX4, rfl, by decide, gi_X4, tyX4_ok, nmX4, rfl, rfl, Or.inr ⟨"WavePlan", ab_n_in (i := 151) (by decide +kernel) rfl⟩⟩
theorem fl_RX3_94 : ab_FL RX3 94 4 3 (tyX4 3) false := ⟨RX4, TX4, 9, tyX4, rfl, by decide, gi_X4, tyX4_ok, nmX4, rfl, rfl, Or.inr ⟨"WavePlan", ab_n_in (i := 153) (by decide +kernel) rfl⟩⟩
theorem fl_RX3_97 : ab_FL RX3 97 4 1 (tyX4 1) false := ⟨RX4, TX4, 9, tyX4, rfl, by decide, gi_X4, tyX4_ok, nmX4, rfl, rfl, Or.inr ⟨"WavePlan", ab_n_in (i := 148) (by decide +kernel) rfl⟩⟩
theorem fl_RX3_100 : ab_FL RX3 100 4 8 (tyX4 8) false := ⟨RX4, TX4, 9, tyX4, rfl, by decide, gi_X4, tyX4_ok, nmX4, rfl, rfl, Or.inr ⟨"WavePlan", ab_n_in (i := 164) (by decide +kernel) rfl⟩⟩
theorem fl_RX3_103 : ab_FL RX3 103 4 7 (tyX4 7) false := ⟨RX4, TX4, 9, tyX4, rfl, by decide, gi_X4, tyX4_ok, nmX4, rfl, rfl, Or.inr ⟨"WavePlan", ab_n_in (i := 161) (by decide +kernel) rfl⟩⟩
theorem fl_RX4_9 : ab_FL RX4 9 4 0 (tyX4 0) false := ⟨RX4, TX4, 9, tyX4, rfl, by decide, gi_X4, tyX4_ok, nmX4, rfl, rfl, Or.inl (ab_G_in (i := 143) (by decide +kernel) (by decide +kernel))⟩
theorem fl_RX4_15 : ab_FL RX4 15 4 1 (tyX4 1) false := ⟨RX4, TX4, 9, tyX4, rfl, by decide, gi_X4, tyX4_ok, nmX4, rfl, rfl, Or.inl (ab_G_in (i := 145) (by decide +kernel) (by decide +kernel))⟩
theorem fl_RX4_22 : ab_FL RX4 22 4 4 (tyX4 4) false := ⟨RX4, TX4, 9, tyX4, rfl, by decide, gi_X4, tyX4_ok, nmX4, rfl, rfl, Or.inl (ab_G_in (i := 154) (by decide +kernel) (by decide +kernel))⟩
theorem fl_RX4_25 : ab_FL RX4 25 4 5 (tyX4 5) false := ⟨RX4, TX4, 9, tyX4, rfl, by decide, gi_X4, tyX4_ok, nmX4, rfl, rfl, Or.inl (ab_G_in (i := 156) (by decide +kernel) (by decide +kernel))⟩
theorem fl_RX4_28 : ab_FL RX4 28 4 6 (tyX4 6) false := ⟨RX4, TX4, 9, tyX4, rfl, by decide, gi_X4, tyX4_ok, nmX4, rfl, rfl, Or.inl (ab_G_in (i := 158) (by decide +kernel) (by decide +kernel))⟩
theorem fl_RX4_32 : ab_FL RX4 32 4 7 (tyX4 7) false := ⟨RX4, TX4, 9, tyX4, rfl, by decide, gi_X4, tyX4_ok, nmX4, rfl, rfl, Or.inl (ab_G_in (i := 159) (by decide +kernel) (by decide +kernel))⟩
theorem fl_RX4_35 : ab_FL RX4 35 4 8 (tyX4 8) false := ⟨RX4, TX4, 9, tyX4, rfl, by decide, gi_X4, tyX4_ok, nmX4, rfl, rfl, Or.inl (ab_G_in (i := 162) (by decide +kernel) (by decide +kernel))⟩
theorem fl_RX4_38 : ab_FL RX4 38 4 2 (tyX4 2) false := ⟨RX4, TX4, 9, tyX4, rfl, by decide, gi_X4, tyX4_ok, nmX4, rfl, rfl, Or.inl (ab_G_in (i := 149) (by decide +kernel) (by decide +kernel))⟩
theorem fl_RX4_41 : ab_FL RX4 41 4 3 (tyX4 3) false := ⟨RX4, TX4, 9, tyX4, rfl, by decide, gi_X4, tyX4_ok, nmX4, rfl, rfl, Or.inl (ab_G_in (i := 152) (by decide +kernel) (by decide +kernel))⟩
theorem fl_RX5_9 : ab_FL RX5 9 5 0 (tyX5 0) true := ⟨RX5, TX5, 2, tyX5, rfl, by decide, gi_X5, tyX5_ok, nmX5, rfl, rfl, Or.inl (ab_G_in (i := 284) (by decide +kernel) (by decide +kernel))⟩
theorem fl_RX5_15 : ab_FL RX5 15 5 1 (tyX5 1) true := ⟨RX5, TX5, 2, tyX5, rfl, by decide, gi_X5, tyX5_ok, nmX5, rfl, rfl, Or.inl (ab_G_in (i := 285) (by decide +kernel) (by decide +kernel))⟩
theorem fl_RX5_19 : ab_FL RX5 19 3 2 (tyX3 2) true := ⟨RX3, TX3, 11, tyX3, rfl, by decide, gi_X3, tyX3_ok, nmX3, rfl, rfl, Or.inr ⟨"WavePlan", ab_n_in (i := 195) (by decide +kernel) rfl⟩⟩
theorem fl_RX5_25 : ab_FL RX5 25 3 8 (tyX3 8) false := ⟨RX3, TX3, 11, tyX3, rfl, by decide, gi_X3, tyX3_ok, nmX3, rfl, rfl, Or.inr ⟨"WavePlan", ab_n_in (i := 211) (by decide +kernel) rfl⟩⟩
theorem fl_RX6_12 : ab_FL RX6 12 6 0 (tyX6 0) true := ⟨RX6, TX6, 5, tyX6, rfl, by decide, gi_X6, tyX6_ok, nmX6, rfl, rfl, Or.inl (ab_G_in (i := 322) (by decide +kernel) (by decide +kernel))⟩
theorem fl_RX6_18 : ab_FL RX6 18 6 1 (tyX6 1) true := ⟨RX6, TX6, 5, tyX6, rfl, by decide, gi_X6, tyX6_ok, nmX6, rfl, rfl, Or.inl (ab_G_in (i := 324) (by decide +kernel) (by decide +kernel))⟩
theorem fl_RX6_22 : ab_FL RX6 22 6 2 (tyX6 2) true := ⟨RX6, TX6, 5, tyX6, rfl, by decide, gi_X6, tyX6_ok, nmX6, rfl, rfl, Or.inl (ab_G_in (i := 325) (by decide +kernel) (by decide +kernel))⟩
theorem fl_RX6_26 : ab_FL RX6 26 6 3 (tyX6 3) false := ⟨RX6, TX6, 5, tyX6, rfl, by decide, gi_X6, tyX6_ok, nmX6, rfl, rfl, Or.inl (ab_G_in (i := 326) (by decide +kernel) (by decide +kernel))⟩
theorem fl_RX6_30 : ab_FL RX6 30 6 4 (tyX6 4) false := ⟨RX6, TX6, 5, tyX6, rfl, by decide, gi_X6, tyX6_ok, nmX6, rfl, rfl, Or.inl (ab_G_in (i := 328) (by decide +kernel) (by decide +kernel))⟩
theorem fl_RX6_37 : ab_FL RX6 37 3 7 (tyX3 7) false := ⟨RX3, TX3, 11, tyX3, rfl, by decide, gi_X3, tyX3_ok, nmX3, rfl, rfl, Or.inr ⟨"WavePlan", ab_n_in (i := 206) (by decide +kernel) rfl⟩⟩
theorem fl_RX7_9 : ab_FL RX7 9 7 0 (tyX7 0) true := ⟨RX7, TX7, 4, tyX7, rfl, by decide, gi_X7, tyX7_ok, nmX7, rfl, rfl, Or.inl (ab_G_in (i := 104) (by decide +kernel) (by decide +kernel))⟩
theorem fl_RX7_15 : ab_FL RX7 15 7 1 (tyX7 1) true := ⟨RX7, TX7, 4, tyX7, rfl, by decide, gi_X7, tyX7_ok, nmX7, rfl, rfl, Or.inl (ab_G_in (i := 105) (by decide +kernel) (by decide +kernel))⟩
theorem fl_RX7_18 : ab_FL RX7 18 7 2 (tyX7 2) true := ⟨RX7, TX7, 4, tyX7, rfl, by decide, gi_X7, tyX7_ok, nmX7, rfl, rfl, Or.inl (ab_G_in (i := 106) (by decide +kernel) (by decide +kernel))⟩
theorem fl_RX7_21 : ab_FL RX7 21 7 3 (tyX7 3) false := ⟨RX7, TX7, 4, tyX7, rfl, by decide, gi_X7, tyX7_ok, nmX7, rfl, rfl, Or.inl (ab_G_in (i := 107) (by decide +kernel) (by decide +kernel))⟩
theorem fl_RX8_9 : ab_FL RX8 9 8 2 (tyX8 2) true := ⟨RX8, TX8, 6, tyX8, rfl, by decide, gi_X8, tyX8_ok, nmX8, rfl, rfl, Or.inl (ab_G_in (i := 260) (by decide +kernel) (by decide +kernel))⟩
theorem fl_RX8_15 : ab_FL RX8 15 8 3 (tyX8 3) true := ⟨RX8, TX8, 6, tyX8, rfl, by decide, gi_X8, tyX8_ok, nmX8, rfl, rfl, Or.inl (ab_G_in (i := 261) (by decide +kernel) (by decide +kernel))⟩
theorem fl_RX8_18 : ab_FL RX8 18 8 4 (tyX8 4) true := ⟨RX8, TX8, 6, tyX8, rfl, by decide, gi_X8, tyX8_ok, nmX8, rfl, rfl, Or.inl (ab_G_in (i := 262) (by decide +kernel) (by decide +kernel))⟩
theorem fl_RX8_21 : ab_FL RX8 21 8 0 (tyX8 0) true := ⟨RX8, TX8, 6, tyX8, rfl, by decide, gi_X8, tyX8_ok, nmX8, rfl, rfl, Or.inl (ab_G_in (i := 258) (by decide +kernel) (by decide +kernel))⟩
theorem fl_RX8_25 : ab_FL RX8 25 8 1 (tyX8 1) true := ⟨RX8, TX8, 6, tyX8, rfl, by decide, gi_X8, tyX8_ok, nmX8, rfl, rfl, Or.inl (ab_G_in (i := 259) (by decide +kernel) (by decide +kernel))⟩
theorem fl_RX8_29 : ab_FL RX8 29 3 8 (tyX3 8) false := ⟨RX3, TX3, 11, tyX3, rfl, by decide, gi_X3, tyX3_ok, nmX3, rfl, rfl, Or.inr ⟨"WavePlan", ab_n_in (i := 207) (by decide +kernel) rfl⟩⟩
theorem fl_RX8_39 : ab_FL RX8 39 8 5 (tyX8 5) false := ⟨RX8, TX8, 6, tyX8, rfl, by decide, gi_X8, tyX8_ok, nmX8, rfl, rfl, Or.inl (ab_G_in (i := 263) (by decide +kernel) (by decide +kernel))⟩
theorem fl_RX8_65 : ab_FL RX8 65 3 1 (tyX3 1) true := ⟨RX3, TX3, 11, tyX3, rfl, by decide, gi_X3, tyX3_ok, nmX3, rfl, rfl, Or.inr ⟨"WavePlan", ab_n_in (i := 191) (by decide +kernel) rfl⟩⟩
theorem fl_RX10_7 : ab_FL RX10 7 10 2 (tyX10 2) true := ⟨RX10, TX10, 39, tyX10, rfl, by decide, gi_X10, tyX10_ok, nmX10, rfl, rfl, Or.inl (ab_G_in (i := 1037) (by decide +kernel) (by decide +kernel))⟩
theorem fl_RX10_13 : ab_FL RX10 13 10 3 (tyX10 3) true := ⟨RX10, TX10, 39, tyX10, rfl, by decide, gi_X10, tyX10_ok, nmX10, rfl, rfl, Or.inl (ab_G_in (i := 1038) (by decide +kernel) (by decide +kernel))⟩
theorem fl_RX10_16 : ab_FL RX10 16 10 4 (tyX10 4) true := ⟨RX10, TX10, 39, tyX10, rfl, by decide, gi_X10, tyX10_ok, nmX10, rfl, rfl, Or.inl (ab_G_in (i := 1039) (by decide +kernel) (by decide +kernel))⟩
theorem fl_RX10_19 : ab_FL RX10 19 10 5 (tyX10 5) true := ⟨RX10, TX10, 39, tyX10, rfl, by decide, gi_X10, tyX10_ok, nmX10, rfl, rfl, Or.inl (ab_G_in (i := 1040) (by decide +kernel) (by decide +kernel))⟩
theorem fl_RX10_22 : ab_FL RX10 22 10 6 (tyX10 6) true := ⟨RX10, TX10, 39, tyX10, rfl, by decide, gi_X10, tyX10_ok, nmX10, rfl, rfl, Or.inl (ab_G_in (i := 1041) (by decide +kernel) (by decide +kernel))⟩
theorem fl_RX10_25 : ab_FL RX10 25 10 7 (tyX10 7) true := ⟨RX10, TX10, 39, tyX10, rfl, by decide, gi_X10, tyX10_ok, nmX10, rfl, rfl, Or.inl (ab_G_in (i := 1042) (by decide +kernel) (by decide +kernel))⟩
theorem fl_RX10_28 : ab_FL RX10 28 10 8 (tyX10 8) true := ⟨RX10, TX10, 39, tyX10, rfl, by decide, gi_X10, tyX10_ok, nmX10, rfl, rfl, Or.inl (ab_G_in (i := 1043) (by decide +kernel) (by decide +kernel))⟩
theorem fl_RX10_31 : ab_FL RX10 31 10 9 (tyX10 9) true := ⟨RX10, TX10, 39, tyX10, rfl, by decide, gi_X10, tyX10_ok, nmX10, rfl, rfl, Or.inl (ab_G_in (i := 1044) (by decide +kernel) (by decide +kernel))⟩
theorem fl_RX10_34 : ab_FL RX10 34 10 11 (tyX10 11) true := ⟨RX10, TX10, 39, tyX10, rfl, by decide, gi_X10, tyX10_ok, nmX10, rfl, rfl, Or.inl (ab_G_in (i := 1046) (by decide +kernel) (by decide +kernel))⟩
theorem fl_RX10_37 : ab_FL RX10 37 10 12 (tyX10 12) true := ⟨RX10, TX10, 39, tyX10, rfl, by decide, gi_X10, tyX10_ok, nmX10, rfl, rfl, Or.inl (ab_G_in (i := 1047) (by decide +kernel) (by decide +kernel))⟩
theorem fl_RX10_40 : ab_FL RX10 40 10 13 (tyX10 13) true := ⟨RX10, TX10, 39, tyX10, rfl, by decide, gi_X10, tyX10_ok, nmX10, rfl, rfl, Or.inl (ab_G_in (i := 1048) (by decide +kernel) (by decide +kernel))⟩
theorem fl_RX10_43 : ab_FL RX10 43 10 15 (tyX10 15) true := ⟨RX10, TX10, 39, tyX10, rfl, by decide, gi_X10, tyX10_ok, nmX10, rfl, rfl, Or.inl (ab_G_in (i := 1050) (by decide +kernel) (by decide +kernel))⟩
theorem fl_RX10_46 : ab_FL RX10 46 10 16 (tyX10 16) true := ⟨RX10, TX10, 39, tyX10, rfl, by decide, gi_X10, tyX10_ok, nmX10, rfl, rfl, Or.inl (ab_G_in (i := 1051) (by decide +kernel) (by decide +kernel))⟩
theorem fl_RX10_49 : ab_FL RX10 49 10 17 (tyX10 17) true := ⟨RX10, TX10, 39, tyX10, rfl, by decide, gi_X10, tyX10_ok, nmX10, rfl, rfl, Or.inl (ab_G_in (i := 1052) (by decide +kernel) (by decide +kernel))⟩
theorem fl_RX10_52 : ab_FL RX10 52 10 18 (tyX10 18) false := ⟨RX10, TX10, 39, tyX10, rfl, by decide, gi_X10, tyX10_ok, nmX10, rfl, rfl, Or.inl (ab_G_in (i := 1053) (by decide +kernel) (by decide +kernel))⟩
theorem fl_RX10_56 : ab_FL RX10 56 10 19 (tyX10 19) false := ⟨RX10, TX10, 39, tyX10, rfl, by decide, gi_X10, tyX10_ok, nmX10, rfl, rfl, Or.inl (ab_G_in (i := 1054) (by decide +kernel) (by decide +kernel))⟩
theorem fl_RX10_59 : ab_FL RX10 59 10 20 (tyX10 20) false := ⟨RX10, TX10, 39, tyX10, rfl, by decide, gi_X10, tyX10_ok, nmX10, rfl, rfl, Or.inl (ab_G_in (i := 1055) (by decide +kernel) (by decide +kernel))⟩
theorem fl_RX10_62 : ab_FL RX10 62 10 24 (tyX10 24) true := ⟨RX10, TX10, 39, tyX10, rfl, by decide, gi_X10, tyX10_ok, nmX10, rfl, rfl, Or.inl (ab_G_in (i := 1059) (by decide +kernel) (by decide +kernel))⟩
theorem fl_RX10_65 : ab_FL RX10 65 10 27 (tyX10 27) true := ⟨RX10, TX10, 39, tyX10, rfl, by decide, gi_X10, tyX10_ok, nmX10, rfl, rfl, Or.inl (ab_G_in (i := 1062) (by decide +kernel) (by decide +kernel))⟩
theorem fl_RX10_68 : ab_FL RX10 68 10 28 (tyX10 28) true := ⟨RX10, TX10, 39, tyX10, rfl, by decide, gi_X10, tyX10_ok, nmX10, rfl, rfl, Or.inl (ab_G_in (i := 1063) (by decide +kernel) (by decide +kernel))⟩
theorem fl_RX10_71 : ab_FL RX10 71 10 29 (tyX10 29) true := ⟨RX10, TX10, 39, tyX10, rfl, by decide, gi_X10, tyX10_ok, nmX10, rfl, rfl, Or.inl (ab_G_in (i := 1064) (by decide +kernel) (by decide +kernel))⟩
theorem fl_RX10_74 : ab_FL RX10 74 10 30 (tyX10 30) true := ⟨RX10, TX10, 39, tyX10, rfl, by decide, gi_X10, tyX10_ok, nmX10, rfl, rfl, Or.inl (ab_G_in (i := 1065) (by decide +kernel) (by decide +kernel))⟩
theorem fl_RX10_77 : ab_FL RX10 77 10 31 (tyX10 31) false := ⟨RX10, TX10, 39, tyX10, rfl, by decide, gi_X10, tyX10_ok, nmX10, rfl, rfl, Or.inl (ab_G_in (i := 1066) (by decide +kernel) (by decide +kernel))⟩
theorem fl_RX10_80 : ab_FL RX10 80 10 32 (tyX10 32) true := ⟨RX10, TX10, 39, tyX10, rfl, by decide, gi_X10, tyX10_ok, nmX10, rfl, rfl, Or.inl (ab_G_in (i := 1067) (by decide +kernel) (by decide +kernel))⟩
theorem fl_RX10_83 : ab_FL RX10 83 10 33 (tyX10 33) true := ⟨RX10, TX10, 39, tyX10, rfl, by decide, gi_X10, tyX10_ok, nmX10, rfl, rfl, Or.inl (ab_G_in (i := 1068) (by decide +kernel) (by decide +kernel))⟩
theorem fl_RX10_86 : ab_FL RX10 86 10 34 (tyX10 34) true := ⟨RX10, TX10, 39, tyX10, rfl, by decide, gi_X10, tyX10_ok, nmX10, rfl, rfl, Or.inl (ab_G_in (i := 1069) (by decide +kernel) (by decide +kernel))⟩
theorem fl_RX10_89 : ab_FL RX10 89 10 35 (tyX10 35) true := ⟨RX10, TX10, 39, tyX10, rfl, by decide, gi_X10, tyX10_ok, nmX10, rfl, rfl, Or.inl (ab_G_in (i := 1070) (by decide +kernel) (by decide +kernel))⟩
theorem fl_RX10_92 : ab_FL RX10 92 10 36 (tyX10 36) true := ⟨RX10, TX10, 39, tyX10, rfl, by decide, gi_X10, tyX10_ok, nmX10, rfl, rfl, Or.inl (ab_G_in (i := 1071) (by decide +kernel) (by decide +kernel))⟩
theorem fl_RX10_95 : ab_FL RX10 95 10 37 (tyX10 37) true := ⟨RX10, TX10, 39, tyX10, rfl, by decide, gi_X10, tyX10_ok, nmX10, rfl, rfl, Or.inl (ab_G_in (i := 1072) (by decide +kernel) (by decide +kernel))⟩
theorem fl_RX10_99 : ab_FL RX10 99 10 38 (tyX10 38) true := ⟨RX10, TX10, 39, tyX10, rfl, by decide, gi_X10, tyX10_ok, nmX10, rfl, rfl, Or.inl (ab_G_in (i := 1073) (by decide +kernel) (by decide +kernel))⟩
theorem fl_RX10_102 : ab_FL RX10 102 10 0 (tyX10 0) false := ⟨RX10, TX10, 39, tyX10, rfl, by decide, gi_X10, tyX10_ok, nmX10, rfl, rfl, Or.inl (ab_G_in (i := 1035) (by decide +kernel) (by decide +kernel))⟩
theorem fl_RX10_105 : ab_FL RX10 105 10 1 (tyX10 1) false := ⟨RX10, TX10, 39, tyX10, rfl, by decide, gi_X10, tyX10_ok, nmX10, rfl, rfl, Or.inl (ab_G_in (i := 1036) (by decide +kernel) (by decide +kernel))⟩
theorem fl_RX10_108 : ab_FL RX10 108 10 10 (tyX10 10) false := ⟨RX10, TX10, 39, tyX10, rfl, by decide, gi_X10, tyX10_ok, nmX10, rfl, rfl, Or.inl (ab_G_in (i := 1045) (by decide +kernel) (by decide +kernel))⟩
theorem fl_RX10_125 : ab_FL RX10 125 10 14 (tyX10 14) false := ⟨RX10, TX10, 39, tyX10, rfl, by decide, gi_X10, tyX10_ok, nmX10, rfl, rfl, Or.inl (ab_G_in (i := 1049) (by decide +kernel) (by decide +kernel))⟩
theorem fl_RX10_160 : ab_FL RX10 160 10 21 (tyX10 21) false := ⟨RX10, TX10, 39, tyX10, rfl, by decide, gi_X10, tyX10_ok, nmX10, rfl, rfl, Or.inl (ab_G_in (i := 1056) (by decide +kernel) (by decide +kernel))⟩
theorem fl_RX10_163 : ab_FL RX10 163 10 22 (tyX10 22) false := ⟨RX10, TX10, 39, tyX10, rfl, by decide, gi_X10, tyX10_ok, nmX10, rfl, rfl, Or.inl (ab_G_in (i := 1057) (by decide +kernel) (by decide +kernel))⟩
theorem fl_RX10_166 : ab_FL RX10 166 10 23 (tyX10 23) false := ⟨RX10, TX10, 39, tyX10, rfl, by decide, gi_X10, tyX10_ok, nmX10, rfl, rfl, Or.inl (ab_G_in (i := 1058) (by decide +kernel) (by decide +kernel))⟩
theorem fl_RX10_208 : ab_FL RX10 208 10 26 (tyX10 26) false := ⟨RX10, TX10, 39, tyX10, rfl, by decide, gi_X10, tyX10_ok, nmX10, rfl, rfl, Or.inl (ab_G_in (i := 1061) (by decide +kernel) (by decide +kernel))⟩
theorem fl_RX10_212 : ab_FL RX10 212 10 25 (tyX10 25) false := ⟨RX10, TX10, 39, tyX10, rfl, by decide, gi_X10, tyX10_ok, nmX10, rfl, rfl, Or.inl (ab_G_in (i := 1060) (by decide +kernel) (by decide +kernel))⟩
theorem ml_RX9_72 : Cond.methodLink RX9 72 yX9_within ∈ ab_G := (ab_G_in (i := 376) (by decide +kernel) (by decide +kernel))
theorem ml_RX9_76 : Cond.methodLink RX9 76 yX9_isPlace ∈ ab_G := (ab_G_in (i := 379) (by decide +kernel) (by decide +kernel))
theorem ml_RX9_86 : Cond.methodLink RX9 86 yX3_addMast ∈ ab_G := (ab_G_in (i := 382) (by decide +kernel) (by decide +kernel))
theorem ml_RX9_90 : Cond.methodLink RX9 90 yX3_hasMast ∈ ab_G := (ab_G_in (i := 418) (by decide +kernel) (by decide +kernel))
theorem ml_RX9_93 : Cond.methodLink RX9 93 yX3_shift ∈ ab_G := (ab_G_in (i := 422) (by decide +kernel) (by decide +kernel))
theorem ml_RX9_107 : Cond.methodLink RX9 107 yJ6_bitCount_0f7a4 ∈ ab_G := (ab_G_in (i := 436) (by decide +kernel) (by decide +kernel))
theorem ml_RX9_119 : Cond.methodLink RX9 119 yX3_hasWant ∈ ab_G := (ab_G_in (i := 450) (by decide +kernel) (by decide +kernel))
theorem ml_RX9_122 : Cond.methodLink RX9 122 yX3_kindOfWant ∈ ab_G := (ab_G_in (i := 454) (by decide +kernel) (by decide +kernel))
theorem ml_RX9_137 : Cond.methodLink RX9 137 yX7_add ∈ ab_G := (ab_G_in (i := 462) (by decide +kernel) (by decide +kernel))
theorem ml_RX9_141 : Cond.methodLink RX9 141 yX3_measure ∈ ab_G := (ab_G_in (i := 466) (by decide +kernel) (by decide +kernel))
theorem ml_RX9_154 : Cond.methodLink RX9 154 yX1_tell ∈ ab_G := (ab_G_in (i := 475) (by decide +kernel) (by decide +kernel))
theorem ml_RX9_160 : Cond.methodLink RX9 160 yX2_strayBits ∈ ab_G := (ab_G_in (i := 483) (by decide +kernel) (by decide +kernel))
theorem ml_RX9_164 : Cond.methodLink RX9 164 yX1_swap ∈ ab_G := (ab_G_in (i := 503) (by decide +kernel) (by decide +kernel))
theorem ml_RX9_167 : Cond.methodLink RX9 167 yX3_barOf ∈ ab_G := (ab_G_in (i := 511) (by decide +kernel) (by decide +kernel))
theorem ml_RX9_170 : Cond.methodLink RX9 170 yX3_allowed ∈ ab_G := (ab_G_in (i := 516) (by decide +kernel) (by decide +kernel))
theorem ml_RX9_176 : Cond.methodLink RX9 176 yX2_totalHarm ∈ ab_G := (ab_G_in (i := 533) (by decide +kernel) (by decide +kernel))
theorem ml_RX9_179 : Cond.methodLink RX9 179 yX2_served ∈ ab_G := (ab_G_in (i := 582) (by decide +kernel) (by decide +kernel))
theorem ml_RX9_182 : Cond.methodLink RX9 182 yX2_lackingTwos ∈ ab_G := (ab_G_in (i := 590) (by decide +kernel) (by decide +kernel))
theorem ml_RX9_185 : Cond.methodLink RX9 185 yX2_lacks ∈ ab_G := (ab_G_in (i := 594) (by decide +kernel) (by decide +kernel))
theorem ml_RX9_188 : Cond.methodLink RX9 188 yX2_sums ∈ ab_G := (ab_G_in (i := 595) (by decide +kernel) (by decide +kernel))
theorem ml_RX9_191 : Cond.methodLink RX9 191 yX2_lackOf ∈ ab_G := (ab_G_in (i := 600) (by decide +kernel) (by decide +kernel))
theorem ml_RX9_198 : Cond.methodLink RX9 198 yX8_search ∈ ab_G := (ab_G_in (i := 605) (by decide +kernel) (by decide +kernel))
theorem ml_RX9_201 : Cond.methodLink RX9 201 yX8_handOver ∈ ab_G := (ab_G_in (i := 642) (by decide +kernel) (by decide +kernel))
theorem ml_RX9_206 : Cond.methodLink RX9 206 Lib.Math.min.name ∈ ab_G := (ab_G_in (i := 662) (by decide +kernel) (by decide +kernel))
theorem ml_RX9_211 : Cond.methodLink RX9 211 yX3_gapOf ∈ ab_G := (ab_G_in (i := 665) (by decide +kernel) (by decide +kernel))
theorem ml_RX9_214 : Cond.methodLink RX9 214 Lib.Math.max.name ∈ ab_G := (ab_G_in (i := 666) (by decide +kernel) (by decide +kernel))
theorem ml_RX9_217 : Cond.methodLink RX9 217 yX5_improve ∈ ab_G := (ab_G_in (i := 671) (by decide +kernel) (by decide +kernel))
theorem ml_RX9_221 : Cond.methodLink RX9 221 yX2_isClean ∈ ab_G := (ab_G_in (i := 702) (by decide +kernel) (by decide +kernel))
theorem ml_RX9_224 : Cond.methodLink RX9 224 yX5_changeOne ∈ ab_G := (ab_G_in (i := 707) (by decide +kernel) (by decide +kernel))
theorem ml_RX9_227 : Cond.methodLink RX9 227 yX5_changeTwo ∈ ab_G := (ab_G_in (i := 717) (by decide +kernel) (by decide +kernel))
theorem ml_RX9_230 : Cond.methodLink RX9 230 yX0_isCrowd ∈ ab_G := (ab_G_in (i := 729) (by decide +kernel) (by decide +kernel))
theorem ml_RX9_233 : Cond.methodLink RX9 233 yX0_wantsOf ∈ ab_G := (ab_G_in (i := 738) (by decide +kernel) (by decide +kernel))
theorem ml_RX9_236 : Cond.methodLink RX9 236 yX0_boundOf ∈ ab_G := (ab_G_in (i := 742) (by decide +kernel) (by decide +kernel))
theorem ml_RX9_239 : Cond.methodLink RX9 239 yX0_greatest ∈ ab_G := (ab_G_in (i := 768) (by decide +kernel) (by decide +kernel))
theorem ml_RX9_243 : Cond.methodLink RX9 243 yX3_partOf ∈ ab_G := (ab_G_in (i := 784) (by decide +kernel) (by decide +kernel))
theorem ml_RX9_246 : Cond.methodLink RX9 246 arraycopyName ∈ ab_G := (ab_G_in (i := 800) (by decide +kernel) (by decide +kernel))
theorem ml_RX9_252 : Cond.methodLink RX9 252 yX3_barredTwos ∈ ab_G := (ab_G_in (i := 809) (by decide +kernel) (by decide +kernel))
theorem ml_RX9_255 : Cond.methodLink RX9 255 yX3_threesIn ∈ ab_G := (ab_G_in (i := 813) (by decide +kernel) (by decide +kernel))
theorem ml_RX9_258 : Cond.methodLink RX9 258 yX3_parts ∈ ab_G := (ab_G_in (i := 818) (by decide +kernel) (by decide +kernel))
theorem ml_RX9_261 : Cond.methodLink RX9 261 yX4_trait ∈ ab_G := (ab_G_in (i := 826) (by decide +kernel) (by decide +kernel))
theorem ml_RX9_264 : Cond.methodLink RX9 264 yX9_isShelf ∈ ab_G := (ab_G_in (i := 835) (by decide +kernel) (by decide +kernel))
theorem ml_RX9_267 : Cond.methodLink RX9 267 yX6_clear ∈ ab_G := (ab_G_in (i := 838) (by decide +kernel) (by decide +kernel))
theorem ml_RX9_270 : Cond.methodLink RX9 270 yX6_takeMast ∈ ab_G := (ab_G_in (i := 842) (by decide +kernel) (by decide +kernel))
theorem ml_RX9_274 : Cond.methodLink RX9 274 yX6_takeChannels ∈ ab_G := (ab_G_in (i := 850) (by decide +kernel) (by decide +kernel))
theorem ml_RX9_277 : Cond.methodLink RX9 277 yX6_takeSquares ∈ ab_G := (ab_G_in (i := 854) (by decide +kernel) (by decide +kernel))
theorem ml_RX9_281 : Cond.methodLink RX9 281 yX6_takeZeros ∈ ab_G := (ab_G_in (i := 863) (by decide +kernel) (by decide +kernel))
theorem ml_RX9_292 : Cond.methodLink RX9 292 yX6_isRow ∈ ab_G := (ab_G_in (i := 877) (by decide +kernel) (by decide +kernel))
theorem ml_RX9_311 : Cond.methodLink RX9 311 yX6_hasRange ∈ ab_G := (ab_G_in (i := 881) (by decide +kernel) (by decide +kernel))
theorem ml_RX9_315 : Cond.methodLink RX9 315 yX6_copyTo ∈ ab_G := (ab_G_in (i := 885) (by decide +kernel) (by decide +kernel))
theorem ml_RX9_319 : Cond.methodLink RX9 319 yX9_refusalOfMast ∈ ab_G := (ab_G_in (i := 894) (by decide +kernel) (by decide +kernel))
theorem ml_RX9_326 : Cond.methodLink RX9 326 yX4_heaviness ∈ ab_G := (ab_G_in (i := 898) (by decide +kernel) (by decide +kernel))
theorem ml_RX0_28 : Cond.methodLink RX0 28 yX0_barsAll ∈ ab_G := (ab_G_in (i := 733) (by decide +kernel) (by decide +kernel))
theorem ml_RX0_32 : Cond.methodLink RX0 32 yX3_barOf ∈ ab_G := (ab_G_in (i := 737) (by decide +kernel) (by decide +kernel))
theorem ml_RX0_45 : Cond.methodLink RX0 45 yX0_seat ∈ ab_G := (ab_G_in (i := 746) (by decide +kernel) (by decide +kernel))
theorem ml_RX0_48 : Cond.methodLink RX0 48 yX0_boundOfSeated ∈ ab_G := (ab_G_in (i := 760) (by decide +kernel) (by decide +kernel))
theorem ml_RX0_58 : Cond.methodLink RX0 58 yX0_grow ∈ ab_G := (ab_G_in (i := 772) (by decide +kernel) (by decide +kernel))
theorem ml_RX0_62 : Cond.methodLink RX0 62 yX0_consider ∈ ab_G := (ab_G_in (i := 776) (by decide +kernel) (by decide +kernel))
theorem ml_RX0_66 : Cond.methodLink RX0 66 yX0_sumUp ∈ ab_G := (ab_G_in (i := 750) (by decide +kernel) (by decide +kernel))
theorem ml_RX0_69 : Cond.methodLink RX0 69 yX0_leastSum ∈ ab_G := (ab_G_in (i := 754) (by decide +kernel) (by decide +kernel))
theorem ml_RX0_74 : Cond.methodLink RX0 74 Lib.Math.min.name ∈ ab_G := (ab_G_in (i := 759) (by decide +kernel) (by decide +kernel))
theorem ml_RX1_32 : Cond.methodLink RX1 32 Lib.Math.abs.name ∈ ab_G := (ab_G_in (i := 499) (by decide +kernel) (by decide +kernel))
theorem ml_RX2_25 : Cond.methodLink RX2 25 yX2_lacks ∈ ab_G := (ab_G_in (i := 537) (by decide +kernel) (by decide +kernel))
theorem ml_RX2_29 : Cond.methodLink RX2 29 yX2_sums ∈ ab_G := (ab_G_in (i := 556) (by decide +kernel) (by decide +kernel))
theorem ml_RX2_32 : Cond.methodLink RX2 32 yX2_strayBits ∈ ab_G := (ab_G_in (i := 576) (by decide +kernel) (by decide +kernel))
theorem ml_RX2_35 : Cond.methodLink RX2 35 yJ6_bitCount_0f7a4 ∈ ab_G := (ab_G_in (i := 577) (by decide +kernel) (by decide +kernel))
theorem ml_RX2_41 : Cond.methodLink RX2 41 yX2_lackAt ∈ ab_G := (ab_G_in (i := 545) (by decide +kernel) (by decide +kernel))
theorem ml_RX2_45 : Cond.methodLink RX2 45 yX3_barOfWants ∈ ab_G := (ab_G_in (i := 549) (by decide +kernel) (by decide +kernel))
theorem ml_RX2_49 : Cond.methodLink RX2 49 yX3_gapOf ∈ ab_G := (ab_G_in (i := 553) (by decide +kernel) (by decide +kernel))
theorem ml_RX2_52 : Cond.methodLink RX2 52 Lib.Math.abs.name ∈ ab_G := (ab_G_in (i := 554) (by decide +kernel) (by decide +kernel))
theorem ml_RX2_57 : Cond.methodLink RX2 57 Lib.Math.max.name ∈ ab_G := (ab_G_in (i := 555) (by decide +kernel) (by decide +kernel))
theorem ml_RX2_60 : Cond.methodLink RX2 60 yX2_lackOf ∈ ab_G := (ab_G_in (i := 541) (by decide +kernel) (by decide +kernel))
theorem ml_RX2_64 : Cond.methodLink RX2 64 yX3_areNear ∈ ab_G := (ab_G_in (i := 560) (by decide +kernel) (by decide +kernel))
theorem ml_RX2_68 : Cond.methodLink RX2 68 yX2_sumTogether ∈ ab_G := (ab_G_in (i := 564) (by decide +kernel) (by decide +kernel))
theorem ml_RX2_72 : Cond.methodLink RX2 72 yX2_sumsOfThree ∈ ab_G := (ab_G_in (i := 572) (by decide +kernel) (by decide +kernel))
theorem ml_RX2_79 : Cond.methodLink RX2 79 yX3_areIn ∈ ab_G := (ab_G_in (i := 568) (by decide +kernel) (by decide +kernel))
theorem ml_RX2_83 : Cond.methodLink RX2 83 yX3_allowed ∈ ab_G := (ab_G_in (i := 487) (by decide +kernel) (by decide +kernel))
theorem ml_RX2_86 : Cond.methodLink RX2 86 yX2_freeChannels ∈ ab_G := (ab_G_in (i := 706) (by decide +kernel) (by decide +kernel))
theorem ml_RX2_89 : Cond.methodLink RX2 89 yX2_tooNear ∈ ab_G := (ab_G_in (i := 617) (by decide +kernel) (by decide +kernel))
theorem ml_RX2_93 : Cond.methodLink RX2 93 yX2_sumMates ∈ ab_G := (ab_G_in (i := 621) (by decide +kernel) (by decide +kernel))
theorem ml_RX2_96 : Cond.methodLink RX2 96 yX2_sumTargets ∈ ab_G := (ab_G_in (i := 625) (by decide +kernel) (by decide +kernel))
theorem ml_RX2_101 : Cond.methodLink RX2 101 yX2_bitOf ∈ ab_G := (ab_G_in (i := 629) (by decide +kernel) (by decide +kernel))
theorem ml_RX2_105 : Cond.methodLink RX2 105 yX2_addLacks ∈ ab_G := (ab_G_in (i := 684) (by decide +kernel) (by decide +kernel))
theorem ml_RX2_109 : Cond.methodLink RX2 109 yX2_addSums ∈ ab_G := (ab_G_in (i := 689) (by decide +kernel) (by decide +kernel))
theorem ml_RX2_113 : Cond.methodLink RX2 113 Lib.Math.min.name ∈ ab_G := (ab_G_in (i := 688) (by decide +kernel) (by decide +kernel))
theorem ml_RX2_116 : Cond.methodLink RX2 116 yX2_addSumAt ∈ ab_G := (ab_G_in (i := 693) (by decide +kernel) (by decide +kernel))
theorem ml_RX2_120 : Cond.methodLinkNest RX2 120 yX9_within "WavePlan" ∈ ab_nest := ab_n_in (i := 697) (by decide +kernel) rfl
theorem ml_RX3_64 : Cond.methodLink RX3 64 yX4_begin ∈ ab_G := (ab_G_in (i := 386) (by decide +kernel) (by decide +kernel))
theorem ml_RX3_68 : Cond.methodLink RX3 68 yX3_measure ∈ ab_G := (ab_G_in (i := 395) (by decide +kernel) (by decide +kernel))
theorem ml_RX3_71 : Cond.methodLink RX3 71 yX4_goTo ∈ ab_G := (ab_G_in (i := 426) (by decide +kernel) (by decide +kernel))
theorem ml_RX3_75 : Cond.methodLink RX3 75 yX3_barOf ∈ ab_G := (ab_G_in (i := 427) (by decide +kernel) (by decide +kernel))
theorem ml_RX3_79 : Cond.methodLink RX3 79 yX3_freshBar ∈ ab_G := (ab_G_in (i := 399) (by decide +kernel) (by decide +kernel))
theorem ml_RX3_82 : Cond.methodLink RX3 82 yX3_square ∈ ab_G := (ab_G_in (i := 403) (by decide +kernel) (by decide +kernel))
theorem ml_RX3_88 : Cond.methodLink RX3 88 yX7_greatest ∈ ab_G := (ab_G_in (i := 407) (by decide +kernel) (by decide +kernel))
theorem ml_RX3_106 : Cond.methodLink RX3 106 yX3_gapOf ∈ ab_G := (ab_G_in (i := 491) (by decide +kernel) (by decide +kernel))
theorem ml_RX3_110 : Cond.methodLink RX3 110 yX1_allows ∈ ab_G := (ab_G_in (i := 495) (by decide +kernel) (by decide +kernel))
theorem ml_RX3_114 : Cond.methodLink RX3 114 yX3_areIn ∈ ab_G := (ab_G_in (i := 817) (by decide +kernel) (by decide +kernel))
theorem ml_RX3_118 : Cond.methodLink RX3 118 yX3_partAround ∈ ab_G := (ab_G_in (i := 788) (by decide +kernel) (by decide +kernel))
theorem ml_RX3_121 : Cond.methodLink RX3 121 yX3_joinedTo ∈ ab_G := (ab_G_in (i := 792) (by decide +kernel) (by decide +kernel))
theorem ml_RX4_18 : Cond.methodLink RX4 18 yX4_goTo ∈ ab_G := (ab_G_in (i := 390) (by decide +kernel) (by decide +kernel))
theorem ml_RX4_44 : Cond.methodLink RX4 44 yJ6_bitCount_0f7a4 ∈ ab_G := (ab_G_in (i := 830) (by decide +kernel) (by decide +kernel))
theorem ml_RX5_29 : Cond.methodLink RX5 29 yX5_canChange ∈ ab_G := (ab_G_in (i := 675) (by decide +kernel) (by decide +kernel))
theorem ml_RX5_33 : Cond.methodLink RX5 33 yX3_allowed ∈ ab_G := (ab_G_in (i := 679) (by decide +kernel) (by decide +kernel))
theorem ml_RX5_37 : Cond.methodLink RX5 37 yX2_weigh ∈ ab_G := (ab_G_in (i := 680) (by decide +kernel) (by decide +kernel))
theorem ml_RX5_43 : Cond.methodLink RX5 43 yX2_isClean ∈ ab_G := (ab_G_in (i := 711) (by decide +kernel) (by decide +kernel))
theorem ml_RX5_47 : Cond.methodLink RX5 47 yX5_leastFree ∈ ab_G := (ab_G_in (i := 712) (by decide +kernel) (by decide +kernel))
theorem ml_RX5_51 : Cond.methodLink RX5 51 yX5_changeBoth ∈ ab_G := (ab_G_in (i := 721) (by decide +kernel) (by decide +kernel))
theorem ml_RX5_55 : Cond.methodLink RX5 55 yX2_freeChannels ∈ ab_G := (ab_G_in (i := 716) (by decide +kernel) (by decide +kernel))
theorem ml_RX6_33 : Cond.methodLink RX6 33 yX4_takeAll ∈ ab_G := (ab_G_in (i := 846) (by decide +kernel) (by decide +kernel))
theorem ml_RX6_42 : Cond.methodLink RX6 42 yX3_square ∈ ab_G := (ab_G_in (i := 858) (by decide +kernel) (by decide +kernel))
theorem ml_RX6_46 : Cond.methodLink RX6 46 yJ7_fill_031fb ∈ ab_G := (ab_G_in (i := 867) (by decide +kernel) (by decide +kernel))
theorem ml_RX6_52 : Cond.methodLink RX6 52 yJ7_fill_d0a16 ∈ ab_G := (ab_G_in (i := 870) (by decide +kernel) (by decide +kernel))
theorem ml_RX6_55 : Cond.methodLink RX6 55 arraycopyName ∈ ab_G := (ab_G_in (i := 889) (by decide +kernel) (by decide +kernel))
theorem ml_RX7_25 : Cond.methodLink RX7 25 Lib.Math.max.name ∈ ab_G := (ab_G_in (i := 411) (by decide +kernel) (by decide +kernel))
theorem ml_RX8_35 : Cond.methodLink RX8 35 yX8_open ∈ ab_G := (ab_G_in (i := 609) (by decide +kernel) (by decide +kernel))
theorem ml_RX8_42 : Cond.methodLink RX8 42 yX8_takes ∈ ab_G := (ab_G_in (i := 638) (by decide +kernel) (by decide +kernel))
theorem ml_RX8_46 : Cond.methodLink RX8 46 arraycopyName ∈ ab_G := (ab_G_in (i := 646) (by decide +kernel) (by decide +kernel))
theorem ml_RX8_52 : Cond.methodLink RX8 52 yX2_freeChannels ∈ ab_G := (ab_G_in (i := 613) (by decide +kernel) (by decide +kernel))
theorem ml_RX8_58 : Cond.methodLink RX8 58 yX3_gapOf ∈ ab_G := (ab_G_in (i := 633) (by decide +kernel) (by decide +kernel))
theorem ml_RX8_62 : Cond.methodLink RX8 62 yX8_below ∈ ab_G := (ab_G_in (i := 634) (by decide +kernel) (by decide +kernel))
theorem ml_RX10_113 : Cond.methodLink RX10 113 yX10_isIn ∈ ab_G := (ab_G_in (i := 1162) (by decide +kernel) (by decide +kernel))
theorem ml_RX10_120 : Cond.methodLink RX10 120 yX10_isPlace ∈ ab_G := (ab_G_in (i := 1165) (by decide +kernel) (by decide +kernel))
theorem ml_RX10_128 : Cond.methodLink RX10 128 yX10_square ∈ ab_G := (ab_G_in (i := 1182) (by decide +kernel) (by decide +kernel))
theorem ml_RX10_132 : Cond.methodLink RX10 132 yX10_isMast ∈ ab_G := (ab_G_in (i := 1174) (by decide +kernel) (by decide +kernel))
theorem ml_RX10_135 : Cond.methodLink RX10 135 yX10_barOf ∈ ab_G := (ab_G_in (i := 1178) (by decide +kernel) (by decide +kernel))
theorem ml_RX10_138 : Cond.methodLink RX10 138 yX10_isSet ∈ ab_G := (ab_G_in (i := 1190) (by decide +kernel) (by decide +kernel))
theorem ml_RX10_141 : Cond.methodLink RX10 141 yX10_countBits ∈ ab_G := (ab_G_in (i := 1194) (by decide +kernel) (by decide +kernel))
theorem ml_RX10_147 : Cond.methodLink RX10 147 yX10_isWant ∈ ab_G := (ab_G_in (i := 1207) (by decide +kernel) (by decide +kernel))
theorem ml_RX10_169 : Cond.methodLink RX10 169 yX10_isListed ∈ ab_G := (ab_G_in (i := 1236) (by decide +kernel) (by decide +kernel))
theorem ml_RX10_173 : Cond.methodLink RX10 173 yX10_isFree ∈ ab_G := (ab_G_in (i := 1240) (by decide +kernel) (by decide +kernel))
theorem ml_RX10_176 : Cond.methodLink RX10 176 yX10_mayHave ∈ ab_G := (ab_G_in (i := 1232) (by decide +kernel) (by decide +kernel))
theorem ml_RX10_179 : Cond.methodLink RX10 179 yX10_channelsOf ∈ ab_G := (ab_G_in (i := 1280) (by decide +kernel) (by decide +kernel))
theorem ml_RX10_182 : Cond.methodLink RX10 182 yX10_channelOf ∈ ab_G := (ab_G_in (i := 1284) (by decide +kernel) (by decide +kernel))
theorem ml_RX10_185 : Cond.methodLink RX10 185 yX10_lack ∈ ab_G := (ab_G_in (i := 1276) (by decide +kernel) (by decide +kernel))
theorem ml_RX10_188 : Cond.methodLink RX10 188 yX10_areIn ∈ ab_G := (ab_G_in (i := 1288) (by decide +kernel) (by decide +kernel))
theorem ml_RX10_192 : Cond.methodLink RX10 192 yX10_middles ∈ ab_G := (ab_G_in (i := 1292) (by decide +kernel) (by decide +kernel))
theorem ml_RX10_196 : Cond.methodLink RX10 196 yX10_brokenOf ∈ ab_G := (ab_G_in (i := 1272) (by decide +kernel) (by decide +kernel))
theorem ml_RX10_199 : Cond.methodLink RX10 199 yX10_harmNow ∈ ab_G := (ab_G_in (i := 1268) (by decide +kernel) (by decide +kernel))
theorem ml_RX10_205 : Cond.methodLink RX10 205 yX10_isFine ∈ ab_G := (ab_G_in (i := 1326) (by decide +kernel) (by decide +kernel))
theorem ml_RX10_215 : Cond.methodLink RX10 215 yX10_isTaken ∈ ab_G := (ab_G_in (i := 1322) (by decide +kernel) (by decide +kernel))
theorem ml_RX10_220 : Cond.methodLink RX10 220 yX10_keepPlan ∈ ab_G := (ab_G_in (i := 1314) (by decide +kernel) (by decide +kernel))
theorem ml_RX10_223 : Cond.methodLink RX10 223 yX10_tryBelow ∈ ab_G := (ab_G_in (i := 1318) (by decide +kernel) (by decide +kernel))
theorem ml_RX10_226 : Cond.methodLink RX10 226 yX10_givePlan ∈ ab_G := (ab_G_in (i := 1330) (by decide +kernel) (by decide +kernel))
theorem ml_RX10_231 : Cond.methodLink RX10 231 yX10_isBettered ∈ ab_G := (ab_G_in (i := 1351) (by decide +kernel) (by decide +kernel))
theorem ml_RX10_235 : Cond.methodLink RX10 235 yX10_isHealedBy ∈ ab_G := (ab_G_in (i := 1359) (by decide +kernel) (by decide +kernel))
theorem ml_RX10_238 : Cond.methodLink RX10 238 yX10_isHealedByTwo ∈ ab_G := (ab_G_in (i := 1363) (by decide +kernel) (by decide +kernel))
theorem ml_RX10_242 : Cond.methodLink RX10 242 yX10_isCrowd ∈ ab_G := (ab_G_in (i := 1371) (by decide +kernel) (by decide +kernel))
theorem ml_RX10_245 : Cond.methodLink RX10 245 yX10_wantsIn ∈ ab_G := (ab_G_in (i := 1375) (by decide +kernel) (by decide +kernel))
theorem ml_RX10_248 : Cond.methodLink RX10 248 yX10_boundOf ∈ ab_G := (ab_G_in (i := 1379) (by decide +kernel) (by decide +kernel))
theorem ml_RX10_251 : Cond.methodLink RX10 251 yX10_areNear ∈ ab_G := (ab_G_in (i := 1396) (by decide +kernel) (by decide +kernel))
theorem ml_RX10_254 : Cond.methodLink RX10 254 yX10_findParts ∈ ab_G := (ab_G_in (i := 1392) (by decide +kernel) (by decide +kernel))
theorem ml_RX10_257 : Cond.methodLink RX10 257 yX10_withChannel ∈ ab_G := (ab_G_in (i := 1404) (by decide +kernel) (by decide +kernel))
theorem ml_RX10_260 : Cond.methodLink RX10 260 yX10_bars ∈ ab_G := (ab_G_in (i := 1416) (by decide +kernel) (by decide +kernel))
theorem ml_RX10_263 : Cond.methodLink RX10 263 yX10_threes ∈ ab_G := (ab_G_in (i := 1420) (by decide +kernel) (by decide +kernel))
theorem ml_RX10_266 : Cond.methodLink RX10 266 yX10_isShelf ∈ ab_G := (ab_G_in (i := 1432) (by decide +kernel) (by decide +kernel))
theorem ml_RX10_269 : Cond.methodLink RX10 269 yX10_weightOf ∈ ab_G := (ab_G_in (i := 1435) (by decide +kernel) (by decide +kernel))
theorem ml_RX10_272 : Cond.methodLink RX10 272 yX10_hasPlaces ∈ ab_G := (ab_G_in (i := 1451) (by decide +kernel) (by decide +kernel))
theorem ml_RX10_275 : Cond.methodLink RX10 275 yX10_denied ∈ ab_G := (ab_G_in (i := 1459) (by decide +kernel) (by decide +kernel))
theorem mv_J6_bitCount_0f7a4 : ab_MS me_J6_bitCount_0f7a4 1 := ⟨(ab_G_in (i := 438) (by decide +kernel) (by decide +kernel)), (ab_G_in (i := 437) (by decide +kernel) (by decide +kernel)), (ab_G_in (i := 74) (by decide +kernel) (by decide +kernel)), ⟨by decide, by decide, by decide +kernel⟩, by decide⟩
theorem mv_J7_fill_031fb : ab_MS me_J7_fill_031fb 2 := ⟨(ab_G_in (i := 869) (by decide +kernel) (by decide +kernel)), (ab_G_in (i := 868) (by decide +kernel) (by decide +kernel)), (ab_G_in (i := 66) (by decide +kernel) (by decide +kernel)), ⟨by decide, by decide, by decide +kernel⟩, by decide⟩
theorem mv_J7_fill_d0a16 : ab_MS me_J7_fill_d0a16 2 := ⟨(ab_G_in (i := 872) (by decide +kernel) (by decide +kernel)), (ab_G_in (i := 871) (by decide +kernel) (by decide +kernel)), (ab_G_in (i := 66) (by decide +kernel) (by decide +kernel)), ⟨by decide, by decide, by decide +kernel⟩, by decide⟩
theorem mv_X0_barsAll : ab_MV me_X0_barsAll 0 2 := ⟨(ab_G_in (i := 736) (by decide +kernel) (by decide +kernel)), (ab_G_in (i := 735) (by decide +kernel) (by decide +kernel)), (ab_G_in (i := 15) (by decide +kernel) (by decide +kernel)), (ab_G_in (i := 70) (by decide +kernel) (by decide +kernel)), ⟨by decide, by decide, by decide +kernel⟩, by decide, by decide, _, _, rfl⟩
theorem mv_X0_boundOf : ab_MV me_X0_boundOf 0 1 := ⟨(ab_G_in (i := 745) (by decide +kernel) (by decide +kernel)), (ab_G_in (i := 743) (by decide +kernel) (by decide +kernel)), (ab_G_in (i := 744) (by decide +kernel) (by decide +kernel)), (ab_G_in (i := 70) (by decide +kernel) (by decide +kernel)), ⟨by decide, by decide, by decide +kernel⟩, by decide, by decide, _, _, rfl⟩
theorem mv_X0_boundOfSeated : ab_MV me_X0_boundOfSeated 0 1 := ⟨(ab_G_in (i := 763) (by decide +kernel) (by decide +kernel)), (ab_G_in (i := 762) (by decide +kernel) (by decide +kernel)), (ab_G_in (i := 19) (by decide +kernel) (by decide +kernel)), (ab_G_in (i := 70) (by decide +kernel) (by decide +kernel)), ⟨by decide, by decide, by decide +kernel⟩, by decide, by decide, _, _, rfl⟩
theorem mv_X0_consider : ab_MV me_X0_consider 0 2 := ⟨(ab_G_in (i := 779) (by decide +kernel) (by decide +kernel)), (ab_G_in (i := 778) (by decide +kernel) (by decide +kernel)), (ab_G_in (i := 21) (by decide +kernel) (by decide +kernel)), (ab_G_in (i := 70) (by decide +kernel) (by decide +kernel)), ⟨by decide, by decide, by decide +kernel⟩, by decide, by decide, _, _, rfl⟩
theorem mv_X0_greatest : ab_MV me_X0_greatest 0 0 := ⟨(ab_G_in (i := 771) (by decide +kernel) (by decide +kernel)), (ab_G_in (i := 769) (by decide +kernel) (by decide +kernel)), (ab_G_in (i := 770) (by decide +kernel) (by decide +kernel)), (ab_G_in (i := 70) (by decide +kernel) (by decide +kernel)), ⟨by decide, by decide, by decide +kernel⟩, by decide, by decide, _, _, rfl⟩
theorem mv_X0_grow : ab_MV me_X0_grow 0 3 := ⟨(ab_G_in (i := 775) (by decide +kernel) (by decide +kernel)), (ab_G_in (i := 774) (by decide +kernel) (by decide +kernel)), (ab_G_in (i := 20) (by decide +kernel) (by decide +kernel)), (ab_G_in (i := 70) (by decide +kernel) (by decide +kernel)), ⟨by decide, by decide, by decide +kernel⟩, by decide, by decide, _, _, rfl⟩
theorem mv_X0_isCrowd : ab_MV me_X0_isCrowd 0 1 := ⟨(ab_G_in (i := 732) (by decide +kernel) (by decide +kernel)), (ab_G_in (i := 730) (by decide +kernel) (by decide +kernel)), (ab_G_in (i := 731) (by decide +kernel) (by decide +kernel)), (ab_G_in (i := 70) (by decide +kernel) (by decide +kernel)), ⟨by decide, by decide, by decide +kernel⟩, by decide, by decide, _, _, rfl⟩
theorem mv_X0_leastSum : ab_MV me_X0_leastSum 0 3 := ⟨(ab_G_in (i := 757) (by decide +kernel) (by decide +kernel)), (ab_G_in (i := 756) (by decide +kernel) (by decide +kernel)), (ab_G_in (i := 18) (by decide +kernel) (by decide +kernel)), (ab_G_in (i := 70) (by decide +kernel) (by decide +kernel)), ⟨by decide, by decide, by decide +kernel⟩, by decide, by decide, _, _, rfl⟩
theorem mv_X0_seat : ab_MV me_X0_seat 0 2 := ⟨(ab_G_in (i := 749) (by decide +kernel) (by decide +kernel)), (ab_G_in (i := 748) (by decide +kernel) (by decide +kernel)), (ab_G_in (i := 16) (by decide +kernel) (by decide +kernel)), (ab_G_in (i := 70) (by decide +kernel) (by decide +kernel)), ⟨by decide, by decide, by decide +kernel⟩, by decide, by decide, _, _, rfl⟩
theorem mv_X0_sumUp : ab_MV me_X0_sumUp 0 2 := ⟨(ab_G_in (i := 753) (by decide +kernel) (by decide +kernel)), (ab_G_in (i := 752) (by decide +kernel) (by decide +kernel)), (ab_G_in (i := 17) (by decide +kernel) (by decide +kernel)), (ab_G_in (i := 70) (by decide +kernel) (by decide +kernel)), ⟨by decide, by decide, by decide +kernel⟩, by decide, by decide, _, _, rfl⟩
theorem mv_X0_wantsOf : ab_MV me_X0_wantsOf 0 1 := ⟨(ab_G_in (i := 741) (by decide +kernel) (by decide +kernel)), (ab_G_in (i := 739) (by decide +kernel) (by decide +kernel)), (ab_G_in (i := 740) (by decide +kernel) (by decide +kernel)), (ab_G_in (i := 70) (by decide +kernel) (by decide +kernel)), ⟨by decide, by decide, by decide +kernel⟩, by decide, by decide, _, _, rfl⟩
theorem mv_X10_areIn : ab_MV me_X10_areIn 10 3 := ⟨(ab_G_in (i := 1291) (by decide +kernel) (by decide +kernel)), (ab_G_in (i := 1290) (by decide +kernel) (by decide +kernel)), (ab_G_in (i := 39) (by decide +kernel) (by decide +kernel)), (ab_G_in (i := 72) (by decide +kernel) (by decide +kernel)), ⟨by decide, by decide, by decide +kernel⟩, by decide, by decide, _, _, rfl⟩
theorem mv_X10_areNear : ab_MV me_X10_areNear 10 2 := ⟨(ab_G_in (i := 1399) (by decide +kernel) (by decide +kernel)), (ab_G_in (i := 1398) (by decide +kernel) (by decide +kernel)), (ab_G_in (i := 53) (by decide +kernel) (by decide +kernel)), (ab_G_in (i := 72) (by decide +kernel) (by decide +kernel)), ⟨by decide, by decide, by decide +kernel⟩, by decide, by decide, _, _, rfl⟩
theorem mv_X10_bar : ab_MV me_X10_bar 10 2 := ⟨(ab_G_in (i := 1247) (by decide +kernel) (by decide +kernel)), (ab_G_in (i := 1245) (by decide +kernel) (by decide +kernel)), (ab_G_in (i := 1246) (by decide +kernel) (by decide +kernel)), (ab_G_in (i := 72) (by decide +kernel) (by decide +kernel)), ⟨by decide, by decide, by decide +kernel⟩, by decide, by decide, _, _, rfl⟩
theorem mv_X10_barOf : ab_MV me_X10_barOf 10 2 := ⟨(ab_G_in (i := 1181) (by decide +kernel) (by decide +kernel)), (ab_G_in (i := 1180) (by decide +kernel) (by decide +kernel)), (ab_G_in (i := 27) (by decide +kernel) (by decide +kernel)), (ab_G_in (i := 72) (by decide +kernel) (by decide +kernel)), ⟨by decide, by decide, by decide +kernel⟩, by decide, by decide, _, _, rfl⟩
theorem mv_X10_bars : ab_MV me_X10_bars 10 0 := ⟨(ab_G_in (i := 1419) (by decide +kernel) (by decide +kernel)), (ab_G_in (i := 1418) (by decide +kernel) (by decide +kernel)), (ab_G_in (i := 55) (by decide +kernel) (by decide +kernel)), (ab_G_in (i := 72) (by decide +kernel) (by decide +kernel)), ⟨by decide, by decide, by decide +kernel⟩, by decide, by decide, _, _, rfl⟩
theorem mv_X10_better : ab_MV me_X10_better 10 1 := ⟨(ab_G_in (i := 1349) (by decide +kernel) (by decide +kernel)), (ab_G_in (i := 1347) (by decide +kernel) (by decide +kernel)), (ab_G_in (i := 1348) (by decide +kernel) (by decide +kernel)), (ab_G_in (i := 72) (by decide +kernel) (by decide +kernel)), ⟨by decide, by decide, by decide +kernel⟩, by decide, by decide, _, _, rfl⟩
theorem mv_X10_border : ab_MV me_X10_border 10 4 := ⟨(ab_G_in (i := 1227) (by decide +kernel) (by decide +kernel)), (ab_G_in (i := 1225) (by decide +kernel) (by decide +kernel)), (ab_G_in (i := 1226) (by decide +kernel) (by decide +kernel)), (ab_G_in (i := 72) (by decide +kernel) (by decide +kernel)), ⟨by decide, by decide, by decide +kernel⟩, by decide, by decide, _, _, rfl⟩
theorem mv_X10_bound : ab_MV me_X10_bound 10 1 := ⟨(ab_G_in (i := 1370) (by decide +kernel) (by decide +kernel)), (ab_G_in (i := 1368) (by decide +kernel) (by decide +kernel)), (ab_G_in (i := 1369) (by decide +kernel) (by decide +kernel)), (ab_G_in (i := 72) (by decide +kernel) (by decide +kernel)), ⟨by decide, by decide, by decide +kernel⟩, by decide, by decide, _, _, rfl⟩
theorem mv_X10_boundOf : ab_MV me_X10_boundOf 10 1 := ⟨(ab_G_in (i := 1382) (by decide +kernel) (by decide +kernel)), (ab_G_in (i := 1381) (by decide +kernel) (by decide +kernel)), (ab_G_in (i := 51) (by decide +kernel) (by decide +kernel)), (ab_G_in (i := 72) (by decide +kernel) (by decide +kernel)), ⟨by decide, by decide, by decide +kernel⟩, by decide, by decide, _, _, rfl⟩
theorem mv_X10_broken : ab_MV me_X10_broken 10 1 := ⟨(ab_G_in (i := 1303) (by decide +kernel) (by decide +kernel)), (ab_G_in (i := 1301) (by decide +kernel) (by decide +kernel)), (ab_G_in (i := 1302) (by decide +kernel) (by decide +kernel)), (ab_G_in (i := 72) (by decide +kernel) (by decide +kernel)), ⟨by decide, by decide, by decide +kernel⟩, by decide, by decide, _, _, rfl⟩
theorem mv_X10_brokenOf : ab_MV me_X10_brokenOf 10 1 := ⟨(ab_G_in (i := 1275) (by decide +kernel) (by decide +kernel)), (ab_G_in (i := 1274) (by decide +kernel) (by decide +kernel)), (ab_G_in (i := 35) (by decide +kernel) (by decide +kernel)), (ab_G_in (i := 72) (by decide +kernel) (by decide +kernel)), ⟨by decide, by decide, by decide +kernel⟩, by decide, by decide, _, _, rfl⟩
theorem mv_X10_channel : ab_MV me_X10_channel 10 1 := ⟨(ab_G_in (i := 1259) (by decide +kernel) (by decide +kernel)), (ab_G_in (i := 1257) (by decide +kernel) (by decide +kernel)), (ab_G_in (i := 1258) (by decide +kernel) (by decide +kernel)), (ab_G_in (i := 72) (by decide +kernel) (by decide +kernel)), ⟨by decide, by decide, by decide +kernel⟩, by decide, by decide, _, _, rfl⟩
theorem mv_X10_channelOf : ab_MV me_X10_channelOf 10 2 := ⟨(ab_G_in (i := 1287) (by decide +kernel) (by decide +kernel)), (ab_G_in (i := 1286) (by decide +kernel) (by decide +kernel)), (ab_G_in (i := 38) (by decide +kernel) (by decide +kernel)), (ab_G_in (i := 72) (by decide +kernel) (by decide +kernel)), ⟨by decide, by decide, by decide +kernel⟩, by decide, by decide, _, _, rfl⟩
theorem mv_X10_channelsOf : ab_MV me_X10_channelsOf 10 1 := ⟨(ab_G_in (i := 1283) (by decide +kernel) (by decide +kernel)), (ab_G_in (i := 1282) (by decide +kernel) (by decide +kernel)), (ab_G_in (i := 37) (by decide +kernel) (by decide +kernel)), (ab_G_in (i := 72) (by decide +kernel) (by decide +kernel)), ⟨by decide, by decide, by decide +kernel⟩, by decide, by decide, _, _, rfl⟩
theorem mv_X10_copy : ab_MV me_X10_copy 10 5 := ⟨(ab_G_in (i := 1450) (by decide +kernel) (by decide +kernel)), (ab_G_in (i := 1448) (by decide +kernel) (by decide +kernel)), (ab_G_in (i := 1449) (by decide +kernel) (by decide +kernel)), (ab_G_in (i := 72) (by decide +kernel) (by decide +kernel)), ⟨by decide, by decide, by decide +kernel⟩, by decide, by decide, _, _, rfl⟩
theorem mv_X10_count : ab_MV me_X10_count 10 1 := ⟨(ab_G_in (i := 1415) (by decide +kernel) (by decide +kernel)), (ab_G_in (i := 1413) (by decide +kernel) (by decide +kernel)), (ab_G_in (i := 1414) (by decide +kernel) (by decide +kernel)), (ab_G_in (i := 72) (by decide +kernel) (by decide +kernel)), ⟨by decide, by decide, by decide +kernel⟩, by decide, by decide, _, _, rfl⟩
theorem mv_X10_countBits : ab_MV me_X10_countBits 10 1 := ⟨(ab_G_in (i := 1197) (by decide +kernel) (by decide +kernel)), (ab_G_in (i := 1196) (by decide +kernel) (by decide +kernel)), (ab_G_in (i := 29) (by decide +kernel) (by decide +kernel)), (ab_G_in (i := 72) (by decide +kernel) (by decide +kernel)), ⟨by decide, by decide, by decide +kernel⟩, by decide, by decide, _, _, rfl⟩
theorem mv_X10_crowd : ab_MV me_X10_crowd 10 0 := ⟨(ab_G_in (i := 1387) (by decide +kernel) (by decide +kernel)), (ab_G_in (i := 1385) (by decide +kernel) (by decide +kernel)), (ab_G_in (i := 1386) (by decide +kernel) (by decide +kernel)), (ab_G_in (i := 72) (by decide +kernel) (by decide +kernel)), ⟨by decide, by decide, by decide +kernel⟩, by decide, by decide, _, _, rfl⟩
theorem mv_X10_denied : ab_MV me_X10_denied 10 1 := ⟨(ab_G_in (i := 1462) (by decide +kernel) (by decide +kernel)), (ab_G_in (i := 1461) (by decide +kernel) (by decide +kernel)), (ab_G_in (i := 59) (by decide +kernel) (by decide +kernel)), (ab_G_in (i := 72) (by decide +kernel) (by decide +kernel)), ⟨by decide, by decide, by decide +kernel⟩, by decide, by decide, _, _, rfl⟩
theorem mv_X10_element : ab_MV me_X10_element 10 2 := ⟨(ab_G_in (i := 1446) (by decide +kernel) (by decide +kernel)), (ab_G_in (i := 1444) (by decide +kernel) (by decide +kernel)), (ab_G_in (i := 1445) (by decide +kernel) (by decide +kernel)), (ab_G_in (i := 72) (by decide +kernel) (by decide +kernel)), ⟨by decide, by decide, by decide +kernel⟩, by decide, by decide, _, _, rfl⟩
theorem mv_X10_fewest : ab_MV me_X10_fewest 10 1 := ⟨(ab_G_in (i := 1358) (by decide +kernel) (by decide +kernel)), (ab_G_in (i := 1356) (by decide +kernel) (by decide +kernel)), (ab_G_in (i := 1357) (by decide +kernel) (by decide +kernel)), (ab_G_in (i := 72) (by decide +kernel) (by decide +kernel)), ⟨by decide, by decide, by decide +kernel⟩, by decide, by decide, _, _, rfl⟩
theorem mv_X10_findParts : ab_MV me_X10_findParts 10 0 := ⟨(ab_G_in (i := 1395) (by decide +kernel) (by decide +kernel)), (ab_G_in (i := 1394) (by decide +kernel) (by decide +kernel)), (ab_G_in (i := 52) (by decide +kernel) (by decide +kernel)), (ab_G_in (i := 72) (by decide +kernel) (by decide +kernel)), ⟨by decide, by decide, by decide +kernel⟩, by decide, by decide, _, _, rfl⟩
theorem mv_X10_gap : ab_MV me_X10_gap 10 2 := ⟨(ab_G_in (i := 1201) (by decide +kernel) (by decide +kernel)), (ab_G_in (i := 1199) (by decide +kernel) (by decide +kernel)), (ab_G_in (i := 1200) (by decide +kernel) (by decide +kernel)), (ab_G_in (i := 72) (by decide +kernel) (by decide +kernel)), ⟨by decide, by decide, by decide +kernel⟩, by decide, by decide, _, _, rfl⟩
theorem mv_X10_givePlan : ab_MV me_X10_givePlan 10 0 := ⟨(ab_G_in (i := 1333) (by decide +kernel) (by decide +kernel)), (ab_G_in (i := 1332) (by decide +kernel) (by decide +kernel)), (ab_G_in (i := 45) (by decide +kernel) (by decide +kernel)), (ab_G_in (i := 72) (by decide +kernel) (by decide +kernel)), ⟨by decide, by decide, by decide +kernel⟩, by decide, by decide, _, _, rfl⟩
theorem mv_X10_harm : ab_MV me_X10_harm 10 0 := ⟨(ab_G_in (i := 1267) (by decide +kernel) (by decide +kernel)), (ab_G_in (i := 1265) (by decide +kernel) (by decide +kernel)), (ab_G_in (i := 1266) (by decide +kernel) (by decide +kernel)), (ab_G_in (i := 72) (by decide +kernel) (by decide +kernel)), ⟨by decide, by decide, by decide +kernel⟩, by decide, by decide, _, _, rfl⟩
theorem mv_X10_harmNow : ab_MV me_X10_harmNow 10 0 := ⟨(ab_G_in (i := 1271) (by decide +kernel) (by decide +kernel)), (ab_G_in (i := 1270) (by decide +kernel) (by decide +kernel)), (ab_G_in (i := 34) (by decide +kernel) (by decide +kernel)), (ab_G_in (i := 72) (by decide +kernel) (by decide +kernel)), ⟨by decide, by decide, by decide +kernel⟩, by decide, by decide, _, _, rfl⟩
theorem mv_X10_hasPlaces : ab_MV me_X10_hasPlaces 10 3 := ⟨(ab_G_in (i := 1454) (by decide +kernel) (by decide +kernel)), (ab_G_in (i := 1453) (by decide +kernel) (by decide +kernel)), (ab_G_in (i := 58) (by decide +kernel) (by decide +kernel)), (ab_G_in (i := 72) (by decide +kernel) (by decide +kernel)), ⟨by decide, by decide, by decide +kernel⟩, by decide, by decide, _, _, rfl⟩
theorem mv_X10_image : ab_MV me_X10_image 10 0 := ⟨(ab_G_in (i := 1403) (by decide +kernel) (by decide +kernel)), (ab_G_in (i := 1401) (by decide +kernel) (by decide +kernel)), (ab_G_in (i := 1402) (by decide +kernel) (by decide +kernel)), (ab_G_in (i := 72) (by decide +kernel) (by decide +kernel)), ⟨by decide, by decide, by decide +kernel⟩, by decide, by decide, _, _, rfl⟩
theorem mv_X10_isBettered : ab_MV me_X10_isBettered 10 0 := ⟨(ab_G_in (i := 1354) (by decide +kernel) (by decide +kernel)), (ab_G_in (i := 1353) (by decide +kernel) (by decide +kernel)), (ab_G_in (i := 46) (by decide +kernel) (by decide +kernel)), (ab_G_in (i := 72) (by decide +kernel) (by decide +kernel)), ⟨by decide, by decide, by decide +kernel⟩, by decide, by decide, _, _, rfl⟩
theorem mv_X10_isCrowd : ab_MV me_X10_isCrowd 10 1 := ⟨(ab_G_in (i := 1374) (by decide +kernel) (by decide +kernel)), (ab_G_in (i := 1373) (by decide +kernel) (by decide +kernel)), (ab_G_in (i := 49) (by decide +kernel) (by decide +kernel)), (ab_G_in (i := 72) (by decide +kernel) (by decide +kernel)), ⟨by decide, by decide, by decide +kernel⟩, by decide, by decide, _, _, rfl⟩
theorem mv_X10_isFine : ab_MV me_X10_isFine 10 1 := ⟨(ab_G_in (i := 1329) (by decide +kernel) (by decide +kernel)), (ab_G_in (i := 1328) (by decide +kernel) (by decide +kernel)), (ab_G_in (i := 44) (by decide +kernel) (by decide +kernel)), (ab_G_in (i := 72) (by decide +kernel) (by decide +kernel)), ⟨by decide, by decide, by decide +kernel⟩, by decide, by decide, _, _, rfl⟩
theorem mv_X10_isFree : ab_MV me_X10_isFree 10 2 := ⟨(ab_G_in (i := 1243) (by decide +kernel) (by decide +kernel)), (ab_G_in (i := 1242) (by decide +kernel) (by decide +kernel)), (ab_G_in (i := 33) (by decide +kernel) (by decide +kernel)), (ab_G_in (i := 72) (by decide +kernel) (by decide +kernel)), ⟨by decide, by decide, by decide +kernel⟩, by decide, by decide, _, _, rfl⟩
theorem mv_X10_isHealedBy : ab_MV me_X10_isHealedBy 10 1 := ⟨(ab_G_in (i := 1362) (by decide +kernel) (by decide +kernel)), (ab_G_in (i := 1361) (by decide +kernel) (by decide +kernel)), (ab_G_in (i := 47) (by decide +kernel) (by decide +kernel)), (ab_G_in (i := 72) (by decide +kernel) (by decide +kernel)), ⟨by decide, by decide, by decide +kernel⟩, by decide, by decide, _, _, rfl⟩
theorem mv_X10_isHealedByTwo : ab_MV me_X10_isHealedByTwo 10 0 := ⟨(ab_G_in (i := 1366) (by decide +kernel) (by decide +kernel)), (ab_G_in (i := 1365) (by decide +kernel) (by decide +kernel)), (ab_G_in (i := 48) (by decide +kernel) (by decide +kernel)), (ab_G_in (i := 72) (by decide +kernel) (by decide +kernel)), ⟨by decide, by decide, by decide +kernel⟩, by decide, by decide, _, _, rfl⟩
theorem mv_X10_isIn : ab_MS me_X10_isIn 3 := ⟨(ab_G_in (i := 1164) (by decide +kernel) (by decide +kernel)), (ab_G_in (i := 1163) (by decide +kernel) (by decide +kernel)), (ab_G_in (i := 72) (by decide +kernel) (by decide +kernel)), ⟨by decide, by decide, by decide +kernel⟩, by decide⟩
theorem mv_X10_isListed : ab_MV me_X10_isListed 10 2 := ⟨(ab_G_in (i := 1239) (by decide +kernel) (by decide +kernel)), (ab_G_in (i := 1238) (by decide +kernel) (by decide +kernel)), (ab_G_in (i := 32) (by decide +kernel) (by decide +kernel)), (ab_G_in (i := 72) (by decide +kernel) (by decide +kernel)), ⟨by decide, by decide, by decide +kernel⟩, by decide, by decide, _, _, rfl⟩
theorem mv_X10_isMast : ab_MV me_X10_isMast 10 1 := ⟨(ab_G_in (i := 1177) (by decide +kernel) (by decide +kernel)), (ab_G_in (i := 1176) (by decide +kernel) (by decide +kernel)), (ab_G_in (i := 26) (by decide +kernel) (by decide +kernel)), (ab_G_in (i := 72) (by decide +kernel) (by decide +kernel)), ⟨by decide, by decide, by decide +kernel⟩, by decide, by decide, _, _, rfl⟩
theorem mv_X10_isPlace : ab_MS me_X10_isPlace 1 := ⟨(ab_G_in (i := 1167) (by decide +kernel) (by decide +kernel)), (ab_G_in (i := 1166) (by decide +kernel) (by decide +kernel)), (ab_G_in (i := 72) (by decide +kernel) (by decide +kernel)), ⟨by decide, by decide, by decide +kernel⟩, by decide⟩
theorem mv_X10_isSet : ab_MS me_X10_isSet 1 := ⟨(ab_G_in (i := 1192) (by decide +kernel) (by decide +kernel)), (ab_G_in (i := 1191) (by decide +kernel) (by decide +kernel)), (ab_G_in (i := 72) (by decide +kernel) (by decide +kernel)), ⟨by decide, by decide, by decide +kernel⟩, by decide⟩
theorem mv_X10_isShelf : ab_MS me_X10_isShelf 1 := ⟨(ab_G_in (i := 1434) (by decide +kernel) (by decide +kernel)), (ab_G_in (i := 1433) (by decide +kernel) (by decide +kernel)), (ab_G_in (i := 72) (by decide +kernel) (by decide +kernel)), ⟨by decide, by decide, by decide +kernel⟩, by decide⟩
theorem mv_X10_isTaken : ab_MV me_X10_isTaken 10 3 := ⟨(ab_G_in (i := 1325) (by decide +kernel) (by decide +kernel)), (ab_G_in (i := 1324) (by decide +kernel) (by decide +kernel)), (ab_G_in (i := 43) (by decide +kernel) (by decide +kernel)), (ab_G_in (i := 72) (by decide +kernel) (by decide +kernel)), ⟨by decide, by decide, by decide +kernel⟩, by decide, by decide, _, _, rfl⟩
theorem mv_X10_isWant : ab_MV me_X10_isWant 10 1 := ⟨(ab_G_in (i := 1210) (by decide +kernel) (by decide +kernel)), (ab_G_in (i := 1209) (by decide +kernel) (by decide +kernel)), (ab_G_in (i := 30) (by decide +kernel) (by decide +kernel)), (ab_G_in (i := 72) (by decide +kernel) (by decide +kernel)), ⟨by decide, by decide, by decide +kernel⟩, by decide, by decide, _, _, rfl⟩
theorem mv_X10_keep : ab_MV me_X10_keep 10 3 := ⟨(ab_G_in (i := 1431) (by decide +kernel) (by decide +kernel)), (ab_G_in (i := 1429) (by decide +kernel) (by decide +kernel)), (ab_G_in (i := 1430) (by decide +kernel) (by decide +kernel)), (ab_G_in (i := 72) (by decide +kernel) (by decide +kernel)), ⟨by decide, by decide, by decide +kernel⟩, by decide, by decide, _, _, rfl⟩
theorem mv_X10_keepPlan : ab_MV me_X10_keepPlan 10 0 := ⟨(ab_G_in (i := 1317) (by decide +kernel) (by decide +kernel)), (ab_G_in (i := 1316) (by decide +kernel) (by decide +kernel)), (ab_G_in (i := 41) (by decide +kernel) (by decide +kernel)), (ab_G_in (i := 72) (by decide +kernel) (by decide +kernel)), ⟨by decide, by decide, by decide +kernel⟩, by decide, by decide, _, _, rfl⟩
theorem mv_X10_kept : ab_MV me_X10_kept 10 0 := ⟨(ab_G_in (i := 1299) (by decide +kernel) (by decide +kernel)), (ab_G_in (i := 1297) (by decide +kernel) (by decide +kernel)), (ab_G_in (i := 1298) (by decide +kernel) (by decide +kernel)), (ab_G_in (i := 72) (by decide +kernel) (by decide +kernel)), ⟨by decide, by decide, by decide +kernel⟩, by decide, by decide, _, _, rfl⟩
theorem mv_X10_lack : ab_MV me_X10_lack 10 2 := ⟨(ab_G_in (i := 1279) (by decide +kernel) (by decide +kernel)), (ab_G_in (i := 1278) (by decide +kernel) (by decide +kernel)), (ab_G_in (i := 36) (by decide +kernel) (by decide +kernel)), (ab_G_in (i := 72) (by decide +kernel) (by decide +kernel)), ⟨by decide, by decide, by decide +kernel⟩, by decide, by decide, _, _, rfl⟩
theorem mv_X10_least : ab_MV me_X10_least 10 0 := ⟨(ab_G_in (i := 1341) (by decide +kernel) (by decide +kernel)), (ab_G_in (i := 1339) (by decide +kernel) (by decide +kernel)), (ab_G_in (i := 1340) (by decide +kernel) (by decide +kernel)), (ab_G_in (i := 72) (by decide +kernel) (by decide +kernel)), ⟨by decide, by decide, by decide +kernel⟩, by decide, by decide, _, _, rfl⟩
theorem mv_X10_list : ab_MV me_X10_list 10 2 := ⟨(ab_G_in (i := 1189) (by decide +kernel) (by decide +kernel)), (ab_G_in (i := 1187) (by decide +kernel) (by decide +kernel)), (ab_G_in (i := 1188) (by decide +kernel) (by decide +kernel)), (ab_G_in (i := 72) (by decide +kernel) (by decide +kernel)), ⟨by decide, by decide, by decide +kernel⟩, by decide, by decide, _, _, rfl⟩
theorem mv_X10_look : ab_MV me_X10_look 10 2 := ⟨(ab_G_in (i := 1427) (by decide +kernel) (by decide +kernel)), (ab_G_in (i := 1425) (by decide +kernel) (by decide +kernel)), (ab_G_in (i := 1426) (by decide +kernel) (by decide +kernel)), (ab_G_in (i := 72) (by decide +kernel) (by decide +kernel)), ⟨by decide, by decide, by decide +kernel⟩, by decide, by decide, _, _, rfl⟩
theorem mv_X10_make : ab_MV me_X10_make 10 3 := ⟨(ab_G_in (i := 1442) (by decide +kernel) (by decide +kernel)), (ab_G_in (i := 1440) (by decide +kernel) (by decide +kernel)), (ab_G_in (i := 1441) (by decide +kernel) (by decide +kernel)), (ab_G_in (i := 72) (by decide +kernel) (by decide +kernel)), ⟨by decide, by decide, by decide +kernel⟩, by decide, by decide, _, _, rfl⟩
theorem mv_X10_mast : ab_MV me_X10_mast 10 4 := ⟨(ab_G_in (i := 1160) (by decide +kernel) (by decide +kernel)), (ab_G_in (i := 1158) (by decide +kernel) (by decide +kernel)), (ab_G_in (i := 1159) (by decide +kernel) (by decide +kernel)), (ab_G_in (i := 72) (by decide +kernel) (by decide +kernel)), ⟨by decide, by decide, by decide +kernel⟩, by decide, by decide, _, _, rfl⟩
theorem mv_X10_may : ab_MV me_X10_may 10 2 := ⟨(ab_G_in (i := 1251) (by decide +kernel) (by decide +kernel)), (ab_G_in (i := 1249) (by decide +kernel) (by decide +kernel)), (ab_G_in (i := 1250) (by decide +kernel) (by decide +kernel)), (ab_G_in (i := 72) (by decide +kernel) (by decide +kernel)), ⟨by decide, by decide, by decide +kernel⟩, by decide, by decide, _, _, rfl⟩
theorem mv_X10_mayHave : ab_MV me_X10_mayHave 10 2 := ⟨(ab_G_in (i := 1235) (by decide +kernel) (by decide +kernel)), (ab_G_in (i := 1234) (by decide +kernel) (by decide +kernel)), (ab_G_in (i := 31) (by decide +kernel) (by decide +kernel)), (ab_G_in (i := 72) (by decide +kernel) (by decide +kernel)), ⟨by decide, by decide, by decide +kernel⟩, by decide, by decide, _, _, rfl⟩
theorem mv_X10_middles : ab_MV me_X10_middles 10 3 := ⟨(ab_G_in (i := 1295) (by decide +kernel) (by decide +kernel)), (ab_G_in (i := 1294) (by decide +kernel) (by decide +kernel)), (ab_G_in (i := 40) (by decide +kernel) (by decide +kernel)), (ab_G_in (i := 72) (by decide +kernel) (by decide +kernel)), ⟨by decide, by decide, by decide +kernel⟩, by decide, by decide, _, _, rfl⟩
theorem mv_X10_move : ab_MV me_X10_move 10 2 := ⟨(ab_G_in (i := 1173) (by decide +kernel) (by decide +kernel)), (ab_G_in (i := 1171) (by decide +kernel) (by decide +kernel)), (ab_G_in (i := 1172) (by decide +kernel) (by decide +kernel)), (ab_G_in (i := 72) (by decide +kernel) (by decide +kernel)), ⟨by decide, by decide, by decide +kernel⟩, by decide, by decide, _, _, rfl⟩
theorem mv_X10_of : ab_MV me_X10_of 10 1 := ⟨(ab_G_in (i := 1263) (by decide +kernel) (by decide +kernel)), (ab_G_in (i := 1261) (by decide +kernel) (by decide +kernel)), (ab_G_in (i := 1262) (by decide +kernel) (by decide +kernel)), (ab_G_in (i := 72) (by decide +kernel) (by decide +kernel)), ⟨by decide, by decide, by decide +kernel⟩, by decide, by decide, _, _, rfl⟩
theorem mv_X10_own : ab_MV me_X10_own 10 2 := ⟨(ab_G_in (i := 1223) (by decide +kernel) (by decide +kernel)), (ab_G_in (i := 1221) (by decide +kernel) (by decide +kernel)), (ab_G_in (i := 1222) (by decide +kernel) (by decide +kernel)), (ab_G_in (i := 72) (by decide +kernel) (by decide +kernel)), ⟨by decide, by decide, by decide +kernel⟩, by decide, by decide, _, _, rfl⟩
theorem mv_X10_pair : ab_MV me_X10_pair 10 2 := ⟨(ab_G_in (i := 1307) (by decide +kernel) (by decide +kernel)), (ab_G_in (i := 1305) (by decide +kernel) (by decide +kernel)), (ab_G_in (i := 1306) (by decide +kernel) (by decide +kernel)), (ab_G_in (i := 72) (by decide +kernel) (by decide +kernel)), ⟨by decide, by decide, by decide +kernel⟩, by decide, by decide, _, _, rfl⟩
theorem mv_X10_part : ab_MV me_X10_part 10 1 := ⟨(ab_G_in (i := 1391) (by decide +kernel) (by decide +kernel)), (ab_G_in (i := 1389) (by decide +kernel) (by decide +kernel)), (ab_G_in (i := 1390) (by decide +kernel) (by decide +kernel)), (ab_G_in (i := 72) (by decide +kernel) (by decide +kernel)), ⟨by decide, by decide, by decide +kernel⟩, by decide, by decide, _, _, rfl⟩
theorem mv_X10_plan : ab_MV me_X10_plan 10 1 := ⟨(ab_G_in (i := 1312) (by decide +kernel) (by decide +kernel)), (ab_G_in (i := 1310) (by decide +kernel) (by decide +kernel)), (ab_G_in (i := 1311) (by decide +kernel) (by decide +kernel)), (ab_G_in (i := 72) (by decide +kernel) (by decide +kernel)), ⟨by decide, by decide, by decide +kernel⟩, by decide, by decide, _, _, rfl⟩
theorem mv_X10_restore : ab_MV me_X10_restore 10 0 := ⟨(ab_G_in (i := 1411) (by decide +kernel) (by decide +kernel)), (ab_G_in (i := 1409) (by decide +kernel) (by decide +kernel)), (ab_G_in (i := 1410) (by decide +kernel) (by decide +kernel)), (ab_G_in (i := 72) (by decide +kernel) (by decide +kernel)), ⟨by decide, by decide, by decide +kernel⟩, by decide, by decide, _, _, rfl⟩
theorem mv_X10_row : ab_MV me_X10_row 10 3 := ⟨(ab_G_in (i := 1216) (by decide +kernel) (by decide +kernel)), (ab_G_in (i := 1214) (by decide +kernel) (by decide +kernel)), (ab_G_in (i := 1215) (by decide +kernel) (by decide +kernel)), (ab_G_in (i := 72) (by decide +kernel) (by decide +kernel)), ⟨by decide, by decide, by decide +kernel⟩, by decide, by decide, _, _, rfl⟩
theorem mv_X10_set : ab_MV me_X10_set 10 2 := ⟨(ab_G_in (i := 1255) (by decide +kernel) (by decide +kernel)), (ab_G_in (i := 1253) (by decide +kernel) (by decide +kernel)), (ab_G_in (i := 1254) (by decide +kernel) (by decide +kernel)), (ab_G_in (i := 72) (by decide +kernel) (by decide +kernel)), ⟨by decide, by decide, by decide +kernel⟩, by decide, by decide, _, _, rfl⟩
theorem mv_X10_span : ab_MV me_X10_span 10 0 := ⟨(ab_G_in (i := 1345) (by decide +kernel) (by decide +kernel)), (ab_G_in (i := 1343) (by decide +kernel) (by decide +kernel)), (ab_G_in (i := 1344) (by decide +kernel) (by decide +kernel)), (ab_G_in (i := 72) (by decide +kernel) (by decide +kernel)), ⟨by decide, by decide, by decide +kernel⟩, by decide, by decide, _, _, rfl⟩
theorem mv_X10_square : ab_MV me_X10_square 10 2 := ⟨(ab_G_in (i := 1185) (by decide +kernel) (by decide +kernel)), (ab_G_in (i := 1184) (by decide +kernel) (by decide +kernel)), (ab_G_in (i := 28) (by decide +kernel) (by decide +kernel)), (ab_G_in (i := 72) (by decide +kernel) (by decide +kernel)), ⟨by decide, by decide, by decide +kernel⟩, by decide, by decide, _, _, rfl⟩
theorem mv_X10_stay : ab_MV me_X10_stay 10 2 := ⟨(ab_G_in (i := 1206) (by decide +kernel) (by decide +kernel)), (ab_G_in (i := 1204) (by decide +kernel) (by decide +kernel)), (ab_G_in (i := 1205) (by decide +kernel) (by decide +kernel)), (ab_G_in (i := 72) (by decide +kernel) (by decide +kernel)), ⟨by decide, by decide, by decide +kernel⟩, by decide, by decide, _, _, rfl⟩
theorem mv_X10_threes : ab_MV me_X10_threes 10 0 := ⟨(ab_G_in (i := 1423) (by decide +kernel) (by decide +kernel)), (ab_G_in (i := 1422) (by decide +kernel) (by decide +kernel)), (ab_G_in (i := 56) (by decide +kernel) (by decide +kernel)), (ab_G_in (i := 72) (by decide +kernel) (by decide +kernel)), ⟨by decide, by decide, by decide +kernel⟩, by decide, by decide, _, _, rfl⟩
theorem mv_X10_thrown : ab_MV me_X10_thrown 10 0 := ⟨(ab_G_in (i := 1156) (by decide +kernel) (by decide +kernel)), (ab_G_in (i := 1154) (by decide +kernel) (by decide +kernel)), (ab_G_in (i := 1155) (by decide +kernel) (by decide +kernel)), (ab_G_in (i := 72) (by decide +kernel) (by decide +kernel)), ⟨by decide, by decide, by decide +kernel⟩, by decide, by decide, _, _, rfl⟩
theorem mv_X10_toss : ab_MV me_X10_toss 10 1 := ⟨(ab_G_in (i := 1466) (by decide +kernel) (by decide +kernel)), (ab_G_in (i := 1464) (by decide +kernel) (by decide +kernel)), (ab_G_in (i := 1465) (by decide +kernel) (by decide +kernel)), (ab_G_in (i := 72) (by decide +kernel) (by decide +kernel)), ⟨by decide, by decide, by decide +kernel⟩, by decide, by decide, _, _, rfl⟩
theorem mv_X10_tries : ab_MV me_X10_tries 10 0 := ⟨(ab_G_in (i := 1337) (by decide +kernel) (by decide +kernel)), (ab_G_in (i := 1335) (by decide +kernel) (by decide +kernel)), (ab_G_in (i := 1336) (by decide +kernel) (by decide +kernel)), (ab_G_in (i := 72) (by decide +kernel) (by decide +kernel)), ⟨by decide, by decide, by decide +kernel⟩, by decide, by decide, _, _, rfl⟩
theorem mv_X10_tryBelow : ab_MV me_X10_tryBelow 10 1 := ⟨(ab_G_in (i := 1321) (by decide +kernel) (by decide +kernel)), (ab_G_in (i := 1320) (by decide +kernel) (by decide +kernel)), (ab_G_in (i := 42) (by decide +kernel) (by decide +kernel)), (ab_G_in (i := 72) (by decide +kernel) (by decide +kernel)), ⟨by decide, by decide, by decide +kernel⟩, by decide, by decide, _, _, rfl⟩
theorem mv_X10_turn : ab_MV me_X10_turn 10 0 := ⟨(ab_G_in (i := 1231) (by decide +kernel) (by decide +kernel)), (ab_G_in (i := 1229) (by decide +kernel) (by decide +kernel)), (ab_G_in (i := 1230) (by decide +kernel) (by decide +kernel)), (ab_G_in (i := 72) (by decide +kernel) (by decide +kernel)), ⟨by decide, by decide, by decide +kernel⟩, by decide, by decide, _, _, rfl⟩
theorem mv_X10_wantsIn : ab_MV me_X10_wantsIn 10 1 := ⟨(ab_G_in (i := 1378) (by decide +kernel) (by decide +kernel)), (ab_G_in (i := 1377) (by decide +kernel) (by decide +kernel)), (ab_G_in (i := 50) (by decide +kernel) (by decide +kernel)), (ab_G_in (i := 72) (by decide +kernel) (by decide +kernel)), ⟨by decide, by decide, by decide +kernel⟩, by decide, by decide, _, _, rfl⟩
theorem mv_X10_weight : ab_MV me_X10_weight 10 1 := ⟨(ab_G_in (i := 1458) (by decide +kernel) (by decide +kernel)), (ab_G_in (i := 1456) (by decide +kernel) (by decide +kernel)), (ab_G_in (i := 1457) (by decide +kernel) (by decide +kernel)), (ab_G_in (i := 72) (by decide +kernel) (by decide +kernel)), ⟨by decide, by decide, by decide +kernel⟩, by decide, by decide, _, _, rfl⟩
theorem mv_X10_weightOf : ab_MV me_X10_weightOf 10 1 := ⟨(ab_G_in (i := 1438) (by decide +kernel) (by decide +kernel)), (ab_G_in (i := 1437) (by decide +kernel) (by decide +kernel)), (ab_G_in (i := 57) (by decide +kernel) (by decide +kernel)), (ab_G_in (i := 72) (by decide +kernel) (by decide +kernel)), ⟨by decide, by decide, by decide +kernel⟩, by decide, by decide, _, _, rfl⟩
theorem mv_X10_withChannel : ab_MV me_X10_withChannel 10 0 := ⟨(ab_G_in (i := 1407) (by decide +kernel) (by decide +kernel)), (ab_G_in (i := 1406) (by decide +kernel) (by decide +kernel)), (ab_G_in (i := 54) (by decide +kernel) (by decide +kernel)), (ab_G_in (i := 72) (by decide +kernel) (by decide +kernel)), ⟨by decide, by decide, by decide +kernel⟩, by decide, by decide, _, _, rfl⟩
theorem mv_X1_allows : ab_MV me_X1_allows 1 1 := ⟨(ab_G_in (i := 498) (by decide +kernel) (by decide +kernel)), (ab_G_in (i := 496) (by decide +kernel) (by decide +kernel)), (ab_G_in (i := 497) (by decide +kernel) (by decide +kernel)), (ab_G_in (i := 64) (by decide +kernel) (by decide +kernel)), ⟨by decide, by decide, by decide +kernel⟩, by decide, by decide, _, _, rfl⟩
theorem mv_X1_swap : ab_MV me_X1_swap 1 0 := ⟨(ab_G_in (i := 506) (by decide +kernel) (by decide +kernel)), (ab_G_in (i := 504) (by decide +kernel) (by decide +kernel)), (ab_G_in (i := 505) (by decide +kernel) (by decide +kernel)), (ab_G_in (i := 64) (by decide +kernel) (by decide +kernel)), ⟨by decide, by decide, by decide +kernel⟩, by decide, by decide, _, _, rfl⟩
theorem mv_X1_tell : ab_MV me_X1_tell 1 4 := ⟨(ab_G_in (i := 478) (by decide +kernel) (by decide +kernel)), (ab_G_in (i := 476) (by decide +kernel) (by decide +kernel)), (ab_G_in (i := 477) (by decide +kernel) (by decide +kernel)), (ab_G_in (i := 64) (by decide +kernel) (by decide +kernel)), ⟨by decide, by decide, by decide +kernel⟩, by decide, by decide, _, _, rfl⟩
theorem mv_X2_addLacks : ab_MV me_X2_addLacks 2 3 := ⟨(ab_G_in (i := 687) (by decide +kernel) (by decide +kernel)), (ab_G_in (i := 686) (by decide +kernel) (by decide +kernel)), (ab_G_in (i := 10) (by decide +kernel) (by decide +kernel)), (ab_G_in (i := 67) (by decide +kernel) (by decide +kernel)), ⟨by decide, by decide, by decide +kernel⟩, by decide, by decide, _, _, rfl⟩
theorem mv_X2_addSumAt : ab_MV me_X2_addSumAt 2 2 := ⟨(ab_G_in (i := 696) (by decide +kernel) (by decide +kernel)), (ab_G_in (i := 695) (by decide +kernel) (by decide +kernel)), (ab_G_in (i := 12) (by decide +kernel) (by decide +kernel)), (ab_G_in (i := 67) (by decide +kernel) (by decide +kernel)), ⟨by decide, by decide, by decide +kernel⟩, by decide, by decide, _, _, rfl⟩
theorem mv_X2_addSums : ab_MV me_X2_addSums 2 4 := ⟨(ab_G_in (i := 692) (by decide +kernel) (by decide +kernel)), (ab_G_in (i := 691) (by decide +kernel) (by decide +kernel)), (ab_G_in (i := 11) (by decide +kernel) (by decide +kernel)), (ab_G_in (i := 67) (by decide +kernel) (by decide +kernel)), ⟨by decide, by decide, by decide +kernel⟩, by decide, by decide, _, _, rfl⟩
theorem mv_X2_bitOf : ab_MS me_X2_bitOf 1 := ⟨(ab_G_in (i := 631) (by decide +kernel) (by decide +kernel)), (ab_G_in (i := 630) (by decide +kernel) (by decide +kernel)), (ab_G_in (i := 67) (by decide +kernel) (by decide +kernel)), ⟨by decide, by decide, by decide +kernel⟩, by decide⟩
theorem mv_X2_freeChannels : ab_MV me_X2_freeChannels 2 3 := ⟨(ab_G_in (i := 616) (by decide +kernel) (by decide +kernel)), (ab_G_in (i := 614) (by decide +kernel) (by decide +kernel)), (ab_G_in (i := 615) (by decide +kernel) (by decide +kernel)), (ab_G_in (i := 67) (by decide +kernel) (by decide +kernel)), ⟨by decide, by decide, by decide +kernel⟩, by decide, by decide, _, _, rfl⟩
theorem mv_X2_isClean : ab_MV me_X2_isClean 2 1 := ⟨(ab_G_in (i := 705) (by decide +kernel) (by decide +kernel)), (ab_G_in (i := 703) (by decide +kernel) (by decide +kernel)), (ab_G_in (i := 704) (by decide +kernel) (by decide +kernel)), (ab_G_in (i := 67) (by decide +kernel) (by decide +kernel)), ⟨by decide, by decide, by decide +kernel⟩, by decide, by decide, _, _, rfl⟩
theorem mv_X2_lackAt : ab_MV me_X2_lackAt 2 4 := ⟨(ab_G_in (i := 548) (by decide +kernel) (by decide +kernel)), (ab_G_in (i := 547) (by decide +kernel) (by decide +kernel)), (ab_G_in (i := 1) (by decide +kernel) (by decide +kernel)), (ab_G_in (i := 67) (by decide +kernel) (by decide +kernel)), ⟨by decide, by decide, by decide +kernel⟩, by decide, by decide, _, _, rfl⟩
theorem mv_X2_lackOf : ab_MV me_X2_lackOf 2 3 := ⟨(ab_G_in (i := 544) (by decide +kernel) (by decide +kernel)), (ab_G_in (i := 542) (by decide +kernel) (by decide +kernel)), (ab_G_in (i := 543) (by decide +kernel) (by decide +kernel)), (ab_G_in (i := 67) (by decide +kernel) (by decide +kernel)), ⟨by decide, by decide, by decide +kernel⟩, by decide, by decide, _, _, rfl⟩
theorem mv_X2_lackingTwos : ab_MV me_X2_lackingTwos 2 1 := ⟨(ab_G_in (i := 593) (by decide +kernel) (by decide +kernel)), (ab_G_in (i := 591) (by decide +kernel) (by decide +kernel)), (ab_G_in (i := 592) (by decide +kernel) (by decide +kernel)), (ab_G_in (i := 67) (by decide +kernel) (by decide +kernel)), ⟨by decide, by decide, by decide +kernel⟩, by decide, by decide, _, _, rfl⟩
theorem mv_X2_lacks : ab_MV me_X2_lacks 2 1 := ⟨(ab_G_in (i := 540) (by decide +kernel) (by decide +kernel)), (ab_G_in (i := 538) (by decide +kernel) (by decide +kernel)), (ab_G_in (i := 539) (by decide +kernel) (by decide +kernel)), (ab_G_in (i := 67) (by decide +kernel) (by decide +kernel)), ⟨by decide, by decide, by decide +kernel⟩, by decide, by decide, _, _, rfl⟩
theorem mv_X2_served : ab_MV me_X2_served 2 1 := ⟨(ab_G_in (i := 585) (by decide +kernel) (by decide +kernel)), (ab_G_in (i := 583) (by decide +kernel) (by decide +kernel)), (ab_G_in (i := 584) (by decide +kernel) (by decide +kernel)), (ab_G_in (i := 67) (by decide +kernel) (by decide +kernel)), ⟨by decide, by decide, by decide +kernel⟩, by decide, by decide, _, _, rfl⟩
theorem mv_X2_strayBits : ab_MV me_X2_strayBits 2 1 := ⟨(ab_G_in (i := 486) (by decide +kernel) (by decide +kernel)), (ab_G_in (i := 484) (by decide +kernel) (by decide +kernel)), (ab_G_in (i := 485) (by decide +kernel) (by decide +kernel)), (ab_G_in (i := 67) (by decide +kernel) (by decide +kernel)), ⟨by decide, by decide, by decide +kernel⟩, by decide, by decide, _, _, rfl⟩
theorem mv_X2_sumMates : ab_MV me_X2_sumMates 2 4 := ⟨(ab_G_in (i := 624) (by decide +kernel) (by decide +kernel)), (ab_G_in (i := 623) (by decide +kernel) (by decide +kernel)), (ab_G_in (i := 6) (by decide +kernel) (by decide +kernel)), (ab_G_in (i := 67) (by decide +kernel) (by decide +kernel)), ⟨by decide, by decide, by decide +kernel⟩, by decide, by decide, _, _, rfl⟩
theorem mv_X2_sumTargets : ab_MV me_X2_sumTargets 2 3 := ⟨(ab_G_in (i := 628) (by decide +kernel) (by decide +kernel)), (ab_G_in (i := 627) (by decide +kernel) (by decide +kernel)), (ab_G_in (i := 7) (by decide +kernel) (by decide +kernel)), (ab_G_in (i := 67) (by decide +kernel) (by decide +kernel)), ⟨by decide, by decide, by decide +kernel⟩, by decide, by decide, _, _, rfl⟩
theorem mv_X2_sumTogether : ab_MV me_X2_sumTogether 2 4 := ⟨(ab_G_in (i := 567) (by decide +kernel) (by decide +kernel)), (ab_G_in (i := 566) (by decide +kernel) (by decide +kernel)), (ab_G_in (i := 2) (by decide +kernel) (by decide +kernel)), (ab_G_in (i := 67) (by decide +kernel) (by decide +kernel)), ⟨by decide, by decide, by decide +kernel⟩, by decide, by decide, _, _, rfl⟩
theorem mv_X2_sums : ab_MV me_X2_sums 2 1 := ⟨(ab_G_in (i := 559) (by decide +kernel) (by decide +kernel)), (ab_G_in (i := 557) (by decide +kernel) (by decide +kernel)), (ab_G_in (i := 558) (by decide +kernel) (by decide +kernel)), (ab_G_in (i := 67) (by decide +kernel) (by decide +kernel)), ⟨by decide, by decide, by decide +kernel⟩, by decide, by decide, _, _, rfl⟩
theorem mv_X2_sumsOfThree : ab_MV me_X2_sumsOfThree 2 4 := ⟨(ab_G_in (i := 575) (by decide +kernel) (by decide +kernel)), (ab_G_in (i := 574) (by decide +kernel) (by decide +kernel)), (ab_G_in (i := 3) (by decide +kernel) (by decide +kernel)), (ab_G_in (i := 67) (by decide +kernel) (by decide +kernel)), ⟨by decide, by decide, by decide +kernel⟩, by decide, by decide, _, _, rfl⟩
theorem mv_X2_tooNear : ab_MV me_X2_tooNear 2 3 := ⟨(ab_G_in (i := 620) (by decide +kernel) (by decide +kernel)), (ab_G_in (i := 619) (by decide +kernel) (by decide +kernel)), (ab_G_in (i := 5) (by decide +kernel) (by decide +kernel)), (ab_G_in (i := 67) (by decide +kernel) (by decide +kernel)), ⟨by decide, by decide, by decide +kernel⟩, by decide, by decide, _, _, rfl⟩
theorem mv_X2_totalHarm : ab_MV me_X2_totalHarm 2 1 := ⟨(ab_G_in (i := 536) (by decide +kernel) (by decide +kernel)), (ab_G_in (i := 534) (by decide +kernel) (by decide +kernel)), (ab_G_in (i := 535) (by decide +kernel) (by decide +kernel)), (ab_G_in (i := 67) (by decide +kernel) (by decide +kernel)), ⟨by decide, by decide, by decide +kernel⟩, by decide, by decide, _, _, rfl⟩
theorem mv_X2_weigh : ab_MV me_X2_weigh 2 2 := ⟨(ab_G_in (i := 683) (by decide +kernel) (by decide +kernel)), (ab_G_in (i := 681) (by decide +kernel) (by decide +kernel)), (ab_G_in (i := 682) (by decide +kernel) (by decide +kernel)), (ab_G_in (i := 67) (by decide +kernel) (by decide +kernel)), ⟨by decide, by decide, by decide +kernel⟩, by decide, by decide, _, _, rfl⟩
theorem mv_X3_addMast : ab_MV me_X3_addMast 3 4 := ⟨(ab_G_in (i := 385) (by decide +kernel) (by decide +kernel)), (ab_G_in (i := 383) (by decide +kernel) (by decide +kernel)), (ab_G_in (i := 384) (by decide +kernel) (by decide +kernel)), (ab_G_in (i := 62) (by decide +kernel) (by decide +kernel)), ⟨by decide, by decide, by decide +kernel⟩, by decide, by decide, _, _, rfl⟩
theorem mv_X3_allowed : ab_MV me_X3_allowed 3 1 := ⟨(ab_G_in (i := 490) (by decide +kernel) (by decide +kernel)), (ab_G_in (i := 488) (by decide +kernel) (by decide +kernel)), (ab_G_in (i := 489) (by decide +kernel) (by decide +kernel)), (ab_G_in (i := 62) (by decide +kernel) (by decide +kernel)), ⟨by decide, by decide, by decide +kernel⟩, by decide, by decide, _, _, rfl⟩
theorem mv_X3_areIn : ab_MV me_X3_areIn 3 3 := ⟨(ab_G_in (i := 571) (by decide +kernel) (by decide +kernel)), (ab_G_in (i := 569) (by decide +kernel) (by decide +kernel)), (ab_G_in (i := 570) (by decide +kernel) (by decide +kernel)), (ab_G_in (i := 62) (by decide +kernel) (by decide +kernel)), ⟨by decide, by decide, by decide +kernel⟩, by decide, by decide, _, _, rfl⟩
theorem mv_X3_areNear : ab_MV me_X3_areNear 3 2 := ⟨(ab_G_in (i := 563) (by decide +kernel) (by decide +kernel)), (ab_G_in (i := 561) (by decide +kernel) (by decide +kernel)), (ab_G_in (i := 562) (by decide +kernel) (by decide +kernel)), (ab_G_in (i := 62) (by decide +kernel) (by decide +kernel)), ⟨by decide, by decide, by decide +kernel⟩, by decide, by decide, _, _, rfl⟩
theorem mv_X3_barOf : ab_MV me_X3_barOf 3 2 := ⟨(ab_G_in (i := 430) (by decide +kernel) (by decide +kernel)), (ab_G_in (i := 428) (by decide +kernel) (by decide +kernel)), (ab_G_in (i := 429) (by decide +kernel) (by decide +kernel)), (ab_G_in (i := 62) (by decide +kernel) (by decide +kernel)), ⟨by decide, by decide, by decide +kernel⟩, by decide, by decide, _, _, rfl⟩
theorem mv_X3_barOfWants : ab_MV me_X3_barOfWants 3 2 := ⟨(ab_G_in (i := 552) (by decide +kernel) (by decide +kernel)), (ab_G_in (i := 550) (by decide +kernel) (by decide +kernel)), (ab_G_in (i := 551) (by decide +kernel) (by decide +kernel)), (ab_G_in (i := 62) (by decide +kernel) (by decide +kernel)), ⟨by decide, by decide, by decide +kernel⟩, by decide, by decide, _, _, rfl⟩
theorem mv_X3_barredTwos : ab_MV me_X3_barredTwos 3 0 := ⟨(ab_G_in (i := 812) (by decide +kernel) (by decide +kernel)), (ab_G_in (i := 810) (by decide +kernel) (by decide +kernel)), (ab_G_in (i := 811) (by decide +kernel) (by decide +kernel)), (ab_G_in (i := 62) (by decide +kernel) (by decide +kernel)), ⟨by decide, by decide, by decide +kernel⟩, by decide, by decide, _, _, rfl⟩
theorem mv_X3_freshBar : ab_MV me_X3_freshBar 3 2 := ⟨(ab_G_in (i := 402) (by decide +kernel) (by decide +kernel)), (ab_G_in (i := 401) (by decide +kernel) (by decide +kernel)), (ab_G_in (i := 0) (by decide +kernel) (by decide +kernel)), (ab_G_in (i := 62) (by decide +kernel) (by decide +kernel)), ⟨by decide, by decide, by decide +kernel⟩, by decide, by decide, _, _, rfl⟩
theorem mv_X3_gapOf : ab_MV me_X3_gapOf 3 1 := ⟨(ab_G_in (i := 494) (by decide +kernel) (by decide +kernel)), (ab_G_in (i := 492) (by decide +kernel) (by decide +kernel)), (ab_G_in (i := 493) (by decide +kernel) (by decide +kernel)), (ab_G_in (i := 62) (by decide +kernel) (by decide +kernel)), ⟨by decide, by decide, by decide +kernel⟩, by decide, by decide, _, _, rfl⟩
theorem mv_X3_hasMast : ab_MV me_X3_hasMast 3 1 := ⟨(ab_G_in (i := 421) (by decide +kernel) (by decide +kernel)), (ab_G_in (i := 419) (by decide +kernel) (by decide +kernel)), (ab_G_in (i := 420) (by decide +kernel) (by decide +kernel)), (ab_G_in (i := 62) (by decide +kernel) (by decide +kernel)), ⟨by decide, by decide, by decide +kernel⟩, by decide, by decide, _, _, rfl⟩
theorem mv_X3_hasWant : ab_MV me_X3_hasWant 3 1 := ⟨(ab_G_in (i := 453) (by decide +kernel) (by decide +kernel)), (ab_G_in (i := 451) (by decide +kernel) (by decide +kernel)), (ab_G_in (i := 452) (by decide +kernel) (by decide +kernel)), (ab_G_in (i := 62) (by decide +kernel) (by decide +kernel)), ⟨by decide, by decide, by decide +kernel⟩, by decide, by decide, _, _, rfl⟩
theorem mv_X3_joinedTo : ab_MV me_X3_joinedTo 3 1 := ⟨(ab_G_in (i := 795) (by decide +kernel) (by decide +kernel)), (ab_G_in (i := 794) (by decide +kernel) (by decide +kernel)), (ab_G_in (i := 23) (by decide +kernel) (by decide +kernel)), (ab_G_in (i := 62) (by decide +kernel) (by decide +kernel)), ⟨by decide, by decide, by decide +kernel⟩, by decide, by decide, _, _, rfl⟩
theorem mv_X3_kindOfWant : ab_MV me_X3_kindOfWant 3 1 := ⟨(ab_G_in (i := 457) (by decide +kernel) (by decide +kernel)), (ab_G_in (i := 455) (by decide +kernel) (by decide +kernel)), (ab_G_in (i := 456) (by decide +kernel) (by decide +kernel)), (ab_G_in (i := 62) (by decide +kernel) (by decide +kernel)), ⟨by decide, by decide, by decide +kernel⟩, by decide, by decide, _, _, rfl⟩
theorem mv_X3_measure : ab_MV me_X3_measure 3 0 := ⟨(ab_G_in (i := 398) (by decide +kernel) (by decide +kernel)), (ab_G_in (i := 396) (by decide +kernel) (by decide +kernel)), (ab_G_in (i := 397) (by decide +kernel) (by decide +kernel)), (ab_G_in (i := 62) (by decide +kernel) (by decide +kernel)), ⟨by decide, by decide, by decide +kernel⟩, by decide, by decide, _, _, rfl⟩
theorem mv_X3_partAround : ab_MV me_X3_partAround 3 1 := ⟨(ab_G_in (i := 791) (by decide +kernel) (by decide +kernel)), (ab_G_in (i := 790) (by decide +kernel) (by decide +kernel)), (ab_G_in (i := 22) (by decide +kernel) (by decide +kernel)), (ab_G_in (i := 62) (by decide +kernel) (by decide +kernel)), ⟨by decide, by decide, by decide +kernel⟩, by decide, by decide, _, _, rfl⟩
theorem mv_X3_partOf : ab_MV me_X3_partOf 3 1 := ⟨(ab_G_in (i := 787) (by decide +kernel) (by decide +kernel)), (ab_G_in (i := 785) (by decide +kernel) (by decide +kernel)), (ab_G_in (i := 786) (by decide +kernel) (by decide +kernel)), (ab_G_in (i := 62) (by decide +kernel) (by decide +kernel)), ⟨by decide, by decide, by decide +kernel⟩, by decide, by decide, _, _, rfl⟩
theorem mv_X3_parts : ab_MV me_X3_parts 3 0 := ⟨(ab_G_in (i := 821) (by decide +kernel) (by decide +kernel)), (ab_G_in (i := 819) (by decide +kernel) (by decide +kernel)), (ab_G_in (i := 820) (by decide +kernel) (by decide +kernel)), (ab_G_in (i := 62) (by decide +kernel) (by decide +kernel)), ⟨by decide, by decide, by decide +kernel⟩, by decide, by decide, _, _, rfl⟩
theorem mv_X3_shift : ab_MV me_X3_shift 3 2 := ⟨(ab_G_in (i := 425) (by decide +kernel) (by decide +kernel)), (ab_G_in (i := 423) (by decide +kernel) (by decide +kernel)), (ab_G_in (i := 424) (by decide +kernel) (by decide +kernel)), (ab_G_in (i := 62) (by decide +kernel) (by decide +kernel)), ⟨by decide, by decide, by decide +kernel⟩, by decide, by decide, _, _, rfl⟩
theorem mv_X3_square : ab_MV me_X3_square 3 2 := ⟨(ab_G_in (i := 406) (by decide +kernel) (by decide +kernel)), (ab_G_in (i := 404) (by decide +kernel) (by decide +kernel)), (ab_G_in (i := 405) (by decide +kernel) (by decide +kernel)), (ab_G_in (i := 62) (by decide +kernel) (by decide +kernel)), ⟨by decide, by decide, by decide +kernel⟩, by decide, by decide, _, _, rfl⟩
theorem mv_X3_threesIn : ab_MV me_X3_threesIn 3 0 := ⟨(ab_G_in (i := 816) (by decide +kernel) (by decide +kernel)), (ab_G_in (i := 814) (by decide +kernel) (by decide +kernel)), (ab_G_in (i := 815) (by decide +kernel) (by decide +kernel)), (ab_G_in (i := 62) (by decide +kernel) (by decide +kernel)), ⟨by decide, by decide, by decide +kernel⟩, by decide, by decide, _, _, rfl⟩
theorem mv_X4_begin : ab_MV me_X4_begin 4 6 := ⟨(ab_G_in (i := 389) (by decide +kernel) (by decide +kernel)), (ab_G_in (i := 387) (by decide +kernel) (by decide +kernel)), (ab_G_in (i := 388) (by decide +kernel) (by decide +kernel)), (ab_G_in (i := 65) (by decide +kernel) (by decide +kernel)), ⟨by decide, by decide, by decide +kernel⟩, by decide, by decide, _, _, rfl⟩
theorem mv_X4_goTo : ab_MV me_X4_goTo 4 1 := ⟨(ab_G_in (i := 393) (by decide +kernel) (by decide +kernel)), (ab_G_in (i := 391) (by decide +kernel) (by decide +kernel)), (ab_G_in (i := 392) (by decide +kernel) (by decide +kernel)), (ab_G_in (i := 65) (by decide +kernel) (by decide +kernel)), ⟨by decide, by decide, by decide +kernel⟩, by decide, by decide, _, _, rfl⟩
theorem mv_X4_heaviness : ab_MV me_X4_heaviness 4 0 := ⟨(ab_G_in (i := 901) (by decide +kernel) (by decide +kernel)), (ab_G_in (i := 899) (by decide +kernel) (by decide +kernel)), (ab_G_in (i := 900) (by decide +kernel) (by decide +kernel)), (ab_G_in (i := 65) (by decide +kernel) (by decide +kernel)), ⟨by decide, by decide, by decide +kernel⟩, by decide, by decide, _, _, rfl⟩
theorem mv_X4_takeAll : ab_MV me_X4_takeAll 4 1 := ⟨(ab_G_in (i := 849) (by decide +kernel) (by decide +kernel)), (ab_G_in (i := 847) (by decide +kernel) (by decide +kernel)), (ab_G_in (i := 848) (by decide +kernel) (by decide +kernel)), (ab_G_in (i := 65) (by decide +kernel) (by decide +kernel)), ⟨by decide, by decide, by decide +kernel⟩, by decide, by decide, _, _, rfl⟩
theorem mv_X4_trait : ab_MV me_X4_trait 4 1 := ⟨(ab_G_in (i := 829) (by decide +kernel) (by decide +kernel)), (ab_G_in (i := 827) (by decide +kernel) (by decide +kernel)), (ab_G_in (i := 828) (by decide +kernel) (by decide +kernel)), (ab_G_in (i := 65) (by decide +kernel) (by decide +kernel)), ⟨by decide, by decide, by decide +kernel⟩, by decide, by decide, _, _, rfl⟩
theorem mv_X5_canChange : ab_MV me_X5_canChange 5 2 := ⟨(ab_G_in (i := 678) (by decide +kernel) (by decide +kernel)), (ab_G_in (i := 677) (by decide +kernel) (by decide +kernel)), (ab_G_in (i := 9) (by decide +kernel) (by decide +kernel)), (ab_G_in (i := 69) (by decide +kernel) (by decide +kernel)), ⟨by decide, by decide, by decide +kernel⟩, by decide, by decide, _, _, rfl⟩
theorem mv_X5_changeBoth : ab_MV me_X5_changeBoth 5 3 := ⟨(ab_G_in (i := 724) (by decide +kernel) (by decide +kernel)), (ab_G_in (i := 723) (by decide +kernel) (by decide +kernel)), (ab_G_in (i := 14) (by decide +kernel) (by decide +kernel)), (ab_G_in (i := 69) (by decide +kernel) (by decide +kernel)), ⟨by decide, by decide, by decide +kernel⟩, by decide, by decide, _, _, rfl⟩
theorem mv_X5_changeOne : ab_MV me_X5_changeOne 5 1 := ⟨(ab_G_in (i := 710) (by decide +kernel) (by decide +kernel)), (ab_G_in (i := 708) (by decide +kernel) (by decide +kernel)), (ab_G_in (i := 709) (by decide +kernel) (by decide +kernel)), (ab_G_in (i := 69) (by decide +kernel) (by decide +kernel)), ⟨by decide, by decide, by decide +kernel⟩, by decide, by decide, _, _, rfl⟩
theorem mv_X5_changeTwo : ab_MV me_X5_changeTwo 5 1 := ⟨(ab_G_in (i := 720) (by decide +kernel) (by decide +kernel)), (ab_G_in (i := 718) (by decide +kernel) (by decide +kernel)), (ab_G_in (i := 719) (by decide +kernel) (by decide +kernel)), (ab_G_in (i := 69) (by decide +kernel) (by decide +kernel)), ⟨by decide, by decide, by decide +kernel⟩, by decide, by decide, _, _, rfl⟩
theorem mv_X5_improve : ab_MV me_X5_improve 5 1 := ⟨(ab_G_in (i := 674) (by decide +kernel) (by decide +kernel)), (ab_G_in (i := 672) (by decide +kernel) (by decide +kernel)), (ab_G_in (i := 673) (by decide +kernel) (by decide +kernel)), (ab_G_in (i := 69) (by decide +kernel) (by decide +kernel)), ⟨by decide, by decide, by decide +kernel⟩, by decide, by decide, _, _, rfl⟩
theorem mv_X5_leastFree : ab_MV me_X5_leastFree 5 3 := ⟨(ab_G_in (i := 715) (by decide +kernel) (by decide +kernel)), (ab_G_in (i := 714) (by decide +kernel) (by decide +kernel)), (ab_G_in (i := 13) (by decide +kernel) (by decide +kernel)), (ab_G_in (i := 69) (by decide +kernel) (by decide +kernel)), ⟨by decide, by decide, by decide +kernel⟩, by decide, by decide, _, _, rfl⟩
theorem mv_X6_at : ab_MV me_X6_at 6 1 := ⟨(ab_G_in (i := 1028) (by decide +kernel) (by decide +kernel)), (ab_G_in (i := 1026) (by decide +kernel) (by decide +kernel)), (ab_G_in (i := 1027) (by decide +kernel) (by decide +kernel)), (ab_G_in (i := 71) (by decide +kernel) (by decide +kernel)), ⟨by decide, by decide, by decide +kernel⟩, by decide, by decide, _, _, rfl⟩
theorem mv_X6_clear : ab_MV me_X6_clear 6 0 := ⟨(ab_G_in (i := 841) (by decide +kernel) (by decide +kernel)), (ab_G_in (i := 839) (by decide +kernel) (by decide +kernel)), (ab_G_in (i := 840) (by decide +kernel) (by decide +kernel)), (ab_G_in (i := 71) (by decide +kernel) (by decide +kernel)), ⟨by decide, by decide, by decide +kernel⟩, by decide, by decide, _, _, rfl⟩
theorem mv_X6_copyTo : ab_MV me_X6_copyTo 6 4 := ⟨(ab_G_in (i := 888) (by decide +kernel) (by decide +kernel)), (ab_G_in (i := 886) (by decide +kernel) (by decide +kernel)), (ab_G_in (i := 887) (by decide +kernel) (by decide +kernel)), (ab_G_in (i := 71) (by decide +kernel) (by decide +kernel)), ⟨by decide, by decide, by decide +kernel⟩, by decide, by decide, _, _, rfl⟩
theorem mv_X6_hasRange : ab_MV me_X6_hasRange 6 2 := ⟨(ab_G_in (i := 884) (by decide +kernel) (by decide +kernel)), (ab_G_in (i := 882) (by decide +kernel) (by decide +kernel)), (ab_G_in (i := 883) (by decide +kernel) (by decide +kernel)), (ab_G_in (i := 71) (by decide +kernel) (by decide +kernel)), ⟨by decide, by decide, by decide +kernel⟩, by decide, by decide, _, _, rfl⟩
theorem mv_X6_isRow : ab_MV me_X6_isRow 6 0 := ⟨(ab_G_in (i := 880) (by decide +kernel) (by decide +kernel)), (ab_G_in (i := 878) (by decide +kernel) (by decide +kernel)), (ab_G_in (i := 879) (by decide +kernel) (by decide +kernel)), (ab_G_in (i := 71) (by decide +kernel) (by decide +kernel)), ⟨by decide, by decide, by decide +kernel⟩, by decide, by decide, _, _, rfl⟩
theorem mv_X6_takeChannels : ab_MV me_X6_takeChannels 6 2 := ⟨(ab_G_in (i := 853) (by decide +kernel) (by decide +kernel)), (ab_G_in (i := 851) (by decide +kernel) (by decide +kernel)), (ab_G_in (i := 852) (by decide +kernel) (by decide +kernel)), (ab_G_in (i := 71) (by decide +kernel) (by decide +kernel)), ⟨by decide, by decide, by decide +kernel⟩, by decide, by decide, _, _, rfl⟩
theorem mv_X6_takeMast : ab_MV me_X6_takeMast 6 1 := ⟨(ab_G_in (i := 845) (by decide +kernel) (by decide +kernel)), (ab_G_in (i := 843) (by decide +kernel) (by decide +kernel)), (ab_G_in (i := 844) (by decide +kernel) (by decide +kernel)), (ab_G_in (i := 71) (by decide +kernel) (by decide +kernel)), ⟨by decide, by decide, by decide +kernel⟩, by decide, by decide, _, _, rfl⟩
theorem mv_X6_takeSquares : ab_MV me_X6_takeSquares 6 2 := ⟨(ab_G_in (i := 857) (by decide +kernel) (by decide +kernel)), (ab_G_in (i := 855) (by decide +kernel) (by decide +kernel)), (ab_G_in (i := 856) (by decide +kernel) (by decide +kernel)), (ab_G_in (i := 71) (by decide +kernel) (by decide +kernel)), ⟨by decide, by decide, by decide +kernel⟩, by decide, by decide, _, _, rfl⟩
theorem mv_X6_takeZeros : ab_MV me_X6_takeZeros 6 2 := ⟨(ab_G_in (i := 866) (by decide +kernel) (by decide +kernel)), (ab_G_in (i := 864) (by decide +kernel) (by decide +kernel)), (ab_G_in (i := 865) (by decide +kernel) (by decide +kernel)), (ab_G_in (i := 71) (by decide +kernel) (by decide +kernel)), ⟨by decide, by decide, by decide +kernel⟩, by decide, by decide, _, _, rfl⟩
theorem mv_X7_add : ab_MV me_X7_add 7 3 := ⟨(ab_G_in (i := 465) (by decide +kernel) (by decide +kernel)), (ab_G_in (i := 463) (by decide +kernel) (by decide +kernel)), (ab_G_in (i := 464) (by decide +kernel) (by decide +kernel)), (ab_G_in (i := 63) (by decide +kernel) (by decide +kernel)), ⟨by decide, by decide, by decide +kernel⟩, by decide, by decide, _, _, rfl⟩
theorem mv_X7_greatest : ab_MV me_X7_greatest 7 2 := ⟨(ab_G_in (i := 410) (by decide +kernel) (by decide +kernel)), (ab_G_in (i := 408) (by decide +kernel) (by decide +kernel)), (ab_G_in (i := 409) (by decide +kernel) (by decide +kernel)), (ab_G_in (i := 63) (by decide +kernel) (by decide +kernel)), ⟨by decide, by decide, by decide +kernel⟩, by decide, by decide, _, _, rfl⟩
theorem mv_X8_below : ab_MS me_X8_below 1 := ⟨(ab_G_in (i := 636) (by decide +kernel) (by decide +kernel)), (ab_G_in (i := 635) (by decide +kernel) (by decide +kernel)), (ab_G_in (i := 68) (by decide +kernel) (by decide +kernel)), ⟨by decide, by decide, by decide +kernel⟩, by decide⟩
theorem mv_X8_handOver : ab_MV me_X8_handOver 8 1 := ⟨(ab_G_in (i := 645) (by decide +kernel) (by decide +kernel)), (ab_G_in (i := 643) (by decide +kernel) (by decide +kernel)), (ab_G_in (i := 644) (by decide +kernel) (by decide +kernel)), (ab_G_in (i := 68) (by decide +kernel) (by decide +kernel)), ⟨by decide, by decide, by decide +kernel⟩, by decide, by decide, _, _, rfl⟩
theorem mv_X8_open : ab_MV me_X8_open 8 2 := ⟨(ab_G_in (i := 612) (by decide +kernel) (by decide +kernel)), (ab_G_in (i := 611) (by decide +kernel) (by decide +kernel)), (ab_G_in (i := 4) (by decide +kernel) (by decide +kernel)), (ab_G_in (i := 68) (by decide +kernel) (by decide +kernel)), ⟨by decide, by decide, by decide +kernel⟩, by decide, by decide, _, _, rfl⟩
theorem mv_X8_search : ab_MV me_X8_search 8 1 := ⟨(ab_G_in (i := 608) (by decide +kernel) (by decide +kernel)), (ab_G_in (i := 606) (by decide +kernel) (by decide +kernel)), (ab_G_in (i := 607) (by decide +kernel) (by decide +kernel)), (ab_G_in (i := 68) (by decide +kernel) (by decide +kernel)), ⟨by decide, by decide, by decide +kernel⟩, by decide, by decide, _, _, rfl⟩
theorem mv_X8_takes : ab_MV me_X8_takes 8 1 := ⟨(ab_G_in (i := 641) (by decide +kernel) (by decide +kernel)), (ab_G_in (i := 640) (by decide +kernel) (by decide +kernel)), (ab_G_in (i := 8) (by decide +kernel) (by decide +kernel)), (ab_G_in (i := 68) (by decide +kernel) (by decide +kernel)), ⟨by decide, by decide, by decide +kernel⟩, by decide, by decide, _, _, rfl⟩
theorem mv_X9_bar : ab_MV me_X9_bar 9 2 := ⟨(ab_G_in (i := 510) (by decide +kernel) (by decide +kernel)), (ab_G_in (i := 508) (by decide +kernel) (by decide +kernel)), (ab_G_in (i := 509) (by decide +kernel) (by decide +kernel)), (ab_G_in (i := 61) (by decide +kernel) (by decide +kernel)), ⟨by decide, by decide, by decide +kernel⟩, by decide, by decide, _, _, rfl⟩
theorem mv_X9_better : ab_MV me_X9_better 9 1 := ⟨(ab_G_in (i := 670) (by decide +kernel) (by decide +kernel)), (ab_G_in (i := 668) (by decide +kernel) (by decide +kernel)), (ab_G_in (i := 669) (by decide +kernel) (by decide +kernel)), (ab_G_in (i := 61) (by decide +kernel) (by decide +kernel)), ⟨by decide, by decide, by decide +kernel⟩, by decide, by decide, _, _, rfl⟩
theorem mv_X9_border : ab_MV me_X9_border 9 4 := ⟨(ab_G_in (i := 474) (by decide +kernel) (by decide +kernel)), (ab_G_in (i := 472) (by decide +kernel) (by decide +kernel)), (ab_G_in (i := 473) (by decide +kernel) (by decide +kernel)), (ab_G_in (i := 61) (by decide +kernel) (by decide +kernel)), ⟨by decide, by decide, by decide +kernel⟩, by decide, by decide, _, _, rfl⟩
theorem mv_X9_bound : ab_MV me_X9_bound 9 1 := ⟨(ab_G_in (i := 728) (by decide +kernel) (by decide +kernel)), (ab_G_in (i := 726) (by decide +kernel) (by decide +kernel)), (ab_G_in (i := 727) (by decide +kernel) (by decide +kernel)), (ab_G_in (i := 61) (by decide +kernel) (by decide +kernel)), ⟨by decide, by decide, by decide +kernel⟩, by decide, by decide, _, _, rfl⟩
theorem mv_X9_broken : ab_MV me_X9_broken 9 1 := ⟨(ab_G_in (i := 589) (by decide +kernel) (by decide +kernel)), (ab_G_in (i := 587) (by decide +kernel) (by decide +kernel)), (ab_G_in (i := 588) (by decide +kernel) (by decide +kernel)), (ab_G_in (i := 61) (by decide +kernel) (by decide +kernel)), ⟨by decide, by decide, by decide +kernel⟩, by decide, by decide, _, _, rfl⟩
theorem mv_X9_channel : ab_MV me_X9_channel 9 1 := ⟨(ab_G_in (i := 524) (by decide +kernel) (by decide +kernel)), (ab_G_in (i := 522) (by decide +kernel) (by decide +kernel)), (ab_G_in (i := 523) (by decide +kernel) (by decide +kernel)), (ab_G_in (i := 61) (by decide +kernel) (by decide +kernel)), ⟨by decide, by decide, by decide +kernel⟩, by decide, by decide, _, _, rfl⟩
theorem mv_X9_copy : ab_MV me_X9_copy 9 5 := ⟨(ab_G_in (i := 876) (by decide +kernel) (by decide +kernel)), (ab_G_in (i := 874) (by decide +kernel) (by decide +kernel)), (ab_G_in (i := 875) (by decide +kernel) (by decide +kernel)), (ab_G_in (i := 61) (by decide +kernel) (by decide +kernel)), ⟨by decide, by decide, by decide +kernel⟩, by decide, by decide, _, _, rfl⟩
theorem mv_X9_count : ab_MV me_X9_count 9 1 := ⟨(ab_G_in (i := 808) (by decide +kernel) (by decide +kernel)), (ab_G_in (i := 806) (by decide +kernel) (by decide +kernel)), (ab_G_in (i := 807) (by decide +kernel) (by decide +kernel)), (ab_G_in (i := 61) (by decide +kernel) (by decide +kernel)), ⟨by decide, by decide, by decide +kernel⟩, by decide, by decide, _, _, rfl⟩
theorem mv_X9_crowd : ab_MV me_X9_crowd 9 0 := ⟨(ab_G_in (i := 767) (by decide +kernel) (by decide +kernel)), (ab_G_in (i := 765) (by decide +kernel) (by decide +kernel)), (ab_G_in (i := 766) (by decide +kernel) (by decide +kernel)), (ab_G_in (i := 61) (by decide +kernel) (by decide +kernel)), ⟨by decide, by decide, by decide +kernel⟩, by decide, by decide, _, _, rfl⟩
theorem mv_X9_fewest : ab_MV me_X9_fewest 9 1 := ⟨(ab_G_in (i := 701) (by decide +kernel) (by decide +kernel)), (ab_G_in (i := 699) (by decide +kernel) (by decide +kernel)), (ab_G_in (i := 700) (by decide +kernel) (by decide +kernel)), (ab_G_in (i := 61) (by decide +kernel) (by decide +kernel)), ⟨by decide, by decide, by decide +kernel⟩, by decide, by decide, _, _, rfl⟩
theorem mv_X9_gap : ab_MV me_X9_gap 9 2 := ⟨(ab_G_in (i := 445) (by decide +kernel) (by decide +kernel)), (ab_G_in (i := 443) (by decide +kernel) (by decide +kernel)), (ab_G_in (i := 444) (by decide +kernel) (by decide +kernel)), (ab_G_in (i := 61) (by decide +kernel) (by decide +kernel)), ⟨by decide, by decide, by decide +kernel⟩, by decide, by decide, _, _, rfl⟩
theorem mv_X9_harm : ab_MV me_X9_harm 9 0 := ⟨(ab_G_in (i := 532) (by decide +kernel) (by decide +kernel)), (ab_G_in (i := 530) (by decide +kernel) (by decide +kernel)), (ab_G_in (i := 531) (by decide +kernel) (by decide +kernel)), (ab_G_in (i := 61) (by decide +kernel) (by decide +kernel)), ⟨by decide, by decide, by decide +kernel⟩, by decide, by decide, _, _, rfl⟩
theorem mv_X9_image : ab_MV me_X9_image 9 0 := ⟨(ab_G_in (i := 799) (by decide +kernel) (by decide +kernel)), (ab_G_in (i := 797) (by decide +kernel) (by decide +kernel)), (ab_G_in (i := 798) (by decide +kernel) (by decide +kernel)), (ab_G_in (i := 61) (by decide +kernel) (by decide +kernel)), ⟨by decide, by decide, by decide +kernel⟩, by decide, by decide, _, _, rfl⟩
theorem mv_X9_isPlace : ab_MS me_X9_isPlace 1 := ⟨(ab_G_in (i := 381) (by decide +kernel) (by decide +kernel)), (ab_G_in (i := 380) (by decide +kernel) (by decide +kernel)), (ab_G_in (i := 61) (by decide +kernel) (by decide +kernel)), ⟨by decide, by decide, by decide +kernel⟩, by decide⟩
theorem mv_X9_isShelf : ab_MS me_X9_isShelf 1 := ⟨(ab_G_in (i := 837) (by decide +kernel) (by decide +kernel)), (ab_G_in (i := 836) (by decide +kernel) (by decide +kernel)), (ab_G_in (i := 61) (by decide +kernel) (by decide +kernel)), ⟨by decide, by decide, by decide +kernel⟩, by decide⟩
theorem mv_X9_keep : ab_MV me_X9_keep 9 3 := ⟨(ab_G_in (i := 834) (by decide +kernel) (by decide +kernel)), (ab_G_in (i := 832) (by decide +kernel) (by decide +kernel)), (ab_G_in (i := 833) (by decide +kernel) (by decide +kernel)), (ab_G_in (i := 61) (by decide +kernel) (by decide +kernel)), ⟨by decide, by decide, by decide +kernel⟩, by decide, by decide, _, _, rfl⟩
theorem mv_X9_kept : ab_MV me_X9_kept 9 0 := ⟨(ab_G_in (i := 581) (by decide +kernel) (by decide +kernel)), (ab_G_in (i := 579) (by decide +kernel) (by decide +kernel)), (ab_G_in (i := 580) (by decide +kernel) (by decide +kernel)), (ab_G_in (i := 61) (by decide +kernel) (by decide +kernel)), ⟨by decide, by decide, by decide +kernel⟩, by decide, by decide, _, _, rfl⟩
theorem mv_X9_least : ab_MV me_X9_least 9 0 := ⟨(ab_G_in (i := 656) (by decide +kernel) (by decide +kernel)), (ab_G_in (i := 654) (by decide +kernel) (by decide +kernel)), (ab_G_in (i := 655) (by decide +kernel) (by decide +kernel)), (ab_G_in (i := 61) (by decide +kernel) (by decide +kernel)), ⟨by decide, by decide, by decide +kernel⟩, by decide, by decide, _, _, rfl⟩
theorem mv_X9_list : ab_MV me_X9_list 9 2 := ⟨(ab_G_in (i := 434) (by decide +kernel) (by decide +kernel)), (ab_G_in (i := 432) (by decide +kernel) (by decide +kernel)), (ab_G_in (i := 433) (by decide +kernel) (by decide +kernel)), (ab_G_in (i := 61) (by decide +kernel) (by decide +kernel)), ⟨by decide, by decide, by decide +kernel⟩, by decide, by decide, _, _, rfl⟩
theorem mv_X9_look : ab_MV me_X9_look 9 2 := ⟨(ab_G_in (i := 825) (by decide +kernel) (by decide +kernel)), (ab_G_in (i := 823) (by decide +kernel) (by decide +kernel)), (ab_G_in (i := 824) (by decide +kernel) (by decide +kernel)), (ab_G_in (i := 61) (by decide +kernel) (by decide +kernel)), ⟨by decide, by decide, by decide +kernel⟩, by decide, by decide, _, _, rfl⟩
theorem mv_X9_make : ab_MV me_X9_make 9 3 := ⟨(ab_G_in (i := 862) (by decide +kernel) (by decide +kernel)), (ab_G_in (i := 860) (by decide +kernel) (by decide +kernel)), (ab_G_in (i := 861) (by decide +kernel) (by decide +kernel)), (ab_G_in (i := 61) (by decide +kernel) (by decide +kernel)), ⟨by decide, by decide, by decide +kernel⟩, by decide, by decide, _, _, rfl⟩
theorem mv_X9_mast : ab_MV me_X9_mast 9 4 := ⟨(ab_G_in (i := 375) (by decide +kernel) (by decide +kernel)), (ab_G_in (i := 373) (by decide +kernel) (by decide +kernel)), (ab_G_in (i := 374) (by decide +kernel) (by decide +kernel)), (ab_G_in (i := 61) (by decide +kernel) (by decide +kernel)), ⟨by decide, by decide, by decide +kernel⟩, by decide, by decide, _, _, rfl⟩
theorem mv_X9_may : ab_MV me_X9_may 9 2 := ⟨(ab_G_in (i := 515) (by decide +kernel) (by decide +kernel)), (ab_G_in (i := 513) (by decide +kernel) (by decide +kernel)), (ab_G_in (i := 514) (by decide +kernel) (by decide +kernel)), (ab_G_in (i := 61) (by decide +kernel) (by decide +kernel)), ⟨by decide, by decide, by decide +kernel⟩, by decide, by decide, _, _, rfl⟩
theorem mv_X9_move : ab_MV me_X9_move 9 2 := ⟨(ab_G_in (i := 417) (by decide +kernel) (by decide +kernel)), (ab_G_in (i := 415) (by decide +kernel) (by decide +kernel)), (ab_G_in (i := 416) (by decide +kernel) (by decide +kernel)), (ab_G_in (i := 61) (by decide +kernel) (by decide +kernel)), ⟨by decide, by decide, by decide +kernel⟩, by decide, by decide, _, _, rfl⟩
theorem mv_X9_of : ab_MV me_X9_of 9 1 := ⟨(ab_G_in (i := 528) (by decide +kernel) (by decide +kernel)), (ab_G_in (i := 526) (by decide +kernel) (by decide +kernel)), (ab_G_in (i := 527) (by decide +kernel) (by decide +kernel)), (ab_G_in (i := 61) (by decide +kernel) (by decide +kernel)), ⟨by decide, by decide, by decide +kernel⟩, by decide, by decide, _, _, rfl⟩
theorem mv_X9_own : ab_MV me_X9_own 9 2 := ⟨(ab_G_in (i := 470) (by decide +kernel) (by decide +kernel)), (ab_G_in (i := 468) (by decide +kernel) (by decide +kernel)), (ab_G_in (i := 469) (by decide +kernel) (by decide +kernel)), (ab_G_in (i := 61) (by decide +kernel) (by decide +kernel)), ⟨by decide, by decide, by decide +kernel⟩, by decide, by decide, _, _, rfl⟩
theorem mv_X9_pair : ab_MV me_X9_pair 9 2 := ⟨(ab_G_in (i := 599) (by decide +kernel) (by decide +kernel)), (ab_G_in (i := 597) (by decide +kernel) (by decide +kernel)), (ab_G_in (i := 598) (by decide +kernel) (by decide +kernel)), (ab_G_in (i := 61) (by decide +kernel) (by decide +kernel)), ⟨by decide, by decide, by decide +kernel⟩, by decide, by decide, _, _, rfl⟩
theorem mv_X9_part : ab_MV me_X9_part 9 1 := ⟨(ab_G_in (i := 783) (by decide +kernel) (by decide +kernel)), (ab_G_in (i := 781) (by decide +kernel) (by decide +kernel)), (ab_G_in (i := 782) (by decide +kernel) (by decide +kernel)), (ab_G_in (i := 61) (by decide +kernel) (by decide +kernel)), ⟨by decide, by decide, by decide +kernel⟩, by decide, by decide, _, _, rfl⟩
theorem mv_X9_plan : ab_MV me_X9_plan 9 1 := ⟨(ab_G_in (i := 604) (by decide +kernel) (by decide +kernel)), (ab_G_in (i := 602) (by decide +kernel) (by decide +kernel)), (ab_G_in (i := 603) (by decide +kernel) (by decide +kernel)), (ab_G_in (i := 61) (by decide +kernel) (by decide +kernel)), ⟨by decide, by decide, by decide +kernel⟩, by decide, by decide, _, _, rfl⟩
theorem mv_X9_refusalOfMast : ab_MV me_X9_refusalOfMast 9 1 := ⟨(ab_G_in (i := 897) (by decide +kernel) (by decide +kernel)), (ab_G_in (i := 896) (by decide +kernel) (by decide +kernel)), (ab_G_in (i := 24) (by decide +kernel) (by decide +kernel)), (ab_G_in (i := 61) (by decide +kernel) (by decide +kernel)), ⟨by decide, by decide, by decide +kernel⟩, by decide, by decide, _, _, rfl⟩
theorem mv_X9_restore : ab_MV me_X9_restore 9 0 := ⟨(ab_G_in (i := 804) (by decide +kernel) (by decide +kernel)), (ab_G_in (i := 802) (by decide +kernel) (by decide +kernel)), (ab_G_in (i := 803) (by decide +kernel) (by decide +kernel)), (ab_G_in (i := 61) (by decide +kernel) (by decide +kernel)), ⟨by decide, by decide, by decide +kernel⟩, by decide, by decide, _, _, rfl⟩
theorem mv_X9_row : ab_MV me_X9_row 9 3 := ⟨(ab_G_in (i := 461) (by decide +kernel) (by decide +kernel)), (ab_G_in (i := 459) (by decide +kernel) (by decide +kernel)), (ab_G_in (i := 460) (by decide +kernel) (by decide +kernel)), (ab_G_in (i := 61) (by decide +kernel) (by decide +kernel)), ⟨by decide, by decide, by decide +kernel⟩, by decide, by decide, _, _, rfl⟩
theorem mv_X9_set : ab_MV me_X9_set 9 2 := ⟨(ab_G_in (i := 520) (by decide +kernel) (by decide +kernel)), (ab_G_in (i := 518) (by decide +kernel) (by decide +kernel)), (ab_G_in (i := 519) (by decide +kernel) (by decide +kernel)), (ab_G_in (i := 61) (by decide +kernel) (by decide +kernel)), ⟨by decide, by decide, by decide +kernel⟩, by decide, by decide, _, _, rfl⟩
theorem mv_X9_span : ab_MV me_X9_span 9 0 := ⟨(ab_G_in (i := 660) (by decide +kernel) (by decide +kernel)), (ab_G_in (i := 658) (by decide +kernel) (by decide +kernel)), (ab_G_in (i := 659) (by decide +kernel) (by decide +kernel)), (ab_G_in (i := 61) (by decide +kernel) (by decide +kernel)), ⟨by decide, by decide, by decide +kernel⟩, by decide, by decide, _, _, rfl⟩
theorem mv_X9_stay : ab_MV me_X9_stay 9 2 := ⟨(ab_G_in (i := 449) (by decide +kernel) (by decide +kernel)), (ab_G_in (i := 447) (by decide +kernel) (by decide +kernel)), (ab_G_in (i := 448) (by decide +kernel) (by decide +kernel)), (ab_G_in (i := 61) (by decide +kernel) (by decide +kernel)), ⟨by decide, by decide, by decide +kernel⟩, by decide, by decide, _, _, rfl⟩
theorem mv_X9_tries : ab_MV me_X9_tries 9 0 := ⟨(ab_G_in (i := 652) (by decide +kernel) (by decide +kernel)), (ab_G_in (i := 650) (by decide +kernel) (by decide +kernel)), (ab_G_in (i := 651) (by decide +kernel) (by decide +kernel)), (ab_G_in (i := 61) (by decide +kernel) (by decide +kernel)), ⟨by decide, by decide, by decide +kernel⟩, by decide, by decide, _, _, rfl⟩
theorem mv_X9_turn : ab_MV me_X9_turn 9 0 := ⟨(ab_G_in (i := 482) (by decide +kernel) (by decide +kernel)), (ab_G_in (i := 480) (by decide +kernel) (by decide +kernel)), (ab_G_in (i := 481) (by decide +kernel) (by decide +kernel)), (ab_G_in (i := 61) (by decide +kernel) (by decide +kernel)), ⟨by decide, by decide, by decide +kernel⟩, by decide, by decide, _, _, rfl⟩
theorem mv_X9_weight : ab_MV me_X9_weight 9 1 := ⟨(ab_G_in (i := 893) (by decide +kernel) (by decide +kernel)), (ab_G_in (i := 891) (by decide +kernel) (by decide +kernel)), (ab_G_in (i := 892) (by decide +kernel) (by decide +kernel)), (ab_G_in (i := 61) (by decide +kernel) (by decide +kernel)), ⟨by decide, by decide, by decide +kernel⟩, by decide, by decide, _, _, rfl⟩
theorem mv_X9_within : ab_MS me_X9_within 3 := ⟨(ab_G_in (i := 378) (by decide +kernel) (by decide +kernel)), (ab_G_in (i := 377) (by decide +kernel) (by decide +kernel)), (ab_G_in (i := 61) (by decide +kernel) (by decide +kernel)), ⟨by decide, by decide, by decide +kernel⟩, by decide⟩
theorem kw_RX9_97 : Cond.constant RX9 97 1073741823 ∈ ab_G := (ab_G_in (i := 435) (by decide +kernel) (by decide +kernel))
theorem kw_RX9_205 : Cond.constant RX9 205 1000000 ∈ ab_G := (ab_G_in (i := 661) (by decide +kernel) (by decide +kernel))
theorem kw_RX0_73 : Cond.constant RX0 73 1000000 ∈ ab_G := (ab_G_in (i := 758) (by decide +kernel) (by decide +kernel))
theorem kw_RX1_38 : Cond.constant RX1 38 1073741823 ∈ ab_G := (ab_G_in (i := 502) (by decide +kernel) (by decide +kernel))
theorem kw_RX2_99 : Cond.constantLong RX2 99 (-1) ∈ ab_G := (ab_G_in (i := 632) (by decide +kernel) (by decide +kernel))
theorem kw_RX4_31 : Cond.constant RX4 31 1073741823 ∈ ab_G := (ab_G_in (i := 394) (by decide +kernel) (by decide +kernel))
theorem kw_RX8_68 : Cond.constant RX8 68 1073741823 ∈ ab_G := (ab_G_in (i := 637) (by decide +kernel) (by decide +kernel))
theorem kw_RX10_111 : Cond.constantLong RX10 111 60 ∈ ab_G := (ab_G_in (i := 1168) (by decide +kernel) (by decide +kernel))
theorem kw_RX10_117 : Cond.constant RX10 117 1073741824 ∈ ab_G := (ab_G_in (i := 1193) (by decide +kernel) (by decide +kernel))
theorem kw_RX10_118 : Cond.constantLong RX10 118 3 ∈ ab_G := (ab_G_in (i := 1161) (by decide +kernel) (by decide +kernel))
theorem kw_RX10_124 : Cond.constant RX10 124 1073741823 ∈ ab_G := (ab_G_in (i := 1169) (by decide +kernel) (by decide +kernel))
theorem kw_RX10_145 : Cond.constantLong RX10 145 10 ∈ ab_G := (ab_G_in (i := 1202) (by decide +kernel) (by decide +kernel))
theorem kw_RX10_150 : Cond.constantLong RX10 150 (-1) ∈ ab_G := (ab_G_in (i := 1211) (by decide +kernel) (by decide +kernel))
theorem kw_RX10_152 : Cond.constantLong RX10 152 29 ∈ ab_G := (ab_G_in (i := 1212) (by decide +kernel) (by decide +kernel))
theorem kw_RX10_154 : Cond.constantLong RX10 154 10000 ∈ ab_G := (ab_G_in (i := 1217) (by decide +kernel) (by decide +kernel))
theorem kw_RX10_156 : Cond.constantLong RX10 156 6 ∈ ab_G := (ab_G_in (i := 1218) (by decide +kernel) (by decide +kernel))
theorem kw_RX10_158 : Cond.constantLong RX10 158 4 ∈ ab_G := (ab_G_in (i := 1219) (by decide +kernel) (by decide +kernel))
theorem kw_RX10_203 : Cond.constantLong RX10 203 2 ∈ ab_G := (ab_G_in (i := 1308) (by decide +kernel) (by decide +kernel))
theorem kw_RX10_218 : Cond.constantLong RX10 218 30 ∈ ab_G := (ab_G_in (i := 1313) (by decide +kernel) (by decide +kernel))
theorem kw_RX10_229 : Cond.constantLong RX10 229 50 ∈ ab_G := (ab_G_in (i := 1350) (by decide +kernel) (by decide +kernel))
theorem kw_RX10_241 : Cond.constant RX10 241 1000000 ∈ ab_G := (ab_G_in (i := 1383) (by decide +kernel) (by decide +kernel))
theorem kw_RJ6_265 : Cond.constant RJ6 265 1431655765 ∈ ab_G := (ab_G_in (i := 439) (by decide +kernel) (by decide +kernel))
theorem kw_RJ6_266 : Cond.constant RJ6 266 858993459 ∈ ab_G := (ab_G_in (i := 440) (by decide +kernel) (by decide +kernel))
theorem kw_RJ6_267 : Cond.constant RJ6 267 252645135 ∈ ab_G := (ab_G_in (i := 441) (by decide +kernel) (by decide +kernel))
