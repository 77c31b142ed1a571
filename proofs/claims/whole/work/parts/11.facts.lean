theorem inT_1 : ∀ w ∈ tables_1_1, w ∈ lw_tbl := fun w h => List.mem_append_right _ (List.mem_append_left _ h)
theorem inT_2 : ∀ w ∈ tables_1_2, w ∈ lw_tbl := fun w h => List.mem_append_right _ (List.mem_append_right _ (List.mem_append_left _ h))
theorem inT_3 : ∀ w ∈ tables_1_3, w ∈ lw_tbl := fun w h => List.mem_append_right _ (List.mem_append_right _ (List.mem_append_right _ (List.mem_append_left _ h)))
theorem inT_4 : ∀ w ∈ tables_1_4, w ∈ lw_tbl := fun w h => List.mem_append_right _ (List.mem_append_right _ (List.mem_append_right _ (List.mem_append_right _ (List.mem_append_left _ h))))
theorem inT_5 : ∀ w ∈ tables_1_5, w ∈ lw_tbl := fun w h => List.mem_append_right _ (List.mem_append_right _ (List.mem_append_right _ (List.mem_append_right _ (List.mem_append_right _ (List.mem_append_left _ h)))))
theorem inT_6 : ∀ w ∈ tables_1_6, w ∈ lw_tbl := fun w h => List.mem_append_right _ (List.mem_append_right _ (List.mem_append_right _ (List.mem_append_right _ (List.mem_append_right _ (List.mem_append_right _ (List.mem_append_left _ h))))))
theorem inT_7 : ∀ w ∈ tables_1_7, w ∈ lw_tbl := fun w h => List.mem_append_right _ (List.mem_append_right _ (List.mem_append_right _ (List.mem_append_right _ (List.mem_append_right _ (List.mem_append_right _ (List.mem_append_right _ (List.mem_append_left _ h)))))))
theorem inT_8 : ∀ w ∈ tables_1_8, w ∈ lw_tbl := fun w h => List.mem_append_right _ (List.mem_append_right _ (List.mem_append_right _ (List.mem_append_right _ (List.mem_append_right _ (List.mem_append_right _ (List.mem_append_right _ (List.mem_append_right _ h)))))))
set_option maxRecDepth 20000 in
theorem ok_X0 : clOK 0 RX0 TX0 7 := ⟨rfl, rfl, fun w hw => gt_in ((by decide +kernel : ∀ w ∈ u_ws RX0 TX0 7, w ∈ lw_tbl) w hw) (List.all_eq_true.mp (by decide +kernel : (u_ws RX0 TX0 7).all goodWord = true) w hw), tyX0_ok, nmX0, by decide +kernel⟩
set_option maxRecDepth 20000 in
theorem ok_X1 : clOK 1 RX1 TX1 2 := ⟨rfl, rfl, fun w hw => gt_in ((by decide +kernel : ∀ w ∈ u_ws RX1 TX1 2, w ∈ lw_tbl) w hw) (List.all_eq_true.mp (by decide +kernel : (u_ws RX1 TX1 2).all goodWord = true) w hw), tyX1_ok, nmX1, by decide +kernel⟩
set_option maxRecDepth 20000 in
theorem ok_X2 : clOK 2 RX2 TX2 8 := ⟨rfl, rfl, fun w hw => gt_in ((by decide +kernel : ∀ w ∈ u_ws RX2 TX2 8, w ∈ lw_tbl) w hw) (List.all_eq_true.mp (by decide +kernel : (u_ws RX2 TX2 8).all goodWord = true) w hw), tyX2_ok, nmX2, by decide +kernel⟩
set_option maxRecDepth 20000 in
theorem ok_X3 : clOK 3 RX3 TX3 8 := ⟨rfl, rfl, fun w hw => gt_in ((by decide +kernel : ∀ w ∈ u_ws RX3 TX3 8, w ∈ lw_tbl) w hw) (List.all_eq_true.mp (by decide +kernel : (u_ws RX3 TX3 8).all goodWord = true) w hw), tyX3_ok, nmX3, by decide +kernel⟩
set_option maxRecDepth 20000 in
theorem ok_X4 : clOK 4 RX4 TX4 5 := ⟨rfl, rfl, fun w hw => gt_in ((by decide +kernel : ∀ w ∈ u_ws RX4 TX4 5, w ∈ lw_tbl) w hw) (List.all_eq_true.mp (by decide +kernel : (u_ws RX4 TX4 5).all goodWord = true) w hw), tyX4_ok, nmX4, by decide +kernel⟩
set_option maxRecDepth 20000 in
theorem ok_X5 : clOK 5 RX5 TX5 3 := ⟨rfl, rfl, fun w hw => gt_in ((by decide +kernel : ∀ w ∈ u_ws RX5 TX5 3, w ∈ lw_tbl) w hw) (List.all_eq_true.mp (by decide +kernel : (u_ws RX5 TX5 3).all goodWord = true) w hw), tyX5_ok, nmX5, by decide +kernel⟩
set_option maxRecDepth 20000 in
theorem ok_X6 : clOK 6 RX6 TX6 14 := ⟨rfl, rfl, fun w hw => gt_in ((by decide +kernel : ∀ w ∈ u_ws RX6 TX6 14, w ∈ lw_tbl) w hw) (List.all_eq_true.mp (by decide +kernel : (u_ws RX6 TX6 14).all goodWord = true) w hw), tyX6_ok, nmX6, by decide +kernel⟩
set_option maxRecDepth 20000 in
theorem ok_X7 : clOK 7 RX7 TX7 3 := ⟨rfl, rfl, fun w hw => gt_in ((by decide +kernel : ∀ w ∈ u_ws RX7 TX7 3, w ∈ lw_tbl) w hw) (List.all_eq_true.mp (by decide +kernel : (u_ws RX7 TX7 3).all goodWord = true) w hw), tyX7_ok, nmX7, by decide +kernel⟩
set_option maxRecDepth 20000 in
theorem ok_X8 : clOK 8 RX8 TX8 3 := ⟨rfl, rfl, fun w hw => gt_in ((by decide +kernel : ∀ w ∈ u_ws RX8 TX8 3, w ∈ lw_tbl) w hw) (List.all_eq_true.mp (by decide +kernel : (u_ws RX8 TX8 3).all goodWord = true) w hw), tyX8_ok, nmX8, by decide +kernel⟩
set_option maxRecDepth 20000 in
theorem ok_X9 : clOK 9 RX9 TX9 4 := ⟨rfl, rfl, fun w hw => gt_in ((by decide +kernel : ∀ w ∈ u_ws RX9 TX9 4, w ∈ lw_tbl) w hw) (List.all_eq_true.mp (by decide +kernel : (u_ws RX9 TX9 4).all goodWord = true) w hw), tyX9_ok, nmX9, by decide +kernel⟩
set_option maxRecDepth 20000 in
theorem ok_X10 : clOK 10 RX10 TX10 9 := ⟨rfl, rfl, fun w hw => gt_in ((by decide +kernel : ∀ w ∈ u_ws RX10 TX10 9, w ∈ lw_tbl) w hw) (List.all_eq_true.mp (by decide +kernel : (u_ws RX10 TX10 9).all goodWord = true) w hw), tyX10_ok, nmX10, by decide +kernel⟩
set_option maxRecDepth 20000 in
theorem ok_X11 : clOK 11 RX11 TX11 17 := ⟨rfl, rfl, fun w hw => gt_in ((by decide +kernel : ∀ w ∈ u_ws RX11 TX11 17, w ∈ lw_tbl) w hw) (List.all_eq_true.mp (by decide +kernel : (u_ws RX11 TX11 17).all goodWord = true) w hw), tyX11_ok, nmX11, by decide +kernel⟩
set_option maxRecDepth 20000 in
theorem ok_X12 : clOK 12 RX12 TX12 50 := ⟨rfl, rfl, fun w hw => gt_in ((by decide +kernel : ∀ w ∈ u_ws RX12 TX12 50, w ∈ lw_tbl) w hw) (List.all_eq_true.mp (by decide +kernel : (u_ws RX12 TX12 50).all goodWord = true) w hw), tyX12_ok, nmX12, by decide +kernel⟩
abbrev mX11_init : MI := (yX11_init, cX11_init, 2, none)
abbrev mX4_init : MI := (yX4_init, cX4_init, 1, none)
abbrev mX2_init : MI := (yX2_init, cX2_init, 1, none)
abbrev mX0_init : MI := (yX0_init, cX0_init, 2, none)
abbrev mX1_init : MI := (yX1_init, cX1_init, 1, none)
abbrev mX3_init : MI := (yX3_init, cX3_init, 1, none)
abbrev mX5_init : MI := (yX5_init, cX5_init, 2, none)
abbrev mX6_init : MI := (yX6_init, cX6_init, 1, none)
abbrev mX9_init : MI := (yX9_init, cX9_init, 1, none)
abbrev mX7_init : MI := (yX7_init, cX7_init, 1, none)
abbrev mX8_init : MI := (yX8_init, cX8_init, 1, none)
abbrev mX10_init : MI := (yX10_init, cX10_init, 1, none)
abbrev mX11_point : MI := (yX11_point, cX11_point, 3, (some .int))
abbrev mX11_isKind : MI := (yX11_isKind, cX11_isKind, 1, (some .boolean))
abbrev mX11_within : MI := (yX11_within, cX11_within, 3, (some .boolean))
abbrev mX11_isWeight : MI := (yX11_isWeight, cX11_isWeight, 1, (some .boolean))
abbrev mX4_add : MI := (yX4_add, cX4_add, 3, (some .int))
abbrev mX11_line : MI := (yX11_line, cX11_line, 5, (some .int))
abbrev mX4_hasTwo : MI := (yX4_hasTwo, cX4_hasTwo, 3, (some .boolean))
abbrev mX4_has : MI := (yX4_has, cX4_has, 2, (some .boolean))
abbrev mX4_joined : MI := (yX4_joined, cX4_joined, 3, (some .boolean))
abbrev mX4_join : MI := (yX4_join, cX4_join, 4, none)
abbrev mX11_pointOf : MI := (yX11_pointOf, cX11_pointOf, 3, (some .int))
abbrev mX4_price : MI := (yX4_price, cX4_price, 2, (some .int))
abbrev mX4_degree : MI := (yX4_degree, cX4_degree, 2, (some .int))
abbrev mJ6_bitCount_0f7a4 : MI := (yJ6_bitCount_0f7a4, cJ6_bitCount_0f7a4, 1, (some .int))
abbrev mX11_priceBy : MI := (yX11_priceBy, cX11_priceBy, 5, (some .int))
abbrev mJ9_max_7cf53 : MI := (yJ9_max_7cf53, cJ9_max_7cf53, 2, (some .int))
abbrev mX11_change : MI := (yX11_change, cX11_change, 5, (some .int))
abbrev mX11_count : MI := (yX11_count, cX11_count, 2, (some .int))
abbrev mX4_lines : MI := (yX4_lines, cX4_lines, 3, (some .int))
abbrev mX4_lonely : MI := (yX4_lonely, cX4_lonely, 3, (some .int))
abbrev mX11_isCover : MI := (yX11_isCover, cX11_isCover, 2, (some .int))
abbrev mX4_hasAll : MI := (yX4_hasAll, cX4_hasAll, 2, (some .boolean))
abbrev mX4_all : MI := (yX4_all, cX4_all, 1, (some .int))
abbrev mX4_covers : MI := (yX4_covers, cX4_covers, 3, (some .boolean))
abbrev mX4_needsAll : MI := (yX4_needsAll, cX4_needsAll, 3, (some .boolean))
abbrev mX11_costOf : MI := (yX11_costOf, cX11_costOf, 2, (some .int))
abbrev mX4_priceOfAll : MI := (yX4_priceOfAll, cX4_priceOfAll, 4, (some .int))
abbrev mX11_fewest : MI := (yX11_fewest, cX11_fewest, 2, (some .int))
abbrev mX0_findFewest : MI := (yX0_findFewest, cX0_findFewest, 5, none)
abbrev mX0_spread : MI := (yX0_spread, cX0_spread, 4, none)
abbrev mJ6_numberOfTrailingZeros_0f7a4 : MI := (yJ6_numberOfTrailingZeros_0f7a4, cJ6_numberOfTrailingZeros_0f7a4, 2, (some .int))
abbrev mX0_coversWithout : MI := (yX0_coversWithout, cX0_coversWithout, 2, (some .boolean))
abbrev mX0_startWith : MI := (yX0_startWith, cX0_startWith, 3, none)
abbrev mX11_dear : MI := (yX11_dear, cX11_dear, 2, (some .int))
abbrev mX0_findCheapest : MI := (yX0_findCheapest, cX0_findCheapest, 5, none)
abbrev mX0_priceOf : MI := (yX0_priceOf, cX0_priceOf, 5, (some .int))
abbrev mX11_sized : MI := (yX11_sized, cX11_sized, 2, (some .int))
abbrev mX0_howManyOf : MI := (yX0_howManyOf, cX0_howManyOf, 8, (some .int))
abbrev mX11_bare : MI := (yX11_bare, cX11_bare, 2, (some .int))
abbrev mX0_findBare : MI := (yX0_findBare, cX0_findBare, 5, none)
abbrev mX11_share : MI := (yX11_share, cX11_share, 7, (some .long))
abbrev mX0_howMany : MI := (yX0_howMany, cX0_howMany, 5, (some .int))
abbrev mX11_halves : MI := (yX11_halves, cX11_halves, 2, (some .int))
abbrev mX2_settle : MI := (yX2_settle, cX2_settle, 11, none)
abbrev mX2_least : MI := (yX2_least, cX2_least, 3, (some .int))
abbrev mX2_mostPairs : MI := (yX2_mostPairs, cX2_mostPairs, 6, (some .int))
abbrev mJ7_fill_53178 : MI := (yJ7_fill_53178, cJ7_fill_53178, 4, none)
abbrev mX2_pairsOneMore : MI := (yX2_pairsOneMore, cX2_pairsOneMore, 11, (some .boolean))
abbrev mX2_shiftPairs : MI := (yX2_shiftPairs, cX2_shiftPairs, 6, none)
abbrev mX2_leastWith : MI := (yX2_leastWith, cX2_leastWith, 7, (some .int))
abbrev mX11_half : MI := (yX11_half, cX11_half, 2, (some .int))
abbrev mX11_mayHave : MI := (yX11_mayHave, cX11_mayHave, 2, (some .int))
abbrev mX2_possible : MI := (yX2_possible, cX2_possible, 9, (some .int))
abbrev mX11_mate : MI := (yX11_mate, cX11_mate, 2, (some .int))
abbrev mX2_firstMate : MI := (yX2_firstMate, cX2_firstMate, 9, (some .int))
abbrev mX2_leastMate : MI := (yX2_leastMate, cX2_leastMate, 6, (some .int))
abbrev mX11_persists : MI := (yX11_persists, cX11_persists, 2, (some .int))
abbrev mX0_fewestOf : MI := (yX0_fewestOf, cX0_fewestOf, 2, (some .int))
abbrev mX0_fewestIn : MI := (yX0_fewestIn, cX0_fewestIn, 7, (some .int))
abbrev mX4_busiest : MI := (yX4_busiest, cX4_busiest, 6, (some .int))
abbrev mJ9_min_7cf53 : MI := (yJ9_min_7cf53, cJ9_min_7cf53, 2, (some .int))
abbrev mX11_isCrown : MI := (yX11_isCrown, cX11_isCrown, 2, (some .int))
abbrev mX4_near : MI := (yX4_near, cX4_near, 4, (some .int))
abbrev mX1_isOne : MI := (yX1_isOne, cX1_isOne, 5, (some .boolean))
abbrev mX11_crowns : MI := (yX11_crowns, cX11_crowns, 2, (some .int))
abbrev mX1_find : MI := (yX1_find, cX1_find, 6, none)
abbrev mX11_kernel : MI := (yX11_kernel, cX11_kernel, 3, (some .int))
abbrev mX11_isK : MI := (yX11_isK, cX11_isK, 1, (some .boolean))
abbrev mX3_reduce : MI := (yX3_reduce, cX3_reduce, 4, none)
abbrev mX3_doesRound : MI := (yX3_doesRound, cX3_doesRound, 3, (some .boolean))
abbrev mX3_leastWith : MI := (yX3_leastWith, cX3_leastWith, 5, (some .int))
abbrev mX3_goes : MI := (yX3_goes, cX3_goes, 4, (some .boolean))
abbrev mX3_refuses : MI := (yX3_refuses, cX3_refuses, 1, (some .boolean))
abbrev mX11_round : MI := (yX11_round, cX11_round, 4, (some .int))
abbrev mX11_pack : MI := (yX11_pack, cX11_pack, 2, (some .int))
abbrev mX5_findBest : MI := (yX5_findBest, cX5_findBest, 4, none)
abbrev mX5_bestOf : MI := (yX5_bestOf, cX5_bestOf, 10, (some .int))
abbrev mX11_packs : MI := (yX11_packs, cX11_packs, 6, (some .int))
abbrev mX7_has : MI := (yX7_has, cX7_has, 2, (some .boolean))
abbrev mX7_isMissing : MI := (yX7_isMissing, cX7_isMissing, 2, (some .boolean))
abbrev mX5_canHold : MI := (yX5_canHold, cX5_canHold, 4, (some .boolean))
abbrev mX11_search : MI := (yX11_search, cX11_search, 3, (some .int))
abbrev mX6_run : MI := (yX6_run, cX6_run, 4, none)
abbrev mX6_begins : MI := (yX6_begins, cX6_begins, 12, none)
abbrev mX6_keep : MI := (yX6_keep, cX6_keep, 6, none)
abbrev mX11_node : MI := (yX11_node, cX11_node, 4, (some .int))
abbrev mX11_prove : MI := (yX11_prove, cX11_prove, 4, (some .int))
abbrev mX7_begin : MI := (yX7_begin, cX7_begin, 4, none)
abbrev mX7_put : MI := (yX7_put, cX7_put, 5, none)
abbrev mX11_proves : MI := (yX11_proves, cX11_proves, 4, (some .int))
abbrev mX6_firstWrong : MI := (yX6_firstWrong, cX6_firstWrong, 6, (some .int))
abbrev mX6_readsRight : MI := (yX6_readsRight, cX6_readsRight, 11, (some .boolean))
abbrev mX11_without : MI := (yX11_without, cX11_without, 2, (some .int))
abbrev mX11_cut : MI := (yX11_cut, cX11_cut, 7, (some .int))
abbrev mX4_become : MI := (yX4_become, cX4_become, 2, none)
abbrev mX11_joins : MI := (yX11_joins, cX11_joins, 6, (some .int))
abbrev mX11_pays : MI := (yX11_pays, cX11_pays, 4, (some .int))
abbrev mX4_payUpTo : MI := (yX4_payUpTo, cX4_payUpTo, 7, (some .int))
abbrev mX4_spent : MI := (yX4_spent, cX4_spent, 3, (some .int))
abbrev mX11_paid : MI := (yX11_paid, cX11_paid, 3, (some .int))
abbrev mX11_feed : MI := (yX11_feed, cX11_feed, 4, (some .int))
abbrev mX9_put : MI := (yX9_put, cX9_put, 2, none)
abbrev mX11_wipe : MI := (yX11_wipe, cX11_wipe, 2, (some .int))
abbrev mX11_text : MI := (yX11_text, cX11_text, 3, (some .int))
abbrev mX9_fault : MI := (yX9_fault, cX9_fault, 6, (some .int))
abbrev mX9_endOfToken : MI := (yX9_endOfToken, cX9_endOfToken, 3, (some .int))
abbrev mX9_isLetter : MI := (yX9_isLetter, cX9_isLetter, 1, (some .boolean))
abbrev mX9_isDigit : MI := (yX9_isDigit, cX9_isDigit, 1, (some .boolean))
abbrev mX9_behindToken : MI := (yX9_behindToken, cX9_behindToken, 7, (some .int))
abbrev mX9_behindOpening : MI := (yX9_behindOpening, cX9_behindOpening, 4, (some .int))
abbrev mX10_add : MI := (yX10_add, cX10_add, 2, (some .boolean))
abbrev mX9_behindClosing : MI := (yX9_behindClosing, cX9_behindClosing, 2, (some .int))
abbrev mX9_kindOf : MI := (yX9_kindOf, cX9_kindOf, 4, (some .int))
abbrev mX9_wordOf : MI := (yX9_wordOf, cX9_wordOf, 1, (some (.object "java/lang/String")))
abbrev mX9_says : MI := (yX9_says, cX9_says, 5, (some .boolean))
abbrev mJ0_length_8abf5 : MI := (yJ0_length_8abf5, cJ0_length_8abf5, 1, (some .int))
abbrev mJ0_coder_7d493 : MI := (yJ0_coder_7d493, cJ0_coder_7d493, 1, (some .byte))
abbrev mJ0_charAt_5068e : MI := (yJ0_charAt_5068e, cJ0_charAt_5068e, 2, (some .char))
abbrev mJ0_isLatin1_aae02 : MI := (yJ0_isLatin1_aae02, cJ0_isLatin1_aae02, 1, (some .boolean))
abbrev mJ1_charAt_3b067 : MI := (yJ1_charAt_3b067, cJ1_charAt_3b067, 2, (some .char))
abbrev mJ0_checkIndex_df160 : MI := (yJ0_checkIndex_df160, cJ0_checkIndex_df160, 2, none)
abbrev mJ3_checkIndex_8e157 : MI := (yJ3_checkIndex_8e157, cJ3_checkIndex_8e157, 3, (some .int))
abbrev mJ2_charAt_3b067 : MI := (yJ2_charAt_3b067, cJ2_charAt_3b067, 2, (some .char))
abbrev mJ2_checkIndex_2214a : MI := (yJ2_checkIndex_2214a, cJ2_checkIndex_2214a, 2, none)
abbrev mJ2_length_9d52b : MI := (yJ2_length_9d52b, cJ2_length_9d52b, 1, (some .int))
abbrev mJ2_getChar_3b067 : MI := (yJ2_getChar_3b067, cJ2_getChar_3b067, 2, (some .char))
abbrev mX10_lastIsOf : MI := (yX10_lastIsOf, cX10_lastIsOf, 2, none)
abbrev mX10_lastWeighs : MI := (yX10_lastWeighs, cX10_lastWeighs, 2, none)
abbrev mX11_tree : MI := (yX11_tree, cX11_tree, 2, (some .long))
abbrev mX10_leastSum : MI := (yX10_leastSum, cX10_leastSum, 2, (some .int))
abbrev mX10_sumUp : MI := (yX10_sumUp, cX10_sumUp, 5, none)
abbrev mX10_price : MI := (yX10_price, cX10_price, 4, (some .int))
abbrev mX10_manyOf : MI := (yX10_manyOf, cX10_manyOf, 3, (some .long))
abbrev mX10_howManyLeast : MI := (yX10_howManyLeast, cX10_howManyLeast, 2, (some .long))
abbrev mX10_howManyBare : MI := (yX10_howManyBare, cX10_howManyBare, 5, (some .long))
abbrev mJ7_fill_d0a16 : MI := (yJ7_fill_d0a16, cJ7_fill_d0a16, 5, none)
abbrev mX11_treeOf : MI := (yX11_treeOf, cX11_treeOf, 3, (some .int))
abbrev mX10_has : MI := (yX10_has, cX10_has, 2, (some .boolean))
abbrev mX10_under : MI := (yX10_under, cX10_under, 5, (some .int))
abbrev mJ13_bitCount_95d88 : MI := (yJ13_bitCount_95d88, cJ13_bitCount_95d88, 2, (some .int))
abbrev mX10_marks : MI := (yX10_marks, cX10_marks, 4, (some .long))
abbrev mX11_plant : MI := (yX11_plant, cX11_plant, 2, (some .int))
abbrev mX4_clear : MI := (yX4_clear, cX4_clear, 1, none)
abbrev mX11_seed : MI := (yX11_seed, cX11_seed, 3, (some .int))
abbrev mX11_deal : MI := (yX11_deal, cX11_deal, 3, (some .int))
abbrev mX4_becomeDealt : MI := (yX4_becomeDealt, cX4_becomeDealt, 7, (some .int))
abbrev mX4_drawn : MI := (yX4_drawn, cX4_drawn, 1, (some .int))
abbrev mX11_times : MI := (yX11_times, cX11_times, 8, (some .int))
abbrev mX11_sheet : MI := (yX11_sheet, cX11_sheet, 4, (some .int))
abbrev mX11_write : MI := (yX11_write, cX11_write, 5, (some .int))
abbrev mX7_refusal : MI := (yX7_refusal, cX7_refusal, 3, (some .int))
abbrev mX11_item : MI := (yX11_item, cX11_item, 4, (some .int))
abbrev mX11_copy : MI := (yX11_copy, cX11_copy, 6, (some .int))
abbrev mX7_hasRange : MI := (yX7_hasRange, cX7_hasRange, 4, (some .boolean))
abbrev mX11_load : MI := (yX11_load, cX11_load, 5, (some .int))
abbrev mX11_judge : MI := (yX11_judge, cX11_judge, 4, (some .int))
abbrev mX4_mayFollow : MI := (yX4_mayFollow, cX4_mayFollow, 4, (some .boolean))
abbrev mX11_shelf : MI := (yX11_shelf, cX11_shelf, 4, (some .int))
abbrev mX8_has : MI := (yX8_has, cX8_has, 2, (some .boolean))
abbrev mX8_holdPoint : MI := (yX8_holdPoint, cX8_holdPoint, 3, none)
abbrev mX8_holdRow : MI := (yX8_holdRow, cX8_holdRow, 4, none)
abbrev mX8_holdNothing : MI := (yX8_holdNothing, cX8_holdNothing, 2, none)
abbrev mX11_taken : MI := (yX11_taken, cX11_taken, 5, (some .int))
abbrev mX11_isUnderOrLike : MI := (yX11_isUnderOrLike, cX11_isUnderOrLike, 4, (some .boolean))
abbrev mX11_image : MI := (yX11_image, cX11_image, 1, (some .int))
abbrev mX11_back : MI := (yX11_back, cX11_back, 1, (some .int))
abbrev mX12_init : MI := (yX12_init, cX12_init, 1, none)
abbrev mX12_point : MI := (yX12_point, cX12_point, 3, (some .int))
abbrev mX12_in : MI := (yX12_in, cX12_in, 3, (some .boolean))
abbrev mX12_comes : MI := (yX12_comes, cX12_comes, 3, none)
abbrev mX12_line : MI := (yX12_line, cX12_line, 5, (some .int))
abbrev mX12_areTwo : MI := (yX12_areTwo, cX12_areTwo, 3, (some .boolean))
abbrev mX12_isPoint : MI := (yX12_isPoint, cX12_isPoint, 2, (some .boolean))
abbrev mX12_lays : MI := (yX12_lays, cX12_lays, 4, none)
abbrev mX12_pointOf : MI := (yX12_pointOf, cX12_pointOf, 3, (some .int))
abbrev mX12_costAt : MI := (yX12_costAt, cX12_costAt, 2, (some .int))
abbrev mX12_bits : MI := (yX12_bits, cX12_bits, 3, (some .int))
abbrev mX12_cost : MI := (yX12_cost, cX12_cost, 5, (some .int))
abbrev mX12_change : MI := (yX12_change, cX12_change, 5, (some .int))
abbrev mX12_count : MI := (yX12_count, cX12_count, 4, (some .int))
abbrev mX12_lineMany : MI := (yX12_lineMany, cX12_lineMany, 3, (some .int))
abbrev mX12_isCover : MI := (yX12_isCover, cX12_isCover, 2, (some .int))
abbrev mX12_isSet : MI := (yX12_isSet, cX12_isSet, 2, (some .boolean))
abbrev mX12_all : MI := (yX12_all, cX12_all, 1, (some .int))
abbrev mX12_isBare : MI := (yX12_isBare, cX12_isBare, 4, (some .boolean))
abbrev mX12_covers : MI := (yX12_covers, cX12_covers, 4, (some .boolean))
abbrev mX12_has : MI := (yX12_has, cX12_has, 2, (some .boolean))
abbrev mX12_costOf : MI := (yX12_costOf, cX12_costOf, 2, (some .int))
abbrev mX12_costs : MI := (yX12_costs, cX12_costs, 4, (some .int))
abbrev mX12_fewest : MI := (yX12_fewest, cX12_fewest, 8, (some .int))
abbrev mX12_least : MI := (yX12_least, cX12_least, 3, (some .int))
abbrev mX12_dear : MI := (yX12_dear, cX12_dear, 6, (some .int))
abbrev mX12_sized : MI := (yX12_sized, cX12_sized, 4, (some .int))
abbrev mX12_bare : MI := (yX12_bare, cX12_bare, 6, (some .int))
abbrev mX12_share : MI := (yX12_share, cX12_share, 7, (some .long))
abbrev mX12_gcd : MI := (yX12_gcd, cX12_gcd, 10, (some .long))
abbrev mX12_halves : MI := (yX12_halves, cX12_halves, 3, (some .int))
abbrev mX12_laysHalves : MI := (yX12_laysHalves, cX12_laysHalves, 4, (some .int))
abbrev mX12_leastHalves : MI := (yX12_leastHalves, cX12_leastHalves, 4, (some .int))
abbrev mX12_pairs : MI := (yX12_pairs, cX12_pairs, 4, (some .boolean))
abbrev mX12_gives : MI := (yX12_gives, cX12_gives, 9, (some .boolean))
abbrev mX12_mayGet : MI := (yX12_mayGet, cX12_mayGet, 6, (some .boolean))
abbrev mX12_halvesWith : MI := (yX12_halvesWith, cX12_halvesWith, 5, (some .int))
abbrev mX12_half : MI := (yX12_half, cX12_half, 3, (some .int))
abbrev mX12_mayHave : MI := (yX12_mayHave, cX12_mayHave, 5, (some .int))
abbrev mX12_mate : MI := (yX12_mate, cX12_mate, 4, (some .int))
abbrev mX12_pairsAll : MI := (yX12_pairsAll, cX12_pairsAll, 5, (some .boolean))
abbrev mX12_first : MI := (yX12_first, cX12_first, 2, (some .int))
abbrev mX12_persists : MI := (yX12_persists, cX12_persists, 7, (some .int))
abbrev mX12_isCrown : MI := (yX12_isCrown, cX12_isCrown, 2, (some .int))
abbrev mX12_nextTo : MI := (yX12_nextTo, cX12_nextTo, 4, (some .int))
abbrev mX12_isHeaded : MI := (yX12_isHeaded, cX12_isHeaded, 3, (some .boolean))
abbrev mX12_crowns : MI := (yX12_crowns, cX12_crowns, 5, (some .int))
abbrev mX12_kernel : MI := (yX12_kernel, cX12_kernel, 3, (some .int))
abbrev mX12_kernels : MI := (yX12_kernels, cX12_kernels, 3, none)
abbrev mX12_rules : MI := (yX12_rules, cX12_rules, 7, (some .boolean))
abbrev mX12_degree : MI := (yX12_degree, cX12_degree, 3, (some .int))
abbrev mX12_rule : MI := (yX12_rule, cX12_rule, 4, (some .boolean))
abbrev mX12_round : MI := (yX12_round, cX12_round, 4, (some .int))
abbrev mX12_pack : MI := (yX12_pack, cX12_pack, 7, (some .int))
abbrev mX12_packsTo : MI := (yX12_packsTo, cX12_packsTo, 6, none)
abbrev mX12_packs : MI := (yX12_packs, cX12_packs, 6, (some .int))
abbrev mX12_isSheet : MI := (yX12_isSheet, cX12_isSheet, 1, (some .boolean))
abbrev mX12_isPacked : MI := (yX12_isPacked, cX12_isPacked, 4, (some .boolean))
abbrev mX12_search : MI := (yX12_search, cX12_search, 4, (some .int))
abbrev mX12_searchFor : MI := (yX12_searchFor, cX12_searchFor, 3, (some .int))
abbrev mX12_searches : MI := (yX12_searches, cX12_searches, 11, (some .int))
abbrev mX12_branch : MI := (yX12_branch, cX12_branch, 4, (some .int))
abbrev mX12_node : MI := (yX12_node, cX12_node, 5, (some .int))
abbrev mX12_prove : MI := (yX12_prove, cX12_prove, 4, (some .int))
abbrev mX12_proves : MI := (yX12_proves, cX12_proves, 3, (some .int))
abbrev mX12_isTold : MI := (yX12_isTold, cX12_isTold, 8, (some .boolean))
abbrev mX12_without : MI := (yX12_without, cX12_without, 5, (some .int))
abbrev mX12_cut : MI := (yX12_cut, cX12_cut, 2, (some .int))
abbrev mX12_turning : MI := (yX12_turning, cX12_turning, 10, (some .int))
abbrev mX12_joins : MI := (yX12_joins, cX12_joins, 2, (some .int))
abbrev mX12_pays : MI := (yX12_pays, cX12_pays, 5, (some .int))
abbrev mX12_payments : MI := (yX12_payments, cX12_payments, 8, (some .int))
abbrev mX12_paid : MI := (yX12_paid, cX12_paid, 3, (some .int))
abbrev mX12_feed : MI := (yX12_feed, cX12_feed, 4, (some .int))
abbrev mX12_wipe : MI := (yX12_wipe, cX12_wipe, 2, (some .int))
abbrev mX12_text : MI := (yX12_text, cX12_text, 3, (some .int))
abbrev mX12_faultOf : MI := (yX12_faultOf, cX12_faultOf, 6, (some .int))
abbrev mX12_isFrom : MI := (yX12_isFrom, cX12_isFrom, 4, (some .boolean))
abbrev mX12_kindOf : MI := (yX12_kindOf, cX12_kindOf, 3, (some .int))
abbrev mX12_isWord : MI := (yX12_isWord, cX12_isWord, 10, (some .boolean))
abbrev mX12_tree : MI := (yX12_tree, cX12_tree, 3, (some .long))
abbrev mX12_bareOnes : MI := (yX12_bareOnes, cX12_bareOnes, 3, (some .long))
abbrev mX12_counts : MI := (yX12_counts, cX12_counts, 5, none)
abbrev mX12_costIn : MI := (yX12_costIn, cX12_costIn, 2, (some .int))
abbrev mX12_linesIn : MI := (yX12_linesIn, cX12_linesIn, 4, (some .int))
abbrev mX12_treeOf : MI := (yX12_treeOf, cX12_treeOf, 5, (some .int))
abbrev mX12_isUnder : MI := (yX12_isUnder, cX12_isUnder, 4, (some .boolean))
abbrev mX12_isMarked : MI := (yX12_isMarked, cX12_isMarked, 3, (some .boolean))
abbrev mX12_plant : MI := (yX12_plant, cX12_plant, 2, (some .int))
abbrev mX12_seed : MI := (yX12_seed, cX12_seed, 3, (some .int))
abbrev mX12_deal : MI := (yX12_deal, cX12_deal, 3, (some .int))
abbrev mX12_deals : MI := (yX12_deals, cX12_deals, 5, none)
abbrev mX12_draw : MI := (yX12_draw, cX12_draw, 1, (some .int))
abbrev mX12_times : MI := (yX12_times, cX12_times, 7, (some .int))
abbrev mX12_keeps : MI := (yX12_keeps, cX12_keeps, 3, none)
abbrev mX12_putsBack : MI := (yX12_putsBack, cX12_putsBack, 3, none)
abbrev mX12_sheet : MI := (yX12_sheet, cX12_sheet, 5, (some .int))
abbrev mX12_write : MI := (yX12_write, cX12_write, 5, (some .int))
abbrev mX12_wrongAt : MI := (yX12_wrongAt, cX12_wrongAt, 3, (some .int))
abbrev mX12_item : MI := (yX12_item, cX12_item, 4, (some .int))
abbrev mX12_copy : MI := (yX12_copy, cX12_copy, 9, (some .int))
abbrev mX12_load : MI := (yX12_load, cX12_load, 3, (some .int))
abbrev mX12_judge : MI := (yX12_judge, cX12_judge, 6, (some .int))
abbrev mX12_shelf : MI := (yX12_shelf, cX12_shelf, 4, (some .int))
abbrev mX12_isShelf : MI := (yX12_isShelf, cX12_isShelf, 1, (some .boolean))
abbrev mX12_taken : MI := (yX12_taken, cX12_taken, 4, (some .int))
abbrev mX12_over : MI := (yX12_over, cX12_over, 1, (some .int))
abbrev mX12_image : MI := (yX12_image, cX12_image, 1, (some .int))
abbrev mX12_back : MI := (yX12_back, cX12_back, 1, (some .int))
theorem M_J0_charAt_5068e : okM mJ0_charAt_5068e 1 := ⟨(gt_in (inT_4 _ (List.mem_of_getElem? (i := 211) (by decide +kernel))) (by decide +kernel)), by decide +kernel, (gt_in (inT_1 _ (List.mem_of_getElem? (i := 18) (by decide +kernel))) (by decide +kernel)), by decide +kernel, by decide⟩
theorem S_J0_charAt_5068e : Cond.selects mJ0_charAt_5068e.1.cls mJ0_charAt_5068e.1 mJ0_charAt_5068e.1 ∈ gt := (gt_in (inT_4 _ (List.mem_of_getElem? (i := 210) (by decide +kernel))) (by decide +kernel))
theorem M_J0_checkIndex_df160 : okM mJ0_checkIndex_df160 2 := ⟨(gt_in (inT_4 _ (List.mem_of_getElem? (i := 221) (by decide +kernel))) (by decide +kernel)), by decide +kernel, (gt_in (inT_1 _ (List.mem_of_getElem? (i := 18) (by decide +kernel))) (by decide +kernel)), by decide +kernel, by decide⟩
theorem M_J0_coder_7d493 : okM mJ0_coder_7d493 0 := ⟨(gt_in (inT_4 _ (List.mem_of_getElem? (i := 205) (by decide +kernel))) (by decide +kernel)), by decide +kernel, (gt_in (inT_1 _ (List.mem_of_getElem? (i := 18) (by decide +kernel))) (by decide +kernel)), by decide +kernel, by decide⟩
theorem S_J0_coder_7d493 : Cond.selects mJ0_coder_7d493.1.cls mJ0_coder_7d493.1 mJ0_coder_7d493.1 ∈ gt := (gt_in (inT_4 _ (List.mem_of_getElem? (i := 204) (by decide +kernel))) (by decide +kernel))
theorem M_J0_isLatin1_aae02 : okM mJ0_isLatin1_aae02 0 := ⟨(gt_in (inT_4 _ (List.mem_of_getElem? (i := 215) (by decide +kernel))) (by decide +kernel)), by decide +kernel, (gt_in (inT_1 _ (List.mem_of_getElem? (i := 18) (by decide +kernel))) (by decide +kernel)), by decide +kernel, by decide⟩
theorem S_J0_isLatin1_aae02 : Cond.selects mJ0_isLatin1_aae02.1.cls mJ0_isLatin1_aae02.1 mJ0_isLatin1_aae02.1 ∈ gt := (gt_in (inT_4 _ (List.mem_of_getElem? (i := 214) (by decide +kernel))) (by decide +kernel))
theorem M_J0_length_8abf5 : okM mJ0_length_8abf5 0 := ⟨(gt_in (inT_4 _ (List.mem_of_getElem? (i := 201) (by decide +kernel))) (by decide +kernel)), by decide +kernel, (gt_in (inT_1 _ (List.mem_of_getElem? (i := 18) (by decide +kernel))) (by decide +kernel)), by decide +kernel, by decide⟩
theorem S_J0_length_8abf5 : Cond.selects mJ0_length_8abf5.1.cls mJ0_length_8abf5.1 mJ0_length_8abf5.1 ∈ gt := (gt_in (inT_4 _ (List.mem_of_getElem? (i := 200) (by decide +kernel))) (by decide +kernel))
theorem M_J13_bitCount_95d88 : okM mJ13_bitCount_95d88 1 := ⟨(gt_in (inT_5 _ (List.mem_of_getElem? (i := 63) (by decide +kernel))) (by decide +kernel)), by decide +kernel, (gt_in (inT_1 _ (List.mem_of_getElem? (i := 22) (by decide +kernel))) (by decide +kernel)), by decide +kernel, by decide⟩
theorem M_J1_charAt_3b067 : okM mJ1_charAt_3b067 2 := ⟨(gt_in (inT_4 _ (List.mem_of_getElem? (i := 218) (by decide +kernel))) (by decide +kernel)), by decide +kernel, (gt_in (inT_1 _ (List.mem_of_getElem? (i := 19) (by decide +kernel))) (by decide +kernel)), by decide +kernel, by decide⟩
theorem M_J2_charAt_3b067 : okM mJ2_charAt_3b067 2 := ⟨(gt_in (inT_4 _ (List.mem_of_getElem? (i := 229) (by decide +kernel))) (by decide +kernel)), by decide +kernel, (gt_in (inT_1 _ (List.mem_of_getElem? (i := 21) (by decide +kernel))) (by decide +kernel)), by decide +kernel, by decide⟩
theorem M_J2_checkIndex_2214a : okM mJ2_checkIndex_2214a 2 := ⟨(gt_in (inT_4 _ (List.mem_of_getElem? (i := 232) (by decide +kernel))) (by decide +kernel)), by decide +kernel, (gt_in (inT_1 _ (List.mem_of_getElem? (i := 21) (by decide +kernel))) (by decide +kernel)), by decide +kernel, by decide⟩
theorem M_J2_getChar_3b067 : okM mJ2_getChar_3b067 2 := ⟨(gt_in (inT_4 _ (List.mem_of_getElem? (i := 239) (by decide +kernel))) (by decide +kernel)), by decide +kernel, (gt_in (inT_1 _ (List.mem_of_getElem? (i := 21) (by decide +kernel))) (by decide +kernel)), by decide +kernel, by decide⟩
theorem M_J2_length_9d52b : okM mJ2_length_9d52b 1 := ⟨(gt_in (inT_4 _ (List.mem_of_getElem? (i := 235) (by decide +kernel))) (by decide +kernel)), by decide +kernel, (gt_in (inT_1 _ (List.mem_of_getElem? (i := 21) (by decide +kernel))) (by decide +kernel)), by decide +kernel, by decide⟩
theorem M_J3_checkIndex_8e157 : okM mJ3_checkIndex_8e157 3 := ⟨(gt_in (inT_4 _ (List.mem_of_getElem? (i := 226) (by decide +kernel))) (by decide +kernel)), by decide +kernel, (gt_in (inT_1 _ (List.mem_of_getElem? (i := 20) (by decide +kernel))) (by decide +kernel)), by decide +kernel, by decide⟩
theorem M_J6_bitCount_0f7a4 : okM mJ6_bitCount_0f7a4 1 := ⟨(gt_in (inT_2 _ (List.mem_of_getElem? (i := 236) (by decide +kernel))) (by decide +kernel)), by decide +kernel, (gt_in (inT_1 _ (List.mem_of_getElem? (i := 14) (by decide +kernel))) (by decide +kernel)), by decide +kernel, by decide⟩
theorem M_J6_numberOfTrailingZeros_0f7a4 : okM mJ6_numberOfTrailingZeros_0f7a4 1 := ⟨(gt_in (inT_3 _ (List.mem_of_getElem? (i := 67) (by decide +kernel))) (by decide +kernel)), by decide +kernel, (gt_in (inT_1 _ (List.mem_of_getElem? (i := 14) (by decide +kernel))) (by decide +kernel)), by decide +kernel, by decide⟩
theorem M_J7_fill_53178 : okM mJ7_fill_53178 2 := ⟨(gt_in (inT_3 _ (List.mem_of_getElem? (i := 136) (by decide +kernel))) (by decide +kernel)), by decide +kernel, (gt_in (inT_1 _ (List.mem_of_getElem? (i := 16) (by decide +kernel))) (by decide +kernel)), by decide +kernel, by decide⟩
theorem M_J7_fill_d0a16 : okM mJ7_fill_d0a16 2 := ⟨(gt_in (inT_5 _ (List.mem_of_getElem? (i := 48) (by decide +kernel))) (by decide +kernel)), by decide +kernel, (gt_in (inT_1 _ (List.mem_of_getElem? (i := 16) (by decide +kernel))) (by decide +kernel)), by decide +kernel, by decide⟩
theorem M_X0_coversWithout : okM mX0_coversWithout 1 := ⟨(gt_in (inT_3 _ (List.mem_of_getElem? (i := 73) (by decide +kernel))) (by decide +kernel)), by decide +kernel, (gt_in (inT_1 _ (List.mem_of_getElem? (i := 4) (by decide +kernel))) (by decide +kernel)), by decide +kernel, by decide⟩
theorem S_X0_coversWithout : Cond.selects mX0_coversWithout.1.cls mX0_coversWithout.1 mX0_coversWithout.1 ∈ gt := (gt_in (List.mem_append_left _ (List.mem_of_getElem? (i := 0) (by decide +kernel))) (by decide +kernel))
theorem M_X0_fewestIn : okM mX0_fewestIn 3 := ⟨(gt_in (inT_3 _ (List.mem_of_getElem? (i := 185) (by decide +kernel))) (by decide +kernel)), by decide +kernel, (gt_in (inT_1 _ (List.mem_of_getElem? (i := 4) (by decide +kernel))) (by decide +kernel)), by decide +kernel, by decide⟩
theorem M_X0_fewestOf : okM mX0_fewestOf 2 := ⟨(gt_in (inT_3 _ (List.mem_of_getElem? (i := 182) (by decide +kernel))) (by decide +kernel)), by decide +kernel, (gt_in (inT_1 _ (List.mem_of_getElem? (i := 4) (by decide +kernel))) (by decide +kernel)), by decide +kernel, by decide⟩
theorem M_X0_findBare : okM mX0_findBare 1 := ⟨(gt_in (inT_3 _ (List.mem_of_getElem? (i := 108) (by decide +kernel))) (by decide +kernel)), by decide +kernel, (gt_in (inT_1 _ (List.mem_of_getElem? (i := 4) (by decide +kernel))) (by decide +kernel)), by decide +kernel, by decide⟩
theorem S_X0_findBare : Cond.selects mX0_findBare.1.cls mX0_findBare.1 mX0_findBare.1 ∈ gt := (gt_in (inT_3 _ (List.mem_of_getElem? (i := 107) (by decide +kernel))) (by decide +kernel))
theorem M_X0_findCheapest : okM mX0_findCheapest 1 := ⟨(gt_in (inT_3 _ (List.mem_of_getElem? (i := 86) (by decide +kernel))) (by decide +kernel)), by decide +kernel, (gt_in (inT_1 _ (List.mem_of_getElem? (i := 4) (by decide +kernel))) (by decide +kernel)), by decide +kernel, by decide⟩
theorem S_X0_findCheapest : Cond.selects mX0_findCheapest.1.cls mX0_findCheapest.1 mX0_findCheapest.1 ∈ gt := (gt_in (inT_3 _ (List.mem_of_getElem? (i := 85) (by decide +kernel))) (by decide +kernel))
theorem M_X0_findFewest : okM mX0_findFewest 1 := ⟨(gt_in (inT_3 _ (List.mem_of_getElem? (i := 59) (by decide +kernel))) (by decide +kernel)), by decide +kernel, (gt_in (inT_1 _ (List.mem_of_getElem? (i := 4) (by decide +kernel))) (by decide +kernel)), by decide +kernel, by decide⟩
theorem S_X0_findFewest : Cond.selects mX0_findFewest.1.cls mX0_findFewest.1 mX0_findFewest.1 ∈ gt := (gt_in (inT_3 _ (List.mem_of_getElem? (i := 58) (by decide +kernel))) (by decide +kernel))
theorem M_X0_howMany : okM mX0_howMany 1 := ⟨(gt_in (inT_3 _ (List.mem_of_getElem? (i := 117) (by decide +kernel))) (by decide +kernel)), by decide +kernel, (gt_in (inT_1 _ (List.mem_of_getElem? (i := 4) (by decide +kernel))) (by decide +kernel)), by decide +kernel, by decide⟩
theorem S_X0_howMany : Cond.selects mX0_howMany.1.cls mX0_howMany.1 mX0_howMany.1 ∈ gt := (gt_in (inT_3 _ (List.mem_of_getElem? (i := 116) (by decide +kernel))) (by decide +kernel))
theorem M_X0_howManyOf : okM mX0_howManyOf 4 := ⟨(gt_in (inT_3 _ (List.mem_of_getElem? (i := 100) (by decide +kernel))) (by decide +kernel)), by decide +kernel, (gt_in (inT_1 _ (List.mem_of_getElem? (i := 4) (by decide +kernel))) (by decide +kernel)), by decide +kernel, by decide⟩
theorem S_X0_howManyOf : Cond.selects mX0_howManyOf.1.cls mX0_howManyOf.1 mX0_howManyOf.1 ∈ gt := (gt_in (inT_3 _ (List.mem_of_getElem? (i := 99) (by decide +kernel))) (by decide +kernel))
theorem M_X0_priceOf : okM mX0_priceOf 2 := ⟨(gt_in (inT_3 _ (List.mem_of_getElem? (i := 92) (by decide +kernel))) (by decide +kernel)), by decide +kernel, (gt_in (inT_1 _ (List.mem_of_getElem? (i := 4) (by decide +kernel))) (by decide +kernel)), by decide +kernel, by decide⟩
theorem S_X0_priceOf : Cond.selects mX0_priceOf.1.cls mX0_priceOf.1 mX0_priceOf.1 ∈ gt := (gt_in (List.mem_append_left _ (List.mem_of_getElem? (i := 2) (by decide +kernel))) (by decide +kernel))
theorem M_X0_spread : okM mX0_spread 1 := ⟨(gt_in (inT_3 _ (List.mem_of_getElem? (i := 64) (by decide +kernel))) (by decide +kernel)), by decide +kernel, (gt_in (inT_1 _ (List.mem_of_getElem? (i := 4) (by decide +kernel))) (by decide +kernel)), by decide +kernel, by decide⟩
theorem S_X0_spread : Cond.selects mX0_spread.1.cls mX0_spread.1 mX0_spread.1 ∈ gt := (gt_in (inT_3 _ (List.mem_of_getElem? (i := 63) (by decide +kernel))) (by decide +kernel))
theorem M_X0_startWith : okM mX0_startWith 2 := ⟨(gt_in (inT_3 _ (List.mem_of_getElem? (i := 77) (by decide +kernel))) (by decide +kernel)), by decide +kernel, (gt_in (inT_1 _ (List.mem_of_getElem? (i := 4) (by decide +kernel))) (by decide +kernel)), by decide +kernel, by decide⟩
theorem S_X0_startWith : Cond.selects mX0_startWith.1.cls mX0_startWith.1 mX0_startWith.1 ∈ gt := (gt_in (List.mem_append_left _ (List.mem_of_getElem? (i := 1) (by decide +kernel))) (by decide +kernel))
theorem M_X10_add : okM mX10_add 1 := ⟨(gt_in (inT_4 _ (List.mem_of_getElem? (i := 176) (by decide +kernel))) (by decide +kernel)), by decide +kernel, (gt_in (inT_1 _ (List.mem_of_getElem? (i := 12) (by decide +kernel))) (by decide +kernel)), by decide +kernel, by decide⟩
theorem S_X10_add : Cond.selects mX10_add.1.cls mX10_add.1 mX10_add.1 ∈ gt := (gt_in (inT_4 _ (List.mem_of_getElem? (i := 175) (by decide +kernel))) (by decide +kernel))
theorem M_X10_has : okM mX10_has 1 := ⟨(gt_in (inT_5 _ (List.mem_of_getElem? (i := 56) (by decide +kernel))) (by decide +kernel)), by decide +kernel, (gt_in (inT_1 _ (List.mem_of_getElem? (i := 12) (by decide +kernel))) (by decide +kernel)), by decide +kernel, by decide⟩
theorem S_X10_has : Cond.selects mX10_has.1.cls mX10_has.1 mX10_has.1 ∈ gt := (gt_in (inT_5 _ (List.mem_of_getElem? (i := 55) (by decide +kernel))) (by decide +kernel))
theorem M_X10_howManyBare : okM mX10_howManyBare 0 := ⟨(gt_in (inT_5 _ (List.mem_of_getElem? (i := 45) (by decide +kernel))) (by decide +kernel)), by decide +kernel, (gt_in (inT_1 _ (List.mem_of_getElem? (i := 12) (by decide +kernel))) (by decide +kernel)), by decide +kernel, by decide⟩
theorem S_X10_howManyBare : Cond.selects mX10_howManyBare.1.cls mX10_howManyBare.1 mX10_howManyBare.1 ∈ gt := (gt_in (inT_5 _ (List.mem_of_getElem? (i := 44) (by decide +kernel))) (by decide +kernel))
theorem M_X10_howManyLeast : okM mX10_howManyLeast 1 := ⟨(gt_in (inT_5 _ (List.mem_of_getElem? (i := 41) (by decide +kernel))) (by decide +kernel)), by decide +kernel, (gt_in (inT_1 _ (List.mem_of_getElem? (i := 12) (by decide +kernel))) (by decide +kernel)), by decide +kernel, by decide⟩
theorem S_X10_howManyLeast : Cond.selects mX10_howManyLeast.1.cls mX10_howManyLeast.1 mX10_howManyLeast.1 ∈ gt := (gt_in (inT_5 _ (List.mem_of_getElem? (i := 40) (by decide +kernel))) (by decide +kernel))
theorem M_X10_lastIsOf : okM mX10_lastIsOf 1 := ⟨(gt_in (inT_5 _ (List.mem_of_getElem? (i := 9) (by decide +kernel))) (by decide +kernel)), by decide +kernel, (gt_in (inT_1 _ (List.mem_of_getElem? (i := 12) (by decide +kernel))) (by decide +kernel)), by decide +kernel, by decide⟩
theorem S_X10_lastIsOf : Cond.selects mX10_lastIsOf.1.cls mX10_lastIsOf.1 mX10_lastIsOf.1 ∈ gt := (gt_in (inT_5 _ (List.mem_of_getElem? (i := 8) (by decide +kernel))) (by decide +kernel))
theorem M_X10_lastWeighs : okM mX10_lastWeighs 1 := ⟨(gt_in (inT_5 _ (List.mem_of_getElem? (i := 13) (by decide +kernel))) (by decide +kernel)), by decide +kernel, (gt_in (inT_1 _ (List.mem_of_getElem? (i := 12) (by decide +kernel))) (by decide +kernel)), by decide +kernel, by decide⟩
theorem S_X10_lastWeighs : Cond.selects mX10_lastWeighs.1.cls mX10_lastWeighs.1 mX10_lastWeighs.1 ∈ gt := (gt_in (inT_5 _ (List.mem_of_getElem? (i := 12) (by decide +kernel))) (by decide +kernel))
theorem M_X10_leastSum : okM mX10_leastSum 1 := ⟨(gt_in (inT_5 _ (List.mem_of_getElem? (i := 23) (by decide +kernel))) (by decide +kernel)), by decide +kernel, (gt_in (inT_1 _ (List.mem_of_getElem? (i := 12) (by decide +kernel))) (by decide +kernel)), by decide +kernel, by decide⟩
theorem S_X10_leastSum : Cond.selects mX10_leastSum.1.cls mX10_leastSum.1 mX10_leastSum.1 ∈ gt := (gt_in (inT_5 _ (List.mem_of_getElem? (i := 22) (by decide +kernel))) (by decide +kernel))
theorem M_X10_manyOf : okM mX10_manyOf 2 := ⟨(gt_in (inT_5 _ (List.mem_of_getElem? (i := 37) (by decide +kernel))) (by decide +kernel)), by decide +kernel, (gt_in (inT_1 _ (List.mem_of_getElem? (i := 12) (by decide +kernel))) (by decide +kernel)), by decide +kernel, by decide⟩
theorem S_X10_manyOf : Cond.selects mX10_manyOf.1.cls mX10_manyOf.1 mX10_manyOf.1 ∈ gt := (gt_in (List.mem_append_left _ (List.mem_of_getElem? (i := 21) (by decide +kernel))) (by decide +kernel))
theorem M_X10_marks : okM mX10_marks 0 := ⟨(gt_in (inT_5 _ (List.mem_of_getElem? (i := 71) (by decide +kernel))) (by decide +kernel)), by decide +kernel, (gt_in (inT_1 _ (List.mem_of_getElem? (i := 12) (by decide +kernel))) (by decide +kernel)), by decide +kernel, by decide⟩
theorem S_X10_marks : Cond.selects mX10_marks.1.cls mX10_marks.1 mX10_marks.1 ∈ gt := (gt_in (inT_5 _ (List.mem_of_getElem? (i := 70) (by decide +kernel))) (by decide +kernel))
theorem M_X10_price : okM mX10_price 1 := ⟨(gt_in (inT_5 _ (List.mem_of_getElem? (i := 31) (by decide +kernel))) (by decide +kernel)), by decide +kernel, (gt_in (inT_1 _ (List.mem_of_getElem? (i := 12) (by decide +kernel))) (by decide +kernel)), by decide +kernel, by decide⟩
theorem S_X10_price : Cond.selects mX10_price.1.cls mX10_price.1 mX10_price.1 ∈ gt := (gt_in (inT_5 _ (List.mem_of_getElem? (i := 30) (by decide +kernel))) (by decide +kernel))
theorem M_X10_sumUp : okM mX10_sumUp 1 := ⟨(gt_in (inT_5 _ (List.mem_of_getElem? (i := 27) (by decide +kernel))) (by decide +kernel)), by decide +kernel, (gt_in (inT_1 _ (List.mem_of_getElem? (i := 12) (by decide +kernel))) (by decide +kernel)), by decide +kernel, by decide⟩
theorem S_X10_sumUp : Cond.selects mX10_sumUp.1.cls mX10_sumUp.1 mX10_sumUp.1 ∈ gt := (gt_in (List.mem_append_left _ (List.mem_of_getElem? (i := 20) (by decide +kernel))) (by decide +kernel))
theorem M_X10_under : okM mX10_under 1 := ⟨(gt_in (inT_5 _ (List.mem_of_getElem? (i := 60) (by decide +kernel))) (by decide +kernel)), by decide +kernel, (gt_in (inT_1 _ (List.mem_of_getElem? (i := 12) (by decide +kernel))) (by decide +kernel)), by decide +kernel, by decide⟩
theorem S_X10_under : Cond.selects mX10_under.1.cls mX10_under.1 mX10_under.1 ∈ gt := (gt_in (inT_5 _ (List.mem_of_getElem? (i := 59) (by decide +kernel))) (by decide +kernel))
theorem M_X11_back : okM mX11_back 0 := ⟨(gt_in (inT_5 _ (List.mem_of_getElem? (i := 181) (by decide +kernel))) (by decide +kernel)), by decide +kernel, (gt_in (inT_1 _ (List.mem_of_getElem? (i := 1) (by decide +kernel))) (by decide +kernel)), by decide +kernel, by decide⟩
theorem S_X11_back : Cond.selects mX11_back.1.cls mX11_back.1 mX11_back.1 ∈ gt := (gt_in (inT_5 _ (List.mem_of_getElem? (i := 180) (by decide +kernel))) (by decide +kernel))
theorem M_X11_bare : okM mX11_bare 1 := ⟨(gt_in (inT_3 _ (List.mem_of_getElem? (i := 104) (by decide +kernel))) (by decide +kernel)), by decide +kernel, (gt_in (inT_1 _ (List.mem_of_getElem? (i := 1) (by decide +kernel))) (by decide +kernel)), by decide +kernel, by decide⟩
theorem S_X11_bare : Cond.selects mX11_bare.1.cls mX11_bare.1 mX11_bare.1 ∈ gt := (gt_in (inT_3 _ (List.mem_of_getElem? (i := 103) (by decide +kernel))) (by decide +kernel))
theorem M_X11_change : okM mX11_change 3 := ⟨(gt_in (inT_3 _ (List.mem_of_getElem? (i := 10) (by decide +kernel))) (by decide +kernel)), by decide +kernel, (gt_in (inT_1 _ (List.mem_of_getElem? (i := 1) (by decide +kernel))) (by decide +kernel)), by decide +kernel, by decide⟩
theorem S_X11_change : Cond.selects mX11_change.1.cls mX11_change.1 mX11_change.1 ∈ gt := (gt_in (inT_3 _ (List.mem_of_getElem? (i := 9) (by decide +kernel))) (by decide +kernel))
theorem M_X11_copy : okM mX11_copy 5 := ⟨(gt_in (inT_5 _ (List.mem_of_getElem? (i := 125) (by decide +kernel))) (by decide +kernel)), by decide +kernel, (gt_in (inT_1 _ (List.mem_of_getElem? (i := 1) (by decide +kernel))) (by decide +kernel)), by decide +kernel, by decide⟩
theorem S_X11_copy : Cond.selects mX11_copy.1.cls mX11_copy.1 mX11_copy.1 ∈ gt := (gt_in (inT_5 _ (List.mem_of_getElem? (i := 124) (by decide +kernel))) (by decide +kernel))
theorem M_X11_costOf : okM mX11_costOf 1 := ⟨(gt_in (inT_3 _ (List.mem_of_getElem? (i := 46) (by decide +kernel))) (by decide +kernel)), by decide +kernel, (gt_in (inT_1 _ (List.mem_of_getElem? (i := 1) (by decide +kernel))) (by decide +kernel)), by decide +kernel, by decide⟩
theorem S_X11_costOf : Cond.selects mX11_costOf.1.cls mX11_costOf.1 mX11_costOf.1 ∈ gt := (gt_in (inT_3 _ (List.mem_of_getElem? (i := 45) (by decide +kernel))) (by decide +kernel))
theorem M_X11_count : okM mX11_count 1 := ⟨(gt_in (inT_3 _ (List.mem_of_getElem? (i := 14) (by decide +kernel))) (by decide +kernel)), by decide +kernel, (gt_in (inT_1 _ (List.mem_of_getElem? (i := 1) (by decide +kernel))) (by decide +kernel)), by decide +kernel, by decide⟩
theorem S_X11_count : Cond.selects mX11_count.1.cls mX11_count.1 mX11_count.1 ∈ gt := (gt_in (inT_3 _ (List.mem_of_getElem? (i := 13) (by decide +kernel))) (by decide +kernel))
theorem M_X11_crowns : okM mX11_crowns 1 := ⟨(gt_in (inT_3 _ (List.mem_of_getElem? (i := 208) (by decide +kernel))) (by decide +kernel)), by decide +kernel, (gt_in (inT_1 _ (List.mem_of_getElem? (i := 1) (by decide +kernel))) (by decide +kernel)), by decide +kernel, by decide⟩
theorem S_X11_crowns : Cond.selects mX11_crowns.1.cls mX11_crowns.1 mX11_crowns.1 ∈ gt := (gt_in (inT_3 _ (List.mem_of_getElem? (i := 207) (by decide +kernel))) (by decide +kernel))
theorem M_X11_cut : okM mX11_cut 1 := ⟨(gt_in (inT_4 _ (List.mem_of_getElem? (i := 103) (by decide +kernel))) (by decide +kernel)), by decide +kernel, (gt_in (inT_1 _ (List.mem_of_getElem? (i := 1) (by decide +kernel))) (by decide +kernel)), by decide +kernel, by decide⟩
theorem S_X11_cut : Cond.selects mX11_cut.1.cls mX11_cut.1 mX11_cut.1 ∈ gt := (gt_in (inT_4 _ (List.mem_of_getElem? (i := 102) (by decide +kernel))) (by decide +kernel))
theorem M_X11_deal : okM mX11_deal 2 := ⟨(gt_in (inT_5 _ (List.mem_of_getElem? (i := 88) (by decide +kernel))) (by decide +kernel)), by decide +kernel, (gt_in (inT_1 _ (List.mem_of_getElem? (i := 1) (by decide +kernel))) (by decide +kernel)), by decide +kernel, by decide⟩
theorem S_X11_deal : Cond.selects mX11_deal.1.cls mX11_deal.1 mX11_deal.1 ∈ gt := (gt_in (inT_5 _ (List.mem_of_getElem? (i := 87) (by decide +kernel))) (by decide +kernel))
theorem M_X11_dear : okM mX11_dear 1 := ⟨(gt_in (inT_3 _ (List.mem_of_getElem? (i := 82) (by decide +kernel))) (by decide +kernel)), by decide +kernel, (gt_in (inT_1 _ (List.mem_of_getElem? (i := 1) (by decide +kernel))) (by decide +kernel)), by decide +kernel, by decide⟩
theorem S_X11_dear : Cond.selects mX11_dear.1.cls mX11_dear.1 mX11_dear.1 ∈ gt := (gt_in (inT_3 _ (List.mem_of_getElem? (i := 81) (by decide +kernel))) (by decide +kernel))
theorem M_X11_feed : okM mX11_feed 2 := ⟨(gt_in (inT_4 _ (List.mem_of_getElem? (i := 138) (by decide +kernel))) (by decide +kernel)), by decide +kernel, (gt_in (inT_1 _ (List.mem_of_getElem? (i := 1) (by decide +kernel))) (by decide +kernel)), by decide +kernel, by decide⟩
theorem S_X11_feed : Cond.selects mX11_feed.1.cls mX11_feed.1 mX11_feed.1 ∈ gt := (gt_in (inT_4 _ (List.mem_of_getElem? (i := 137) (by decide +kernel))) (by decide +kernel))
theorem M_X11_fewest : okM mX11_fewest 1 := ⟨(gt_in (inT_3 _ (List.mem_of_getElem? (i := 55) (by decide +kernel))) (by decide +kernel)), by decide +kernel, (gt_in (inT_1 _ (List.mem_of_getElem? (i := 1) (by decide +kernel))) (by decide +kernel)), by decide +kernel, by decide⟩
theorem S_X11_fewest : Cond.selects mX11_fewest.1.cls mX11_fewest.1 mX11_fewest.1 ∈ gt := (gt_in (inT_3 _ (List.mem_of_getElem? (i := 54) (by decide +kernel))) (by decide +kernel))
theorem M_X11_half : okM mX11_half 1 := ⟨(gt_in (inT_3 _ (List.mem_of_getElem? (i := 155) (by decide +kernel))) (by decide +kernel)), by decide +kernel, (gt_in (inT_1 _ (List.mem_of_getElem? (i := 1) (by decide +kernel))) (by decide +kernel)), by decide +kernel, by decide⟩
theorem S_X11_half : Cond.selects mX11_half.1.cls mX11_half.1 mX11_half.1 ∈ gt := (gt_in (inT_3 _ (List.mem_of_getElem? (i := 154) (by decide +kernel))) (by decide +kernel))
theorem M_X11_halves : okM mX11_halves 1 := ⟨(gt_in (inT_3 _ (List.mem_of_getElem? (i := 121) (by decide +kernel))) (by decide +kernel)), by decide +kernel, (gt_in (inT_1 _ (List.mem_of_getElem? (i := 1) (by decide +kernel))) (by decide +kernel)), by decide +kernel, by decide⟩
theorem S_X11_halves : Cond.selects mX11_halves.1.cls mX11_halves.1 mX11_halves.1 ∈ gt := (gt_in (inT_3 _ (List.mem_of_getElem? (i := 120) (by decide +kernel))) (by decide +kernel))
theorem M_X11_image : okM mX11_image 0 := ⟨(gt_in (inT_5 _ (List.mem_of_getElem? (i := 177) (by decide +kernel))) (by decide +kernel)), by decide +kernel, (gt_in (inT_1 _ (List.mem_of_getElem? (i := 1) (by decide +kernel))) (by decide +kernel)), by decide +kernel, by decide⟩
theorem S_X11_image : Cond.selects mX11_image.1.cls mX11_image.1 mX11_image.1 ∈ gt := (gt_in (inT_5 _ (List.mem_of_getElem? (i := 176) (by decide +kernel))) (by decide +kernel))
theorem M_X11_isCover : okM mX11_isCover 1 := ⟨(gt_in (inT_3 _ (List.mem_of_getElem? (i := 26) (by decide +kernel))) (by decide +kernel)), by decide +kernel, (gt_in (inT_1 _ (List.mem_of_getElem? (i := 1) (by decide +kernel))) (by decide +kernel)), by decide +kernel, by decide⟩
theorem S_X11_isCover : Cond.selects mX11_isCover.1.cls mX11_isCover.1 mX11_isCover.1 ∈ gt := (gt_in (inT_3 _ (List.mem_of_getElem? (i := 25) (by decide +kernel))) (by decide +kernel))
theorem M_X11_isCrown : okM mX11_isCrown 1 := ⟨(gt_in (inT_3 _ (List.mem_of_getElem? (i := 195) (by decide +kernel))) (by decide +kernel)), by decide +kernel, (gt_in (inT_1 _ (List.mem_of_getElem? (i := 1) (by decide +kernel))) (by decide +kernel)), by decide +kernel, by decide⟩
theorem S_X11_isCrown : Cond.selects mX11_isCrown.1.cls mX11_isCrown.1 mX11_isCrown.1 ∈ gt := (gt_in (inT_3 _ (List.mem_of_getElem? (i := 194) (by decide +kernel))) (by decide +kernel))
theorem M_X11_isK : okM mX11_isK 1 := ⟨(gt_in (inT_3 _ (List.mem_of_getElem? (i := 222) (by decide +kernel))) (by decide +kernel)), by decide +kernel, (gt_in (inT_1 _ (List.mem_of_getElem? (i := 1) (by decide +kernel))) (by decide +kernel)), by decide +kernel, by decide⟩
theorem M_X11_isKind : okM mX11_isKind 1 := ⟨(gt_in (inT_2 _ (List.mem_of_getElem? (i := 189) (by decide +kernel))) (by decide +kernel)), by decide +kernel, (gt_in (inT_1 _ (List.mem_of_getElem? (i := 1) (by decide +kernel))) (by decide +kernel)), by decide +kernel, by decide⟩
theorem M_X11_isUnderOrLike : okM mX11_isUnderOrLike 2 := ⟨(gt_in (inT_5 _ (List.mem_of_getElem? (i := 171) (by decide +kernel))) (by decide +kernel)), by decide +kernel, (gt_in (inT_1 _ (List.mem_of_getElem? (i := 1) (by decide +kernel))) (by decide +kernel)), by decide +kernel, by decide⟩
theorem M_X11_isWeight : okM mX11_isWeight 1 := ⟨(gt_in (inT_2 _ (List.mem_of_getElem? (i := 195) (by decide +kernel))) (by decide +kernel)), by decide +kernel, (gt_in (inT_1 _ (List.mem_of_getElem? (i := 1) (by decide +kernel))) (by decide +kernel)), by decide +kernel, by decide⟩
theorem M_X11_item : okM mX11_item 2 := ⟨(gt_in (inT_5 _ (List.mem_of_getElem? (i := 121) (by decide +kernel))) (by decide +kernel)), by decide +kernel, (gt_in (inT_1 _ (List.mem_of_getElem? (i := 1) (by decide +kernel))) (by decide +kernel)), by decide +kernel, by decide⟩
theorem S_X11_item : Cond.selects mX11_item.1.cls mX11_item.1 mX11_item.1 ∈ gt := (gt_in (inT_5 _ (List.mem_of_getElem? (i := 120) (by decide +kernel))) (by decide +kernel))
theorem M_X11_joins : okM mX11_joins 1 := ⟨(gt_in (inT_4 _ (List.mem_of_getElem? (i := 114) (by decide +kernel))) (by decide +kernel)), by decide +kernel, (gt_in (inT_1 _ (List.mem_of_getElem? (i := 1) (by decide +kernel))) (by decide +kernel)), by decide +kernel, by decide⟩
theorem S_X11_joins : Cond.selects mX11_joins.1.cls mX11_joins.1 mX11_joins.1 ∈ gt := (gt_in (inT_4 _ (List.mem_of_getElem? (i := 113) (by decide +kernel))) (by decide +kernel))
theorem M_X11_judge : okM mX11_judge 1 := ⟨(gt_in (inT_5 _ (List.mem_of_getElem? (i := 138) (by decide +kernel))) (by decide +kernel)), by decide +kernel, (gt_in (inT_1 _ (List.mem_of_getElem? (i := 1) (by decide +kernel))) (by decide +kernel)), by decide +kernel, by decide⟩
theorem S_X11_judge : Cond.selects mX11_judge.1.cls mX11_judge.1 mX11_judge.1 ∈ gt := (gt_in (inT_5 _ (List.mem_of_getElem? (i := 137) (by decide +kernel))) (by decide +kernel))
theorem M_X11_kernel : okM mX11_kernel 2 := ⟨(gt_in (inT_3 _ (List.mem_of_getElem? (i := 219) (by decide +kernel))) (by decide +kernel)), by decide +kernel, (gt_in (inT_1 _ (List.mem_of_getElem? (i := 1) (by decide +kernel))) (by decide +kernel)), by decide +kernel, by decide⟩
theorem S_X11_kernel : Cond.selects mX11_kernel.1.cls mX11_kernel.1 mX11_kernel.1 ∈ gt := (gt_in (inT_3 _ (List.mem_of_getElem? (i := 218) (by decide +kernel))) (by decide +kernel))
theorem M_X11_line : okM mX11_line 3 := ⟨(gt_in (inT_2 _ (List.mem_of_getElem? (i := 203) (by decide +kernel))) (by decide +kernel)), by decide +kernel, (gt_in (inT_1 _ (List.mem_of_getElem? (i := 1) (by decide +kernel))) (by decide +kernel)), by decide +kernel, by decide⟩
theorem S_X11_line : Cond.selects mX11_line.1.cls mX11_line.1 mX11_line.1 ∈ gt := (gt_in (inT_2 _ (List.mem_of_getElem? (i := 202) (by decide +kernel))) (by decide +kernel))
theorem M_X11_load : okM mX11_load 1 := ⟨(gt_in (inT_5 _ (List.mem_of_getElem? (i := 134) (by decide +kernel))) (by decide +kernel)), by decide +kernel, (gt_in (inT_1 _ (List.mem_of_getElem? (i := 1) (by decide +kernel))) (by decide +kernel)), by decide +kernel, by decide⟩
theorem S_X11_load : Cond.selects mX11_load.1.cls mX11_load.1 mX11_load.1 ∈ gt := (gt_in (inT_5 _ (List.mem_of_getElem? (i := 133) (by decide +kernel))) (by decide +kernel))
theorem M_X11_mate : okM mX11_mate 1 := ⟨(gt_in (inT_3 _ (List.mem_of_getElem? (i := 167) (by decide +kernel))) (by decide +kernel)), by decide +kernel, (gt_in (inT_1 _ (List.mem_of_getElem? (i := 1) (by decide +kernel))) (by decide +kernel)), by decide +kernel, by decide⟩
theorem S_X11_mate : Cond.selects mX11_mate.1.cls mX11_mate.1 mX11_mate.1 ∈ gt := (gt_in (inT_3 _ (List.mem_of_getElem? (i := 166) (by decide +kernel))) (by decide +kernel))
theorem M_X11_mayHave : okM mX11_mayHave 1 := ⟨(gt_in (inT_3 _ (List.mem_of_getElem? (i := 159) (by decide +kernel))) (by decide +kernel)), by decide +kernel, (gt_in (inT_1 _ (List.mem_of_getElem? (i := 1) (by decide +kernel))) (by decide +kernel)), by decide +kernel, by decide⟩
theorem S_X11_mayHave : Cond.selects mX11_mayHave.1.cls mX11_mayHave.1 mX11_mayHave.1 ∈ gt := (gt_in (inT_3 _ (List.mem_of_getElem? (i := 158) (by decide +kernel))) (by decide +kernel))
theorem M_X11_node : okM mX11_node 3 := ⟨(gt_in (inT_4 _ (List.mem_of_getElem? (i := 69) (by decide +kernel))) (by decide +kernel)), by decide +kernel, (gt_in (inT_1 _ (List.mem_of_getElem? (i := 1) (by decide +kernel))) (by decide +kernel)), by decide +kernel, by decide⟩
theorem S_X11_node : Cond.selects mX11_node.1.cls mX11_node.1 mX11_node.1 ∈ gt := (gt_in (inT_4 _ (List.mem_of_getElem? (i := 68) (by decide +kernel))) (by decide +kernel))
theorem M_X11_pack : okM mX11_pack 1 := ⟨(gt_in (inT_4 _ (List.mem_of_getElem? (i := 14) (by decide +kernel))) (by decide +kernel)), by decide +kernel, (gt_in (inT_1 _ (List.mem_of_getElem? (i := 1) (by decide +kernel))) (by decide +kernel)), by decide +kernel, by decide⟩
theorem S_X11_pack : Cond.selects mX11_pack.1.cls mX11_pack.1 mX11_pack.1 ∈ gt := (gt_in (inT_4 _ (List.mem_of_getElem? (i := 13) (by decide +kernel))) (by decide +kernel))
theorem M_X11_packs : okM mX11_packs 1 := ⟨(gt_in (inT_4 _ (List.mem_of_getElem? (i := 29) (by decide +kernel))) (by decide +kernel)), by decide +kernel, (gt_in (inT_1 _ (List.mem_of_getElem? (i := 1) (by decide +kernel))) (by decide +kernel)), by decide +kernel, by decide⟩
theorem S_X11_packs : Cond.selects mX11_packs.1.cls mX11_packs.1 mX11_packs.1 ∈ gt := (gt_in (inT_4 _ (List.mem_of_getElem? (i := 28) (by decide +kernel))) (by decide +kernel))
theorem M_X11_paid : okM mX11_paid 2 := ⟨(gt_in (inT_4 _ (List.mem_of_getElem? (i := 133) (by decide +kernel))) (by decide +kernel)), by decide +kernel, (gt_in (inT_1 _ (List.mem_of_getElem? (i := 1) (by decide +kernel))) (by decide +kernel)), by decide +kernel, by decide⟩
theorem S_X11_paid : Cond.selects mX11_paid.1.cls mX11_paid.1 mX11_paid.1 ∈ gt := (gt_in (inT_4 _ (List.mem_of_getElem? (i := 132) (by decide +kernel))) (by decide +kernel))
theorem M_X11_pays : okM mX11_pays 1 := ⟨(gt_in (inT_4 _ (List.mem_of_getElem? (i := 119) (by decide +kernel))) (by decide +kernel)), by decide +kernel, (gt_in (inT_1 _ (List.mem_of_getElem? (i := 1) (by decide +kernel))) (by decide +kernel)), by decide +kernel, by decide⟩
theorem S_X11_pays : Cond.selects mX11_pays.1.cls mX11_pays.1 mX11_pays.1 ∈ gt := (gt_in (inT_4 _ (List.mem_of_getElem? (i := 118) (by decide +kernel))) (by decide +kernel))
theorem M_X11_persists : okM mX11_persists 0 := ⟨(gt_in (inT_3 _ (List.mem_of_getElem? (i := 179) (by decide +kernel))) (by decide +kernel)), by decide +kernel, (gt_in (inT_1 _ (List.mem_of_getElem? (i := 1) (by decide +kernel))) (by decide +kernel)), by decide +kernel, by decide⟩
theorem S_X11_persists : Cond.selects mX11_persists.1.cls mX11_persists.1 mX11_persists.1 ∈ gt := (gt_in (inT_3 _ (List.mem_of_getElem? (i := 178) (by decide +kernel))) (by decide +kernel))
theorem M_X11_plant : okM mX11_plant 0 := ⟨(gt_in (inT_5 _ (List.mem_of_getElem? (i := 75) (by decide +kernel))) (by decide +kernel)), by decide +kernel, (gt_in (inT_1 _ (List.mem_of_getElem? (i := 1) (by decide +kernel))) (by decide +kernel)), by decide +kernel, by decide⟩
theorem S_X11_plant : Cond.selects mX11_plant.1.cls mX11_plant.1 mX11_plant.1 ∈ gt := (gt_in (inT_5 _ (List.mem_of_getElem? (i := 74) (by decide +kernel))) (by decide +kernel))
theorem M_X11_point : okM mX11_point 2 := ⟨(gt_in (inT_2 _ (List.mem_of_getElem? (i := 186) (by decide +kernel))) (by decide +kernel)), by decide +kernel, (gt_in (inT_1 _ (List.mem_of_getElem? (i := 1) (by decide +kernel))) (by decide +kernel)), by decide +kernel, by decide⟩
theorem S_X11_point : Cond.selects mX11_point.1.cls mX11_point.1 mX11_point.1 ∈ gt := (gt_in (inT_2 _ (List.mem_of_getElem? (i := 185) (by decide +kernel))) (by decide +kernel))
theorem M_X11_pointOf : okM mX11_pointOf 2 := ⟨(gt_in (inT_2 _ (List.mem_of_getElem? (i := 224) (by decide +kernel))) (by decide +kernel)), by decide +kernel, (gt_in (inT_1 _ (List.mem_of_getElem? (i := 1) (by decide +kernel))) (by decide +kernel)), by decide +kernel, by decide⟩
theorem S_X11_pointOf : Cond.selects mX11_pointOf.1.cls mX11_pointOf.1 mX11_pointOf.1 ∈ gt := (gt_in (inT_2 _ (List.mem_of_getElem? (i := 223) (by decide +kernel))) (by decide +kernel))
theorem M_X11_priceBy : okM mX11_priceBy 4 := ⟨(gt_in (inT_3 _ (List.mem_of_getElem? (i := 2) (by decide +kernel))) (by decide +kernel)), by decide +kernel, (gt_in (inT_1 _ (List.mem_of_getElem? (i := 1) (by decide +kernel))) (by decide +kernel)), by decide +kernel, by decide⟩
theorem M_X11_prove : okM mX11_prove 2 := ⟨(gt_in (inT_4 _ (List.mem_of_getElem? (i := 73) (by decide +kernel))) (by decide +kernel)), by decide +kernel, (gt_in (inT_1 _ (List.mem_of_getElem? (i := 1) (by decide +kernel))) (by decide +kernel)), by decide +kernel, by decide⟩
theorem S_X11_prove : Cond.selects mX11_prove.1.cls mX11_prove.1 mX11_prove.1 ∈ gt := (gt_in (inT_4 _ (List.mem_of_getElem? (i := 72) (by decide +kernel))) (by decide +kernel))
theorem M_X11_proves : okM mX11_proves 2 := ⟨(gt_in (inT_4 _ (List.mem_of_getElem? (i := 86) (by decide +kernel))) (by decide +kernel)), by decide +kernel, (gt_in (inT_1 _ (List.mem_of_getElem? (i := 1) (by decide +kernel))) (by decide +kernel)), by decide +kernel, by decide⟩
theorem S_X11_proves : Cond.selects mX11_proves.1.cls mX11_proves.1 mX11_proves.1 ∈ gt := (gt_in (inT_4 _ (List.mem_of_getElem? (i := 85) (by decide +kernel))) (by decide +kernel))
theorem M_X11_round : okM mX11_round 3 := ⟨(gt_in (inT_4 _ (List.mem_of_getElem? (i := 10) (by decide +kernel))) (by decide +kernel)), by decide +kernel, (gt_in (inT_1 _ (List.mem_of_getElem? (i := 1) (by decide +kernel))) (by decide +kernel)), by decide +kernel, by decide⟩
theorem S_X11_round : Cond.selects mX11_round.1.cls mX11_round.1 mX11_round.1 ∈ gt := (gt_in (inT_4 _ (List.mem_of_getElem? (i := 9) (by decide +kernel))) (by decide +kernel))
theorem M_X11_search : okM mX11_search 2 := ⟨(gt_in (inT_4 _ (List.mem_of_getElem? (i := 48) (by decide +kernel))) (by decide +kernel)), by decide +kernel, (gt_in (inT_1 _ (List.mem_of_getElem? (i := 1) (by decide +kernel))) (by decide +kernel)), by decide +kernel, by decide⟩
theorem S_X11_search : Cond.selects mX11_search.1.cls mX11_search.1 mX11_search.1 ∈ gt := (gt_in (inT_4 _ (List.mem_of_getElem? (i := 47) (by decide +kernel))) (by decide +kernel))
theorem M_X11_seed : okM mX11_seed 1 := ⟨(gt_in (inT_5 _ (List.mem_of_getElem? (i := 84) (by decide +kernel))) (by decide +kernel)), by decide +kernel, (gt_in (inT_1 _ (List.mem_of_getElem? (i := 1) (by decide +kernel))) (by decide +kernel)), by decide +kernel, by decide⟩
theorem S_X11_seed : Cond.selects mX11_seed.1.cls mX11_seed.1 mX11_seed.1 ∈ gt := (gt_in (inT_5 _ (List.mem_of_getElem? (i := 83) (by decide +kernel))) (by decide +kernel))
theorem M_X11_share : okM mX11_share 1 := ⟨(gt_in (inT_3 _ (List.mem_of_getElem? (i := 112) (by decide +kernel))) (by decide +kernel)), by decide +kernel, (gt_in (inT_1 _ (List.mem_of_getElem? (i := 1) (by decide +kernel))) (by decide +kernel)), by decide +kernel, by decide⟩
theorem S_X11_share : Cond.selects mX11_share.1.cls mX11_share.1 mX11_share.1 ∈ gt := (gt_in (inT_3 _ (List.mem_of_getElem? (i := 111) (by decide +kernel))) (by decide +kernel))
theorem M_X11_sheet : okM mX11_sheet 3 := ⟨(gt_in (inT_5 _ (List.mem_of_getElem? (i := 107) (by decide +kernel))) (by decide +kernel)), by decide +kernel, (gt_in (inT_1 _ (List.mem_of_getElem? (i := 1) (by decide +kernel))) (by decide +kernel)), by decide +kernel, by decide⟩
theorem S_X11_sheet : Cond.selects mX11_sheet.1.cls mX11_sheet.1 mX11_sheet.1 ∈ gt := (gt_in (inT_5 _ (List.mem_of_getElem? (i := 106) (by decide +kernel))) (by decide +kernel))
theorem M_X11_shelf : okM mX11_shelf 3 := ⟨(gt_in (inT_5 _ (List.mem_of_getElem? (i := 148) (by decide +kernel))) (by decide +kernel)), by decide +kernel, (gt_in (inT_1 _ (List.mem_of_getElem? (i := 1) (by decide +kernel))) (by decide +kernel)), by decide +kernel, by decide⟩
theorem S_X11_shelf : Cond.selects mX11_shelf.1.cls mX11_shelf.1 mX11_shelf.1 ∈ gt := (gt_in (inT_5 _ (List.mem_of_getElem? (i := 147) (by decide +kernel))) (by decide +kernel))
theorem M_X11_sized : okM mX11_sized 1 := ⟨(gt_in (inT_3 _ (List.mem_of_getElem? (i := 96) (by decide +kernel))) (by decide +kernel)), by decide +kernel, (gt_in (inT_1 _ (List.mem_of_getElem? (i := 1) (by decide +kernel))) (by decide +kernel)), by decide +kernel, by decide⟩
theorem S_X11_sized : Cond.selects mX11_sized.1.cls mX11_sized.1 mX11_sized.1 ∈ gt := (gt_in (inT_3 _ (List.mem_of_getElem? (i := 95) (by decide +kernel))) (by decide +kernel))
theorem M_X11_taken : okM mX11_taken 2 := ⟨(gt_in (inT_5 _ (List.mem_of_getElem? (i := 168) (by decide +kernel))) (by decide +kernel)), by decide +kernel, (gt_in (inT_1 _ (List.mem_of_getElem? (i := 1) (by decide +kernel))) (by decide +kernel)), by decide +kernel, by decide⟩
theorem S_X11_taken : Cond.selects mX11_taken.1.cls mX11_taken.1 mX11_taken.1 ∈ gt := (gt_in (inT_5 _ (List.mem_of_getElem? (i := 167) (by decide +kernel))) (by decide +kernel))
theorem M_X11_text : okM mX11_text 0 := ⟨(gt_in (inT_4 _ (List.mem_of_getElem? (i := 150) (by decide +kernel))) (by decide +kernel)), by decide +kernel, (gt_in (inT_1 _ (List.mem_of_getElem? (i := 1) (by decide +kernel))) (by decide +kernel)), by decide +kernel, by decide⟩
theorem S_X11_text : Cond.selects mX11_text.1.cls mX11_text.1 mX11_text.1 ∈ gt := (gt_in (inT_4 _ (List.mem_of_getElem? (i := 149) (by decide +kernel))) (by decide +kernel))
theorem M_X11_times : okM mX11_times 4 := ⟨(gt_in (inT_5 _ (List.mem_of_getElem? (i := 103) (by decide +kernel))) (by decide +kernel)), by decide +kernel, (gt_in (inT_1 _ (List.mem_of_getElem? (i := 1) (by decide +kernel))) (by decide +kernel)), by decide +kernel, by decide⟩
theorem S_X11_times : Cond.selects mX11_times.1.cls mX11_times.1 mX11_times.1 ∈ gt := (gt_in (inT_5 _ (List.mem_of_getElem? (i := 102) (by decide +kernel))) (by decide +kernel))
theorem M_X11_tree : okM mX11_tree 1 := ⟨(gt_in (inT_5 _ (List.mem_of_getElem? (i := 18) (by decide +kernel))) (by decide +kernel)), by decide +kernel, (gt_in (inT_1 _ (List.mem_of_getElem? (i := 1) (by decide +kernel))) (by decide +kernel)), by decide +kernel, by decide⟩
theorem S_X11_tree : Cond.selects mX11_tree.1.cls mX11_tree.1 mX11_tree.1 ∈ gt := (gt_in (inT_5 _ (List.mem_of_getElem? (i := 17) (by decide +kernel))) (by decide +kernel))
theorem M_X11_treeOf : okM mX11_treeOf 2 := ⟨(gt_in (inT_5 _ (List.mem_of_getElem? (i := 52) (by decide +kernel))) (by decide +kernel)), by decide +kernel, (gt_in (inT_1 _ (List.mem_of_getElem? (i := 1) (by decide +kernel))) (by decide +kernel)), by decide +kernel, by decide⟩
theorem S_X11_treeOf : Cond.selects mX11_treeOf.1.cls mX11_treeOf.1 mX11_treeOf.1 ∈ gt := (gt_in (inT_5 _ (List.mem_of_getElem? (i := 51) (by decide +kernel))) (by decide +kernel))
theorem M_X11_wipe : okM mX11_wipe 0 := ⟨(gt_in (inT_4 _ (List.mem_of_getElem? (i := 146) (by decide +kernel))) (by decide +kernel)), by decide +kernel, (gt_in (inT_1 _ (List.mem_of_getElem? (i := 1) (by decide +kernel))) (by decide +kernel)), by decide +kernel, by decide⟩
theorem S_X11_wipe : Cond.selects mX11_wipe.1.cls mX11_wipe.1 mX11_wipe.1 ∈ gt := (gt_in (inT_4 _ (List.mem_of_getElem? (i := 145) (by decide +kernel))) (by decide +kernel))
theorem M_X11_within : okM mX11_within 3 := ⟨(gt_in (inT_2 _ (List.mem_of_getElem? (i := 192) (by decide +kernel))) (by decide +kernel)), by decide +kernel, (gt_in (inT_1 _ (List.mem_of_getElem? (i := 1) (by decide +kernel))) (by decide +kernel)), by decide +kernel, by decide⟩
theorem M_X11_without : okM mX11_without 1 := ⟨(gt_in (inT_4 _ (List.mem_of_getElem? (i := 99) (by decide +kernel))) (by decide +kernel)), by decide +kernel, (gt_in (inT_1 _ (List.mem_of_getElem? (i := 1) (by decide +kernel))) (by decide +kernel)), by decide +kernel, by decide⟩
theorem S_X11_without : Cond.selects mX11_without.1.cls mX11_without.1 mX11_without.1 ∈ gt := (gt_in (inT_4 _ (List.mem_of_getElem? (i := 98) (by decide +kernel))) (by decide +kernel))
theorem M_X11_write : okM mX11_write 3 := ⟨(gt_in (inT_5 _ (List.mem_of_getElem? (i := 111) (by decide +kernel))) (by decide +kernel)), by decide +kernel, (gt_in (inT_1 _ (List.mem_of_getElem? (i := 1) (by decide +kernel))) (by decide +kernel)), by decide +kernel, by decide⟩
theorem S_X11_write : Cond.selects mX11_write.1.cls mX11_write.1 mX11_write.1 ∈ gt := (gt_in (inT_5 _ (List.mem_of_getElem? (i := 110) (by decide +kernel))) (by decide +kernel))
theorem M_X12_all : okM mX12_all 0 := ⟨(gt_in (inT_6 _ (List.mem_of_getElem? (i := 164) (by decide +kernel))) (by decide +kernel)), by decide +kernel, (gt_in (inT_1 _ (List.mem_of_getElem? (i := 13) (by decide +kernel))) (by decide +kernel)), by decide +kernel, by decide⟩
theorem S_X12_all : Cond.selects mX12_all.1.cls mX12_all.1 mX12_all.1 ∈ gt := (gt_in (List.mem_append_left _ (List.mem_of_getElem? (i := 29) (by decide +kernel))) (by decide +kernel))
theorem M_X12_areTwo : okM mX12_areTwo 2 := ⟨(gt_in (inT_6 _ (List.mem_of_getElem? (i := 118) (by decide +kernel))) (by decide +kernel)), by decide +kernel, (gt_in (inT_1 _ (List.mem_of_getElem? (i := 13) (by decide +kernel))) (by decide +kernel)), by decide +kernel, by decide⟩
theorem S_X12_areTwo : Cond.selects mX12_areTwo.1.cls mX12_areTwo.1 mX12_areTwo.1 ∈ gt := (gt_in (List.mem_append_left _ (List.mem_of_getElem? (i := 23) (by decide +kernel))) (by decide +kernel))
theorem M_X12_back : okM mX12_back 0 := ⟨(gt_in (inT_8 _ (List.mem_of_getElem? (i := 46) (by decide +kernel))) (by decide +kernel)), by decide +kernel, (gt_in (inT_1 _ (List.mem_of_getElem? (i := 13) (by decide +kernel))) (by decide +kernel)), by decide +kernel, by decide⟩
theorem S_X12_back : Cond.selects mX12_back.1.cls mX12_back.1 mX12_back.1 ∈ gt := (gt_in (inT_8 _ (List.mem_of_getElem? (i := 45) (by decide +kernel))) (by decide +kernel))
theorem M_X12_bare : okM mX12_bare 1 := ⟨(gt_in (inT_6 _ (List.mem_of_getElem? (i := 204) (by decide +kernel))) (by decide +kernel)), by decide +kernel, (gt_in (inT_1 _ (List.mem_of_getElem? (i := 13) (by decide +kernel))) (by decide +kernel)), by decide +kernel, by decide⟩
theorem S_X12_bare : Cond.selects mX12_bare.1.cls mX12_bare.1 mX12_bare.1 ∈ gt := (gt_in (inT_6 _ (List.mem_of_getElem? (i := 203) (by decide +kernel))) (by decide +kernel))
theorem M_X12_bareOnes : okM mX12_bareOnes 0 := ⟨(gt_in (inT_7 _ (List.mem_of_getElem? (i := 179) (by decide +kernel))) (by decide +kernel)), by decide +kernel, (gt_in (inT_1 _ (List.mem_of_getElem? (i := 13) (by decide +kernel))) (by decide +kernel)), by decide +kernel, by decide⟩
theorem S_X12_bareOnes : Cond.selects mX12_bareOnes.1.cls mX12_bareOnes.1 mX12_bareOnes.1 ∈ gt := (gt_in (List.mem_append_left _ (List.mem_of_getElem? (i := 59) (by decide +kernel))) (by decide +kernel))
theorem M_X12_bits : okM mX12_bits 1 := ⟨(gt_in (inT_6 _ (List.mem_of_getElem? (i := 137) (by decide +kernel))) (by decide +kernel)), by decide +kernel, (gt_in (inT_1 _ (List.mem_of_getElem? (i := 13) (by decide +kernel))) (by decide +kernel)), by decide +kernel, by decide⟩
theorem M_X12_branch : okM mX12_branch 1 := ⟨(gt_in (inT_7 _ (List.mem_of_getElem? (i := 98) (by decide +kernel))) (by decide +kernel)), by decide +kernel, (gt_in (inT_1 _ (List.mem_of_getElem? (i := 13) (by decide +kernel))) (by decide +kernel)), by decide +kernel, by decide⟩
theorem S_X12_branch : Cond.selects mX12_branch.1.cls mX12_branch.1 mX12_branch.1 ∈ gt := (gt_in (List.mem_append_left _ (List.mem_of_getElem? (i := 51) (by decide +kernel))) (by decide +kernel))
theorem M_X12_change : okM mX12_change 3 := ⟨(gt_in (inT_6 _ (List.mem_of_getElem? (i := 144) (by decide +kernel))) (by decide +kernel)), by decide +kernel, (gt_in (inT_1 _ (List.mem_of_getElem? (i := 13) (by decide +kernel))) (by decide +kernel)), by decide +kernel, by decide⟩
theorem S_X12_change : Cond.selects mX12_change.1.cls mX12_change.1 mX12_change.1 ∈ gt := (gt_in (inT_6 _ (List.mem_of_getElem? (i := 143) (by decide +kernel))) (by decide +kernel))
theorem M_X12_comes : okM mX12_comes 2 := ⟨(gt_in (inT_6 _ (List.mem_of_getElem? (i := 110) (by decide +kernel))) (by decide +kernel)), by decide +kernel, (gt_in (inT_1 _ (List.mem_of_getElem? (i := 13) (by decide +kernel))) (by decide +kernel)), by decide +kernel, by decide⟩
theorem S_X12_comes : Cond.selects mX12_comes.1.cls mX12_comes.1 mX12_comes.1 ∈ gt := (gt_in (List.mem_append_left _ (List.mem_of_getElem? (i := 22) (by decide +kernel))) (by decide +kernel))
theorem M_X12_copy : okM mX12_copy 5 := ⟨(gt_in (inT_8 _ (List.mem_of_getElem? (i := 16) (by decide +kernel))) (by decide +kernel)), by decide +kernel, (gt_in (inT_1 _ (List.mem_of_getElem? (i := 13) (by decide +kernel))) (by decide +kernel)), by decide +kernel, by decide⟩
theorem S_X12_copy : Cond.selects mX12_copy.1.cls mX12_copy.1 mX12_copy.1 ∈ gt := (gt_in (inT_8 _ (List.mem_of_getElem? (i := 15) (by decide +kernel))) (by decide +kernel))
theorem M_X12_cost : okM mX12_cost 4 := ⟨(gt_in (inT_6 _ (List.mem_of_getElem? (i := 140) (by decide +kernel))) (by decide +kernel)), by decide +kernel, (gt_in (inT_1 _ (List.mem_of_getElem? (i := 13) (by decide +kernel))) (by decide +kernel)), by decide +kernel, by decide⟩
theorem M_X12_costAt : okM mX12_costAt 1 := ⟨(gt_in (inT_6 _ (List.mem_of_getElem? (i := 134) (by decide +kernel))) (by decide +kernel)), by decide +kernel, (gt_in (inT_1 _ (List.mem_of_getElem? (i := 13) (by decide +kernel))) (by decide +kernel)), by decide +kernel, by decide⟩
theorem S_X12_costAt : Cond.selects mX12_costAt.1.cls mX12_costAt.1 mX12_costAt.1 ∈ gt := (gt_in (List.mem_append_left _ (List.mem_of_getElem? (i := 26) (by decide +kernel))) (by decide +kernel))
theorem M_X12_costIn : okM mX12_costIn 1 := ⟨(gt_in (inT_7 _ (List.mem_of_getElem? (i := 187) (by decide +kernel))) (by decide +kernel)), by decide +kernel, (gt_in (inT_1 _ (List.mem_of_getElem? (i := 13) (by decide +kernel))) (by decide +kernel)), by decide +kernel, by decide⟩
theorem S_X12_costIn : Cond.selects mX12_costIn.1.cls mX12_costIn.1 mX12_costIn.1 ∈ gt := (gt_in (List.mem_append_left _ (List.mem_of_getElem? (i := 61) (by decide +kernel))) (by decide +kernel))
theorem M_X12_costOf : okM mX12_costOf 1 := ⟨(gt_in (inT_6 _ (List.mem_of_getElem? (i := 179) (by decide +kernel))) (by decide +kernel)), by decide +kernel, (gt_in (inT_1 _ (List.mem_of_getElem? (i := 13) (by decide +kernel))) (by decide +kernel)), by decide +kernel, by decide⟩
theorem S_X12_costOf : Cond.selects mX12_costOf.1.cls mX12_costOf.1 mX12_costOf.1 ∈ gt := (gt_in (inT_6 _ (List.mem_of_getElem? (i := 178) (by decide +kernel))) (by decide +kernel))
theorem M_X12_costs : okM mX12_costs 1 := ⟨(gt_in (inT_6 _ (List.mem_of_getElem? (i := 183) (by decide +kernel))) (by decide +kernel)), by decide +kernel, (gt_in (inT_1 _ (List.mem_of_getElem? (i := 13) (by decide +kernel))) (by decide +kernel)), by decide +kernel, by decide⟩
theorem S_X12_costs : Cond.selects mX12_costs.1.cls mX12_costs.1 mX12_costs.1 ∈ gt := (gt_in (List.mem_append_left _ (List.mem_of_getElem? (i := 32) (by decide +kernel))) (by decide +kernel))
theorem M_X12_count : okM mX12_count 1 := ⟨(gt_in (inT_6 _ (List.mem_of_getElem? (i := 148) (by decide +kernel))) (by decide +kernel)), by decide +kernel, (gt_in (inT_1 _ (List.mem_of_getElem? (i := 13) (by decide +kernel))) (by decide +kernel)), by decide +kernel, by decide⟩
theorem S_X12_count : Cond.selects mX12_count.1.cls mX12_count.1 mX12_count.1 ∈ gt := (gt_in (inT_6 _ (List.mem_of_getElem? (i := 147) (by decide +kernel))) (by decide +kernel))
theorem M_X12_counts : okM mX12_counts 1 := ⟨(gt_in (inT_7 _ (List.mem_of_getElem? (i := 183) (by decide +kernel))) (by decide +kernel)), by decide +kernel, (gt_in (inT_1 _ (List.mem_of_getElem? (i := 13) (by decide +kernel))) (by decide +kernel)), by decide +kernel, by decide⟩
theorem S_X12_counts : Cond.selects mX12_counts.1.cls mX12_counts.1 mX12_counts.1 ∈ gt := (gt_in (List.mem_append_left _ (List.mem_of_getElem? (i := 60) (by decide +kernel))) (by decide +kernel))
theorem M_X12_covers : okM mX12_covers 1 := ⟨(gt_in (inT_6 _ (List.mem_of_getElem? (i := 172) (by decide +kernel))) (by decide +kernel)), by decide +kernel, (gt_in (inT_1 _ (List.mem_of_getElem? (i := 13) (by decide +kernel))) (by decide +kernel)), by decide +kernel, by decide⟩
theorem S_X12_covers : Cond.selects mX12_covers.1.cls mX12_covers.1 mX12_covers.1 ∈ gt := (gt_in (List.mem_append_left _ (List.mem_of_getElem? (i := 31) (by decide +kernel))) (by decide +kernel))
theorem M_X12_crowns : okM mX12_crowns 1 := ⟨(gt_in (inT_7 _ (List.mem_of_getElem? (i := 39) (by decide +kernel))) (by decide +kernel)), by decide +kernel, (gt_in (inT_1 _ (List.mem_of_getElem? (i := 13) (by decide +kernel))) (by decide +kernel)), by decide +kernel, by decide⟩
theorem S_X12_crowns : Cond.selects mX12_crowns.1.cls mX12_crowns.1 mX12_crowns.1 ∈ gt := (gt_in (inT_7 _ (List.mem_of_getElem? (i := 38) (by decide +kernel))) (by decide +kernel))
theorem M_X12_cut : okM mX12_cut 1 := ⟨(gt_in (inT_7 _ (List.mem_of_getElem? (i := 122) (by decide +kernel))) (by decide +kernel)), by decide +kernel, (gt_in (inT_1 _ (List.mem_of_getElem? (i := 13) (by decide +kernel))) (by decide +kernel)), by decide +kernel, by decide⟩
theorem S_X12_cut : Cond.selects mX12_cut.1.cls mX12_cut.1 mX12_cut.1 ∈ gt := (gt_in (inT_7 _ (List.mem_of_getElem? (i := 121) (by decide +kernel))) (by decide +kernel))
theorem M_X12_deal : okM mX12_deal 2 := ⟨(gt_in (inT_7 _ (List.mem_of_getElem? (i := 215) (by decide +kernel))) (by decide +kernel)), by decide +kernel, (gt_in (inT_1 _ (List.mem_of_getElem? (i := 13) (by decide +kernel))) (by decide +kernel)), by decide +kernel, by decide⟩
theorem S_X12_deal : Cond.selects mX12_deal.1.cls mX12_deal.1 mX12_deal.1 ∈ gt := (gt_in (inT_7 _ (List.mem_of_getElem? (i := 214) (by decide +kernel))) (by decide +kernel))
theorem M_X12_deals : okM mX12_deals 2 := ⟨(gt_in (inT_7 _ (List.mem_of_getElem? (i := 219) (by decide +kernel))) (by decide +kernel)), by decide +kernel, (gt_in (inT_1 _ (List.mem_of_getElem? (i := 13) (by decide +kernel))) (by decide +kernel)), by decide +kernel, by decide⟩
theorem S_X12_deals : Cond.selects mX12_deals.1.cls mX12_deals.1 mX12_deals.1 ∈ gt := (gt_in (List.mem_append_left _ (List.mem_of_getElem? (i := 65) (by decide +kernel))) (by decide +kernel))
theorem M_X12_dear : okM mX12_dear 1 := ⟨(gt_in (inT_6 _ (List.mem_of_getElem? (i := 195) (by decide +kernel))) (by decide +kernel)), by decide +kernel, (gt_in (inT_1 _ (List.mem_of_getElem? (i := 13) (by decide +kernel))) (by decide +kernel)), by decide +kernel, by decide⟩
theorem S_X12_dear : Cond.selects mX12_dear.1.cls mX12_dear.1 mX12_dear.1 ∈ gt := (gt_in (inT_6 _ (List.mem_of_getElem? (i := 194) (by decide +kernel))) (by decide +kernel))
theorem M_X12_degree : okM mX12_degree 2 := ⟨(gt_in (inT_7 _ (List.mem_of_getElem? (i := 55) (by decide +kernel))) (by decide +kernel)), by decide +kernel, (gt_in (inT_1 _ (List.mem_of_getElem? (i := 13) (by decide +kernel))) (by decide +kernel)), by decide +kernel, by decide⟩
theorem S_X12_degree : Cond.selects mX12_degree.1.cls mX12_degree.1 mX12_degree.1 ∈ gt := (gt_in (List.mem_append_left _ (List.mem_of_getElem? (i := 45) (by decide +kernel))) (by decide +kernel))
theorem M_X12_draw : okM mX12_draw 0 := ⟨(gt_in (inT_7 _ (List.mem_of_getElem? (i := 223) (by decide +kernel))) (by decide +kernel)), by decide +kernel, (gt_in (inT_1 _ (List.mem_of_getElem? (i := 13) (by decide +kernel))) (by decide +kernel)), by decide +kernel, by decide⟩
theorem S_X12_draw : Cond.selects mX12_draw.1.cls mX12_draw.1 mX12_draw.1 ∈ gt := (gt_in (List.mem_append_left _ (List.mem_of_getElem? (i := 66) (by decide +kernel))) (by decide +kernel))
theorem M_X12_faultOf : okM mX12_faultOf 0 := ⟨(gt_in (inT_7 _ (List.mem_of_getElem? (i := 158) (by decide +kernel))) (by decide +kernel)), by decide +kernel, (gt_in (inT_1 _ (List.mem_of_getElem? (i := 13) (by decide +kernel))) (by decide +kernel)), by decide +kernel, by decide⟩
theorem S_X12_faultOf : Cond.selects mX12_faultOf.1.cls mX12_faultOf.1 mX12_faultOf.1 ∈ gt := (gt_in (List.mem_append_left _ (List.mem_of_getElem? (i := 55) (by decide +kernel))) (by decide +kernel))
theorem M_X12_feed : okM mX12_feed 2 := ⟨(gt_in (inT_7 _ (List.mem_of_getElem? (i := 146) (by decide +kernel))) (by decide +kernel)), by decide +kernel, (gt_in (inT_1 _ (List.mem_of_getElem? (i := 13) (by decide +kernel))) (by decide +kernel)), by decide +kernel, by decide⟩
theorem S_X12_feed : Cond.selects mX12_feed.1.cls mX12_feed.1 mX12_feed.1 ∈ gt := (gt_in (inT_7 _ (List.mem_of_getElem? (i := 145) (by decide +kernel))) (by decide +kernel))
theorem M_X12_fewest : okM mX12_fewest 1 := ⟨(gt_in (inT_6 _ (List.mem_of_getElem? (i := 187) (by decide +kernel))) (by decide +kernel)), by decide +kernel, (gt_in (inT_1 _ (List.mem_of_getElem? (i := 13) (by decide +kernel))) (by decide +kernel)), by decide +kernel, by decide⟩
theorem S_X12_fewest : Cond.selects mX12_fewest.1.cls mX12_fewest.1 mX12_fewest.1 ∈ gt := (gt_in (inT_6 _ (List.mem_of_getElem? (i := 186) (by decide +kernel))) (by decide +kernel))
theorem M_X12_first : okM mX12_first 1 := ⟨(gt_in (inT_7 _ (List.mem_of_getElem? (i := 19) (by decide +kernel))) (by decide +kernel)), by decide +kernel, (gt_in (inT_1 _ (List.mem_of_getElem? (i := 13) (by decide +kernel))) (by decide +kernel)), by decide +kernel, by decide⟩
theorem M_X12_gcd : okM mX12_gcd 2 := ⟨(gt_in (inT_6 _ (List.mem_of_getElem? (i := 212) (by decide +kernel))) (by decide +kernel)), by decide +kernel, (gt_in (inT_1 _ (List.mem_of_getElem? (i := 13) (by decide +kernel))) (by decide +kernel)), by decide +kernel, by decide⟩
theorem M_X12_gives : okM mX12_gives 5 := ⟨(gt_in (inT_6 _ (List.mem_of_getElem? (i := 232) (by decide +kernel))) (by decide +kernel)), by decide +kernel, (gt_in (inT_1 _ (List.mem_of_getElem? (i := 13) (by decide +kernel))) (by decide +kernel)), by decide +kernel, by decide⟩
theorem S_X12_gives : Cond.selects mX12_gives.1.cls mX12_gives.1 mX12_gives.1 ∈ gt := (gt_in (List.mem_append_left _ (List.mem_of_getElem? (i := 37) (by decide +kernel))) (by decide +kernel))
theorem M_X12_half : okM mX12_half 1 := ⟨(gt_in (inT_7 _ (List.mem_of_getElem? (i := 4) (by decide +kernel))) (by decide +kernel)), by decide +kernel, (gt_in (inT_1 _ (List.mem_of_getElem? (i := 13) (by decide +kernel))) (by decide +kernel)), by decide +kernel, by decide⟩
theorem S_X12_half : Cond.selects mX12_half.1.cls mX12_half.1 mX12_half.1 ∈ gt := (gt_in (inT_7 _ (List.mem_of_getElem? (i := 3) (by decide +kernel))) (by decide +kernel))
theorem M_X12_halves : okM mX12_halves 1 := ⟨(gt_in (inT_6 _ (List.mem_of_getElem? (i := 216) (by decide +kernel))) (by decide +kernel)), by decide +kernel, (gt_in (inT_1 _ (List.mem_of_getElem? (i := 13) (by decide +kernel))) (by decide +kernel)), by decide +kernel, by decide⟩
theorem S_X12_halves : Cond.selects mX12_halves.1.cls mX12_halves.1 mX12_halves.1 ∈ gt := (gt_in (inT_6 _ (List.mem_of_getElem? (i := 215) (by decide +kernel))) (by decide +kernel))
theorem M_X12_halvesWith : okM mX12_halvesWith 2 := ⟨(gt_in (inT_7 _ (List.mem_of_getElem? (i := 0) (by decide +kernel))) (by decide +kernel)), by decide +kernel, (gt_in (inT_1 _ (List.mem_of_getElem? (i := 13) (by decide +kernel))) (by decide +kernel)), by decide +kernel, by decide⟩
theorem S_X12_halvesWith : Cond.selects mX12_halvesWith.1.cls mX12_halvesWith.1 mX12_halvesWith.1 ∈ gt := (gt_in (List.mem_append_left _ (List.mem_of_getElem? (i := 39) (by decide +kernel))) (by decide +kernel))
theorem M_X12_has : okM mX12_has 2 := ⟨(gt_in (inT_6 _ (List.mem_of_getElem? (i := 175) (by decide +kernel))) (by decide +kernel)), by decide +kernel, (gt_in (inT_1 _ (List.mem_of_getElem? (i := 13) (by decide +kernel))) (by decide +kernel)), by decide +kernel, by decide⟩
theorem M_X12_image : okM mX12_image 0 := ⟨(gt_in (inT_8 _ (List.mem_of_getElem? (i := 42) (by decide +kernel))) (by decide +kernel)), by decide +kernel, (gt_in (inT_1 _ (List.mem_of_getElem? (i := 13) (by decide +kernel))) (by decide +kernel)), by decide +kernel, by decide⟩
theorem S_X12_image : Cond.selects mX12_image.1.cls mX12_image.1 mX12_image.1 ∈ gt := (gt_in (inT_8 _ (List.mem_of_getElem? (i := 41) (by decide +kernel))) (by decide +kernel))
theorem M_X12_in : okM mX12_in 3 := ⟨(gt_in (inT_6 _ (List.mem_of_getElem? (i := 106) (by decide +kernel))) (by decide +kernel)), by decide +kernel, (gt_in (inT_1 _ (List.mem_of_getElem? (i := 13) (by decide +kernel))) (by decide +kernel)), by decide +kernel, by decide⟩
theorem M_X12_isBare : okM mX12_isBare 1 := ⟨(gt_in (inT_6 _ (List.mem_of_getElem? (i := 168) (by decide +kernel))) (by decide +kernel)), by decide +kernel, (gt_in (inT_1 _ (List.mem_of_getElem? (i := 13) (by decide +kernel))) (by decide +kernel)), by decide +kernel, by decide⟩
theorem S_X12_isBare : Cond.selects mX12_isBare.1.cls mX12_isBare.1 mX12_isBare.1 ∈ gt := (gt_in (List.mem_append_left _ (List.mem_of_getElem? (i := 30) (by decide +kernel))) (by decide +kernel))
theorem M_X12_isCover : okM mX12_isCover 1 := ⟨(gt_in (inT_6 _ (List.mem_of_getElem? (i := 156) (by decide +kernel))) (by decide +kernel)), by decide +kernel, (gt_in (inT_1 _ (List.mem_of_getElem? (i := 13) (by decide +kernel))) (by decide +kernel)), by decide +kernel, by decide⟩
theorem S_X12_isCover : Cond.selects mX12_isCover.1.cls mX12_isCover.1 mX12_isCover.1 ∈ gt := (gt_in (inT_6 _ (List.mem_of_getElem? (i := 155) (by decide +kernel))) (by decide +kernel))
theorem M_X12_isCrown : okM mX12_isCrown 1 := ⟨(gt_in (inT_7 _ (List.mem_of_getElem? (i := 27) (by decide +kernel))) (by decide +kernel)), by decide +kernel, (gt_in (inT_1 _ (List.mem_of_getElem? (i := 13) (by decide +kernel))) (by decide +kernel)), by decide +kernel, by decide⟩
theorem S_X12_isCrown : Cond.selects mX12_isCrown.1.cls mX12_isCrown.1 mX12_isCrown.1 ∈ gt := (gt_in (inT_7 _ (List.mem_of_getElem? (i := 26) (by decide +kernel))) (by decide +kernel))
theorem M_X12_isFrom : okM mX12_isFrom 3 := ⟨(gt_in (inT_7 _ (List.mem_of_getElem? (i := 162) (by decide +kernel))) (by decide +kernel)), by decide +kernel, (gt_in (inT_1 _ (List.mem_of_getElem? (i := 13) (by decide +kernel))) (by decide +kernel)), by decide +kernel, by decide⟩
theorem S_X12_isFrom : Cond.selects mX12_isFrom.1.cls mX12_isFrom.1 mX12_isFrom.1 ∈ gt := (gt_in (List.mem_append_left _ (List.mem_of_getElem? (i := 56) (by decide +kernel))) (by decide +kernel))
theorem M_X12_isHeaded : okM mX12_isHeaded 2 := ⟨(gt_in (inT_7 _ (List.mem_of_getElem? (i := 35) (by decide +kernel))) (by decide +kernel)), by decide +kernel, (gt_in (inT_1 _ (List.mem_of_getElem? (i := 13) (by decide +kernel))) (by decide +kernel)), by decide +kernel, by decide⟩
theorem S_X12_isHeaded : Cond.selects mX12_isHeaded.1.cls mX12_isHeaded.1 mX12_isHeaded.1 ∈ gt := (gt_in (List.mem_append_left _ (List.mem_of_getElem? (i := 42) (by decide +kernel))) (by decide +kernel))
theorem M_X12_isMarked : okM mX12_isMarked 1 := ⟨(gt_in (inT_7 _ (List.mem_of_getElem? (i := 203) (by decide +kernel))) (by decide +kernel)), by decide +kernel, (gt_in (inT_1 _ (List.mem_of_getElem? (i := 13) (by decide +kernel))) (by decide +kernel)), by decide +kernel, by decide⟩
theorem S_X12_isMarked : Cond.selects mX12_isMarked.1.cls mX12_isMarked.1 mX12_isMarked.1 ∈ gt := (gt_in (List.mem_append_left _ (List.mem_of_getElem? (i := 64) (by decide +kernel))) (by decide +kernel))
theorem M_X12_isPacked : okM mX12_isPacked 1 := ⟨(gt_in (inT_7 _ (List.mem_of_getElem? (i := 82) (by decide +kernel))) (by decide +kernel)), by decide +kernel, (gt_in (inT_1 _ (List.mem_of_getElem? (i := 13) (by decide +kernel))) (by decide +kernel)), by decide +kernel, by decide⟩
theorem S_X12_isPacked : Cond.selects mX12_isPacked.1.cls mX12_isPacked.1 mX12_isPacked.1 ∈ gt := (gt_in (List.mem_append_left _ (List.mem_of_getElem? (i := 48) (by decide +kernel))) (by decide +kernel))
theorem M_X12_isPoint : okM mX12_isPoint 1 := ⟨(gt_in (inT_6 _ (List.mem_of_getElem? (i := 122) (by decide +kernel))) (by decide +kernel)), by decide +kernel, (gt_in (inT_1 _ (List.mem_of_getElem? (i := 13) (by decide +kernel))) (by decide +kernel)), by decide +kernel, by decide⟩
theorem S_X12_isPoint : Cond.selects mX12_isPoint.1.cls mX12_isPoint.1 mX12_isPoint.1 ∈ gt := (gt_in (List.mem_append_left _ (List.mem_of_getElem? (i := 24) (by decide +kernel))) (by decide +kernel))
theorem M_X12_isSet : okM mX12_isSet 1 := ⟨(gt_in (inT_6 _ (List.mem_of_getElem? (i := 160) (by decide +kernel))) (by decide +kernel)), by decide +kernel, (gt_in (inT_1 _ (List.mem_of_getElem? (i := 13) (by decide +kernel))) (by decide +kernel)), by decide +kernel, by decide⟩
theorem S_X12_isSet : Cond.selects mX12_isSet.1.cls mX12_isSet.1 mX12_isSet.1 ∈ gt := (gt_in (List.mem_append_left _ (List.mem_of_getElem? (i := 28) (by decide +kernel))) (by decide +kernel))
theorem M_X12_isSheet : okM mX12_isSheet 1 := ⟨(gt_in (inT_7 _ (List.mem_of_getElem? (i := 78) (by decide +kernel))) (by decide +kernel)), by decide +kernel, (gt_in (inT_1 _ (List.mem_of_getElem? (i := 13) (by decide +kernel))) (by decide +kernel)), by decide +kernel, by decide⟩
theorem M_X12_isShelf : okM mX12_isShelf 1 := ⟨(gt_in (inT_8 _ (List.mem_of_getElem? (i := 31) (by decide +kernel))) (by decide +kernel)), by decide +kernel, (gt_in (inT_1 _ (List.mem_of_getElem? (i := 13) (by decide +kernel))) (by decide +kernel)), by decide +kernel, by decide⟩
theorem M_X12_isTold : okM mX12_isTold 4 := ⟨(gt_in (inT_7 _ (List.mem_of_getElem? (i := 114) (by decide +kernel))) (by decide +kernel)), by decide +kernel, (gt_in (inT_1 _ (List.mem_of_getElem? (i := 13) (by decide +kernel))) (by decide +kernel)), by decide +kernel, by decide⟩
theorem S_X12_isTold : Cond.selects mX12_isTold.1.cls mX12_isTold.1 mX12_isTold.1 ∈ gt := (gt_in (List.mem_append_left _ (List.mem_of_getElem? (i := 52) (by decide +kernel))) (by decide +kernel))
theorem M_X12_isUnder : okM mX12_isUnder 2 := ⟨(gt_in (inT_7 _ (List.mem_of_getElem? (i := 199) (by decide +kernel))) (by decide +kernel)), by decide +kernel, (gt_in (inT_1 _ (List.mem_of_getElem? (i := 13) (by decide +kernel))) (by decide +kernel)), by decide +kernel, by decide⟩
theorem S_X12_isUnder : Cond.selects mX12_isUnder.1.cls mX12_isUnder.1 mX12_isUnder.1 ∈ gt := (gt_in (List.mem_append_left _ (List.mem_of_getElem? (i := 63) (by decide +kernel))) (by decide +kernel))
theorem M_X12_isWord : okM mX12_isWord 8 := ⟨(gt_in (inT_7 _ (List.mem_of_getElem? (i := 170) (by decide +kernel))) (by decide +kernel)), by decide +kernel, (gt_in (inT_1 _ (List.mem_of_getElem? (i := 13) (by decide +kernel))) (by decide +kernel)), by decide +kernel, by decide⟩
theorem S_X12_isWord : Cond.selects mX12_isWord.1.cls mX12_isWord.1 mX12_isWord.1 ∈ gt := (gt_in (List.mem_append_left _ (List.mem_of_getElem? (i := 58) (by decide +kernel))) (by decide +kernel))
theorem M_X12_item : okM mX12_item 2 := ⟨(gt_in (inT_8 _ (List.mem_of_getElem? (i := 12) (by decide +kernel))) (by decide +kernel)), by decide +kernel, (gt_in (inT_1 _ (List.mem_of_getElem? (i := 13) (by decide +kernel))) (by decide +kernel)), by decide +kernel, by decide⟩
theorem S_X12_item : Cond.selects mX12_item.1.cls mX12_item.1 mX12_item.1 ∈ gt := (gt_in (inT_8 _ (List.mem_of_getElem? (i := 11) (by decide +kernel))) (by decide +kernel))
theorem M_X12_joins : okM mX12_joins 1 := ⟨(gt_in (inT_7 _ (List.mem_of_getElem? (i := 130) (by decide +kernel))) (by decide +kernel)), by decide +kernel, (gt_in (inT_1 _ (List.mem_of_getElem? (i := 13) (by decide +kernel))) (by decide +kernel)), by decide +kernel, by decide⟩
theorem S_X12_joins : Cond.selects mX12_joins.1.cls mX12_joins.1 mX12_joins.1 ∈ gt := (gt_in (inT_7 _ (List.mem_of_getElem? (i := 129) (by decide +kernel))) (by decide +kernel))
theorem M_X12_judge : okM mX12_judge 1 := ⟨(gt_in (inT_8 _ (List.mem_of_getElem? (i := 24) (by decide +kernel))) (by decide +kernel)), by decide +kernel, (gt_in (inT_1 _ (List.mem_of_getElem? (i := 13) (by decide +kernel))) (by decide +kernel)), by decide +kernel, by decide⟩
theorem S_X12_judge : Cond.selects mX12_judge.1.cls mX12_judge.1 mX12_judge.1 ∈ gt := (gt_in (inT_8 _ (List.mem_of_getElem? (i := 23) (by decide +kernel))) (by decide +kernel))
theorem M_X12_keeps : okM mX12_keeps 1 := ⟨(gt_in (inT_7 _ (List.mem_of_getElem? (i := 232) (by decide +kernel))) (by decide +kernel)), by decide +kernel, (gt_in (inT_1 _ (List.mem_of_getElem? (i := 13) (by decide +kernel))) (by decide +kernel)), by decide +kernel, by decide⟩
theorem S_X12_keeps : Cond.selects mX12_keeps.1.cls mX12_keeps.1 mX12_keeps.1 ∈ gt := (gt_in (List.mem_append_left _ (List.mem_of_getElem? (i := 67) (by decide +kernel))) (by decide +kernel))
theorem M_X12_kernel : okM mX12_kernel 2 := ⟨(gt_in (inT_7 _ (List.mem_of_getElem? (i := 43) (by decide +kernel))) (by decide +kernel)), by decide +kernel, (gt_in (inT_1 _ (List.mem_of_getElem? (i := 13) (by decide +kernel))) (by decide +kernel)), by decide +kernel, by decide⟩
theorem S_X12_kernel : Cond.selects mX12_kernel.1.cls mX12_kernel.1 mX12_kernel.1 ∈ gt := (gt_in (inT_7 _ (List.mem_of_getElem? (i := 42) (by decide +kernel))) (by decide +kernel))
theorem M_X12_kernels : okM mX12_kernels 2 := ⟨(gt_in (inT_7 _ (List.mem_of_getElem? (i := 47) (by decide +kernel))) (by decide +kernel)), by decide +kernel, (gt_in (inT_1 _ (List.mem_of_getElem? (i := 13) (by decide +kernel))) (by decide +kernel)), by decide +kernel, by decide⟩
theorem S_X12_kernels : Cond.selects mX12_kernels.1.cls mX12_kernels.1 mX12_kernels.1 ∈ gt := (gt_in (List.mem_append_left _ (List.mem_of_getElem? (i := 43) (by decide +kernel))) (by decide +kernel))
theorem M_X12_kindOf : okM mX12_kindOf 2 := ⟨(gt_in (inT_7 _ (List.mem_of_getElem? (i := 166) (by decide +kernel))) (by decide +kernel)), by decide +kernel, (gt_in (inT_1 _ (List.mem_of_getElem? (i := 13) (by decide +kernel))) (by decide +kernel)), by decide +kernel, by decide⟩
theorem S_X12_kindOf : Cond.selects mX12_kindOf.1.cls mX12_kindOf.1 mX12_kindOf.1 ∈ gt := (gt_in (List.mem_append_left _ (List.mem_of_getElem? (i := 57) (by decide +kernel))) (by decide +kernel))
theorem M_X12_lays : okM mX12_lays 3 := ⟨(gt_in (inT_6 _ (List.mem_of_getElem? (i := 126) (by decide +kernel))) (by decide +kernel)), by decide +kernel, (gt_in (inT_1 _ (List.mem_of_getElem? (i := 13) (by decide +kernel))) (by decide +kernel)), by decide +kernel, by decide⟩
theorem S_X12_lays : Cond.selects mX12_lays.1.cls mX12_lays.1 mX12_lays.1 ∈ gt := (gt_in (List.mem_append_left _ (List.mem_of_getElem? (i := 25) (by decide +kernel))) (by decide +kernel))
theorem M_X12_laysHalves : okM mX12_laysHalves 1 := ⟨(gt_in (inT_6 _ (List.mem_of_getElem? (i := 220) (by decide +kernel))) (by decide +kernel)), by decide +kernel, (gt_in (inT_1 _ (List.mem_of_getElem? (i := 13) (by decide +kernel))) (by decide +kernel)), by decide +kernel, by decide⟩
theorem S_X12_laysHalves : Cond.selects mX12_laysHalves.1.cls mX12_laysHalves.1 mX12_laysHalves.1 ∈ gt := (gt_in (List.mem_append_left _ (List.mem_of_getElem? (i := 34) (by decide +kernel))) (by decide +kernel))
theorem M_X12_least : okM mX12_least 0 := ⟨(gt_in (inT_6 _ (List.mem_of_getElem? (i := 191) (by decide +kernel))) (by decide +kernel)), by decide +kernel, (gt_in (inT_1 _ (List.mem_of_getElem? (i := 13) (by decide +kernel))) (by decide +kernel)), by decide +kernel, by decide⟩
theorem S_X12_least : Cond.selects mX12_least.1.cls mX12_least.1 mX12_least.1 ∈ gt := (gt_in (List.mem_append_left _ (List.mem_of_getElem? (i := 33) (by decide +kernel))) (by decide +kernel))
theorem M_X12_leastHalves : okM mX12_leastHalves 1 := ⟨(gt_in (inT_6 _ (List.mem_of_getElem? (i := 224) (by decide +kernel))) (by decide +kernel)), by decide +kernel, (gt_in (inT_1 _ (List.mem_of_getElem? (i := 13) (by decide +kernel))) (by decide +kernel)), by decide +kernel, by decide⟩
theorem S_X12_leastHalves : Cond.selects mX12_leastHalves.1.cls mX12_leastHalves.1 mX12_leastHalves.1 ∈ gt := (gt_in (List.mem_append_left _ (List.mem_of_getElem? (i := 35) (by decide +kernel))) (by decide +kernel))
theorem M_X12_line : okM mX12_line 3 := ⟨(gt_in (inT_6 _ (List.mem_of_getElem? (i := 114) (by decide +kernel))) (by decide +kernel)), by decide +kernel, (gt_in (inT_1 _ (List.mem_of_getElem? (i := 13) (by decide +kernel))) (by decide +kernel)), by decide +kernel, by decide⟩
theorem S_X12_line : Cond.selects mX12_line.1.cls mX12_line.1 mX12_line.1 ∈ gt := (gt_in (inT_6 _ (List.mem_of_getElem? (i := 113) (by decide +kernel))) (by decide +kernel))
theorem M_X12_lineMany : okM mX12_lineMany 0 := ⟨(gt_in (inT_6 _ (List.mem_of_getElem? (i := 152) (by decide +kernel))) (by decide +kernel)), by decide +kernel, (gt_in (inT_1 _ (List.mem_of_getElem? (i := 13) (by decide +kernel))) (by decide +kernel)), by decide +kernel, by decide⟩
theorem S_X12_lineMany : Cond.selects mX12_lineMany.1.cls mX12_lineMany.1 mX12_lineMany.1 ∈ gt := (gt_in (List.mem_append_left _ (List.mem_of_getElem? (i := 27) (by decide +kernel))) (by decide +kernel))
theorem M_X12_linesIn : okM mX12_linesIn 1 := ⟨(gt_in (inT_7 _ (List.mem_of_getElem? (i := 191) (by decide +kernel))) (by decide +kernel)), by decide +kernel, (gt_in (inT_1 _ (List.mem_of_getElem? (i := 13) (by decide +kernel))) (by decide +kernel)), by decide +kernel, by decide⟩
theorem S_X12_linesIn : Cond.selects mX12_linesIn.1.cls mX12_linesIn.1 mX12_linesIn.1 ∈ gt := (gt_in (List.mem_append_left _ (List.mem_of_getElem? (i := 62) (by decide +kernel))) (by decide +kernel))
theorem M_X12_load : okM mX12_load 1 := ⟨(gt_in (inT_8 _ (List.mem_of_getElem? (i := 20) (by decide +kernel))) (by decide +kernel)), by decide +kernel, (gt_in (inT_1 _ (List.mem_of_getElem? (i := 13) (by decide +kernel))) (by decide +kernel)), by decide +kernel, by decide⟩
theorem S_X12_load : Cond.selects mX12_load.1.cls mX12_load.1 mX12_load.1 ∈ gt := (gt_in (inT_8 _ (List.mem_of_getElem? (i := 19) (by decide +kernel))) (by decide +kernel))
theorem M_X12_mate : okM mX12_mate 1 := ⟨(gt_in (inT_7 _ (List.mem_of_getElem? (i := 12) (by decide +kernel))) (by decide +kernel)), by decide +kernel, (gt_in (inT_1 _ (List.mem_of_getElem? (i := 13) (by decide +kernel))) (by decide +kernel)), by decide +kernel, by decide⟩
theorem S_X12_mate : Cond.selects mX12_mate.1.cls mX12_mate.1 mX12_mate.1 ∈ gt := (gt_in (inT_7 _ (List.mem_of_getElem? (i := 11) (by decide +kernel))) (by decide +kernel))
theorem M_X12_mayGet : okM mX12_mayGet 3 := ⟨(gt_in (inT_6 _ (List.mem_of_getElem? (i := 236) (by decide +kernel))) (by decide +kernel)), by decide +kernel, (gt_in (inT_1 _ (List.mem_of_getElem? (i := 13) (by decide +kernel))) (by decide +kernel)), by decide +kernel, by decide⟩
theorem S_X12_mayGet : Cond.selects mX12_mayGet.1.cls mX12_mayGet.1 mX12_mayGet.1 ∈ gt := (gt_in (List.mem_append_left _ (List.mem_of_getElem? (i := 38) (by decide +kernel))) (by decide +kernel))
theorem M_X12_mayHave : okM mX12_mayHave 1 := ⟨(gt_in (inT_7 _ (List.mem_of_getElem? (i := 8) (by decide +kernel))) (by decide +kernel)), by decide +kernel, (gt_in (inT_1 _ (List.mem_of_getElem? (i := 13) (by decide +kernel))) (by decide +kernel)), by decide +kernel, by decide⟩
theorem S_X12_mayHave : Cond.selects mX12_mayHave.1.cls mX12_mayHave.1 mX12_mayHave.1 ∈ gt := (gt_in (inT_7 _ (List.mem_of_getElem? (i := 7) (by decide +kernel))) (by decide +kernel))
theorem M_X12_nextTo : okM mX12_nextTo 1 := ⟨(gt_in (inT_7 _ (List.mem_of_getElem? (i := 31) (by decide +kernel))) (by decide +kernel)), by decide +kernel, (gt_in (inT_1 _ (List.mem_of_getElem? (i := 13) (by decide +kernel))) (by decide +kernel)), by decide +kernel, by decide⟩
theorem S_X12_nextTo : Cond.selects mX12_nextTo.1.cls mX12_nextTo.1 mX12_nextTo.1 ∈ gt := (gt_in (List.mem_append_left _ (List.mem_of_getElem? (i := 41) (by decide +kernel))) (by decide +kernel))
theorem M_X12_node : okM mX12_node 3 := ⟨(gt_in (inT_7 _ (List.mem_of_getElem? (i := 102) (by decide +kernel))) (by decide +kernel)), by decide +kernel, (gt_in (inT_1 _ (List.mem_of_getElem? (i := 13) (by decide +kernel))) (by decide +kernel)), by decide +kernel, by decide⟩
theorem S_X12_node : Cond.selects mX12_node.1.cls mX12_node.1 mX12_node.1 ∈ gt := (gt_in (inT_7 _ (List.mem_of_getElem? (i := 101) (by decide +kernel))) (by decide +kernel))
theorem M_X12_over : okM mX12_over 1 := ⟨(gt_in (inT_8 _ (List.mem_of_getElem? (i := 38) (by decide +kernel))) (by decide +kernel)), by decide +kernel, (gt_in (inT_1 _ (List.mem_of_getElem? (i := 13) (by decide +kernel))) (by decide +kernel)), by decide +kernel, by decide⟩
theorem M_X12_pack : okM mX12_pack 1 := ⟨(gt_in (inT_7 _ (List.mem_of_getElem? (i := 67) (by decide +kernel))) (by decide +kernel)), by decide +kernel, (gt_in (inT_1 _ (List.mem_of_getElem? (i := 13) (by decide +kernel))) (by decide +kernel)), by decide +kernel, by decide⟩
theorem S_X12_pack : Cond.selects mX12_pack.1.cls mX12_pack.1 mX12_pack.1 ∈ gt := (gt_in (inT_7 _ (List.mem_of_getElem? (i := 66) (by decide +kernel))) (by decide +kernel))
theorem M_X12_packs : okM mX12_packs 1 := ⟨(gt_in (inT_7 _ (List.mem_of_getElem? (i := 75) (by decide +kernel))) (by decide +kernel)), by decide +kernel, (gt_in (inT_1 _ (List.mem_of_getElem? (i := 13) (by decide +kernel))) (by decide +kernel)), by decide +kernel, by decide⟩
theorem S_X12_packs : Cond.selects mX12_packs.1.cls mX12_packs.1 mX12_packs.1 ∈ gt := (gt_in (inT_7 _ (List.mem_of_getElem? (i := 74) (by decide +kernel))) (by decide +kernel))
theorem M_X12_packsTo : okM mX12_packsTo 3 := ⟨(gt_in (inT_7 _ (List.mem_of_getElem? (i := 71) (by decide +kernel))) (by decide +kernel)), by decide +kernel, (gt_in (inT_1 _ (List.mem_of_getElem? (i := 13) (by decide +kernel))) (by decide +kernel)), by decide +kernel, by decide⟩
theorem S_X12_packsTo : Cond.selects mX12_packsTo.1.cls mX12_packsTo.1 mX12_packsTo.1 ∈ gt := (gt_in (List.mem_append_left _ (List.mem_of_getElem? (i := 47) (by decide +kernel))) (by decide +kernel))
theorem M_X12_paid : okM mX12_paid 2 := ⟨(gt_in (inT_7 _ (List.mem_of_getElem? (i := 142) (by decide +kernel))) (by decide +kernel)), by decide +kernel, (gt_in (inT_1 _ (List.mem_of_getElem? (i := 13) (by decide +kernel))) (by decide +kernel)), by decide +kernel, by decide⟩
theorem S_X12_paid : Cond.selects mX12_paid.1.cls mX12_paid.1 mX12_paid.1 ∈ gt := (gt_in (inT_7 _ (List.mem_of_getElem? (i := 141) (by decide +kernel))) (by decide +kernel))
theorem M_X12_pairs : okM mX12_pairs 2 := ⟨(gt_in (inT_6 _ (List.mem_of_getElem? (i := 228) (by decide +kernel))) (by decide +kernel)), by decide +kernel, (gt_in (inT_1 _ (List.mem_of_getElem? (i := 13) (by decide +kernel))) (by decide +kernel)), by decide +kernel, by decide⟩
theorem S_X12_pairs : Cond.selects mX12_pairs.1.cls mX12_pairs.1 mX12_pairs.1 ∈ gt := (gt_in (List.mem_append_left _ (List.mem_of_getElem? (i := 36) (by decide +kernel))) (by decide +kernel))
theorem M_X12_pairsAll : okM mX12_pairsAll 2 := ⟨(gt_in (inT_7 _ (List.mem_of_getElem? (i := 16) (by decide +kernel))) (by decide +kernel)), by decide +kernel, (gt_in (inT_1 _ (List.mem_of_getElem? (i := 13) (by decide +kernel))) (by decide +kernel)), by decide +kernel, by decide⟩
theorem S_X12_pairsAll : Cond.selects mX12_pairsAll.1.cls mX12_pairsAll.1 mX12_pairsAll.1 ∈ gt := (gt_in (List.mem_append_left _ (List.mem_of_getElem? (i := 40) (by decide +kernel))) (by decide +kernel))
theorem M_X12_payments : okM mX12_payments 2 := ⟨(gt_in (inT_7 _ (List.mem_of_getElem? (i := 138) (by decide +kernel))) (by decide +kernel)), by decide +kernel, (gt_in (inT_1 _ (List.mem_of_getElem? (i := 13) (by decide +kernel))) (by decide +kernel)), by decide +kernel, by decide⟩
theorem S_X12_payments : Cond.selects mX12_payments.1.cls mX12_payments.1 mX12_payments.1 ∈ gt := (gt_in (List.mem_append_left _ (List.mem_of_getElem? (i := 54) (by decide +kernel))) (by decide +kernel))
theorem M_X12_pays : okM mX12_pays 1 := ⟨(gt_in (inT_7 _ (List.mem_of_getElem? (i := 134) (by decide +kernel))) (by decide +kernel)), by decide +kernel, (gt_in (inT_1 _ (List.mem_of_getElem? (i := 13) (by decide +kernel))) (by decide +kernel)), by decide +kernel, by decide⟩
theorem S_X12_pays : Cond.selects mX12_pays.1.cls mX12_pays.1 mX12_pays.1 ∈ gt := (gt_in (inT_7 _ (List.mem_of_getElem? (i := 133) (by decide +kernel))) (by decide +kernel))
theorem M_X12_persists : okM mX12_persists 0 := ⟨(gt_in (inT_7 _ (List.mem_of_getElem? (i := 23) (by decide +kernel))) (by decide +kernel)), by decide +kernel, (gt_in (inT_1 _ (List.mem_of_getElem? (i := 13) (by decide +kernel))) (by decide +kernel)), by decide +kernel, by decide⟩
theorem S_X12_persists : Cond.selects mX12_persists.1.cls mX12_persists.1 mX12_persists.1 ∈ gt := (gt_in (inT_7 _ (List.mem_of_getElem? (i := 22) (by decide +kernel))) (by decide +kernel))
theorem M_X12_plant : okM mX12_plant 0 := ⟨(gt_in (inT_7 _ (List.mem_of_getElem? (i := 207) (by decide +kernel))) (by decide +kernel)), by decide +kernel, (gt_in (inT_1 _ (List.mem_of_getElem? (i := 13) (by decide +kernel))) (by decide +kernel)), by decide +kernel, by decide⟩
theorem S_X12_plant : Cond.selects mX12_plant.1.cls mX12_plant.1 mX12_plant.1 ∈ gt := (gt_in (inT_7 _ (List.mem_of_getElem? (i := 206) (by decide +kernel))) (by decide +kernel))
theorem M_X12_point : okM mX12_point 2 := ⟨(gt_in (inT_6 _ (List.mem_of_getElem? (i := 103) (by decide +kernel))) (by decide +kernel)), by decide +kernel, (gt_in (inT_1 _ (List.mem_of_getElem? (i := 13) (by decide +kernel))) (by decide +kernel)), by decide +kernel, by decide⟩
theorem S_X12_point : Cond.selects mX12_point.1.cls mX12_point.1 mX12_point.1 ∈ gt := (gt_in (inT_6 _ (List.mem_of_getElem? (i := 102) (by decide +kernel))) (by decide +kernel))
theorem M_X12_pointOf : okM mX12_pointOf 2 := ⟨(gt_in (inT_6 _ (List.mem_of_getElem? (i := 130) (by decide +kernel))) (by decide +kernel)), by decide +kernel, (gt_in (inT_1 _ (List.mem_of_getElem? (i := 13) (by decide +kernel))) (by decide +kernel)), by decide +kernel, by decide⟩
theorem S_X12_pointOf : Cond.selects mX12_pointOf.1.cls mX12_pointOf.1 mX12_pointOf.1 ∈ gt := (gt_in (inT_6 _ (List.mem_of_getElem? (i := 129) (by decide +kernel))) (by decide +kernel))
theorem M_X12_prove : okM mX12_prove 2 := ⟨(gt_in (inT_7 _ (List.mem_of_getElem? (i := 106) (by decide +kernel))) (by decide +kernel)), by decide +kernel, (gt_in (inT_1 _ (List.mem_of_getElem? (i := 13) (by decide +kernel))) (by decide +kernel)), by decide +kernel, by decide⟩
theorem S_X12_prove : Cond.selects mX12_prove.1.cls mX12_prove.1 mX12_prove.1 ∈ gt := (gt_in (inT_7 _ (List.mem_of_getElem? (i := 105) (by decide +kernel))) (by decide +kernel))
theorem M_X12_proves : okM mX12_proves 2 := ⟨(gt_in (inT_7 _ (List.mem_of_getElem? (i := 110) (by decide +kernel))) (by decide +kernel)), by decide +kernel, (gt_in (inT_1 _ (List.mem_of_getElem? (i := 13) (by decide +kernel))) (by decide +kernel)), by decide +kernel, by decide⟩
theorem S_X12_proves : Cond.selects mX12_proves.1.cls mX12_proves.1 mX12_proves.1 ∈ gt := (gt_in (inT_7 _ (List.mem_of_getElem? (i := 109) (by decide +kernel))) (by decide +kernel))
theorem M_X12_putsBack : okM mX12_putsBack 1 := ⟨(gt_in (inT_7 _ (List.mem_of_getElem? (i := 236) (by decide +kernel))) (by decide +kernel)), by decide +kernel, (gt_in (inT_1 _ (List.mem_of_getElem? (i := 13) (by decide +kernel))) (by decide +kernel)), by decide +kernel, by decide⟩
theorem S_X12_putsBack : Cond.selects mX12_putsBack.1.cls mX12_putsBack.1 mX12_putsBack.1 ∈ gt := (gt_in (List.mem_append_left _ (List.mem_of_getElem? (i := 68) (by decide +kernel))) (by decide +kernel))
theorem M_X12_round : okM mX12_round 3 := ⟨(gt_in (inT_7 _ (List.mem_of_getElem? (i := 63) (by decide +kernel))) (by decide +kernel)), by decide +kernel, (gt_in (inT_1 _ (List.mem_of_getElem? (i := 13) (by decide +kernel))) (by decide +kernel)), by decide +kernel, by decide⟩
theorem S_X12_round : Cond.selects mX12_round.1.cls mX12_round.1 mX12_round.1 ∈ gt := (gt_in (inT_7 _ (List.mem_of_getElem? (i := 62) (by decide +kernel))) (by decide +kernel))
theorem M_X12_rule : okM mX12_rule 3 := ⟨(gt_in (inT_7 _ (List.mem_of_getElem? (i := 59) (by decide +kernel))) (by decide +kernel)), by decide +kernel, (gt_in (inT_1 _ (List.mem_of_getElem? (i := 13) (by decide +kernel))) (by decide +kernel)), by decide +kernel, by decide⟩
theorem S_X12_rule : Cond.selects mX12_rule.1.cls mX12_rule.1 mX12_rule.1 ∈ gt := (gt_in (List.mem_append_left _ (List.mem_of_getElem? (i := 46) (by decide +kernel))) (by decide +kernel))
theorem M_X12_rules : okM mX12_rules 0 := ⟨(gt_in (inT_7 _ (List.mem_of_getElem? (i := 51) (by decide +kernel))) (by decide +kernel)), by decide +kernel, (gt_in (inT_1 _ (List.mem_of_getElem? (i := 13) (by decide +kernel))) (by decide +kernel)), by decide +kernel, by decide⟩
theorem S_X12_rules : Cond.selects mX12_rules.1.cls mX12_rules.1 mX12_rules.1 ∈ gt := (gt_in (List.mem_append_left _ (List.mem_of_getElem? (i := 44) (by decide +kernel))) (by decide +kernel))
theorem M_X12_search : okM mX12_search 2 := ⟨(gt_in (inT_7 _ (List.mem_of_getElem? (i := 86) (by decide +kernel))) (by decide +kernel)), by decide +kernel, (gt_in (inT_1 _ (List.mem_of_getElem? (i := 13) (by decide +kernel))) (by decide +kernel)), by decide +kernel, by decide⟩
theorem S_X12_search : Cond.selects mX12_search.1.cls mX12_search.1 mX12_search.1 ∈ gt := (gt_in (inT_7 _ (List.mem_of_getElem? (i := 85) (by decide +kernel))) (by decide +kernel))
theorem M_X12_searchFor : okM mX12_searchFor 2 := ⟨(gt_in (inT_7 _ (List.mem_of_getElem? (i := 90) (by decide +kernel))) (by decide +kernel)), by decide +kernel, (gt_in (inT_1 _ (List.mem_of_getElem? (i := 13) (by decide +kernel))) (by decide +kernel)), by decide +kernel, by decide⟩
theorem S_X12_searchFor : Cond.selects mX12_searchFor.1.cls mX12_searchFor.1 mX12_searchFor.1 ∈ gt := (gt_in (List.mem_append_left _ (List.mem_of_getElem? (i := 49) (by decide +kernel))) (by decide +kernel))
theorem M_X12_searches : okM mX12_searches 4 := ⟨(gt_in (inT_7 _ (List.mem_of_getElem? (i := 94) (by decide +kernel))) (by decide +kernel)), by decide +kernel, (gt_in (inT_1 _ (List.mem_of_getElem? (i := 13) (by decide +kernel))) (by decide +kernel)), by decide +kernel, by decide⟩
theorem S_X12_searches : Cond.selects mX12_searches.1.cls mX12_searches.1 mX12_searches.1 ∈ gt := (gt_in (List.mem_append_left _ (List.mem_of_getElem? (i := 50) (by decide +kernel))) (by decide +kernel))
theorem M_X12_seed : okM mX12_seed 1 := ⟨(gt_in (inT_7 _ (List.mem_of_getElem? (i := 211) (by decide +kernel))) (by decide +kernel)), by decide +kernel, (gt_in (inT_1 _ (List.mem_of_getElem? (i := 13) (by decide +kernel))) (by decide +kernel)), by decide +kernel, by decide⟩
theorem S_X12_seed : Cond.selects mX12_seed.1.cls mX12_seed.1 mX12_seed.1 ∈ gt := (gt_in (inT_7 _ (List.mem_of_getElem? (i := 210) (by decide +kernel))) (by decide +kernel))
theorem M_X12_share : okM mX12_share 1 := ⟨(gt_in (inT_6 _ (List.mem_of_getElem? (i := 208) (by decide +kernel))) (by decide +kernel)), by decide +kernel, (gt_in (inT_1 _ (List.mem_of_getElem? (i := 13) (by decide +kernel))) (by decide +kernel)), by decide +kernel, by decide⟩
theorem S_X12_share : Cond.selects mX12_share.1.cls mX12_share.1 mX12_share.1 ∈ gt := (gt_in (inT_6 _ (List.mem_of_getElem? (i := 207) (by decide +kernel))) (by decide +kernel))
theorem M_X12_sheet : okM mX12_sheet 3 := ⟨(gt_in (inT_8 _ (List.mem_of_getElem? (i := 0) (by decide +kernel))) (by decide +kernel)), by decide +kernel, (gt_in (inT_1 _ (List.mem_of_getElem? (i := 13) (by decide +kernel))) (by decide +kernel)), by decide +kernel, by decide⟩
theorem S_X12_sheet : Cond.selects mX12_sheet.1.cls mX12_sheet.1 mX12_sheet.1 ∈ gt := (gt_in (inT_7 _ (List.mem_of_getElem? (i := 239) (by decide +kernel))) (by decide +kernel))
theorem M_X12_shelf : okM mX12_shelf 3 := ⟨(gt_in (inT_8 _ (List.mem_of_getElem? (i := 28) (by decide +kernel))) (by decide +kernel)), by decide +kernel, (gt_in (inT_1 _ (List.mem_of_getElem? (i := 13) (by decide +kernel))) (by decide +kernel)), by decide +kernel, by decide⟩
theorem S_X12_shelf : Cond.selects mX12_shelf.1.cls mX12_shelf.1 mX12_shelf.1 ∈ gt := (gt_in (inT_8 _ (List.mem_of_getElem? (i := 27) (by decide +kernel))) (by decide +kernel))
theorem M_X12_sized : okM mX12_sized 1 := ⟨(gt_in (inT_6 _ (List.mem_of_getElem? (i := 200) (by decide +kernel))) (by decide +kernel)), by decide +kernel, (gt_in (inT_1 _ (List.mem_of_getElem? (i := 13) (by decide +kernel))) (by decide +kernel)), by decide +kernel, by decide⟩
theorem S_X12_sized : Cond.selects mX12_sized.1.cls mX12_sized.1 mX12_sized.1 ∈ gt := (gt_in (inT_6 _ (List.mem_of_getElem? (i := 199) (by decide +kernel))) (by decide +kernel))
theorem M_X12_taken : okM mX12_taken 2 := ⟨(gt_in (inT_8 _ (List.mem_of_getElem? (i := 35) (by decide +kernel))) (by decide +kernel)), by decide +kernel, (gt_in (inT_1 _ (List.mem_of_getElem? (i := 13) (by decide +kernel))) (by decide +kernel)), by decide +kernel, by decide⟩
theorem S_X12_taken : Cond.selects mX12_taken.1.cls mX12_taken.1 mX12_taken.1 ∈ gt := (gt_in (inT_8 _ (List.mem_of_getElem? (i := 34) (by decide +kernel))) (by decide +kernel))
theorem M_X12_text : okM mX12_text 0 := ⟨(gt_in (inT_7 _ (List.mem_of_getElem? (i := 154) (by decide +kernel))) (by decide +kernel)), by decide +kernel, (gt_in (inT_1 _ (List.mem_of_getElem? (i := 13) (by decide +kernel))) (by decide +kernel)), by decide +kernel, by decide⟩
theorem S_X12_text : Cond.selects mX12_text.1.cls mX12_text.1 mX12_text.1 ∈ gt := (gt_in (inT_7 _ (List.mem_of_getElem? (i := 153) (by decide +kernel))) (by decide +kernel))
theorem M_X12_times : okM mX12_times 4 := ⟨(gt_in (inT_7 _ (List.mem_of_getElem? (i := 228) (by decide +kernel))) (by decide +kernel)), by decide +kernel, (gt_in (inT_1 _ (List.mem_of_getElem? (i := 13) (by decide +kernel))) (by decide +kernel)), by decide +kernel, by decide⟩
theorem S_X12_times : Cond.selects mX12_times.1.cls mX12_times.1 mX12_times.1 ∈ gt := (gt_in (inT_7 _ (List.mem_of_getElem? (i := 227) (by decide +kernel))) (by decide +kernel))
theorem M_X12_tree : okM mX12_tree 1 := ⟨(gt_in (inT_7 _ (List.mem_of_getElem? (i := 174) (by decide +kernel))) (by decide +kernel)), by decide +kernel, (gt_in (inT_1 _ (List.mem_of_getElem? (i := 13) (by decide +kernel))) (by decide +kernel)), by decide +kernel, by decide⟩
theorem S_X12_tree : Cond.selects mX12_tree.1.cls mX12_tree.1 mX12_tree.1 ∈ gt := (gt_in (inT_7 _ (List.mem_of_getElem? (i := 173) (by decide +kernel))) (by decide +kernel))
theorem M_X12_treeOf : okM mX12_treeOf 2 := ⟨(gt_in (inT_7 _ (List.mem_of_getElem? (i := 195) (by decide +kernel))) (by decide +kernel)), by decide +kernel, (gt_in (inT_1 _ (List.mem_of_getElem? (i := 13) (by decide +kernel))) (by decide +kernel)), by decide +kernel, by decide⟩
theorem S_X12_treeOf : Cond.selects mX12_treeOf.1.cls mX12_treeOf.1 mX12_treeOf.1 ∈ gt := (gt_in (inT_7 _ (List.mem_of_getElem? (i := 194) (by decide +kernel))) (by decide +kernel))
theorem M_X12_turning : okM mX12_turning 3 := ⟨(gt_in (inT_7 _ (List.mem_of_getElem? (i := 126) (by decide +kernel))) (by decide +kernel)), by decide +kernel, (gt_in (inT_1 _ (List.mem_of_getElem? (i := 13) (by decide +kernel))) (by decide +kernel)), by decide +kernel, by decide⟩
theorem S_X12_turning : Cond.selects mX12_turning.1.cls mX12_turning.1 mX12_turning.1 ∈ gt := (gt_in (List.mem_append_left _ (List.mem_of_getElem? (i := 53) (by decide +kernel))) (by decide +kernel))
theorem M_X12_wipe : okM mX12_wipe 0 := ⟨(gt_in (inT_7 _ (List.mem_of_getElem? (i := 150) (by decide +kernel))) (by decide +kernel)), by decide +kernel, (gt_in (inT_1 _ (List.mem_of_getElem? (i := 13) (by decide +kernel))) (by decide +kernel)), by decide +kernel, by decide⟩
theorem S_X12_wipe : Cond.selects mX12_wipe.1.cls mX12_wipe.1 mX12_wipe.1 ∈ gt := (gt_in (inT_7 _ (List.mem_of_getElem? (i := 149) (by decide +kernel))) (by decide +kernel))
theorem M_X12_without : okM mX12_without 1 := ⟨(gt_in (inT_7 _ (List.mem_of_getElem? (i := 118) (by decide +kernel))) (by decide +kernel)), by decide +kernel, (gt_in (inT_1 _ (List.mem_of_getElem? (i := 13) (by decide +kernel))) (by decide +kernel)), by decide +kernel, by decide⟩
theorem S_X12_without : Cond.selects mX12_without.1.cls mX12_without.1 mX12_without.1 ∈ gt := (gt_in (inT_7 _ (List.mem_of_getElem? (i := 117) (by decide +kernel))) (by decide +kernel))
theorem M_X12_write : okM mX12_write 3 := ⟨(gt_in (inT_8 _ (List.mem_of_getElem? (i := 4) (by decide +kernel))) (by decide +kernel)), by decide +kernel, (gt_in (inT_1 _ (List.mem_of_getElem? (i := 13) (by decide +kernel))) (by decide +kernel)), by decide +kernel, by decide⟩
theorem S_X12_write : Cond.selects mX12_write.1.cls mX12_write.1 mX12_write.1 ∈ gt := (gt_in (inT_8 _ (List.mem_of_getElem? (i := 3) (by decide +kernel))) (by decide +kernel))
theorem M_X12_wrongAt : okM mX12_wrongAt 2 := ⟨(gt_in (inT_8 _ (List.mem_of_getElem? (i := 8) (by decide +kernel))) (by decide +kernel)), by decide +kernel, (gt_in (inT_1 _ (List.mem_of_getElem? (i := 13) (by decide +kernel))) (by decide +kernel)), by decide +kernel, by decide⟩
theorem S_X12_wrongAt : Cond.selects mX12_wrongAt.1.cls mX12_wrongAt.1 mX12_wrongAt.1 ∈ gt := (gt_in (List.mem_append_left _ (List.mem_of_getElem? (i := 69) (by decide +kernel))) (by decide +kernel))
theorem M_X1_find : okM mX1_find 3 := ⟨(gt_in (inT_3 _ (List.mem_of_getElem? (i := 212) (by decide +kernel))) (by decide +kernel)), by decide +kernel, (gt_in (inT_1 _ (List.mem_of_getElem? (i := 5) (by decide +kernel))) (by decide +kernel)), by decide +kernel, by decide⟩
theorem S_X1_find : Cond.selects mX1_find.1.cls mX1_find.1 mX1_find.1 ∈ gt := (gt_in (inT_3 _ (List.mem_of_getElem? (i := 211) (by decide +kernel))) (by decide +kernel))
theorem M_X1_isOne : okM mX1_isOne 4 := ⟨(gt_in (inT_3 _ (List.mem_of_getElem? (i := 202) (by decide +kernel))) (by decide +kernel)), by decide +kernel, (gt_in (inT_1 _ (List.mem_of_getElem? (i := 5) (by decide +kernel))) (by decide +kernel)), by decide +kernel, by decide⟩
theorem M_X2_firstMate : okM mX2_firstMate 4 := ⟨(gt_in (inT_3 _ (List.mem_of_getElem? (i := 171) (by decide +kernel))) (by decide +kernel)), by decide +kernel, (gt_in (inT_1 _ (List.mem_of_getElem? (i := 3) (by decide +kernel))) (by decide +kernel)), by decide +kernel, by decide⟩
theorem S_X2_firstMate : Cond.selects mX2_firstMate.1.cls mX2_firstMate.1 mX2_firstMate.1 ∈ gt := (gt_in (inT_3 _ (List.mem_of_getElem? (i := 170) (by decide +kernel))) (by decide +kernel))
theorem M_X2_least : okM mX2_least 2 := ⟨(gt_in (inT_3 _ (List.mem_of_getElem? (i := 129) (by decide +kernel))) (by decide +kernel)), by decide +kernel, (gt_in (inT_1 _ (List.mem_of_getElem? (i := 3) (by decide +kernel))) (by decide +kernel)), by decide +kernel, by decide⟩
theorem S_X2_least : Cond.selects mX2_least.1.cls mX2_least.1 mX2_least.1 ∈ gt := (gt_in (inT_3 _ (List.mem_of_getElem? (i := 128) (by decide +kernel))) (by decide +kernel))
theorem M_X2_leastMate : okM mX2_leastMate 4 := ⟨(gt_in (inT_3 _ (List.mem_of_getElem? (i := 175) (by decide +kernel))) (by decide +kernel)), by decide +kernel, (gt_in (inT_1 _ (List.mem_of_getElem? (i := 3) (by decide +kernel))) (by decide +kernel)), by decide +kernel, by decide⟩
theorem S_X2_leastMate : Cond.selects mX2_leastMate.1.cls mX2_leastMate.1 mX2_leastMate.1 ∈ gt := (gt_in (List.mem_append_left _ (List.mem_of_getElem? (i := 6) (by decide +kernel))) (by decide +kernel))
theorem M_X2_leastWith : okM mX2_leastWith 5 := ⟨(gt_in (inT_3 _ (List.mem_of_getElem? (i := 149) (by decide +kernel))) (by decide +kernel)), by decide +kernel, (gt_in (inT_1 _ (List.mem_of_getElem? (i := 3) (by decide +kernel))) (by decide +kernel)), by decide +kernel, by decide⟩
theorem S_X2_leastWith : Cond.selects mX2_leastWith.1.cls mX2_leastWith.1 mX2_leastWith.1 ∈ gt := (gt_in (List.mem_append_left _ (List.mem_of_getElem? (i := 5) (by decide +kernel))) (by decide +kernel))
theorem M_X2_mostPairs : okM mX2_mostPairs 3 := ⟨(gt_in (inT_3 _ (List.mem_of_getElem? (i := 133) (by decide +kernel))) (by decide +kernel)), by decide +kernel, (gt_in (inT_1 _ (List.mem_of_getElem? (i := 3) (by decide +kernel))) (by decide +kernel)), by decide +kernel, by decide⟩
theorem S_X2_mostPairs : Cond.selects mX2_mostPairs.1.cls mX2_mostPairs.1 mX2_mostPairs.1 ∈ gt := (gt_in (inT_3 _ (List.mem_of_getElem? (i := 132) (by decide +kernel))) (by decide +kernel))
theorem M_X2_pairsOneMore : okM mX2_pairsOneMore 3 := ⟨(gt_in (inT_3 _ (List.mem_of_getElem? (i := 140) (by decide +kernel))) (by decide +kernel)), by decide +kernel, (gt_in (inT_1 _ (List.mem_of_getElem? (i := 3) (by decide +kernel))) (by decide +kernel)), by decide +kernel, by decide⟩
theorem S_X2_pairsOneMore : Cond.selects mX2_pairsOneMore.1.cls mX2_pairsOneMore.1 mX2_pairsOneMore.1 ∈ gt := (gt_in (List.mem_append_left _ (List.mem_of_getElem? (i := 3) (by decide +kernel))) (by decide +kernel))
theorem M_X2_possible : okM mX2_possible 3 := ⟨(gt_in (inT_3 _ (List.mem_of_getElem? (i := 163) (by decide +kernel))) (by decide +kernel)), by decide +kernel, (gt_in (inT_1 _ (List.mem_of_getElem? (i := 3) (by decide +kernel))) (by decide +kernel)), by decide +kernel, by decide⟩
theorem S_X2_possible : Cond.selects mX2_possible.1.cls mX2_possible.1 mX2_possible.1 ∈ gt := (gt_in (inT_3 _ (List.mem_of_getElem? (i := 162) (by decide +kernel))) (by decide +kernel))
theorem M_X2_settle : okM mX2_settle 2 := ⟨(gt_in (inT_3 _ (List.mem_of_getElem? (i := 125) (by decide +kernel))) (by decide +kernel)), by decide +kernel, (gt_in (inT_1 _ (List.mem_of_getElem? (i := 3) (by decide +kernel))) (by decide +kernel)), by decide +kernel, by decide⟩
theorem S_X2_settle : Cond.selects mX2_settle.1.cls mX2_settle.1 mX2_settle.1 ∈ gt := (gt_in (inT_3 _ (List.mem_of_getElem? (i := 124) (by decide +kernel))) (by decide +kernel))
theorem M_X2_shiftPairs : okM mX2_shiftPairs 1 := ⟨(gt_in (inT_3 _ (List.mem_of_getElem? (i := 145) (by decide +kernel))) (by decide +kernel)), by decide +kernel, (gt_in (inT_1 _ (List.mem_of_getElem? (i := 3) (by decide +kernel))) (by decide +kernel)), by decide +kernel, by decide⟩
theorem S_X2_shiftPairs : Cond.selects mX2_shiftPairs.1.cls mX2_shiftPairs.1 mX2_shiftPairs.1 ∈ gt := (gt_in (List.mem_append_left _ (List.mem_of_getElem? (i := 4) (by decide +kernel))) (by decide +kernel))
theorem M_X3_doesRound : okM mX3_doesRound 1 := ⟨(gt_in (inT_3 _ (List.mem_of_getElem? (i := 231) (by decide +kernel))) (by decide +kernel)), by decide +kernel, (gt_in (inT_1 _ (List.mem_of_getElem? (i := 6) (by decide +kernel))) (by decide +kernel)), by decide +kernel, by decide⟩
theorem S_X3_doesRound : Cond.selects mX3_doesRound.1.cls mX3_doesRound.1 mX3_doesRound.1 ∈ gt := (gt_in (List.mem_append_left _ (List.mem_of_getElem? (i := 7) (by decide +kernel))) (by decide +kernel))
theorem M_X3_goes : okM mX3_goes 3 := ⟨(gt_in (inT_4 _ (List.mem_of_getElem? (i := 1) (by decide +kernel))) (by decide +kernel)), by decide +kernel, (gt_in (inT_1 _ (List.mem_of_getElem? (i := 6) (by decide +kernel))) (by decide +kernel)), by decide +kernel, by decide⟩
theorem S_X3_goes : Cond.selects mX3_goes.1.cls mX3_goes.1 mX3_goes.1 ∈ gt := (gt_in (List.mem_append_left _ (List.mem_of_getElem? (i := 9) (by decide +kernel))) (by decide +kernel))
theorem M_X3_leastWith : okM mX3_leastWith 3 := ⟨(gt_in (inT_3 _ (List.mem_of_getElem? (i := 235) (by decide +kernel))) (by decide +kernel)), by decide +kernel, (gt_in (inT_1 _ (List.mem_of_getElem? (i := 6) (by decide +kernel))) (by decide +kernel)), by decide +kernel, by decide⟩
theorem S_X3_leastWith : Cond.selects mX3_leastWith.1.cls mX3_leastWith.1 mX3_leastWith.1 ∈ gt := (gt_in (List.mem_append_left _ (List.mem_of_getElem? (i := 8) (by decide +kernel))) (by decide +kernel))
theorem M_X3_reduce : okM mX3_reduce 2 := ⟨(gt_in (inT_3 _ (List.mem_of_getElem? (i := 226) (by decide +kernel))) (by decide +kernel)), by decide +kernel, (gt_in (inT_1 _ (List.mem_of_getElem? (i := 6) (by decide +kernel))) (by decide +kernel)), by decide +kernel, by decide⟩
theorem S_X3_reduce : Cond.selects mX3_reduce.1.cls mX3_reduce.1 mX3_reduce.1 ∈ gt := (gt_in (inT_3 _ (List.mem_of_getElem? (i := 225) (by decide +kernel))) (by decide +kernel))
theorem M_X3_refuses : okM mX3_refuses 0 := ⟨(gt_in (inT_4 _ (List.mem_of_getElem? (i := 6) (by decide +kernel))) (by decide +kernel)), by decide +kernel, (gt_in (inT_1 _ (List.mem_of_getElem? (i := 6) (by decide +kernel))) (by decide +kernel)), by decide +kernel, by decide⟩
theorem S_X3_refuses : Cond.selects mX3_refuses.1.cls mX3_refuses.1 mX3_refuses.1 ∈ gt := (gt_in (inT_4 _ (List.mem_of_getElem? (i := 5) (by decide +kernel))) (by decide +kernel))
theorem M_X4_add : okM mX4_add 2 := ⟨(gt_in (inT_2 _ (List.mem_of_getElem? (i := 199) (by decide +kernel))) (by decide +kernel)), by decide +kernel, (gt_in (inT_1 _ (List.mem_of_getElem? (i := 2) (by decide +kernel))) (by decide +kernel)), by decide +kernel, by decide⟩
theorem S_X4_add : Cond.selects mX4_add.1.cls mX4_add.1 mX4_add.1 ∈ gt := (gt_in (inT_2 _ (List.mem_of_getElem? (i := 198) (by decide +kernel))) (by decide +kernel))
theorem M_X4_all : okM mX4_all 0 := ⟨(gt_in (inT_3 _ (List.mem_of_getElem? (i := 34) (by decide +kernel))) (by decide +kernel)), by decide +kernel, (gt_in (inT_1 _ (List.mem_of_getElem? (i := 2) (by decide +kernel))) (by decide +kernel)), by decide +kernel, by decide⟩
theorem S_X4_all : Cond.selects mX4_all.1.cls mX4_all.1 mX4_all.1 ∈ gt := (gt_in (inT_3 _ (List.mem_of_getElem? (i := 33) (by decide +kernel))) (by decide +kernel))
theorem M_X4_become : okM mX4_become 1 := ⟨(gt_in (inT_4 _ (List.mem_of_getElem? (i := 107) (by decide +kernel))) (by decide +kernel)), by decide +kernel, (gt_in (inT_1 _ (List.mem_of_getElem? (i := 2) (by decide +kernel))) (by decide +kernel)), by decide +kernel, by decide⟩
theorem S_X4_become : Cond.selects mX4_become.1.cls mX4_become.1 mX4_become.1 ∈ gt := (gt_in (inT_4 _ (List.mem_of_getElem? (i := 106) (by decide +kernel))) (by decide +kernel))
theorem M_X4_becomeDealt : okM mX4_becomeDealt 3 := ⟨(gt_in (inT_5 _ (List.mem_of_getElem? (i := 92) (by decide +kernel))) (by decide +kernel)), by decide +kernel, (gt_in (inT_1 _ (List.mem_of_getElem? (i := 2) (by decide +kernel))) (by decide +kernel)), by decide +kernel, by decide⟩
theorem S_X4_becomeDealt : Cond.selects mX4_becomeDealt.1.cls mX4_becomeDealt.1 mX4_becomeDealt.1 ∈ gt := (gt_in (inT_5 _ (List.mem_of_getElem? (i := 91) (by decide +kernel))) (by decide +kernel))
theorem M_X4_busiest : okM mX4_busiest 2 := ⟨(gt_in (inT_3 _ (List.mem_of_getElem? (i := 188) (by decide +kernel))) (by decide +kernel)), by decide +kernel, (gt_in (inT_1 _ (List.mem_of_getElem? (i := 2) (by decide +kernel))) (by decide +kernel)), by decide +kernel, by decide⟩
theorem M_X4_clear : okM mX4_clear 0 := ⟨(gt_in (inT_5 _ (List.mem_of_getElem? (i := 79) (by decide +kernel))) (by decide +kernel)), by decide +kernel, (gt_in (inT_1 _ (List.mem_of_getElem? (i := 2) (by decide +kernel))) (by decide +kernel)), by decide +kernel, by decide⟩
theorem S_X4_clear : Cond.selects mX4_clear.1.cls mX4_clear.1 mX4_clear.1 ∈ gt := (gt_in (inT_5 _ (List.mem_of_getElem? (i := 78) (by decide +kernel))) (by decide +kernel))
theorem M_X4_covers : okM mX4_covers 1 := ⟨(gt_in (inT_3 _ (List.mem_of_getElem? (i := 38) (by decide +kernel))) (by decide +kernel)), by decide +kernel, (gt_in (inT_1 _ (List.mem_of_getElem? (i := 2) (by decide +kernel))) (by decide +kernel)), by decide +kernel, by decide⟩
theorem S_X4_covers : Cond.selects mX4_covers.1.cls mX4_covers.1 mX4_covers.1 ∈ gt := (gt_in (inT_3 _ (List.mem_of_getElem? (i := 37) (by decide +kernel))) (by decide +kernel))
theorem M_X4_degree : okM mX4_degree 1 := ⟨(gt_in (inT_2 _ (List.mem_of_getElem? (i := 233) (by decide +kernel))) (by decide +kernel)), by decide +kernel, (gt_in (inT_1 _ (List.mem_of_getElem? (i := 2) (by decide +kernel))) (by decide +kernel)), by decide +kernel, by decide⟩
theorem S_X4_degree : Cond.selects mX4_degree.1.cls mX4_degree.1 mX4_degree.1 ∈ gt := (gt_in (inT_2 _ (List.mem_of_getElem? (i := 232) (by decide +kernel))) (by decide +kernel))
theorem M_X4_drawn : okM mX4_drawn 1 := ⟨(gt_in (inT_5 _ (List.mem_of_getElem? (i := 96) (by decide +kernel))) (by decide +kernel)), by decide +kernel, (gt_in (inT_1 _ (List.mem_of_getElem? (i := 2) (by decide +kernel))) (by decide +kernel)), by decide +kernel, by decide⟩
theorem M_X4_has : okM mX4_has 1 := ⟨(gt_in (inT_2 _ (List.mem_of_getElem? (i := 211) (by decide +kernel))) (by decide +kernel)), by decide +kernel, (gt_in (inT_1 _ (List.mem_of_getElem? (i := 2) (by decide +kernel))) (by decide +kernel)), by decide +kernel, by decide⟩
theorem S_X4_has : Cond.selects mX4_has.1.cls mX4_has.1 mX4_has.1 ∈ gt := (gt_in (inT_2 _ (List.mem_of_getElem? (i := 210) (by decide +kernel))) (by decide +kernel))
theorem M_X4_hasAll : okM mX4_hasAll 1 := ⟨(gt_in (inT_3 _ (List.mem_of_getElem? (i := 30) (by decide +kernel))) (by decide +kernel)), by decide +kernel, (gt_in (inT_1 _ (List.mem_of_getElem? (i := 2) (by decide +kernel))) (by decide +kernel)), by decide +kernel, by decide⟩
theorem S_X4_hasAll : Cond.selects mX4_hasAll.1.cls mX4_hasAll.1 mX4_hasAll.1 ∈ gt := (gt_in (inT_3 _ (List.mem_of_getElem? (i := 29) (by decide +kernel))) (by decide +kernel))
theorem M_X4_hasTwo : okM mX4_hasTwo 2 := ⟨(gt_in (inT_2 _ (List.mem_of_getElem? (i := 207) (by decide +kernel))) (by decide +kernel)), by decide +kernel, (gt_in (inT_1 _ (List.mem_of_getElem? (i := 2) (by decide +kernel))) (by decide +kernel)), by decide +kernel, by decide⟩
theorem S_X4_hasTwo : Cond.selects mX4_hasTwo.1.cls mX4_hasTwo.1 mX4_hasTwo.1 ∈ gt := (gt_in (inT_2 _ (List.mem_of_getElem? (i := 206) (by decide +kernel))) (by decide +kernel))
theorem M_X4_join : okM mX4_join 3 := ⟨(gt_in (inT_2 _ (List.mem_of_getElem? (i := 219) (by decide +kernel))) (by decide +kernel)), by decide +kernel, (gt_in (inT_1 _ (List.mem_of_getElem? (i := 2) (by decide +kernel))) (by decide +kernel)), by decide +kernel, by decide⟩
theorem S_X4_join : Cond.selects mX4_join.1.cls mX4_join.1 mX4_join.1 ∈ gt := (gt_in (inT_2 _ (List.mem_of_getElem? (i := 218) (by decide +kernel))) (by decide +kernel))
theorem M_X4_joined : okM mX4_joined 2 := ⟨(gt_in (inT_2 _ (List.mem_of_getElem? (i := 215) (by decide +kernel))) (by decide +kernel)), by decide +kernel, (gt_in (inT_1 _ (List.mem_of_getElem? (i := 2) (by decide +kernel))) (by decide +kernel)), by decide +kernel, by decide⟩
theorem S_X4_joined : Cond.selects mX4_joined.1.cls mX4_joined.1 mX4_joined.1 ∈ gt := (gt_in (inT_2 _ (List.mem_of_getElem? (i := 214) (by decide +kernel))) (by decide +kernel))
theorem M_X4_lines : okM mX4_lines 0 := ⟨(gt_in (inT_3 _ (List.mem_of_getElem? (i := 18) (by decide +kernel))) (by decide +kernel)), by decide +kernel, (gt_in (inT_1 _ (List.mem_of_getElem? (i := 2) (by decide +kernel))) (by decide +kernel)), by decide +kernel, by decide⟩
theorem S_X4_lines : Cond.selects mX4_lines.1.cls mX4_lines.1 mX4_lines.1 ∈ gt := (gt_in (inT_3 _ (List.mem_of_getElem? (i := 17) (by decide +kernel))) (by decide +kernel))
theorem M_X4_lonely : okM mX4_lonely 0 := ⟨(gt_in (inT_3 _ (List.mem_of_getElem? (i := 22) (by decide +kernel))) (by decide +kernel)), by decide +kernel, (gt_in (inT_1 _ (List.mem_of_getElem? (i := 2) (by decide +kernel))) (by decide +kernel)), by decide +kernel, by decide⟩
theorem S_X4_lonely : Cond.selects mX4_lonely.1.cls mX4_lonely.1 mX4_lonely.1 ∈ gt := (gt_in (inT_3 _ (List.mem_of_getElem? (i := 21) (by decide +kernel))) (by decide +kernel))
theorem M_X4_mayFollow : okM mX4_mayFollow 2 := ⟨(gt_in (inT_5 _ (List.mem_of_getElem? (i := 142) (by decide +kernel))) (by decide +kernel)), by decide +kernel, (gt_in (inT_1 _ (List.mem_of_getElem? (i := 2) (by decide +kernel))) (by decide +kernel)), by decide +kernel, by decide⟩
theorem S_X4_mayFollow : Cond.selects mX4_mayFollow.1.cls mX4_mayFollow.1 mX4_mayFollow.1 ∈ gt := (gt_in (inT_5 _ (List.mem_of_getElem? (i := 141) (by decide +kernel))) (by decide +kernel))
theorem M_X4_near : okM mX4_near 1 := ⟨(gt_in (inT_3 _ (List.mem_of_getElem? (i := 199) (by decide +kernel))) (by decide +kernel)), by decide +kernel, (gt_in (inT_1 _ (List.mem_of_getElem? (i := 2) (by decide +kernel))) (by decide +kernel)), by decide +kernel, by decide⟩
theorem S_X4_near : Cond.selects mX4_near.1.cls mX4_near.1 mX4_near.1 ∈ gt := (gt_in (inT_3 _ (List.mem_of_getElem? (i := 198) (by decide +kernel))) (by decide +kernel))
theorem M_X4_needsAll : okM mX4_needsAll 1 := ⟨(gt_in (inT_3 _ (List.mem_of_getElem? (i := 42) (by decide +kernel))) (by decide +kernel)), by decide +kernel, (gt_in (inT_1 _ (List.mem_of_getElem? (i := 2) (by decide +kernel))) (by decide +kernel)), by decide +kernel, by decide⟩
theorem S_X4_needsAll : Cond.selects mX4_needsAll.1.cls mX4_needsAll.1 mX4_needsAll.1 ∈ gt := (gt_in (inT_3 _ (List.mem_of_getElem? (i := 41) (by decide +kernel))) (by decide +kernel))
theorem M_X4_payUpTo : okM mX4_payUpTo 2 := ⟨(gt_in (inT_4 _ (List.mem_of_getElem? (i := 123) (by decide +kernel))) (by decide +kernel)), by decide +kernel, (gt_in (inT_1 _ (List.mem_of_getElem? (i := 2) (by decide +kernel))) (by decide +kernel)), by decide +kernel, by decide⟩
theorem S_X4_payUpTo : Cond.selects mX4_payUpTo.1.cls mX4_payUpTo.1 mX4_payUpTo.1 ∈ gt := (gt_in (inT_4 _ (List.mem_of_getElem? (i := 122) (by decide +kernel))) (by decide +kernel))
theorem M_X4_price : okM mX4_price 1 := ⟨(gt_in (inT_2 _ (List.mem_of_getElem? (i := 229) (by decide +kernel))) (by decide +kernel)), by decide +kernel, (gt_in (inT_1 _ (List.mem_of_getElem? (i := 2) (by decide +kernel))) (by decide +kernel)), by decide +kernel, by decide⟩
theorem S_X4_price : Cond.selects mX4_price.1.cls mX4_price.1 mX4_price.1 ∈ gt := (gt_in (inT_2 _ (List.mem_of_getElem? (i := 228) (by decide +kernel))) (by decide +kernel))
theorem M_X4_priceOfAll : okM mX4_priceOfAll 1 := ⟨(gt_in (inT_3 _ (List.mem_of_getElem? (i := 50) (by decide +kernel))) (by decide +kernel)), by decide +kernel, (gt_in (inT_1 _ (List.mem_of_getElem? (i := 2) (by decide +kernel))) (by decide +kernel)), by decide +kernel, by decide⟩
theorem S_X4_priceOfAll : Cond.selects mX4_priceOfAll.1.cls mX4_priceOfAll.1 mX4_priceOfAll.1 ∈ gt := (gt_in (inT_3 _ (List.mem_of_getElem? (i := 49) (by decide +kernel))) (by decide +kernel))
theorem M_X4_spent : okM mX4_spent 0 := ⟨(gt_in (inT_4 _ (List.mem_of_getElem? (i := 129) (by decide +kernel))) (by decide +kernel)), by decide +kernel, (gt_in (inT_1 _ (List.mem_of_getElem? (i := 2) (by decide +kernel))) (by decide +kernel)), by decide +kernel, by decide⟩
theorem S_X4_spent : Cond.selects mX4_spent.1.cls mX4_spent.1 mX4_spent.1 ∈ gt := (gt_in (inT_4 _ (List.mem_of_getElem? (i := 128) (by decide +kernel))) (by decide +kernel))
theorem M_X5_bestOf : okM mX5_bestOf 2 := ⟨(gt_in (inT_4 _ (List.mem_of_getElem? (i := 23) (by decide +kernel))) (by decide +kernel)), by decide +kernel, (gt_in (inT_1 _ (List.mem_of_getElem? (i := 7) (by decide +kernel))) (by decide +kernel)), by decide +kernel, by decide⟩
theorem S_X5_bestOf : Cond.selects mX5_bestOf.1.cls mX5_bestOf.1 mX5_bestOf.1 ∈ gt := (gt_in (List.mem_append_left _ (List.mem_of_getElem? (i := 10) (by decide +kernel))) (by decide +kernel))
theorem M_X5_canHold : okM mX5_canHold 2 := ⟨(gt_in (inT_4 _ (List.mem_of_getElem? (i := 41) (by decide +kernel))) (by decide +kernel)), by decide +kernel, (gt_in (inT_1 _ (List.mem_of_getElem? (i := 7) (by decide +kernel))) (by decide +kernel)), by decide +kernel, by decide⟩
theorem S_X5_canHold : Cond.selects mX5_canHold.1.cls mX5_canHold.1 mX5_canHold.1 ∈ gt := (gt_in (inT_4 _ (List.mem_of_getElem? (i := 40) (by decide +kernel))) (by decide +kernel))
theorem M_X5_findBest : okM mX5_findBest 1 := ⟨(gt_in (inT_4 _ (List.mem_of_getElem? (i := 18) (by decide +kernel))) (by decide +kernel)), by decide +kernel, (gt_in (inT_1 _ (List.mem_of_getElem? (i := 7) (by decide +kernel))) (by decide +kernel)), by decide +kernel, by decide⟩
theorem S_X5_findBest : Cond.selects mX5_findBest.1.cls mX5_findBest.1 mX5_findBest.1 ∈ gt := (gt_in (inT_4 _ (List.mem_of_getElem? (i := 17) (by decide +kernel))) (by decide +kernel))
theorem M_X6_begins : okM mX6_begins 5 := ⟨(gt_in (inT_4 _ (List.mem_of_getElem? (i := 57) (by decide +kernel))) (by decide +kernel)), by decide +kernel, (gt_in (inT_1 _ (List.mem_of_getElem? (i := 8) (by decide +kernel))) (by decide +kernel)), by decide +kernel, by decide⟩
theorem S_X6_begins : Cond.selects mX6_begins.1.cls mX6_begins.1 mX6_begins.1 ∈ gt := (gt_in (List.mem_append_left _ (List.mem_of_getElem? (i := 11) (by decide +kernel))) (by decide +kernel))
theorem M_X6_firstWrong : okM mX6_firstWrong 4 := ⟨(gt_in (inT_4 _ (List.mem_of_getElem? (i := 90) (by decide +kernel))) (by decide +kernel)), by decide +kernel, (gt_in (inT_1 _ (List.mem_of_getElem? (i := 8) (by decide +kernel))) (by decide +kernel)), by decide +kernel, by decide⟩
theorem S_X6_firstWrong : Cond.selects mX6_firstWrong.1.cls mX6_firstWrong.1 mX6_firstWrong.1 ∈ gt := (gt_in (inT_4 _ (List.mem_of_getElem? (i := 89) (by decide +kernel))) (by decide +kernel))
theorem M_X6_keep : okM mX6_keep 5 := ⟨(gt_in (inT_4 _ (List.mem_of_getElem? (i := 63) (by decide +kernel))) (by decide +kernel)), by decide +kernel, (gt_in (inT_1 _ (List.mem_of_getElem? (i := 8) (by decide +kernel))) (by decide +kernel)), by decide +kernel, by decide⟩
theorem S_X6_keep : Cond.selects mX6_keep.1.cls mX6_keep.1 mX6_keep.1 ∈ gt := (gt_in (List.mem_append_left _ (List.mem_of_getElem? (i := 12) (by decide +kernel))) (by decide +kernel))
theorem M_X6_readsRight : okM mX6_readsRight 6 := ⟨(gt_in (inT_4 _ (List.mem_of_getElem? (i := 94) (by decide +kernel))) (by decide +kernel)), by decide +kernel, (gt_in (inT_1 _ (List.mem_of_getElem? (i := 8) (by decide +kernel))) (by decide +kernel)), by decide +kernel, by decide⟩
theorem S_X6_readsRight : Cond.selects mX6_readsRight.1.cls mX6_readsRight.1 mX6_readsRight.1 ∈ gt := (gt_in (List.mem_append_left _ (List.mem_of_getElem? (i := 13) (by decide +kernel))) (by decide +kernel))
theorem M_X6_run : okM mX6_run 3 := ⟨(gt_in (inT_4 _ (List.mem_of_getElem? (i := 52) (by decide +kernel))) (by decide +kernel)), by decide +kernel, (gt_in (inT_1 _ (List.mem_of_getElem? (i := 8) (by decide +kernel))) (by decide +kernel)), by decide +kernel, by decide⟩
theorem S_X6_run : Cond.selects mX6_run.1.cls mX6_run.1 mX6_run.1 ∈ gt := (gt_in (inT_4 _ (List.mem_of_getElem? (i := 51) (by decide +kernel))) (by decide +kernel))
theorem M_X7_begin : okM mX7_begin 3 := ⟨(gt_in (inT_4 _ (List.mem_of_getElem? (i := 77) (by decide +kernel))) (by decide +kernel)), by decide +kernel, (gt_in (inT_1 _ (List.mem_of_getElem? (i := 10) (by decide +kernel))) (by decide +kernel)), by decide +kernel, by decide⟩
theorem S_X7_begin : Cond.selects mX7_begin.1.cls mX7_begin.1 mX7_begin.1 ∈ gt := (gt_in (inT_4 _ (List.mem_of_getElem? (i := 76) (by decide +kernel))) (by decide +kernel))
theorem M_X7_has : okM mX7_has 1 := ⟨(gt_in (inT_4 _ (List.mem_of_getElem? (i := 33) (by decide +kernel))) (by decide +kernel)), by decide +kernel, (gt_in (inT_1 _ (List.mem_of_getElem? (i := 10) (by decide +kernel))) (by decide +kernel)), by decide +kernel, by decide⟩
theorem S_X7_has : Cond.selects mX7_has.1.cls mX7_has.1 mX7_has.1 ∈ gt := (gt_in (inT_4 _ (List.mem_of_getElem? (i := 32) (by decide +kernel))) (by decide +kernel))
theorem M_X7_hasRange : okM mX7_hasRange 3 := ⟨(gt_in (inT_5 _ (List.mem_of_getElem? (i := 129) (by decide +kernel))) (by decide +kernel)), by decide +kernel, (gt_in (inT_1 _ (List.mem_of_getElem? (i := 10) (by decide +kernel))) (by decide +kernel)), by decide +kernel, by decide⟩
theorem S_X7_hasRange : Cond.selects mX7_hasRange.1.cls mX7_hasRange.1 mX7_hasRange.1 ∈ gt := (gt_in (inT_5 _ (List.mem_of_getElem? (i := 128) (by decide +kernel))) (by decide +kernel))
theorem M_X7_isMissing : okM mX7_isMissing 1 := ⟨(gt_in (inT_4 _ (List.mem_of_getElem? (i := 37) (by decide +kernel))) (by decide +kernel)), by decide +kernel, (gt_in (inT_1 _ (List.mem_of_getElem? (i := 10) (by decide +kernel))) (by decide +kernel)), by decide +kernel, by decide⟩
theorem S_X7_isMissing : Cond.selects mX7_isMissing.1.cls mX7_isMissing.1 mX7_isMissing.1 ∈ gt := (gt_in (inT_4 _ (List.mem_of_getElem? (i := 36) (by decide +kernel))) (by decide +kernel))
theorem M_X7_put : okM mX7_put 3 := ⟨(gt_in (inT_4 _ (List.mem_of_getElem? (i := 82) (by decide +kernel))) (by decide +kernel)), by decide +kernel, (gt_in (inT_1 _ (List.mem_of_getElem? (i := 10) (by decide +kernel))) (by decide +kernel)), by decide +kernel, by decide⟩
theorem S_X7_put : Cond.selects mX7_put.1.cls mX7_put.1 mX7_put.1 ∈ gt := (gt_in (inT_4 _ (List.mem_of_getElem? (i := 81) (by decide +kernel))) (by decide +kernel))
theorem M_X7_refusal : okM mX7_refusal 2 := ⟨(gt_in (inT_5 _ (List.mem_of_getElem? (i := 115) (by decide +kernel))) (by decide +kernel)), by decide +kernel, (gt_in (inT_1 _ (List.mem_of_getElem? (i := 10) (by decide +kernel))) (by decide +kernel)), by decide +kernel, by decide⟩
theorem S_X7_refusal : Cond.selects mX7_refusal.1.cls mX7_refusal.1 mX7_refusal.1 ∈ gt := (gt_in (inT_5 _ (List.mem_of_getElem? (i := 114) (by decide +kernel))) (by decide +kernel))
theorem M_X8_has : okM mX8_has 1 := ⟨(gt_in (inT_5 _ (List.mem_of_getElem? (i := 152) (by decide +kernel))) (by decide +kernel)), by decide +kernel, (gt_in (inT_1 _ (List.mem_of_getElem? (i := 11) (by decide +kernel))) (by decide +kernel)), by decide +kernel, by decide⟩
theorem S_X8_has : Cond.selects mX8_has.1.cls mX8_has.1 mX8_has.1 ∈ gt := (gt_in (inT_5 _ (List.mem_of_getElem? (i := 151) (by decide +kernel))) (by decide +kernel))
theorem M_X8_holdNothing : okM mX8_holdNothing 1 := ⟨(gt_in (inT_5 _ (List.mem_of_getElem? (i := 164) (by decide +kernel))) (by decide +kernel)), by decide +kernel, (gt_in (inT_1 _ (List.mem_of_getElem? (i := 11) (by decide +kernel))) (by decide +kernel)), by decide +kernel, by decide⟩
theorem S_X8_holdNothing : Cond.selects mX8_holdNothing.1.cls mX8_holdNothing.1 mX8_holdNothing.1 ∈ gt := (gt_in (inT_5 _ (List.mem_of_getElem? (i := 163) (by decide +kernel))) (by decide +kernel))
theorem M_X8_holdPoint : okM mX8_holdPoint 2 := ⟨(gt_in (inT_5 _ (List.mem_of_getElem? (i := 156) (by decide +kernel))) (by decide +kernel)), by decide +kernel, (gt_in (inT_1 _ (List.mem_of_getElem? (i := 11) (by decide +kernel))) (by decide +kernel)), by decide +kernel, by decide⟩
theorem S_X8_holdPoint : Cond.selects mX8_holdPoint.1.cls mX8_holdPoint.1 mX8_holdPoint.1 ∈ gt := (gt_in (inT_5 _ (List.mem_of_getElem? (i := 155) (by decide +kernel))) (by decide +kernel))
theorem M_X8_holdRow : okM mX8_holdRow 3 := ⟨(gt_in (inT_5 _ (List.mem_of_getElem? (i := 160) (by decide +kernel))) (by decide +kernel)), by decide +kernel, (gt_in (inT_1 _ (List.mem_of_getElem? (i := 11) (by decide +kernel))) (by decide +kernel)), by decide +kernel, by decide⟩
theorem S_X8_holdRow : Cond.selects mX8_holdRow.1.cls mX8_holdRow.1 mX8_holdRow.1 ∈ gt := (gt_in (inT_5 _ (List.mem_of_getElem? (i := 159) (by decide +kernel))) (by decide +kernel))
theorem M_X9_behindClosing : okM mX9_behindClosing 1 := ⟨(gt_in (inT_4 _ (List.mem_of_getElem? (i := 180) (by decide +kernel))) (by decide +kernel)), by decide +kernel, (gt_in (inT_1 _ (List.mem_of_getElem? (i := 9) (by decide +kernel))) (by decide +kernel)), by decide +kernel, by decide⟩
theorem S_X9_behindClosing : Cond.selects mX9_behindClosing.1.cls mX9_behindClosing.1 mX9_behindClosing.1 ∈ gt := (gt_in (List.mem_append_left _ (List.mem_of_getElem? (i := 17) (by decide +kernel))) (by decide +kernel))
theorem M_X9_behindOpening : okM mX9_behindOpening 2 := ⟨(gt_in (inT_4 _ (List.mem_of_getElem? (i := 172) (by decide +kernel))) (by decide +kernel)), by decide +kernel, (gt_in (inT_1 _ (List.mem_of_getElem? (i := 9) (by decide +kernel))) (by decide +kernel)), by decide +kernel, by decide⟩
theorem S_X9_behindOpening : Cond.selects mX9_behindOpening.1.cls mX9_behindOpening.1 mX9_behindOpening.1 ∈ gt := (gt_in (List.mem_append_left _ (List.mem_of_getElem? (i := 16) (by decide +kernel))) (by decide +kernel))
theorem M_X9_behindToken : okM mX9_behindToken 4 := ⟨(gt_in (inT_4 _ (List.mem_of_getElem? (i := 168) (by decide +kernel))) (by decide +kernel)), by decide +kernel, (gt_in (inT_1 _ (List.mem_of_getElem? (i := 9) (by decide +kernel))) (by decide +kernel)), by decide +kernel, by decide⟩
theorem S_X9_behindToken : Cond.selects mX9_behindToken.1.cls mX9_behindToken.1 mX9_behindToken.1 ∈ gt := (gt_in (List.mem_append_left _ (List.mem_of_getElem? (i := 15) (by decide +kernel))) (by decide +kernel))
theorem M_X9_endOfToken : okM mX9_endOfToken 1 := ⟨(gt_in (inT_4 _ (List.mem_of_getElem? (i := 158) (by decide +kernel))) (by decide +kernel)), by decide +kernel, (gt_in (inT_1 _ (List.mem_of_getElem? (i := 9) (by decide +kernel))) (by decide +kernel)), by decide +kernel, by decide⟩
theorem S_X9_endOfToken : Cond.selects mX9_endOfToken.1.cls mX9_endOfToken.1 mX9_endOfToken.1 ∈ gt := (gt_in (List.mem_append_left _ (List.mem_of_getElem? (i := 14) (by decide +kernel))) (by decide +kernel))
theorem M_X9_fault : okM mX9_fault 1 := ⟨(gt_in (inT_4 _ (List.mem_of_getElem? (i := 154) (by decide +kernel))) (by decide +kernel)), by decide +kernel, (gt_in (inT_1 _ (List.mem_of_getElem? (i := 9) (by decide +kernel))) (by decide +kernel)), by decide +kernel, by decide⟩
theorem S_X9_fault : Cond.selects mX9_fault.1.cls mX9_fault.1 mX9_fault.1 ∈ gt := (gt_in (inT_4 _ (List.mem_of_getElem? (i := 153) (by decide +kernel))) (by decide +kernel))
theorem M_X9_isDigit : okM mX9_isDigit 1 := ⟨(gt_in (inT_4 _ (List.mem_of_getElem? (i := 164) (by decide +kernel))) (by decide +kernel)), by decide +kernel, (gt_in (inT_1 _ (List.mem_of_getElem? (i := 9) (by decide +kernel))) (by decide +kernel)), by decide +kernel, by decide⟩
theorem M_X9_isLetter : okM mX9_isLetter 1 := ⟨(gt_in (inT_4 _ (List.mem_of_getElem? (i := 161) (by decide +kernel))) (by decide +kernel)), by decide +kernel, (gt_in (inT_1 _ (List.mem_of_getElem? (i := 9) (by decide +kernel))) (by decide +kernel)), by decide +kernel, by decide⟩
theorem M_X9_kindOf : okM mX9_kindOf 2 := ⟨(gt_in (inT_4 _ (List.mem_of_getElem? (i := 184) (by decide +kernel))) (by decide +kernel)), by decide +kernel, (gt_in (inT_1 _ (List.mem_of_getElem? (i := 9) (by decide +kernel))) (by decide +kernel)), by decide +kernel, by decide⟩
theorem S_X9_kindOf : Cond.selects mX9_kindOf.1.cls mX9_kindOf.1 mX9_kindOf.1 ∈ gt := (gt_in (List.mem_append_left _ (List.mem_of_getElem? (i := 18) (by decide +kernel))) (by decide +kernel))
theorem M_X9_put : okM mX9_put 1 := ⟨(gt_in (inT_4 _ (List.mem_of_getElem? (i := 142) (by decide +kernel))) (by decide +kernel)), by decide +kernel, (gt_in (inT_1 _ (List.mem_of_getElem? (i := 9) (by decide +kernel))) (by decide +kernel)), by decide +kernel, by decide⟩
theorem S_X9_put : Cond.selects mX9_put.1.cls mX9_put.1 mX9_put.1 ∈ gt := (gt_in (inT_4 _ (List.mem_of_getElem? (i := 141) (by decide +kernel))) (by decide +kernel))
theorem M_X9_says : okM mX9_says 3 := ⟨(gt_in (inT_4 _ (List.mem_of_getElem? (i := 197) (by decide +kernel))) (by decide +kernel)), by decide +kernel, (gt_in (inT_1 _ (List.mem_of_getElem? (i := 9) (by decide +kernel))) (by decide +kernel)), by decide +kernel, by decide⟩
theorem S_X9_says : Cond.selects mX9_says.1.cls mX9_says.1 mX9_says.1 ∈ gt := (gt_in (List.mem_append_left _ (List.mem_of_getElem? (i := 19) (by decide +kernel))) (by decide +kernel))
theorem M_X9_wordOf : okM mX9_wordOf 1 := ⟨(gt_in (inT_4 _ (List.mem_of_getElem? (i := 187) (by decide +kernel))) (by decide +kernel)), by decide +kernel, (gt_in (inT_1 _ (List.mem_of_getElem? (i := 9) (by decide +kernel))) (by decide +kernel)), by decide +kernel, by decide⟩
theorem fX11_10 : fldF RX11 10 11 0 := ⟨RX11, TX11, 17, ok_X11, by decide, (gt_in (inT_2 _ (List.mem_of_getElem? (i := 131) (by decide +kernel))) (by decide +kernel))⟩
theorem fX11_16 : fldF RX11 16 11 1 := ⟨RX11, TX11, 17, ok_X11, by decide, (gt_in (inT_2 _ (List.mem_of_getElem? (i := 132) (by decide +kernel))) (by decide +kernel))⟩
theorem fX11_19 : fldF RX11 19 11 2 := ⟨RX11, TX11, 17, ok_X11, by decide, (gt_in (inT_2 _ (List.mem_of_getElem? (i := 133) (by decide +kernel))) (by decide +kernel))⟩
theorem fX11_25 : fldF RX11 25 11 3 := ⟨RX11, TX11, 17, ok_X11, by decide, (gt_in (inT_2 _ (List.mem_of_getElem? (i := 134) (by decide +kernel))) (by decide +kernel))⟩
theorem fX11_34 : fldF RX11 34 11 4 := ⟨RX11, TX11, 17, ok_X11, by decide, (gt_in (inT_2 _ (List.mem_of_getElem? (i := 135) (by decide +kernel))) (by decide +kernel))⟩
theorem fX11_41 : fldF RX11 41 11 5 := ⟨RX11, TX11, 17, ok_X11, by decide, (gt_in (inT_2 _ (List.mem_of_getElem? (i := 136) (by decide +kernel))) (by decide +kernel))⟩
theorem fX11_48 : fldF RX11 48 11 6 := ⟨RX11, TX11, 17, ok_X11, by decide, (gt_in (inT_2 _ (List.mem_of_getElem? (i := 137) (by decide +kernel))) (by decide +kernel))⟩
theorem fX11_55 : fldF RX11 55 11 7 := ⟨RX11, TX11, 17, ok_X11, by decide, (gt_in (inT_2 _ (List.mem_of_getElem? (i := 138) (by decide +kernel))) (by decide +kernel))⟩
theorem fX11_62 : fldF RX11 62 11 8 := ⟨RX11, TX11, 17, ok_X11, by decide, (gt_in (inT_2 _ (List.mem_of_getElem? (i := 139) (by decide +kernel))) (by decide +kernel))⟩
theorem fX11_69 : fldF RX11 69 11 9 := ⟨RX11, TX11, 17, ok_X11, by decide, (gt_in (inT_2 _ (List.mem_of_getElem? (i := 140) (by decide +kernel))) (by decide +kernel))⟩
theorem fX11_76 : fldF RX11 76 11 10 := ⟨RX11, TX11, 17, ok_X11, by decide, (gt_in (inT_2 _ (List.mem_of_getElem? (i := 141) (by decide +kernel))) (by decide +kernel))⟩
theorem fX11_83 : fldF RX11 83 11 11 := ⟨RX11, TX11, 17, ok_X11, by decide, (gt_in (inT_2 _ (List.mem_of_getElem? (i := 142) (by decide +kernel))) (by decide +kernel))⟩
theorem fX11_90 : fldF RX11 90 11 12 := ⟨RX11, TX11, 17, ok_X11, by decide, (gt_in (inT_2 _ (List.mem_of_getElem? (i := 143) (by decide +kernel))) (by decide +kernel))⟩
theorem pX11_90 : fld RX11 90 11 12 := ⟨RX11, TX11, 17, ok_X11, by decide, (gt_in (inT_2 _ (List.mem_of_getElem? (i := 143) (by decide +kernel))) (by decide +kernel)), rfl⟩
theorem fX11_94 : fldF RX11 94 11 13 := ⟨RX11, TX11, 17, ok_X11, by decide, (gt_in (inT_2 _ (List.mem_of_getElem? (i := 144) (by decide +kernel))) (by decide +kernel))⟩
theorem pX11_94 : fld RX11 94 11 13 := ⟨RX11, TX11, 17, ok_X11, by decide, (gt_in (inT_2 _ (List.mem_of_getElem? (i := 144) (by decide +kernel))) (by decide +kernel)), rfl⟩
theorem fX11_97 : fldF RX11 97 11 14 := ⟨RX11, TX11, 17, ok_X11, by decide, (gt_in (inT_2 _ (List.mem_of_getElem? (i := 145) (by decide +kernel))) (by decide +kernel))⟩
theorem pX11_97 : fld RX11 97 11 14 := ⟨RX11, TX11, 17, ok_X11, by decide, (gt_in (inT_2 _ (List.mem_of_getElem? (i := 145) (by decide +kernel))) (by decide +kernel)), rfl⟩
theorem fX11_101 : fldF RX11 101 11 15 := ⟨RX11, TX11, 17, ok_X11, by decide, (gt_in (inT_2 _ (List.mem_of_getElem? (i := 146) (by decide +kernel))) (by decide +kernel))⟩
theorem pX11_101 : fld RX11 101 11 15 := ⟨RX11, TX11, 17, ok_X11, by decide, (gt_in (inT_2 _ (List.mem_of_getElem? (i := 146) (by decide +kernel))) (by decide +kernel)), rfl⟩
theorem fX11_104 : fldF RX11 104 11 16 := ⟨RX11, TX11, 17, ok_X11, by decide, (gt_in (inT_2 _ (List.mem_of_getElem? (i := 147) (by decide +kernel))) (by decide +kernel))⟩
theorem pX11_104 : fld RX11 104 11 16 := ⟨RX11, TX11, 17, ok_X11, by decide, (gt_in (inT_2 _ (List.mem_of_getElem? (i := 147) (by decide +kernel))) (by decide +kernel)), rfl⟩
theorem fX11_115 : fldF RX11 115 4 4 := ⟨RX4, TX4, 5, ok_X4, by decide, (gt_in (inT_1 _ (List.mem_of_getElem? (i := 51) (by decide +kernel))) (by decide +kernel))⟩
theorem pX11_115 : fld RX11 115 4 4 := ⟨RX4, TX4, 5, ok_X4, by decide, (gt_in (inT_1 _ (List.mem_of_getElem? (i := 51) (by decide +kernel))) (by decide +kernel)), rfl⟩
theorem fX11_140 : fldF RX11 140 4 0 := ⟨RX4, TX4, 5, ok_X4, by decide, (gt_in (inT_1 _ (List.mem_of_getElem? (i := 38) (by decide +kernel))) (by decide +kernel))⟩
theorem fX11_144 : fldF RX11 144 4 1 := ⟨RX4, TX4, 5, ok_X4, by decide, (gt_in (inT_1 _ (List.mem_of_getElem? (i := 40) (by decide +kernel))) (by decide +kernel))⟩
theorem fX11_151 : fldF RX11 151 4 2 := ⟨RX4, TX4, 5, ok_X4, by decide, (gt_in (inT_1 _ (List.mem_of_getElem? (i := 47) (by decide +kernel))) (by decide +kernel))⟩
theorem fX11_164 : fldF RX11 164 9 3 := ⟨RX9, TX9, 4, ok_X9, by decide, (gt_in (inT_2 _ (List.mem_of_getElem? (i := 41) (by decide +kernel))) (by decide +kernel))⟩
theorem pX11_164 : fld RX11 164 9 3 := ⟨RX9, TX9, 4, ok_X9, by decide, (gt_in (inT_2 _ (List.mem_of_getElem? (i := 41) (by decide +kernel))) (by decide +kernel)), rfl⟩
theorem fX11_165 : fldF RX11 165 10 8 := ⟨RX10, TX10, 9, ok_X10, by decide, (gt_in (inT_2 _ (List.mem_of_getElem? (i := 110) (by decide +kernel))) (by decide +kernel))⟩
theorem pX11_165 : fld RX11 165 10 8 := ⟨RX10, TX10, 9, ok_X10, by decide, (gt_in (inT_2 _ (List.mem_of_getElem? (i := 110) (by decide +kernel))) (by decide +kernel)), rfl⟩
theorem fX11_182 : fldF RX11 182 0 2 := ⟨RX0, TX0, 7, ok_X0, by decide, (gt_in (inT_1 _ (List.mem_of_getElem? (i := 112) (by decide +kernel))) (by decide +kernel))⟩
theorem pX11_182 : fld RX11 182 0 2 := ⟨RX0, TX0, 7, ok_X0, by decide, (gt_in (inT_1 _ (List.mem_of_getElem? (i := 112) (by decide +kernel))) (by decide +kernel)), rfl⟩
theorem fX11_185 : fldF RX11 185 0 3 := ⟨RX0, TX0, 7, ok_X0, by decide, (gt_in (inT_1 _ (List.mem_of_getElem? (i := 114) (by decide +kernel))) (by decide +kernel))⟩
theorem pX11_185 : fld RX11 185 0 3 := ⟨RX0, TX0, 7, ok_X0, by decide, (gt_in (inT_1 _ (List.mem_of_getElem? (i := 114) (by decide +kernel))) (by decide +kernel)), rfl⟩
theorem fX11_188 : fldF RX11 188 0 4 := ⟨RX0, TX0, 7, ok_X0, by decide, (gt_in (inT_1 _ (List.mem_of_getElem? (i := 116) (by decide +kernel))) (by decide +kernel))⟩
theorem pX11_188 : fld RX11 188 0 4 := ⟨RX0, TX0, 7, ok_X0, by decide, (gt_in (inT_1 _ (List.mem_of_getElem? (i := 116) (by decide +kernel))) (by decide +kernel)), rfl⟩
theorem fX11_191 : fldF RX11 191 0 5 := ⟨RX0, TX0, 7, ok_X0, by decide, (gt_in (inT_1 _ (List.mem_of_getElem? (i := 118) (by decide +kernel))) (by decide +kernel))⟩
theorem pX11_191 : fld RX11 191 0 5 := ⟨RX0, TX0, 7, ok_X0, by decide, (gt_in (inT_1 _ (List.mem_of_getElem? (i := 118) (by decide +kernel))) (by decide +kernel)), rfl⟩
theorem fX11_197 : fldF RX11 197 0 6 := ⟨RX0, TX0, 7, ok_X0, by decide, (gt_in (inT_1 _ (List.mem_of_getElem? (i := 120) (by decide +kernel))) (by decide +kernel))⟩
theorem pX11_197 : fld RX11 197 0 6 := ⟨RX0, TX0, 7, ok_X0, by decide, (gt_in (inT_1 _ (List.mem_of_getElem? (i := 120) (by decide +kernel))) (by decide +kernel)), rfl⟩
theorem nX11_210 : Cond.constantLong RX11 210 (-2) ∈ gt := (gt_in (inT_3 _ (List.mem_of_getElem? (i := 113) (by decide +kernel))) (by decide +kernel))
theorem fX11_220 : fldF RX11 220 2 6 := ⟨RX2, TX2, 8, ok_X2, by decide, (gt_in (inT_1 _ (List.mem_of_getElem? (i := 81) (by decide +kernel))) (by decide +kernel))⟩
theorem pX11_220 : fld RX11 220 2 6 := ⟨RX2, TX2, 8, ok_X2, by decide, (gt_in (inT_1 _ (List.mem_of_getElem? (i := 81) (by decide +kernel))) (by decide +kernel)), rfl⟩
theorem fX11_228 : fldF RX11 228 2 7 := ⟨RX2, TX2, 8, ok_X2, by decide, (gt_in (inT_1 _ (List.mem_of_getElem? (i := 84) (by decide +kernel))) (by decide +kernel))⟩
theorem pX11_228 : fld RX11 228 2 7 := ⟨RX2, TX2, 8, ok_X2, by decide, (gt_in (inT_1 _ (List.mem_of_getElem? (i := 84) (by decide +kernel))) (by decide +kernel)), rfl⟩
theorem fX11_231 : fldF RX11 231 2 5 := ⟨RX2, TX2, 8, ok_X2, by decide, (gt_in (inT_1 _ (List.mem_of_getElem? (i := 79) (by decide +kernel))) (by decide +kernel))⟩
theorem pX11_231 : fld RX11 231 2 5 := ⟨RX2, TX2, 8, ok_X2, by decide, (gt_in (inT_1 _ (List.mem_of_getElem? (i := 79) (by decide +kernel))) (by decide +kernel)), rfl⟩
theorem fX11_257 : fldF RX11 257 1 0 := ⟨RX1, TX1, 2, ok_X1, by decide, (gt_in (inT_1 _ (List.mem_of_getElem? (i := 143) (by decide +kernel))) (by decide +kernel))⟩
theorem pX11_257 : fld RX11 257 1 0 := ⟨RX1, TX1, 2, ok_X1, by decide, (gt_in (inT_1 _ (List.mem_of_getElem? (i := 143) (by decide +kernel))) (by decide +kernel)), rfl⟩
theorem fX11_258 : fldF RX11 258 1 1 := ⟨RX1, TX1, 2, ok_X1, by decide, (gt_in (inT_1 _ (List.mem_of_getElem? (i := 145) (by decide +kernel))) (by decide +kernel))⟩
theorem pX11_258 : fld RX11 258 1 1 := ⟨RX1, TX1, 2, ok_X1, by decide, (gt_in (inT_1 _ (List.mem_of_getElem? (i := 145) (by decide +kernel))) (by decide +kernel)), rfl⟩
theorem fX11_268 : fldF RX11 268 3 5 := ⟨RX3, TX3, 8, ok_X3, by decide, (gt_in (inT_1 _ (List.mem_of_getElem? (i := 169) (by decide +kernel))) (by decide +kernel))⟩
theorem pX11_268 : fld RX11 268 3 5 := ⟨RX3, TX3, 8, ok_X3, by decide, (gt_in (inT_1 _ (List.mem_of_getElem? (i := 169) (by decide +kernel))) (by decide +kernel)), rfl⟩
theorem fX11_271 : fldF RX11 271 3 6 := ⟨RX3, TX3, 8, ok_X3, by decide, (gt_in (inT_1 _ (List.mem_of_getElem? (i := 171) (by decide +kernel))) (by decide +kernel))⟩
theorem pX11_271 : fld RX11 271 3 6 := ⟨RX3, TX3, 8, ok_X3, by decide, (gt_in (inT_1 _ (List.mem_of_getElem? (i := 171) (by decide +kernel))) (by decide +kernel)), rfl⟩
theorem fX11_274 : fldF RX11 274 3 7 := ⟨RX3, TX3, 8, ok_X3, by decide, (gt_in (inT_1 _ (List.mem_of_getElem? (i := 173) (by decide +kernel))) (by decide +kernel))⟩
theorem pX11_274 : fld RX11 274 3 7 := ⟨RX3, TX3, 8, ok_X3, by decide, (gt_in (inT_1 _ (List.mem_of_getElem? (i := 173) (by decide +kernel))) (by decide +kernel)), rfl⟩
theorem fX11_277 : fldF RX11 277 3 4 := ⟨RX3, TX3, 8, ok_X3, by decide, (gt_in (inT_1 _ (List.mem_of_getElem? (i := 167) (by decide +kernel))) (by decide +kernel))⟩
theorem pX11_277 : fld RX11 277 3 4 := ⟨RX3, TX3, 8, ok_X3, by decide, (gt_in (inT_1 _ (List.mem_of_getElem? (i := 167) (by decide +kernel))) (by decide +kernel)), rfl⟩
theorem fX11_284 : fldF RX11 284 3 1 := ⟨RX3, TX3, 8, ok_X3, by decide, (gt_in (inT_1 _ (List.mem_of_getElem? (i := 161) (by decide +kernel))) (by decide +kernel))⟩
theorem fX11_287 : fldF RX11 287 3 2 := ⟨RX3, TX3, 8, ok_X3, by decide, (gt_in (inT_1 _ (List.mem_of_getElem? (i := 163) (by decide +kernel))) (by decide +kernel))⟩
theorem fX11_290 : fldF RX11 290 3 3 := ⟨RX3, TX3, 8, ok_X3, by decide, (gt_in (inT_1 _ (List.mem_of_getElem? (i := 165) (by decide +kernel))) (by decide +kernel))⟩
theorem fX11_296 : fldF RX11 296 5 1 := ⟨RX5, TX5, 3, ok_X5, by decide, (gt_in (inT_1 _ (List.mem_of_getElem? (i := 199) (by decide +kernel))) (by decide +kernel))⟩
theorem pX11_296 : fld RX11 296 5 1 := ⟨RX5, TX5, 3, ok_X5, by decide, (gt_in (inT_1 _ (List.mem_of_getElem? (i := 199) (by decide +kernel))) (by decide +kernel)), rfl⟩
theorem fX11_299 : fldF RX11 299 5 2 := ⟨RX5, TX5, 3, ok_X5, by decide, (gt_in (inT_1 _ (List.mem_of_getElem? (i := 201) (by decide +kernel))) (by decide +kernel))⟩
theorem pX11_299 : fld RX11 299 5 2 := ⟨RX5, TX5, 3, ok_X5, by decide, (gt_in (inT_1 _ (List.mem_of_getElem? (i := 201) (by decide +kernel))) (by decide +kernel)), rfl⟩
theorem fX11_306 : fldF RX11 306 7 2 := ⟨RX7, TX7, 3, ok_X7, by decide, (gt_in (inT_2 _ (List.mem_of_getElem? (i := 64) (by decide +kernel))) (by decide +kernel))⟩
theorem fX11_309 : fldF RX11 309 7 0 := ⟨RX7, TX7, 3, ok_X7, by decide, (gt_in (inT_2 _ (List.mem_of_getElem? (i := 60) (by decide +kernel))) (by decide +kernel))⟩
theorem fX11_321 : fldF RX11 321 6 6 := ⟨RX6, TX6, 14, ok_X6, by decide, (gt_in (inT_1 _ (List.mem_of_getElem? (i := 229) (by decide +kernel))) (by decide +kernel))⟩
theorem pX11_321 : fld RX11 321 6 6 := ⟨RX6, TX6, 14, ok_X6, by decide, (gt_in (inT_1 _ (List.mem_of_getElem? (i := 229) (by decide +kernel))) (by decide +kernel)), rfl⟩
theorem fX11_324 : fldF RX11 324 6 2 := ⟨RX6, TX6, 14, ok_X6, by decide, (gt_in (inT_1 _ (List.mem_of_getElem? (i := 221) (by decide +kernel))) (by decide +kernel))⟩
theorem pX11_324 : fld RX11 324 6 2 := ⟨RX6, TX6, 14, ok_X6, by decide, (gt_in (inT_1 _ (List.mem_of_getElem? (i := 221) (by decide +kernel))) (by decide +kernel)), rfl⟩
theorem fX11_327 : fldF RX11 327 6 5 := ⟨RX6, TX6, 14, ok_X6, by decide, (gt_in (inT_1 _ (List.mem_of_getElem? (i := 227) (by decide +kernel))) (by decide +kernel))⟩
theorem pX11_327 : fld RX11 327 6 5 := ⟨RX6, TX6, 14, ok_X6, by decide, (gt_in (inT_1 _ (List.mem_of_getElem? (i := 227) (by decide +kernel))) (by decide +kernel)), rfl⟩
theorem fX11_330 : fldF RX11 330 6 3 := ⟨RX6, TX6, 14, ok_X6, by decide, (gt_in (inT_1 _ (List.mem_of_getElem? (i := 223) (by decide +kernel))) (by decide +kernel))⟩
theorem pX11_330 : fld RX11 330 6 3 := ⟨RX6, TX6, 14, ok_X6, by decide, (gt_in (inT_1 _ (List.mem_of_getElem? (i := 223) (by decide +kernel))) (by decide +kernel)), rfl⟩
theorem fX11_333 : fldF RX11 333 6 4 := ⟨RX6, TX6, 14, ok_X6, by decide, (gt_in (inT_1 _ (List.mem_of_getElem? (i := 225) (by decide +kernel))) (by decide +kernel))⟩
theorem pX11_333 : fld RX11 333 6 4 := ⟨RX6, TX6, 14, ok_X6, by decide, (gt_in (inT_1 _ (List.mem_of_getElem? (i := 225) (by decide +kernel))) (by decide +kernel)), rfl⟩
theorem fX11_336 : fldF RX11 336 6 8 := ⟨RX6, TX6, 14, ok_X6, by decide, (gt_in (inT_1 _ (List.mem_of_getElem? (i := 232) (by decide +kernel))) (by decide +kernel))⟩
theorem pX11_336 : fld RX11 336 6 8 := ⟨RX6, TX6, 14, ok_X6, by decide, (gt_in (inT_1 _ (List.mem_of_getElem? (i := 232) (by decide +kernel))) (by decide +kernel)), rfl⟩
theorem fX11_339 : fldF RX11 339 6 9 := ⟨RX6, TX6, 14, ok_X6, by decide, (gt_in (inT_1 _ (List.mem_of_getElem? (i := 234) (by decide +kernel))) (by decide +kernel))⟩
theorem pX11_339 : fld RX11 339 6 9 := ⟨RX6, TX6, 14, ok_X6, by decide, (gt_in (inT_1 _ (List.mem_of_getElem? (i := 234) (by decide +kernel))) (by decide +kernel)), rfl⟩
theorem fX11_342 : fldF RX11 342 6 10 := ⟨RX6, TX6, 14, ok_X6, by decide, (gt_in (inT_1 _ (List.mem_of_getElem? (i := 236) (by decide +kernel))) (by decide +kernel))⟩
theorem pX11_342 : fld RX11 342 6 10 := ⟨RX6, TX6, 14, ok_X6, by decide, (gt_in (inT_1 _ (List.mem_of_getElem? (i := 236) (by decide +kernel))) (by decide +kernel)), rfl⟩
theorem fX11_345 : fldF RX11 345 6 11 := ⟨RX6, TX6, 14, ok_X6, by decide, (gt_in (inT_1 _ (List.mem_of_getElem? (i := 238) (by decide +kernel))) (by decide +kernel))⟩
theorem pX11_345 : fld RX11 345 6 11 := ⟨RX6, TX6, 14, ok_X6, by decide, (gt_in (inT_1 _ (List.mem_of_getElem? (i := 238) (by decide +kernel))) (by decide +kernel)), rfl⟩
theorem fX11_348 : fldF RX11 348 6 12 := ⟨RX6, TX6, 14, ok_X6, by decide, (gt_in (inT_2 _ (List.mem_of_getElem? (i := 0) (by decide +kernel))) (by decide +kernel))⟩
theorem pX11_348 : fld RX11 348 6 12 := ⟨RX6, TX6, 14, ok_X6, by decide, (gt_in (inT_2 _ (List.mem_of_getElem? (i := 0) (by decide +kernel))) (by decide +kernel)), rfl⟩
theorem fX11_355 : fldF RX11 355 6 1 := ⟨RX6, TX6, 14, ok_X6, by decide, (gt_in (inT_1 _ (List.mem_of_getElem? (i := 219) (by decide +kernel))) (by decide +kernel))⟩
theorem fX11_385 : fldF RX11 385 4 3 := ⟨RX4, TX4, 5, ok_X4, by decide, (gt_in (inT_1 _ (List.mem_of_getElem? (i := 49) (by decide +kernel))) (by decide +kernel))⟩
theorem nX11_395 : Cond.constantLong RX11 395 (-1) ∈ gt := (gt_in (inT_5 _ (List.mem_of_getElem? (i := 19) (by decide +kernel))) (by decide +kernel))
theorem fX11_409 : fldF RX11 409 10 0 := ⟨RX10, TX10, 9, ok_X10, by decide, (gt_in (inT_2 _ (List.mem_of_getElem? (i := 98) (by decide +kernel))) (by decide +kernel))⟩
theorem fX11_410 : fldF RX11 410 10 1 := ⟨RX10, TX10, 9, ok_X10, by decide, (gt_in (inT_2 _ (List.mem_of_getElem? (i := 100) (by decide +kernel))) (by decide +kernel))⟩
theorem fX11_411 : fldF RX11 411 10 2 := ⟨RX10, TX10, 9, ok_X10, by decide, (gt_in (inT_2 _ (List.mem_of_getElem? (i := 102) (by decide +kernel))) (by decide +kernel))⟩
theorem fX11_431 : fldF RX11 431 7 1 := ⟨RX7, TX7, 3, ok_X7, by decide, (gt_in (inT_2 _ (List.mem_of_getElem? (i := 62) (by decide +kernel))) (by decide +kernel))⟩
theorem fX11_460 : fldF RX11 460 8 2 := ⟨RX8, TX8, 3, ok_X8, by decide, (gt_in (inT_2 _ (List.mem_of_getElem? (i := 83) (by decide +kernel))) (by decide +kernel))⟩
theorem fX11_463 : fldF RX11 463 8 0 := ⟨RX8, TX8, 3, ok_X8, by decide, (gt_in (inT_2 _ (List.mem_of_getElem? (i := 79) (by decide +kernel))) (by decide +kernel))⟩
theorem fX11_466 : fldF RX11 466 8 1 := ⟨RX8, TX8, 3, ok_X8, by decide, (gt_in (inT_2 _ (List.mem_of_getElem? (i := 81) (by decide +kernel))) (by decide +kernel))⟩
theorem fX0_9 : fldF RX0 9 0 1 := ⟨RX0, TX0, 7, ok_X0, by decide, (gt_in (inT_1 _ (List.mem_of_getElem? (i := 110) (by decide +kernel))) (by decide +kernel))⟩
theorem fX0_15 : fldF RX0 15 0 2 := ⟨RX0, TX0, 7, ok_X0, by decide, (gt_in (inT_1 _ (List.mem_of_getElem? (i := 111) (by decide +kernel))) (by decide +kernel))⟩
theorem pX0_15 : fld RX0 15 0 2 := ⟨RX0, TX0, 7, ok_X0, by decide, (gt_in (inT_1 _ (List.mem_of_getElem? (i := 111) (by decide +kernel))) (by decide +kernel)), rfl⟩
theorem fX0_19 : fldF RX0 19 0 3 := ⟨RX0, TX0, 7, ok_X0, by decide, (gt_in (inT_1 _ (List.mem_of_getElem? (i := 113) (by decide +kernel))) (by decide +kernel))⟩
theorem pX0_19 : fld RX0 19 0 3 := ⟨RX0, TX0, 7, ok_X0, by decide, (gt_in (inT_1 _ (List.mem_of_getElem? (i := 113) (by decide +kernel))) (by decide +kernel)), rfl⟩
theorem fX0_22 : fldF RX0 22 0 4 := ⟨RX0, TX0, 7, ok_X0, by decide, (gt_in (inT_1 _ (List.mem_of_getElem? (i := 115) (by decide +kernel))) (by decide +kernel))⟩
theorem pX0_22 : fld RX0 22 0 4 := ⟨RX0, TX0, 7, ok_X0, by decide, (gt_in (inT_1 _ (List.mem_of_getElem? (i := 115) (by decide +kernel))) (by decide +kernel)), rfl⟩
theorem fX0_25 : fldF RX0 25 0 5 := ⟨RX0, TX0, 7, ok_X0, by decide, (gt_in (inT_1 _ (List.mem_of_getElem? (i := 117) (by decide +kernel))) (by decide +kernel))⟩
theorem pX0_25 : fld RX0 25 0 5 := ⟨RX0, TX0, 7, ok_X0, by decide, (gt_in (inT_1 _ (List.mem_of_getElem? (i := 117) (by decide +kernel))) (by decide +kernel)), rfl⟩
theorem fX0_28 : fldF RX0 28 0 6 := ⟨RX0, TX0, 7, ok_X0, by decide, (gt_in (inT_1 _ (List.mem_of_getElem? (i := 119) (by decide +kernel))) (by decide +kernel))⟩
theorem pX0_28 : fld RX0 28 0 6 := ⟨RX0, TX0, 7, ok_X0, by decide, (gt_in (inT_1 _ (List.mem_of_getElem? (i := 119) (by decide +kernel))) (by decide +kernel)), rfl⟩
theorem fX0_31 : fldF RX0 31 0 0 := ⟨RX0, TX0, 7, ok_X0, by decide, (gt_in (inT_1 _ (List.mem_of_getElem? (i := 108) (by decide +kernel))) (by decide +kernel))⟩
theorem fX0_40 : fldF RX0 40 4 2 := ⟨RX4, TX4, 5, ok_X4, by decide, (gt_in (inT_1 _ (List.mem_of_getElem? (i := 45) (by decide +kernel))) (by decide +kernel))⟩
theorem fX0_64 : fldF RX0 64 4 4 := ⟨RX4, TX4, 5, ok_X4, by decide, (gt_in (inT_1 _ (List.mem_of_getElem? (i := 53) (by decide +kernel))) (by decide +kernel))⟩
theorem pX0_64 : fld RX0 64 4 4 := ⟨RX4, TX4, 5, ok_X4, by decide, (gt_in (inT_1 _ (List.mem_of_getElem? (i := 53) (by decide +kernel))) (by decide +kernel)), rfl⟩
theorem fX1_7 : fldF RX1 7 1 0 := ⟨RX1, TX1, 2, ok_X1, by decide, (gt_in (inT_1 _ (List.mem_of_getElem? (i := 142) (by decide +kernel))) (by decide +kernel))⟩
theorem pX1_7 : fld RX1 7 1 0 := ⟨RX1, TX1, 2, ok_X1, by decide, (gt_in (inT_1 _ (List.mem_of_getElem? (i := 142) (by decide +kernel))) (by decide +kernel)), rfl⟩
theorem fX1_13 : fldF RX1 13 1 1 := ⟨RX1, TX1, 2, ok_X1, by decide, (gt_in (inT_1 _ (List.mem_of_getElem? (i := 144) (by decide +kernel))) (by decide +kernel))⟩
theorem pX1_13 : fld RX1 13 1 1 := ⟨RX1, TX1, 2, ok_X1, by decide, (gt_in (inT_1 _ (List.mem_of_getElem? (i := 144) (by decide +kernel))) (by decide +kernel)), rfl⟩
theorem fX1_22 : fldF RX1 22 4 2 := ⟨RX4, TX4, 5, ok_X4, by decide, (gt_in (inT_1 _ (List.mem_of_getElem? (i := 44) (by decide +kernel))) (by decide +kernel))⟩
theorem fX1_44 : fldF RX1 44 0 0 := ⟨RX0, TX0, 7, ok_X0, by decide, (gt_in (inT_1 _ (List.mem_of_getElem? (i := 109) (by decide +kernel))) (by decide +kernel))⟩
theorem fX2_9 : fldF RX2 9 2 0 := ⟨RX2, TX2, 8, ok_X2, by decide, (gt_in (inT_1 _ (List.mem_of_getElem? (i := 72) (by decide +kernel))) (by decide +kernel))⟩
theorem fX2_15 : fldF RX2 15 2 1 := ⟨RX2, TX2, 8, ok_X2, by decide, (gt_in (inT_1 _ (List.mem_of_getElem? (i := 73) (by decide +kernel))) (by decide +kernel))⟩
theorem fX2_18 : fldF RX2 18 2 2 := ⟨RX2, TX2, 8, ok_X2, by decide, (gt_in (inT_1 _ (List.mem_of_getElem? (i := 74) (by decide +kernel))) (by decide +kernel))⟩
theorem fX2_21 : fldF RX2 21 2 3 := ⟨RX2, TX2, 8, ok_X2, by decide, (gt_in (inT_1 _ (List.mem_of_getElem? (i := 75) (by decide +kernel))) (by decide +kernel))⟩
theorem fX2_24 : fldF RX2 24 2 4 := ⟨RX2, TX2, 8, ok_X2, by decide, (gt_in (inT_1 _ (List.mem_of_getElem? (i := 76) (by decide +kernel))) (by decide +kernel))⟩
theorem pX2_24 : fld RX2 24 2 4 := ⟨RX2, TX2, 8, ok_X2, by decide, (gt_in (inT_1 _ (List.mem_of_getElem? (i := 76) (by decide +kernel))) (by decide +kernel)), rfl⟩
theorem fX2_28 : fldF RX2 28 2 5 := ⟨RX2, TX2, 8, ok_X2, by decide, (gt_in (inT_1 _ (List.mem_of_getElem? (i := 77) (by decide +kernel))) (by decide +kernel))⟩
theorem pX2_28 : fld RX2 28 2 5 := ⟨RX2, TX2, 8, ok_X2, by decide, (gt_in (inT_1 _ (List.mem_of_getElem? (i := 77) (by decide +kernel))) (by decide +kernel)), rfl⟩
theorem fX2_31 : fldF RX2 31 2 6 := ⟨RX2, TX2, 8, ok_X2, by decide, (gt_in (inT_1 _ (List.mem_of_getElem? (i := 80) (by decide +kernel))) (by decide +kernel))⟩
theorem pX2_31 : fld RX2 31 2 6 := ⟨RX2, TX2, 8, ok_X2, by decide, (gt_in (inT_1 _ (List.mem_of_getElem? (i := 80) (by decide +kernel))) (by decide +kernel)), rfl⟩
theorem fX2_34 : fldF RX2 34 2 7 := ⟨RX2, TX2, 8, ok_X2, by decide, (gt_in (inT_1 _ (List.mem_of_getElem? (i := 82) (by decide +kernel))) (by decide +kernel))⟩
theorem pX2_34 : fld RX2 34 2 7 := ⟨RX2, TX2, 8, ok_X2, by decide, (gt_in (inT_1 _ (List.mem_of_getElem? (i := 82) (by decide +kernel))) (by decide +kernel)), rfl⟩
theorem fX3_12 : fldF RX3 12 3 0 := ⟨RX3, TX3, 8, ok_X3, by decide, (gt_in (inT_1 _ (List.mem_of_getElem? (i := 159) (by decide +kernel))) (by decide +kernel))⟩
theorem fX3_18 : fldF RX3 18 3 1 := ⟨RX3, TX3, 8, ok_X3, by decide, (gt_in (inT_1 _ (List.mem_of_getElem? (i := 160) (by decide +kernel))) (by decide +kernel))⟩
theorem fX3_22 : fldF RX3 22 3 2 := ⟨RX3, TX3, 8, ok_X3, by decide, (gt_in (inT_1 _ (List.mem_of_getElem? (i := 162) (by decide +kernel))) (by decide +kernel))⟩
theorem fX3_25 : fldF RX3 25 3 3 := ⟨RX3, TX3, 8, ok_X3, by decide, (gt_in (inT_1 _ (List.mem_of_getElem? (i := 164) (by decide +kernel))) (by decide +kernel))⟩
theorem fX3_28 : fldF RX3 28 3 4 := ⟨RX3, TX3, 8, ok_X3, by decide, (gt_in (inT_1 _ (List.mem_of_getElem? (i := 166) (by decide +kernel))) (by decide +kernel))⟩
theorem pX3_28 : fld RX3 28 3 4 := ⟨RX3, TX3, 8, ok_X3, by decide, (gt_in (inT_1 _ (List.mem_of_getElem? (i := 166) (by decide +kernel))) (by decide +kernel)), rfl⟩
theorem fX3_32 : fldF RX3 32 3 5 := ⟨RX3, TX3, 8, ok_X3, by decide, (gt_in (inT_1 _ (List.mem_of_getElem? (i := 168) (by decide +kernel))) (by decide +kernel))⟩
theorem pX3_32 : fld RX3 32 3 5 := ⟨RX3, TX3, 8, ok_X3, by decide, (gt_in (inT_1 _ (List.mem_of_getElem? (i := 168) (by decide +kernel))) (by decide +kernel)), rfl⟩
theorem fX3_35 : fldF RX3 35 3 6 := ⟨RX3, TX3, 8, ok_X3, by decide, (gt_in (inT_1 _ (List.mem_of_getElem? (i := 170) (by decide +kernel))) (by decide +kernel))⟩
theorem pX3_35 : fld RX3 35 3 6 := ⟨RX3, TX3, 8, ok_X3, by decide, (gt_in (inT_1 _ (List.mem_of_getElem? (i := 170) (by decide +kernel))) (by decide +kernel)), rfl⟩
theorem fX3_38 : fldF RX3 38 3 7 := ⟨RX3, TX3, 8, ok_X3, by decide, (gt_in (inT_1 _ (List.mem_of_getElem? (i := 172) (by decide +kernel))) (by decide +kernel))⟩
theorem pX3_38 : fld RX3 38 3 7 := ⟨RX3, TX3, 8, ok_X3, by decide, (gt_in (inT_1 _ (List.mem_of_getElem? (i := 172) (by decide +kernel))) (by decide +kernel)), rfl⟩
theorem fX3_47 : fldF RX3 47 4 2 := ⟨RX4, TX4, 5, ok_X4, by decide, (gt_in (inT_1 _ (List.mem_of_getElem? (i := 46) (by decide +kernel))) (by decide +kernel))⟩
theorem fX3_66 : fldF RX3 66 2 5 := ⟨RX2, TX2, 8, ok_X2, by decide, (gt_in (inT_1 _ (List.mem_of_getElem? (i := 78) (by decide +kernel))) (by decide +kernel))⟩
theorem pX3_66 : fld RX3 66 2 5 := ⟨RX2, TX2, 8, ok_X2, by decide, (gt_in (inT_1 _ (List.mem_of_getElem? (i := 78) (by decide +kernel))) (by decide +kernel)), rfl⟩
theorem fX3_69 : fldF RX3 69 2 7 := ⟨RX2, TX2, 8, ok_X2, by decide, (gt_in (inT_1 _ (List.mem_of_getElem? (i := 83) (by decide +kernel))) (by decide +kernel))⟩
theorem pX3_69 : fld RX3 69 2 7 := ⟨RX2, TX2, 8, ok_X2, by decide, (gt_in (inT_1 _ (List.mem_of_getElem? (i := 83) (by decide +kernel))) (by decide +kernel)), rfl⟩
theorem fX4_9 : fldF RX4 9 4 0 := ⟨RX4, TX4, 5, ok_X4, by decide, (gt_in (inT_1 _ (List.mem_of_getElem? (i := 37) (by decide +kernel))) (by decide +kernel))⟩
theorem fX4_15 : fldF RX4 15 4 1 := ⟨RX4, TX4, 5, ok_X4, by decide, (gt_in (inT_1 _ (List.mem_of_getElem? (i := 39) (by decide +kernel))) (by decide +kernel))⟩
theorem fX4_18 : fldF RX4 18 4 2 := ⟨RX4, TX4, 5, ok_X4, by decide, (gt_in (inT_1 _ (List.mem_of_getElem? (i := 41) (by decide +kernel))) (by decide +kernel))⟩
theorem fX4_21 : fldF RX4 21 4 3 := ⟨RX4, TX4, 5, ok_X4, by decide, (gt_in (inT_1 _ (List.mem_of_getElem? (i := 48) (by decide +kernel))) (by decide +kernel))⟩
theorem fX4_24 : fldF RX4 24 4 4 := ⟨RX4, TX4, 5, ok_X4, by decide, (gt_in (inT_1 _ (List.mem_of_getElem? (i := 50) (by decide +kernel))) (by decide +kernel))⟩
theorem pX4_24 : fld RX4 24 4 4 := ⟨RX4, TX4, 5, ok_X4, by decide, (gt_in (inT_1 _ (List.mem_of_getElem? (i := 50) (by decide +kernel))) (by decide +kernel)), rfl⟩
theorem nX4_67 : Cond.constant RX4 67 (1103515245) ∈ gt := (gt_in (inT_5 _ (List.mem_of_getElem? (i := 97) (by decide +kernel))) (by decide +kernel))
theorem fX5_9 : fldF RX5 9 5 1 := ⟨RX5, TX5, 3, ok_X5, by decide, (gt_in (inT_1 _ (List.mem_of_getElem? (i := 198) (by decide +kernel))) (by decide +kernel))⟩
theorem pX5_9 : fld RX5 9 5 1 := ⟨RX5, TX5, 3, ok_X5, by decide, (gt_in (inT_1 _ (List.mem_of_getElem? (i := 198) (by decide +kernel))) (by decide +kernel)), rfl⟩
theorem fX5_15 : fldF RX5 15 5 2 := ⟨RX5, TX5, 3, ok_X5, by decide, (gt_in (inT_1 _ (List.mem_of_getElem? (i := 200) (by decide +kernel))) (by decide +kernel))⟩
theorem pX5_15 : fld RX5 15 5 2 := ⟨RX5, TX5, 3, ok_X5, by decide, (gt_in (inT_1 _ (List.mem_of_getElem? (i := 200) (by decide +kernel))) (by decide +kernel)), rfl⟩
theorem fX5_18 : fldF RX5 18 5 0 := ⟨RX5, TX5, 3, ok_X5, by decide, (gt_in (inT_1 _ (List.mem_of_getElem? (i := 197) (by decide +kernel))) (by decide +kernel))⟩
theorem fX5_28 : fldF RX5 28 4 2 := ⟨RX4, TX4, 5, ok_X4, by decide, (gt_in (inT_1 _ (List.mem_of_getElem? (i := 42) (by decide +kernel))) (by decide +kernel))⟩
theorem fX5_58 : fldF RX5 58 4 4 := ⟨RX4, TX4, 5, ok_X4, by decide, (gt_in (inT_1 _ (List.mem_of_getElem? (i := 52) (by decide +kernel))) (by decide +kernel))⟩
theorem pX5_58 : fld RX5 58 4 4 := ⟨RX4, TX4, 5, ok_X4, by decide, (gt_in (inT_1 _ (List.mem_of_getElem? (i := 52) (by decide +kernel))) (by decide +kernel)), rfl⟩
theorem fX6_12 : fldF RX6 12 6 0 := ⟨RX6, TX6, 14, ok_X6, by decide, (gt_in (inT_1 _ (List.mem_of_getElem? (i := 217) (by decide +kernel))) (by decide +kernel))⟩
theorem fX6_18 : fldF RX6 18 6 1 := ⟨RX6, TX6, 14, ok_X6, by decide, (gt_in (inT_1 _ (List.mem_of_getElem? (i := 218) (by decide +kernel))) (by decide +kernel))⟩
theorem fX6_22 : fldF RX6 22 6 2 := ⟨RX6, TX6, 14, ok_X6, by decide, (gt_in (inT_1 _ (List.mem_of_getElem? (i := 220) (by decide +kernel))) (by decide +kernel))⟩
theorem pX6_22 : fld RX6 22 6 2 := ⟨RX6, TX6, 14, ok_X6, by decide, (gt_in (inT_1 _ (List.mem_of_getElem? (i := 220) (by decide +kernel))) (by decide +kernel)), rfl⟩
theorem fX6_26 : fldF RX6 26 6 3 := ⟨RX6, TX6, 14, ok_X6, by decide, (gt_in (inT_1 _ (List.mem_of_getElem? (i := 222) (by decide +kernel))) (by decide +kernel))⟩
theorem pX6_26 : fld RX6 26 6 3 := ⟨RX6, TX6, 14, ok_X6, by decide, (gt_in (inT_1 _ (List.mem_of_getElem? (i := 222) (by decide +kernel))) (by decide +kernel)), rfl⟩
theorem fX6_29 : fldF RX6 29 6 4 := ⟨RX6, TX6, 14, ok_X6, by decide, (gt_in (inT_1 _ (List.mem_of_getElem? (i := 224) (by decide +kernel))) (by decide +kernel))⟩
theorem pX6_29 : fld RX6 29 6 4 := ⟨RX6, TX6, 14, ok_X6, by decide, (gt_in (inT_1 _ (List.mem_of_getElem? (i := 224) (by decide +kernel))) (by decide +kernel)), rfl⟩
theorem fX6_32 : fldF RX6 32 6 5 := ⟨RX6, TX6, 14, ok_X6, by decide, (gt_in (inT_1 _ (List.mem_of_getElem? (i := 226) (by decide +kernel))) (by decide +kernel))⟩
theorem pX6_32 : fld RX6 32 6 5 := ⟨RX6, TX6, 14, ok_X6, by decide, (gt_in (inT_1 _ (List.mem_of_getElem? (i := 226) (by decide +kernel))) (by decide +kernel)), rfl⟩
theorem fX6_35 : fldF RX6 35 6 6 := ⟨RX6, TX6, 14, ok_X6, by decide, (gt_in (inT_1 _ (List.mem_of_getElem? (i := 228) (by decide +kernel))) (by decide +kernel))⟩
theorem pX6_35 : fld RX6 35 6 6 := ⟨RX6, TX6, 14, ok_X6, by decide, (gt_in (inT_1 _ (List.mem_of_getElem? (i := 228) (by decide +kernel))) (by decide +kernel)), rfl⟩
theorem fX6_39 : fldF RX6 39 6 7 := ⟨RX6, TX6, 14, ok_X6, by decide, (gt_in (inT_1 _ (List.mem_of_getElem? (i := 230) (by decide +kernel))) (by decide +kernel))⟩
theorem pX6_39 : fld RX6 39 6 7 := ⟨RX6, TX6, 14, ok_X6, by decide, (gt_in (inT_1 _ (List.mem_of_getElem? (i := 230) (by decide +kernel))) (by decide +kernel)), rfl⟩
theorem fX6_42 : fldF RX6 42 6 8 := ⟨RX6, TX6, 14, ok_X6, by decide, (gt_in (inT_1 _ (List.mem_of_getElem? (i := 231) (by decide +kernel))) (by decide +kernel))⟩
theorem pX6_42 : fld RX6 42 6 8 := ⟨RX6, TX6, 14, ok_X6, by decide, (gt_in (inT_1 _ (List.mem_of_getElem? (i := 231) (by decide +kernel))) (by decide +kernel)), rfl⟩
theorem fX6_45 : fldF RX6 45 6 9 := ⟨RX6, TX6, 14, ok_X6, by decide, (gt_in (inT_1 _ (List.mem_of_getElem? (i := 233) (by decide +kernel))) (by decide +kernel))⟩
theorem pX6_45 : fld RX6 45 6 9 := ⟨RX6, TX6, 14, ok_X6, by decide, (gt_in (inT_1 _ (List.mem_of_getElem? (i := 233) (by decide +kernel))) (by decide +kernel)), rfl⟩
theorem fX6_48 : fldF RX6 48 6 10 := ⟨RX6, TX6, 14, ok_X6, by decide, (gt_in (inT_1 _ (List.mem_of_getElem? (i := 235) (by decide +kernel))) (by decide +kernel))⟩
theorem pX6_48 : fld RX6 48 6 10 := ⟨RX6, TX6, 14, ok_X6, by decide, (gt_in (inT_1 _ (List.mem_of_getElem? (i := 235) (by decide +kernel))) (by decide +kernel)), rfl⟩
theorem fX6_51 : fldF RX6 51 6 11 := ⟨RX6, TX6, 14, ok_X6, by decide, (gt_in (inT_1 _ (List.mem_of_getElem? (i := 237) (by decide +kernel))) (by decide +kernel))⟩
theorem pX6_51 : fld RX6 51 6 11 := ⟨RX6, TX6, 14, ok_X6, by decide, (gt_in (inT_1 _ (List.mem_of_getElem? (i := 237) (by decide +kernel))) (by decide +kernel)), rfl⟩
theorem fX6_54 : fldF RX6 54 6 12 := ⟨RX6, TX6, 14, ok_X6, by decide, (gt_in (inT_1 _ (List.mem_of_getElem? (i := 239) (by decide +kernel))) (by decide +kernel))⟩
theorem pX6_54 : fld RX6 54 6 12 := ⟨RX6, TX6, 14, ok_X6, by decide, (gt_in (inT_1 _ (List.mem_of_getElem? (i := 239) (by decide +kernel))) (by decide +kernel)), rfl⟩
theorem fX6_57 : fldF RX6 57 6 13 := ⟨RX6, TX6, 14, ok_X6, by decide, (gt_in (inT_2 _ (List.mem_of_getElem? (i := 1) (by decide +kernel))) (by decide +kernel))⟩
theorem pX6_57 : fld RX6 57 6 13 := ⟨RX6, TX6, 14, ok_X6, by decide, (gt_in (inT_2 _ (List.mem_of_getElem? (i := 1) (by decide +kernel))) (by decide +kernel)), rfl⟩
theorem fX6_60 : fldF RX6 60 4 2 := ⟨RX4, TX4, 5, ok_X4, by decide, (gt_in (inT_1 _ (List.mem_of_getElem? (i := 43) (by decide +kernel))) (by decide +kernel))⟩
theorem fX7_11 : fldF RX7 11 7 0 := ⟨RX7, TX7, 3, ok_X7, by decide, (gt_in (inT_2 _ (List.mem_of_getElem? (i := 59) (by decide +kernel))) (by decide +kernel))⟩
theorem fX7_16 : fldF RX7 16 7 1 := ⟨RX7, TX7, 3, ok_X7, by decide, (gt_in (inT_2 _ (List.mem_of_getElem? (i := 61) (by decide +kernel))) (by decide +kernel))⟩
theorem fX7_20 : fldF RX7 20 7 2 := ⟨RX7, TX7, 3, ok_X7, by decide, (gt_in (inT_2 _ (List.mem_of_getElem? (i := 63) (by decide +kernel))) (by decide +kernel))⟩
theorem fX8_9 : fldF RX8 9 8 0 := ⟨RX8, TX8, 3, ok_X8, by decide, (gt_in (inT_2 _ (List.mem_of_getElem? (i := 78) (by decide +kernel))) (by decide +kernel))⟩
theorem fX8_15 : fldF RX8 15 8 1 := ⟨RX8, TX8, 3, ok_X8, by decide, (gt_in (inT_2 _ (List.mem_of_getElem? (i := 80) (by decide +kernel))) (by decide +kernel))⟩
theorem fX8_18 : fldF RX8 18 8 2 := ⟨RX8, TX8, 3, ok_X8, by decide, (gt_in (inT_2 _ (List.mem_of_getElem? (i := 82) (by decide +kernel))) (by decide +kernel))⟩
theorem fX9_9 : fldF RX9 9 9 0 := ⟨RX9, TX9, 4, ok_X9, by decide, (gt_in (inT_2 _ (List.mem_of_getElem? (i := 37) (by decide +kernel))) (by decide +kernel))⟩
theorem fX9_15 : fldF RX9 15 9 1 := ⟨RX9, TX9, 4, ok_X9, by decide, (gt_in (inT_2 _ (List.mem_of_getElem? (i := 38) (by decide +kernel))) (by decide +kernel))⟩
theorem fX9_18 : fldF RX9 18 9 2 := ⟨RX9, TX9, 4, ok_X9, by decide, (gt_in (inT_2 _ (List.mem_of_getElem? (i := 39) (by decide +kernel))) (by decide +kernel))⟩
theorem pX9_18 : fld RX9 18 9 2 := ⟨RX9, TX9, 4, ok_X9, by decide, (gt_in (inT_2 _ (List.mem_of_getElem? (i := 39) (by decide +kernel))) (by decide +kernel)), rfl⟩
theorem fX9_22 : fldF RX9 22 9 3 := ⟨RX9, TX9, 4, ok_X9, by decide, (gt_in (inT_2 _ (List.mem_of_getElem? (i := 40) (by decide +kernel))) (by decide +kernel))⟩
theorem pX9_22 : fld RX9 22 9 3 := ⟨RX9, TX9, 4, ok_X9, by decide, (gt_in (inT_2 _ (List.mem_of_getElem? (i := 40) (by decide +kernel))) (by decide +kernel)), rfl⟩
theorem fX9_25 : fldF RX9 25 10 8 := ⟨RX10, TX10, 9, ok_X10, by decide, (gt_in (inT_2 _ (List.mem_of_getElem? (i := 109) (by decide +kernel))) (by decide +kernel))⟩
theorem pX9_25 : fld RX9 25 10 8 := ⟨RX10, TX10, 9, ok_X10, by decide, (gt_in (inT_2 _ (List.mem_of_getElem? (i := 109) (by decide +kernel))) (by decide +kernel)), rfl⟩
theorem fX10_9 : fldF RX10 9 10 0 := ⟨RX10, TX10, 9, ok_X10, by decide, (gt_in (inT_2 _ (List.mem_of_getElem? (i := 97) (by decide +kernel))) (by decide +kernel))⟩
theorem fX10_15 : fldF RX10 15 10 1 := ⟨RX10, TX10, 9, ok_X10, by decide, (gt_in (inT_2 _ (List.mem_of_getElem? (i := 99) (by decide +kernel))) (by decide +kernel))⟩
theorem fX10_18 : fldF RX10 18 10 2 := ⟨RX10, TX10, 9, ok_X10, by decide, (gt_in (inT_2 _ (List.mem_of_getElem? (i := 101) (by decide +kernel))) (by decide +kernel))⟩
theorem fX10_21 : fldF RX10 21 10 3 := ⟨RX10, TX10, 9, ok_X10, by decide, (gt_in (inT_2 _ (List.mem_of_getElem? (i := 103) (by decide +kernel))) (by decide +kernel))⟩
theorem fX10_24 : fldF RX10 24 10 4 := ⟨RX10, TX10, 9, ok_X10, by decide, (gt_in (inT_2 _ (List.mem_of_getElem? (i := 104) (by decide +kernel))) (by decide +kernel))⟩
theorem fX10_27 : fldF RX10 27 10 5 := ⟨RX10, TX10, 9, ok_X10, by decide, (gt_in (inT_2 _ (List.mem_of_getElem? (i := 105) (by decide +kernel))) (by decide +kernel))⟩
theorem fX10_31 : fldF RX10 31 10 6 := ⟨RX10, TX10, 9, ok_X10, by decide, (gt_in (inT_2 _ (List.mem_of_getElem? (i := 106) (by decide +kernel))) (by decide +kernel))⟩
theorem fX10_34 : fldF RX10 34 10 7 := ⟨RX10, TX10, 9, ok_X10, by decide, (gt_in (inT_2 _ (List.mem_of_getElem? (i := 107) (by decide +kernel))) (by decide +kernel))⟩
theorem fX10_37 : fldF RX10 37 10 8 := ⟨RX10, TX10, 9, ok_X10, by decide, (gt_in (inT_2 _ (List.mem_of_getElem? (i := 108) (by decide +kernel))) (by decide +kernel))⟩
theorem pX10_37 : fld RX10 37 10 8 := ⟨RX10, TX10, 9, ok_X10, by decide, (gt_in (inT_2 _ (List.mem_of_getElem? (i := 108) (by decide +kernel))) (by decide +kernel)), rfl⟩
theorem fX12_7 : fldF RX12 7 12 1 := ⟨RX12, TX12, 50, ok_X12, by decide, (gt_in (inT_5 _ (List.mem_of_getElem? (i := 189) (by decide +kernel))) (by decide +kernel))⟩
theorem pX12_7 : fld RX12 7 12 1 := ⟨RX12, TX12, 50, ok_X12, by decide, (gt_in (inT_5 _ (List.mem_of_getElem? (i := 189) (by decide +kernel))) (by decide +kernel)), rfl⟩
theorem fX12_13 : fldF RX12 13 12 2 := ⟨RX12, TX12, 50, ok_X12, by decide, (gt_in (inT_5 _ (List.mem_of_getElem? (i := 190) (by decide +kernel))) (by decide +kernel))⟩
theorem fX12_17 : fldF RX12 17 12 3 := ⟨RX12, TX12, 50, ok_X12, by decide, (gt_in (inT_5 _ (List.mem_of_getElem? (i := 191) (by decide +kernel))) (by decide +kernel))⟩
theorem fX12_20 : fldF RX12 20 12 4 := ⟨RX12, TX12, 50, ok_X12, by decide, (gt_in (inT_5 _ (List.mem_of_getElem? (i := 192) (by decide +kernel))) (by decide +kernel))⟩
theorem fX12_23 : fldF RX12 23 12 5 := ⟨RX12, TX12, 50, ok_X12, by decide, (gt_in (inT_5 _ (List.mem_of_getElem? (i := 193) (by decide +kernel))) (by decide +kernel))⟩
theorem fX12_26 : fldF RX12 26 12 7 := ⟨RX12, TX12, 50, ok_X12, by decide, (gt_in (inT_5 _ (List.mem_of_getElem? (i := 195) (by decide +kernel))) (by decide +kernel))⟩
theorem fX12_29 : fldF RX12 29 12 8 := ⟨RX12, TX12, 50, ok_X12, by decide, (gt_in (inT_5 _ (List.mem_of_getElem? (i := 196) (by decide +kernel))) (by decide +kernel))⟩
theorem fX12_32 : fldF RX12 32 12 13 := ⟨RX12, TX12, 50, ok_X12, by decide, (gt_in (inT_5 _ (List.mem_of_getElem? (i := 201) (by decide +kernel))) (by decide +kernel))⟩
theorem fX12_35 : fldF RX12 35 12 14 := ⟨RX12, TX12, 50, ok_X12, by decide, (gt_in (inT_5 _ (List.mem_of_getElem? (i := 202) (by decide +kernel))) (by decide +kernel))⟩
theorem fX12_38 : fldF RX12 38 12 15 := ⟨RX12, TX12, 50, ok_X12, by decide, (gt_in (inT_5 _ (List.mem_of_getElem? (i := 203) (by decide +kernel))) (by decide +kernel))⟩
theorem fX12_41 : fldF RX12 41 12 20 := ⟨RX12, TX12, 50, ok_X12, by decide, (gt_in (inT_5 _ (List.mem_of_getElem? (i := 208) (by decide +kernel))) (by decide +kernel))⟩
theorem fX12_44 : fldF RX12 44 12 21 := ⟨RX12, TX12, 50, ok_X12, by decide, (gt_in (inT_5 _ (List.mem_of_getElem? (i := 209) (by decide +kernel))) (by decide +kernel))⟩
theorem fX12_47 : fldF RX12 47 12 23 := ⟨RX12, TX12, 50, ok_X12, by decide, (gt_in (inT_5 _ (List.mem_of_getElem? (i := 211) (by decide +kernel))) (by decide +kernel))⟩
theorem fX12_50 : fldF RX12 50 12 24 := ⟨RX12, TX12, 50, ok_X12, by decide, (gt_in (inT_5 _ (List.mem_of_getElem? (i := 212) (by decide +kernel))) (by decide +kernel))⟩
theorem fX12_53 : fldF RX12 53 12 27 := ⟨RX12, TX12, 50, ok_X12, by decide, (gt_in (inT_5 _ (List.mem_of_getElem? (i := 215) (by decide +kernel))) (by decide +kernel))⟩
theorem fX12_56 : fldF RX12 56 12 28 := ⟨RX12, TX12, 50, ok_X12, by decide, (gt_in (inT_5 _ (List.mem_of_getElem? (i := 216) (by decide +kernel))) (by decide +kernel))⟩
theorem fX12_59 : fldF RX12 59 12 29 := ⟨RX12, TX12, 50, ok_X12, by decide, (gt_in (inT_5 _ (List.mem_of_getElem? (i := 217) (by decide +kernel))) (by decide +kernel))⟩
theorem fX12_62 : fldF RX12 62 12 31 := ⟨RX12, TX12, 50, ok_X12, by decide, (gt_in (inT_5 _ (List.mem_of_getElem? (i := 219) (by decide +kernel))) (by decide +kernel))⟩
theorem fX12_65 : fldF RX12 65 12 32 := ⟨RX12, TX12, 50, ok_X12, by decide, (gt_in (inT_5 _ (List.mem_of_getElem? (i := 220) (by decide +kernel))) (by decide +kernel))⟩
theorem fX12_68 : fldF RX12 68 12 33 := ⟨RX12, TX12, 50, ok_X12, by decide, (gt_in (inT_5 _ (List.mem_of_getElem? (i := 221) (by decide +kernel))) (by decide +kernel))⟩
theorem fX12_71 : fldF RX12 71 12 34 := ⟨RX12, TX12, 50, ok_X12, by decide, (gt_in (inT_5 _ (List.mem_of_getElem? (i := 222) (by decide +kernel))) (by decide +kernel))⟩
theorem fX12_75 : fldF RX12 75 12 35 := ⟨RX12, TX12, 50, ok_X12, by decide, (gt_in (inT_5 _ (List.mem_of_getElem? (i := 223) (by decide +kernel))) (by decide +kernel))⟩
theorem fX12_78 : fldF RX12 78 12 36 := ⟨RX12, TX12, 50, ok_X12, by decide, (gt_in (inT_5 _ (List.mem_of_getElem? (i := 224) (by decide +kernel))) (by decide +kernel))⟩
theorem fX12_81 : fldF RX12 81 12 37 := ⟨RX12, TX12, 50, ok_X12, by decide, (gt_in (inT_5 _ (List.mem_of_getElem? (i := 225) (by decide +kernel))) (by decide +kernel))⟩
theorem fX12_84 : fldF RX12 84 12 38 := ⟨RX12, TX12, 50, ok_X12, by decide, (gt_in (inT_5 _ (List.mem_of_getElem? (i := 226) (by decide +kernel))) (by decide +kernel))⟩
theorem fX12_87 : fldF RX12 87 12 39 := ⟨RX12, TX12, 50, ok_X12, by decide, (gt_in (inT_5 _ (List.mem_of_getElem? (i := 227) (by decide +kernel))) (by decide +kernel))⟩
theorem fX12_91 : fldF RX12 91 12 40 := ⟨RX12, TX12, 50, ok_X12, by decide, (gt_in (inT_5 _ (List.mem_of_getElem? (i := 228) (by decide +kernel))) (by decide +kernel))⟩
theorem fX12_94 : fldF RX12 94 12 41 := ⟨RX12, TX12, 50, ok_X12, by decide, (gt_in (inT_5 _ (List.mem_of_getElem? (i := 229) (by decide +kernel))) (by decide +kernel))⟩
theorem fX12_97 : fldF RX12 97 12 43 := ⟨RX12, TX12, 50, ok_X12, by decide, (gt_in (inT_5 _ (List.mem_of_getElem? (i := 231) (by decide +kernel))) (by decide +kernel))⟩
theorem fX12_100 : fldF RX12 100 12 44 := ⟨RX12, TX12, 50, ok_X12, by decide, (gt_in (inT_5 _ (List.mem_of_getElem? (i := 232) (by decide +kernel))) (by decide +kernel))⟩
theorem fX12_103 : fldF RX12 103 12 45 := ⟨RX12, TX12, 50, ok_X12, by decide, (gt_in (inT_5 _ (List.mem_of_getElem? (i := 233) (by decide +kernel))) (by decide +kernel))⟩
theorem fX12_106 : fldF RX12 106 12 46 := ⟨RX12, TX12, 50, ok_X12, by decide, (gt_in (inT_5 _ (List.mem_of_getElem? (i := 234) (by decide +kernel))) (by decide +kernel))⟩
theorem fX12_109 : fldF RX12 109 12 47 := ⟨RX12, TX12, 50, ok_X12, by decide, (gt_in (inT_5 _ (List.mem_of_getElem? (i := 235) (by decide +kernel))) (by decide +kernel))⟩
theorem fX12_112 : fldF RX12 112 12 48 := ⟨RX12, TX12, 50, ok_X12, by decide, (gt_in (inT_5 _ (List.mem_of_getElem? (i := 236) (by decide +kernel))) (by decide +kernel))⟩
theorem fX12_115 : fldF RX12 115 12 49 := ⟨RX12, TX12, 50, ok_X12, by decide, (gt_in (inT_5 _ (List.mem_of_getElem? (i := 237) (by decide +kernel))) (by decide +kernel))⟩
theorem fX12_122 : fldF RX12 122 12 0 := ⟨RX12, TX12, 50, ok_X12, by decide, (gt_in (inT_5 _ (List.mem_of_getElem? (i := 188) (by decide +kernel))) (by decide +kernel))⟩
theorem pX12_122 : fld RX12 122 12 0 := ⟨RX12, TX12, 50, ok_X12, by decide, (gt_in (inT_5 _ (List.mem_of_getElem? (i := 188) (by decide +kernel))) (by decide +kernel)), rfl⟩
theorem fX12_162 : fldF RX12 162 12 25 := ⟨RX12, TX12, 50, ok_X12, by decide, (gt_in (inT_5 _ (List.mem_of_getElem? (i := 213) (by decide +kernel))) (by decide +kernel))⟩
theorem pX12_162 : fld RX12 162 12 25 := ⟨RX12, TX12, 50, ok_X12, by decide, (gt_in (inT_5 _ (List.mem_of_getElem? (i := 213) (by decide +kernel))) (by decide +kernel)), rfl⟩
theorem fX12_165 : fldF RX12 165 12 26 := ⟨RX12, TX12, 50, ok_X12, by decide, (gt_in (inT_5 _ (List.mem_of_getElem? (i := 214) (by decide +kernel))) (by decide +kernel))⟩
theorem pX12_165 : fld RX12 165 12 26 := ⟨RX12, TX12, 50, ok_X12, by decide, (gt_in (inT_5 _ (List.mem_of_getElem? (i := 214) (by decide +kernel))) (by decide +kernel)), rfl⟩
theorem nX12_183 : Cond.constant RX12 183 (1000000) ∈ gt := (gt_in (inT_6 _ (List.mem_of_getElem? (i := 196) (by decide +kernel))) (by decide +kernel))
theorem nX12_184 : Cond.constantLong RX12 184 (-2) ∈ gt := (gt_in (inT_6 _ (List.mem_of_getElem? (i := 209) (by decide +kernel))) (by decide +kernel))
theorem fX12_190 : fldF RX12 190 12 6 := ⟨RX12, TX12, 50, ok_X12, by decide, (gt_in (inT_5 _ (List.mem_of_getElem? (i := 194) (by decide +kernel))) (by decide +kernel))⟩
theorem pX12_190 : fld RX12 190 12 6 := ⟨RX12, TX12, 50, ok_X12, by decide, (gt_in (inT_5 _ (List.mem_of_getElem? (i := 194) (by decide +kernel))) (by decide +kernel)), rfl⟩
theorem fX12_225 : fldF RX12 225 12 9 := ⟨RX12, TX12, 50, ok_X12, by decide, (gt_in (inT_5 _ (List.mem_of_getElem? (i := 197) (by decide +kernel))) (by decide +kernel))⟩
theorem pX12_225 : fld RX12 225 12 9 := ⟨RX12, TX12, 50, ok_X12, by decide, (gt_in (inT_5 _ (List.mem_of_getElem? (i := 197) (by decide +kernel))) (by decide +kernel)), rfl⟩
theorem fX12_231 : fldF RX12 231 12 11 := ⟨RX12, TX12, 50, ok_X12, by decide, (gt_in (inT_5 _ (List.mem_of_getElem? (i := 199) (by decide +kernel))) (by decide +kernel))⟩
theorem pX12_231 : fld RX12 231 12 11 := ⟨RX12, TX12, 50, ok_X12, by decide, (gt_in (inT_5 _ (List.mem_of_getElem? (i := 199) (by decide +kernel))) (by decide +kernel)), rfl⟩
theorem fX12_237 : fldF RX12 237 12 10 := ⟨RX12, TX12, 50, ok_X12, by decide, (gt_in (inT_5 _ (List.mem_of_getElem? (i := 198) (by decide +kernel))) (by decide +kernel))⟩
theorem pX12_237 : fld RX12 237 12 10 := ⟨RX12, TX12, 50, ok_X12, by decide, (gt_in (inT_5 _ (List.mem_of_getElem? (i := 198) (by decide +kernel))) (by decide +kernel)), rfl⟩
theorem fX12_240 : fldF RX12 240 12 12 := ⟨RX12, TX12, 50, ok_X12, by decide, (gt_in (inT_5 _ (List.mem_of_getElem? (i := 200) (by decide +kernel))) (by decide +kernel))⟩
theorem pX12_240 : fld RX12 240 12 12 := ⟨RX12, TX12, 50, ok_X12, by decide, (gt_in (inT_5 _ (List.mem_of_getElem? (i := 200) (by decide +kernel))) (by decide +kernel)), rfl⟩
theorem fX12_259 : fldF RX12 259 12 16 := ⟨RX12, TX12, 50, ok_X12, by decide, (gt_in (inT_5 _ (List.mem_of_getElem? (i := 204) (by decide +kernel))) (by decide +kernel))⟩
theorem pX12_259 : fld RX12 259 12 16 := ⟨RX12, TX12, 50, ok_X12, by decide, (gt_in (inT_5 _ (List.mem_of_getElem? (i := 204) (by decide +kernel))) (by decide +kernel)), rfl⟩
theorem fX12_262 : fldF RX12 262 12 18 := ⟨RX12, TX12, 50, ok_X12, by decide, (gt_in (inT_5 _ (List.mem_of_getElem? (i := 206) (by decide +kernel))) (by decide +kernel))⟩
theorem pX12_262 : fld RX12 262 12 18 := ⟨RX12, TX12, 50, ok_X12, by decide, (gt_in (inT_5 _ (List.mem_of_getElem? (i := 206) (by decide +kernel))) (by decide +kernel)), rfl⟩
theorem fX12_268 : fldF RX12 268 12 19 := ⟨RX12, TX12, 50, ok_X12, by decide, (gt_in (inT_5 _ (List.mem_of_getElem? (i := 207) (by decide +kernel))) (by decide +kernel))⟩
theorem pX12_268 : fld RX12 268 12 19 := ⟨RX12, TX12, 50, ok_X12, by decide, (gt_in (inT_5 _ (List.mem_of_getElem? (i := 207) (by decide +kernel))) (by decide +kernel)), rfl⟩
theorem fX12_271 : fldF RX12 271 12 17 := ⟨RX12, TX12, 50, ok_X12, by decide, (gt_in (inT_5 _ (List.mem_of_getElem? (i := 205) (by decide +kernel))) (by decide +kernel))⟩
theorem pX12_271 : fld RX12 271 12 17 := ⟨RX12, TX12, 50, ok_X12, by decide, (gt_in (inT_5 _ (List.mem_of_getElem? (i := 205) (by decide +kernel))) (by decide +kernel)), rfl⟩
theorem fX12_280 : fldF RX12 280 12 22 := ⟨RX12, TX12, 50, ok_X12, by decide, (gt_in (inT_5 _ (List.mem_of_getElem? (i := 210) (by decide +kernel))) (by decide +kernel))⟩
theorem pX12_280 : fld RX12 280 12 22 := ⟨RX12, TX12, 50, ok_X12, by decide, (gt_in (inT_5 _ (List.mem_of_getElem? (i := 210) (by decide +kernel))) (by decide +kernel)), rfl⟩
theorem fX12_298 : fldF RX12 298 12 30 := ⟨RX12, TX12, 50, ok_X12, by decide, (gt_in (inT_5 _ (List.mem_of_getElem? (i := 218) (by decide +kernel))) (by decide +kernel))⟩
theorem pX12_298 : fld RX12 298 12 30 := ⟨RX12, TX12, 50, ok_X12, by decide, (gt_in (inT_5 _ (List.mem_of_getElem? (i := 218) (by decide +kernel))) (by decide +kernel)), rfl⟩
theorem nX12_316 : Cond.constantLong RX12 316 (-1) ∈ gt := (gt_in (inT_7 _ (List.mem_of_getElem? (i := 175) (by decide +kernel))) (by decide +kernel))
theorem nX12_332 : Cond.constant RX12 332 (1103515245) ∈ gt := (gt_in (inT_7 _ (List.mem_of_getElem? (i := 224) (by decide +kernel))) (by decide +kernel))
theorem fX12_355 : fldF RX12 355 12 42 := ⟨RX12, TX12, 50, ok_X12, by decide, (gt_in (inT_5 _ (List.mem_of_getElem? (i := 230) (by decide +kernel))) (by decide +kernel))⟩
theorem pX12_355 : fld RX12 355 12 42 := ⟨RX12, TX12, 50, ok_X12, by decide, (gt_in (inT_5 _ (List.mem_of_getElem? (i := 230) (by decide +kernel))) (by decide +kernel)), rfl⟩
theorem nJ6_264 : Cond.constant RJ6 264 (65536) ∈ gt := (gt_in (inT_3 _ (List.mem_of_getElem? (i := 68) (by decide +kernel))) (by decide +kernel))
theorem nJ6_265 : Cond.constant RJ6 265 (1431655765) ∈ gt := (gt_in (inT_2 _ (List.mem_of_getElem? (i := 237) (by decide +kernel))) (by decide +kernel))
theorem nJ6_266 : Cond.constant RJ6 266 (858993459) ∈ gt := (gt_in (inT_2 _ (List.mem_of_getElem? (i := 238) (by decide +kernel))) (by decide +kernel))
theorem nJ6_267 : Cond.constant RJ6 267 (252645135) ∈ gt := (gt_in (inT_2 _ (List.mem_of_getElem? (i := 239) (by decide +kernel))) (by decide +kernel))
theorem nJ13_314 : Cond.constantLong RJ13 314 (6148914691236517205) ∈ gt := (gt_in (inT_5 _ (List.mem_of_getElem? (i := 64) (by decide +kernel))) (by decide +kernel))
theorem nJ13_316 : Cond.constantLong RJ13 316 (3689348814741910323) ∈ gt := (gt_in (inT_5 _ (List.mem_of_getElem? (i := 65) (by decide +kernel))) (by decide +kernel))
theorem nJ13_318 : Cond.constantLong RJ13 318 (1085102592571150095) ∈ gt := (gt_in (inT_5 _ (List.mem_of_getElem? (i := 66) (by decide +kernel))) (by decide +kernel))
theorem kX11_108 : okS RX11 108 mX11_isKind 1 := ⟨M_X11_isKind, (gt_in (inT_2 _ (List.mem_of_getElem? (i := 188) (by decide +kernel))) (by decide +kernel)), Or.inl (gt_in (inT_2 _ (List.mem_of_getElem? (i := 187) (by decide +kernel))) (by decide +kernel))⟩
theorem kX11_112 : okS RX11 112 mX11_isWeight 1 := ⟨M_X11_isWeight, (gt_in (inT_2 _ (List.mem_of_getElem? (i := 194) (by decide +kernel))) (by decide +kernel)), Or.inl (gt_in (inT_2 _ (List.mem_of_getElem? (i := 193) (by decide +kernel))) (by decide +kernel))⟩
theorem kX11_118 : okV RX11 118 mX4_add 4 2 := ⟨M_X4_add, (gt_in (inT_2 _ (List.mem_of_getElem? (i := 197) (by decide +kernel))) (by decide +kernel)), S_X4_add, ⟨TX4, 5, rfl⟩, Or.inl (gt_in (inT_2 _ (List.mem_of_getElem? (i := 196) (by decide +kernel))) (by decide +kernel))⟩
theorem kX11_122 : okV RX11 122 mX4_hasTwo 4 2 := ⟨M_X4_hasTwo, (gt_in (inT_2 _ (List.mem_of_getElem? (i := 205) (by decide +kernel))) (by decide +kernel)), S_X4_hasTwo, ⟨TX4, 5, rfl⟩, Or.inl (gt_in (inT_2 _ (List.mem_of_getElem? (i := 204) (by decide +kernel))) (by decide +kernel))⟩
theorem kX11_126 : okS RX11 126 mX11_within 3 := ⟨M_X11_within, (gt_in (inT_2 _ (List.mem_of_getElem? (i := 191) (by decide +kernel))) (by decide +kernel)), Or.inl (gt_in (inT_2 _ (List.mem_of_getElem? (i := 190) (by decide +kernel))) (by decide +kernel))⟩
theorem kX11_130 : okV RX11 130 mX4_joined 4 2 := ⟨M_X4_joined, (gt_in (inT_2 _ (List.mem_of_getElem? (i := 213) (by decide +kernel))) (by decide +kernel)), S_X4_joined, ⟨TX4, 5, rfl⟩, Or.inl (gt_in (inT_2 _ (List.mem_of_getElem? (i := 212) (by decide +kernel))) (by decide +kernel))⟩
theorem kX11_133 : okV RX11 133 mX4_join 4 3 := ⟨M_X4_join, (gt_in (inT_2 _ (List.mem_of_getElem? (i := 217) (by decide +kernel))) (by decide +kernel)), S_X4_join, ⟨TX4, 5, rfl⟩, Or.inl (gt_in (inT_2 _ (List.mem_of_getElem? (i := 216) (by decide +kernel))) (by decide +kernel))⟩
theorem kX11_137 : okV RX11 137 mX4_has 4 1 := ⟨M_X4_has, (gt_in (inT_2 _ (List.mem_of_getElem? (i := 209) (by decide +kernel))) (by decide +kernel)), S_X4_has, ⟨TX4, 5, rfl⟩, Or.inl (gt_in (inT_2 _ (List.mem_of_getElem? (i := 225) (by decide +kernel))) (by decide +kernel))⟩
theorem kX11_147 : okV RX11 147 mX4_price 4 1 := ⟨M_X4_price, (gt_in (inT_2 _ (List.mem_of_getElem? (i := 227) (by decide +kernel))) (by decide +kernel)), S_X4_price, ⟨TX4, 5, rfl⟩, Or.inl (gt_in (inT_2 _ (List.mem_of_getElem? (i := 226) (by decide +kernel))) (by decide +kernel))⟩
theorem kX11_154 : okV RX11 154 mX4_degree 4 1 := ⟨M_X4_degree, (gt_in (inT_2 _ (List.mem_of_getElem? (i := 231) (by decide +kernel))) (by decide +kernel)), S_X4_degree, ⟨TX4, 5, rfl⟩, Or.inl (gt_in (inT_3 _ (List.mem_of_getElem? (i := 6) (by decide +kernel))) (by decide +kernel))⟩
theorem kX11_157 : okV RX11 157 mX4_lines 4 0 := ⟨M_X4_lines, (gt_in (inT_3 _ (List.mem_of_getElem? (i := 16) (by decide +kernel))) (by decide +kernel)), S_X4_lines, ⟨TX4, 5, rfl⟩, Or.inl (gt_in (inT_3 _ (List.mem_of_getElem? (i := 15) (by decide +kernel))) (by decide +kernel))⟩
theorem kX11_161 : okV RX11 161 mX4_lonely 4 0 := ⟨M_X4_lonely, (gt_in (inT_3 _ (List.mem_of_getElem? (i := 20) (by decide +kernel))) (by decide +kernel)), S_X4_lonely, ⟨TX4, 5, rfl⟩, Or.inl (gt_in (inT_3 _ (List.mem_of_getElem? (i := 19) (by decide +kernel))) (by decide +kernel))⟩
theorem kX11_166 : okV RX11 166 mX4_hasAll 4 1 := ⟨M_X4_hasAll, (gt_in (inT_3 _ (List.mem_of_getElem? (i := 28) (by decide +kernel))) (by decide +kernel)), S_X4_hasAll, ⟨TX4, 5, rfl⟩, Or.inl (gt_in (inT_3 _ (List.mem_of_getElem? (i := 27) (by decide +kernel))) (by decide +kernel))⟩
theorem kX11_169 : okV RX11 169 mX4_covers 4 1 := ⟨M_X4_covers, (gt_in (inT_3 _ (List.mem_of_getElem? (i := 36) (by decide +kernel))) (by decide +kernel)), S_X4_covers, ⟨TX4, 5, rfl⟩, Or.inl (gt_in (inT_3 _ (List.mem_of_getElem? (i := 35) (by decide +kernel))) (by decide +kernel))⟩
theorem kX11_172 : okV RX11 172 mX4_needsAll 4 1 := ⟨M_X4_needsAll, (gt_in (inT_3 _ (List.mem_of_getElem? (i := 40) (by decide +kernel))) (by decide +kernel)), S_X4_needsAll, ⟨TX4, 5, rfl⟩, Or.inl (gt_in (inT_3 _ (List.mem_of_getElem? (i := 39) (by decide +kernel))) (by decide +kernel))⟩
theorem kX11_175 : okV RX11 175 mX4_priceOfAll 4 1 := ⟨M_X4_priceOfAll, (gt_in (inT_3 _ (List.mem_of_getElem? (i := 48) (by decide +kernel))) (by decide +kernel)), S_X4_priceOfAll, ⟨TX4, 5, rfl⟩, Or.inl (gt_in (inT_3 _ (List.mem_of_getElem? (i := 47) (by decide +kernel))) (by decide +kernel))⟩
theorem kX11_178 : okV RX11 178 mX0_findFewest 0 1 := ⟨M_X0_findFewest, (gt_in (inT_3 _ (List.mem_of_getElem? (i := 57) (by decide +kernel))) (by decide +kernel)), S_X0_findFewest, ⟨TX0, 7, rfl⟩, Or.inl (gt_in (inT_3 _ (List.mem_of_getElem? (i := 56) (by decide +kernel))) (by decide +kernel))⟩
theorem kX11_194 : okV RX11 194 mX4_all 4 0 := ⟨M_X4_all, (gt_in (inT_3 _ (List.mem_of_getElem? (i := 32) (by decide +kernel))) (by decide +kernel)), S_X4_all, ⟨TX4, 5, rfl⟩, Or.inl (gt_in (inT_3 _ (List.mem_of_getElem? (i := 78) (by decide +kernel))) (by decide +kernel))⟩
theorem kX11_200 : okV RX11 200 mX0_findCheapest 0 1 := ⟨M_X0_findCheapest, (gt_in (inT_3 _ (List.mem_of_getElem? (i := 84) (by decide +kernel))) (by decide +kernel)), S_X0_findCheapest, ⟨TX0, 7, rfl⟩, Or.inl (gt_in (inT_3 _ (List.mem_of_getElem? (i := 83) (by decide +kernel))) (by decide +kernel))⟩
theorem kX11_203 : okV RX11 203 mX0_howManyOf 0 4 := ⟨M_X0_howManyOf, (gt_in (inT_3 _ (List.mem_of_getElem? (i := 98) (by decide +kernel))) (by decide +kernel)), S_X0_howManyOf, ⟨TX0, 7, rfl⟩, Or.inl (gt_in (inT_3 _ (List.mem_of_getElem? (i := 97) (by decide +kernel))) (by decide +kernel))⟩
theorem kX11_207 : okV RX11 207 mX0_findBare 0 1 := ⟨M_X0_findBare, (gt_in (inT_3 _ (List.mem_of_getElem? (i := 106) (by decide +kernel))) (by decide +kernel)), S_X0_findBare, ⟨TX0, 7, rfl⟩, Or.inl (gt_in (inT_3 _ (List.mem_of_getElem? (i := 105) (by decide +kernel))) (by decide +kernel))⟩
theorem kX11_212 : okV RX11 212 mX0_howMany 0 1 := ⟨M_X0_howMany, (gt_in (inT_3 _ (List.mem_of_getElem? (i := 115) (by decide +kernel))) (by decide +kernel)), S_X0_howMany, ⟨TX0, 7, rfl⟩, Or.inl (gt_in (inT_3 _ (List.mem_of_getElem? (i := 114) (by decide +kernel))) (by decide +kernel))⟩
theorem kX11_216 : okV RX11 216 mX2_settle 2 2 := ⟨M_X2_settle, (gt_in (inT_3 _ (List.mem_of_getElem? (i := 123) (by decide +kernel))) (by decide +kernel)), S_X2_settle, ⟨TX2, 8, rfl⟩, Or.inl (gt_in (inT_3 _ (List.mem_of_getElem? (i := 122) (by decide +kernel))) (by decide +kernel))⟩
theorem kX11_223 : okS RX11 223 mJ6_bitCount_0f7a4 1 := ⟨M_J6_bitCount_0f7a4, (gt_in (inT_2 _ (List.mem_of_getElem? (i := 235) (by decide +kernel))) (by decide +kernel)), Or.inl (gt_in (inT_3 _ (List.mem_of_getElem? (i := 151) (by decide +kernel))) (by decide +kernel))⟩
theorem kX11_234 : okV RX11 234 mX2_possible 2 3 := ⟨M_X2_possible, (gt_in (inT_3 _ (List.mem_of_getElem? (i := 161) (by decide +kernel))) (by decide +kernel)), S_X2_possible, ⟨TX2, 8, rfl⟩, Or.inl (gt_in (inT_3 _ (List.mem_of_getElem? (i := 160) (by decide +kernel))) (by decide +kernel))⟩
theorem kX11_238 : okV RX11 238 mX2_firstMate 2 4 := ⟨M_X2_firstMate, (gt_in (inT_3 _ (List.mem_of_getElem? (i := 169) (by decide +kernel))) (by decide +kernel)), S_X2_firstMate, ⟨TX2, 8, rfl⟩, Or.inl (gt_in (inT_3 _ (List.mem_of_getElem? (i := 168) (by decide +kernel))) (by decide +kernel))⟩
theorem kX11_242 : okS RX11 242 mX0_fewestOf 2 := ⟨M_X0_fewestOf, (gt_in (inT_3 _ (List.mem_of_getElem? (i := 181) (by decide +kernel))) (by decide +kernel)), Or.inl (gt_in (inT_3 _ (List.mem_of_getElem? (i := 180) (by decide +kernel))) (by decide +kernel))⟩
theorem kX11_246 : okV RX11 246 mX4_near 4 1 := ⟨M_X4_near, (gt_in (inT_3 _ (List.mem_of_getElem? (i := 197) (by decide +kernel))) (by decide +kernel)), S_X4_near, ⟨TX4, 5, rfl⟩, Or.inl (gt_in (inT_3 _ (List.mem_of_getElem? (i := 196) (by decide +kernel))) (by decide +kernel))⟩
theorem kX11_249 : okS RX11 249 mX1_isOne 4 := ⟨M_X1_isOne, (gt_in (inT_3 _ (List.mem_of_getElem? (i := 201) (by decide +kernel))) (by decide +kernel)), Or.inl (gt_in (inT_3 _ (List.mem_of_getElem? (i := 200) (by decide +kernel))) (by decide +kernel))⟩
theorem kX11_253 : okV RX11 253 mX1_find 1 3 := ⟨M_X1_find, (gt_in (inT_3 _ (List.mem_of_getElem? (i := 210) (by decide +kernel))) (by decide +kernel)), S_X1_find, ⟨TX1, 2, rfl⟩, Or.inl (gt_in (inT_3 _ (List.mem_of_getElem? (i := 209) (by decide +kernel))) (by decide +kernel))⟩
theorem kX11_261 : okS RX11 261 mX11_isK 1 := ⟨M_X11_isK, (gt_in (inT_3 _ (List.mem_of_getElem? (i := 221) (by decide +kernel))) (by decide +kernel)), Or.inl (gt_in (inT_3 _ (List.mem_of_getElem? (i := 220) (by decide +kernel))) (by decide +kernel))⟩
theorem kX11_264 : okV RX11 264 mX3_reduce 3 2 := ⟨M_X3_reduce, (gt_in (inT_3 _ (List.mem_of_getElem? (i := 224) (by decide +kernel))) (by decide +kernel)), S_X3_reduce, ⟨TX3, 8, rfl⟩, Or.inl (gt_in (inT_3 _ (List.mem_of_getElem? (i := 223) (by decide +kernel))) (by decide +kernel))⟩
theorem kX11_280 : okV RX11 280 mX3_refuses 3 0 := ⟨M_X3_refuses, (gt_in (inT_4 _ (List.mem_of_getElem? (i := 4) (by decide +kernel))) (by decide +kernel)), S_X3_refuses, ⟨TX3, 8, rfl⟩, Or.inl (gt_in (inT_4 _ (List.mem_of_getElem? (i := 3) (by decide +kernel))) (by decide +kernel))⟩
theorem kX11_293 : okV RX11 293 mX5_findBest 5 1 := ⟨M_X5_findBest, (gt_in (inT_4 _ (List.mem_of_getElem? (i := 16) (by decide +kernel))) (by decide +kernel)), S_X5_findBest, ⟨TX5, 3, rfl⟩, Or.inl (gt_in (inT_4 _ (List.mem_of_getElem? (i := 15) (by decide +kernel))) (by decide +kernel))⟩
theorem kX11_302 : okV RX11 302 mX7_has 7 1 := ⟨M_X7_has, (gt_in (inT_4 _ (List.mem_of_getElem? (i := 31) (by decide +kernel))) (by decide +kernel)), S_X7_has, ⟨TX7, 3, rfl⟩, Or.inl (gt_in (inT_4 _ (List.mem_of_getElem? (i := 30) (by decide +kernel))) (by decide +kernel))⟩
theorem kX11_303 : okV RX11 303 mX7_isMissing 7 1 := ⟨M_X7_isMissing, (gt_in (inT_4 _ (List.mem_of_getElem? (i := 35) (by decide +kernel))) (by decide +kernel)), S_X7_isMissing, ⟨TX7, 3, rfl⟩, Or.inl (gt_in (inT_4 _ (List.mem_of_getElem? (i := 34) (by decide +kernel))) (by decide +kernel))⟩
theorem kX11_313 : okV RX11 313 mX5_canHold 5 2 := ⟨M_X5_canHold, (gt_in (inT_4 _ (List.mem_of_getElem? (i := 39) (by decide +kernel))) (by decide +kernel)), S_X5_canHold, ⟨TX5, 3, rfl⟩, Or.inl (gt_in (inT_4 _ (List.mem_of_getElem? (i := 38) (by decide +kernel))) (by decide +kernel))⟩
theorem kX11_317 : okV RX11 317 mX6_run 6 3 := ⟨M_X6_run, (gt_in (inT_4 _ (List.mem_of_getElem? (i := 50) (by decide +kernel))) (by decide +kernel)), S_X6_run, ⟨TX6, 14, rfl⟩, Or.inl (gt_in (inT_4 _ (List.mem_of_getElem? (i := 49) (by decide +kernel))) (by decide +kernel))⟩
theorem kX11_351 : okV RX11 351 mX7_begin 7 3 := ⟨M_X7_begin, (gt_in (inT_4 _ (List.mem_of_getElem? (i := 75) (by decide +kernel))) (by decide +kernel)), S_X7_begin, ⟨TX7, 3, rfl⟩, Or.inl (gt_in (inT_4 _ (List.mem_of_getElem? (i := 74) (by decide +kernel))) (by decide +kernel))⟩
theorem kX11_358 : okV RX11 358 mX7_put 7 3 := ⟨M_X7_put, (gt_in (inT_4 _ (List.mem_of_getElem? (i := 80) (by decide +kernel))) (by decide +kernel)), S_X7_put, ⟨TX7, 3, rfl⟩, Or.inl (gt_in (inT_4 _ (List.mem_of_getElem? (i := 79) (by decide +kernel))) (by decide +kernel))⟩
theorem kX11_361 : okV RX11 361 mX6_firstWrong 6 4 := ⟨M_X6_firstWrong, (gt_in (inT_4 _ (List.mem_of_getElem? (i := 88) (by decide +kernel))) (by decide +kernel)), S_X6_firstWrong, ⟨TX6, 14, rfl⟩, Or.inl (gt_in (inT_4 _ (List.mem_of_getElem? (i := 87) (by decide +kernel))) (by decide +kernel))⟩
theorem kX11_365 : okV RX11 365 mX4_become 4 1 := ⟨M_X4_become, (gt_in (inT_4 _ (List.mem_of_getElem? (i := 105) (by decide +kernel))) (by decide +kernel)), S_X4_become, ⟨TX4, 5, rfl⟩, Or.inl (gt_in (inT_4 _ (List.mem_of_getElem? (i := 104) (by decide +kernel))) (by decide +kernel))⟩
theorem kX11_368 : okS RX11 368 mJ6_numberOfTrailingZeros_0f7a4 1 := ⟨M_J6_numberOfTrailingZeros_0f7a4, (gt_in (inT_3 _ (List.mem_of_getElem? (i := 66) (by decide +kernel))) (by decide +kernel)), Or.inl (gt_in (inT_4 _ (List.mem_of_getElem? (i := 115) (by decide +kernel))) (by decide +kernel))⟩
theorem kX11_371 : okV RX11 371 mX4_payUpTo 4 2 := ⟨M_X4_payUpTo, (gt_in (inT_4 _ (List.mem_of_getElem? (i := 121) (by decide +kernel))) (by decide +kernel)), S_X4_payUpTo, ⟨TX4, 5, rfl⟩, Or.inl (gt_in (inT_4 _ (List.mem_of_getElem? (i := 120) (by decide +kernel))) (by decide +kernel))⟩
theorem kX11_374 : okV RX11 374 mX4_spent 4 0 := ⟨M_X4_spent, (gt_in (inT_4 _ (List.mem_of_getElem? (i := 127) (by decide +kernel))) (by decide +kernel)), S_X4_spent, ⟨TX4, 5, rfl⟩, Or.inl (gt_in (inT_4 _ (List.mem_of_getElem? (i := 126) (by decide +kernel))) (by decide +kernel))⟩
theorem kX11_377 : okMin RX11 377 := ⟨(gt_in (inT_4 _ (List.mem_of_getElem? (i := 134) (by decide +kernel))) (by decide +kernel)), (gt_in (inT_3 _ (List.mem_of_getElem? (i := 190) (by decide +kernel))) (by decide +kernel)), (gt_in (inT_1 _ (List.mem_of_getElem? (i := 15) (by decide +kernel))) (by decide +kernel)), (gt_in (inT_3 _ (List.mem_of_getElem? (i := 191) (by decide +kernel))) (by decide +kernel))⟩
theorem kX11_382 : okMax RX11 382 := ⟨(gt_in (inT_3 _ (List.mem_of_getElem? (i := 3) (by decide +kernel))) (by decide +kernel)), (gt_in (inT_3 _ (List.mem_of_getElem? (i := 4) (by decide +kernel))) (by decide +kernel)), (gt_in (inT_1 _ (List.mem_of_getElem? (i := 15) (by decide +kernel))) (by decide +kernel)), (gt_in (inT_3 _ (List.mem_of_getElem? (i := 5) (by decide +kernel))) (by decide +kernel))⟩
theorem kX11_388 : okV RX11 388 mX9_put 9 1 := ⟨M_X9_put, (gt_in (inT_4 _ (List.mem_of_getElem? (i := 140) (by decide +kernel))) (by decide +kernel)), S_X9_put, ⟨TX9, 4, rfl⟩, Or.inl (gt_in (inT_4 _ (List.mem_of_getElem? (i := 139) (by decide +kernel))) (by decide +kernel))⟩
theorem kX11_391 : okV RX11 391 mX9_fault 9 1 := ⟨M_X9_fault, (gt_in (inT_4 _ (List.mem_of_getElem? (i := 152) (by decide +kernel))) (by decide +kernel)), S_X9_fault, ⟨TX9, 4, rfl⟩, Or.inl (gt_in (inT_4 _ (List.mem_of_getElem? (i := 151) (by decide +kernel))) (by decide +kernel))⟩
theorem kX11_397 : okV RX11 397 mX10_leastSum 10 1 := ⟨M_X10_leastSum, (gt_in (inT_5 _ (List.mem_of_getElem? (i := 21) (by decide +kernel))) (by decide +kernel)), S_X10_leastSum, ⟨TX10, 9, rfl⟩, Or.inl (gt_in (inT_5 _ (List.mem_of_getElem? (i := 20) (by decide +kernel))) (by decide +kernel))⟩
theorem kX11_400 : okV RX11 400 mX10_howManyLeast 10 1 := ⟨M_X10_howManyLeast, (gt_in (inT_5 _ (List.mem_of_getElem? (i := 39) (by decide +kernel))) (by decide +kernel)), S_X10_howManyLeast, ⟨TX10, 9, rfl⟩, Or.inl (gt_in (inT_5 _ (List.mem_of_getElem? (i := 38) (by decide +kernel))) (by decide +kernel))⟩
theorem kX11_404 : okV RX11 404 mX10_howManyBare 10 0 := ⟨M_X10_howManyBare, (gt_in (inT_5 _ (List.mem_of_getElem? (i := 43) (by decide +kernel))) (by decide +kernel)), S_X10_howManyBare, ⟨TX10, 9, rfl⟩, Or.inl (gt_in (inT_5 _ (List.mem_of_getElem? (i := 42) (by decide +kernel))) (by decide +kernel))⟩
theorem kX11_408 : okV RX11 408 mX10_has 10 1 := ⟨M_X10_has, (gt_in (inT_5 _ (List.mem_of_getElem? (i := 54) (by decide +kernel))) (by decide +kernel)), S_X10_has, ⟨TX10, 9, rfl⟩, Or.inl (gt_in (inT_5 _ (List.mem_of_getElem? (i := 53) (by decide +kernel))) (by decide +kernel))⟩
theorem kX11_414 : okV RX11 414 mX10_under 10 1 := ⟨M_X10_under, (gt_in (inT_5 _ (List.mem_of_getElem? (i := 58) (by decide +kernel))) (by decide +kernel)), S_X10_under, ⟨TX10, 9, rfl⟩, Or.inl (gt_in (inT_5 _ (List.mem_of_getElem? (i := 57) (by decide +kernel))) (by decide +kernel))⟩
theorem kX11_417 : okV RX11 417 mX10_price 10 1 := ⟨M_X10_price, (gt_in (inT_5 _ (List.mem_of_getElem? (i := 29) (by decide +kernel))) (by decide +kernel)), S_X10_price, ⟨TX10, 9, rfl⟩, Or.inl (gt_in (inT_5 _ (List.mem_of_getElem? (i := 67) (by decide +kernel))) (by decide +kernel))⟩
theorem kX11_418 : okV RX11 418 mX10_marks 10 0 := ⟨M_X10_marks, (gt_in (inT_5 _ (List.mem_of_getElem? (i := 69) (by decide +kernel))) (by decide +kernel)), S_X10_marks, ⟨TX10, 9, rfl⟩, Or.inl (gt_in (inT_5 _ (List.mem_of_getElem? (i := 68) (by decide +kernel))) (by decide +kernel))⟩
theorem kX11_421 : okV RX11 421 mX4_clear 4 0 := ⟨M_X4_clear, (gt_in (inT_5 _ (List.mem_of_getElem? (i := 77) (by decide +kernel))) (by decide +kernel)), S_X4_clear, ⟨TX4, 5, rfl⟩, Or.inl (gt_in (inT_5 _ (List.mem_of_getElem? (i := 76) (by decide +kernel))) (by decide +kernel))⟩
theorem kX11_424 : okV RX11 424 mX4_becomeDealt 4 3 := ⟨M_X4_becomeDealt, (gt_in (inT_5 _ (List.mem_of_getElem? (i := 90) (by decide +kernel))) (by decide +kernel)), S_X4_becomeDealt, ⟨TX4, 5, rfl⟩, Or.inl (gt_in (inT_5 _ (List.mem_of_getElem? (i := 89) (by decide +kernel))) (by decide +kernel))⟩
theorem kX11_428 : okV RX11 428 mX7_refusal 7 2 := ⟨M_X7_refusal, (gt_in (inT_5 _ (List.mem_of_getElem? (i := 113) (by decide +kernel))) (by decide +kernel)), S_X7_refusal, ⟨TX7, 3, rfl⟩, Or.inl (gt_in (inT_5 _ (List.mem_of_getElem? (i := 112) (by decide +kernel))) (by decide +kernel))⟩
theorem kX11_434 : okV RX11 434 mX7_hasRange 7 3 := ⟨M_X7_hasRange, (gt_in (inT_5 _ (List.mem_of_getElem? (i := 127) (by decide +kernel))) (by decide +kernel)), S_X7_hasRange, ⟨TX7, 3, rfl⟩, Or.inl (gt_in (inT_5 _ (List.mem_of_getElem? (i := 126) (by decide +kernel))) (by decide +kernel))⟩
theorem kX11_437 : okAc RX11 437 := ⟨(gt_in (inT_5 _ (List.mem_of_getElem? (i := 130) (by decide +kernel))) (by decide +kernel)), (gt_in (inT_4 _ (List.mem_of_getElem? (i := 110) (by decide +kernel))) (by decide +kernel)), (gt_in (inT_4 _ (List.mem_of_getElem? (i := 109) (by decide +kernel))) (by decide +kernel)), (gt_in (inT_1 _ (List.mem_of_getElem? (i := 17) (by decide +kernel))) (by decide +kernel))⟩
theorem kX11_443 : okV RX11 443 mX4_mayFollow 4 2 := ⟨M_X4_mayFollow, (gt_in (inT_5 _ (List.mem_of_getElem? (i := 140) (by decide +kernel))) (by decide +kernel)), S_X4_mayFollow, ⟨TX4, 5, rfl⟩, Or.inl (gt_in (inT_5 _ (List.mem_of_getElem? (i := 139) (by decide +kernel))) (by decide +kernel))⟩
theorem kX11_447 : okV RX11 447 mX2_least 2 2 := ⟨M_X2_least, (gt_in (inT_3 _ (List.mem_of_getElem? (i := 127) (by decide +kernel))) (by decide +kernel)), S_X2_least, ⟨TX2, 8, rfl⟩, Or.inl (gt_in (inT_5 _ (List.mem_of_getElem? (i := 144) (by decide +kernel))) (by decide +kernel))⟩
theorem kX11_449 : okV RX11 449 mX8_has 8 1 := ⟨M_X8_has, (gt_in (inT_5 _ (List.mem_of_getElem? (i := 150) (by decide +kernel))) (by decide +kernel)), S_X8_has, ⟨TX8, 3, rfl⟩, Or.inl (gt_in (inT_5 _ (List.mem_of_getElem? (i := 149) (by decide +kernel))) (by decide +kernel))⟩
theorem kX11_450 : okV RX11 450 mX8_holdPoint 8 2 := ⟨M_X8_holdPoint, (gt_in (inT_5 _ (List.mem_of_getElem? (i := 154) (by decide +kernel))) (by decide +kernel)), S_X8_holdPoint, ⟨TX8, 3, rfl⟩, Or.inl (gt_in (inT_5 _ (List.mem_of_getElem? (i := 153) (by decide +kernel))) (by decide +kernel))⟩
theorem kX11_454 : okV RX11 454 mX8_holdRow 8 3 := ⟨M_X8_holdRow, (gt_in (inT_5 _ (List.mem_of_getElem? (i := 158) (by decide +kernel))) (by decide +kernel)), S_X8_holdRow, ⟨TX8, 3, rfl⟩, Or.inl (gt_in (inT_5 _ (List.mem_of_getElem? (i := 157) (by decide +kernel))) (by decide +kernel))⟩
theorem kX11_457 : okV RX11 457 mX8_holdNothing 8 1 := ⟨M_X8_holdNothing, (gt_in (inT_5 _ (List.mem_of_getElem? (i := 162) (by decide +kernel))) (by decide +kernel)), S_X8_holdNothing, ⟨TX8, 3, rfl⟩, Or.inl (gt_in (inT_5 _ (List.mem_of_getElem? (i := 161) (by decide +kernel))) (by decide +kernel))⟩
theorem kX11_467 : okS RX11 467 mX11_isUnderOrLike 2 := ⟨M_X11_isUnderOrLike, (gt_in (inT_5 _ (List.mem_of_getElem? (i := 170) (by decide +kernel))) (by decide +kernel)), Or.inl (gt_in (inT_5 _ (List.mem_of_getElem? (i := 169) (by decide +kernel))) (by decide +kernel))⟩
theorem kX0_34 : okV RX0 34 mX4_all 4 0 := ⟨M_X4_all, (gt_in (inT_3 _ (List.mem_of_getElem? (i := 32) (by decide +kernel))) (by decide +kernel)), S_X4_all, ⟨TX4, 5, rfl⟩, Or.inl (gt_in (inT_3 _ (List.mem_of_getElem? (i := 60) (by decide +kernel))) (by decide +kernel))⟩
theorem kX0_43 : okS RX0 43 mJ6_numberOfTrailingZeros_0f7a4 1 := ⟨M_J6_numberOfTrailingZeros_0f7a4, (gt_in (inT_3 _ (List.mem_of_getElem? (i := 66) (by decide +kernel))) (by decide +kernel)), Or.inl (gt_in (inT_3 _ (List.mem_of_getElem? (i := 65) (by decide +kernel))) (by decide +kernel))⟩
theorem kX0_49 : okV RX0 49 mX0_spread 0 1 := ⟨M_X0_spread, (gt_in (inT_3 _ (List.mem_of_getElem? (i := 62) (by decide +kernel))) (by decide +kernel)), S_X0_spread, ⟨TX0, 7, rfl⟩, Or.inl (gt_in (inT_3 _ (List.mem_of_getElem? (i := 61) (by decide +kernel))) (by decide +kernel))⟩
theorem kX0_53 : okS RX0 53 mJ6_bitCount_0f7a4 1 := ⟨M_J6_bitCount_0f7a4, (gt_in (inT_2 _ (List.mem_of_getElem? (i := 235) (by decide +kernel))) (by decide +kernel)), Or.inl (gt_in (inT_3 _ (List.mem_of_getElem? (i := 69) (by decide +kernel))) (by decide +kernel))⟩
theorem kX0_56 : okV RX0 56 mX0_coversWithout 0 1 := ⟨M_X0_coversWithout, (gt_in (inT_3 _ (List.mem_of_getElem? (i := 72) (by decide +kernel))) (by decide +kernel)), S_X0_coversWithout, ⟨TX0, 7, rfl⟩, Or.inl (gt_in (inT_3 _ (List.mem_of_getElem? (i := 70) (by decide +kernel))) (by decide +kernel))⟩
theorem kX0_60 : okV RX0 60 mX0_startWith 0 2 := ⟨M_X0_startWith, (gt_in (inT_3 _ (List.mem_of_getElem? (i := 76) (by decide +kernel))) (by decide +kernel)), S_X0_startWith, ⟨TX0, 7, rfl⟩, Or.inl (gt_in (inT_3 _ (List.mem_of_getElem? (i := 74) (by decide +kernel))) (by decide +kernel))⟩
theorem kX0_67 : okV RX0 67 mX4_price 4 1 := ⟨M_X4_price, (gt_in (inT_2 _ (List.mem_of_getElem? (i := 227) (by decide +kernel))) (by decide +kernel)), S_X4_price, ⟨TX4, 5, rfl⟩, Or.inl (gt_in (inT_3 _ (List.mem_of_getElem? (i := 87) (by decide +kernel))) (by decide +kernel))⟩
theorem kX0_70 : okV RX0 70 mX4_priceOfAll 4 1 := ⟨M_X4_priceOfAll, (gt_in (inT_3 _ (List.mem_of_getElem? (i := 48) (by decide +kernel))) (by decide +kernel)), S_X4_priceOfAll, ⟨TX4, 5, rfl⟩, Or.inl (gt_in (inT_3 _ (List.mem_of_getElem? (i := 88) (by decide +kernel))) (by decide +kernel))⟩
theorem kX0_73 : okV RX0 73 mX0_priceOf 0 2 := ⟨M_X0_priceOf, (gt_in (inT_3 _ (List.mem_of_getElem? (i := 91) (by decide +kernel))) (by decide +kernel)), S_X0_priceOf, ⟨TX0, 7, rfl⟩, Or.inl (gt_in (inT_3 _ (List.mem_of_getElem? (i := 89) (by decide +kernel))) (by decide +kernel))⟩
theorem kX0_77 : okS RX0 77 mX0_fewestIn 3 := ⟨M_X0_fewestIn, (gt_in (inT_3 _ (List.mem_of_getElem? (i := 184) (by decide +kernel))) (by decide +kernel)), Or.inl (gt_in (inT_3 _ (List.mem_of_getElem? (i := 183) (by decide +kernel))) (by decide +kernel))⟩
theorem kX0_81 : okS RX0 81 mX4_busiest 2 := ⟨M_X4_busiest, (gt_in (inT_3 _ (List.mem_of_getElem? (i := 187) (by decide +kernel))) (by decide +kernel)), Or.inl (gt_in (inT_3 _ (List.mem_of_getElem? (i := 186) (by decide +kernel))) (by decide +kernel))⟩
theorem kX0_85 : okMin RX0 85 := ⟨(gt_in (inT_3 _ (List.mem_of_getElem? (i := 189) (by decide +kernel))) (by decide +kernel)), (gt_in (inT_3 _ (List.mem_of_getElem? (i := 190) (by decide +kernel))) (by decide +kernel)), (gt_in (inT_1 _ (List.mem_of_getElem? (i := 15) (by decide +kernel))) (by decide +kernel)), (gt_in (inT_3 _ (List.mem_of_getElem? (i := 191) (by decide +kernel))) (by decide +kernel))⟩
theorem kX1_16 : okS RX1 16 mJ6_bitCount_0f7a4 1 := ⟨M_J6_bitCount_0f7a4, (gt_in (inT_2 _ (List.mem_of_getElem? (i := 235) (by decide +kernel))) (by decide +kernel)), Or.inl (gt_in (inT_3 _ (List.mem_of_getElem? (i := 203) (by decide +kernel))) (by decide +kernel))⟩
theorem kX1_28 : okV RX1 28 mX2_mostPairs 2 3 := ⟨M_X2_mostPairs, (gt_in (inT_3 _ (List.mem_of_getElem? (i := 131) (by decide +kernel))) (by decide +kernel)), S_X2_mostPairs, ⟨TX2, 8, rfl⟩, Or.inl (gt_in (inT_3 _ (List.mem_of_getElem? (i := 204) (by decide +kernel))) (by decide +kernel))⟩
theorem kX1_34 : okV RX1 34 mX4_all 4 0 := ⟨M_X4_all, (gt_in (inT_3 _ (List.mem_of_getElem? (i := 32) (by decide +kernel))) (by decide +kernel)), S_X4_all, ⟨TX4, 5, rfl⟩, Or.inl (gt_in (inT_3 _ (List.mem_of_getElem? (i := 213) (by decide +kernel))) (by decide +kernel))⟩
theorem kX1_38 : okV RX1 38 mX0_spread 0 1 := ⟨M_X0_spread, (gt_in (inT_3 _ (List.mem_of_getElem? (i := 62) (by decide +kernel))) (by decide +kernel)), S_X0_spread, ⟨TX0, 7, rfl⟩, Or.inl (gt_in (inT_3 _ (List.mem_of_getElem? (i := 214) (by decide +kernel))) (by decide +kernel))⟩
theorem kX1_47 : okS RX1 47 mX1_isOne 4 := ⟨M_X1_isOne, (gt_in (inT_3 _ (List.mem_of_getElem? (i := 201) (by decide +kernel))) (by decide +kernel)), Or.inl (gt_in (inT_3 _ (List.mem_of_getElem? (i := 215) (by decide +kernel))) (by decide +kernel))⟩
theorem kX2_37 : okS RX2 37 mJ7_fill_53178 2 := ⟨M_J7_fill_53178, (gt_in (inT_3 _ (List.mem_of_getElem? (i := 135) (by decide +kernel))) (by decide +kernel)), Or.inl (gt_in (inT_3 _ (List.mem_of_getElem? (i := 134) (by decide +kernel))) (by decide +kernel))⟩
theorem kX2_43 : okV RX2 43 mX2_pairsOneMore 2 3 := ⟨M_X2_pairsOneMore, (gt_in (inT_3 _ (List.mem_of_getElem? (i := 139) (by decide +kernel))) (by decide +kernel)), S_X2_pairsOneMore, ⟨TX2, 8, rfl⟩, Or.inl (gt_in (inT_3 _ (List.mem_of_getElem? (i := 137) (by decide +kernel))) (by decide +kernel))⟩
theorem kX2_47 : okS RX2 47 mJ6_numberOfTrailingZeros_0f7a4 1 := ⟨M_J6_numberOfTrailingZeros_0f7a4, (gt_in (inT_3 _ (List.mem_of_getElem? (i := 66) (by decide +kernel))) (by decide +kernel)), Or.inl (gt_in (inT_3 _ (List.mem_of_getElem? (i := 141) (by decide +kernel))) (by decide +kernel))⟩
theorem kX2_53 : okV RX2 53 mX2_shiftPairs 2 1 := ⟨M_X2_shiftPairs, (gt_in (inT_3 _ (List.mem_of_getElem? (i := 144) (by decide +kernel))) (by decide +kernel)), S_X2_shiftPairs, ⟨TX2, 8, rfl⟩, Or.inl (gt_in (inT_3 _ (List.mem_of_getElem? (i := 142) (by decide +kernel))) (by decide +kernel))⟩
theorem kX2_57 : okV RX2 57 mX2_mostPairs 2 3 := ⟨M_X2_mostPairs, (gt_in (inT_3 _ (List.mem_of_getElem? (i := 131) (by decide +kernel))) (by decide +kernel)), S_X2_mostPairs, ⟨TX2, 8, rfl⟩, Or.inl (gt_in (inT_3 _ (List.mem_of_getElem? (i := 130) (by decide +kernel))) (by decide +kernel))⟩
theorem kX2_61 : okS RX2 61 mJ6_bitCount_0f7a4 1 := ⟨M_J6_bitCount_0f7a4, (gt_in (inT_2 _ (List.mem_of_getElem? (i := 235) (by decide +kernel))) (by decide +kernel)), Or.inl (gt_in (inT_3 _ (List.mem_of_getElem? (i := 150) (by decide +kernel))) (by decide +kernel))⟩
theorem kX2_64 : okV RX2 64 mX2_least 2 2 := ⟨M_X2_least, (gt_in (inT_3 _ (List.mem_of_getElem? (i := 127) (by decide +kernel))) (by decide +kernel)), S_X2_least, ⟨TX2, 8, rfl⟩, Or.inl (gt_in (inT_3 _ (List.mem_of_getElem? (i := 126) (by decide +kernel))) (by decide +kernel))⟩
theorem kX2_68 : okV RX2 68 mX2_leastWith 2 5 := ⟨M_X2_leastWith, (gt_in (inT_3 _ (List.mem_of_getElem? (i := 148) (by decide +kernel))) (by decide +kernel)), S_X2_leastWith, ⟨TX2, 8, rfl⟩, Or.inl (gt_in (inT_3 _ (List.mem_of_getElem? (i := 146) (by decide +kernel))) (by decide +kernel))⟩
theorem kX2_72 : okV RX2 72 mX2_leastMate 2 4 := ⟨M_X2_leastMate, (gt_in (inT_3 _ (List.mem_of_getElem? (i := 174) (by decide +kernel))) (by decide +kernel)), S_X2_leastMate, ⟨TX2, 8, rfl⟩, Or.inl (gt_in (inT_3 _ (List.mem_of_getElem? (i := 172) (by decide +kernel))) (by decide +kernel))⟩
theorem kX3_41 : okV RX3 41 mX4_all 4 0 := ⟨M_X4_all, (gt_in (inT_3 _ (List.mem_of_getElem? (i := 32) (by decide +kernel))) (by decide +kernel)), S_X4_all, ⟨TX4, 5, rfl⟩, Or.inl (gt_in (inT_3 _ (List.mem_of_getElem? (i := 227) (by decide +kernel))) (by decide +kernel))⟩
theorem kX3_50 : okV RX3 50 mX3_doesRound 3 1 := ⟨M_X3_doesRound, (gt_in (inT_3 _ (List.mem_of_getElem? (i := 230) (by decide +kernel))) (by decide +kernel)), S_X3_doesRound, ⟨TX3, 8, rfl⟩, Or.inl (gt_in (inT_3 _ (List.mem_of_getElem? (i := 228) (by decide +kernel))) (by decide +kernel))⟩
theorem kX3_54 : okV RX3 54 mX3_leastWith 3 3 := ⟨M_X3_leastWith, (gt_in (inT_3 _ (List.mem_of_getElem? (i := 234) (by decide +kernel))) (by decide +kernel)), S_X3_leastWith, ⟨TX3, 8, rfl⟩, Or.inl (gt_in (inT_3 _ (List.mem_of_getElem? (i := 232) (by decide +kernel))) (by decide +kernel))⟩
theorem kX3_58 : okV RX3 58 mX3_goes 3 3 := ⟨M_X3_goes, (gt_in (inT_4 _ (List.mem_of_getElem? (i := 0) (by decide +kernel))) (by decide +kernel)), S_X3_goes, ⟨TX3, 8, rfl⟩, Or.inl (gt_in (inT_3 _ (List.mem_of_getElem? (i := 238) (by decide +kernel))) (by decide +kernel))⟩
theorem kX3_62 : okV RX3 62 mX2_settle 2 2 := ⟨M_X2_settle, (gt_in (inT_3 _ (List.mem_of_getElem? (i := 123) (by decide +kernel))) (by decide +kernel)), S_X2_settle, ⟨TX2, 8, rfl⟩, Or.inl (gt_in (inT_4 _ (List.mem_of_getElem? (i := 2) (by decide +kernel))) (by decide +kernel))⟩
theorem kX3_72 : okS RX3 72 mJ6_bitCount_0f7a4 1 := ⟨M_J6_bitCount_0f7a4, (gt_in (inT_2 _ (List.mem_of_getElem? (i := 235) (by decide +kernel))) (by decide +kernel)), Or.inl (gt_in (inT_3 _ (List.mem_of_getElem? (i := 236) (by decide +kernel))) (by decide +kernel))⟩
theorem kX3_78 : okS RX3 78 mX11_within 3 := ⟨M_X11_within, (gt_in (inT_2 _ (List.mem_of_getElem? (i := 191) (by decide +kernel))) (by decide +kernel)), Or.inr ⟨"LinesTouched", inT_3 _ (List.mem_of_getElem? (i := 237) (by decide +kernel))⟩⟩
theorem kX4_28 : okV RX4 28 mX4_has 4 1 := ⟨M_X4_has, (gt_in (inT_2 _ (List.mem_of_getElem? (i := 209) (by decide +kernel))) (by decide +kernel)), S_X4_has, ⟨TX4, 5, rfl⟩, Or.inl (gt_in (inT_2 _ (List.mem_of_getElem? (i := 208) (by decide +kernel))) (by decide +kernel))⟩
theorem kX4_32 : okV RX4 32 mX4_all 4 0 := ⟨M_X4_all, (gt_in (inT_3 _ (List.mem_of_getElem? (i := 32) (by decide +kernel))) (by decide +kernel)), S_X4_all, ⟨TX4, 5, rfl⟩, Or.inl (gt_in (inT_3 _ (List.mem_of_getElem? (i := 31) (by decide +kernel))) (by decide +kernel))⟩
theorem kX4_36 : okS RX4 36 mJ7_fill_53178 2 := ⟨M_J7_fill_53178, (gt_in (inT_3 _ (List.mem_of_getElem? (i := 135) (by decide +kernel))) (by decide +kernel)), Or.inl (gt_in (inT_5 _ (List.mem_of_getElem? (i := 80) (by decide +kernel))) (by decide +kernel))⟩
theorem kX4_42 : okV RX4 42 mX4_hasTwo 4 2 := ⟨M_X4_hasTwo, (gt_in (inT_2 _ (List.mem_of_getElem? (i := 205) (by decide +kernel))) (by decide +kernel)), S_X4_hasTwo, ⟨TX4, 5, rfl⟩, Or.inl (gt_in (inT_2 _ (List.mem_of_getElem? (i := 220) (by decide +kernel))) (by decide +kernel))⟩
theorem kX4_46 : okAc RX4 46 := ⟨(gt_in (inT_4 _ (List.mem_of_getElem? (i := 108) (by decide +kernel))) (by decide +kernel)), (gt_in (inT_4 _ (List.mem_of_getElem? (i := 110) (by decide +kernel))) (by decide +kernel)), (gt_in (inT_4 _ (List.mem_of_getElem? (i := 109) (by decide +kernel))) (by decide +kernel)), (gt_in (inT_1 _ (List.mem_of_getElem? (i := 17) (by decide +kernel))) (by decide +kernel))⟩
theorem kX4_52 : okV RX4 52 mX4_clear 4 0 := ⟨M_X4_clear, (gt_in (inT_5 _ (List.mem_of_getElem? (i := 77) (by decide +kernel))) (by decide +kernel)), S_X4_clear, ⟨TX4, 5, rfl⟩, Or.inl (gt_in (inT_5 _ (List.mem_of_getElem? (i := 93) (by decide +kernel))) (by decide +kernel))⟩
theorem kX4_55 : okS RX4 55 mX4_drawn 1 := ⟨M_X4_drawn, (gt_in (inT_5 _ (List.mem_of_getElem? (i := 95) (by decide +kernel))) (by decide +kernel)), Or.inl (gt_in (inT_5 _ (List.mem_of_getElem? (i := 94) (by decide +kernel))) (by decide +kernel))⟩
theorem kX4_59 : okV RX4 59 mX4_add 4 2 := ⟨M_X4_add, (gt_in (inT_2 _ (List.mem_of_getElem? (i := 197) (by decide +kernel))) (by decide +kernel)), S_X4_add, ⟨TX4, 5, rfl⟩, Or.inl (gt_in (inT_5 _ (List.mem_of_getElem? (i := 98) (by decide +kernel))) (by decide +kernel))⟩
theorem kX4_63 : okV RX4 63 mX4_join 4 3 := ⟨M_X4_join, (gt_in (inT_2 _ (List.mem_of_getElem? (i := 217) (by decide +kernel))) (by decide +kernel)), S_X4_join, ⟨TX4, 5, rfl⟩, Or.inl (gt_in (inT_5 _ (List.mem_of_getElem? (i := 99) (by decide +kernel))) (by decide +kernel))⟩
theorem kX4_68 : okS RX4 68 mJ6_bitCount_0f7a4 1 := ⟨M_J6_bitCount_0f7a4, (gt_in (inT_2 _ (List.mem_of_getElem? (i := 235) (by decide +kernel))) (by decide +kernel)), Or.inl (gt_in (inT_2 _ (List.mem_of_getElem? (i := 234) (by decide +kernel))) (by decide +kernel))⟩
theorem kX4_73 : okV RX4 73 mX4_degree 4 1 := ⟨M_X4_degree, (gt_in (inT_2 _ (List.mem_of_getElem? (i := 231) (by decide +kernel))) (by decide +kernel)), S_X4_degree, ⟨TX4, 5, rfl⟩, Or.inl (gt_in (inT_2 _ (List.mem_of_getElem? (i := 230) (by decide +kernel))) (by decide +kernel))⟩
theorem kX4_76 : okS RX4 76 mX11_priceBy 4 := ⟨M_X11_priceBy, (gt_in (inT_3 _ (List.mem_of_getElem? (i := 1) (by decide +kernel))) (by decide +kernel)), Or.inr ⟨"LinesTouched", inT_3 _ (List.mem_of_getElem? (i := 0) (by decide +kernel))⟩⟩
theorem kX4_80 : okV RX4 80 mX4_price 4 1 := ⟨M_X4_price, (gt_in (inT_2 _ (List.mem_of_getElem? (i := 227) (by decide +kernel))) (by decide +kernel)), S_X4_price, ⟨TX4, 5, rfl⟩, Or.inl (gt_in (inT_3 _ (List.mem_of_getElem? (i := 51) (by decide +kernel))) (by decide +kernel))⟩
theorem kX4_83 : okV RX4 83 mX4_joined 4 2 := ⟨M_X4_joined, (gt_in (inT_2 _ (List.mem_of_getElem? (i := 213) (by decide +kernel))) (by decide +kernel)), S_X4_joined, ⟨TX4, 5, rfl⟩, Or.inl (gt_in (inT_4 _ (List.mem_of_getElem? (i := 124) (by decide +kernel))) (by decide +kernel))⟩
theorem kX4_86 : okMin RX4 86 := ⟨(gt_in (inT_4 _ (List.mem_of_getElem? (i := 125) (by decide +kernel))) (by decide +kernel)), (gt_in (inT_3 _ (List.mem_of_getElem? (i := 190) (by decide +kernel))) (by decide +kernel)), (gt_in (inT_1 _ (List.mem_of_getElem? (i := 15) (by decide +kernel))) (by decide +kernel)), (gt_in (inT_3 _ (List.mem_of_getElem? (i := 191) (by decide +kernel))) (by decide +kernel))⟩
theorem kX4_91 : okS RX4 91 mX11_within 3 := ⟨M_X11_within, (gt_in (inT_2 _ (List.mem_of_getElem? (i := 191) (by decide +kernel))) (by decide +kernel)), Or.inr ⟨"LinesTouched", inT_5 _ (List.mem_of_getElem? (i := 143) (by decide +kernel))⟩⟩
theorem kX5_22 : okV RX5 22 mX4_all 4 0 := ⟨M_X4_all, (gt_in (inT_3 _ (List.mem_of_getElem? (i := 32) (by decide +kernel))) (by decide +kernel)), S_X4_all, ⟨TX4, 5, rfl⟩, Or.inl (gt_in (inT_4 _ (List.mem_of_getElem? (i := 19) (by decide +kernel))) (by decide +kernel))⟩
theorem kX5_31 : okV RX5 31 mX5_bestOf 5 2 := ⟨M_X5_bestOf, (gt_in (inT_4 _ (List.mem_of_getElem? (i := 22) (by decide +kernel))) (by decide +kernel)), S_X5_bestOf, ⟨TX5, 3, rfl⟩, Or.inl (gt_in (inT_4 _ (List.mem_of_getElem? (i := 20) (by decide +kernel))) (by decide +kernel))⟩
theorem kX5_35 : okS RX5 35 mJ6_numberOfTrailingZeros_0f7a4 1 := ⟨M_J6_numberOfTrailingZeros_0f7a4, (gt_in (inT_3 _ (List.mem_of_getElem? (i := 66) (by decide +kernel))) (by decide +kernel)), Or.inl (gt_in (inT_4 _ (List.mem_of_getElem? (i := 24) (by decide +kernel))) (by decide +kernel))⟩
theorem kX5_41 : okMax RX5 41 := ⟨(gt_in (inT_4 _ (List.mem_of_getElem? (i := 25) (by decide +kernel))) (by decide +kernel)), (gt_in (inT_3 _ (List.mem_of_getElem? (i := 4) (by decide +kernel))) (by decide +kernel)), (gt_in (inT_1 _ (List.mem_of_getElem? (i := 15) (by decide +kernel))) (by decide +kernel)), (gt_in (inT_3 _ (List.mem_of_getElem? (i := 5) (by decide +kernel))) (by decide +kernel))⟩
theorem kX5_47 : okV RX5 47 mX4_hasAll 4 1 := ⟨M_X4_hasAll, (gt_in (inT_3 _ (List.mem_of_getElem? (i := 28) (by decide +kernel))) (by decide +kernel)), S_X4_hasAll, ⟨TX4, 5, rfl⟩, Or.inl (gt_in (inT_4 _ (List.mem_of_getElem? (i := 42) (by decide +kernel))) (by decide +kernel))⟩
theorem kX5_51 : okS RX5 51 mJ6_bitCount_0f7a4 1 := ⟨M_J6_bitCount_0f7a4, (gt_in (inT_2 _ (List.mem_of_getElem? (i := 235) (by decide +kernel))) (by decide +kernel)), Or.inl (gt_in (inT_4 _ (List.mem_of_getElem? (i := 43) (by decide +kernel))) (by decide +kernel))⟩
theorem kX5_54 : okS RX5 54 mX11_within 3 := ⟨M_X11_within, (gt_in (inT_2 _ (List.mem_of_getElem? (i := 191) (by decide +kernel))) (by decide +kernel)), Or.inr ⟨"LinesTouched", inT_4 _ (List.mem_of_getElem? (i := 44) (by decide +kernel))⟩⟩
theorem kX6_65 : okV RX6 65 mX4_all 4 0 := ⟨M_X4_all, (gt_in (inT_3 _ (List.mem_of_getElem? (i := 32) (by decide +kernel))) (by decide +kernel)), S_X4_all, ⟨TX4, 5, rfl⟩, Or.inl (gt_in (inT_4 _ (List.mem_of_getElem? (i := 53) (by decide +kernel))) (by decide +kernel))⟩
theorem kX6_69 : okV RX6 69 mX6_begins 6 5 := ⟨M_X6_begins, (gt_in (inT_4 _ (List.mem_of_getElem? (i := 56) (by decide +kernel))) (by decide +kernel)), S_X6_begins, ⟨TX6, 14, rfl⟩, Or.inl (gt_in (inT_4 _ (List.mem_of_getElem? (i := 54) (by decide +kernel))) (by decide +kernel))⟩
theorem kX6_73 : okV RX6 73 mX2_least 2 2 := ⟨M_X2_least, (gt_in (inT_3 _ (List.mem_of_getElem? (i := 127) (by decide +kernel))) (by decide +kernel)), S_X2_least, ⟨TX2, 8, rfl⟩, Or.inl (gt_in (inT_4 _ (List.mem_of_getElem? (i := 58) (by decide +kernel))) (by decide +kernel))⟩
theorem kX6_77 : okS RX6 77 mX4_busiest 2 := ⟨M_X4_busiest, (gt_in (inT_3 _ (List.mem_of_getElem? (i := 187) (by decide +kernel))) (by decide +kernel)), Or.inl (gt_in (inT_4 _ (List.mem_of_getElem? (i := 59) (by decide +kernel))) (by decide +kernel))⟩
theorem kX6_80 : okV RX6 80 mX6_keep 6 5 := ⟨M_X6_keep, (gt_in (inT_4 _ (List.mem_of_getElem? (i := 62) (by decide +kernel))) (by decide +kernel)), S_X6_keep, ⟨TX6, 14, rfl⟩, Or.inl (gt_in (inT_4 _ (List.mem_of_getElem? (i := 60) (by decide +kernel))) (by decide +kernel))⟩
theorem kX6_84 : okMax RX6 84 := ⟨(gt_in (inT_4 _ (List.mem_of_getElem? (i := 64) (by decide +kernel))) (by decide +kernel)), (gt_in (inT_3 _ (List.mem_of_getElem? (i := 4) (by decide +kernel))) (by decide +kernel)), (gt_in (inT_1 _ (List.mem_of_getElem? (i := 15) (by decide +kernel))) (by decide +kernel)), (gt_in (inT_3 _ (List.mem_of_getElem? (i := 5) (by decide +kernel))) (by decide +kernel))⟩
theorem kX6_90 : okS RX6 90 mJ6_bitCount_0f7a4 1 := ⟨M_J6_bitCount_0f7a4, (gt_in (inT_2 _ (List.mem_of_getElem? (i := 235) (by decide +kernel))) (by decide +kernel)), Or.inl (gt_in (inT_4 _ (List.mem_of_getElem? (i := 65) (by decide +kernel))) (by decide +kernel))⟩
theorem kX6_96 : okV RX6 96 mX6_readsRight 6 6 := ⟨M_X6_readsRight, (gt_in (inT_4 _ (List.mem_of_getElem? (i := 93) (by decide +kernel))) (by decide +kernel)), S_X6_readsRight, ⟨TX6, 14, rfl⟩, Or.inl (gt_in (inT_4 _ (List.mem_of_getElem? (i := 91) (by decide +kernel))) (by decide +kernel))⟩
theorem kX6_100 : okS RX6 100 mX11_within 3 := ⟨M_X11_within, (gt_in (inT_2 _ (List.mem_of_getElem? (i := 191) (by decide +kernel))) (by decide +kernel)), Or.inr ⟨"LinesTouched", inT_4 _ (List.mem_of_getElem? (i := 95) (by decide +kernel))⟩⟩
theorem kX7_23 : okS RX7 23 mJ7_fill_53178 2 := ⟨M_J7_fill_53178, (gt_in (inT_3 _ (List.mem_of_getElem? (i := 135) (by decide +kernel))) (by decide +kernel)), Or.inl (gt_in (inT_4 _ (List.mem_of_getElem? (i := 78) (by decide +kernel))) (by decide +kernel))⟩
theorem kX7_29 : okV RX7 29 mX7_has 7 1 := ⟨M_X7_has, (gt_in (inT_4 _ (List.mem_of_getElem? (i := 31) (by decide +kernel))) (by decide +kernel)), S_X7_has, ⟨TX7, 3, rfl⟩, Or.inl (gt_in (inT_5 _ (List.mem_of_getElem? (i := 116) (by decide +kernel))) (by decide +kernel))⟩
theorem kX7_33 : okV RX7 33 mX7_isMissing 7 1 := ⟨M_X7_isMissing, (gt_in (inT_4 _ (List.mem_of_getElem? (i := 35) (by decide +kernel))) (by decide +kernel)), S_X7_isMissing, ⟨TX7, 3, rfl⟩, Or.inl (gt_in (inT_5 _ (List.mem_of_getElem? (i := 117) (by decide +kernel))) (by decide +kernel))⟩
theorem kX9_28 : okV RX9 28 mX9_endOfToken 9 1 := ⟨M_X9_endOfToken, (gt_in (inT_4 _ (List.mem_of_getElem? (i := 157) (by decide +kernel))) (by decide +kernel)), S_X9_endOfToken, ⟨TX9, 4, rfl⟩, Or.inl (gt_in (inT_4 _ (List.mem_of_getElem? (i := 155) (by decide +kernel))) (by decide +kernel))⟩
theorem kX9_32 : okV RX9 32 mX9_behindToken 9 4 := ⟨M_X9_behindToken, (gt_in (inT_4 _ (List.mem_of_getElem? (i := 167) (by decide +kernel))) (by decide +kernel)), S_X9_behindToken, ⟨TX9, 4, rfl⟩, Or.inl (gt_in (inT_4 _ (List.mem_of_getElem? (i := 165) (by decide +kernel))) (by decide +kernel))⟩
theorem kX9_36 : okS RX9 36 mX9_isLetter 1 := ⟨M_X9_isLetter, (gt_in (inT_4 _ (List.mem_of_getElem? (i := 160) (by decide +kernel))) (by decide +kernel)), Or.inl (gt_in (inT_4 _ (List.mem_of_getElem? (i := 159) (by decide +kernel))) (by decide +kernel))⟩
theorem kX9_40 : okS RX9 40 mX9_isDigit 1 := ⟨M_X9_isDigit, (gt_in (inT_4 _ (List.mem_of_getElem? (i := 163) (by decide +kernel))) (by decide +kernel)), Or.inl (gt_in (inT_4 _ (List.mem_of_getElem? (i := 162) (by decide +kernel))) (by decide +kernel))⟩
theorem kX9_43 : okV RX9 43 mX9_behindOpening 9 2 := ⟨M_X9_behindOpening, (gt_in (inT_4 _ (List.mem_of_getElem? (i := 171) (by decide +kernel))) (by decide +kernel)), S_X9_behindOpening, ⟨TX9, 4, rfl⟩, Or.inl (gt_in (inT_4 _ (List.mem_of_getElem? (i := 169) (by decide +kernel))) (by decide +kernel))⟩
theorem kX9_47 : okV RX9 47 mX9_behindClosing 9 1 := ⟨M_X9_behindClosing, (gt_in (inT_4 _ (List.mem_of_getElem? (i := 179) (by decide +kernel))) (by decide +kernel)), S_X9_behindClosing, ⟨TX9, 4, rfl⟩, Or.inl (gt_in (inT_4 _ (List.mem_of_getElem? (i := 177) (by decide +kernel))) (by decide +kernel))⟩
theorem kX9_50 : okV RX9 50 mX9_kindOf 9 2 := ⟨M_X9_kindOf, (gt_in (inT_4 _ (List.mem_of_getElem? (i := 183) (by decide +kernel))) (by decide +kernel)), S_X9_kindOf, ⟨TX9, 4, rfl⟩, Or.inl (gt_in (inT_4 _ (List.mem_of_getElem? (i := 181) (by decide +kernel))) (by decide +kernel))⟩
theorem kX9_54 : okV RX9 54 mX10_lastIsOf 10 1 := ⟨M_X10_lastIsOf, (gt_in (inT_5 _ (List.mem_of_getElem? (i := 7) (by decide +kernel))) (by decide +kernel)), S_X10_lastIsOf, ⟨TX10, 9, rfl⟩, Or.inl (gt_in (inT_5 _ (List.mem_of_getElem? (i := 6) (by decide +kernel))) (by decide +kernel))⟩
theorem kX9_58 : okV RX9 58 mX10_lastWeighs 10 1 := ⟨M_X10_lastWeighs, (gt_in (inT_5 _ (List.mem_of_getElem? (i := 11) (by decide +kernel))) (by decide +kernel)), S_X10_lastWeighs, ⟨TX10, 9, rfl⟩, Or.inl (gt_in (inT_5 _ (List.mem_of_getElem? (i := 10) (by decide +kernel))) (by decide +kernel))⟩
theorem kX9_61 : okV RX9 61 mX10_add 10 1 := ⟨M_X10_add, (gt_in (inT_4 _ (List.mem_of_getElem? (i := 174) (by decide +kernel))) (by decide +kernel)), S_X10_add, ⟨TX10, 9, rfl⟩, Or.inl (gt_in (inT_4 _ (List.mem_of_getElem? (i := 173) (by decide +kernel))) (by decide +kernel))⟩
theorem kX9_64 : okS RX9 64 mX9_wordOf 1 := ⟨M_X9_wordOf, (gt_in (inT_4 _ (List.mem_of_getElem? (i := 186) (by decide +kernel))) (by decide +kernel)), Or.inl (gt_in (inT_4 _ (List.mem_of_getElem? (i := 185) (by decide +kernel))) (by decide +kernel))⟩
theorem kX9_68 : okV RX9 68 mX9_says 9 3 := ⟨M_X9_says, (gt_in (inT_4 _ (List.mem_of_getElem? (i := 196) (by decide +kernel))) (by decide +kernel)), S_X9_says, ⟨TX9, 4, rfl⟩, Or.inl (gt_in (inT_4 _ (List.mem_of_getElem? (i := 194) (by decide +kernel))) (by decide +kernel))⟩
theorem kX10_41 : okS RX10 41 mX11_priceBy 4 := ⟨M_X11_priceBy, (gt_in (inT_3 _ (List.mem_of_getElem? (i := 1) (by decide +kernel))) (by decide +kernel)), Or.inr ⟨"LinesTouched", inT_5 _ (List.mem_of_getElem? (i := 32) (by decide +kernel))⟩⟩
theorem kX10_45 : okS RX10 45 mJ13_bitCount_95d88 1 := ⟨M_J13_bitCount_95d88, (gt_in (inT_5 _ (List.mem_of_getElem? (i := 62) (by decide +kernel))) (by decide +kernel)), Or.inl (gt_in (inT_5 _ (List.mem_of_getElem? (i := 61) (by decide +kernel))) (by decide +kernel))⟩
theorem kX10_51 : okV RX10 51 mX10_sumUp 10 1 := ⟨M_X10_sumUp, (gt_in (inT_5 _ (List.mem_of_getElem? (i := 26) (by decide +kernel))) (by decide +kernel)), S_X10_sumUp, ⟨TX10, 9, rfl⟩, Or.inl (gt_in (inT_5 _ (List.mem_of_getElem? (i := 24) (by decide +kernel))) (by decide +kernel))⟩
theorem kX10_55 : okMin RX10 55 := ⟨(gt_in (inT_5 _ (List.mem_of_getElem? (i := 33) (by decide +kernel))) (by decide +kernel)), (gt_in (inT_3 _ (List.mem_of_getElem? (i := 190) (by decide +kernel))) (by decide +kernel)), (gt_in (inT_1 _ (List.mem_of_getElem? (i := 15) (by decide +kernel))) (by decide +kernel)), (gt_in (inT_3 _ (List.mem_of_getElem? (i := 191) (by decide +kernel))) (by decide +kernel))⟩
theorem kX10_61 : okV RX10 61 mX10_manyOf 10 2 := ⟨M_X10_manyOf, (gt_in (inT_5 _ (List.mem_of_getElem? (i := 36) (by decide +kernel))) (by decide +kernel)), S_X10_manyOf, ⟨TX10, 9, rfl⟩, Or.inl (gt_in (inT_5 _ (List.mem_of_getElem? (i := 34) (by decide +kernel))) (by decide +kernel))⟩
theorem kX10_65 : okV RX10 65 mX10_price 10 1 := ⟨M_X10_price, (gt_in (inT_5 _ (List.mem_of_getElem? (i := 29) (by decide +kernel))) (by decide +kernel)), S_X10_price, ⟨TX10, 9, rfl⟩, Or.inl (gt_in (inT_5 _ (List.mem_of_getElem? (i := 28) (by decide +kernel))) (by decide +kernel))⟩
theorem kX10_69 : okS RX10 69 mJ7_fill_d0a16 2 := ⟨M_J7_fill_d0a16, (gt_in (inT_5 _ (List.mem_of_getElem? (i := 47) (by decide +kernel))) (by decide +kernel)), Or.inl (gt_in (inT_5 _ (List.mem_of_getElem? (i := 46) (by decide +kernel))) (by decide +kernel))⟩
theorem kL_13 : okV RL 13 mX11_point 11 2 := ⟨M_X11_point, (gt_in (inT_2 _ (List.mem_of_getElem? (i := 184) (by decide +kernel))) (by decide +kernel)), S_X11_point, ⟨TX11, 17, rfl⟩, Or.inl (gt_in (inT_2 _ (List.mem_of_getElem? (i := 183) (by decide +kernel))) (by decide +kernel))⟩
theorem kL_17 : okV RL 17 mX12_point 12 2 := ⟨M_X12_point, (gt_in (inT_6 _ (List.mem_of_getElem? (i := 101) (by decide +kernel))) (by decide +kernel)), S_X12_point, ⟨TX12, 50, rfl⟩, Or.inl (gt_in (inT_6 _ (List.mem_of_getElem? (i := 100) (by decide +kernel))) (by decide +kernel))⟩
theorem kL_18 : okV RL 18 mX11_line 11 3 := ⟨M_X11_line, (gt_in (inT_2 _ (List.mem_of_getElem? (i := 201) (by decide +kernel))) (by decide +kernel)), S_X11_line, ⟨TX11, 17, rfl⟩, Or.inl (gt_in (inT_2 _ (List.mem_of_getElem? (i := 200) (by decide +kernel))) (by decide +kernel))⟩
theorem kL_22 : okV RL 22 mX12_line 12 3 := ⟨M_X12_line, (gt_in (inT_6 _ (List.mem_of_getElem? (i := 112) (by decide +kernel))) (by decide +kernel)), S_X12_line, ⟨TX12, 50, rfl⟩, Or.inl (gt_in (inT_6 _ (List.mem_of_getElem? (i := 111) (by decide +kernel))) (by decide +kernel))⟩
theorem kL_23 : okV RL 23 mX11_pointOf 11 2 := ⟨M_X11_pointOf, (gt_in (inT_2 _ (List.mem_of_getElem? (i := 222) (by decide +kernel))) (by decide +kernel)), S_X11_pointOf, ⟨TX11, 17, rfl⟩, Or.inl (gt_in (inT_2 _ (List.mem_of_getElem? (i := 221) (by decide +kernel))) (by decide +kernel))⟩
theorem kL_26 : okV RL 26 mX12_pointOf 12 2 := ⟨M_X12_pointOf, (gt_in (inT_6 _ (List.mem_of_getElem? (i := 128) (by decide +kernel))) (by decide +kernel)), S_X12_pointOf, ⟨TX12, 50, rfl⟩, Or.inl (gt_in (inT_6 _ (List.mem_of_getElem? (i := 127) (by decide +kernel))) (by decide +kernel))⟩
theorem kL_27 : okV RL 27 mX11_change 11 3 := ⟨M_X11_change, (gt_in (inT_3 _ (List.mem_of_getElem? (i := 8) (by decide +kernel))) (by decide +kernel)), S_X11_change, ⟨TX11, 17, rfl⟩, Or.inl (gt_in (inT_3 _ (List.mem_of_getElem? (i := 7) (by decide +kernel))) (by decide +kernel))⟩
theorem kL_30 : okV RL 30 mX12_change 12 3 := ⟨M_X12_change, (gt_in (inT_6 _ (List.mem_of_getElem? (i := 142) (by decide +kernel))) (by decide +kernel)), S_X12_change, ⟨TX12, 50, rfl⟩, Or.inl (gt_in (inT_6 _ (List.mem_of_getElem? (i := 141) (by decide +kernel))) (by decide +kernel))⟩
theorem kL_31 : okV RL 31 mX11_count 11 1 := ⟨M_X11_count, (gt_in (inT_3 _ (List.mem_of_getElem? (i := 12) (by decide +kernel))) (by decide +kernel)), S_X11_count, ⟨TX11, 17, rfl⟩, Or.inl (gt_in (inT_3 _ (List.mem_of_getElem? (i := 11) (by decide +kernel))) (by decide +kernel))⟩
theorem kL_35 : okV RL 35 mX12_count 12 1 := ⟨M_X12_count, (gt_in (inT_6 _ (List.mem_of_getElem? (i := 146) (by decide +kernel))) (by decide +kernel)), S_X12_count, ⟨TX12, 50, rfl⟩, Or.inl (gt_in (inT_6 _ (List.mem_of_getElem? (i := 145) (by decide +kernel))) (by decide +kernel))⟩
theorem kL_36 : okV RL 36 mX11_isCover 11 1 := ⟨M_X11_isCover, (gt_in (inT_3 _ (List.mem_of_getElem? (i := 24) (by decide +kernel))) (by decide +kernel)), S_X11_isCover, ⟨TX11, 17, rfl⟩, Or.inl (gt_in (inT_3 _ (List.mem_of_getElem? (i := 23) (by decide +kernel))) (by decide +kernel))⟩
theorem kL_39 : okV RL 39 mX12_isCover 12 1 := ⟨M_X12_isCover, (gt_in (inT_6 _ (List.mem_of_getElem? (i := 154) (by decide +kernel))) (by decide +kernel)), S_X12_isCover, ⟨TX12, 50, rfl⟩, Or.inl (gt_in (inT_6 _ (List.mem_of_getElem? (i := 153) (by decide +kernel))) (by decide +kernel))⟩
theorem kL_40 : okV RL 40 mX11_costOf 11 1 := ⟨M_X11_costOf, (gt_in (inT_3 _ (List.mem_of_getElem? (i := 44) (by decide +kernel))) (by decide +kernel)), S_X11_costOf, ⟨TX11, 17, rfl⟩, Or.inl (gt_in (inT_3 _ (List.mem_of_getElem? (i := 43) (by decide +kernel))) (by decide +kernel))⟩
theorem kL_43 : okV RL 43 mX12_costOf 12 1 := ⟨M_X12_costOf, (gt_in (inT_6 _ (List.mem_of_getElem? (i := 177) (by decide +kernel))) (by decide +kernel)), S_X12_costOf, ⟨TX12, 50, rfl⟩, Or.inl (gt_in (inT_6 _ (List.mem_of_getElem? (i := 176) (by decide +kernel))) (by decide +kernel))⟩
theorem kL_44 : okV RL 44 mX11_fewest 11 1 := ⟨M_X11_fewest, (gt_in (inT_3 _ (List.mem_of_getElem? (i := 53) (by decide +kernel))) (by decide +kernel)), S_X11_fewest, ⟨TX11, 17, rfl⟩, Or.inl (gt_in (inT_3 _ (List.mem_of_getElem? (i := 52) (by decide +kernel))) (by decide +kernel))⟩
theorem kL_47 : okV RL 47 mX12_fewest 12 1 := ⟨M_X12_fewest, (gt_in (inT_6 _ (List.mem_of_getElem? (i := 185) (by decide +kernel))) (by decide +kernel)), S_X12_fewest, ⟨TX12, 50, rfl⟩, Or.inl (gt_in (inT_6 _ (List.mem_of_getElem? (i := 184) (by decide +kernel))) (by decide +kernel))⟩
theorem kL_48 : okV RL 48 mX11_dear 11 1 := ⟨M_X11_dear, (gt_in (inT_3 _ (List.mem_of_getElem? (i := 80) (by decide +kernel))) (by decide +kernel)), S_X11_dear, ⟨TX11, 17, rfl⟩, Or.inl (gt_in (inT_3 _ (List.mem_of_getElem? (i := 79) (by decide +kernel))) (by decide +kernel))⟩
theorem kL_51 : okV RL 51 mX12_dear 12 1 := ⟨M_X12_dear, (gt_in (inT_6 _ (List.mem_of_getElem? (i := 193) (by decide +kernel))) (by decide +kernel)), S_X12_dear, ⟨TX12, 50, rfl⟩, Or.inl (gt_in (inT_6 _ (List.mem_of_getElem? (i := 192) (by decide +kernel))) (by decide +kernel))⟩
theorem kL_52 : okV RL 52 mX11_sized 11 1 := ⟨M_X11_sized, (gt_in (inT_3 _ (List.mem_of_getElem? (i := 94) (by decide +kernel))) (by decide +kernel)), S_X11_sized, ⟨TX11, 17, rfl⟩, Or.inl (gt_in (inT_3 _ (List.mem_of_getElem? (i := 93) (by decide +kernel))) (by decide +kernel))⟩
theorem kL_55 : okV RL 55 mX12_sized 12 1 := ⟨M_X12_sized, (gt_in (inT_6 _ (List.mem_of_getElem? (i := 198) (by decide +kernel))) (by decide +kernel)), S_X12_sized, ⟨TX12, 50, rfl⟩, Or.inl (gt_in (inT_6 _ (List.mem_of_getElem? (i := 197) (by decide +kernel))) (by decide +kernel))⟩
theorem kL_56 : okV RL 56 mX11_bare 11 1 := ⟨M_X11_bare, (gt_in (inT_3 _ (List.mem_of_getElem? (i := 102) (by decide +kernel))) (by decide +kernel)), S_X11_bare, ⟨TX11, 17, rfl⟩, Or.inl (gt_in (inT_3 _ (List.mem_of_getElem? (i := 101) (by decide +kernel))) (by decide +kernel))⟩
theorem kL_59 : okV RL 59 mX12_bare 12 1 := ⟨M_X12_bare, (gt_in (inT_6 _ (List.mem_of_getElem? (i := 202) (by decide +kernel))) (by decide +kernel)), S_X12_bare, ⟨TX12, 50, rfl⟩, Or.inl (gt_in (inT_6 _ (List.mem_of_getElem? (i := 201) (by decide +kernel))) (by decide +kernel))⟩
theorem kL_60 : okV RL 60 mX11_share 11 1 := ⟨M_X11_share, (gt_in (inT_3 _ (List.mem_of_getElem? (i := 110) (by decide +kernel))) (by decide +kernel)), S_X11_share, ⟨TX11, 17, rfl⟩, Or.inl (gt_in (inT_3 _ (List.mem_of_getElem? (i := 109) (by decide +kernel))) (by decide +kernel))⟩
theorem kL_64 : okV RL 64 mX12_share 12 1 := ⟨M_X12_share, (gt_in (inT_6 _ (List.mem_of_getElem? (i := 206) (by decide +kernel))) (by decide +kernel)), S_X12_share, ⟨TX12, 50, rfl⟩, Or.inl (gt_in (inT_6 _ (List.mem_of_getElem? (i := 205) (by decide +kernel))) (by decide +kernel))⟩
theorem kL_65 : okV RL 65 mX11_halves 11 1 := ⟨M_X11_halves, (gt_in (inT_3 _ (List.mem_of_getElem? (i := 119) (by decide +kernel))) (by decide +kernel)), S_X11_halves, ⟨TX11, 17, rfl⟩, Or.inl (gt_in (inT_3 _ (List.mem_of_getElem? (i := 118) (by decide +kernel))) (by decide +kernel))⟩
theorem kL_68 : okV RL 68 mX12_halves 12 1 := ⟨M_X12_halves, (gt_in (inT_6 _ (List.mem_of_getElem? (i := 214) (by decide +kernel))) (by decide +kernel)), S_X12_halves, ⟨TX12, 50, rfl⟩, Or.inl (gt_in (inT_6 _ (List.mem_of_getElem? (i := 213) (by decide +kernel))) (by decide +kernel))⟩
theorem kL_69 : okV RL 69 mX11_half 11 1 := ⟨M_X11_half, (gt_in (inT_3 _ (List.mem_of_getElem? (i := 153) (by decide +kernel))) (by decide +kernel)), S_X11_half, ⟨TX11, 17, rfl⟩, Or.inl (gt_in (inT_3 _ (List.mem_of_getElem? (i := 152) (by decide +kernel))) (by decide +kernel))⟩
theorem kL_72 : okV RL 72 mX12_half 12 1 := ⟨M_X12_half, (gt_in (inT_7 _ (List.mem_of_getElem? (i := 2) (by decide +kernel))) (by decide +kernel)), S_X12_half, ⟨TX12, 50, rfl⟩, Or.inl (gt_in (inT_7 _ (List.mem_of_getElem? (i := 1) (by decide +kernel))) (by decide +kernel))⟩
theorem kL_73 : okV RL 73 mX11_mayHave 11 1 := ⟨M_X11_mayHave, (gt_in (inT_3 _ (List.mem_of_getElem? (i := 157) (by decide +kernel))) (by decide +kernel)), S_X11_mayHave, ⟨TX11, 17, rfl⟩, Or.inl (gt_in (inT_3 _ (List.mem_of_getElem? (i := 156) (by decide +kernel))) (by decide +kernel))⟩
theorem kL_76 : okV RL 76 mX12_mayHave 12 1 := ⟨M_X12_mayHave, (gt_in (inT_7 _ (List.mem_of_getElem? (i := 6) (by decide +kernel))) (by decide +kernel)), S_X12_mayHave, ⟨TX12, 50, rfl⟩, Or.inl (gt_in (inT_7 _ (List.mem_of_getElem? (i := 5) (by decide +kernel))) (by decide +kernel))⟩
theorem kL_77 : okV RL 77 mX11_mate 11 1 := ⟨M_X11_mate, (gt_in (inT_3 _ (List.mem_of_getElem? (i := 165) (by decide +kernel))) (by decide +kernel)), S_X11_mate, ⟨TX11, 17, rfl⟩, Or.inl (gt_in (inT_3 _ (List.mem_of_getElem? (i := 164) (by decide +kernel))) (by decide +kernel))⟩
theorem kL_80 : okV RL 80 mX12_mate 12 1 := ⟨M_X12_mate, (gt_in (inT_7 _ (List.mem_of_getElem? (i := 10) (by decide +kernel))) (by decide +kernel)), S_X12_mate, ⟨TX12, 50, rfl⟩, Or.inl (gt_in (inT_7 _ (List.mem_of_getElem? (i := 9) (by decide +kernel))) (by decide +kernel))⟩
theorem kL_81 : okV RL 81 mX11_persists 11 0 := ⟨M_X11_persists, (gt_in (inT_3 _ (List.mem_of_getElem? (i := 177) (by decide +kernel))) (by decide +kernel)), S_X11_persists, ⟨TX11, 17, rfl⟩, Or.inl (gt_in (inT_3 _ (List.mem_of_getElem? (i := 176) (by decide +kernel))) (by decide +kernel))⟩
theorem kL_85 : okV RL 85 mX12_persists 12 0 := ⟨M_X12_persists, (gt_in (inT_7 _ (List.mem_of_getElem? (i := 21) (by decide +kernel))) (by decide +kernel)), S_X12_persists, ⟨TX12, 50, rfl⟩, Or.inl (gt_in (inT_7 _ (List.mem_of_getElem? (i := 20) (by decide +kernel))) (by decide +kernel))⟩
theorem kL_86 : okV RL 86 mX11_isCrown 11 1 := ⟨M_X11_isCrown, (gt_in (inT_3 _ (List.mem_of_getElem? (i := 193) (by decide +kernel))) (by decide +kernel)), S_X11_isCrown, ⟨TX11, 17, rfl⟩, Or.inl (gt_in (inT_3 _ (List.mem_of_getElem? (i := 192) (by decide +kernel))) (by decide +kernel))⟩
theorem kL_89 : okV RL 89 mX12_isCrown 12 1 := ⟨M_X12_isCrown, (gt_in (inT_7 _ (List.mem_of_getElem? (i := 25) (by decide +kernel))) (by decide +kernel)), S_X12_isCrown, ⟨TX12, 50, rfl⟩, Or.inl (gt_in (inT_7 _ (List.mem_of_getElem? (i := 24) (by decide +kernel))) (by decide +kernel))⟩
theorem kL_90 : okV RL 90 mX11_crowns 11 1 := ⟨M_X11_crowns, (gt_in (inT_3 _ (List.mem_of_getElem? (i := 206) (by decide +kernel))) (by decide +kernel)), S_X11_crowns, ⟨TX11, 17, rfl⟩, Or.inl (gt_in (inT_3 _ (List.mem_of_getElem? (i := 205) (by decide +kernel))) (by decide +kernel))⟩
theorem kL_93 : okV RL 93 mX12_crowns 12 1 := ⟨M_X12_crowns, (gt_in (inT_7 _ (List.mem_of_getElem? (i := 37) (by decide +kernel))) (by decide +kernel)), S_X12_crowns, ⟨TX12, 50, rfl⟩, Or.inl (gt_in (inT_7 _ (List.mem_of_getElem? (i := 36) (by decide +kernel))) (by decide +kernel))⟩
theorem kL_94 : okV RL 94 mX11_kernel 11 2 := ⟨M_X11_kernel, (gt_in (inT_3 _ (List.mem_of_getElem? (i := 217) (by decide +kernel))) (by decide +kernel)), S_X11_kernel, ⟨TX11, 17, rfl⟩, Or.inl (gt_in (inT_3 _ (List.mem_of_getElem? (i := 216) (by decide +kernel))) (by decide +kernel))⟩
theorem kL_97 : okV RL 97 mX12_kernel 12 2 := ⟨M_X12_kernel, (gt_in (inT_7 _ (List.mem_of_getElem? (i := 41) (by decide +kernel))) (by decide +kernel)), S_X12_kernel, ⟨TX12, 50, rfl⟩, Or.inl (gt_in (inT_7 _ (List.mem_of_getElem? (i := 40) (by decide +kernel))) (by decide +kernel))⟩
theorem kL_98 : okV RL 98 mX11_round 11 3 := ⟨M_X11_round, (gt_in (inT_4 _ (List.mem_of_getElem? (i := 8) (by decide +kernel))) (by decide +kernel)), S_X11_round, ⟨TX11, 17, rfl⟩, Or.inl (gt_in (inT_4 _ (List.mem_of_getElem? (i := 7) (by decide +kernel))) (by decide +kernel))⟩
theorem kL_101 : okV RL 101 mX12_round 12 3 := ⟨M_X12_round, (gt_in (inT_7 _ (List.mem_of_getElem? (i := 61) (by decide +kernel))) (by decide +kernel)), S_X12_round, ⟨TX12, 50, rfl⟩, Or.inl (gt_in (inT_7 _ (List.mem_of_getElem? (i := 60) (by decide +kernel))) (by decide +kernel))⟩
theorem kL_102 : okV RL 102 mX11_pack 11 1 := ⟨M_X11_pack, (gt_in (inT_4 _ (List.mem_of_getElem? (i := 12) (by decide +kernel))) (by decide +kernel)), S_X11_pack, ⟨TX11, 17, rfl⟩, Or.inl (gt_in (inT_4 _ (List.mem_of_getElem? (i := 11) (by decide +kernel))) (by decide +kernel))⟩
theorem kL_105 : okV RL 105 mX12_pack 12 1 := ⟨M_X12_pack, (gt_in (inT_7 _ (List.mem_of_getElem? (i := 65) (by decide +kernel))) (by decide +kernel)), S_X12_pack, ⟨TX12, 50, rfl⟩, Or.inl (gt_in (inT_7 _ (List.mem_of_getElem? (i := 64) (by decide +kernel))) (by decide +kernel))⟩
theorem kL_106 : okV RL 106 mX11_packs 11 1 := ⟨M_X11_packs, (gt_in (inT_4 _ (List.mem_of_getElem? (i := 27) (by decide +kernel))) (by decide +kernel)), S_X11_packs, ⟨TX11, 17, rfl⟩, Or.inl (gt_in (inT_4 _ (List.mem_of_getElem? (i := 26) (by decide +kernel))) (by decide +kernel))⟩
theorem kL_109 : okV RL 109 mX12_packs 12 1 := ⟨M_X12_packs, (gt_in (inT_7 _ (List.mem_of_getElem? (i := 73) (by decide +kernel))) (by decide +kernel)), S_X12_packs, ⟨TX12, 50, rfl⟩, Or.inl (gt_in (inT_7 _ (List.mem_of_getElem? (i := 72) (by decide +kernel))) (by decide +kernel))⟩
theorem kL_110 : okV RL 110 mX11_search 11 2 := ⟨M_X11_search, (gt_in (inT_4 _ (List.mem_of_getElem? (i := 46) (by decide +kernel))) (by decide +kernel)), S_X11_search, ⟨TX11, 17, rfl⟩, Or.inl (gt_in (inT_4 _ (List.mem_of_getElem? (i := 45) (by decide +kernel))) (by decide +kernel))⟩
theorem kL_113 : okV RL 113 mX12_search 12 2 := ⟨M_X12_search, (gt_in (inT_7 _ (List.mem_of_getElem? (i := 84) (by decide +kernel))) (by decide +kernel)), S_X12_search, ⟨TX12, 50, rfl⟩, Or.inl (gt_in (inT_7 _ (List.mem_of_getElem? (i := 83) (by decide +kernel))) (by decide +kernel))⟩
theorem kL_114 : okV RL 114 mX11_node 11 3 := ⟨M_X11_node, (gt_in (inT_4 _ (List.mem_of_getElem? (i := 67) (by decide +kernel))) (by decide +kernel)), S_X11_node, ⟨TX11, 17, rfl⟩, Or.inl (gt_in (inT_4 _ (List.mem_of_getElem? (i := 66) (by decide +kernel))) (by decide +kernel))⟩
theorem kL_117 : okV RL 117 mX12_node 12 3 := ⟨M_X12_node, (gt_in (inT_7 _ (List.mem_of_getElem? (i := 100) (by decide +kernel))) (by decide +kernel)), S_X12_node, ⟨TX12, 50, rfl⟩, Or.inl (gt_in (inT_7 _ (List.mem_of_getElem? (i := 99) (by decide +kernel))) (by decide +kernel))⟩
theorem kL_118 : okV RL 118 mX11_prove 11 2 := ⟨M_X11_prove, (gt_in (inT_4 _ (List.mem_of_getElem? (i := 71) (by decide +kernel))) (by decide +kernel)), S_X11_prove, ⟨TX11, 17, rfl⟩, Or.inl (gt_in (inT_4 _ (List.mem_of_getElem? (i := 70) (by decide +kernel))) (by decide +kernel))⟩
theorem kL_121 : okV RL 121 mX12_prove 12 2 := ⟨M_X12_prove, (gt_in (inT_7 _ (List.mem_of_getElem? (i := 104) (by decide +kernel))) (by decide +kernel)), S_X12_prove, ⟨TX12, 50, rfl⟩, Or.inl (gt_in (inT_7 _ (List.mem_of_getElem? (i := 103) (by decide +kernel))) (by decide +kernel))⟩
theorem kL_122 : okV RL 122 mX11_proves 11 2 := ⟨M_X11_proves, (gt_in (inT_4 _ (List.mem_of_getElem? (i := 84) (by decide +kernel))) (by decide +kernel)), S_X11_proves, ⟨TX11, 17, rfl⟩, Or.inl (gt_in (inT_4 _ (List.mem_of_getElem? (i := 83) (by decide +kernel))) (by decide +kernel))⟩
theorem kL_125 : okV RL 125 mX12_proves 12 2 := ⟨M_X12_proves, (gt_in (inT_7 _ (List.mem_of_getElem? (i := 108) (by decide +kernel))) (by decide +kernel)), S_X12_proves, ⟨TX12, 50, rfl⟩, Or.inl (gt_in (inT_7 _ (List.mem_of_getElem? (i := 107) (by decide +kernel))) (by decide +kernel))⟩
theorem kL_126 : okV RL 126 mX11_without 11 1 := ⟨M_X11_without, (gt_in (inT_4 _ (List.mem_of_getElem? (i := 97) (by decide +kernel))) (by decide +kernel)), S_X11_without, ⟨TX11, 17, rfl⟩, Or.inl (gt_in (inT_4 _ (List.mem_of_getElem? (i := 96) (by decide +kernel))) (by decide +kernel))⟩
theorem kL_129 : okV RL 129 mX12_without 12 1 := ⟨M_X12_without, (gt_in (inT_7 _ (List.mem_of_getElem? (i := 116) (by decide +kernel))) (by decide +kernel)), S_X12_without, ⟨TX12, 50, rfl⟩, Or.inl (gt_in (inT_7 _ (List.mem_of_getElem? (i := 115) (by decide +kernel))) (by decide +kernel))⟩
theorem kL_130 : okV RL 130 mX11_cut 11 1 := ⟨M_X11_cut, (gt_in (inT_4 _ (List.mem_of_getElem? (i := 101) (by decide +kernel))) (by decide +kernel)), S_X11_cut, ⟨TX11, 17, rfl⟩, Or.inl (gt_in (inT_4 _ (List.mem_of_getElem? (i := 100) (by decide +kernel))) (by decide +kernel))⟩
theorem kL_133 : okV RL 133 mX12_cut 12 1 := ⟨M_X12_cut, (gt_in (inT_7 _ (List.mem_of_getElem? (i := 120) (by decide +kernel))) (by decide +kernel)), S_X12_cut, ⟨TX12, 50, rfl⟩, Or.inl (gt_in (inT_7 _ (List.mem_of_getElem? (i := 119) (by decide +kernel))) (by decide +kernel))⟩
theorem kL_134 : okV RL 134 mX11_joins 11 1 := ⟨M_X11_joins, (gt_in (inT_4 _ (List.mem_of_getElem? (i := 112) (by decide +kernel))) (by decide +kernel)), S_X11_joins, ⟨TX11, 17, rfl⟩, Or.inl (gt_in (inT_4 _ (List.mem_of_getElem? (i := 111) (by decide +kernel))) (by decide +kernel))⟩
theorem kL_137 : okV RL 137 mX12_joins 12 1 := ⟨M_X12_joins, (gt_in (inT_7 _ (List.mem_of_getElem? (i := 128) (by decide +kernel))) (by decide +kernel)), S_X12_joins, ⟨TX12, 50, rfl⟩, Or.inl (gt_in (inT_7 _ (List.mem_of_getElem? (i := 127) (by decide +kernel))) (by decide +kernel))⟩
theorem kL_138 : okV RL 138 mX11_pays 11 1 := ⟨M_X11_pays, (gt_in (inT_4 _ (List.mem_of_getElem? (i := 117) (by decide +kernel))) (by decide +kernel)), S_X11_pays, ⟨TX11, 17, rfl⟩, Or.inl (gt_in (inT_4 _ (List.mem_of_getElem? (i := 116) (by decide +kernel))) (by decide +kernel))⟩
theorem kL_141 : okV RL 141 mX12_pays 12 1 := ⟨M_X12_pays, (gt_in (inT_7 _ (List.mem_of_getElem? (i := 132) (by decide +kernel))) (by decide +kernel)), S_X12_pays, ⟨TX12, 50, rfl⟩, Or.inl (gt_in (inT_7 _ (List.mem_of_getElem? (i := 131) (by decide +kernel))) (by decide +kernel))⟩
theorem kL_142 : okV RL 142 mX11_paid 11 2 := ⟨M_X11_paid, (gt_in (inT_4 _ (List.mem_of_getElem? (i := 131) (by decide +kernel))) (by decide +kernel)), S_X11_paid, ⟨TX11, 17, rfl⟩, Or.inl (gt_in (inT_4 _ (List.mem_of_getElem? (i := 130) (by decide +kernel))) (by decide +kernel))⟩
theorem kL_145 : okV RL 145 mX12_paid 12 2 := ⟨M_X12_paid, (gt_in (inT_7 _ (List.mem_of_getElem? (i := 140) (by decide +kernel))) (by decide +kernel)), S_X12_paid, ⟨TX12, 50, rfl⟩, Or.inl (gt_in (inT_7 _ (List.mem_of_getElem? (i := 139) (by decide +kernel))) (by decide +kernel))⟩
theorem kL_146 : okV RL 146 mX11_feed 11 2 := ⟨M_X11_feed, (gt_in (inT_4 _ (List.mem_of_getElem? (i := 136) (by decide +kernel))) (by decide +kernel)), S_X11_feed, ⟨TX11, 17, rfl⟩, Or.inl (gt_in (inT_4 _ (List.mem_of_getElem? (i := 135) (by decide +kernel))) (by decide +kernel))⟩
theorem kL_149 : okV RL 149 mX12_feed 12 2 := ⟨M_X12_feed, (gt_in (inT_7 _ (List.mem_of_getElem? (i := 144) (by decide +kernel))) (by decide +kernel)), S_X12_feed, ⟨TX12, 50, rfl⟩, Or.inl (gt_in (inT_7 _ (List.mem_of_getElem? (i := 143) (by decide +kernel))) (by decide +kernel))⟩
theorem kL_150 : okV RL 150 mX11_wipe 11 0 := ⟨M_X11_wipe, (gt_in (inT_4 _ (List.mem_of_getElem? (i := 144) (by decide +kernel))) (by decide +kernel)), S_X11_wipe, ⟨TX11, 17, rfl⟩, Or.inl (gt_in (inT_4 _ (List.mem_of_getElem? (i := 143) (by decide +kernel))) (by decide +kernel))⟩
theorem kL_153 : okV RL 153 mX12_wipe 12 0 := ⟨M_X12_wipe, (gt_in (inT_7 _ (List.mem_of_getElem? (i := 148) (by decide +kernel))) (by decide +kernel)), S_X12_wipe, ⟨TX12, 50, rfl⟩, Or.inl (gt_in (inT_7 _ (List.mem_of_getElem? (i := 147) (by decide +kernel))) (by decide +kernel))⟩
theorem kL_154 : okV RL 154 mX11_text 11 0 := ⟨M_X11_text, (gt_in (inT_4 _ (List.mem_of_getElem? (i := 148) (by decide +kernel))) (by decide +kernel)), S_X11_text, ⟨TX11, 17, rfl⟩, Or.inl (gt_in (inT_4 _ (List.mem_of_getElem? (i := 147) (by decide +kernel))) (by decide +kernel))⟩
theorem kL_157 : okV RL 157 mX12_text 12 0 := ⟨M_X12_text, (gt_in (inT_7 _ (List.mem_of_getElem? (i := 152) (by decide +kernel))) (by decide +kernel)), S_X12_text, ⟨TX12, 50, rfl⟩, Or.inl (gt_in (inT_7 _ (List.mem_of_getElem? (i := 151) (by decide +kernel))) (by decide +kernel))⟩
theorem kL_158 : okV RL 158 mX11_tree 11 1 := ⟨M_X11_tree, (gt_in (inT_5 _ (List.mem_of_getElem? (i := 16) (by decide +kernel))) (by decide +kernel)), S_X11_tree, ⟨TX11, 17, rfl⟩, Or.inl (gt_in (inT_5 _ (List.mem_of_getElem? (i := 15) (by decide +kernel))) (by decide +kernel))⟩
theorem kL_161 : okV RL 161 mX12_tree 12 1 := ⟨M_X12_tree, (gt_in (inT_7 _ (List.mem_of_getElem? (i := 172) (by decide +kernel))) (by decide +kernel)), S_X12_tree, ⟨TX12, 50, rfl⟩, Or.inl (gt_in (inT_7 _ (List.mem_of_getElem? (i := 171) (by decide +kernel))) (by decide +kernel))⟩
theorem kL_162 : okV RL 162 mX11_treeOf 11 2 := ⟨M_X11_treeOf, (gt_in (inT_5 _ (List.mem_of_getElem? (i := 50) (by decide +kernel))) (by decide +kernel)), S_X11_treeOf, ⟨TX11, 17, rfl⟩, Or.inl (gt_in (inT_5 _ (List.mem_of_getElem? (i := 49) (by decide +kernel))) (by decide +kernel))⟩
theorem kL_165 : okV RL 165 mX12_treeOf 12 2 := ⟨M_X12_treeOf, (gt_in (inT_7 _ (List.mem_of_getElem? (i := 193) (by decide +kernel))) (by decide +kernel)), S_X12_treeOf, ⟨TX12, 50, rfl⟩, Or.inl (gt_in (inT_7 _ (List.mem_of_getElem? (i := 192) (by decide +kernel))) (by decide +kernel))⟩
theorem kL_166 : okV RL 166 mX11_plant 11 0 := ⟨M_X11_plant, (gt_in (inT_5 _ (List.mem_of_getElem? (i := 73) (by decide +kernel))) (by decide +kernel)), S_X11_plant, ⟨TX11, 17, rfl⟩, Or.inl (gt_in (inT_5 _ (List.mem_of_getElem? (i := 72) (by decide +kernel))) (by decide +kernel))⟩
theorem kL_169 : okV RL 169 mX12_plant 12 0 := ⟨M_X12_plant, (gt_in (inT_7 _ (List.mem_of_getElem? (i := 205) (by decide +kernel))) (by decide +kernel)), S_X12_plant, ⟨TX12, 50, rfl⟩, Or.inl (gt_in (inT_7 _ (List.mem_of_getElem? (i := 204) (by decide +kernel))) (by decide +kernel))⟩
theorem kL_170 : okV RL 170 mX11_seed 11 1 := ⟨M_X11_seed, (gt_in (inT_5 _ (List.mem_of_getElem? (i := 82) (by decide +kernel))) (by decide +kernel)), S_X11_seed, ⟨TX11, 17, rfl⟩, Or.inl (gt_in (inT_5 _ (List.mem_of_getElem? (i := 81) (by decide +kernel))) (by decide +kernel))⟩
theorem kL_173 : okV RL 173 mX12_seed 12 1 := ⟨M_X12_seed, (gt_in (inT_7 _ (List.mem_of_getElem? (i := 209) (by decide +kernel))) (by decide +kernel)), S_X12_seed, ⟨TX12, 50, rfl⟩, Or.inl (gt_in (inT_7 _ (List.mem_of_getElem? (i := 208) (by decide +kernel))) (by decide +kernel))⟩
theorem kL_174 : okV RL 174 mX11_deal 11 2 := ⟨M_X11_deal, (gt_in (inT_5 _ (List.mem_of_getElem? (i := 86) (by decide +kernel))) (by decide +kernel)), S_X11_deal, ⟨TX11, 17, rfl⟩, Or.inl (gt_in (inT_5 _ (List.mem_of_getElem? (i := 85) (by decide +kernel))) (by decide +kernel))⟩
theorem kL_177 : okV RL 177 mX12_deal 12 2 := ⟨M_X12_deal, (gt_in (inT_7 _ (List.mem_of_getElem? (i := 213) (by decide +kernel))) (by decide +kernel)), S_X12_deal, ⟨TX12, 50, rfl⟩, Or.inl (gt_in (inT_7 _ (List.mem_of_getElem? (i := 212) (by decide +kernel))) (by decide +kernel))⟩
theorem kL_178 : okV RL 178 mX11_times 11 4 := ⟨M_X11_times, (gt_in (inT_5 _ (List.mem_of_getElem? (i := 101) (by decide +kernel))) (by decide +kernel)), S_X11_times, ⟨TX11, 17, rfl⟩, Or.inl (gt_in (inT_5 _ (List.mem_of_getElem? (i := 100) (by decide +kernel))) (by decide +kernel))⟩
theorem kL_182 : okV RL 182 mX12_times 12 4 := ⟨M_X12_times, (gt_in (inT_7 _ (List.mem_of_getElem? (i := 226) (by decide +kernel))) (by decide +kernel)), S_X12_times, ⟨TX12, 50, rfl⟩, Or.inl (gt_in (inT_7 _ (List.mem_of_getElem? (i := 225) (by decide +kernel))) (by decide +kernel))⟩
theorem kL_183 : okV RL 183 mX11_sheet 11 3 := ⟨M_X11_sheet, (gt_in (inT_5 _ (List.mem_of_getElem? (i := 105) (by decide +kernel))) (by decide +kernel)), S_X11_sheet, ⟨TX11, 17, rfl⟩, Or.inl (gt_in (inT_5 _ (List.mem_of_getElem? (i := 104) (by decide +kernel))) (by decide +kernel))⟩
theorem kL_186 : okV RL 186 mX12_sheet 12 3 := ⟨M_X12_sheet, (gt_in (inT_7 _ (List.mem_of_getElem? (i := 238) (by decide +kernel))) (by decide +kernel)), S_X12_sheet, ⟨TX12, 50, rfl⟩, Or.inl (gt_in (inT_7 _ (List.mem_of_getElem? (i := 237) (by decide +kernel))) (by decide +kernel))⟩
theorem kL_187 : okV RL 187 mX11_write 11 3 := ⟨M_X11_write, (gt_in (inT_5 _ (List.mem_of_getElem? (i := 109) (by decide +kernel))) (by decide +kernel)), S_X11_write, ⟨TX11, 17, rfl⟩, Or.inl (gt_in (inT_5 _ (List.mem_of_getElem? (i := 108) (by decide +kernel))) (by decide +kernel))⟩
theorem kL_190 : okV RL 190 mX12_write 12 3 := ⟨M_X12_write, (gt_in (inT_8 _ (List.mem_of_getElem? (i := 2) (by decide +kernel))) (by decide +kernel)), S_X12_write, ⟨TX12, 50, rfl⟩, Or.inl (gt_in (inT_8 _ (List.mem_of_getElem? (i := 1) (by decide +kernel))) (by decide +kernel))⟩
theorem kL_191 : okV RL 191 mX11_item 11 2 := ⟨M_X11_item, (gt_in (inT_5 _ (List.mem_of_getElem? (i := 119) (by decide +kernel))) (by decide +kernel)), S_X11_item, ⟨TX11, 17, rfl⟩, Or.inl (gt_in (inT_5 _ (List.mem_of_getElem? (i := 118) (by decide +kernel))) (by decide +kernel))⟩
theorem kL_194 : okV RL 194 mX12_item 12 2 := ⟨M_X12_item, (gt_in (inT_8 _ (List.mem_of_getElem? (i := 10) (by decide +kernel))) (by decide +kernel)), S_X12_item, ⟨TX12, 50, rfl⟩, Or.inl (gt_in (inT_8 _ (List.mem_of_getElem? (i := 9) (by decide +kernel))) (by decide +kernel))⟩
theorem kL_195 : okV RL 195 mX11_copy 11 5 := ⟨M_X11_copy, (gt_in (inT_5 _ (List.mem_of_getElem? (i := 123) (by decide +kernel))) (by decide +kernel)), S_X11_copy, ⟨TX11, 17, rfl⟩, Or.inl (gt_in (inT_5 _ (List.mem_of_getElem? (i := 122) (by decide +kernel))) (by decide +kernel))⟩
theorem kL_199 : okV RL 199 mX12_copy 12 5 := ⟨M_X12_copy, (gt_in (inT_8 _ (List.mem_of_getElem? (i := 14) (by decide +kernel))) (by decide +kernel)), S_X12_copy, ⟨TX12, 50, rfl⟩, Or.inl (gt_in (inT_8 _ (List.mem_of_getElem? (i := 13) (by decide +kernel))) (by decide +kernel))⟩
theorem kL_200 : okV RL 200 mX11_load 11 1 := ⟨M_X11_load, (gt_in (inT_5 _ (List.mem_of_getElem? (i := 132) (by decide +kernel))) (by decide +kernel)), S_X11_load, ⟨TX11, 17, rfl⟩, Or.inl (gt_in (inT_5 _ (List.mem_of_getElem? (i := 131) (by decide +kernel))) (by decide +kernel))⟩
theorem kL_203 : okV RL 203 mX12_load 12 1 := ⟨M_X12_load, (gt_in (inT_8 _ (List.mem_of_getElem? (i := 18) (by decide +kernel))) (by decide +kernel)), S_X12_load, ⟨TX12, 50, rfl⟩, Or.inl (gt_in (inT_8 _ (List.mem_of_getElem? (i := 17) (by decide +kernel))) (by decide +kernel))⟩
theorem kL_204 : okV RL 204 mX11_judge 11 1 := ⟨M_X11_judge, (gt_in (inT_5 _ (List.mem_of_getElem? (i := 136) (by decide +kernel))) (by decide +kernel)), S_X11_judge, ⟨TX11, 17, rfl⟩, Or.inl (gt_in (inT_5 _ (List.mem_of_getElem? (i := 135) (by decide +kernel))) (by decide +kernel))⟩
theorem kL_207 : okV RL 207 mX12_judge 12 1 := ⟨M_X12_judge, (gt_in (inT_8 _ (List.mem_of_getElem? (i := 22) (by decide +kernel))) (by decide +kernel)), S_X12_judge, ⟨TX12, 50, rfl⟩, Or.inl (gt_in (inT_8 _ (List.mem_of_getElem? (i := 21) (by decide +kernel))) (by decide +kernel))⟩
theorem kL_208 : okV RL 208 mX11_shelf 11 3 := ⟨M_X11_shelf, (gt_in (inT_5 _ (List.mem_of_getElem? (i := 146) (by decide +kernel))) (by decide +kernel)), S_X11_shelf, ⟨TX11, 17, rfl⟩, Or.inl (gt_in (inT_5 _ (List.mem_of_getElem? (i := 145) (by decide +kernel))) (by decide +kernel))⟩
theorem kL_211 : okV RL 211 mX12_shelf 12 3 := ⟨M_X12_shelf, (gt_in (inT_8 _ (List.mem_of_getElem? (i := 26) (by decide +kernel))) (by decide +kernel)), S_X12_shelf, ⟨TX12, 50, rfl⟩, Or.inl (gt_in (inT_8 _ (List.mem_of_getElem? (i := 25) (by decide +kernel))) (by decide +kernel))⟩
theorem kL_212 : okV RL 212 mX11_taken 11 2 := ⟨M_X11_taken, (gt_in (inT_5 _ (List.mem_of_getElem? (i := 166) (by decide +kernel))) (by decide +kernel)), S_X11_taken, ⟨TX11, 17, rfl⟩, Or.inl (gt_in (inT_5 _ (List.mem_of_getElem? (i := 165) (by decide +kernel))) (by decide +kernel))⟩
theorem kL_215 : okV RL 215 mX12_taken 12 2 := ⟨M_X12_taken, (gt_in (inT_8 _ (List.mem_of_getElem? (i := 33) (by decide +kernel))) (by decide +kernel)), S_X12_taken, ⟨TX12, 50, rfl⟩, Or.inl (gt_in (inT_8 _ (List.mem_of_getElem? (i := 32) (by decide +kernel))) (by decide +kernel))⟩
theorem kL_216 : okV RL 216 mX11_image 11 0 := ⟨M_X11_image, (gt_in (inT_5 _ (List.mem_of_getElem? (i := 175) (by decide +kernel))) (by decide +kernel)), S_X11_image, ⟨TX11, 17, rfl⟩, Or.inl (gt_in (inT_5 _ (List.mem_of_getElem? (i := 174) (by decide +kernel))) (by decide +kernel))⟩
theorem kL_219 : okV RL 219 mX12_image 12 0 := ⟨M_X12_image, (gt_in (inT_8 _ (List.mem_of_getElem? (i := 40) (by decide +kernel))) (by decide +kernel)), S_X12_image, ⟨TX12, 50, rfl⟩, Or.inl (gt_in (inT_8 _ (List.mem_of_getElem? (i := 39) (by decide +kernel))) (by decide +kernel))⟩
theorem kL_220 : okV RL 220 mX11_back 11 0 := ⟨M_X11_back, (gt_in (inT_5 _ (List.mem_of_getElem? (i := 179) (by decide +kernel))) (by decide +kernel)), S_X11_back, ⟨TX11, 17, rfl⟩, Or.inl (gt_in (inT_5 _ (List.mem_of_getElem? (i := 178) (by decide +kernel))) (by decide +kernel))⟩
theorem kL_223 : okV RL 223 mX12_back 12 0 := ⟨M_X12_back, (gt_in (inT_8 _ (List.mem_of_getElem? (i := 44) (by decide +kernel))) (by decide +kernel)), S_X12_back, ⟨TX12, 50, rfl⟩, Or.inl (gt_in (inT_8 _ (List.mem_of_getElem? (i := 43) (by decide +kernel))) (by decide +kernel))⟩
theorem kX12_118 : okS RX12 118 mX12_has 2 := ⟨M_X12_has, (gt_in (inT_6 _ (List.mem_of_getElem? (i := 174) (by decide +kernel))) (by decide +kernel)), Or.inl (gt_in (inT_6 _ (List.mem_of_getElem? (i := 173) (by decide +kernel))) (by decide +kernel))⟩
theorem kX12_125 : okS RX12 125 mX12_in 3 := ⟨M_X12_in, (gt_in (inT_6 _ (List.mem_of_getElem? (i := 105) (by decide +kernel))) (by decide +kernel)), Or.inl (gt_in (inT_6 _ (List.mem_of_getElem? (i := 104) (by decide +kernel))) (by decide +kernel))⟩
theorem kX12_129 : okV RX12 129 mX12_all 12 0 := ⟨M_X12_all, (gt_in (inT_6 _ (List.mem_of_getElem? (i := 163) (by decide +kernel))) (by decide +kernel)), S_X12_all, ⟨TX12, 50, rfl⟩, Or.inl (gt_in (inT_6 _ (List.mem_of_getElem? (i := 161) (by decide +kernel))) (by decide +kernel))⟩
theorem kX12_133 : okS RX12 133 mX12_bits 1 := ⟨M_X12_bits, (gt_in (inT_6 _ (List.mem_of_getElem? (i := 136) (by decide +kernel))) (by decide +kernel)), Or.inl (gt_in (inT_6 _ (List.mem_of_getElem? (i := 135) (by decide +kernel))) (by decide +kernel))⟩
theorem kX12_137 : okS RX12 137 mX12_cost 4 := ⟨M_X12_cost, (gt_in (inT_6 _ (List.mem_of_getElem? (i := 139) (by decide +kernel))) (by decide +kernel)), Or.inl (gt_in (inT_6 _ (List.mem_of_getElem? (i := 138) (by decide +kernel))) (by decide +kernel))⟩
theorem kX12_141 : okV RX12 141 mX12_comes 12 2 := ⟨M_X12_comes, (gt_in (inT_6 _ (List.mem_of_getElem? (i := 109) (by decide +kernel))) (by decide +kernel)), S_X12_comes, ⟨TX12, 50, rfl⟩, Or.inl (gt_in (inT_6 _ (List.mem_of_getElem? (i := 107) (by decide +kernel))) (by decide +kernel))⟩
theorem kX12_145 : okV RX12 145 mX12_isPoint 12 1 := ⟨M_X12_isPoint, (gt_in (inT_6 _ (List.mem_of_getElem? (i := 121) (by decide +kernel))) (by decide +kernel)), S_X12_isPoint, ⟨TX12, 50, rfl⟩, Or.inl (gt_in (inT_6 _ (List.mem_of_getElem? (i := 119) (by decide +kernel))) (by decide +kernel))⟩
theorem kX12_149 : okV RX12 149 mX12_areTwo 12 2 := ⟨M_X12_areTwo, (gt_in (inT_6 _ (List.mem_of_getElem? (i := 117) (by decide +kernel))) (by decide +kernel)), S_X12_areTwo, ⟨TX12, 50, rfl⟩, Or.inl (gt_in (inT_6 _ (List.mem_of_getElem? (i := 115) (by decide +kernel))) (by decide +kernel))⟩
theorem kX12_152 : okV RX12 152 mX12_lays 12 3 := ⟨M_X12_lays, (gt_in (inT_6 _ (List.mem_of_getElem? (i := 125) (by decide +kernel))) (by decide +kernel)), S_X12_lays, ⟨TX12, 50, rfl⟩, Or.inl (gt_in (inT_6 _ (List.mem_of_getElem? (i := 123) (by decide +kernel))) (by decide +kernel))⟩
theorem kX12_156 : okV RX12 156 mX12_costAt 12 1 := ⟨M_X12_costAt, (gt_in (inT_6 _ (List.mem_of_getElem? (i := 133) (by decide +kernel))) (by decide +kernel)), S_X12_costAt, ⟨TX12, 50, rfl⟩, Or.inl (gt_in (inT_6 _ (List.mem_of_getElem? (i := 131) (by decide +kernel))) (by decide +kernel))⟩
theorem kX12_159 : okV RX12 159 mX12_lineMany 12 0 := ⟨M_X12_lineMany, (gt_in (inT_6 _ (List.mem_of_getElem? (i := 151) (by decide +kernel))) (by decide +kernel)), S_X12_lineMany, ⟨TX12, 50, rfl⟩, Or.inl (gt_in (inT_6 _ (List.mem_of_getElem? (i := 149) (by decide +kernel))) (by decide +kernel))⟩
theorem kX12_168 : okV RX12 168 mX12_covers 12 1 := ⟨M_X12_covers, (gt_in (inT_6 _ (List.mem_of_getElem? (i := 171) (by decide +kernel))) (by decide +kernel)), S_X12_covers, ⟨TX12, 50, rfl⟩, Or.inl (gt_in (inT_6 _ (List.mem_of_getElem? (i := 169) (by decide +kernel))) (by decide +kernel))⟩
theorem kX12_171 : okV RX12 171 mX12_isSet 12 1 := ⟨M_X12_isSet, (gt_in (inT_6 _ (List.mem_of_getElem? (i := 159) (by decide +kernel))) (by decide +kernel)), S_X12_isSet, ⟨TX12, 50, rfl⟩, Or.inl (gt_in (inT_6 _ (List.mem_of_getElem? (i := 157) (by decide +kernel))) (by decide +kernel))⟩
theorem kX12_174 : okV RX12 174 mX12_isBare 12 1 := ⟨M_X12_isBare, (gt_in (inT_6 _ (List.mem_of_getElem? (i := 167) (by decide +kernel))) (by decide +kernel)), S_X12_isBare, ⟨TX12, 50, rfl⟩, Or.inl (gt_in (inT_6 _ (List.mem_of_getElem? (i := 165) (by decide +kernel))) (by decide +kernel))⟩
theorem kX12_177 : okV RX12 177 mX12_costs 12 1 := ⟨M_X12_costs, (gt_in (inT_6 _ (List.mem_of_getElem? (i := 182) (by decide +kernel))) (by decide +kernel)), S_X12_costs, ⟨TX12, 50, rfl⟩, Or.inl (gt_in (inT_6 _ (List.mem_of_getElem? (i := 180) (by decide +kernel))) (by decide +kernel))⟩
theorem kX12_180 : okV RX12 180 mX12_least 12 0 := ⟨M_X12_least, (gt_in (inT_6 _ (List.mem_of_getElem? (i := 190) (by decide +kernel))) (by decide +kernel)), S_X12_least, ⟨TX12, 50, rfl⟩, Or.inl (gt_in (inT_6 _ (List.mem_of_getElem? (i := 188) (by decide +kernel))) (by decide +kernel))⟩
theorem kX12_186 : okS RX12 186 mX12_gcd 2 := ⟨M_X12_gcd, (gt_in (inT_6 _ (List.mem_of_getElem? (i := 211) (by decide +kernel))) (by decide +kernel)), Or.inl (gt_in (inT_6 _ (List.mem_of_getElem? (i := 210) (by decide +kernel))) (by decide +kernel))⟩
theorem kX12_193 : okV RX12 193 mX12_pairs 12 2 := ⟨M_X12_pairs, (gt_in (inT_6 _ (List.mem_of_getElem? (i := 227) (by decide +kernel))) (by decide +kernel)), S_X12_pairs, ⟨TX12, 50, rfl⟩, Or.inl (gt_in (inT_6 _ (List.mem_of_getElem? (i := 225) (by decide +kernel))) (by decide +kernel))⟩
theorem kX12_196 : okV RX12 196 mX12_gives 12 5 := ⟨M_X12_gives, (gt_in (inT_6 _ (List.mem_of_getElem? (i := 231) (by decide +kernel))) (by decide +kernel)), S_X12_gives, ⟨TX12, 50, rfl⟩, Or.inl (gt_in (inT_6 _ (List.mem_of_getElem? (i := 229) (by decide +kernel))) (by decide +kernel))⟩
theorem kX12_200 : okV RX12 200 mX12_mayGet 12 3 := ⟨M_X12_mayGet, (gt_in (inT_6 _ (List.mem_of_getElem? (i := 235) (by decide +kernel))) (by decide +kernel)), S_X12_mayGet, ⟨TX12, 50, rfl⟩, Or.inl (gt_in (inT_6 _ (List.mem_of_getElem? (i := 233) (by decide +kernel))) (by decide +kernel))⟩
theorem kX12_203 : okV RX12 203 mX12_leastHalves 12 1 := ⟨M_X12_leastHalves, (gt_in (inT_6 _ (List.mem_of_getElem? (i := 223) (by decide +kernel))) (by decide +kernel)), S_X12_leastHalves, ⟨TX12, 50, rfl⟩, Or.inl (gt_in (inT_6 _ (List.mem_of_getElem? (i := 221) (by decide +kernel))) (by decide +kernel))⟩
theorem kX12_206 : okV RX12 206 mX12_laysHalves 12 1 := ⟨M_X12_laysHalves, (gt_in (inT_6 _ (List.mem_of_getElem? (i := 219) (by decide +kernel))) (by decide +kernel)), S_X12_laysHalves, ⟨TX12, 50, rfl⟩, Or.inl (gt_in (inT_6 _ (List.mem_of_getElem? (i := 217) (by decide +kernel))) (by decide +kernel))⟩
theorem kX12_209 : okV RX12 209 mX12_halvesWith 12 2 := ⟨M_X12_halvesWith, (gt_in (inT_6 _ (List.mem_of_getElem? (i := 239) (by decide +kernel))) (by decide +kernel)), S_X12_halvesWith, ⟨TX12, 50, rfl⟩, Or.inl (gt_in (inT_6 _ (List.mem_of_getElem? (i := 237) (by decide +kernel))) (by decide +kernel))⟩
theorem kX12_213 : okS RX12 213 mX12_first 1 := ⟨M_X12_first, (gt_in (inT_7 _ (List.mem_of_getElem? (i := 18) (by decide +kernel))) (by decide +kernel)), Or.inl (gt_in (inT_7 _ (List.mem_of_getElem? (i := 17) (by decide +kernel))) (by decide +kernel))⟩
theorem kX12_216 : okV RX12 216 mX12_pairsAll 12 2 := ⟨M_X12_pairsAll, (gt_in (inT_7 _ (List.mem_of_getElem? (i := 15) (by decide +kernel))) (by decide +kernel)), S_X12_pairsAll, ⟨TX12, 50, rfl⟩, Or.inl (gt_in (inT_7 _ (List.mem_of_getElem? (i := 13) (by decide +kernel))) (by decide +kernel))⟩
theorem kX12_219 : okV RX12 219 mX12_nextTo 12 1 := ⟨M_X12_nextTo, (gt_in (inT_7 _ (List.mem_of_getElem? (i := 30) (by decide +kernel))) (by decide +kernel)), S_X12_nextTo, ⟨TX12, 50, rfl⟩, Or.inl (gt_in (inT_7 _ (List.mem_of_getElem? (i := 28) (by decide +kernel))) (by decide +kernel))⟩
theorem kX12_222 : okV RX12 222 mX12_isHeaded 12 2 := ⟨M_X12_isHeaded, (gt_in (inT_7 _ (List.mem_of_getElem? (i := 34) (by decide +kernel))) (by decide +kernel)), S_X12_isHeaded, ⟨TX12, 50, rfl⟩, Or.inl (gt_in (inT_7 _ (List.mem_of_getElem? (i := 32) (by decide +kernel))) (by decide +kernel))⟩
theorem kX12_228 : okV RX12 228 mX12_degree 12 2 := ⟨M_X12_degree, (gt_in (inT_7 _ (List.mem_of_getElem? (i := 54) (by decide +kernel))) (by decide +kernel)), S_X12_degree, ⟨TX12, 50, rfl⟩, Or.inl (gt_in (inT_7 _ (List.mem_of_getElem? (i := 52) (by decide +kernel))) (by decide +kernel))⟩
theorem kX12_234 : okV RX12 234 mX12_rule 12 3 := ⟨M_X12_rule, (gt_in (inT_7 _ (List.mem_of_getElem? (i := 58) (by decide +kernel))) (by decide +kernel)), S_X12_rule, ⟨TX12, 50, rfl⟩, Or.inl (gt_in (inT_7 _ (List.mem_of_getElem? (i := 56) (by decide +kernel))) (by decide +kernel))⟩
theorem kX12_243 : okV RX12 243 mX12_rules 12 0 := ⟨M_X12_rules, (gt_in (inT_7 _ (List.mem_of_getElem? (i := 50) (by decide +kernel))) (by decide +kernel)), S_X12_rules, ⟨TX12, 50, rfl⟩, Or.inl (gt_in (inT_7 _ (List.mem_of_getElem? (i := 48) (by decide +kernel))) (by decide +kernel))⟩
theorem kX12_247 : okV RX12 247 mX12_kernels 12 2 := ⟨M_X12_kernels, (gt_in (inT_7 _ (List.mem_of_getElem? (i := 46) (by decide +kernel))) (by decide +kernel)), S_X12_kernels, ⟨TX12, 50, rfl⟩, Or.inl (gt_in (inT_7 _ (List.mem_of_getElem? (i := 44) (by decide +kernel))) (by decide +kernel))⟩
theorem kX12_250 : okV RX12 250 mX12_packsTo 12 3 := ⟨M_X12_packsTo, (gt_in (inT_7 _ (List.mem_of_getElem? (i := 70) (by decide +kernel))) (by decide +kernel)), S_X12_packsTo, ⟨TX12, 50, rfl⟩, Or.inl (gt_in (inT_7 _ (List.mem_of_getElem? (i := 68) (by decide +kernel))) (by decide +kernel))⟩
theorem kX12_253 : okS RX12 253 mX12_isSheet 1 := ⟨M_X12_isSheet, (gt_in (inT_7 _ (List.mem_of_getElem? (i := 77) (by decide +kernel))) (by decide +kernel)), Or.inl (gt_in (inT_7 _ (List.mem_of_getElem? (i := 76) (by decide +kernel))) (by decide +kernel))⟩
theorem kX12_256 : okV RX12 256 mX12_isPacked 12 1 := ⟨M_X12_isPacked, (gt_in (inT_7 _ (List.mem_of_getElem? (i := 81) (by decide +kernel))) (by decide +kernel)), S_X12_isPacked, ⟨TX12, 50, rfl⟩, Or.inl (gt_in (inT_7 _ (List.mem_of_getElem? (i := 79) (by decide +kernel))) (by decide +kernel))⟩
theorem kX12_265 : okV RX12 265 mX12_branch 12 1 := ⟨M_X12_branch, (gt_in (inT_7 _ (List.mem_of_getElem? (i := 97) (by decide +kernel))) (by decide +kernel)), S_X12_branch, ⟨TX12, 50, rfl⟩, Or.inl (gt_in (inT_7 _ (List.mem_of_getElem? (i := 95) (by decide +kernel))) (by decide +kernel))⟩
theorem kX12_274 : okV RX12 274 mX12_searches 12 4 := ⟨M_X12_searches, (gt_in (inT_7 _ (List.mem_of_getElem? (i := 93) (by decide +kernel))) (by decide +kernel)), S_X12_searches, ⟨TX12, 50, rfl⟩, Or.inl (gt_in (inT_7 _ (List.mem_of_getElem? (i := 91) (by decide +kernel))) (by decide +kernel))⟩
theorem kX12_277 : okV RX12 277 mX12_searchFor 12 2 := ⟨M_X12_searchFor, (gt_in (inT_7 _ (List.mem_of_getElem? (i := 89) (by decide +kernel))) (by decide +kernel)), S_X12_searchFor, ⟨TX12, 50, rfl⟩, Or.inl (gt_in (inT_7 _ (List.mem_of_getElem? (i := 87) (by decide +kernel))) (by decide +kernel))⟩
theorem kX12_283 : okV RX12 283 mX12_isTold 12 4 := ⟨M_X12_isTold, (gt_in (inT_7 _ (List.mem_of_getElem? (i := 113) (by decide +kernel))) (by decide +kernel)), S_X12_isTold, ⟨TX12, 50, rfl⟩, Or.inl (gt_in (inT_7 _ (List.mem_of_getElem? (i := 111) (by decide +kernel))) (by decide +kernel))⟩
theorem kX12_287 : okV RX12 287 mX12_turning 12 3 := ⟨M_X12_turning, (gt_in (inT_7 _ (List.mem_of_getElem? (i := 125) (by decide +kernel))) (by decide +kernel)), S_X12_turning, ⟨TX12, 50, rfl⟩, Or.inl (gt_in (inT_7 _ (List.mem_of_getElem? (i := 123) (by decide +kernel))) (by decide +kernel))⟩
theorem kX12_291 : okV RX12 291 mX12_payments 12 2 := ⟨M_X12_payments, (gt_in (inT_7 _ (List.mem_of_getElem? (i := 137) (by decide +kernel))) (by decide +kernel)), S_X12_payments, ⟨TX12, 50, rfl⟩, Or.inl (gt_in (inT_7 _ (List.mem_of_getElem? (i := 135) (by decide +kernel))) (by decide +kernel))⟩
theorem kX12_294 : okV RX12 294 mX12_isWord 12 8 := ⟨M_X12_isWord, (gt_in (inT_7 _ (List.mem_of_getElem? (i := 169) (by decide +kernel))) (by decide +kernel)), S_X12_isWord, ⟨TX12, 50, rfl⟩, Or.inl (gt_in (inT_7 _ (List.mem_of_getElem? (i := 167) (by decide +kernel))) (by decide +kernel))⟩
theorem kX12_301 : okV RX12 301 mX12_isFrom 12 3 := ⟨M_X12_isFrom, (gt_in (inT_7 _ (List.mem_of_getElem? (i := 161) (by decide +kernel))) (by decide +kernel)), S_X12_isFrom, ⟨TX12, 50, rfl⟩, Or.inl (gt_in (inT_7 _ (List.mem_of_getElem? (i := 159) (by decide +kernel))) (by decide +kernel))⟩
theorem kX12_304 : okV RX12 304 mX12_kindOf 12 2 := ⟨M_X12_kindOf, (gt_in (inT_7 _ (List.mem_of_getElem? (i := 165) (by decide +kernel))) (by decide +kernel)), S_X12_kindOf, ⟨TX12, 50, rfl⟩, Or.inl (gt_in (inT_7 _ (List.mem_of_getElem? (i := 163) (by decide +kernel))) (by decide +kernel))⟩
theorem kX12_307 : okV RX12 307 mX12_faultOf 12 0 := ⟨M_X12_faultOf, (gt_in (inT_7 _ (List.mem_of_getElem? (i := 157) (by decide +kernel))) (by decide +kernel)), S_X12_faultOf, ⟨TX12, 50, rfl⟩, Or.inl (gt_in (inT_7 _ (List.mem_of_getElem? (i := 155) (by decide +kernel))) (by decide +kernel))⟩
theorem kX12_310 : okV RX12 310 mX12_linesIn 12 1 := ⟨M_X12_linesIn, (gt_in (inT_7 _ (List.mem_of_getElem? (i := 190) (by decide +kernel))) (by decide +kernel)), S_X12_linesIn, ⟨TX12, 50, rfl⟩, Or.inl (gt_in (inT_7 _ (List.mem_of_getElem? (i := 188) (by decide +kernel))) (by decide +kernel))⟩
theorem kX12_313 : okV RX12 313 mX12_costIn 12 1 := ⟨M_X12_costIn, (gt_in (inT_7 _ (List.mem_of_getElem? (i := 186) (by decide +kernel))) (by decide +kernel)), S_X12_costIn, ⟨TX12, 50, rfl⟩, Or.inl (gt_in (inT_7 _ (List.mem_of_getElem? (i := 184) (by decide +kernel))) (by decide +kernel))⟩
theorem kX12_318 : okV RX12 318 mX12_bareOnes 12 0 := ⟨M_X12_bareOnes, (gt_in (inT_7 _ (List.mem_of_getElem? (i := 178) (by decide +kernel))) (by decide +kernel)), S_X12_bareOnes, ⟨TX12, 50, rfl⟩, Or.inl (gt_in (inT_7 _ (List.mem_of_getElem? (i := 176) (by decide +kernel))) (by decide +kernel))⟩
theorem kX12_322 : okV RX12 322 mX12_counts 12 1 := ⟨M_X12_counts, (gt_in (inT_7 _ (List.mem_of_getElem? (i := 182) (by decide +kernel))) (by decide +kernel)), S_X12_counts, ⟨TX12, 50, rfl⟩, Or.inl (gt_in (inT_7 _ (List.mem_of_getElem? (i := 180) (by decide +kernel))) (by decide +kernel))⟩
theorem kX12_326 : okV RX12 326 mX12_isUnder 12 2 := ⟨M_X12_isUnder, (gt_in (inT_7 _ (List.mem_of_getElem? (i := 198) (by decide +kernel))) (by decide +kernel)), S_X12_isUnder, ⟨TX12, 50, rfl⟩, Or.inl (gt_in (inT_7 _ (List.mem_of_getElem? (i := 196) (by decide +kernel))) (by decide +kernel))⟩
theorem kX12_329 : okV RX12 329 mX12_isMarked 12 1 := ⟨M_X12_isMarked, (gt_in (inT_7 _ (List.mem_of_getElem? (i := 202) (by decide +kernel))) (by decide +kernel)), S_X12_isMarked, ⟨TX12, 50, rfl⟩, Or.inl (gt_in (inT_7 _ (List.mem_of_getElem? (i := 200) (by decide +kernel))) (by decide +kernel))⟩
theorem kX12_333 : okV RX12 333 mX12_draw 12 0 := ⟨M_X12_draw, (gt_in (inT_7 _ (List.mem_of_getElem? (i := 222) (by decide +kernel))) (by decide +kernel)), S_X12_draw, ⟨TX12, 50, rfl⟩, Or.inl (gt_in (inT_7 _ (List.mem_of_getElem? (i := 220) (by decide +kernel))) (by decide +kernel))⟩
theorem kX12_336 : okV RX12 336 mX12_deals 12 2 := ⟨M_X12_deals, (gt_in (inT_7 _ (List.mem_of_getElem? (i := 218) (by decide +kernel))) (by decide +kernel)), S_X12_deals, ⟨TX12, 50, rfl⟩, Or.inl (gt_in (inT_7 _ (List.mem_of_getElem? (i := 216) (by decide +kernel))) (by decide +kernel))⟩
theorem kX12_339 : okV RX12 339 mX12_keeps 12 1 := ⟨M_X12_keeps, (gt_in (inT_7 _ (List.mem_of_getElem? (i := 231) (by decide +kernel))) (by decide +kernel)), S_X12_keeps, ⟨TX12, 50, rfl⟩, Or.inl (gt_in (inT_7 _ (List.mem_of_getElem? (i := 229) (by decide +kernel))) (by decide +kernel))⟩
theorem kX12_343 : okV RX12 343 mX12_putsBack 12 1 := ⟨M_X12_putsBack, (gt_in (inT_7 _ (List.mem_of_getElem? (i := 235) (by decide +kernel))) (by decide +kernel)), S_X12_putsBack, ⟨TX12, 50, rfl⟩, Or.inl (gt_in (inT_7 _ (List.mem_of_getElem? (i := 233) (by decide +kernel))) (by decide +kernel))⟩
theorem kX12_346 : okV RX12 346 mX12_wrongAt 12 2 := ⟨M_X12_wrongAt, (gt_in (inT_8 _ (List.mem_of_getElem? (i := 7) (by decide +kernel))) (by decide +kernel)), S_X12_wrongAt, ⟨TX12, 50, rfl⟩, Or.inl (gt_in (inT_8 _ (List.mem_of_getElem? (i := 5) (by decide +kernel))) (by decide +kernel))⟩
theorem kX12_349 : okS RX12 349 mX12_isShelf 1 := ⟨M_X12_isShelf, (gt_in (inT_8 _ (List.mem_of_getElem? (i := 30) (by decide +kernel))) (by decide +kernel)), Or.inl (gt_in (inT_8 _ (List.mem_of_getElem? (i := 29) (by decide +kernel))) (by decide +kernel))⟩
theorem kX12_352 : okS RX12 352 mX12_over 1 := ⟨M_X12_over, (gt_in (inT_8 _ (List.mem_of_getElem? (i := 37) (by decide +kernel))) (by decide +kernel)), Or.inl (gt_in (inT_8 _ (List.mem_of_getElem? (i := 36) (by decide +kernel))) (by decide +kernel))⟩
theorem kJ0_495 : okS RJ0 495 mJ1_charAt_3b067 2 := ⟨M_J1_charAt_3b067, (gt_in (inT_4 _ (List.mem_of_getElem? (i := 217) (by decide +kernel))) (by decide +kernel)), Or.inl (gt_in (inT_4 _ (List.mem_of_getElem? (i := 216) (by decide +kernel))) (by decide +kernel))⟩
theorem kJ0_498 : okS RJ0 498 mJ2_charAt_3b067 2 := ⟨M_J2_charAt_3b067, (gt_in (inT_4 _ (List.mem_of_getElem? (i := 228) (by decide +kernel))) (by decide +kernel)), Or.inl (gt_in (inT_4 _ (List.mem_of_getElem? (i := 227) (by decide +kernel))) (by decide +kernel))⟩
theorem kJ0_1059 : okS RJ0 1059 mJ3_checkIndex_8e157 3 := ⟨M_J3_checkIndex_8e157, (gt_in (inT_4 _ (List.mem_of_getElem? (i := 225) (by decide +kernel))) (by decide +kernel)), Or.inl (gt_in (inT_4 _ (List.mem_of_getElem? (i := 224) (by decide +kernel))) (by decide +kernel))⟩
theorem kJ1_9 : okS RJ1 9 mJ0_checkIndex_df160 2 := ⟨M_J0_checkIndex_df160, (gt_in (inT_4 _ (List.mem_of_getElem? (i := 220) (by decide +kernel))) (by decide +kernel)), Or.inl (gt_in (inT_4 _ (List.mem_of_getElem? (i := 219) (by decide +kernel))) (by decide +kernel))⟩
theorem kJ2_48 : okS RJ2 48 mJ2_length_9d52b 1 := ⟨M_J2_length_9d52b, (gt_in (inT_4 _ (List.mem_of_getElem? (i := 234) (by decide +kernel))) (by decide +kernel)), Or.inl (gt_in (inT_4 _ (List.mem_of_getElem? (i := 233) (by decide +kernel))) (by decide +kernel))⟩
theorem kJ2_67 : okS RJ2 67 mJ2_checkIndex_2214a 2 := ⟨M_J2_checkIndex_2214a, (gt_in (inT_4 _ (List.mem_of_getElem? (i := 231) (by decide +kernel))) (by decide +kernel)), Or.inl (gt_in (inT_4 _ (List.mem_of_getElem? (i := 230) (by decide +kernel))) (by decide +kernel))⟩
theorem kJ2_71 : okS RJ2 71 mJ2_getChar_3b067 2 := ⟨M_J2_getChar_3b067, (gt_in (inT_4 _ (List.mem_of_getElem? (i := 238) (by decide +kernel))) (by decide +kernel)), Or.inl (gt_in (inT_4 _ (List.mem_of_getElem? (i := 237) (by decide +kernel))) (by decide +kernel))⟩
theorem kJ2_414 : okS RJ2 414 mJ0_checkIndex_df160 2 := ⟨M_J0_checkIndex_df160, (gt_in (inT_4 _ (List.mem_of_getElem? (i := 220) (by decide +kernel))) (by decide +kernel)), Or.inl (gt_in (inT_4 _ (List.mem_of_getElem? (i := 236) (by decide +kernel))) (by decide +kernel))⟩
theorem q_0 : isO 0 11 := ⟨by decide, rfl, by decide⟩
theorem q_1 : isO 1 4 := ⟨by decide, rfl, by decide⟩
theorem q_2 : isA 2 12 := ⟨by decide, rfl, rfl⟩
theorem q_3 : isA 3 12 := ⟨by decide, rfl, rfl⟩
theorem q_4 : isA 4 12 := ⟨by decide, rfl, rfl⟩
theorem q_5 : isA 5 12 := ⟨by decide, rfl, rfl⟩
theorem q_6 : isO 6 4 := ⟨by decide, rfl, by decide⟩
theorem q_7 : isA 7 12 := ⟨by decide, rfl, rfl⟩
theorem q_8 : isA 8 12 := ⟨by decide, rfl, rfl⟩
theorem q_9 : isA 9 12 := ⟨by decide, rfl, rfl⟩
theorem q_10 : isA 10 12 := ⟨by decide, rfl, rfl⟩
theorem q_11 : isO 11 4 := ⟨by decide, rfl, by decide⟩
theorem q_12 : isA 12 12 := ⟨by decide, rfl, rfl⟩
theorem q_13 : isA 13 12 := ⟨by decide, rfl, rfl⟩
theorem q_14 : isA 14 12 := ⟨by decide, rfl, rfl⟩
theorem q_15 : isA 15 12 := ⟨by decide, rfl, rfl⟩
theorem q_16 : isO 16 2 := ⟨by decide, rfl, by decide⟩
theorem q_17 : isA 17 12 := ⟨by decide, rfl, rfl⟩
theorem q_18 : isA 18 12 := ⟨by decide, rfl, rfl⟩
theorem q_19 : isA 19 12 := ⟨by decide, rfl, rfl⟩
theorem q_20 : isA 20 12 := ⟨by decide, rfl, rfl⟩
theorem q_21 : isA 21 4096 := ⟨by decide, rfl, rfl⟩
theorem q_22 : isO 22 0 := ⟨by decide, rfl, by decide⟩
theorem q_23 : isA 23 12 := ⟨by decide, rfl, rfl⟩
theorem q_24 : isO 24 1 := ⟨by decide, rfl, by decide⟩
theorem q_25 : isO 25 3 := ⟨by decide, rfl, by decide⟩
theorem q_26 : isA 26 12 := ⟨by decide, rfl, rfl⟩
theorem q_27 : isA 27 12 := ⟨by decide, rfl, rfl⟩
theorem q_28 : isA 28 12 := ⟨by decide, rfl, rfl⟩
theorem q_29 : isO 29 2 := ⟨by decide, rfl, by decide⟩
theorem q_30 : isA 30 12 := ⟨by decide, rfl, rfl⟩
theorem q_31 : isA 31 12 := ⟨by decide, rfl, rfl⟩
theorem q_32 : isA 32 12 := ⟨by decide, rfl, rfl⟩
theorem q_33 : isA 33 12 := ⟨by decide, rfl, rfl⟩
theorem q_34 : isO 34 5 := ⟨by decide, rfl, by decide⟩
theorem q_35 : isO 35 6 := ⟨by decide, rfl, by decide⟩
theorem q_36 : isA 36 60 := ⟨by decide, rfl, rfl⟩
theorem q_37 : isO 37 2 := ⟨by decide, rfl, by decide⟩
theorem q_38 : isA 38 12 := ⟨by decide, rfl, rfl⟩
theorem q_39 : isA 39 12 := ⟨by decide, rfl, rfl⟩
theorem q_40 : isA 40 12 := ⟨by decide, rfl, rfl⟩
theorem q_41 : isA 41 12 := ⟨by decide, rfl, rfl⟩
theorem q_42 : isO 42 9 := ⟨by decide, rfl, by decide⟩
theorem q_43 : isA 43 200 := ⟨by decide, rfl, rfl⟩
theorem q_44 : isA 44 20 := ⟨by decide, rfl, rfl⟩
theorem q_45 : isO 45 7 := ⟨by decide, rfl, by decide⟩
theorem q_46 : isQ 46 4 := ⟨by decide, rfl, rfl⟩
theorem q_47 : isA 47 4 := ⟨by decide, rfl, rfl⟩
theorem q_48 : isA 48 4 := ⟨by decide, rfl, rfl⟩
theorem q_49 : isA 49 60 := ⟨by decide, rfl, rfl⟩
theorem q_50 : isA 50 60 := ⟨by decide, rfl, rfl⟩
theorem q_51 : isA 51 60 := ⟨by decide, rfl, rfl⟩
theorem q_52 : isA 52 60 := ⟨by decide, rfl, rfl⟩
theorem q_53 : isO 53 8 := ⟨by decide, rfl, by decide⟩
theorem q_54 : isA 54 4 := ⟨by decide, rfl, rfl⟩
theorem q_55 : isA 55 4 := ⟨by decide, rfl, rfl⟩
theorem q_56 : isA 56 4 := ⟨by decide, rfl, rfl⟩
theorem q_57 : isO 57 10 := ⟨by decide, rfl, by decide⟩
theorem q_58 : isA 58 60 := ⟨by decide, rfl, rfl⟩
theorem q_59 : isA 59 60 := ⟨by decide, rfl, rfl⟩
theorem q_60 : isA 60 60 := ⟨by decide, rfl, rfl⟩
theorem q_61 : isA 61 60 := ⟨by decide, rfl, rfl⟩
theorem q_62 : isA 62 60 := ⟨by decide, rfl, rfl⟩
theorem q_63 : isJ 63 60 := ⟨by decide, rfl, rfl⟩
theorem q_64 : isJ 64 60 := ⟨by decide, rfl, rfl⟩
theorem q_65 : isJ 65 60 := ⟨by decide, rfl, rfl⟩
theorem q_66 : isO 66 10 := ⟨by decide, rfl, by decide⟩
theorem q_67 : isA 67 60 := ⟨by decide, rfl, rfl⟩
theorem q_68 : isA 68 60 := ⟨by decide, rfl, rfl⟩
theorem q_69 : isA 69 60 := ⟨by decide, rfl, rfl⟩
theorem q_70 : isA 70 60 := ⟨by decide, rfl, rfl⟩
theorem q_71 : isA 71 60 := ⟨by decide, rfl, rfl⟩
theorem q_72 : isJ 72 60 := ⟨by decide, rfl, rfl⟩
theorem q_73 : isJ 73 60 := ⟨by decide, rfl, rfl⟩
theorem q_74 : isJ 74 60 := ⟨by decide, rfl, rfl⟩
theorem q_75 : isO 75 12 := ⟨by decide, rfl, by decide⟩
theorem q_76 : isA 76 12 := ⟨by decide, rfl, rfl⟩
theorem q_77 : isA 77 12 := ⟨by decide, rfl, rfl⟩
theorem q_78 : isA 78 12 := ⟨by decide, rfl, rfl⟩
theorem q_79 : isA 79 12 := ⟨by decide, rfl, rfl⟩
theorem q_80 : isA 80 12 := ⟨by decide, rfl, rfl⟩
theorem q_81 : isA 81 12 := ⟨by decide, rfl, rfl⟩
theorem q_82 : isA 82 3 := ⟨by decide, rfl, rfl⟩
theorem q_83 : isA 83 4096 := ⟨by decide, rfl, rfl⟩
theorem q_84 : isA 84 4096 := ⟨by decide, rfl, rfl⟩
theorem q_85 : isA 85 5 := ⟨by decide, rfl, rfl⟩
theorem q_86 : isA 86 60 := ⟨by decide, rfl, rfl⟩
theorem q_87 : isA 87 12 := ⟨by decide, rfl, rfl⟩
theorem q_88 : isA 88 200 := ⟨by decide, rfl, rfl⟩
theorem q_89 : isA 89 60 := ⟨by decide, rfl, rfl⟩
theorem q_90 : isA 90 60 := ⟨by decide, rfl, rfl⟩
theorem q_91 : isA 91 60 := ⟨by decide, rfl, rfl⟩
theorem q_92 : isA 92 60 := ⟨by decide, rfl, rfl⟩
theorem q_93 : isA 93 60 := ⟨by decide, rfl, rfl⟩
theorem q_94 : isA 94 60 := ⟨by decide, rfl, rfl⟩
theorem q_95 : isJ 95 60 := ⟨by decide, rfl, rfl⟩
theorem q_96 : isJ 96 60 := ⟨by decide, rfl, rfl⟩
theorem q_97 : isJ 97 60 := ⟨by decide, rfl, rfl⟩
theorem q_98 : isJ 98 60 := ⟨by decide, rfl, rfl⟩
theorem q_99 : isJ 99 60 := ⟨by decide, rfl, rfl⟩
theorem q_100 : isZ 100 60 := ⟨by decide, rfl, rfl⟩
theorem q_101 : isA 101 38 := ⟨by decide, rfl, rfl⟩
theorem q_102 : isA 102 38 := ⟨by decide, rfl, rfl⟩
theorem q_103 : isA 103 4 := ⟨by decide, rfl, rfl⟩
theorem q_104 : isA 104 4 := ⟨by decide, rfl, rfl⟩
theorem q_105 : isA 105 240 := ⟨by decide, rfl, rfl⟩
theorem q_106 : isA 106 4 := ⟨by decide, rfl, rfl⟩
theorem q_107 : isA 107 4 := ⟨by decide, rfl, rfl⟩
theorem q_108 : isA 108 4 := ⟨by decide, rfl, rfl⟩
theorem q_109 : isA 109 4 := ⟨by decide, rfl, rfl⟩
theorem r_0_0 (g : Bool) : rX g 0 0 = some 1 := rfl
theorem r_0_1 (g : Bool) : rX g 0 1 = some 6 := rfl
theorem r_0_2 (g : Bool) : rX g 0 2 = some 11 := rfl
theorem r_0_3 (g : Bool) : rX g 0 3 = some 16 := rfl
theorem r_0_4 (g : Bool) : rX g 0 4 = some 22 := rfl
theorem r_0_5 (g : Bool) : rX g 0 5 = some 24 := rfl
theorem r_0_6 (g : Bool) : rX g 0 6 = some 25 := rfl
theorem r_0_7 (g : Bool) : rX g 0 7 = some 34 := rfl
theorem r_0_8 (g : Bool) : rX g 0 8 = some 35 := rfl
theorem r_0_9 (g : Bool) : rX g 0 9 = some 42 := rfl
theorem r_0_10 (g : Bool) : rX g 0 10 = some 45 := rfl
theorem r_0_11 (g : Bool) : rX g 0 11 = some 53 := rfl
theorem r_1_0 (g : Bool) : rX g 1 0 = some 2 := rfl
theorem r_1_1 (g : Bool) : rX g 1 1 = some 3 := rfl
theorem r_1_2 (g : Bool) : rX g 1 2 = some 4 := rfl
theorem r_1_3 (g : Bool) : rX g 1 3 = some 5 := rfl
theorem r_6_0 (g : Bool) : rX g 6 0 = some 7 := rfl
theorem r_6_1 (g : Bool) : rX g 6 1 = some 8 := rfl
theorem r_6_2 (g : Bool) : rX g 6 2 = some 9 := rfl
theorem r_6_3 (g : Bool) : rX g 6 3 = some 10 := rfl
theorem r_11_0 (g : Bool) : rX g 11 0 = some 12 := rfl
theorem r_11_1 (g : Bool) : rX g 11 1 = some 13 := rfl
theorem r_11_2 (g : Bool) : rX g 11 2 = some 14 := rfl
theorem r_11_3 (g : Bool) : rX g 11 3 = some 15 := rfl
theorem r_16_0 (g : Bool) : rX g 16 0 = some 17 := rfl
theorem r_16_1 (g : Bool) : rX g 16 1 = some 18 := rfl
theorem r_16_2 (g : Bool) : rX g 16 2 = some 19 := rfl
theorem r_16_3 (g : Bool) : rX g 16 3 = some 20 := rfl
theorem r_22_0 (g : Bool) : rX g 22 0 = some 21 := rfl
theorem r_22_1 (g : Bool) : rX g 22 1 = some 23 := rfl
theorem r_25_0 (g : Bool) : rX g 25 0 = some 29 := rfl
theorem r_25_1 (g : Bool) : rX g 25 1 = some 26 := rfl
theorem r_25_2 (g : Bool) : rX g 25 2 = some 27 := rfl
theorem r_25_3 (g : Bool) : rX g 25 3 = some 28 := rfl
theorem r_29_0 (g : Bool) : rX g 29 0 = some 30 := rfl
theorem r_29_1 (g : Bool) : rX g 29 1 = some 31 := rfl
theorem r_29_2 (g : Bool) : rX g 29 2 = some 32 := rfl
theorem r_29_3 (g : Bool) : rX g 29 3 = some 33 := rfl
theorem r_34_0 (g : Bool) : rX g 34 0 = some 21 := rfl
theorem r_35_0 (g : Bool) : rX g 35 0 = some 37 := rfl
theorem r_35_1 (g : Bool) : rX g 35 1 = some 36 := rfl
theorem r_37_0 (g : Bool) : rX g 37 0 = some 38 := rfl
theorem r_37_1 (g : Bool) : rX g 37 1 = some 39 := rfl
theorem r_37_2 (g : Bool) : rX g 37 2 = some 40 := rfl
theorem r_37_3 (g : Bool) : rX g 37 3 = some 41 := rfl
theorem r_42_0 (g : Bool) : rX g 42 0 = some 43 := rfl
theorem r_42_1 (g : Bool) : rX g 42 1 = some 44 := rfl
theorem r_45_0 (g : Bool) : rX g 45 0 = some 46 := rfl
theorem r_45_1 (g : Bool) : rX g 45 1 = some 47 := rfl
theorem r_45_2 (g : Bool) : rX g 45 2 = some 48 := rfl
theorem r_46_0 (g : Bool) : rX g 46 0 = some 49 := rfl
theorem r_46_1 (g : Bool) : rX g 46 1 = some 50 := rfl
theorem r_46_2 (g : Bool) : rX g 46 2 = some 51 := rfl
theorem r_46_3 (g : Bool) : rX g 46 3 = some 52 := rfl
theorem r_53_0 (g : Bool) : rX g 53 0 = some 54 := rfl
theorem r_53_1 (g : Bool) : rX g 53 1 = some 55 := rfl
theorem r_53_2 (g : Bool) : rX g 53 2 = some 56 := rfl
theorem r_57_0 (g : Bool) : rX g 57 0 = some 58 := rfl
theorem r_57_1 (g : Bool) : rX g 57 1 = some 59 := rfl
theorem r_57_2 (g : Bool) : rX g 57 2 = some 60 := rfl
theorem r_57_3 (g : Bool) : rX g 57 3 = some 61 := rfl
theorem r_57_4 (g : Bool) : rX g 57 4 = some 62 := rfl
theorem r_57_5 (g : Bool) : rX g 57 5 = some 63 := rfl
theorem r_57_6 (g : Bool) : rX g 57 6 = some 64 := rfl
theorem r_57_7 (g : Bool) : rX g 57 7 = some 65 := rfl
theorem r_66_0 (g : Bool) : rX g 66 0 = some 67 := rfl
theorem r_66_1 (g : Bool) : rX g 66 1 = some 68 := rfl
theorem r_66_2 (g : Bool) : rX g 66 2 = some 69 := rfl
theorem r_66_3 (g : Bool) : rX g 66 3 = some 70 := rfl
theorem r_66_4 (g : Bool) : rX g 66 4 = some 71 := rfl
theorem r_66_5 (g : Bool) : rX g 66 5 = some 72 := rfl
theorem r_66_6 (g : Bool) : rX g 66 6 = some 73 := rfl
theorem r_66_7 (g : Bool) : rX g 66 7 = some 74 := rfl
theorem r_75_2 (g : Bool) : rX g 75 2 = some 76 := rfl
theorem r_75_3 (g : Bool) : rX g 75 3 = some 77 := rfl
theorem r_75_4 (g : Bool) : rX g 75 4 = some 78 := rfl
theorem r_75_5 (g : Bool) : rX g 75 5 = some 79 := rfl
theorem r_75_7 (g : Bool) : rX g 75 7 = some 80 := rfl
theorem r_75_8 (g : Bool) : rX g 75 8 = some 81 := rfl
theorem r_75_13 (g : Bool) : rX g 75 13 = some 82 := rfl
theorem r_75_14 (g : Bool) : rX g 75 14 = some 83 := rfl
theorem r_75_15 (g : Bool) : rX g 75 15 = some 84 := rfl
theorem r_75_20 (g : Bool) : rX g 75 20 = some 85 := rfl
theorem r_75_21 (g : Bool) : rX g 75 21 = some 86 := rfl
theorem r_75_23 (g : Bool) : rX g 75 23 = some 87 := rfl
theorem r_75_24 (g : Bool) : rX g 75 24 = some 88 := rfl
theorem r_75_27 (g : Bool) : rX g 75 27 = some 89 := rfl
theorem r_75_28 (g : Bool) : rX g 75 28 = some 90 := rfl
theorem r_75_29 (g : Bool) : rX g 75 29 = some 91 := rfl
theorem r_75_31 (g : Bool) : rX g 75 31 = some 92 := rfl
theorem r_75_32 (g : Bool) : rX g 75 32 = some 93 := rfl
theorem r_75_33 (g : Bool) : rX g 75 33 = some 94 := rfl
theorem r_75_34 (g : Bool) : rX g 75 34 = some 95 := rfl
theorem r_75_35 (g : Bool) : rX g 75 35 = some 96 := rfl
theorem r_75_36 (g : Bool) : rX g 75 36 = some 97 := rfl
theorem r_75_37 (g : Bool) : rX g 75 37 = some 98 := rfl
theorem r_75_38 (g : Bool) : rX g 75 38 = some 99 := rfl
theorem r_75_39 (g : Bool) : rX g 75 39 = some 100 := rfl
theorem r_75_40 (g : Bool) : rX g 75 40 = some 101 := rfl
theorem r_75_41 (g : Bool) : rX g 75 41 = some 102 := rfl
theorem r_75_43 (g : Bool) : rX g 75 43 = some 103 := rfl
theorem r_75_44 (g : Bool) : rX g 75 44 = some 104 := rfl
theorem r_75_45 (g : Bool) : rX g 75 45 = some 105 := rfl
theorem r_75_46 (g : Bool) : rX g 75 46 = some 106 := rfl
theorem r_75_47 (g : Bool) : rX g 75 47 = some 107 := rfl
theorem r_75_48 (g : Bool) : rX g 75 48 = some 108 := rfl
theorem r_75_49 (g : Bool) : rX g 75 49 = some 109 := rfl
theorem ci_m1 : Int32.ofInt (-1) = -1 := by decide
theorem ci_0 : Int32.ofInt (0) = 0 := by decide
theorem ci_1 : Int32.ofInt (1) = 1 := by decide
theorem ci_2 : Int32.ofInt (2) = 2 := by decide
theorem ci_3 : Int32.ofInt (3) = 3 := by decide
theorem ci_4 : Int32.ofInt (4) = 4 := by decide
theorem ci_5 : Int32.ofInt (5) = 5 := by decide
theorem ci_6 : Int32.ofInt (6) = 6 := by decide
theorem ci_8 : Int32.ofInt (8) = 8 := by decide
theorem ci_16 : Int32.ofInt (16) = 16 := by decide
theorem cb_m100 : (Int8.ofInt (-100)).toInt32 = -100 := by decide
theorem cb_m14 : (Int8.ofInt (-14)).toInt32 = -14 := by decide
theorem cb_m13 : (Int8.ofInt (-13)).toInt32 = -13 := by decide
theorem cb_m12 : (Int8.ofInt (-12)).toInt32 = -12 := by decide
theorem cb_m11 : (Int8.ofInt (-11)).toInt32 = -11 := by decide
theorem cb_m4 : (Int8.ofInt (-4)).toInt32 = -4 := by decide
theorem cb_m3 : (Int8.ofInt (-3)).toInt32 = -3 := by decide
theorem cb_m2 : (Int8.ofInt (-2)).toInt32 = -2 := by decide
theorem cb_6 : (Int8.ofInt (6)).toInt32 = 6 := by decide
theorem cb_8 : (Int8.ofInt (8)).toInt32 = 8 := by decide
theorem cb_9 : (Int8.ofInt (9)).toInt32 = 9 := by decide
theorem cb_10 : (Int8.ofInt (10)).toInt32 = 10 := by decide
theorem cb_11 : (Int8.ofInt (11)).toInt32 = 11 := by decide
theorem cb_12 : (Int8.ofInt (12)).toInt32 = 12 := by decide
theorem cb_13 : (Int8.ofInt (13)).toInt32 = 13 := by decide
theorem cb_16 : (Int8.ofInt (16)).toInt32 = 16 := by decide
theorem cb_20 : (Int8.ofInt (20)).toInt32 = 20 := by decide
theorem cb_32 : (Int8.ofInt (32)).toInt32 = 32 := by decide
theorem cb_38 : (Int8.ofInt (38)).toInt32 = 38 := by decide
theorem cb_40 : (Int8.ofInt (40)).toInt32 = 40 := by decide
theorem cb_41 : (Int8.ofInt (41)).toInt32 = 41 := by decide
theorem cb_48 : (Int8.ofInt (48)).toInt32 = 48 := by decide
theorem cb_57 : (Int8.ofInt (57)).toInt32 = 57 := by decide
theorem cb_60 : (Int8.ofInt (60)).toInt32 = 60 := by decide
theorem cb_63 : (Int8.ofInt (63)).toInt32 = 63 := by decide
theorem cb_97 : (Int8.ofInt (97)).toInt32 = 97 := by decide
theorem cb_98 : (Int8.ofInt (98)).toInt32 = 98 := by decide
theorem cb_99 : (Int8.ofInt (99)).toInt32 = 99 := by decide
theorem cb_100 : (Int8.ofInt (100)).toInt32 = 100 := by decide
theorem cb_101 : (Int8.ofInt (101)).toInt32 = 101 := by decide
theorem cb_103 : (Int8.ofInt (103)).toInt32 = 103 := by decide
theorem cb_105 : (Int8.ofInt (105)).toInt32 = 105 := by decide
theorem cb_107 : (Int8.ofInt (107)).toInt32 = 107 := by decide
theorem cb_108 : (Int8.ofInt (108)).toInt32 = 108 := by decide
theorem cb_110 : (Int8.ofInt (110)).toInt32 = 110 := by decide
theorem cb_111 : (Int8.ofInt (111)).toInt32 = 111 := by decide
theorem cb_112 : (Int8.ofInt (112)).toInt32 = 112 := by decide
theorem cb_114 : (Int8.ofInt (114)).toInt32 = 114 := by decide
theorem cb_116 : (Int8.ofInt (116)).toInt32 = 116 := by decide
theorem cb_117 : (Int8.ofInt (117)).toInt32 = 117 := by decide
theorem cb_119 : (Int8.ofInt (119)).toInt32 = 119 := by decide
theorem cb_122 : (Int8.ofInt (122)).toInt32 = 122 := by decide
theorem cb_127 : (Int8.ofInt (127)).toInt32 = 127 := by decide
theorem cs_200 : (Int16.ofInt (200)).toInt32 = 200 := by decide
theorem cs_240 : (Int16.ofInt (240)).toInt32 = 240 := by decide
theorem cs_255 : (Int16.ofInt (255)).toInt32 = 255 := by decide
theorem cs_256 : (Int16.ofInt (256)).toInt32 = 256 := by decide
theorem cs_4096 : (Int16.ofInt (4096)).toInt32 = 4096 := by decide
theorem cs_12345 : (Int16.ofInt (12345)).toInt32 = 12345 := by decide
