set_option maxRecDepth 100000 in
theorem vmX12_placeFour : Val mX12_placeFour := ⟨gw_8 (i := 32) rfl rfl, by decide +kernel⟩
set_option maxRecDepth 100000 in
theorem vmX12_night : Val mX12_night := ⟨gw_8 (i := 28) rfl rfl, by decide +kernel⟩
set_option maxRecDepth 100000 in
theorem vmX12_mayLodge : Val mX12_mayLodge := ⟨gw_8 (i := 41) rfl rfl, by decide +kernel⟩
set_option maxRecDepth 100000 in
theorem vmX12_lodger : Val mX12_lodger := ⟨gw_8 (i := 36) rfl rfl, by decide +kernel⟩
set_option maxRecDepth 100000 in
theorem vmX12_say : Val mX12_say := ⟨gw_8 (i := 45) rfl rfl, by decide +kernel⟩
set_option maxRecDepth 100000 in
theorem vmX12_known : Val mX12_known := ⟨gw_8 (i := 49) rfl rfl, by decide +kernel⟩
set_option maxRecDepth 100000 in
theorem vmX12_worth : Val mX12_worth := ⟨gw_8 (i := 53) rfl rfl, by decide +kernel⟩
set_option maxRecDepth 100000 in
theorem vmX12_gainIn : Val mX12_gainIn := ⟨gw_8 (i := 65) rfl rfl, by decide +kernel⟩
set_option maxRecDepth 100000 in
theorem vmX12_mayLive : Val mX12_mayLive := ⟨gw_8 (i := 69) rfl rfl, by decide +kernel⟩
set_option maxRecDepth 100000 in
theorem vmX12_ratherOf : Val mX12_ratherOf := ⟨gw_8 (i := 61) rfl rfl, by decide +kernel⟩
set_option maxRecDepth 100000 in
theorem vmX12_rather : Val mX12_rather := ⟨gw_8 (i := 57) rfl rfl, by decide +kernel⟩
set_option maxRecDepth 100000 in
theorem vmX12_turn : Val mX12_turn := ⟨gw_8 (i := 73) rfl rfl, by decide +kernel⟩
set_option maxRecDepth 100000 in
theorem vmX12_goBest : Val mX12_goBest := ⟨gw_8 (i := 81) rfl rfl, by decide +kernel⟩
set_option maxRecDepth 100000 in
theorem vmX12_best : Val mX12_best := ⟨gw_8 (i := 77) rfl rfl, by decide +kernel⟩
set_option maxRecDepth 100000 in
theorem vmX12_risk : Val mX12_risk := ⟨gw_8 (i := 85) rfl rfl, by decide +kernel⟩
set_option maxRecDepth 100000 in
theorem vmX12_seed : Val mX12_seed := ⟨gw_8 (i := 90) rfl rfl, by decide +kernel⟩
set_option maxRecDepth 100000 in
theorem vmX12_isBothered : Val mX12_isBothered := ⟨gw_8 (i := 102) rfl rfl, by decide +kernel⟩
set_option maxRecDepth 100000 in
theorem vmX12_lowestFor : Val mX12_lowestFor := ⟨gw_8 (i := 106) rfl rfl, by decide +kernel⟩
set_option maxRecDepth 100000 in
theorem vmX12_dayGoesOn : Val mX12_dayGoesOn := ⟨gw_8 (i := 98) rfl rfl, by decide +kernel⟩
set_option maxRecDepth 100000 in
theorem vmX12_days : Val mX12_days := ⟨gw_8 (i := 94) rfl rfl, by decide +kernel⟩
set_option maxRecDepth 100000 in
theorem vmX12_couldLive : Val mX12_couldLive := ⟨gw_8 (i := 116) rfl rfl, by decide +kernel⟩
set_option maxRecDepth 100000 in
theorem vmX12_free : Val mX12_free := ⟨gw_8 (i := 112) rfl rfl, by decide +kernel⟩
set_option maxRecDepth 100000 in
theorem vmX12_till : Val mX12_till := ⟨gw_8 (i := 120) rfl rfl, by decide +kernel⟩
set_option maxRecDepth 100000 in
theorem vmX12_couldSwap : Val mX12_couldSwap := ⟨gw_8 (i := 128) rfl rfl, by decide +kernel⟩
set_option maxRecDepth 100000 in
theorem vmX12_swap : Val mX12_swap := ⟨gw_8 (i := 124) rfl rfl, by decide +kernel⟩
set_option maxRecDepth 100000 in
theorem vmX12_peak : Val mX12_peak := ⟨gw_8 (i := 132) rfl rfl, by decide +kernel⟩
set_option maxRecDepth 100000 in
theorem vmX12_partsOf : Val mX12_partsOf := ⟨gw_8 (i := 141) rfl rfl, by decide +kernel⟩
set_option maxRecDepth 100000 in
theorem vmX12_wants : Val mX12_wants := ⟨gw_8 (i := 136) rfl rfl, by decide +kernel⟩
set_option maxRecDepth 100000 in
theorem vmX12_guests : Val mX12_guests := ⟨gw_8 (i := 145) rfl rfl, by decide +kernel⟩
set_option maxRecDepth 100000 in
theorem vmX12_twins : Val mX12_twins := ⟨gw_8 (i := 149) rfl rfl, by decide +kernel⟩
set_option maxRecDepth 100000 in
theorem vmX12_image : Val mX12_image := ⟨gw_8 (i := 153) rfl rfl, by decide +kernel⟩
set_option maxRecDepth 100000 in
theorem vmX12_back : Val mX12_back := ⟨gw_8 (i := 157) rfl rfl, by decide +kernel⟩
set_option maxRecDepth 100000 in
theorem vmX12_count : Val mX12_count := ⟨gw_8 (i := 161) rfl rfl, by decide +kernel⟩
set_option maxRecDepth 100000 in
theorem vmJ6_bitCount_0f7a4 : Val mJ6_bitCount_0f7a4 := ⟨gw_3 (i := 123) rfl rfl, by decide +kernel⟩
set_option maxRecDepth 100000 in
theorem vmJ9_floorDiv_7cf53 : Val mJ9_floorDiv_7cf53 := ⟨gw_3 (i := 167) rfl rfl, by decide +kernel⟩
set_option maxRecDepth 100000 in
theorem vmJ9_floorMod_7cf53 : Val mJ9_floorMod_7cf53 := ⟨gw_3 (i := 179) rfl rfl, by decide +kernel⟩
set_option maxRecDepth 100000 in
theorem vmJ9_abs_0f7a4 : Val mJ9_abs_0f7a4 := ⟨gw_3 (i := 173) rfl rfl, by decide +kernel⟩
set_option maxRecDepth 100000 in
theorem vmJ9_max_7cf53 : Val mJ9_max_7cf53 := ⟨gw_3 (i := 170) rfl rfl, by decide +kernel⟩
set_option maxRecDepth 100000 in
theorem vmJ9_max_f86c9 : Val mJ9_max_f86c9 := ⟨gw_7 (i := 100) rfl rfl, by decide +kernel⟩
set_option maxRecDepth 100000 in
theorem vmJ9_min_7cf53 : Val mJ9_min_7cf53 := ⟨gw_3 (i := 161) rfl rfl, by decide +kernel⟩
set_option maxRecDepth 100000 in
theorem vmJ9_min_f86c9 : Val mJ9_min_f86c9 := ⟨gw_7 (i := 97) rfl rfl, by decide +kernel⟩
set_option maxRecDepth 20000 in
theorem axMv_0 : ∀ q ∈ axMt 0, Val q.2.1 := List.forall_mem_cons.mpr ⟨vmJ9_max_7cf53, fun _ h => absurd h List.not_mem_nil⟩
set_option maxRecDepth 20000 in
theorem axMv_1 : ∀ q ∈ axMt 1, Val q.2.1 := List.forall_mem_cons.mpr ⟨vmX1_partsHold, List.forall_mem_cons.mpr ⟨vmX1_prepare, List.forall_mem_cons.mpr ⟨vmJ9_min_7cf53, List.forall_mem_cons.mpr ⟨vmX5_foesOf, List.forall_mem_cons.mpr ⟨vmX1_place, List.forall_mem_cons.mpr ⟨vmX1_takes, List.forall_mem_cons.mpr ⟨vmJ6_bitCount_0f7a4, List.forall_mem_cons.mpr ⟨vmX1_prepareTold, List.forall_mem_cons.mpr ⟨vmX6_gainOf, List.forall_mem_cons.mpr ⟨vmX1_seek, fun _ h => absurd h List.not_mem_nil⟩⟩⟩⟩⟩⟩⟩⟩⟩⟩
set_option maxRecDepth 20000 in
theorem axMv_2 : ∀ q ∈ axMt 2, Val q.2.1 := List.forall_mem_cons.mpr ⟨vmX8_init, List.forall_mem_cons.mpr ⟨vmX8_clear, List.forall_mem_cons.mpr ⟨vmX10_rewind, List.forall_mem_cons.mpr ⟨vmX2_readClause, List.forall_mem_cons.mpr ⟨vmX10_pass, List.forall_mem_cons.mpr ⟨vmX10_ahead, List.forall_mem_cons.mpr ⟨vmX2_condition, List.forall_mem_cons.mpr ⟨vmX2_truth, List.forall_mem_cons.mpr ⟨vmX2_unit, List.forall_mem_cons.mpr ⟨vmX2_sum, List.forall_mem_cons.mpr ⟨vmX2_term, List.forall_mem_cons.mpr ⟨vmX2_atom, List.forall_mem_cons.mpr ⟨vmX10_fail, List.forall_mem_cons.mpr ⟨vmX10_step, List.forall_mem_cons.mpr ⟨vmX8_letter, List.forall_mem_cons.mpr ⟨vmX8_add, List.forall_mem_cons.mpr ⟨vmX10_number, List.forall_mem_cons.mpr ⟨vmX2_relation, List.forall_mem_cons.mpr ⟨vmX8_relation, List.forall_mem_cons.mpr ⟨vmX2_moreUnits, List.forall_mem_cons.mpr ⟨vmX2_moreTruths, List.forall_mem_cons.mpr ⟨vmX2_guarded, List.forall_mem_cons.mpr ⟨vmX8_addBranch, List.forall_mem_cons.mpr ⟨vmX8_landHere, List.forall_mem_cons.mpr ⟨vmX10_ended, fun _ h => absurd h List.not_mem_nil⟩⟩⟩⟩⟩⟩⟩⟩⟩⟩⟩⟩⟩⟩⟩⟩⟩⟩⟩⟩⟩⟩⟩⟩⟩
set_option maxRecDepth 20000 in
theorem axMv_3 : ∀ q ∈ axMt 3, Val q.2.1 := List.forall_mem_cons.mpr ⟨vmX8_init, List.forall_mem_cons.mpr ⟨vmX8_copy, List.forall_mem_cons.mpr ⟨vmJ9_min_7cf53, List.forall_mem_cons.mpr ⟨vmJ9_max_7cf53, List.forall_mem_cons.mpr ⟨vmJ9_abs_0f7a4, List.forall_mem_cons.mpr ⟨vmX8_worthFor, List.forall_mem_cons.mpr ⟨vmX3_daysTillBirthday, List.forall_mem_cons.mpr ⟨vmJ9_floorMod_7cf53, List.forall_mem_cons.mpr ⟨vmX11_ageOn, List.forall_mem_cons.mpr ⟨vmX11_dateOf, fun _ h => absurd h List.not_mem_nil⟩⟩⟩⟩⟩⟩⟩⟩⟩⟩
set_option maxRecDepth 20000 in
theorem axMv_4 : ∀ q ∈ axMt 4, Val q.2.1 := List.forall_mem_cons.mpr ⟨vmJ9_min_7cf53, List.forall_mem_cons.mpr ⟨vmX4_matesIn, List.forall_mem_cons.mpr ⟨vmX4_homeIn, List.forall_mem_cons.mpr ⟨vmX4_hasRooms, List.forall_mem_cons.mpr ⟨vmX4_movesInto, List.forall_mem_cons.mpr ⟨vmX4_shut, List.forall_mem_cons.mpr ⟨vmX4_isLawful, List.forall_mem_cons.mpr ⟨vmX4_spread, List.forall_mem_cons.mpr ⟨vmX4_spreadFor, List.forall_mem_cons.mpr ⟨vmX4_stateWith, List.forall_mem_cons.mpr ⟨vmJ9_max_7cf53, List.forall_mem_cons.mpr ⟨vmX4_measure, List.forall_mem_cons.mpr ⟨vmX4_measureFrom, List.forall_mem_cons.mpr ⟨vmX4_stepTowards, List.forall_mem_cons.mpr ⟨vmX11_pairBit, fun _ h => absurd h List.not_mem_nil⟩⟩⟩⟩⟩⟩⟩⟩⟩⟩⟩⟩⟩⟩⟩
set_option maxRecDepth 20000 in
theorem axMv_5 : ∀ q ∈ axMt 5, Val q.2.1 := List.forall_mem_cons.mpr ⟨vmJ9_min_7cf53, List.forall_mem_cons.mpr ⟨vmX5_lookAtPair, List.forall_mem_cons.mpr ⟨vmX6_steadyFrom, List.forall_mem_cons.mpr ⟨vmJ9_max_7cf53, List.forall_mem_cons.mpr ⟨vmX6_atOdds, List.forall_mem_cons.mpr ⟨vmX6_dwellers, List.forall_mem_cons.mpr ⟨vmX5_pairsOf, List.forall_mem_cons.mpr ⟨vmJ6_bitCount_0f7a4, List.forall_mem_cons.mpr ⟨vmX5_atOddsWithin, List.forall_mem_cons.mpr ⟨vmX5_allAtOddsOnce, List.forall_mem_cons.mpr ⟨vmX11_pairBit, fun _ h => absurd h List.not_mem_nil⟩⟩⟩⟩⟩⟩⟩⟩⟩⟩⟩
set_option maxRecDepth 20000 in
theorem axMv_6 : ∀ q ∈ axMt 6, Val q.2.1 := List.forall_mem_cons.mpr ⟨vmX3_init, List.forall_mem_cons.mpr ⟨vmX9_init, List.forall_mem_cons.mpr ⟨vmX3_forbid, List.forall_mem_cons.mpr ⟨vmX6_steadyFrom, List.forall_mem_cons.mpr ⟨vmX3_steadyDays, List.forall_mem_cons.mpr ⟨vmJ9_max_7cf53, List.forall_mem_cons.mpr ⟨vmX6_atOdds, List.forall_mem_cons.mpr ⟨vmJ9_min_7cf53, List.forall_mem_cons.mpr ⟨vmX6_dwellers, List.forall_mem_cons.mpr ⟨vmJ6_bitCount_0f7a4, List.forall_mem_cons.mpr ⟨vmX6_daysOfPeace, List.forall_mem_cons.mpr ⟨vmX6_gainOf, List.forall_mem_cons.mpr ⟨vmX6_mayLive, List.forall_mem_cons.mpr ⟨vmX6_wishOf, List.forall_mem_cons.mpr ⟨vmX6_peaceAtHome, List.forall_mem_cons.mpr ⟨vmX6_underOneRoof, List.forall_mem_cons.mpr ⟨vmX6_lowestOpen, List.forall_mem_cons.mpr ⟨vmX6_shift, List.forall_mem_cons.mpr ⟨vmX6_drawDeaths, List.forall_mem_cons.mpr ⟨vmX11_dateOf, fun _ h => absurd h List.not_mem_nil⟩⟩⟩⟩⟩⟩⟩⟩⟩⟩⟩⟩⟩⟩⟩⟩⟩⟩⟩⟩
set_option maxRecDepth 20000 in
theorem axMv_7 : ∀ q ∈ axMt 7, Val q.2.1 := List.forall_mem_cons.mpr ⟨vmX10_rewind, List.forall_mem_cons.mpr ⟨vmX7_readClause, List.forall_mem_cons.mpr ⟨vmX10_ahead, List.forall_mem_cons.mpr ⟨vmX10_step, List.forall_mem_cons.mpr ⟨vmX7_readPerson, List.forall_mem_cons.mpr ⟨vmX7_readItems, List.forall_mem_cons.mpr ⟨vmX7_kindOf, List.forall_mem_cons.mpr ⟨vmX10_numberWithin, List.forall_mem_cons.mpr ⟨vmX7_readHouse, List.forall_mem_cons.mpr ⟨vmX10_fail, List.forall_mem_cons.mpr ⟨vmX10_ended, List.forall_mem_cons.mpr ⟨vmX7_isWhole, List.forall_mem_cons.mpr ⟨vmX10_pass, List.forall_mem_cons.mpr ⟨vmX11_bornOf, fun _ h => absurd h List.not_mem_nil⟩⟩⟩⟩⟩⟩⟩⟩⟩⟩⟩⟩⟩⟩
set_option maxRecDepth 20000 in
theorem axMv_8 : ∀ q ∈ axMt 8, Val q.2.1 := List.forall_mem_cons.mpr ⟨vmX8_add, List.forall_mem_cons.mpr ⟨vmX8_join, fun _ h => absurd h List.not_mem_nil⟩⟩
set_option maxRecDepth 20000 in
theorem axMv_9 : ∀ q ∈ axMt 9, Val q.2.1 := fun _ h => absurd h List.not_mem_nil
set_option maxRecDepth 20000 in
theorem axMv_10 : ∀ q ∈ axMt 10, Val q.2.1 := List.forall_mem_cons.mpr ⟨vmX10_signsIn, List.forall_mem_cons.mpr ⟨vmX10_put, List.forall_mem_cons.mpr ⟨vmX10_number, List.forall_mem_cons.mpr ⟨vmX10_ahead, List.forall_mem_cons.mpr ⟨vmX10_here, List.forall_mem_cons.mpr ⟨vmX10_isDigit, List.forall_mem_cons.mpr ⟨vmX10_fail, List.forall_mem_cons.mpr ⟨vmX10_step, List.forall_mem_cons.mpr ⟨vmX11_within, fun _ h => absurd h List.not_mem_nil⟩⟩⟩⟩⟩⟩⟩⟩⟩
set_option maxRecDepth 20000 in
theorem axMv_11 : ∀ q ∈ axMt 11, Val q.2.1 := List.forall_mem_cons.mpr ⟨vmX10_init, List.forall_mem_cons.mpr ⟨vmX7_init, List.forall_mem_cons.mpr ⟨vmX2_init, List.forall_mem_cons.mpr ⟨vmX6_init, List.forall_mem_cons.mpr ⟨vmX5_init, List.forall_mem_cons.mpr ⟨vmX1_init, List.forall_mem_cons.mpr ⟨vmX4_init, List.forall_mem_cons.mpr ⟨vmX0_init, List.forall_mem_cons.mpr ⟨vmX10_add, List.forall_mem_cons.mpr ⟨vmX10_cut, List.forall_mem_cons.mpr ⟨vmX7_reads, List.forall_mem_cons.mpr ⟨vmX2_reads, List.forall_mem_cons.mpr ⟨vmX6_settle, List.forall_mem_cons.mpr ⟨vmX3_keep, List.forall_mem_cons.mpr ⟨vmX11_isHouse, List.forall_mem_cons.mpr ⟨vmX11_within, List.forall_mem_cons.mpr ⟨vmX6_dwellers, List.forall_mem_cons.mpr ⟨vmJ6_bitCount_0f7a4, List.forall_mem_cons.mpr ⟨vmX11_stands, List.forall_mem_cons.mpr ⟨vmX11_areTwo, List.forall_mem_cons.mpr ⟨vmX11_isPerson, List.forall_mem_cons.mpr ⟨vmX6_atOdds, List.forall_mem_cons.mpr ⟨vmJ9_floorDiv_7cf53, List.forall_mem_cons.mpr ⟨vmJ9_floorMod_7cf53, List.forall_mem_cons.mpr ⟨vmX11_isSpan, List.forall_mem_cons.mpr ⟨vmX6_daysAtOdds, List.forall_mem_cons.mpr ⟨vmX6_daysOfPeace, List.forall_mem_cons.mpr ⟨vmX5_look, List.forall_mem_cons.mpr ⟨vmX5_firstUnlawful, List.forall_mem_cons.mpr ⟨vmX5_unlawfulHouse, List.forall_mem_cons.mpr ⟨vmX5_atOddsWithin, List.forall_mem_cons.mpr ⟨vmX6_underOneRoof, List.forall_mem_cons.mpr ⟨vmX1_fewestParts, List.forall_mem_cons.mpr ⟨vmX5_greatestQuarrel, List.forall_mem_cons.mpr ⟨vmX11_everybody, List.forall_mem_cons.mpr ⟨vmX1_lowestLiving, List.forall_mem_cons.mpr ⟨vmX11_isSmaller, List.forall_mem_cons.mpr ⟨vmX11_hasLowerOne, List.forall_mem_cons.mpr ⟨vmX11_isSmallParish, List.forall_mem_cons.mpr ⟨vmX4_lay, List.forall_mem_cons.mpr ⟨vmX4_fewestMoves, List.forall_mem_cons.mpr ⟨vmX6_homeless, List.forall_mem_cons.mpr ⟨vmX4_stateOf, List.forall_mem_cons.mpr ⟨vmX4_stateTold, List.forall_mem_cons.mpr ⟨vmX4_stepsBetween, List.forall_mem_cons.mpr ⟨vmX4_stepOfRow, List.forall_mem_cons.mpr ⟨vmX11_bornOf, List.forall_mem_cons.mpr ⟨vmX6_bearsLodger, List.forall_mem_cons.mpr ⟨vmX0_mark, List.forall_mem_cons.mpr ⟨vmX0_many, List.forall_mem_cons.mpr ⟨vmX0_least, List.forall_mem_cons.mpr ⟨vmX0_longestRow, List.forall_mem_cons.mpr ⟨vmX6_remember, List.forall_mem_cons.mpr ⟨vmX6_agreesWithSaid, List.forall_mem_cons.mpr ⟨vmX0_greatest, List.forall_mem_cons.mpr ⟨vmX6_wishOf, List.forall_mem_cons.mpr ⟨vmX6_takeTurns, List.forall_mem_cons.mpr ⟨vmX1_seekBest, List.forall_mem_cons.mpr ⟨vmX6_goOn, List.forall_mem_cons.mpr ⟨vmX6_mayLive, List.forall_mem_cons.mpr ⟨vmX6_peaceAtHome, List.forall_mem_cons.mpr ⟨vmX6_mayChange, List.forall_mem_cons.mpr ⟨vmX5_busiest, List.forall_mem_cons.mpr ⟨vmX1_leastRooms, List.forall_mem_cons.mpr ⟨vmX5_everAtOdds, List.forall_mem_cons.mpr ⟨vmX11_isGreater, List.forall_mem_cons.mpr ⟨vmJ9_abs_0f7a4, List.forall_mem_cons.mpr ⟨vmX9_copy, List.forall_mem_cons.mpr ⟨vmX11_ageOn, List.forall_mem_cons.mpr ⟨vmX11_dateOf, fun _ h => absurd h List.not_mem_nil⟩⟩⟩⟩⟩⟩⟩⟩⟩⟩⟩⟩⟩⟩⟩⟩⟩⟩⟩⟩⟩⟩⟩⟩⟩⟩⟩⟩⟩⟩⟩⟩⟩⟩⟩⟩⟩⟩⟩⟩⟩⟩⟩⟩⟩⟩⟩⟩⟩⟩⟩⟩⟩⟩⟩⟩⟩⟩⟩⟩⟩⟩⟩⟩⟩⟩⟩⟩⟩⟩
set_option maxRecDepth 20000 in
theorem axMv_12 : ∀ q ∈ axMt 12, Val q.2.1 := List.forall_mem_cons.mpr ⟨vmX12_bytesIn, List.forall_mem_cons.mpr ⟨vmX12_put, List.forall_mem_cons.mpr ⟨vmX12_isIn, List.forall_mem_cons.mpr ⟨vmX12_readParish, List.forall_mem_cons.mpr ⟨vmX12_opens, List.forall_mem_cons.mpr ⟨vmX12_readClause, List.forall_mem_cons.mpr ⟨vmX12_look, List.forall_mem_cons.mpr ⟨vmX12_fails, List.forall_mem_cons.mpr ⟨vmX12_placeOf, List.forall_mem_cons.mpr ⟨vmX12_has, List.forall_mem_cons.mpr ⟨vmX12_readItem, List.forall_mem_cons.mpr ⟨vmX12_number, List.forall_mem_cons.mpr ⟨vmX12_isDigit, List.forall_mem_cons.mpr ⟨vmX12_here, List.forall_mem_cons.mpr ⟨vmJ9_max_7cf53, List.forall_mem_cons.mpr ⟨vmX12_goThrough, List.forall_mem_cons.mpr ⟨vmX12_clause, List.forall_mem_cons.mpr ⟨vmX12_isAmong, List.forall_mem_cons.mpr ⟨vmX12_takes, List.forall_mem_cons.mpr ⟨vmX12_condition, List.forall_mem_cons.mpr ⟨vmX12_part, List.forall_mem_cons.mpr ⟨vmX12_compares, List.forall_mem_cons.mpr ⟨vmX12_sum, List.forall_mem_cons.mpr ⟨vmX12_term, List.forall_mem_cons.mpr ⟨vmX12_atom, List.forall_mem_cons.mpr ⟨vmX12_goesIn, List.forall_mem_cons.mpr ⟨vmX12_within, List.forall_mem_cons.mpr ⟨vmJ9_min_f86c9, List.forall_mem_cons.mpr ⟨vmJ9_max_f86c9, List.forall_mem_cons.mpr ⟨vmX12_isSign, List.forall_mem_cons.mpr ⟨vmX12_unit, List.forall_mem_cons.mpr ⟨vmX12_fault, List.forall_mem_cons.mpr ⟨vmX12_isPerson, List.forall_mem_cons.mpr ⟨vmX12_age, List.forall_mem_cons.mpr ⟨vmJ9_floorDiv_7cf53, List.forall_mem_cons.mpr ⟨vmX12_dateOf, List.forall_mem_cons.mpr ⟨vmJ9_floorMod_7cf53, List.forall_mem_cons.mpr ⟨vmX12_isHouse, List.forall_mem_cons.mpr ⟨vmX12_who, List.forall_mem_cons.mpr ⟨vmJ6_bitCount_0f7a4, List.forall_mem_cons.mpr ⟨vmX12_areTwo, List.forall_mem_cons.mpr ⟨vmX12_doClash, List.forall_mem_cons.mpr ⟨vmJ9_abs_0f7a4, List.forall_mem_cons.mpr ⟨vmX12_areDays, List.forall_mem_cons.mpr ⟨vmX12_clashesOf, List.forall_mem_cons.mpr ⟨vmX12_whyOf, List.forall_mem_cons.mpr ⟨vmX12_bound, List.forall_mem_cons.mpr ⟨vmX12_layToday, List.forall_mem_cons.mpr ⟨vmX12_layAgainst, List.forall_mem_cons.mpr ⟨vmX12_parts, List.forall_mem_cons.mpr ⟨vmX12_everybody, List.forall_mem_cons.mpr ⟨vmX12_lastsFor, List.forall_mem_cons.mpr ⟨vmX12_livingMany, List.forall_mem_cons.mpr ⟨vmX12_layLiving, List.forall_mem_cons.mpr ⟨vmX12_isLawful, List.forall_mem_cons.mpr ⟨vmX12_isBefore, List.forall_mem_cons.mpr ⟨vmX12_areFew, List.forall_mem_cons.mpr ⟨vmX12_layGood, List.forall_mem_cons.mpr ⟨vmX12_unlike, List.forall_mem_cons.mpr ⟨vmJ9_min_7cf53, List.forall_mem_cons.mpr ⟨vmX12_placeFour, List.forall_mem_cons.mpr ⟨vmX12_mayLodge, List.forall_mem_cons.mpr ⟨vmX12_ratherOf, List.forall_mem_cons.mpr ⟨vmX12_gainIn, List.forall_mem_cons.mpr ⟨vmX12_mayLive, List.forall_mem_cons.mpr ⟨vmX12_goBest, List.forall_mem_cons.mpr ⟨vmX12_dayGoesOn, List.forall_mem_cons.mpr ⟨vmX12_isBothered, List.forall_mem_cons.mpr ⟨vmX12_lowestFor, List.forall_mem_cons.mpr ⟨vmX12_couldLive, List.forall_mem_cons.mpr ⟨vmX12_couldSwap, List.forall_mem_cons.mpr ⟨vmX12_partsOf, fun _ h => absurd h List.not_mem_nil⟩⟩⟩⟩⟩⟩⟩⟩⟩⟩⟩⟩⟩⟩⟩⟩⟩⟩⟩⟩⟩⟩⟩⟩⟩⟩⟩⟩⟩⟩⟩⟩⟩⟩⟩⟩⟩⟩⟩⟩⟩⟩⟩⟩⟩⟩⟩⟩⟩⟩⟩⟩⟩⟩⟩⟩⟩⟩⟩⟩⟩⟩⟩⟩⟩⟩⟩⟩⟩⟩⟩⟩
theorem axM_val (c : Nat) (q : Nat × MEnt × Nat × List Nat) (h : q ∈ axMt c) : Val q.2.1 := by
  revert q
  match c with
  | 0 => exact axMv_0
  | 1 => exact axMv_1
  | 2 => exact axMv_2
  | 3 => exact axMv_3
  | 4 => exact axMv_4
  | 5 => exact axMv_5
  | 6 => exact axMv_6
  | 7 => exact axMv_7
  | 8 => exact axMv_8
  | 9 => exact axMv_9
  | 10 => exact axMv_10
  | 11 => exact axMv_11
  | 12 => exact axMv_12
  | n + 13 => intro q h; cases h
