set_option maxRecDepth 100000 in
theorem vmX2_readClause : Val mX2_readClause := ⟨gw_3 (i := 22) rfl rfl, by decide +kernel⟩
set_option maxRecDepth 100000 in
theorem vmX2_guarded : Val mX2_guarded := ⟨gw_3 (i := 77) rfl rfl, by decide +kernel⟩
set_option maxRecDepth 100000 in
theorem vmX2_condition : Val mX2_condition := ⟨gw_3 (i := 28) rfl rfl, by decide +kernel⟩
set_option maxRecDepth 100000 in
theorem vmX2_moreTruths : Val mX2_moreTruths := ⟨gw_3 (i := 73) rfl rfl, by decide +kernel⟩
set_option maxRecDepth 100000 in
theorem vmX2_truth : Val mX2_truth := ⟨gw_3 (i := 32) rfl rfl, by decide +kernel⟩
set_option maxRecDepth 100000 in
theorem vmX2_moreUnits : Val mX2_moreUnits := ⟨gw_3 (i := 69) rfl rfl, by decide +kernel⟩
set_option maxRecDepth 100000 in
theorem vmX2_unit : Val mX2_unit := ⟨gw_3 (i := 36) rfl rfl, by decide +kernel⟩
set_option maxRecDepth 100000 in
theorem vmX2_relation : Val mX2_relation := ⟨gw_3 (i := 62) rfl rfl, by decide +kernel⟩
set_option maxRecDepth 100000 in
theorem vmX2_sum : Val mX2_sum := ⟨gw_3 (i := 40) rfl rfl, by decide +kernel⟩
set_option maxRecDepth 100000 in
theorem vmX2_term : Val mX2_term := ⟨gw_3 (i := 44) rfl rfl, by decide +kernel⟩
set_option maxRecDepth 100000 in
theorem vmX2_atom : Val mX2_atom := ⟨gw_3 (i := 48) rfl rfl, by decide +kernel⟩
set_option maxRecDepth 100000 in
theorem vmX3_init : Val mX3_init := ⟨gw_1 (i := 133) rfl rfl, by decide +kernel⟩
set_option maxRecDepth 100000 in
theorem vmX3_keep : Val mX3_keep := ⟨gw_3 (i := 102) rfl rfl, by decide +kernel⟩
set_option maxRecDepth 100000 in
theorem vmX3_forbid : Val mX3_forbid := ⟨gw_3 (i := 158) rfl rfl, by decide +kernel⟩
set_option maxRecDepth 100000 in
theorem vmX3_steadyDays : Val mX3_steadyDays := ⟨gw_3 (i := 210) rfl rfl, by decide +kernel⟩
set_option maxRecDepth 100000 in
theorem vmX3_daysTillBirthday : Val mX3_daysTillBirthday := ⟨gw_3 (i := 213) rfl rfl, by decide +kernel⟩
set_option maxRecDepth 100000 in
theorem vmX4_init : Val mX4_init := ⟨gw_2 (i := 77) rfl rfl, by decide +kernel⟩
set_option maxRecDepth 100000 in
theorem vmX4_lay : Val mX4_lay := ⟨gw_4 (i := 107) rfl rfl, by decide +kernel⟩
set_option maxRecDepth 100000 in
theorem vmX4_homeIn : Val mX4_homeIn := ⟨gw_4 (i := 116) rfl rfl, by decide +kernel⟩
set_option maxRecDepth 100000 in
theorem vmX4_matesIn : Val mX4_matesIn := ⟨gw_4 (i := 112) rfl rfl, by decide +kernel⟩
set_option maxRecDepth 100000 in
theorem vmX4_hasRooms : Val mX4_hasRooms := ⟨gw_4 (i := 121) rfl rfl, by decide +kernel⟩
set_option maxRecDepth 100000 in
theorem vmX4_isLawful : Val mX4_isLawful := ⟨gw_4 (i := 137) rfl rfl, by decide +kernel⟩
set_option maxRecDepth 100000 in
theorem vmX4_fewestMoves : Val mX4_fewestMoves := ⟨gw_4 (i := 125) rfl rfl, by decide +kernel⟩
set_option maxRecDepth 100000 in
theorem vmX4_movesInto : Val mX4_movesInto := ⟨gw_4 (i := 129) rfl rfl, by decide +kernel⟩
set_option maxRecDepth 100000 in
theorem vmX4_shut : Val mX4_shut := ⟨gw_4 (i := 133) rfl rfl, by decide +kernel⟩
set_option maxRecDepth 100000 in
theorem vmX4_spread : Val mX4_spread := ⟨gw_4 (i := 142) rfl rfl, by decide +kernel⟩
set_option maxRecDepth 100000 in
theorem vmX4_spreadFor : Val mX4_spreadFor := ⟨gw_4 (i := 146) rfl rfl, by decide +kernel⟩
set_option maxRecDepth 100000 in
theorem vmX4_stateWith : Val mX4_stateWith := ⟨gw_4 (i := 150) rfl rfl, by decide +kernel⟩
set_option maxRecDepth 100000 in
theorem vmX4_stateOf : Val mX4_stateOf := ⟨gw_4 (i := 164) rfl rfl, by decide +kernel⟩
set_option maxRecDepth 100000 in
theorem vmX4_stateTold : Val mX4_stateTold := ⟨gw_4 (i := 169) rfl rfl, by decide +kernel⟩
set_option maxRecDepth 100000 in
theorem vmX4_stepsBetween : Val mX4_stepsBetween := ⟨gw_4 (i := 173) rfl rfl, by decide +kernel⟩
set_option maxRecDepth 100000 in
theorem vmX4_measure : Val mX4_measure := ⟨gw_4 (i := 177) rfl rfl, by decide +kernel⟩
set_option maxRecDepth 100000 in
theorem vmX4_measureFrom : Val mX4_measureFrom := ⟨gw_4 (i := 181) rfl rfl, by decide +kernel⟩
set_option maxRecDepth 100000 in
theorem vmX4_stepOfRow : Val mX4_stepOfRow := ⟨gw_4 (i := 185) rfl rfl, by decide +kernel⟩
set_option maxRecDepth 100000 in
theorem vmX4_stepTowards : Val mX4_stepTowards := ⟨gw_4 (i := 189) rfl rfl, by decide +kernel⟩
set_option maxRecDepth 100000 in
theorem vmX5_init : Val mX5_init := ⟨gw_2 (i := 19) rfl rfl, by decide +kernel⟩
set_option maxRecDepth 100000 in
theorem vmX5_look : Val mX5_look := ⟨gw_3 (i := 233) rfl rfl, by decide +kernel⟩
set_option maxRecDepth 100000 in
theorem vmX5_lookAtPair : Val mX5_lookAtPair := ⟨gw_3 (i := 238) rfl rfl, by decide +kernel⟩
set_option maxRecDepth 100000 in
theorem vmX5_pairsOf : Val mX5_pairsOf := ⟨gw_4 (i := 13) rfl rfl, by decide +kernel⟩
set_option maxRecDepth 100000 in
theorem vmX5_everAtOdds : Val mX5_everAtOdds := ⟨gw_5 (i := 117) rfl rfl, by decide +kernel⟩
set_option maxRecDepth 100000 in
theorem vmX5_atOddsWithin : Val mX5_atOddsWithin := ⟨gw_4 (i := 22) rfl rfl, by decide +kernel⟩
set_option maxRecDepth 100000 in
theorem vmX5_foesOf : Val mX5_foesOf := ⟨gw_4 (i := 52) rfl rfl, by decide +kernel⟩
set_option maxRecDepth 100000 in
theorem vmX5_firstUnlawful : Val mX5_firstUnlawful := ⟨gw_4 (i := 8) rfl rfl, by decide +kernel⟩
set_option maxRecDepth 100000 in
theorem vmX5_unlawfulHouse : Val mX5_unlawfulHouse := ⟨gw_4 (i := 18) rfl rfl, by decide +kernel⟩
set_option maxRecDepth 100000 in
theorem vmX5_greatestQuarrel : Val mX5_greatestQuarrel := ⟨gw_4 (i := 65) rfl rfl, by decide +kernel⟩
set_option maxRecDepth 100000 in
theorem vmX5_allAtOddsOnce : Val mX5_allAtOddsOnce := ⟨gw_4 (i := 69) rfl rfl, by decide +kernel⟩
set_option maxRecDepth 100000 in
theorem vmX5_busiest : Val mX5_busiest := ⟨gw_5 (i := 101) rfl rfl, by decide +kernel⟩
set_option maxRecDepth 100000 in
theorem vmX6_init : Val mX6_init := ⟨gw_1 (i := 127) rfl rfl, by decide +kernel⟩
set_option maxRecDepth 100000 in
theorem vmX6_settle : Val mX6_settle := ⟨gw_3 (i := 95) rfl rfl, by decide +kernel⟩
set_option maxRecDepth 100000 in
theorem vmX6_atOdds : Val mX6_atOdds := ⟨gw_3 (i := 154) rfl rfl, by decide +kernel⟩
set_option maxRecDepth 100000 in
theorem vmX6_daysAtOdds : Val mX6_daysAtOdds := ⟨gw_3 (i := 202) rfl rfl, by decide +kernel⟩
set_option maxRecDepth 100000 in
theorem vmX6_steadyFrom : Val mX6_steadyFrom := ⟨gw_3 (i := 206) rfl rfl, by decide +kernel⟩
set_option maxRecDepth 100000 in
theorem vmX6_daysOfPeace : Val mX6_daysOfPeace := ⟨gw_3 (i := 221) rfl rfl, by decide +kernel⟩
set_option maxRecDepth 100000 in
theorem vmX6_dwellers : Val mX6_dwellers := ⟨gw_3 (i := 120) rfl rfl, by decide +kernel⟩
set_option maxRecDepth 100000 in
theorem vmX6_homeless : Val mX6_homeless := ⟨gw_4 (i := 158) rfl rfl, by decide +kernel⟩
set_option maxRecDepth 100000 in
theorem vmX6_underOneRoof : Val mX6_underOneRoof := ⟨gw_4 (i := 31) rfl rfl, by decide +kernel⟩
set_option maxRecDepth 100000 in
theorem vmX6_mayLive : Val mX6_mayLive := ⟨gw_5 (i := 16) rfl rfl, by decide +kernel⟩
