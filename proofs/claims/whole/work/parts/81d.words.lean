set_option maxRecDepth 100000 in
theorem vmX11_clashes : Val mX11_clashes := ⟨gw_3 (i := 194) rfl rfl, by decide +kernel⟩
set_option maxRecDepth 100000 in
theorem vmX11_move : Val mX11_move := ⟨gw_3 (i := 225) rfl rfl, by decide +kernel⟩
set_option maxRecDepth 100000 in
theorem vmX11_judge : Val mX11_judge := ⟨gw_3 (i := 229) rfl rfl, by decide +kernel⟩
set_option maxRecDepth 100000 in
theorem vmX11_worst : Val mX11_worst := ⟨gw_4 (i := 27) rfl rfl, by decide +kernel⟩
set_option maxRecDepth 100000 in
theorem vmX11_fewest : Val mX11_fewest := ⟨gw_4 (i := 35) rfl rfl, by decide +kernel⟩
set_option maxRecDepth 100000 in
theorem vmX11_lasts : Val mX11_lasts := ⟨gw_4 (i := 73) rfl rfl, by decide +kernel⟩
set_option maxRecDepth 100000 in
theorem vmX11_bars : Val mX11_bars := ⟨gw_4 (i := 89) rfl rfl, by decide +kernel⟩
set_option maxRecDepth 100000 in
theorem vmX11_moves : Val mX11_moves := ⟨gw_4 (i := 99) rfl rfl, by decide +kernel⟩
set_option maxRecDepth 100000 in
theorem vmX11_night : Val mX11_night := ⟨gw_4 (i := 154) rfl rfl, by decide +kernel⟩
set_option maxRecDepth 100000 in
theorem vmX11_lodger : Val mX11_lodger := ⟨gw_4 (i := 193) rfl rfl, by decide +kernel⟩
set_option maxRecDepth 100000 in
theorem vmX11_say : Val mX11_say := ⟨gw_4 (i := 220) rfl rfl, by decide +kernel⟩
set_option maxRecDepth 100000 in
theorem vmX11_known : Val mX11_known := ⟨gw_4 (i := 228) rfl rfl, by decide +kernel⟩
set_option maxRecDepth 100000 in
theorem vmX11_worth : Val mX11_worth := ⟨gw_5 (i := 0) rfl rfl, by decide +kernel⟩
set_option maxRecDepth 100000 in
theorem vmX11_rather : Val mX11_rather := ⟨gw_5 (i := 4) rfl rfl, by decide +kernel⟩
set_option maxRecDepth 100000 in
theorem vmX11_turn : Val mX11_turn := ⟨gw_5 (i := 20) rfl rfl, by decide +kernel⟩
set_option maxRecDepth 100000 in
theorem vmX11_best : Val mX11_best := ⟨gw_5 (i := 29) rfl rfl, by decide +kernel⟩
set_option maxRecDepth 100000 in
theorem vmX11_risk : Val mX11_risk := ⟨gw_5 (i := 42) rfl rfl, by decide +kernel⟩
set_option maxRecDepth 100000 in
theorem vmX11_seed : Val mX11_seed := ⟨gw_5 (i := 46) rfl rfl, by decide +kernel⟩
set_option maxRecDepth 100000 in
theorem vmX11_days : Val mX11_days := ⟨gw_5 (i := 50) rfl rfl, by decide +kernel⟩
set_option maxRecDepth 100000 in
theorem vmX11_free : Val mX11_free := ⟨gw_5 (i := 79) rfl rfl, by decide +kernel⟩
set_option maxRecDepth 100000 in
theorem vmX11_till : Val mX11_till := ⟨gw_5 (i := 84) rfl rfl, by decide +kernel⟩
set_option maxRecDepth 100000 in
theorem vmX11_swap : Val mX11_swap := ⟨gw_5 (i := 89) rfl rfl, by decide +kernel⟩
set_option maxRecDepth 100000 in
theorem vmX11_peak : Val mX11_peak := ⟨gw_5 (i := 97) rfl rfl, by decide +kernel⟩
set_option maxRecDepth 100000 in
theorem vmX11_wants : Val mX11_wants := ⟨gw_5 (i := 105) rfl rfl, by decide +kernel⟩
set_option maxRecDepth 100000 in
theorem vmX11_guests : Val mX11_guests := ⟨gw_5 (i := 113) rfl rfl, by decide +kernel⟩
set_option maxRecDepth 100000 in
theorem vmX11_twins : Val mX11_twins := ⟨gw_5 (i := 124) rfl rfl, by decide +kernel⟩
set_option maxRecDepth 100000 in
theorem vmX11_image : Val mX11_image := ⟨gw_5 (i := 129) rfl rfl, by decide +kernel⟩
set_option maxRecDepth 100000 in
theorem vmX11_back : Val mX11_back := ⟨gw_5 (i := 138) rfl rfl, by decide +kernel⟩
set_option maxRecDepth 100000 in
theorem vmX11_count : Val mX11_count := ⟨gw_5 (i := 142) rfl rfl, by decide +kernel⟩
set_option maxRecDepth 100000 in
theorem vmX11_stands : Val mX11_stands := ⟨gw_3 (i := 134) rfl rfl, by decide +kernel⟩
set_option maxRecDepth 100000 in
theorem vmX11_isPerson : Val mX11_isPerson := ⟨gw_3 (i := 150) rfl rfl, by decide +kernel⟩
set_option maxRecDepth 100000 in
theorem vmX11_isHouse : Val mX11_isHouse := ⟨gw_3 (i := 115) rfl rfl, by decide +kernel⟩
set_option maxRecDepth 100000 in
theorem vmX11_areTwo : Val mX11_areTwo := ⟨gw_3 (i := 146) rfl rfl, by decide +kernel⟩
set_option maxRecDepth 100000 in
theorem vmX11_isSmallParish : Val mX11_isSmallParish := ⟨gw_4 (i := 103) rfl rfl, by decide +kernel⟩
set_option maxRecDepth 100000 in
theorem vmX11_everybody : Val mX11_everybody := ⟨gw_4 (i := 77) rfl rfl, by decide +kernel⟩
set_option maxRecDepth 100000 in
theorem vmX11_isSpan : Val mX11_isSpan := ⟨gw_3 (i := 197) rfl rfl, by decide +kernel⟩
set_option maxRecDepth 100000 in
theorem vmX11_within : Val mX11_within := ⟨gw_2 (i := 228) rfl rfl, by decide +kernel⟩
set_option maxRecDepth 100000 in
theorem vmX11_dateOf : Val mX11_dateOf := ⟨gw_3 (i := 176) rfl rfl, by decide +kernel⟩
set_option maxRecDepth 100000 in
theorem vmX11_ageOn : Val mX11_ageOn := ⟨gw_3 (i := 164) rfl rfl, by decide +kernel⟩
set_option maxRecDepth 100000 in
theorem vmX11_bornOf : Val mX11_bornOf := ⟨gw_2 (i := 231) rfl rfl, by decide +kernel⟩
set_option maxRecDepth 100000 in
theorem vmX11_isSmaller : Val mX11_isSmaller := ⟨gw_4 (i := 92) rfl rfl, by decide +kernel⟩
set_option maxRecDepth 100000 in
theorem vmX11_isGreater : Val mX11_isGreater := ⟨gw_5 (i := 120) rfl rfl, by decide +kernel⟩
set_option maxRecDepth 100000 in
theorem vmX11_hasLowerOne : Val mX11_hasLowerOne := ⟨gw_4 (i := 95) rfl rfl, by decide +kernel⟩
set_option maxRecDepth 100000 in
theorem vmX11_pairBit : Val mX11_pairBit := ⟨gw_4 (i := 1) rfl rfl, by decide +kernel⟩
set_option maxRecDepth 100000 in
theorem vmX12_init : Val mX12_init := ⟨gw_5 (i := 223) rfl rfl, by decide +kernel⟩
set_option maxRecDepth 100000 in
theorem vmX12_thrown : Val mX12_thrown := ⟨gw_6 (i := 171) rfl rfl, by decide +kernel⟩
set_option maxRecDepth 100000 in
theorem vmX12_isIn : Val mX12_isIn := ⟨gw_6 (i := 193) rfl rfl, by decide +kernel⟩
set_option maxRecDepth 100000 in
theorem vmX12_has : Val mX12_has := ⟨gw_7 (i := 29) rfl rfl, by decide +kernel⟩
set_option maxRecDepth 100000 in
theorem vmX12_isAmong : Val mX12_isAmong := ⟨gw_7 (i := 57) rfl rfl, by decide +kernel⟩
set_option maxRecDepth 100000 in
theorem vmX12_bytesIn : Val mX12_bytesIn := ⟨gw_6 (i := 178) rfl rfl, by decide +kernel⟩
set_option maxRecDepth 100000 in
theorem vmX12_put : Val mX12_put := ⟨gw_6 (i := 182) rfl rfl, by decide +kernel⟩
set_option maxRecDepth 100000 in
theorem vmX12_feed : Val mX12_feed := ⟨gw_6 (i := 175) rfl rfl, by decide +kernel⟩
set_option maxRecDepth 100000 in
theorem vmX12_end : Val mX12_end := ⟨gw_6 (i := 186) rfl rfl, by decide +kernel⟩
set_option maxRecDepth 100000 in
theorem vmX12_look : Val mX12_look := ⟨gw_6 (i := 209) rfl rfl, by decide +kernel⟩
set_option maxRecDepth 100000 in
theorem vmX12_fails : Val mX12_fails := ⟨gw_6 (i := 213) rfl rfl, by decide +kernel⟩
set_option maxRecDepth 100000 in
theorem vmX12_goesIn : Val mX12_goesIn := ⟨gw_7 (i := 89) rfl rfl, by decide +kernel⟩
set_option maxRecDepth 100000 in
theorem vmX12_takes : Val mX12_takes := ⟨gw_7 (i := 61) rfl rfl, by decide +kernel⟩
