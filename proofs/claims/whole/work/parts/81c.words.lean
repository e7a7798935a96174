set_option maxRecDepth 100000 in
theorem vmX6_mayChange : Val mX6_mayChange := ⟨gw_5 (i := 93) rfl rfl, by decide +kernel⟩
set_option maxRecDepth 100000 in
theorem vmX6_peaceAtHome : Val mX6_peaceAtHome := ⟨gw_5 (i := 59) rfl rfl, by decide +kernel⟩
set_option maxRecDepth 100000 in
theorem vmX6_bearsLodger : Val mX6_bearsLodger := ⟨gw_4 (i := 198) rfl rfl, by decide +kernel⟩
set_option maxRecDepth 100000 in
theorem vmX6_remember : Val mX6_remember := ⟨gw_4 (i := 224) rfl rfl, by decide +kernel⟩
set_option maxRecDepth 100000 in
theorem vmX6_agreesWithSaid : Val mX6_agreesWithSaid := ⟨gw_4 (i := 232) rfl rfl, by decide +kernel⟩
set_option maxRecDepth 100000 in
theorem vmX6_gainOf : Val mX6_gainOf := ⟨gw_5 (i := 12) rfl rfl, by decide +kernel⟩
set_option maxRecDepth 100000 in
theorem vmX6_wishOf : Val mX6_wishOf := ⟨gw_5 (i := 8) rfl rfl, by decide +kernel⟩
set_option maxRecDepth 100000 in
theorem vmX6_takeTurns : Val mX6_takeTurns := ⟨gw_5 (i := 24) rfl rfl, by decide +kernel⟩
set_option maxRecDepth 100000 in
theorem vmX6_goOn : Val mX6_goOn := ⟨gw_5 (i := 54) rfl rfl, by decide +kernel⟩
set_option maxRecDepth 100000 in
theorem vmX6_lowestOpen : Val mX6_lowestOpen := ⟨gw_5 (i := 64) rfl rfl, by decide +kernel⟩
set_option maxRecDepth 100000 in
theorem vmX6_shift : Val mX6_shift := ⟨gw_5 (i := 68) rfl rfl, by decide +kernel⟩
set_option maxRecDepth 100000 in
theorem vmX6_drawDeaths : Val mX6_drawDeaths := ⟨gw_5 (i := 72) rfl rfl, by decide +kernel⟩
set_option maxRecDepth 100000 in
theorem vmX7_init : Val mX7_init := ⟨gw_1 (i := 59) rfl rfl, by decide +kernel⟩
set_option maxRecDepth 100000 in
theorem vmX7_reads : Val mX7_reads := ⟨gw_2 (i := 170) rfl rfl, by decide +kernel⟩
set_option maxRecDepth 100000 in
theorem vmX7_readClause : Val mX7_readClause := ⟨gw_2 (i := 178) rfl rfl, by decide +kernel⟩
set_option maxRecDepth 100000 in
theorem vmX7_readPerson : Val mX7_readPerson := ⟨gw_2 (i := 190) rfl rfl, by decide +kernel⟩
set_option maxRecDepth 100000 in
theorem vmX7_readHouse : Val mX7_readHouse := ⟨gw_2 (i := 235) rfl rfl, by decide +kernel⟩
set_option maxRecDepth 100000 in
theorem vmX7_readItems : Val mX7_readItems := ⟨gw_2 (i := 194) rfl rfl, by decide +kernel⟩
set_option maxRecDepth 100000 in
theorem vmX7_kindOf : Val mX7_kindOf := ⟨gw_2 (i := 199) rfl rfl, by decide +kernel⟩
set_option maxRecDepth 100000 in
theorem vmX7_isWhole : Val mX7_isWhole := ⟨gw_3 (i := 4) rfl rfl, by decide +kernel⟩
set_option maxRecDepth 100000 in
theorem vmX8_init : Val mX8_init := ⟨gw_1 (i := 99) rfl rfl, by decide +kernel⟩
set_option maxRecDepth 100000 in
theorem vmX8_letter : Val mX8_letter := ⟨gw_3 (i := 53) rfl rfl, by decide +kernel⟩
set_option maxRecDepth 100000 in
theorem vmX8_relation : Val mX8_relation := ⟨gw_3 (i := 65) rfl rfl, by decide +kernel⟩
set_option maxRecDepth 100000 in
theorem vmX8_clear : Val mX8_clear := ⟨gw_3 (i := 17) rfl rfl, by decide +kernel⟩
set_option maxRecDepth 100000 in
theorem vmX8_add : Val mX8_add := ⟨gw_3 (i := 57) rfl rfl, by decide +kernel⟩
set_option maxRecDepth 100000 in
theorem vmX8_addBranch : Val mX8_addBranch := ⟨gw_3 (i := 81) rfl rfl, by decide +kernel⟩
set_option maxRecDepth 100000 in
theorem vmX8_landHere : Val mX8_landHere := ⟨gw_3 (i := 86) rfl rfl, by decide +kernel⟩
set_option maxRecDepth 100000 in
theorem vmX8_copy : Val mX8_copy := ⟨gw_3 (i := 106) rfl rfl, by decide +kernel⟩
set_option maxRecDepth 100000 in
theorem vmX8_worthFor : Val mX8_worthFor := ⟨gw_3 (i := 183) rfl rfl, by decide +kernel⟩
set_option maxRecDepth 100000 in
theorem vmX8_join : Val mX8_join := ⟨gw_3 (i := 186) rfl rfl, by decide +kernel⟩
set_option maxRecDepth 100000 in
theorem vmX9_init : Val mX9_init := ⟨gw_1 (i := 155) rfl rfl, by decide +kernel⟩
set_option maxRecDepth 100000 in
theorem vmX9_copy : Val mX9_copy := ⟨gw_5 (i := 133) rfl rfl, by decide +kernel⟩
set_option maxRecDepth 100000 in
theorem vmX10_init : Val mX10_init := ⟨gw_1 (i := 37) rfl rfl, by decide +kernel⟩
set_option maxRecDepth 100000 in
theorem vmX10_add : Val mX10_add := ⟨gw_2 (i := 147) rfl rfl, by decide +kernel⟩
set_option maxRecDepth 100000 in
theorem vmX10_cut : Val mX10_cut := ⟨gw_2 (i := 162) rfl rfl, by decide +kernel⟩
set_option maxRecDepth 100000 in
theorem vmX10_signsIn : Val mX10_signsIn := ⟨gw_2 (i := 150) rfl rfl, by decide +kernel⟩
set_option maxRecDepth 100000 in
theorem vmX10_put : Val mX10_put := ⟨gw_2 (i := 154) rfl rfl, by decide +kernel⟩
set_option maxRecDepth 100000 in
theorem vmX10_rewind : Val mX10_rewind := ⟨gw_2 (i := 174) rfl rfl, by decide +kernel⟩
set_option maxRecDepth 100000 in
theorem vmX10_here : Val mX10_here := ⟨gw_2 (i := 218) rfl rfl, by decide +kernel⟩
set_option maxRecDepth 100000 in
theorem vmX10_ahead : Val mX10_ahead := ⟨gw_2 (i := 182) rfl rfl, by decide +kernel⟩
set_option maxRecDepth 100000 in
theorem vmX10_ended : Val mX10_ended := ⟨gw_3 (i := 0) rfl rfl, by decide +kernel⟩
set_option maxRecDepth 100000 in
theorem vmX10_step : Val mX10_step := ⟨gw_2 (i := 186) rfl rfl, by decide +kernel⟩
set_option maxRecDepth 100000 in
theorem vmX10_pass : Val mX10_pass := ⟨gw_3 (i := 8) rfl rfl, by decide +kernel⟩
set_option maxRecDepth 100000 in
theorem vmX10_fail : Val mX10_fail := ⟨gw_2 (i := 225) rfl rfl, by decide +kernel⟩
set_option maxRecDepth 100000 in
theorem vmX10_number : Val mX10_number := ⟨gw_2 (i := 213) rfl rfl, by decide +kernel⟩
set_option maxRecDepth 100000 in
theorem vmX10_numberWithin : Val mX10_numberWithin := ⟨gw_2 (i := 209) rfl rfl, by decide +kernel⟩
set_option maxRecDepth 100000 in
theorem vmX10_isDigit : Val mX10_isDigit := ⟨gw_2 (i := 221) rfl rfl, by decide +kernel⟩
set_option maxRecDepth 100000 in
theorem vmX11_init : Val mX11_init := ⟨gw_1 (i := 29) rfl rfl, by decide +kernel⟩
set_option maxRecDepth 100000 in
theorem vmX11_feed : Val mX11_feed := ⟨gw_2 (i := 143) rfl rfl, by decide +kernel⟩
set_option maxRecDepth 100000 in
theorem vmX11_end : Val mX11_end := ⟨gw_2 (i := 158) rfl rfl, by decide +kernel⟩
set_option maxRecDepth 100000 in
theorem vmX11_fault : Val mX11_fault := ⟨gw_2 (i := 166) rfl rfl, by decide +kernel⟩
set_option maxRecDepth 100000 in
theorem vmX11_text : Val mX11_text := ⟨gw_3 (i := 91) rfl rfl, by decide +kernel⟩
set_option maxRecDepth 100000 in
theorem vmX11_person : Val mX11_person := ⟨gw_5 (i := 150) rfl rfl, by decide +kernel⟩
set_option maxRecDepth 100000 in
theorem vmX11_house : Val mX11_house := ⟨gw_3 (i := 111) rfl rfl, by decide +kernel⟩
set_option maxRecDepth 100000 in
theorem vmX11_law : Val mX11_law := ⟨gw_3 (i := 130) rfl rfl, by decide +kernel⟩
set_option maxRecDepth 100000 in
theorem vmX11_today : Val mX11_today := ⟨gw_3 (i := 138) rfl rfl, by decide +kernel⟩
set_option maxRecDepth 100000 in
theorem vmX11_clash : Val mX11_clash := ⟨gw_3 (i := 142) rfl rfl, by decide +kernel⟩
