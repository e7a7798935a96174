set_option maxRecDepth 100000 in
theorem vmX12_isDigit : Val mX12_isDigit := ⟨gw_7 (i := 41) rfl rfl, by decide +kernel⟩
set_option maxRecDepth 100000 in
theorem vmX12_within : Val mX12_within := ⟨gw_7 (i := 92) rfl rfl, by decide +kernel⟩
set_option maxRecDepth 100000 in
theorem vmX12_atom : Val mX12_atom := ⟨gw_7 (i := 85) rfl rfl, by decide +kernel⟩
set_option maxRecDepth 100000 in
theorem vmX12_term : Val mX12_term := ⟨gw_7 (i := 81) rfl rfl, by decide +kernel⟩
set_option maxRecDepth 100000 in
theorem vmX12_sum : Val mX12_sum := ⟨gw_7 (i := 77) rfl rfl, by decide +kernel⟩
set_option maxRecDepth 100000 in
theorem vmX12_isSign : Val mX12_isSign := ⟨gw_7 (i := 103) rfl rfl, by decide +kernel⟩
set_option maxRecDepth 100000 in
theorem vmX12_compares : Val mX12_compares := ⟨gw_7 (i := 73) rfl rfl, by decide +kernel⟩
set_option maxRecDepth 100000 in
theorem vmX12_unit : Val mX12_unit := ⟨gw_7 (i := 107) rfl rfl, by decide +kernel⟩
set_option maxRecDepth 100000 in
theorem vmX12_part : Val mX12_part := ⟨gw_7 (i := 69) rfl rfl, by decide +kernel⟩
set_option maxRecDepth 100000 in
theorem vmX12_condition : Val mX12_condition := ⟨gw_7 (i := 65) rfl rfl, by decide +kernel⟩
set_option maxRecDepth 100000 in
theorem vmX12_clause : Val mX12_clause := ⟨gw_7 (i := 54) rfl rfl, by decide +kernel⟩
set_option maxRecDepth 100000 in
theorem vmX12_opens : Val mX12_opens := ⟨gw_6 (i := 201) rfl rfl, by decide +kernel⟩
set_option maxRecDepth 100000 in
theorem vmX12_goThrough : Val mX12_goThrough := ⟨gw_7 (i := 50) rfl rfl, by decide +kernel⟩
set_option maxRecDepth 100000 in
theorem vmX12_here : Val mX12_here := ⟨gw_7 (i := 45) rfl rfl, by decide +kernel⟩
set_option maxRecDepth 100000 in
theorem vmX12_number : Val mX12_number := ⟨gw_7 (i := 37) rfl rfl, by decide +kernel⟩
set_option maxRecDepth 100000 in
theorem vmX12_placeOf : Val mX12_placeOf := ⟨gw_6 (i := 218) rfl rfl, by decide +kernel⟩
set_option maxRecDepth 100000 in
theorem vmX12_readItem : Val mX12_readItem := ⟨gw_7 (i := 33) rfl rfl, by decide +kernel⟩
set_option maxRecDepth 100000 in
theorem vmX12_readClause : Val mX12_readClause := ⟨gw_6 (i := 205) rfl rfl, by decide +kernel⟩
set_option maxRecDepth 100000 in
theorem vmX12_readParish : Val mX12_readParish := ⟨gw_6 (i := 197) rfl rfl, by decide +kernel⟩
set_option maxRecDepth 100000 in
theorem vmX12_fault : Val mX12_fault := ⟨gw_6 (i := 190) rfl rfl, by decide +kernel⟩
set_option maxRecDepth 100000 in
theorem vmX12_text : Val mX12_text := ⟨gw_7 (i := 111) rfl rfl, by decide +kernel⟩
set_option maxRecDepth 100000 in
theorem vmX12_isPerson : Val mX12_isPerson := ⟨gw_7 (i := 120) rfl rfl, by decide +kernel⟩
set_option maxRecDepth 100000 in
theorem vmX12_isHouse : Val mX12_isHouse := ⟨gw_7 (i := 138) rfl rfl, by decide +kernel⟩
set_option maxRecDepth 100000 in
theorem vmX12_dateOf : Val mX12_dateOf := ⟨gw_7 (i := 129) rfl rfl, by decide +kernel⟩
set_option maxRecDepth 100000 in
theorem vmX12_age : Val mX12_age := ⟨gw_7 (i := 125) rfl rfl, by decide +kernel⟩
set_option maxRecDepth 100000 in
theorem vmX12_who : Val mX12_who := ⟨gw_7 (i := 142) rfl rfl, by decide +kernel⟩
set_option maxRecDepth 100000 in
theorem vmX12_person : Val mX12_person := ⟨gw_7 (i := 116) rfl rfl, by decide +kernel⟩
set_option maxRecDepth 100000 in
theorem vmX12_house : Val mX12_house := ⟨gw_7 (i := 134) rfl rfl, by decide +kernel⟩
set_option maxRecDepth 100000 in
theorem vmX12_law : Val mX12_law := ⟨gw_7 (i := 147) rfl rfl, by decide +kernel⟩
set_option maxRecDepth 100000 in
theorem vmX12_today : Val mX12_today := ⟨gw_7 (i := 151) rfl rfl, by decide +kernel⟩
set_option maxRecDepth 100000 in
theorem vmX12_doClash : Val mX12_doClash := ⟨gw_7 (i := 164) rfl rfl, by decide +kernel⟩
set_option maxRecDepth 100000 in
theorem vmX12_areTwo : Val mX12_areTwo := ⟨gw_7 (i := 160) rfl rfl, by decide +kernel⟩
set_option maxRecDepth 100000 in
theorem vmX12_clash : Val mX12_clash := ⟨gw_7 (i := 156) rfl rfl, by decide +kernel⟩
set_option maxRecDepth 100000 in
theorem vmX12_areDays : Val mX12_areDays := ⟨gw_7 (i := 172) rfl rfl, by decide +kernel⟩
set_option maxRecDepth 100000 in
theorem vmX12_clashesOf : Val mX12_clashesOf := ⟨gw_7 (i := 178) rfl rfl, by decide +kernel⟩
set_option maxRecDepth 100000 in
theorem vmX12_clashes : Val mX12_clashes := ⟨gw_7 (i := 169) rfl rfl, by decide +kernel⟩
set_option maxRecDepth 100000 in
theorem vmX12_move : Val mX12_move := ⟨gw_7 (i := 182) rfl rfl, by decide +kernel⟩
set_option maxRecDepth 100000 in
theorem vmX12_whyOf : Val mX12_whyOf := ⟨gw_7 (i := 191) rfl rfl, by decide +kernel⟩
set_option maxRecDepth 100000 in
theorem vmX12_judge : Val mX12_judge := ⟨gw_7 (i := 186) rfl rfl, by decide +kernel⟩
set_option maxRecDepth 100000 in
theorem vmX12_worst : Val mX12_worst := ⟨gw_7 (i := 195) rfl rfl, by decide +kernel⟩
set_option maxRecDepth 100000 in
theorem vmX12_layAgainst : Val mX12_layAgainst := ⟨gw_7 (i := 211) rfl rfl, by decide +kernel⟩
set_option maxRecDepth 100000 in
theorem vmX12_layToday : Val mX12_layToday := ⟨gw_7 (i := 207) rfl rfl, by decide +kernel⟩
set_option maxRecDepth 100000 in
theorem vmX12_parts : Val mX12_parts := ⟨gw_7 (i := 215) rfl rfl, by decide +kernel⟩
set_option maxRecDepth 100000 in
theorem vmX12_bound : Val mX12_bound := ⟨gw_7 (i := 203) rfl rfl, by decide +kernel⟩
set_option maxRecDepth 100000 in
theorem vmX12_fewest : Val mX12_fewest := ⟨gw_7 (i := 199) rfl rfl, by decide +kernel⟩
set_option maxRecDepth 100000 in
theorem vmX12_layLiving : Val mX12_layLiving := ⟨gw_7 (i := 235) rfl rfl, by decide +kernel⟩
set_option maxRecDepth 100000 in
theorem vmX12_livingMany : Val mX12_livingMany := ⟨gw_7 (i := 231) rfl rfl, by decide +kernel⟩
set_option maxRecDepth 100000 in
theorem vmX12_isLawful : Val mX12_isLawful := ⟨gw_7 (i := 239) rfl rfl, by decide +kernel⟩
set_option maxRecDepth 100000 in
theorem vmX12_everybody : Val mX12_everybody := ⟨gw_7 (i := 223) rfl rfl, by decide +kernel⟩
set_option maxRecDepth 100000 in
theorem vmX12_lastsFor : Val mX12_lastsFor := ⟨gw_7 (i := 227) rfl rfl, by decide +kernel⟩
set_option maxRecDepth 100000 in
theorem vmX12_lasts : Val mX12_lasts := ⟨gw_7 (i := 219) rfl rfl, by decide +kernel⟩
set_option maxRecDepth 100000 in
theorem vmX12_isBefore : Val mX12_isBefore := ⟨gw_8 (i := 6) rfl rfl, by decide +kernel⟩
set_option maxRecDepth 100000 in
theorem vmX12_bars : Val mX12_bars := ⟨gw_8 (i := 3) rfl rfl, by decide +kernel⟩
set_option maxRecDepth 100000 in
theorem vmX12_areFew : Val mX12_areFew := ⟨gw_8 (i := 14) rfl rfl, by decide +kernel⟩
set_option maxRecDepth 100000 in
theorem vmX12_layGood : Val mX12_layGood := ⟨gw_8 (i := 18) rfl rfl, by decide +kernel⟩
set_option maxRecDepth 100000 in
theorem vmX12_unlike : Val mX12_unlike := ⟨gw_8 (i := 23) rfl rfl, by decide +kernel⟩
set_option maxRecDepth 100000 in
theorem vmX12_moves : Val mX12_moves := ⟨gw_8 (i := 10) rfl rfl, by decide +kernel⟩
