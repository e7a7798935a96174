/-- what a call of the law wants of the words -/
def lwK (idx : Nat) (y : MEnt) : Prop := Cond.methodLink RL idx (eY y) ∈ gwT ∧ Cond.instanceMethod (eY y) ∈ gwT ∧ Cond.selects (eY y).cls (eY y) (eY y) ∈ gwT ∧ Cond.initialized (eY y).cls ∈ gwT ∧ Val y
set_option maxRecDepth 100000 in
theorem kLX11_feed : lwK 19 mX11_feed := ⟨gw_2 (i := 140) rfl rfl, gw_2 (i := 141) rfl rfl, gw_2 (i := 142) rfl rfl, gw_1 (i := 1) rfl rfl, ⟨gw_2 (i := 143) rfl rfl, by decide +kernel⟩⟩
set_option maxRecDepth 100000 in
theorem kLX12_feed : lwK 23 mX12_feed := ⟨gw_6 (i := 172) rfl rfl, gw_6 (i := 173) rfl rfl, gw_6 (i := 174) rfl rfl, gw_1 (i := 13) rfl rfl, ⟨gw_6 (i := 175) rfl rfl, by decide +kernel⟩⟩
set_option maxRecDepth 100000 in
theorem kLX11_end : lwK 24 mX11_end := ⟨gw_2 (i := 155) rfl rfl, gw_2 (i := 156) rfl rfl, gw_2 (i := 157) rfl rfl, gw_1 (i := 1) rfl rfl, ⟨gw_2 (i := 158) rfl rfl, by decide +kernel⟩⟩
set_option maxRecDepth 100000 in
theorem kLX12_end : lwK 28 mX12_end := ⟨gw_6 (i := 183) rfl rfl, gw_6 (i := 184) rfl rfl, gw_6 (i := 185) rfl rfl, gw_1 (i := 13) rfl rfl, ⟨gw_6 (i := 186) rfl rfl, by decide +kernel⟩⟩
set_option maxRecDepth 100000 in
theorem kLX11_fault : lwK 29 mX11_fault := ⟨gw_2 (i := 163) rfl rfl, gw_2 (i := 164) rfl rfl, gw_2 (i := 165) rfl rfl, gw_1 (i := 1) rfl rfl, ⟨gw_2 (i := 166) rfl rfl, by decide +kernel⟩⟩
set_option maxRecDepth 100000 in
theorem kLX12_fault : lwK 33 mX12_fault := ⟨gw_6 (i := 187) rfl rfl, gw_6 (i := 188) rfl rfl, gw_6 (i := 189) rfl rfl, gw_1 (i := 13) rfl rfl, ⟨gw_6 (i := 190) rfl rfl, by decide +kernel⟩⟩
set_option maxRecDepth 100000 in
theorem kLX11_text : lwK 34 mX11_text := ⟨gw_3 (i := 88) rfl rfl, gw_3 (i := 89) rfl rfl, gw_3 (i := 90) rfl rfl, gw_1 (i := 1) rfl rfl, ⟨gw_3 (i := 91) rfl rfl, by decide +kernel⟩⟩
set_option maxRecDepth 100000 in
theorem kLX12_text : lwK 37 mX12_text := ⟨gw_7 (i := 108) rfl rfl, gw_7 (i := 109) rfl rfl, gw_7 (i := 110) rfl rfl, gw_1 (i := 13) rfl rfl, ⟨gw_7 (i := 111) rfl rfl, by decide +kernel⟩⟩
set_option maxRecDepth 100000 in
theorem kLX12_person : lwK 43 mX12_person := ⟨gw_7 (i := 113) rfl rfl, gw_7 (i := 114) rfl rfl, gw_7 (i := 115) rfl rfl, gw_1 (i := 13) rfl rfl, ⟨gw_7 (i := 116) rfl rfl, by decide +kernel⟩⟩
set_option maxRecDepth 100000 in
theorem kLX12_thrown : lwK 44 mX12_thrown := ⟨gw_6 (i := 168) rfl rfl, gw_6 (i := 169) rfl rfl, gw_6 (i := 170) rfl rfl, gw_1 (i := 13) rfl rfl, ⟨gw_6 (i := 171) rfl rfl, by decide +kernel⟩⟩
set_option maxRecDepth 100000 in
theorem kLX11_house : lwK 48 mX11_house := ⟨gw_3 (i := 108) rfl rfl, gw_3 (i := 109) rfl rfl, gw_3 (i := 110) rfl rfl, gw_1 (i := 1) rfl rfl, ⟨gw_3 (i := 111) rfl rfl, by decide +kernel⟩⟩
set_option maxRecDepth 100000 in
theorem kLX12_house : lwK 51 mX12_house := ⟨gw_7 (i := 131) rfl rfl, gw_7 (i := 132) rfl rfl, gw_7 (i := 133) rfl rfl, gw_1 (i := 13) rfl rfl, ⟨gw_7 (i := 134) rfl rfl, by decide +kernel⟩⟩
set_option maxRecDepth 100000 in
theorem kLX11_law : lwK 52 mX11_law := ⟨gw_3 (i := 127) rfl rfl, gw_3 (i := 128) rfl rfl, gw_3 (i := 129) rfl rfl, gw_1 (i := 1) rfl rfl, ⟨gw_3 (i := 130) rfl rfl, by decide +kernel⟩⟩
set_option maxRecDepth 100000 in
theorem kLX12_law : lwK 55 mX12_law := ⟨gw_7 (i := 144) rfl rfl, gw_7 (i := 145) rfl rfl, gw_7 (i := 146) rfl rfl, gw_1 (i := 13) rfl rfl, ⟨gw_7 (i := 147) rfl rfl, by decide +kernel⟩⟩
set_option maxRecDepth 100000 in
theorem kLX11_today : lwK 56 mX11_today := ⟨gw_3 (i := 135) rfl rfl, gw_3 (i := 136) rfl rfl, gw_3 (i := 137) rfl rfl, gw_1 (i := 1) rfl rfl, ⟨gw_3 (i := 138) rfl rfl, by decide +kernel⟩⟩
set_option maxRecDepth 100000 in
theorem kLX12_today : lwK 59 mX12_today := ⟨gw_7 (i := 148) rfl rfl, gw_7 (i := 149) rfl rfl, gw_7 (i := 150) rfl rfl, gw_1 (i := 13) rfl rfl, ⟨gw_7 (i := 151) rfl rfl, by decide +kernel⟩⟩
set_option maxRecDepth 100000 in
theorem kLX11_clash : lwK 60 mX11_clash := ⟨gw_3 (i := 139) rfl rfl, gw_3 (i := 140) rfl rfl, gw_3 (i := 141) rfl rfl, gw_1 (i := 1) rfl rfl, ⟨gw_3 (i := 142) rfl rfl, by decide +kernel⟩⟩
set_option maxRecDepth 100000 in
theorem kLX12_clash : lwK 64 mX12_clash := ⟨gw_7 (i := 153) rfl rfl, gw_7 (i := 154) rfl rfl, gw_7 (i := 155) rfl rfl, gw_1 (i := 13) rfl rfl, ⟨gw_7 (i := 156) rfl rfl, by decide +kernel⟩⟩
set_option maxRecDepth 100000 in
theorem kLX11_clashes : lwK 65 mX11_clashes := ⟨gw_3 (i := 191) rfl rfl, gw_3 (i := 192) rfl rfl, gw_3 (i := 193) rfl rfl, gw_1 (i := 1) rfl rfl, ⟨gw_3 (i := 194) rfl rfl, by decide +kernel⟩⟩
set_option maxRecDepth 100000 in
theorem kLX12_clashes : lwK 69 mX12_clashes := ⟨gw_7 (i := 166) rfl rfl, gw_7 (i := 167) rfl rfl, gw_7 (i := 168) rfl rfl, gw_1 (i := 13) rfl rfl, ⟨gw_7 (i := 169) rfl rfl, by decide +kernel⟩⟩
set_option maxRecDepth 100000 in
theorem kLX11_move : lwK 70 mX11_move := ⟨gw_3 (i := 222) rfl rfl, gw_3 (i := 223) rfl rfl, gw_3 (i := 224) rfl rfl, gw_1 (i := 1) rfl rfl, ⟨gw_3 (i := 225) rfl rfl, by decide +kernel⟩⟩
set_option maxRecDepth 100000 in
theorem kLX12_move : lwK 74 mX12_move := ⟨gw_7 (i := 179) rfl rfl, gw_7 (i := 180) rfl rfl, gw_7 (i := 181) rfl rfl, gw_1 (i := 13) rfl rfl, ⟨gw_7 (i := 182) rfl rfl, by decide +kernel⟩⟩
set_option maxRecDepth 100000 in
theorem kLX11_judge : lwK 75 mX11_judge := ⟨gw_3 (i := 226) rfl rfl, gw_3 (i := 227) rfl rfl, gw_3 (i := 228) rfl rfl, gw_1 (i := 1) rfl rfl, ⟨gw_3 (i := 229) rfl rfl, by decide +kernel⟩⟩
set_option maxRecDepth 100000 in
theorem kLX12_judge : lwK 78 mX12_judge := ⟨gw_7 (i := 183) rfl rfl, gw_7 (i := 184) rfl rfl, gw_7 (i := 185) rfl rfl, gw_1 (i := 13) rfl rfl, ⟨gw_7 (i := 186) rfl rfl, by decide +kernel⟩⟩
set_option maxRecDepth 100000 in
theorem kLX11_worst : lwK 79 mX11_worst := ⟨gw_4 (i := 24) rfl rfl, gw_4 (i := 25) rfl rfl, gw_4 (i := 26) rfl rfl, gw_1 (i := 1) rfl rfl, ⟨gw_4 (i := 27) rfl rfl, by decide +kernel⟩⟩
set_option maxRecDepth 100000 in
theorem kLX12_worst : lwK 82 mX12_worst := ⟨gw_7 (i := 192) rfl rfl, gw_7 (i := 193) rfl rfl, gw_7 (i := 194) rfl rfl, gw_1 (i := 13) rfl rfl, ⟨gw_7 (i := 195) rfl rfl, by decide +kernel⟩⟩
set_option maxRecDepth 100000 in
theorem kLX11_fewest : lwK 83 mX11_fewest := ⟨gw_4 (i := 32) rfl rfl, gw_4 (i := 33) rfl rfl, gw_4 (i := 34) rfl rfl, gw_1 (i := 1) rfl rfl, ⟨gw_4 (i := 35) rfl rfl, by decide +kernel⟩⟩
set_option maxRecDepth 100000 in
theorem kLX12_fewest : lwK 86 mX12_fewest := ⟨gw_7 (i := 196) rfl rfl, gw_7 (i := 197) rfl rfl, gw_7 (i := 198) rfl rfl, gw_1 (i := 13) rfl rfl, ⟨gw_7 (i := 199) rfl rfl, by decide +kernel⟩⟩
set_option maxRecDepth 100000 in
theorem kLX11_lasts : lwK 87 mX11_lasts := ⟨gw_4 (i := 70) rfl rfl, gw_4 (i := 71) rfl rfl, gw_4 (i := 72) rfl rfl, gw_1 (i := 1) rfl rfl, ⟨gw_4 (i := 73) rfl rfl, by decide +kernel⟩⟩
set_option maxRecDepth 100000 in
theorem kLX12_lasts : lwK 90 mX12_lasts := ⟨gw_7 (i := 216) rfl rfl, gw_7 (i := 217) rfl rfl, gw_7 (i := 218) rfl rfl, gw_1 (i := 13) rfl rfl, ⟨gw_7 (i := 219) rfl rfl, by decide +kernel⟩⟩
set_option maxRecDepth 100000 in
theorem kLX11_bars : lwK 91 mX11_bars := ⟨gw_4 (i := 86) rfl rfl, gw_4 (i := 87) rfl rfl, gw_4 (i := 88) rfl rfl, gw_1 (i := 1) rfl rfl, ⟨gw_4 (i := 89) rfl rfl, by decide +kernel⟩⟩
set_option maxRecDepth 100000 in
theorem kLX12_bars : lwK 94 mX12_bars := ⟨gw_8 (i := 0) rfl rfl, gw_8 (i := 1) rfl rfl, gw_8 (i := 2) rfl rfl, gw_1 (i := 13) rfl rfl, ⟨gw_8 (i := 3) rfl rfl, by decide +kernel⟩⟩
set_option maxRecDepth 100000 in
theorem kLX11_moves : lwK 95 mX11_moves := ⟨gw_4 (i := 96) rfl rfl, gw_4 (i := 97) rfl rfl, gw_4 (i := 98) rfl rfl, gw_1 (i := 1) rfl rfl, ⟨gw_4 (i := 99) rfl rfl, by decide +kernel⟩⟩
set_option maxRecDepth 100000 in
theorem kLX12_moves : lwK 98 mX12_moves := ⟨gw_8 (i := 7) rfl rfl, gw_8 (i := 8) rfl rfl, gw_8 (i := 9) rfl rfl, gw_1 (i := 13) rfl rfl, ⟨gw_8 (i := 10) rfl rfl, by decide +kernel⟩⟩
set_option maxRecDepth 100000 in
theorem kLX11_night : lwK 99 mX11_night := ⟨gw_4 (i := 151) rfl rfl, gw_4 (i := 152) rfl rfl, gw_4 (i := 153) rfl rfl, gw_1 (i := 1) rfl rfl, ⟨gw_4 (i := 154) rfl rfl, by decide +kernel⟩⟩
set_option maxRecDepth 100000 in
theorem kLX12_night : lwK 102 mX12_night := ⟨gw_8 (i := 25) rfl rfl, gw_8 (i := 26) rfl rfl, gw_8 (i := 27) rfl rfl, gw_1 (i := 13) rfl rfl, ⟨gw_8 (i := 28) rfl rfl, by decide +kernel⟩⟩
set_option maxRecDepth 100000 in
theorem kLX11_lodger : lwK 103 mX11_lodger := ⟨gw_4 (i := 190) rfl rfl, gw_4 (i := 191) rfl rfl, gw_4 (i := 192) rfl rfl, gw_1 (i := 1) rfl rfl, ⟨gw_4 (i := 193) rfl rfl, by decide +kernel⟩⟩
set_option maxRecDepth 100000 in
theorem kLX12_lodger : lwK 106 mX12_lodger := ⟨gw_8 (i := 33) rfl rfl, gw_8 (i := 34) rfl rfl, gw_8 (i := 35) rfl rfl, gw_1 (i := 13) rfl rfl, ⟨gw_8 (i := 36) rfl rfl, by decide +kernel⟩⟩
set_option maxRecDepth 100000 in
theorem kLX11_say : lwK 107 mX11_say := ⟨gw_4 (i := 217) rfl rfl, gw_4 (i := 218) rfl rfl, gw_4 (i := 219) rfl rfl, gw_1 (i := 1) rfl rfl, ⟨gw_4 (i := 220) rfl rfl, by decide +kernel⟩⟩
set_option maxRecDepth 100000 in
theorem kLX12_say : lwK 110 mX12_say := ⟨gw_8 (i := 42) rfl rfl, gw_8 (i := 43) rfl rfl, gw_8 (i := 44) rfl rfl, gw_1 (i := 13) rfl rfl, ⟨gw_8 (i := 45) rfl rfl, by decide +kernel⟩⟩
set_option maxRecDepth 100000 in
theorem kLX11_known : lwK 111 mX11_known := ⟨gw_4 (i := 225) rfl rfl, gw_4 (i := 226) rfl rfl, gw_4 (i := 227) rfl rfl, gw_1 (i := 1) rfl rfl, ⟨gw_4 (i := 228) rfl rfl, by decide +kernel⟩⟩
set_option maxRecDepth 100000 in
theorem kLX12_known : lwK 114 mX12_known := ⟨gw_8 (i := 46) rfl rfl, gw_8 (i := 47) rfl rfl, gw_8 (i := 48) rfl rfl, gw_1 (i := 13) rfl rfl, ⟨gw_8 (i := 49) rfl rfl, by decide +kernel⟩⟩
set_option maxRecDepth 100000 in
theorem kLX11_worth : lwK 115 mX11_worth := ⟨gw_4 (i := 237) rfl rfl, gw_4 (i := 238) rfl rfl, gw_4 (i := 239) rfl rfl, gw_1 (i := 1) rfl rfl, ⟨gw_5 (i := 0) rfl rfl, by decide +kernel⟩⟩
set_option maxRecDepth 100000 in
theorem kLX12_worth : lwK 119 mX12_worth := ⟨gw_8 (i := 50) rfl rfl, gw_8 (i := 51) rfl rfl, gw_8 (i := 52) rfl rfl, gw_1 (i := 13) rfl rfl, ⟨gw_8 (i := 53) rfl rfl, by decide +kernel⟩⟩
set_option maxRecDepth 100000 in
theorem kLX11_rather : lwK 120 mX11_rather := ⟨gw_5 (i := 1) rfl rfl, gw_5 (i := 2) rfl rfl, gw_5 (i := 3) rfl rfl, gw_1 (i := 1) rfl rfl, ⟨gw_5 (i := 4) rfl rfl, by decide +kernel⟩⟩
set_option maxRecDepth 100000 in
theorem kLX12_rather : lwK 123 mX12_rather := ⟨gw_8 (i := 54) rfl rfl, gw_8 (i := 55) rfl rfl, gw_8 (i := 56) rfl rfl, gw_1 (i := 13) rfl rfl, ⟨gw_8 (i := 57) rfl rfl, by decide +kernel⟩⟩
set_option maxRecDepth 100000 in
theorem kLX11_turn : lwK 124 mX11_turn := ⟨gw_5 (i := 17) rfl rfl, gw_5 (i := 18) rfl rfl, gw_5 (i := 19) rfl rfl, gw_1 (i := 1) rfl rfl, ⟨gw_5 (i := 20) rfl rfl, by decide +kernel⟩⟩
set_option maxRecDepth 100000 in
theorem kLX12_turn : lwK 127 mX12_turn := ⟨gw_8 (i := 70) rfl rfl, gw_8 (i := 71) rfl rfl, gw_8 (i := 72) rfl rfl, gw_1 (i := 13) rfl rfl, ⟨gw_8 (i := 73) rfl rfl, by decide +kernel⟩⟩
set_option maxRecDepth 100000 in
theorem kLX11_best : lwK 128 mX11_best := ⟨gw_5 (i := 26) rfl rfl, gw_5 (i := 27) rfl rfl, gw_5 (i := 28) rfl rfl, gw_1 (i := 1) rfl rfl, ⟨gw_5 (i := 29) rfl rfl, by decide +kernel⟩⟩
set_option maxRecDepth 100000 in
theorem kLX12_best : lwK 131 mX12_best := ⟨gw_8 (i := 74) rfl rfl, gw_8 (i := 75) rfl rfl, gw_8 (i := 76) rfl rfl, gw_1 (i := 13) rfl rfl, ⟨gw_8 (i := 77) rfl rfl, by decide +kernel⟩⟩
set_option maxRecDepth 100000 in
theorem kLX11_risk : lwK 132 mX11_risk := ⟨gw_5 (i := 39) rfl rfl, gw_5 (i := 40) rfl rfl, gw_5 (i := 41) rfl rfl, gw_1 (i := 1) rfl rfl, ⟨gw_5 (i := 42) rfl rfl, by decide +kernel⟩⟩
set_option maxRecDepth 100000 in
theorem kLX12_risk : lwK 135 mX12_risk := ⟨gw_8 (i := 82) rfl rfl, gw_8 (i := 83) rfl rfl, gw_8 (i := 84) rfl rfl, gw_1 (i := 13) rfl rfl, ⟨gw_8 (i := 85) rfl rfl, by decide +kernel⟩⟩
set_option maxRecDepth 100000 in
theorem kLX11_seed : lwK 138 mX11_seed := ⟨gw_5 (i := 43) rfl rfl, gw_5 (i := 44) rfl rfl, gw_5 (i := 45) rfl rfl, gw_1 (i := 1) rfl rfl, ⟨gw_5 (i := 46) rfl rfl, by decide +kernel⟩⟩
set_option maxRecDepth 100000 in
theorem kLX12_seed : lwK 142 mX12_seed := ⟨gw_8 (i := 87) rfl rfl, gw_8 (i := 88) rfl rfl, gw_8 (i := 89) rfl rfl, gw_1 (i := 13) rfl rfl, ⟨gw_8 (i := 90) rfl rfl, by decide +kernel⟩⟩
set_option maxRecDepth 100000 in
theorem kLX11_days : lwK 143 mX11_days := ⟨gw_5 (i := 47) rfl rfl, gw_5 (i := 48) rfl rfl, gw_5 (i := 49) rfl rfl, gw_1 (i := 1) rfl rfl, ⟨gw_5 (i := 50) rfl rfl, by decide +kernel⟩⟩
set_option maxRecDepth 100000 in
theorem kLX12_days : lwK 146 mX12_days := ⟨gw_8 (i := 91) rfl rfl, gw_8 (i := 92) rfl rfl, gw_8 (i := 93) rfl rfl, gw_1 (i := 13) rfl rfl, ⟨gw_8 (i := 94) rfl rfl, by decide +kernel⟩⟩
set_option maxRecDepth 100000 in
theorem kLX11_free : lwK 147 mX11_free := ⟨gw_5 (i := 76) rfl rfl, gw_5 (i := 77) rfl rfl, gw_5 (i := 78) rfl rfl, gw_1 (i := 1) rfl rfl, ⟨gw_5 (i := 79) rfl rfl, by decide +kernel⟩⟩
set_option maxRecDepth 100000 in
theorem kLX12_free : lwK 150 mX12_free := ⟨gw_8 (i := 109) rfl rfl, gw_8 (i := 110) rfl rfl, gw_8 (i := 111) rfl rfl, gw_1 (i := 13) rfl rfl, ⟨gw_8 (i := 112) rfl rfl, by decide +kernel⟩⟩
set_option maxRecDepth 100000 in
theorem kLX11_till : lwK 151 mX11_till := ⟨gw_5 (i := 81) rfl rfl, gw_5 (i := 82) rfl rfl, gw_5 (i := 83) rfl rfl, gw_1 (i := 1) rfl rfl, ⟨gw_5 (i := 84) rfl rfl, by decide +kernel⟩⟩
set_option maxRecDepth 100000 in
theorem kLX12_till : lwK 154 mX12_till := ⟨gw_8 (i := 117) rfl rfl, gw_8 (i := 118) rfl rfl, gw_8 (i := 119) rfl rfl, gw_1 (i := 13) rfl rfl, ⟨gw_8 (i := 120) rfl rfl, by decide +kernel⟩⟩
set_option maxRecDepth 100000 in
theorem kLX11_swap : lwK 155 mX11_swap := ⟨gw_5 (i := 86) rfl rfl, gw_5 (i := 87) rfl rfl, gw_5 (i := 88) rfl rfl, gw_1 (i := 1) rfl rfl, ⟨gw_5 (i := 89) rfl rfl, by decide +kernel⟩⟩
set_option maxRecDepth 100000 in
theorem kLX12_swap : lwK 158 mX12_swap := ⟨gw_8 (i := 121) rfl rfl, gw_8 (i := 122) rfl rfl, gw_8 (i := 123) rfl rfl, gw_1 (i := 13) rfl rfl, ⟨gw_8 (i := 124) rfl rfl, by decide +kernel⟩⟩
set_option maxRecDepth 100000 in
theorem kLX11_peak : lwK 159 mX11_peak := ⟨gw_5 (i := 94) rfl rfl, gw_5 (i := 95) rfl rfl, gw_5 (i := 96) rfl rfl, gw_1 (i := 1) rfl rfl, ⟨gw_5 (i := 97) rfl rfl, by decide +kernel⟩⟩
set_option maxRecDepth 100000 in
theorem kLX12_peak : lwK 162 mX12_peak := ⟨gw_8 (i := 129) rfl rfl, gw_8 (i := 130) rfl rfl, gw_8 (i := 131) rfl rfl, gw_1 (i := 13) rfl rfl, ⟨gw_8 (i := 132) rfl rfl, by decide +kernel⟩⟩
set_option maxRecDepth 100000 in
theorem kLX11_wants : lwK 163 mX11_wants := ⟨gw_5 (i := 102) rfl rfl, gw_5 (i := 103) rfl rfl, gw_5 (i := 104) rfl rfl, gw_1 (i := 1) rfl rfl, ⟨gw_5 (i := 105) rfl rfl, by decide +kernel⟩⟩
set_option maxRecDepth 100000 in
theorem kLX12_wants : lwK 166 mX12_wants := ⟨gw_8 (i := 133) rfl rfl, gw_8 (i := 134) rfl rfl, gw_8 (i := 135) rfl rfl, gw_1 (i := 13) rfl rfl, ⟨gw_8 (i := 136) rfl rfl, by decide +kernel⟩⟩
set_option maxRecDepth 100000 in
theorem kLX11_guests : lwK 167 mX11_guests := ⟨gw_5 (i := 110) rfl rfl, gw_5 (i := 111) rfl rfl, gw_5 (i := 112) rfl rfl, gw_1 (i := 1) rfl rfl, ⟨gw_5 (i := 113) rfl rfl, by decide +kernel⟩⟩
set_option maxRecDepth 100000 in
theorem kLX12_guests : lwK 170 mX12_guests := ⟨gw_8 (i := 142) rfl rfl, gw_8 (i := 143) rfl rfl, gw_8 (i := 144) rfl rfl, gw_1 (i := 13) rfl rfl, ⟨gw_8 (i := 145) rfl rfl, by decide +kernel⟩⟩
set_option maxRecDepth 100000 in
theorem kLX11_twins : lwK 171 mX11_twins := ⟨gw_5 (i := 121) rfl rfl, gw_5 (i := 122) rfl rfl, gw_5 (i := 123) rfl rfl, gw_1 (i := 1) rfl rfl, ⟨gw_5 (i := 124) rfl rfl, by decide +kernel⟩⟩
set_option maxRecDepth 100000 in
theorem kLX12_twins : lwK 174 mX12_twins := ⟨gw_8 (i := 146) rfl rfl, gw_8 (i := 147) rfl rfl, gw_8 (i := 148) rfl rfl, gw_1 (i := 13) rfl rfl, ⟨gw_8 (i := 149) rfl rfl, by decide +kernel⟩⟩
set_option maxRecDepth 100000 in
theorem kLX11_image : lwK 175 mX11_image := ⟨gw_5 (i := 126) rfl rfl, gw_5 (i := 127) rfl rfl, gw_5 (i := 128) rfl rfl, gw_1 (i := 1) rfl rfl, ⟨gw_5 (i := 129) rfl rfl, by decide +kernel⟩⟩
set_option maxRecDepth 100000 in
theorem kLX12_image : lwK 178 mX12_image := ⟨gw_8 (i := 150) rfl rfl, gw_8 (i := 151) rfl rfl, gw_8 (i := 152) rfl rfl, gw_1 (i := 13) rfl rfl, ⟨gw_8 (i := 153) rfl rfl, by decide +kernel⟩⟩
set_option maxRecDepth 100000 in
theorem kLX11_back : lwK 179 mX11_back := ⟨gw_5 (i := 135) rfl rfl, gw_5 (i := 136) rfl rfl, gw_5 (i := 137) rfl rfl, gw_1 (i := 1) rfl rfl, ⟨gw_5 (i := 138) rfl rfl, by decide +kernel⟩⟩
set_option maxRecDepth 100000 in
theorem kLX12_back : lwK 182 mX12_back := ⟨gw_8 (i := 154) rfl rfl, gw_8 (i := 155) rfl rfl, gw_8 (i := 156) rfl rfl, gw_1 (i := 13) rfl rfl, ⟨gw_8 (i := 157) rfl rfl, by decide +kernel⟩⟩
set_option maxRecDepth 100000 in
theorem kLX11_count : lwK 183 mX11_count := ⟨gw_5 (i := 139) rfl rfl, gw_5 (i := 140) rfl rfl, gw_5 (i := 141) rfl rfl, gw_1 (i := 1) rfl rfl, ⟨gw_5 (i := 142) rfl rfl, by decide +kernel⟩⟩
set_option maxRecDepth 100000 in
theorem kLX12_count : lwK 186 mX12_count := ⟨gw_8 (i := 158) rfl rfl, gw_8 (i := 159) rfl rfl, gw_8 (i := 160) rfl rfl, gw_1 (i := 13) rfl rfl, ⟨gw_8 (i := 161) rfl rfl, by decide +kernel⟩⟩
