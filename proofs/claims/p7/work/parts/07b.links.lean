theorem wCX7_miles : Cond.code yX7_miles cX7_miles 1 (some .int) ∈ kw_ws := kz_4 (List.mem_of_getElem? (i := 16) (by first | exact rfl | decide +kernel)) rfl
theorem wCX7_finding : Cond.code yX7_finding cX7_finding 1 (some .int) ∈ kw_ws := kz_4 (List.mem_of_getElem? (i := 20) (by first | exact rfl | decide +kernel)) rfl
theorem wCX7_findings : Cond.code yX7_findings cX7_findings 2 (some .int) ∈ kw_ws := kz_4 (List.mem_of_getElem? (i := 24) (by first | exact rfl | decide +kernel)) rfl
theorem wCX7_digest : Cond.code yX7_digest cX7_digest 5 (some .long) ∈ kw_ws := kz_4 (List.mem_of_getElem? (i := 28) (by first | exact rfl | decide +kernel)) rfl
theorem wCX3_fold : Cond.code yX3_fold cX3_fold 7 (some .long) ∈ kw_ws := kz_4 (List.mem_of_getElem? (i := 35) (by first | exact rfl | decide +kernel)) rfl
theorem wCX8_row : Cond.code yX8_row cX8_row 4 (some .int) ∈ kw_ws := kz_4 (List.mem_of_getElem? (i := 158) (by first | exact rfl | decide +kernel)) rfl
theorem wCX8_isRow : Cond.code yX8_isRow cX8_isRow 1 (some .boolean) ∈ kw_ws := kz_4 (List.mem_of_getElem? (i := 161) (by first | exact rfl | decide +kernel)) rfl
theorem wCX8_in : Cond.code yX8_in cX8_in 3 (some .boolean) ∈ kw_ws := kz_4 (List.mem_of_getElem? (i := 164) (by first | exact rfl | decide +kernel)) rfl
theorem wCX8_meet : Cond.code yX8_meet cX8_meet 2 (some .int) ∈ kw_ws := kz_4 (List.mem_of_getElem? (i := 168) (by first | exact rfl | decide +kernel)) rfl
theorem wCX8_setRow : Cond.code yX8_setRow cX8_setRow 4 none ∈ kw_ws := kz_4 (List.mem_of_getElem? (i := 172) (by first | exact rfl | decide +kernel)) rfl
theorem wCX8_at : Cond.code yX8_at cX8_at 4 (some .int) ∈ kw_ws := kz_4 (List.mem_of_getElem? (i := 176) (by first | exact rfl | decide +kernel)) rfl
theorem wCX8_askedRow : Cond.code yX8_askedRow cX8_askedRow 2 (some .int) ∈ kw_ws := kz_4 (List.mem_of_getElem? (i := 180) (by first | exact rfl | decide +kernel)) rfl
theorem wCX8_rowAt : Cond.code yX8_rowAt cX8_rowAt 3 (some .int) ∈ kw_ws := kz_4 (List.mem_of_getElem? (i := 184) (by first | exact rfl | decide +kernel)) rfl
theorem wCX8_ask : Cond.code yX8_ask cX8_ask 3 (some .int) ∈ kw_ws := kz_4 (List.mem_of_getElem? (i := 188) (by first | exact rfl | decide +kernel)) rfl
theorem wCX8_lay : Cond.code yX8_lay cX8_lay 5 (some .int) ∈ kw_ws := kz_4 (List.mem_of_getElem? (i := 192) (by first | exact rfl | decide +kernel)) rfl
theorem wCX8_tear : Cond.code yX8_tear cX8_tear 3 (some .int) ∈ kw_ws := kz_4 (List.mem_of_getElem? (i := 197) (by first | exact rfl | decide +kernel)) rfl
theorem wCX8_copy : Cond.code yX8_copy cX8_copy 7 (some .int) ∈ kw_ws := kz_4 (List.mem_of_getElem? (i := 201) (by first | exact rfl | decide +kernel)) rfl
theorem wCX8_mean : Cond.code yX8_mean cX8_mean 6 (some .int) ∈ kw_ws := kz_4 (List.mem_of_getElem? (i := 205) (by first | exact rfl | decide +kernel)) rfl
theorem wCX8_text : Cond.code yX8_text cX8_text 4 (some .int) ∈ kw_ws := kz_4 (List.mem_of_getElem? (i := 209) (by first | exact rfl | decide +kernel)) rfl
theorem wCX8_isText : Cond.code yX8_isText cX8_isText 1 (some .boolean) ∈ kw_ws := kz_4 (List.mem_of_getElem? (i := 212) (by first | exact rfl | decide +kernel)) rfl
theorem wCX8_put : Cond.code yX8_put cX8_put 6 (some .int) ∈ kw_ws := kz_4 (List.mem_of_getElem? (i := 216) (by first | exact rfl | decide +kernel)) rfl
theorem wCX8_askedText : Cond.code yX8_askedText cX8_askedText 2 (some .int) ∈ kw_ws := kz_4 (List.mem_of_getElem? (i := 220) (by first | exact rfl | decide +kernel)) rfl
theorem wCX8_fault : Cond.code yX8_fault cX8_fault 3 (some .int) ∈ kw_ws := kz_4 (List.mem_of_getElem? (i := 224) (by first | exact rfl | decide +kernel)) rfl
theorem wCX8_goesOn : Cond.code yX8_goesOn cX8_goesOn 2 (some .int) ∈ kw_ws := kz_4 (List.mem_of_getElem? (i := 228) (by first | exact rfl | decide +kernel)) rfl
theorem wCX8_readsTown : Cond.code yX8_readsTown cX8_readsTown 2 (some .boolean) ∈ kw_ws := kz_4 (List.mem_of_getElem? (i := 232) (by first | exact rfl | decide +kernel)) rfl
theorem wCX8_readsWinds : Cond.code yX8_readsWinds cX8_readsWinds 2 (some .boolean) ∈ kw_ws := kz_4 (List.mem_of_getElem? (i := 236) (by first | exact rfl | decide +kernel)) rfl
theorem wCX8_skip : Cond.code yX8_skip cX8_skip 2 none ∈ kw_ws := kz_5 (List.mem_of_getElem? (i := 0) (by first | exact rfl | decide +kernel)) rfl
theorem wCX8_here : Cond.code yX8_here cX8_here 2 (some .int) ∈ kw_ws := kz_5 (List.mem_of_getElem? (i := 4) (by first | exact rfl | decide +kernel)) rfl
theorem wCX8_readsLine : Cond.code yX8_readsLine cX8_readsLine 4 (some .boolean) ∈ kw_ws := kz_5 (List.mem_of_getElem? (i := 8) (by first | exact rfl | decide +kernel)) rfl
theorem wCX8_kindBy : Cond.code yX8_kindBy cX8_kindBy 1 (some .int) ∈ kw_ws := kz_5 (List.mem_of_getElem? (i := 11) (by first | exact rfl | decide +kernel)) rfl
theorem wCX8_figure : Cond.code yX8_figure cX8_figure 6 (some .boolean) ∈ kw_ws := kz_5 (List.mem_of_getElem? (i := 15) (by first | exact rfl | decide +kernel)) rfl
theorem wCX8_town : Cond.code yX8_town cX8_town 4 (some .int) ∈ kw_ws := kz_5 (List.mem_of_getElem? (i := 19) (by first | exact rfl | decide +kernel)) rfl
theorem wCX8_hang : Cond.code yX8_hang cX8_hang 2 (some .int) ∈ kw_ws := kz_5 (List.mem_of_getElem? (i := 23) (by first | exact rfl | decide +kernel)) rfl
theorem wCX8_isLine : Cond.code yX8_isLine cX8_isLine 2 (some .boolean) ∈ kw_ws := kz_5 (List.mem_of_getElem? (i := 27) (by first | exact rfl | decide +kernel)) rfl
theorem wCX8_has : Cond.code yX8_has cX8_has 2 (some .boolean) ∈ kw_ws := kz_5 (List.mem_of_getElem? (i := 30) (by first | exact rfl | decide +kernel)) rfl
theorem wCX8_turnLine : Cond.code yX8_turnLine cX8_turnLine 2 none ∈ kw_ws := kz_5 (List.mem_of_getElem? (i := 34) (by first | exact rfl | decide +kernel)) rfl
theorem wCX8_note : Cond.code yX8_note cX8_note 1 none ∈ kw_ws := kz_5 (List.mem_of_getElem? (i := 38) (by first | exact rfl | decide +kernel)) rfl
theorem wCX8_write : Cond.code yX8_write cX8_write 4 none ∈ kw_ws := kz_5 (List.mem_of_getElem? (i := 42) (by first | exact rfl | decide +kernel)) rfl
theorem wCX8_bits : Cond.code yX8_bits cX8_bits 3 (some .int) ∈ kw_ws := kz_5 (List.mem_of_getElem? (i := 45) (by first | exact rfl | decide +kernel)) rfl
theorem wCX8_take : Cond.code yX8_take cX8_take 2 (some .int) ∈ kw_ws := kz_5 (List.mem_of_getElem? (i := 49) (by first | exact rfl | decide +kernel)) rfl
theorem wCX8_hour : Cond.code yX8_hour cX8_hour 1 (some .int) ∈ kw_ws := kz_5 (List.mem_of_getElem? (i := 53) (by first | exact rfl | decide +kernel)) rfl
theorem wCX8_pass : Cond.code yX8_pass cX8_pass 4 none ∈ kw_ws := kz_5 (List.mem_of_getElem? (i := 57) (by first | exact rfl | decide +kernel)) rfl
theorem wCX8_windAt : Cond.code yX8_windAt cX8_windAt 2 (some .int) ∈ kw_ws := kz_5 (List.mem_of_getElem? (i := 61) (by first | exact rfl | decide +kernel)) rfl
theorem wCX8_milesBy : Cond.code yX8_milesBy cX8_milesBy 5 (some .int) ∈ kw_ws := kz_5 (List.mem_of_getElem? (i := 65) (by first | exact rfl | decide +kernel)) rfl
theorem wCX8_pullOf : Cond.code yX8_pullOf cX8_pullOf 3 (some .int) ∈ kw_ws := kz_5 (List.mem_of_getElem? (i := 69) (by first | exact rfl | decide +kernel)) rfl
theorem wCX8_pullBy : Cond.code yX8_pullBy cX8_pullBy 4 (some .int) ∈ kw_ws := kz_5 (List.mem_of_getElem? (i := 72) (by first | exact rfl | decide +kernel)) rfl
theorem wCX8_turnBy : Cond.code yX8_turnBy cX8_turnBy 5 (some .int) ∈ kw_ws := kz_5 (List.mem_of_getElem? (i := 76) (by first | exact rfl | decide +kernel)) rfl
theorem wCX8_wetBehind : Cond.code yX8_wetBehind cX8_wetBehind 3 (some .int) ∈ kw_ws := kz_5 (List.mem_of_getElem? (i := 80) (by first | exact rfl | decide +kernel)) rfl
theorem wCX8_part : Cond.code yX8_part cX8_part 11 (some .int) ∈ kw_ws := kz_5 (List.mem_of_getElem? (i := 84) (by first | exact rfl | decide +kernel)) rfl
theorem wCX8_undo : Cond.code yX8_undo cX8_undo 3 (some .int) ∈ kw_ws := kz_5 (List.mem_of_getElem? (i := 88) (by first | exact rfl | decide +kernel)) rfl
theorem wCX8_read : Cond.code yX8_read cX8_read 4 none ∈ kw_ws := kz_5 (List.mem_of_getElem? (i := 92) (by first | exact rfl | decide +kernel)) rfl
theorem wCX8_keep : Cond.code yX8_keep cX8_keep 4 (some .int) ∈ kw_ws := kz_5 (List.mem_of_getElem? (i := 96) (by first | exact rfl | decide +kernel)) rfl
theorem wCX8_on : Cond.code yX8_on cX8_on 4 (some .int) ∈ kw_ws := kz_5 (List.mem_of_getElem? (i := 100) (by first | exact rfl | decide +kernel)) rfl
theorem wCX8_line : Cond.code yX8_line cX8_line 3 (some .int) ∈ kw_ws := kz_5 (List.mem_of_getElem? (i := 104) (by first | exact rfl | decide +kernel)) rfl
theorem wCX8_lineOf : Cond.code yX8_lineOf cX8_lineOf 3 (some .int) ∈ kw_ws := kz_5 (List.mem_of_getElem? (i := 108) (by first | exact rfl | decide +kernel)) rfl
theorem wCX8_mark : Cond.code yX8_mark cX8_mark 4 (some .int) ∈ kw_ws := kz_5 (List.mem_of_getElem? (i := 112) (by first | exact rfl | decide +kernel)) rfl
theorem wCX8_isA : Cond.code yX8_isA cX8_isA 2 (some .boolean) ∈ kw_ws := kz_5 (List.mem_of_getElem? (i := 115) (by first | exact rfl | decide +kernel)) rfl
theorem wCX8_hoursTill : Cond.code yX8_hoursTill cX8_hoursTill 2 (some .int) ∈ kw_ws := kz_5 (List.mem_of_getElem? (i := 119) (by first | exact rfl | decide +kernel)) rfl
theorem wCX8_lesserOnes : Cond.code yX8_lesserOnes cX8_lesserOnes 4 (some .int) ∈ kw_ws := kz_5 (List.mem_of_getElem? (i := 123) (by first | exact rfl | decide +kernel)) rfl
theorem wCX8_wind : Cond.code yX8_wind cX8_wind 2 (some .int) ∈ kw_ws := kz_5 (List.mem_of_getElem? (i := 127) (by first | exact rfl | decide +kernel)) rfl
theorem wCX8_goes : Cond.code yX8_goes cX8_goes 3 (some .int) ∈ kw_ws := kz_5 (List.mem_of_getElem? (i := 131) (by first | exact rfl | decide +kernel)) rfl
theorem wCX8_isSet : Cond.code yX8_isSet cX8_isSet 2 (some .boolean) ∈ kw_ws := kz_5 (List.mem_of_getElem? (i := 135) (by first | exact rfl | decide +kernel)) rfl
theorem wCX8_even : Cond.code yX8_even cX8_even 6 (some .int) ∈ kw_ws := kz_5 (List.mem_of_getElem? (i := 139) (by first | exact rfl | decide +kernel)) rfl
theorem wCX8_linenOf : Cond.code yX8_linenOf cX8_linenOf 4 (some .int) ∈ kw_ws := kz_5 (List.mem_of_getElem? (i := 143) (by first | exact rfl | decide +kernel)) rfl
theorem wCX8_fast : Cond.code yX8_fast cX8_fast 5 (some .int) ∈ kw_ws := kz_5 (List.mem_of_getElem? (i := 147) (by first | exact rfl | decide +kernel)) rfl
theorem wCX8_wet : Cond.code yX8_wet cX8_wet 3 (some .int) ∈ kw_ws := kz_5 (List.mem_of_getElem? (i := 151) (by first | exact rfl | decide +kernel)) rfl
theorem wCX8_wetOfAll : Cond.code yX8_wetOfAll cX8_wetOfAll 3 (some .int) ∈ kw_ws := kz_5 (List.mem_of_getElem? (i := 155) (by first | exact rfl | decide +kernel)) rfl
theorem wCX8_sail : Cond.code yX8_sail cX8_sail 6 (some .int) ∈ kw_ws := kz_5 (List.mem_of_getElem? (i := 159) (by first | exact rfl | decide +kernel)) rfl
theorem wCX8_askedPlan : Cond.code yX8_askedPlan cX8_askedPlan 3 (some .int) ∈ kw_ws := kz_5 (List.mem_of_getElem? (i := 163) (by first | exact rfl | decide +kernel)) rfl
theorem wCX8_dry : Cond.code yX8_dry cX8_dry 7 (some .int) ∈ kw_ws := kz_5 (List.mem_of_getElem? (i := 167) (by first | exact rfl | decide +kernel)) rfl
theorem wCX8_far : Cond.code yX8_far cX8_far 6 (some .int) ∈ kw_ws := kz_5 (List.mem_of_getElem? (i := 171) (by first | exact rfl | decide +kernel)) rfl
theorem wCX8_setHours : Cond.code yX8_setHours cX8_setHours 3 none ∈ kw_ws := kz_5 (List.mem_of_getElem? (i := 175) (by first | exact rfl | decide +kernel)) rfl
theorem wCX8_farBy : Cond.code yX8_farBy cX8_farBy 16 (some .int) ∈ kw_ws := kz_5 (List.mem_of_getElem? (i := 179) (by first | exact rfl | decide +kernel)) rfl
theorem wCX8_isTurn : Cond.code yX8_isTurn cX8_isTurn 2 (some .boolean) ∈ kw_ws := kz_5 (List.mem_of_getElem? (i := 183) (by first | exact rfl | decide +kernel)) rfl
theorem wCX8_soon : Cond.code yX8_soon cX8_soon 4 (some .int) ∈ kw_ws := kz_5 (List.mem_of_getElem? (i := 187) (by first | exact rfl | decide +kernel)) rfl
theorem wCX8_mostOf : Cond.code yX8_mostOf cX8_mostOf 5 (some .int) ∈ kw_ws := kz_5 (List.mem_of_getElem? (i := 191) (by first | exact rfl | decide +kernel)) rfl
theorem wCX8_greater : Cond.code yX8_greater cX8_greater 2 (some .int) ∈ kw_ws := kz_5 (List.mem_of_getElem? (i := 194) (by first | exact rfl | decide +kernel)) rfl
theorem wCX8_least : Cond.code yX8_least cX8_least 7 (some .int) ∈ kw_ws := kz_5 (List.mem_of_getElem? (i := 198) (by first | exact rfl | decide +kernel)) rfl
theorem wCX8_ways : Cond.code yX8_ways cX8_ways 7 (some .int) ∈ kw_ws := kz_5 (List.mem_of_getElem? (i := 202) (by first | exact rfl | decide +kernel)) rfl
theorem wCX8_kinds : Cond.code yX8_kinds cX8_kinds 6 (some .int) ∈ kw_ws := kz_5 (List.mem_of_getElem? (i := 206) (by first | exact rfl | decide +kernel)) rfl
theorem wCX8_askedPulls : Cond.code yX8_askedPulls cX8_askedPulls 5 (some .int) ∈ kw_ws := kz_5 (List.mem_of_getElem? (i := 210) (by first | exact rfl | decide +kernel)) rfl
theorem wCX8_pullsSo : Cond.code yX8_pullsSo cX8_pullsSo 6 (some .boolean) ∈ kw_ws := kz_5 (List.mem_of_getElem? (i := 214) (by first | exact rfl | decide +kernel)) rfl
theorem wCX8_areas : Cond.code yX8_areas cX8_areas 6 (some .int) ∈ kw_ws := kz_5 (List.mem_of_getElem? (i := 218) (by first | exact rfl | decide +kernel)) rfl
theorem wCX8_rival : Cond.code yX8_rival cX8_rival 9 (some .int) ∈ kw_ws := kz_5 (List.mem_of_getElem? (i := 222) (by first | exact rfl | decide +kernel)) rfl
theorem wCX8_mid : Cond.code yX8_mid cX8_mid 8 (some .int) ∈ kw_ws := kz_5 (List.mem_of_getElem? (i := 226) (by first | exact rfl | decide +kernel)) rfl
theorem wCX8_gustMiles : Cond.code yX8_gustMiles cX8_gustMiles 5 (some .int) ∈ kw_ws := kz_5 (List.mem_of_getElem? (i := 230) (by first | exact rfl | decide +kernel)) rfl
theorem wCX8_weightOf : Cond.code yX8_weightOf cX8_weightOf 4 (some .long) ∈ kw_ws := kz_5 (List.mem_of_getElem? (i := 234) (by first | exact rfl | decide +kernel)) rfl
theorem wCX8_power : Cond.code yX8_power cX8_power 6 (some .long) ∈ kw_ws := kz_5 (List.mem_of_getElem? (i := 237) (by first | exact rfl | decide +kernel)) rfl
theorem wCX8_odds : Cond.code yX8_odds cX8_odds 9 (some .int) ∈ kw_ws := kz_6 (List.mem_of_getElem? (i := 2) (by first | exact rfl | decide +kernel)) rfl
theorem wCX8_lots : Cond.code yX8_lots cX8_lots 6 (some .int) ∈ kw_ws := kz_6 (List.mem_of_getElem? (i := 6) (by first | exact rfl | decide +kernel)) rfl
theorem wCX8_asked : Cond.code yX8_asked cX8_asked 1 (some .int) ∈ kw_ws := kz_6 (List.mem_of_getElem? (i := 13) (by first | exact rfl | decide +kernel)) rfl
theorem wCX8_upper : Cond.code yX8_upper cX8_upper 1 (some .long) ∈ kw_ws := kz_6 (List.mem_of_getElem? (i := 17) (by first | exact rfl | decide +kernel)) rfl
theorem wCX8_lower : Cond.code yX8_lower cX8_lower 1 (some .long) ∈ kw_ws := kz_6 (List.mem_of_getElem? (i := 21) (by first | exact rfl | decide +kernel)) rfl
theorem wCX8_count : Cond.code yX8_count cX8_count 2 (some .int) ∈ kw_ws := kz_6 (List.mem_of_getElem? (i := 25) (by first | exact rfl | decide +kernel)) rfl
theorem wCX8_tells : Cond.code yX8_tells cX8_tells 2 (some .int) ∈ kw_ws := kz_6 (List.mem_of_getElem? (i := 29) (by first | exact rfl | decide +kernel)) rfl
theorem wCX8_howMany : Cond.code yX8_howMany cX8_howMany 4 (some .int) ∈ kw_ws := kz_6 (List.mem_of_getElem? (i := 33) (by first | exact rfl | decide +kernel)) rfl
theorem wCX8_there : Cond.code yX8_there cX8_there 4 (some .int) ∈ kw_ws := kz_6 (List.mem_of_getElem? (i := 37) (by first | exact rfl | decide +kernel)) rfl
theorem wCX8_miles : Cond.code yX8_miles cX8_miles 1 (some .int) ∈ kw_ws := kz_6 (List.mem_of_getElem? (i := 41) (by first | exact rfl | decide +kernel)) rfl
theorem wCX8_finding : Cond.code yX8_finding cX8_finding 1 (some .int) ∈ kw_ws := kz_6 (List.mem_of_getElem? (i := 45) (by first | exact rfl | decide +kernel)) rfl
theorem wCX8_findings : Cond.code yX8_findings cX8_findings 2 (some .int) ∈ kw_ws := kz_6 (List.mem_of_getElem? (i := 49) (by first | exact rfl | decide +kernel)) rfl
theorem wCX8_digest : Cond.code yX8_digest cX8_digest 3 (some .long) ∈ kw_ws := kz_6 (List.mem_of_getElem? (i := 53) (by first | exact rfl | decide +kernel)) rfl
theorem wCX8_mix : Cond.code yX8_mix cX8_mix 2 none ∈ kw_ws := kz_6 (List.mem_of_getElem? (i := 58) (by first | exact rfl | decide +kernel)) rfl
theorem wCX8_mixTown : Cond.code yX8_mixTown cX8_mixTown 3 none ∈ kw_ws := kz_6 (List.mem_of_getElem? (i := 63) (by first | exact rfl | decide +kernel)) rfl
theorem wVX7_makeOn : Cond.selects RX7 yX7_makeOn yX7_makeOn ∈ kw_ws := kw_ws_in (List.mem_append_left _ (List.mem_of_getElem? (i := 0) (by decide +kernel))) rfl
theorem wVX2_skipBlanks : Cond.selects RX2 yX2_skipBlanks yX2_skipBlanks ∈ kw_ws := kw_ws_in (List.mem_append_left _ (List.mem_of_getElem? (i := 1) (by decide +kernel))) rfl
theorem wVX2_readWinds : Cond.selects RX2 yX2_readWinds yX2_readWinds ∈ kw_ws := kw_ws_in (List.mem_append_left _ (List.mem_of_getElem? (i := 2) (by decide +kernel))) rfl
theorem wVX2_readLine : Cond.selects RX2 yX2_readLine yX2_readLine ∈ kw_ws := kw_ws_in (List.mem_append_left _ (List.mem_of_getElem? (i := 3) (by decide +kernel))) rfl
theorem wVX2_readFigure : Cond.selects RX2 yX2_readFigure yX2_readFigure ∈ kw_ws := kw_ws_in (List.mem_append_left _ (List.mem_of_getElem? (i := 4) (by decide +kernel))) rfl
theorem wVX5_passHour : Cond.selects RX5 yX5_passHour yX5_passHour ∈ kw_ws := kw_ws_in (List.mem_append_left _ (List.mem_of_getElem? (i := 5) (by decide +kernel))) rfl
theorem wVX7_drySet : Cond.selects RX7 yX7_drySet yX7_drySet ∈ kw_ws := kw_ws_in (List.mem_append_left _ (List.mem_of_getElem? (i := 6) (by decide +kernel))) rfl
theorem wVX7_planRefusal : Cond.selects RX7 yX7_planRefusal yX7_planRefusal ∈ kw_ws := kw_ws_in (List.mem_append_left _ (List.mem_of_getElem? (i := 7) (by decide +kernel))) rfl
theorem wVX6_sailFrom : Cond.selects RX6 yX6_sailFrom yX6_sailFrom ∈ kw_ws := kw_ws_in (List.mem_append_left _ (List.mem_of_getElem? (i := 8) (by decide +kernel))) rfl
theorem wVX7_mostMilesBehind : Cond.selects RX7 yX7_mostMilesBehind yX7_mostMilesBehind ∈ kw_ws := kw_ws_in (List.mem_append_left _ (List.mem_of_getElem? (i := 9) (by decide +kernel))) rfl
theorem wVX7_pairsRefusal : Cond.selects RX7 yX7_pairsRefusal yX7_pairsRefusal ∈ kw_ws := kw_ws_in (List.mem_append_left _ (List.mem_of_getElem? (i := 10) (by decide +kernel))) rfl
theorem wVX7_pulledSo : Cond.selects RX7 yX7_pulledSo yX7_pulledSo ∈ kw_ws := kw_ws_in (List.mem_append_left _ (List.mem_of_getElem? (i := 11) (by decide +kernel))) rfl
theorem wVX7_foresee : Cond.selects RX7 yX7_foresee yX7_foresee ∈ kw_ws := kw_ws_in (List.mem_append_left _ (List.mem_of_getElem? (i := 12) (by decide +kernel))) rfl
theorem wVX7_milesByGusts : Cond.selects RX7 yX7_milesByGusts yX7_milesByGusts ∈ kw_ws := kw_ws_in (List.mem_append_left _ (List.mem_of_getElem? (i := 13) (by decide +kernel))) rfl
theorem wVX8_meet : Cond.selects RX8 yX8_meet yX8_meet ∈ kw_ws := kw_ws_in (List.mem_append_left _ (List.mem_of_getElem? (i := 14) (by decide +kernel))) rfl
theorem wVX8_setRow : Cond.selects RX8 yX8_setRow yX8_setRow ∈ kw_ws := kw_ws_in (List.mem_append_left _ (List.mem_of_getElem? (i := 15) (by decide +kernel))) rfl
theorem wVX8_askedRow : Cond.selects RX8 yX8_askedRow yX8_askedRow ∈ kw_ws := kw_ws_in (List.mem_append_left _ (List.mem_of_getElem? (i := 16) (by decide +kernel))) rfl
theorem wVX8_rowAt : Cond.selects RX8 yX8_rowAt yX8_rowAt ∈ kw_ws := kw_ws_in (List.mem_append_left _ (List.mem_of_getElem? (i := 17) (by decide +kernel))) rfl
theorem wVX8_ask : Cond.selects RX8 yX8_ask yX8_ask ∈ kw_ws := kw_ws_in (List.mem_append_left _ (List.mem_of_getElem? (i := 18) (by decide +kernel))) rfl
theorem wVX8_askedText : Cond.selects RX8 yX8_askedText yX8_askedText ∈ kw_ws := kw_ws_in (List.mem_append_left _ (List.mem_of_getElem? (i := 19) (by decide +kernel))) rfl
theorem wVX8_goesOn : Cond.selects RX8 yX8_goesOn yX8_goesOn ∈ kw_ws := kw_ws_in (List.mem_append_left _ (List.mem_of_getElem? (i := 20) (by decide +kernel))) rfl
theorem wVX8_readsTown : Cond.selects RX8 yX8_readsTown yX8_readsTown ∈ kw_ws := kw_ws_in (List.mem_append_left _ (List.mem_of_getElem? (i := 21) (by decide +kernel))) rfl
theorem wVX8_readsWinds : Cond.selects RX8 yX8_readsWinds yX8_readsWinds ∈ kw_ws := kw_ws_in (List.mem_append_left _ (List.mem_of_getElem? (i := 22) (by decide +kernel))) rfl
theorem wVX8_skip : Cond.selects RX8 yX8_skip yX8_skip ∈ kw_ws := kw_ws_in (List.mem_append_left _ (List.mem_of_getElem? (i := 23) (by decide +kernel))) rfl
theorem wVX8_here : Cond.selects RX8 yX8_here yX8_here ∈ kw_ws := kw_ws_in (List.mem_append_left _ (List.mem_of_getElem? (i := 24) (by decide +kernel))) rfl
theorem wVX8_readsLine : Cond.selects RX8 yX8_readsLine yX8_readsLine ∈ kw_ws := kw_ws_in (List.mem_append_left _ (List.mem_of_getElem? (i := 25) (by decide +kernel))) rfl
theorem wVX8_figure : Cond.selects RX8 yX8_figure yX8_figure ∈ kw_ws := kw_ws_in (List.mem_append_left _ (List.mem_of_getElem? (i := 26) (by decide +kernel))) rfl
theorem wVX8_isLine : Cond.selects RX8 yX8_isLine yX8_isLine ∈ kw_ws := kw_ws_in (List.mem_append_left _ (List.mem_of_getElem? (i := 27) (by decide +kernel))) rfl
theorem wVX8_turnLine : Cond.selects RX8 yX8_turnLine yX8_turnLine ∈ kw_ws := kw_ws_in (List.mem_append_left _ (List.mem_of_getElem? (i := 28) (by decide +kernel))) rfl
theorem wVX8_note : Cond.selects RX8 yX8_note yX8_note ∈ kw_ws := kw_ws_in (List.mem_append_left _ (List.mem_of_getElem? (i := 29) (by decide +kernel))) rfl
theorem wVX8_write : Cond.selects RX8 yX8_write yX8_write ∈ kw_ws := kw_ws_in (List.mem_append_left _ (List.mem_of_getElem? (i := 30) (by decide +kernel))) rfl
theorem wVX8_pass : Cond.selects RX8 yX8_pass yX8_pass ∈ kw_ws := kw_ws_in (List.mem_append_left _ (List.mem_of_getElem? (i := 31) (by decide +kernel))) rfl
theorem wVX8_windAt : Cond.selects RX8 yX8_windAt yX8_windAt ∈ kw_ws := kw_ws_in (List.mem_append_left _ (List.mem_of_getElem? (i := 32) (by decide +kernel))) rfl
theorem wVX8_milesBy : Cond.selects RX8 yX8_milesBy yX8_milesBy ∈ kw_ws := kw_ws_in (List.mem_append_left _ (List.mem_of_getElem? (i := 33) (by decide +kernel))) rfl
theorem wVX8_pullOf : Cond.selects RX8 yX8_pullOf yX8_pullOf ∈ kw_ws := kw_ws_in (List.mem_append_left _ (List.mem_of_getElem? (i := 34) (by decide +kernel))) rfl
theorem wVX8_turnBy : Cond.selects RX8 yX8_turnBy yX8_turnBy ∈ kw_ws := kw_ws_in (List.mem_append_left _ (List.mem_of_getElem? (i := 35) (by decide +kernel))) rfl
theorem wVX8_wetBehind : Cond.selects RX8 yX8_wetBehind yX8_wetBehind ∈ kw_ws := kw_ws_in (List.mem_append_left _ (List.mem_of_getElem? (i := 36) (by decide +kernel))) rfl
theorem wVX8_part : Cond.selects RX8 yX8_part yX8_part ∈ kw_ws := kw_ws_in (List.mem_append_left _ (List.mem_of_getElem? (i := 37) (by decide +kernel))) rfl
theorem wVX8_read : Cond.selects RX8 yX8_read yX8_read ∈ kw_ws := kw_ws_in (List.mem_append_left _ (List.mem_of_getElem? (i := 38) (by decide +kernel))) rfl
theorem wVX8_lineOf : Cond.selects RX8 yX8_lineOf yX8_lineOf ∈ kw_ws := kw_ws_in (List.mem_append_left _ (List.mem_of_getElem? (i := 39) (by decide +kernel))) rfl
theorem wVX8_hoursTill : Cond.selects RX8 yX8_hoursTill yX8_hoursTill ∈ kw_ws := kw_ws_in (List.mem_append_left _ (List.mem_of_getElem? (i := 40) (by decide +kernel))) rfl
theorem wVX8_lesserOnes : Cond.selects RX8 yX8_lesserOnes yX8_lesserOnes ∈ kw_ws := kw_ws_in (List.mem_append_left _ (List.mem_of_getElem? (i := 41) (by decide +kernel))) rfl
theorem wVX8_isSet : Cond.selects RX8 yX8_isSet yX8_isSet ∈ kw_ws := kw_ws_in (List.mem_append_left _ (List.mem_of_getElem? (i := 42) (by decide +kernel))) rfl
theorem wVX8_linenOf : Cond.selects RX8 yX8_linenOf yX8_linenOf ∈ kw_ws := kw_ws_in (List.mem_append_left _ (List.mem_of_getElem? (i := 43) (by decide +kernel))) rfl
theorem wVX8_wetOfAll : Cond.selects RX8 yX8_wetOfAll yX8_wetOfAll ∈ kw_ws := kw_ws_in (List.mem_append_left _ (List.mem_of_getElem? (i := 44) (by decide +kernel))) rfl
theorem wVX8_askedPlan : Cond.selects RX8 yX8_askedPlan yX8_askedPlan ∈ kw_ws := kw_ws_in (List.mem_append_left _ (List.mem_of_getElem? (i := 45) (by decide +kernel))) rfl
theorem wVX8_setHours : Cond.selects RX8 yX8_setHours yX8_setHours ∈ kw_ws := kw_ws_in (List.mem_append_left _ (List.mem_of_getElem? (i := 46) (by decide +kernel))) rfl
theorem wVX8_farBy : Cond.selects RX8 yX8_farBy yX8_farBy ∈ kw_ws := kw_ws_in (List.mem_append_left _ (List.mem_of_getElem? (i := 47) (by decide +kernel))) rfl
theorem wVX8_mostOf : Cond.selects RX8 yX8_mostOf yX8_mostOf ∈ kw_ws := kw_ws_in (List.mem_append_left _ (List.mem_of_getElem? (i := 48) (by decide +kernel))) rfl
theorem wVX8_askedPulls : Cond.selects RX8 yX8_askedPulls yX8_askedPulls ∈ kw_ws := kw_ws_in (List.mem_append_left _ (List.mem_of_getElem? (i := 49) (by decide +kernel))) rfl
theorem wVX8_pullsSo : Cond.selects RX8 yX8_pullsSo yX8_pullsSo ∈ kw_ws := kw_ws_in (List.mem_append_left _ (List.mem_of_getElem? (i := 50) (by decide +kernel))) rfl
theorem wVX8_gustMiles : Cond.selects RX8 yX8_gustMiles yX8_gustMiles ∈ kw_ws := kw_ws_in (List.mem_append_left _ (List.mem_of_getElem? (i := 51) (by decide +kernel))) rfl
theorem wVX8_weightOf : Cond.selects RX8 yX8_weightOf yX8_weightOf ∈ kw_ws := kw_ws_in (List.mem_append_left _ (List.mem_of_getElem? (i := 52) (by decide +kernel))) rfl
theorem wVX8_tells : Cond.selects RX8 yX8_tells yX8_tells ∈ kw_ws := kw_ws_in (List.mem_append_left _ (List.mem_of_getElem? (i := 53) (by decide +kernel))) rfl
theorem wVX8_howMany : Cond.selects RX8 yX8_howMany yX8_howMany ∈ kw_ws := kw_ws_in (List.mem_append_left _ (List.mem_of_getElem? (i := 54) (by decide +kernel))) rfl
theorem wVX8_there : Cond.selects RX8 yX8_there yX8_there ∈ kw_ws := kw_ws_in (List.mem_append_left _ (List.mem_of_getElem? (i := 55) (by decide +kernel))) rfl
theorem wVX8_mix : Cond.selects RX8 yX8_mix yX8_mix ∈ kw_ws := kw_ws_in (List.mem_append_left _ (List.mem_of_getElem? (i := 56) (by decide +kernel))) rfl
theorem wVX8_mixTown : Cond.selects RX8 yX8_mixTown yX8_mixTown ∈ kw_ws := kw_ws_in (List.mem_append_left _ (List.mem_of_getElem? (i := 57) (by decide +kernel))) rfl
theorem kfX3_9 : Cond.fieldLink RX3 9 RX3 (TX3 0).2.1 (TX3 0).2.2.1 ∈ kw_ws := kz_1 (List.mem_of_getElem? (i := 33) (by first | exact rfl | decide +kernel)) rfl
theorem lkX3_9 : kw_lk RX3 9 3 0 := ⟨RX3, TX3, 3, rfl, by decide, inW3, rfl, kfX3_9⟩
theorem kfX7_348 : Cond.fieldLink RX7 348 RX3 (TX3 0).2.1 (TX3 0).2.2.1 ∈ kw_ws := kz_1 (List.mem_of_getElem? (i := 34) (by first | exact rfl | decide +kernel)) rfl
theorem lkX7_348 : kw_lk RX7 348 3 0 := ⟨RX3, TX3, 3, rfl, by decide, inW3, rfl, kfX7_348⟩
theorem kfX3_17 : Cond.fieldLink RX3 17 RX3 (TX3 1).2.1 (TX3 1).2.2.1 ∈ kw_ws := kz_1 (List.mem_of_getElem? (i := 35) (by first | exact rfl | decide +kernel)) rfl
theorem lkX3_17 : kw_lk RX3 17 3 1 := ⟨RX3, TX3, 3, rfl, by decide, inW3, rfl, kfX3_17⟩
theorem kfX3_20 : Cond.fieldLink RX3 20 RX3 (TX3 2).2.1 (TX3 2).2.2.1 ∈ kw_ws := kz_1 (List.mem_of_getElem? (i := 36) (by first | exact rfl | decide +kernel)) rfl
theorem lkX3_20 : kw_lk RX3 20 3 2 := ⟨RX3, TX3, 3, rfl, by decide, inW3, rfl, kfX3_20⟩
theorem kfX1_9 : Cond.fieldLink RX1 9 RX1 (TX1 0).2.1 (TX1 0).2.2.1 ∈ kw_ws := kz_1 (List.mem_of_getElem? (i := 57) (by first | exact rfl | decide +kernel)) rfl
theorem lkX1_9 : kw_lk RX1 9 1 0 := ⟨RX1, TX1, 7, rfl, by decide, inW1, rfl, kfX1_9⟩
theorem kfX2_56 : Cond.fieldLink RX2 56 RX1 (TX1 0).2.1 (TX1 0).2.2.1 ∈ kw_ws := kz_1 (List.mem_of_getElem? (i := 58) (by first | exact rfl | decide +kernel)) rfl
theorem lkX2_56 : kw_lk RX2 56 1 0 := ⟨RX1, TX1, 7, rfl, by decide, inW1, rfl, kfX2_56⟩
theorem kfX5_49 : Cond.fieldLink RX5 49 RX1 (TX1 0).2.1 (TX1 0).2.2.1 ∈ kw_ws := kz_1 (List.mem_of_getElem? (i := 59) (by first | exact rfl | decide +kernel)) rfl
theorem lkX5_49 : kw_lk RX5 49 1 0 := ⟨RX1, TX1, 7, rfl, by decide, inW1, rfl, kfX5_49⟩
theorem kfX7_143 : Cond.fieldLink RX7 143 RX1 (TX1 0).2.1 (TX1 0).2.2.1 ∈ kw_ws := kz_1 (List.mem_of_getElem? (i := 60) (by first | exact rfl | decide +kernel)) rfl
theorem lkX7_143 : kw_lk RX7 143 1 0 := ⟨RX1, TX1, 7, rfl, by decide, inW1, rfl, kfX7_143⟩
theorem kfX1_15 : Cond.fieldLink RX1 15 RX1 (TX1 1).2.1 (TX1 1).2.2.1 ∈ kw_ws := kz_1 (List.mem_of_getElem? (i := 61) (by first | exact rfl | decide +kernel)) rfl
theorem lkX1_15 : kw_lk RX1 15 1 1 := ⟨RX1, TX1, 7, rfl, by decide, inW1, rfl, kfX1_15⟩
theorem kfX0_32 : Cond.fieldLink RX0 32 RX1 (TX1 1).2.1 (TX1 1).2.2.1 ∈ kw_ws := kz_1 (List.mem_of_getElem? (i := 62) (by first | exact rfl | decide +kernel)) rfl
theorem lkX0_32 : kw_lk RX0 32 1 1 := ⟨RX1, TX1, 7, rfl, by decide, inW1, rfl, kfX0_32⟩
theorem kfX2_59 : Cond.fieldLink RX2 59 RX1 (TX1 1).2.1 (TX1 1).2.2.1 ∈ kw_ws := kz_1 (List.mem_of_getElem? (i := 63) (by first | exact rfl | decide +kernel)) rfl
theorem lkX2_59 : kw_lk RX2 59 1 1 := ⟨RX1, TX1, 7, rfl, by decide, inW1, rfl, kfX2_59⟩
theorem kfX5_52 : Cond.fieldLink RX5 52 RX1 (TX1 1).2.1 (TX1 1).2.2.1 ∈ kw_ws := kz_1 (List.mem_of_getElem? (i := 64) (by first | exact rfl | decide +kernel)) rfl
theorem lkX5_52 : kw_lk RX5 52 1 1 := ⟨RX1, TX1, 7, rfl, by decide, inW1, rfl, kfX5_52⟩
theorem kfX1_18 : Cond.fieldLink RX1 18 RX1 (TX1 2).2.1 (TX1 2).2.2.1 ∈ kw_ws := kz_1 (List.mem_of_getElem? (i := 65) (by first | exact rfl | decide +kernel)) rfl
theorem lkX1_18 : kw_lk RX1 18 1 2 := ⟨RX1, TX1, 7, rfl, by decide, inW1, rfl, kfX1_18⟩
theorem kfX2_66 : Cond.fieldLink RX2 66 RX1 (TX1 2).2.1 (TX1 2).2.2.1 ∈ kw_ws := kz_1 (List.mem_of_getElem? (i := 66) (by first | exact rfl | decide +kernel)) rfl
theorem lkX2_66 : kw_lk RX2 66 1 2 := ⟨RX1, TX1, 7, rfl, by decide, inW1, rfl, kfX2_66⟩
theorem kfX5_55 : Cond.fieldLink RX5 55 RX1 (TX1 2).2.1 (TX1 2).2.2.1 ∈ kw_ws := kz_1 (List.mem_of_getElem? (i := 67) (by first | exact rfl | decide +kernel)) rfl
theorem lkX5_55 : kw_lk RX5 55 1 2 := ⟨RX1, TX1, 7, rfl, by decide, inW1, rfl, kfX5_55⟩
theorem kfX7_168 : Cond.fieldLink RX7 168 RX1 (TX1 2).2.1 (TX1 2).2.2.1 ∈ kw_ws := kz_1 (List.mem_of_getElem? (i := 68) (by first | exact rfl | decide +kernel)) rfl
theorem lkX7_168 : kw_lk RX7 168 1 2 := ⟨RX1, TX1, 7, rfl, by decide, inW1, rfl, kfX7_168⟩
theorem kfX1_21 : Cond.fieldLink RX1 21 RX1 (TX1 3).2.1 (TX1 3).2.2.1 ∈ kw_ws := kz_1 (List.mem_of_getElem? (i := 69) (by first | exact rfl | decide +kernel)) rfl
theorem lkX1_21 : kw_lk RX1 21 1 3 := ⟨RX1, TX1, 7, rfl, by decide, inW1, rfl, kfX1_21⟩
theorem kfX2_69 : Cond.fieldLink RX2 69 RX1 (TX1 3).2.1 (TX1 3).2.2.1 ∈ kw_ws := kz_1 (List.mem_of_getElem? (i := 70) (by first | exact rfl | decide +kernel)) rfl
theorem lkX2_69 : kw_lk RX2 69 1 3 := ⟨RX1, TX1, 7, rfl, by decide, inW1, rfl, kfX2_69⟩
theorem kfX5_58 : Cond.fieldLink RX5 58 RX1 (TX1 3).2.1 (TX1 3).2.2.1 ∈ kw_ws := kz_1 (List.mem_of_getElem? (i := 71) (by first | exact rfl | decide +kernel)) rfl
theorem lkX5_58 : kw_lk RX5 58 1 3 := ⟨RX1, TX1, 7, rfl, by decide, inW1, rfl, kfX5_58⟩
theorem kfX1_24 : Cond.fieldLink RX1 24 RX1 (TX1 4).2.1 (TX1 4).2.2.1 ∈ kw_ws := kz_1 (List.mem_of_getElem? (i := 72) (by first | exact rfl | decide +kernel)) rfl
theorem lkX1_24 : kw_lk RX1 24 1 4 := ⟨RX1, TX1, 7, rfl, by decide, inW1, rfl, kfX1_24⟩
theorem kfX2_49 : Cond.fieldLink RX2 49 RX1 (TX1 4).2.1 (TX1 4).2.2.1 ∈ kw_ws := kz_1 (List.mem_of_getElem? (i := 73) (by first | exact rfl | decide +kernel)) rfl
theorem lkX2_49 : kw_lk RX2 49 1 4 := ⟨RX1, TX1, 7, rfl, by decide, inW1, rfl, kfX2_49⟩
theorem kfX0_18 : Cond.fieldLink RX0 18 RX1 (TX1 5).2.1 (TX1 5).2.2.1 ∈ kw_ws := kz_1 (List.mem_of_getElem? (i := 74) (by first | exact rfl | decide +kernel)) rfl
theorem lkX0_18 : kw_lk RX0 18 1 5 := ⟨RX1, TX1, 7, rfl, by decide, inW1, rfl, kfX0_18⟩
theorem lpX0_18 : kw_lkP RX0 18 1 5 .int := ⟨RX1, TX1, 7, tyX1, rfl, by decide, inW1, rfl, kfX0_18, tyX1_ok, nmX1, rfl, by decide +kernel⟩
theorem kfX5_25 : Cond.fieldLink RX5 25 RX1 (TX1 5).2.1 (TX1 5).2.2.1 ∈ kw_ws := kz_1 (List.mem_of_getElem? (i := 75) (by first | exact rfl | decide +kernel)) rfl
theorem lkX5_25 : kw_lk RX5 25 1 5 := ⟨RX1, TX1, 7, rfl, by decide, inW1, rfl, kfX5_25⟩
theorem lpX5_25 : kw_lkP RX5 25 1 5 .int := ⟨RX1, TX1, 7, tyX1, rfl, by decide, inW1, rfl, kfX5_25, tyX1_ok, nmX1, rfl, by decide +kernel⟩
theorem kfX2_18 : Cond.fieldLink RX2 18 RX1 (TX1 5).2.1 (TX1 5).2.2.1 ∈ kw_ws := kz_1 (List.mem_of_getElem? (i := 76) (by first | exact rfl | decide +kernel)) rfl
theorem lkX2_18 : kw_lk RX2 18 1 5 := ⟨RX1, TX1, 7, rfl, by decide, inW1, rfl, kfX2_18⟩
theorem lpX2_18 : kw_lkP RX2 18 1 5 .int := ⟨RX1, TX1, 7, tyX1, rfl, by decide, inW1, rfl, kfX2_18, tyX1_ok, nmX1, rfl, by decide +kernel⟩
theorem kfX1_33 : Cond.fieldLink RX1 33 RX1 (TX1 5).2.1 (TX1 5).2.2.1 ∈ kw_ws := kz_1 (List.mem_of_getElem? (i := 77) (by first | exact rfl | decide +kernel)) rfl
theorem lkX1_33 : kw_lk RX1 33 1 5 := ⟨RX1, TX1, 7, rfl, by decide, inW1, rfl, kfX1_33⟩
theorem lpX1_33 : kw_lkP RX1 33 1 5 .int := ⟨RX1, TX1, 7, tyX1, rfl, by decide, inW1, rfl, kfX1_33, tyX1_ok, nmX1, rfl, by decide +kernel⟩
theorem kfX7_133 : Cond.fieldLink RX7 133 RX1 (TX1 5).2.1 (TX1 5).2.2.1 ∈ kw_ws := kz_1 (List.mem_of_getElem? (i := 78) (by first | exact rfl | decide +kernel)) rfl
theorem lkX7_133 : kw_lk RX7 133 1 5 := ⟨RX1, TX1, 7, rfl, by decide, inW1, rfl, kfX7_133⟩
theorem lpX7_133 : kw_lkP RX7 133 1 5 .int := ⟨RX1, TX1, 7, tyX1, rfl, by decide, inW1, rfl, kfX7_133, tyX1_ok, nmX1, rfl, by decide +kernel⟩
theorem kfX2_22 : Cond.fieldLink RX2 22 RX1 (TX1 6).2.1 (TX1 6).2.2.1 ∈ kw_ws := kz_1 (List.mem_of_getElem? (i := 79) (by first | exact rfl | decide +kernel)) rfl
theorem lkX2_22 : kw_lk RX2 22 1 6 := ⟨RX1, TX1, 7, rfl, by decide, inW1, rfl, kfX2_22⟩
theorem lpX2_22 : kw_lkP RX2 22 1 6 .int := ⟨RX1, TX1, 7, tyX1, rfl, by decide, inW1, rfl, kfX2_22, tyX1_ok, nmX1, rfl, by decide +kernel⟩
theorem kfX1_37 : Cond.fieldLink RX1 37 RX1 (TX1 6).2.1 (TX1 6).2.2.1 ∈ kw_ws := kz_1 (List.mem_of_getElem? (i := 80) (by first | exact rfl | decide +kernel)) rfl
theorem lkX1_37 : kw_lk RX1 37 1 6 := ⟨RX1, TX1, 7, rfl, by decide, inW1, rfl, kfX1_37⟩
theorem lpX1_37 : kw_lkP RX1 37 1 6 .int := ⟨RX1, TX1, 7, tyX1, rfl, by decide, inW1, rfl, kfX1_37, tyX1_ok, nmX1, rfl, by decide +kernel⟩
theorem kfX2_12 : Cond.fieldLink RX2 12 RX2 (TX2 0).2.1 (TX2 0).2.2.1 ∈ kw_ws := kz_1 (List.mem_of_getElem? (i := 96) (by first | exact rfl | decide +kernel)) rfl
theorem lkX2_12 : kw_lk RX2 12 2 0 := ⟨RX2, TX2, 2, rfl, by decide, inW2, rfl, kfX2_12⟩
theorem kfX7_121 : Cond.fieldLink RX7 121 RX2 (TX2 0).2.1 (TX2 0).2.2.1 ∈ kw_ws := kz_1 (List.mem_of_getElem? (i := 97) (by first | exact rfl | decide +kernel)) rfl
theorem lkX7_121 : kw_lk RX7 121 2 0 := ⟨RX2, TX2, 2, rfl, by decide, inW2, rfl, kfX7_121⟩
theorem kfX2_25 : Cond.fieldLink RX2 25 RX2 (TX2 1).2.1 (TX2 1).2.2.1 ∈ kw_ws := kz_1 (List.mem_of_getElem? (i := 98) (by first | exact rfl | decide +kernel)) rfl
theorem lkX2_25 : kw_lk RX2 25 2 1 := ⟨RX2, TX2, 2, rfl, by decide, inW2, rfl, kfX2_25⟩
theorem lpX2_25 : kw_lkP RX2 25 2 1 .int := ⟨RX2, TX2, 2, tyX2, rfl, by decide, inW2, rfl, kfX2_25, tyX2_ok, nmX2, rfl, by decide +kernel⟩
theorem kfX5_12 : Cond.fieldLink RX5 12 RX5 (TX5 0).2.1 (TX5 0).2.2.1 ∈ kw_ws := kz_1 (List.mem_of_getElem? (i := 112) (by first | exact rfl | decide +kernel)) rfl
theorem lkX5_12 : kw_lk RX5 12 5 0 := ⟨RX5, TX5, 8, rfl, by decide, inW5, rfl, kfX5_12⟩
theorem kfX6_51 : Cond.fieldLink RX6 51 RX5 (TX5 0).2.1 (TX5 0).2.2.1 ∈ kw_ws := kz_1 (List.mem_of_getElem? (i := 113) (by first | exact rfl | decide +kernel)) rfl
theorem lkX6_51 : kw_lk RX6 51 5 0 := ⟨RX5, TX5, 8, rfl, by decide, inW5, rfl, kfX6_51⟩
theorem kfX7_117 : Cond.fieldLink RX7 117 RX5 (TX5 0).2.1 (TX5 0).2.2.1 ∈ kw_ws := kz_1 (List.mem_of_getElem? (i := 114) (by first | exact rfl | decide +kernel)) rfl
theorem lkX7_117 : kw_lk RX7 117 5 0 := ⟨RX5, TX5, 8, rfl, by decide, inW5, rfl, kfX7_117⟩
theorem kfX5_18 : Cond.fieldLink RX5 18 RX5 (TX5 1).2.1 (TX5 1).2.2.1 ∈ kw_ws := kz_1 (List.mem_of_getElem? (i := 115) (by first | exact rfl | decide +kernel)) rfl
theorem lkX5_18 : kw_lk RX5 18 5 1 := ⟨RX5, TX5, 8, rfl, by decide, inW5, rfl, kfX5_18⟩
theorem kfX7_213 : Cond.fieldLink RX7 213 RX5 (TX5 1).2.1 (TX5 1).2.2.1 ∈ kw_ws := kz_1 (List.mem_of_getElem? (i := 116) (by first | exact rfl | decide +kernel)) rfl
theorem lkX7_213 : kw_lk RX7 213 5 1 := ⟨RX5, TX5, 8, rfl, by decide, inW5, rfl, kfX7_213⟩
theorem kfX5_22 : Cond.fieldLink RX5 22 RX5 (TX5 2).2.1 (TX5 2).2.2.1 ∈ kw_ws := kz_1 (List.mem_of_getElem? (i := 117) (by first | exact rfl | decide +kernel)) rfl
theorem lkX5_22 : kw_lk RX5 22 5 2 := ⟨RX5, TX5, 8, rfl, by decide, inW5, rfl, kfX5_22⟩
theorem kfX7_194 : Cond.fieldLink RX7 194 RX5 (TX5 2).2.1 (TX5 2).2.2.1 ∈ kw_ws := kz_1 (List.mem_of_getElem? (i := 118) (by first | exact rfl | decide +kernel)) rfl
theorem lkX7_194 : kw_lk RX7 194 5 2 := ⟨RX5, TX5, 8, rfl, by decide, inW5, rfl, kfX7_194⟩
theorem kfX5_32 : Cond.fieldLink RX5 32 RX5 (TX5 3).2.1 (TX5 3).2.2.1 ∈ kw_ws := kz_1 (List.mem_of_getElem? (i := 119) (by first | exact rfl | decide +kernel)) rfl
theorem lkX5_32 : kw_lk RX5 32 5 3 := ⟨RX5, TX5, 8, rfl, by decide, inW5, rfl, kfX5_32⟩
theorem lpX5_32 : kw_lkP RX5 32 5 3 .int := ⟨RX5, TX5, 8, tyX5, rfl, by decide, inW5, rfl, kfX5_32, tyX5_ok, nmX5, rfl, by decide +kernel⟩
theorem kfX7_207 : Cond.fieldLink RX7 207 RX5 (TX5 3).2.1 (TX5 3).2.2.1 ∈ kw_ws := kz_1 (List.mem_of_getElem? (i := 120) (by first | exact rfl | decide +kernel)) rfl
theorem lkX7_207 : kw_lk RX7 207 5 3 := ⟨RX5, TX5, 8, rfl, by decide, inW5, rfl, kfX7_207⟩
theorem lpX7_207 : kw_lkP RX7 207 5 3 .int := ⟨RX5, TX5, 8, tyX5, rfl, by decide, inW5, rfl, kfX7_207, tyX5_ok, nmX5, rfl, by decide +kernel⟩
theorem kfX5_29 : Cond.fieldLink RX5 29 RX5 (TX5 4).2.1 (TX5 4).2.2.1 ∈ kw_ws := kz_1 (List.mem_of_getElem? (i := 121) (by first | exact rfl | decide +kernel)) rfl
theorem lkX5_29 : kw_lk RX5 29 5 4 := ⟨RX5, TX5, 8, rfl, by decide, inW5, rfl, kfX5_29⟩
theorem lpX5_29 : kw_lkP RX5 29 5 4 .int := ⟨RX5, TX5, 8, tyX5, rfl, by decide, inW5, rfl, kfX5_29, tyX5_ok, nmX5, rfl, by decide +kernel⟩
theorem kfX7_157 : Cond.fieldLink RX7 157 RX5 (TX5 4).2.1 (TX5 4).2.2.1 ∈ kw_ws := kz_1 (List.mem_of_getElem? (i := 122) (by first | exact rfl | decide +kernel)) rfl
theorem lkX7_157 : kw_lk RX7 157 5 4 := ⟨RX5, TX5, 8, rfl, by decide, inW5, rfl, kfX7_157⟩
theorem lpX7_157 : kw_lkP RX7 157 5 4 .int := ⟨RX5, TX5, 8, tyX5, rfl, by decide, inW5, rfl, kfX7_157, tyX5_ok, nmX5, rfl, by decide +kernel⟩
theorem kfX5_35 : Cond.fieldLink RX5 35 RX5 (TX5 5).2.1 (TX5 5).2.2.1 ∈ kw_ws := kz_1 (List.mem_of_getElem? (i := 123) (by first | exact rfl | decide +kernel)) rfl
theorem lkX5_35 : kw_lk RX5 35 5 5 := ⟨RX5, TX5, 8, rfl, by decide, inW5, rfl, kfX5_35⟩
theorem lpX5_35 : kw_lkP RX5 35 5 5 .int := ⟨RX5, TX5, 8, tyX5, rfl, by decide, inW5, rfl, kfX5_35, tyX5_ok, nmX5, rfl, by decide +kernel⟩
theorem kfX7_322 : Cond.fieldLink RX7 322 RX5 (TX5 5).2.1 (TX5 5).2.2.1 ∈ kw_ws := kz_1 (List.mem_of_getElem? (i := 124) (by first | exact rfl | decide +kernel)) rfl
theorem lkX7_322 : kw_lk RX7 322 5 5 := ⟨RX5, TX5, 8, rfl, by decide, inW5, rfl, kfX7_322⟩
theorem lpX7_322 : kw_lkP RX7 322 5 5 .int := ⟨RX5, TX5, 8, tyX5, rfl, by decide, inW5, rfl, kfX7_322, tyX5_ok, nmX5, rfl, by decide +kernel⟩
theorem kfX6_68 : Cond.fieldLink RX6 68 RX5 (TX5 6).2.1 (TX5 6).2.2.1 ∈ kw_ws := kz_1 (List.mem_of_getElem? (i := 125) (by first | exact rfl | decide +kernel)) rfl
theorem lkX6_68 : kw_lk RX6 68 5 6 := ⟨RX5, TX5, 8, rfl, by decide, inW5, rfl, kfX6_68⟩
theorem lpX6_68 : kw_lkP RX6 68 5 6 .int := ⟨RX5, TX5, 8, tyX5, rfl, by decide, inW5, rfl, kfX6_68, tyX5_ok, nmX5, rfl, by decide +kernel⟩
theorem kfX5_78 : Cond.fieldLink RX5 78 RX5 (TX5 6).2.1 (TX5 6).2.2.1 ∈ kw_ws := kz_1 (List.mem_of_getElem? (i := 126) (by first | exact rfl | decide +kernel)) rfl
theorem lkX5_78 : kw_lk RX5 78 5 6 := ⟨RX5, TX5, 8, rfl, by decide, inW5, rfl, kfX5_78⟩
theorem lpX5_78 : kw_lkP RX5 78 5 6 .int := ⟨RX5, TX5, 8, tyX5, rfl, by decide, inW5, rfl, kfX5_78, tyX5_ok, nmX5, rfl, by decide +kernel⟩
theorem kfX7_204 : Cond.fieldLink RX7 204 RX5 (TX5 6).2.1 (TX5 6).2.2.1 ∈ kw_ws := kz_1 (List.mem_of_getElem? (i := 127) (by first | exact rfl | decide +kernel)) rfl
theorem lkX7_204 : kw_lk RX7 204 5 6 := ⟨RX5, TX5, 8, rfl, by decide, inW5, rfl, kfX7_204⟩
theorem lpX7_204 : kw_lkP RX7 204 5 6 .int := ⟨RX5, TX5, 8, tyX5, rfl, by decide, inW5, rfl, kfX7_204, tyX5_ok, nmX5, rfl, by decide +kernel⟩
theorem kfX6_71 : Cond.fieldLink RX6 71 RX5 (TX5 7).2.1 (TX5 7).2.2.1 ∈ kw_ws := kz_1 (List.mem_of_getElem? (i := 128) (by first | exact rfl | decide +kernel)) rfl
theorem lkX6_71 : kw_lk RX6 71 5 7 := ⟨RX5, TX5, 8, rfl, by decide, inW5, rfl, kfX6_71⟩
theorem lpX6_71 : kw_lkP RX6 71 5 7 .int := ⟨RX5, TX5, 8, tyX5, rfl, by decide, inW5, rfl, kfX6_71, tyX5_ok, nmX5, rfl, by decide +kernel⟩
theorem kfX5_84 : Cond.fieldLink RX5 84 RX5 (TX5 7).2.1 (TX5 7).2.2.1 ∈ kw_ws := kz_1 (List.mem_of_getElem? (i := 129) (by first | exact rfl | decide +kernel)) rfl
theorem lkX5_84 : kw_lk RX5 84 5 7 := ⟨RX5, TX5, 8, rfl, by decide, inW5, rfl, kfX5_84⟩
theorem lpX5_84 : kw_lkP RX5 84 5 7 .int := ⟨RX5, TX5, 8, tyX5, rfl, by decide, inW5, rfl, kfX5_84, tyX5_ok, nmX5, rfl, by decide +kernel⟩
theorem kfX7_197 : Cond.fieldLink RX7 197 RX5 (TX5 7).2.1 (TX5 7).2.2.1 ∈ kw_ws := kz_1 (List.mem_of_getElem? (i := 130) (by first | exact rfl | decide +kernel)) rfl
theorem lkX7_197 : kw_lk RX7 197 5 7 := ⟨RX5, TX5, 8, rfl, by decide, inW5, rfl, kfX7_197⟩
theorem lpX7_197 : kw_lkP RX7 197 5 7 .int := ⟨RX5, TX5, 8, tyX5, rfl, by decide, inW5, rfl, kfX7_197, tyX5_ok, nmX5, rfl, by decide +kernel⟩
theorem kfX0_9 : Cond.fieldLink RX0 9 RX0 (TX0 0).2.1 (TX0 0).2.2.1 ∈ kw_ws := kz_1 (List.mem_of_getElem? (i := 154) (by first | exact rfl | decide +kernel)) rfl
theorem lkX0_9 : kw_lk RX0 9 0 0 := ⟨RX0, TX0, 4, rfl, by decide, inW0, rfl, kfX0_9⟩
theorem kfX0_15 : Cond.fieldLink RX0 15 RX0 (TX0 1).2.1 (TX0 1).2.2.1 ∈ kw_ws := kz_1 (List.mem_of_getElem? (i := 155) (by first | exact rfl | decide +kernel)) rfl
theorem lkX0_15 : kw_lk RX0 15 0 1 := ⟨RX0, TX0, 4, rfl, by decide, inW0, rfl, kfX0_15⟩
theorem kfX0_24 : Cond.fieldLink RX0 24 RX0 (TX0 2).2.1 (TX0 2).2.2.1 ∈ kw_ws := kz_1 (List.mem_of_getElem? (i := 156) (by first | exact rfl | decide +kernel)) rfl
theorem lkX0_24 : kw_lk RX0 24 0 2 := ⟨RX0, TX0, 4, rfl, by decide, inW0, rfl, kfX0_24⟩
theorem lpX0_24 : kw_lkP RX0 24 0 2 .int := ⟨RX0, TX0, 4, tyX0, rfl, by decide, inW0, rfl, kfX0_24, tyX0_ok, nmX0, rfl, by decide +kernel⟩
theorem kfX7_351 : Cond.fieldLink RX7 351 RX0 (TX0 2).2.1 (TX0 2).2.2.1 ∈ kw_ws := kz_1 (List.mem_of_getElem? (i := 157) (by first | exact rfl | decide +kernel)) rfl
theorem lkX7_351 : kw_lk RX7 351 0 2 := ⟨RX0, TX0, 4, rfl, by decide, inW0, rfl, kfX7_351⟩
theorem lpX7_351 : kw_lkP RX7 351 0 2 .int := ⟨RX0, TX0, 4, tyX0, rfl, by decide, inW0, rfl, kfX7_351, tyX0_ok, nmX0, rfl, by decide +kernel⟩
theorem kfX0_25 : Cond.fieldLink RX0 25 RX0 (TX0 3).2.1 (TX0 3).2.2.1 ∈ kw_ws := kz_1 (List.mem_of_getElem? (i := 158) (by first | exact rfl | decide +kernel)) rfl
theorem lkX0_25 : kw_lk RX0 25 0 3 := ⟨RX0, TX0, 4, rfl, by decide, inW0, rfl, kfX0_25⟩
theorem lpX0_25 : kw_lkP RX0 25 0 3 .int := ⟨RX0, TX0, 4, tyX0, rfl, by decide, inW0, rfl, kfX0_25, tyX0_ok, nmX0, rfl, by decide +kernel⟩
theorem kfX6_87 : Cond.fieldLink RX6 87 RX0 (TX0 3).2.1 (TX0 3).2.2.1 ∈ kw_ws := kz_1 (List.mem_of_getElem? (i := 159) (by first | exact rfl | decide +kernel)) rfl
theorem lkX6_87 : kw_lk RX6 87 0 3 := ⟨RX0, TX0, 4, rfl, by decide, inW0, rfl, kfX6_87⟩
theorem lpX6_87 : kw_lkP RX6 87 0 3 .int := ⟨RX0, TX0, 4, tyX0, rfl, by decide, inW0, rfl, kfX6_87, tyX0_ok, nmX0, rfl, by decide +kernel⟩
theorem kfX7_229 : Cond.fieldLink RX7 229 RX0 (TX0 3).2.1 (TX0 3).2.2.1 ∈ kw_ws := kz_1 (List.mem_of_getElem? (i := 160) (by first | exact rfl | decide +kernel)) rfl
theorem lkX7_229 : kw_lk RX7 229 0 3 := ⟨RX0, TX0, 4, rfl, by decide, inW0, rfl, kfX7_229⟩
theorem lpX7_229 : kw_lkP RX7 229 0 3 .int := ⟨RX0, TX0, 4, tyX0, rfl, by decide, inW0, rfl, kfX7_229, tyX0_ok, nmX0, rfl, by decide +kernel⟩
theorem kfX6_9 : Cond.fieldLink RX6 9 RX6 (TX6 0).2.1 (TX6 0).2.2.1 ∈ kw_ws := kz_1 (List.mem_of_getElem? (i := 179) (by first | exact rfl | decide +kernel)) rfl
theorem lkX6_9 : kw_lk RX6 9 6 0 := ⟨RX6, TX6, 8, rfl, by decide, inW6, rfl, kfX6_9⟩
theorem kfX7_270 : Cond.fieldLink RX7 270 RX6 (TX6 0).2.1 (TX6 0).2.2.1 ∈ kw_ws := kz_1 (List.mem_of_getElem? (i := 180) (by first | exact rfl | decide +kernel)) rfl
theorem lkX7_270 : kw_lk RX7 270 6 0 := ⟨RX6, TX6, 8, rfl, by decide, inW6, rfl, kfX7_270⟩
theorem kfX6_78 : Cond.fieldLink RX6 78 RX6 (TX6 1).2.1 (TX6 1).2.2.1 ∈ kw_ws := kz_1 (List.mem_of_getElem? (i := 181) (by first | exact rfl | decide +kernel)) rfl
theorem lkX6_78 : kw_lk RX6 78 6 1 := ⟨RX6, TX6, 8, rfl, by decide, inW6, rfl, kfX6_78⟩
theorem lpX6_78 : kw_lkP RX6 78 6 1 .int := ⟨RX6, TX6, 8, tyX6, rfl, by decide, inW6, rfl, kfX6_78, tyX6_ok, nmX6, rfl, by decide +kernel⟩
theorem kfX7_273 : Cond.fieldLink RX7 273 RX6 (TX6 1).2.1 (TX6 1).2.2.1 ∈ kw_ws := kz_1 (List.mem_of_getElem? (i := 182) (by first | exact rfl | decide +kernel)) rfl
theorem lkX7_273 : kw_lk RX7 273 6 1 := ⟨RX6, TX6, 8, rfl, by decide, inW6, rfl, kfX7_273⟩
theorem lpX7_273 : kw_lkP RX7 273 6 1 .int := ⟨RX6, TX6, 8, tyX6, rfl, by decide, inW6, rfl, kfX7_273, tyX6_ok, nmX6, rfl, by decide +kernel⟩
theorem kfX6_17 : Cond.fieldLink RX6 17 RX6 (TX6 2).2.1 (TX6 2).2.2.1 ∈ kw_ws := kz_1 (List.mem_of_getElem? (i := 183) (by first | exact rfl | decide +kernel)) rfl
theorem lkX6_17 : kw_lk RX6 17 6 2 := ⟨RX6, TX6, 8, rfl, by decide, inW6, rfl, kfX6_17⟩
theorem kfX6_21 : Cond.fieldLink RX6 21 RX6 (TX6 3).2.1 (TX6 3).2.2.1 ∈ kw_ws := kz_1 (List.mem_of_getElem? (i := 184) (by first | exact rfl | decide +kernel)) rfl
theorem lkX6_21 : kw_lk RX6 21 6 3 := ⟨RX6, TX6, 8, rfl, by decide, inW6, rfl, kfX6_21⟩
theorem kfX6_24 : Cond.fieldLink RX6 24 RX6 (TX6 4).2.1 (TX6 4).2.2.1 ∈ kw_ws := kz_1 (List.mem_of_getElem? (i := 185) (by first | exact rfl | decide +kernel)) rfl
theorem lkX6_24 : kw_lk RX6 24 6 4 := ⟨RX6, TX6, 8, rfl, by decide, inW6, rfl, kfX6_24⟩
theorem kfX6_41 : Cond.fieldLink RX6 41 RX6 (TX6 5).2.1 (TX6 5).2.2.1 ∈ kw_ws := kz_1 (List.mem_of_getElem? (i := 186) (by first | exact rfl | decide +kernel)) rfl
theorem lkX6_41 : kw_lk RX6 41 6 5 := ⟨RX6, TX6, 8, rfl, by decide, inW6, rfl, kfX6_41⟩
theorem lpX6_41 : kw_lkP RX6 41 6 5 .boolean := ⟨RX6, TX6, 8, tyX6, rfl, by decide, inW6, rfl, kfX6_41, tyX6_ok, nmX6, rfl, by decide +kernel⟩
theorem kfX6_34 : Cond.fieldLink RX6 34 RX6 (TX6 6).2.1 (TX6 6).2.2.1 ∈ kw_ws := kz_1 (List.mem_of_getElem? (i := 187) (by first | exact rfl | decide +kernel)) rfl
theorem lkX6_34 : kw_lk RX6 34 6 6 := ⟨RX6, TX6, 8, rfl, by decide, inW6, rfl, kfX6_34⟩
theorem lpX6_34 : kw_lkP RX6 34 6 6 .int := ⟨RX6, TX6, 8, tyX6, rfl, by decide, inW6, rfl, kfX6_34, tyX6_ok, nmX6, rfl, by decide +kernel⟩
theorem kfX6_38 : Cond.fieldLink RX6 38 RX6 (TX6 7).2.1 (TX6 7).2.2.1 ∈ kw_ws := kz_1 (List.mem_of_getElem? (i := 188) (by first | exact rfl | decide +kernel)) rfl
theorem lkX6_38 : kw_lk RX6 38 6 7 := ⟨RX6, TX6, 8, rfl, by decide, inW6, rfl, kfX6_38⟩
theorem lpX6_38 : kw_lkP RX6 38 6 7 .int := ⟨RX6, TX6, 8, tyX6, rfl, by decide, inW6, rfl, kfX6_38, tyX6_ok, nmX6, rfl, by decide +kernel⟩
theorem kfX4_9 : Cond.fieldLink RX4 9 RX4 (TX4 0).2.1 (TX4 0).2.2.1 ∈ kw_ws := kz_1 (List.mem_of_getElem? (i := 212) (by first | exact rfl | decide +kernel)) rfl
theorem lkX4_9 : kw_lk RX4 9 4 0 := ⟨RX4, TX4, 5, rfl, by decide, inW4, rfl, kfX4_9⟩
theorem kfX7_334 : Cond.fieldLink RX7 334 RX4 (TX4 0).2.1 (TX4 0).2.2.1 ∈ kw_ws := kz_1 (List.mem_of_getElem? (i := 213) (by first | exact rfl | decide +kernel)) rfl
theorem lkX7_334 : kw_lk RX7 334 4 0 := ⟨RX4, TX4, 5, rfl, by decide, inW4, rfl, kfX7_334⟩
theorem kfX4_23 : Cond.fieldLink RX4 23 RX4 (TX4 1).2.1 (TX4 1).2.2.1 ∈ kw_ws := kz_1 (List.mem_of_getElem? (i := 214) (by first | exact rfl | decide +kernel)) rfl
theorem lkX4_23 : kw_lk RX4 23 4 1 := ⟨RX4, TX4, 5, rfl, by decide, inW4, rfl, kfX4_23⟩
theorem lpX4_23 : kw_lkP RX4 23 4 1 .int := ⟨RX4, TX4, 5, tyX4, rfl, by decide, inW4, rfl, kfX4_23, tyX4_ok, nmX4, rfl, by decide +kernel⟩
theorem kfX7_331 : Cond.fieldLink RX7 331 RX4 (TX4 1).2.1 (TX4 1).2.2.1 ∈ kw_ws := kz_1 (List.mem_of_getElem? (i := 215) (by first | exact rfl | decide +kernel)) rfl
theorem lkX7_331 : kw_lk RX7 331 4 1 := ⟨RX4, TX4, 5, rfl, by decide, inW4, rfl, kfX7_331⟩
theorem lpX7_331 : kw_lkP RX7 331 4 1 .int := ⟨RX4, TX4, 5, tyX4, rfl, by decide, inW4, rfl, kfX7_331, tyX4_ok, nmX4, rfl, by decide +kernel⟩
theorem kfX4_19 : Cond.fieldLink RX4 19 RX4 (TX4 2).2.1 (TX4 2).2.2.1 ∈ kw_ws := kz_1 (List.mem_of_getElem? (i := 216) (by first | exact rfl | decide +kernel)) rfl
theorem lkX4_19 : kw_lk RX4 19 4 2 := ⟨RX4, TX4, 5, rfl, by decide, inW4, rfl, kfX4_19⟩
theorem lpX4_19 : kw_lkP RX4 19 4 2 .int := ⟨RX4, TX4, 5, tyX4, rfl, by decide, inW4, rfl, kfX4_19, tyX4_ok, nmX4, rfl, by decide +kernel⟩
theorem kfX7_312 : Cond.fieldLink RX7 312 RX4 (TX4 2).2.1 (TX4 2).2.2.1 ∈ kw_ws := kz_1 (List.mem_of_getElem? (i := 217) (by first | exact rfl | decide +kernel)) rfl
theorem lkX7_312 : kw_lk RX7 312 4 2 := ⟨RX4, TX4, 5, rfl, by decide, inW4, rfl, kfX7_312⟩
theorem lpX7_312 : kw_lkP RX7 312 4 2 .int := ⟨RX4, TX4, 5, tyX4, rfl, by decide, inW4, rfl, kfX7_312, tyX4_ok, nmX4, rfl, by decide +kernel⟩
theorem kfX4_26 : Cond.fieldLink RX4 26 RX4 (TX4 3).2.1 (TX4 3).2.2.1 ∈ kw_ws := kz_1 (List.mem_of_getElem? (i := 218) (by first | exact rfl | decide +kernel)) rfl
theorem lkX4_26 : kw_lk RX4 26 4 3 := ⟨RX4, TX4, 5, rfl, by decide, inW4, rfl, kfX4_26⟩
theorem lpX4_26 : kw_lkP RX4 26 4 3 .long := ⟨RX4, TX4, 5, tyX4, rfl, by decide, inW4, rfl, kfX4_26, tyX4_ok, nmX4, rfl, by decide +kernel⟩
theorem kfX7_315 : Cond.fieldLink RX7 315 RX4 (TX4 3).2.1 (TX4 3).2.2.1 ∈ kw_ws := kz_1 (List.mem_of_getElem? (i := 219) (by first | exact rfl | decide +kernel)) rfl
theorem lkX7_315 : kw_lk RX7 315 4 3 := ⟨RX4, TX4, 5, rfl, by decide, inW4, rfl, kfX7_315⟩
theorem lpX7_315 : kw_lkP RX7 315 4 3 .long := ⟨RX4, TX4, 5, tyX4, rfl, by decide, inW4, rfl, kfX7_315, tyX4_ok, nmX4, rfl, by decide +kernel⟩
theorem kfX4_15 : Cond.fieldLink RX4 15 RX4 (TX4 4).2.1 (TX4 4).2.2.1 ∈ kw_ws := kz_1 (List.mem_of_getElem? (i := 220) (by first | exact rfl | decide +kernel)) rfl
theorem lkX4_15 : kw_lk RX4 15 4 4 := ⟨RX4, TX4, 5, rfl, by decide, inW4, rfl, kfX4_15⟩
theorem lpX4_15 : kw_lkP RX4 15 4 4 .long := ⟨RX4, TX4, 5, tyX4, rfl, by decide, inW4, rfl, kfX4_15, tyX4_ok, nmX4, rfl, by decide +kernel⟩
theorem kfX7_319 : Cond.fieldLink RX7 319 RX4 (TX4 4).2.1 (TX4 4).2.2.1 ∈ kw_ws := kz_1 (List.mem_of_getElem? (i := 221) (by first | exact rfl | decide +kernel)) rfl
theorem lkX7_319 : kw_lk RX7 319 4 4 := ⟨RX4, TX4, 5, rfl, by decide, inW4, rfl, kfX7_319⟩
theorem lpX7_319 : kw_lkP RX7 319 4 4 .long := ⟨RX4, TX4, 5, tyX4, rfl, by decide, inW4, rfl, kfX7_319, tyX4_ok, nmX4, rfl, by decide +kernel⟩
theorem kfX7_14 : Cond.fieldLink RX7 14 RX7 (TX7 0).2.1 (TX7 0).2.2.1 ∈ kw_ws := kz_1 (List.mem_of_getElem? (i := 233) (by first | exact rfl | decide +kernel)) rfl
theorem lkX7_14 : kw_lk RX7 14 7 0 := ⟨RX7, TX7, 11, rfl, by decide, inW7, rfl, kfX7_14⟩
theorem kfX7_18 : Cond.fieldLink RX7 18 RX7 (TX7 1).2.1 (TX7 1).2.2.1 ∈ kw_ws := kz_1 (List.mem_of_getElem? (i := 234) (by first | exact rfl | decide +kernel)) rfl
theorem lkX7_18 : kw_lk RX7 18 7 1 := ⟨RX7, TX7, 11, rfl, by decide, inW7, rfl, kfX7_18⟩
theorem kfX7_24 : Cond.fieldLink RX7 24 RX7 (TX7 2).2.1 (TX7 2).2.2.1 ∈ kw_ws := kz_1 (List.mem_of_getElem? (i := 235) (by first | exact rfl | decide +kernel)) rfl
theorem lkX7_24 : kw_lk RX7 24 7 2 := ⟨RX7, TX7, 11, rfl, by decide, inW7, rfl, kfX7_24⟩
theorem kfX7_31 : Cond.fieldLink RX7 31 RX7 (TX7 3).2.1 (TX7 3).2.2.1 ∈ kw_ws := kz_1 (List.mem_of_getElem? (i := 236) (by first | exact rfl | decide +kernel)) rfl
theorem lkX7_31 : kw_lk RX7 31 7 3 := ⟨RX7, TX7, 11, rfl, by decide, inW7, rfl, kfX7_31⟩
theorem kfX7_35 : Cond.fieldLink RX7 35 RX7 (TX7 4).2.1 (TX7 4).2.2.1 ∈ kw_ws := kz_1 (List.mem_of_getElem? (i := 237) (by first | exact rfl | decide +kernel)) rfl
theorem lkX7_35 : kw_lk RX7 35 7 4 := ⟨RX7, TX7, 11, rfl, by decide, inW7, rfl, kfX7_35⟩
theorem kfX7_41 : Cond.fieldLink RX7 41 RX7 (TX7 5).2.1 (TX7 5).2.2.1 ∈ kw_ws := kz_1 (List.mem_of_getElem? (i := 238) (by first | exact rfl | decide +kernel)) rfl
theorem lkX7_41 : kw_lk RX7 41 7 5 := ⟨RX7, TX7, 11, rfl, by decide, inW7, rfl, kfX7_41⟩
theorem kfX7_48 : Cond.fieldLink RX7 48 RX7 (TX7 6).2.1 (TX7 6).2.2.1 ∈ kw_ws := kz_1 (List.mem_of_getElem? (i := 239) (by first | exact rfl | decide +kernel)) rfl
theorem lkX7_48 : kw_lk RX7 48 7 6 := ⟨RX7, TX7, 11, rfl, by decide, inW7, rfl, kfX7_48⟩
theorem kfX7_55 : Cond.fieldLink RX7 55 RX7 (TX7 7).2.1 (TX7 7).2.2.1 ∈ kw_ws := kz_2 (List.mem_of_getElem? (i := 0) (by first | exact rfl | decide +kernel)) rfl
theorem lkX7_55 : kw_lk RX7 55 7 7 := ⟨RX7, TX7, 11, rfl, by decide, inW7, rfl, kfX7_55⟩
theorem kfX7_59 : Cond.fieldLink RX7 59 RX7 (TX7 8).2.1 (TX7 8).2.2.1 ∈ kw_ws := kz_2 (List.mem_of_getElem? (i := 1) (by first | exact rfl | decide +kernel)) rfl
theorem lkX7_59 : kw_lk RX7 59 7 8 := ⟨RX7, TX7, 11, rfl, by decide, inW7, rfl, kfX7_59⟩
theorem kfX7_63 : Cond.fieldLink RX7 63 RX7 (TX7 9).2.1 (TX7 9).2.2.1 ∈ kw_ws := kz_2 (List.mem_of_getElem? (i := 2) (by first | exact rfl | decide +kernel)) rfl
theorem lkX7_63 : kw_lk RX7 63 7 9 := ⟨RX7, TX7, 11, rfl, by decide, inW7, rfl, kfX7_63⟩
theorem kfX7_66 : Cond.fieldLink RX7 66 RX7 (TX7 10).2.1 (TX7 10).2.2.1 ∈ kw_ws := kz_2 (List.mem_of_getElem? (i := 3) (by first | exact rfl | decide +kernel)) rfl
theorem lkX7_66 : kw_lk RX7 66 7 10 := ⟨RX7, TX7, 11, rfl, by decide, inW7, rfl, kfX7_66⟩
theorem kxX7_360 : Cond.fieldLink RX7 360 "WashSails" "KIND_ABOVE" "[I" ∈ kw_ws := kz_2 (List.mem_of_getElem? (i := 233) (by first | exact rfl | decide +kernel)) rfl
theorem kfX8_84 : Cond.fieldLink RX8 84 RX8 (TX8 0).2.1 (TX8 0).2.2.1 ∈ kw_ws := kz_4 (List.mem_of_getElem? (i := 43) (by first | exact rfl | decide +kernel)) rfl
theorem lkX8_84 : kw_lk RX8 84 8 0 := ⟨RX8, TX8, 37, rfl, by decide, inW8, rfl, kfX8_84⟩
theorem lpX8_84 : kw_lkP RX8 84 8 0 .int := ⟨RX8, TX8, 37, tyX8, rfl, by decide, inW8, rfl, kfX8_84, tyX8_ok, nmX8, rfl, by decide +kernel⟩
theorem kfX8_7 : Cond.fieldLink RX8 7 RX8 (TX8 1).2.1 (TX8 1).2.2.1 ∈ kw_ws := kz_4 (List.mem_of_getElem? (i := 44) (by first | exact rfl | decide +kernel)) rfl
theorem lkX8_7 : kw_lk RX8 7 8 1 := ⟨RX8, TX8, 37, rfl, by decide, inW8, rfl, kfX8_7⟩
theorem kfX8_87 : Cond.fieldLink RX8 87 RX8 (TX8 2).2.1 (TX8 2).2.2.1 ∈ kw_ws := kz_4 (List.mem_of_getElem? (i := 45) (by first | exact rfl | decide +kernel)) rfl
theorem lkX8_87 : kw_lk RX8 87 8 2 := ⟨RX8, TX8, 37, rfl, by decide, inW8, rfl, kfX8_87⟩
theorem lpX8_87 : kw_lkP RX8 87 8 2 .int := ⟨RX8, TX8, 37, tyX8, rfl, by decide, inW8, rfl, kfX8_87, tyX8_ok, nmX8, rfl, by decide +kernel⟩
theorem kfX8_90 : Cond.fieldLink RX8 90 RX8 (TX8 3).2.1 (TX8 3).2.2.1 ∈ kw_ws := kz_4 (List.mem_of_getElem? (i := 46) (by first | exact rfl | decide +kernel)) rfl
theorem lkX8_90 : kw_lk RX8 90 8 3 := ⟨RX8, TX8, 37, rfl, by decide, inW8, rfl, kfX8_90⟩
theorem lpX8_90 : kw_lkP RX8 90 8 3 .long := ⟨RX8, TX8, 37, tyX8, rfl, by decide, inW8, rfl, kfX8_90, tyX8_ok, nmX8, rfl, by decide +kernel⟩
theorem kfX8_13 : Cond.fieldLink RX8 13 RX8 (TX8 4).2.1 (TX8 4).2.2.1 ∈ kw_ws := kz_4 (List.mem_of_getElem? (i := 47) (by first | exact rfl | decide +kernel)) rfl
theorem lkX8_13 : kw_lk RX8 13 8 4 := ⟨RX8, TX8, 37, rfl, by decide, inW8, rfl, kfX8_13⟩
theorem lpX8_13 : kw_lkP RX8 13 8 4 .long := ⟨RX8, TX8, 37, tyX8, rfl, by decide, inW8, rfl, kfX8_13, tyX8_ok, nmX8, rfl, by decide +kernel⟩
theorem kfX8_17 : Cond.fieldLink RX8 17 RX8 (TX8 5).2.1 (TX8 5).2.2.1 ∈ kw_ws := kz_4 (List.mem_of_getElem? (i := 48) (by first | exact rfl | decide +kernel)) rfl
theorem lkX8_17 : kw_lk RX8 17 8 5 := ⟨RX8, TX8, 37, rfl, by decide, inW8, rfl, kfX8_17⟩
theorem kfX8_20 : Cond.fieldLink RX8 20 RX8 (TX8 6).2.1 (TX8 6).2.2.1 ∈ kw_ws := kz_4 (List.mem_of_getElem? (i := 49) (by first | exact rfl | decide +kernel)) rfl
theorem lkX8_20 : kw_lk RX8 20 8 6 := ⟨RX8, TX8, 37, rfl, by decide, inW8, rfl, kfX8_20⟩
theorem kfX8_23 : Cond.fieldLink RX8 23 RX8 (TX8 7).2.1 (TX8 7).2.2.1 ∈ kw_ws := kz_4 (List.mem_of_getElem? (i := 50) (by first | exact rfl | decide +kernel)) rfl
theorem lkX8_23 : kw_lk RX8 23 8 7 := ⟨RX8, TX8, 37, rfl, by decide, inW8, rfl, kfX8_23⟩
theorem kfX8_26 : Cond.fieldLink RX8 26 RX8 (TX8 8).2.1 (TX8 8).2.2.1 ∈ kw_ws := kz_4 (List.mem_of_getElem? (i := 51) (by first | exact rfl | decide +kernel)) rfl
theorem lkX8_26 : kw_lk RX8 26 8 8 := ⟨RX8, TX8, 37, rfl, by decide, inW8, rfl, kfX8_26⟩
theorem kfX8_29 : Cond.fieldLink RX8 29 RX8 (TX8 9).2.1 (TX8 9).2.2.1 ∈ kw_ws := kz_4 (List.mem_of_getElem? (i := 52) (by first | exact rfl | decide +kernel)) rfl
theorem lkX8_29 : kw_lk RX8 29 8 9 := ⟨RX8, TX8, 37, rfl, by decide, inW8, rfl, kfX8_29⟩
theorem kfX8_163 : Cond.fieldLink RX8 163 RX8 (TX8 10).2.1 (TX8 10).2.2.1 ∈ kw_ws := kz_4 (List.mem_of_getElem? (i := 53) (by first | exact rfl | decide +kernel)) rfl
theorem lkX8_163 : kw_lk RX8 163 8 10 := ⟨RX8, TX8, 37, rfl, by decide, inW8, rfl, kfX8_163⟩
theorem lpX8_163 : kw_lkP RX8 163 8 10 .int := ⟨RX8, TX8, 37, tyX8, rfl, by decide, inW8, rfl, kfX8_163, tyX8_ok, nmX8, rfl, by decide +kernel⟩
theorem kfX8_32 : Cond.fieldLink RX8 32 RX8 (TX8 11).2.1 (TX8 11).2.2.1 ∈ kw_ws := kz_4 (List.mem_of_getElem? (i := 54) (by first | exact rfl | decide +kernel)) rfl
theorem lkX8_32 : kw_lk RX8 32 8 11 := ⟨RX8, TX8, 37, rfl, by decide, inW8, rfl, kfX8_32⟩
theorem lpX8_32 : kw_lkP RX8 32 8 11 .int := ⟨RX8, TX8, 37, tyX8, rfl, by decide, inW8, rfl, kfX8_32, tyX8_ok, nmX8, rfl, by decide +kernel⟩
theorem kfX8_36 : Cond.fieldLink RX8 36 RX8 (TX8 12).2.1 (TX8 12).2.2.1 ∈ kw_ws := kz_4 (List.mem_of_getElem? (i := 55) (by first | exact rfl | decide +kernel)) rfl
theorem lkX8_36 : kw_lk RX8 36 8 12 := ⟨RX8, TX8, 37, rfl, by decide, inW8, rfl, kfX8_36⟩
theorem kfX8_39 : Cond.fieldLink RX8 39 RX8 (TX8 13).2.1 (TX8 13).2.2.1 ∈ kw_ws := kz_4 (List.mem_of_getElem? (i := 56) (by first | exact rfl | decide +kernel)) rfl
theorem lkX8_39 : kw_lk RX8 39 8 13 := ⟨RX8, TX8, 37, rfl, by decide, inW8, rfl, kfX8_39⟩
theorem kfX8_42 : Cond.fieldLink RX8 42 RX8 (TX8 14).2.1 (TX8 14).2.2.1 ∈ kw_ws := kz_4 (List.mem_of_getElem? (i := 57) (by first | exact rfl | decide +kernel)) rfl
theorem lkX8_42 : kw_lk RX8 42 8 14 := ⟨RX8, TX8, 37, rfl, by decide, inW8, rfl, kfX8_42⟩
theorem kfX8_45 : Cond.fieldLink RX8 45 RX8 (TX8 15).2.1 (TX8 15).2.2.1 ∈ kw_ws := kz_4 (List.mem_of_getElem? (i := 58) (by first | exact rfl | decide +kernel)) rfl
theorem lkX8_45 : kw_lk RX8 45 8 15 := ⟨RX8, TX8, 37, rfl, by decide, inW8, rfl, kfX8_45⟩
theorem kfX8_48 : Cond.fieldLink RX8 48 RX8 (TX8 16).2.1 (TX8 16).2.2.1 ∈ kw_ws := kz_4 (List.mem_of_getElem? (i := 59) (by first | exact rfl | decide +kernel)) rfl
theorem lkX8_48 : kw_lk RX8 48 8 16 := ⟨RX8, TX8, 37, rfl, by decide, inW8, rfl, kfX8_48⟩
theorem kfX8_128 : Cond.fieldLink RX8 128 RX8 (TX8 17).2.1 (TX8 17).2.2.1 ∈ kw_ws := kz_4 (List.mem_of_getElem? (i := 60) (by first | exact rfl | decide +kernel)) rfl
theorem lkX8_128 : kw_lk RX8 128 8 17 := ⟨RX8, TX8, 37, rfl, by decide, inW8, rfl, kfX8_128⟩
theorem lpX8_128 : kw_lkP RX8 128 8 17 .int := ⟨RX8, TX8, 37, tyX8, rfl, by decide, inW8, rfl, kfX8_128, tyX8_ok, nmX8, rfl, by decide +kernel⟩
theorem kfX8_138 : Cond.fieldLink RX8 138 RX8 (TX8 18).2.1 (TX8 18).2.2.1 ∈ kw_ws := kz_4 (List.mem_of_getElem? (i := 61) (by first | exact rfl | decide +kernel)) rfl
theorem lkX8_138 : kw_lk RX8 138 8 18 := ⟨RX8, TX8, 37, rfl, by decide, inW8, rfl, kfX8_138⟩
theorem lpX8_138 : kw_lkP RX8 138 8 18 .int := ⟨RX8, TX8, 37, tyX8, rfl, by decide, inW8, rfl, kfX8_138, tyX8_ok, nmX8, rfl, by decide +kernel⟩
theorem kfX8_144 : Cond.fieldLink RX8 144 RX8 (TX8 19).2.1 (TX8 19).2.2.1 ∈ kw_ws := kz_4 (List.mem_of_getElem? (i := 62) (by first | exact rfl | decide +kernel)) rfl
theorem lkX8_144 : kw_lk RX8 144 8 19 := ⟨RX8, TX8, 37, rfl, by decide, inW8, rfl, kfX8_144⟩
theorem lpX8_144 : kw_lkP RX8 144 8 19 .int := ⟨RX8, TX8, 37, tyX8, rfl, by decide, inW8, rfl, kfX8_144, tyX8_ok, nmX8, rfl, by decide +kernel⟩
theorem kfX8_51 : Cond.fieldLink RX8 51 RX8 (TX8 20).2.1 (TX8 20).2.2.1 ∈ kw_ws := kz_4 (List.mem_of_getElem? (i := 63) (by first | exact rfl | decide +kernel)) rfl
theorem lkX8_51 : kw_lk RX8 51 8 20 := ⟨RX8, TX8, 37, rfl, by decide, inW8, rfl, kfX8_51⟩
theorem kfX8_54 : Cond.fieldLink RX8 54 RX8 (TX8 21).2.1 (TX8 21).2.2.1 ∈ kw_ws := kz_4 (List.mem_of_getElem? (i := 64) (by first | exact rfl | decide +kernel)) rfl
theorem lkX8_54 : kw_lk RX8 54 8 21 := ⟨RX8, TX8, 37, rfl, by decide, inW8, rfl, kfX8_54⟩
theorem kfX8_166 : Cond.fieldLink RX8 166 RX8 (TX8 22).2.1 (TX8 22).2.2.1 ∈ kw_ws := kz_4 (List.mem_of_getElem? (i := 65) (by first | exact rfl | decide +kernel)) rfl
theorem lkX8_166 : kw_lk RX8 166 8 22 := ⟨RX8, TX8, 37, rfl, by decide, inW8, rfl, kfX8_166⟩
theorem lpX8_166 : kw_lkP RX8 166 8 22 .int := ⟨RX8, TX8, 37, tyX8, rfl, by decide, inW8, rfl, kfX8_166, tyX8_ok, nmX8, rfl, by decide +kernel⟩
theorem kfX8_169 : Cond.fieldLink RX8 169 RX8 (TX8 23).2.1 (TX8 23).2.2.1 ∈ kw_ws := kz_4 (List.mem_of_getElem? (i := 66) (by first | exact rfl | decide +kernel)) rfl
theorem lkX8_169 : kw_lk RX8 169 8 23 := ⟨RX8, TX8, 37, rfl, by decide, inW8, rfl, kfX8_169⟩
theorem lpX8_169 : kw_lkP RX8 169 8 23 .int := ⟨RX8, TX8, 37, tyX8, rfl, by decide, inW8, rfl, kfX8_169, tyX8_ok, nmX8, rfl, by decide +kernel⟩
theorem kfX8_172 : Cond.fieldLink RX8 172 RX8 (TX8 24).2.1 (TX8 24).2.2.1 ∈ kw_ws := kz_4 (List.mem_of_getElem? (i := 67) (by first | exact rfl | decide +kernel)) rfl
theorem lkX8_172 : kw_lk RX8 172 8 24 := ⟨RX8, TX8, 37, rfl, by decide, inW8, rfl, kfX8_172⟩
theorem lpX8_172 : kw_lkP RX8 172 8 24 .int := ⟨RX8, TX8, 37, tyX8, rfl, by decide, inW8, rfl, kfX8_172, tyX8_ok, nmX8, rfl, by decide +kernel⟩
theorem kfX8_175 : Cond.fieldLink RX8 175 RX8 (TX8 25).2.1 (TX8 25).2.2.1 ∈ kw_ws := kz_4 (List.mem_of_getElem? (i := 68) (by first | exact rfl | decide +kernel)) rfl
theorem lkX8_175 : kw_lk RX8 175 8 25 := ⟨RX8, TX8, 37, rfl, by decide, inW8, rfl, kfX8_175⟩
theorem lpX8_175 : kw_lkP RX8 175 8 25 .int := ⟨RX8, TX8, 37, tyX8, rfl, by decide, inW8, rfl, kfX8_175, tyX8_ok, nmX8, rfl, by decide +kernel⟩
theorem kfX8_57 : Cond.fieldLink RX8 57 RX8 (TX8 26).2.1 (TX8 26).2.2.1 ∈ kw_ws := kz_4 (List.mem_of_getElem? (i := 69) (by first | exact rfl | decide +kernel)) rfl
theorem lkX8_57 : kw_lk RX8 57 8 26 := ⟨RX8, TX8, 37, rfl, by decide, inW8, rfl, kfX8_57⟩
theorem kfX8_178 : Cond.fieldLink RX8 178 RX8 (TX8 27).2.1 (TX8 27).2.2.1 ∈ kw_ws := kz_4 (List.mem_of_getElem? (i := 70) (by first | exact rfl | decide +kernel)) rfl
theorem lkX8_178 : kw_lk RX8 178 8 27 := ⟨RX8, TX8, 37, rfl, by decide, inW8, rfl, kfX8_178⟩
theorem lpX8_178 : kw_lkP RX8 178 8 27 .int := ⟨RX8, TX8, 37, tyX8, rfl, by decide, inW8, rfl, kfX8_178, tyX8_ok, nmX8, rfl, by decide +kernel⟩
theorem kfX8_60 : Cond.fieldLink RX8 60 RX8 (TX8 28).2.1 (TX8 28).2.2.1 ∈ kw_ws := kz_4 (List.mem_of_getElem? (i := 71) (by first | exact rfl | decide +kernel)) rfl
theorem lkX8_60 : kw_lk RX8 60 8 28 := ⟨RX8, TX8, 37, rfl, by decide, inW8, rfl, kfX8_60⟩
theorem kfX8_63 : Cond.fieldLink RX8 63 RX8 (TX8 29).2.1 (TX8 29).2.2.1 ∈ kw_ws := kz_4 (List.mem_of_getElem? (i := 72) (by first | exact rfl | decide +kernel)) rfl
theorem lkX8_63 : kw_lk RX8 63 8 29 := ⟨RX8, TX8, 37, rfl, by decide, inW8, rfl, kfX8_63⟩
theorem kfX8_66 : Cond.fieldLink RX8 66 RX8 (TX8 30).2.1 (TX8 30).2.2.1 ∈ kw_ws := kz_4 (List.mem_of_getElem? (i := 73) (by first | exact rfl | decide +kernel)) rfl
theorem lkX8_66 : kw_lk RX8 66 8 30 := ⟨RX8, TX8, 37, rfl, by decide, inW8, rfl, kfX8_66⟩
theorem kfX8_69 : Cond.fieldLink RX8 69 RX8 (TX8 31).2.1 (TX8 31).2.2.1 ∈ kw_ws := kz_4 (List.mem_of_getElem? (i := 74) (by first | exact rfl | decide +kernel)) rfl
theorem lkX8_69 : kw_lk RX8 69 8 31 := ⟨RX8, TX8, 37, rfl, by decide, inW8, rfl, kfX8_69⟩
theorem kfX8_72 : Cond.fieldLink RX8 72 RX8 (TX8 32).2.1 (TX8 32).2.2.1 ∈ kw_ws := kz_4 (List.mem_of_getElem? (i := 75) (by first | exact rfl | decide +kernel)) rfl
theorem lkX8_72 : kw_lk RX8 72 8 32 := ⟨RX8, TX8, 37, rfl, by decide, inW8, rfl, kfX8_72⟩
theorem kfX8_75 : Cond.fieldLink RX8 75 RX8 (TX8 33).2.1 (TX8 33).2.2.1 ∈ kw_ws := kz_4 (List.mem_of_getElem? (i := 76) (by first | exact rfl | decide +kernel)) rfl
theorem lkX8_75 : kw_lk RX8 75 8 33 := ⟨RX8, TX8, 37, rfl, by decide, inW8, rfl, kfX8_75⟩
theorem kfX8_78 : Cond.fieldLink RX8 78 RX8 (TX8 34).2.1 (TX8 34).2.2.1 ∈ kw_ws := kz_4 (List.mem_of_getElem? (i := 77) (by first | exact rfl | decide +kernel)) rfl
theorem lkX8_78 : kw_lk RX8 78 8 34 := ⟨RX8, TX8, 37, rfl, by decide, inW8, rfl, kfX8_78⟩
theorem kfX8_81 : Cond.fieldLink RX8 81 RX8 (TX8 35).2.1 (TX8 35).2.2.1 ∈ kw_ws := kz_4 (List.mem_of_getElem? (i := 78) (by first | exact rfl | decide +kernel)) rfl
theorem lkX8_81 : kw_lk RX8 81 8 35 := ⟨RX8, TX8, 37, rfl, by decide, inW8, rfl, kfX8_81⟩
theorem kfX8_306 : Cond.fieldLink RX8 306 RX8 (TX8 36).2.1 (TX8 36).2.2.1 ∈ kw_ws := kz_4 (List.mem_of_getElem? (i := 79) (by first | exact rfl | decide +kernel)) rfl
theorem lkX8_306 : kw_lk RX8 306 8 36 := ⟨RX8, TX8, 37, rfl, by decide, inW8, rfl, kfX8_306⟩
theorem lpX8_306 : kw_lkP RX8 306 8 36 .long := ⟨RX8, TX8, 37, tyX8, rfl, by decide, inW8, rfl, kfX8_306, tyX8_ok, nmX8, rfl, by decide +kernel⟩
theorem kmX3_24 : Cond.methodLink RX3 24 yJ7_fill_53178 ∈ kw_ws := kz_1 (List.mem_of_getElem? (i := 30) (by first | exact rfl | decide +kernel)) rfl
theorem lsX3_24 : kw_lkS RX3 24 mJ7_fill_53178 := ⟨kmX3_24, wTJ7_fill_53178, wNJ7, wCJ7_fill_53178, nmhJ7.1, nmhJ7.2, by decide⟩
theorem kmL_13 : Cond.methodLink RL 13 yX7_row ∈ kw_ws := kz_2 (List.mem_of_getElem? (i := 27) (by first | exact rfl | decide +kernel)) rfl
theorem lvL_13 : kw_lkV RL 13 7 mX7_row := ⟨⟨TX7, 11, rfl⟩, kmL_13, wIX7_row, wVX7_row, wNX7, wCX7_row, nmhX7.1, nmhX7.2, by decide⟩
theorem kmX7_69 : Cond.methodLink RX7 69 yX7_makeOn ∈ kw_ws := kz_2 (List.mem_of_getElem? (i := 31) (by first | exact rfl | decide +kernel)) rfl
theorem lvX7_69 : kw_lkV RX7 69 7 mX7_makeOn := ⟨⟨TX7, 11, rfl⟩, kmX7_69, wIX7_makeOn, wVX7_makeOn, wNX7, wCX7_makeOn, nmhX7.1, nmhX7.2, by decide⟩
theorem kmX7_73 : Cond.methodLink RX7 73 yX3_has ∈ kw_ws := kz_2 (List.mem_of_getElem? (i := 35) (by first | exact rfl | decide +kernel)) rfl
theorem lvX7_73 : kw_lkV RX7 73 3 mX3_has := ⟨⟨TX3, 3, rfl⟩, kmX7_73, wIX3_has, wVX3_has, wNX3, wCX3_has, nmhX3.1, nmhX3.2, by decide⟩
theorem kmX7_81 : Cond.methodLink RX7 81 yX4_refuse ∈ kw_ws := kz_2 (List.mem_of_getElem? (i := 39) (by first | exact rfl | decide +kernel)) rfl
theorem lvX7_81 : kw_lkV RX7 81 4 mX4_refuse := ⟨⟨TX4, 5, rfl⟩, kmX7_81, wIX4_refuse, wVX4_refuse, wNX4, wCX4_refuse, nmhX4.1, nmhX4.2, by decide⟩
theorem kmX7_210 : Cond.methodLink RX7 210 yX3_make ∈ kw_ws := kz_2 (List.mem_of_getElem? (i := 43) (by first | exact rfl | decide +kernel)) rfl
theorem lvX7_210 : kw_lkV RX7 210 3 mX3_make := ⟨⟨TX3, 3, rfl⟩, kmX7_210, wIX3_make, wVX3_make, wNX3, wCX3_make, nmhX3.1, nmhX3.2, by decide⟩
theorem kmX3_34 : Cond.methodLink RX3 34 yX3_has ∈ kw_ws := kz_2 (List.mem_of_getElem? (i := 47) (by first | exact rfl | decide +kernel)) rfl
theorem lvX3_34 : kw_lkV RX3 34 3 mX3_has := ⟨⟨TX3, 3, rfl⟩, kmX3_34, wIX3_has, wVX3_has, wNX3, wCX3_has, nmhX3.1, nmhX3.2, by decide⟩
theorem kmL_18 : Cond.methodLink RL 18 yX7_lay ∈ kw_ws := kz_2 (List.mem_of_getElem? (i := 48) (by first | exact rfl | decide +kernel)) rfl
theorem lvL_18 : kw_lkV RL 18 7 mX7_lay := ⟨⟨TX7, 11, rfl⟩, kmL_18, wIX7_lay, wVX7_lay, wNX7, wCX7_lay, nmhX7.1, nmhX7.2, by decide⟩
theorem kmX7_77 : Cond.methodLink RX7 77 yX3_findingAt ∈ kw_ws := kz_2 (List.mem_of_getElem? (i := 52) (by first | exact rfl | decide +kernel)) rfl
theorem lvX7_77 : kw_lkV RX7 77 3 mX3_findingAt := ⟨⟨TX3, 3, rfl⟩, kmX7_77, wIX3_findingAt, wVX3_findingAt, wNX3, wCX3_findingAt, nmhX3.1, nmhX3.2, by decide⟩
theorem kmX3_38 : Cond.methodLink RX3 38 yX3_isMissing ∈ kw_ws := kz_2 (List.mem_of_getElem? (i := 56) (by first | exact rfl | decide +kernel)) rfl
theorem lvX3_38 : kw_lkV RX3 38 3 mX3_isMissing := ⟨⟨TX3, 3, rfl⟩, kmX3_38, wIX3_isMissing, wVX3_isMissing, wNX3, wCX3_isMissing, nmhX3.1, nmhX3.2, by decide⟩
theorem kmX3_30 : Cond.methodLink RX3 30 yX3_sizeOf ∈ kw_ws := kz_2 (List.mem_of_getElem? (i := 60) (by first | exact rfl | decide +kernel)) rfl
theorem lvX3_30 : kw_lkV RX3 30 3 mX3_sizeOf := ⟨⟨TX3, 3, rfl⟩, kmX3_30, wIX3_sizeOf, wVX3_sizeOf, wNX3, wCX3_sizeOf, nmhX3.1, nmhX3.2, by decide⟩
theorem kmX3_41 : Cond.methodLink RX3 41 yX3_hasPlaces ∈ kw_ws := kz_2 (List.mem_of_getElem? (i := 64) (by first | exact rfl | decide +kernel)) rfl
theorem lvX3_41 : kw_lkV RX3 41 3 mX3_hasPlaces := ⟨⟨TX3, 3, rfl⟩, kmX3_41, wIX3_hasPlaces, wVX3_hasPlaces, wNX3, wCX3_hasPlaces, nmhX3.1, nmhX3.2, by decide⟩
theorem kmX7_85 : Cond.methodLink RX7 85 yX3_valueAt ∈ kw_ws := kz_2 (List.mem_of_getElem? (i := 68) (by first | exact rfl | decide +kernel)) rfl
