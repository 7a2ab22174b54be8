theorem kz_1 {w : Cond} (h : w ∈ tables_1_1) (hg : goodWord w = true) : w ∈ kw_ws := kw_ws_in (List.mem_append_right _ (show w ∈ tables_1 from List.mem_append_left _ h)) hg
theorem kz_2 {w : Cond} (h : w ∈ tables_1_2) (hg : goodWord w = true) : w ∈ kw_ws := kw_ws_in (List.mem_append_right _ (show w ∈ tables_1 from List.mem_append_right _ (List.mem_append_left _ h))) hg
theorem kz_3 {w : Cond} (h : w ∈ tables_1_3) (hg : goodWord w = true) : w ∈ kw_ws := kw_ws_in (List.mem_append_right _ (show w ∈ tables_1 from List.mem_append_right _ (List.mem_append_right _ (List.mem_append_left _ h)))) hg
theorem kz_4 {w : Cond} (h : w ∈ tables_1_4) (hg : goodWord w = true) : w ∈ kw_ws := kw_ws_in (List.mem_append_right _ (show w ∈ tables_1 from List.mem_append_right _ (List.mem_append_right _ (List.mem_append_right _ (List.mem_append_left _ h))))) hg
theorem kz_5 {w : Cond} (h : w ∈ tables_1_5) (hg : goodWord w = true) : w ∈ kw_ws := kw_ws_in (List.mem_append_right _ (show w ∈ tables_1 from List.mem_append_right _ (List.mem_append_right _ (List.mem_append_right _ (List.mem_append_right _ (List.mem_append_left _ h)))))) hg
theorem kz_6 {w : Cond} (h : w ∈ tables_1_6) (hg : goodWord w = true) : w ∈ kw_ws := kw_ws_in (List.mem_append_right _ (show w ∈ tables_1 from List.mem_append_right _ (List.mem_append_right _ (List.mem_append_right _ (List.mem_append_right _ (List.mem_append_right _ (h))))))) hg
theorem inW0 : ∀ w ∈ u_ws RX0 TX0 4, w ∈ kw_ws := fun w h => kw_ws_in ((show ∀ w ∈ u_ws RX0 TX0 4, w ∈ lw_tbl by decide +kernel) w h) ((show ∀ w ∈ u_ws RX0 TX0 4, goodWord w = true by decide +kernel) w h)
theorem inW1 : ∀ w ∈ u_ws RX1 TX1 7, w ∈ kw_ws := fun w h => kw_ws_in ((show ∀ w ∈ u_ws RX1 TX1 7, w ∈ lw_tbl by decide +kernel) w h) ((show ∀ w ∈ u_ws RX1 TX1 7, goodWord w = true by decide +kernel) w h)
theorem inW2 : ∀ w ∈ u_ws RX2 TX2 2, w ∈ kw_ws := fun w h => kw_ws_in ((show ∀ w ∈ u_ws RX2 TX2 2, w ∈ lw_tbl by decide +kernel) w h) ((show ∀ w ∈ u_ws RX2 TX2 2, goodWord w = true by decide +kernel) w h)
theorem inW3 : ∀ w ∈ u_ws RX3 TX3 3, w ∈ kw_ws := fun w h => kw_ws_in ((show ∀ w ∈ u_ws RX3 TX3 3, w ∈ lw_tbl by decide +kernel) w h) ((show ∀ w ∈ u_ws RX3 TX3 3, goodWord w = true by decide +kernel) w h)
theorem inW4 : ∀ w ∈ u_ws RX4 TX4 5, w ∈ kw_ws := fun w h => kw_ws_in ((show ∀ w ∈ u_ws RX4 TX4 5, w ∈ lw_tbl by decide +kernel) w h) ((show ∀ w ∈ u_ws RX4 TX4 5, goodWord w = true by decide +kernel) w h)
theorem inW5 : ∀ w ∈ u_ws RX5 TX5 8, w ∈ kw_ws := fun w h => kw_ws_in ((show ∀ w ∈ u_ws RX5 TX5 8, w ∈ lw_tbl by decide +kernel) w h) ((show ∀ w ∈ u_ws RX5 TX5 8, goodWord w = true by decide +kernel) w h)
theorem inW6 : ∀ w ∈ u_ws RX6 TX6 8, w ∈ kw_ws := fun w h => kw_ws_in ((show ∀ w ∈ u_ws RX6 TX6 8, w ∈ lw_tbl by decide +kernel) w h) ((show ∀ w ∈ u_ws RX6 TX6 8, goodWord w = true by decide +kernel) w h)
theorem inW7 : ∀ w ∈ u_ws RX7 TX7 11, w ∈ kw_ws := fun w h => kw_ws_in ((show ∀ w ∈ u_ws RX7 TX7 11, w ∈ lw_tbl by decide +kernel) w h) ((show ∀ w ∈ u_ws RX7 TX7 11, goodWord w = true by decide +kernel) w h)
theorem inW8 : ∀ w ∈ u_ws RX8 TX8 37, w ∈ kw_ws := fun w h => kw_ws_in ((show ∀ w ∈ u_ws RX8 TX8 37, w ∈ lw_tbl by decide +kernel) w h) ((show ∀ w ∈ u_ws RX8 TX8 37, goodWord w = true by decide +kernel) w h)
theorem nmhJ6 : RJ6 ≠ "java/lang/invoke/MethodHandle" ∧ RJ6 ≠ "java/lang/invoke/VarHandle" := by decide +kernel
theorem nmhJ7 : RJ7 ≠ "java/lang/invoke/MethodHandle" ∧ RJ7 ≠ "java/lang/invoke/VarHandle" := by decide +kernel
theorem nmhJ9 : RJ9 ≠ "java/lang/invoke/MethodHandle" ∧ RJ9 ≠ "java/lang/invoke/VarHandle" := by decide +kernel
theorem nmhX0 : RX0 ≠ "java/lang/invoke/MethodHandle" ∧ RX0 ≠ "java/lang/invoke/VarHandle" := by decide +kernel
theorem nmhX1 : RX1 ≠ "java/lang/invoke/MethodHandle" ∧ RX1 ≠ "java/lang/invoke/VarHandle" := by decide +kernel
theorem nmhX2 : RX2 ≠ "java/lang/invoke/MethodHandle" ∧ RX2 ≠ "java/lang/invoke/VarHandle" := by decide +kernel
theorem nmhX3 : RX3 ≠ "java/lang/invoke/MethodHandle" ∧ RX3 ≠ "java/lang/invoke/VarHandle" := by decide +kernel
theorem nmhX4 : RX4 ≠ "java/lang/invoke/MethodHandle" ∧ RX4 ≠ "java/lang/invoke/VarHandle" := by decide +kernel
theorem nmhX5 : RX5 ≠ "java/lang/invoke/MethodHandle" ∧ RX5 ≠ "java/lang/invoke/VarHandle" := by decide +kernel
theorem nmhX6 : RX6 ≠ "java/lang/invoke/MethodHandle" ∧ RX6 ≠ "java/lang/invoke/VarHandle" := by decide +kernel
theorem nmhX7 : RX7 ≠ "java/lang/invoke/MethodHandle" ∧ RX7 ≠ "java/lang/invoke/VarHandle" := by decide +kernel
theorem nmhX8 : RX8 ≠ "java/lang/invoke/MethodHandle" ∧ RX8 ≠ "java/lang/invoke/VarHandle" := by decide +kernel
theorem wIX7_row : Cond.instanceMethod yX7_row ∈ kw_ws := kz_2 (List.mem_of_getElem? (i := 28) (by first | exact rfl | decide +kernel)) rfl
theorem wIX7_makeOn : Cond.instanceMethod yX7_makeOn ∈ kw_ws := kz_2 (List.mem_of_getElem? (i := 33) (by first | exact rfl | decide +kernel)) rfl
theorem wIX3_has : Cond.instanceMethod yX3_has ∈ kw_ws := kz_2 (List.mem_of_getElem? (i := 36) (by first | exact rfl | decide +kernel)) rfl
theorem wIX4_refuse : Cond.instanceMethod yX4_refuse ∈ kw_ws := kz_2 (List.mem_of_getElem? (i := 40) (by first | exact rfl | decide +kernel)) rfl
theorem wIX3_make : Cond.instanceMethod yX3_make ∈ kw_ws := kz_2 (List.mem_of_getElem? (i := 44) (by first | exact rfl | decide +kernel)) rfl
theorem wIX7_lay : Cond.instanceMethod yX7_lay ∈ kw_ws := kz_2 (List.mem_of_getElem? (i := 49) (by first | exact rfl | decide +kernel)) rfl
theorem wIX3_findingAt : Cond.instanceMethod yX3_findingAt ∈ kw_ws := kz_2 (List.mem_of_getElem? (i := 53) (by first | exact rfl | decide +kernel)) rfl
theorem wIX3_isMissing : Cond.instanceMethod yX3_isMissing ∈ kw_ws := kz_2 (List.mem_of_getElem? (i := 57) (by first | exact rfl | decide +kernel)) rfl
theorem wIX3_sizeOf : Cond.instanceMethod yX3_sizeOf ∈ kw_ws := kz_2 (List.mem_of_getElem? (i := 61) (by first | exact rfl | decide +kernel)) rfl
theorem wIX3_hasPlaces : Cond.instanceMethod yX3_hasPlaces ∈ kw_ws := kz_2 (List.mem_of_getElem? (i := 65) (by first | exact rfl | decide +kernel)) rfl
theorem wIX3_valueAt : Cond.instanceMethod yX3_valueAt ∈ kw_ws := kz_2 (List.mem_of_getElem? (i := 69) (by first | exact rfl | decide +kernel)) rfl
theorem wIX3_change : Cond.instanceMethod yX3_change ∈ kw_ws := kz_2 (List.mem_of_getElem? (i := 73) (by first | exact rfl | decide +kernel)) rfl
theorem wIX4_answer : Cond.instanceMethod yX4_answer ∈ kw_ws := kz_2 (List.mem_of_getElem? (i := 77) (by first | exact rfl | decide +kernel)) rfl
theorem wIX7_at : Cond.instanceMethod yX7_at ∈ kw_ws := kz_2 (List.mem_of_getElem? (i := 81) (by first | exact rfl | decide +kernel)) rfl
theorem wIX7_tear : Cond.instanceMethod yX7_tear ∈ kw_ws := kz_2 (List.mem_of_getElem? (i := 85) (by first | exact rfl | decide +kernel)) rfl
theorem wIX3_drop : Cond.instanceMethod yX3_drop ∈ kw_ws := kz_2 (List.mem_of_getElem? (i := 90) (by first | exact rfl | decide +kernel)) rfl
theorem wIX7_copy : Cond.instanceMethod yX7_copy ∈ kw_ws := kz_2 (List.mem_of_getElem? (i := 94) (by first | exact rfl | decide +kernel)) rfl
theorem wIX3_move : Cond.instanceMethod yX3_move ∈ kw_ws := kz_2 (List.mem_of_getElem? (i := 99) (by first | exact rfl | decide +kernel)) rfl
theorem wIX7_mean : Cond.instanceMethod yX7_mean ∈ kw_ws := kz_2 (List.mem_of_getElem? (i := 106) (by first | exact rfl | decide +kernel)) rfl
theorem wIX7_text : Cond.instanceMethod yX7_text ∈ kw_ws := kz_2 (List.mem_of_getElem? (i := 111) (by first | exact rfl | decide +kernel)) rfl
theorem wIX7_put : Cond.instanceMethod yX7_put ∈ kw_ws := kz_2 (List.mem_of_getElem? (i := 115) (by first | exact rfl | decide +kernel)) rfl
theorem wIX7_fault : Cond.instanceMethod yX7_fault ∈ kw_ws := kz_2 (List.mem_of_getElem? (i := 119) (by first | exact rfl | decide +kernel)) rfl
theorem wIX2_faultOf : Cond.instanceMethod yX2_faultOf ∈ kw_ws := kz_2 (List.mem_of_getElem? (i := 123) (by first | exact rfl | decide +kernel)) rfl
theorem wIX2_skipBlanks : Cond.instanceMethod yX2_skipBlanks ∈ kw_ws := kz_2 (List.mem_of_getElem? (i := 128) (by first | exact rfl | decide +kernel)) rfl
theorem wIX2_readWinds : Cond.instanceMethod yX2_readWinds ∈ kw_ws := kz_2 (List.mem_of_getElem? (i := 133) (by first | exact rfl | decide +kernel)) rfl
theorem wIX2_readLine : Cond.instanceMethod yX2_readLine ∈ kw_ws := kz_2 (List.mem_of_getElem? (i := 138) (by first | exact rfl | decide +kernel)) rfl
theorem wIX2_readFigure : Cond.instanceMethod yX2_readFigure ∈ kw_ws := kz_2 (List.mem_of_getElem? (i := 147) (by first | exact rfl | decide +kernel)) rfl
theorem wIX7_town : Cond.instanceMethod yX7_town ∈ kw_ws := kz_2 (List.mem_of_getElem? (i := 150) (by first | exact rfl | decide +kernel)) rfl
theorem wIX1_copyFrom : Cond.instanceMethod yX1_copyFrom ∈ kw_ws := kz_2 (List.mem_of_getElem? (i := 154) (by first | exact rfl | decide +kernel)) rfl
theorem wIX5_replay : Cond.instanceMethod yX5_replay ∈ kw_ws := kz_2 (List.mem_of_getElem? (i := 159) (by first | exact rfl | decide +kernel)) rfl
theorem wIX5_act : Cond.instanceMethod yX5_act ∈ kw_ws := kz_2 (List.mem_of_getElem? (i := 164) (by first | exact rfl | decide +kernel)) rfl
theorem wIX5_hasRoomFor : Cond.instanceMethod yX5_hasRoomFor ∈ kw_ws := kz_2 (List.mem_of_getElem? (i := 168) (by first | exact rfl | decide +kernel)) rfl
theorem wIX5_passHour : Cond.instanceMethod yX5_passHour ∈ kw_ws := kz_2 (List.mem_of_getElem? (i := 173) (by first | exact rfl | decide +kernel)) rfl
theorem wIX5_windNow : Cond.instanceMethod yX5_windNow ∈ kw_ws := kz_2 (List.mem_of_getElem? (i := 176) (by first | exact rfl | decide +kernel)) rfl
theorem wIX1_windAt : Cond.instanceMethod yX1_windAt ∈ kw_ws := kz_2 (List.mem_of_getElem? (i := 180) (by first | exact rfl | decide +kernel)) rfl
theorem wIX1_milesOf : Cond.instanceMethod yX1_milesOf ∈ kw_ws := kz_2 (List.mem_of_getElem? (i := 184) (by first | exact rfl | decide +kernel)) rfl
theorem wIX1_pullOf : Cond.instanceMethod yX1_pullOf ∈ kw_ws := kz_2 (List.mem_of_getElem? (i := 188) (by first | exact rfl | decide +kernel)) rfl
theorem wIX1_hasLine : Cond.instanceMethod yX1_hasLine ∈ kw_ws := kz_2 (List.mem_of_getElem? (i := 192) (by first | exact rfl | decide +kernel)) rfl
theorem wIX1_turnOf : Cond.instanceMethod yX1_turnOf ∈ kw_ws := kz_2 (List.mem_of_getElem? (i := 199) (by first | exact rfl | decide +kernel)) rfl
theorem wIX7_line : Cond.instanceMethod yX7_line ∈ kw_ws := kz_2 (List.mem_of_getElem? (i := 212) (by first | exact rfl | decide +kernel)) rfl
theorem wIX5_trait : Cond.instanceMethod yX5_trait ∈ kw_ws := kz_2 (List.mem_of_getElem? (i := 217) (by first | exact rfl | decide +kernel)) rfl
theorem wIX5_isHung : Cond.instanceMethod yX5_isHung ∈ kw_ws := kz_2 (List.mem_of_getElem? (i := 222) (by first | exact rfl | decide +kernel)) rfl
theorem wIX7_mark : Cond.instanceMethod yX7_mark ∈ kw_ws := kz_2 (List.mem_of_getElem? (i := 227) (by first | exact rfl | decide +kernel)) rfl
theorem wIX5_hoursToStorm : Cond.instanceMethod yX5_hoursToStorm ∈ kw_ws := kz_2 (List.mem_of_getElem? (i := 237) (by first | exact rfl | decide +kernel)) rfl
theorem wIX5_windAhead : Cond.instanceMethod yX5_windAhead ∈ kw_ws := kz_3 (List.mem_of_getElem? (i := 1) (by first | exact rfl | decide +kernel)) rfl
theorem wIX1_othersNoWider : Cond.instanceMethod yX1_othersNoWider ∈ kw_ws := kz_3 (List.mem_of_getElem? (i := 11) (by first | exact rfl | decide +kernel)) rfl
theorem wIX7_wind : Cond.instanceMethod yX7_wind ∈ kw_ws := kz_3 (List.mem_of_getElem? (i := 17) (by first | exact rfl | decide +kernel)) rfl
theorem wIX5_isEmpty : Cond.instanceMethod yX5_isEmpty ∈ kw_ws := kz_3 (List.mem_of_getElem? (i := 21) (by first | exact rfl | decide +kernel)) rfl
theorem wIX7_hang : Cond.instanceMethod yX7_hang ∈ kw_ws := kz_3 (List.mem_of_getElem? (i := 26) (by first | exact rfl | decide +kernel)) rfl
theorem wIX7_take : Cond.instanceMethod yX7_take ∈ kw_ws := kz_3 (List.mem_of_getElem? (i := 33) (by first | exact rfl | decide +kernel)) rfl
theorem wIX7_hour : Cond.instanceMethod yX7_hour ∈ kw_ws := kz_3 (List.mem_of_getElem? (i := 37) (by first | exact rfl | decide +kernel)) rfl
theorem wIX4_tellWhole : Cond.instanceMethod yX4_tellWhole ∈ kw_ws := kz_3 (List.mem_of_getElem? (i := 41) (by first | exact rfl | decide +kernel)) rfl
theorem wIX7_undo : Cond.instanceMethod yX7_undo ∈ kw_ws := kz_3 (List.mem_of_getElem? (i := 45) (by first | exact rfl | decide +kernel)) rfl
theorem wIX7_keep : Cond.instanceMethod yX7_keep ∈ kw_ws := kz_3 (List.mem_of_getElem? (i := 49) (by first | exact rfl | decide +kernel)) rfl
theorem wIX7_on : Cond.instanceMethod yX7_on ∈ kw_ws := kz_3 (List.mem_of_getElem? (i := 53) (by first | exact rfl | decide +kernel)) rfl
theorem wIX7_goes : Cond.instanceMethod yX7_goes ∈ kw_ws := kz_3 (List.mem_of_getElem? (i := 57) (by first | exact rfl | decide +kernel)) rfl
theorem wIX1_hasSet : Cond.instanceMethod yX1_hasSet ∈ kw_ws := kz_3 (List.mem_of_getElem? (i := 61) (by first | exact rfl | decide +kernel)) rfl
theorem wIX1_allLines : Cond.instanceMethod yX1_allLines ∈ kw_ws := kz_3 (List.mem_of_getElem? (i := 65) (by first | exact rfl | decide +kernel)) rfl
theorem wIX7_even : Cond.instanceMethod yX7_even ∈ kw_ws := kz_3 (List.mem_of_getElem? (i := 71) (by first | exact rfl | decide +kernel)) rfl
theorem wIX0_draw : Cond.instanceMethod yX0_draw ∈ kw_ws := kz_3 (List.mem_of_getElem? (i := 75) (by first | exact rfl | decide +kernel)) rfl
theorem wIX0_fits : Cond.instanceMethod yX0_fits ∈ kw_ws := kz_3 (List.mem_of_getElem? (i := 80) (by first | exact rfl | decide +kernel)) rfl
theorem wIX0_milesOf : Cond.instanceMethod yX0_milesOf ∈ kw_ws := kz_3 (List.mem_of_getElem? (i := 84) (by first | exact rfl | decide +kernel)) rfl
theorem wIX0_turnBy : Cond.instanceMethod yX0_turnBy ∈ kw_ws := kz_3 (List.mem_of_getElem? (i := 88) (by first | exact rfl | decide +kernel)) rfl
theorem wIX1_linenOf : Cond.instanceMethod yX1_linenOf ∈ kw_ws := kz_3 (List.mem_of_getElem? (i := 92) (by first | exact rfl | decide +kernel)) rfl
theorem wIX7_fast : Cond.instanceMethod yX7_fast ∈ kw_ws := kz_3 (List.mem_of_getElem? (i := 96) (by first | exact rfl | decide +kernel)) rfl
theorem wIX7_wet : Cond.instanceMethod yX7_wet ∈ kw_ws := kz_3 (List.mem_of_getElem? (i := 101) (by first | exact rfl | decide +kernel)) rfl
theorem wIX5_allWet : Cond.instanceMethod yX5_allWet ∈ kw_ws := kz_3 (List.mem_of_getElem? (i := 105) (by first | exact rfl | decide +kernel)) rfl
theorem wIX7_drySet : Cond.instanceMethod yX7_drySet ∈ kw_ws := kz_3 (List.mem_of_getElem? (i := 111) (by first | exact rfl | decide +kernel)) rfl
theorem wIX7_sail : Cond.instanceMethod yX7_sail ∈ kw_ws := kz_3 (List.mem_of_getElem? (i := 114) (by first | exact rfl | decide +kernel)) rfl
theorem wIX7_planRefusal : Cond.instanceMethod yX7_planRefusal ∈ kw_ws := kz_3 (List.mem_of_getElem? (i := 119) (by first | exact rfl | decide +kernel)) rfl
theorem wIX7_dry : Cond.instanceMethod yX7_dry ∈ kw_ws := kz_3 (List.mem_of_getElem? (i := 123) (by first | exact rfl | decide +kernel)) rfl
theorem wIX7_far : Cond.instanceMethod yX7_far ∈ kw_ws := kz_3 (List.mem_of_getElem? (i := 129) (by first | exact rfl | decide +kernel)) rfl
theorem wIX6_find : Cond.instanceMethod yX6_find ∈ kw_ws := kz_3 (List.mem_of_getElem? (i := 133) (by first | exact rfl | decide +kernel)) rfl
theorem wIX1_mostMilesOf : Cond.instanceMethod yX1_mostMilesOf ∈ kw_ws := kz_3 (List.mem_of_getElem? (i := 141) (by first | exact rfl | decide +kernel)) rfl
theorem wIX6_sailFrom : Cond.instanceMethod yX6_sailFrom ∈ kw_ws := kz_3 (List.mem_of_getElem? (i := 147) (by first | exact rfl | decide +kernel)) rfl
theorem wIX7_soon : Cond.instanceMethod yX7_soon ∈ kw_ws := kz_3 (List.mem_of_getElem? (i := 153) (by first | exact rfl | decide +kernel)) rfl
theorem wIX7_least : Cond.instanceMethod yX7_least ∈ kw_ws := kz_3 (List.mem_of_getElem? (i := 158) (by first | exact rfl | decide +kernel)) rfl
theorem wIX7_mostMilesBehind : Cond.instanceMethod yX7_mostMilesBehind ∈ kw_ws := kz_3 (List.mem_of_getElem? (i := 163) (by first | exact rfl | decide +kernel)) rfl
theorem wIX7_ways : Cond.instanceMethod yX7_ways ∈ kw_ws := kz_3 (List.mem_of_getElem? (i := 166) (by first | exact rfl | decide +kernel)) rfl
theorem wIX7_kinds : Cond.instanceMethod yX7_kinds ∈ kw_ws := kz_3 (List.mem_of_getElem? (i := 170) (by first | exact rfl | decide +kernel)) rfl
theorem wIX7_pairsRefusal : Cond.instanceMethod yX7_pairsRefusal ∈ kw_ws := kz_3 (List.mem_of_getElem? (i := 175) (by first | exact rfl | decide +kernel)) rfl
theorem wIX7_pulledSo : Cond.instanceMethod yX7_pulledSo ∈ kw_ws := kz_3 (List.mem_of_getElem? (i := 179) (by first | exact rfl | decide +kernel)) rfl
theorem wIX7_areas : Cond.instanceMethod yX7_areas ∈ kw_ws := kz_3 (List.mem_of_getElem? (i := 182) (by first | exact rfl | decide +kernel)) rfl
theorem wIX7_rival : Cond.instanceMethod yX7_rival ∈ kw_ws := kz_3 (List.mem_of_getElem? (i := 186) (by first | exact rfl | decide +kernel)) rfl
theorem wIX7_mid : Cond.instanceMethod yX7_mid ∈ kw_ws := kz_3 (List.mem_of_getElem? (i := 193) (by first | exact rfl | decide +kernel)) rfl
theorem wIX7_foresee : Cond.instanceMethod yX7_foresee ∈ kw_ws := kz_3 (List.mem_of_getElem? (i := 198) (by first | exact rfl | decide +kernel)) rfl
theorem wIX4_tellShare : Cond.instanceMethod yX4_tellShare ∈ kw_ws := kz_3 (List.mem_of_getElem? (i := 202) (by first | exact rfl | decide +kernel)) rfl
theorem wIX7_odds : Cond.instanceMethod yX7_odds ∈ kw_ws := kz_3 (List.mem_of_getElem? (i := 212) (by first | exact rfl | decide +kernel)) rfl
theorem wIX7_milesByGusts : Cond.instanceMethod yX7_milesByGusts ∈ kw_ws := kz_3 (List.mem_of_getElem? (i := 217) (by first | exact rfl | decide +kernel)) rfl
theorem wIX7_lots : Cond.instanceMethod yX7_lots ∈ kw_ws := kz_3 (List.mem_of_getElem? (i := 223) (by first | exact rfl | decide +kernel)) rfl
theorem wIX7_asked : Cond.instanceMethod yX7_asked ∈ kw_ws := kz_3 (List.mem_of_getElem? (i := 229) (by first | exact rfl | decide +kernel)) rfl
theorem wIX7_upper : Cond.instanceMethod yX7_upper ∈ kw_ws := kz_3 (List.mem_of_getElem? (i := 233) (by first | exact rfl | decide +kernel)) rfl
theorem wIX7_lower : Cond.instanceMethod yX7_lower ∈ kw_ws := kz_3 (List.mem_of_getElem? (i := 237) (by first | exact rfl | decide +kernel)) rfl
theorem wIX7_count : Cond.instanceMethod yX7_count ∈ kw_ws := kz_4 (List.mem_of_getElem? (i := 1) (by first | exact rfl | decide +kernel)) rfl
theorem wIX1_howManyAre : Cond.instanceMethod yX1_howManyAre ∈ kw_ws := kz_4 (List.mem_of_getElem? (i := 5) (by first | exact rfl | decide +kernel)) rfl
theorem wIX3_howMany : Cond.instanceMethod yX3_howMany ∈ kw_ws := kz_4 (List.mem_of_getElem? (i := 10) (by first | exact rfl | decide +kernel)) rfl
theorem wIX7_miles : Cond.instanceMethod yX7_miles ∈ kw_ws := kz_4 (List.mem_of_getElem? (i := 14) (by first | exact rfl | decide +kernel)) rfl
theorem wIX7_finding : Cond.instanceMethod yX7_finding ∈ kw_ws := kz_4 (List.mem_of_getElem? (i := 18) (by first | exact rfl | decide +kernel)) rfl
theorem wIX7_findings : Cond.instanceMethod yX7_findings ∈ kw_ws := kz_4 (List.mem_of_getElem? (i := 22) (by first | exact rfl | decide +kernel)) rfl
theorem wIX7_digest : Cond.instanceMethod yX7_digest ∈ kw_ws := kz_4 (List.mem_of_getElem? (i := 26) (by first | exact rfl | decide +kernel)) rfl
theorem wIX3_fold : Cond.instanceMethod yX3_fold ∈ kw_ws := kz_4 (List.mem_of_getElem? (i := 33) (by first | exact rfl | decide +kernel)) rfl
theorem wIX8_row : Cond.instanceMethod yX8_row ∈ kw_ws := kz_4 (List.mem_of_getElem? (i := 156) (by first | exact rfl | decide +kernel)) rfl
theorem wIX8_meet : Cond.instanceMethod yX8_meet ∈ kw_ws := kz_4 (List.mem_of_getElem? (i := 167) (by first | exact rfl | decide +kernel)) rfl
theorem wIX8_setRow : Cond.instanceMethod yX8_setRow ∈ kw_ws := kz_4 (List.mem_of_getElem? (i := 171) (by first | exact rfl | decide +kernel)) rfl
theorem wIX8_at : Cond.instanceMethod yX8_at ∈ kw_ws := kz_4 (List.mem_of_getElem? (i := 174) (by first | exact rfl | decide +kernel)) rfl
theorem wIX8_askedRow : Cond.instanceMethod yX8_askedRow ∈ kw_ws := kz_4 (List.mem_of_getElem? (i := 179) (by first | exact rfl | decide +kernel)) rfl
theorem wIX8_rowAt : Cond.instanceMethod yX8_rowAt ∈ kw_ws := kz_4 (List.mem_of_getElem? (i := 183) (by first | exact rfl | decide +kernel)) rfl
theorem wIX8_ask : Cond.instanceMethod yX8_ask ∈ kw_ws := kz_4 (List.mem_of_getElem? (i := 187) (by first | exact rfl | decide +kernel)) rfl
theorem wIX8_lay : Cond.instanceMethod yX8_lay ∈ kw_ws := kz_4 (List.mem_of_getElem? (i := 190) (by first | exact rfl | decide +kernel)) rfl
theorem wIX8_tear : Cond.instanceMethod yX8_tear ∈ kw_ws := kz_4 (List.mem_of_getElem? (i := 195) (by first | exact rfl | decide +kernel)) rfl
theorem wIX8_copy : Cond.instanceMethod yX8_copy ∈ kw_ws := kz_4 (List.mem_of_getElem? (i := 199) (by first | exact rfl | decide +kernel)) rfl
theorem wIX8_mean : Cond.instanceMethod yX8_mean ∈ kw_ws := kz_4 (List.mem_of_getElem? (i := 203) (by first | exact rfl | decide +kernel)) rfl
theorem wIX8_text : Cond.instanceMethod yX8_text ∈ kw_ws := kz_4 (List.mem_of_getElem? (i := 207) (by first | exact rfl | decide +kernel)) rfl
theorem wIX8_put : Cond.instanceMethod yX8_put ∈ kw_ws := kz_4 (List.mem_of_getElem? (i := 214) (by first | exact rfl | decide +kernel)) rfl
theorem wIX8_askedText : Cond.instanceMethod yX8_askedText ∈ kw_ws := kz_4 (List.mem_of_getElem? (i := 219) (by first | exact rfl | decide +kernel)) rfl
theorem wIX8_fault : Cond.instanceMethod yX8_fault ∈ kw_ws := kz_4 (List.mem_of_getElem? (i := 222) (by first | exact rfl | decide +kernel)) rfl
theorem wIX8_goesOn : Cond.instanceMethod yX8_goesOn ∈ kw_ws := kz_4 (List.mem_of_getElem? (i := 227) (by first | exact rfl | decide +kernel)) rfl
theorem wIX8_readsTown : Cond.instanceMethod yX8_readsTown ∈ kw_ws := kz_4 (List.mem_of_getElem? (i := 231) (by first | exact rfl | decide +kernel)) rfl
theorem wIX8_readsWinds : Cond.instanceMethod yX8_readsWinds ∈ kw_ws := kz_4 (List.mem_of_getElem? (i := 235) (by first | exact rfl | decide +kernel)) rfl
theorem wIX8_skip : Cond.instanceMethod yX8_skip ∈ kw_ws := kz_4 (List.mem_of_getElem? (i := 239) (by first | exact rfl | decide +kernel)) rfl
theorem wIX8_here : Cond.instanceMethod yX8_here ∈ kw_ws := kz_5 (List.mem_of_getElem? (i := 3) (by first | exact rfl | decide +kernel)) rfl
theorem wIX8_readsLine : Cond.instanceMethod yX8_readsLine ∈ kw_ws := kz_5 (List.mem_of_getElem? (i := 7) (by first | exact rfl | decide +kernel)) rfl
theorem wIX8_figure : Cond.instanceMethod yX8_figure ∈ kw_ws := kz_5 (List.mem_of_getElem? (i := 14) (by first | exact rfl | decide +kernel)) rfl
theorem wIX8_town : Cond.instanceMethod yX8_town ∈ kw_ws := kz_5 (List.mem_of_getElem? (i := 17) (by first | exact rfl | decide +kernel)) rfl
theorem wIX8_hang : Cond.instanceMethod yX8_hang ∈ kw_ws := kz_5 (List.mem_of_getElem? (i := 21) (by first | exact rfl | decide +kernel)) rfl
theorem wIX8_isLine : Cond.instanceMethod yX8_isLine ∈ kw_ws := kz_5 (List.mem_of_getElem? (i := 26) (by first | exact rfl | decide +kernel)) rfl
theorem wIX8_turnLine : Cond.instanceMethod yX8_turnLine ∈ kw_ws := kz_5 (List.mem_of_getElem? (i := 33) (by first | exact rfl | decide +kernel)) rfl
theorem wIX8_note : Cond.instanceMethod yX8_note ∈ kw_ws := kz_5 (List.mem_of_getElem? (i := 37) (by first | exact rfl | decide +kernel)) rfl
theorem wIX8_write : Cond.instanceMethod yX8_write ∈ kw_ws := kz_5 (List.mem_of_getElem? (i := 41) (by first | exact rfl | decide +kernel)) rfl
theorem wIX8_take : Cond.instanceMethod yX8_take ∈ kw_ws := kz_5 (List.mem_of_getElem? (i := 47) (by first | exact rfl | decide +kernel)) rfl
theorem wIX8_hour : Cond.instanceMethod yX8_hour ∈ kw_ws := kz_5 (List.mem_of_getElem? (i := 51) (by first | exact rfl | decide +kernel)) rfl
theorem wIX8_pass : Cond.instanceMethod yX8_pass ∈ kw_ws := kz_5 (List.mem_of_getElem? (i := 56) (by first | exact rfl | decide +kernel)) rfl
theorem wIX8_windAt : Cond.instanceMethod yX8_windAt ∈ kw_ws := kz_5 (List.mem_of_getElem? (i := 60) (by first | exact rfl | decide +kernel)) rfl
theorem wIX8_milesBy : Cond.instanceMethod yX8_milesBy ∈ kw_ws := kz_5 (List.mem_of_getElem? (i := 64) (by first | exact rfl | decide +kernel)) rfl
theorem wIX8_pullOf : Cond.instanceMethod yX8_pullOf ∈ kw_ws := kz_5 (List.mem_of_getElem? (i := 68) (by first | exact rfl | decide +kernel)) rfl
theorem wIX8_turnBy : Cond.instanceMethod yX8_turnBy ∈ kw_ws := kz_5 (List.mem_of_getElem? (i := 75) (by first | exact rfl | decide +kernel)) rfl
theorem wIX8_wetBehind : Cond.instanceMethod yX8_wetBehind ∈ kw_ws := kz_5 (List.mem_of_getElem? (i := 79) (by first | exact rfl | decide +kernel)) rfl
theorem wIX8_part : Cond.instanceMethod yX8_part ∈ kw_ws := kz_5 (List.mem_of_getElem? (i := 83) (by first | exact rfl | decide +kernel)) rfl
theorem wIX8_undo : Cond.instanceMethod yX8_undo ∈ kw_ws := kz_5 (List.mem_of_getElem? (i := 86) (by first | exact rfl | decide +kernel)) rfl
theorem wIX8_read : Cond.instanceMethod yX8_read ∈ kw_ws := kz_5 (List.mem_of_getElem? (i := 91) (by first | exact rfl | decide +kernel)) rfl
theorem wIX8_keep : Cond.instanceMethod yX8_keep ∈ kw_ws := kz_5 (List.mem_of_getElem? (i := 94) (by first | exact rfl | decide +kernel)) rfl
theorem wIX8_on : Cond.instanceMethod yX8_on ∈ kw_ws := kz_5 (List.mem_of_getElem? (i := 98) (by first | exact rfl | decide +kernel)) rfl
theorem wIX8_line : Cond.instanceMethod yX8_line ∈ kw_ws := kz_5 (List.mem_of_getElem? (i := 102) (by first | exact rfl | decide +kernel)) rfl
theorem wIX8_lineOf : Cond.instanceMethod yX8_lineOf ∈ kw_ws := kz_5 (List.mem_of_getElem? (i := 107) (by first | exact rfl | decide +kernel)) rfl
theorem wIX8_mark : Cond.instanceMethod yX8_mark ∈ kw_ws := kz_5 (List.mem_of_getElem? (i := 110) (by first | exact rfl | decide +kernel)) rfl
theorem wIX8_hoursTill : Cond.instanceMethod yX8_hoursTill ∈ kw_ws := kz_5 (List.mem_of_getElem? (i := 118) (by first | exact rfl | decide +kernel)) rfl
theorem wIX8_lesserOnes : Cond.instanceMethod yX8_lesserOnes ∈ kw_ws := kz_5 (List.mem_of_getElem? (i := 122) (by first | exact rfl | decide +kernel)) rfl
theorem wIX8_wind : Cond.instanceMethod yX8_wind ∈ kw_ws := kz_5 (List.mem_of_getElem? (i := 125) (by first | exact rfl | decide +kernel)) rfl
theorem wIX8_goes : Cond.instanceMethod yX8_goes ∈ kw_ws := kz_5 (List.mem_of_getElem? (i := 129) (by first | exact rfl | decide +kernel)) rfl
theorem wIX8_isSet : Cond.instanceMethod yX8_isSet ∈ kw_ws := kz_5 (List.mem_of_getElem? (i := 134) (by first | exact rfl | decide +kernel)) rfl
theorem wIX8_even : Cond.instanceMethod yX8_even ∈ kw_ws := kz_5 (List.mem_of_getElem? (i := 137) (by first | exact rfl | decide +kernel)) rfl
theorem wIX8_linenOf : Cond.instanceMethod yX8_linenOf ∈ kw_ws := kz_5 (List.mem_of_getElem? (i := 142) (by first | exact rfl | decide +kernel)) rfl
theorem wIX8_fast : Cond.instanceMethod yX8_fast ∈ kw_ws := kz_5 (List.mem_of_getElem? (i := 145) (by first | exact rfl | decide +kernel)) rfl
theorem wIX8_wet : Cond.instanceMethod yX8_wet ∈ kw_ws := kz_5 (List.mem_of_getElem? (i := 149) (by first | exact rfl | decide +kernel)) rfl
theorem wIX8_wetOfAll : Cond.instanceMethod yX8_wetOfAll ∈ kw_ws := kz_5 (List.mem_of_getElem? (i := 154) (by first | exact rfl | decide +kernel)) rfl
theorem wIX8_sail : Cond.instanceMethod yX8_sail ∈ kw_ws := kz_5 (List.mem_of_getElem? (i := 157) (by first | exact rfl | decide +kernel)) rfl
theorem wIX8_askedPlan : Cond.instanceMethod yX8_askedPlan ∈ kw_ws := kz_5 (List.mem_of_getElem? (i := 162) (by first | exact rfl | decide +kernel)) rfl
theorem wIX8_dry : Cond.instanceMethod yX8_dry ∈ kw_ws := kz_5 (List.mem_of_getElem? (i := 165) (by first | exact rfl | decide +kernel)) rfl
theorem wIX8_far : Cond.instanceMethod yX8_far ∈ kw_ws := kz_5 (List.mem_of_getElem? (i := 169) (by first | exact rfl | decide +kernel)) rfl
theorem wIX8_setHours : Cond.instanceMethod yX8_setHours ∈ kw_ws := kz_5 (List.mem_of_getElem? (i := 174) (by first | exact rfl | decide +kernel)) rfl
theorem wIX8_farBy : Cond.instanceMethod yX8_farBy ∈ kw_ws := kz_5 (List.mem_of_getElem? (i := 178) (by first | exact rfl | decide +kernel)) rfl
theorem wIX8_soon : Cond.instanceMethod yX8_soon ∈ kw_ws := kz_5 (List.mem_of_getElem? (i := 185) (by first | exact rfl | decide +kernel)) rfl
theorem wIX8_mostOf : Cond.instanceMethod yX8_mostOf ∈ kw_ws := kz_5 (List.mem_of_getElem? (i := 190) (by first | exact rfl | decide +kernel)) rfl
theorem wIX8_least : Cond.instanceMethod yX8_least ∈ kw_ws := kz_5 (List.mem_of_getElem? (i := 196) (by first | exact rfl | decide +kernel)) rfl
theorem wIX8_ways : Cond.instanceMethod yX8_ways ∈ kw_ws := kz_5 (List.mem_of_getElem? (i := 200) (by first | exact rfl | decide +kernel)) rfl
theorem wIX8_kinds : Cond.instanceMethod yX8_kinds ∈ kw_ws := kz_5 (List.mem_of_getElem? (i := 204) (by first | exact rfl | decide +kernel)) rfl
theorem wIX8_askedPulls : Cond.instanceMethod yX8_askedPulls ∈ kw_ws := kz_5 (List.mem_of_getElem? (i := 209) (by first | exact rfl | decide +kernel)) rfl
theorem wIX8_pullsSo : Cond.instanceMethod yX8_pullsSo ∈ kw_ws := kz_5 (List.mem_of_getElem? (i := 213) (by first | exact rfl | decide +kernel)) rfl
theorem wIX8_areas : Cond.instanceMethod yX8_areas ∈ kw_ws := kz_5 (List.mem_of_getElem? (i := 216) (by first | exact rfl | decide +kernel)) rfl
theorem wIX8_rival : Cond.instanceMethod yX8_rival ∈ kw_ws := kz_5 (List.mem_of_getElem? (i := 220) (by first | exact rfl | decide +kernel)) rfl
theorem wIX8_mid : Cond.instanceMethod yX8_mid ∈ kw_ws := kz_5 (List.mem_of_getElem? (i := 224) (by first | exact rfl | decide +kernel)) rfl
theorem wIX8_gustMiles : Cond.instanceMethod yX8_gustMiles ∈ kw_ws := kz_5 (List.mem_of_getElem? (i := 229) (by first | exact rfl | decide +kernel)) rfl
theorem wIX8_weightOf : Cond.instanceMethod yX8_weightOf ∈ kw_ws := kz_5 (List.mem_of_getElem? (i := 233) (by first | exact rfl | decide +kernel)) rfl
theorem wIX8_odds : Cond.instanceMethod yX8_odds ∈ kw_ws := kz_6 (List.mem_of_getElem? (i := 0) (by first | exact rfl | decide +kernel)) rfl
theorem wIX8_lots : Cond.instanceMethod yX8_lots ∈ kw_ws := kz_6 (List.mem_of_getElem? (i := 4) (by first | exact rfl | decide +kernel)) rfl
theorem wIX8_asked : Cond.instanceMethod yX8_asked ∈ kw_ws := kz_6 (List.mem_of_getElem? (i := 11) (by first | exact rfl | decide +kernel)) rfl
theorem wIX8_upper : Cond.instanceMethod yX8_upper ∈ kw_ws := kz_6 (List.mem_of_getElem? (i := 15) (by first | exact rfl | decide +kernel)) rfl
theorem wIX8_lower : Cond.instanceMethod yX8_lower ∈ kw_ws := kz_6 (List.mem_of_getElem? (i := 19) (by first | exact rfl | decide +kernel)) rfl
theorem wIX8_count : Cond.instanceMethod yX8_count ∈ kw_ws := kz_6 (List.mem_of_getElem? (i := 23) (by first | exact rfl | decide +kernel)) rfl
theorem wIX8_tells : Cond.instanceMethod yX8_tells ∈ kw_ws := kz_6 (List.mem_of_getElem? (i := 28) (by first | exact rfl | decide +kernel)) rfl
theorem wIX8_howMany : Cond.instanceMethod yX8_howMany ∈ kw_ws := kz_6 (List.mem_of_getElem? (i := 32) (by first | exact rfl | decide +kernel)) rfl
theorem wIX8_there : Cond.instanceMethod yX8_there ∈ kw_ws := kz_6 (List.mem_of_getElem? (i := 36) (by first | exact rfl | decide +kernel)) rfl
theorem wIX8_miles : Cond.instanceMethod yX8_miles ∈ kw_ws := kz_6 (List.mem_of_getElem? (i := 39) (by first | exact rfl | decide +kernel)) rfl
theorem wIX8_finding : Cond.instanceMethod yX8_finding ∈ kw_ws := kz_6 (List.mem_of_getElem? (i := 43) (by first | exact rfl | decide +kernel)) rfl
theorem wIX8_findings : Cond.instanceMethod yX8_findings ∈ kw_ws := kz_6 (List.mem_of_getElem? (i := 47) (by first | exact rfl | decide +kernel)) rfl
theorem wIX8_digest : Cond.instanceMethod yX8_digest ∈ kw_ws := kz_6 (List.mem_of_getElem? (i := 51) (by first | exact rfl | decide +kernel)) rfl
theorem wIX8_mix : Cond.instanceMethod yX8_mix ∈ kw_ws := kz_6 (List.mem_of_getElem? (i := 57) (by first | exact rfl | decide +kernel)) rfl
theorem wIX8_mixTown : Cond.instanceMethod yX8_mixTown ∈ kw_ws := kz_6 (List.mem_of_getElem? (i := 62) (by first | exact rfl | decide +kernel)) rfl
theorem wVX7_row : Cond.selects RX7 yX7_row yX7_row ∈ kw_ws := kz_2 (List.mem_of_getElem? (i := 29) (by first | exact rfl | decide +kernel)) rfl
theorem wVX3_has : Cond.selects RX3 yX3_has yX3_has ∈ kw_ws := kz_2 (List.mem_of_getElem? (i := 37) (by first | exact rfl | decide +kernel)) rfl
theorem wVX4_refuse : Cond.selects RX4 yX4_refuse yX4_refuse ∈ kw_ws := kz_2 (List.mem_of_getElem? (i := 41) (by first | exact rfl | decide +kernel)) rfl
theorem wVX3_make : Cond.selects RX3 yX3_make yX3_make ∈ kw_ws := kz_2 (List.mem_of_getElem? (i := 45) (by first | exact rfl | decide +kernel)) rfl
theorem wVX7_lay : Cond.selects RX7 yX7_lay yX7_lay ∈ kw_ws := kz_2 (List.mem_of_getElem? (i := 50) (by first | exact rfl | decide +kernel)) rfl
theorem wVX3_findingAt : Cond.selects RX3 yX3_findingAt yX3_findingAt ∈ kw_ws := kz_2 (List.mem_of_getElem? (i := 54) (by first | exact rfl | decide +kernel)) rfl
theorem wVX3_isMissing : Cond.selects RX3 yX3_isMissing yX3_isMissing ∈ kw_ws := kz_2 (List.mem_of_getElem? (i := 58) (by first | exact rfl | decide +kernel)) rfl
theorem wVX3_sizeOf : Cond.selects RX3 yX3_sizeOf yX3_sizeOf ∈ kw_ws := kz_2 (List.mem_of_getElem? (i := 62) (by first | exact rfl | decide +kernel)) rfl
theorem wVX3_hasPlaces : Cond.selects RX3 yX3_hasPlaces yX3_hasPlaces ∈ kw_ws := kz_2 (List.mem_of_getElem? (i := 66) (by first | exact rfl | decide +kernel)) rfl
theorem wVX3_valueAt : Cond.selects RX3 yX3_valueAt yX3_valueAt ∈ kw_ws := kz_2 (List.mem_of_getElem? (i := 70) (by first | exact rfl | decide +kernel)) rfl
theorem wVX3_change : Cond.selects RX3 yX3_change yX3_change ∈ kw_ws := kz_2 (List.mem_of_getElem? (i := 74) (by first | exact rfl | decide +kernel)) rfl
theorem wVX4_answer : Cond.selects RX4 yX4_answer yX4_answer ∈ kw_ws := kz_2 (List.mem_of_getElem? (i := 78) (by first | exact rfl | decide +kernel)) rfl
theorem wVX7_at : Cond.selects RX7 yX7_at yX7_at ∈ kw_ws := kz_2 (List.mem_of_getElem? (i := 82) (by first | exact rfl | decide +kernel)) rfl
theorem wVX7_tear : Cond.selects RX7 yX7_tear yX7_tear ∈ kw_ws := kz_2 (List.mem_of_getElem? (i := 86) (by first | exact rfl | decide +kernel)) rfl
theorem wVX3_drop : Cond.selects RX3 yX3_drop yX3_drop ∈ kw_ws := kz_2 (List.mem_of_getElem? (i := 91) (by first | exact rfl | decide +kernel)) rfl
theorem wVX7_copy : Cond.selects RX7 yX7_copy yX7_copy ∈ kw_ws := kz_2 (List.mem_of_getElem? (i := 95) (by first | exact rfl | decide +kernel)) rfl
theorem wVX3_move : Cond.selects RX3 yX3_move yX3_move ∈ kw_ws := kz_2 (List.mem_of_getElem? (i := 100) (by first | exact rfl | decide +kernel)) rfl
theorem wVX7_mean : Cond.selects RX7 yX7_mean yX7_mean ∈ kw_ws := kz_2 (List.mem_of_getElem? (i := 107) (by first | exact rfl | decide +kernel)) rfl
theorem wVX7_text : Cond.selects RX7 yX7_text yX7_text ∈ kw_ws := kz_2 (List.mem_of_getElem? (i := 112) (by first | exact rfl | decide +kernel)) rfl
theorem wVX7_put : Cond.selects RX7 yX7_put yX7_put ∈ kw_ws := kz_2 (List.mem_of_getElem? (i := 116) (by first | exact rfl | decide +kernel)) rfl
theorem wVX7_fault : Cond.selects RX7 yX7_fault yX7_fault ∈ kw_ws := kz_2 (List.mem_of_getElem? (i := 120) (by first | exact rfl | decide +kernel)) rfl
theorem wVX2_faultOf : Cond.selects RX2 yX2_faultOf yX2_faultOf ∈ kw_ws := kz_2 (List.mem_of_getElem? (i := 124) (by first | exact rfl | decide +kernel)) rfl
theorem wVX7_town : Cond.selects RX7 yX7_town yX7_town ∈ kw_ws := kz_2 (List.mem_of_getElem? (i := 151) (by first | exact rfl | decide +kernel)) rfl
theorem wVX1_copyFrom : Cond.selects RX1 yX1_copyFrom yX1_copyFrom ∈ kw_ws := kz_2 (List.mem_of_getElem? (i := 155) (by first | exact rfl | decide +kernel)) rfl
theorem wVX5_replay : Cond.selects RX5 yX5_replay yX5_replay ∈ kw_ws := kz_2 (List.mem_of_getElem? (i := 160) (by first | exact rfl | decide +kernel)) rfl
theorem wVX5_act : Cond.selects RX5 yX5_act yX5_act ∈ kw_ws := kz_2 (List.mem_of_getElem? (i := 165) (by first | exact rfl | decide +kernel)) rfl
theorem wVX5_hasRoomFor : Cond.selects RX5 yX5_hasRoomFor yX5_hasRoomFor ∈ kw_ws := kz_2 (List.mem_of_getElem? (i := 169) (by first | exact rfl | decide +kernel)) rfl
theorem wVX5_windNow : Cond.selects RX5 yX5_windNow yX5_windNow ∈ kw_ws := kz_2 (List.mem_of_getElem? (i := 177) (by first | exact rfl | decide +kernel)) rfl
theorem wVX1_windAt : Cond.selects RX1 yX1_windAt yX1_windAt ∈ kw_ws := kz_2 (List.mem_of_getElem? (i := 181) (by first | exact rfl | decide +kernel)) rfl
theorem wVX1_milesOf : Cond.selects RX1 yX1_milesOf yX1_milesOf ∈ kw_ws := kz_2 (List.mem_of_getElem? (i := 185) (by first | exact rfl | decide +kernel)) rfl
theorem wVX1_pullOf : Cond.selects RX1 yX1_pullOf yX1_pullOf ∈ kw_ws := kz_2 (List.mem_of_getElem? (i := 189) (by first | exact rfl | decide +kernel)) rfl
theorem wVX1_hasLine : Cond.selects RX1 yX1_hasLine yX1_hasLine ∈ kw_ws := kz_2 (List.mem_of_getElem? (i := 193) (by first | exact rfl | decide +kernel)) rfl
theorem wVX1_turnOf : Cond.selects RX1 yX1_turnOf yX1_turnOf ∈ kw_ws := kz_2 (List.mem_of_getElem? (i := 200) (by first | exact rfl | decide +kernel)) rfl
theorem wVX7_line : Cond.selects RX7 yX7_line yX7_line ∈ kw_ws := kz_2 (List.mem_of_getElem? (i := 213) (by first | exact rfl | decide +kernel)) rfl
theorem wVX5_trait : Cond.selects RX5 yX5_trait yX5_trait ∈ kw_ws := kz_2 (List.mem_of_getElem? (i := 218) (by first | exact rfl | decide +kernel)) rfl
theorem wVX5_isHung : Cond.selects RX5 yX5_isHung yX5_isHung ∈ kw_ws := kz_2 (List.mem_of_getElem? (i := 223) (by first | exact rfl | decide +kernel)) rfl
theorem wVX7_mark : Cond.selects RX7 yX7_mark yX7_mark ∈ kw_ws := kz_2 (List.mem_of_getElem? (i := 228) (by first | exact rfl | decide +kernel)) rfl
theorem wVX5_hoursToStorm : Cond.selects RX5 yX5_hoursToStorm yX5_hoursToStorm ∈ kw_ws := kz_2 (List.mem_of_getElem? (i := 238) (by first | exact rfl | decide +kernel)) rfl
theorem wVX5_windAhead : Cond.selects RX5 yX5_windAhead yX5_windAhead ∈ kw_ws := kz_3 (List.mem_of_getElem? (i := 2) (by first | exact rfl | decide +kernel)) rfl
theorem wVX1_othersNoWider : Cond.selects RX1 yX1_othersNoWider yX1_othersNoWider ∈ kw_ws := kz_3 (List.mem_of_getElem? (i := 12) (by first | exact rfl | decide +kernel)) rfl
theorem wVX7_wind : Cond.selects RX7 yX7_wind yX7_wind ∈ kw_ws := kz_3 (List.mem_of_getElem? (i := 18) (by first | exact rfl | decide +kernel)) rfl
theorem wVX5_isEmpty : Cond.selects RX5 yX5_isEmpty yX5_isEmpty ∈ kw_ws := kz_3 (List.mem_of_getElem? (i := 22) (by first | exact rfl | decide +kernel)) rfl
theorem wVX7_hang : Cond.selects RX7 yX7_hang yX7_hang ∈ kw_ws := kz_3 (List.mem_of_getElem? (i := 27) (by first | exact rfl | decide +kernel)) rfl
theorem wVX7_take : Cond.selects RX7 yX7_take yX7_take ∈ kw_ws := kz_3 (List.mem_of_getElem? (i := 34) (by first | exact rfl | decide +kernel)) rfl
theorem wVX7_hour : Cond.selects RX7 yX7_hour yX7_hour ∈ kw_ws := kz_3 (List.mem_of_getElem? (i := 38) (by first | exact rfl | decide +kernel)) rfl
theorem wVX4_tellWhole : Cond.selects RX4 yX4_tellWhole yX4_tellWhole ∈ kw_ws := kz_3 (List.mem_of_getElem? (i := 42) (by first | exact rfl | decide +kernel)) rfl
theorem wVX7_undo : Cond.selects RX7 yX7_undo yX7_undo ∈ kw_ws := kz_3 (List.mem_of_getElem? (i := 46) (by first | exact rfl | decide +kernel)) rfl
theorem wVX7_keep : Cond.selects RX7 yX7_keep yX7_keep ∈ kw_ws := kz_3 (List.mem_of_getElem? (i := 50) (by first | exact rfl | decide +kernel)) rfl
theorem wVX7_on : Cond.selects RX7 yX7_on yX7_on ∈ kw_ws := kz_3 (List.mem_of_getElem? (i := 54) (by first | exact rfl | decide +kernel)) rfl
theorem wVX7_goes : Cond.selects RX7 yX7_goes yX7_goes ∈ kw_ws := kz_3 (List.mem_of_getElem? (i := 58) (by first | exact rfl | decide +kernel)) rfl
theorem wVX1_hasSet : Cond.selects RX1 yX1_hasSet yX1_hasSet ∈ kw_ws := kz_3 (List.mem_of_getElem? (i := 62) (by first | exact rfl | decide +kernel)) rfl
theorem wVX1_allLines : Cond.selects RX1 yX1_allLines yX1_allLines ∈ kw_ws := kz_3 (List.mem_of_getElem? (i := 66) (by first | exact rfl | decide +kernel)) rfl
theorem wVX7_even : Cond.selects RX7 yX7_even yX7_even ∈ kw_ws := kz_3 (List.mem_of_getElem? (i := 72) (by first | exact rfl | decide +kernel)) rfl
theorem wVX0_draw : Cond.selects RX0 yX0_draw yX0_draw ∈ kw_ws := kz_3 (List.mem_of_getElem? (i := 76) (by first | exact rfl | decide +kernel)) rfl
theorem wVX0_fits : Cond.selects RX0 yX0_fits yX0_fits ∈ kw_ws := kz_3 (List.mem_of_getElem? (i := 81) (by first | exact rfl | decide +kernel)) rfl
theorem wVX0_milesOf : Cond.selects RX0 yX0_milesOf yX0_milesOf ∈ kw_ws := kz_3 (List.mem_of_getElem? (i := 85) (by first | exact rfl | decide +kernel)) rfl
theorem wVX0_turnBy : Cond.selects RX0 yX0_turnBy yX0_turnBy ∈ kw_ws := kz_3 (List.mem_of_getElem? (i := 89) (by first | exact rfl | decide +kernel)) rfl
theorem wVX1_linenOf : Cond.selects RX1 yX1_linenOf yX1_linenOf ∈ kw_ws := kz_3 (List.mem_of_getElem? (i := 93) (by first | exact rfl | decide +kernel)) rfl
theorem wVX7_fast : Cond.selects RX7 yX7_fast yX7_fast ∈ kw_ws := kz_3 (List.mem_of_getElem? (i := 97) (by first | exact rfl | decide +kernel)) rfl
theorem wVX7_wet : Cond.selects RX7 yX7_wet yX7_wet ∈ kw_ws := kz_3 (List.mem_of_getElem? (i := 102) (by first | exact rfl | decide +kernel)) rfl
theorem wVX5_allWet : Cond.selects RX5 yX5_allWet yX5_allWet ∈ kw_ws := kz_3 (List.mem_of_getElem? (i := 106) (by first | exact rfl | decide +kernel)) rfl
theorem wVX7_sail : Cond.selects RX7 yX7_sail yX7_sail ∈ kw_ws := kz_3 (List.mem_of_getElem? (i := 115) (by first | exact rfl | decide +kernel)) rfl
theorem wVX7_dry : Cond.selects RX7 yX7_dry yX7_dry ∈ kw_ws := kz_3 (List.mem_of_getElem? (i := 124) (by first | exact rfl | decide +kernel)) rfl
theorem wVX7_far : Cond.selects RX7 yX7_far yX7_far ∈ kw_ws := kz_3 (List.mem_of_getElem? (i := 130) (by first | exact rfl | decide +kernel)) rfl
theorem wVX6_find : Cond.selects RX6 yX6_find yX6_find ∈ kw_ws := kz_3 (List.mem_of_getElem? (i := 134) (by first | exact rfl | decide +kernel)) rfl
theorem wVX1_mostMilesOf : Cond.selects RX1 yX1_mostMilesOf yX1_mostMilesOf ∈ kw_ws := kz_3 (List.mem_of_getElem? (i := 142) (by first | exact rfl | decide +kernel)) rfl
theorem wVX7_soon : Cond.selects RX7 yX7_soon yX7_soon ∈ kw_ws := kz_3 (List.mem_of_getElem? (i := 154) (by first | exact rfl | decide +kernel)) rfl
theorem wVX7_least : Cond.selects RX7 yX7_least yX7_least ∈ kw_ws := kz_3 (List.mem_of_getElem? (i := 159) (by first | exact rfl | decide +kernel)) rfl
theorem wVX7_ways : Cond.selects RX7 yX7_ways yX7_ways ∈ kw_ws := kz_3 (List.mem_of_getElem? (i := 167) (by first | exact rfl | decide +kernel)) rfl
theorem wVX7_kinds : Cond.selects RX7 yX7_kinds yX7_kinds ∈ kw_ws := kz_3 (List.mem_of_getElem? (i := 171) (by first | exact rfl | decide +kernel)) rfl
theorem wVX7_areas : Cond.selects RX7 yX7_areas yX7_areas ∈ kw_ws := kz_3 (List.mem_of_getElem? (i := 183) (by first | exact rfl | decide +kernel)) rfl
theorem wVX7_rival : Cond.selects RX7 yX7_rival yX7_rival ∈ kw_ws := kz_3 (List.mem_of_getElem? (i := 187) (by first | exact rfl | decide +kernel)) rfl
theorem wVX7_mid : Cond.selects RX7 yX7_mid yX7_mid ∈ kw_ws := kz_3 (List.mem_of_getElem? (i := 194) (by first | exact rfl | decide +kernel)) rfl
theorem wVX4_tellShare : Cond.selects RX4 yX4_tellShare yX4_tellShare ∈ kw_ws := kz_3 (List.mem_of_getElem? (i := 203) (by first | exact rfl | decide +kernel)) rfl
theorem wVX7_odds : Cond.selects RX7 yX7_odds yX7_odds ∈ kw_ws := kz_3 (List.mem_of_getElem? (i := 213) (by first | exact rfl | decide +kernel)) rfl
theorem wVX7_lots : Cond.selects RX7 yX7_lots yX7_lots ∈ kw_ws := kz_3 (List.mem_of_getElem? (i := 224) (by first | exact rfl | decide +kernel)) rfl
theorem wVX7_asked : Cond.selects RX7 yX7_asked yX7_asked ∈ kw_ws := kz_3 (List.mem_of_getElem? (i := 230) (by first | exact rfl | decide +kernel)) rfl
theorem wVX7_upper : Cond.selects RX7 yX7_upper yX7_upper ∈ kw_ws := kz_3 (List.mem_of_getElem? (i := 234) (by first | exact rfl | decide +kernel)) rfl
theorem wVX7_lower : Cond.selects RX7 yX7_lower yX7_lower ∈ kw_ws := kz_3 (List.mem_of_getElem? (i := 238) (by first | exact rfl | decide +kernel)) rfl
theorem wVX7_count : Cond.selects RX7 yX7_count yX7_count ∈ kw_ws := kz_4 (List.mem_of_getElem? (i := 2) (by first | exact rfl | decide +kernel)) rfl
theorem wVX1_howManyAre : Cond.selects RX1 yX1_howManyAre yX1_howManyAre ∈ kw_ws := kz_4 (List.mem_of_getElem? (i := 6) (by first | exact rfl | decide +kernel)) rfl
theorem wVX3_howMany : Cond.selects RX3 yX3_howMany yX3_howMany ∈ kw_ws := kz_4 (List.mem_of_getElem? (i := 11) (by first | exact rfl | decide +kernel)) rfl
theorem wVX7_miles : Cond.selects RX7 yX7_miles yX7_miles ∈ kw_ws := kz_4 (List.mem_of_getElem? (i := 15) (by first | exact rfl | decide +kernel)) rfl
theorem wVX7_finding : Cond.selects RX7 yX7_finding yX7_finding ∈ kw_ws := kz_4 (List.mem_of_getElem? (i := 19) (by first | exact rfl | decide +kernel)) rfl
theorem wVX7_findings : Cond.selects RX7 yX7_findings yX7_findings ∈ kw_ws := kz_4 (List.mem_of_getElem? (i := 23) (by first | exact rfl | decide +kernel)) rfl
theorem wVX7_digest : Cond.selects RX7 yX7_digest yX7_digest ∈ kw_ws := kz_4 (List.mem_of_getElem? (i := 27) (by first | exact rfl | decide +kernel)) rfl
theorem wVX3_fold : Cond.selects RX3 yX3_fold yX3_fold ∈ kw_ws := kz_4 (List.mem_of_getElem? (i := 34) (by first | exact rfl | decide +kernel)) rfl
theorem wVX8_row : Cond.selects RX8 yX8_row yX8_row ∈ kw_ws := kz_4 (List.mem_of_getElem? (i := 157) (by first | exact rfl | decide +kernel)) rfl
theorem wVX8_at : Cond.selects RX8 yX8_at yX8_at ∈ kw_ws := kz_4 (List.mem_of_getElem? (i := 175) (by first | exact rfl | decide +kernel)) rfl
theorem wVX8_lay : Cond.selects RX8 yX8_lay yX8_lay ∈ kw_ws := kz_4 (List.mem_of_getElem? (i := 191) (by first | exact rfl | decide +kernel)) rfl
theorem wVX8_tear : Cond.selects RX8 yX8_tear yX8_tear ∈ kw_ws := kz_4 (List.mem_of_getElem? (i := 196) (by first | exact rfl | decide +kernel)) rfl
theorem wVX8_copy : Cond.selects RX8 yX8_copy yX8_copy ∈ kw_ws := kz_4 (List.mem_of_getElem? (i := 200) (by first | exact rfl | decide +kernel)) rfl
theorem wVX8_mean : Cond.selects RX8 yX8_mean yX8_mean ∈ kw_ws := kz_4 (List.mem_of_getElem? (i := 204) (by first | exact rfl | decide +kernel)) rfl
theorem wVX8_text : Cond.selects RX8 yX8_text yX8_text ∈ kw_ws := kz_4 (List.mem_of_getElem? (i := 208) (by first | exact rfl | decide +kernel)) rfl
theorem wVX8_put : Cond.selects RX8 yX8_put yX8_put ∈ kw_ws := kz_4 (List.mem_of_getElem? (i := 215) (by first | exact rfl | decide +kernel)) rfl
theorem wVX8_fault : Cond.selects RX8 yX8_fault yX8_fault ∈ kw_ws := kz_4 (List.mem_of_getElem? (i := 223) (by first | exact rfl | decide +kernel)) rfl
theorem wVX8_town : Cond.selects RX8 yX8_town yX8_town ∈ kw_ws := kz_5 (List.mem_of_getElem? (i := 18) (by first | exact rfl | decide +kernel)) rfl
theorem wVX8_hang : Cond.selects RX8 yX8_hang yX8_hang ∈ kw_ws := kz_5 (List.mem_of_getElem? (i := 22) (by first | exact rfl | decide +kernel)) rfl
theorem wVX8_take : Cond.selects RX8 yX8_take yX8_take ∈ kw_ws := kz_5 (List.mem_of_getElem? (i := 48) (by first | exact rfl | decide +kernel)) rfl
theorem wVX8_hour : Cond.selects RX8 yX8_hour yX8_hour ∈ kw_ws := kz_5 (List.mem_of_getElem? (i := 52) (by first | exact rfl | decide +kernel)) rfl
theorem wVX8_undo : Cond.selects RX8 yX8_undo yX8_undo ∈ kw_ws := kz_5 (List.mem_of_getElem? (i := 87) (by first | exact rfl | decide +kernel)) rfl
theorem wVX8_keep : Cond.selects RX8 yX8_keep yX8_keep ∈ kw_ws := kz_5 (List.mem_of_getElem? (i := 95) (by first | exact rfl | decide +kernel)) rfl
theorem wVX8_on : Cond.selects RX8 yX8_on yX8_on ∈ kw_ws := kz_5 (List.mem_of_getElem? (i := 99) (by first | exact rfl | decide +kernel)) rfl
theorem wVX8_line : Cond.selects RX8 yX8_line yX8_line ∈ kw_ws := kz_5 (List.mem_of_getElem? (i := 103) (by first | exact rfl | decide +kernel)) rfl
theorem wVX8_mark : Cond.selects RX8 yX8_mark yX8_mark ∈ kw_ws := kz_5 (List.mem_of_getElem? (i := 111) (by first | exact rfl | decide +kernel)) rfl
theorem wVX8_wind : Cond.selects RX8 yX8_wind yX8_wind ∈ kw_ws := kz_5 (List.mem_of_getElem? (i := 126) (by first | exact rfl | decide +kernel)) rfl
theorem wVX8_goes : Cond.selects RX8 yX8_goes yX8_goes ∈ kw_ws := kz_5 (List.mem_of_getElem? (i := 130) (by first | exact rfl | decide +kernel)) rfl
theorem wVX8_even : Cond.selects RX8 yX8_even yX8_even ∈ kw_ws := kz_5 (List.mem_of_getElem? (i := 138) (by first | exact rfl | decide +kernel)) rfl
theorem wVX8_fast : Cond.selects RX8 yX8_fast yX8_fast ∈ kw_ws := kz_5 (List.mem_of_getElem? (i := 146) (by first | exact rfl | decide +kernel)) rfl
theorem wVX8_wet : Cond.selects RX8 yX8_wet yX8_wet ∈ kw_ws := kz_5 (List.mem_of_getElem? (i := 150) (by first | exact rfl | decide +kernel)) rfl
theorem wVX8_sail : Cond.selects RX8 yX8_sail yX8_sail ∈ kw_ws := kz_5 (List.mem_of_getElem? (i := 158) (by first | exact rfl | decide +kernel)) rfl
theorem wVX8_dry : Cond.selects RX8 yX8_dry yX8_dry ∈ kw_ws := kz_5 (List.mem_of_getElem? (i := 166) (by first | exact rfl | decide +kernel)) rfl
theorem wVX8_far : Cond.selects RX8 yX8_far yX8_far ∈ kw_ws := kz_5 (List.mem_of_getElem? (i := 170) (by first | exact rfl | decide +kernel)) rfl
theorem wVX8_soon : Cond.selects RX8 yX8_soon yX8_soon ∈ kw_ws := kz_5 (List.mem_of_getElem? (i := 186) (by first | exact rfl | decide +kernel)) rfl
theorem wVX8_least : Cond.selects RX8 yX8_least yX8_least ∈ kw_ws := kz_5 (List.mem_of_getElem? (i := 197) (by first | exact rfl | decide +kernel)) rfl
theorem wVX8_ways : Cond.selects RX8 yX8_ways yX8_ways ∈ kw_ws := kz_5 (List.mem_of_getElem? (i := 201) (by first | exact rfl | decide +kernel)) rfl
theorem wVX8_kinds : Cond.selects RX8 yX8_kinds yX8_kinds ∈ kw_ws := kz_5 (List.mem_of_getElem? (i := 205) (by first | exact rfl | decide +kernel)) rfl
theorem wVX8_areas : Cond.selects RX8 yX8_areas yX8_areas ∈ kw_ws := kz_5 (List.mem_of_getElem? (i := 217) (by first | exact rfl | decide +kernel)) rfl
theorem wVX8_rival : Cond.selects RX8 yX8_rival yX8_rival ∈ kw_ws := kz_5 (List.mem_of_getElem? (i := 221) (by first | exact rfl | decide +kernel)) rfl
theorem wVX8_mid : Cond.selects RX8 yX8_mid yX8_mid ∈ kw_ws := kz_5 (List.mem_of_getElem? (i := 225) (by first | exact rfl | decide +kernel)) rfl
theorem wVX8_odds : Cond.selects RX8 yX8_odds yX8_odds ∈ kw_ws := kz_6 (List.mem_of_getElem? (i := 1) (by first | exact rfl | decide +kernel)) rfl
theorem wVX8_lots : Cond.selects RX8 yX8_lots yX8_lots ∈ kw_ws := kz_6 (List.mem_of_getElem? (i := 5) (by first | exact rfl | decide +kernel)) rfl
theorem wVX8_asked : Cond.selects RX8 yX8_asked yX8_asked ∈ kw_ws := kz_6 (List.mem_of_getElem? (i := 12) (by first | exact rfl | decide +kernel)) rfl
theorem wVX8_upper : Cond.selects RX8 yX8_upper yX8_upper ∈ kw_ws := kz_6 (List.mem_of_getElem? (i := 16) (by first | exact rfl | decide +kernel)) rfl
theorem wVX8_lower : Cond.selects RX8 yX8_lower yX8_lower ∈ kw_ws := kz_6 (List.mem_of_getElem? (i := 20) (by first | exact rfl | decide +kernel)) rfl
theorem wVX8_count : Cond.selects RX8 yX8_count yX8_count ∈ kw_ws := kz_6 (List.mem_of_getElem? (i := 24) (by first | exact rfl | decide +kernel)) rfl
theorem wVX8_miles : Cond.selects RX8 yX8_miles yX8_miles ∈ kw_ws := kz_6 (List.mem_of_getElem? (i := 40) (by first | exact rfl | decide +kernel)) rfl
theorem wVX8_finding : Cond.selects RX8 yX8_finding yX8_finding ∈ kw_ws := kz_6 (List.mem_of_getElem? (i := 44) (by first | exact rfl | decide +kernel)) rfl
theorem wVX8_findings : Cond.selects RX8 yX8_findings yX8_findings ∈ kw_ws := kz_6 (List.mem_of_getElem? (i := 48) (by first | exact rfl | decide +kernel)) rfl
theorem wVX8_digest : Cond.selects RX8 yX8_digest yX8_digest ∈ kw_ws := kz_6 (List.mem_of_getElem? (i := 52) (by first | exact rfl | decide +kernel)) rfl
theorem wTJ7_fill_53178 : Cond.static yJ7_fill_53178 ∈ kw_ws := kz_1 (List.mem_of_getElem? (i := 31) (by first | exact rfl | decide +kernel)) rfl
theorem wTX2_kindOf : Cond.static yX2_kindOf ∈ kw_ws := kz_2 (List.mem_of_getElem? (i := 141) (by first | exact rfl | decide +kernel)) rfl
theorem wTX7_pull : Cond.static yX7_pull ∈ kw_ws := kz_2 (List.mem_of_getElem? (i := 196) (by first | exact rfl | decide +kernel)) rfl
theorem wTX7_weather : Cond.static yX7_weather ∈ kw_ws := kz_2 (List.mem_of_getElem? (i := 203) (by first | exact rfl | decide +kernel)) rfl
theorem wTJ9_max_7cf53 : Cond.static yJ9_max_7cf53 ∈ kw_ws := kz_2 (List.mem_of_getElem? (i := 206) (by first | exact rfl | decide +kernel)) rfl
theorem wTJ9_min_7cf53 : Cond.static yJ9_min_7cf53 ∈ kw_ws := kz_2 (List.mem_of_getElem? (i := 209) (by first | exact rfl | decide +kernel)) rfl
theorem wTX7_isA : Cond.static yX7_isA ∈ kw_ws := kz_2 (List.mem_of_getElem? (i := 231) (by first | exact rfl | decide +kernel)) rfl
theorem wTJ6_bitCount_0f7a4 : Cond.static yJ6_bitCount_0f7a4 ∈ kw_ws := kz_3 (List.mem_of_getElem? (i := 5) (by first | exact rfl | decide +kernel)) rfl
theorem wTX7_play : Cond.static yX7_play ∈ kw_ws := kz_3 (List.mem_of_getElem? (i := 190) (by first | exact rfl | decide +kernel)) rfl
theorem wTJ9_abs_067f4 : Cond.static yJ9_abs_067f4 ∈ kw_ws := kz_3 (List.mem_of_getElem? (i := 206) (by first | exact rfl | decide +kernel)) rfl
theorem wTX4_commonDivisor : Cond.static yX4_commonDivisor ∈ kw_ws := kz_3 (List.mem_of_getElem? (i := 209) (by first | exact rfl | decide +kernel)) rfl
theorem wTX7_weightOfGusts : Cond.static yX7_weightOfGusts ∈ kw_ws := kz_3 (List.mem_of_getElem? (i := 220) (by first | exact rfl | decide +kernel)) rfl
theorem wTX8_isRow : Cond.static yX8_isRow ∈ kw_ws := kz_4 (List.mem_of_getElem? (i := 160) (by first | exact rfl | decide +kernel)) rfl
theorem wTX8_in : Cond.static yX8_in ∈ kw_ws := kz_4 (List.mem_of_getElem? (i := 163) (by first | exact rfl | decide +kernel)) rfl
theorem wTX8_isText : Cond.static yX8_isText ∈ kw_ws := kz_4 (List.mem_of_getElem? (i := 211) (by first | exact rfl | decide +kernel)) rfl
theorem wTX8_kindBy : Cond.static yX8_kindBy ∈ kw_ws := kz_5 (List.mem_of_getElem? (i := 10) (by first | exact rfl | decide +kernel)) rfl
theorem wTX8_has : Cond.static yX8_has ∈ kw_ws := kz_5 (List.mem_of_getElem? (i := 29) (by first | exact rfl | decide +kernel)) rfl
theorem wTX8_bits : Cond.static yX8_bits ∈ kw_ws := kz_5 (List.mem_of_getElem? (i := 44) (by first | exact rfl | decide +kernel)) rfl
theorem wTX8_pullBy : Cond.static yX8_pullBy ∈ kw_ws := kz_5 (List.mem_of_getElem? (i := 71) (by first | exact rfl | decide +kernel)) rfl
theorem wTX8_isA : Cond.static yX8_isA ∈ kw_ws := kz_5 (List.mem_of_getElem? (i := 114) (by first | exact rfl | decide +kernel)) rfl
theorem wTX8_isTurn : Cond.static yX8_isTurn ∈ kw_ws := kz_5 (List.mem_of_getElem? (i := 182) (by first | exact rfl | decide +kernel)) rfl
theorem wTX8_greater : Cond.static yX8_greater ∈ kw_ws := kz_5 (List.mem_of_getElem? (i := 193) (by first | exact rfl | decide +kernel)) rfl
theorem wTX8_power : Cond.static yX8_power ∈ kw_ws := kz_5 (List.mem_of_getElem? (i := 236) (by first | exact rfl | decide +kernel)) rfl
theorem wNL : Cond.initialized RL ∈ kw_ws := kz_1 (List.mem_of_getElem? (i := 0) (by first | exact rfl | decide +kernel)) rfl
theorem wNX7 : Cond.initialized RX7 ∈ kw_ws := kz_1 (List.mem_of_getElem? (i := 1) (by first | exact rfl | decide +kernel)) rfl
theorem wNX3 : Cond.initialized RX3 ∈ kw_ws := kz_1 (List.mem_of_getElem? (i := 2) (by first | exact rfl | decide +kernel)) rfl
theorem wNJ7 : Cond.initialized RJ7 ∈ kw_ws := kz_1 (List.mem_of_getElem? (i := 3) (by first | exact rfl | decide +kernel)) rfl
theorem wNX2 : Cond.initialized RX2 ∈ kw_ws := kz_1 (List.mem_of_getElem? (i := 4) (by first | exact rfl | decide +kernel)) rfl
theorem wNX1 : Cond.initialized RX1 ∈ kw_ws := kz_1 (List.mem_of_getElem? (i := 5) (by first | exact rfl | decide +kernel)) rfl
theorem wNX5 : Cond.initialized RX5 ∈ kw_ws := kz_1 (List.mem_of_getElem? (i := 6) (by first | exact rfl | decide +kernel)) rfl
theorem wNX0 : Cond.initialized RX0 ∈ kw_ws := kz_1 (List.mem_of_getElem? (i := 7) (by first | exact rfl | decide +kernel)) rfl
theorem wNX6 : Cond.initialized RX6 ∈ kw_ws := kz_1 (List.mem_of_getElem? (i := 8) (by first | exact rfl | decide +kernel)) rfl
theorem wNX4 : Cond.initialized RX4 ∈ kw_ws := kz_1 (List.mem_of_getElem? (i := 9) (by first | exact rfl | decide +kernel)) rfl
theorem wNX8 : Cond.initialized RX8 ∈ kw_ws := kz_1 (List.mem_of_getElem? (i := 10) (by first | exact rfl | decide +kernel)) rfl
theorem wNJ10 : Cond.initialized RJ10 ∈ kw_ws := kz_1 (List.mem_of_getElem? (i := 11) (by first | exact rfl | decide +kernel)) rfl
theorem wNJ9 : Cond.initialized RJ9 ∈ kw_ws := kz_1 (List.mem_of_getElem? (i := 12) (by first | exact rfl | decide +kernel)) rfl
theorem wNJ6 : Cond.initialized RJ6 ∈ kw_ws := kz_1 (List.mem_of_getElem? (i := 13) (by first | exact rfl | decide +kernel)) rfl
theorem wCJ7_fill_53178 : Cond.code yJ7_fill_53178 cJ7_fill_53178 4 none ∈ kw_ws := kz_1 (List.mem_of_getElem? (i := 32) (by first | exact rfl | decide +kernel)) rfl
theorem wCX7_row : Cond.code yX7_row cX7_row 3 (some .int) ∈ kw_ws := kz_2 (List.mem_of_getElem? (i := 30) (by first | exact rfl | decide +kernel)) rfl
theorem wCX7_makeOn : Cond.code yX7_makeOn cX7_makeOn 5 (some .int) ∈ kw_ws := kz_2 (List.mem_of_getElem? (i := 34) (by first | exact rfl | decide +kernel)) rfl
theorem wCX3_has : Cond.code yX3_has cX3_has 2 (some .boolean) ∈ kw_ws := kz_2 (List.mem_of_getElem? (i := 38) (by first | exact rfl | decide +kernel)) rfl
theorem wCX4_refuse : Cond.code yX4_refuse cX4_refuse 2 (some .int) ∈ kw_ws := kz_2 (List.mem_of_getElem? (i := 42) (by first | exact rfl | decide +kernel)) rfl
theorem wCX3_make : Cond.code yX3_make cX3_make 4 none ∈ kw_ws := kz_2 (List.mem_of_getElem? (i := 46) (by first | exact rfl | decide +kernel)) rfl
theorem wCX7_lay : Cond.code yX7_lay cX7_lay 6 (some .int) ∈ kw_ws := kz_2 (List.mem_of_getElem? (i := 51) (by first | exact rfl | decide +kernel)) rfl
theorem wCX3_findingAt : Cond.code yX3_findingAt cX3_findingAt 3 (some .int) ∈ kw_ws := kz_2 (List.mem_of_getElem? (i := 55) (by first | exact rfl | decide +kernel)) rfl
theorem wCX3_isMissing : Cond.code yX3_isMissing cX3_isMissing 2 (some .boolean) ∈ kw_ws := kz_2 (List.mem_of_getElem? (i := 59) (by first | exact rfl | decide +kernel)) rfl
theorem wCX3_sizeOf : Cond.code yX3_sizeOf cX3_sizeOf 2 (some .int) ∈ kw_ws := kz_2 (List.mem_of_getElem? (i := 63) (by first | exact rfl | decide +kernel)) rfl
theorem wCX3_hasPlaces : Cond.code yX3_hasPlaces cX3_hasPlaces 4 (some .boolean) ∈ kw_ws := kz_2 (List.mem_of_getElem? (i := 67) (by first | exact rfl | decide +kernel)) rfl
theorem wCX3_valueAt : Cond.code yX3_valueAt cX3_valueAt 3 (some .int) ∈ kw_ws := kz_2 (List.mem_of_getElem? (i := 71) (by first | exact rfl | decide +kernel)) rfl
theorem wCX3_change : Cond.code yX3_change cX3_change 4 none ∈ kw_ws := kz_2 (List.mem_of_getElem? (i := 75) (by first | exact rfl | decide +kernel)) rfl
theorem wCX4_answer : Cond.code yX4_answer cX4_answer 2 (some .int) ∈ kw_ws := kz_2 (List.mem_of_getElem? (i := 79) (by first | exact rfl | decide +kernel)) rfl
theorem wCX7_at : Cond.code yX7_at cX7_at 4 (some .int) ∈ kw_ws := kz_2 (List.mem_of_getElem? (i := 83) (by first | exact rfl | decide +kernel)) rfl
theorem wCX7_tear : Cond.code yX7_tear cX7_tear 2 (some .int) ∈ kw_ws := kz_2 (List.mem_of_getElem? (i := 87) (by first | exact rfl | decide +kernel)) rfl
theorem wCX3_drop : Cond.code yX3_drop cX3_drop 2 none ∈ kw_ws := kz_2 (List.mem_of_getElem? (i := 92) (by first | exact rfl | decide +kernel)) rfl
theorem wCX7_copy : Cond.code yX7_copy cX7_copy 6 (some .int) ∈ kw_ws := kz_2 (List.mem_of_getElem? (i := 96) (by first | exact rfl | decide +kernel)) rfl
theorem wCX3_move : Cond.code yX3_move cX3_move 6 none ∈ kw_ws := kz_2 (List.mem_of_getElem? (i := 101) (by first | exact rfl | decide +kernel)) rfl
theorem wCX7_mean : Cond.code yX7_mean cX7_mean 6 (some .int) ∈ kw_ws := kz_2 (List.mem_of_getElem? (i := 108) (by first | exact rfl | decide +kernel)) rfl
theorem wCX7_text : Cond.code yX7_text cX7_text 3 (some .int) ∈ kw_ws := kz_2 (List.mem_of_getElem? (i := 113) (by first | exact rfl | decide +kernel)) rfl
theorem wCX7_put : Cond.code yX7_put cX7_put 6 (some .int) ∈ kw_ws := kz_2 (List.mem_of_getElem? (i := 117) (by first | exact rfl | decide +kernel)) rfl
theorem wCX7_fault : Cond.code yX7_fault cX7_fault 2 (some .int) ∈ kw_ws := kz_2 (List.mem_of_getElem? (i := 121) (by first | exact rfl | decide +kernel)) rfl
theorem wCX2_faultOf : Cond.code yX2_faultOf cX2_faultOf 4 (some .int) ∈ kw_ws := kz_2 (List.mem_of_getElem? (i := 125) (by first | exact rfl | decide +kernel)) rfl
theorem wCX2_skipBlanks : Cond.code yX2_skipBlanks cX2_skipBlanks 4 none ∈ kw_ws := kz_2 (List.mem_of_getElem? (i := 129) (by first | exact rfl | decide +kernel)) rfl
theorem wCX2_readWinds : Cond.code yX2_readWinds cX2_readWinds 5 none ∈ kw_ws := kz_2 (List.mem_of_getElem? (i := 134) (by first | exact rfl | decide +kernel)) rfl
theorem wCX2_readLine : Cond.code yX2_readLine cX2_readLine 5 (some .boolean) ∈ kw_ws := kz_2 (List.mem_of_getElem? (i := 139) (by first | exact rfl | decide +kernel)) rfl
theorem wCX2_kindOf : Cond.code yX2_kindOf cX2_kindOf 2 (some .int) ∈ kw_ws := kz_2 (List.mem_of_getElem? (i := 142) (by first | exact rfl | decide +kernel)) rfl
theorem wCX2_readFigure : Cond.code yX2_readFigure cX2_readFigure 6 (some .int) ∈ kw_ws := kz_2 (List.mem_of_getElem? (i := 148) (by first | exact rfl | decide +kernel)) rfl
theorem wCX7_town : Cond.code yX7_town cX7_town 3 (some .int) ∈ kw_ws := kz_2 (List.mem_of_getElem? (i := 152) (by first | exact rfl | decide +kernel)) rfl
theorem wCX1_copyFrom : Cond.code yX1_copyFrom cX1_copyFrom 2 none ∈ kw_ws := kz_2 (List.mem_of_getElem? (i := 156) (by first | exact rfl | decide +kernel)) rfl
theorem wCX5_replay : Cond.code yX5_replay cX5_replay 3 none ∈ kw_ws := kz_2 (List.mem_of_getElem? (i := 161) (by first | exact rfl | decide +kernel)) rfl
theorem wCX5_act : Cond.code yX5_act cX5_act 2 none ∈ kw_ws := kz_2 (List.mem_of_getElem? (i := 166) (by first | exact rfl | decide +kernel)) rfl
theorem wCX5_hasRoomFor : Cond.code yX5_hasRoomFor cX5_hasRoomFor 2 (some .boolean) ∈ kw_ws := kz_2 (List.mem_of_getElem? (i := 170) (by first | exact rfl | decide +kernel)) rfl
theorem wCX5_passHour : Cond.code yX5_passHour cX5_passHour 2 none ∈ kw_ws := kz_2 (List.mem_of_getElem? (i := 174) (by first | exact rfl | decide +kernel)) rfl
theorem wCX5_windNow : Cond.code yX5_windNow cX5_windNow 1 (some .int) ∈ kw_ws := kz_2 (List.mem_of_getElem? (i := 178) (by first | exact rfl | decide +kernel)) rfl
theorem wCX1_windAt : Cond.code yX1_windAt cX1_windAt 2 (some .int) ∈ kw_ws := kz_2 (List.mem_of_getElem? (i := 182) (by first | exact rfl | decide +kernel)) rfl
theorem wCX1_milesOf : Cond.code yX1_milesOf cX1_milesOf 5 (some .int) ∈ kw_ws := kz_2 (List.mem_of_getElem? (i := 186) (by first | exact rfl | decide +kernel)) rfl
theorem wCX1_pullOf : Cond.code yX1_pullOf cX1_pullOf 3 (some .int) ∈ kw_ws := kz_2 (List.mem_of_getElem? (i := 190) (by first | exact rfl | decide +kernel)) rfl
theorem wCX1_hasLine : Cond.code yX1_hasLine cX1_hasLine 2 (some .boolean) ∈ kw_ws := kz_2 (List.mem_of_getElem? (i := 194) (by first | exact rfl | decide +kernel)) rfl
theorem wCX7_pull : Cond.code yX7_pull cX7_pull 5 (some .int) ∈ kw_ws := kz_2 (List.mem_of_getElem? (i := 197) (by first | exact rfl | decide +kernel)) rfl
theorem wCX1_turnOf : Cond.code yX1_turnOf cX1_turnOf 5 (some .int) ∈ kw_ws := kz_2 (List.mem_of_getElem? (i := 201) (by first | exact rfl | decide +kernel)) rfl
theorem wCX7_weather : Cond.code yX7_weather cX7_weather 4 none ∈ kw_ws := kz_2 (List.mem_of_getElem? (i := 204) (by first | exact rfl | decide +kernel)) rfl
theorem wCJ9_max_7cf53 : Cond.code yJ9_max_7cf53 cJ9_max_7cf53 2 (some .int) ∈ kw_ws := kz_2 (List.mem_of_getElem? (i := 207) (by first | exact rfl | decide +kernel)) rfl
theorem wCJ9_min_7cf53 : Cond.code yJ9_min_7cf53 cJ9_min_7cf53 2 (some .int) ∈ kw_ws := kz_2 (List.mem_of_getElem? (i := 210) (by first | exact rfl | decide +kernel)) rfl
theorem wCX7_line : Cond.code yX7_line cX7_line 3 (some .int) ∈ kw_ws := kz_2 (List.mem_of_getElem? (i := 214) (by first | exact rfl | decide +kernel)) rfl
theorem wCX5_trait : Cond.code yX5_trait cX5_trait 3 (some .int) ∈ kw_ws := kz_2 (List.mem_of_getElem? (i := 219) (by first | exact rfl | decide +kernel)) rfl
theorem wCX5_isHung : Cond.code yX5_isHung cX5_isHung 2 (some .boolean) ∈ kw_ws := kz_2 (List.mem_of_getElem? (i := 224) (by first | exact rfl | decide +kernel)) rfl
theorem wCX7_mark : Cond.code yX7_mark cX7_mark 4 (some .int) ∈ kw_ws := kz_2 (List.mem_of_getElem? (i := 229) (by first | exact rfl | decide +kernel)) rfl
theorem wCX7_isA : Cond.code yX7_isA cX7_isA 4 (some .boolean) ∈ kw_ws := kz_2 (List.mem_of_getElem? (i := 232) (by first | exact rfl | decide +kernel)) rfl
theorem wCX5_hoursToStorm : Cond.code yX5_hoursToStorm cX5_hoursToStorm 2 (some .int) ∈ kw_ws := kz_2 (List.mem_of_getElem? (i := 239) (by first | exact rfl | decide +kernel)) rfl
theorem wCX5_windAhead : Cond.code yX5_windAhead cX5_windAhead 2 (some .int) ∈ kw_ws := kz_3 (List.mem_of_getElem? (i := 3) (by first | exact rfl | decide +kernel)) rfl
theorem wCJ6_bitCount_0f7a4 : Cond.code yJ6_bitCount_0f7a4 cJ6_bitCount_0f7a4 1 (some .int) ∈ kw_ws := kz_3 (List.mem_of_getElem? (i := 6) (by first | exact rfl | decide +kernel)) rfl
theorem wCX1_othersNoWider : Cond.code yX1_othersNoWider cX1_othersNoWider 4 (some .int) ∈ kw_ws := kz_3 (List.mem_of_getElem? (i := 13) (by first | exact rfl | decide +kernel)) rfl
theorem wCX7_wind : Cond.code yX7_wind cX7_wind 2 (some .int) ∈ kw_ws := kz_3 (List.mem_of_getElem? (i := 19) (by first | exact rfl | decide +kernel)) rfl
theorem wCX5_isEmpty : Cond.code yX5_isEmpty cX5_isEmpty 1 (some .boolean) ∈ kw_ws := kz_3 (List.mem_of_getElem? (i := 23) (by first | exact rfl | decide +kernel)) rfl
theorem wCX7_hang : Cond.code yX7_hang cX7_hang 2 (some .int) ∈ kw_ws := kz_3 (List.mem_of_getElem? (i := 28) (by first | exact rfl | decide +kernel)) rfl
theorem wCX7_take : Cond.code yX7_take cX7_take 2 (some .int) ∈ kw_ws := kz_3 (List.mem_of_getElem? (i := 35) (by first | exact rfl | decide +kernel)) rfl
theorem wCX7_hour : Cond.code yX7_hour cX7_hour 1 (some .int) ∈ kw_ws := kz_3 (List.mem_of_getElem? (i := 39) (by first | exact rfl | decide +kernel)) rfl
theorem wCX4_tellWhole : Cond.code yX4_tellWhole cX4_tellWhole 3 none ∈ kw_ws := kz_3 (List.mem_of_getElem? (i := 43) (by first | exact rfl | decide +kernel)) rfl
theorem wCX7_undo : Cond.code yX7_undo cX7_undo 3 (some .int) ∈ kw_ws := kz_3 (List.mem_of_getElem? (i := 47) (by first | exact rfl | decide +kernel)) rfl
theorem wCX7_keep : Cond.code yX7_keep cX7_keep 3 (some .int) ∈ kw_ws := kz_3 (List.mem_of_getElem? (i := 51) (by first | exact rfl | decide +kernel)) rfl
theorem wCX7_on : Cond.code yX7_on cX7_on 4 (some .int) ∈ kw_ws := kz_3 (List.mem_of_getElem? (i := 55) (by first | exact rfl | decide +kernel)) rfl
theorem wCX7_goes : Cond.code yX7_goes cX7_goes 3 (some .int) ∈ kw_ws := kz_3 (List.mem_of_getElem? (i := 59) (by first | exact rfl | decide +kernel)) rfl
theorem wCX1_hasSet : Cond.code yX1_hasSet cX1_hasSet 2 (some .boolean) ∈ kw_ws := kz_3 (List.mem_of_getElem? (i := 63) (by first | exact rfl | decide +kernel)) rfl
theorem wCX1_allLines : Cond.code yX1_allLines cX1_allLines 1 (some .int) ∈ kw_ws := kz_3 (List.mem_of_getElem? (i := 67) (by first | exact rfl | decide +kernel)) rfl
theorem wCX7_even : Cond.code yX7_even cX7_even 7 (some .int) ∈ kw_ws := kz_3 (List.mem_of_getElem? (i := 73) (by first | exact rfl | decide +kernel)) rfl
theorem wCX0_draw : Cond.code yX0_draw cX0_draw 7 none ∈ kw_ws := kz_3 (List.mem_of_getElem? (i := 77) (by first | exact rfl | decide +kernel)) rfl
theorem wCX0_fits : Cond.code yX0_fits cX0_fits 4 (some .boolean) ∈ kw_ws := kz_3 (List.mem_of_getElem? (i := 82) (by first | exact rfl | decide +kernel)) rfl
theorem wCX0_milesOf : Cond.code yX0_milesOf cX0_milesOf 2 (some .int) ∈ kw_ws := kz_3 (List.mem_of_getElem? (i := 86) (by first | exact rfl | decide +kernel)) rfl
theorem wCX0_turnBy : Cond.code yX0_turnBy cX0_turnBy 2 (some .int) ∈ kw_ws := kz_3 (List.mem_of_getElem? (i := 90) (by first | exact rfl | decide +kernel)) rfl
theorem wCX1_linenOf : Cond.code yX1_linenOf cX1_linenOf 4 (some .int) ∈ kw_ws := kz_3 (List.mem_of_getElem? (i := 94) (by first | exact rfl | decide +kernel)) rfl
theorem wCX7_fast : Cond.code yX7_fast cX7_fast 4 (some .int) ∈ kw_ws := kz_3 (List.mem_of_getElem? (i := 98) (by first | exact rfl | decide +kernel)) rfl
theorem wCX7_wet : Cond.code yX7_wet cX7_wet 1 (some .int) ∈ kw_ws := kz_3 (List.mem_of_getElem? (i := 103) (by first | exact rfl | decide +kernel)) rfl
theorem wCX5_allWet : Cond.code yX5_allWet cX5_allWet 3 (some .int) ∈ kw_ws := kz_3 (List.mem_of_getElem? (i := 107) (by first | exact rfl | decide +kernel)) rfl
theorem wCX7_drySet : Cond.code yX7_drySet cX7_drySet 4 (some .int) ∈ kw_ws := kz_3 (List.mem_of_getElem? (i := 112) (by first | exact rfl | decide +kernel)) rfl
theorem wCX7_sail : Cond.code yX7_sail cX7_sail 7 (some .int) ∈ kw_ws := kz_3 (List.mem_of_getElem? (i := 116) (by first | exact rfl | decide +kernel)) rfl
theorem wCX7_planRefusal : Cond.code yX7_planRefusal cX7_planRefusal 3 (some .int) ∈ kw_ws := kz_3 (List.mem_of_getElem? (i := 120) (by first | exact rfl | decide +kernel)) rfl
theorem wCX7_dry : Cond.code yX7_dry cX7_dry 4 (some .int) ∈ kw_ws := kz_3 (List.mem_of_getElem? (i := 125) (by first | exact rfl | decide +kernel)) rfl
theorem wCX7_far : Cond.code yX7_far cX7_far 5 (some .int) ∈ kw_ws := kz_3 (List.mem_of_getElem? (i := 131) (by first | exact rfl | decide +kernel)) rfl
theorem wCX6_find : Cond.code yX6_find cX6_find 6 (some .boolean) ∈ kw_ws := kz_3 (List.mem_of_getElem? (i := 135) (by first | exact rfl | decide +kernel)) rfl
theorem wCX1_mostMilesOf : Cond.code yX1_mostMilesOf cX1_mostMilesOf 5 (some .int) ∈ kw_ws := kz_3 (List.mem_of_getElem? (i := 143) (by first | exact rfl | decide +kernel)) rfl
theorem wCX6_sailFrom : Cond.code yX6_sailFrom cX6_sailFrom 8 none ∈ kw_ws := kz_3 (List.mem_of_getElem? (i := 148) (by first | exact rfl | decide +kernel)) rfl
theorem wCX7_soon : Cond.code yX7_soon cX7_soon 5 (some .int) ∈ kw_ws := kz_3 (List.mem_of_getElem? (i := 155) (by first | exact rfl | decide +kernel)) rfl
theorem wCX7_least : Cond.code yX7_least cX7_least 7 (some .int) ∈ kw_ws := kz_3 (List.mem_of_getElem? (i := 160) (by first | exact rfl | decide +kernel)) rfl
theorem wCX7_mostMilesBehind : Cond.code yX7_mostMilesBehind cX7_mostMilesBehind 5 (some .int) ∈ kw_ws := kz_3 (List.mem_of_getElem? (i := 164) (by first | exact rfl | decide +kernel)) rfl
theorem wCX7_ways : Cond.code yX7_ways cX7_ways 6 (some .int) ∈ kw_ws := kz_3 (List.mem_of_getElem? (i := 168) (by first | exact rfl | decide +kernel)) rfl
theorem wCX7_kinds : Cond.code yX7_kinds cX7_kinds 6 (some .int) ∈ kw_ws := kz_3 (List.mem_of_getElem? (i := 172) (by first | exact rfl | decide +kernel)) rfl
theorem wCX7_pairsRefusal : Cond.code yX7_pairsRefusal cX7_pairsRefusal 6 (some .int) ∈ kw_ws := kz_3 (List.mem_of_getElem? (i := 176) (by first | exact rfl | decide +kernel)) rfl
theorem wCX7_pulledSo : Cond.code yX7_pulledSo cX7_pulledSo 5 (some .boolean) ∈ kw_ws := kz_3 (List.mem_of_getElem? (i := 180) (by first | exact rfl | decide +kernel)) rfl
theorem wCX7_areas : Cond.code yX7_areas cX7_areas 6 (some .int) ∈ kw_ws := kz_3 (List.mem_of_getElem? (i := 184) (by first | exact rfl | decide +kernel)) rfl
theorem wCX7_rival : Cond.code yX7_rival cX7_rival 2 (some .int) ∈ kw_ws := kz_3 (List.mem_of_getElem? (i := 188) (by first | exact rfl | decide +kernel)) rfl
theorem wCX7_play : Cond.code yX7_play cX7_play 8 (some .int) ∈ kw_ws := kz_3 (List.mem_of_getElem? (i := 191) (by first | exact rfl | decide +kernel)) rfl
theorem wCX7_mid : Cond.code yX7_mid cX7_mid 7 (some .int) ∈ kw_ws := kz_3 (List.mem_of_getElem? (i := 195) (by first | exact rfl | decide +kernel)) rfl
theorem wCX7_foresee : Cond.code yX7_foresee cX7_foresee 4 none ∈ kw_ws := kz_3 (List.mem_of_getElem? (i := 199) (by first | exact rfl | decide +kernel)) rfl
theorem wCX4_tellShare : Cond.code yX4_tellShare cX4_tellShare 7 none ∈ kw_ws := kz_3 (List.mem_of_getElem? (i := 204) (by first | exact rfl | decide +kernel)) rfl
theorem wCJ9_abs_067f4 : Cond.code yJ9_abs_067f4 cJ9_abs_067f4 2 (some .long) ∈ kw_ws := kz_3 (List.mem_of_getElem? (i := 207) (by first | exact rfl | decide +kernel)) rfl
theorem wCX4_commonDivisor : Cond.code yX4_commonDivisor cX4_commonDivisor 11 (some .long) ∈ kw_ws := kz_3 (List.mem_of_getElem? (i := 210) (by first | exact rfl | decide +kernel)) rfl
theorem wCX7_odds : Cond.code yX7_odds cX7_odds 11 (some .int) ∈ kw_ws := kz_3 (List.mem_of_getElem? (i := 214) (by first | exact rfl | decide +kernel)) rfl
theorem wCX7_milesByGusts : Cond.code yX7_milesByGusts cX7_milesByGusts 5 (some .int) ∈ kw_ws := kz_3 (List.mem_of_getElem? (i := 218) (by first | exact rfl | decide +kernel)) rfl
theorem wCX7_weightOfGusts : Cond.code yX7_weightOfGusts cX7_weightOfGusts 6 (some .long) ∈ kw_ws := kz_3 (List.mem_of_getElem? (i := 221) (by first | exact rfl | decide +kernel)) rfl
theorem wCX7_lots : Cond.code yX7_lots cX7_lots 7 (some .int) ∈ kw_ws := kz_3 (List.mem_of_getElem? (i := 225) (by first | exact rfl | decide +kernel)) rfl
theorem wCX7_asked : Cond.code yX7_asked cX7_asked 1 (some .int) ∈ kw_ws := kz_3 (List.mem_of_getElem? (i := 231) (by first | exact rfl | decide +kernel)) rfl
theorem wCX7_upper : Cond.code yX7_upper cX7_upper 1 (some .long) ∈ kw_ws := kz_3 (List.mem_of_getElem? (i := 235) (by first | exact rfl | decide +kernel)) rfl
theorem wCX7_lower : Cond.code yX7_lower cX7_lower 1 (some .long) ∈ kw_ws := kz_3 (List.mem_of_getElem? (i := 239) (by first | exact rfl | decide +kernel)) rfl
theorem wCX7_count : Cond.code yX7_count cX7_count 2 (some .int) ∈ kw_ws := kz_4 (List.mem_of_getElem? (i := 3) (by first | exact rfl | decide +kernel)) rfl
theorem wCX1_howManyAre : Cond.code yX1_howManyAre cX1_howManyAre 4 (some .int) ∈ kw_ws := kz_4 (List.mem_of_getElem? (i := 7) (by first | exact rfl | decide +kernel)) rfl
theorem wCX3_howMany : Cond.code yX3_howMany cX3_howMany 3 (some .int) ∈ kw_ws := kz_4 (List.mem_of_getElem? (i := 12) (by first | exact rfl | decide +kernel)) rfl
