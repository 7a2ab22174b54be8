theorem lvX7_85 : kw_lkV RX7 85 3 mX3_valueAt := ⟨⟨TX3, 3, rfl⟩, kmX7_85, wIX3_valueAt, wVX3_valueAt, wNX3, wCX3_valueAt, nmhX3.1, nmhX3.2, by decide⟩
theorem kmX7_88 : Cond.methodLink RX7 88 yX3_change ∈ kw_ws := kz_2 (List.mem_of_getElem? (i := 72) (by first | exact rfl | decide +kernel)) rfl
theorem lvX7_88 : kw_lkV RX7 88 3 mX3_change := ⟨⟨TX3, 3, rfl⟩, kmX7_88, wIX3_change, wVX3_change, wNX3, wCX3_change, nmhX3.1, nmhX3.2, by decide⟩
theorem kmX7_92 : Cond.methodLink RX7 92 yX4_answer ∈ kw_ws := kz_2 (List.mem_of_getElem? (i := 76) (by first | exact rfl | decide +kernel)) rfl
theorem lvX7_92 : kw_lkV RX7 92 4 mX4_answer := ⟨⟨TX4, 5, rfl⟩, kmX7_92, wIX4_answer, wVX4_answer, wNX4, wCX4_answer, nmhX4.1, nmhX4.2, by decide⟩
theorem kmL_23 : Cond.methodLink RL 23 yX7_at ∈ kw_ws := kz_2 (List.mem_of_getElem? (i := 80) (by first | exact rfl | decide +kernel)) rfl
theorem lvL_23 : kw_lkV RL 23 7 mX7_at := ⟨⟨TX7, 11, rfl⟩, kmL_23, wIX7_at, wVX7_at, wNX7, wCX7_at, nmhX7.1, nmhX7.2, by decide⟩
theorem kmL_27 : Cond.methodLink RL 27 yX7_tear ∈ kw_ws := kz_2 (List.mem_of_getElem? (i := 84) (by first | exact rfl | decide +kernel)) rfl
theorem lvL_27 : kw_lkV RL 27 7 mX7_tear := ⟨⟨TX7, 11, rfl⟩, kmL_27, wIX7_tear, wVX7_tear, wNX7, wCX7_tear, nmhX7.1, nmhX7.2, by decide⟩
theorem kmX7_95 : Cond.methodLink RX7 95 yX3_isMissing ∈ kw_ws := kz_2 (List.mem_of_getElem? (i := 88) (by first | exact rfl | decide +kernel)) rfl
theorem lvX7_95 : kw_lkV RX7 95 3 mX3_isMissing := ⟨⟨TX3, 3, rfl⟩, kmX7_95, wIX3_isMissing, wVX3_isMissing, wNX3, wCX3_isMissing, nmhX3.1, nmhX3.2, by decide⟩
theorem kmX7_98 : Cond.methodLink RX7 98 yX3_drop ∈ kw_ws := kz_2 (List.mem_of_getElem? (i := 89) (by first | exact rfl | decide +kernel)) rfl
theorem lvX7_98 : kw_lkV RX7 98 3 mX3_drop := ⟨⟨TX3, 3, rfl⟩, kmX7_98, wIX3_drop, wVX3_drop, wNX3, wCX3_drop, nmhX3.1, nmhX3.2, by decide⟩
theorem kmL_32 : Cond.methodLink RL 32 yX7_copy ∈ kw_ws := kz_2 (List.mem_of_getElem? (i := 93) (by first | exact rfl | decide +kernel)) rfl
theorem lvL_32 : kw_lkV RL 32 7 mX7_copy := ⟨⟨TX7, 11, rfl⟩, kmL_32, wIX7_copy, wVX7_copy, wNX7, wCX7_copy, nmhX7.1, nmhX7.2, by decide⟩
theorem kmX7_102 : Cond.methodLink RX7 102 yX3_hasPlaces ∈ kw_ws := kz_2 (List.mem_of_getElem? (i := 97) (by first | exact rfl | decide +kernel)) rfl
theorem lvX7_102 : kw_lkV RX7 102 3 mX3_hasPlaces := ⟨⟨TX3, 3, rfl⟩, kmX7_102, wIX3_hasPlaces, wVX3_hasPlaces, wNX3, wCX3_hasPlaces, nmhX3.1, nmhX3.2, by decide⟩
theorem kmX7_106 : Cond.methodLink RX7 106 yX3_move ∈ kw_ws := kz_2 (List.mem_of_getElem? (i := 98) (by first | exact rfl | decide +kernel)) rfl
theorem lvX7_106 : kw_lkV RX7 106 3 mX3_move := ⟨⟨TX3, 3, rfl⟩, kmX7_106, wIX3_move, wVX3_move, wNX3, wCX3_move, nmhX3.1, nmhX3.2, by decide⟩
theorem wA_native : Cond.native arraycopyName ∈ kw_ws := kz_2 (List.mem_of_getElem? (i := 104) (by first | exact rfl | decide +kernel)) rfl
theorem wA_static : Cond.static arraycopyName ∈ kw_ws := kz_2 (List.mem_of_getElem? (i := 103) (by first | exact rfl | decide +kernel)) rfl
theorem kmX3_45 : Cond.methodLink RX3 45 arraycopyName ∈ kw_ws := kz_2 (List.mem_of_getElem? (i := 102) (by first | exact rfl | decide +kernel)) rfl
theorem laX3_45 : kw_lkA RX3 45 := ⟨kmX3_45, wA_native, wA_static, wNJ10⟩
theorem kmL_37 : Cond.methodLink RL 37 yX7_mean ∈ kw_ws := kz_2 (List.mem_of_getElem? (i := 105) (by first | exact rfl | decide +kernel)) rfl
theorem lvL_37 : kw_lkV RL 37 7 mX7_mean := ⟨⟨TX7, 11, rfl⟩, kmL_37, wIX7_mean, wVX7_mean, wNX7, wCX7_mean, nmhX7.1, nmhX7.2, by decide⟩
theorem kmX7_110 : Cond.methodLink RX7 110 yX3_sizeOf ∈ kw_ws := kz_2 (List.mem_of_getElem? (i := 109) (by first | exact rfl | decide +kernel)) rfl
theorem lvX7_110 : kw_lkV RX7 110 3 mX3_sizeOf := ⟨⟨TX3, 3, rfl⟩, kmX7_110, wIX3_sizeOf, wVX3_sizeOf, wNX3, wCX3_sizeOf, nmhX3.1, nmhX3.2, by decide⟩
theorem kmL_41 : Cond.methodLink RL 41 yX7_text ∈ kw_ws := kz_2 (List.mem_of_getElem? (i := 110) (by first | exact rfl | decide +kernel)) rfl
theorem lvL_41 : kw_lkV RL 41 7 mX7_text := ⟨⟨TX7, 11, rfl⟩, kmL_41, wIX7_text, wVX7_text, wNX7, wCX7_text, nmhX7.1, nmhX7.2, by decide⟩
theorem kmL_45 : Cond.methodLink RL 45 yX7_put ∈ kw_ws := kz_2 (List.mem_of_getElem? (i := 114) (by first | exact rfl | decide +kernel)) rfl
theorem lvL_45 : kw_lkV RL 45 7 mX7_put := ⟨⟨TX7, 11, rfl⟩, kmL_45, wIX7_put, wVX7_put, wNX7, wCX7_put, nmhX7.1, nmhX7.2, by decide⟩
theorem kmL_49 : Cond.methodLink RL 49 yX7_fault ∈ kw_ws := kz_2 (List.mem_of_getElem? (i := 118) (by first | exact rfl | decide +kernel)) rfl
theorem lvL_49 : kw_lkV RL 49 7 mX7_fault := ⟨⟨TX7, 11, rfl⟩, kmL_49, wIX7_fault, wVX7_fault, wNX7, wCX7_fault, nmhX7.1, nmhX7.2, by decide⟩
theorem kmX7_113 : Cond.methodLink RX7 113 yX2_faultOf ∈ kw_ws := kz_2 (List.mem_of_getElem? (i := 122) (by first | exact rfl | decide +kernel)) rfl
theorem lvX7_113 : kw_lkV RX7 113 2 mX2_faultOf := ⟨⟨TX2, 2, rfl⟩, kmX7_113, wIX2_faultOf, wVX2_faultOf, wNX2, wCX2_faultOf, nmhX2.1, nmhX2.2, by decide⟩
theorem kmX2_28 : Cond.methodLink RX2 28 yX2_skipBlanks ∈ kw_ws := kz_2 (List.mem_of_getElem? (i := 126) (by first | exact rfl | decide +kernel)) rfl
theorem lvX2_28 : kw_lkV RX2 28 2 mX2_skipBlanks := ⟨⟨TX2, 2, rfl⟩, kmX2_28, wIX2_skipBlanks, wVX2_skipBlanks, wNX2, wCX2_skipBlanks, nmhX2.1, nmhX2.2, by decide⟩
theorem kmX2_32 : Cond.methodLink RX2 32 yX3_valueAt ∈ kw_ws := kz_2 (List.mem_of_getElem? (i := 130) (by first | exact rfl | decide +kernel)) rfl
theorem lvX2_32 : kw_lkV RX2 32 3 mX3_valueAt := ⟨⟨TX3, 3, rfl⟩, kmX2_32, wIX3_valueAt, wVX3_valueAt, wNX3, wCX3_valueAt, nmhX3.1, nmhX3.2, by decide⟩
theorem kmX2_38 : Cond.methodLink RX2 38 yX2_readWinds ∈ kw_ws := kz_2 (List.mem_of_getElem? (i := 131) (by first | exact rfl | decide +kernel)) rfl
theorem lvX2_38 : kw_lkV RX2 38 2 mX2_readWinds := ⟨⟨TX2, 2, rfl⟩, kmX2_38, wIX2_readWinds, wVX2_readWinds, wNX2, wCX2_readWinds, nmhX2.1, nmhX2.2, by decide⟩
theorem kmX2_41 : Cond.methodLink RX2 41 yX3_sizeOf ∈ kw_ws := kz_2 (List.mem_of_getElem? (i := 135) (by first | exact rfl | decide +kernel)) rfl
theorem lvX2_41 : kw_lkV RX2 41 3 mX3_sizeOf := ⟨⟨TX3, 3, rfl⟩, kmX2_41, wIX3_sizeOf, wVX3_sizeOf, wNX3, wCX3_sizeOf, nmhX3.1, nmhX3.2, by decide⟩
theorem kmX2_45 : Cond.methodLink RX2 45 yX2_readLine ∈ kw_ws := kz_2 (List.mem_of_getElem? (i := 136) (by first | exact rfl | decide +kernel)) rfl
theorem lvX2_45 : kw_lkV RX2 45 2 mX2_readLine := ⟨⟨TX2, 2, rfl⟩, kmX2_45, wIX2_readLine, wVX2_readLine, wNX2, wCX2_readLine, nmhX2.1, nmhX2.2, by decide⟩
theorem kmX2_53 : Cond.methodLink RX2 53 yX2_kindOf ∈ kw_ws := kz_2 (List.mem_of_getElem? (i := 140) (by first | exact rfl | decide +kernel)) rfl
theorem lsX2_53 : kw_lkS RX2 53 mX2_kindOf := ⟨kmX2_53, wTX2_kindOf, wNX2, wCX2_kindOf, nmhX2.1, nmhX2.2, by decide⟩
theorem kmX2_62 : Cond.methodLink RX2 62 yX2_readFigure ∈ kw_ws := kz_2 (List.mem_of_getElem? (i := 145) (by first | exact rfl | decide +kernel)) rfl
theorem lvX2_62 : kw_lkV RX2 62 2 mX2_readFigure := ⟨⟨TX2, 2, rfl⟩, kmX2_62, wIX2_readFigure, wVX2_readFigure, wNX2, wCX2_readFigure, nmhX2.1, nmhX2.2, by decide⟩
theorem kmL_53 : Cond.methodLink RL 53 yX7_town ∈ kw_ws := kz_2 (List.mem_of_getElem? (i := 149) (by first | exact rfl | decide +kernel)) rfl
theorem lvL_53 : kw_lkV RL 53 7 mX7_town := ⟨⟨TX7, 11, rfl⟩, kmL_53, wIX7_town, wVX7_town, wNX7, wCX7_town, nmhX7.1, nmhX7.2, by decide⟩
theorem kmX7_124 : Cond.methodLink RX7 124 yX1_copyFrom ∈ kw_ws := kz_2 (List.mem_of_getElem? (i := 153) (by first | exact rfl | decide +kernel)) rfl
theorem lvX7_124 : kw_lkV RX7 124 1 mX1_copyFrom := ⟨⟨TX1, 7, rfl⟩, kmX7_124, wIX1_copyFrom, wVX1_copyFrom, wNX1, wCX1_copyFrom, nmhX1.1, nmhX1.2, by decide⟩
theorem kmX1_27 : Cond.methodLink RX1 27 arraycopyName ∈ kw_ws := kz_2 (List.mem_of_getElem? (i := 157) (by first | exact rfl | decide +kernel)) rfl
theorem laX1_27 : kw_lkA RX1 27 := ⟨kmX1_27, wA_native, wA_static, wNJ10⟩
theorem kmX7_130 : Cond.methodLink RX7 130 yX5_replay ∈ kw_ws := kz_2 (List.mem_of_getElem? (i := 158) (by first | exact rfl | decide +kernel)) rfl
theorem lvX7_130 : kw_lkV RX7 130 5 mX5_replay := ⟨⟨TX5, 8, rfl⟩, kmX7_130, wIX5_replay, wVX5_replay, wNX5, wCX5_replay, nmhX5.1, nmhX5.2, by decide⟩
theorem kmX5_94 : Cond.methodLink RX5 94 yJ7_fill_53178 ∈ kw_ws := kz_2 (List.mem_of_getElem? (i := 162) (by first | exact rfl | decide +kernel)) rfl
theorem lsX5_94 : kw_lkS RX5 94 mJ7_fill_53178 := ⟨kmX5_94, wTJ7_fill_53178, wNJ7, wCJ7_fill_53178, nmhJ7.1, nmhJ7.2, by decide⟩
theorem kmX5_100 : Cond.methodLink RX5 100 yX5_act ∈ kw_ws := kz_2 (List.mem_of_getElem? (i := 163) (by first | exact rfl | decide +kernel)) rfl
theorem lvX5_100 : kw_lkV RX5 100 5 mX5_act := ⟨⟨TX5, 8, rfl⟩, kmX5_100, wIX5_act, wVX5_act, wNX5, wCX5_act, nmhX5.1, nmhX5.2, by decide⟩
theorem kmX5_72 : Cond.methodLink RX5 72 yX5_hasRoomFor ∈ kw_ws := kz_2 (List.mem_of_getElem? (i := 167) (by first | exact rfl | decide +kernel)) rfl
theorem lvX5_72 : kw_lkV RX5 72 5 mX5_hasRoomFor := ⟨⟨TX5, 8, rfl⟩, kmX5_72, wIX5_hasRoomFor, wVX5_hasRoomFor, wNX5, wCX5_hasRoomFor, nmhX5.1, nmhX5.2, by decide⟩
theorem kmX5_75 : Cond.methodLink RX5 75 yX5_passHour ∈ kw_ws := kz_2 (List.mem_of_getElem? (i := 171) (by first | exact rfl | decide +kernel)) rfl
theorem lvX5_75 : kw_lkV RX5 75 5 mX5_passHour := ⟨⟨TX5, 8, rfl⟩, kmX5_75, wIX5_passHour, wVX5_passHour, wNX5, wCX5_passHour, nmhX5.1, nmhX5.2, by decide⟩
theorem kmX5_64 : Cond.methodLink RX5 64 yX5_windNow ∈ kw_ws := kz_2 (List.mem_of_getElem? (i := 175) (by first | exact rfl | decide +kernel)) rfl
theorem lvX5_64 : kw_lkV RX5 64 5 mX5_windNow := ⟨⟨TX5, 8, rfl⟩, kmX5_64, wIX5_windNow, wVX5_windNow, wNX5, wCX5_windNow, nmhX5.1, nmhX5.2, by decide⟩
theorem kmX5_38 : Cond.methodLink RX5 38 yX1_windAt ∈ kw_ws := kz_2 (List.mem_of_getElem? (i := 179) (by first | exact rfl | decide +kernel)) rfl
theorem lvX5_38 : kw_lkV RX5 38 1 mX1_windAt := ⟨⟨TX1, 7, rfl⟩, kmX5_38, wIX1_windAt, wVX1_windAt, wNX1, wCX1_windAt, nmhX1.1, nmhX1.2, by decide⟩
theorem kmX5_81 : Cond.methodLink RX5 81 yX1_milesOf ∈ kw_ws := kz_2 (List.mem_of_getElem? (i := 183) (by first | exact rfl | decide +kernel)) rfl
theorem lvX5_81 : kw_lkV RX5 81 1 mX1_milesOf := ⟨⟨TX1, 7, rfl⟩, kmX5_81, wIX1_milesOf, wVX1_milesOf, wNX1, wCX1_milesOf, nmhX1.1, nmhX1.2, by decide⟩
theorem kmX1_52 : Cond.methodLink RX1 52 yX1_pullOf ∈ kw_ws := kz_2 (List.mem_of_getElem? (i := 187) (by first | exact rfl | decide +kernel)) rfl
theorem lvX1_52 : kw_lkV RX1 52 1 mX1_pullOf := ⟨⟨TX1, 7, rfl⟩, kmX1_52, wIX1_pullOf, wVX1_pullOf, wNX1, wCX1_pullOf, nmhX1.1, nmhX1.2, by decide⟩
theorem kmX1_44 : Cond.methodLink RX1 44 yX1_hasLine ∈ kw_ws := kz_2 (List.mem_of_getElem? (i := 191) (by first | exact rfl | decide +kernel)) rfl
theorem lvX1_44 : kw_lkV RX1 44 1 mX1_hasLine := ⟨⟨TX1, 7, rfl⟩, kmX1_44, wIX1_hasLine, wVX1_hasLine, wNX1, wCX1_hasLine, nmhX1.1, nmhX1.2, by decide⟩
theorem kmX5_87 : Cond.methodLink RX5 87 yX1_turnOf ∈ kw_ws := kz_2 (List.mem_of_getElem? (i := 198) (by first | exact rfl | decide +kernel)) rfl
theorem lvX5_87 : kw_lkV RX5 87 1 mX1_turnOf := ⟨⟨TX1, 7, rfl⟩, kmX5_87, wIX1_turnOf, wVX1_turnOf, wNX1, wCX1_turnOf, nmhX1.1, nmhX1.2, by decide⟩
theorem kmX7_352 : Cond.methodLink RX7 352 yJ9_max_7cf53 ∈ kw_ws := kz_2 (List.mem_of_getElem? (i := 205) (by first | exact rfl | decide +kernel)) rfl
theorem lsX7_352 : kw_lkS RX7 352 mJ9_max_7cf53 := ⟨kmX7_352, wTJ9_max_7cf53, wNJ9, wCJ9_max_7cf53, nmhJ9.1, nmhJ9.2, by decide⟩
theorem kmX7_357 : Cond.methodLink RX7 357 yJ9_min_7cf53 ∈ kw_ws := kz_2 (List.mem_of_getElem? (i := 208) (by first | exact rfl | decide +kernel)) rfl
theorem lsX7_357 : kw_lkS RX7 357 mJ9_min_7cf53 := ⟨kmX7_357, wTJ9_min_7cf53, wNJ9, wCJ9_min_7cf53, nmhJ9.1, nmhJ9.2, by decide⟩
theorem kmL_57 : Cond.methodLink RL 57 yX7_line ∈ kw_ws := kz_2 (List.mem_of_getElem? (i := 211) (by first | exact rfl | decide +kernel)) rfl
theorem lvL_57 : kw_lkV RL 57 7 mX7_line := ⟨⟨TX7, 11, rfl⟩, kmL_57, wIX7_line, wVX7_line, wNX7, wCX7_line, nmhX7.1, nmhX7.2, by decide⟩
theorem kmX7_137 : Cond.methodLink RX7 137 yX1_hasLine ∈ kw_ws := kz_2 (List.mem_of_getElem? (i := 215) (by first | exact rfl | decide +kernel)) rfl
theorem lvX7_137 : kw_lkV RX7 137 1 mX1_hasLine := ⟨⟨TX1, 7, rfl⟩, kmX7_137, wIX1_hasLine, wVX1_hasLine, wNX1, wCX1_hasLine, nmhX1.1, nmhX1.2, by decide⟩
theorem kmX7_140 : Cond.methodLink RX7 140 yX5_trait ∈ kw_ws := kz_2 (List.mem_of_getElem? (i := 216) (by first | exact rfl | decide +kernel)) rfl
theorem lvX7_140 : kw_lkV RX7 140 5 mX5_trait := ⟨⟨TX5, 8, rfl⟩, kmX7_140, wIX5_trait, wVX5_trait, wNX5, wCX5_trait, nmhX5.1, nmhX5.2, by decide⟩
theorem kmX5_45 : Cond.methodLink RX5 45 yX1_hasLine ∈ kw_ws := kz_2 (List.mem_of_getElem? (i := 220) (by first | exact rfl | decide +kernel)) rfl
theorem lvX5_45 : kw_lkV RX5 45 1 mX1_hasLine := ⟨⟨TX1, 7, rfl⟩, kmX5_45, wIX1_hasLine, wVX1_hasLine, wNX1, wCX1_hasLine, nmhX1.1, nmhX1.2, by decide⟩
theorem kmX5_61 : Cond.methodLink RX5 61 yX5_isHung ∈ kw_ws := kz_2 (List.mem_of_getElem? (i := 221) (by first | exact rfl | decide +kernel)) rfl
theorem lvX5_61 : kw_lkV RX5 61 5 mX5_isHung := ⟨⟨TX5, 8, rfl⟩, kmX5_61, wIX5_isHung, wVX5_isHung, wNX5, wCX5_isHung, nmhX5.1, nmhX5.2, by decide⟩
theorem kmX5_68 : Cond.methodLink RX5 68 yX1_pullOf ∈ kw_ws := kz_2 (List.mem_of_getElem? (i := 225) (by first | exact rfl | decide +kernel)) rfl
theorem lvX5_68 : kw_lkV RX5 68 1 mX1_pullOf := ⟨⟨TX1, 7, rfl⟩, kmX5_68, wIX1_pullOf, wVX1_pullOf, wNX1, wCX1_pullOf, nmhX1.1, nmhX1.2, by decide⟩
theorem kmL_61 : Cond.methodLink RL 61 yX7_mark ∈ kw_ws := kz_2 (List.mem_of_getElem? (i := 226) (by first | exact rfl | decide +kernel)) rfl
theorem lvL_61 : kw_lkV RL 61 7 mX7_mark := ⟨⟨TX7, 11, rfl⟩, kmL_61, wIX7_mark, wVX7_mark, wNX7, wCX7_mark, nmhX7.1, nmhX7.2, by decide⟩
theorem kmX7_146 : Cond.methodLink RX7 146 yX7_isA ∈ kw_ws := kz_2 (List.mem_of_getElem? (i := 230) (by first | exact rfl | decide +kernel)) rfl
theorem lsX7_146 : kw_lkS RX7 146 mX7_isA := ⟨kmX7_146, wTX7_isA, wNX7, wCX7_isA, nmhX7.1, nmhX7.2, by decide⟩
theorem kmX7_150 : Cond.methodLink RX7 150 yX1_pullOf ∈ kw_ws := kz_2 (List.mem_of_getElem? (i := 235) (by first | exact rfl | decide +kernel)) rfl
theorem lvX7_150 : kw_lkV RX7 150 1 mX1_pullOf := ⟨⟨TX1, 7, rfl⟩, kmX7_150, wIX1_pullOf, wVX1_pullOf, wNX1, wCX1_pullOf, nmhX1.1, nmhX1.2, by decide⟩
theorem kmX7_153 : Cond.methodLink RX7 153 yX5_hoursToStorm ∈ kw_ws := kz_2 (List.mem_of_getElem? (i := 236) (by first | exact rfl | decide +kernel)) rfl
theorem lvX7_153 : kw_lkV RX7 153 5 mX5_hoursToStorm := ⟨⟨TX5, 8, rfl⟩, kmX7_153, wIX5_hoursToStorm, wVX5_hoursToStorm, wNX5, wCX5_hoursToStorm, nmhX5.1, nmhX5.2, by decide⟩
theorem kmX5_42 : Cond.methodLink RX5 42 yX5_windAhead ∈ kw_ws := kz_3 (List.mem_of_getElem? (i := 0) (by first | exact rfl | decide +kernel)) rfl
theorem lvX5_42 : kw_lkV RX5 42 5 mX5_windAhead := ⟨⟨TX5, 8, rfl⟩, kmX5_42, wIX5_windAhead, wVX5_windAhead, wNX5, wCX5_windAhead, nmhX5.1, nmhX5.2, by decide⟩
theorem kmX7_160 : Cond.methodLink RX7 160 yJ6_bitCount_0f7a4 ∈ kw_ws := kz_3 (List.mem_of_getElem? (i := 4) (by first | exact rfl | decide +kernel)) rfl
theorem lsX7_160 : kw_lkS RX7 160 mJ6_bitCount_0f7a4 := ⟨kmX7_160, wTJ6_bitCount_0f7a4, wNJ6, wCJ6_bitCount_0f7a4, nmhJ6.1, nmhJ6.2, by decide⟩
theorem kmX7_165 : Cond.methodLink RX7 165 yX1_othersNoWider ∈ kw_ws := kz_3 (List.mem_of_getElem? (i := 10) (by first | exact rfl | decide +kernel)) rfl
theorem lvX7_165 : kw_lkV RX7 165 1 mX1_othersNoWider := ⟨⟨TX1, 7, rfl⟩, kmX7_165, wIX1_othersNoWider, wVX1_othersNoWider, wNX1, wCX1_othersNoWider, nmhX1.1, nmhX1.2, by decide⟩
theorem kmX7_171 : Cond.methodLink RX7 171 yX5_windNow ∈ kw_ws := kz_3 (List.mem_of_getElem? (i := 14) (by first | exact rfl | decide +kernel)) rfl
theorem lvX7_171 : kw_lkV RX7 171 5 mX5_windNow := ⟨⟨TX5, 8, rfl⟩, kmX7_171, wIX5_windNow, wVX5_windNow, wNX5, wCX5_windNow, nmhX5.1, nmhX5.2, by decide⟩
theorem kmX7_174 : Cond.methodLink RX7 174 yX7_pull ∈ kw_ws := kz_3 (List.mem_of_getElem? (i := 15) (by first | exact rfl | decide +kernel)) rfl
theorem lsX7_174 : kw_lkS RX7 174 mX7_pull := ⟨kmX7_174, wTX7_pull, wNX7, wCX7_pull, nmhX7.1, nmhX7.2, by decide⟩
theorem kmL_65 : Cond.methodLink RL 65 yX7_wind ∈ kw_ws := kz_3 (List.mem_of_getElem? (i := 16) (by first | exact rfl | decide +kernel)) rfl
theorem lvL_65 : kw_lkV RL 65 7 mX7_wind := ⟨⟨TX7, 11, rfl⟩, kmL_65, wIX7_wind, wVX7_wind, wNX7, wCX7_wind, nmhX7.1, nmhX7.2, by decide⟩
theorem kmX7_178 : Cond.methodLink RX7 178 yX5_isEmpty ∈ kw_ws := kz_3 (List.mem_of_getElem? (i := 20) (by first | exact rfl | decide +kernel)) rfl
theorem lvX7_178 : kw_lkV RX7 178 5 mX5_isEmpty := ⟨⟨TX5, 8, rfl⟩, kmX7_178, wIX5_isEmpty, wVX5_isEmpty, wNX5, wCX5_isEmpty, nmhX5.1, nmhX5.2, by decide⟩
theorem kmX7_182 : Cond.methodLink RX7 182 yX1_windAt ∈ kw_ws := kz_3 (List.mem_of_getElem? (i := 24) (by first | exact rfl | decide +kernel)) rfl
theorem lvX7_182 : kw_lkV RX7 182 1 mX1_windAt := ⟨⟨TX1, 7, rfl⟩, kmX7_182, wIX1_windAt, wVX1_windAt, wNX1, wCX1_windAt, nmhX1.1, nmhX1.2, by decide⟩
theorem kmL_69 : Cond.methodLink RL 69 yX7_hang ∈ kw_ws := kz_3 (List.mem_of_getElem? (i := 25) (by first | exact rfl | decide +kernel)) rfl
theorem lvL_69 : kw_lkV RL 69 7 mX7_hang := ⟨⟨TX7, 11, rfl⟩, kmL_69, wIX7_hang, wVX7_hang, wNX7, wCX7_hang, nmhX7.1, nmhX7.2, by decide⟩
theorem kmX7_185 : Cond.methodLink RX7 185 yX5_isHung ∈ kw_ws := kz_3 (List.mem_of_getElem? (i := 29) (by first | exact rfl | decide +kernel)) rfl
theorem lvX7_185 : kw_lkV RX7 185 5 mX5_isHung := ⟨⟨TX5, 8, rfl⟩, kmX7_185, wIX5_isHung, wVX5_isHung, wNX5, wCX5_isHung, nmhX5.1, nmhX5.2, by decide⟩
theorem kmX7_188 : Cond.methodLink RX7 188 yX5_hasRoomFor ∈ kw_ws := kz_3 (List.mem_of_getElem? (i := 30) (by first | exact rfl | decide +kernel)) rfl
theorem lvX7_188 : kw_lkV RX7 188 5 mX5_hasRoomFor := ⟨⟨TX5, 8, rfl⟩, kmX7_188, wIX5_hasRoomFor, wVX5_hasRoomFor, wNX5, wCX5_hasRoomFor, nmhX5.1, nmhX5.2, by decide⟩
theorem kmX7_191 : Cond.methodLink RX7 191 yX5_act ∈ kw_ws := kz_3 (List.mem_of_getElem? (i := 31) (by first | exact rfl | decide +kernel)) rfl
theorem lvX7_191 : kw_lkV RX7 191 5 mX5_act := ⟨⟨TX5, 8, rfl⟩, kmX7_191, wIX5_act, wVX5_act, wNX5, wCX5_act, nmhX5.1, nmhX5.2, by decide⟩
theorem kmL_73 : Cond.methodLink RL 73 yX7_take ∈ kw_ws := kz_3 (List.mem_of_getElem? (i := 32) (by first | exact rfl | decide +kernel)) rfl
theorem lvL_73 : kw_lkV RL 73 7 mX7_take := ⟨⟨TX7, 11, rfl⟩, kmL_73, wIX7_take, wVX7_take, wNX7, wCX7_take, nmhX7.1, nmhX7.2, by decide⟩
theorem kmL_77 : Cond.methodLink RL 77 yX7_hour ∈ kw_ws := kz_3 (List.mem_of_getElem? (i := 36) (by first | exact rfl | decide +kernel)) rfl
theorem lvL_77 : kw_lkV RL 77 7 mX7_hour := ⟨⟨TX7, 11, rfl⟩, kmL_77, wIX7_hour, wVX7_hour, wNX7, wCX7_hour, nmhX7.1, nmhX7.2, by decide⟩
theorem kmX7_200 : Cond.methodLink RX7 200 yX4_tellWhole ∈ kw_ws := kz_3 (List.mem_of_getElem? (i := 40) (by first | exact rfl | decide +kernel)) rfl
theorem lvX7_200 : kw_lkV RX7 200 4 mX4_tellWhole := ⟨⟨TX4, 5, rfl⟩, kmX7_200, wIX4_tellWhole, wVX4_tellWhole, wNX4, wCX4_tellWhole, nmhX4.1, nmhX4.2, by decide⟩
theorem kmL_82 : Cond.methodLink RL 82 yX7_undo ∈ kw_ws := kz_3 (List.mem_of_getElem? (i := 44) (by first | exact rfl | decide +kernel)) rfl
theorem lvL_82 : kw_lkV RL 82 7 mX7_undo := ⟨⟨TX7, 11, rfl⟩, kmL_82, wIX7_undo, wVX7_undo, wNX7, wCX7_undo, nmhX7.1, nmhX7.2, by decide⟩
theorem kmL_86 : Cond.methodLink RL 86 yX7_keep ∈ kw_ws := kz_3 (List.mem_of_getElem? (i := 48) (by first | exact rfl | decide +kernel)) rfl
theorem lvL_86 : kw_lkV RL 86 7 mX7_keep := ⟨⟨TX7, 11, rfl⟩, kmL_86, wIX7_keep, wVX7_keep, wNX7, wCX7_keep, nmhX7.1, nmhX7.2, by decide⟩
theorem kmL_90 : Cond.methodLink RL 90 yX7_on ∈ kw_ws := kz_3 (List.mem_of_getElem? (i := 52) (by first | exact rfl | decide +kernel)) rfl
theorem lvL_90 : kw_lkV RL 90 7 mX7_on := ⟨⟨TX7, 11, rfl⟩, kmL_90, wIX7_on, wVX7_on, wNX7, wCX7_on, nmhX7.1, nmhX7.2, by decide⟩
theorem kmL_94 : Cond.methodLink RL 94 yX7_goes ∈ kw_ws := kz_3 (List.mem_of_getElem? (i := 56) (by first | exact rfl | decide +kernel)) rfl
theorem lvL_94 : kw_lkV RL 94 7 mX7_goes := ⟨⟨TX7, 11, rfl⟩, kmL_94, wIX7_goes, wVX7_goes, wNX7, wCX7_goes, nmhX7.1, nmhX7.2, by decide⟩
theorem kmX7_216 : Cond.methodLink RX7 216 yX1_hasSet ∈ kw_ws := kz_3 (List.mem_of_getElem? (i := 60) (by first | exact rfl | decide +kernel)) rfl
theorem lvX7_216 : kw_lkV RX7 216 1 mX1_hasSet := ⟨⟨TX1, 7, rfl⟩, kmX7_216, wIX1_hasSet, wVX1_hasSet, wNX1, wCX1_hasSet, nmhX1.1, nmhX1.2, by decide⟩
theorem kmX1_40 : Cond.methodLink RX1 40 yX1_allLines ∈ kw_ws := kz_3 (List.mem_of_getElem? (i := 64) (by first | exact rfl | decide +kernel)) rfl
theorem lvX1_40 : kw_lkV RX1 40 1 mX1_allLines := ⟨⟨TX1, 7, rfl⟩, kmX1_40, wIX1_allLines, wVX1_allLines, wNX1, wCX1_allLines, nmhX1.1, nmhX1.2, by decide⟩
theorem kmX7_219 : Cond.methodLink RX7 219 yX1_turnOf ∈ kw_ws := kz_3 (List.mem_of_getElem? (i := 68) (by first | exact rfl | decide +kernel)) rfl
theorem lvX7_219 : kw_lkV RX7 219 1 mX1_turnOf := ⟨⟨TX1, 7, rfl⟩, kmX7_219, wIX1_turnOf, wVX1_turnOf, wNX1, wCX1_turnOf, nmhX1.1, nmhX1.2, by decide⟩
theorem kmX7_222 : Cond.methodLink RX7 222 yX1_milesOf ∈ kw_ws := kz_3 (List.mem_of_getElem? (i := 69) (by first | exact rfl | decide +kernel)) rfl
theorem lvX7_222 : kw_lkV RX7 222 1 mX1_milesOf := ⟨⟨TX1, 7, rfl⟩, kmX7_222, wIX1_milesOf, wVX1_milesOf, wNX1, wCX1_milesOf, nmhX1.1, nmhX1.2, by decide⟩
theorem kmL_98 : Cond.methodLink RL 98 yX7_even ∈ kw_ws := kz_3 (List.mem_of_getElem? (i := 70) (by first | exact rfl | decide +kernel)) rfl
theorem lvL_98 : kw_lkV RL 98 7 mX7_even := ⟨⟨TX7, 11, rfl⟩, kmL_98, wIX7_even, wVX7_even, wNX7, wCX7_even, nmhX7.1, nmhX7.2, by decide⟩
theorem kmX7_225 : Cond.methodLink RX7 225 yX0_draw ∈ kw_ws := kz_3 (List.mem_of_getElem? (i := 74) (by first | exact rfl | decide +kernel)) rfl
theorem lvX7_225 : kw_lkV RX7 225 0 mX0_draw := ⟨⟨TX0, 4, rfl⟩, kmX7_225, wIX0_draw, wVX0_draw, wNX0, wCX0_draw, nmhX0.1, nmhX0.2, by decide⟩
theorem kmX0_28 : Cond.methodLink RX0 28 yX1_pullOf ∈ kw_ws := kz_3 (List.mem_of_getElem? (i := 78) (by first | exact rfl | decide +kernel)) rfl
theorem lvX0_28 : kw_lkV RX0 28 1 mX1_pullOf := ⟨⟨TX1, 7, rfl⟩, kmX0_28, wIX1_pullOf, wVX1_pullOf, wNX1, wCX1_pullOf, nmhX1.1, nmhX1.2, by decide⟩
theorem kmX7_232 : Cond.methodLink RX7 232 yX0_fits ∈ kw_ws := kz_3 (List.mem_of_getElem? (i := 79) (by first | exact rfl | decide +kernel)) rfl
theorem lvX7_232 : kw_lkV RX7 232 0 mX0_fits := ⟨⟨TX0, 4, rfl⟩, kmX7_232, wIX0_fits, wVX0_fits, wNX0, wCX0_fits, nmhX0.1, nmhX0.2, by decide⟩
theorem kmX0_35 : Cond.methodLink RX0 35 yX0_milesOf ∈ kw_ws := kz_3 (List.mem_of_getElem? (i := 83) (by first | exact rfl | decide +kernel)) rfl
theorem lvX0_35 : kw_lkV RX0 35 0 mX0_milesOf := ⟨⟨TX0, 4, rfl⟩, kmX0_35, wIX0_milesOf, wVX0_milesOf, wNX0, wCX0_milesOf, nmhX0.1, nmhX0.2, by decide⟩
theorem kmX0_39 : Cond.methodLink RX0 39 yX0_turnBy ∈ kw_ws := kz_3 (List.mem_of_getElem? (i := 87) (by first | exact rfl | decide +kernel)) rfl
theorem lvX0_39 : kw_lkV RX0 39 0 mX0_turnBy := ⟨⟨TX0, 4, rfl⟩, kmX0_39, wIX0_turnBy, wVX0_turnBy, wNX0, wCX0_turnBy, nmhX0.1, nmhX0.2, by decide⟩
theorem kmX7_235 : Cond.methodLink RX7 235 yX1_linenOf ∈ kw_ws := kz_3 (List.mem_of_getElem? (i := 91) (by first | exact rfl | decide +kernel)) rfl
theorem lvX7_235 : kw_lkV RX7 235 1 mX1_linenOf := ⟨⟨TX1, 7, rfl⟩, kmX7_235, wIX1_linenOf, wVX1_linenOf, wNX1, wCX1_linenOf, nmhX1.1, nmhX1.2, by decide⟩
theorem kmL_102 : Cond.methodLink RL 102 yX7_fast ∈ kw_ws := kz_3 (List.mem_of_getElem? (i := 95) (by first | exact rfl | decide +kernel)) rfl
theorem lvL_102 : kw_lkV RL 102 7 mX7_fast := ⟨⟨TX7, 11, rfl⟩, kmL_102, wIX7_fast, wVX7_fast, wNX7, wCX7_fast, nmhX7.1, nmhX7.2, by decide⟩
theorem kmX7_238 : Cond.methodLink RX7 238 yX0_milesOf ∈ kw_ws := kz_3 (List.mem_of_getElem? (i := 99) (by first | exact rfl | decide +kernel)) rfl
theorem lvX7_238 : kw_lkV RX7 238 0 mX0_milesOf := ⟨⟨TX0, 4, rfl⟩, kmX7_238, wIX0_milesOf, wVX0_milesOf, wNX0, wCX0_milesOf, nmhX0.1, nmhX0.2, by decide⟩
theorem kmL_106 : Cond.methodLink RL 106 yX7_wet ∈ kw_ws := kz_3 (List.mem_of_getElem? (i := 100) (by first | exact rfl | decide +kernel)) rfl
theorem lvL_106 : kw_lkV RL 106 7 mX7_wet := ⟨⟨TX7, 11, rfl⟩, kmL_106, wIX7_wet, wVX7_wet, wNX7, wCX7_wet, nmhX7.1, nmhX7.2, by decide⟩
theorem kmX7_240 : Cond.methodLink RX7 240 yX5_allWet ∈ kw_ws := kz_3 (List.mem_of_getElem? (i := 104) (by first | exact rfl | decide +kernel)) rfl
theorem lvX7_240 : kw_lkV RX7 240 5 mX5_allWet := ⟨⟨TX5, 8, rfl⟩, kmX7_240, wIX5_allWet, wVX5_allWet, wNX5, wCX5_allWet, nmhX5.1, nmhX5.2, by decide⟩
theorem kmX7_243 : Cond.methodLink RX7 243 yX1_allLines ∈ kw_ws := kz_3 (List.mem_of_getElem? (i := 108) (by first | exact rfl | decide +kernel)) rfl
theorem lvX7_243 : kw_lkV RX7 243 1 mX1_allLines := ⟨⟨TX1, 7, rfl⟩, kmX7_243, wIX1_allLines, wVX1_allLines, wNX1, wCX1_allLines, nmhX1.1, nmhX1.2, by decide⟩
theorem kmX7_246 : Cond.methodLink RX7 246 yX7_drySet ∈ kw_ws := kz_3 (List.mem_of_getElem? (i := 109) (by first | exact rfl | decide +kernel)) rfl
theorem lvX7_246 : kw_lkV RX7 246 7 mX7_drySet := ⟨⟨TX7, 11, rfl⟩, kmX7_246, wIX7_drySet, wVX7_drySet, wNX7, wCX7_drySet, nmhX7.1, nmhX7.2, by decide⟩
theorem kmL_110 : Cond.methodLink RL 110 yX7_sail ∈ kw_ws := kz_3 (List.mem_of_getElem? (i := 113) (by first | exact rfl | decide +kernel)) rfl
theorem lvL_110 : kw_lkV RL 110 7 mX7_sail := ⟨⟨TX7, 11, rfl⟩, kmL_110, wIX7_sail, wVX7_sail, wNX7, wCX7_sail, nmhX7.1, nmhX7.2, by decide⟩
theorem kmX7_250 : Cond.methodLink RX7 250 yX7_planRefusal ∈ kw_ws := kz_3 (List.mem_of_getElem? (i := 117) (by first | exact rfl | decide +kernel)) rfl
theorem lvX7_250 : kw_lkV RX7 250 7 mX7_planRefusal := ⟨⟨TX7, 11, rfl⟩, kmX7_250, wIX7_planRefusal, wVX7_planRefusal, wNX7, wCX7_planRefusal, nmhX7.1, nmhX7.2, by decide⟩
theorem kmX7_253 : Cond.methodLink RX7 253 yX5_windAhead ∈ kw_ws := kz_3 (List.mem_of_getElem? (i := 121) (by first | exact rfl | decide +kernel)) rfl
theorem lvX7_253 : kw_lkV RX7 253 5 mX5_windAhead := ⟨⟨TX5, 8, rfl⟩, kmX7_253, wIX5_windAhead, wVX5_windAhead, wNX5, wCX5_windAhead, nmhX5.1, nmhX5.2, by decide⟩
theorem kmL_114 : Cond.methodLink RL 114 yX7_dry ∈ kw_ws := kz_3 (List.mem_of_getElem? (i := 122) (by first | exact rfl | decide +kernel)) rfl
theorem lvL_114 : kw_lkV RL 114 7 mX7_dry := ⟨⟨TX7, 11, rfl⟩, kmL_114, wIX7_dry, wVX7_dry, wNX7, wCX7_dry, nmhX7.1, nmhX7.2, by decide⟩
theorem kmX7_256 : Cond.methodLink RX7 256 arraycopyName ∈ kw_ws := kz_3 (List.mem_of_getElem? (i := 126) (by first | exact rfl | decide +kernel)) rfl
theorem laX7_256 : kw_lkA RX7 256 := ⟨kmX7_256, wA_native, wA_static, wNJ10⟩
theorem kmX7_262 : Cond.methodLink RX7 262 yX7_weather ∈ kw_ws := kz_3 (List.mem_of_getElem? (i := 127) (by first | exact rfl | decide +kernel)) rfl
theorem lsX7_262 : kw_lkS RX7 262 mX7_weather := ⟨kmX7_262, wTX7_weather, wNX7, wCX7_weather, nmhX7.1, nmhX7.2, by decide⟩
theorem kmL_118 : Cond.methodLink RL 118 yX7_far ∈ kw_ws := kz_3 (List.mem_of_getElem? (i := 128) (by first | exact rfl | decide +kernel)) rfl
theorem lvL_118 : kw_lkV RL 118 7 mX7_far := ⟨⟨TX7, 11, rfl⟩, kmL_118, wIX7_far, wVX7_far, wNX7, wCX7_far, nmhX7.1, nmhX7.2, by decide⟩
theorem kmX7_266 : Cond.methodLink RX7 266 yX6_find ∈ kw_ws := kz_3 (List.mem_of_getElem? (i := 132) (by first | exact rfl | decide +kernel)) rfl
theorem lvX7_266 : kw_lkV RX7 266 6 mX6_find := ⟨⟨TX6, 8, rfl⟩, kmX7_266, wIX6_find, wVX6_find, wNX6, wCX6_find, nmhX6.1, nmhX6.2, by decide⟩
theorem kmX6_28 : Cond.methodLink RX6 28 yJ9_min_7cf53 ∈ kw_ws := kz_3 (List.mem_of_getElem? (i := 136) (by first | exact rfl | decide +kernel)) rfl
theorem lsX6_28 : kw_lkS RX6 28 mJ9_min_7cf53 := ⟨kmX6_28, wTJ9_min_7cf53, wNJ9, wCJ9_min_7cf53, nmhJ9.1, nmhJ9.2, by decide⟩
theorem kmX6_45 : Cond.methodLink RX6 45 yX5_windAhead ∈ kw_ws := kz_3 (List.mem_of_getElem? (i := 137) (by first | exact rfl | decide +kernel)) rfl
theorem lvX6_45 : kw_lkV RX6 45 5 mX5_windAhead := ⟨⟨TX5, 8, rfl⟩, kmX6_45, wIX5_windAhead, wVX5_windAhead, wNX5, wCX5_windAhead, nmhX5.1, nmhX5.2, by decide⟩
theorem kmX6_55 : Cond.methodLink RX6 55 yX0_draw ∈ kw_ws := kz_3 (List.mem_of_getElem? (i := 138) (by first | exact rfl | decide +kernel)) rfl
theorem lvX6_55 : kw_lkV RX6 55 0 mX0_draw := ⟨⟨TX0, 4, rfl⟩, kmX6_55, wIX0_draw, wVX0_draw, wNX0, wCX0_draw, nmhX0.1, nmhX0.2, by decide⟩
theorem kmX6_59 : Cond.methodLink RX6 59 yX1_allLines ∈ kw_ws := kz_3 (List.mem_of_getElem? (i := 139) (by first | exact rfl | decide +kernel)) rfl
theorem lvX6_59 : kw_lkV RX6 59 1 mX1_allLines := ⟨⟨TX1, 7, rfl⟩, kmX6_59, wIX1_allLines, wVX1_allLines, wNX1, wCX1_allLines, nmhX1.1, nmhX1.2, by decide⟩
theorem kmX6_65 : Cond.methodLink RX6 65 yX1_mostMilesOf ∈ kw_ws := kz_3 (List.mem_of_getElem? (i := 140) (by first | exact rfl | decide +kernel)) rfl
theorem lvX6_65 : kw_lkV RX6 65 1 mX1_mostMilesOf := ⟨⟨TX1, 7, rfl⟩, kmX6_65, wIX1_mostMilesOf, wVX1_mostMilesOf, wNX1, wCX1_mostMilesOf, nmhX1.1, nmhX1.2, by decide⟩
theorem kmX1_56 : Cond.methodLink RX1 56 yJ9_max_7cf53 ∈ kw_ws := kz_3 (List.mem_of_getElem? (i := 144) (by first | exact rfl | decide +kernel)) rfl
theorem lsX1_56 : kw_lkS RX1 56 mJ9_max_7cf53 := ⟨kmX1_56, wTJ9_max_7cf53, wNJ9, wCJ9_max_7cf53, nmhJ9.1, nmhJ9.2, by decide⟩
theorem kmX6_74 : Cond.methodLink RX6 74 yX6_sailFrom ∈ kw_ws := kz_3 (List.mem_of_getElem? (i := 145) (by first | exact rfl | decide +kernel)) rfl
theorem lvX6_74 : kw_lkV RX6 74 6 mX6_sailFrom := ⟨⟨TX6, 8, rfl⟩, kmX6_74, wIX6_sailFrom, wVX6_sailFrom, wNX6, wCX6_sailFrom, nmhX6.1, nmhX6.2, by decide⟩
theorem kmX6_81 : Cond.methodLink RX6 81 arraycopyName ∈ kw_ws := kz_3 (List.mem_of_getElem? (i := 149) (by first | exact rfl | decide +kernel)) rfl
theorem laX6_81 : kw_lkA RX6 81 := ⟨kmX6_81, wA_native, wA_static, wNJ10⟩
theorem kmX6_90 : Cond.methodLink RX6 90 yX0_milesOf ∈ kw_ws := kz_3 (List.mem_of_getElem? (i := 150) (by first | exact rfl | decide +kernel)) rfl
theorem lvX6_90 : kw_lkV RX6 90 0 mX0_milesOf := ⟨⟨TX0, 4, rfl⟩, kmX6_90, wIX0_milesOf, wVX0_milesOf, wNX0, wCX0_milesOf, nmhX0.1, nmhX0.2, by decide⟩
theorem kmX6_93 : Cond.methodLink RX6 93 yX0_turnBy ∈ kw_ws := kz_3 (List.mem_of_getElem? (i := 151) (by first | exact rfl | decide +kernel)) rfl
theorem lvX6_93 : kw_lkV RX6 93 0 mX0_turnBy := ⟨⟨TX0, 4, rfl⟩, kmX6_93, wIX0_turnBy, wVX0_turnBy, wNX0, wCX0_turnBy, nmhX0.1, nmhX0.2, by decide⟩
theorem kmL_122 : Cond.methodLink RL 122 yX7_soon ∈ kw_ws := kz_3 (List.mem_of_getElem? (i := 152) (by first | exact rfl | decide +kernel)) rfl
theorem lvL_122 : kw_lkV RL 122 7 mX7_soon := ⟨⟨TX7, 11, rfl⟩, kmL_122, wIX7_soon, wVX7_soon, wNX7, wCX7_soon, nmhX7.1, nmhX7.2, by decide⟩
theorem kmX7_276 : Cond.methodLink RX7 276 yX1_mostMilesOf ∈ kw_ws := kz_3 (List.mem_of_getElem? (i := 156) (by first | exact rfl | decide +kernel)) rfl
theorem lvX7_276 : kw_lkV RX7 276 1 mX1_mostMilesOf := ⟨⟨TX1, 7, rfl⟩, kmX7_276, wIX1_mostMilesOf, wVX1_mostMilesOf, wNX1, wCX1_mostMilesOf, nmhX1.1, nmhX1.2, by decide⟩
theorem kmL_126 : Cond.methodLink RL 126 yX7_least ∈ kw_ws := kz_3 (List.mem_of_getElem? (i := 157) (by first | exact rfl | decide +kernel)) rfl
theorem lvL_126 : kw_lkV RL 126 7 mX7_least := ⟨⟨TX7, 11, rfl⟩, kmL_126, wIX7_least, wVX7_least, wNX7, wCX7_least, nmhX7.1, nmhX7.2, by decide⟩
theorem kmX7_279 : Cond.methodLink RX7 279 yX7_mostMilesBehind ∈ kw_ws := kz_3 (List.mem_of_getElem? (i := 161) (by first | exact rfl | decide +kernel)) rfl
theorem lvX7_279 : kw_lkV RX7 279 7 mX7_mostMilesBehind := ⟨⟨TX7, 11, rfl⟩, kmX7_279, wIX7_mostMilesBehind, wVX7_mostMilesBehind, wNX7, wCX7_mostMilesBehind, nmhX7.1, nmhX7.2, by decide⟩
theorem kmL_130 : Cond.methodLink RL 130 yX7_ways ∈ kw_ws := kz_3 (List.mem_of_getElem? (i := 165) (by first | exact rfl | decide +kernel)) rfl
theorem lvL_130 : kw_lkV RL 130 7 mX7_ways := ⟨⟨TX7, 11, rfl⟩, kmL_130, wIX7_ways, wVX7_ways, wNX7, wCX7_ways, nmhX7.1, nmhX7.2, by decide⟩
theorem kmL_134 : Cond.methodLink RL 134 yX7_kinds ∈ kw_ws := kz_3 (List.mem_of_getElem? (i := 169) (by first | exact rfl | decide +kernel)) rfl
theorem lvL_134 : kw_lkV RL 134 7 mX7_kinds := ⟨⟨TX7, 11, rfl⟩, kmL_134, wIX7_kinds, wVX7_kinds, wNX7, wCX7_kinds, nmhX7.1, nmhX7.2, by decide⟩
theorem kmX7_282 : Cond.methodLink RX7 282 yX7_pairsRefusal ∈ kw_ws := kz_3 (List.mem_of_getElem? (i := 173) (by first | exact rfl | decide +kernel)) rfl
theorem lvX7_282 : kw_lkV RX7 282 7 mX7_pairsRefusal := ⟨⟨TX7, 11, rfl⟩, kmX7_282, wIX7_pairsRefusal, wVX7_pairsRefusal, wNX7, wCX7_pairsRefusal, nmhX7.1, nmhX7.2, by decide⟩
theorem kmX7_285 : Cond.methodLink RX7 285 yX7_pulledSo ∈ kw_ws := kz_3 (List.mem_of_getElem? (i := 177) (by first | exact rfl | decide +kernel)) rfl
theorem lvX7_285 : kw_lkV RX7 285 7 mX7_pulledSo := ⟨⟨TX7, 11, rfl⟩, kmX7_285, wIX7_pulledSo, wVX7_pulledSo, wNX7, wCX7_pulledSo, nmhX7.1, nmhX7.2, by decide⟩
theorem kmL_138 : Cond.methodLink RL 138 yX7_areas ∈ kw_ws := kz_3 (List.mem_of_getElem? (i := 181) (by first | exact rfl | decide +kernel)) rfl
theorem lvL_138 : kw_lkV RL 138 7 mX7_areas := ⟨⟨TX7, 11, rfl⟩, kmL_138, wIX7_areas, wVX7_areas, wNX7, wCX7_areas, nmhX7.1, nmhX7.2, by decide⟩
theorem kmL_142 : Cond.methodLink RL 142 yX7_rival ∈ kw_ws := kz_3 (List.mem_of_getElem? (i := 185) (by first | exact rfl | decide +kernel)) rfl
theorem lvL_142 : kw_lkV RL 142 7 mX7_rival := ⟨⟨TX7, 11, rfl⟩, kmL_142, wIX7_rival, wVX7_rival, wNX7, wCX7_rival, nmhX7.1, nmhX7.2, by decide⟩
theorem kmX7_288 : Cond.methodLink RX7 288 yX7_play ∈ kw_ws := kz_3 (List.mem_of_getElem? (i := 189) (by first | exact rfl | decide +kernel)) rfl
theorem lsX7_288 : kw_lkS RX7 288 mX7_play := ⟨kmX7_288, wTX7_play, wNX7, wCX7_play, nmhX7.1, nmhX7.2, by decide⟩
theorem kmL_146 : Cond.methodLink RL 146 yX7_mid ∈ kw_ws := kz_3 (List.mem_of_getElem? (i := 192) (by first | exact rfl | decide +kernel)) rfl
theorem lvL_146 : kw_lkV RL 146 7 mX7_mid := ⟨⟨TX7, 11, rfl⟩, kmL_146, wIX7_mid, wVX7_mid, wNX7, wCX7_mid, nmhX7.1, nmhX7.2, by decide⟩
theorem kmX7_292 : Cond.methodLink RX7 292 yX7_foresee ∈ kw_ws := kz_3 (List.mem_of_getElem? (i := 196) (by first | exact rfl | decide +kernel)) rfl
theorem lvX7_292 : kw_lkV RX7 292 7 mX7_foresee := ⟨⟨TX7, 11, rfl⟩, kmX7_292, wIX7_foresee, wVX7_foresee, wNX7, wCX7_foresee, nmhX7.1, nmhX7.2, by decide⟩
theorem kmX7_297 : Cond.methodLink RX7 297 yX4_tellShare ∈ kw_ws := kz_3 (List.mem_of_getElem? (i := 201) (by first | exact rfl | decide +kernel)) rfl
theorem lvX7_297 : kw_lkV RX7 297 4 mX4_tellShare := ⟨⟨TX4, 5, rfl⟩, kmX7_297, wIX4_tellShare, wVX4_tellShare, wNX4, wCX4_tellShare, nmhX4.1, nmhX4.2, by decide⟩
theorem kmX4_29 : Cond.methodLink RX4 29 yJ9_abs_067f4 ∈ kw_ws := kz_3 (List.mem_of_getElem? (i := 205) (by first | exact rfl | decide +kernel)) rfl
theorem lsX4_29 : kw_lkS RX4 29 mJ9_abs_067f4 := ⟨kmX4_29, wTJ9_abs_067f4, wNJ9, wCJ9_abs_067f4, nmhJ9.1, nmhJ9.2, by decide⟩
theorem kmX4_35 : Cond.methodLink RX4 35 yX4_commonDivisor ∈ kw_ws := kz_3 (List.mem_of_getElem? (i := 208) (by first | exact rfl | decide +kernel)) rfl
theorem lsX4_35 : kw_lkS RX4 35 mX4_commonDivisor := ⟨kmX4_35, wTX4_commonDivisor, wNX4, wCX4_commonDivisor, nmhX4.1, nmhX4.2, by decide⟩
theorem kmL_150 : Cond.methodLink RL 150 yX7_odds ∈ kw_ws := kz_3 (List.mem_of_getElem? (i := 211) (by first | exact rfl | decide +kernel)) rfl
theorem lvL_150 : kw_lkV RL 150 7 mX7_odds := ⟨⟨TX7, 11, rfl⟩, kmL_150, wIX7_odds, wVX7_odds, wNX7, wCX7_odds, nmhX7.1, nmhX7.2, by decide⟩
theorem kmX7_301 : Cond.methodLink RX7 301 yX7_milesByGusts ∈ kw_ws := kz_3 (List.mem_of_getElem? (i := 215) (by first | exact rfl | decide +kernel)) rfl
theorem lvX7_301 : kw_lkV RX7 301 7 mX7_milesByGusts := ⟨⟨TX7, 11, rfl⟩, kmX7_301, wIX7_milesByGusts, wVX7_milesByGusts, wNX7, wCX7_milesByGusts, nmhX7.1, nmhX7.2, by decide⟩
theorem kmX7_304 : Cond.methodLink RX7 304 yX7_weightOfGusts ∈ kw_ws := kz_3 (List.mem_of_getElem? (i := 219) (by first | exact rfl | decide +kernel)) rfl
theorem lsX7_304 : kw_lkS RX7 304 mX7_weightOfGusts := ⟨kmX7_304, wTX7_weightOfGusts, wNX7, wCX7_weightOfGusts, nmhX7.1, nmhX7.2, by decide⟩
theorem kmL_154 : Cond.methodLink RL 154 yX7_lots ∈ kw_ws := kz_3 (List.mem_of_getElem? (i := 222) (by first | exact rfl | decide +kernel)) rfl
theorem lvL_154 : kw_lkV RL 154 7 mX7_lots := ⟨⟨TX7, 11, rfl⟩, kmL_154, wIX7_lots, wVX7_lots, wNX7, wCX7_lots, nmhX7.1, nmhX7.2, by decide⟩
theorem kmL_158 : Cond.methodLink RL 158 yX7_asked ∈ kw_ws := kz_3 (List.mem_of_getElem? (i := 228) (by first | exact rfl | decide +kernel)) rfl
theorem lvL_158 : kw_lkV RL 158 7 mX7_asked := ⟨⟨TX7, 11, rfl⟩, kmL_158, wIX7_asked, wVX7_asked, wNX7, wCX7_asked, nmhX7.1, nmhX7.2, by decide⟩
theorem kmL_162 : Cond.methodLink RL 162 yX7_upper ∈ kw_ws := kz_3 (List.mem_of_getElem? (i := 232) (by first | exact rfl | decide +kernel)) rfl
theorem lvL_162 : kw_lkV RL 162 7 mX7_upper := ⟨⟨TX7, 11, rfl⟩, kmL_162, wIX7_upper, wVX7_upper, wNX7, wCX7_upper, nmhX7.1, nmhX7.2, by decide⟩
theorem kmL_167 : Cond.methodLink RL 167 yX7_lower ∈ kw_ws := kz_3 (List.mem_of_getElem? (i := 236) (by first | exact rfl | decide +kernel)) rfl
theorem lvL_167 : kw_lkV RL 167 7 mX7_lower := ⟨⟨TX7, 11, rfl⟩, kmL_167, wIX7_lower, wVX7_lower, wNX7, wCX7_lower, nmhX7.1, nmhX7.2, by decide⟩
theorem kmL_171 : Cond.methodLink RL 171 yX7_count ∈ kw_ws := kz_4 (List.mem_of_getElem? (i := 0) (by first | exact rfl | decide +kernel)) rfl
theorem lvL_171 : kw_lkV RL 171 7 mX7_count := ⟨⟨TX7, 11, rfl⟩, kmL_171, wIX7_count, wVX7_count, wNX7, wCX7_count, nmhX7.1, nmhX7.2, by decide⟩
theorem kmX7_325 : Cond.methodLink RX7 325 yX1_howManyAre ∈ kw_ws := kz_4 (List.mem_of_getElem? (i := 4) (by first | exact rfl | decide +kernel)) rfl
theorem lvX7_325 : kw_lkV RX7 325 1 mX1_howManyAre := ⟨⟨TX1, 7, rfl⟩, kmX7_325, wIX1_howManyAre, wVX1_howManyAre, wNX1, wCX1_howManyAre, nmhX1.1, nmhX1.2, by decide⟩
theorem kmX7_328 : Cond.methodLink RX7 328 yX3_howMany ∈ kw_ws := kz_4 (List.mem_of_getElem? (i := 9) (by first | exact rfl | decide +kernel)) rfl
theorem lvX7_328 : kw_lkV RX7 328 3 mX3_howMany := ⟨⟨TX3, 3, rfl⟩, kmX7_328, wIX3_howMany, wVX3_howMany, wNX3, wCX3_howMany, nmhX3.1, nmhX3.2, by decide⟩
theorem kmL_175 : Cond.methodLink RL 175 yX7_miles ∈ kw_ws := kz_4 (List.mem_of_getElem? (i := 13) (by first | exact rfl | decide +kernel)) rfl
theorem lvL_175 : kw_lkV RL 175 7 mX7_miles := ⟨⟨TX7, 11, rfl⟩, kmL_175, wIX7_miles, wVX7_miles, wNX7, wCX7_miles, nmhX7.1, nmhX7.2, by decide⟩
theorem kmL_179 : Cond.methodLink RL 179 yX7_finding ∈ kw_ws := kz_4 (List.mem_of_getElem? (i := 17) (by first | exact rfl | decide +kernel)) rfl
theorem lvL_179 : kw_lkV RL 179 7 mX7_finding := ⟨⟨TX7, 11, rfl⟩, kmL_179, wIX7_finding, wVX7_finding, wNX7, wCX7_finding, nmhX7.1, nmhX7.2, by decide⟩
theorem kmL_183 : Cond.methodLink RL 183 yX7_findings ∈ kw_ws := kz_4 (List.mem_of_getElem? (i := 21) (by first | exact rfl | decide +kernel)) rfl
theorem lvL_183 : kw_lkV RL 183 7 mX7_findings := ⟨⟨TX7, 11, rfl⟩, kmL_183, wIX7_findings, wVX7_findings, wNX7, wCX7_findings, nmhX7.1, nmhX7.2, by decide⟩
theorem kmL_187 : Cond.methodLink RL 187 yX7_digest ∈ kw_ws := kz_4 (List.mem_of_getElem? (i := 25) (by first | exact rfl | decide +kernel)) rfl
theorem lvL_187 : kw_lkV RL 187 7 mX7_digest := ⟨⟨TX7, 11, rfl⟩, kmL_187, wIX7_digest, wVX7_digest, wNX7, wCX7_digest, nmhX7.1, nmhX7.2, by decide⟩
theorem kmX7_341 : Cond.methodLink RX7 341 yX7_count ∈ kw_ws := kz_4 (List.mem_of_getElem? (i := 31) (by first | exact rfl | decide +kernel)) rfl
theorem lvX7_341 : kw_lkV RX7 341 7 mX7_count := ⟨⟨TX7, 11, rfl⟩, kmX7_341, wIX7_count, wVX7_count, wNX7, wCX7_count, nmhX7.1, nmhX7.2, by decide⟩
theorem kmX7_344 : Cond.methodLink RX7 344 yX3_fold ∈ kw_ws := kz_4 (List.mem_of_getElem? (i := 32) (by first | exact rfl | decide +kernel)) rfl
theorem lvX7_344 : kw_lkV RX7 344 3 mX3_fold := ⟨⟨TX3, 3, rfl⟩, kmX7_344, wIX3_fold, wVX3_fold, wNX3, wCX3_fold, nmhX3.1, nmhX3.2, by decide⟩
theorem kmL_17 : Cond.methodLink RL 17 yX8_row ∈ kw_ws := kz_4 (List.mem_of_getElem? (i := 155) (by first | exact rfl | decide +kernel)) rfl
theorem lvL_17 : kw_lkV RL 17 8 mX8_row := ⟨⟨TX8, 37, rfl⟩, kmL_17, wIX8_row, wVX8_row, wNX8, wCX8_row, nmhX8.1, nmhX8.2, by decide⟩
theorem kmX8_97 : Cond.methodLink RX8 97 yX8_isRow ∈ kw_ws := kz_4 (List.mem_of_getElem? (i := 159) (by first | exact rfl | decide +kernel)) rfl
theorem lsX8_97 : kw_lkS RX8 97 mX8_isRow := ⟨kmX8_97, wTX8_isRow, wNX8, wCX8_isRow, nmhX8.1, nmhX8.2, by decide⟩
theorem kmX8_93 : Cond.methodLink RX8 93 yX8_in ∈ kw_ws := kz_4 (List.mem_of_getElem? (i := 162) (by first | exact rfl | decide +kernel)) rfl
theorem lsX8_93 : kw_lkS RX8 93 mX8_in := ⟨kmX8_93, wTX8_in, wNX8, wCX8_in, nmhX8.1, nmhX8.2, by decide⟩
theorem kmX8_101 : Cond.methodLink RX8 101 yX8_meet ∈ kw_ws := kz_4 (List.mem_of_getElem? (i := 165) (by first | exact rfl | decide +kernel)) rfl
theorem lvX8_101 : kw_lkV RX8 101 8 mX8_meet := ⟨⟨TX8, 37, rfl⟩, kmX8_101, wIX8_meet, wVX8_meet, wNX8, wCX8_meet, nmhX8.1, nmhX8.2, by decide⟩
theorem kmX8_108 : Cond.methodLink RX8 108 yX8_setRow ∈ kw_ws := kz_4 (List.mem_of_getElem? (i := 169) (by first | exact rfl | decide +kernel)) rfl
theorem lvX8_108 : kw_lkV RX8 108 8 mX8_setRow := ⟨⟨TX8, 37, rfl⟩, kmX8_108, wIX8_setRow, wVX8_setRow, wNX8, wCX8_setRow, nmhX8.1, nmhX8.2, by decide⟩
theorem kmL_26 : Cond.methodLink RL 26 yX8_at ∈ kw_ws := kz_4 (List.mem_of_getElem? (i := 173) (by first | exact rfl | decide +kernel)) rfl
theorem lvL_26 : kw_lkV RL 26 8 mX8_at := ⟨⟨TX8, 37, rfl⟩, kmL_26, wIX8_at, wVX8_at, wNX8, wCX8_at, nmhX8.1, nmhX8.2, by decide⟩
theorem kmX8_112 : Cond.methodLink RX8 112 yX8_askedRow ∈ kw_ws := kz_4 (List.mem_of_getElem? (i := 177) (by first | exact rfl | decide +kernel)) rfl
theorem lvX8_112 : kw_lkV RX8 112 8 mX8_askedRow := ⟨⟨TX8, 37, rfl⟩, kmX8_112, wIX8_askedRow, wVX8_askedRow, wNX8, wCX8_askedRow, nmhX8.1, nmhX8.2, by decide⟩
theorem kmX8_115 : Cond.methodLink RX8 115 yX8_rowAt ∈ kw_ws := kz_4 (List.mem_of_getElem? (i := 181) (by first | exact rfl | decide +kernel)) rfl
theorem lvX8_115 : kw_lkV RX8 115 8 mX8_rowAt := ⟨⟨TX8, 37, rfl⟩, kmX8_115, wIX8_rowAt, wVX8_rowAt, wNX8, wCX8_rowAt, nmhX8.1, nmhX8.2, by decide⟩
theorem kmX8_119 : Cond.methodLink RX8 119 yX8_ask ∈ kw_ws := kz_4 (List.mem_of_getElem? (i := 185) (by first | exact rfl | decide +kernel)) rfl
theorem lvX8_119 : kw_lkV RX8 119 8 mX8_ask := ⟨⟨TX8, 37, rfl⟩, kmX8_119, wIX8_ask, wVX8_ask, wNX8, wCX8_ask, nmhX8.1, nmhX8.2, by decide⟩
theorem kmL_22 : Cond.methodLink RL 22 yX8_lay ∈ kw_ws := kz_4 (List.mem_of_getElem? (i := 189) (by first | exact rfl | decide +kernel)) rfl
theorem lvL_22 : kw_lkV RL 22 8 mX8_lay := ⟨⟨TX8, 37, rfl⟩, kmL_22, wIX8_lay, wVX8_lay, wNX8, wCX8_lay, nmhX8.1, nmhX8.2, by decide⟩
theorem kmX8_122 : Cond.methodLink RX8 122 yX8_at ∈ kw_ws := kz_4 (List.mem_of_getElem? (i := 193) (by first | exact rfl | decide +kernel)) rfl
theorem lvX8_122 : kw_lkV RX8 122 8 mX8_at := ⟨⟨TX8, 37, rfl⟩, kmX8_122, wIX8_at, wVX8_at, wNX8, wCX8_at, nmhX8.1, nmhX8.2, by decide⟩
theorem kmL_31 : Cond.methodLink RL 31 yX8_tear ∈ kw_ws := kz_4 (List.mem_of_getElem? (i := 194) (by first | exact rfl | decide +kernel)) rfl
theorem lvL_31 : kw_lkV RL 31 8 mX8_tear := ⟨⟨TX8, 37, rfl⟩, kmL_31, wIX8_tear, wVX8_tear, wNX8, wCX8_tear, nmhX8.1, nmhX8.2, by decide⟩
theorem kmL_36 : Cond.methodLink RL 36 yX8_copy ∈ kw_ws := kz_4 (List.mem_of_getElem? (i := 198) (by first | exact rfl | decide +kernel)) rfl
theorem lvL_36 : kw_lkV RL 36 8 mX8_copy := ⟨⟨TX8, 37, rfl⟩, kmL_36, wIX8_copy, wVX8_copy, wNX8, wCX8_copy, nmhX8.1, nmhX8.2, by decide⟩
theorem kmL_40 : Cond.methodLink RL 40 yX8_mean ∈ kw_ws := kz_4 (List.mem_of_getElem? (i := 202) (by first | exact rfl | decide +kernel)) rfl
theorem lvL_40 : kw_lkV RL 40 8 mX8_mean := ⟨⟨TX8, 37, rfl⟩, kmL_40, wIX8_mean, wVX8_mean, wNX8, wCX8_mean, nmhX8.1, nmhX8.2, by decide⟩
theorem kmL_44 : Cond.methodLink RL 44 yX8_text ∈ kw_ws := kz_4 (List.mem_of_getElem? (i := 206) (by first | exact rfl | decide +kernel)) rfl
theorem lvL_44 : kw_lkV RL 44 8 mX8_text := ⟨⟨TX8, 37, rfl⟩, kmL_44, wIX8_text, wVX8_text, wNX8, wCX8_text, nmhX8.1, nmhX8.2, by decide⟩
theorem kmX8_105 : Cond.methodLink RX8 105 yX8_isText ∈ kw_ws := kz_4 (List.mem_of_getElem? (i := 210) (by first | exact rfl | decide +kernel)) rfl
theorem lsX8_105 : kw_lkS RX8 105 mX8_isText := ⟨kmX8_105, wTX8_isText, wNX8, wCX8_isText, nmhX8.1, nmhX8.2, by decide⟩
theorem kmL_48 : Cond.methodLink RL 48 yX8_put ∈ kw_ws := kz_4 (List.mem_of_getElem? (i := 213) (by first | exact rfl | decide +kernel)) rfl
theorem lvL_48 : kw_lkV RL 48 8 mX8_put := ⟨⟨TX8, 37, rfl⟩, kmL_48, wIX8_put, wVX8_put, wNX8, wCX8_put, nmhX8.1, nmhX8.2, by decide⟩
theorem kmX8_125 : Cond.methodLink RX8 125 yX8_askedText ∈ kw_ws := kz_4 (List.mem_of_getElem? (i := 217) (by first | exact rfl | decide +kernel)) rfl
theorem lvX8_125 : kw_lkV RX8 125 8 mX8_askedText := ⟨⟨TX8, 37, rfl⟩, kmX8_125, wIX8_askedText, wVX8_askedText, wNX8, wCX8_askedText, nmhX8.1, nmhX8.2, by decide⟩
theorem kmL_52 : Cond.methodLink RL 52 yX8_fault ∈ kw_ws := kz_4 (List.mem_of_getElem? (i := 221) (by first | exact rfl | decide +kernel)) rfl
theorem lvL_52 : kw_lkV RL 52 8 mX8_fault := ⟨⟨TX8, 37, rfl⟩, kmL_52, wIX8_fault, wVX8_fault, wNX8, wCX8_fault, nmhX8.1, nmhX8.2, by decide⟩
theorem kmX8_160 : Cond.methodLink RX8 160 yX8_goesOn ∈ kw_ws := kz_4 (List.mem_of_getElem? (i := 225) (by first | exact rfl | decide +kernel)) rfl
theorem lvX8_160 : kw_lkV RX8 160 8 mX8_goesOn := ⟨⟨TX8, 37, rfl⟩, kmX8_160, wIX8_goesOn, wVX8_goesOn, wNX8, wCX8_goesOn, nmhX8.1, nmhX8.2, by decide⟩
theorem kmX8_157 : Cond.methodLink RX8 157 yX8_readsTown ∈ kw_ws := kz_4 (List.mem_of_getElem? (i := 229) (by first | exact rfl | decide +kernel)) rfl
theorem lvX8_157 : kw_lkV RX8 157 8 mX8_readsTown := ⟨⟨TX8, 37, rfl⟩, kmX8_157, wIX8_readsTown, wVX8_readsTown, wNX8, wCX8_readsTown, nmhX8.1, nmhX8.2, by decide⟩
theorem kmX8_151 : Cond.methodLink RX8 151 yX8_readsWinds ∈ kw_ws := kz_4 (List.mem_of_getElem? (i := 233) (by first | exact rfl | decide +kernel)) rfl
theorem lvX8_151 : kw_lkV RX8 151 8 mX8_readsWinds := ⟨⟨TX8, 37, rfl⟩, kmX8_151, wIX8_readsWinds, wVX8_readsWinds, wNX8, wCX8_readsWinds, nmhX8.1, nmhX8.2, by decide⟩
theorem kmX8_134 : Cond.methodLink RX8 134 yX8_skip ∈ kw_ws := kz_4 (List.mem_of_getElem? (i := 237) (by first | exact rfl | decide +kernel)) rfl
theorem lvX8_134 : kw_lkV RX8 134 8 mX8_skip := ⟨⟨TX8, 37, rfl⟩, kmX8_134, wIX8_skip, wVX8_skip, wNX8, wCX8_skip, nmhX8.1, nmhX8.2, by decide⟩
theorem kmX8_131 : Cond.methodLink RX8 131 yX8_here ∈ kw_ws := kz_5 (List.mem_of_getElem? (i := 1) (by first | exact rfl | decide +kernel)) rfl
theorem lvX8_131 : kw_lkV RX8 131 8 mX8_here := ⟨⟨TX8, 37, rfl⟩, kmX8_131, wIX8_here, wVX8_here, wNX8, wCX8_here, nmhX8.1, nmhX8.2, by decide⟩
theorem kmX8_154 : Cond.methodLink RX8 154 yX8_readsLine ∈ kw_ws := kz_5 (List.mem_of_getElem? (i := 5) (by first | exact rfl | decide +kernel)) rfl
theorem lvX8_154 : kw_lkV RX8 154 8 mX8_readsLine := ⟨⟨TX8, 37, rfl⟩, kmX8_154, wIX8_readsLine, wVX8_readsLine, wNX8, wCX8_readsLine, nmhX8.1, nmhX8.2, by decide⟩
theorem kmX8_141 : Cond.methodLink RX8 141 yX8_kindBy ∈ kw_ws := kz_5 (List.mem_of_getElem? (i := 9) (by first | exact rfl | decide +kernel)) rfl
theorem lsX8_141 : kw_lkS RX8 141 mX8_kindBy := ⟨kmX8_141, wTX8_kindBy, wNX8, wCX8_kindBy, nmhX8.1, nmhX8.2, by decide⟩
theorem kmX8_147 : Cond.methodLink RX8 147 yX8_figure ∈ kw_ws := kz_5 (List.mem_of_getElem? (i := 12) (by first | exact rfl | decide +kernel)) rfl
theorem lvX8_147 : kw_lkV RX8 147 8 mX8_figure := ⟨⟨TX8, 37, rfl⟩, kmX8_147, wIX8_figure, wVX8_figure, wNX8, wCX8_figure, nmhX8.1, nmhX8.2, by decide⟩
theorem kmL_56 : Cond.methodLink RL 56 yX8_town ∈ kw_ws := kz_5 (List.mem_of_getElem? (i := 16) (by first | exact rfl | decide +kernel)) rfl
theorem lvL_56 : kw_lkV RL 56 8 mX8_town := ⟨⟨TX8, 37, rfl⟩, kmL_56, wIX8_town, wVX8_town, wNX8, wCX8_town, nmhX8.1, nmhX8.2, by decide⟩
theorem kmL_72 : Cond.methodLink RL 72 yX8_hang ∈ kw_ws := kz_5 (List.mem_of_getElem? (i := 20) (by first | exact rfl | decide +kernel)) rfl
theorem lvL_72 : kw_lkV RL 72 8 mX8_hang := ⟨⟨TX8, 37, rfl⟩, kmL_72, wIX8_hang, wVX8_hang, wNX8, wCX8_hang, nmhX8.1, nmhX8.2, by decide⟩
theorem kmX8_211 : Cond.methodLink RX8 211 yX8_isLine ∈ kw_ws := kz_5 (List.mem_of_getElem? (i := 24) (by first | exact rfl | decide +kernel)) rfl
theorem lvX8_211 : kw_lkV RX8 211 8 mX8_isLine := ⟨⟨TX8, 37, rfl⟩, kmX8_211, wIX8_isLine, wVX8_isLine, wNX8, wCX8_isLine, nmhX8.1, nmhX8.2, by decide⟩
theorem kmX8_185 : Cond.methodLink RX8 185 yX8_has ∈ kw_ws := kz_5 (List.mem_of_getElem? (i := 28) (by first | exact rfl | decide +kernel)) rfl
theorem lsX8_185 : kw_lkS RX8 185 mX8_has := ⟨kmX8_185, wTX8_has, wNX8, wCX8_has, nmhX8.1, nmhX8.2, by decide⟩
theorem kmX8_214 : Cond.methodLink RX8 214 yX8_turnLine ∈ kw_ws := kz_5 (List.mem_of_getElem? (i := 31) (by first | exact rfl | decide +kernel)) rfl
theorem lvX8_214 : kw_lkV RX8 214 8 mX8_turnLine := ⟨⟨TX8, 37, rfl⟩, kmX8_214, wIX8_turnLine, wVX8_turnLine, wNX8, wCX8_turnLine, nmhX8.1, nmhX8.2, by decide⟩
theorem kmX8_208 : Cond.methodLink RX8 208 yX8_note ∈ kw_ws := kz_5 (List.mem_of_getElem? (i := 35) (by first | exact rfl | decide +kernel)) rfl
theorem lvX8_208 : kw_lkV RX8 208 8 mX8_note := ⟨⟨TX8, 37, rfl⟩, kmX8_208, wIX8_note, wVX8_note, wNX8, wCX8_note, nmhX8.1, nmhX8.2, by decide⟩
theorem kmX8_192 : Cond.methodLink RX8 192 yX8_write ∈ kw_ws := kz_5 (List.mem_of_getElem? (i := 39) (by first | exact rfl | decide +kernel)) rfl
theorem lvX8_192 : kw_lkV RX8 192 8 mX8_write := ⟨⟨TX8, 37, rfl⟩, kmX8_192, wIX8_write, wVX8_write, wNX8, wCX8_write, nmhX8.1, nmhX8.2, by decide⟩
theorem kmX8_217 : Cond.methodLink RX8 217 yX8_bits ∈ kw_ws := kz_5 (List.mem_of_getElem? (i := 43) (by first | exact rfl | decide +kernel)) rfl
theorem lsX8_217 : kw_lkS RX8 217 mX8_bits := ⟨kmX8_217, wTX8_bits, wNX8, wCX8_bits, nmhX8.1, nmhX8.2, by decide⟩
theorem kmL_76 : Cond.methodLink RL 76 yX8_take ∈ kw_ws := kz_5 (List.mem_of_getElem? (i := 46) (by first | exact rfl | decide +kernel)) rfl
theorem lvL_76 : kw_lkV RL 76 8 mX8_take := ⟨⟨TX8, 37, rfl⟩, kmL_76, wIX8_take, wVX8_take, wNX8, wCX8_take, nmhX8.1, nmhX8.2, by decide⟩
theorem kmL_81 : Cond.methodLink RL 81 yX8_hour ∈ kw_ws := kz_5 (List.mem_of_getElem? (i := 50) (by first | exact rfl | decide +kernel)) rfl
theorem lvL_81 : kw_lkV RL 81 8 mX8_hour := ⟨⟨TX8, 37, rfl⟩, kmL_81, wIX8_hour, wVX8_hour, wNX8, wCX8_hour, nmhX8.1, nmhX8.2, by decide⟩
theorem kmX8_220 : Cond.methodLink RX8 220 yX8_pass ∈ kw_ws := kz_5 (List.mem_of_getElem? (i := 54) (by first | exact rfl | decide +kernel)) rfl
theorem lvX8_220 : kw_lkV RX8 220 8 mX8_pass := ⟨⟨TX8, 37, rfl⟩, kmX8_220, wIX8_pass, wVX8_pass, wNX8, wCX8_pass, nmhX8.1, nmhX8.2, by decide⟩
theorem kmX8_196 : Cond.methodLink RX8 196 yX8_windAt ∈ kw_ws := kz_5 (List.mem_of_getElem? (i := 58) (by first | exact rfl | decide +kernel)) rfl
theorem lvX8_196 : kw_lkV RX8 196 8 mX8_windAt := ⟨⟨TX8, 37, rfl⟩, kmX8_196, wIX8_windAt, wVX8_windAt, wNX8, wCX8_windAt, nmhX8.1, nmhX8.2, by decide⟩
theorem kmX8_199 : Cond.methodLink RX8 199 yX8_milesBy ∈ kw_ws := kz_5 (List.mem_of_getElem? (i := 62) (by first | exact rfl | decide +kernel)) rfl
theorem lvX8_199 : kw_lkV RX8 199 8 mX8_milesBy := ⟨⟨TX8, 37, rfl⟩, kmX8_199, wIX8_milesBy, wVX8_milesBy, wNX8, wCX8_milesBy, nmhX8.1, nmhX8.2, by decide⟩
theorem kmX8_189 : Cond.methodLink RX8 189 yX8_pullOf ∈ kw_ws := kz_5 (List.mem_of_getElem? (i := 66) (by first | exact rfl | decide +kernel)) rfl
theorem lvX8_189 : kw_lkV RX8 189 8 mX8_pullOf := ⟨⟨TX8, 37, rfl⟩, kmX8_189, wIX8_pullOf, wVX8_pullOf, wNX8, wCX8_pullOf, nmhX8.1, nmhX8.2, by decide⟩
theorem kmX8_181 : Cond.methodLink RX8 181 yX8_pullBy ∈ kw_ws := kz_5 (List.mem_of_getElem? (i := 70) (by first | exact rfl | decide +kernel)) rfl
theorem lsX8_181 : kw_lkS RX8 181 mX8_pullBy := ⟨kmX8_181, wTX8_pullBy, wNX8, wCX8_pullBy, nmhX8.1, nmhX8.2, by decide⟩
theorem kmX8_202 : Cond.methodLink RX8 202 yX8_turnBy ∈ kw_ws := kz_5 (List.mem_of_getElem? (i := 73) (by first | exact rfl | decide +kernel)) rfl
theorem lvX8_202 : kw_lkV RX8 202 8 mX8_turnBy := ⟨⟨TX8, 37, rfl⟩, kmX8_202, wIX8_turnBy, wVX8_turnBy, wNX8, wCX8_turnBy, nmhX8.1, nmhX8.2, by decide⟩
theorem kmX8_205 : Cond.methodLink RX8 205 yX8_wetBehind ∈ kw_ws := kz_5 (List.mem_of_getElem? (i := 77) (by first | exact rfl | decide +kernel)) rfl
theorem lvX8_205 : kw_lkV RX8 205 8 mX8_wetBehind := ⟨⟨TX8, 37, rfl⟩, kmX8_205, wIX8_wetBehind, wVX8_wetBehind, wNX8, wCX8_wetBehind, nmhX8.1, nmhX8.2, by decide⟩
theorem kmX8_223 : Cond.methodLink RX8 223 yX8_part ∈ kw_ws := kz_5 (List.mem_of_getElem? (i := 81) (by first | exact rfl | decide +kernel)) rfl
theorem lvX8_223 : kw_lkV RX8 223 8 mX8_part := ⟨⟨TX8, 37, rfl⟩, kmX8_223, wIX8_part, wVX8_part, wNX8, wCX8_part, nmhX8.1, nmhX8.2, by decide⟩
theorem kmL_85 : Cond.methodLink RL 85 yX8_undo ∈ kw_ws := kz_5 (List.mem_of_getElem? (i := 85) (by first | exact rfl | decide +kernel)) rfl
theorem lvL_85 : kw_lkV RL 85 8 mX8_undo := ⟨⟨TX8, 37, rfl⟩, kmL_85, wIX8_undo, wVX8_undo, wNX8, wCX8_undo, nmhX8.1, nmhX8.2, by decide⟩
theorem kmX8_227 : Cond.methodLink RX8 227 yX8_read ∈ kw_ws := kz_5 (List.mem_of_getElem? (i := 89) (by first | exact rfl | decide +kernel)) rfl
theorem lvX8_227 : kw_lkV RX8 227 8 mX8_read := ⟨⟨TX8, 37, rfl⟩, kmX8_227, wIX8_read, wVX8_read, wNX8, wCX8_read, nmhX8.1, nmhX8.2, by decide⟩
theorem kmL_89 : Cond.methodLink RL 89 yX8_keep ∈ kw_ws := kz_5 (List.mem_of_getElem? (i := 93) (by first | exact rfl | decide +kernel)) rfl
theorem lvL_89 : kw_lkV RL 89 8 mX8_keep := ⟨⟨TX8, 37, rfl⟩, kmL_89, wIX8_keep, wVX8_keep, wNX8, wCX8_keep, nmhX8.1, nmhX8.2, by decide⟩
theorem kmL_93 : Cond.methodLink RL 93 yX8_on ∈ kw_ws := kz_5 (List.mem_of_getElem? (i := 97) (by first | exact rfl | decide +kernel)) rfl
theorem lvL_93 : kw_lkV RL 93 8 mX8_on := ⟨⟨TX8, 37, rfl⟩, kmL_93, wIX8_on, wVX8_on, wNX8, wCX8_on, nmhX8.1, nmhX8.2, by decide⟩
theorem kmL_60 : Cond.methodLink RL 60 yX8_line ∈ kw_ws := kz_5 (List.mem_of_getElem? (i := 101) (by first | exact rfl | decide +kernel)) rfl
theorem lvL_60 : kw_lkV RL 60 8 mX8_line := ⟨⟨TX8, 37, rfl⟩, kmL_60, wIX8_line, wVX8_line, wNX8, wCX8_line, nmhX8.1, nmhX8.2, by decide⟩
theorem kmX8_230 : Cond.methodLink RX8 230 yX8_lineOf ∈ kw_ws := kz_5 (List.mem_of_getElem? (i := 105) (by first | exact rfl | decide +kernel)) rfl
theorem lvX8_230 : kw_lkV RX8 230 8 mX8_lineOf := ⟨⟨TX8, 37, rfl⟩, kmX8_230, wIX8_lineOf, wVX8_lineOf, wNX8, wCX8_lineOf, nmhX8.1, nmhX8.2, by decide⟩
theorem kmL_64 : Cond.methodLink RL 64 yX8_mark ∈ kw_ws := kz_5 (List.mem_of_getElem? (i := 109) (by first | exact rfl | decide +kernel)) rfl
theorem lvL_64 : kw_lkV RL 64 8 mX8_mark := ⟨⟨TX8, 37, rfl⟩, kmL_64, wIX8_mark, wVX8_mark, wNX8, wCX8_mark, nmhX8.1, nmhX8.2, by decide⟩
theorem kmX8_233 : Cond.methodLink RX8 233 yX8_isA ∈ kw_ws := kz_5 (List.mem_of_getElem? (i := 113) (by first | exact rfl | decide +kernel)) rfl
theorem lsX8_233 : kw_lkS RX8 233 mX8_isA := ⟨kmX8_233, wTX8_isA, wNX8, wCX8_isA, nmhX8.1, nmhX8.2, by decide⟩
theorem kmX8_236 : Cond.methodLink RX8 236 yX8_hoursTill ∈ kw_ws := kz_5 (List.mem_of_getElem? (i := 116) (by first | exact rfl | decide +kernel)) rfl
theorem lvX8_236 : kw_lkV RX8 236 8 mX8_hoursTill := ⟨⟨TX8, 37, rfl⟩, kmX8_236, wIX8_hoursTill, wVX8_hoursTill, wNX8, wCX8_hoursTill, nmhX8.1, nmhX8.2, by decide⟩
theorem kmX8_240 : Cond.methodLink RX8 240 yX8_lesserOnes ∈ kw_ws := kz_5 (List.mem_of_getElem? (i := 120) (by first | exact rfl | decide +kernel)) rfl
theorem lvX8_240 : kw_lkV RX8 240 8 mX8_lesserOnes := ⟨⟨TX8, 37, rfl⟩, kmX8_240, wIX8_lesserOnes, wVX8_lesserOnes, wNX8, wCX8_lesserOnes, nmhX8.1, nmhX8.2, by decide⟩
theorem kmL_68 : Cond.methodLink RL 68 yX8_wind ∈ kw_ws := kz_5 (List.mem_of_getElem? (i := 124) (by first | exact rfl | decide +kernel)) rfl
theorem lvL_68 : kw_lkV RL 68 8 mX8_wind := ⟨⟨TX8, 37, rfl⟩, kmL_68, wIX8_wind, wVX8_wind, wNX8, wCX8_wind, nmhX8.1, nmhX8.2, by decide⟩
theorem kmL_97 : Cond.methodLink RL 97 yX8_goes ∈ kw_ws := kz_5 (List.mem_of_getElem? (i := 128) (by first | exact rfl | decide +kernel)) rfl
theorem lvL_97 : kw_lkV RL 97 8 mX8_goes := ⟨⟨TX8, 37, rfl⟩, kmL_97, wIX8_goes, wVX8_goes, wNX8, wCX8_goes, nmhX8.1, nmhX8.2, by decide⟩
theorem kmX8_243 : Cond.methodLink RX8 243 yX8_isSet ∈ kw_ws := kz_5 (List.mem_of_getElem? (i := 132) (by first | exact rfl | decide +kernel)) rfl
theorem lvX8_243 : kw_lkV RX8 243 8 mX8_isSet := ⟨⟨TX8, 37, rfl⟩, kmX8_243, wIX8_isSet, wVX8_isSet, wNX8, wCX8_isSet, nmhX8.1, nmhX8.2, by decide⟩
theorem kmL_101 : Cond.methodLink RL 101 yX8_even ∈ kw_ws := kz_5 (List.mem_of_getElem? (i := 136) (by first | exact rfl | decide +kernel)) rfl
theorem lvL_101 : kw_lkV RL 101 8 mX8_even := ⟨⟨TX8, 37, rfl⟩, kmL_101, wIX8_even, wVX8_even, wNX8, wCX8_even, nmhX8.1, nmhX8.2, by decide⟩
theorem kmX8_246 : Cond.methodLink RX8 246 yX8_linenOf ∈ kw_ws := kz_5 (List.mem_of_getElem? (i := 140) (by first | exact rfl | decide +kernel)) rfl
theorem lvX8_246 : kw_lkV RX8 246 8 mX8_linenOf := ⟨⟨TX8, 37, rfl⟩, kmX8_246, wIX8_linenOf, wVX8_linenOf, wNX8, wCX8_linenOf, nmhX8.1, nmhX8.2, by decide⟩
theorem kmL_105 : Cond.methodLink RL 105 yX8_fast ∈ kw_ws := kz_5 (List.mem_of_getElem? (i := 144) (by first | exact rfl | decide +kernel)) rfl
theorem lvL_105 : kw_lkV RL 105 8 mX8_fast := ⟨⟨TX8, 37, rfl⟩, kmL_105, wIX8_fast, wVX8_fast, wNX8, wCX8_fast, nmhX8.1, nmhX8.2, by decide⟩
theorem kmL_109 : Cond.methodLink RL 109 yX8_wet ∈ kw_ws := kz_5 (List.mem_of_getElem? (i := 148) (by first | exact rfl | decide +kernel)) rfl
theorem lvL_109 : kw_lkV RL 109 8 mX8_wet := ⟨⟨TX8, 37, rfl⟩, kmL_109, wIX8_wet, wVX8_wet, wNX8, wCX8_wet, nmhX8.1, nmhX8.2, by decide⟩
theorem kmX8_249 : Cond.methodLink RX8 249 yX8_wetOfAll ∈ kw_ws := kz_5 (List.mem_of_getElem? (i := 152) (by first | exact rfl | decide +kernel)) rfl
theorem lvX8_249 : kw_lkV RX8 249 8 mX8_wetOfAll := ⟨⟨TX8, 37, rfl⟩, kmX8_249, wIX8_wetOfAll, wVX8_wetOfAll, wNX8, wCX8_wetOfAll, nmhX8.1, nmhX8.2, by decide⟩
theorem kmL_113 : Cond.methodLink RL 113 yX8_sail ∈ kw_ws := kz_5 (List.mem_of_getElem? (i := 156) (by first | exact rfl | decide +kernel)) rfl
theorem lvL_113 : kw_lkV RL 113 8 mX8_sail := ⟨⟨TX8, 37, rfl⟩, kmL_113, wIX8_sail, wVX8_sail, wNX8, wCX8_sail, nmhX8.1, nmhX8.2, by decide⟩
theorem kmX8_252 : Cond.methodLink RX8 252 yX8_askedPlan ∈ kw_ws := kz_5 (List.mem_of_getElem? (i := 160) (by first | exact rfl | decide +kernel)) rfl
theorem lvX8_252 : kw_lkV RX8 252 8 mX8_askedPlan := ⟨⟨TX8, 37, rfl⟩, kmX8_252, wIX8_askedPlan, wVX8_askedPlan, wNX8, wCX8_askedPlan, nmhX8.1, nmhX8.2, by decide⟩
theorem kmL_117 : Cond.methodLink RL 117 yX8_dry ∈ kw_ws := kz_5 (List.mem_of_getElem? (i := 164) (by first | exact rfl | decide +kernel)) rfl
theorem lvL_117 : kw_lkV RL 117 8 mX8_dry := ⟨⟨TX8, 37, rfl⟩, kmL_117, wIX8_dry, wVX8_dry, wNX8, wCX8_dry, nmhX8.1, nmhX8.2, by decide⟩
theorem kmL_121 : Cond.methodLink RL 121 yX8_far ∈ kw_ws := kz_5 (List.mem_of_getElem? (i := 168) (by first | exact rfl | decide +kernel)) rfl
theorem lvL_121 : kw_lkV RL 121 8 mX8_far := ⟨⟨TX8, 37, rfl⟩, kmL_121, wIX8_far, wVX8_far, wNX8, wCX8_far, nmhX8.1, nmhX8.2, by decide⟩
theorem kmX8_259 : Cond.methodLink RX8 259 yX8_setHours ∈ kw_ws := kz_5 (List.mem_of_getElem? (i := 172) (by first | exact rfl | decide +kernel)) rfl
theorem lvX8_259 : kw_lkV RX8 259 8 mX8_setHours := ⟨⟨TX8, 37, rfl⟩, kmX8_259, wIX8_setHours, wVX8_setHours, wNX8, wCX8_setHours, nmhX8.1, nmhX8.2, by decide⟩
theorem kmX8_262 : Cond.methodLink RX8 262 yX8_farBy ∈ kw_ws := kz_5 (List.mem_of_getElem? (i := 176) (by first | exact rfl | decide +kernel)) rfl
theorem lvX8_262 : kw_lkV RX8 262 8 mX8_farBy := ⟨⟨TX8, 37, rfl⟩, kmX8_262, wIX8_farBy, wVX8_farBy, wNX8, wCX8_farBy, nmhX8.1, nmhX8.2, by decide⟩
theorem kmX8_256 : Cond.methodLink RX8 256 yX8_isTurn ∈ kw_ws := kz_5 (List.mem_of_getElem? (i := 181) (by first | exact rfl | decide +kernel)) rfl
theorem lsX8_256 : kw_lkS RX8 256 mX8_isTurn := ⟨kmX8_256, wTX8_isTurn, wNX8, wCX8_isTurn, nmhX8.1, nmhX8.2, by decide⟩
theorem kmL_125 : Cond.methodLink RL 125 yX8_soon ∈ kw_ws := kz_5 (List.mem_of_getElem? (i := 184) (by first | exact rfl | decide +kernel)) rfl
theorem lvL_125 : kw_lkV RL 125 8 mX8_soon := ⟨⟨TX8, 37, rfl⟩, kmL_125, wIX8_soon, wVX8_soon, wNX8, wCX8_soon, nmhX8.1, nmhX8.2, by decide⟩
theorem kmX8_268 : Cond.methodLink RX8 268 yX8_mostOf ∈ kw_ws := kz_5 (List.mem_of_getElem? (i := 188) (by first | exact rfl | decide +kernel)) rfl
theorem lvX8_268 : kw_lkV RX8 268 8 mX8_mostOf := ⟨⟨TX8, 37, rfl⟩, kmX8_268, wIX8_mostOf, wVX8_mostOf, wNX8, wCX8_mostOf, nmhX8.1, nmhX8.2, by decide⟩
theorem kmX8_265 : Cond.methodLink RX8 265 yX8_greater ∈ kw_ws := kz_5 (List.mem_of_getElem? (i := 192) (by first | exact rfl | decide +kernel)) rfl
theorem lsX8_265 : kw_lkS RX8 265 mX8_greater := ⟨kmX8_265, wTX8_greater, wNX8, wCX8_greater, nmhX8.1, nmhX8.2, by decide⟩
theorem kmL_129 : Cond.methodLink RL 129 yX8_least ∈ kw_ws := kz_5 (List.mem_of_getElem? (i := 195) (by first | exact rfl | decide +kernel)) rfl
theorem lvL_129 : kw_lkV RL 129 8 mX8_least := ⟨⟨TX8, 37, rfl⟩, kmL_129, wIX8_least, wVX8_least, wNX8, wCX8_least, nmhX8.1, nmhX8.2, by decide⟩
theorem kmL_133 : Cond.methodLink RL 133 yX8_ways ∈ kw_ws := kz_5 (List.mem_of_getElem? (i := 199) (by first | exact rfl | decide +kernel)) rfl
theorem lvL_133 : kw_lkV RL 133 8 mX8_ways := ⟨⟨TX8, 37, rfl⟩, kmL_133, wIX8_ways, wVX8_ways, wNX8, wCX8_ways, nmhX8.1, nmhX8.2, by decide⟩
theorem kmL_137 : Cond.methodLink RL 137 yX8_kinds ∈ kw_ws := kz_5 (List.mem_of_getElem? (i := 203) (by first | exact rfl | decide +kernel)) rfl
theorem lvL_137 : kw_lkV RL 137 8 mX8_kinds := ⟨⟨TX8, 37, rfl⟩, kmL_137, wIX8_kinds, wVX8_kinds, wNX8, wCX8_kinds, nmhX8.1, nmhX8.2, by decide⟩
theorem kmX8_271 : Cond.methodLink RX8 271 yX8_askedPulls ∈ kw_ws := kz_5 (List.mem_of_getElem? (i := 207) (by first | exact rfl | decide +kernel)) rfl
theorem lvX8_271 : kw_lkV RX8 271 8 mX8_askedPulls := ⟨⟨TX8, 37, rfl⟩, kmX8_271, wIX8_askedPulls, wVX8_askedPulls, wNX8, wCX8_askedPulls, nmhX8.1, nmhX8.2, by decide⟩
theorem kmX8_274 : Cond.methodLink RX8 274 yX8_pullsSo ∈ kw_ws := kz_5 (List.mem_of_getElem? (i := 211) (by first | exact rfl | decide +kernel)) rfl
theorem lvX8_274 : kw_lkV RX8 274 8 mX8_pullsSo := ⟨⟨TX8, 37, rfl⟩, kmX8_274, wIX8_pullsSo, wVX8_pullsSo, wNX8, wCX8_pullsSo, nmhX8.1, nmhX8.2, by decide⟩
theorem kmL_141 : Cond.methodLink RL 141 yX8_areas ∈ kw_ws := kz_5 (List.mem_of_getElem? (i := 215) (by first | exact rfl | decide +kernel)) rfl
theorem lvL_141 : kw_lkV RL 141 8 mX8_areas := ⟨⟨TX8, 37, rfl⟩, kmL_141, wIX8_areas, wVX8_areas, wNX8, wCX8_areas, nmhX8.1, nmhX8.2, by decide⟩
theorem kmL_145 : Cond.methodLink RL 145 yX8_rival ∈ kw_ws := kz_5 (List.mem_of_getElem? (i := 219) (by first | exact rfl | decide +kernel)) rfl
theorem lvL_145 : kw_lkV RL 145 8 mX8_rival := ⟨⟨TX8, 37, rfl⟩, kmL_145, wIX8_rival, wVX8_rival, wNX8, wCX8_rival, nmhX8.1, nmhX8.2, by decide⟩
theorem kmL_149 : Cond.methodLink RL 149 yX8_mid ∈ kw_ws := kz_5 (List.mem_of_getElem? (i := 223) (by first | exact rfl | decide +kernel)) rfl
theorem lvL_149 : kw_lkV RL 149 8 mX8_mid := ⟨⟨TX8, 37, rfl⟩, kmL_149, wIX8_mid, wVX8_mid, wNX8, wCX8_mid, nmhX8.1, nmhX8.2, by decide⟩
theorem kmX8_281 : Cond.methodLink RX8 281 yX8_gustMiles ∈ kw_ws := kz_5 (List.mem_of_getElem? (i := 227) (by first | exact rfl | decide +kernel)) rfl
theorem lvX8_281 : kw_lkV RX8 281 8 mX8_gustMiles := ⟨⟨TX8, 37, rfl⟩, kmX8_281, wIX8_gustMiles, wVX8_gustMiles, wNX8, wCX8_gustMiles, nmhX8.1, nmhX8.2, by decide⟩
theorem kmX8_284 : Cond.methodLink RX8 284 yX8_weightOf ∈ kw_ws := kz_5 (List.mem_of_getElem? (i := 231) (by first | exact rfl | decide +kernel)) rfl
theorem lvX8_284 : kw_lkV RX8 284 8 mX8_weightOf := ⟨⟨TX8, 37, rfl⟩, kmX8_284, wIX8_weightOf, wVX8_weightOf, wNX8, wCX8_weightOf, nmhX8.1, nmhX8.2, by decide⟩
theorem kmX8_277 : Cond.methodLink RX8 277 yX8_power ∈ kw_ws := kz_5 (List.mem_of_getElem? (i := 235) (by first | exact rfl | decide +kernel)) rfl
theorem lsX8_277 : kw_lkS RX8 277 mX8_power := ⟨kmX8_277, wTX8_power, wNX8, wCX8_power, nmhX8.1, nmhX8.2, by decide⟩
theorem kmL_153 : Cond.methodLink RL 153 yX8_odds ∈ kw_ws := kz_5 (List.mem_of_getElem? (i := 239) (by first | exact rfl | decide +kernel)) rfl
theorem lvL_153 : kw_lkV RL 153 8 mX8_odds := ⟨⟨TX8, 37, rfl⟩, kmL_153, wIX8_odds, wVX8_odds, wNX8, wCX8_odds, nmhX8.1, nmhX8.2, by decide⟩
theorem kmL_157 : Cond.methodLink RL 157 yX8_lots ∈ kw_ws := kz_6 (List.mem_of_getElem? (i := 3) (by first | exact rfl | decide +kernel)) rfl
theorem lvL_157 : kw_lkV RL 157 8 mX8_lots := ⟨⟨TX8, 37, rfl⟩, kmL_157, wIX8_lots, wVX8_lots, wNX8, wCX8_lots, nmhX8.1, nmhX8.2, by decide⟩
theorem kmL_161 : Cond.methodLink RL 161 yX8_asked ∈ kw_ws := kz_6 (List.mem_of_getElem? (i := 10) (by first | exact rfl | decide +kernel)) rfl
theorem lvL_161 : kw_lkV RL 161 8 mX8_asked := ⟨⟨TX8, 37, rfl⟩, kmL_161, wIX8_asked, wVX8_asked, wNX8, wCX8_asked, nmhX8.1, nmhX8.2, by decide⟩
theorem kmL_166 : Cond.methodLink RL 166 yX8_upper ∈ kw_ws := kz_6 (List.mem_of_getElem? (i := 14) (by first | exact rfl | decide +kernel)) rfl
theorem lvL_166 : kw_lkV RL 166 8 mX8_upper := ⟨⟨TX8, 37, rfl⟩, kmL_166, wIX8_upper, wVX8_upper, wNX8, wCX8_upper, nmhX8.1, nmhX8.2, by decide⟩
theorem kmL_170 : Cond.methodLink RL 170 yX8_lower ∈ kw_ws := kz_6 (List.mem_of_getElem? (i := 18) (by first | exact rfl | decide +kernel)) rfl
theorem lvL_170 : kw_lkV RL 170 8 mX8_lower := ⟨⟨TX8, 37, rfl⟩, kmL_170, wIX8_lower, wVX8_lower, wNX8, wCX8_lower, nmhX8.1, nmhX8.2, by decide⟩
theorem kmL_174 : Cond.methodLink RL 174 yX8_count ∈ kw_ws := kz_6 (List.mem_of_getElem? (i := 22) (by first | exact rfl | decide +kernel)) rfl
theorem lvL_174 : kw_lkV RL 174 8 mX8_count := ⟨⟨TX8, 37, rfl⟩, kmL_174, wIX8_count, wVX8_count, wNX8, wCX8_count, nmhX8.1, nmhX8.2, by decide⟩
theorem kmX8_301 : Cond.methodLink RX8 301 yX8_tells ∈ kw_ws := kz_6 (List.mem_of_getElem? (i := 26) (by first | exact rfl | decide +kernel)) rfl
theorem lvX8_301 : kw_lkV RX8 301 8 mX8_tells := ⟨⟨TX8, 37, rfl⟩, kmX8_301, wIX8_tells, wVX8_tells, wNX8, wCX8_tells, nmhX8.1, nmhX8.2, by decide⟩
theorem kmX8_295 : Cond.methodLink RX8 295 yX8_howMany ∈ kw_ws := kz_6 (List.mem_of_getElem? (i := 30) (by first | exact rfl | decide +kernel)) rfl
theorem lvX8_295 : kw_lkV RX8 295 8 mX8_howMany := ⟨⟨TX8, 37, rfl⟩, kmX8_295, wIX8_howMany, wVX8_howMany, wNX8, wCX8_howMany, nmhX8.1, nmhX8.2, by decide⟩
theorem kmX8_298 : Cond.methodLink RX8 298 yX8_there ∈ kw_ws := kz_6 (List.mem_of_getElem? (i := 34) (by first | exact rfl | decide +kernel)) rfl
theorem lvX8_298 : kw_lkV RX8 298 8 mX8_there := ⟨⟨TX8, 37, rfl⟩, kmX8_298, wIX8_there, wVX8_there, wNX8, wCX8_there, nmhX8.1, nmhX8.2, by decide⟩
theorem kmL_178 : Cond.methodLink RL 178 yX8_miles ∈ kw_ws := kz_6 (List.mem_of_getElem? (i := 38) (by first | exact rfl | decide +kernel)) rfl
theorem lvL_178 : kw_lkV RL 178 8 mX8_miles := ⟨⟨TX8, 37, rfl⟩, kmL_178, wIX8_miles, wVX8_miles, wNX8, wCX8_miles, nmhX8.1, nmhX8.2, by decide⟩
theorem kmL_182 : Cond.methodLink RL 182 yX8_finding ∈ kw_ws := kz_6 (List.mem_of_getElem? (i := 42) (by first | exact rfl | decide +kernel)) rfl
theorem lvL_182 : kw_lkV RL 182 8 mX8_finding := ⟨⟨TX8, 37, rfl⟩, kmL_182, wIX8_finding, wVX8_finding, wNX8, wCX8_finding, nmhX8.1, nmhX8.2, by decide⟩
theorem kmL_186 : Cond.methodLink RL 186 yX8_findings ∈ kw_ws := kz_6 (List.mem_of_getElem? (i := 46) (by first | exact rfl | decide +kernel)) rfl
theorem lvL_186 : kw_lkV RL 186 8 mX8_findings := ⟨⟨TX8, 37, rfl⟩, kmL_186, wIX8_findings, wVX8_findings, wNX8, wCX8_findings, nmhX8.1, nmhX8.2, by decide⟩
theorem kmL_190 : Cond.methodLink RL 190 yX8_digest ∈ kw_ws := kz_6 (List.mem_of_getElem? (i := 50) (by first | exact rfl | decide +kernel)) rfl
theorem lvL_190 : kw_lkV RL 190 8 mX8_digest := ⟨⟨TX8, 37, rfl⟩, kmL_190, wIX8_digest, wVX8_digest, wNX8, wCX8_digest, nmhX8.1, nmhX8.2, by decide⟩
theorem kmX8_309 : Cond.methodLink RX8 309 yX8_mix ∈ kw_ws := kz_6 (List.mem_of_getElem? (i := 55) (by first | exact rfl | decide +kernel)) rfl
theorem lvX8_309 : kw_lkV RX8 309 8 mX8_mix := ⟨⟨TX8, 37, rfl⟩, kmX8_309, wIX8_mix, wVX8_mix, wNX8, wCX8_mix, nmhX8.1, nmhX8.2, by decide⟩
theorem kmX8_314 : Cond.methodLink RX8 314 yX8_mixTown ∈ kw_ws := kz_6 (List.mem_of_getElem? (i := 60) (by first | exact rfl | decide +kernel)) rfl
theorem lvX8_314 : kw_lkV RX8 314 8 mX8_mixTown := ⟨⟨TX8, 37, rfl⟩, kmX8_314, wIX8_mixTown, wVX8_mixTown, wNX8, wCX8_mixTown, nmhX8.1, nmhX8.2, by decide⟩
theorem lnX1_48 : kw_lkN RX1 48 mX7_pull := ⟨by decide, wTX7_pull, wNX7, wCX7_pull, nmhX7.1, nmhX7.2, by decide⟩
theorem lnX5_90 : kw_lkN RX5 90 mX7_weather := ⟨by decide, wTX7_weather, wNX7, wCX7_weather, nmhX7.1, nmhX7.2, by decide⟩
theorem lnX1_61 : kw_lkN RX1 61 mX7_isA := ⟨by decide, wTX7_isA, wNX7, wCX7_isA, nmhX7.1, nmhX7.2, by decide⟩
theorem ckJ6_265 : Cond.constant RJ6 265 (1431655765) ∈ kw_ws := kz_3 (List.mem_of_getElem? (i := 7) (by first | exact rfl | decide +kernel)) rfl
theorem ckJ6_266 : Cond.constant RJ6 266 (858993459) ∈ kw_ws := kz_3 (List.mem_of_getElem? (i := 8) (by first | exact rfl | decide +kernel)) rfl
theorem ckJ6_267 : Cond.constant RJ6 267 (252645135) ∈ kw_ws := kz_3 (List.mem_of_getElem? (i := 9) (by first | exact rfl | decide +kernel)) rfl
theorem ckX8_255 : Cond.constant RX8 255 (-1048576) ∈ kw_ws := kz_5 (List.mem_of_getElem? (i := 180) (by first | exact rfl | decide +kernel)) rfl
theorem ckX8_290 : Cond.constant RX8 290 (2147483646) ∈ kw_ws := kz_6 (List.mem_of_getElem? (i := 7) (by first | exact rfl | decide +kernel)) rfl
theorem ckX7_295 : Cond.constantLong RX7 295 (12) ∈ kw_ws := kz_3 (List.mem_of_getElem? (i := 200) (by first | exact rfl | decide +kernel)) rfl
theorem ckX7_308 : Cond.constantLong RX7 308 (2147483647) ∈ kw_ws := kz_3 (List.mem_of_getElem? (i := 226) (by first | exact rfl | decide +kernel)) rfl
theorem ckX7_310 : Cond.constantLong RX7 310 (48271) ∈ kw_ws := kz_3 (List.mem_of_getElem? (i := 227) (by first | exact rfl | decide +kernel)) rfl
theorem ckX7_337 : Cond.constantLong RX7 337 (17) ∈ kw_ws := kz_4 (List.mem_of_getElem? (i := 29) (by first | exact rfl | decide +kernel)) rfl
theorem ckX7_339 : Cond.constantLong RX7 339 (31) ∈ kw_ws := kz_4 (List.mem_of_getElem? (i := 30) (by first | exact rfl | decide +kernel)) rfl
theorem ckX3_51 : Cond.constantLong RX3 51 (31) ∈ kw_ws := kz_4 (List.mem_of_getElem? (i := 36) (by first | exact rfl | decide +kernel)) rfl
theorem ckX8_288 : Cond.constantLong RX8 288 (12) ∈ kw_ws := kz_5 (List.mem_of_getElem? (i := 238) (by first | exact rfl | decide +kernel)) rfl
theorem ckX8_291 : Cond.constantLong RX8 291 (48271) ∈ kw_ws := kz_6 (List.mem_of_getElem? (i := 8) (by first | exact rfl | decide +kernel)) rfl
theorem ckX8_293 : Cond.constantLong RX8 293 (2147483647) ∈ kw_ws := kz_6 (List.mem_of_getElem? (i := 9) (by first | exact rfl | decide +kernel)) rfl
theorem ckX8_312 : Cond.constantLong RX8 312 (17) ∈ kw_ws := kz_6 (List.mem_of_getElem? (i := 54) (by first | exact rfl | decide +kernel)) rfl
theorem ckX8_304 : Cond.constantLong RX8 304 (31) ∈ kw_ws := kz_6 (List.mem_of_getElem? (i := 59) (by first | exact rfl | decide +kernel)) rfl
