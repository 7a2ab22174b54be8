theorem inW0 : ∀ w ∈ u_ws RX0 TX0 4, w ∈ kw_ws := fun w h => kw_ws_in ((show ∀ w ∈ u_ws RX0 TX0 4, w ∈ lw_tbl by decide +kernel) w h) ((show ∀ w ∈ u_ws RX0 TX0 4, goodWord w = true by decide +kernel) w h)
theorem inW1 : ∀ w ∈ u_ws RX1 TX1 7, w ∈ kw_ws := fun w h => kw_ws_in ((show ∀ w ∈ u_ws RX1 TX1 7, w ∈ lw_tbl by decide +kernel) w h) ((show ∀ w ∈ u_ws RX1 TX1 7, goodWord w = true by decide +kernel) w h)
theorem inW2 : ∀ w ∈ u_ws RX2 TX2 2, w ∈ kw_ws := fun w h => kw_ws_in ((show ∀ w ∈ u_ws RX2 TX2 2, w ∈ lw_tbl by decide +kernel) w h) ((show ∀ w ∈ u_ws RX2 TX2 2, goodWord w = true by decide +kernel) w h)
theorem inW3 : ∀ w ∈ u_ws RX3 TX3 3, w ∈ kw_ws := fun w h => kw_ws_in ((show ∀ w ∈ u_ws RX3 TX3 3, w ∈ lw_tbl by decide +kernel) w h) ((show ∀ w ∈ u_ws RX3 TX3 3, goodWord w = true by decide +kernel) w h)
theorem inW4 : ∀ w ∈ u_ws RX4 TX4 5, w ∈ kw_ws := fun w h => kw_ws_in ((show ∀ w ∈ u_ws RX4 TX4 5, w ∈ lw_tbl by decide +kernel) w h) ((show ∀ w ∈ u_ws RX4 TX4 5, goodWord w = true by decide +kernel) w h)
theorem inW5 : ∀ w ∈ u_ws RX5 TX5 8, w ∈ kw_ws := fun w h => kw_ws_in ((show ∀ w ∈ u_ws RX5 TX5 8, w ∈ lw_tbl by decide +kernel) w h) ((show ∀ w ∈ u_ws RX5 TX5 8, goodWord w = true by decide +kernel) w h)
theorem inW6 : ∀ w ∈ u_ws RX6 TX6 8, w ∈ kw_ws := fun w h => kw_ws_in ((show ∀ w ∈ u_ws RX6 TX6 8, w ∈ lw_tbl by decide +kernel) w h) ((show ∀ w ∈ u_ws RX6 TX6 8, goodWord w = true by decide +kernel) w h)
theorem inW7 : ∀ w ∈ u_ws RX7 TX7 11, w ∈ kw_ws := fun w h => kw_ws_in ((show ∀ w ∈ u_ws RX7 TX7 11, w ∈ lw_tbl by decide +kernel) w h) ((show ∀ w ∈ u_ws RX7 TX7 11, goodWord w = true by decide +kernel) w h)
theorem inW8 : ∀ w ∈ u_ws RX8 TX8 37, w ∈ kw_ws := fun w h => kw_ws_in ((show ∀ w ∈ u_ws RX8 TX8 37, w ∈ lw_tbl by decide +kernel) w h) ((show ∀ w ∈ u_ws RX8 TX8 37, goodWord w = true by decide +kernel) w h)
theorem wIX7_row : Cond.instanceMethod yX7_row ∈ kw_ws := kw_ws_in (List.mem_append_right _ (List.mem_of_getElem? (i := 268) (by decide +kernel))) rfl
theorem wIX7_makeOn : Cond.instanceMethod yX7_makeOn ∈ kw_ws := kw_ws_in (List.mem_append_right _ (List.mem_of_getElem? (i := 273) (by decide +kernel))) rfl
theorem wIX3_has : Cond.instanceMethod yX3_has ∈ kw_ws := kw_ws_in (List.mem_append_right _ (List.mem_of_getElem? (i := 276) (by decide +kernel))) rfl
theorem wIX4_refuse : Cond.instanceMethod yX4_refuse ∈ kw_ws := kw_ws_in (List.mem_append_right _ (List.mem_of_getElem? (i := 280) (by decide +kernel))) rfl
theorem wIX3_make : Cond.instanceMethod yX3_make ∈ kw_ws := kw_ws_in (List.mem_append_right _ (List.mem_of_getElem? (i := 284) (by decide +kernel))) rfl
theorem wIX7_lay : Cond.instanceMethod yX7_lay ∈ kw_ws := kw_ws_in (List.mem_append_right _ (List.mem_of_getElem? (i := 289) (by decide +kernel))) rfl
theorem wIX3_findingAt : Cond.instanceMethod yX3_findingAt ∈ kw_ws := kw_ws_in (List.mem_append_right _ (List.mem_of_getElem? (i := 293) (by decide +kernel))) rfl
theorem wIX3_isMissing : Cond.instanceMethod yX3_isMissing ∈ kw_ws := kw_ws_in (List.mem_append_right _ (List.mem_of_getElem? (i := 297) (by decide +kernel))) rfl
theorem wIX3_sizeOf : Cond.instanceMethod yX3_sizeOf ∈ kw_ws := kw_ws_in (List.mem_append_right _ (List.mem_of_getElem? (i := 301) (by decide +kernel))) rfl
theorem wIX3_hasPlaces : Cond.instanceMethod yX3_hasPlaces ∈ kw_ws := kw_ws_in (List.mem_append_right _ (List.mem_of_getElem? (i := 305) (by decide +kernel))) rfl
theorem wIX3_valueAt : Cond.instanceMethod yX3_valueAt ∈ kw_ws := kw_ws_in (List.mem_append_right _ (List.mem_of_getElem? (i := 309) (by decide +kernel))) rfl
theorem wIX3_change : Cond.instanceMethod yX3_change ∈ kw_ws := kw_ws_in (List.mem_append_right _ (List.mem_of_getElem? (i := 313) (by decide +kernel))) rfl
theorem wIX4_answer : Cond.instanceMethod yX4_answer ∈ kw_ws := kw_ws_in (List.mem_append_right _ (List.mem_of_getElem? (i := 317) (by decide +kernel))) rfl
theorem wIX7_at : Cond.instanceMethod yX7_at ∈ kw_ws := kw_ws_in (List.mem_append_right _ (List.mem_of_getElem? (i := 321) (by decide +kernel))) rfl
theorem wIX7_tear : Cond.instanceMethod yX7_tear ∈ kw_ws := kw_ws_in (List.mem_append_right _ (List.mem_of_getElem? (i := 325) (by decide +kernel))) rfl
theorem wIX3_drop : Cond.instanceMethod yX3_drop ∈ kw_ws := kw_ws_in (List.mem_append_right _ (List.mem_of_getElem? (i := 330) (by decide +kernel))) rfl
theorem wIX7_copy : Cond.instanceMethod yX7_copy ∈ kw_ws := kw_ws_in (List.mem_append_right _ (List.mem_of_getElem? (i := 334) (by decide +kernel))) rfl
theorem wIX3_move : Cond.instanceMethod yX3_move ∈ kw_ws := kw_ws_in (List.mem_append_right _ (List.mem_of_getElem? (i := 339) (by decide +kernel))) rfl
theorem wIX7_mean : Cond.instanceMethod yX7_mean ∈ kw_ws := kw_ws_in (List.mem_append_right _ (List.mem_of_getElem? (i := 346) (by decide +kernel))) rfl
theorem wIX7_text : Cond.instanceMethod yX7_text ∈ kw_ws := kw_ws_in (List.mem_append_right _ (List.mem_of_getElem? (i := 351) (by decide +kernel))) rfl
theorem wIX7_put : Cond.instanceMethod yX7_put ∈ kw_ws := kw_ws_in (List.mem_append_right _ (List.mem_of_getElem? (i := 355) (by decide +kernel))) rfl
theorem wIX7_fault : Cond.instanceMethod yX7_fault ∈ kw_ws := kw_ws_in (List.mem_append_right _ (List.mem_of_getElem? (i := 359) (by decide +kernel))) rfl
theorem wIX2_faultOf : Cond.instanceMethod yX2_faultOf ∈ kw_ws := kw_ws_in (List.mem_append_right _ (List.mem_of_getElem? (i := 363) (by decide +kernel))) rfl
theorem wIX2_skipBlanks : Cond.instanceMethod yX2_skipBlanks ∈ kw_ws := kw_ws_in (List.mem_append_right _ (List.mem_of_getElem? (i := 368) (by decide +kernel))) rfl
theorem wIX2_readWinds : Cond.instanceMethod yX2_readWinds ∈ kw_ws := kw_ws_in (List.mem_append_right _ (List.mem_of_getElem? (i := 373) (by decide +kernel))) rfl
theorem wIX2_readLine : Cond.instanceMethod yX2_readLine ∈ kw_ws := kw_ws_in (List.mem_append_right _ (List.mem_of_getElem? (i := 378) (by decide +kernel))) rfl
theorem wIX2_readFigure : Cond.instanceMethod yX2_readFigure ∈ kw_ws := kw_ws_in (List.mem_append_right _ (List.mem_of_getElem? (i := 387) (by decide +kernel))) rfl
theorem wIX7_town : Cond.instanceMethod yX7_town ∈ kw_ws := kw_ws_in (List.mem_append_right _ (List.mem_of_getElem? (i := 390) (by decide +kernel))) rfl
theorem wIX1_copyFrom : Cond.instanceMethod yX1_copyFrom ∈ kw_ws := kw_ws_in (List.mem_append_right _ (List.mem_of_getElem? (i := 394) (by decide +kernel))) rfl
theorem wIX5_replay : Cond.instanceMethod yX5_replay ∈ kw_ws := kw_ws_in (List.mem_append_right _ (List.mem_of_getElem? (i := 399) (by decide +kernel))) rfl
theorem wIX5_act : Cond.instanceMethod yX5_act ∈ kw_ws := kw_ws_in (List.mem_append_right _ (List.mem_of_getElem? (i := 404) (by decide +kernel))) rfl
theorem wIX5_hasRoomFor : Cond.instanceMethod yX5_hasRoomFor ∈ kw_ws := kw_ws_in (List.mem_append_right _ (List.mem_of_getElem? (i := 408) (by decide +kernel))) rfl
theorem wIX5_passHour : Cond.instanceMethod yX5_passHour ∈ kw_ws := kw_ws_in (List.mem_append_right _ (List.mem_of_getElem? (i := 413) (by decide +kernel))) rfl
theorem wIX5_windNow : Cond.instanceMethod yX5_windNow ∈ kw_ws := kw_ws_in (List.mem_append_right _ (List.mem_of_getElem? (i := 416) (by decide +kernel))) rfl
theorem wIX1_windAt : Cond.instanceMethod yX1_windAt ∈ kw_ws := kw_ws_in (List.mem_append_right _ (List.mem_of_getElem? (i := 420) (by decide +kernel))) rfl
theorem wIX1_milesOf : Cond.instanceMethod yX1_milesOf ∈ kw_ws := kw_ws_in (List.mem_append_right _ (List.mem_of_getElem? (i := 424) (by decide +kernel))) rfl
theorem wIX1_pullOf : Cond.instanceMethod yX1_pullOf ∈ kw_ws := kw_ws_in (List.mem_append_right _ (List.mem_of_getElem? (i := 428) (by decide +kernel))) rfl
theorem wIX1_hasLine : Cond.instanceMethod yX1_hasLine ∈ kw_ws := kw_ws_in (List.mem_append_right _ (List.mem_of_getElem? (i := 432) (by decide +kernel))) rfl
theorem wIX1_turnOf : Cond.instanceMethod yX1_turnOf ∈ kw_ws := kw_ws_in (List.mem_append_right _ (List.mem_of_getElem? (i := 439) (by decide +kernel))) rfl
theorem wIX7_line : Cond.instanceMethod yX7_line ∈ kw_ws := kw_ws_in (List.mem_append_right _ (List.mem_of_getElem? (i := 452) (by decide +kernel))) rfl
theorem wIX5_trait : Cond.instanceMethod yX5_trait ∈ kw_ws := kw_ws_in (List.mem_append_right _ (List.mem_of_getElem? (i := 457) (by decide +kernel))) rfl
theorem wIX5_isHung : Cond.instanceMethod yX5_isHung ∈ kw_ws := kw_ws_in (List.mem_append_right _ (List.mem_of_getElem? (i := 462) (by decide +kernel))) rfl
theorem wIX7_mark : Cond.instanceMethod yX7_mark ∈ kw_ws := kw_ws_in (List.mem_append_right _ (List.mem_of_getElem? (i := 467) (by decide +kernel))) rfl
theorem wIX5_hoursToStorm : Cond.instanceMethod yX5_hoursToStorm ∈ kw_ws := kw_ws_in (List.mem_append_right _ (List.mem_of_getElem? (i := 477) (by decide +kernel))) rfl
theorem wIX5_windAhead : Cond.instanceMethod yX5_windAhead ∈ kw_ws := kw_ws_in (List.mem_append_right _ (List.mem_of_getElem? (i := 481) (by decide +kernel))) rfl
theorem wIX1_othersNoWider : Cond.instanceMethod yX1_othersNoWider ∈ kw_ws := kw_ws_in (List.mem_append_right _ (List.mem_of_getElem? (i := 491) (by decide +kernel))) rfl
theorem wIX7_wind : Cond.instanceMethod yX7_wind ∈ kw_ws := kw_ws_in (List.mem_append_right _ (List.mem_of_getElem? (i := 497) (by decide +kernel))) rfl
theorem wIX5_isEmpty : Cond.instanceMethod yX5_isEmpty ∈ kw_ws := kw_ws_in (List.mem_append_right _ (List.mem_of_getElem? (i := 501) (by decide +kernel))) rfl
theorem wIX7_hang : Cond.instanceMethod yX7_hang ∈ kw_ws := kw_ws_in (List.mem_append_right _ (List.mem_of_getElem? (i := 506) (by decide +kernel))) rfl
theorem wIX7_take : Cond.instanceMethod yX7_take ∈ kw_ws := kw_ws_in (List.mem_append_right _ (List.mem_of_getElem? (i := 513) (by decide +kernel))) rfl
theorem wIX7_hour : Cond.instanceMethod yX7_hour ∈ kw_ws := kw_ws_in (List.mem_append_right _ (List.mem_of_getElem? (i := 517) (by decide +kernel))) rfl
theorem wIX4_tellWhole : Cond.instanceMethod yX4_tellWhole ∈ kw_ws := kw_ws_in (List.mem_append_right _ (List.mem_of_getElem? (i := 521) (by decide +kernel))) rfl
theorem wIX7_undo : Cond.instanceMethod yX7_undo ∈ kw_ws := kw_ws_in (List.mem_append_right _ (List.mem_of_getElem? (i := 525) (by decide +kernel))) rfl
theorem wIX7_keep : Cond.instanceMethod yX7_keep ∈ kw_ws := kw_ws_in (List.mem_append_right _ (List.mem_of_getElem? (i := 529) (by decide +kernel))) rfl
theorem wIX7_on : Cond.instanceMethod yX7_on ∈ kw_ws := kw_ws_in (List.mem_append_right _ (List.mem_of_getElem? (i := 533) (by decide +kernel))) rfl
theorem wIX7_goes : Cond.instanceMethod yX7_goes ∈ kw_ws := kw_ws_in (List.mem_append_right _ (List.mem_of_getElem? (i := 537) (by decide +kernel))) rfl
theorem wIX1_hasSet : Cond.instanceMethod yX1_hasSet ∈ kw_ws := kw_ws_in (List.mem_append_right _ (List.mem_of_getElem? (i := 541) (by decide +kernel))) rfl
theorem wIX1_allLines : Cond.instanceMethod yX1_allLines ∈ kw_ws := kw_ws_in (List.mem_append_right _ (List.mem_of_getElem? (i := 545) (by decide +kernel))) rfl
theorem wIX7_even : Cond.instanceMethod yX7_even ∈ kw_ws := kw_ws_in (List.mem_append_right _ (List.mem_of_getElem? (i := 551) (by decide +kernel))) rfl
theorem wIX0_draw : Cond.instanceMethod yX0_draw ∈ kw_ws := kw_ws_in (List.mem_append_right _ (List.mem_of_getElem? (i := 555) (by decide +kernel))) rfl
theorem wIX0_fits : Cond.instanceMethod yX0_fits ∈ kw_ws := kw_ws_in (List.mem_append_right _ (List.mem_of_getElem? (i := 560) (by decide +kernel))) rfl
theorem wIX0_milesOf : Cond.instanceMethod yX0_milesOf ∈ kw_ws := kw_ws_in (List.mem_append_right _ (List.mem_of_getElem? (i := 564) (by decide +kernel))) rfl
theorem wIX0_turnBy : Cond.instanceMethod yX0_turnBy ∈ kw_ws := kw_ws_in (List.mem_append_right _ (List.mem_of_getElem? (i := 568) (by decide +kernel))) rfl
theorem wIX1_linenOf : Cond.instanceMethod yX1_linenOf ∈ kw_ws := kw_ws_in (List.mem_append_right _ (List.mem_of_getElem? (i := 572) (by decide +kernel))) rfl
theorem wIX7_fast : Cond.instanceMethod yX7_fast ∈ kw_ws := kw_ws_in (List.mem_append_right _ (List.mem_of_getElem? (i := 576) (by decide +kernel))) rfl
theorem wIX7_wet : Cond.instanceMethod yX7_wet ∈ kw_ws := kw_ws_in (List.mem_append_right _ (List.mem_of_getElem? (i := 581) (by decide +kernel))) rfl
theorem wIX5_allWet : Cond.instanceMethod yX5_allWet ∈ kw_ws := kw_ws_in (List.mem_append_right _ (List.mem_of_getElem? (i := 585) (by decide +kernel))) rfl
theorem wIX7_drySet : Cond.instanceMethod yX7_drySet ∈ kw_ws := kw_ws_in (List.mem_append_right _ (List.mem_of_getElem? (i := 591) (by decide +kernel))) rfl
theorem wIX7_sail : Cond.instanceMethod yX7_sail ∈ kw_ws := kw_ws_in (List.mem_append_right _ (List.mem_of_getElem? (i := 594) (by decide +kernel))) rfl
theorem wIX7_planRefusal : Cond.instanceMethod yX7_planRefusal ∈ kw_ws := kw_ws_in (List.mem_append_right _ (List.mem_of_getElem? (i := 599) (by decide +kernel))) rfl
theorem wIX7_dry : Cond.instanceMethod yX7_dry ∈ kw_ws := kw_ws_in (List.mem_append_right _ (List.mem_of_getElem? (i := 603) (by decide +kernel))) rfl
theorem wIX7_far : Cond.instanceMethod yX7_far ∈ kw_ws := kw_ws_in (List.mem_append_right _ (List.mem_of_getElem? (i := 609) (by decide +kernel))) rfl
theorem wIX6_find : Cond.instanceMethod yX6_find ∈ kw_ws := kw_ws_in (List.mem_append_right _ (List.mem_of_getElem? (i := 613) (by decide +kernel))) rfl
theorem wIX1_mostMilesOf : Cond.instanceMethod yX1_mostMilesOf ∈ kw_ws := kw_ws_in (List.mem_append_right _ (List.mem_of_getElem? (i := 621) (by decide +kernel))) rfl
theorem wIX6_sailFrom : Cond.instanceMethod yX6_sailFrom ∈ kw_ws := kw_ws_in (List.mem_append_right _ (List.mem_of_getElem? (i := 627) (by decide +kernel))) rfl
theorem wIX7_soon : Cond.instanceMethod yX7_soon ∈ kw_ws := kw_ws_in (List.mem_append_right _ (List.mem_of_getElem? (i := 633) (by decide +kernel))) rfl
theorem wIX7_least : Cond.instanceMethod yX7_least ∈ kw_ws := kw_ws_in (List.mem_append_right _ (List.mem_of_getElem? (i := 638) (by decide +kernel))) rfl
theorem wIX7_mostMilesBehind : Cond.instanceMethod yX7_mostMilesBehind ∈ kw_ws := kw_ws_in (List.mem_append_right _ (List.mem_of_getElem? (i := 643) (by decide +kernel))) rfl
theorem wIX7_ways : Cond.instanceMethod yX7_ways ∈ kw_ws := kw_ws_in (List.mem_append_right _ (List.mem_of_getElem? (i := 646) (by decide +kernel))) rfl
theorem wIX7_kinds : Cond.instanceMethod yX7_kinds ∈ kw_ws := kw_ws_in (List.mem_append_right _ (List.mem_of_getElem? (i := 650) (by decide +kernel))) rfl
theorem wIX7_pairsRefusal : Cond.instanceMethod yX7_pairsRefusal ∈ kw_ws := kw_ws_in (List.mem_append_right _ (List.mem_of_getElem? (i := 655) (by decide +kernel))) rfl
theorem wIX7_pulledSo : Cond.instanceMethod yX7_pulledSo ∈ kw_ws := kw_ws_in (List.mem_append_right _ (List.mem_of_getElem? (i := 659) (by decide +kernel))) rfl
theorem wIX7_areas : Cond.instanceMethod yX7_areas ∈ kw_ws := kw_ws_in (List.mem_append_right _ (List.mem_of_getElem? (i := 662) (by decide +kernel))) rfl
theorem wIX7_rival : Cond.instanceMethod yX7_rival ∈ kw_ws := kw_ws_in (List.mem_append_right _ (List.mem_of_getElem? (i := 666) (by decide +kernel))) rfl
theorem wIX7_mid : Cond.instanceMethod yX7_mid ∈ kw_ws := kw_ws_in (List.mem_append_right _ (List.mem_of_getElem? (i := 673) (by decide +kernel))) rfl
theorem wIX7_foresee : Cond.instanceMethod yX7_foresee ∈ kw_ws := kw_ws_in (List.mem_append_right _ (List.mem_of_getElem? (i := 678) (by decide +kernel))) rfl
theorem wIX4_tellShare : Cond.instanceMethod yX4_tellShare ∈ kw_ws := kw_ws_in (List.mem_append_right _ (List.mem_of_getElem? (i := 682) (by decide +kernel))) rfl
theorem wIX7_odds : Cond.instanceMethod yX7_odds ∈ kw_ws := kw_ws_in (List.mem_append_right _ (List.mem_of_getElem? (i := 692) (by decide +kernel))) rfl
theorem wIX7_milesByGusts : Cond.instanceMethod yX7_milesByGusts ∈ kw_ws := kw_ws_in (List.mem_append_right _ (List.mem_of_getElem? (i := 697) (by decide +kernel))) rfl
theorem wIX7_lots : Cond.instanceMethod yX7_lots ∈ kw_ws := kw_ws_in (List.mem_append_right _ (List.mem_of_getElem? (i := 703) (by decide +kernel))) rfl
theorem wIX7_asked : Cond.instanceMethod yX7_asked ∈ kw_ws := kw_ws_in (List.mem_append_right _ (List.mem_of_getElem? (i := 709) (by decide +kernel))) rfl
theorem wIX7_upper : Cond.instanceMethod yX7_upper ∈ kw_ws := kw_ws_in (List.mem_append_right _ (List.mem_of_getElem? (i := 713) (by decide +kernel))) rfl
theorem wIX7_lower : Cond.instanceMethod yX7_lower ∈ kw_ws := kw_ws_in (List.mem_append_right _ (List.mem_of_getElem? (i := 717) (by decide +kernel))) rfl
theorem wIX7_count : Cond.instanceMethod yX7_count ∈ kw_ws := kw_ws_in (List.mem_append_right _ (List.mem_of_getElem? (i := 721) (by decide +kernel))) rfl
theorem wIX1_howManyAre : Cond.instanceMethod yX1_howManyAre ∈ kw_ws := kw_ws_in (List.mem_append_right _ (List.mem_of_getElem? (i := 725) (by decide +kernel))) rfl
theorem wIX3_howMany : Cond.instanceMethod yX3_howMany ∈ kw_ws := kw_ws_in (List.mem_append_right _ (List.mem_of_getElem? (i := 730) (by decide +kernel))) rfl
theorem wIX7_miles : Cond.instanceMethod yX7_miles ∈ kw_ws := kw_ws_in (List.mem_append_right _ (List.mem_of_getElem? (i := 734) (by decide +kernel))) rfl
theorem wIX7_finding : Cond.instanceMethod yX7_finding ∈ kw_ws := kw_ws_in (List.mem_append_right _ (List.mem_of_getElem? (i := 738) (by decide +kernel))) rfl
theorem wIX7_findings : Cond.instanceMethod yX7_findings ∈ kw_ws := kw_ws_in (List.mem_append_right _ (List.mem_of_getElem? (i := 742) (by decide +kernel))) rfl
theorem wIX7_digest : Cond.instanceMethod yX7_digest ∈ kw_ws := kw_ws_in (List.mem_append_right _ (List.mem_of_getElem? (i := 746) (by decide +kernel))) rfl
theorem wIX3_fold : Cond.instanceMethod yX3_fold ∈ kw_ws := kw_ws_in (List.mem_append_right _ (List.mem_of_getElem? (i := 753) (by decide +kernel))) rfl
theorem wIX8_row : Cond.instanceMethod yX8_row ∈ kw_ws := kw_ws_in (List.mem_append_right _ (List.mem_of_getElem? (i := 876) (by decide +kernel))) rfl
theorem wIX8_meet : Cond.instanceMethod yX8_meet ∈ kw_ws := kw_ws_in (List.mem_append_right _ (List.mem_of_getElem? (i := 887) (by decide +kernel))) rfl
theorem wIX8_setRow : Cond.instanceMethod yX8_setRow ∈ kw_ws := kw_ws_in (List.mem_append_right _ (List.mem_of_getElem? (i := 891) (by decide +kernel))) rfl
theorem wIX8_at : Cond.instanceMethod yX8_at ∈ kw_ws := kw_ws_in (List.mem_append_right _ (List.mem_of_getElem? (i := 894) (by decide +kernel))) rfl
theorem wIX8_askedRow : Cond.instanceMethod yX8_askedRow ∈ kw_ws := kw_ws_in (List.mem_append_right _ (List.mem_of_getElem? (i := 899) (by decide +kernel))) rfl
theorem wIX8_rowAt : Cond.instanceMethod yX8_rowAt ∈ kw_ws := kw_ws_in (List.mem_append_right _ (List.mem_of_getElem? (i := 903) (by decide +kernel))) rfl
theorem wIX8_ask : Cond.instanceMethod yX8_ask ∈ kw_ws := kw_ws_in (List.mem_append_right _ (List.mem_of_getElem? (i := 907) (by decide +kernel))) rfl
theorem wIX8_lay : Cond.instanceMethod yX8_lay ∈ kw_ws := kw_ws_in (List.mem_append_right _ (List.mem_of_getElem? (i := 910) (by decide +kernel))) rfl
theorem wIX8_tear : Cond.instanceMethod yX8_tear ∈ kw_ws := kw_ws_in (List.mem_append_right _ (List.mem_of_getElem? (i := 915) (by decide +kernel))) rfl
theorem wIX8_copy : Cond.instanceMethod yX8_copy ∈ kw_ws := kw_ws_in (List.mem_append_right _ (List.mem_of_getElem? (i := 919) (by decide +kernel))) rfl
theorem wIX8_mean : Cond.instanceMethod yX8_mean ∈ kw_ws := kw_ws_in (List.mem_append_right _ (List.mem_of_getElem? (i := 923) (by decide +kernel))) rfl
theorem wIX8_text : Cond.instanceMethod yX8_text ∈ kw_ws := kw_ws_in (List.mem_append_right _ (List.mem_of_getElem? (i := 927) (by decide +kernel))) rfl
theorem wIX8_put : Cond.instanceMethod yX8_put ∈ kw_ws := kw_ws_in (List.mem_append_right _ (List.mem_of_getElem? (i := 934) (by decide +kernel))) rfl
theorem wIX8_askedText : Cond.instanceMethod yX8_askedText ∈ kw_ws := kw_ws_in (List.mem_append_right _ (List.mem_of_getElem? (i := 939) (by decide +kernel))) rfl
theorem wIX8_fault : Cond.instanceMethod yX8_fault ∈ kw_ws := kw_ws_in (List.mem_append_right _ (List.mem_of_getElem? (i := 942) (by decide +kernel))) rfl
theorem wIX8_goesOn : Cond.instanceMethod yX8_goesOn ∈ kw_ws := kw_ws_in (List.mem_append_right _ (List.mem_of_getElem? (i := 947) (by decide +kernel))) rfl
theorem wIX8_readsTown : Cond.instanceMethod yX8_readsTown ∈ kw_ws := kw_ws_in (List.mem_append_right _ (List.mem_of_getElem? (i := 951) (by decide +kernel))) rfl
theorem wIX8_readsWinds : Cond.instanceMethod yX8_readsWinds ∈ kw_ws := kw_ws_in (List.mem_append_right _ (List.mem_of_getElem? (i := 955) (by decide +kernel))) rfl
theorem wIX8_skip : Cond.instanceMethod yX8_skip ∈ kw_ws := kw_ws_in (List.mem_append_right _ (List.mem_of_getElem? (i := 959) (by decide +kernel))) rfl
theorem wIX8_here : Cond.instanceMethod yX8_here ∈ kw_ws := kw_ws_in (List.mem_append_right _ (List.mem_of_getElem? (i := 963) (by decide +kernel))) rfl
theorem wIX8_readsLine : Cond.instanceMethod yX8_readsLine ∈ kw_ws := kw_ws_in (List.mem_append_right _ (List.mem_of_getElem? (i := 967) (by decide +kernel))) rfl
theorem wIX8_figure : Cond.instanceMethod yX8_figure ∈ kw_ws := kw_ws_in (List.mem_append_right _ (List.mem_of_getElem? (i := 974) (by decide +kernel))) rfl
theorem wIX8_town : Cond.instanceMethod yX8_town ∈ kw_ws := kw_ws_in (List.mem_append_right _ (List.mem_of_getElem? (i := 977) (by decide +kernel))) rfl
theorem wIX8_hang : Cond.instanceMethod yX8_hang ∈ kw_ws := kw_ws_in (List.mem_append_right _ (List.mem_of_getElem? (i := 981) (by decide +kernel))) rfl
theorem wIX8_isLine : Cond.instanceMethod yX8_isLine ∈ kw_ws := kw_ws_in (List.mem_append_right _ (List.mem_of_getElem? (i := 986) (by decide +kernel))) rfl
theorem wIX8_turnLine : Cond.instanceMethod yX8_turnLine ∈ kw_ws := kw_ws_in (List.mem_append_right _ (List.mem_of_getElem? (i := 993) (by decide +kernel))) rfl
theorem wIX8_note : Cond.instanceMethod yX8_note ∈ kw_ws := kw_ws_in (List.mem_append_right _ (List.mem_of_getElem? (i := 997) (by decide +kernel))) rfl
theorem wIX8_write : Cond.instanceMethod yX8_write ∈ kw_ws := kw_ws_in (List.mem_append_right _ (List.mem_of_getElem? (i := 1001) (by decide +kernel))) rfl
theorem wIX8_take : Cond.instanceMethod yX8_take ∈ kw_ws := kw_ws_in (List.mem_append_right _ (List.mem_of_getElem? (i := 1007) (by decide +kernel))) rfl
theorem wIX8_hour : Cond.instanceMethod yX8_hour ∈ kw_ws := kw_ws_in (List.mem_append_right _ (List.mem_of_getElem? (i := 1011) (by decide +kernel))) rfl
theorem wIX8_pass : Cond.instanceMethod yX8_pass ∈ kw_ws := kw_ws_in (List.mem_append_right _ (List.mem_of_getElem? (i := 1016) (by decide +kernel))) rfl
theorem wIX8_windAt : Cond.instanceMethod yX8_windAt ∈ kw_ws := kw_ws_in (List.mem_append_right _ (List.mem_of_getElem? (i := 1020) (by decide +kernel))) rfl
theorem wIX8_milesBy : Cond.instanceMethod yX8_milesBy ∈ kw_ws := kw_ws_in (List.mem_append_right _ (List.mem_of_getElem? (i := 1024) (by decide +kernel))) rfl
theorem wIX8_pullOf : Cond.instanceMethod yX8_pullOf ∈ kw_ws := kw_ws_in (List.mem_append_right _ (List.mem_of_getElem? (i := 1028) (by decide +kernel))) rfl
theorem wIX8_turnBy : Cond.instanceMethod yX8_turnBy ∈ kw_ws := kw_ws_in (List.mem_append_right _ (List.mem_of_getElem? (i := 1035) (by decide +kernel))) rfl
theorem wIX8_wetBehind : Cond.instanceMethod yX8_wetBehind ∈ kw_ws := kw_ws_in (List.mem_append_right _ (List.mem_of_getElem? (i := 1039) (by decide +kernel))) rfl
theorem wIX8_part : Cond.instanceMethod yX8_part ∈ kw_ws := kw_ws_in (List.mem_append_right _ (List.mem_of_getElem? (i := 1043) (by decide +kernel))) rfl
theorem wIX8_undo : Cond.instanceMethod yX8_undo ∈ kw_ws := kw_ws_in (List.mem_append_right _ (List.mem_of_getElem? (i := 1046) (by decide +kernel))) rfl
theorem wIX8_read : Cond.instanceMethod yX8_read ∈ kw_ws := kw_ws_in (List.mem_append_right _ (List.mem_of_getElem? (i := 1051) (by decide +kernel))) rfl
theorem wIX8_keep : Cond.instanceMethod yX8_keep ∈ kw_ws := kw_ws_in (List.mem_append_right _ (List.mem_of_getElem? (i := 1054) (by decide +kernel))) rfl
theorem wIX8_on : Cond.instanceMethod yX8_on ∈ kw_ws := kw_ws_in (List.mem_append_right _ (List.mem_of_getElem? (i := 1058) (by decide +kernel))) rfl
theorem wIX8_line : Cond.instanceMethod yX8_line ∈ kw_ws := kw_ws_in (List.mem_append_right _ (List.mem_of_getElem? (i := 1062) (by decide +kernel))) rfl
theorem wIX8_lineOf : Cond.instanceMethod yX8_lineOf ∈ kw_ws := kw_ws_in (List.mem_append_right _ (List.mem_of_getElem? (i := 1067) (by decide +kernel))) rfl
theorem wIX8_mark : Cond.instanceMethod yX8_mark ∈ kw_ws := kw_ws_in (List.mem_append_right _ (List.mem_of_getElem? (i := 1070) (by decide +kernel))) rfl
theorem wIX8_hoursTill : Cond.instanceMethod yX8_hoursTill ∈ kw_ws := kw_ws_in (List.mem_append_right _ (List.mem_of_getElem? (i := 1078) (by decide +kernel))) rfl
theorem wIX8_lesserOnes : Cond.instanceMethod yX8_lesserOnes ∈ kw_ws := kw_ws_in (List.mem_append_right _ (List.mem_of_getElem? (i := 1082) (by decide +kernel))) rfl
theorem wIX8_wind : Cond.instanceMethod yX8_wind ∈ kw_ws := kw_ws_in (List.mem_append_right _ (List.mem_of_getElem? (i := 1085) (by decide +kernel))) rfl
theorem wIX8_goes : Cond.instanceMethod yX8_goes ∈ kw_ws := kw_ws_in (List.mem_append_right _ (List.mem_of_getElem? (i := 1089) (by decide +kernel))) rfl
theorem wIX8_isSet : Cond.instanceMethod yX8_isSet ∈ kw_ws := kw_ws_in (List.mem_append_right _ (List.mem_of_getElem? (i := 1094) (by decide +kernel))) rfl
theorem wIX8_even : Cond.instanceMethod yX8_even ∈ kw_ws := kw_ws_in (List.mem_append_right _ (List.mem_of_getElem? (i := 1097) (by decide +kernel))) rfl
theorem wIX8_linenOf : Cond.instanceMethod yX8_linenOf ∈ kw_ws := kw_ws_in (List.mem_append_right _ (List.mem_of_getElem? (i := 1102) (by decide +kernel))) rfl
theorem wIX8_fast : Cond.instanceMethod yX8_fast ∈ kw_ws := kw_ws_in (List.mem_append_right _ (List.mem_of_getElem? (i := 1105) (by decide +kernel))) rfl
theorem wIX8_wet : Cond.instanceMethod yX8_wet ∈ kw_ws := kw_ws_in (List.mem_append_right _ (List.mem_of_getElem? (i := 1109) (by decide +kernel))) rfl
theorem wIX8_wetOfAll : Cond.instanceMethod yX8_wetOfAll ∈ kw_ws := kw_ws_in (List.mem_append_right _ (List.mem_of_getElem? (i := 1114) (by decide +kernel))) rfl
theorem wIX8_sail : Cond.instanceMethod yX8_sail ∈ kw_ws := kw_ws_in (List.mem_append_right _ (List.mem_of_getElem? (i := 1117) (by decide +kernel))) rfl
theorem wIX8_askedPlan : Cond.instanceMethod yX8_askedPlan ∈ kw_ws := kw_ws_in (List.mem_append_right _ (List.mem_of_getElem? (i := 1122) (by decide +kernel))) rfl
theorem wIX8_dry : Cond.instanceMethod yX8_dry ∈ kw_ws := kw_ws_in (List.mem_append_right _ (List.mem_of_getElem? (i := 1125) (by decide +kernel))) rfl
theorem wIX8_far : Cond.instanceMethod yX8_far ∈ kw_ws := kw_ws_in (List.mem_append_right _ (List.mem_of_getElem? (i := 1129) (by decide +kernel))) rfl
theorem wIX8_setHours : Cond.instanceMethod yX8_setHours ∈ kw_ws := kw_ws_in (List.mem_append_right _ (List.mem_of_getElem? (i := 1134) (by decide +kernel))) rfl
theorem wIX8_farBy : Cond.instanceMethod yX8_farBy ∈ kw_ws := kw_ws_in (List.mem_append_right _ (List.mem_of_getElem? (i := 1138) (by decide +kernel))) rfl
theorem wIX8_soon : Cond.instanceMethod yX8_soon ∈ kw_ws := kw_ws_in (List.mem_append_right _ (List.mem_of_getElem? (i := 1145) (by decide +kernel))) rfl
theorem wIX8_mostOf : Cond.instanceMethod yX8_mostOf ∈ kw_ws := kw_ws_in (List.mem_append_right _ (List.mem_of_getElem? (i := 1150) (by decide +kernel))) rfl
theorem wIX8_least : Cond.instanceMethod yX8_least ∈ kw_ws := kw_ws_in (List.mem_append_right _ (List.mem_of_getElem? (i := 1156) (by decide +kernel))) rfl
theorem wIX8_ways : Cond.instanceMethod yX8_ways ∈ kw_ws := kw_ws_in (List.mem_append_right _ (List.mem_of_getElem? (i := 1160) (by decide +kernel))) rfl
theorem wIX8_kinds : Cond.instanceMethod yX8_kinds ∈ kw_ws := kw_ws_in (List.mem_append_right _ (List.mem_of_getElem? (i := 1164) (by decide +kernel))) rfl
theorem wIX8_askedPulls : Cond.instanceMethod yX8_askedPulls ∈ kw_ws := kw_ws_in (List.mem_append_right _ (List.mem_of_getElem? (i := 1169) (by decide +kernel))) rfl
theorem wIX8_pullsSo : Cond.instanceMethod yX8_pullsSo ∈ kw_ws := kw_ws_in (List.mem_append_right _ (List.mem_of_getElem? (i := 1173) (by decide +kernel))) rfl
theorem wIX8_areas : Cond.instanceMethod yX8_areas ∈ kw_ws := kw_ws_in (List.mem_append_right _ (List.mem_of_getElem? (i := 1176) (by decide +kernel))) rfl
theorem wIX8_rival : Cond.instanceMethod yX8_rival ∈ kw_ws := kw_ws_in (List.mem_append_right _ (List.mem_of_getElem? (i := 1180) (by decide +kernel))) rfl
theorem wIX8_mid : Cond.instanceMethod yX8_mid ∈ kw_ws := kw_ws_in (List.mem_append_right _ (List.mem_of_getElem? (i := 1184) (by decide +kernel))) rfl
theorem wIX8_gustMiles : Cond.instanceMethod yX8_gustMiles ∈ kw_ws := kw_ws_in (List.mem_append_right _ (List.mem_of_getElem? (i := 1189) (by decide +kernel))) rfl
theorem wIX8_weightOf : Cond.instanceMethod yX8_weightOf ∈ kw_ws := kw_ws_in (List.mem_append_right _ (List.mem_of_getElem? (i := 1193) (by decide +kernel))) rfl
theorem wIX8_odds : Cond.instanceMethod yX8_odds ∈ kw_ws := kw_ws_in (List.mem_append_right _ (List.mem_of_getElem? (i := 1200) (by decide +kernel))) rfl
theorem wIX8_lots : Cond.instanceMethod yX8_lots ∈ kw_ws := kw_ws_in (List.mem_append_right _ (List.mem_of_getElem? (i := 1204) (by decide +kernel))) rfl
theorem wIX8_asked : Cond.instanceMethod yX8_asked ∈ kw_ws := kw_ws_in (List.mem_append_right _ (List.mem_of_getElem? (i := 1211) (by decide +kernel))) rfl
theorem wIX8_upper : Cond.instanceMethod yX8_upper ∈ kw_ws := kw_ws_in (List.mem_append_right _ (List.mem_of_getElem? (i := 1215) (by decide +kernel))) rfl
theorem wIX8_lower : Cond.instanceMethod yX8_lower ∈ kw_ws := kw_ws_in (List.mem_append_right _ (List.mem_of_getElem? (i := 1219) (by decide +kernel))) rfl
theorem wIX8_count : Cond.instanceMethod yX8_count ∈ kw_ws := kw_ws_in (List.mem_append_right _ (List.mem_of_getElem? (i := 1223) (by decide +kernel))) rfl
theorem wIX8_tells : Cond.instanceMethod yX8_tells ∈ kw_ws := kw_ws_in (List.mem_append_right _ (List.mem_of_getElem? (i := 1228) (by decide +kernel))) rfl
theorem wIX8_howMany : Cond.instanceMethod yX8_howMany ∈ kw_ws := kw_ws_in (List.mem_append_right _ (List.mem_of_getElem? (i := 1232) (by decide +kernel))) rfl
theorem wIX8_there : Cond.instanceMethod yX8_there ∈ kw_ws := kw_ws_in (List.mem_append_right _ (List.mem_of_getElem? (i := 1236) (by decide +kernel))) rfl
theorem wIX8_miles : Cond.instanceMethod yX8_miles ∈ kw_ws := kw_ws_in (List.mem_append_right _ (List.mem_of_getElem? (i := 1239) (by decide +kernel))) rfl
theorem wIX8_finding : Cond.instanceMethod yX8_finding ∈ kw_ws := kw_ws_in (List.mem_append_right _ (List.mem_of_getElem? (i := 1243) (by decide +kernel))) rfl
theorem wIX8_findings : Cond.instanceMethod yX8_findings ∈ kw_ws := kw_ws_in (List.mem_append_right _ (List.mem_of_getElem? (i := 1247) (by decide +kernel))) rfl
theorem wIX8_digest : Cond.instanceMethod yX8_digest ∈ kw_ws := kw_ws_in (List.mem_append_right _ (List.mem_of_getElem? (i := 1251) (by decide +kernel))) rfl
theorem wIX8_mix : Cond.instanceMethod yX8_mix ∈ kw_ws := kw_ws_in (List.mem_append_right _ (List.mem_of_getElem? (i := 1257) (by decide +kernel))) rfl
theorem wIX8_mixTown : Cond.instanceMethod yX8_mixTown ∈ kw_ws := kw_ws_in (List.mem_append_right _ (List.mem_of_getElem? (i := 1262) (by decide +kernel))) rfl
theorem wVX7_row : Cond.selects RX7 yX7_row yX7_row ∈ kw_ws := kw_ws_in (List.mem_append_right _ (List.mem_of_getElem? (i := 269) (by decide +kernel))) rfl
theorem wVX3_has : Cond.selects RX3 yX3_has yX3_has ∈ kw_ws := kw_ws_in (List.mem_append_right _ (List.mem_of_getElem? (i := 277) (by decide +kernel))) rfl
theorem wVX4_refuse : Cond.selects RX4 yX4_refuse yX4_refuse ∈ kw_ws := kw_ws_in (List.mem_append_right _ (List.mem_of_getElem? (i := 281) (by decide +kernel))) rfl
theorem wVX3_make : Cond.selects RX3 yX3_make yX3_make ∈ kw_ws := kw_ws_in (List.mem_append_right _ (List.mem_of_getElem? (i := 285) (by decide +kernel))) rfl
theorem wVX7_lay : Cond.selects RX7 yX7_lay yX7_lay ∈ kw_ws := kw_ws_in (List.mem_append_right _ (List.mem_of_getElem? (i := 290) (by decide +kernel))) rfl
theorem wVX3_findingAt : Cond.selects RX3 yX3_findingAt yX3_findingAt ∈ kw_ws := kw_ws_in (List.mem_append_right _ (List.mem_of_getElem? (i := 294) (by decide +kernel))) rfl
theorem wVX3_isMissing : Cond.selects RX3 yX3_isMissing yX3_isMissing ∈ kw_ws := kw_ws_in (List.mem_append_right _ (List.mem_of_getElem? (i := 298) (by decide +kernel))) rfl
theorem wVX3_sizeOf : Cond.selects RX3 yX3_sizeOf yX3_sizeOf ∈ kw_ws := kw_ws_in (List.mem_append_right _ (List.mem_of_getElem? (i := 302) (by decide +kernel))) rfl
theorem wVX3_hasPlaces : Cond.selects RX3 yX3_hasPlaces yX3_hasPlaces ∈ kw_ws := kw_ws_in (List.mem_append_right _ (List.mem_of_getElem? (i := 306) (by decide +kernel))) rfl
theorem wVX3_valueAt : Cond.selects RX3 yX3_valueAt yX3_valueAt ∈ kw_ws := kw_ws_in (List.mem_append_right _ (List.mem_of_getElem? (i := 310) (by decide +kernel))) rfl
theorem wVX3_change : Cond.selects RX3 yX3_change yX3_change ∈ kw_ws := kw_ws_in (List.mem_append_right _ (List.mem_of_getElem? (i := 314) (by decide +kernel))) rfl
theorem wVX4_answer : Cond.selects RX4 yX4_answer yX4_answer ∈ kw_ws := kw_ws_in (List.mem_append_right _ (List.mem_of_getElem? (i := 318) (by decide +kernel))) rfl
theorem wVX7_at : Cond.selects RX7 yX7_at yX7_at ∈ kw_ws := kw_ws_in (List.mem_append_right _ (List.mem_of_getElem? (i := 322) (by decide +kernel))) rfl
theorem wVX7_tear : Cond.selects RX7 yX7_tear yX7_tear ∈ kw_ws := kw_ws_in (List.mem_append_right _ (List.mem_of_getElem? (i := 326) (by decide +kernel))) rfl
theorem wVX3_drop : Cond.selects RX3 yX3_drop yX3_drop ∈ kw_ws := kw_ws_in (List.mem_append_right _ (List.mem_of_getElem? (i := 331) (by decide +kernel))) rfl
theorem wVX7_copy : Cond.selects RX7 yX7_copy yX7_copy ∈ kw_ws := kw_ws_in (List.mem_append_right _ (List.mem_of_getElem? (i := 335) (by decide +kernel))) rfl
theorem wVX3_move : Cond.selects RX3 yX3_move yX3_move ∈ kw_ws := kw_ws_in (List.mem_append_right _ (List.mem_of_getElem? (i := 340) (by decide +kernel))) rfl
theorem wVX7_mean : Cond.selects RX7 yX7_mean yX7_mean ∈ kw_ws := kw_ws_in (List.mem_append_right _ (List.mem_of_getElem? (i := 347) (by decide +kernel))) rfl
theorem wVX7_text : Cond.selects RX7 yX7_text yX7_text ∈ kw_ws := kw_ws_in (List.mem_append_right _ (List.mem_of_getElem? (i := 352) (by decide +kernel))) rfl
theorem wVX7_put : Cond.selects RX7 yX7_put yX7_put ∈ kw_ws := kw_ws_in (List.mem_append_right _ (List.mem_of_getElem? (i := 356) (by decide +kernel))) rfl
theorem wVX7_fault : Cond.selects RX7 yX7_fault yX7_fault ∈ kw_ws := kw_ws_in (List.mem_append_right _ (List.mem_of_getElem? (i := 360) (by decide +kernel))) rfl
theorem wVX2_faultOf : Cond.selects RX2 yX2_faultOf yX2_faultOf ∈ kw_ws := kw_ws_in (List.mem_append_right _ (List.mem_of_getElem? (i := 364) (by decide +kernel))) rfl
theorem wVX7_town : Cond.selects RX7 yX7_town yX7_town ∈ kw_ws := kw_ws_in (List.mem_append_right _ (List.mem_of_getElem? (i := 391) (by decide +kernel))) rfl
theorem wVX1_copyFrom : Cond.selects RX1 yX1_copyFrom yX1_copyFrom ∈ kw_ws := kw_ws_in (List.mem_append_right _ (List.mem_of_getElem? (i := 395) (by decide +kernel))) rfl
theorem wVX5_replay : Cond.selects RX5 yX5_replay yX5_replay ∈ kw_ws := kw_ws_in (List.mem_append_right _ (List.mem_of_getElem? (i := 400) (by decide +kernel))) rfl
theorem wVX5_act : Cond.selects RX5 yX5_act yX5_act ∈ kw_ws := kw_ws_in (List.mem_append_right _ (List.mem_of_getElem? (i := 405) (by decide +kernel))) rfl
theorem wVX5_hasRoomFor : Cond.selects RX5 yX5_hasRoomFor yX5_hasRoomFor ∈ kw_ws := kw_ws_in (List.mem_append_right _ (List.mem_of_getElem? (i := 409) (by decide +kernel))) rfl
theorem wVX5_windNow : Cond.selects RX5 yX5_windNow yX5_windNow ∈ kw_ws := kw_ws_in (List.mem_append_right _ (List.mem_of_getElem? (i := 417) (by decide +kernel))) rfl
theorem wVX1_windAt : Cond.selects RX1 yX1_windAt yX1_windAt ∈ kw_ws := kw_ws_in (List.mem_append_right _ (List.mem_of_getElem? (i := 421) (by decide +kernel))) rfl
theorem wVX1_milesOf : Cond.selects RX1 yX1_milesOf yX1_milesOf ∈ kw_ws := kw_ws_in (List.mem_append_right _ (List.mem_of_getElem? (i := 425) (by decide +kernel))) rfl
theorem wVX1_pullOf : Cond.selects RX1 yX1_pullOf yX1_pullOf ∈ kw_ws := kw_ws_in (List.mem_append_right _ (List.mem_of_getElem? (i := 429) (by decide +kernel))) rfl
theorem wVX1_hasLine : Cond.selects RX1 yX1_hasLine yX1_hasLine ∈ kw_ws := kw_ws_in (List.mem_append_right _ (List.mem_of_getElem? (i := 433) (by decide +kernel))) rfl
theorem wVX1_turnOf : Cond.selects RX1 yX1_turnOf yX1_turnOf ∈ kw_ws := kw_ws_in (List.mem_append_right _ (List.mem_of_getElem? (i := 440) (by decide +kernel))) rfl
theorem wVX7_line : Cond.selects RX7 yX7_line yX7_line ∈ kw_ws := kw_ws_in (List.mem_append_right _ (List.mem_of_getElem? (i := 453) (by decide +kernel))) rfl
theorem wVX5_trait : Cond.selects RX5 yX5_trait yX5_trait ∈ kw_ws := kw_ws_in (List.mem_append_right _ (List.mem_of_getElem? (i := 458) (by decide +kernel))) rfl
theorem wVX5_isHung : Cond.selects RX5 yX5_isHung yX5_isHung ∈ kw_ws := kw_ws_in (List.mem_append_right _ (List.mem_of_getElem? (i := 463) (by decide +kernel))) rfl
theorem wVX7_mark : Cond.selects RX7 yX7_mark yX7_mark ∈ kw_ws := kw_ws_in (List.mem_append_right _ (List.mem_of_getElem? (i := 468) (by decide +kernel))) rfl
theorem wVX5_hoursToStorm : Cond.selects RX5 yX5_hoursToStorm yX5_hoursToStorm ∈ kw_ws := kw_ws_in (List.mem_append_right _ (List.mem_of_getElem? (i := 478) (by decide +kernel))) rfl
theorem wVX5_windAhead : Cond.selects RX5 yX5_windAhead yX5_windAhead ∈ kw_ws := kw_ws_in (List.mem_append_right _ (List.mem_of_getElem? (i := 482) (by decide +kernel))) rfl
theorem wVX1_othersNoWider : Cond.selects RX1 yX1_othersNoWider yX1_othersNoWider ∈ kw_ws := kw_ws_in (List.mem_append_right _ (List.mem_of_getElem? (i := 492) (by decide +kernel))) rfl
theorem wVX7_wind : Cond.selects RX7 yX7_wind yX7_wind ∈ kw_ws := kw_ws_in (List.mem_append_right _ (List.mem_of_getElem? (i := 498) (by decide +kernel))) rfl
theorem wVX5_isEmpty : Cond.selects RX5 yX5_isEmpty yX5_isEmpty ∈ kw_ws := kw_ws_in (List.mem_append_right _ (List.mem_of_getElem? (i := 502) (by decide +kernel))) rfl
theorem wVX7_hang : Cond.selects RX7 yX7_hang yX7_hang ∈ kw_ws := kw_ws_in (List.mem_append_right _ (List.mem_of_getElem? (i := 507) (by decide +kernel))) rfl
theorem wVX7_take : Cond.selects RX7 yX7_take yX7_take ∈ kw_ws := kw_ws_in (List.mem_append_right _ (List.mem_of_getElem? (i := 514) (by decide +kernel))) rfl
theorem wVX7_hour : Cond.selects RX7 yX7_hour yX7_hour ∈ kw_ws := kw_ws_in (List.mem_append_right _ (List.mem_of_getElem? (i := 518) (by decide +kernel))) rfl
theorem wVX4_tellWhole : Cond.selects RX4 yX4_tellWhole yX4_tellWhole ∈ kw_ws := kw_ws_in (List.mem_append_right _ (List.mem_of_getElem? (i := 522) (by decide +kernel))) rfl
theorem wVX7_undo : Cond.selects RX7 yX7_undo yX7_undo ∈ kw_ws := kw_ws_in (List.mem_append_right _ (List.mem_of_getElem? (i := 526) (by decide +kernel))) rfl
theorem wVX7_keep : Cond.selects RX7 yX7_keep yX7_keep ∈ kw_ws := kw_ws_in (List.mem_append_right _ (List.mem_of_getElem? (i := 530) (by decide +kernel))) rfl
theorem wVX7_on : Cond.selects RX7 yX7_on yX7_on ∈ kw_ws := kw_ws_in (List.mem_append_right _ (List.mem_of_getElem? (i := 534) (by decide +kernel))) rfl
theorem wVX7_goes : Cond.selects RX7 yX7_goes yX7_goes ∈ kw_ws := kw_ws_in (List.mem_append_right _ (List.mem_of_getElem? (i := 538) (by decide +kernel))) rfl
theorem wVX1_hasSet : Cond.selects RX1 yX1_hasSet yX1_hasSet ∈ kw_ws := kw_ws_in (List.mem_append_right _ (List.mem_of_getElem? (i := 542) (by decide +kernel))) rfl
theorem wVX1_allLines : Cond.selects RX1 yX1_allLines yX1_allLines ∈ kw_ws := kw_ws_in (List.mem_append_right _ (List.mem_of_getElem? (i := 546) (by decide +kernel))) rfl
theorem wVX7_even : Cond.selects RX7 yX7_even yX7_even ∈ kw_ws := kw_ws_in (List.mem_append_right _ (List.mem_of_getElem? (i := 552) (by decide +kernel))) rfl
theorem wVX0_draw : Cond.selects RX0 yX0_draw yX0_draw ∈ kw_ws := kw_ws_in (List.mem_append_right _ (List.mem_of_getElem? (i := 556) (by decide +kernel))) rfl
theorem wVX0_fits : Cond.selects RX0 yX0_fits yX0_fits ∈ kw_ws := kw_ws_in (List.mem_append_right _ (List.mem_of_getElem? (i := 561) (by decide +kernel))) rfl
theorem wVX0_milesOf : Cond.selects RX0 yX0_milesOf yX0_milesOf ∈ kw_ws := kw_ws_in (List.mem_append_right _ (List.mem_of_getElem? (i := 565) (by decide +kernel))) rfl
theorem wVX0_turnBy : Cond.selects RX0 yX0_turnBy yX0_turnBy ∈ kw_ws := kw_ws_in (List.mem_append_right _ (List.mem_of_getElem? (i := 569) (by decide +kernel))) rfl
theorem wVX1_linenOf : Cond.selects RX1 yX1_linenOf yX1_linenOf ∈ kw_ws := kw_ws_in (List.mem_append_right _ (List.mem_of_getElem? (i := 573) (by decide +kernel))) rfl
theorem wVX7_fast : Cond.selects RX7 yX7_fast yX7_fast ∈ kw_ws := kw_ws_in (List.mem_append_right _ (List.mem_of_getElem? (i := 577) (by decide +kernel))) rfl
theorem wVX7_wet : Cond.selects RX7 yX7_wet yX7_wet ∈ kw_ws := kw_ws_in (List.mem_append_right _ (List.mem_of_getElem? (i := 582) (by decide +kernel))) rfl
theorem wVX5_allWet : Cond.selects RX5 yX5_allWet yX5_allWet ∈ kw_ws := kw_ws_in (List.mem_append_right _ (List.mem_of_getElem? (i := 586) (by decide +kernel))) rfl
theorem wVX7_sail : Cond.selects RX7 yX7_sail yX7_sail ∈ kw_ws := kw_ws_in (List.mem_append_right _ (List.mem_of_getElem? (i := 595) (by decide +kernel))) rfl
theorem wVX7_dry : Cond.selects RX7 yX7_dry yX7_dry ∈ kw_ws := kw_ws_in (List.mem_append_right _ (List.mem_of_getElem? (i := 604) (by decide +kernel))) rfl
theorem wVX7_far : Cond.selects RX7 yX7_far yX7_far ∈ kw_ws := kw_ws_in (List.mem_append_right _ (List.mem_of_getElem? (i := 610) (by decide +kernel))) rfl
theorem wVX6_find : Cond.selects RX6 yX6_find yX6_find ∈ kw_ws := kw_ws_in (List.mem_append_right _ (List.mem_of_getElem? (i := 614) (by decide +kernel))) rfl
theorem wVX1_mostMilesOf : Cond.selects RX1 yX1_mostMilesOf yX1_mostMilesOf ∈ kw_ws := kw_ws_in (List.mem_append_right _ (List.mem_of_getElem? (i := 622) (by decide +kernel))) rfl
theorem wVX7_soon : Cond.selects RX7 yX7_soon yX7_soon ∈ kw_ws := kw_ws_in (List.mem_append_right _ (List.mem_of_getElem? (i := 634) (by decide +kernel))) rfl
theorem wVX7_least : Cond.selects RX7 yX7_least yX7_least ∈ kw_ws := kw_ws_in (List.mem_append_right _ (List.mem_of_getElem? (i := 639) (by decide +kernel))) rfl
theorem wVX7_ways : Cond.selects RX7 yX7_ways yX7_ways ∈ kw_ws := kw_ws_in (List.mem_append_right _ (List.mem_of_getElem? (i := 647) (by decide +kernel))) rfl
theorem wVX7_kinds : Cond.selects RX7 yX7_kinds yX7_kinds ∈ kw_ws := kw_ws_in (List.mem_append_right _ (List.mem_of_getElem? (i := 651) (by decide +kernel))) rfl
theorem wVX7_areas : Cond.selects RX7 yX7_areas yX7_areas ∈ kw_ws := kw_ws_in (List.mem_append_right _ (List.mem_of_getElem? (i := 663) (by decide +kernel))) rfl
theorem wVX7_rival : Cond.selects RX7 yX7_rival yX7_rival ∈ kw_ws := kw_ws_in (List.mem_append_right _ (List.mem_of_getElem? (i := 667) (by decide +kernel))) rfl
theorem wVX7_mid : Cond.selects RX7 yX7_mid yX7_mid ∈ kw_ws := kw_ws_in (List.mem_append_right _ (List.mem_of_getElem? (i := 674) (by decide +kernel))) rfl
theorem wVX4_tellShare : Cond.selects RX4 yX4_tellShare yX4_tellShare ∈ kw_ws := kw_ws_in (List.mem_append_right _ (List.mem_of_getElem? (i := 683) (by decide +kernel))) rfl
theorem wVX7_odds : Cond.selects RX7 yX7_odds yX7_odds ∈ kw_ws := kw_ws_in (List.mem_append_right _ (List.mem_of_getElem? (i := 693) (by decide +kernel))) rfl
theorem wVX7_lots : Cond.selects RX7 yX7_lots yX7_lots ∈ kw_ws := kw_ws_in (List.mem_append_right _ (List.mem_of_getElem? (i := 704) (by decide +kernel))) rfl
theorem wVX7_asked : Cond.selects RX7 yX7_asked yX7_asked ∈ kw_ws := kw_ws_in (List.mem_append_right _ (List.mem_of_getElem? (i := 710) (by decide +kernel))) rfl
theorem wVX7_upper : Cond.selects RX7 yX7_upper yX7_upper ∈ kw_ws := kw_ws_in (List.mem_append_right _ (List.mem_of_getElem? (i := 714) (by decide +kernel))) rfl
theorem wVX7_lower : Cond.selects RX7 yX7_lower yX7_lower ∈ kw_ws := kw_ws_in (List.mem_append_right _ (List.mem_of_getElem? (i := 718) (by decide +kernel))) rfl
theorem wVX7_count : Cond.selects RX7 yX7_count yX7_count ∈ kw_ws := kw_ws_in (List.mem_append_right _ (List.mem_of_getElem? (i := 722) (by decide +kernel))) rfl
theorem wVX1_howManyAre : Cond.selects RX1 yX1_howManyAre yX1_howManyAre ∈ kw_ws := kw_ws_in (List.mem_append_right _ (List.mem_of_getElem? (i := 726) (by decide +kernel))) rfl
theorem wVX3_howMany : Cond.selects RX3 yX3_howMany yX3_howMany ∈ kw_ws := kw_ws_in (List.mem_append_right _ (List.mem_of_getElem? (i := 731) (by decide +kernel))) rfl
theorem wVX7_miles : Cond.selects RX7 yX7_miles yX7_miles ∈ kw_ws := kw_ws_in (List.mem_append_right _ (List.mem_of_getElem? (i := 735) (by decide +kernel))) rfl
theorem wVX7_finding : Cond.selects RX7 yX7_finding yX7_finding ∈ kw_ws := kw_ws_in (List.mem_append_right _ (List.mem_of_getElem? (i := 739) (by decide +kernel))) rfl
theorem wVX7_findings : Cond.selects RX7 yX7_findings yX7_findings ∈ kw_ws := kw_ws_in (List.mem_append_right _ (List.mem_of_getElem? (i := 743) (by decide +kernel))) rfl
theorem wVX7_digest : Cond.selects RX7 yX7_digest yX7_digest ∈ kw_ws := kw_ws_in (List.mem_append_right _ (List.mem_of_getElem? (i := 747) (by decide +kernel))) rfl
theorem wVX3_fold : Cond.selects RX3 yX3_fold yX3_fold ∈ kw_ws := kw_ws_in (List.mem_append_right _ (List.mem_of_getElem? (i := 754) (by decide +kernel))) rfl
theorem wVX8_row : Cond.selects RX8 yX8_row yX8_row ∈ kw_ws := kw_ws_in (List.mem_append_right _ (List.mem_of_getElem? (i := 877) (by decide +kernel))) rfl
theorem wVX8_at : Cond.selects RX8 yX8_at yX8_at ∈ kw_ws := kw_ws_in (List.mem_append_right _ (List.mem_of_getElem? (i := 895) (by decide +kernel))) rfl
theorem wVX8_lay : Cond.selects RX8 yX8_lay yX8_lay ∈ kw_ws := kw_ws_in (List.mem_append_right _ (List.mem_of_getElem? (i := 911) (by decide +kernel))) rfl
theorem wVX8_tear : Cond.selects RX8 yX8_tear yX8_tear ∈ kw_ws := kw_ws_in (List.mem_append_right _ (List.mem_of_getElem? (i := 916) (by decide +kernel))) rfl
theorem wVX8_copy : Cond.selects RX8 yX8_copy yX8_copy ∈ kw_ws := kw_ws_in (List.mem_append_right _ (List.mem_of_getElem? (i := 920) (by decide +kernel))) rfl
theorem wVX8_mean : Cond.selects RX8 yX8_mean yX8_mean ∈ kw_ws := kw_ws_in (List.mem_append_right _ (List.mem_of_getElem? (i := 924) (by decide +kernel))) rfl
theorem wVX8_text : Cond.selects RX8 yX8_text yX8_text ∈ kw_ws := kw_ws_in (List.mem_append_right _ (List.mem_of_getElem? (i := 928) (by decide +kernel))) rfl
theorem wVX8_put : Cond.selects RX8 yX8_put yX8_put ∈ kw_ws := kw_ws_in (List.mem_append_right _ (List.mem_of_getElem? (i := 935) (by decide +kernel))) rfl
theorem wVX8_fault : Cond.selects RX8 yX8_fault yX8_fault ∈ kw_ws := kw_ws_in (List.mem_append_right _ (List.mem_of_getElem? (i := 943) (by decide +kernel))) rfl
theorem wVX8_town : Cond.selects RX8 yX8_town yX8_town ∈ kw_ws := kw_ws_in (List.mem_append_right _ (List.mem_of_getElem? (i := 978) (by decide +kernel))) rfl
theorem wVX8_hang : Cond.selects RX8 yX8_hang yX8_hang ∈ kw_ws := kw_ws_in (List.mem_append_right _ (List.mem_of_getElem? (i := 982) (by decide +kernel))) rfl
theorem wVX8_take : Cond.selects RX8 yX8_take yX8_take ∈ kw_ws := kw_ws_in (List.mem_append_right _ (List.mem_of_getElem? (i := 1008) (by decide +kernel))) rfl
theorem wVX8_hour : Cond.selects RX8 yX8_hour yX8_hour ∈ kw_ws := kw_ws_in (List.mem_append_right _ (List.mem_of_getElem? (i := 1012) (by decide +kernel))) rfl
theorem wVX8_undo : Cond.selects RX8 yX8_undo yX8_undo ∈ kw_ws := kw_ws_in (List.mem_append_right _ (List.mem_of_getElem? (i := 1047) (by decide +kernel))) rfl
theorem wVX8_keep : Cond.selects RX8 yX8_keep yX8_keep ∈ kw_ws := kw_ws_in (List.mem_append_right _ (List.mem_of_getElem? (i := 1055) (by decide +kernel))) rfl
theorem wVX8_on : Cond.selects RX8 yX8_on yX8_on ∈ kw_ws := kw_ws_in (List.mem_append_right _ (List.mem_of_getElem? (i := 1059) (by decide +kernel))) rfl
theorem wVX8_line : Cond.selects RX8 yX8_line yX8_line ∈ kw_ws := kw_ws_in (List.mem_append_right _ (List.mem_of_getElem? (i := 1063) (by decide +kernel))) rfl
theorem wVX8_mark : Cond.selects RX8 yX8_mark yX8_mark ∈ kw_ws := kw_ws_in (List.mem_append_right _ (List.mem_of_getElem? (i := 1071) (by decide +kernel))) rfl
theorem wVX8_wind : Cond.selects RX8 yX8_wind yX8_wind ∈ kw_ws := kw_ws_in (List.mem_append_right _ (List.mem_of_getElem? (i := 1086) (by decide +kernel))) rfl
theorem wVX8_goes : Cond.selects RX8 yX8_goes yX8_goes ∈ kw_ws := kw_ws_in (List.mem_append_right _ (List.mem_of_getElem? (i := 1090) (by decide +kernel))) rfl
theorem wVX8_even : Cond.selects RX8 yX8_even yX8_even ∈ kw_ws := kw_ws_in (List.mem_append_right _ (List.mem_of_getElem? (i := 1098) (by decide +kernel))) rfl
theorem wVX8_fast : Cond.selects RX8 yX8_fast yX8_fast ∈ kw_ws := kw_ws_in (List.mem_append_right _ (List.mem_of_getElem? (i := 1106) (by decide +kernel))) rfl
theorem wVX8_wet : Cond.selects RX8 yX8_wet yX8_wet ∈ kw_ws := kw_ws_in (List.mem_append_right _ (List.mem_of_getElem? (i := 1110) (by decide +kernel))) rfl
theorem wVX8_sail : Cond.selects RX8 yX8_sail yX8_sail ∈ kw_ws := kw_ws_in (List.mem_append_right _ (List.mem_of_getElem? (i := 1118) (by decide +kernel))) rfl
theorem wVX8_dry : Cond.selects RX8 yX8_dry yX8_dry ∈ kw_ws := kw_ws_in (List.mem_append_right _ (List.mem_of_getElem? (i := 1126) (by decide +kernel))) rfl
theorem wVX8_far : Cond.selects RX8 yX8_far yX8_far ∈ kw_ws := kw_ws_in (List.mem_append_right _ (List.mem_of_getElem? (i := 1130) (by decide +kernel))) rfl
theorem wVX8_soon : Cond.selects RX8 yX8_soon yX8_soon ∈ kw_ws := kw_ws_in (List.mem_append_right _ (List.mem_of_getElem? (i := 1146) (by decide +kernel))) rfl
theorem wVX8_least : Cond.selects RX8 yX8_least yX8_least ∈ kw_ws := kw_ws_in (List.mem_append_right _ (List.mem_of_getElem? (i := 1157) (by decide +kernel))) rfl
theorem wVX8_ways : Cond.selects RX8 yX8_ways yX8_ways ∈ kw_ws := kw_ws_in (List.mem_append_right _ (List.mem_of_getElem? (i := 1161) (by decide +kernel))) rfl
theorem wVX8_kinds : Cond.selects RX8 yX8_kinds yX8_kinds ∈ kw_ws := kw_ws_in (List.mem_append_right _ (List.mem_of_getElem? (i := 1165) (by decide +kernel))) rfl
theorem wVX8_areas : Cond.selects RX8 yX8_areas yX8_areas ∈ kw_ws := kw_ws_in (List.mem_append_right _ (List.mem_of_getElem? (i := 1177) (by decide +kernel))) rfl
theorem wVX8_rival : Cond.selects RX8 yX8_rival yX8_rival ∈ kw_ws := kw_ws_in (List.mem_append_right _ (List.mem_of_getElem? (i := 1181) (by decide +kernel))) rfl
theorem wVX8_mid : Cond.selects RX8 yX8_mid yX8_mid ∈ kw_ws := kw_ws_in (List.mem_append_right _ (List.mem_of_getElem? (i := 1185) (by decide +kernel))) rfl
theorem wVX8_odds : Cond.selects RX8 yX8_odds yX8_odds ∈ kw_ws := kw_ws_in (List.mem_append_right _ (List.mem_of_getElem? (i := 1201) (by decide +kernel))) rfl
theorem wVX8_lots : Cond.selects RX8 yX8_lots yX8_lots ∈ kw_ws := kw_ws_in (List.mem_append_right _ (List.mem_of_getElem? (i := 1205) (by decide +kernel))) rfl
theorem wVX8_asked : Cond.selects RX8 yX8_asked yX8_asked ∈ kw_ws := kw_ws_in (List.mem_append_right _ (List.mem_of_getElem? (i := 1212) (by decide +kernel))) rfl
theorem wVX8_upper : Cond.selects RX8 yX8_upper yX8_upper ∈ kw_ws := kw_ws_in (List.mem_append_right _ (List.mem_of_getElem? (i := 1216) (by decide +kernel))) rfl
theorem wVX8_lower : Cond.selects RX8 yX8_lower yX8_lower ∈ kw_ws := kw_ws_in (List.mem_append_right _ (List.mem_of_getElem? (i := 1220) (by decide +kernel))) rfl
theorem wVX8_count : Cond.selects RX8 yX8_count yX8_count ∈ kw_ws := kw_ws_in (List.mem_append_right _ (List.mem_of_getElem? (i := 1224) (by decide +kernel))) rfl
theorem wVX8_miles : Cond.selects RX8 yX8_miles yX8_miles ∈ kw_ws := kw_ws_in (List.mem_append_right _ (List.mem_of_getElem? (i := 1240) (by decide +kernel))) rfl
theorem wVX8_finding : Cond.selects RX8 yX8_finding yX8_finding ∈ kw_ws := kw_ws_in (List.mem_append_right _ (List.mem_of_getElem? (i := 1244) (by decide +kernel))) rfl
theorem wVX8_findings : Cond.selects RX8 yX8_findings yX8_findings ∈ kw_ws := kw_ws_in (List.mem_append_right _ (List.mem_of_getElem? (i := 1248) (by decide +kernel))) rfl
theorem wVX8_digest : Cond.selects RX8 yX8_digest yX8_digest ∈ kw_ws := kw_ws_in (List.mem_append_right _ (List.mem_of_getElem? (i := 1252) (by decide +kernel))) rfl
theorem wTJ7_fill_53178 : Cond.static yJ7_fill_53178 ∈ kw_ws := kw_ws_in (List.mem_append_right _ (List.mem_of_getElem? (i := 31) (by decide +kernel))) rfl
theorem wTX2_kindOf : Cond.static yX2_kindOf ∈ kw_ws := kw_ws_in (List.mem_append_right _ (List.mem_of_getElem? (i := 381) (by decide +kernel))) rfl
theorem wTX7_pull : Cond.static yX7_pull ∈ kw_ws := kw_ws_in (List.mem_append_right _ (List.mem_of_getElem? (i := 436) (by decide +kernel))) rfl
theorem wTX7_weather : Cond.static yX7_weather ∈ kw_ws := kw_ws_in (List.mem_append_right _ (List.mem_of_getElem? (i := 443) (by decide +kernel))) rfl
theorem wTJ9_max_7cf53 : Cond.static yJ9_max_7cf53 ∈ kw_ws := kw_ws_in (List.mem_append_right _ (List.mem_of_getElem? (i := 446) (by decide +kernel))) rfl
theorem wTJ9_min_7cf53 : Cond.static yJ9_min_7cf53 ∈ kw_ws := kw_ws_in (List.mem_append_right _ (List.mem_of_getElem? (i := 449) (by decide +kernel))) rfl
theorem wTX7_isA : Cond.static yX7_isA ∈ kw_ws := kw_ws_in (List.mem_append_right _ (List.mem_of_getElem? (i := 471) (by decide +kernel))) rfl
theorem wTJ6_bitCount_0f7a4 : Cond.static yJ6_bitCount_0f7a4 ∈ kw_ws := kw_ws_in (List.mem_append_right _ (List.mem_of_getElem? (i := 485) (by decide +kernel))) rfl
theorem wTX7_play : Cond.static yX7_play ∈ kw_ws := kw_ws_in (List.mem_append_right _ (List.mem_of_getElem? (i := 670) (by decide +kernel))) rfl
theorem wTJ9_abs_067f4 : Cond.static yJ9_abs_067f4 ∈ kw_ws := kw_ws_in (List.mem_append_right _ (List.mem_of_getElem? (i := 686) (by decide +kernel))) rfl
theorem wTX4_commonDivisor : Cond.static yX4_commonDivisor ∈ kw_ws := kw_ws_in (List.mem_append_right _ (List.mem_of_getElem? (i := 689) (by decide +kernel))) rfl
theorem wTX7_weightOfGusts : Cond.static yX7_weightOfGusts ∈ kw_ws := kw_ws_in (List.mem_append_right _ (List.mem_of_getElem? (i := 700) (by decide +kernel))) rfl
theorem wTX8_isRow : Cond.static yX8_isRow ∈ kw_ws := kw_ws_in (List.mem_append_right _ (List.mem_of_getElem? (i := 880) (by decide +kernel))) rfl
theorem wTX8_in : Cond.static yX8_in ∈ kw_ws := kw_ws_in (List.mem_append_right _ (List.mem_of_getElem? (i := 883) (by decide +kernel))) rfl
theorem wTX8_isText : Cond.static yX8_isText ∈ kw_ws := kw_ws_in (List.mem_append_right _ (List.mem_of_getElem? (i := 931) (by decide +kernel))) rfl
theorem wTX8_kindBy : Cond.static yX8_kindBy ∈ kw_ws := kw_ws_in (List.mem_append_right _ (List.mem_of_getElem? (i := 970) (by decide +kernel))) rfl
theorem wTX8_has : Cond.static yX8_has ∈ kw_ws := kw_ws_in (List.mem_append_right _ (List.mem_of_getElem? (i := 989) (by decide +kernel))) rfl
theorem wTX8_bits : Cond.static yX8_bits ∈ kw_ws := kw_ws_in (List.mem_append_right _ (List.mem_of_getElem? (i := 1004) (by decide +kernel))) rfl
theorem wTX8_pullBy : Cond.static yX8_pullBy ∈ kw_ws := kw_ws_in (List.mem_append_right _ (List.mem_of_getElem? (i := 1031) (by decide +kernel))) rfl
theorem wTX8_isA : Cond.static yX8_isA ∈ kw_ws := kw_ws_in (List.mem_append_right _ (List.mem_of_getElem? (i := 1074) (by decide +kernel))) rfl
theorem wTX8_isTurn : Cond.static yX8_isTurn ∈ kw_ws := kw_ws_in (List.mem_append_right _ (List.mem_of_getElem? (i := 1142) (by decide +kernel))) rfl
theorem wTX8_greater : Cond.static yX8_greater ∈ kw_ws := kw_ws_in (List.mem_append_right _ (List.mem_of_getElem? (i := 1153) (by decide +kernel))) rfl
theorem wTX8_power : Cond.static yX8_power ∈ kw_ws := kw_ws_in (List.mem_append_right _ (List.mem_of_getElem? (i := 1196) (by decide +kernel))) rfl
theorem wNL : Cond.initialized RL ∈ kw_ws := kw_ws_in (List.mem_append_right _ (List.mem_of_getElem? (i := 0) (by decide +kernel))) rfl
theorem wNX7 : Cond.initialized RX7 ∈ kw_ws := kw_ws_in (List.mem_append_right _ (List.mem_of_getElem? (i := 1) (by decide +kernel))) rfl
theorem wNX3 : Cond.initialized RX3 ∈ kw_ws := kw_ws_in (List.mem_append_right _ (List.mem_of_getElem? (i := 2) (by decide +kernel))) rfl
theorem wNJ7 : Cond.initialized RJ7 ∈ kw_ws := kw_ws_in (List.mem_append_right _ (List.mem_of_getElem? (i := 3) (by decide +kernel))) rfl
theorem wNX2 : Cond.initialized RX2 ∈ kw_ws := kw_ws_in (List.mem_append_right _ (List.mem_of_getElem? (i := 4) (by decide +kernel))) rfl
theorem wNX1 : Cond.initialized RX1 ∈ kw_ws := kw_ws_in (List.mem_append_right _ (List.mem_of_getElem? (i := 5) (by decide +kernel))) rfl
theorem wNX5 : Cond.initialized RX5 ∈ kw_ws := kw_ws_in (List.mem_append_right _ (List.mem_of_getElem? (i := 6) (by decide +kernel))) rfl
theorem wNX0 : Cond.initialized RX0 ∈ kw_ws := kw_ws_in (List.mem_append_right _ (List.mem_of_getElem? (i := 7) (by decide +kernel))) rfl
theorem wNX6 : Cond.initialized RX6 ∈ kw_ws := kw_ws_in (List.mem_append_right _ (List.mem_of_getElem? (i := 8) (by decide +kernel))) rfl
theorem wNX4 : Cond.initialized RX4 ∈ kw_ws := kw_ws_in (List.mem_append_right _ (List.mem_of_getElem? (i := 9) (by decide +kernel))) rfl
theorem wNX8 : Cond.initialized RX8 ∈ kw_ws := kw_ws_in (List.mem_append_right _ (List.mem_of_getElem? (i := 10) (by decide +kernel))) rfl
theorem wNJ10 : Cond.initialized RJ10 ∈ kw_ws := kw_ws_in (List.mem_append_right _ (List.mem_of_getElem? (i := 11) (by decide +kernel))) rfl
theorem wNJ9 : Cond.initialized RJ9 ∈ kw_ws := kw_ws_in (List.mem_append_right _ (List.mem_of_getElem? (i := 12) (by decide +kernel))) rfl
theorem wNJ6 : Cond.initialized RJ6 ∈ kw_ws := kw_ws_in (List.mem_append_right _ (List.mem_of_getElem? (i := 13) (by decide +kernel))) rfl
theorem wCJ7_fill_53178 : Cond.code yJ7_fill_53178 cJ7_fill_53178 4 none ∈ kw_ws := kw_ws_in (List.mem_append_right _ (List.mem_of_getElem? (i := 32) (by decide +kernel))) rfl
theorem wCX7_row : Cond.code yX7_row cX7_row 3 (some .int) ∈ kw_ws := kw_ws_in (List.mem_append_right _ (List.mem_of_getElem? (i := 270) (by decide +kernel))) rfl
theorem wCX7_makeOn : Cond.code yX7_makeOn cX7_makeOn 5 (some .int) ∈ kw_ws := kw_ws_in (List.mem_append_right _ (List.mem_of_getElem? (i := 274) (by decide +kernel))) rfl
theorem wCX3_has : Cond.code yX3_has cX3_has 2 (some .boolean) ∈ kw_ws := kw_ws_in (List.mem_append_right _ (List.mem_of_getElem? (i := 278) (by decide +kernel))) rfl
theorem wCX4_refuse : Cond.code yX4_refuse cX4_refuse 2 (some .int) ∈ kw_ws := kw_ws_in (List.mem_append_right _ (List.mem_of_getElem? (i := 282) (by decide +kernel))) rfl
theorem wCX3_make : Cond.code yX3_make cX3_make 4 none ∈ kw_ws := kw_ws_in (List.mem_append_right _ (List.mem_of_getElem? (i := 286) (by decide +kernel))) rfl
theorem wCX7_lay : Cond.code yX7_lay cX7_lay 6 (some .int) ∈ kw_ws := kw_ws_in (List.mem_append_right _ (List.mem_of_getElem? (i := 291) (by decide +kernel))) rfl
theorem wCX3_findingAt : Cond.code yX3_findingAt cX3_findingAt 3 (some .int) ∈ kw_ws := kw_ws_in (List.mem_append_right _ (List.mem_of_getElem? (i := 295) (by decide +kernel))) rfl
theorem wCX3_isMissing : Cond.code yX3_isMissing cX3_isMissing 2 (some .boolean) ∈ kw_ws := kw_ws_in (List.mem_append_right _ (List.mem_of_getElem? (i := 299) (by decide +kernel))) rfl
theorem wCX3_sizeOf : Cond.code yX3_sizeOf cX3_sizeOf 2 (some .int) ∈ kw_ws := kw_ws_in (List.mem_append_right _ (List.mem_of_getElem? (i := 303) (by decide +kernel))) rfl
theorem wCX3_hasPlaces : Cond.code yX3_hasPlaces cX3_hasPlaces 4 (some .boolean) ∈ kw_ws := kw_ws_in (List.mem_append_right _ (List.mem_of_getElem? (i := 307) (by decide +kernel))) rfl
theorem wCX3_valueAt : Cond.code yX3_valueAt cX3_valueAt 3 (some .int) ∈ kw_ws := kw_ws_in (List.mem_append_right _ (List.mem_of_getElem? (i := 311) (by decide +kernel))) rfl
theorem wCX3_change : Cond.code yX3_change cX3_change 4 none ∈ kw_ws := kw_ws_in (List.mem_append_right _ (List.mem_of_getElem? (i := 315) (by decide +kernel))) rfl
theorem wCX4_answer : Cond.code yX4_answer cX4_answer 2 (some .int) ∈ kw_ws := kw_ws_in (List.mem_append_right _ (List.mem_of_getElem? (i := 319) (by decide +kernel))) rfl
theorem wCX7_at : Cond.code yX7_at cX7_at 4 (some .int) ∈ kw_ws := kw_ws_in (List.mem_append_right _ (List.mem_of_getElem? (i := 323) (by decide +kernel))) rfl
theorem wCX7_tear : Cond.code yX7_tear cX7_tear 2 (some .int) ∈ kw_ws := kw_ws_in (List.mem_append_right _ (List.mem_of_getElem? (i := 327) (by decide +kernel))) rfl
theorem wCX3_drop : Cond.code yX3_drop cX3_drop 2 none ∈ kw_ws := kw_ws_in (List.mem_append_right _ (List.mem_of_getElem? (i := 332) (by decide +kernel))) rfl
theorem wCX7_copy : Cond.code yX7_copy cX7_copy 6 (some .int) ∈ kw_ws := kw_ws_in (List.mem_append_right _ (List.mem_of_getElem? (i := 336) (by decide +kernel))) rfl
theorem wCX3_move : Cond.code yX3_move cX3_move 6 none ∈ kw_ws := kw_ws_in (List.mem_append_right _ (List.mem_of_getElem? (i := 341) (by decide +kernel))) rfl
theorem wCX7_mean : Cond.code yX7_mean cX7_mean 6 (some .int) ∈ kw_ws := kw_ws_in (List.mem_append_right _ (List.mem_of_getElem? (i := 348) (by decide +kernel))) rfl
theorem wCX7_text : Cond.code yX7_text cX7_text 3 (some .int) ∈ kw_ws := kw_ws_in (List.mem_append_right _ (List.mem_of_getElem? (i := 353) (by decide +kernel))) rfl
theorem wCX7_put : Cond.code yX7_put cX7_put 6 (some .int) ∈ kw_ws := kw_ws_in (List.mem_append_right _ (List.mem_of_getElem? (i := 357) (by decide +kernel))) rfl
theorem wCX7_fault : Cond.code yX7_fault cX7_fault 2 (some .int) ∈ kw_ws := kw_ws_in (List.mem_append_right _ (List.mem_of_getElem? (i := 361) (by decide +kernel))) rfl
theorem wCX2_faultOf : Cond.code yX2_faultOf cX2_faultOf 4 (some .int) ∈ kw_ws := kw_ws_in (List.mem_append_right _ (List.mem_of_getElem? (i := 365) (by decide +kernel))) rfl
theorem wCX2_skipBlanks : Cond.code yX2_skipBlanks cX2_skipBlanks 4 none ∈ kw_ws := kw_ws_in (List.mem_append_right _ (List.mem_of_getElem? (i := 369) (by decide +kernel))) rfl
theorem wCX2_readWinds : Cond.code yX2_readWinds cX2_readWinds 5 none ∈ kw_ws := kw_ws_in (List.mem_append_right _ (List.mem_of_getElem? (i := 374) (by decide +kernel))) rfl
theorem wCX2_readLine : Cond.code yX2_readLine cX2_readLine 5 (some .boolean) ∈ kw_ws := kw_ws_in (List.mem_append_right _ (List.mem_of_getElem? (i := 379) (by decide +kernel))) rfl
theorem wCX2_kindOf : Cond.code yX2_kindOf cX2_kindOf 2 (some .int) ∈ kw_ws := kw_ws_in (List.mem_append_right _ (List.mem_of_getElem? (i := 382) (by decide +kernel))) rfl
theorem wCX2_readFigure : Cond.code yX2_readFigure cX2_readFigure 6 (some .int) ∈ kw_ws := kw_ws_in (List.mem_append_right _ (List.mem_of_getElem? (i := 388) (by decide +kernel))) rfl
theorem wCX7_town : Cond.code yX7_town cX7_town 3 (some .int) ∈ kw_ws := kw_ws_in (List.mem_append_right _ (List.mem_of_getElem? (i := 392) (by decide +kernel))) rfl
theorem wCX1_copyFrom : Cond.code yX1_copyFrom cX1_copyFrom 2 none ∈ kw_ws := kw_ws_in (List.mem_append_right _ (List.mem_of_getElem? (i := 396) (by decide +kernel))) rfl
theorem wCX5_replay : Cond.code yX5_replay cX5_replay 3 none ∈ kw_ws := kw_ws_in (List.mem_append_right _ (List.mem_of_getElem? (i := 401) (by decide +kernel))) rfl
theorem wCX5_act : Cond.code yX5_act cX5_act 2 none ∈ kw_ws := kw_ws_in (List.mem_append_right _ (List.mem_of_getElem? (i := 406) (by decide +kernel))) rfl
theorem wCX5_hasRoomFor : Cond.code yX5_hasRoomFor cX5_hasRoomFor 2 (some .boolean) ∈ kw_ws := kw_ws_in (List.mem_append_right _ (List.mem_of_getElem? (i := 410) (by decide +kernel))) rfl
theorem wCX5_passHour : Cond.code yX5_passHour cX5_passHour 2 none ∈ kw_ws := kw_ws_in (List.mem_append_right _ (List.mem_of_getElem? (i := 414) (by decide +kernel))) rfl
theorem wCX5_windNow : Cond.code yX5_windNow cX5_windNow 1 (some .int) ∈ kw_ws := kw_ws_in (List.mem_append_right _ (List.mem_of_getElem? (i := 418) (by decide +kernel))) rfl
theorem wCX1_windAt : Cond.code yX1_windAt cX1_windAt 2 (some .int) ∈ kw_ws := kw_ws_in (List.mem_append_right _ (List.mem_of_getElem? (i := 422) (by decide +kernel))) rfl
theorem wCX1_milesOf : Cond.code yX1_milesOf cX1_milesOf 5 (some .int) ∈ kw_ws := kw_ws_in (List.mem_append_right _ (List.mem_of_getElem? (i := 426) (by decide +kernel))) rfl
theorem wCX1_pullOf : Cond.code yX1_pullOf cX1_pullOf 3 (some .int) ∈ kw_ws := kw_ws_in (List.mem_append_right _ (List.mem_of_getElem? (i := 430) (by decide +kernel))) rfl
theorem wCX1_hasLine : Cond.code yX1_hasLine cX1_hasLine 2 (some .boolean) ∈ kw_ws := kw_ws_in (List.mem_append_right _ (List.mem_of_getElem? (i := 434) (by decide +kernel))) rfl
theorem wCX7_pull : Cond.code yX7_pull cX7_pull 5 (some .int) ∈ kw_ws := kw_ws_in (List.mem_append_right _ (List.mem_of_getElem? (i := 437) (by decide +kernel))) rfl
theorem wCX1_turnOf : Cond.code yX1_turnOf cX1_turnOf 5 (some .int) ∈ kw_ws := kw_ws_in (List.mem_append_right _ (List.mem_of_getElem? (i := 441) (by decide +kernel))) rfl
theorem wCX7_weather : Cond.code yX7_weather cX7_weather 4 none ∈ kw_ws := kw_ws_in (List.mem_append_right _ (List.mem_of_getElem? (i := 444) (by decide +kernel))) rfl
theorem wCJ9_max_7cf53 : Cond.code yJ9_max_7cf53 cJ9_max_7cf53 2 (some .int) ∈ kw_ws := kw_ws_in (List.mem_append_right _ (List.mem_of_getElem? (i := 447) (by decide +kernel))) rfl
theorem wCJ9_min_7cf53 : Cond.code yJ9_min_7cf53 cJ9_min_7cf53 2 (some .int) ∈ kw_ws := kw_ws_in (List.mem_append_right _ (List.mem_of_getElem? (i := 450) (by decide +kernel))) rfl
theorem wCX7_line : Cond.code yX7_line cX7_line 3 (some .int) ∈ kw_ws := kw_ws_in (List.mem_append_right _ (List.mem_of_getElem? (i := 454) (by decide +kernel))) rfl
theorem wCX5_trait : Cond.code yX5_trait cX5_trait 3 (some .int) ∈ kw_ws := kw_ws_in (List.mem_append_right _ (List.mem_of_getElem? (i := 459) (by decide +kernel))) rfl
theorem wCX5_isHung : Cond.code yX5_isHung cX5_isHung 2 (some .boolean) ∈ kw_ws := kw_ws_in (List.mem_append_right _ (List.mem_of_getElem? (i := 464) (by decide +kernel))) rfl
theorem wCX7_mark : Cond.code yX7_mark cX7_mark 4 (some .int) ∈ kw_ws := kw_ws_in (List.mem_append_right _ (List.mem_of_getElem? (i := 469) (by decide +kernel))) rfl
theorem wCX7_isA : Cond.code yX7_isA cX7_isA 4 (some .boolean) ∈ kw_ws := kw_ws_in (List.mem_append_right _ (List.mem_of_getElem? (i := 472) (by decide +kernel))) rfl
theorem wCX5_hoursToStorm : Cond.code yX5_hoursToStorm cX5_hoursToStorm 2 (some .int) ∈ kw_ws := kw_ws_in (List.mem_append_right _ (List.mem_of_getElem? (i := 479) (by decide +kernel))) rfl
theorem wCX5_windAhead : Cond.code yX5_windAhead cX5_windAhead 2 (some .int) ∈ kw_ws := kw_ws_in (List.mem_append_right _ (List.mem_of_getElem? (i := 483) (by decide +kernel))) rfl
theorem wCJ6_bitCount_0f7a4 : Cond.code yJ6_bitCount_0f7a4 cJ6_bitCount_0f7a4 1 (some .int) ∈ kw_ws := kw_ws_in (List.mem_append_right _ (List.mem_of_getElem? (i := 486) (by decide +kernel))) rfl
theorem wCX1_othersNoWider : Cond.code yX1_othersNoWider cX1_othersNoWider 4 (some .int) ∈ kw_ws := kw_ws_in (List.mem_append_right _ (List.mem_of_getElem? (i := 493) (by decide +kernel))) rfl
theorem wCX7_wind : Cond.code yX7_wind cX7_wind 2 (some .int) ∈ kw_ws := kw_ws_in (List.mem_append_right _ (List.mem_of_getElem? (i := 499) (by decide +kernel))) rfl
theorem wCX5_isEmpty : Cond.code yX5_isEmpty cX5_isEmpty 1 (some .boolean) ∈ kw_ws := kw_ws_in (List.mem_append_right _ (List.mem_of_getElem? (i := 503) (by decide +kernel))) rfl
theorem wCX7_hang : Cond.code yX7_hang cX7_hang 2 (some .int) ∈ kw_ws := kw_ws_in (List.mem_append_right _ (List.mem_of_getElem? (i := 508) (by decide +kernel))) rfl
theorem wCX7_take : Cond.code yX7_take cX7_take 2 (some .int) ∈ kw_ws := kw_ws_in (List.mem_append_right _ (List.mem_of_getElem? (i := 515) (by decide +kernel))) rfl
theorem wCX7_hour : Cond.code yX7_hour cX7_hour 1 (some .int) ∈ kw_ws := kw_ws_in (List.mem_append_right _ (List.mem_of_getElem? (i := 519) (by decide +kernel))) rfl
theorem wCX4_tellWhole : Cond.code yX4_tellWhole cX4_tellWhole 3 none ∈ kw_ws := kw_ws_in (List.mem_append_right _ (List.mem_of_getElem? (i := 523) (by decide +kernel))) rfl
theorem wCX7_undo : Cond.code yX7_undo cX7_undo 3 (some .int) ∈ kw_ws := kw_ws_in (List.mem_append_right _ (List.mem_of_getElem? (i := 527) (by decide +kernel))) rfl
theorem wCX7_keep : Cond.code yX7_keep cX7_keep 3 (some .int) ∈ kw_ws := kw_ws_in (List.mem_append_right _ (List.mem_of_getElem? (i := 531) (by decide +kernel))) rfl
theorem wCX7_on : Cond.code yX7_on cX7_on 4 (some .int) ∈ kw_ws := kw_ws_in (List.mem_append_right _ (List.mem_of_getElem? (i := 535) (by decide +kernel))) rfl
theorem wCX7_goes : Cond.code yX7_goes cX7_goes 3 (some .int) ∈ kw_ws := kw_ws_in (List.mem_append_right _ (List.mem_of_getElem? (i := 539) (by decide +kernel))) rfl
theorem wCX1_hasSet : Cond.code yX1_hasSet cX1_hasSet 2 (some .boolean) ∈ kw_ws := kw_ws_in (List.mem_append_right _ (List.mem_of_getElem? (i := 543) (by decide +kernel))) rfl
theorem wCX1_allLines : Cond.code yX1_allLines cX1_allLines 1 (some .int) ∈ kw_ws := kw_ws_in (List.mem_append_right _ (List.mem_of_getElem? (i := 547) (by decide +kernel))) rfl
theorem wCX7_even : Cond.code yX7_even cX7_even 7 (some .int) ∈ kw_ws := kw_ws_in (List.mem_append_right _ (List.mem_of_getElem? (i := 553) (by decide +kernel))) rfl
theorem wCX0_draw : Cond.code yX0_draw cX0_draw 7 none ∈ kw_ws := kw_ws_in (List.mem_append_right _ (List.mem_of_getElem? (i := 557) (by decide +kernel))) rfl
theorem wCX0_fits : Cond.code yX0_fits cX0_fits 4 (some .boolean) ∈ kw_ws := kw_ws_in (List.mem_append_right _ (List.mem_of_getElem? (i := 562) (by decide +kernel))) rfl
theorem wCX0_milesOf : Cond.code yX0_milesOf cX0_milesOf 2 (some .int) ∈ kw_ws := kw_ws_in (List.mem_append_right _ (List.mem_of_getElem? (i := 566) (by decide +kernel))) rfl
theorem wCX0_turnBy : Cond.code yX0_turnBy cX0_turnBy 2 (some .int) ∈ kw_ws := kw_ws_in (List.mem_append_right _ (List.mem_of_getElem? (i := 570) (by decide +kernel))) rfl
theorem wCX1_linenOf : Cond.code yX1_linenOf cX1_linenOf 4 (some .int) ∈ kw_ws := kw_ws_in (List.mem_append_right _ (List.mem_of_getElem? (i := 574) (by decide +kernel))) rfl
theorem wCX7_fast : Cond.code yX7_fast cX7_fast 4 (some .int) ∈ kw_ws := kw_ws_in (List.mem_append_right _ (List.mem_of_getElem? (i := 578) (by decide +kernel))) rfl
theorem wCX7_wet : Cond.code yX7_wet cX7_wet 1 (some .int) ∈ kw_ws := kw_ws_in (List.mem_append_right _ (List.mem_of_getElem? (i := 583) (by decide +kernel))) rfl
theorem wCX5_allWet : Cond.code yX5_allWet cX5_allWet 3 (some .int) ∈ kw_ws := kw_ws_in (List.mem_append_right _ (List.mem_of_getElem? (i := 587) (by decide +kernel))) rfl
theorem wCX7_drySet : Cond.code yX7_drySet cX7_drySet 4 (some .int) ∈ kw_ws := kw_ws_in (List.mem_append_right _ (List.mem_of_getElem? (i := 592) (by decide +kernel))) rfl
theorem wCX7_sail : Cond.code yX7_sail cX7_sail 7 (some .int) ∈ kw_ws := kw_ws_in (List.mem_append_right _ (List.mem_of_getElem? (i := 596) (by decide +kernel))) rfl
theorem wCX7_planRefusal : Cond.code yX7_planRefusal cX7_planRefusal 3 (some .int) ∈ kw_ws := kw_ws_in (List.mem_append_right _ (List.mem_of_getElem? (i := 600) (by decide +kernel))) rfl
theorem wCX7_dry : Cond.code yX7_dry cX7_dry 4 (some .int) ∈ kw_ws := kw_ws_in (List.mem_append_right _ (List.mem_of_getElem? (i := 605) (by decide +kernel))) rfl
theorem wCX7_far : Cond.code yX7_far cX7_far 5 (some .int) ∈ kw_ws := kw_ws_in (List.mem_append_right _ (List.mem_of_getElem? (i := 611) (by decide +kernel))) rfl
theorem wCX6_find : Cond.code yX6_find cX6_find 6 (some .boolean) ∈ kw_ws := kw_ws_in (List.mem_append_right _ (List.mem_of_getElem? (i := 615) (by decide +kernel))) rfl
theorem wCX1_mostMilesOf : Cond.code yX1_mostMilesOf cX1_mostMilesOf 5 (some .int) ∈ kw_ws := kw_ws_in (List.mem_append_right _ (List.mem_of_getElem? (i := 623) (by decide +kernel))) rfl
theorem wCX6_sailFrom : Cond.code yX6_sailFrom cX6_sailFrom 8 none ∈ kw_ws := kw_ws_in (List.mem_append_right _ (List.mem_of_getElem? (i := 628) (by decide +kernel))) rfl
theorem wCX7_soon : Cond.code yX7_soon cX7_soon 5 (some .int) ∈ kw_ws := kw_ws_in (List.mem_append_right _ (List.mem_of_getElem? (i := 635) (by decide +kernel))) rfl
theorem wCX7_least : Cond.code yX7_least cX7_least 7 (some .int) ∈ kw_ws := kw_ws_in (List.mem_append_right _ (List.mem_of_getElem? (i := 640) (by decide +kernel))) rfl
theorem wCX7_mostMilesBehind : Cond.code yX7_mostMilesBehind cX7_mostMilesBehind 5 (some .int) ∈ kw_ws := kw_ws_in (List.mem_append_right _ (List.mem_of_getElem? (i := 644) (by decide +kernel))) rfl
theorem wCX7_ways : Cond.code yX7_ways cX7_ways 6 (some .int) ∈ kw_ws := kw_ws_in (List.mem_append_right _ (List.mem_of_getElem? (i := 648) (by decide +kernel))) rfl
theorem wCX7_kinds : Cond.code yX7_kinds cX7_kinds 6 (some .int) ∈ kw_ws := kw_ws_in (List.mem_append_right _ (List.mem_of_getElem? (i := 652) (by decide +kernel))) rfl
theorem wCX7_pairsRefusal : Cond.code yX7_pairsRefusal cX7_pairsRefusal 6 (some .int) ∈ kw_ws := kw_ws_in (List.mem_append_right _ (List.mem_of_getElem? (i := 656) (by decide +kernel))) rfl
theorem wCX7_pulledSo : Cond.code yX7_pulledSo cX7_pulledSo 5 (some .boolean) ∈ kw_ws := kw_ws_in (List.mem_append_right _ (List.mem_of_getElem? (i := 660) (by decide +kernel))) rfl
theorem wCX7_areas : Cond.code yX7_areas cX7_areas 6 (some .int) ∈ kw_ws := kw_ws_in (List.mem_append_right _ (List.mem_of_getElem? (i := 664) (by decide +kernel))) rfl
theorem wCX7_rival : Cond.code yX7_rival cX7_rival 2 (some .int) ∈ kw_ws := kw_ws_in (List.mem_append_right _ (List.mem_of_getElem? (i := 668) (by decide +kernel))) rfl
theorem wCX7_play : Cond.code yX7_play cX7_play 8 (some .int) ∈ kw_ws := kw_ws_in (List.mem_append_right _ (List.mem_of_getElem? (i := 671) (by decide +kernel))) rfl
theorem wCX7_mid : Cond.code yX7_mid cX7_mid 7 (some .int) ∈ kw_ws := kw_ws_in (List.mem_append_right _ (List.mem_of_getElem? (i := 675) (by decide +kernel))) rfl
theorem wCX7_foresee : Cond.code yX7_foresee cX7_foresee 4 none ∈ kw_ws := kw_ws_in (List.mem_append_right _ (List.mem_of_getElem? (i := 679) (by decide +kernel))) rfl
theorem wCX4_tellShare : Cond.code yX4_tellShare cX4_tellShare 7 none ∈ kw_ws := kw_ws_in (List.mem_append_right _ (List.mem_of_getElem? (i := 684) (by decide +kernel))) rfl
theorem wCJ9_abs_067f4 : Cond.code yJ9_abs_067f4 cJ9_abs_067f4 2 (some .long) ∈ kw_ws := kw_ws_in (List.mem_append_right _ (List.mem_of_getElem? (i := 687) (by decide +kernel))) rfl
theorem wCX4_commonDivisor : Cond.code yX4_commonDivisor cX4_commonDivisor 11 (some .long) ∈ kw_ws := kw_ws_in (List.mem_append_right _ (List.mem_of_getElem? (i := 690) (by decide +kernel))) rfl
theorem wCX7_odds : Cond.code yX7_odds cX7_odds 11 (some .int) ∈ kw_ws := kw_ws_in (List.mem_append_right _ (List.mem_of_getElem? (i := 694) (by decide +kernel))) rfl
theorem wCX7_milesByGusts : Cond.code yX7_milesByGusts cX7_milesByGusts 5 (some .int) ∈ kw_ws := kw_ws_in (List.mem_append_right _ (List.mem_of_getElem? (i := 698) (by decide +kernel))) rfl
theorem wCX7_weightOfGusts : Cond.code yX7_weightOfGusts cX7_weightOfGusts 6 (some .long) ∈ kw_ws := kw_ws_in (List.mem_append_right _ (List.mem_of_getElem? (i := 701) (by decide +kernel))) rfl
theorem wCX7_lots : Cond.code yX7_lots cX7_lots 7 (some .int) ∈ kw_ws := kw_ws_in (List.mem_append_right _ (List.mem_of_getElem? (i := 705) (by decide +kernel))) rfl
theorem wCX7_asked : Cond.code yX7_asked cX7_asked 1 (some .int) ∈ kw_ws := kw_ws_in (List.mem_append_right _ (List.mem_of_getElem? (i := 711) (by decide +kernel))) rfl
theorem wCX7_upper : Cond.code yX7_upper cX7_upper 1 (some .long) ∈ kw_ws := kw_ws_in (List.mem_append_right _ (List.mem_of_getElem? (i := 715) (by decide +kernel))) rfl
theorem wCX7_lower : Cond.code yX7_lower cX7_lower 1 (some .long) ∈ kw_ws := kw_ws_in (List.mem_append_right _ (List.mem_of_getElem? (i := 719) (by decide +kernel))) rfl
theorem wCX7_count : Cond.code yX7_count cX7_count 2 (some .int) ∈ kw_ws := kw_ws_in (List.mem_append_right _ (List.mem_of_getElem? (i := 723) (by decide +kernel))) rfl
theorem wCX1_howManyAre : Cond.code yX1_howManyAre cX1_howManyAre 4 (some .int) ∈ kw_ws := kw_ws_in (List.mem_append_right _ (List.mem_of_getElem? (i := 727) (by decide +kernel))) rfl
theorem wCX3_howMany : Cond.code yX3_howMany cX3_howMany 3 (some .int) ∈ kw_ws := kw_ws_in (List.mem_append_right _ (List.mem_of_getElem? (i := 732) (by decide +kernel))) rfl
theorem wCX7_miles : Cond.code yX7_miles cX7_miles 1 (some .int) ∈ kw_ws := kw_ws_in (List.mem_append_right _ (List.mem_of_getElem? (i := 736) (by decide +kernel))) rfl
theorem wCX7_finding : Cond.code yX7_finding cX7_finding 1 (some .int) ∈ kw_ws := kw_ws_in (List.mem_append_right _ (List.mem_of_getElem? (i := 740) (by decide +kernel))) rfl
theorem wCX7_findings : Cond.code yX7_findings cX7_findings 2 (some .int) ∈ kw_ws := kw_ws_in (List.mem_append_right _ (List.mem_of_getElem? (i := 744) (by decide +kernel))) rfl
theorem wCX7_digest : Cond.code yX7_digest cX7_digest 5 (some .long) ∈ kw_ws := kw_ws_in (List.mem_append_right _ (List.mem_of_getElem? (i := 748) (by decide +kernel))) rfl
theorem wCX3_fold : Cond.code yX3_fold cX3_fold 7 (some .long) ∈ kw_ws := kw_ws_in (List.mem_append_right _ (List.mem_of_getElem? (i := 755) (by decide +kernel))) rfl
theorem wCX8_row : Cond.code yX8_row cX8_row 4 (some .int) ∈ kw_ws := kw_ws_in (List.mem_append_right _ (List.mem_of_getElem? (i := 878) (by decide +kernel))) rfl
theorem wCX8_isRow : Cond.code yX8_isRow cX8_isRow 1 (some .boolean) ∈ kw_ws := kw_ws_in (List.mem_append_right _ (List.mem_of_getElem? (i := 881) (by decide +kernel))) rfl
theorem wCX8_in : Cond.code yX8_in cX8_in 3 (some .boolean) ∈ kw_ws := kw_ws_in (List.mem_append_right _ (List.mem_of_getElem? (i := 884) (by decide +kernel))) rfl
theorem wCX8_meet : Cond.code yX8_meet cX8_meet 2 (some .int) ∈ kw_ws := kw_ws_in (List.mem_append_right _ (List.mem_of_getElem? (i := 888) (by decide +kernel))) rfl
theorem wCX8_setRow : Cond.code yX8_setRow cX8_setRow 4 none ∈ kw_ws := kw_ws_in (List.mem_append_right _ (List.mem_of_getElem? (i := 892) (by decide +kernel))) rfl
theorem wCX8_at : Cond.code yX8_at cX8_at 4 (some .int) ∈ kw_ws := kw_ws_in (List.mem_append_right _ (List.mem_of_getElem? (i := 896) (by decide +kernel))) rfl
theorem wCX8_askedRow : Cond.code yX8_askedRow cX8_askedRow 2 (some .int) ∈ kw_ws := kw_ws_in (List.mem_append_right _ (List.mem_of_getElem? (i := 900) (by decide +kernel))) rfl
