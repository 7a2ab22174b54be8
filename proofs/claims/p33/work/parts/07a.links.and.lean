section
theorem kz_1 {w : Cond} (h : w ∈ tables_1_1) (hg : goodWord w = true) : w ∈ kw_ws := kw_ws_in (List.mem_append_right _ (show w ∈ tables_1 from List.mem_append_left _ h)) hg
theorem kz_2 {w : Cond} (h : w ∈ tables_1_2) (hg : goodWord w = true) : w ∈ kw_ws := kw_ws_in (List.mem_append_right _ (show w ∈ tables_1 from List.mem_append_right _ (List.mem_append_left _ h))) hg
theorem kz_3 {w : Cond} (h : w ∈ tables_1_3) (hg : goodWord w = true) : w ∈ kw_ws := kw_ws_in (List.mem_append_right _ (show w ∈ tables_1 from List.mem_append_right _ (List.mem_append_right _ (List.mem_append_left _ h)))) hg
theorem kz_4 {w : Cond} (h : w ∈ tables_1_4) (hg : goodWord w = true) : w ∈ kw_ws := kw_ws_in (List.mem_append_right _ (show w ∈ tables_1 from List.mem_append_right _ (List.mem_append_right _ (List.mem_append_right _ (List.mem_append_left _ h))))) hg
theorem kz_5 {w : Cond} (h : w ∈ tables_1_5) (hg : goodWord w = true) : w ∈ kw_ws := kw_ws_in (List.mem_append_right _ (show w ∈ tables_1 from List.mem_append_right _ (List.mem_append_right _ (List.mem_append_right _ (List.mem_append_right _ (List.mem_append_left _ h)))))) hg
theorem kz_6 {w : Cond} (h : w ∈ tables_1_6) (hg : goodWord w = true) : w ∈ kw_ws := kw_ws_in (List.mem_append_right _ (show w ∈ tables_1 from List.mem_append_right _ (List.mem_append_right _ (List.mem_append_right _ (List.mem_append_right _ (List.mem_append_right _ (h))))))) hg
theorem wLX0_0 : u_lay RX0 TX0 0 ∈ kw_ws := kz_1 (List.mem_of_getElem? (i := 161) (by first | exact rfl | decide +kernel)) rfl
theorem wLX0_1 : u_lay RX0 TX0 1 ∈ kw_ws := kz_1 (List.mem_of_getElem? (i := 163) (by first | exact rfl | decide +kernel)) rfl
theorem wLX0_2 : u_lay RX0 TX0 2 ∈ kw_ws := kz_1 (List.mem_of_getElem? (i := 165) (by first | exact rfl | decide +kernel)) rfl
theorem wLX0_3 : u_lay RX0 TX0 3 ∈ kw_ws := kz_1 (List.mem_of_getElem? (i := 167) (by first | exact rfl | decide +kernel)) rfl
theorem inW0 : ∀ w ∈ u_ws RX0 TX0 4, w ∈ kw_ws := show ∀ w ∈ ([u_lay RX0 TX0 0, u_lay RX0 TX0 1, u_lay RX0 TX0 2, u_lay RX0 TX0 3] : List Cond), w ∈ kw_ws from (List.forall_mem_cons.mpr ⟨wLX0_0, (List.forall_mem_cons.mpr ⟨wLX0_1, (List.forall_mem_cons.mpr ⟨wLX0_2, (List.forall_mem_cons.mpr ⟨wLX0_3, (fun _ h => absurd h List.not_mem_nil)⟩)⟩)⟩)⟩)
theorem wLX1_0 : u_lay RX1 TX1 0 ∈ kw_ws := kz_1 (List.mem_of_getElem? (i := 81) (by first | exact rfl | decide +kernel)) rfl
theorem wLX1_1 : u_lay RX1 TX1 1 ∈ kw_ws := kz_1 (List.mem_of_getElem? (i := 83) (by first | exact rfl | decide +kernel)) rfl
theorem wLX1_2 : u_lay RX1 TX1 2 ∈ kw_ws := kz_1 (List.mem_of_getElem? (i := 85) (by first | exact rfl | decide +kernel)) rfl
theorem wLX1_3 : u_lay RX1 TX1 3 ∈ kw_ws := kz_1 (List.mem_of_getElem? (i := 87) (by first | exact rfl | decide +kernel)) rfl
theorem wLX1_4 : u_lay RX1 TX1 4 ∈ kw_ws := kz_1 (List.mem_of_getElem? (i := 89) (by first | exact rfl | decide +kernel)) rfl
theorem wLX1_5 : u_lay RX1 TX1 5 ∈ kw_ws := kz_1 (List.mem_of_getElem? (i := 91) (by first | exact rfl | decide +kernel)) rfl
theorem wLX1_6 : u_lay RX1 TX1 6 ∈ kw_ws := kz_1 (List.mem_of_getElem? (i := 93) (by first | exact rfl | decide +kernel)) rfl
theorem inW1 : ∀ w ∈ u_ws RX1 TX1 7, w ∈ kw_ws := show ∀ w ∈ ([u_lay RX1 TX1 0, u_lay RX1 TX1 1, u_lay RX1 TX1 2, u_lay RX1 TX1 3, u_lay RX1 TX1 4, u_lay RX1 TX1 5, u_lay RX1 TX1 6] : List Cond), w ∈ kw_ws from (List.forall_mem_cons.mpr ⟨wLX1_0, (List.forall_mem_cons.mpr ⟨wLX1_1, (List.forall_mem_cons.mpr ⟨wLX1_2, (List.forall_mem_cons.mpr ⟨wLX1_3, (List.forall_mem_cons.mpr ⟨wLX1_4, (List.forall_mem_cons.mpr ⟨wLX1_5, (List.forall_mem_cons.mpr ⟨wLX1_6, (fun _ h => absurd h List.not_mem_nil)⟩)⟩)⟩)⟩)⟩)⟩)⟩)
theorem wLX2_0 : u_lay RX2 TX2 0 ∈ kw_ws := kz_1 (List.mem_of_getElem? (i := 99) (by first | exact rfl | decide +kernel)) rfl
theorem wLX2_1 : u_lay RX2 TX2 1 ∈ kw_ws := kz_1 (List.mem_of_getElem? (i := 101) (by first | exact rfl | decide +kernel)) rfl
theorem inW2 : ∀ w ∈ u_ws RX2 TX2 2, w ∈ kw_ws := show ∀ w ∈ ([u_lay RX2 TX2 0, u_lay RX2 TX2 1] : List Cond), w ∈ kw_ws from (List.forall_mem_cons.mpr ⟨wLX2_0, (List.forall_mem_cons.mpr ⟨wLX2_1, (fun _ h => absurd h List.not_mem_nil)⟩)⟩)
theorem wLX3_0 : u_lay RX3 TX3 0 ∈ kw_ws := kz_1 (List.mem_of_getElem? (i := 37) (by first | exact rfl | decide +kernel)) rfl
theorem wLX3_1 : u_lay RX3 TX3 1 ∈ kw_ws := kz_1 (List.mem_of_getElem? (i := 39) (by first | exact rfl | decide +kernel)) rfl
theorem wLX3_2 : u_lay RX3 TX3 2 ∈ kw_ws := kz_1 (List.mem_of_getElem? (i := 41) (by first | exact rfl | decide +kernel)) rfl
theorem inW3 : ∀ w ∈ u_ws RX3 TX3 3, w ∈ kw_ws := show ∀ w ∈ ([u_lay RX3 TX3 0, u_lay RX3 TX3 1, u_lay RX3 TX3 2] : List Cond), w ∈ kw_ws from (List.forall_mem_cons.mpr ⟨wLX3_0, (List.forall_mem_cons.mpr ⟨wLX3_1, (List.forall_mem_cons.mpr ⟨wLX3_2, (fun _ h => absurd h List.not_mem_nil)⟩)⟩)⟩)
theorem wLX4_0 : u_lay RX4 TX4 0 ∈ kw_ws := kz_1 (List.mem_of_getElem? (i := 222) (by first | exact rfl | decide +kernel)) rfl
theorem wLX4_1 : u_lay RX4 TX4 1 ∈ kw_ws := kz_1 (List.mem_of_getElem? (i := 224) (by first | exact rfl | decide +kernel)) rfl
theorem wLX4_2 : u_lay RX4 TX4 2 ∈ kw_ws := kz_1 (List.mem_of_getElem? (i := 226) (by first | exact rfl | decide +kernel)) rfl
theorem wLX4_3 : u_lay RX4 TX4 3 ∈ kw_ws := kz_1 (List.mem_of_getElem? (i := 228) (by first | exact rfl | decide +kernel)) rfl
theorem wLX4_4 : u_lay RX4 TX4 4 ∈ kw_ws := kz_1 (List.mem_of_getElem? (i := 230) (by first | exact rfl | decide +kernel)) rfl
theorem inW4 : ∀ w ∈ u_ws RX4 TX4 5, w ∈ kw_ws := show ∀ w ∈ ([u_lay RX4 TX4 0, u_lay RX4 TX4 1, u_lay RX4 TX4 2, u_lay RX4 TX4 3, u_lay RX4 TX4 4] : List Cond), w ∈ kw_ws from (List.forall_mem_cons.mpr ⟨wLX4_0, (List.forall_mem_cons.mpr ⟨wLX4_1, (List.forall_mem_cons.mpr ⟨wLX4_2, (List.forall_mem_cons.mpr ⟨wLX4_3, (List.forall_mem_cons.mpr ⟨wLX4_4, (fun _ h => absurd h List.not_mem_nil)⟩)⟩)⟩)⟩)⟩)
theorem wLX5_0 : u_lay RX5 TX5 0 ∈ kw_ws := kz_1 (List.mem_of_getElem? (i := 131) (by first | exact rfl | decide +kernel)) rfl
theorem wLX5_1 : u_lay RX5 TX5 1 ∈ kw_ws := kz_1 (List.mem_of_getElem? (i := 133) (by first | exact rfl | decide +kernel)) rfl
theorem wLX5_2 : u_lay RX5 TX5 2 ∈ kw_ws := kz_1 (List.mem_of_getElem? (i := 135) (by first | exact rfl | decide +kernel)) rfl
theorem wLX5_3 : u_lay RX5 TX5 3 ∈ kw_ws := kz_1 (List.mem_of_getElem? (i := 137) (by first | exact rfl | decide +kernel)) rfl
theorem wLX5_4 : u_lay RX5 TX5 4 ∈ kw_ws := kz_1 (List.mem_of_getElem? (i := 139) (by first | exact rfl | decide +kernel)) rfl
theorem wLX5_5 : u_lay RX5 TX5 5 ∈ kw_ws := kz_1 (List.mem_of_getElem? (i := 141) (by first | exact rfl | decide +kernel)) rfl
theorem wLX5_6 : u_lay RX5 TX5 6 ∈ kw_ws := kz_1 (List.mem_of_getElem? (i := 143) (by first | exact rfl | decide +kernel)) rfl
theorem wLX5_7 : u_lay RX5 TX5 7 ∈ kw_ws := kz_1 (List.mem_of_getElem? (i := 145) (by first | exact rfl | decide +kernel)) rfl
theorem inW5 : ∀ w ∈ u_ws RX5 TX5 8, w ∈ kw_ws := show ∀ w ∈ ([u_lay RX5 TX5 0, u_lay RX5 TX5 1, u_lay RX5 TX5 2, u_lay RX5 TX5 3, u_lay RX5 TX5 4, u_lay RX5 TX5 5, u_lay RX5 TX5 6, u_lay RX5 TX5 7] : List Cond), w ∈ kw_ws from (List.forall_mem_cons.mpr ⟨wLX5_0, (List.forall_mem_cons.mpr ⟨wLX5_1, (List.forall_mem_cons.mpr ⟨wLX5_2, (List.forall_mem_cons.mpr ⟨wLX5_3, (List.forall_mem_cons.mpr ⟨wLX5_4, (List.forall_mem_cons.mpr ⟨wLX5_5, (List.forall_mem_cons.mpr ⟨wLX5_6, (List.forall_mem_cons.mpr ⟨wLX5_7, (fun _ h => absurd h List.not_mem_nil)⟩)⟩)⟩)⟩)⟩)⟩)⟩)⟩)
theorem wLX6_0 : u_lay RX6 TX6 0 ∈ kw_ws := kz_1 (List.mem_of_getElem? (i := 189) (by first | exact rfl | decide +kernel)) rfl
theorem wLX6_1 : u_lay RX6 TX6 1 ∈ kw_ws := kz_1 (List.mem_of_getElem? (i := 191) (by first | exact rfl | decide +kernel)) rfl
theorem wLX6_2 : u_lay RX6 TX6 2 ∈ kw_ws := kz_1 (List.mem_of_getElem? (i := 193) (by first | exact rfl | decide +kernel)) rfl
theorem wLX6_3 : u_lay RX6 TX6 3 ∈ kw_ws := kz_1 (List.mem_of_getElem? (i := 195) (by first | exact rfl | decide +kernel)) rfl
theorem wLX6_4 : u_lay RX6 TX6 4 ∈ kw_ws := kz_1 (List.mem_of_getElem? (i := 197) (by first | exact rfl | decide +kernel)) rfl
theorem wLX6_5 : u_lay RX6 TX6 5 ∈ kw_ws := kz_1 (List.mem_of_getElem? (i := 199) (by first | exact rfl | decide +kernel)) rfl
theorem wLX6_6 : u_lay RX6 TX6 6 ∈ kw_ws := kz_1 (List.mem_of_getElem? (i := 201) (by first | exact rfl | decide +kernel)) rfl
theorem wLX6_7 : u_lay RX6 TX6 7 ∈ kw_ws := kz_1 (List.mem_of_getElem? (i := 203) (by first | exact rfl | decide +kernel)) rfl
theorem inW6 : ∀ w ∈ u_ws RX6 TX6 8, w ∈ kw_ws := show ∀ w ∈ ([u_lay RX6 TX6 0, u_lay RX6 TX6 1, u_lay RX6 TX6 2, u_lay RX6 TX6 3, u_lay RX6 TX6 4, u_lay RX6 TX6 5, u_lay RX6 TX6 6, u_lay RX6 TX6 7] : List Cond), w ∈ kw_ws from (List.forall_mem_cons.mpr ⟨wLX6_0, (List.forall_mem_cons.mpr ⟨wLX6_1, (List.forall_mem_cons.mpr ⟨wLX6_2, (List.forall_mem_cons.mpr ⟨wLX6_3, (List.forall_mem_cons.mpr ⟨wLX6_4, (List.forall_mem_cons.mpr ⟨wLX6_5, (List.forall_mem_cons.mpr ⟨wLX6_6, (List.forall_mem_cons.mpr ⟨wLX6_7, (fun _ h => absurd h List.not_mem_nil)⟩)⟩)⟩)⟩)⟩)⟩)⟩)⟩)
theorem wLX7_0 : u_lay RX7 TX7 0 ∈ kw_ws := kz_2 (List.mem_of_getElem? (i := 4) (by first | exact rfl | decide +kernel)) rfl
theorem wLX7_1 : u_lay RX7 TX7 1 ∈ kw_ws := kz_2 (List.mem_of_getElem? (i := 6) (by first | exact rfl | decide +kernel)) rfl
theorem wLX7_2 : u_lay RX7 TX7 2 ∈ kw_ws := kz_2 (List.mem_of_getElem? (i := 8) (by first | exact rfl | decide +kernel)) rfl
theorem wLX7_3 : u_lay RX7 TX7 3 ∈ kw_ws := kz_2 (List.mem_of_getElem? (i := 10) (by first | exact rfl | decide +kernel)) rfl
theorem wLX7_4 : u_lay RX7 TX7 4 ∈ kw_ws := kz_2 (List.mem_of_getElem? (i := 12) (by first | exact rfl | decide +kernel)) rfl
theorem wLX7_5 : u_lay RX7 TX7 5 ∈ kw_ws := kz_2 (List.mem_of_getElem? (i := 14) (by first | exact rfl | decide +kernel)) rfl
theorem wLX7_6 : u_lay RX7 TX7 6 ∈ kw_ws := kz_2 (List.mem_of_getElem? (i := 16) (by first | exact rfl | decide +kernel)) rfl
theorem wLX7_7 : u_lay RX7 TX7 7 ∈ kw_ws := kz_2 (List.mem_of_getElem? (i := 18) (by first | exact rfl | decide +kernel)) rfl
theorem wLX7_8 : u_lay RX7 TX7 8 ∈ kw_ws := kz_2 (List.mem_of_getElem? (i := 20) (by first | exact rfl | decide +kernel)) rfl
theorem wLX7_9 : u_lay RX7 TX7 9 ∈ kw_ws := kz_2 (List.mem_of_getElem? (i := 22) (by first | exact rfl | decide +kernel)) rfl
theorem wLX7_10 : u_lay RX7 TX7 10 ∈ kw_ws := kz_2 (List.mem_of_getElem? (i := 24) (by first | exact rfl | decide +kernel)) rfl
theorem inW7 : ∀ w ∈ u_ws RX7 TX7 11, w ∈ kw_ws := show ∀ w ∈ ([u_lay RX7 TX7 0, u_lay RX7 TX7 1, u_lay RX7 TX7 2, u_lay RX7 TX7 3, u_lay RX7 TX7 4, u_lay RX7 TX7 5, u_lay RX7 TX7 6, u_lay RX7 TX7 7, u_lay RX7 TX7 8, u_lay RX7 TX7 9, u_lay RX7 TX7 10] : List Cond), w ∈ kw_ws from (List.forall_mem_cons.mpr ⟨wLX7_0, (List.forall_mem_cons.mpr ⟨wLX7_1, (List.forall_mem_cons.mpr ⟨wLX7_2, (List.forall_mem_cons.mpr ⟨wLX7_3, (List.forall_mem_cons.mpr ⟨wLX7_4, (List.forall_mem_cons.mpr ⟨wLX7_5, (List.forall_mem_cons.mpr ⟨wLX7_6, (List.forall_mem_cons.mpr ⟨wLX7_7, (List.forall_mem_cons.mpr ⟨wLX7_8, (List.forall_mem_cons.mpr ⟨wLX7_9, (List.forall_mem_cons.mpr ⟨wLX7_10, (fun _ h => absurd h List.not_mem_nil)⟩)⟩)⟩)⟩)⟩)⟩)⟩)⟩)⟩)⟩)⟩)
theorem wLX8_0 : u_lay RX8 TX8 0 ∈ kw_ws := kz_4 (List.mem_of_getElem? (i := 80) (by first | exact rfl | decide +kernel)) rfl
theorem wLX8_1 : u_lay RX8 TX8 1 ∈ kw_ws := kz_4 (List.mem_of_getElem? (i := 82) (by first | exact rfl | decide +kernel)) rfl
theorem wLX8_2 : u_lay RX8 TX8 2 ∈ kw_ws := kz_4 (List.mem_of_getElem? (i := 84) (by first | exact rfl | decide +kernel)) rfl
theorem wLX8_3 : u_lay RX8 TX8 3 ∈ kw_ws := kz_4 (List.mem_of_getElem? (i := 86) (by first | exact rfl | decide +kernel)) rfl
theorem wLX8_4 : u_lay RX8 TX8 4 ∈ kw_ws := kz_4 (List.mem_of_getElem? (i := 88) (by first | exact rfl | decide +kernel)) rfl
theorem wLX8_5 : u_lay RX8 TX8 5 ∈ kw_ws := kz_4 (List.mem_of_getElem? (i := 90) (by first | exact rfl | decide +kernel)) rfl
theorem wLX8_6 : u_lay RX8 TX8 6 ∈ kw_ws := kz_4 (List.mem_of_getElem? (i := 92) (by first | exact rfl | decide +kernel)) rfl
theorem wLX8_7 : u_lay RX8 TX8 7 ∈ kw_ws := kz_4 (List.mem_of_getElem? (i := 94) (by first | exact rfl | decide +kernel)) rfl
theorem wLX8_8 : u_lay RX8 TX8 8 ∈ kw_ws := kz_4 (List.mem_of_getElem? (i := 96) (by first | exact rfl | decide +kernel)) rfl
theorem wLX8_9 : u_lay RX8 TX8 9 ∈ kw_ws := kz_4 (List.mem_of_getElem? (i := 98) (by first | exact rfl | decide +kernel)) rfl
theorem wLX8_10 : u_lay RX8 TX8 10 ∈ kw_ws := kz_4 (List.mem_of_getElem? (i := 100) (by first | exact rfl | decide +kernel)) rfl
theorem wLX8_11 : u_lay RX8 TX8 11 ∈ kw_ws := kz_4 (List.mem_of_getElem? (i := 102) (by first | exact rfl | decide +kernel)) rfl
theorem wLX8_12 : u_lay RX8 TX8 12 ∈ kw_ws := kz_4 (List.mem_of_getElem? (i := 104) (by first | exact rfl | decide +kernel)) rfl
theorem wLX8_13 : u_lay RX8 TX8 13 ∈ kw_ws := kz_4 (List.mem_of_getElem? (i := 106) (by first | exact rfl | decide +kernel)) rfl
theorem wLX8_14 : u_lay RX8 TX8 14 ∈ kw_ws := kz_4 (List.mem_of_getElem? (i := 108) (by first | exact rfl | decide +kernel)) rfl
theorem wLX8_15 : u_lay RX8 TX8 15 ∈ kw_ws := kz_4 (List.mem_of_getElem? (i := 110) (by first | exact rfl | decide +kernel)) rfl
theorem wLX8_16 : u_lay RX8 TX8 16 ∈ kw_ws := kz_4 (List.mem_of_getElem? (i := 112) (by first | exact rfl | decide +kernel)) rfl
theorem wLX8_17 : u_lay RX8 TX8 17 ∈ kw_ws := kz_4 (List.mem_of_getElem? (i := 114) (by first | exact rfl | decide +kernel)) rfl
theorem wLX8_18 : u_lay RX8 TX8 18 ∈ kw_ws := kz_4 (List.mem_of_getElem? (i := 116) (by first | exact rfl | decide +kernel)) rfl
theorem wLX8_19 : u_lay RX8 TX8 19 ∈ kw_ws := kz_4 (List.mem_of_getElem? (i := 118) (by first | exact rfl | decide +kernel)) rfl
theorem wLX8_20 : u_lay RX8 TX8 20 ∈ kw_ws := kz_4 (List.mem_of_getElem? (i := 120) (by first | exact rfl | decide +kernel)) rfl
theorem wLX8_21 : u_lay RX8 TX8 21 ∈ kw_ws := kz_4 (List.mem_of_getElem? (i := 122) (by first | exact rfl | decide +kernel)) rfl
theorem wLX8_22 : u_lay RX8 TX8 22 ∈ kw_ws := kz_4 (List.mem_of_getElem? (i := 124) (by first | exact rfl | decide +kernel)) rfl
theorem wLX8_23 : u_lay RX8 TX8 23 ∈ kw_ws := kz_4 (List.mem_of_getElem? (i := 126) (by first | exact rfl | decide +kernel)) rfl
theorem wLX8_24 : u_lay RX8 TX8 24 ∈ kw_ws := kz_4 (List.mem_of_getElem? (i := 128) (by first | exact rfl | decide +kernel)) rfl
theorem wLX8_25 : u_lay RX8 TX8 25 ∈ kw_ws := kz_4 (List.mem_of_getElem? (i := 130) (by first | exact rfl | decide +kernel)) rfl
theorem wLX8_26 : u_lay RX8 TX8 26 ∈ kw_ws := kz_4 (List.mem_of_getElem? (i := 132) (by first | exact rfl | decide +kernel)) rfl
theorem wLX8_27 : u_lay RX8 TX8 27 ∈ kw_ws := kz_4 (List.mem_of_getElem? (i := 134) (by first | exact rfl | decide +kernel)) rfl
theorem wLX8_28 : u_lay RX8 TX8 28 ∈ kw_ws := kz_4 (List.mem_of_getElem? (i := 136) (by first | exact rfl | decide +kernel)) rfl
theorem wLX8_29 : u_lay RX8 TX8 29 ∈ kw_ws := kz_4 (List.mem_of_getElem? (i := 138) (by first | exact rfl | decide +kernel)) rfl
theorem wLX8_30 : u_lay RX8 TX8 30 ∈ kw_ws := kz_4 (List.mem_of_getElem? (i := 140) (by first | exact rfl | decide +kernel)) rfl
theorem wLX8_31 : u_lay RX8 TX8 31 ∈ kw_ws := kz_4 (List.mem_of_getElem? (i := 142) (by first | exact rfl | decide +kernel)) rfl
theorem wLX8_32 : u_lay RX8 TX8 32 ∈ kw_ws := kz_4 (List.mem_of_getElem? (i := 144) (by first | exact rfl | decide +kernel)) rfl
theorem wLX8_33 : u_lay RX8 TX8 33 ∈ kw_ws := kz_4 (List.mem_of_getElem? (i := 146) (by first | exact rfl | decide +kernel)) rfl
theorem wLX8_34 : u_lay RX8 TX8 34 ∈ kw_ws := kz_4 (List.mem_of_getElem? (i := 148) (by first | exact rfl | decide +kernel)) rfl
theorem wLX8_35 : u_lay RX8 TX8 35 ∈ kw_ws := kz_4 (List.mem_of_getElem? (i := 150) (by first | exact rfl | decide +kernel)) rfl
theorem wLX8_36 : u_lay RX8 TX8 36 ∈ kw_ws := kz_4 (List.mem_of_getElem? (i := 152) (by first | exact rfl | decide +kernel)) rfl
theorem inW8 : ∀ w ∈ u_ws RX8 TX8 37, w ∈ kw_ws := show ∀ w ∈ ([u_lay RX8 TX8 0, u_lay RX8 TX8 1, u_lay RX8 TX8 2, u_lay RX8 TX8 3, u_lay RX8 TX8 4, u_lay RX8 TX8 5, u_lay RX8 TX8 6, u_lay RX8 TX8 7, u_lay RX8 TX8 8, u_lay RX8 TX8 9, u_lay RX8 TX8 10, u_lay RX8 TX8 11, u_lay RX8 TX8 12, u_lay RX8 TX8 13, u_lay RX8 TX8 14, u_lay RX8 TX8 15, u_lay RX8 TX8 16, u_lay RX8 TX8 17, u_lay RX8 TX8 18, u_lay RX8 TX8 19, u_lay RX8 TX8 20, u_lay RX8 TX8 21, u_lay RX8 TX8 22, u_lay RX8 TX8 23, u_lay RX8 TX8 24, u_lay RX8 TX8 25, u_lay RX8 TX8 26, u_lay RX8 TX8 27, u_lay RX8 TX8 28, u_lay RX8 TX8 29, u_lay RX8 TX8 30, u_lay RX8 TX8 31, u_lay RX8 TX8 32, u_lay RX8 TX8 33, u_lay RX8 TX8 34, u_lay RX8 TX8 35, u_lay RX8 TX8 36] : List Cond), w ∈ kw_ws from (List.forall_mem_cons.mpr ⟨wLX8_0, (List.forall_mem_cons.mpr ⟨wLX8_1, (List.forall_mem_cons.mpr ⟨wLX8_2, (List.forall_mem_cons.mpr ⟨wLX8_3, (List.forall_mem_cons.mpr ⟨wLX8_4, (List.forall_mem_cons.mpr ⟨wLX8_5, (List.forall_mem_cons.mpr ⟨wLX8_6, (List.forall_mem_cons.mpr ⟨wLX8_7, (List.forall_mem_cons.mpr ⟨wLX8_8, (List.forall_mem_cons.mpr ⟨wLX8_9, (List.forall_mem_cons.mpr ⟨wLX8_10, (List.forall_mem_cons.mpr ⟨wLX8_11, (List.forall_mem_cons.mpr ⟨wLX8_12, (List.forall_mem_cons.mpr ⟨wLX8_13, (List.forall_mem_cons.mpr ⟨wLX8_14, (List.forall_mem_cons.mpr ⟨wLX8_15, (List.forall_mem_cons.mpr ⟨wLX8_16, (List.forall_mem_cons.mpr ⟨wLX8_17, (List.forall_mem_cons.mpr ⟨wLX8_18, (List.forall_mem_cons.mpr ⟨wLX8_19, (List.forall_mem_cons.mpr ⟨wLX8_20, (List.forall_mem_cons.mpr ⟨wLX8_21, (List.forall_mem_cons.mpr ⟨wLX8_22, (List.forall_mem_cons.mpr ⟨wLX8_23, (List.forall_mem_cons.mpr ⟨wLX8_24, (List.forall_mem_cons.mpr ⟨wLX8_25, (List.forall_mem_cons.mpr ⟨wLX8_26, (List.forall_mem_cons.mpr ⟨wLX8_27, (List.forall_mem_cons.mpr ⟨wLX8_28, (List.forall_mem_cons.mpr ⟨wLX8_29, (List.forall_mem_cons.mpr ⟨wLX8_30, (List.forall_mem_cons.mpr ⟨wLX8_31, (List.forall_mem_cons.mpr ⟨wLX8_32, (List.forall_mem_cons.mpr ⟨wLX8_33, (List.forall_mem_cons.mpr ⟨wLX8_34, (List.forall_mem_cons.mpr ⟨wLX8_35, (List.forall_mem_cons.mpr ⟨wLX8_36, (fun _ h => absurd h List.not_mem_nil)⟩)⟩)⟩)⟩)⟩)⟩)⟩)⟩)⟩)⟩)⟩)⟩)⟩)⟩)⟩)⟩)⟩)⟩)⟩)⟩)⟩)⟩)⟩)⟩)⟩)⟩)⟩)⟩)⟩)⟩)⟩)⟩)⟩)⟩)⟩)⟩)⟩)
theorem nmhJ6 : RJ6 ≠ "java/lang/invoke/MethodHandle" ∧ RJ6 ≠ "java/lang/invoke/VarHandle" := by decide +kernel
theorem nmhJ7 : RJ7 ≠ "java/lang/invoke/MethodHandle" ∧ RJ7 ≠ "java/lang/invoke/VarHandle" := by decide +kernel
theorem nmhJ9 : RJ9 ≠ "java/lang/invoke/MethodHandle" ∧ RJ9 ≠ "java/lang/invoke/VarHandle" := by decide +kernel
theorem nmhX0 : RX0 ≠ "java/lang/invoke/MethodHandle" ∧ RX0 ≠ "java/lang/invoke/VarHandle" := by decide +kernel
theorem nmhX1 : RX1 ≠ "java/lang/invoke/MethodHandle" ∧ RX1 ≠ "java/lang/invoke/VarHandle" := by decide +kernel
theorem nmhX2 : RX2 ≠ "java/lang/invoke/MethodHandle" ∧ RX2 ≠ "java/lang/invoke/VarHandle" := by decide +kernel
theorem nmhX3 : RX3 ≠ "java/lang/invoke/MethodHandle" ∧ RX3 ≠ "java/lang/invoke/VarHandle" := by decide +kernel
theorem nmhX4 : RX4 ≠ "java/lang/invoke/MethodHandle" ∧ RX4 ≠ "java/lang/invoke/VarHandle" := by decide +kernel
theorem nmhX5 : RX5 ≠ "java/lang/invoke/MethodHandle" ∧ RX5 ≠ "java/lang/invoke/VarHandle" := by decide +kernel
theorem nmhX6 : RX6 ≠ "java/lang/invoke/MethodHandle" ∧ RX6 ≠ "java/lang/invoke/VarHandle" := by decide +kernel
theorem nmhX7 : RX7 ≠ "java/lang/invoke/MethodHandle" ∧ RX7 ≠ "java/lang/invoke/VarHandle" := by decide +kernel
theorem nmhX8 : RX8 ≠ "java/lang/invoke/MethodHandle" ∧ RX8 ≠ "java/lang/invoke/VarHandle" := by decide +kernel
theorem wIX7_row : Cond.instanceMethod yX7_row ∈ kw_ws := kz_2 (List.mem_of_getElem? (i := 28) (by first | exact rfl | decide +kernel)) rfl
theorem wIX7_makeOn : Cond.instanceMethod yX7_makeOn ∈ kw_ws := kz_2 (List.mem_of_getElem? (i := 33) (by first | exact rfl | decide +kernel)) rfl
theorem wIX3_has : Cond.instanceMethod yX3_has ∈ kw_ws := kz_2 (List.mem_of_getElem? (i := 36) (by first | exact rfl | decide +kernel)) rfl
theorem wIX4_refuse : Cond.instanceMethod yX4_refuse ∈ kw_ws := kz_2 (List.mem_of_getElem? (i := 40) (by first | exact rfl | decide +kernel)) rfl
theorem wIX3_make : Cond.instanceMethod yX3_make ∈ kw_ws := kz_2 (List.mem_of_getElem? (i := 44) (by first | exact rfl | decide +kernel)) rfl
theorem wIX7_lay : Cond.instanceMethod yX7_lay ∈ kw_ws := kz_2 (List.mem_of_getElem? (i := 49) (by first | exact rfl | decide +kernel)) rfl
theorem wIX3_findingAt : Cond.instanceMethod yX3_findingAt ∈ kw_ws := kz_2 (List.mem_of_getElem? (i := 53) (by first | exact rfl | decide +kernel)) rfl
theorem wIX3_isMissing : Cond.instanceMethod yX3_isMissing ∈ kw_ws := kz_2 (List.mem_of_getElem? (i := 57) (by first | exact rfl | decide +kernel)) rfl
theorem wIX3_sizeOf : Cond.instanceMethod yX3_sizeOf ∈ kw_ws := kz_2 (List.mem_of_getElem? (i := 61) (by first | exact rfl | decide +kernel)) rfl
theorem wIX3_hasPlaces : Cond.instanceMethod yX3_hasPlaces ∈ kw_ws := kz_2 (List.mem_of_getElem? (i := 65) (by first | exact rfl | decide +kernel)) rfl
theorem wIX3_valueAt : Cond.instanceMethod yX3_valueAt ∈ kw_ws := kz_2 (List.mem_of_getElem? (i := 69) (by first | exact rfl | decide +kernel)) rfl
theorem wIX3_change : Cond.instanceMethod yX3_change ∈ kw_ws := kz_2 (List.mem_of_getElem? (i := 73) (by first | exact rfl | decide +kernel)) rfl
theorem wIX4_answer : Cond.instanceMethod yX4_answer ∈ kw_ws := kz_2 (List.mem_of_getElem? (i := 77) (by first | exact rfl | decide +kernel)) rfl
theorem wIX7_at : Cond.instanceMethod yX7_at ∈ kw_ws := kz_2 (List.mem_of_getElem? (i := 81) (by first | exact rfl | decide +kernel)) rfl
theorem wIX7_tear : Cond.instanceMethod yX7_tear ∈ kw_ws := kz_2 (List.mem_of_getElem? (i := 85) (by first | exact rfl | decide +kernel)) rfl
theorem wIX3_drop : Cond.instanceMethod yX3_drop ∈ kw_ws := kz_2 (List.mem_of_getElem? (i := 90) (by first | exact rfl | decide +kernel)) rfl
theorem wIX7_copy : Cond.instanceMethod yX7_copy ∈ kw_ws := kz_2 (List.mem_of_getElem? (i := 94) (by first | exact rfl | decide +kernel)) rfl
theorem wIX3_move : Cond.instanceMethod yX3_move ∈ kw_ws := kz_2 (List.mem_of_getElem? (i := 99) (by first | exact rfl | decide +kernel)) rfl
theorem wIX7_mean : Cond.instanceMethod yX7_mean ∈ kw_ws := kz_2 (List.mem_of_getElem? (i := 106) (by first | exact rfl | decide +kernel)) rfl
theorem wIX7_text : Cond.instanceMethod yX7_text ∈ kw_ws := kz_2 (List.mem_of_getElem? (i := 111) (by first | exact rfl | decide +kernel)) rfl
theorem wIX7_put : Cond.instanceMethod yX7_put ∈ kw_ws := kz_2 (List.mem_of_getElem? (i := 115) (by first | exact rfl | decide +kernel)) rfl
theorem wIX7_fault : Cond.instanceMethod yX7_fault ∈ kw_ws := kz_2 (List.mem_of_getElem? (i := 119) (by first | exact rfl | decide +kernel)) rfl
theorem wIX2_faultOf : Cond.instanceMethod yX2_faultOf ∈ kw_ws := kz_2 (List.mem_of_getElem? (i := 123) (by first | exact rfl | decide +kernel)) rfl
theorem wIX2_skipBlanks : Cond.instanceMethod yX2_skipBlanks ∈ kw_ws := kz_2 (List.mem_of_getElem? (i := 128) (by first | exact rfl | decide +kernel)) rfl
theorem wIX2_readWinds : Cond.instanceMethod yX2_readWinds ∈ kw_ws := kz_2 (List.mem_of_getElem? (i := 133) (by first | exact rfl | decide +kernel)) rfl
theorem wIX2_readLine : Cond.instanceMethod yX2_readLine ∈ kw_ws := kz_2 (List.mem_of_getElem? (i := 138) (by first | exact rfl | decide +kernel)) rfl
theorem wIX2_readFigure : Cond.instanceMethod yX2_readFigure ∈ kw_ws := kz_2 (List.mem_of_getElem? (i := 147) (by first | exact rfl | decide +kernel)) rfl
theorem wIX7_town : Cond.instanceMethod yX7_town ∈ kw_ws := kz_2 (List.mem_of_getElem? (i := 150) (by first | exact rfl | decide +kernel)) rfl
theorem wIX1_copyFrom : Cond.instanceMethod yX1_copyFrom ∈ kw_ws := kz_2 (List.mem_of_getElem? (i := 154) (by first | exact rfl | decide +kernel)) rfl
theorem wIX5_replay : Cond.instanceMethod yX5_replay ∈ kw_ws := kz_2 (List.mem_of_getElem? (i := 159) (by first | exact rfl | decide +kernel)) rfl
theorem wIX5_act : Cond.instanceMethod yX5_act ∈ kw_ws := kz_2 (List.mem_of_getElem? (i := 164) (by first | exact rfl | decide +kernel)) rfl
theorem wIX5_hasRoomFor : Cond.instanceMethod yX5_hasRoomFor ∈ kw_ws := kz_2 (List.mem_of_getElem? (i := 168) (by first | exact rfl | decide +kernel)) rfl
theorem wIX5_passHour : Cond.instanceMethod yX5_passHour ∈ kw_ws := kz_2 (List.mem_of_getElem? (i := 173) (by first | exact rfl | decide +kernel)) rfl
theorem wIX5_windNow : Cond.instanceMethod yX5_windNow ∈ kw_ws := kz_2 (List.mem_of_getElem? (i := 176) (by first | exact rfl | decide +kernel)) rfl
theorem wIX1_windAt : Cond.instanceMethod yX1_windAt ∈ kw_ws := kz_2 (List.mem_of_getElem? (i := 180) (by first | exact rfl | decide +kernel)) rfl
theorem wIX1_milesOf : Cond.instanceMethod yX1_milesOf ∈ kw_ws := kz_2 (List.mem_of_getElem? (i := 184) (by first | exact rfl | decide +kernel)) rfl
theorem wIX1_pullOf : Cond.instanceMethod yX1_pullOf ∈ kw_ws := kz_2 (List.mem_of_getElem? (i := 188) (by first | exact rfl | decide +kernel)) rfl
theorem wIX1_hasLine : Cond.instanceMethod yX1_hasLine ∈ kw_ws := kz_2 (List.mem_of_getElem? (i := 192) (by first | exact rfl | decide +kernel)) rfl
theorem wIX1_turnOf : Cond.instanceMethod yX1_turnOf ∈ kw_ws := kz_2 (List.mem_of_getElem? (i := 199) (by first | exact rfl | decide +kernel)) rfl
theorem wIX7_line : Cond.instanceMethod yX7_line ∈ kw_ws := kz_2 (List.mem_of_getElem? (i := 212) (by first | exact rfl | decide +kernel)) rfl
theorem wIX5_trait : Cond.instanceMethod yX5_trait ∈ kw_ws := kz_2 (List.mem_of_getElem? (i := 217) (by first | exact rfl | decide +kernel)) rfl
theorem wIX5_isHung : Cond.instanceMethod yX5_isHung ∈ kw_ws := kz_2 (List.mem_of_getElem? (i := 222) (by first | exact rfl | decide +kernel)) rfl
theorem wIX7_mark : Cond.instanceMethod yX7_mark ∈ kw_ws := kz_2 (List.mem_of_getElem? (i := 227) (by first | exact rfl | decide +kernel)) rfl
theorem wIX5_hoursToStorm : Cond.instanceMethod yX5_hoursToStorm ∈ kw_ws := kz_2 (List.mem_of_getElem? (i := 237) (by first | exact rfl | decide +kernel)) rfl
theorem wIX5_windAhead : Cond.instanceMethod yX5_windAhead ∈ kw_ws := kz_3 (List.mem_of_getElem? (i := 1) (by first | exact rfl | decide +kernel)) rfl
theorem wIX1_othersNoWider : Cond.instanceMethod yX1_othersNoWider ∈ kw_ws := kz_3 (List.mem_of_getElem? (i := 11) (by first | exact rfl | decide +kernel)) rfl
theorem wIX7_wind : Cond.instanceMethod yX7_wind ∈ kw_ws := kz_3 (List.mem_of_getElem? (i := 17) (by first | exact rfl | decide +kernel)) rfl
theorem wIX5_isEmpty : Cond.instanceMethod yX5_isEmpty ∈ kw_ws := kz_3 (List.mem_of_getElem? (i := 21) (by first | exact rfl | decide +kernel)) rfl
theorem wIX7_hang : Cond.instanceMethod yX7_hang ∈ kw_ws := kz_3 (List.mem_of_getElem? (i := 26) (by first | exact rfl | decide +kernel)) rfl
theorem wIX7_take : Cond.instanceMethod yX7_take ∈ kw_ws := kz_3 (List.mem_of_getElem? (i := 33) (by first | exact rfl | decide +kernel)) rfl
theorem wIX7_hour : Cond.instanceMethod yX7_hour ∈ kw_ws := kz_3 (List.mem_of_getElem? (i := 37) (by first | exact rfl | decide +kernel)) rfl
theorem wIX4_tellWhole : Cond.instanceMethod yX4_tellWhole ∈ kw_ws := kz_3 (List.mem_of_getElem? (i := 41) (by first | exact rfl | decide +kernel)) rfl
theorem wIX7_undo : Cond.instanceMethod yX7_undo ∈ kw_ws := kz_3 (List.mem_of_getElem? (i := 45) (by first | exact rfl | decide +kernel)) rfl
theorem wIX7_keep : Cond.instanceMethod yX7_keep ∈ kw_ws := kz_3 (List.mem_of_getElem? (i := 49) (by first | exact rfl | decide +kernel)) rfl
theorem wIX7_on : Cond.instanceMethod yX7_on ∈ kw_ws := kz_3 (List.mem_of_getElem? (i := 53) (by first | exact rfl | decide +kernel)) rfl
theorem wIX7_goes : Cond.instanceMethod yX7_goes ∈ kw_ws := kz_3 (List.mem_of_getElem? (i := 57) (by first | exact rfl | decide +kernel)) rfl
theorem wIX1_hasSet : Cond.instanceMethod yX1_hasSet ∈ kw_ws := kz_3 (List.mem_of_getElem? (i := 61) (by first | exact rfl | decide +kernel)) rfl
theorem wIX1_allLines : Cond.instanceMethod yX1_allLines ∈ kw_ws := kz_3 (List.mem_of_getElem? (i := 65) (by first | exact rfl | decide +kernel)) rfl
theorem wIX7_even : Cond.instanceMethod yX7_even ∈ kw_ws := kz_3 (List.mem_of_getElem? (i := 71) (by first | exact rfl | decide +kernel)) rfl
theorem wIX0_draw : Cond.instanceMethod yX0_draw ∈ kw_ws := kz_3 (List.mem_of_getElem? (i := 75) (by first | exact rfl | decide +kernel)) rfl
theorem wIX0_fits : Cond.instanceMethod yX0_fits ∈ kw_ws := kz_3 (List.mem_of_getElem? (i := 80) (by first | exact rfl | decide +kernel)) rfl
theorem wIX0_milesOf : Cond.instanceMethod yX0_milesOf ∈ kw_ws := kz_3 (List.mem_of_getElem? (i := 84) (by first | exact rfl | decide +kernel)) rfl
theorem wIX0_turnBy : Cond.instanceMethod yX0_turnBy ∈ kw_ws := kz_3 (List.mem_of_getElem? (i := 88) (by first | exact rfl | decide +kernel)) rfl
theorem wIX1_linenOf : Cond.instanceMethod yX1_linenOf ∈ kw_ws := kz_3 (List.mem_of_getElem? (i := 92) (by first | exact rfl | decide +kernel)) rfl
theorem wIX7_fast : Cond.instanceMethod yX7_fast ∈ kw_ws := kz_3 (List.mem_of_getElem? (i := 96) (by first | exact rfl | decide +kernel)) rfl
theorem wIX7_wet : Cond.instanceMethod yX7_wet ∈ kw_ws := kz_3 (List.mem_of_getElem? (i := 101) (by first | exact rfl | decide +kernel)) rfl
theorem wIX5_allWet : Cond.instanceMethod yX5_allWet ∈ kw_ws := kz_3 (List.mem_of_getElem? (i := 105) (by first | exact rfl | decide +kernel)) rfl
theorem wIX7_drySet : Cond.instanceMethod yX7_drySet ∈ kw_ws := kz_3 (List.mem_of_getElem? (i := 111) (by first | exact rfl | decide +kernel)) rfl
theorem wIX7_sail : Cond.instanceMethod yX7_sail ∈ kw_ws := kz_3 (List.mem_of_getElem? (i := 114) (by first | exact rfl | decide +kernel)) rfl
theorem wIX7_planRefusal : Cond.instanceMethod yX7_planRefusal ∈ kw_ws := kz_3 (List.mem_of_getElem? (i := 119) (by first | exact rfl | decide +kernel)) rfl
theorem wIX7_dry : Cond.instanceMethod yX7_dry ∈ kw_ws := kz_3 (List.mem_of_getElem? (i := 123) (by first | exact rfl | decide +kernel)) rfl
theorem wIX7_far : Cond.instanceMethod yX7_far ∈ kw_ws := kz_3 (List.mem_of_getElem? (i := 129) (by first | exact rfl | decide +kernel)) rfl
theorem wIX6_find : Cond.instanceMethod yX6_find ∈ kw_ws := kz_3 (List.mem_of_getElem? (i := 133) (by first | exact rfl | decide +kernel)) rfl
theorem wIX1_mostMilesOf : Cond.instanceMethod yX1_mostMilesOf ∈ kw_ws := kz_3 (List.mem_of_getElem? (i := 141) (by first | exact rfl | decide +kernel)) rfl
theorem wIX6_sailFrom : Cond.instanceMethod yX6_sailFrom ∈ kw_ws := kz_3 (List.mem_of_getElem? (i := 147) (by first | exact rfl | decide +kernel)) rfl
theorem wIX7_soon : Cond.instanceMethod yX7_soon ∈ kw_ws := kz_3 (List.mem_of_getElem? (i := 153) (by first | exact rfl | decide +kernel)) rfl
theorem wIX7_least : Cond.instanceMethod yX7_least ∈ kw_ws := kz_3 (List.mem_of_getElem? (i := 158) (by first | exact rfl | decide +kernel)) rfl
theorem wIX7_mostMilesBehind : Cond.instanceMethod yX7_mostMilesBehind ∈ kw_ws := kz_3 (List.mem_of_getElem? (i := 163) (by first | exact rfl | decide +kernel)) rfl
theorem wIX7_ways : Cond.instanceMethod yX7_ways ∈ kw_ws := kz_3 (List.mem_of_getElem? (i := 166) (by first | exact rfl | decide +kernel)) rfl
theorem wIX7_kinds : Cond.instanceMethod yX7_kinds ∈ kw_ws := kz_3 (List.mem_of_getElem? (i := 170) (by first | exact rfl | decide +kernel)) rfl
theorem wIX7_pairsRefusal : Cond.instanceMethod yX7_pairsRefusal ∈ kw_ws := kz_3 (List.mem_of_getElem? (i := 175) (by first | exact rfl | decide +kernel)) rfl
theorem wIX7_pulledSo : Cond.instanceMethod yX7_pulledSo ∈ kw_ws := kz_3 (List.mem_of_getElem? (i := 179) (by first | exact rfl | decide +kernel)) rfl
theorem wIX7_areas : Cond.instanceMethod yX7_areas ∈ kw_ws := kz_3 (List.mem_of_getElem? (i := 182) (by first | exact rfl | decide +kernel)) rfl
theorem wIX7_rival : Cond.instanceMethod yX7_rival ∈ kw_ws := kz_3 (List.mem_of_getElem? (i := 186) (by first | exact rfl | decide +kernel)) rfl
theorem wIX7_mid : Cond.instanceMethod yX7_mid ∈ kw_ws := kz_3 (List.mem_of_getElem? (i := 193) (by first | exact rfl | decide +kernel)) rfl
theorem wIX7_foresee : Cond.instanceMethod yX7_foresee ∈ kw_ws := kz_3 (List.mem_of_getElem? (i := 198) (by first | exact rfl | decide +kernel)) rfl
theorem wIX4_tellShare : Cond.instanceMethod yX4_tellShare ∈ kw_ws := kz_3 (List.mem_of_getElem? (i := 202) (by first | exact rfl | decide +kernel)) rfl
theorem wIX7_odds : Cond.instanceMethod yX7_odds ∈ kw_ws := kz_3 (List.mem_of_getElem? (i := 212) (by first | exact rfl | decide +kernel)) rfl
theorem wIX7_milesByGusts : Cond.instanceMethod yX7_milesByGusts ∈ kw_ws := kz_3 (List.mem_of_getElem? (i := 217) (by first | exact rfl | decide +kernel)) rfl
theorem wIX7_lots : Cond.instanceMethod yX7_lots ∈ kw_ws := kz_3 (List.mem_of_getElem? (i := 223) (by first | exact rfl | decide +kernel)) rfl
theorem wIX7_asked : Cond.instanceMethod yX7_asked ∈ kw_ws := kz_3 (List.mem_of_getElem? (i := 229) (by first | exact rfl | decide +kernel)) rfl
theorem wIX7_upper : Cond.instanceMethod yX7_upper ∈ kw_ws := kz_3 (List.mem_of_getElem? (i := 233) (by first | exact rfl | decide +kernel)) rfl
theorem wIX7_lower : Cond.instanceMethod yX7_lower ∈ kw_ws := kz_3 (List.mem_of_getElem? (i := 237) (by first | exact rfl | decide +kernel)) rfl
theorem wIX7_count : Cond.instanceMethod yX7_count ∈ kw_ws := kz_4 (List.mem_of_getElem? (i := 1) (by first | exact rfl | decide +kernel)) rfl
theorem wIX1_howManyAre : Cond.instanceMethod yX1_howManyAre ∈ kw_ws := kz_4 (List.mem_of_getElem? (i := 5) (by first | exact rfl | decide +kernel)) rfl
theorem wIX3_howMany : Cond.instanceMethod yX3_howMany ∈ kw_ws := kz_4 (List.mem_of_getElem? (i := 10) (by first | exact rfl | decide +kernel)) rfl
theorem wIX7_miles : Cond.instanceMethod yX7_miles ∈ kw_ws := kz_4 (List.mem_of_getElem? (i := 14) (by first | exact rfl | decide +kernel)) rfl
theorem wIX7_finding : Cond.instanceMethod yX7_finding ∈ kw_ws := kz_4 (List.mem_of_getElem? (i := 18) (by first | exact rfl | decide +kernel)) rfl
theorem wIX7_findings : Cond.instanceMethod yX7_findings ∈ kw_ws := kz_4 (List.mem_of_getElem? (i := 22) (by first | exact rfl | decide +kernel)) rfl
theorem wIX7_digest : Cond.instanceMethod yX7_digest ∈ kw_ws := kz_4 (List.mem_of_getElem? (i := 26) (by first | exact rfl | decide +kernel)) rfl
theorem wIX3_fold : Cond.instanceMethod yX3_fold ∈ kw_ws := kz_4 (List.mem_of_getElem? (i := 33) (by first | exact rfl | decide +kernel)) rfl
theorem wIX8_row : Cond.instanceMethod yX8_row ∈ kw_ws := kz_4 (List.mem_of_getElem? (i := 156) (by first | exact rfl | decide +kernel)) rfl
theorem wIX8_meet : Cond.instanceMethod yX8_meet ∈ kw_ws := kz_4 (List.mem_of_getElem? (i := 167) (by first | exact rfl | decide +kernel)) rfl
theorem wIX8_setRow : Cond.instanceMethod yX8_setRow ∈ kw_ws := kz_4 (List.mem_of_getElem? (i := 171) (by first | exact rfl | decide +kernel)) rfl
theorem wIX8_at : Cond.instanceMethod yX8_at ∈ kw_ws := kz_4 (List.mem_of_getElem? (i := 174) (by first | exact rfl | decide +kernel)) rfl
theorem wIX8_askedRow : Cond.instanceMethod yX8_askedRow ∈ kw_ws := kz_4 (List.mem_of_getElem? (i := 179) (by first | exact rfl | decide +kernel)) rfl
theorem wIX8_rowAt : Cond.instanceMethod yX8_rowAt ∈ kw_ws := kz_4 (List.mem_of_getElem? (i := 183) (by first | exact rfl | decide +kernel)) rfl
theorem wIX8_ask : Cond.instanceMethod yX8_ask ∈ kw_ws := kz_4 (List.mem_of_getElem? (i := 187) (by first | exact rfl | decide +kernel)) rfl
theorem wIX8_lay : Cond.instanceMethod yX8_lay ∈ kw_ws := kz_4 (List.mem_of_getElem? (i := 190) (by first | exact rfl | decide +kernel)) rfl
theorem wIX8_tear : Cond.instanceMethod yX8_tear ∈ kw_ws := kz_4 (List.mem_of_getElem? (i := 195) (by first | exact rfl | decide +kernel)) rfl
theorem wIX8_copy : Cond.instanceMethod yX8_copy ∈ kw_ws := kz_4 (List.mem_of_getElem? (i := 199) (by first | exact rfl | decide +kernel)) rfl
theorem wIX8_mean : Cond.instanceMethod yX8_mean ∈ kw_ws := kz_4 (List.mem_of_getElem? (i := 203) (by first | exact rfl | decide +kernel)) rfl
theorem wIX8_text : Cond.instanceMethod yX8_text ∈ kw_ws := kz_4 (List.mem_of_getElem? (i := 207) (by first | exact rfl | decide +kernel)) rfl
theorem wIX8_put : Cond.instanceMethod yX8_put ∈ kw_ws := kz_4 (List.mem_of_getElem? (i := 214) (by first | exact rfl | decide +kernel)) rfl
theorem wIX8_askedText : Cond.instanceMethod yX8_askedText ∈ kw_ws := kz_4 (List.mem_of_getElem? (i := 219) (by first | exact rfl | decide +kernel)) rfl
theorem wIX8_fault : Cond.instanceMethod yX8_fault ∈ kw_ws := kz_4 (List.mem_of_getElem? (i := 222) (by first | exact rfl | decide +kernel)) rfl
theorem wIX8_goesOn : Cond.instanceMethod yX8_goesOn ∈ kw_ws := kz_4 (List.mem_of_getElem? (i := 227) (by first | exact rfl | decide +kernel)) rfl
theorem wIX8_readsTown : Cond.instanceMethod yX8_readsTown ∈ kw_ws := kz_4 (List.mem_of_getElem? (i := 231) (by first | exact rfl | decide +kernel)) rfl
theorem wIX8_readsWinds : Cond.instanceMethod yX8_readsWinds ∈ kw_ws := kz_4 (List.mem_of_getElem? (i := 235) (by first | exact rfl | decide +kernel)) rfl
theorem wIX8_skip : Cond.instanceMethod yX8_skip ∈ kw_ws := kz_4 (List.mem_of_getElem? (i := 239) (by first | exact rfl | decide +kernel)) rfl
theorem wIX8_here : Cond.instanceMethod yX8_here ∈ kw_ws := kz_5 (List.mem_of_getElem? (i := 3) (by first | exact rfl | decide +kernel)) rfl
theorem wIX8_readsLine : Cond.instanceMethod yX8_readsLine ∈ kw_ws := kz_5 (List.mem_of_getElem? (i := 7) (by first | exact rfl | decide +kernel)) rfl
theorem wIX8_figure : Cond.instanceMethod yX8_figure ∈ kw_ws := kz_5 (List.mem_of_getElem? (i := 14) (by first | exact rfl | decide +kernel)) rfl
theorem wIX8_town : Cond.instanceMethod yX8_town ∈ kw_ws := kz_5 (List.mem_of_getElem? (i := 17) (by first | exact rfl | decide +kernel)) rfl
theorem wIX8_hang : Cond.instanceMethod yX8_hang ∈ kw_ws := kz_5 (List.mem_of_getElem? (i := 21) (by first | exact rfl | decide +kernel)) rfl
theorem wIX8_isLine : Cond.instanceMethod yX8_isLine ∈ kw_ws := kz_5 (List.mem_of_getElem? (i := 26) (by first | exact rfl | decide +kernel)) rfl
theorem wIX8_turnLine : Cond.instanceMethod yX8_turnLine ∈ kw_ws := kz_5 (List.mem_of_getElem? (i := 33) (by first | exact rfl | decide +kernel)) rfl
theorem wIX8_note : Cond.instanceMethod yX8_note ∈ kw_ws := kz_5 (List.mem_of_getElem? (i := 37) (by first | exact rfl | decide +kernel)) rfl
theorem wIX8_write : Cond.instanceMethod yX8_write ∈ kw_ws := kz_5 (List.mem_of_getElem? (i := 41) (by first | exact rfl | decide +kernel)) rfl
theorem wIX8_take : Cond.instanceMethod yX8_take ∈ kw_ws := kz_5 (List.mem_of_getElem? (i := 47) (by first | exact rfl | decide +kernel)) rfl
theorem wIX8_hour : Cond.instanceMethod yX8_hour ∈ kw_ws := kz_5 (List.mem_of_getElem? (i := 51) (by first | exact rfl | decide +kernel)) rfl
theorem wIX8_pass : Cond.instanceMethod yX8_pass ∈ kw_ws := kz_5 (List.mem_of_getElem? (i := 56) (by first | exact rfl | decide +kernel)) rfl
theorem wIX8_windAt : Cond.instanceMethod yX8_windAt ∈ kw_ws := kz_5 (List.mem_of_getElem? (i := 60) (by first | exact rfl | decide +kernel)) rfl
theorem wIX8_milesBy : Cond.instanceMethod yX8_milesBy ∈ kw_ws := kz_5 (List.mem_of_getElem? (i := 64) (by first | exact rfl | decide +kernel)) rfl
theorem wIX8_pullOf : Cond.instanceMethod yX8_pullOf ∈ kw_ws := kz_5 (List.mem_of_getElem? (i := 68) (by first | exact rfl | decide +kernel)) rfl
theorem wIX8_turnBy : Cond.instanceMethod yX8_turnBy ∈ kw_ws := kz_5 (List.mem_of_getElem? (i := 75) (by first | exact rfl | decide +kernel)) rfl
theorem wIX8_wetBehind : Cond.instanceMethod yX8_wetBehind ∈ kw_ws := kz_5 (List.mem_of_getElem? (i := 79) (by first | exact rfl | decide +kernel)) rfl
theorem wIX8_part : Cond.instanceMethod yX8_part ∈ kw_ws := kz_5 (List.mem_of_getElem? (i := 83) (by first | exact rfl | decide +kernel)) rfl
theorem wIX8_undo : Cond.instanceMethod yX8_undo ∈ kw_ws := kz_5 (List.mem_of_getElem? (i := 86) (by first | exact rfl | decide +kernel)) rfl
theorem wIX8_read : Cond.instanceMethod yX8_read ∈ kw_ws := kz_5 (List.mem_of_getElem? (i := 91) (by first | exact rfl | decide +kernel)) rfl
theorem wIX8_keep : Cond.instanceMethod yX8_keep ∈ kw_ws := kz_5 (List.mem_of_getElem? (i := 94) (by first | exact rfl | decide +kernel)) rfl
theorem wIX8_on : Cond.instanceMethod yX8_on ∈ kw_ws := kz_5 (List.mem_of_getElem? (i := 98) (by first | exact rfl | decide +kernel)) rfl
theorem wIX8_line : Cond.instanceMethod yX8_line ∈ kw_ws := kz_5 (List.mem_of_getElem? (i := 102) (by first | exact rfl | decide +kernel)) rfl
theorem wIX8_lineOf : Cond.instanceMethod yX8_lineOf ∈ kw_ws := kz_5 (List.mem_of_getElem? (i := 107) (by first | exact rfl | decide +kernel)) rfl
theorem wIX8_mark : Cond.instanceMethod yX8_mark ∈ kw_ws := kz_5 (List.mem_of_getElem? (i := 110) (by first | exact rfl | decide +kernel)) rfl
theorem wIX8_hoursTill : Cond.instanceMethod yX8_hoursTill ∈ kw_ws := kz_5 (List.mem_of_getElem? (i := 118) (by first | exact rfl | decide +kernel)) rfl
theorem wIX8_lesserOnes : Cond.instanceMethod yX8_lesserOnes ∈ kw_ws := kz_5 (List.mem_of_getElem? (i := 122) (by first | exact rfl | decide +kernel)) rfl
theorem wIX8_wind : Cond.instanceMethod yX8_wind ∈ kw_ws := kz_5 (List.mem_of_getElem? (i := 125) (by first | exact rfl | decide +kernel)) rfl
theorem wIX8_goes : Cond.instanceMethod yX8_goes ∈ kw_ws := kz_5 (List.mem_of_getElem? (i := 129) (by first | exact rfl | decide +kernel)) rfl
theorem wIX8_isSet : Cond.instanceMethod yX8_isSet ∈ kw_ws := kz_5 (List.mem_of_getElem? (i := 134) (by first | exact rfl | decide +kernel)) rfl
theorem wIX8_even : Cond.instanceMethod yX8_even ∈ kw_ws := kz_5 (List.mem_of_getElem? (i := 137) (by first | exact rfl | decide +kernel)) rfl
theorem wIX8_linenOf : Cond.instanceMethod yX8_linenOf ∈ kw_ws := kz_5 (List.mem_of_getElem? (i := 142) (by first | exact rfl | decide +kernel)) rfl
theorem wIX8_fast : Cond.instanceMethod yX8_fast ∈ kw_ws := kz_5 (List.mem_of_getElem? (i := 145) (by first | exact rfl | decide +kernel)) rfl
theorem wIX8_wet : Cond.instanceMethod yX8_wet ∈ kw_ws := kz_5 (List.mem_of_getElem? (i := 149) (by first | exact rfl | decide +kernel)) rfl
theorem wIX8_wetOfAll : Cond.instanceMethod yX8_wetOfAll ∈ kw_ws := kz_5 (List.mem_of_getElem? (i := 154) (by first | exact rfl | decide +kernel)) rfl
theorem wIX8_sail : Cond.instanceMethod yX8_sail ∈ kw_ws := kz_5 (List.mem_of_getElem? (i := 157) (by first | exact rfl | decide +kernel)) rfl
theorem wIX8_askedPlan : Cond.instanceMethod yX8_askedPlan ∈ kw_ws := kz_5 (List.mem_of_getElem? (i := 162) (by first | exact rfl | decide +kernel)) rfl
theorem wIX8_dry : Cond.instanceMethod yX8_dry ∈ kw_ws := kz_5 (List.mem_of_getElem? (i := 165) (by first | exact rfl | decide +kernel)) rfl
theorem wIX8_far : Cond.instanceMethod yX8_far ∈ kw_ws := kz_5 (List.mem_of_getElem? (i := 169) (by first | exact rfl | decide +kernel)) rfl
theorem wIX8_setHours : Cond.instanceMethod yX8_setHours ∈ kw_ws := kz_5 (List.mem_of_getElem? (i := 174) (by first | exact rfl | decide +kernel)) rfl
theorem wIX8_farBy : Cond.instanceMethod yX8_farBy ∈ kw_ws := kz_5 (List.mem_of_getElem? (i := 178) (by first | exact rfl | decide +kernel)) rfl
theorem wIX8_soon : Cond.instanceMethod yX8_soon ∈ kw_ws := kz_5 (List.mem_of_getElem? (i := 185) (by first | exact rfl | decide +kernel)) rfl
theorem wIX8_mostOf : Cond.instanceMethod yX8_mostOf ∈ kw_ws := kz_5 (List.mem_of_getElem? (i := 190) (by first | exact rfl | decide +kernel)) rfl
theorem wIX8_least : Cond.instanceMethod yX8_least ∈ kw_ws := kz_5 (List.mem_of_getElem? (i := 196) (by first | exact rfl | decide +kernel)) rfl
theorem wIX8_ways : Cond.instanceMethod yX8_ways ∈ kw_ws := kz_5 (List.mem_of_getElem? (i := 200) (by first | exact rfl | decide +kernel)) rfl
theorem wIX8_kinds : Cond.instanceMethod yX8_kinds ∈ kw_ws := kz_5 (List.mem_of_getElem? (i := 204) (by first | exact rfl | decide +kernel)) rfl
theorem wIX8_askedPulls : Cond.instanceMethod yX8_askedPulls ∈ kw_ws := kz_5 (List.mem_of_getElem? (i := 209) (by first | exact rfl | decide +kernel)) rfl
theorem wIX8_pullsSo : Cond.instanceMethod yX8_pullsSo ∈ kw_ws := kz_5 (List.mem_of_getElem? (i := 213) (by first | exact rfl | decide +kernel)) rfl
theorem wIX8_areas : Cond.instanceMethod yX8_areas ∈ kw_ws := kz_5 (List.mem_of_getElem? (i := 216) (by first | exact rfl | decide +kernel)) rfl
theorem wIX8_rival : Cond.instanceMethod yX8_rival ∈ kw_ws := kz_5 (List.mem_of_getElem? (i := 220) (by first | exact rfl | decide +kernel)) rfl
theorem wIX8_mid : Cond.instanceMethod yX8_mid ∈ kw_ws := kz_5 (List.mem_of_getElem? (i := 224) (by first | exact rfl | decide +kernel)) rfl
theorem wIX8_gustMiles : Cond.instanceMethod yX8_gustMiles ∈ kw_ws := kz_5 (List.mem_of_getElem? (i := 229) (by first | exact rfl | decide +kernel)) rfl
theorem wIX8_weightOf : Cond.instanceMethod yX8_weightOf ∈ kw_ws := kz_5 (List.mem_of_getElem? (i := 233) (by first | exact rfl | decide +kernel)) rfl
theorem wIX8_odds : Cond.instanceMethod yX8_odds ∈ kw_ws := kz_6 (List.mem_of_getElem? (i := 0) (by first | exact rfl | decide +kernel)) rfl
theorem wIX8_lots : Cond.instanceMethod yX8_lots ∈ kw_ws := kz_6 (List.mem_of_getElem? (i := 4) (by first | exact rfl | decide +kernel)) rfl
theorem wIX8_asked : Cond.instanceMethod yX8_asked ∈ kw_ws := kz_6 (List.mem_of_getElem? (i := 11) (by first | exact rfl | decide +kernel)) rfl
theorem wIX8_upper : Cond.instanceMethod yX8_upper ∈ kw_ws := kz_6 (List.mem_of_getElem? (i := 15) (by first | exact rfl | decide +kernel)) rfl
theorem wIX8_lower : Cond.instanceMethod yX8_lower ∈ kw_ws := kz_6 (List.mem_of_getElem? (i := 19) (by first | exact rfl | decide +kernel)) rfl
theorem wIX8_count : Cond.instanceMethod yX8_count ∈ kw_ws := kz_6 (List.mem_of_getElem? (i := 23) (by first | exact rfl | decide +kernel)) rfl
theorem wIX8_tells : Cond.instanceMethod yX8_tells ∈ kw_ws := kz_6 (List.mem_of_getElem? (i := 28) (by first | exact rfl | decide +kernel)) rfl
theorem wIX8_howMany : Cond.instanceMethod yX8_howMany ∈ kw_ws := kz_6 (List.mem_of_getElem? (i := 32) (by first | exact rfl | decide +kernel)) rfl
theorem wIX8_there : Cond.instanceMethod yX8_there ∈ kw_ws := kz_6 (List.mem_of_getElem? (i := 36) (by first | exact rfl | decide +kernel)) rfl
theorem wIX8_miles : Cond.instanceMethod yX8_miles ∈ kw_ws := kz_6 (List.mem_of_getElem? (i := 39) (by first | exact rfl | decide +kernel)) rfl
theorem wIX8_finding : Cond.instanceMethod yX8_finding ∈ kw_ws := kz_6 (List.mem_of_getElem? (i := 43) (by first | exact rfl | decide +kernel)) rfl
theorem wIX8_findings : Cond.instanceMethod yX8_findings ∈ kw_ws := kz_6 (List.mem_of_getElem? (i := 47) (by first | exact rfl | decide +kernel)) rfl
theorem wIX8_digest : Cond.instanceMethod yX8_digest ∈ kw_ws := kz_6 (List.mem_of_getElem? (i := 51) (by first | exact rfl | decide +kernel)) rfl
theorem wIX8_mix : Cond.instanceMethod yX8_mix ∈ kw_ws := kz_6 (List.mem_of_getElem? (i := 57) (by first | exact rfl | decide +kernel)) rfl
theorem wIX8_mixTown : Cond.instanceMethod yX8_mixTown ∈ kw_ws := kz_6 (List.mem_of_getElem? (i := 62) (by first | exact rfl | decide +kernel)) rfl
theorem wVX7_row : Cond.selects RX7 yX7_row yX7_row ∈ kw_ws := kz_2 (List.mem_of_getElem? (i := 29) (by first | exact rfl | decide +kernel)) rfl
theorem wVX3_has : Cond.selects RX3 yX3_has yX3_has ∈ kw_ws := kz_2 (List.mem_of_getElem? (i := 37) (by first | exact rfl | decide +kernel)) rfl
theorem wVX4_refuse : Cond.selects RX4 yX4_refuse yX4_refuse ∈ kw_ws := kz_2 (List.mem_of_getElem? (i := 41) (by first | exact rfl | decide +kernel)) rfl
theorem wVX3_make : Cond.selects RX3 yX3_make yX3_make ∈ kw_ws := kz_2 (List.mem_of_getElem? (i := 45) (by first | exact rfl | decide +kernel)) rfl
theorem wVX7_lay : Cond.selects RX7 yX7_lay yX7_lay ∈ kw_ws := kz_2 (List.mem_of_getElem? (i := 50) (by first | exact rfl | decide +kernel)) rfl
theorem wVX3_findingAt : Cond.selects RX3 yX3_findingAt yX3_findingAt ∈ kw_ws := kz_2 (List.mem_of_getElem? (i := 54) (by first | exact rfl | decide +kernel)) rfl
theorem wVX3_isMissing : Cond.selects RX3 yX3_isMissing yX3_isMissing ∈ kw_ws := kz_2 (List.mem_of_getElem? (i := 58) (by first | exact rfl | decide +kernel)) rfl
theorem wVX3_sizeOf : Cond.selects RX3 yX3_sizeOf yX3_sizeOf ∈ kw_ws := kz_2 (List.mem_of_getElem? (i := 62) (by first | exact rfl | decide +kernel)) rfl
theorem wVX3_hasPlaces : Cond.selects RX3 yX3_hasPlaces yX3_hasPlaces ∈ kw_ws := kz_2 (List.mem_of_getElem? (i := 66) (by first | exact rfl | decide +kernel)) rfl
theorem wVX3_valueAt : Cond.selects RX3 yX3_valueAt yX3_valueAt ∈ kw_ws := kz_2 (List.mem_of_getElem? (i := 70) (by first | exact rfl | decide +kernel)) rfl
theorem wVX3_change : Cond.selects RX3 yX3_change yX3_change ∈ kw_ws := kz_2 (List.mem_of_getElem? (i := 74) (by first | exact rfl | decide +kernel)) rfl
theorem wVX4_answer : Cond.selects RX4 yX4_answer yX4_answer ∈ kw_ws := kz_2 (List.mem_of_getElem? (i := 78) (by first | exact rfl | decide +kernel)) rfl
theorem wVX7_at : Cond.selects RX7 yX7_at yX7_at ∈ kw_ws := kz_2 (List.mem_of_getElem? (i := 82) (by first | exact rfl | decide +kernel)) rfl
theorem wVX7_tear : Cond.selects RX7 yX7_tear yX7_tear ∈ kw_ws := kz_2 (List.mem_of_getElem? (i := 86) (by first | exact rfl | decide +kernel)) rfl
theorem wVX3_drop : Cond.selects RX3 yX3_drop yX3_drop ∈ kw_ws := kz_2 (List.mem_of_getElem? (i := 91) (by first | exact rfl | decide +kernel)) rfl
theorem wVX7_copy : Cond.selects RX7 yX7_copy yX7_copy ∈ kw_ws := kz_2 (List.mem_of_getElem? (i := 95) (by first | exact rfl | decide +kernel)) rfl
theorem wVX3_move : Cond.selects RX3 yX3_move yX3_move ∈ kw_ws := kz_2 (List.mem_of_getElem? (i := 100) (by first | exact rfl | decide +kernel)) rfl
theorem wVX7_mean : Cond.selects RX7 yX7_mean yX7_mean ∈ kw_ws := kz_2 (List.mem_of_getElem? (i := 107) (by first | exact rfl | decide +kernel)) rfl
theorem wVX7_text : Cond.selects RX7 yX7_text yX7_text ∈ kw_ws := kz_2 (List.mem_of_getElem? (i := 112) (by first | exact rfl | decide +kernel)) rfl
theorem wVX7_put : Cond.selects RX7 yX7_put yX7_put ∈ kw_ws := kz_2 (List.mem_of_getElem? (i := 116) (by first | exact rfl | decide +kernel)) rfl
theorem wVX7_fault : Cond.selects RX7 yX7_fault yX7_fault ∈ kw_ws := kz_2 (List.mem_of_getElem? (i := 120) (by first | exact rfl | decide +kernel)) rfl
theorem wVX2_faultOf : Cond.selects RX2 yX2_faultOf yX2_faultOf ∈ kw_ws := kz_2 (List.mem_of_getElem? (i := 124) (by first | exact rfl | decide +kernel)) rfl
theorem wVX7_town : Cond.selects RX7 yX7_town yX7_town ∈ kw_ws := kz_2 (List.mem_of_getElem? (i := 151) (by first | exact rfl | decide +kernel)) rfl
theorem wVX1_copyFrom : Cond.selects RX1 yX1_copyFrom yX1_copyFrom ∈ kw_ws := kz_2 (List.mem_of_getElem? (i := 155) (by first | exact rfl | decide +kernel)) rfl
theorem wVX5_replay : Cond.selects RX5 yX5_replay yX5_replay ∈ kw_ws := kz_2 (List.mem_of_getElem? (i := 160) (by first | exact rfl | decide +kernel)) rfl
theorem wVX5_act : Cond.selects RX5 yX5_act yX5_act ∈ kw_ws := kz_2 (List.mem_of_getElem? (i := 165) (by first | exact rfl | decide +kernel)) rfl
theorem wVX5_hasRoomFor : Cond.selects RX5 yX5_hasRoomFor yX5_hasRoomFor ∈ kw_ws := kz_2 (List.mem_of_getElem? (i := 169) (by first | exact rfl | decide +kernel)) rfl
theorem wVX5_windNow : Cond.selects RX5 yX5_windNow yX5_windNow ∈ kw_ws := kz_2 (List.mem_of_getElem? (i := 177) (by first | exact rfl | decide +kernel)) rfl
theorem wVX1_windAt : Cond.selects RX1 yX1_windAt yX1_windAt ∈ kw_ws := kz_2 (List.mem_of_getElem? (i := 181) (by first | exact rfl | decide +kernel)) rfl
theorem wVX1_milesOf : Cond.selects RX1 yX1_milesOf yX1_milesOf ∈ kw_ws := kz_2 (List.mem_of_getElem? (i := 185) (by first | exact rfl | decide +kernel)) rfl
theorem wVX1_pullOf : Cond.selects RX1 yX1_pullOf yX1_pullOf ∈ kw_ws := kz_2 (List.mem_of_getElem? (i := 189) (by first | exact rfl | decide +kernel)) rfl
theorem wVX1_hasLine : Cond.selects RX1 yX1_hasLine yX1_hasLine ∈ kw_ws := kz_2 (List.mem_of_getElem? (i := 193) (by first | exact rfl | decide +kernel)) rfl
theorem wVX1_turnOf : Cond.selects RX1 yX1_turnOf yX1_turnOf ∈ kw_ws := kz_2 (List.mem_of_getElem? (i := 200) (by first | exact rfl | decide +kernel)) rfl
theorem wVX7_line : Cond.selects RX7 yX7_line yX7_line ∈ kw_ws := kz_2 (List.mem_of_getElem? (i := 213) (by first | exact rfl | decide +kernel)) rfl
theorem wVX5_trait : Cond.selects RX5 yX5_trait yX5_trait ∈ kw_ws := kz_2 (List.mem_of_getElem? (i := 218) (by first | exact rfl | decide +kernel)) rfl
theorem wVX5_isHung : Cond.selects RX5 yX5_isHung yX5_isHung ∈ kw_ws := kz_2 (List.mem_of_getElem? (i := 223) (by first | exact rfl | decide +kernel)) rfl
theorem wVX7_mark : Cond.selects RX7 yX7_mark yX7_mark ∈ kw_ws := kz_2 (List.mem_of_getElem? (i := 228) (by first | exact rfl | decide +kernel)) rfl
theorem wVX5_hoursToStorm : Cond.selects RX5 yX5_hoursToStorm yX5_hoursToStorm ∈ kw_ws := kz_2 (List.mem_of_getElem? (i := 238) (by first | exact rfl | decide +kernel)) rfl
theorem wVX5_windAhead : Cond.selects RX5 yX5_windAhead yX5_windAhead ∈ kw_ws := kz_3 (List.mem_of_getElem? (i := 2) (by first | exact rfl | decide +kernel)) rfl
theorem wVX1_othersNoWider : Cond.selects RX1 yX1_othersNoWider yX1_othersNoWider ∈ kw_ws := kz_3 (List.mem_of_getElem? (i := 12) (by first | exact rfl | decide +kernel)) rfl
theorem wVX7_wind : Cond.selects RX7 yX7_wind yX7_wind ∈ kw_ws := kz_3 (List.mem_of_getElem? (i := 18) (by first | exact rfl | decide +kernel)) rfl
theorem wVX5_isEmpty : Cond.selects RX5 yX5_isEmpty yX5_isEmpty ∈ kw_ws := kz_3 (List.mem_of_getElem? (i := 22) (by first | exact rfl | decide +kernel)) rfl
theorem wVX7_hang : Cond.selects RX7 yX7_hang yX7_hang ∈ kw_ws := kz_3 (List.mem_of_getElem? (i := 27) (by first | exact rfl | decide +kernel)) rfl
theorem wVX7_take : Cond.selects RX7 yX7_take yX7_take ∈ kw_ws := kz_3 (List.mem_of_getElem? (i := 34) (by first | exact rfl | decide +kernel)) rfl
theorem wVX7_hour : Cond.selects RX7 yX7_hour yX7_hour ∈ kw_ws := kz_3 (List.mem_of_getElem? (i := 38) (by first | exact rfl | decide +kernel)) rfl
theorem wVX4_tellWhole : Cond.selects RX4 yX4_tellWhole yX4_tellWhole ∈ kw_ws := kz_3 (List.mem_of_getElem? (i := 42) (by first | exact rfl | decide +kernel)) rfl
theorem wVX7_undo : Cond.selects RX7 yX7_undo yX7_undo ∈ kw_ws := kz_3 (List.mem_of_getElem? (i := 46) (by first | exact rfl | decide +kernel)) rfl
theorem wVX7_keep : Cond.selects RX7 yX7_keep yX7_keep ∈ kw_ws := kz_3 (List.mem_of_getElem? (i := 50) (by first | exact rfl | decide +kernel)) rfl
theorem wVX7_on : Cond.selects RX7 yX7_on yX7_on ∈ kw_ws := kz_3 (List.mem_of_getElem? (i := 54) (by first | exact rfl | decide +kernel)) rfl
theorem wVX7_goes : Cond.selects RX7 yX7_goes yX7_goes ∈ kw_ws := kz_3 (List.mem_of_getElem? (i := 58) (by first | exact rfl | decide +kernel)) rfl
theorem wVX1_hasSet : Cond.selects RX1 yX1_hasSet yX1_hasSet ∈ kw_ws := kz_3 (List.mem_of_getElem? (i := 62) (by first | exact rfl | decide +kernel)) rfl
theorem wVX1_allLines : Cond.selects RX1 yX1_allLines yX1_allLines ∈ kw_ws := kz_3 (List.mem_of_getElem? (i := 66) (by first | exact rfl | decide +kernel)) rfl
theorem wVX7_even : Cond.selects RX7 yX7_even yX7_even ∈ kw_ws := kz_3 (List.mem_of_getElem? (i := 72) (by first | exact rfl | decide +kernel)) rfl
theorem wVX0_draw : Cond.selects RX0 yX0_draw yX0_draw ∈ kw_ws := kz_3 (List.mem_of_getElem? (i := 76) (by first | exact rfl | decide +kernel)) rfl
theorem wVX0_fits : Cond.selects RX0 yX0_fits yX0_fits ∈ kw_ws := kz_3 (List.mem_of_getElem? (i := 81) (by first | exact rfl | decide +kernel)) rfl
theorem wVX0_milesOf : Cond.selects RX0 yX0_milesOf yX0_milesOf ∈ kw_ws := kz_3 (List.mem_of_getElem? (i := 85) (by first | exact rfl | decide +kernel)) rfl
theorem wVX0_turnBy : Cond.selects RX0 yX0_turnBy yX0_turnBy ∈ kw_ws := kz_3 (List.mem_of_getElem? (i := 89) (by first | exact rfl | decide +kernel)) rfl
theorem wVX1_linenOf : Cond.selects RX1 yX1_linenOf yX1_linenOf ∈ kw_ws := kz_3 (List.mem_of_getElem? (i := 93) (by first | exact rfl | decide +kernel)) rfl
theorem wVX7_fast : Cond.selects RX7 yX7_fast yX7_fast ∈ kw_ws := kz_3 (List.mem_of_getElem? (i := 97) (by first | exact rfl | decide +kernel)) rfl
theorem wVX7_wet : Cond.selects RX7 yX7_wet yX7_wet ∈ kw_ws := kz_3 (List.mem_of_getElem? (i := 102) (by first | exact rfl | decide +kernel)) rfl
theorem wVX5_allWet : Cond.selects RX5 yX5_allWet yX5_allWet ∈ kw_ws := kz_3 (List.mem_of_getElem? (i := 106) (by first | exact rfl | decide +kernel)) rfl
theorem wVX7_sail : Cond.selects RX7 yX7_sail yX7_sail ∈ kw_ws := kz_3 (List.mem_of_getElem? (i := 115) (by first | exact rfl | decide +kernel)) rfl
theorem wVX7_dry : Cond.selects RX7 yX7_dry yX7_dry ∈ kw_ws := kz_3 (List.mem_of_getElem? (i := 124) (by first | exact rfl | decide +kernel)) rfl
theorem wVX7_far : Cond.selects RX7 yX7_far yX7_far ∈ kw_ws := kz_3 (List.mem_of_getElem? (i := 130) (by first | exact rfl | decide +kernel)) rfl
theorem wVX6_find : Cond.selects RX6 yX6_find yX6_find ∈ kw_ws := kz_3 (List.mem_of_getElem? (i := 134) (by first | exact rfl | decide +kernel)) rfl
theorem wVX1_mostMilesOf : Cond.selects RX1 yX1_mostMilesOf yX1_mostMilesOf ∈ kw_ws := kz_3 (List.mem_of_getElem? (i := 142) (by first | exact rfl | decide +kernel)) rfl
theorem wVX7_soon : Cond.selects RX7 yX7_soon yX7_soon ∈ kw_ws := kz_3 (List.mem_of_getElem? (i := 154) (by first | exact rfl | decide +kernel)) rfl
theorem wVX7_least : Cond.selects RX7 yX7_least yX7_least ∈ kw_ws := kz_3 (List.mem_of_getElem? (i := 159) (by first | exact rfl | decide +kernel)) rfl
theorem wVX7_ways : Cond.selects RX7 yX7_ways yX7_ways ∈ kw_ws := kz_3 (List.mem_of_getElem? (i := 167) (by first | exact rfl | decide +kernel)) rfl
theorem wVX7_kinds : Cond.selects RX7 yX7_kinds yX7_kinds ∈ kw_ws := kz_3 (List.mem_of_getElem? (i := 171) (by first | exact rfl | decide +kernel)) rfl
theorem wVX7_areas : Cond.selects RX7 yX7_areas yX7_areas ∈ kw_ws := kz_3 (List.mem_of_getElem? (i := 183) (by first | exact rfl | decide +kernel)) rfl
theorem wVX7_rival : Cond.selects RX7 yX7_rival yX7_rival ∈ kw_ws := kz_3 (List.mem_of_getElem? (i := 187) (by first | exact rfl | decide +kernel)) rfl
theorem wVX7_mid : Cond.selects RX7 yX7_mid yX7_mid ∈ kw_ws := kz_3 (List.mem_of_getElem? (i := 194) (by first | exact rfl | decide +kernel)) rfl
theorem wVX4_tellShare : Cond.selects RX4 yX4_tellShare yX4_tellShare ∈ kw_ws := kz_3 (List.mem_of_getElem? (i := 203) (by first | exact rfl | decide +kernel)) rfl
theorem wVX7_odds : Cond.selects RX7 yX7_odds yX7_odds ∈ kw_ws := kz_3 (List.mem_of_getElem? (i := 213) (by first | exact rfl | decide +kernel)) rfl
theorem wVX7_lots : Cond.selects RX7 yX7_lots yX7_lots ∈ kw_ws := kz_3 (List.mem_of_getElem? (i := 224) (by first | exact rfl | decide +kernel)) rfl
theorem wVX7_asked : Cond.selects RX7 yX7_asked yX7_asked ∈ kw_ws := kz_3 (List.mem_of_getElem? (i := 230) (by first | exact rfl | decide +kernel)) rfl
theorem wVX7_upper : Cond.selects RX7 yX7_upper yX7_upper ∈ kw_ws := kz_3 (List.mem_of_getElem? (i := 234) (by first | exact rfl | decide +kernel)) rfl
theorem wVX7_lower : Cond.selects RX7 yX7_lower yX7_lower ∈ kw_ws := kz_3 (List.mem_of_getElem? (i := 238) (by first | exact rfl | decide +kernel)) rfl
theorem wVX7_count : Cond.selects RX7 yX7_count yX7_count ∈ kw_ws := kz_4 (List.mem_of_getElem? (i := 2) (by first | exact rfl | decide +kernel)) rfl
theorem wVX1_howManyAre : Cond.selects RX1 yX1_howManyAre yX1_howManyAre ∈ kw_ws := kz_4 (List.mem_of_getElem? (i := 6) (by first | exact rfl | decide +kernel)) rfl
theorem wVX3_howMany : Cond.selects RX3 yX3_howMany yX3_howMany ∈ kw_ws := kz_4 (List.mem_of_getElem? (i := 11) (by first | exact rfl | decide +kernel)) rfl
theorem wVX7_miles : Cond.selects RX7 yX7_miles yX7_miles ∈ kw_ws := kz_4 (List.mem_of_getElem? (i := 15) (by first | exact rfl | decide +kernel)) rfl
theorem wVX7_finding : Cond.selects RX7 yX7_finding yX7_finding ∈ kw_ws := kz_4 (List.mem_of_getElem? (i := 19) (by first | exact rfl | decide +kernel)) rfl
theorem wVX7_findings : Cond.selects RX7 yX7_findings yX7_findings ∈ kw_ws := kz_4 (List.mem_of_getElem? (i := 23) (by first | exact rfl | decide +kernel)) rfl
theorem wVX7_digest : Cond.selects RX7 yX7_digest yX7_digest ∈ kw_ws := kz_4 (List.mem_of_getElem? (i := 27) (by first | exact rfl | decide +kernel)) rfl
theorem wVX3_fold : Cond.selects RX3 yX3_fold yX3_fold ∈ kw_ws := kz_4 (List.mem_of_getElem? (i := 34) (by first | exact rfl | decide +kernel)) rfl
theorem wVX8_row : Cond.selects RX8 yX8_row yX8_row ∈ kw_ws := kz_4 (List.mem_of_getElem? (i := 157) (by first | exact rfl | decide +kernel)) rfl
theorem wVX8_at : Cond.selects RX8 yX8_at yX8_at ∈ kw_ws := kz_4 (List.mem_of_getElem? (i := 175) (by first | exact rfl | decide +kernel)) rfl
theorem wVX8_lay : Cond.selects RX8 yX8_lay yX8_lay ∈ kw_ws := kz_4 (List.mem_of_getElem? (i := 191) (by first | exact rfl | decide +kernel)) rfl
theorem wVX8_tear : Cond.selects RX8 yX8_tear yX8_tear ∈ kw_ws := kz_4 (List.mem_of_getElem? (i := 196) (by first | exact rfl | decide +kernel)) rfl
theorem wVX8_copy : Cond.selects RX8 yX8_copy yX8_copy ∈ kw_ws := kz_4 (List.mem_of_getElem? (i := 200) (by first | exact rfl | decide +kernel)) rfl
theorem wVX8_mean : Cond.selects RX8 yX8_mean yX8_mean ∈ kw_ws := kz_4 (List.mem_of_getElem? (i := 204) (by first | exact rfl | decide +kernel)) rfl
theorem wVX8_text : Cond.selects RX8 yX8_text yX8_text ∈ kw_ws := kz_4 (List.mem_of_getElem? (i := 208) (by first | exact rfl | decide +kernel)) rfl
theorem wVX8_put : Cond.selects RX8 yX8_put yX8_put ∈ kw_ws := kz_4 (List.mem_of_getElem? (i := 215) (by first | exact rfl | decide +kernel)) rfl
theorem wVX8_fault : Cond.selects RX8 yX8_fault yX8_fault ∈ kw_ws := kz_4 (List.mem_of_getElem? (i := 223) (by first | exact rfl | decide +kernel)) rfl
theorem wVX8_town : Cond.selects RX8 yX8_town yX8_town ∈ kw_ws := kz_5 (List.mem_of_getElem? (i := 18) (by first | exact rfl | decide +kernel)) rfl
theorem wVX8_hang : Cond.selects RX8 yX8_hang yX8_hang ∈ kw_ws := kz_5 (List.mem_of_getElem? (i := 22) (by first | exact rfl | decide +kernel)) rfl
theorem wVX8_take : Cond.selects RX8 yX8_take yX8_take ∈ kw_ws := kz_5 (List.mem_of_getElem? (i := 48) (by first | exact rfl | decide +kernel)) rfl
theorem wVX8_hour : Cond.selects RX8 yX8_hour yX8_hour ∈ kw_ws := kz_5 (List.mem_of_getElem? (i := 52) (by first | exact rfl | decide +kernel)) rfl
theorem wVX8_undo : Cond.selects RX8 yX8_undo yX8_undo ∈ kw_ws := kz_5 (List.mem_of_getElem? (i := 87) (by first | exact rfl | decide +kernel)) rfl
theorem wVX8_keep : Cond.selects RX8 yX8_keep yX8_keep ∈ kw_ws := kz_5 (List.mem_of_getElem? (i := 95) (by first | exact rfl | decide +kernel)) rfl
theorem wVX8_on : Cond.selects RX8 yX8_on yX8_on ∈ kw_ws := kz_5 (List.mem_of_getElem? (i := 99) (by first | exact rfl | decide +kernel)) rfl
theorem wVX8_line : Cond.selects RX8 yX8_line yX8_line ∈ kw_ws := kz_5 (List.mem_of_getElem? (i := 103) (by first | exact rfl | decide +kernel)) rfl
theorem wVX8_mark : Cond.selects RX8 yX8_mark yX8_mark ∈ kw_ws := kz_5 (List.mem_of_getElem? (i := 111) (by first | exact rfl | decide +kernel)) rfl
theorem wVX8_wind : Cond.selects RX8 yX8_wind yX8_wind ∈ kw_ws := kz_5 (List.mem_of_getElem? (i := 126) (by first | exact rfl | decide +kernel)) rfl
theorem wVX8_goes : Cond.selects RX8 yX8_goes yX8_goes ∈ kw_ws := kz_5 (List.mem_of_getElem? (i := 130) (by first | exact rfl | decide +kernel)) rfl
theorem wVX8_even : Cond.selects RX8 yX8_even yX8_even ∈ kw_ws := kz_5 (List.mem_of_getElem? (i := 138) (by first | exact rfl | decide +kernel)) rfl
theorem wVX8_fast : Cond.selects RX8 yX8_fast yX8_fast ∈ kw_ws := kz_5 (List.mem_of_getElem? (i := 146) (by first | exact rfl | decide +kernel)) rfl
theorem wVX8_wet : Cond.selects RX8 yX8_wet yX8_wet ∈ kw_ws := kz_5 (List.mem_of_getElem? (i := 150) (by first | exact rfl | decide +kernel)) rfl
theorem wVX8_sail : Cond.selects RX8 yX8_sail yX8_sail ∈ kw_ws := kz_5 (List.mem_of_getElem? (i := 158) (by first | exact rfl | decide +kernel)) rfl
theorem wVX8_dry : Cond.selects RX8 yX8_dry yX8_dry ∈ kw_ws := kz_5 (List.mem_of_getElem? (i := 166) (by first | exact rfl | decide +kernel)) rfl
theorem wVX8_far : Cond.selects RX8 yX8_far yX8_far ∈ kw_ws := kz_5 (List.mem_of_getElem? (i := 170) (by first | exact rfl | decide +kernel)) rfl
theorem wVX8_soon : Cond.selects RX8 yX8_soon yX8_soon ∈ kw_ws := kz_5 (List.mem_of_getElem? (i := 186) (by first | exact rfl | decide +kernel)) rfl
theorem wVX8_least : Cond.selects RX8 yX8_least yX8_least ∈ kw_ws := kz_5 (List.mem_of_getElem? (i := 197) (by first | exact rfl | decide +kernel)) rfl
theorem wVX8_ways : Cond.selects RX8 yX8_ways yX8_ways ∈ kw_ws := kz_5 (List.mem_of_getElem? (i := 201) (by first | exact rfl | decide +kernel)) rfl
theorem wVX8_kinds : Cond.selects RX8 yX8_kinds yX8_kinds ∈ kw_ws := kz_5 (List.mem_of_getElem? (i := 205) (by first | exact rfl | decide +kernel)) rfl
theorem wVX8_areas : Cond.selects RX8 yX8_areas yX8_areas ∈ kw_ws := kz_5 (List.mem_of_getElem? (i := 217) (by first | exact rfl | decide +kernel)) rfl
theorem wVX8_rival : Cond.selects RX8 yX8_rival yX8_rival ∈ kw_ws := kz_5 (List.mem_of_getElem? (i := 221) (by first | exact rfl | decide +kernel)) rfl
theorem wVX8_mid : Cond.selects RX8 yX8_mid yX8_mid ∈ kw_ws := kz_5 (List.mem_of_getElem? (i := 225) (by first | exact rfl | decide +kernel)) rfl
theorem wVX8_odds : Cond.selects RX8 yX8_odds yX8_odds ∈ kw_ws := kz_6 (List.mem_of_getElem? (i := 1) (by first | exact rfl | decide +kernel)) rfl
theorem wVX8_lots : Cond.selects RX8 yX8_lots yX8_lots ∈ kw_ws := kz_6 (List.mem_of_getElem? (i := 5) (by first | exact rfl | decide +kernel)) rfl
theorem wVX8_asked : Cond.selects RX8 yX8_asked yX8_asked ∈ kw_ws := kz_6 (List.mem_of_getElem? (i := 12) (by first | exact rfl | decide +kernel)) rfl
theorem wVX8_upper : Cond.selects RX8 yX8_upper yX8_upper ∈ kw_ws := kz_6 (List.mem_of_getElem? (i := 16) (by first | exact rfl | decide +kernel)) rfl
theorem wVX8_lower : Cond.selects RX8 yX8_lower yX8_lower ∈ kw_ws := kz_6 (List.mem_of_getElem? (i := 20) (by first | exact rfl | decide +kernel)) rfl
theorem wVX8_count : Cond.selects RX8 yX8_count yX8_count ∈ kw_ws := kz_6 (List.mem_of_getElem? (i := 24) (by first | exact rfl | decide +kernel)) rfl
theorem wVX8_miles : Cond.selects RX8 yX8_miles yX8_miles ∈ kw_ws := kz_6 (List.mem_of_getElem? (i := 40) (by first | exact rfl | decide +kernel)) rfl
theorem wVX8_finding : Cond.selects RX8 yX8_finding yX8_finding ∈ kw_ws := kz_6 (List.mem_of_getElem? (i := 44) (by first | exact rfl | decide +kernel)) rfl
theorem wVX8_findings : Cond.selects RX8 yX8_findings yX8_findings ∈ kw_ws := kz_6 (List.mem_of_getElem? (i := 48) (by first | exact rfl | decide +kernel)) rfl
theorem wVX8_digest : Cond.selects RX8 yX8_digest yX8_digest ∈ kw_ws := kz_6 (List.mem_of_getElem? (i := 52) (by first | exact rfl | decide +kernel)) rfl
theorem wTJ7_fill_53178 : Cond.static yJ7_fill_53178 ∈ kw_ws := kz_1 (List.mem_of_getElem? (i := 31) (by first | exact rfl | decide +kernel)) rfl
theorem wTX2_kindOf : Cond.static yX2_kindOf ∈ kw_ws := kz_2 (List.mem_of_getElem? (i := 141) (by first | exact rfl | decide +kernel)) rfl
theorem wTX7_pull : Cond.static yX7_pull ∈ kw_ws := kz_2 (List.mem_of_getElem? (i := 196) (by first | exact rfl | decide +kernel)) rfl
theorem wTX7_weather : Cond.static yX7_weather ∈ kw_ws := kz_2 (List.mem_of_getElem? (i := 203) (by first | exact rfl | decide +kernel)) rfl
theorem wTJ9_max_7cf53 : Cond.static yJ9_max_7cf53 ∈ kw_ws := kz_2 (List.mem_of_getElem? (i := 206) (by first | exact rfl | decide +kernel)) rfl
theorem wTJ9_min_7cf53 : Cond.static yJ9_min_7cf53 ∈ kw_ws := kz_2 (List.mem_of_getElem? (i := 209) (by first | exact rfl | decide +kernel)) rfl
theorem wTX7_isA : Cond.static yX7_isA ∈ kw_ws := kz_2 (List.mem_of_getElem? (i := 231) (by first | exact rfl | decide +kernel)) rfl
theorem wTJ6_bitCount_0f7a4 : Cond.static yJ6_bitCount_0f7a4 ∈ kw_ws := kz_3 (List.mem_of_getElem? (i := 5) (by first | exact rfl | decide +kernel)) rfl
theorem wTX7_play : Cond.static yX7_play ∈ kw_ws := kz_3 (List.mem_of_getElem? (i := 190) (by first | exact rfl | decide +kernel)) rfl
theorem wTJ9_abs_067f4 : Cond.static yJ9_abs_067f4 ∈ kw_ws := kz_3 (List.mem_of_getElem? (i := 206) (by first | exact rfl | decide +kernel)) rfl
theorem wTX4_commonDivisor : Cond.static yX4_commonDivisor ∈ kw_ws := kz_3 (List.mem_of_getElem? (i := 209) (by first | exact rfl | decide +kernel)) rfl
theorem wTX7_weightOfGusts : Cond.static yX7_weightOfGusts ∈ kw_ws := kz_3 (List.mem_of_getElem? (i := 220) (by first | exact rfl | decide +kernel)) rfl
theorem wTX8_isRow : Cond.static yX8_isRow ∈ kw_ws := kz_4 (List.mem_of_getElem? (i := 160) (by first | exact rfl | decide +kernel)) rfl
theorem wTX8_in : Cond.static yX8_in ∈ kw_ws := kz_4 (List.mem_of_getElem? (i := 163) (by first | exact rfl | decide +kernel)) rfl
theorem wTX8_isText : Cond.static yX8_isText ∈ kw_ws := kz_4 (List.mem_of_getElem? (i := 211) (by first | exact rfl | decide +kernel)) rfl
theorem wTX8_kindBy : Cond.static yX8_kindBy ∈ kw_ws := kz_5 (List.mem_of_getElem? (i := 10) (by first | exact rfl | decide +kernel)) rfl
theorem wTX8_has : Cond.static yX8_has ∈ kw_ws := kz_5 (List.mem_of_getElem? (i := 29) (by first | exact rfl | decide +kernel)) rfl
theorem wTX8_bits : Cond.static yX8_bits ∈ kw_ws := kz_5 (List.mem_of_getElem? (i := 44) (by first | exact rfl | decide +kernel)) rfl
theorem wTX8_pullBy : Cond.static yX8_pullBy ∈ kw_ws := kz_5 (List.mem_of_getElem? (i := 71) (by first | exact rfl | decide +kernel)) rfl
theorem wTX8_isA : Cond.static yX8_isA ∈ kw_ws := kz_5 (List.mem_of_getElem? (i := 114) (by first | exact rfl | decide +kernel)) rfl
theorem wTX8_isTurn : Cond.static yX8_isTurn ∈ kw_ws := kz_5 (List.mem_of_getElem? (i := 182) (by first | exact rfl | decide +kernel)) rfl
theorem wTX8_greater : Cond.static yX8_greater ∈ kw_ws := kz_5 (List.mem_of_getElem? (i := 193) (by first | exact rfl | decide +kernel)) rfl
theorem wTX8_power : Cond.static yX8_power ∈ kw_ws := kz_5 (List.mem_of_getElem? (i := 236) (by first | exact rfl | decide +kernel)) rfl
theorem wNL : Cond.initialized RL ∈ kw_ws := kz_1 (List.mem_of_getElem? (i := 0) (by first | exact rfl | decide +kernel)) rfl
theorem wNX7 : Cond.initialized RX7 ∈ kw_ws := kz_1 (List.mem_of_getElem? (i := 1) (by first | exact rfl | decide +kernel)) rfl
theorem wNX3 : Cond.initialized RX3 ∈ kw_ws := kz_1 (List.mem_of_getElem? (i := 2) (by first | exact rfl | decide +kernel)) rfl
theorem wNJ7 : Cond.initialized RJ7 ∈ kw_ws := kz_1 (List.mem_of_getElem? (i := 3) (by first | exact rfl | decide +kernel)) rfl
theorem wNX2 : Cond.initialized RX2 ∈ kw_ws := kz_1 (List.mem_of_getElem? (i := 4) (by first | exact rfl | decide +kernel)) rfl
theorem wNX1 : Cond.initialized RX1 ∈ kw_ws := kz_1 (List.mem_of_getElem? (i := 5) (by first | exact rfl | decide +kernel)) rfl
theorem wNX5 : Cond.initialized RX5 ∈ kw_ws := kz_1 (List.mem_of_getElem? (i := 6) (by first | exact rfl | decide +kernel)) rfl
theorem wNX0 : Cond.initialized RX0 ∈ kw_ws := kz_1 (List.mem_of_getElem? (i := 7) (by first | exact rfl | decide +kernel)) rfl
theorem wNX6 : Cond.initialized RX6 ∈ kw_ws := kz_1 (List.mem_of_getElem? (i := 8) (by first | exact rfl | decide +kernel)) rfl
theorem wNX4 : Cond.initialized RX4 ∈ kw_ws := kz_1 (List.mem_of_getElem? (i := 9) (by first | exact rfl | decide +kernel)) rfl
theorem wNX8 : Cond.initialized RX8 ∈ kw_ws := kz_1 (List.mem_of_getElem? (i := 10) (by first | exact rfl | decide +kernel)) rfl
theorem wNJ10 : Cond.initialized RJ10 ∈ kw_ws := kz_1 (List.mem_of_getElem? (i := 11) (by first | exact rfl | decide +kernel)) rfl
theorem wNJ9 : Cond.initialized RJ9 ∈ kw_ws := kz_1 (List.mem_of_getElem? (i := 12) (by first | exact rfl | decide +kernel)) rfl
theorem wNJ6 : Cond.initialized RJ6 ∈ kw_ws := kz_1 (List.mem_of_getElem? (i := 13) (by first | exact rfl | decide +kernel)) rfl
theorem wCJ7_fill_53178 : Cond.code yJ7_fill_53178 cJ7_fill_53178 4 none ∈ kw_ws := kz_1 (List.mem_of_getElem? (i := 32) (by first | exact rfl | decide +kernel)) rfl
theorem wCX7_row : Cond.code yX7_row cX7_row 3 (some .int) ∈ kw_ws := kz_2 (List.mem_of_getElem? (i := 30) (by first | exact rfl | decide +kernel)) rfl
theorem wCX7_makeOn : Cond.code yX7_makeOn cX7_makeOn 5 (some .int) ∈ kw_ws := kz_2 (List.mem_of_getElem? (i := 34) (by first | exact rfl | decide +kernel)) rfl
theorem wCX3_has : Cond.code yX3_has cX3_has 2 (some .boolean) ∈ kw_ws := kz_2 (List.mem_of_getElem? (i := 38) (by first | exact rfl | decide +kernel)) rfl
theorem wCX4_refuse : Cond.code yX4_refuse cX4_refuse 2 (some .int) ∈ kw_ws := kz_2 (List.mem_of_getElem? (i := 42) (by first | exact rfl | decide +kernel)) rfl
theorem wCX3_make : Cond.code yX3_make cX3_make 4 none ∈ kw_ws := kz_2 (List.mem_of_getElem? (i := 46) (by first | exact rfl | decide +kernel)) rfl
theorem wCX7_lay : Cond.code yX7_lay cX7_lay 6 (some .int) ∈ kw_ws := kz_2 (List.mem_of_getElem? (i := 51) (by first | exact rfl | decide +kernel)) rfl
theorem wCX3_findingAt : Cond.code yX3_findingAt cX3_findingAt 3 (some .int) ∈ kw_ws := kz_2 (List.mem_of_getElem? (i := 55) (by first | exact rfl | decide +kernel)) rfl
theorem wCX3_isMissing : Cond.code yX3_isMissing cX3_isMissing 2 (some .boolean) ∈ kw_ws := kz_2 (List.mem_of_getElem? (i := 59) (by first | exact rfl | decide +kernel)) rfl
theorem wCX3_sizeOf : Cond.code yX3_sizeOf cX3_sizeOf 2 (some .int) ∈ kw_ws := kz_2 (List.mem_of_getElem? (i := 63) (by first | exact rfl | decide +kernel)) rfl
theorem wCX3_hasPlaces : Cond.code yX3_hasPlaces cX3_hasPlaces 4 (some .boolean) ∈ kw_ws := kz_2 (List.mem_of_getElem? (i := 67) (by first | exact rfl | decide +kernel)) rfl
theorem wCX3_valueAt : Cond.code yX3_valueAt cX3_valueAt 3 (some .int) ∈ kw_ws := kz_2 (List.mem_of_getElem? (i := 71) (by first | exact rfl | decide +kernel)) rfl
theorem wCX3_change : Cond.code yX3_change cX3_change 4 none ∈ kw_ws := kz_2 (List.mem_of_getElem? (i := 75) (by first | exact rfl | decide +kernel)) rfl
theorem wCX4_answer : Cond.code yX4_answer cX4_answer 2 (some .int) ∈ kw_ws := kz_2 (List.mem_of_getElem? (i := 79) (by first | exact rfl | decide +kernel)) rfl
theorem wCX7_at : Cond.code yX7_at cX7_at 4 (some .int) ∈ kw_ws := kz_2 (List.mem_of_getElem? (i := 83) (by first | exact rfl | decide +kernel)) rfl
theorem wCX7_tear : Cond.code yX7_tear cX7_tear 2 (some .int) ∈ kw_ws := kz_2 (List.mem_of_getElem? (i := 87) (by first | exact rfl | decide +kernel)) rfl
theorem wCX3_drop : Cond.code yX3_drop cX3_drop 2 none ∈ kw_ws := kz_2 (List.mem_of_getElem? (i := 92) (by first | exact rfl | decide +kernel)) rfl
theorem wCX7_copy : Cond.code yX7_copy cX7_copy 6 (some .int) ∈ kw_ws := kz_2 (List.mem_of_getElem? (i := 96) (by first | exact rfl | decide +kernel)) rfl
theorem wCX3_move : Cond.code yX3_move cX3_move 6 none ∈ kw_ws := kz_2 (List.mem_of_getElem? (i := 101) (by first | exact rfl | decide +kernel)) rfl
theorem wCX7_mean : Cond.code yX7_mean cX7_mean 6 (some .int) ∈ kw_ws := kz_2 (List.mem_of_getElem? (i := 108) (by first | exact rfl | decide +kernel)) rfl
theorem wCX7_text : Cond.code yX7_text cX7_text 3 (some .int) ∈ kw_ws := kz_2 (List.mem_of_getElem? (i := 113) (by first | exact rfl | decide +kernel)) rfl
theorem wCX7_put : Cond.code yX7_put cX7_put 6 (some .int) ∈ kw_ws := kz_2 (List.mem_of_getElem? (i := 117) (by first | exact rfl | decide +kernel)) rfl
theorem wCX7_fault : Cond.code yX7_fault cX7_fault 2 (some .int) ∈ kw_ws := kz_2 (List.mem_of_getElem? (i := 121) (by first | exact rfl | decide +kernel)) rfl
theorem wCX2_faultOf : Cond.code yX2_faultOf cX2_faultOf 4 (some .int) ∈ kw_ws := kz_2 (List.mem_of_getElem? (i := 125) (by first | exact rfl | decide +kernel)) rfl
theorem wCX2_skipBlanks : Cond.code yX2_skipBlanks cX2_skipBlanks 4 none ∈ kw_ws := kz_2 (List.mem_of_getElem? (i := 129) (by first | exact rfl | decide +kernel)) rfl
theorem wCX2_readWinds : Cond.code yX2_readWinds cX2_readWinds 5 none ∈ kw_ws := kz_2 (List.mem_of_getElem? (i := 134) (by first | exact rfl | decide +kernel)) rfl
theorem wCX2_readLine : Cond.code yX2_readLine cX2_readLine 5 (some .boolean) ∈ kw_ws := kz_2 (List.mem_of_getElem? (i := 139) (by first | exact rfl | decide +kernel)) rfl
theorem wCX2_kindOf : Cond.code yX2_kindOf cX2_kindOf 2 (some .int) ∈ kw_ws := kz_2 (List.mem_of_getElem? (i := 142) (by first | exact rfl | decide +kernel)) rfl
theorem wCX2_readFigure : Cond.code yX2_readFigure cX2_readFigure 6 (some .int) ∈ kw_ws := kz_2 (List.mem_of_getElem? (i := 148) (by first | exact rfl | decide +kernel)) rfl
theorem wCX7_town : Cond.code yX7_town cX7_town 3 (some .int) ∈ kw_ws := kz_2 (List.mem_of_getElem? (i := 152) (by first | exact rfl | decide +kernel)) rfl
theorem wCX1_copyFrom : Cond.code yX1_copyFrom cX1_copyFrom 2 none ∈ kw_ws := kz_2 (List.mem_of_getElem? (i := 156) (by first | exact rfl | decide +kernel)) rfl
theorem wCX5_replay : Cond.code yX5_replay cX5_replay 3 none ∈ kw_ws := kz_2 (List.mem_of_getElem? (i := 161) (by first | exact rfl | decide +kernel)) rfl
theorem wCX5_act : Cond.code yX5_act cX5_act 2 none ∈ kw_ws := kz_2 (List.mem_of_getElem? (i := 166) (by first | exact rfl | decide +kernel)) rfl
theorem wCX5_hasRoomFor : Cond.code yX5_hasRoomFor cX5_hasRoomFor 2 (some .boolean) ∈ kw_ws := kz_2 (List.mem_of_getElem? (i := 170) (by first | exact rfl | decide +kernel)) rfl
theorem wCX5_passHour : Cond.code yX5_passHour cX5_passHour 2 none ∈ kw_ws := kz_2 (List.mem_of_getElem? (i := 174) (by first | exact rfl | decide +kernel)) rfl
theorem wCX5_windNow : Cond.code yX5_windNow cX5_windNow 1 (some .int) ∈ kw_ws := kz_2 (List.mem_of_getElem? (i := 178) (by first | exact rfl | decide +kernel)) rfl
theorem wCX1_windAt : Cond.code yX1_windAt cX1_windAt 2 (some .int) ∈ kw_ws := kz_2 (List.mem_of_getElem? (i := 182) (by first | exact rfl | decide +kernel)) rfl
theorem wCX1_milesOf : Cond.code yX1_milesOf cX1_milesOf 5 (some .int) ∈ kw_ws := kz_2 (List.mem_of_getElem? (i := 186) (by first | exact rfl | decide +kernel)) rfl
theorem wCX1_pullOf : Cond.code yX1_pullOf cX1_pullOf 3 (some .int) ∈ kw_ws := kz_2 (List.mem_of_getElem? (i := 190) (by first | exact rfl | decide +kernel)) rfl
theorem wCX1_hasLine : Cond.code yX1_hasLine cX1_hasLine 2 (some .boolean) ∈ kw_ws := kz_2 (List.mem_of_getElem? (i := 194) (by first | exact rfl | decide +kernel)) rfl
theorem wCX7_pull : Cond.code yX7_pull cX7_pull 5 (some .int) ∈ kw_ws := kz_2 (List.mem_of_getElem? (i := 197) (by first | exact rfl | decide +kernel)) rfl
theorem wCX1_turnOf : Cond.code yX1_turnOf cX1_turnOf 5 (some .int) ∈ kw_ws := kz_2 (List.mem_of_getElem? (i := 201) (by first | exact rfl | decide +kernel)) rfl
theorem wCX7_weather : Cond.code yX7_weather cX7_weather 4 none ∈ kw_ws := kz_2 (List.mem_of_getElem? (i := 204) (by first | exact rfl | decide +kernel)) rfl
theorem wCJ9_max_7cf53 : Cond.code yJ9_max_7cf53 cJ9_max_7cf53 2 (some .int) ∈ kw_ws := kz_2 (List.mem_of_getElem? (i := 207) (by first | exact rfl | decide +kernel)) rfl
theorem wCJ9_min_7cf53 : Cond.code yJ9_min_7cf53 cJ9_min_7cf53 2 (some .int) ∈ kw_ws := kz_2 (List.mem_of_getElem? (i := 210) (by first | exact rfl | decide +kernel)) rfl
theorem wCX7_line : Cond.code yX7_line cX7_line 3 (some .int) ∈ kw_ws := kz_2 (List.mem_of_getElem? (i := 214) (by first | exact rfl | decide +kernel)) rfl
theorem wCX5_trait : Cond.code yX5_trait cX5_trait 3 (some .int) ∈ kw_ws := kz_2 (List.mem_of_getElem? (i := 219) (by first | exact rfl | decide +kernel)) rfl
theorem wCX5_isHung : Cond.code yX5_isHung cX5_isHung 2 (some .boolean) ∈ kw_ws := kz_2 (List.mem_of_getElem? (i := 224) (by first | exact rfl | decide +kernel)) rfl
theorem wCX7_mark : Cond.code yX7_mark cX7_mark 4 (some .int) ∈ kw_ws := kz_2 (List.mem_of_getElem? (i := 229) (by first | exact rfl | decide +kernel)) rfl
theorem wCX7_isA : Cond.code yX7_isA cX7_isA 4 (some .boolean) ∈ kw_ws := kz_2 (List.mem_of_getElem? (i := 232) (by first | exact rfl | decide +kernel)) rfl
theorem wCX5_hoursToStorm : Cond.code yX5_hoursToStorm cX5_hoursToStorm 2 (some .int) ∈ kw_ws := kz_2 (List.mem_of_getElem? (i := 239) (by first | exact rfl | decide +kernel)) rfl
end
section
theorem wCX5_windAhead : Cond.code yX5_windAhead cX5_windAhead 2 (some .int) ∈ kw_ws := kz_3 (List.mem_of_getElem? (i := 3) (by first | exact rfl | decide +kernel)) rfl
theorem wCJ6_bitCount_0f7a4 : Cond.code yJ6_bitCount_0f7a4 cJ6_bitCount_0f7a4 1 (some .int) ∈ kw_ws := kz_3 (List.mem_of_getElem? (i := 6) (by first | exact rfl | decide +kernel)) rfl
theorem wCX1_othersNoWider : Cond.code yX1_othersNoWider cX1_othersNoWider 4 (some .int) ∈ kw_ws := kz_3 (List.mem_of_getElem? (i := 13) (by first | exact rfl | decide +kernel)) rfl
theorem wCX7_wind : Cond.code yX7_wind cX7_wind 2 (some .int) ∈ kw_ws := kz_3 (List.mem_of_getElem? (i := 19) (by first | exact rfl | decide +kernel)) rfl
theorem wCX5_isEmpty : Cond.code yX5_isEmpty cX5_isEmpty 1 (some .boolean) ∈ kw_ws := kz_3 (List.mem_of_getElem? (i := 23) (by first | exact rfl | decide +kernel)) rfl
theorem wCX7_hang : Cond.code yX7_hang cX7_hang 2 (some .int) ∈ kw_ws := kz_3 (List.mem_of_getElem? (i := 28) (by first | exact rfl | decide +kernel)) rfl
theorem wCX7_take : Cond.code yX7_take cX7_take 2 (some .int) ∈ kw_ws := kz_3 (List.mem_of_getElem? (i := 35) (by first | exact rfl | decide +kernel)) rfl
theorem wCX7_hour : Cond.code yX7_hour cX7_hour 1 (some .int) ∈ kw_ws := kz_3 (List.mem_of_getElem? (i := 39) (by first | exact rfl | decide +kernel)) rfl
theorem wCX4_tellWhole : Cond.code yX4_tellWhole cX4_tellWhole 3 none ∈ kw_ws := kz_3 (List.mem_of_getElem? (i := 43) (by first | exact rfl | decide +kernel)) rfl
theorem wCX7_undo : Cond.code yX7_undo cX7_undo 3 (some .int) ∈ kw_ws := kz_3 (List.mem_of_getElem? (i := 47) (by first | exact rfl | decide +kernel)) rfl
theorem wCX7_keep : Cond.code yX7_keep cX7_keep 3 (some .int) ∈ kw_ws := kz_3 (List.mem_of_getElem? (i := 51) (by first | exact rfl | decide +kernel)) rfl
theorem wCX7_on : Cond.code yX7_on cX7_on 4 (some .int) ∈ kw_ws := kz_3 (List.mem_of_getElem? (i := 55) (by first | exact rfl | decide +kernel)) rfl
theorem wCX7_goes : Cond.code yX7_goes cX7_goes 3 (some .int) ∈ kw_ws := kz_3 (List.mem_of_getElem? (i := 59) (by first | exact rfl | decide +kernel)) rfl
theorem wCX1_hasSet : Cond.code yX1_hasSet cX1_hasSet 2 (some .boolean) ∈ kw_ws := kz_3 (List.mem_of_getElem? (i := 63) (by first | exact rfl | decide +kernel)) rfl
theorem wCX1_allLines : Cond.code yX1_allLines cX1_allLines 1 (some .int) ∈ kw_ws := kz_3 (List.mem_of_getElem? (i := 67) (by first | exact rfl | decide +kernel)) rfl
theorem wCX7_even : Cond.code yX7_even cX7_even 7 (some .int) ∈ kw_ws := kz_3 (List.mem_of_getElem? (i := 73) (by first | exact rfl | decide +kernel)) rfl
theorem wCX0_draw : Cond.code yX0_draw cX0_draw 7 none ∈ kw_ws := kz_3 (List.mem_of_getElem? (i := 77) (by first | exact rfl | decide +kernel)) rfl
theorem wCX0_fits : Cond.code yX0_fits cX0_fits 4 (some .boolean) ∈ kw_ws := kz_3 (List.mem_of_getElem? (i := 82) (by first | exact rfl | decide +kernel)) rfl
theorem wCX0_milesOf : Cond.code yX0_milesOf cX0_milesOf 2 (some .int) ∈ kw_ws := kz_3 (List.mem_of_getElem? (i := 86) (by first | exact rfl | decide +kernel)) rfl
theorem wCX0_turnBy : Cond.code yX0_turnBy cX0_turnBy 2 (some .int) ∈ kw_ws := kz_3 (List.mem_of_getElem? (i := 90) (by first | exact rfl | decide +kernel)) rfl
theorem wCX1_linenOf : Cond.code yX1_linenOf cX1_linenOf 4 (some .int) ∈ kw_ws := kz_3 (List.mem_of_getElem? (i := 94) (by first | exact rfl | decide +kernel)) rfl
theorem wCX7_fast : Cond.code yX7_fast cX7_fast 4 (some .int) ∈ kw_ws := kz_3 (List.mem_of_getElem? (i := 98) (by first | exact rfl | decide +kernel)) rfl
theorem wCX7_wet : Cond.code yX7_wet cX7_wet 1 (some .int) ∈ kw_ws := kz_3 (List.mem_of_getElem? (i := 103) (by first | exact rfl | decide +kernel)) rfl
theorem wCX5_allWet : Cond.code yX5_allWet cX5_allWet 3 (some .int) ∈ kw_ws := kz_3 (List.mem_of_getElem? (i := 107) (by first | exact rfl | decide +kernel)) rfl
theorem wCX7_drySet : Cond.code yX7_drySet cX7_drySet 4 (some .int) ∈ kw_ws := kz_3 (List.mem_of_getElem? (i := 112) (by first | exact rfl | decide +kernel)) rfl
theorem wCX7_sail : Cond.code yX7_sail cX7_sail 7 (some .int) ∈ kw_ws := kz_3 (List.mem_of_getElem? (i := 116) (by first | exact rfl | decide +kernel)) rfl
theorem wCX7_planRefusal : Cond.code yX7_planRefusal cX7_planRefusal 3 (some .int) ∈ kw_ws := kz_3 (List.mem_of_getElem? (i := 120) (by first | exact rfl | decide +kernel)) rfl
theorem wCX7_dry : Cond.code yX7_dry cX7_dry 4 (some .int) ∈ kw_ws := kz_3 (List.mem_of_getElem? (i := 125) (by first | exact rfl | decide +kernel)) rfl
theorem wCX7_far : Cond.code yX7_far cX7_far 5 (some .int) ∈ kw_ws := kz_3 (List.mem_of_getElem? (i := 131) (by first | exact rfl | decide +kernel)) rfl
theorem wCX6_find : Cond.code yX6_find cX6_find 6 (some .boolean) ∈ kw_ws := kz_3 (List.mem_of_getElem? (i := 135) (by first | exact rfl | decide +kernel)) rfl
theorem wCX1_mostMilesOf : Cond.code yX1_mostMilesOf cX1_mostMilesOf 5 (some .int) ∈ kw_ws := kz_3 (List.mem_of_getElem? (i := 143) (by first | exact rfl | decide +kernel)) rfl
theorem wCX6_sailFrom : Cond.code yX6_sailFrom cX6_sailFrom 8 none ∈ kw_ws := kz_3 (List.mem_of_getElem? (i := 148) (by first | exact rfl | decide +kernel)) rfl
theorem wCX7_soon : Cond.code yX7_soon cX7_soon 5 (some .int) ∈ kw_ws := kz_3 (List.mem_of_getElem? (i := 155) (by first | exact rfl | decide +kernel)) rfl
theorem wCX7_least : Cond.code yX7_least cX7_least 7 (some .int) ∈ kw_ws := kz_3 (List.mem_of_getElem? (i := 160) (by first | exact rfl | decide +kernel)) rfl
theorem wCX7_mostMilesBehind : Cond.code yX7_mostMilesBehind cX7_mostMilesBehind 5 (some .int) ∈ kw_ws := kz_3 (List.mem_of_getElem? (i := 164) (by first | exact rfl | decide +kernel)) rfl
theorem wCX7_ways : Cond.code yX7_ways cX7_ways 6 (some .int) ∈ kw_ws := kz_3 (List.mem_of_getElem? (i := 168) (by first | exact rfl | decide +kernel)) rfl
theorem wCX7_kinds : Cond.code yX7_kinds cX7_kinds 6 (some .int) ∈ kw_ws := kz_3 (List.mem_of_getElem? (i := 172) (by first | exact rfl | decide +kernel)) rfl
theorem wCX7_pairsRefusal : Cond.code yX7_pairsRefusal cX7_pairsRefusal 6 (some .int) ∈ kw_ws := kz_3 (List.mem_of_getElem? (i := 176) (by first | exact rfl | decide +kernel)) rfl
theorem wCX7_pulledSo : Cond.code yX7_pulledSo cX7_pulledSo 5 (some .boolean) ∈ kw_ws := kz_3 (List.mem_of_getElem? (i := 180) (by first | exact rfl | decide +kernel)) rfl
theorem wCX7_areas : Cond.code yX7_areas cX7_areas 6 (some .int) ∈ kw_ws := kz_3 (List.mem_of_getElem? (i := 184) (by first | exact rfl | decide +kernel)) rfl
theorem wCX7_rival : Cond.code yX7_rival cX7_rival 2 (some .int) ∈ kw_ws := kz_3 (List.mem_of_getElem? (i := 188) (by first | exact rfl | decide +kernel)) rfl
theorem wCX7_play : Cond.code yX7_play cX7_play 8 (some .int) ∈ kw_ws := kz_3 (List.mem_of_getElem? (i := 191) (by first | exact rfl | decide +kernel)) rfl
theorem wCX7_mid : Cond.code yX7_mid cX7_mid 7 (some .int) ∈ kw_ws := kz_3 (List.mem_of_getElem? (i := 195) (by first | exact rfl | decide +kernel)) rfl
theorem wCX7_foresee : Cond.code yX7_foresee cX7_foresee 4 none ∈ kw_ws := kz_3 (List.mem_of_getElem? (i := 199) (by first | exact rfl | decide +kernel)) rfl
theorem wCX4_tellShare : Cond.code yX4_tellShare cX4_tellShare 7 none ∈ kw_ws := kz_3 (List.mem_of_getElem? (i := 204) (by first | exact rfl | decide +kernel)) rfl
theorem wCJ9_abs_067f4 : Cond.code yJ9_abs_067f4 cJ9_abs_067f4 2 (some .long) ∈ kw_ws := kz_3 (List.mem_of_getElem? (i := 207) (by first | exact rfl | decide +kernel)) rfl
theorem wCX4_commonDivisor : Cond.code yX4_commonDivisor cX4_commonDivisor 11 (some .long) ∈ kw_ws := kz_3 (List.mem_of_getElem? (i := 210) (by first | exact rfl | decide +kernel)) rfl
theorem wCX7_odds : Cond.code yX7_odds cX7_odds 11 (some .int) ∈ kw_ws := kz_3 (List.mem_of_getElem? (i := 214) (by first | exact rfl | decide +kernel)) rfl
theorem wCX7_milesByGusts : Cond.code yX7_milesByGusts cX7_milesByGusts 5 (some .int) ∈ kw_ws := kz_3 (List.mem_of_getElem? (i := 218) (by first | exact rfl | decide +kernel)) rfl
theorem wCX7_weightOfGusts : Cond.code yX7_weightOfGusts cX7_weightOfGusts 6 (some .long) ∈ kw_ws := kz_3 (List.mem_of_getElem? (i := 221) (by first | exact rfl | decide +kernel)) rfl
theorem wCX7_lots : Cond.code yX7_lots cX7_lots 7 (some .int) ∈ kw_ws := kz_3 (List.mem_of_getElem? (i := 225) (by first | exact rfl | decide +kernel)) rfl
theorem wCX7_asked : Cond.code yX7_asked cX7_asked 1 (some .int) ∈ kw_ws := kz_3 (List.mem_of_getElem? (i := 231) (by first | exact rfl | decide +kernel)) rfl
theorem wCX7_upper : Cond.code yX7_upper cX7_upper 1 (some .long) ∈ kw_ws := kz_3 (List.mem_of_getElem? (i := 235) (by first | exact rfl | decide +kernel)) rfl
theorem wCX7_lower : Cond.code yX7_lower cX7_lower 1 (some .long) ∈ kw_ws := kz_3 (List.mem_of_getElem? (i := 239) (by first | exact rfl | decide +kernel)) rfl
theorem wCX7_count : Cond.code yX7_count cX7_count 2 (some .int) ∈ kw_ws := kz_4 (List.mem_of_getElem? (i := 3) (by first | exact rfl | decide +kernel)) rfl
theorem wCX1_howManyAre : Cond.code yX1_howManyAre cX1_howManyAre 4 (some .int) ∈ kw_ws := kz_4 (List.mem_of_getElem? (i := 7) (by first | exact rfl | decide +kernel)) rfl
theorem wCX3_howMany : Cond.code yX3_howMany cX3_howMany 3 (some .int) ∈ kw_ws := kz_4 (List.mem_of_getElem? (i := 12) (by first | exact rfl | decide +kernel)) rfl
theorem wCX7_miles : Cond.code yX7_miles cX7_miles 1 (some .int) ∈ kw_ws := kz_4 (List.mem_of_getElem? (i := 16) (by first | exact rfl | decide +kernel)) rfl
theorem wCX7_finding : Cond.code yX7_finding cX7_finding 1 (some .int) ∈ kw_ws := kz_4 (List.mem_of_getElem? (i := 20) (by first | exact rfl | decide +kernel)) rfl
theorem wCX7_findings : Cond.code yX7_findings cX7_findings 2 (some .int) ∈ kw_ws := kz_4 (List.mem_of_getElem? (i := 24) (by first | exact rfl | decide +kernel)) rfl
theorem wCX7_digest : Cond.code yX7_digest cX7_digest 5 (some .long) ∈ kw_ws := kz_4 (List.mem_of_getElem? (i := 28) (by first | exact rfl | decide +kernel)) rfl
theorem wCX3_fold : Cond.code yX3_fold cX3_fold 7 (some .long) ∈ kw_ws := kz_4 (List.mem_of_getElem? (i := 35) (by first | exact rfl | decide +kernel)) rfl
theorem wCX8_row : Cond.code yX8_row cX8_row 4 (some .int) ∈ kw_ws := kz_4 (List.mem_of_getElem? (i := 158) (by first | exact rfl | decide +kernel)) rfl
theorem wCX8_isRow : Cond.code yX8_isRow cX8_isRow 1 (some .boolean) ∈ kw_ws := kz_4 (List.mem_of_getElem? (i := 161) (by first | exact rfl | decide +kernel)) rfl
theorem wCX8_in : Cond.code yX8_in cX8_in 3 (some .boolean) ∈ kw_ws := kz_4 (List.mem_of_getElem? (i := 164) (by first | exact rfl | decide +kernel)) rfl
theorem wCX8_meet : Cond.code yX8_meet cX8_meet 2 (some .int) ∈ kw_ws := kz_4 (List.mem_of_getElem? (i := 168) (by first | exact rfl | decide +kernel)) rfl
theorem wCX8_setRow : Cond.code yX8_setRow cX8_setRow 4 none ∈ kw_ws := kz_4 (List.mem_of_getElem? (i := 172) (by first | exact rfl | decide +kernel)) rfl
theorem wCX8_at : Cond.code yX8_at cX8_at 4 (some .int) ∈ kw_ws := kz_4 (List.mem_of_getElem? (i := 176) (by first | exact rfl | decide +kernel)) rfl
theorem wCX8_askedRow : Cond.code yX8_askedRow cX8_askedRow 2 (some .int) ∈ kw_ws := kz_4 (List.mem_of_getElem? (i := 180) (by first | exact rfl | decide +kernel)) rfl
theorem wCX8_rowAt : Cond.code yX8_rowAt cX8_rowAt 3 (some .int) ∈ kw_ws := kz_4 (List.mem_of_getElem? (i := 184) (by first | exact rfl | decide +kernel)) rfl
theorem wCX8_ask : Cond.code yX8_ask cX8_ask 3 (some .int) ∈ kw_ws := kz_4 (List.mem_of_getElem? (i := 188) (by first | exact rfl | decide +kernel)) rfl
theorem wCX8_lay : Cond.code yX8_lay cX8_lay 5 (some .int) ∈ kw_ws := kz_4 (List.mem_of_getElem? (i := 192) (by first | exact rfl | decide +kernel)) rfl
theorem wCX8_tear : Cond.code yX8_tear cX8_tear 3 (some .int) ∈ kw_ws := kz_4 (List.mem_of_getElem? (i := 197) (by first | exact rfl | decide +kernel)) rfl
theorem wCX8_copy : Cond.code yX8_copy cX8_copy 7 (some .int) ∈ kw_ws := kz_4 (List.mem_of_getElem? (i := 201) (by first | exact rfl | decide +kernel)) rfl
theorem wCX8_mean : Cond.code yX8_mean cX8_mean 6 (some .int) ∈ kw_ws := kz_4 (List.mem_of_getElem? (i := 205) (by first | exact rfl | decide +kernel)) rfl
theorem wCX8_text : Cond.code yX8_text cX8_text 4 (some .int) ∈ kw_ws := kz_4 (List.mem_of_getElem? (i := 209) (by first | exact rfl | decide +kernel)) rfl
theorem wCX8_isText : Cond.code yX8_isText cX8_isText 1 (some .boolean) ∈ kw_ws := kz_4 (List.mem_of_getElem? (i := 212) (by first | exact rfl | decide +kernel)) rfl
theorem wCX8_put : Cond.code yX8_put cX8_put 6 (some .int) ∈ kw_ws := kz_4 (List.mem_of_getElem? (i := 216) (by first | exact rfl | decide +kernel)) rfl
theorem wCX8_askedText : Cond.code yX8_askedText cX8_askedText 2 (some .int) ∈ kw_ws := kz_4 (List.mem_of_getElem? (i := 220) (by first | exact rfl | decide +kernel)) rfl
theorem wCX8_fault : Cond.code yX8_fault cX8_fault 3 (some .int) ∈ kw_ws := kz_4 (List.mem_of_getElem? (i := 224) (by first | exact rfl | decide +kernel)) rfl
theorem wCX8_goesOn : Cond.code yX8_goesOn cX8_goesOn 2 (some .int) ∈ kw_ws := kz_4 (List.mem_of_getElem? (i := 228) (by first | exact rfl | decide +kernel)) rfl
theorem wCX8_readsTown : Cond.code yX8_readsTown cX8_readsTown 2 (some .boolean) ∈ kw_ws := kz_4 (List.mem_of_getElem? (i := 232) (by first | exact rfl | decide +kernel)) rfl
theorem wCX8_readsWinds : Cond.code yX8_readsWinds cX8_readsWinds 2 (some .boolean) ∈ kw_ws := kz_4 (List.mem_of_getElem? (i := 236) (by first | exact rfl | decide +kernel)) rfl
theorem wCX8_skip : Cond.code yX8_skip cX8_skip 2 none ∈ kw_ws := kz_5 (List.mem_of_getElem? (i := 0) (by first | exact rfl | decide +kernel)) rfl
theorem wCX8_here : Cond.code yX8_here cX8_here 2 (some .int) ∈ kw_ws := kz_5 (List.mem_of_getElem? (i := 4) (by first | exact rfl | decide +kernel)) rfl
theorem wCX8_readsLine : Cond.code yX8_readsLine cX8_readsLine 4 (some .boolean) ∈ kw_ws := kz_5 (List.mem_of_getElem? (i := 8) (by first | exact rfl | decide +kernel)) rfl
theorem wCX8_kindBy : Cond.code yX8_kindBy cX8_kindBy 1 (some .int) ∈ kw_ws := kz_5 (List.mem_of_getElem? (i := 11) (by first | exact rfl | decide +kernel)) rfl
theorem wCX8_figure : Cond.code yX8_figure cX8_figure 6 (some .boolean) ∈ kw_ws := kz_5 (List.mem_of_getElem? (i := 15) (by first | exact rfl | decide +kernel)) rfl
theorem wCX8_town : Cond.code yX8_town cX8_town 4 (some .int) ∈ kw_ws := kz_5 (List.mem_of_getElem? (i := 19) (by first | exact rfl | decide +kernel)) rfl
theorem wCX8_hang : Cond.code yX8_hang cX8_hang 2 (some .int) ∈ kw_ws := kz_5 (List.mem_of_getElem? (i := 23) (by first | exact rfl | decide +kernel)) rfl
theorem wCX8_isLine : Cond.code yX8_isLine cX8_isLine 2 (some .boolean) ∈ kw_ws := kz_5 (List.mem_of_getElem? (i := 27) (by first | exact rfl | decide +kernel)) rfl
theorem wCX8_has : Cond.code yX8_has cX8_has 2 (some .boolean) ∈ kw_ws := kz_5 (List.mem_of_getElem? (i := 30) (by first | exact rfl | decide +kernel)) rfl
theorem wCX8_turnLine : Cond.code yX8_turnLine cX8_turnLine 2 none ∈ kw_ws := kz_5 (List.mem_of_getElem? (i := 34) (by first | exact rfl | decide +kernel)) rfl
theorem wCX8_note : Cond.code yX8_note cX8_note 1 none ∈ kw_ws := kz_5 (List.mem_of_getElem? (i := 38) (by first | exact rfl | decide +kernel)) rfl
theorem wCX8_write : Cond.code yX8_write cX8_write 4 none ∈ kw_ws := kz_5 (List.mem_of_getElem? (i := 42) (by first | exact rfl | decide +kernel)) rfl
theorem wCX8_bits : Cond.code yX8_bits cX8_bits 3 (some .int) ∈ kw_ws := kz_5 (List.mem_of_getElem? (i := 45) (by first | exact rfl | decide +kernel)) rfl
theorem wCX8_take : Cond.code yX8_take cX8_take 2 (some .int) ∈ kw_ws := kz_5 (List.mem_of_getElem? (i := 49) (by first | exact rfl | decide +kernel)) rfl
theorem wCX8_hour : Cond.code yX8_hour cX8_hour 1 (some .int) ∈ kw_ws := kz_5 (List.mem_of_getElem? (i := 53) (by first | exact rfl | decide +kernel)) rfl
theorem wCX8_pass : Cond.code yX8_pass cX8_pass 4 none ∈ kw_ws := kz_5 (List.mem_of_getElem? (i := 57) (by first | exact rfl | decide +kernel)) rfl
theorem wCX8_windAt : Cond.code yX8_windAt cX8_windAt 2 (some .int) ∈ kw_ws := kz_5 (List.mem_of_getElem? (i := 61) (by first | exact rfl | decide +kernel)) rfl
theorem wCX8_milesBy : Cond.code yX8_milesBy cX8_milesBy 5 (some .int) ∈ kw_ws := kz_5 (List.mem_of_getElem? (i := 65) (by first | exact rfl | decide +kernel)) rfl
theorem wCX8_pullOf : Cond.code yX8_pullOf cX8_pullOf 3 (some .int) ∈ kw_ws := kz_5 (List.mem_of_getElem? (i := 69) (by first | exact rfl | decide +kernel)) rfl
theorem wCX8_pullBy : Cond.code yX8_pullBy cX8_pullBy 4 (some .int) ∈ kw_ws := kz_5 (List.mem_of_getElem? (i := 72) (by first | exact rfl | decide +kernel)) rfl
theorem wCX8_turnBy : Cond.code yX8_turnBy cX8_turnBy 5 (some .int) ∈ kw_ws := kz_5 (List.mem_of_getElem? (i := 76) (by first | exact rfl | decide +kernel)) rfl
theorem wCX8_wetBehind : Cond.code yX8_wetBehind cX8_wetBehind 3 (some .int) ∈ kw_ws := kz_5 (List.mem_of_getElem? (i := 80) (by first | exact rfl | decide +kernel)) rfl
theorem wCX8_part : Cond.code yX8_part cX8_part 11 (some .int) ∈ kw_ws := kz_5 (List.mem_of_getElem? (i := 84) (by first | exact rfl | decide +kernel)) rfl
theorem wCX8_undo : Cond.code yX8_undo cX8_undo 3 (some .int) ∈ kw_ws := kz_5 (List.mem_of_getElem? (i := 88) (by first | exact rfl | decide +kernel)) rfl
theorem wCX8_read : Cond.code yX8_read cX8_read 4 none ∈ kw_ws := kz_5 (List.mem_of_getElem? (i := 92) (by first | exact rfl | decide +kernel)) rfl
theorem wCX8_keep : Cond.code yX8_keep cX8_keep 4 (some .int) ∈ kw_ws := kz_5 (List.mem_of_getElem? (i := 96) (by first | exact rfl | decide +kernel)) rfl
theorem wCX8_on : Cond.code yX8_on cX8_on 4 (some .int) ∈ kw_ws := kz_5 (List.mem_of_getElem? (i := 100) (by first | exact rfl | decide +kernel)) rfl
theorem wCX8_line : Cond.code yX8_line cX8_line 3 (some .int) ∈ kw_ws := kz_5 (List.mem_of_getElem? (i := 104) (by first | exact rfl | decide +kernel)) rfl
theorem wCX8_lineOf : Cond.code yX8_lineOf cX8_lineOf 3 (some .int) ∈ kw_ws := kz_5 (List.mem_of_getElem? (i := 108) (by first | exact rfl | decide +kernel)) rfl
theorem wCX8_mark : Cond.code yX8_mark cX8_mark 4 (some .int) ∈ kw_ws := kz_5 (List.mem_of_getElem? (i := 112) (by first | exact rfl | decide +kernel)) rfl
theorem wCX8_isA : Cond.code yX8_isA cX8_isA 2 (some .boolean) ∈ kw_ws := kz_5 (List.mem_of_getElem? (i := 115) (by first | exact rfl | decide +kernel)) rfl
theorem wCX8_hoursTill : Cond.code yX8_hoursTill cX8_hoursTill 2 (some .int) ∈ kw_ws := kz_5 (List.mem_of_getElem? (i := 119) (by first | exact rfl | decide +kernel)) rfl
theorem wCX8_lesserOnes : Cond.code yX8_lesserOnes cX8_lesserOnes 4 (some .int) ∈ kw_ws := kz_5 (List.mem_of_getElem? (i := 123) (by first | exact rfl | decide +kernel)) rfl
theorem wCX8_wind : Cond.code yX8_wind cX8_wind 2 (some .int) ∈ kw_ws := kz_5 (List.mem_of_getElem? (i := 127) (by first | exact rfl | decide +kernel)) rfl
theorem wCX8_goes : Cond.code yX8_goes cX8_goes 3 (some .int) ∈ kw_ws := kz_5 (List.mem_of_getElem? (i := 131) (by first | exact rfl | decide +kernel)) rfl
theorem wCX8_isSet : Cond.code yX8_isSet cX8_isSet 2 (some .boolean) ∈ kw_ws := kz_5 (List.mem_of_getElem? (i := 135) (by first | exact rfl | decide +kernel)) rfl
theorem wCX8_even : Cond.code yX8_even cX8_even 6 (some .int) ∈ kw_ws := kz_5 (List.mem_of_getElem? (i := 139) (by first | exact rfl | decide +kernel)) rfl
theorem wCX8_linenOf : Cond.code yX8_linenOf cX8_linenOf 4 (some .int) ∈ kw_ws := kz_5 (List.mem_of_getElem? (i := 143) (by first | exact rfl | decide +kernel)) rfl
theorem wCX8_fast : Cond.code yX8_fast cX8_fast 5 (some .int) ∈ kw_ws := kz_5 (List.mem_of_getElem? (i := 147) (by first | exact rfl | decide +kernel)) rfl
theorem wCX8_wet : Cond.code yX8_wet cX8_wet 3 (some .int) ∈ kw_ws := kz_5 (List.mem_of_getElem? (i := 151) (by first | exact rfl | decide +kernel)) rfl
theorem wCX8_wetOfAll : Cond.code yX8_wetOfAll cX8_wetOfAll 3 (some .int) ∈ kw_ws := kz_5 (List.mem_of_getElem? (i := 155) (by first | exact rfl | decide +kernel)) rfl
theorem wCX8_sail : Cond.code yX8_sail cX8_sail 6 (some .int) ∈ kw_ws := kz_5 (List.mem_of_getElem? (i := 159) (by first | exact rfl | decide +kernel)) rfl
theorem wCX8_askedPlan : Cond.code yX8_askedPlan cX8_askedPlan 3 (some .int) ∈ kw_ws := kz_5 (List.mem_of_getElem? (i := 163) (by first | exact rfl | decide +kernel)) rfl
theorem wCX8_dry : Cond.code yX8_dry cX8_dry 7 (some .int) ∈ kw_ws := kz_5 (List.mem_of_getElem? (i := 167) (by first | exact rfl | decide +kernel)) rfl
theorem wCX8_far : Cond.code yX8_far cX8_far 6 (some .int) ∈ kw_ws := kz_5 (List.mem_of_getElem? (i := 171) (by first | exact rfl | decide +kernel)) rfl
theorem wCX8_setHours : Cond.code yX8_setHours cX8_setHours 3 none ∈ kw_ws := kz_5 (List.mem_of_getElem? (i := 175) (by first | exact rfl | decide +kernel)) rfl
theorem wCX8_farBy : Cond.code yX8_farBy cX8_farBy 16 (some .int) ∈ kw_ws := kz_5 (List.mem_of_getElem? (i := 179) (by first | exact rfl | decide +kernel)) rfl
theorem wCX8_isTurn : Cond.code yX8_isTurn cX8_isTurn 2 (some .boolean) ∈ kw_ws := kz_5 (List.mem_of_getElem? (i := 183) (by first | exact rfl | decide +kernel)) rfl
theorem wCX8_soon : Cond.code yX8_soon cX8_soon 4 (some .int) ∈ kw_ws := kz_5 (List.mem_of_getElem? (i := 187) (by first | exact rfl | decide +kernel)) rfl
theorem wCX8_mostOf : Cond.code yX8_mostOf cX8_mostOf 5 (some .int) ∈ kw_ws := kz_5 (List.mem_of_getElem? (i := 191) (by first | exact rfl | decide +kernel)) rfl
theorem wCX8_greater : Cond.code yX8_greater cX8_greater 2 (some .int) ∈ kw_ws := kz_5 (List.mem_of_getElem? (i := 194) (by first | exact rfl | decide +kernel)) rfl
theorem wCX8_least : Cond.code yX8_least cX8_least 7 (some .int) ∈ kw_ws := kz_5 (List.mem_of_getElem? (i := 198) (by first | exact rfl | decide +kernel)) rfl
theorem wCX8_ways : Cond.code yX8_ways cX8_ways 7 (some .int) ∈ kw_ws := kz_5 (List.mem_of_getElem? (i := 202) (by first | exact rfl | decide +kernel)) rfl
theorem wCX8_kinds : Cond.code yX8_kinds cX8_kinds 6 (some .int) ∈ kw_ws := kz_5 (List.mem_of_getElem? (i := 206) (by first | exact rfl | decide +kernel)) rfl
theorem wCX8_askedPulls : Cond.code yX8_askedPulls cX8_askedPulls 5 (some .int) ∈ kw_ws := kz_5 (List.mem_of_getElem? (i := 210) (by first | exact rfl | decide +kernel)) rfl
theorem wCX8_pullsSo : Cond.code yX8_pullsSo cX8_pullsSo 6 (some .boolean) ∈ kw_ws := kz_5 (List.mem_of_getElem? (i := 214) (by first | exact rfl | decide +kernel)) rfl
theorem wCX8_areas : Cond.code yX8_areas cX8_areas 6 (some .int) ∈ kw_ws := kz_5 (List.mem_of_getElem? (i := 218) (by first | exact rfl | decide +kernel)) rfl
theorem wCX8_rival : Cond.code yX8_rival cX8_rival 9 (some .int) ∈ kw_ws := kz_5 (List.mem_of_getElem? (i := 222) (by first | exact rfl | decide +kernel)) rfl
theorem wCX8_mid : Cond.code yX8_mid cX8_mid 8 (some .int) ∈ kw_ws := kz_5 (List.mem_of_getElem? (i := 226) (by first | exact rfl | decide +kernel)) rfl
theorem wCX8_gustMiles : Cond.code yX8_gustMiles cX8_gustMiles 5 (some .int) ∈ kw_ws := kz_5 (List.mem_of_getElem? (i := 230) (by first | exact rfl | decide +kernel)) rfl
theorem wCX8_weightOf : Cond.code yX8_weightOf cX8_weightOf 4 (some .long) ∈ kw_ws := kz_5 (List.mem_of_getElem? (i := 234) (by first | exact rfl | decide +kernel)) rfl
theorem wCX8_power : Cond.code yX8_power cX8_power 6 (some .long) ∈ kw_ws := kz_5 (List.mem_of_getElem? (i := 237) (by first | exact rfl | decide +kernel)) rfl
theorem wCX8_odds : Cond.code yX8_odds cX8_odds 9 (some .int) ∈ kw_ws := kz_6 (List.mem_of_getElem? (i := 2) (by first | exact rfl | decide +kernel)) rfl
theorem wCX8_lots : Cond.code yX8_lots cX8_lots 6 (some .int) ∈ kw_ws := kz_6 (List.mem_of_getElem? (i := 6) (by first | exact rfl | decide +kernel)) rfl
theorem wCX8_asked : Cond.code yX8_asked cX8_asked 1 (some .int) ∈ kw_ws := kz_6 (List.mem_of_getElem? (i := 13) (by first | exact rfl | decide +kernel)) rfl
theorem wCX8_upper : Cond.code yX8_upper cX8_upper 1 (some .long) ∈ kw_ws := kz_6 (List.mem_of_getElem? (i := 17) (by first | exact rfl | decide +kernel)) rfl
theorem wCX8_lower : Cond.code yX8_lower cX8_lower 1 (some .long) ∈ kw_ws := kz_6 (List.mem_of_getElem? (i := 21) (by first | exact rfl | decide +kernel)) rfl
theorem wCX8_count : Cond.code yX8_count cX8_count 2 (some .int) ∈ kw_ws := kz_6 (List.mem_of_getElem? (i := 25) (by first | exact rfl | decide +kernel)) rfl
theorem wCX8_tells : Cond.code yX8_tells cX8_tells 2 (some .int) ∈ kw_ws := kz_6 (List.mem_of_getElem? (i := 29) (by first | exact rfl | decide +kernel)) rfl
theorem wCX8_howMany : Cond.code yX8_howMany cX8_howMany 4 (some .int) ∈ kw_ws := kz_6 (List.mem_of_getElem? (i := 33) (by first | exact rfl | decide +kernel)) rfl
theorem wCX8_there : Cond.code yX8_there cX8_there 4 (some .int) ∈ kw_ws := kz_6 (List.mem_of_getElem? (i := 37) (by first | exact rfl | decide +kernel)) rfl
theorem wCX8_miles : Cond.code yX8_miles cX8_miles 1 (some .int) ∈ kw_ws := kz_6 (List.mem_of_getElem? (i := 41) (by first | exact rfl | decide +kernel)) rfl
theorem wCX8_finding : Cond.code yX8_finding cX8_finding 1 (some .int) ∈ kw_ws := kz_6 (List.mem_of_getElem? (i := 45) (by first | exact rfl | decide +kernel)) rfl
theorem wCX8_findings : Cond.code yX8_findings cX8_findings 2 (some .int) ∈ kw_ws := kz_6 (List.mem_of_getElem? (i := 49) (by first | exact rfl | decide +kernel)) rfl
theorem wCX8_digest : Cond.code yX8_digest cX8_digest 3 (some .long) ∈ kw_ws := kz_6 (List.mem_of_getElem? (i := 53) (by first | exact rfl | decide +kernel)) rfl
theorem wCX8_mix : Cond.code yX8_mix cX8_mix 2 none ∈ kw_ws := kz_6 (List.mem_of_getElem? (i := 58) (by first | exact rfl | decide +kernel)) rfl
theorem wCX8_mixTown : Cond.code yX8_mixTown cX8_mixTown 3 none ∈ kw_ws := kz_6 (List.mem_of_getElem? (i := 63) (by first | exact rfl | decide +kernel)) rfl
theorem wVX7_makeOn : Cond.selects RX7 yX7_makeOn yX7_makeOn ∈ kw_ws := kw_ws_in (List.mem_append_left _ (List.mem_of_getElem? (i := 0) (by decide +kernel))) rfl
theorem wVX2_skipBlanks : Cond.selects RX2 yX2_skipBlanks yX2_skipBlanks ∈ kw_ws := kw_ws_in (List.mem_append_left _ (List.mem_of_getElem? (i := 1) (by decide +kernel))) rfl
theorem wVX2_readWinds : Cond.selects RX2 yX2_readWinds yX2_readWinds ∈ kw_ws := kw_ws_in (List.mem_append_left _ (List.mem_of_getElem? (i := 2) (by decide +kernel))) rfl
theorem wVX2_readLine : Cond.selects RX2 yX2_readLine yX2_readLine ∈ kw_ws := kw_ws_in (List.mem_append_left _ (List.mem_of_getElem? (i := 3) (by decide +kernel))) rfl
theorem wVX2_readFigure : Cond.selects RX2 yX2_readFigure yX2_readFigure ∈ kw_ws := kw_ws_in (List.mem_append_left _ (List.mem_of_getElem? (i := 4) (by decide +kernel))) rfl
theorem wVX5_passHour : Cond.selects RX5 yX5_passHour yX5_passHour ∈ kw_ws := kw_ws_in (List.mem_append_left _ (List.mem_of_getElem? (i := 5) (by decide +kernel))) rfl
theorem wVX7_drySet : Cond.selects RX7 yX7_drySet yX7_drySet ∈ kw_ws := kw_ws_in (List.mem_append_left _ (List.mem_of_getElem? (i := 6) (by decide +kernel))) rfl
theorem wVX7_planRefusal : Cond.selects RX7 yX7_planRefusal yX7_planRefusal ∈ kw_ws := kw_ws_in (List.mem_append_left _ (List.mem_of_getElem? (i := 7) (by decide +kernel))) rfl
theorem wVX6_sailFrom : Cond.selects RX6 yX6_sailFrom yX6_sailFrom ∈ kw_ws := kw_ws_in (List.mem_append_left _ (List.mem_of_getElem? (i := 8) (by decide +kernel))) rfl
theorem wVX7_mostMilesBehind : Cond.selects RX7 yX7_mostMilesBehind yX7_mostMilesBehind ∈ kw_ws := kw_ws_in (List.mem_append_left _ (List.mem_of_getElem? (i := 9) (by decide +kernel))) rfl
theorem wVX7_pairsRefusal : Cond.selects RX7 yX7_pairsRefusal yX7_pairsRefusal ∈ kw_ws := kw_ws_in (List.mem_append_left _ (List.mem_of_getElem? (i := 10) (by decide +kernel))) rfl
theorem wVX7_pulledSo : Cond.selects RX7 yX7_pulledSo yX7_pulledSo ∈ kw_ws := kw_ws_in (List.mem_append_left _ (List.mem_of_getElem? (i := 11) (by decide +kernel))) rfl
theorem wVX7_foresee : Cond.selects RX7 yX7_foresee yX7_foresee ∈ kw_ws := kw_ws_in (List.mem_append_left _ (List.mem_of_getElem? (i := 12) (by decide +kernel))) rfl
theorem wVX7_milesByGusts : Cond.selects RX7 yX7_milesByGusts yX7_milesByGusts ∈ kw_ws := kw_ws_in (List.mem_append_left _ (List.mem_of_getElem? (i := 13) (by decide +kernel))) rfl
theorem wVX8_meet : Cond.selects RX8 yX8_meet yX8_meet ∈ kw_ws := kw_ws_in (List.mem_append_left _ (List.mem_of_getElem? (i := 14) (by decide +kernel))) rfl
theorem wVX8_setRow : Cond.selects RX8 yX8_setRow yX8_setRow ∈ kw_ws := kw_ws_in (List.mem_append_left _ (List.mem_of_getElem? (i := 15) (by decide +kernel))) rfl
theorem wVX8_askedRow : Cond.selects RX8 yX8_askedRow yX8_askedRow ∈ kw_ws := kw_ws_in (List.mem_append_left _ (List.mem_of_getElem? (i := 16) (by decide +kernel))) rfl
theorem wVX8_rowAt : Cond.selects RX8 yX8_rowAt yX8_rowAt ∈ kw_ws := kw_ws_in (List.mem_append_left _ (List.mem_of_getElem? (i := 17) (by decide +kernel))) rfl
theorem wVX8_ask : Cond.selects RX8 yX8_ask yX8_ask ∈ kw_ws := kw_ws_in (List.mem_append_left _ (List.mem_of_getElem? (i := 18) (by decide +kernel))) rfl
theorem wVX8_askedText : Cond.selects RX8 yX8_askedText yX8_askedText ∈ kw_ws := kw_ws_in (List.mem_append_left _ (List.mem_of_getElem? (i := 19) (by decide +kernel))) rfl
theorem wVX8_goesOn : Cond.selects RX8 yX8_goesOn yX8_goesOn ∈ kw_ws := kw_ws_in (List.mem_append_left _ (List.mem_of_getElem? (i := 20) (by decide +kernel))) rfl
theorem wVX8_readsTown : Cond.selects RX8 yX8_readsTown yX8_readsTown ∈ kw_ws := kw_ws_in (List.mem_append_left _ (List.mem_of_getElem? (i := 21) (by decide +kernel))) rfl
theorem wVX8_readsWinds : Cond.selects RX8 yX8_readsWinds yX8_readsWinds ∈ kw_ws := kw_ws_in (List.mem_append_left _ (List.mem_of_getElem? (i := 22) (by decide +kernel))) rfl
theorem wVX8_skip : Cond.selects RX8 yX8_skip yX8_skip ∈ kw_ws := kw_ws_in (List.mem_append_left _ (List.mem_of_getElem? (i := 23) (by decide +kernel))) rfl
theorem wVX8_here : Cond.selects RX8 yX8_here yX8_here ∈ kw_ws := kw_ws_in (List.mem_append_left _ (List.mem_of_getElem? (i := 24) (by decide +kernel))) rfl
theorem wVX8_readsLine : Cond.selects RX8 yX8_readsLine yX8_readsLine ∈ kw_ws := kw_ws_in (List.mem_append_left _ (List.mem_of_getElem? (i := 25) (by decide +kernel))) rfl
theorem wVX8_figure : Cond.selects RX8 yX8_figure yX8_figure ∈ kw_ws := kw_ws_in (List.mem_append_left _ (List.mem_of_getElem? (i := 26) (by decide +kernel))) rfl
theorem wVX8_isLine : Cond.selects RX8 yX8_isLine yX8_isLine ∈ kw_ws := kw_ws_in (List.mem_append_left _ (List.mem_of_getElem? (i := 27) (by decide +kernel))) rfl
theorem wVX8_turnLine : Cond.selects RX8 yX8_turnLine yX8_turnLine ∈ kw_ws := kw_ws_in (List.mem_append_left _ (List.mem_of_getElem? (i := 28) (by decide +kernel))) rfl
theorem wVX8_note : Cond.selects RX8 yX8_note yX8_note ∈ kw_ws := kw_ws_in (List.mem_append_left _ (List.mem_of_getElem? (i := 29) (by decide +kernel))) rfl
theorem wVX8_write : Cond.selects RX8 yX8_write yX8_write ∈ kw_ws := kw_ws_in (List.mem_append_left _ (List.mem_of_getElem? (i := 30) (by decide +kernel))) rfl
theorem wVX8_pass : Cond.selects RX8 yX8_pass yX8_pass ∈ kw_ws := kw_ws_in (List.mem_append_left _ (List.mem_of_getElem? (i := 31) (by decide +kernel))) rfl
theorem wVX8_windAt : Cond.selects RX8 yX8_windAt yX8_windAt ∈ kw_ws := kw_ws_in (List.mem_append_left _ (List.mem_of_getElem? (i := 32) (by decide +kernel))) rfl
theorem wVX8_milesBy : Cond.selects RX8 yX8_milesBy yX8_milesBy ∈ kw_ws := kw_ws_in (List.mem_append_left _ (List.mem_of_getElem? (i := 33) (by decide +kernel))) rfl
theorem wVX8_pullOf : Cond.selects RX8 yX8_pullOf yX8_pullOf ∈ kw_ws := kw_ws_in (List.mem_append_left _ (List.mem_of_getElem? (i := 34) (by decide +kernel))) rfl
theorem wVX8_turnBy : Cond.selects RX8 yX8_turnBy yX8_turnBy ∈ kw_ws := kw_ws_in (List.mem_append_left _ (List.mem_of_getElem? (i := 35) (by decide +kernel))) rfl
theorem wVX8_wetBehind : Cond.selects RX8 yX8_wetBehind yX8_wetBehind ∈ kw_ws := kw_ws_in (List.mem_append_left _ (List.mem_of_getElem? (i := 36) (by decide +kernel))) rfl
theorem wVX8_part : Cond.selects RX8 yX8_part yX8_part ∈ kw_ws := kw_ws_in (List.mem_append_left _ (List.mem_of_getElem? (i := 37) (by decide +kernel))) rfl
theorem wVX8_read : Cond.selects RX8 yX8_read yX8_read ∈ kw_ws := kw_ws_in (List.mem_append_left _ (List.mem_of_getElem? (i := 38) (by decide +kernel))) rfl
theorem wVX8_lineOf : Cond.selects RX8 yX8_lineOf yX8_lineOf ∈ kw_ws := kw_ws_in (List.mem_append_left _ (List.mem_of_getElem? (i := 39) (by decide +kernel))) rfl
theorem wVX8_hoursTill : Cond.selects RX8 yX8_hoursTill yX8_hoursTill ∈ kw_ws := kw_ws_in (List.mem_append_left _ (List.mem_of_getElem? (i := 40) (by decide +kernel))) rfl
theorem wVX8_lesserOnes : Cond.selects RX8 yX8_lesserOnes yX8_lesserOnes ∈ kw_ws := kw_ws_in (List.mem_append_left _ (List.mem_of_getElem? (i := 41) (by decide +kernel))) rfl
theorem wVX8_isSet : Cond.selects RX8 yX8_isSet yX8_isSet ∈ kw_ws := kw_ws_in (List.mem_append_left _ (List.mem_of_getElem? (i := 42) (by decide +kernel))) rfl
theorem wVX8_linenOf : Cond.selects RX8 yX8_linenOf yX8_linenOf ∈ kw_ws := kw_ws_in (List.mem_append_left _ (List.mem_of_getElem? (i := 43) (by decide +kernel))) rfl
theorem wVX8_wetOfAll : Cond.selects RX8 yX8_wetOfAll yX8_wetOfAll ∈ kw_ws := kw_ws_in (List.mem_append_left _ (List.mem_of_getElem? (i := 44) (by decide +kernel))) rfl
theorem wVX8_askedPlan : Cond.selects RX8 yX8_askedPlan yX8_askedPlan ∈ kw_ws := kw_ws_in (List.mem_append_left _ (List.mem_of_getElem? (i := 45) (by decide +kernel))) rfl
theorem wVX8_setHours : Cond.selects RX8 yX8_setHours yX8_setHours ∈ kw_ws := kw_ws_in (List.mem_append_left _ (List.mem_of_getElem? (i := 46) (by decide +kernel))) rfl
theorem wVX8_farBy : Cond.selects RX8 yX8_farBy yX8_farBy ∈ kw_ws := kw_ws_in (List.mem_append_left _ (List.mem_of_getElem? (i := 47) (by decide +kernel))) rfl
theorem wVX8_mostOf : Cond.selects RX8 yX8_mostOf yX8_mostOf ∈ kw_ws := kw_ws_in (List.mem_append_left _ (List.mem_of_getElem? (i := 48) (by decide +kernel))) rfl
theorem wVX8_askedPulls : Cond.selects RX8 yX8_askedPulls yX8_askedPulls ∈ kw_ws := kw_ws_in (List.mem_append_left _ (List.mem_of_getElem? (i := 49) (by decide +kernel))) rfl
theorem wVX8_pullsSo : Cond.selects RX8 yX8_pullsSo yX8_pullsSo ∈ kw_ws := kw_ws_in (List.mem_append_left _ (List.mem_of_getElem? (i := 50) (by decide +kernel))) rfl
theorem wVX8_gustMiles : Cond.selects RX8 yX8_gustMiles yX8_gustMiles ∈ kw_ws := kw_ws_in (List.mem_append_left _ (List.mem_of_getElem? (i := 51) (by decide +kernel))) rfl
theorem wVX8_weightOf : Cond.selects RX8 yX8_weightOf yX8_weightOf ∈ kw_ws := kw_ws_in (List.mem_append_left _ (List.mem_of_getElem? (i := 52) (by decide +kernel))) rfl
theorem wVX8_tells : Cond.selects RX8 yX8_tells yX8_tells ∈ kw_ws := kw_ws_in (List.mem_append_left _ (List.mem_of_getElem? (i := 53) (by decide +kernel))) rfl
theorem wVX8_howMany : Cond.selects RX8 yX8_howMany yX8_howMany ∈ kw_ws := kw_ws_in (List.mem_append_left _ (List.mem_of_getElem? (i := 54) (by decide +kernel))) rfl
theorem wVX8_there : Cond.selects RX8 yX8_there yX8_there ∈ kw_ws := kw_ws_in (List.mem_append_left _ (List.mem_of_getElem? (i := 55) (by decide +kernel))) rfl
theorem wVX8_mix : Cond.selects RX8 yX8_mix yX8_mix ∈ kw_ws := kw_ws_in (List.mem_append_left _ (List.mem_of_getElem? (i := 56) (by decide +kernel))) rfl
theorem wVX8_mixTown : Cond.selects RX8 yX8_mixTown yX8_mixTown ∈ kw_ws := kw_ws_in (List.mem_append_left _ (List.mem_of_getElem? (i := 57) (by decide +kernel))) rfl
theorem kfX3_9 : Cond.fieldLink RX3 9 RX3 (TX3 0).2.1 (TX3 0).2.2.1 ∈ kw_ws := kz_1 (List.mem_of_getElem? (i := 33) (by first | exact rfl | decide +kernel)) rfl
theorem lkX3_9 : kw_lk RX3 9 3 0 := ⟨RX3, TX3, 3, rfl, by decide, inW3, rfl, kfX3_9⟩
theorem kfX7_348 : Cond.fieldLink RX7 348 RX3 (TX3 0).2.1 (TX3 0).2.2.1 ∈ kw_ws := kz_1 (List.mem_of_getElem? (i := 34) (by first | exact rfl | decide +kernel)) rfl
theorem lkX7_348 : kw_lk RX7 348 3 0 := ⟨RX3, TX3, 3, rfl, by decide, inW3, rfl, kfX7_348⟩
theorem kfX3_17 : Cond.fieldLink RX3 17 RX3 (TX3 1).2.1 (TX3 1).2.2.1 ∈ kw_ws := kz_1 (List.mem_of_getElem? (i := 35) (by first | exact rfl | decide +kernel)) rfl
theorem lkX3_17 : kw_lk RX3 17 3 1 := ⟨RX3, TX3, 3, rfl, by decide, inW3, rfl, kfX3_17⟩
theorem kfX3_20 : Cond.fieldLink RX3 20 RX3 (TX3 2).2.1 (TX3 2).2.2.1 ∈ kw_ws := kz_1 (List.mem_of_getElem? (i := 36) (by first | exact rfl | decide +kernel)) rfl
theorem lkX3_20 : kw_lk RX3 20 3 2 := ⟨RX3, TX3, 3, rfl, by decide, inW3, rfl, kfX3_20⟩
theorem kfX1_9 : Cond.fieldLink RX1 9 RX1 (TX1 0).2.1 (TX1 0).2.2.1 ∈ kw_ws := kz_1 (List.mem_of_getElem? (i := 57) (by first | exact rfl | decide +kernel)) rfl
theorem lkX1_9 : kw_lk RX1 9 1 0 := ⟨RX1, TX1, 7, rfl, by decide, inW1, rfl, kfX1_9⟩
theorem kfX2_56 : Cond.fieldLink RX2 56 RX1 (TX1 0).2.1 (TX1 0).2.2.1 ∈ kw_ws := kz_1 (List.mem_of_getElem? (i := 58) (by first | exact rfl | decide +kernel)) rfl
theorem lkX2_56 : kw_lk RX2 56 1 0 := ⟨RX1, TX1, 7, rfl, by decide, inW1, rfl, kfX2_56⟩
theorem kfX5_49 : Cond.fieldLink RX5 49 RX1 (TX1 0).2.1 (TX1 0).2.2.1 ∈ kw_ws := kz_1 (List.mem_of_getElem? (i := 59) (by first | exact rfl | decide +kernel)) rfl
theorem lkX5_49 : kw_lk RX5 49 1 0 := ⟨RX1, TX1, 7, rfl, by decide, inW1, rfl, kfX5_49⟩
theorem kfX7_143 : Cond.fieldLink RX7 143 RX1 (TX1 0).2.1 (TX1 0).2.2.1 ∈ kw_ws := kz_1 (List.mem_of_getElem? (i := 60) (by first | exact rfl | decide +kernel)) rfl
theorem lkX7_143 : kw_lk RX7 143 1 0 := ⟨RX1, TX1, 7, rfl, by decide, inW1, rfl, kfX7_143⟩
theorem kfX1_15 : Cond.fieldLink RX1 15 RX1 (TX1 1).2.1 (TX1 1).2.2.1 ∈ kw_ws := kz_1 (List.mem_of_getElem? (i := 61) (by first | exact rfl | decide +kernel)) rfl
theorem lkX1_15 : kw_lk RX1 15 1 1 := ⟨RX1, TX1, 7, rfl, by decide, inW1, rfl, kfX1_15⟩
theorem kfX0_32 : Cond.fieldLink RX0 32 RX1 (TX1 1).2.1 (TX1 1).2.2.1 ∈ kw_ws := kz_1 (List.mem_of_getElem? (i := 62) (by first | exact rfl | decide +kernel)) rfl
theorem lkX0_32 : kw_lk RX0 32 1 1 := ⟨RX1, TX1, 7, rfl, by decide, inW1, rfl, kfX0_32⟩
theorem kfX2_59 : Cond.fieldLink RX2 59 RX1 (TX1 1).2.1 (TX1 1).2.2.1 ∈ kw_ws := kz_1 (List.mem_of_getElem? (i := 63) (by first | exact rfl | decide +kernel)) rfl
theorem lkX2_59 : kw_lk RX2 59 1 1 := ⟨RX1, TX1, 7, rfl, by decide, inW1, rfl, kfX2_59⟩
theorem kfX5_52 : Cond.fieldLink RX5 52 RX1 (TX1 1).2.1 (TX1 1).2.2.1 ∈ kw_ws := kz_1 (List.mem_of_getElem? (i := 64) (by first | exact rfl | decide +kernel)) rfl
theorem lkX5_52 : kw_lk RX5 52 1 1 := ⟨RX1, TX1, 7, rfl, by decide, inW1, rfl, kfX5_52⟩
theorem kfX1_18 : Cond.fieldLink RX1 18 RX1 (TX1 2).2.1 (TX1 2).2.2.1 ∈ kw_ws := kz_1 (List.mem_of_getElem? (i := 65) (by first | exact rfl | decide +kernel)) rfl
theorem lkX1_18 : kw_lk RX1 18 1 2 := ⟨RX1, TX1, 7, rfl, by decide, inW1, rfl, kfX1_18⟩
theorem kfX2_66 : Cond.fieldLink RX2 66 RX1 (TX1 2).2.1 (TX1 2).2.2.1 ∈ kw_ws := kz_1 (List.mem_of_getElem? (i := 66) (by first | exact rfl | decide +kernel)) rfl
theorem lkX2_66 : kw_lk RX2 66 1 2 := ⟨RX1, TX1, 7, rfl, by decide, inW1, rfl, kfX2_66⟩
theorem kfX5_55 : Cond.fieldLink RX5 55 RX1 (TX1 2).2.1 (TX1 2).2.2.1 ∈ kw_ws := kz_1 (List.mem_of_getElem? (i := 67) (by first | exact rfl | decide +kernel)) rfl
theorem lkX5_55 : kw_lk RX5 55 1 2 := ⟨RX1, TX1, 7, rfl, by decide, inW1, rfl, kfX5_55⟩
theorem kfX7_168 : Cond.fieldLink RX7 168 RX1 (TX1 2).2.1 (TX1 2).2.2.1 ∈ kw_ws := kz_1 (List.mem_of_getElem? (i := 68) (by first | exact rfl | decide +kernel)) rfl
theorem lkX7_168 : kw_lk RX7 168 1 2 := ⟨RX1, TX1, 7, rfl, by decide, inW1, rfl, kfX7_168⟩
theorem kfX1_21 : Cond.fieldLink RX1 21 RX1 (TX1 3).2.1 (TX1 3).2.2.1 ∈ kw_ws := kz_1 (List.mem_of_getElem? (i := 69) (by first | exact rfl | decide +kernel)) rfl
theorem lkX1_21 : kw_lk RX1 21 1 3 := ⟨RX1, TX1, 7, rfl, by decide, inW1, rfl, kfX1_21⟩
theorem kfX2_69 : Cond.fieldLink RX2 69 RX1 (TX1 3).2.1 (TX1 3).2.2.1 ∈ kw_ws := kz_1 (List.mem_of_getElem? (i := 70) (by first | exact rfl | decide +kernel)) rfl
theorem lkX2_69 : kw_lk RX2 69 1 3 := ⟨RX1, TX1, 7, rfl, by decide, inW1, rfl, kfX2_69⟩
theorem kfX5_58 : Cond.fieldLink RX5 58 RX1 (TX1 3).2.1 (TX1 3).2.2.1 ∈ kw_ws := kz_1 (List.mem_of_getElem? (i := 71) (by first | exact rfl | decide +kernel)) rfl
theorem lkX5_58 : kw_lk RX5 58 1 3 := ⟨RX1, TX1, 7, rfl, by decide, inW1, rfl, kfX5_58⟩
theorem kfX1_24 : Cond.fieldLink RX1 24 RX1 (TX1 4).2.1 (TX1 4).2.2.1 ∈ kw_ws := kz_1 (List.mem_of_getElem? (i := 72) (by first | exact rfl | decide +kernel)) rfl
theorem lkX1_24 : kw_lk RX1 24 1 4 := ⟨RX1, TX1, 7, rfl, by decide, inW1, rfl, kfX1_24⟩
theorem kfX2_49 : Cond.fieldLink RX2 49 RX1 (TX1 4).2.1 (TX1 4).2.2.1 ∈ kw_ws := kz_1 (List.mem_of_getElem? (i := 73) (by first | exact rfl | decide +kernel)) rfl
theorem lkX2_49 : kw_lk RX2 49 1 4 := ⟨RX1, TX1, 7, rfl, by decide, inW1, rfl, kfX2_49⟩
theorem kfX0_18 : Cond.fieldLink RX0 18 RX1 (TX1 5).2.1 (TX1 5).2.2.1 ∈ kw_ws := kz_1 (List.mem_of_getElem? (i := 74) (by first | exact rfl | decide +kernel)) rfl
theorem lkX0_18 : kw_lk RX0 18 1 5 := ⟨RX1, TX1, 7, rfl, by decide, inW1, rfl, kfX0_18⟩
theorem lpX0_18 : kw_lkP RX0 18 1 5 .int := ⟨RX1, TX1, 7, tyX1, rfl, by decide, inW1, rfl, kfX0_18, tyX1_ok, nmX1, rfl, by decide +kernel⟩
theorem kfX5_25 : Cond.fieldLink RX5 25 RX1 (TX1 5).2.1 (TX1 5).2.2.1 ∈ kw_ws := kz_1 (List.mem_of_getElem? (i := 75) (by first | exact rfl | decide +kernel)) rfl
theorem lkX5_25 : kw_lk RX5 25 1 5 := ⟨RX1, TX1, 7, rfl, by decide, inW1, rfl, kfX5_25⟩
theorem lpX5_25 : kw_lkP RX5 25 1 5 .int := ⟨RX1, TX1, 7, tyX1, rfl, by decide, inW1, rfl, kfX5_25, tyX1_ok, nmX1, rfl, by decide +kernel⟩
theorem kfX2_18 : Cond.fieldLink RX2 18 RX1 (TX1 5).2.1 (TX1 5).2.2.1 ∈ kw_ws := kz_1 (List.mem_of_getElem? (i := 76) (by first | exact rfl | decide +kernel)) rfl
theorem lkX2_18 : kw_lk RX2 18 1 5 := ⟨RX1, TX1, 7, rfl, by decide, inW1, rfl, kfX2_18⟩
theorem lpX2_18 : kw_lkP RX2 18 1 5 .int := ⟨RX1, TX1, 7, tyX1, rfl, by decide, inW1, rfl, kfX2_18, tyX1_ok, nmX1, rfl, by decide +kernel⟩
theorem kfX1_33 : Cond.fieldLink RX1 33 RX1 (TX1 5).2.1 (TX1 5).2.2.1 ∈ kw_ws := kz_1 (List.mem_of_getElem? (i := 77) (by first | exact rfl | decide +kernel)) rfl
theorem lkX1_33 : kw_lk RX1 33 1 5 := ⟨RX1, TX1, 7, rfl, by decide, inW1, rfl, kfX1_33⟩
theorem lpX1_33 : kw_lkP RX1 33 1 5 .int := ⟨RX1, TX1, 7, tyX1, rfl, by decide, inW1, rfl, kfX1_33, tyX1_ok, nmX1, rfl, by decide +kernel⟩
theorem kfX7_133 : Cond.fieldLink RX7 133 RX1 (TX1 5).2.1 (TX1 5).2.2.1 ∈ kw_ws := kz_1 (List.mem_of_getElem? (i := 78) (by first | exact rfl | decide +kernel)) rfl
theorem lkX7_133 : kw_lk RX7 133 1 5 := ⟨RX1, TX1, 7, rfl, by decide, inW1, rfl, kfX7_133⟩
theorem lpX7_133 : kw_lkP RX7 133 1 5 .int := ⟨RX1, TX1, 7, tyX1, rfl, by decide, inW1, rfl, kfX7_133, tyX1_ok, nmX1, rfl, by decide +kernel⟩
theorem kfX2_22 : Cond.fieldLink RX2 22 RX1 (TX1 6).2.1 (TX1 6).2.2.1 ∈ kw_ws := kz_1 (List.mem_of_getElem? (i := 79) (by first | exact rfl | decide +kernel)) rfl
theorem lkX2_22 : kw_lk RX2 22 1 6 := ⟨RX1, TX1, 7, rfl, by decide, inW1, rfl, kfX2_22⟩
theorem lpX2_22 : kw_lkP RX2 22 1 6 .int := ⟨RX1, TX1, 7, tyX1, rfl, by decide, inW1, rfl, kfX2_22, tyX1_ok, nmX1, rfl, by decide +kernel⟩
theorem kfX1_37 : Cond.fieldLink RX1 37 RX1 (TX1 6).2.1 (TX1 6).2.2.1 ∈ kw_ws := kz_1 (List.mem_of_getElem? (i := 80) (by first | exact rfl | decide +kernel)) rfl
theorem lkX1_37 : kw_lk RX1 37 1 6 := ⟨RX1, TX1, 7, rfl, by decide, inW1, rfl, kfX1_37⟩
theorem lpX1_37 : kw_lkP RX1 37 1 6 .int := ⟨RX1, TX1, 7, tyX1, rfl, by decide, inW1, rfl, kfX1_37, tyX1_ok, nmX1, rfl, by decide +kernel⟩
theorem kfX2_12 : Cond.fieldLink RX2 12 RX2 (TX2 0).2.1 (TX2 0).2.2.1 ∈ kw_ws := kz_1 (List.mem_of_getElem? (i := 96) (by first | exact rfl | decide +kernel)) rfl
theorem lkX2_12 : kw_lk RX2 12 2 0 := ⟨RX2, TX2, 2, rfl, by decide, inW2, rfl, kfX2_12⟩
theorem kfX7_121 : Cond.fieldLink RX7 121 RX2 (TX2 0).2.1 (TX2 0).2.2.1 ∈ kw_ws := kz_1 (List.mem_of_getElem? (i := 97) (by first | exact rfl | decide +kernel)) rfl
theorem lkX7_121 : kw_lk RX7 121 2 0 := ⟨RX2, TX2, 2, rfl, by decide, inW2, rfl, kfX7_121⟩
theorem kfX2_25 : Cond.fieldLink RX2 25 RX2 (TX2 1).2.1 (TX2 1).2.2.1 ∈ kw_ws := kz_1 (List.mem_of_getElem? (i := 98) (by first | exact rfl | decide +kernel)) rfl
theorem lkX2_25 : kw_lk RX2 25 2 1 := ⟨RX2, TX2, 2, rfl, by decide, inW2, rfl, kfX2_25⟩
theorem lpX2_25 : kw_lkP RX2 25 2 1 .int := ⟨RX2, TX2, 2, tyX2, rfl, by decide, inW2, rfl, kfX2_25, tyX2_ok, nmX2, rfl, by decide +kernel⟩
theorem kfX5_12 : Cond.fieldLink RX5 12 RX5 (TX5 0).2.1 (TX5 0).2.2.1 ∈ kw_ws := kz_1 (List.mem_of_getElem? (i := 112) (by first | exact rfl | decide +kernel)) rfl
theorem lkX5_12 : kw_lk RX5 12 5 0 := ⟨RX5, TX5, 8, rfl, by decide, inW5, rfl, kfX5_12⟩
theorem kfX6_51 : Cond.fieldLink RX6 51 RX5 (TX5 0).2.1 (TX5 0).2.2.1 ∈ kw_ws := kz_1 (List.mem_of_getElem? (i := 113) (by first | exact rfl | decide +kernel)) rfl
theorem lkX6_51 : kw_lk RX6 51 5 0 := ⟨RX5, TX5, 8, rfl, by decide, inW5, rfl, kfX6_51⟩
theorem kfX7_117 : Cond.fieldLink RX7 117 RX5 (TX5 0).2.1 (TX5 0).2.2.1 ∈ kw_ws := kz_1 (List.mem_of_getElem? (i := 114) (by first | exact rfl | decide +kernel)) rfl
theorem lkX7_117 : kw_lk RX7 117 5 0 := ⟨RX5, TX5, 8, rfl, by decide, inW5, rfl, kfX7_117⟩
theorem kfX5_18 : Cond.fieldLink RX5 18 RX5 (TX5 1).2.1 (TX5 1).2.2.1 ∈ kw_ws := kz_1 (List.mem_of_getElem? (i := 115) (by first | exact rfl | decide +kernel)) rfl
theorem lkX5_18 : kw_lk RX5 18 5 1 := ⟨RX5, TX5, 8, rfl, by decide, inW5, rfl, kfX5_18⟩
theorem kfX7_213 : Cond.fieldLink RX7 213 RX5 (TX5 1).2.1 (TX5 1).2.2.1 ∈ kw_ws := kz_1 (List.mem_of_getElem? (i := 116) (by first | exact rfl | decide +kernel)) rfl
theorem lkX7_213 : kw_lk RX7 213 5 1 := ⟨RX5, TX5, 8, rfl, by decide, inW5, rfl, kfX7_213⟩
theorem kfX5_22 : Cond.fieldLink RX5 22 RX5 (TX5 2).2.1 (TX5 2).2.2.1 ∈ kw_ws := kz_1 (List.mem_of_getElem? (i := 117) (by first | exact rfl | decide +kernel)) rfl
theorem lkX5_22 : kw_lk RX5 22 5 2 := ⟨RX5, TX5, 8, rfl, by decide, inW5, rfl, kfX5_22⟩
theorem kfX7_194 : Cond.fieldLink RX7 194 RX5 (TX5 2).2.1 (TX5 2).2.2.1 ∈ kw_ws := kz_1 (List.mem_of_getElem? (i := 118) (by first | exact rfl | decide +kernel)) rfl
theorem lkX7_194 : kw_lk RX7 194 5 2 := ⟨RX5, TX5, 8, rfl, by decide, inW5, rfl, kfX7_194⟩
theorem kfX5_32 : Cond.fieldLink RX5 32 RX5 (TX5 3).2.1 (TX5 3).2.2.1 ∈ kw_ws := kz_1 (List.mem_of_getElem? (i := 119) (by first | exact rfl | decide +kernel)) rfl
theorem lkX5_32 : kw_lk RX5 32 5 3 := ⟨RX5, TX5, 8, rfl, by decide, inW5, rfl, kfX5_32⟩
theorem lpX5_32 : kw_lkP RX5 32 5 3 .int := ⟨RX5, TX5, 8, tyX5, rfl, by decide, inW5, rfl, kfX5_32, tyX5_ok, nmX5, rfl, by decide +kernel⟩
theorem kfX7_207 : Cond.fieldLink RX7 207 RX5 (TX5 3).2.1 (TX5 3).2.2.1 ∈ kw_ws := kz_1 (List.mem_of_getElem? (i := 120) (by first | exact rfl | decide +kernel)) rfl
theorem lkX7_207 : kw_lk RX7 207 5 3 := ⟨RX5, TX5, 8, rfl, by decide, inW5, rfl, kfX7_207⟩
theorem lpX7_207 : kw_lkP RX7 207 5 3 .int := ⟨RX5, TX5, 8, tyX5, rfl, by decide, inW5, rfl, kfX7_207, tyX5_ok, nmX5, rfl, by decide +kernel⟩
theorem kfX5_29 : Cond.fieldLink RX5 29 RX5 (TX5 4).2.1 (TX5 4).2.2.1 ∈ kw_ws := kz_1 (List.mem_of_getElem? (i := 121) (by first | exact rfl | decide +kernel)) rfl
theorem lkX5_29 : kw_lk RX5 29 5 4 := ⟨RX5, TX5, 8, rfl, by decide, inW5, rfl, kfX5_29⟩
theorem lpX5_29 : kw_lkP RX5 29 5 4 .int := ⟨RX5, TX5, 8, tyX5, rfl, by decide, inW5, rfl, kfX5_29, tyX5_ok, nmX5, rfl, by decide +kernel⟩
theorem kfX7_157 : Cond.fieldLink RX7 157 RX5 (TX5 4).2.1 (TX5 4).2.2.1 ∈ kw_ws := kz_1 (List.mem_of_getElem? (i := 122) (by first | exact rfl | decide +kernel)) rfl
theorem lkX7_157 : kw_lk RX7 157 5 4 := ⟨RX5, TX5, 8, rfl, by decide, inW5, rfl, kfX7_157⟩
theorem lpX7_157 : kw_lkP RX7 157 5 4 .int := ⟨RX5, TX5, 8, tyX5, rfl, by decide, inW5, rfl, kfX7_157, tyX5_ok, nmX5, rfl, by decide +kernel⟩
theorem kfX5_35 : Cond.fieldLink RX5 35 RX5 (TX5 5).2.1 (TX5 5).2.2.1 ∈ kw_ws := kz_1 (List.mem_of_getElem? (i := 123) (by first | exact rfl | decide +kernel)) rfl
theorem lkX5_35 : kw_lk RX5 35 5 5 := ⟨RX5, TX5, 8, rfl, by decide, inW5, rfl, kfX5_35⟩
theorem lpX5_35 : kw_lkP RX5 35 5 5 .int := ⟨RX5, TX5, 8, tyX5, rfl, by decide, inW5, rfl, kfX5_35, tyX5_ok, nmX5, rfl, by decide +kernel⟩
theorem kfX7_322 : Cond.fieldLink RX7 322 RX5 (TX5 5).2.1 (TX5 5).2.2.1 ∈ kw_ws := kz_1 (List.mem_of_getElem? (i := 124) (by first | exact rfl | decide +kernel)) rfl
theorem lkX7_322 : kw_lk RX7 322 5 5 := ⟨RX5, TX5, 8, rfl, by decide, inW5, rfl, kfX7_322⟩
theorem lpX7_322 : kw_lkP RX7 322 5 5 .int := ⟨RX5, TX5, 8, tyX5, rfl, by decide, inW5, rfl, kfX7_322, tyX5_ok, nmX5, rfl, by decide +kernel⟩
theorem kfX6_68 : Cond.fieldLink RX6 68 RX5 (TX5 6).2.1 (TX5 6).2.2.1 ∈ kw_ws := kz_1 (List.mem_of_getElem? (i := 125) (by first | exact rfl | decide +kernel)) rfl
theorem lkX6_68 : kw_lk RX6 68 5 6 := ⟨RX5, TX5, 8, rfl, by decide, inW5, rfl, kfX6_68⟩
theorem lpX6_68 : kw_lkP RX6 68 5 6 .int := ⟨RX5, TX5, 8, tyX5, rfl, by decide, inW5, rfl, kfX6_68, tyX5_ok, nmX5, rfl, by decide +kernel⟩
theorem kfX5_78 : Cond.fieldLink RX5 78 RX5 (TX5 6).2.1 (TX5 6).2.2.1 ∈ kw_ws := kz_1 (List.mem_of_getElem? (i := 126) (by first | exact rfl | decide +kernel)) rfl
theorem lkX5_78 : kw_lk RX5 78 5 6 := ⟨RX5, TX5, 8, rfl, by decide, inW5, rfl, kfX5_78⟩
theorem lpX5_78 : kw_lkP RX5 78 5 6 .int := ⟨RX5, TX5, 8, tyX5, rfl, by decide, inW5, rfl, kfX5_78, tyX5_ok, nmX5, rfl, by decide +kernel⟩
theorem kfX7_204 : Cond.fieldLink RX7 204 RX5 (TX5 6).2.1 (TX5 6).2.2.1 ∈ kw_ws := kz_1 (List.mem_of_getElem? (i := 127) (by first | exact rfl | decide +kernel)) rfl
theorem lkX7_204 : kw_lk RX7 204 5 6 := ⟨RX5, TX5, 8, rfl, by decide, inW5, rfl, kfX7_204⟩
theorem lpX7_204 : kw_lkP RX7 204 5 6 .int := ⟨RX5, TX5, 8, tyX5, rfl, by decide, inW5, rfl, kfX7_204, tyX5_ok, nmX5, rfl, by decide +kernel⟩
theorem kfX6_71 : Cond.fieldLink RX6 71 RX5 (TX5 7).2.1 (TX5 7).2.2.1 ∈ kw_ws := kz_1 (List.mem_of_getElem? (i := 128) (by first | exact rfl | decide +kernel)) rfl
theorem lkX6_71 : kw_lk RX6 71 5 7 := ⟨RX5, TX5, 8, rfl, by decide, inW5, rfl, kfX6_71⟩
theorem lpX6_71 : kw_lkP RX6 71 5 7 .int := ⟨RX5, TX5, 8, tyX5, rfl, by decide, inW5, rfl, kfX6_71, tyX5_ok, nmX5, rfl, by decide +kernel⟩
theorem kfX5_84 : Cond.fieldLink RX5 84 RX5 (TX5 7).2.1 (TX5 7).2.2.1 ∈ kw_ws := kz_1 (List.mem_of_getElem? (i := 129) (by first | exact rfl | decide +kernel)) rfl
theorem lkX5_84 : kw_lk RX5 84 5 7 := ⟨RX5, TX5, 8, rfl, by decide, inW5, rfl, kfX5_84⟩
theorem lpX5_84 : kw_lkP RX5 84 5 7 .int := ⟨RX5, TX5, 8, tyX5, rfl, by decide, inW5, rfl, kfX5_84, tyX5_ok, nmX5, rfl, by decide +kernel⟩
theorem kfX7_197 : Cond.fieldLink RX7 197 RX5 (TX5 7).2.1 (TX5 7).2.2.1 ∈ kw_ws := kz_1 (List.mem_of_getElem? (i := 130) (by first | exact rfl | decide +kernel)) rfl
theorem lkX7_197 : kw_lk RX7 197 5 7 := ⟨RX5, TX5, 8, rfl, by decide, inW5, rfl, kfX7_197⟩
theorem lpX7_197 : kw_lkP RX7 197 5 7 .int := ⟨RX5, TX5, 8, tyX5, rfl, by decide, inW5, rfl, kfX7_197, tyX5_ok, nmX5, rfl, by decide +kernel⟩
theorem kfX0_9 : Cond.fieldLink RX0 9 RX0 (TX0 0).2.1 (TX0 0).2.2.1 ∈ kw_ws := kz_1 (List.mem_of_getElem? (i := 154) (by first | exact rfl | decide +kernel)) rfl
theorem lkX0_9 : kw_lk RX0 9 0 0 := ⟨RX0, TX0, 4, rfl, by decide, inW0, rfl, kfX0_9⟩
theorem kfX0_15 : Cond.fieldLink RX0 15 RX0 (TX0 1).2.1 (TX0 1).2.2.1 ∈ kw_ws := kz_1 (List.mem_of_getElem? (i := 155) (by first | exact rfl | decide +kernel)) rfl
theorem lkX0_15 : kw_lk RX0 15 0 1 := ⟨RX0, TX0, 4, rfl, by decide, inW0, rfl, kfX0_15⟩
theorem kfX0_24 : Cond.fieldLink RX0 24 RX0 (TX0 2).2.1 (TX0 2).2.2.1 ∈ kw_ws := kz_1 (List.mem_of_getElem? (i := 156) (by first | exact rfl | decide +kernel)) rfl
theorem lkX0_24 : kw_lk RX0 24 0 2 := ⟨RX0, TX0, 4, rfl, by decide, inW0, rfl, kfX0_24⟩
theorem lpX0_24 : kw_lkP RX0 24 0 2 .int := ⟨RX0, TX0, 4, tyX0, rfl, by decide, inW0, rfl, kfX0_24, tyX0_ok, nmX0, rfl, by decide +kernel⟩
theorem kfX7_351 : Cond.fieldLink RX7 351 RX0 (TX0 2).2.1 (TX0 2).2.2.1 ∈ kw_ws := kz_1 (List.mem_of_getElem? (i := 157) (by first | exact rfl | decide +kernel)) rfl
theorem lkX7_351 : kw_lk RX7 351 0 2 := ⟨RX0, TX0, 4, rfl, by decide, inW0, rfl, kfX7_351⟩
theorem lpX7_351 : kw_lkP RX7 351 0 2 .int := ⟨RX0, TX0, 4, tyX0, rfl, by decide, inW0, rfl, kfX7_351, tyX0_ok, nmX0, rfl, by decide +kernel⟩
theorem kfX0_25 : Cond.fieldLink RX0 25 RX0 (TX0 3).2.1 (TX0 3).2.2.1 ∈ kw_ws := kz_1 (List.mem_of_getElem? (i := 158) (by first | exact rfl | decide +kernel)) rfl
theorem lkX0_25 : kw_lk RX0 25 0 3 := ⟨RX0, TX0, 4, rfl, by decide, inW0, rfl, kfX0_25⟩
theorem lpX0_25 : kw_lkP RX0 25 0 3 .int := ⟨RX0, TX0, 4, tyX0, rfl, by decide, inW0, rfl, kfX0_25, tyX0_ok, nmX0, rfl, by decide +kernel⟩
theorem kfX6_87 : Cond.fieldLink RX6 87 RX0 (TX0 3).2.1 (TX0 3).2.2.1 ∈ kw_ws := kz_1 (List.mem_of_getElem? (i := 159) (by first | exact rfl | decide +kernel)) rfl
theorem lkX6_87 : kw_lk RX6 87 0 3 := ⟨RX0, TX0, 4, rfl, by decide, inW0, rfl, kfX6_87⟩
theorem lpX6_87 : kw_lkP RX6 87 0 3 .int := ⟨RX0, TX0, 4, tyX0, rfl, by decide, inW0, rfl, kfX6_87, tyX0_ok, nmX0, rfl, by decide +kernel⟩
theorem kfX7_229 : Cond.fieldLink RX7 229 RX0 (TX0 3).2.1 (TX0 3).2.2.1 ∈ kw_ws := kz_1 (List.mem_of_getElem? (i := 160) (by first | exact rfl | decide +kernel)) rfl
theorem lkX7_229 : kw_lk RX7 229 0 3 := ⟨RX0, TX0, 4, rfl, by decide, inW0, rfl, kfX7_229⟩
theorem lpX7_229 : kw_lkP RX7 229 0 3 .int := ⟨RX0, TX0, 4, tyX0, rfl, by decide, inW0, rfl, kfX7_229, tyX0_ok, nmX0, rfl, by decide +kernel⟩
theorem kfX6_9 : Cond.fieldLink RX6 9 RX6 (TX6 0).2.1 (TX6 0).2.2.1 ∈ kw_ws := kz_1 (List.mem_of_getElem? (i := 179) (by first | exact rfl | decide +kernel)) rfl
theorem lkX6_9 : kw_lk RX6 9 6 0 := ⟨RX6, TX6, 8, rfl, by decide, inW6, rfl, kfX6_9⟩
theorem kfX7_270 : Cond.fieldLink RX7 270 RX6 (TX6 0).2.1 (TX6 0).2.2.1 ∈ kw_ws := kz_1 (List.mem_of_getElem? (i := 180) (by first | exact rfl | decide +kernel)) rfl
theorem lkX7_270 : kw_lk RX7 270 6 0 := ⟨RX6, TX6, 8, rfl, by decide, inW6, rfl, kfX7_270⟩
theorem kfX6_78 : Cond.fieldLink RX6 78 RX6 (TX6 1).2.1 (TX6 1).2.2.1 ∈ kw_ws := kz_1 (List.mem_of_getElem? (i := 181) (by first | exact rfl | decide +kernel)) rfl
theorem lkX6_78 : kw_lk RX6 78 6 1 := ⟨RX6, TX6, 8, rfl, by decide, inW6, rfl, kfX6_78⟩
theorem lpX6_78 : kw_lkP RX6 78 6 1 .int := ⟨RX6, TX6, 8, tyX6, rfl, by decide, inW6, rfl, kfX6_78, tyX6_ok, nmX6, rfl, by decide +kernel⟩
theorem kfX7_273 : Cond.fieldLink RX7 273 RX6 (TX6 1).2.1 (TX6 1).2.2.1 ∈ kw_ws := kz_1 (List.mem_of_getElem? (i := 182) (by first | exact rfl | decide +kernel)) rfl
theorem lkX7_273 : kw_lk RX7 273 6 1 := ⟨RX6, TX6, 8, rfl, by decide, inW6, rfl, kfX7_273⟩
theorem lpX7_273 : kw_lkP RX7 273 6 1 .int := ⟨RX6, TX6, 8, tyX6, rfl, by decide, inW6, rfl, kfX7_273, tyX6_ok, nmX6, rfl, by decide +kernel⟩
theorem kfX6_17 : Cond.fieldLink RX6 17 RX6 (TX6 2).2.1 (TX6 2).2.2.1 ∈ kw_ws := kz_1 (List.mem_of_getElem? (i := 183) (by first | exact rfl | decide +kernel)) rfl
theorem lkX6_17 : kw_lk RX6 17 6 2 := ⟨RX6, TX6, 8, rfl, by decide, inW6, rfl, kfX6_17⟩
theorem kfX6_21 : Cond.fieldLink RX6 21 RX6 (TX6 3).2.1 (TX6 3).2.2.1 ∈ kw_ws := kz_1 (List.mem_of_getElem? (i := 184) (by first | exact rfl | decide +kernel)) rfl
theorem lkX6_21 : kw_lk RX6 21 6 3 := ⟨RX6, TX6, 8, rfl, by decide, inW6, rfl, kfX6_21⟩
theorem kfX6_24 : Cond.fieldLink RX6 24 RX6 (TX6 4).2.1 (TX6 4).2.2.1 ∈ kw_ws := kz_1 (List.mem_of_getElem? (i := 185) (by first | exact rfl | decide +kernel)) rfl
theorem lkX6_24 : kw_lk RX6 24 6 4 := ⟨RX6, TX6, 8, rfl, by decide, inW6, rfl, kfX6_24⟩
theorem kfX6_41 : Cond.fieldLink RX6 41 RX6 (TX6 5).2.1 (TX6 5).2.2.1 ∈ kw_ws := kz_1 (List.mem_of_getElem? (i := 186) (by first | exact rfl | decide +kernel)) rfl
theorem lkX6_41 : kw_lk RX6 41 6 5 := ⟨RX6, TX6, 8, rfl, by decide, inW6, rfl, kfX6_41⟩
theorem lpX6_41 : kw_lkP RX6 41 6 5 .boolean := ⟨RX6, TX6, 8, tyX6, rfl, by decide, inW6, rfl, kfX6_41, tyX6_ok, nmX6, rfl, by decide +kernel⟩
theorem kfX6_34 : Cond.fieldLink RX6 34 RX6 (TX6 6).2.1 (TX6 6).2.2.1 ∈ kw_ws := kz_1 (List.mem_of_getElem? (i := 187) (by first | exact rfl | decide +kernel)) rfl
theorem lkX6_34 : kw_lk RX6 34 6 6 := ⟨RX6, TX6, 8, rfl, by decide, inW6, rfl, kfX6_34⟩
theorem lpX6_34 : kw_lkP RX6 34 6 6 .int := ⟨RX6, TX6, 8, tyX6, rfl, by decide, inW6, rfl, kfX6_34, tyX6_ok, nmX6, rfl, by decide +kernel⟩
theorem kfX6_38 : Cond.fieldLink RX6 38 RX6 (TX6 7).2.1 (TX6 7).2.2.1 ∈ kw_ws := kz_1 (List.mem_of_getElem? (i := 188) (by first | exact rfl | decide +kernel)) rfl
theorem lkX6_38 : kw_lk RX6 38 6 7 := ⟨RX6, TX6, 8, rfl, by decide, inW6, rfl, kfX6_38⟩
theorem lpX6_38 : kw_lkP RX6 38 6 7 .int := ⟨RX6, TX6, 8, tyX6, rfl, by decide, inW6, rfl, kfX6_38, tyX6_ok, nmX6, rfl, by decide +kernel⟩
theorem kfX4_9 : Cond.fieldLink RX4 9 RX4 (TX4 0).2.1 (TX4 0).2.2.1 ∈ kw_ws := kz_1 (List.mem_of_getElem? (i := 212) (by first | exact rfl | decide +kernel)) rfl
theorem lkX4_9 : kw_lk RX4 9 4 0 := ⟨RX4, TX4, 5, rfl, by decide, inW4, rfl, kfX4_9⟩
theorem kfX7_334 : Cond.fieldLink RX7 334 RX4 (TX4 0).2.1 (TX4 0).2.2.1 ∈ kw_ws := kz_1 (List.mem_of_getElem? (i := 213) (by first | exact rfl | decide +kernel)) rfl
theorem lkX7_334 : kw_lk RX7 334 4 0 := ⟨RX4, TX4, 5, rfl, by decide, inW4, rfl, kfX7_334⟩
theorem kfX4_23 : Cond.fieldLink RX4 23 RX4 (TX4 1).2.1 (TX4 1).2.2.1 ∈ kw_ws := kz_1 (List.mem_of_getElem? (i := 214) (by first | exact rfl | decide +kernel)) rfl
theorem lkX4_23 : kw_lk RX4 23 4 1 := ⟨RX4, TX4, 5, rfl, by decide, inW4, rfl, kfX4_23⟩
theorem lpX4_23 : kw_lkP RX4 23 4 1 .int := ⟨RX4, TX4, 5, tyX4, rfl, by decide, inW4, rfl, kfX4_23, tyX4_ok, nmX4, rfl, by decide +kernel⟩
theorem kfX7_331 : Cond.fieldLink RX7 331 RX4 (TX4 1).2.1 (TX4 1).2.2.1 ∈ kw_ws := kz_1 (List.mem_of_getElem? (i := 215) (by first | exact rfl | decide +kernel)) rfl
theorem lkX7_331 : kw_lk RX7 331 4 1 := ⟨RX4, TX4, 5, rfl, by decide, inW4, rfl, kfX7_331⟩
theorem lpX7_331 : kw_lkP RX7 331 4 1 .int := ⟨RX4, TX4, 5, tyX4, rfl, by decide, inW4, rfl, kfX7_331, tyX4_ok, nmX4, rfl, by decide +kernel⟩
theorem kfX4_19 : Cond.fieldLink RX4 19 RX4 (TX4 2).2.1 (TX4 2).2.2.1 ∈ kw_ws := kz_1 (List.mem_of_getElem? (i := 216) (by first | exact rfl | decide +kernel)) rfl
theorem lkX4_19 : kw_lk RX4 19 4 2 := ⟨RX4, TX4, 5, rfl, by decide, inW4, rfl, kfX4_19⟩
theorem lpX4_19 : kw_lkP RX4 19 4 2 .int := ⟨RX4, TX4, 5, tyX4, rfl, by decide, inW4, rfl, kfX4_19, tyX4_ok, nmX4, rfl, by decide +kernel⟩
theorem kfX7_312 : Cond.fieldLink RX7 312 RX4 (TX4 2).2.1 (TX4 2).2.2.1 ∈ kw_ws := kz_1 (List.mem_of_getElem? (i := 217) (by first | exact rfl | decide +kernel)) rfl
theorem lkX7_312 : kw_lk RX7 312 4 2 := ⟨RX4, TX4, 5, rfl, by decide, inW4, rfl, kfX7_312⟩
theorem lpX7_312 : kw_lkP RX7 312 4 2 .int := ⟨RX4, TX4, 5, tyX4, rfl, by decide, inW4, rfl, kfX7_312, tyX4_ok, nmX4, rfl, by decide +kernel⟩
theorem kfX4_26 : Cond.fieldLink RX4 26 RX4 (TX4 3).2.1 (TX4 3).2.2.1 ∈ kw_ws := kz_1 (List.mem_of_getElem? (i := 218) (by first | exact rfl | decide +kernel)) rfl
theorem lkX4_26 : kw_lk RX4 26 4 3 := ⟨RX4, TX4, 5, rfl, by decide, inW4, rfl, kfX4_26⟩
theorem lpX4_26 : kw_lkP RX4 26 4 3 .long := ⟨RX4, TX4, 5, tyX4, rfl, by decide, inW4, rfl, kfX4_26, tyX4_ok, nmX4, rfl, by decide +kernel⟩
theorem kfX7_315 : Cond.fieldLink RX7 315 RX4 (TX4 3).2.1 (TX4 3).2.2.1 ∈ kw_ws := kz_1 (List.mem_of_getElem? (i := 219) (by first | exact rfl | decide +kernel)) rfl
theorem lkX7_315 : kw_lk RX7 315 4 3 := ⟨RX4, TX4, 5, rfl, by decide, inW4, rfl, kfX7_315⟩
theorem lpX7_315 : kw_lkP RX7 315 4 3 .long := ⟨RX4, TX4, 5, tyX4, rfl, by decide, inW4, rfl, kfX7_315, tyX4_ok, nmX4, rfl, by decide +kernel⟩
theorem kfX4_15 : Cond.fieldLink RX4 15 RX4 (TX4 4).2.1 (TX4 4).2.2.1 ∈ kw_ws := kz_1 (List.mem_of_getElem? (i := 220) (by first | exact rfl | decide +kernel)) rfl
theorem lkX4_15 : kw_lk RX4 15 4 4 := ⟨RX4, TX4, 5, rfl, by decide, inW4, rfl, kfX4_15⟩
theorem lpX4_15 : kw_lkP RX4 15 4 4 .long := ⟨RX4, TX4, 5, tyX4, rfl, by decide, inW4, rfl, kfX4_15, tyX4_ok, nmX4, rfl, by decide +kernel⟩
theorem kfX7_319 : Cond.fieldLink RX7 319 RX4 (TX4 4).2.1 (TX4 4).2.2.1 ∈ kw_ws := kz_1 (List.mem_of_getElem? (i := 221) (by first | exact rfl | decide +kernel)) rfl
theorem lkX7_319 : kw_lk RX7 319 4 4 := ⟨RX4, TX4, 5, rfl, by decide, inW4, rfl, kfX7_319⟩
theorem lpX7_319 : kw_lkP RX7 319 4 4 .long := ⟨RX4, TX4, 5, tyX4, rfl, by decide, inW4, rfl, kfX7_319, tyX4_ok, nmX4, rfl, by decide +kernel⟩
theorem kfX7_14 : Cond.fieldLink RX7 14 RX7 (TX7 0).2.1 (TX7 0).2.2.1 ∈ kw_ws := kz_1 (List.mem_of_getElem? (i := 233) (by first | exact rfl | decide +kernel)) rfl
theorem lkX7_14 : kw_lk RX7 14 7 0 := ⟨RX7, TX7, 11, rfl, by decide, inW7, rfl, kfX7_14⟩
theorem kfX7_18 : Cond.fieldLink RX7 18 RX7 (TX7 1).2.1 (TX7 1).2.2.1 ∈ kw_ws := kz_1 (List.mem_of_getElem? (i := 234) (by first | exact rfl | decide +kernel)) rfl
theorem lkX7_18 : kw_lk RX7 18 7 1 := ⟨RX7, TX7, 11, rfl, by decide, inW7, rfl, kfX7_18⟩
theorem kfX7_24 : Cond.fieldLink RX7 24 RX7 (TX7 2).2.1 (TX7 2).2.2.1 ∈ kw_ws := kz_1 (List.mem_of_getElem? (i := 235) (by first | exact rfl | decide +kernel)) rfl
theorem lkX7_24 : kw_lk RX7 24 7 2 := ⟨RX7, TX7, 11, rfl, by decide, inW7, rfl, kfX7_24⟩
theorem kfX7_31 : Cond.fieldLink RX7 31 RX7 (TX7 3).2.1 (TX7 3).2.2.1 ∈ kw_ws := kz_1 (List.mem_of_getElem? (i := 236) (by first | exact rfl | decide +kernel)) rfl
theorem lkX7_31 : kw_lk RX7 31 7 3 := ⟨RX7, TX7, 11, rfl, by decide, inW7, rfl, kfX7_31⟩
theorem kfX7_35 : Cond.fieldLink RX7 35 RX7 (TX7 4).2.1 (TX7 4).2.2.1 ∈ kw_ws := kz_1 (List.mem_of_getElem? (i := 237) (by first | exact rfl | decide +kernel)) rfl
theorem lkX7_35 : kw_lk RX7 35 7 4 := ⟨RX7, TX7, 11, rfl, by decide, inW7, rfl, kfX7_35⟩
theorem kfX7_41 : Cond.fieldLink RX7 41 RX7 (TX7 5).2.1 (TX7 5).2.2.1 ∈ kw_ws := kz_1 (List.mem_of_getElem? (i := 238) (by first | exact rfl | decide +kernel)) rfl
theorem lkX7_41 : kw_lk RX7 41 7 5 := ⟨RX7, TX7, 11, rfl, by decide, inW7, rfl, kfX7_41⟩
theorem kfX7_48 : Cond.fieldLink RX7 48 RX7 (TX7 6).2.1 (TX7 6).2.2.1 ∈ kw_ws := kz_1 (List.mem_of_getElem? (i := 239) (by first | exact rfl | decide +kernel)) rfl
theorem lkX7_48 : kw_lk RX7 48 7 6 := ⟨RX7, TX7, 11, rfl, by decide, inW7, rfl, kfX7_48⟩
theorem kfX7_55 : Cond.fieldLink RX7 55 RX7 (TX7 7).2.1 (TX7 7).2.2.1 ∈ kw_ws := kz_2 (List.mem_of_getElem? (i := 0) (by first | exact rfl | decide +kernel)) rfl
theorem lkX7_55 : kw_lk RX7 55 7 7 := ⟨RX7, TX7, 11, rfl, by decide, inW7, rfl, kfX7_55⟩
theorem kfX7_59 : Cond.fieldLink RX7 59 RX7 (TX7 8).2.1 (TX7 8).2.2.1 ∈ kw_ws := kz_2 (List.mem_of_getElem? (i := 1) (by first | exact rfl | decide +kernel)) rfl
theorem lkX7_59 : kw_lk RX7 59 7 8 := ⟨RX7, TX7, 11, rfl, by decide, inW7, rfl, kfX7_59⟩
theorem kfX7_63 : Cond.fieldLink RX7 63 RX7 (TX7 9).2.1 (TX7 9).2.2.1 ∈ kw_ws := kz_2 (List.mem_of_getElem? (i := 2) (by first | exact rfl | decide +kernel)) rfl
theorem lkX7_63 : kw_lk RX7 63 7 9 := ⟨RX7, TX7, 11, rfl, by decide, inW7, rfl, kfX7_63⟩
theorem kfX7_66 : Cond.fieldLink RX7 66 RX7 (TX7 10).2.1 (TX7 10).2.2.1 ∈ kw_ws := kz_2 (List.mem_of_getElem? (i := 3) (by first | exact rfl | decide +kernel)) rfl
theorem lkX7_66 : kw_lk RX7 66 7 10 := ⟨RX7, TX7, 11, rfl, by decide, inW7, rfl, kfX7_66⟩
theorem kxX7_360 : Cond.fieldLink RX7 360 "WashSails" "KIND_ABOVE" "[I" ∈ kw_ws := kz_2 (List.mem_of_getElem? (i := 233) (by first | exact rfl | decide +kernel)) rfl
theorem kfX8_84 : Cond.fieldLink RX8 84 RX8 (TX8 0).2.1 (TX8 0).2.2.1 ∈ kw_ws := kz_4 (List.mem_of_getElem? (i := 43) (by first | exact rfl | decide +kernel)) rfl
theorem lkX8_84 : kw_lk RX8 84 8 0 := ⟨RX8, TX8, 37, rfl, by decide, inW8, rfl, kfX8_84⟩
theorem lpX8_84 : kw_lkP RX8 84 8 0 .int := ⟨RX8, TX8, 37, tyX8, rfl, by decide, inW8, rfl, kfX8_84, tyX8_ok, nmX8, rfl, by decide +kernel⟩
theorem kfX8_7 : Cond.fieldLink RX8 7 RX8 (TX8 1).2.1 (TX8 1).2.2.1 ∈ kw_ws := kz_4 (List.mem_of_getElem? (i := 44) (by first | exact rfl | decide +kernel)) rfl
theorem lkX8_7 : kw_lk RX8 7 8 1 := ⟨RX8, TX8, 37, rfl, by decide, inW8, rfl, kfX8_7⟩
theorem kfX8_87 : Cond.fieldLink RX8 87 RX8 (TX8 2).2.1 (TX8 2).2.2.1 ∈ kw_ws := kz_4 (List.mem_of_getElem? (i := 45) (by first | exact rfl | decide +kernel)) rfl
theorem lkX8_87 : kw_lk RX8 87 8 2 := ⟨RX8, TX8, 37, rfl, by decide, inW8, rfl, kfX8_87⟩
theorem lpX8_87 : kw_lkP RX8 87 8 2 .int := ⟨RX8, TX8, 37, tyX8, rfl, by decide, inW8, rfl, kfX8_87, tyX8_ok, nmX8, rfl, by decide +kernel⟩
theorem kfX8_90 : Cond.fieldLink RX8 90 RX8 (TX8 3).2.1 (TX8 3).2.2.1 ∈ kw_ws := kz_4 (List.mem_of_getElem? (i := 46) (by first | exact rfl | decide +kernel)) rfl
theorem lkX8_90 : kw_lk RX8 90 8 3 := ⟨RX8, TX8, 37, rfl, by decide, inW8, rfl, kfX8_90⟩
theorem lpX8_90 : kw_lkP RX8 90 8 3 .long := ⟨RX8, TX8, 37, tyX8, rfl, by decide, inW8, rfl, kfX8_90, tyX8_ok, nmX8, rfl, by decide +kernel⟩
theorem kfX8_13 : Cond.fieldLink RX8 13 RX8 (TX8 4).2.1 (TX8 4).2.2.1 ∈ kw_ws := kz_4 (List.mem_of_getElem? (i := 47) (by first | exact rfl | decide +kernel)) rfl
theorem lkX8_13 : kw_lk RX8 13 8 4 := ⟨RX8, TX8, 37, rfl, by decide, inW8, rfl, kfX8_13⟩
theorem lpX8_13 : kw_lkP RX8 13 8 4 .long := ⟨RX8, TX8, 37, tyX8, rfl, by decide, inW8, rfl, kfX8_13, tyX8_ok, nmX8, rfl, by decide +kernel⟩
theorem kfX8_17 : Cond.fieldLink RX8 17 RX8 (TX8 5).2.1 (TX8 5).2.2.1 ∈ kw_ws := kz_4 (List.mem_of_getElem? (i := 48) (by first | exact rfl | decide +kernel)) rfl
theorem lkX8_17 : kw_lk RX8 17 8 5 := ⟨RX8, TX8, 37, rfl, by decide, inW8, rfl, kfX8_17⟩
theorem kfX8_20 : Cond.fieldLink RX8 20 RX8 (TX8 6).2.1 (TX8 6).2.2.1 ∈ kw_ws := kz_4 (List.mem_of_getElem? (i := 49) (by first | exact rfl | decide +kernel)) rfl
theorem lkX8_20 : kw_lk RX8 20 8 6 := ⟨RX8, TX8, 37, rfl, by decide, inW8, rfl, kfX8_20⟩
theorem kfX8_23 : Cond.fieldLink RX8 23 RX8 (TX8 7).2.1 (TX8 7).2.2.1 ∈ kw_ws := kz_4 (List.mem_of_getElem? (i := 50) (by first | exact rfl | decide +kernel)) rfl
theorem lkX8_23 : kw_lk RX8 23 8 7 := ⟨RX8, TX8, 37, rfl, by decide, inW8, rfl, kfX8_23⟩
theorem kfX8_26 : Cond.fieldLink RX8 26 RX8 (TX8 8).2.1 (TX8 8).2.2.1 ∈ kw_ws := kz_4 (List.mem_of_getElem? (i := 51) (by first | exact rfl | decide +kernel)) rfl
theorem lkX8_26 : kw_lk RX8 26 8 8 := ⟨RX8, TX8, 37, rfl, by decide, inW8, rfl, kfX8_26⟩
theorem kfX8_29 : Cond.fieldLink RX8 29 RX8 (TX8 9).2.1 (TX8 9).2.2.1 ∈ kw_ws := kz_4 (List.mem_of_getElem? (i := 52) (by first | exact rfl | decide +kernel)) rfl
theorem lkX8_29 : kw_lk RX8 29 8 9 := ⟨RX8, TX8, 37, rfl, by decide, inW8, rfl, kfX8_29⟩
theorem kfX8_163 : Cond.fieldLink RX8 163 RX8 (TX8 10).2.1 (TX8 10).2.2.1 ∈ kw_ws := kz_4 (List.mem_of_getElem? (i := 53) (by first | exact rfl | decide +kernel)) rfl
theorem lkX8_163 : kw_lk RX8 163 8 10 := ⟨RX8, TX8, 37, rfl, by decide, inW8, rfl, kfX8_163⟩
theorem lpX8_163 : kw_lkP RX8 163 8 10 .int := ⟨RX8, TX8, 37, tyX8, rfl, by decide, inW8, rfl, kfX8_163, tyX8_ok, nmX8, rfl, by decide +kernel⟩
theorem kfX8_32 : Cond.fieldLink RX8 32 RX8 (TX8 11).2.1 (TX8 11).2.2.1 ∈ kw_ws := kz_4 (List.mem_of_getElem? (i := 54) (by first | exact rfl | decide +kernel)) rfl
theorem lkX8_32 : kw_lk RX8 32 8 11 := ⟨RX8, TX8, 37, rfl, by decide, inW8, rfl, kfX8_32⟩
theorem lpX8_32 : kw_lkP RX8 32 8 11 .int := ⟨RX8, TX8, 37, tyX8, rfl, by decide, inW8, rfl, kfX8_32, tyX8_ok, nmX8, rfl, by decide +kernel⟩
theorem kfX8_36 : Cond.fieldLink RX8 36 RX8 (TX8 12).2.1 (TX8 12).2.2.1 ∈ kw_ws := kz_4 (List.mem_of_getElem? (i := 55) (by first | exact rfl | decide +kernel)) rfl
theorem lkX8_36 : kw_lk RX8 36 8 12 := ⟨RX8, TX8, 37, rfl, by decide, inW8, rfl, kfX8_36⟩
theorem kfX8_39 : Cond.fieldLink RX8 39 RX8 (TX8 13).2.1 (TX8 13).2.2.1 ∈ kw_ws := kz_4 (List.mem_of_getElem? (i := 56) (by first | exact rfl | decide +kernel)) rfl
theorem lkX8_39 : kw_lk RX8 39 8 13 := ⟨RX8, TX8, 37, rfl, by decide, inW8, rfl, kfX8_39⟩
theorem kfX8_42 : Cond.fieldLink RX8 42 RX8 (TX8 14).2.1 (TX8 14).2.2.1 ∈ kw_ws := kz_4 (List.mem_of_getElem? (i := 57) (by first | exact rfl | decide +kernel)) rfl
theorem lkX8_42 : kw_lk RX8 42 8 14 := ⟨RX8, TX8, 37, rfl, by decide, inW8, rfl, kfX8_42⟩
theorem kfX8_45 : Cond.fieldLink RX8 45 RX8 (TX8 15).2.1 (TX8 15).2.2.1 ∈ kw_ws := kz_4 (List.mem_of_getElem? (i := 58) (by first | exact rfl | decide +kernel)) rfl
theorem lkX8_45 : kw_lk RX8 45 8 15 := ⟨RX8, TX8, 37, rfl, by decide, inW8, rfl, kfX8_45⟩
theorem kfX8_48 : Cond.fieldLink RX8 48 RX8 (TX8 16).2.1 (TX8 16).2.2.1 ∈ kw_ws := kz_4 (List.mem_of_getElem? (i := 59) (by first | exact rfl | decide +kernel)) rfl
theorem lkX8_48 : kw_lk RX8 48 8 16 := ⟨RX8, TX8, 37, rfl, by decide, inW8, rfl, kfX8_48⟩
theorem kfX8_128 : Cond.fieldLink RX8 128 RX8 (TX8 17).2.1 (TX8 17).2.2.1 ∈ kw_ws := kz_4 (List.mem_of_getElem? (i := 60) (by first | exact rfl | decide +kernel)) rfl
theorem lkX8_128 : kw_lk RX8 128 8 17 := ⟨RX8, TX8, 37, rfl, by decide, inW8, rfl, kfX8_128⟩
theorem lpX8_128 : kw_lkP RX8 128 8 17 .int := ⟨RX8, TX8, 37, tyX8, rfl, by decide, inW8, rfl, kfX8_128, tyX8_ok, nmX8, rfl, by decide +kernel⟩
theorem kfX8_138 : Cond.fieldLink RX8 138 RX8 (TX8 18).2.1 (TX8 18).2.2.1 ∈ kw_ws := kz_4 (List.mem_of_getElem? (i := 61) (by first | exact rfl | decide +kernel)) rfl
theorem lkX8_138 : kw_lk RX8 138 8 18 := ⟨RX8, TX8, 37, rfl, by decide, inW8, rfl, kfX8_138⟩
theorem lpX8_138 : kw_lkP RX8 138 8 18 .int := ⟨RX8, TX8, 37, tyX8, rfl, by decide, inW8, rfl, kfX8_138, tyX8_ok, nmX8, rfl, by decide +kernel⟩
theorem kfX8_144 : Cond.fieldLink RX8 144 RX8 (TX8 19).2.1 (TX8 19).2.2.1 ∈ kw_ws := kz_4 (List.mem_of_getElem? (i := 62) (by first | exact rfl | decide +kernel)) rfl
theorem lkX8_144 : kw_lk RX8 144 8 19 := ⟨RX8, TX8, 37, rfl, by decide, inW8, rfl, kfX8_144⟩
theorem lpX8_144 : kw_lkP RX8 144 8 19 .int := ⟨RX8, TX8, 37, tyX8, rfl, by decide, inW8, rfl, kfX8_144, tyX8_ok, nmX8, rfl, by decide +kernel⟩
theorem kfX8_51 : Cond.fieldLink RX8 51 RX8 (TX8 20).2.1 (TX8 20).2.2.1 ∈ kw_ws := kz_4 (List.mem_of_getElem? (i := 63) (by first | exact rfl | decide +kernel)) rfl
theorem lkX8_51 : kw_lk RX8 51 8 20 := ⟨RX8, TX8, 37, rfl, by decide, inW8, rfl, kfX8_51⟩
theorem kfX8_54 : Cond.fieldLink RX8 54 RX8 (TX8 21).2.1 (TX8 21).2.2.1 ∈ kw_ws := kz_4 (List.mem_of_getElem? (i := 64) (by first | exact rfl | decide +kernel)) rfl
theorem lkX8_54 : kw_lk RX8 54 8 21 := ⟨RX8, TX8, 37, rfl, by decide, inW8, rfl, kfX8_54⟩
theorem kfX8_166 : Cond.fieldLink RX8 166 RX8 (TX8 22).2.1 (TX8 22).2.2.1 ∈ kw_ws := kz_4 (List.mem_of_getElem? (i := 65) (by first | exact rfl | decide +kernel)) rfl
theorem lkX8_166 : kw_lk RX8 166 8 22 := ⟨RX8, TX8, 37, rfl, by decide, inW8, rfl, kfX8_166⟩
theorem lpX8_166 : kw_lkP RX8 166 8 22 .int := ⟨RX8, TX8, 37, tyX8, rfl, by decide, inW8, rfl, kfX8_166, tyX8_ok, nmX8, rfl, by decide +kernel⟩
theorem kfX8_169 : Cond.fieldLink RX8 169 RX8 (TX8 23).2.1 (TX8 23).2.2.1 ∈ kw_ws := kz_4 (List.mem_of_getElem? (i := 66) (by first | exact rfl | decide +kernel)) rfl
theorem lkX8_169 : kw_lk RX8 169 8 23 := ⟨RX8, TX8, 37, rfl, by decide, inW8, rfl, kfX8_169⟩
theorem lpX8_169 : kw_lkP RX8 169 8 23 .int := ⟨RX8, TX8, 37, tyX8, rfl, by decide, inW8, rfl, kfX8_169, tyX8_ok, nmX8, rfl, by decide +kernel⟩
theorem kfX8_172 : Cond.fieldLink RX8 172 RX8 (TX8 24).2.1 (TX8 24).2.2.1 ∈ kw_ws := kz_4 (List.mem_of_getElem? (i := 67) (by first | exact rfl | decide +kernel)) rfl
theorem lkX8_172 : kw_lk RX8 172 8 24 := ⟨RX8, TX8, 37, rfl, by decide, inW8, rfl, kfX8_172⟩
theorem lpX8_172 : kw_lkP RX8 172 8 24 .int := ⟨RX8, TX8, 37, tyX8, rfl, by decide, inW8, rfl, kfX8_172, tyX8_ok, nmX8, rfl, by decide +kernel⟩
theorem kfX8_175 : Cond.fieldLink RX8 175 RX8 (TX8 25).2.1 (TX8 25).2.2.1 ∈ kw_ws := kz_4 (List.mem_of_getElem? (i := 68) (by first | exact rfl | decide +kernel)) rfl
theorem lkX8_175 : kw_lk RX8 175 8 25 := ⟨RX8, TX8, 37, rfl, by decide, inW8, rfl, kfX8_175⟩
theorem lpX8_175 : kw_lkP RX8 175 8 25 .int := ⟨RX8, TX8, 37, tyX8, rfl, by decide, inW8, rfl, kfX8_175, tyX8_ok, nmX8, rfl, by decide +kernel⟩
theorem kfX8_57 : Cond.fieldLink RX8 57 RX8 (TX8 26).2.1 (TX8 26).2.2.1 ∈ kw_ws := kz_4 (List.mem_of_getElem? (i := 69) (by first | exact rfl | decide +kernel)) rfl
theorem lkX8_57 : kw_lk RX8 57 8 26 := ⟨RX8, TX8, 37, rfl, by decide, inW8, rfl, kfX8_57⟩
theorem kfX8_178 : Cond.fieldLink RX8 178 RX8 (TX8 27).2.1 (TX8 27).2.2.1 ∈ kw_ws := kz_4 (List.mem_of_getElem? (i := 70) (by first | exact rfl | decide +kernel)) rfl
theorem lkX8_178 : kw_lk RX8 178 8 27 := ⟨RX8, TX8, 37, rfl, by decide, inW8, rfl, kfX8_178⟩
theorem lpX8_178 : kw_lkP RX8 178 8 27 .int := ⟨RX8, TX8, 37, tyX8, rfl, by decide, inW8, rfl, kfX8_178, tyX8_ok, nmX8, rfl, by decide +kernel⟩
theorem kfX8_60 : Cond.fieldLink RX8 60 RX8 (TX8 28).2.1 (TX8 28).2.2.1 ∈ kw_ws := kz_4 (List.mem_of_getElem? (i := 71) (by first | exact rfl | decide +kernel)) rfl
theorem lkX8_60 : kw_lk RX8 60 8 28 := ⟨RX8, TX8, 37, rfl, by decide, inW8, rfl, kfX8_60⟩
theorem kfX8_63 : Cond.fieldLink RX8 63 RX8 (TX8 29).2.1 (TX8 29).2.2.1 ∈ kw_ws := kz_4 (List.mem_of_getElem? (i := 72) (by first | exact rfl | decide +kernel)) rfl
theorem lkX8_63 : kw_lk RX8 63 8 29 := ⟨RX8, TX8, 37, rfl, by decide, inW8, rfl, kfX8_63⟩
theorem kfX8_66 : Cond.fieldLink RX8 66 RX8 (TX8 30).2.1 (TX8 30).2.2.1 ∈ kw_ws := kz_4 (List.mem_of_getElem? (i := 73) (by first | exact rfl | decide +kernel)) rfl
theorem lkX8_66 : kw_lk RX8 66 8 30 := ⟨RX8, TX8, 37, rfl, by decide, inW8, rfl, kfX8_66⟩
theorem kfX8_69 : Cond.fieldLink RX8 69 RX8 (TX8 31).2.1 (TX8 31).2.2.1 ∈ kw_ws := kz_4 (List.mem_of_getElem? (i := 74) (by first | exact rfl | decide +kernel)) rfl
theorem lkX8_69 : kw_lk RX8 69 8 31 := ⟨RX8, TX8, 37, rfl, by decide, inW8, rfl, kfX8_69⟩
theorem kfX8_72 : Cond.fieldLink RX8 72 RX8 (TX8 32).2.1 (TX8 32).2.2.1 ∈ kw_ws := kz_4 (List.mem_of_getElem? (i := 75) (by first | exact rfl | decide +kernel)) rfl
theorem lkX8_72 : kw_lk RX8 72 8 32 := ⟨RX8, TX8, 37, rfl, by decide, inW8, rfl, kfX8_72⟩
theorem kfX8_75 : Cond.fieldLink RX8 75 RX8 (TX8 33).2.1 (TX8 33).2.2.1 ∈ kw_ws := kz_4 (List.mem_of_getElem? (i := 76) (by first | exact rfl | decide +kernel)) rfl
theorem lkX8_75 : kw_lk RX8 75 8 33 := ⟨RX8, TX8, 37, rfl, by decide, inW8, rfl, kfX8_75⟩
theorem kfX8_78 : Cond.fieldLink RX8 78 RX8 (TX8 34).2.1 (TX8 34).2.2.1 ∈ kw_ws := kz_4 (List.mem_of_getElem? (i := 77) (by first | exact rfl | decide +kernel)) rfl
theorem lkX8_78 : kw_lk RX8 78 8 34 := ⟨RX8, TX8, 37, rfl, by decide, inW8, rfl, kfX8_78⟩
theorem kfX8_81 : Cond.fieldLink RX8 81 RX8 (TX8 35).2.1 (TX8 35).2.2.1 ∈ kw_ws := kz_4 (List.mem_of_getElem? (i := 78) (by first | exact rfl | decide +kernel)) rfl
end
section
theorem lkX8_81 : kw_lk RX8 81 8 35 := ⟨RX8, TX8, 37, rfl, by decide, inW8, rfl, kfX8_81⟩
theorem kfX8_306 : Cond.fieldLink RX8 306 RX8 (TX8 36).2.1 (TX8 36).2.2.1 ∈ kw_ws := kz_4 (List.mem_of_getElem? (i := 79) (by first | exact rfl | decide +kernel)) rfl
theorem lkX8_306 : kw_lk RX8 306 8 36 := ⟨RX8, TX8, 37, rfl, by decide, inW8, rfl, kfX8_306⟩
theorem lpX8_306 : kw_lkP RX8 306 8 36 .long := ⟨RX8, TX8, 37, tyX8, rfl, by decide, inW8, rfl, kfX8_306, tyX8_ok, nmX8, rfl, by decide +kernel⟩
theorem kmX3_24 : Cond.methodLink RX3 24 yJ7_fill_53178 ∈ kw_ws := kz_1 (List.mem_of_getElem? (i := 30) (by first | exact rfl | decide +kernel)) rfl
theorem lsX3_24 : kw_lkS RX3 24 mJ7_fill_53178 := ⟨kmX3_24, wTJ7_fill_53178, wNJ7, wCJ7_fill_53178, nmhJ7.1, nmhJ7.2, by decide⟩
theorem kmL_13 : Cond.methodLink RL 13 yX7_row ∈ kw_ws := kz_2 (List.mem_of_getElem? (i := 27) (by first | exact rfl | decide +kernel)) rfl
theorem lvL_13 : kw_lkV RL 13 7 mX7_row := ⟨⟨TX7, 11, rfl⟩, kmL_13, wIX7_row, wVX7_row, wNX7, wCX7_row, nmhX7.1, nmhX7.2, by decide⟩
theorem kmX7_69 : Cond.methodLink RX7 69 yX7_makeOn ∈ kw_ws := kz_2 (List.mem_of_getElem? (i := 31) (by first | exact rfl | decide +kernel)) rfl
theorem lvX7_69 : kw_lkV RX7 69 7 mX7_makeOn := ⟨⟨TX7, 11, rfl⟩, kmX7_69, wIX7_makeOn, wVX7_makeOn, wNX7, wCX7_makeOn, nmhX7.1, nmhX7.2, by decide⟩
theorem kmX7_73 : Cond.methodLink RX7 73 yX3_has ∈ kw_ws := kz_2 (List.mem_of_getElem? (i := 35) (by first | exact rfl | decide +kernel)) rfl
theorem lvX7_73 : kw_lkV RX7 73 3 mX3_has := ⟨⟨TX3, 3, rfl⟩, kmX7_73, wIX3_has, wVX3_has, wNX3, wCX3_has, nmhX3.1, nmhX3.2, by decide⟩
theorem kmX7_81 : Cond.methodLink RX7 81 yX4_refuse ∈ kw_ws := kz_2 (List.mem_of_getElem? (i := 39) (by first | exact rfl | decide +kernel)) rfl
theorem lvX7_81 : kw_lkV RX7 81 4 mX4_refuse := ⟨⟨TX4, 5, rfl⟩, kmX7_81, wIX4_refuse, wVX4_refuse, wNX4, wCX4_refuse, nmhX4.1, nmhX4.2, by decide⟩
theorem kmX7_210 : Cond.methodLink RX7 210 yX3_make ∈ kw_ws := kz_2 (List.mem_of_getElem? (i := 43) (by first | exact rfl | decide +kernel)) rfl
theorem lvX7_210 : kw_lkV RX7 210 3 mX3_make := ⟨⟨TX3, 3, rfl⟩, kmX7_210, wIX3_make, wVX3_make, wNX3, wCX3_make, nmhX3.1, nmhX3.2, by decide⟩
theorem kmX3_34 : Cond.methodLink RX3 34 yX3_has ∈ kw_ws := kz_2 (List.mem_of_getElem? (i := 47) (by first | exact rfl | decide +kernel)) rfl
theorem lvX3_34 : kw_lkV RX3 34 3 mX3_has := ⟨⟨TX3, 3, rfl⟩, kmX3_34, wIX3_has, wVX3_has, wNX3, wCX3_has, nmhX3.1, nmhX3.2, by decide⟩
theorem kmL_18 : Cond.methodLink RL 18 yX7_lay ∈ kw_ws := kz_2 (List.mem_of_getElem? (i := 48) (by first | exact rfl | decide +kernel)) rfl
theorem lvL_18 : kw_lkV RL 18 7 mX7_lay := ⟨⟨TX7, 11, rfl⟩, kmL_18, wIX7_lay, wVX7_lay, wNX7, wCX7_lay, nmhX7.1, nmhX7.2, by decide⟩
theorem kmX7_77 : Cond.methodLink RX7 77 yX3_findingAt ∈ kw_ws := kz_2 (List.mem_of_getElem? (i := 52) (by first | exact rfl | decide +kernel)) rfl
theorem lvX7_77 : kw_lkV RX7 77 3 mX3_findingAt := ⟨⟨TX3, 3, rfl⟩, kmX7_77, wIX3_findingAt, wVX3_findingAt, wNX3, wCX3_findingAt, nmhX3.1, nmhX3.2, by decide⟩
theorem kmX3_38 : Cond.methodLink RX3 38 yX3_isMissing ∈ kw_ws := kz_2 (List.mem_of_getElem? (i := 56) (by first | exact rfl | decide +kernel)) rfl
theorem lvX3_38 : kw_lkV RX3 38 3 mX3_isMissing := ⟨⟨TX3, 3, rfl⟩, kmX3_38, wIX3_isMissing, wVX3_isMissing, wNX3, wCX3_isMissing, nmhX3.1, nmhX3.2, by decide⟩
theorem kmX3_30 : Cond.methodLink RX3 30 yX3_sizeOf ∈ kw_ws := kz_2 (List.mem_of_getElem? (i := 60) (by first | exact rfl | decide +kernel)) rfl
theorem lvX3_30 : kw_lkV RX3 30 3 mX3_sizeOf := ⟨⟨TX3, 3, rfl⟩, kmX3_30, wIX3_sizeOf, wVX3_sizeOf, wNX3, wCX3_sizeOf, nmhX3.1, nmhX3.2, by decide⟩
theorem kmX3_41 : Cond.methodLink RX3 41 yX3_hasPlaces ∈ kw_ws := kz_2 (List.mem_of_getElem? (i := 64) (by first | exact rfl | decide +kernel)) rfl
theorem lvX3_41 : kw_lkV RX3 41 3 mX3_hasPlaces := ⟨⟨TX3, 3, rfl⟩, kmX3_41, wIX3_hasPlaces, wVX3_hasPlaces, wNX3, wCX3_hasPlaces, nmhX3.1, nmhX3.2, by decide⟩
theorem kmX7_85 : Cond.methodLink RX7 85 yX3_valueAt ∈ kw_ws := kz_2 (List.mem_of_getElem? (i := 68) (by first | exact rfl | decide +kernel)) rfl
theorem lvX7_85 : kw_lkV RX7 85 3 mX3_valueAt := ⟨⟨TX3, 3, rfl⟩, kmX7_85, wIX3_valueAt, wVX3_valueAt, wNX3, wCX3_valueAt, nmhX3.1, nmhX3.2, by decide⟩
theorem kmX7_88 : Cond.methodLink RX7 88 yX3_change ∈ kw_ws := kz_2 (List.mem_of_getElem? (i := 72) (by first | exact rfl | decide +kernel)) rfl
theorem lvX7_88 : kw_lkV RX7 88 3 mX3_change := ⟨⟨TX3, 3, rfl⟩, kmX7_88, wIX3_change, wVX3_change, wNX3, wCX3_change, nmhX3.1, nmhX3.2, by decide⟩
theorem kmX7_92 : Cond.methodLink RX7 92 yX4_answer ∈ kw_ws := kz_2 (List.mem_of_getElem? (i := 76) (by first | exact rfl | decide +kernel)) rfl
theorem lvX7_92 : kw_lkV RX7 92 4 mX4_answer := ⟨⟨TX4, 5, rfl⟩, kmX7_92, wIX4_answer, wVX4_answer, wNX4, wCX4_answer, nmhX4.1, nmhX4.2, by decide⟩
theorem kmL_23 : Cond.methodLink RL 23 yX7_at ∈ kw_ws := kz_2 (List.mem_of_getElem? (i := 80) (by first | exact rfl | decide +kernel)) rfl
theorem lvL_23 : kw_lkV RL 23 7 mX7_at := ⟨⟨TX7, 11, rfl⟩, kmL_23, wIX7_at, wVX7_at, wNX7, wCX7_at, nmhX7.1, nmhX7.2, by decide⟩
theorem kmL_27 : Cond.methodLink RL 27 yX7_tear ∈ kw_ws := kz_2 (List.mem_of_getElem? (i := 84) (by first | exact rfl | decide +kernel)) rfl
theorem lvL_27 : kw_lkV RL 27 7 mX7_tear := ⟨⟨TX7, 11, rfl⟩, kmL_27, wIX7_tear, wVX7_tear, wNX7, wCX7_tear, nmhX7.1, nmhX7.2, by decide⟩
theorem kmX7_95 : Cond.methodLink RX7 95 yX3_isMissing ∈ kw_ws := kz_2 (List.mem_of_getElem? (i := 88) (by first | exact rfl | decide +kernel)) rfl
theorem lvX7_95 : kw_lkV RX7 95 3 mX3_isMissing := ⟨⟨TX3, 3, rfl⟩, kmX7_95, wIX3_isMissing, wVX3_isMissing, wNX3, wCX3_isMissing, nmhX3.1, nmhX3.2, by decide⟩
theorem kmX7_98 : Cond.methodLink RX7 98 yX3_drop ∈ kw_ws := kz_2 (List.mem_of_getElem? (i := 89) (by first | exact rfl | decide +kernel)) rfl
theorem lvX7_98 : kw_lkV RX7 98 3 mX3_drop := ⟨⟨TX3, 3, rfl⟩, kmX7_98, wIX3_drop, wVX3_drop, wNX3, wCX3_drop, nmhX3.1, nmhX3.2, by decide⟩
theorem kmL_32 : Cond.methodLink RL 32 yX7_copy ∈ kw_ws := kz_2 (List.mem_of_getElem? (i := 93) (by first | exact rfl | decide +kernel)) rfl
theorem lvL_32 : kw_lkV RL 32 7 mX7_copy := ⟨⟨TX7, 11, rfl⟩, kmL_32, wIX7_copy, wVX7_copy, wNX7, wCX7_copy, nmhX7.1, nmhX7.2, by decide⟩
theorem kmX7_102 : Cond.methodLink RX7 102 yX3_hasPlaces ∈ kw_ws := kz_2 (List.mem_of_getElem? (i := 97) (by first | exact rfl | decide +kernel)) rfl
theorem lvX7_102 : kw_lkV RX7 102 3 mX3_hasPlaces := ⟨⟨TX3, 3, rfl⟩, kmX7_102, wIX3_hasPlaces, wVX3_hasPlaces, wNX3, wCX3_hasPlaces, nmhX3.1, nmhX3.2, by decide⟩
theorem kmX7_106 : Cond.methodLink RX7 106 yX3_move ∈ kw_ws := kz_2 (List.mem_of_getElem? (i := 98) (by first | exact rfl | decide +kernel)) rfl
theorem lvX7_106 : kw_lkV RX7 106 3 mX3_move := ⟨⟨TX3, 3, rfl⟩, kmX7_106, wIX3_move, wVX3_move, wNX3, wCX3_move, nmhX3.1, nmhX3.2, by decide⟩
theorem wA_native : Cond.native arraycopyName ∈ kw_ws := kz_2 (List.mem_of_getElem? (i := 104) (by first | exact rfl | decide +kernel)) rfl
theorem wA_static : Cond.static arraycopyName ∈ kw_ws := kz_2 (List.mem_of_getElem? (i := 103) (by first | exact rfl | decide +kernel)) rfl
theorem kmX3_45 : Cond.methodLink RX3 45 arraycopyName ∈ kw_ws := kz_2 (List.mem_of_getElem? (i := 102) (by first | exact rfl | decide +kernel)) rfl
theorem laX3_45 : kw_lkA RX3 45 := ⟨kmX3_45, wA_native, wA_static, wNJ10⟩
theorem kmL_37 : Cond.methodLink RL 37 yX7_mean ∈ kw_ws := kz_2 (List.mem_of_getElem? (i := 105) (by first | exact rfl | decide +kernel)) rfl
theorem lvL_37 : kw_lkV RL 37 7 mX7_mean := ⟨⟨TX7, 11, rfl⟩, kmL_37, wIX7_mean, wVX7_mean, wNX7, wCX7_mean, nmhX7.1, nmhX7.2, by decide⟩
theorem kmX7_110 : Cond.methodLink RX7 110 yX3_sizeOf ∈ kw_ws := kz_2 (List.mem_of_getElem? (i := 109) (by first | exact rfl | decide +kernel)) rfl
theorem lvX7_110 : kw_lkV RX7 110 3 mX3_sizeOf := ⟨⟨TX3, 3, rfl⟩, kmX7_110, wIX3_sizeOf, wVX3_sizeOf, wNX3, wCX3_sizeOf, nmhX3.1, nmhX3.2, by decide⟩
theorem kmL_41 : Cond.methodLink RL 41 yX7_text ∈ kw_ws := kz_2 (List.mem_of_getElem? (i := 110) (by first | exact rfl | decide +kernel)) rfl
theorem lvL_41 : kw_lkV RL 41 7 mX7_text := ⟨⟨TX7, 11, rfl⟩, kmL_41, wIX7_text, wVX7_text, wNX7, wCX7_text, nmhX7.1, nmhX7.2, by decide⟩
theorem kmL_45 : Cond.methodLink RL 45 yX7_put ∈ kw_ws := kz_2 (List.mem_of_getElem? (i := 114) (by first | exact rfl | decide +kernel)) rfl
theorem lvL_45 : kw_lkV RL 45 7 mX7_put := ⟨⟨TX7, 11, rfl⟩, kmL_45, wIX7_put, wVX7_put, wNX7, wCX7_put, nmhX7.1, nmhX7.2, by decide⟩
theorem kmL_49 : Cond.methodLink RL 49 yX7_fault ∈ kw_ws := kz_2 (List.mem_of_getElem? (i := 118) (by first | exact rfl | decide +kernel)) rfl
theorem lvL_49 : kw_lkV RL 49 7 mX7_fault := ⟨⟨TX7, 11, rfl⟩, kmL_49, wIX7_fault, wVX7_fault, wNX7, wCX7_fault, nmhX7.1, nmhX7.2, by decide⟩
theorem kmX7_113 : Cond.methodLink RX7 113 yX2_faultOf ∈ kw_ws := kz_2 (List.mem_of_getElem? (i := 122) (by first | exact rfl | decide +kernel)) rfl
theorem lvX7_113 : kw_lkV RX7 113 2 mX2_faultOf := ⟨⟨TX2, 2, rfl⟩, kmX7_113, wIX2_faultOf, wVX2_faultOf, wNX2, wCX2_faultOf, nmhX2.1, nmhX2.2, by decide⟩
theorem kmX2_28 : Cond.methodLink RX2 28 yX2_skipBlanks ∈ kw_ws := kz_2 (List.mem_of_getElem? (i := 126) (by first | exact rfl | decide +kernel)) rfl
theorem lvX2_28 : kw_lkV RX2 28 2 mX2_skipBlanks := ⟨⟨TX2, 2, rfl⟩, kmX2_28, wIX2_skipBlanks, wVX2_skipBlanks, wNX2, wCX2_skipBlanks, nmhX2.1, nmhX2.2, by decide⟩
theorem kmX2_32 : Cond.methodLink RX2 32 yX3_valueAt ∈ kw_ws := kz_2 (List.mem_of_getElem? (i := 130) (by first | exact rfl | decide +kernel)) rfl
theorem lvX2_32 : kw_lkV RX2 32 3 mX3_valueAt := ⟨⟨TX3, 3, rfl⟩, kmX2_32, wIX3_valueAt, wVX3_valueAt, wNX3, wCX3_valueAt, nmhX3.1, nmhX3.2, by decide⟩
theorem kmX2_38 : Cond.methodLink RX2 38 yX2_readWinds ∈ kw_ws := kz_2 (List.mem_of_getElem? (i := 131) (by first | exact rfl | decide +kernel)) rfl
theorem lvX2_38 : kw_lkV RX2 38 2 mX2_readWinds := ⟨⟨TX2, 2, rfl⟩, kmX2_38, wIX2_readWinds, wVX2_readWinds, wNX2, wCX2_readWinds, nmhX2.1, nmhX2.2, by decide⟩
theorem kmX2_41 : Cond.methodLink RX2 41 yX3_sizeOf ∈ kw_ws := kz_2 (List.mem_of_getElem? (i := 135) (by first | exact rfl | decide +kernel)) rfl
theorem lvX2_41 : kw_lkV RX2 41 3 mX3_sizeOf := ⟨⟨TX3, 3, rfl⟩, kmX2_41, wIX3_sizeOf, wVX3_sizeOf, wNX3, wCX3_sizeOf, nmhX3.1, nmhX3.2, by decide⟩
theorem kmX2_45 : Cond.methodLink RX2 45 yX2_readLine ∈ kw_ws := kz_2 (List.mem_of_getElem? (i := 136) (by first | exact rfl | decide +kernel)) rfl
theorem lvX2_45 : kw_lkV RX2 45 2 mX2_readLine := ⟨⟨TX2, 2, rfl⟩, kmX2_45, wIX2_readLine, wVX2_readLine, wNX2, wCX2_readLine, nmhX2.1, nmhX2.2, by decide⟩
theorem kmX2_53 : Cond.methodLink RX2 53 yX2_kindOf ∈ kw_ws := kz_2 (List.mem_of_getElem? (i := 140) (by first | exact rfl | decide +kernel)) rfl
theorem lsX2_53 : kw_lkS RX2 53 mX2_kindOf := ⟨kmX2_53, wTX2_kindOf, wNX2, wCX2_kindOf, nmhX2.1, nmhX2.2, by decide⟩
theorem kmX2_62 : Cond.methodLink RX2 62 yX2_readFigure ∈ kw_ws := kz_2 (List.mem_of_getElem? (i := 145) (by first | exact rfl | decide +kernel)) rfl
theorem lvX2_62 : kw_lkV RX2 62 2 mX2_readFigure := ⟨⟨TX2, 2, rfl⟩, kmX2_62, wIX2_readFigure, wVX2_readFigure, wNX2, wCX2_readFigure, nmhX2.1, nmhX2.2, by decide⟩
theorem kmL_53 : Cond.methodLink RL 53 yX7_town ∈ kw_ws := kz_2 (List.mem_of_getElem? (i := 149) (by first | exact rfl | decide +kernel)) rfl
theorem lvL_53 : kw_lkV RL 53 7 mX7_town := ⟨⟨TX7, 11, rfl⟩, kmL_53, wIX7_town, wVX7_town, wNX7, wCX7_town, nmhX7.1, nmhX7.2, by decide⟩
theorem kmX7_124 : Cond.methodLink RX7 124 yX1_copyFrom ∈ kw_ws := kz_2 (List.mem_of_getElem? (i := 153) (by first | exact rfl | decide +kernel)) rfl
theorem lvX7_124 : kw_lkV RX7 124 1 mX1_copyFrom := ⟨⟨TX1, 7, rfl⟩, kmX7_124, wIX1_copyFrom, wVX1_copyFrom, wNX1, wCX1_copyFrom, nmhX1.1, nmhX1.2, by decide⟩
theorem kmX1_27 : Cond.methodLink RX1 27 arraycopyName ∈ kw_ws := kz_2 (List.mem_of_getElem? (i := 157) (by first | exact rfl | decide +kernel)) rfl
theorem laX1_27 : kw_lkA RX1 27 := ⟨kmX1_27, wA_native, wA_static, wNJ10⟩
theorem kmX7_130 : Cond.methodLink RX7 130 yX5_replay ∈ kw_ws := kz_2 (List.mem_of_getElem? (i := 158) (by first | exact rfl | decide +kernel)) rfl
theorem lvX7_130 : kw_lkV RX7 130 5 mX5_replay := ⟨⟨TX5, 8, rfl⟩, kmX7_130, wIX5_replay, wVX5_replay, wNX5, wCX5_replay, nmhX5.1, nmhX5.2, by decide⟩
theorem kmX5_94 : Cond.methodLink RX5 94 yJ7_fill_53178 ∈ kw_ws := kz_2 (List.mem_of_getElem? (i := 162) (by first | exact rfl | decide +kernel)) rfl
theorem lsX5_94 : kw_lkS RX5 94 mJ7_fill_53178 := ⟨kmX5_94, wTJ7_fill_53178, wNJ7, wCJ7_fill_53178, nmhJ7.1, nmhJ7.2, by decide⟩
theorem kmX5_100 : Cond.methodLink RX5 100 yX5_act ∈ kw_ws := kz_2 (List.mem_of_getElem? (i := 163) (by first | exact rfl | decide +kernel)) rfl
theorem lvX5_100 : kw_lkV RX5 100 5 mX5_act := ⟨⟨TX5, 8, rfl⟩, kmX5_100, wIX5_act, wVX5_act, wNX5, wCX5_act, nmhX5.1, nmhX5.2, by decide⟩
theorem kmX5_72 : Cond.methodLink RX5 72 yX5_hasRoomFor ∈ kw_ws := kz_2 (List.mem_of_getElem? (i := 167) (by first | exact rfl | decide +kernel)) rfl
theorem lvX5_72 : kw_lkV RX5 72 5 mX5_hasRoomFor := ⟨⟨TX5, 8, rfl⟩, kmX5_72, wIX5_hasRoomFor, wVX5_hasRoomFor, wNX5, wCX5_hasRoomFor, nmhX5.1, nmhX5.2, by decide⟩
theorem kmX5_75 : Cond.methodLink RX5 75 yX5_passHour ∈ kw_ws := kz_2 (List.mem_of_getElem? (i := 171) (by first | exact rfl | decide +kernel)) rfl
theorem lvX5_75 : kw_lkV RX5 75 5 mX5_passHour := ⟨⟨TX5, 8, rfl⟩, kmX5_75, wIX5_passHour, wVX5_passHour, wNX5, wCX5_passHour, nmhX5.1, nmhX5.2, by decide⟩
theorem kmX5_64 : Cond.methodLink RX5 64 yX5_windNow ∈ kw_ws := kz_2 (List.mem_of_getElem? (i := 175) (by first | exact rfl | decide +kernel)) rfl
theorem lvX5_64 : kw_lkV RX5 64 5 mX5_windNow := ⟨⟨TX5, 8, rfl⟩, kmX5_64, wIX5_windNow, wVX5_windNow, wNX5, wCX5_windNow, nmhX5.1, nmhX5.2, by decide⟩
theorem kmX5_38 : Cond.methodLink RX5 38 yX1_windAt ∈ kw_ws := kz_2 (List.mem_of_getElem? (i := 179) (by first | exact rfl | decide +kernel)) rfl
theorem lvX5_38 : kw_lkV RX5 38 1 mX1_windAt := ⟨⟨TX1, 7, rfl⟩, kmX5_38, wIX1_windAt, wVX1_windAt, wNX1, wCX1_windAt, nmhX1.1, nmhX1.2, by decide⟩
theorem kmX5_81 : Cond.methodLink RX5 81 yX1_milesOf ∈ kw_ws := kz_2 (List.mem_of_getElem? (i := 183) (by first | exact rfl | decide +kernel)) rfl
theorem lvX5_81 : kw_lkV RX5 81 1 mX1_milesOf := ⟨⟨TX1, 7, rfl⟩, kmX5_81, wIX1_milesOf, wVX1_milesOf, wNX1, wCX1_milesOf, nmhX1.1, nmhX1.2, by decide⟩
theorem kmX1_52 : Cond.methodLink RX1 52 yX1_pullOf ∈ kw_ws := kz_2 (List.mem_of_getElem? (i := 187) (by first | exact rfl | decide +kernel)) rfl
theorem lvX1_52 : kw_lkV RX1 52 1 mX1_pullOf := ⟨⟨TX1, 7, rfl⟩, kmX1_52, wIX1_pullOf, wVX1_pullOf, wNX1, wCX1_pullOf, nmhX1.1, nmhX1.2, by decide⟩
theorem kmX1_44 : Cond.methodLink RX1 44 yX1_hasLine ∈ kw_ws := kz_2 (List.mem_of_getElem? (i := 191) (by first | exact rfl | decide +kernel)) rfl
theorem lvX1_44 : kw_lkV RX1 44 1 mX1_hasLine := ⟨⟨TX1, 7, rfl⟩, kmX1_44, wIX1_hasLine, wVX1_hasLine, wNX1, wCX1_hasLine, nmhX1.1, nmhX1.2, by decide⟩
theorem kmX5_87 : Cond.methodLink RX5 87 yX1_turnOf ∈ kw_ws := kz_2 (List.mem_of_getElem? (i := 198) (by first | exact rfl | decide +kernel)) rfl
theorem lvX5_87 : kw_lkV RX5 87 1 mX1_turnOf := ⟨⟨TX1, 7, rfl⟩, kmX5_87, wIX1_turnOf, wVX1_turnOf, wNX1, wCX1_turnOf, nmhX1.1, nmhX1.2, by decide⟩
theorem kmX7_352 : Cond.methodLink RX7 352 yJ9_max_7cf53 ∈ kw_ws := kz_2 (List.mem_of_getElem? (i := 205) (by first | exact rfl | decide +kernel)) rfl
theorem lsX7_352 : kw_lkS RX7 352 mJ9_max_7cf53 := ⟨kmX7_352, wTJ9_max_7cf53, wNJ9, wCJ9_max_7cf53, nmhJ9.1, nmhJ9.2, by decide⟩
theorem kmX7_357 : Cond.methodLink RX7 357 yJ9_min_7cf53 ∈ kw_ws := kz_2 (List.mem_of_getElem? (i := 208) (by first | exact rfl | decide +kernel)) rfl
theorem lsX7_357 : kw_lkS RX7 357 mJ9_min_7cf53 := ⟨kmX7_357, wTJ9_min_7cf53, wNJ9, wCJ9_min_7cf53, nmhJ9.1, nmhJ9.2, by decide⟩
theorem kmL_57 : Cond.methodLink RL 57 yX7_line ∈ kw_ws := kz_2 (List.mem_of_getElem? (i := 211) (by first | exact rfl | decide +kernel)) rfl
theorem lvL_57 : kw_lkV RL 57 7 mX7_line := ⟨⟨TX7, 11, rfl⟩, kmL_57, wIX7_line, wVX7_line, wNX7, wCX7_line, nmhX7.1, nmhX7.2, by decide⟩
theorem kmX7_137 : Cond.methodLink RX7 137 yX1_hasLine ∈ kw_ws := kz_2 (List.mem_of_getElem? (i := 215) (by first | exact rfl | decide +kernel)) rfl
theorem lvX7_137 : kw_lkV RX7 137 1 mX1_hasLine := ⟨⟨TX1, 7, rfl⟩, kmX7_137, wIX1_hasLine, wVX1_hasLine, wNX1, wCX1_hasLine, nmhX1.1, nmhX1.2, by decide⟩
theorem kmX7_140 : Cond.methodLink RX7 140 yX5_trait ∈ kw_ws := kz_2 (List.mem_of_getElem? (i := 216) (by first | exact rfl | decide +kernel)) rfl
theorem lvX7_140 : kw_lkV RX7 140 5 mX5_trait := ⟨⟨TX5, 8, rfl⟩, kmX7_140, wIX5_trait, wVX5_trait, wNX5, wCX5_trait, nmhX5.1, nmhX5.2, by decide⟩
theorem kmX5_45 : Cond.methodLink RX5 45 yX1_hasLine ∈ kw_ws := kz_2 (List.mem_of_getElem? (i := 220) (by first | exact rfl | decide +kernel)) rfl
theorem lvX5_45 : kw_lkV RX5 45 1 mX1_hasLine := ⟨⟨TX1, 7, rfl⟩, kmX5_45, wIX1_hasLine, wVX1_hasLine, wNX1, wCX1_hasLine, nmhX1.1, nmhX1.2, by decide⟩
theorem kmX5_61 : Cond.methodLink RX5 61 yX5_isHung ∈ kw_ws := kz_2 (List.mem_of_getElem? (i := 221) (by first | exact rfl | decide +kernel)) rfl
theorem lvX5_61 : kw_lkV RX5 61 5 mX5_isHung := ⟨⟨TX5, 8, rfl⟩, kmX5_61, wIX5_isHung, wVX5_isHung, wNX5, wCX5_isHung, nmhX5.1, nmhX5.2, by decide⟩
theorem kmX5_68 : Cond.methodLink RX5 68 yX1_pullOf ∈ kw_ws := kz_2 (List.mem_of_getElem? (i := 225) (by first | exact rfl | decide +kernel)) rfl
theorem lvX5_68 : kw_lkV RX5 68 1 mX1_pullOf := ⟨⟨TX1, 7, rfl⟩, kmX5_68, wIX1_pullOf, wVX1_pullOf, wNX1, wCX1_pullOf, nmhX1.1, nmhX1.2, by decide⟩
theorem kmL_61 : Cond.methodLink RL 61 yX7_mark ∈ kw_ws := kz_2 (List.mem_of_getElem? (i := 226) (by first | exact rfl | decide +kernel)) rfl
theorem lvL_61 : kw_lkV RL 61 7 mX7_mark := ⟨⟨TX7, 11, rfl⟩, kmL_61, wIX7_mark, wVX7_mark, wNX7, wCX7_mark, nmhX7.1, nmhX7.2, by decide⟩
theorem kmX7_146 : Cond.methodLink RX7 146 yX7_isA ∈ kw_ws := kz_2 (List.mem_of_getElem? (i := 230) (by first | exact rfl | decide +kernel)) rfl
theorem lsX7_146 : kw_lkS RX7 146 mX7_isA := ⟨kmX7_146, wTX7_isA, wNX7, wCX7_isA, nmhX7.1, nmhX7.2, by decide⟩
theorem kmX7_150 : Cond.methodLink RX7 150 yX1_pullOf ∈ kw_ws := kz_2 (List.mem_of_getElem? (i := 235) (by first | exact rfl | decide +kernel)) rfl
theorem lvX7_150 : kw_lkV RX7 150 1 mX1_pullOf := ⟨⟨TX1, 7, rfl⟩, kmX7_150, wIX1_pullOf, wVX1_pullOf, wNX1, wCX1_pullOf, nmhX1.1, nmhX1.2, by decide⟩
theorem kmX7_153 : Cond.methodLink RX7 153 yX5_hoursToStorm ∈ kw_ws := kz_2 (List.mem_of_getElem? (i := 236) (by first | exact rfl | decide +kernel)) rfl
theorem lvX7_153 : kw_lkV RX7 153 5 mX5_hoursToStorm := ⟨⟨TX5, 8, rfl⟩, kmX7_153, wIX5_hoursToStorm, wVX5_hoursToStorm, wNX5, wCX5_hoursToStorm, nmhX5.1, nmhX5.2, by decide⟩
theorem kmX5_42 : Cond.methodLink RX5 42 yX5_windAhead ∈ kw_ws := kz_3 (List.mem_of_getElem? (i := 0) (by first | exact rfl | decide +kernel)) rfl
theorem lvX5_42 : kw_lkV RX5 42 5 mX5_windAhead := ⟨⟨TX5, 8, rfl⟩, kmX5_42, wIX5_windAhead, wVX5_windAhead, wNX5, wCX5_windAhead, nmhX5.1, nmhX5.2, by decide⟩
theorem kmX7_160 : Cond.methodLink RX7 160 yJ6_bitCount_0f7a4 ∈ kw_ws := kz_3 (List.mem_of_getElem? (i := 4) (by first | exact rfl | decide +kernel)) rfl
theorem lsX7_160 : kw_lkS RX7 160 mJ6_bitCount_0f7a4 := ⟨kmX7_160, wTJ6_bitCount_0f7a4, wNJ6, wCJ6_bitCount_0f7a4, nmhJ6.1, nmhJ6.2, by decide⟩
theorem kmX7_165 : Cond.methodLink RX7 165 yX1_othersNoWider ∈ kw_ws := kz_3 (List.mem_of_getElem? (i := 10) (by first | exact rfl | decide +kernel)) rfl
theorem lvX7_165 : kw_lkV RX7 165 1 mX1_othersNoWider := ⟨⟨TX1, 7, rfl⟩, kmX7_165, wIX1_othersNoWider, wVX1_othersNoWider, wNX1, wCX1_othersNoWider, nmhX1.1, nmhX1.2, by decide⟩
theorem kmX7_171 : Cond.methodLink RX7 171 yX5_windNow ∈ kw_ws := kz_3 (List.mem_of_getElem? (i := 14) (by first | exact rfl | decide +kernel)) rfl
theorem lvX7_171 : kw_lkV RX7 171 5 mX5_windNow := ⟨⟨TX5, 8, rfl⟩, kmX7_171, wIX5_windNow, wVX5_windNow, wNX5, wCX5_windNow, nmhX5.1, nmhX5.2, by decide⟩
theorem kmX7_174 : Cond.methodLink RX7 174 yX7_pull ∈ kw_ws := kz_3 (List.mem_of_getElem? (i := 15) (by first | exact rfl | decide +kernel)) rfl
theorem lsX7_174 : kw_lkS RX7 174 mX7_pull := ⟨kmX7_174, wTX7_pull, wNX7, wCX7_pull, nmhX7.1, nmhX7.2, by decide⟩
theorem kmL_65 : Cond.methodLink RL 65 yX7_wind ∈ kw_ws := kz_3 (List.mem_of_getElem? (i := 16) (by first | exact rfl | decide +kernel)) rfl
theorem lvL_65 : kw_lkV RL 65 7 mX7_wind := ⟨⟨TX7, 11, rfl⟩, kmL_65, wIX7_wind, wVX7_wind, wNX7, wCX7_wind, nmhX7.1, nmhX7.2, by decide⟩
theorem kmX7_178 : Cond.methodLink RX7 178 yX5_isEmpty ∈ kw_ws := kz_3 (List.mem_of_getElem? (i := 20) (by first | exact rfl | decide +kernel)) rfl
theorem lvX7_178 : kw_lkV RX7 178 5 mX5_isEmpty := ⟨⟨TX5, 8, rfl⟩, kmX7_178, wIX5_isEmpty, wVX5_isEmpty, wNX5, wCX5_isEmpty, nmhX5.1, nmhX5.2, by decide⟩
theorem kmX7_182 : Cond.methodLink RX7 182 yX1_windAt ∈ kw_ws := kz_3 (List.mem_of_getElem? (i := 24) (by first | exact rfl | decide +kernel)) rfl
theorem lvX7_182 : kw_lkV RX7 182 1 mX1_windAt := ⟨⟨TX1, 7, rfl⟩, kmX7_182, wIX1_windAt, wVX1_windAt, wNX1, wCX1_windAt, nmhX1.1, nmhX1.2, by decide⟩
theorem kmL_69 : Cond.methodLink RL 69 yX7_hang ∈ kw_ws := kz_3 (List.mem_of_getElem? (i := 25) (by first | exact rfl | decide +kernel)) rfl
theorem lvL_69 : kw_lkV RL 69 7 mX7_hang := ⟨⟨TX7, 11, rfl⟩, kmL_69, wIX7_hang, wVX7_hang, wNX7, wCX7_hang, nmhX7.1, nmhX7.2, by decide⟩
theorem kmX7_185 : Cond.methodLink RX7 185 yX5_isHung ∈ kw_ws := kz_3 (List.mem_of_getElem? (i := 29) (by first | exact rfl | decide +kernel)) rfl
theorem lvX7_185 : kw_lkV RX7 185 5 mX5_isHung := ⟨⟨TX5, 8, rfl⟩, kmX7_185, wIX5_isHung, wVX5_isHung, wNX5, wCX5_isHung, nmhX5.1, nmhX5.2, by decide⟩
theorem kmX7_188 : Cond.methodLink RX7 188 yX5_hasRoomFor ∈ kw_ws := kz_3 (List.mem_of_getElem? (i := 30) (by first | exact rfl | decide +kernel)) rfl
theorem lvX7_188 : kw_lkV RX7 188 5 mX5_hasRoomFor := ⟨⟨TX5, 8, rfl⟩, kmX7_188, wIX5_hasRoomFor, wVX5_hasRoomFor, wNX5, wCX5_hasRoomFor, nmhX5.1, nmhX5.2, by decide⟩
theorem kmX7_191 : Cond.methodLink RX7 191 yX5_act ∈ kw_ws := kz_3 (List.mem_of_getElem? (i := 31) (by first | exact rfl | decide +kernel)) rfl
theorem lvX7_191 : kw_lkV RX7 191 5 mX5_act := ⟨⟨TX5, 8, rfl⟩, kmX7_191, wIX5_act, wVX5_act, wNX5, wCX5_act, nmhX5.1, nmhX5.2, by decide⟩
theorem kmL_73 : Cond.methodLink RL 73 yX7_take ∈ kw_ws := kz_3 (List.mem_of_getElem? (i := 32) (by first | exact rfl | decide +kernel)) rfl
theorem lvL_73 : kw_lkV RL 73 7 mX7_take := ⟨⟨TX7, 11, rfl⟩, kmL_73, wIX7_take, wVX7_take, wNX7, wCX7_take, nmhX7.1, nmhX7.2, by decide⟩
theorem kmL_77 : Cond.methodLink RL 77 yX7_hour ∈ kw_ws := kz_3 (List.mem_of_getElem? (i := 36) (by first | exact rfl | decide +kernel)) rfl
theorem lvL_77 : kw_lkV RL 77 7 mX7_hour := ⟨⟨TX7, 11, rfl⟩, kmL_77, wIX7_hour, wVX7_hour, wNX7, wCX7_hour, nmhX7.1, nmhX7.2, by decide⟩
theorem kmX7_200 : Cond.methodLink RX7 200 yX4_tellWhole ∈ kw_ws := kz_3 (List.mem_of_getElem? (i := 40) (by first | exact rfl | decide +kernel)) rfl
theorem lvX7_200 : kw_lkV RX7 200 4 mX4_tellWhole := ⟨⟨TX4, 5, rfl⟩, kmX7_200, wIX4_tellWhole, wVX4_tellWhole, wNX4, wCX4_tellWhole, nmhX4.1, nmhX4.2, by decide⟩
theorem kmL_82 : Cond.methodLink RL 82 yX7_undo ∈ kw_ws := kz_3 (List.mem_of_getElem? (i := 44) (by first | exact rfl | decide +kernel)) rfl
theorem lvL_82 : kw_lkV RL 82 7 mX7_undo := ⟨⟨TX7, 11, rfl⟩, kmL_82, wIX7_undo, wVX7_undo, wNX7, wCX7_undo, nmhX7.1, nmhX7.2, by decide⟩
theorem kmL_86 : Cond.methodLink RL 86 yX7_keep ∈ kw_ws := kz_3 (List.mem_of_getElem? (i := 48) (by first | exact rfl | decide +kernel)) rfl
theorem lvL_86 : kw_lkV RL 86 7 mX7_keep := ⟨⟨TX7, 11, rfl⟩, kmL_86, wIX7_keep, wVX7_keep, wNX7, wCX7_keep, nmhX7.1, nmhX7.2, by decide⟩
theorem kmL_90 : Cond.methodLink RL 90 yX7_on ∈ kw_ws := kz_3 (List.mem_of_getElem? (i := 52) (by first | exact rfl | decide +kernel)) rfl
theorem lvL_90 : kw_lkV RL 90 7 mX7_on := ⟨⟨TX7, 11, rfl⟩, kmL_90, wIX7_on, wVX7_on, wNX7, wCX7_on, nmhX7.1, nmhX7.2, by decide⟩
theorem kmL_94 : Cond.methodLink RL 94 yX7_goes ∈ kw_ws := kz_3 (List.mem_of_getElem? (i := 56) (by first | exact rfl | decide +kernel)) rfl
theorem lvL_94 : kw_lkV RL 94 7 mX7_goes := ⟨⟨TX7, 11, rfl⟩, kmL_94, wIX7_goes, wVX7_goes, wNX7, wCX7_goes, nmhX7.1, nmhX7.2, by decide⟩
theorem kmX7_216 : Cond.methodLink RX7 216 yX1_hasSet ∈ kw_ws := kz_3 (List.mem_of_getElem? (i := 60) (by first | exact rfl | decide +kernel)) rfl
theorem lvX7_216 : kw_lkV RX7 216 1 mX1_hasSet := ⟨⟨TX1, 7, rfl⟩, kmX7_216, wIX1_hasSet, wVX1_hasSet, wNX1, wCX1_hasSet, nmhX1.1, nmhX1.2, by decide⟩
theorem kmX1_40 : Cond.methodLink RX1 40 yX1_allLines ∈ kw_ws := kz_3 (List.mem_of_getElem? (i := 64) (by first | exact rfl | decide +kernel)) rfl
theorem lvX1_40 : kw_lkV RX1 40 1 mX1_allLines := ⟨⟨TX1, 7, rfl⟩, kmX1_40, wIX1_allLines, wVX1_allLines, wNX1, wCX1_allLines, nmhX1.1, nmhX1.2, by decide⟩
theorem kmX7_219 : Cond.methodLink RX7 219 yX1_turnOf ∈ kw_ws := kz_3 (List.mem_of_getElem? (i := 68) (by first | exact rfl | decide +kernel)) rfl
theorem lvX7_219 : kw_lkV RX7 219 1 mX1_turnOf := ⟨⟨TX1, 7, rfl⟩, kmX7_219, wIX1_turnOf, wVX1_turnOf, wNX1, wCX1_turnOf, nmhX1.1, nmhX1.2, by decide⟩
theorem kmX7_222 : Cond.methodLink RX7 222 yX1_milesOf ∈ kw_ws := kz_3 (List.mem_of_getElem? (i := 69) (by first | exact rfl | decide +kernel)) rfl
theorem lvX7_222 : kw_lkV RX7 222 1 mX1_milesOf := ⟨⟨TX1, 7, rfl⟩, kmX7_222, wIX1_milesOf, wVX1_milesOf, wNX1, wCX1_milesOf, nmhX1.1, nmhX1.2, by decide⟩
theorem kmL_98 : Cond.methodLink RL 98 yX7_even ∈ kw_ws := kz_3 (List.mem_of_getElem? (i := 70) (by first | exact rfl | decide +kernel)) rfl
theorem lvL_98 : kw_lkV RL 98 7 mX7_even := ⟨⟨TX7, 11, rfl⟩, kmL_98, wIX7_even, wVX7_even, wNX7, wCX7_even, nmhX7.1, nmhX7.2, by decide⟩
theorem kmX7_225 : Cond.methodLink RX7 225 yX0_draw ∈ kw_ws := kz_3 (List.mem_of_getElem? (i := 74) (by first | exact rfl | decide +kernel)) rfl
theorem lvX7_225 : kw_lkV RX7 225 0 mX0_draw := ⟨⟨TX0, 4, rfl⟩, kmX7_225, wIX0_draw, wVX0_draw, wNX0, wCX0_draw, nmhX0.1, nmhX0.2, by decide⟩
theorem kmX0_28 : Cond.methodLink RX0 28 yX1_pullOf ∈ kw_ws := kz_3 (List.mem_of_getElem? (i := 78) (by first | exact rfl | decide +kernel)) rfl
theorem lvX0_28 : kw_lkV RX0 28 1 mX1_pullOf := ⟨⟨TX1, 7, rfl⟩, kmX0_28, wIX1_pullOf, wVX1_pullOf, wNX1, wCX1_pullOf, nmhX1.1, nmhX1.2, by decide⟩
theorem kmX7_232 : Cond.methodLink RX7 232 yX0_fits ∈ kw_ws := kz_3 (List.mem_of_getElem? (i := 79) (by first | exact rfl | decide +kernel)) rfl
theorem lvX7_232 : kw_lkV RX7 232 0 mX0_fits := ⟨⟨TX0, 4, rfl⟩, kmX7_232, wIX0_fits, wVX0_fits, wNX0, wCX0_fits, nmhX0.1, nmhX0.2, by decide⟩
theorem kmX0_35 : Cond.methodLink RX0 35 yX0_milesOf ∈ kw_ws := kz_3 (List.mem_of_getElem? (i := 83) (by first | exact rfl | decide +kernel)) rfl
theorem lvX0_35 : kw_lkV RX0 35 0 mX0_milesOf := ⟨⟨TX0, 4, rfl⟩, kmX0_35, wIX0_milesOf, wVX0_milesOf, wNX0, wCX0_milesOf, nmhX0.1, nmhX0.2, by decide⟩
theorem kmX0_39 : Cond.methodLink RX0 39 yX0_turnBy ∈ kw_ws := kz_3 (List.mem_of_getElem? (i := 87) (by first | exact rfl | decide +kernel)) rfl
theorem lvX0_39 : kw_lkV RX0 39 0 mX0_turnBy := ⟨⟨TX0, 4, rfl⟩, kmX0_39, wIX0_turnBy, wVX0_turnBy, wNX0, wCX0_turnBy, nmhX0.1, nmhX0.2, by decide⟩
theorem kmX7_235 : Cond.methodLink RX7 235 yX1_linenOf ∈ kw_ws := kz_3 (List.mem_of_getElem? (i := 91) (by first | exact rfl | decide +kernel)) rfl
theorem lvX7_235 : kw_lkV RX7 235 1 mX1_linenOf := ⟨⟨TX1, 7, rfl⟩, kmX7_235, wIX1_linenOf, wVX1_linenOf, wNX1, wCX1_linenOf, nmhX1.1, nmhX1.2, by decide⟩
theorem kmL_102 : Cond.methodLink RL 102 yX7_fast ∈ kw_ws := kz_3 (List.mem_of_getElem? (i := 95) (by first | exact rfl | decide +kernel)) rfl
theorem lvL_102 : kw_lkV RL 102 7 mX7_fast := ⟨⟨TX7, 11, rfl⟩, kmL_102, wIX7_fast, wVX7_fast, wNX7, wCX7_fast, nmhX7.1, nmhX7.2, by decide⟩
theorem kmX7_238 : Cond.methodLink RX7 238 yX0_milesOf ∈ kw_ws := kz_3 (List.mem_of_getElem? (i := 99) (by first | exact rfl | decide +kernel)) rfl
theorem lvX7_238 : kw_lkV RX7 238 0 mX0_milesOf := ⟨⟨TX0, 4, rfl⟩, kmX7_238, wIX0_milesOf, wVX0_milesOf, wNX0, wCX0_milesOf, nmhX0.1, nmhX0.2, by decide⟩
theorem kmL_106 : Cond.methodLink RL 106 yX7_wet ∈ kw_ws := kz_3 (List.mem_of_getElem? (i := 100) (by first | exact rfl | decide +kernel)) rfl
theorem lvL_106 : kw_lkV RL 106 7 mX7_wet := ⟨⟨TX7, 11, rfl⟩, kmL_106, wIX7_wet, wVX7_wet, wNX7, wCX7_wet, nmhX7.1, nmhX7.2, by decide⟩
theorem kmX7_240 : Cond.methodLink RX7 240 yX5_allWet ∈ kw_ws := kz_3 (List.mem_of_getElem? (i := 104) (by first | exact rfl | decide +kernel)) rfl
theorem lvX7_240 : kw_lkV RX7 240 5 mX5_allWet := ⟨⟨TX5, 8, rfl⟩, kmX7_240, wIX5_allWet, wVX5_allWet, wNX5, wCX5_allWet, nmhX5.1, nmhX5.2, by decide⟩
theorem kmX7_243 : Cond.methodLink RX7 243 yX1_allLines ∈ kw_ws := kz_3 (List.mem_of_getElem? (i := 108) (by first | exact rfl | decide +kernel)) rfl
theorem lvX7_243 : kw_lkV RX7 243 1 mX1_allLines := ⟨⟨TX1, 7, rfl⟩, kmX7_243, wIX1_allLines, wVX1_allLines, wNX1, wCX1_allLines, nmhX1.1, nmhX1.2, by decide⟩
theorem kmX7_246 : Cond.methodLink RX7 246 yX7_drySet ∈ kw_ws := kz_3 (List.mem_of_getElem? (i := 109) (by first | exact rfl | decide +kernel)) rfl
theorem lvX7_246 : kw_lkV RX7 246 7 mX7_drySet := ⟨⟨TX7, 11, rfl⟩, kmX7_246, wIX7_drySet, wVX7_drySet, wNX7, wCX7_drySet, nmhX7.1, nmhX7.2, by decide⟩
theorem kmL_110 : Cond.methodLink RL 110 yX7_sail ∈ kw_ws := kz_3 (List.mem_of_getElem? (i := 113) (by first | exact rfl | decide +kernel)) rfl
theorem lvL_110 : kw_lkV RL 110 7 mX7_sail := ⟨⟨TX7, 11, rfl⟩, kmL_110, wIX7_sail, wVX7_sail, wNX7, wCX7_sail, nmhX7.1, nmhX7.2, by decide⟩
theorem kmX7_250 : Cond.methodLink RX7 250 yX7_planRefusal ∈ kw_ws := kz_3 (List.mem_of_getElem? (i := 117) (by first | exact rfl | decide +kernel)) rfl
theorem lvX7_250 : kw_lkV RX7 250 7 mX7_planRefusal := ⟨⟨TX7, 11, rfl⟩, kmX7_250, wIX7_planRefusal, wVX7_planRefusal, wNX7, wCX7_planRefusal, nmhX7.1, nmhX7.2, by decide⟩
theorem kmX7_253 : Cond.methodLink RX7 253 yX5_windAhead ∈ kw_ws := kz_3 (List.mem_of_getElem? (i := 121) (by first | exact rfl | decide +kernel)) rfl
theorem lvX7_253 : kw_lkV RX7 253 5 mX5_windAhead := ⟨⟨TX5, 8, rfl⟩, kmX7_253, wIX5_windAhead, wVX5_windAhead, wNX5, wCX5_windAhead, nmhX5.1, nmhX5.2, by decide⟩
theorem kmL_114 : Cond.methodLink RL 114 yX7_dry ∈ kw_ws := kz_3 (List.mem_of_getElem? (i := 122) (by first | exact rfl | decide +kernel)) rfl
theorem lvL_114 : kw_lkV RL 114 7 mX7_dry := ⟨⟨TX7, 11, rfl⟩, kmL_114, wIX7_dry, wVX7_dry, wNX7, wCX7_dry, nmhX7.1, nmhX7.2, by decide⟩
theorem kmX7_256 : Cond.methodLink RX7 256 arraycopyName ∈ kw_ws := kz_3 (List.mem_of_getElem? (i := 126) (by first | exact rfl | decide +kernel)) rfl
theorem laX7_256 : kw_lkA RX7 256 := ⟨kmX7_256, wA_native, wA_static, wNJ10⟩
theorem kmX7_262 : Cond.methodLink RX7 262 yX7_weather ∈ kw_ws := kz_3 (List.mem_of_getElem? (i := 127) (by first | exact rfl | decide +kernel)) rfl
theorem lsX7_262 : kw_lkS RX7 262 mX7_weather := ⟨kmX7_262, wTX7_weather, wNX7, wCX7_weather, nmhX7.1, nmhX7.2, by decide⟩
theorem kmL_118 : Cond.methodLink RL 118 yX7_far ∈ kw_ws := kz_3 (List.mem_of_getElem? (i := 128) (by first | exact rfl | decide +kernel)) rfl
theorem lvL_118 : kw_lkV RL 118 7 mX7_far := ⟨⟨TX7, 11, rfl⟩, kmL_118, wIX7_far, wVX7_far, wNX7, wCX7_far, nmhX7.1, nmhX7.2, by decide⟩
theorem kmX7_266 : Cond.methodLink RX7 266 yX6_find ∈ kw_ws := kz_3 (List.mem_of_getElem? (i := 132) (by first | exact rfl | decide +kernel)) rfl
theorem lvX7_266 : kw_lkV RX7 266 6 mX6_find := ⟨⟨TX6, 8, rfl⟩, kmX7_266, wIX6_find, wVX6_find, wNX6, wCX6_find, nmhX6.1, nmhX6.2, by decide⟩
theorem kmX6_28 : Cond.methodLink RX6 28 yJ9_min_7cf53 ∈ kw_ws := kz_3 (List.mem_of_getElem? (i := 136) (by first | exact rfl | decide +kernel)) rfl
theorem lsX6_28 : kw_lkS RX6 28 mJ9_min_7cf53 := ⟨kmX6_28, wTJ9_min_7cf53, wNJ9, wCJ9_min_7cf53, nmhJ9.1, nmhJ9.2, by decide⟩
theorem kmX6_45 : Cond.methodLink RX6 45 yX5_windAhead ∈ kw_ws := kz_3 (List.mem_of_getElem? (i := 137) (by first | exact rfl | decide +kernel)) rfl
theorem lvX6_45 : kw_lkV RX6 45 5 mX5_windAhead := ⟨⟨TX5, 8, rfl⟩, kmX6_45, wIX5_windAhead, wVX5_windAhead, wNX5, wCX5_windAhead, nmhX5.1, nmhX5.2, by decide⟩
theorem kmX6_55 : Cond.methodLink RX6 55 yX0_draw ∈ kw_ws := kz_3 (List.mem_of_getElem? (i := 138) (by first | exact rfl | decide +kernel)) rfl
theorem lvX6_55 : kw_lkV RX6 55 0 mX0_draw := ⟨⟨TX0, 4, rfl⟩, kmX6_55, wIX0_draw, wVX0_draw, wNX0, wCX0_draw, nmhX0.1, nmhX0.2, by decide⟩
theorem kmX6_59 : Cond.methodLink RX6 59 yX1_allLines ∈ kw_ws := kz_3 (List.mem_of_getElem? (i := 139) (by first | exact rfl | decide +kernel)) rfl
theorem lvX6_59 : kw_lkV RX6 59 1 mX1_allLines := ⟨⟨TX1, 7, rfl⟩, kmX6_59, wIX1_allLines, wVX1_allLines, wNX1, wCX1_allLines, nmhX1.1, nmhX1.2, by decide⟩
theorem kmX6_65 : Cond.methodLink RX6 65 yX1_mostMilesOf ∈ kw_ws := kz_3 (List.mem_of_getElem? (i := 140) (by first | exact rfl | decide +kernel)) rfl
theorem lvX6_65 : kw_lkV RX6 65 1 mX1_mostMilesOf := ⟨⟨TX1, 7, rfl⟩, kmX6_65, wIX1_mostMilesOf, wVX1_mostMilesOf, wNX1, wCX1_mostMilesOf, nmhX1.1, nmhX1.2, by decide⟩
theorem kmX1_56 : Cond.methodLink RX1 56 yJ9_max_7cf53 ∈ kw_ws := kz_3 (List.mem_of_getElem? (i := 144) (by first | exact rfl | decide +kernel)) rfl
theorem lsX1_56 : kw_lkS RX1 56 mJ9_max_7cf53 := ⟨kmX1_56, wTJ9_max_7cf53, wNJ9, wCJ9_max_7cf53, nmhJ9.1, nmhJ9.2, by decide⟩
theorem kmX6_74 : Cond.methodLink RX6 74 yX6_sailFrom ∈ kw_ws := kz_3 (List.mem_of_getElem? (i := 145) (by first | exact rfl | decide +kernel)) rfl
theorem lvX6_74 : kw_lkV RX6 74 6 mX6_sailFrom := ⟨⟨TX6, 8, rfl⟩, kmX6_74, wIX6_sailFrom, wVX6_sailFrom, wNX6, wCX6_sailFrom, nmhX6.1, nmhX6.2, by decide⟩
theorem kmX6_81 : Cond.methodLink RX6 81 arraycopyName ∈ kw_ws := kz_3 (List.mem_of_getElem? (i := 149) (by first | exact rfl | decide +kernel)) rfl
theorem laX6_81 : kw_lkA RX6 81 := ⟨kmX6_81, wA_native, wA_static, wNJ10⟩
theorem kmX6_90 : Cond.methodLink RX6 90 yX0_milesOf ∈ kw_ws := kz_3 (List.mem_of_getElem? (i := 150) (by first | exact rfl | decide +kernel)) rfl
theorem lvX6_90 : kw_lkV RX6 90 0 mX0_milesOf := ⟨⟨TX0, 4, rfl⟩, kmX6_90, wIX0_milesOf, wVX0_milesOf, wNX0, wCX0_milesOf, nmhX0.1, nmhX0.2, by decide⟩
theorem kmX6_93 : Cond.methodLink RX6 93 yX0_turnBy ∈ kw_ws := kz_3 (List.mem_of_getElem? (i := 151) (by first | exact rfl | decide +kernel)) rfl
theorem lvX6_93 : kw_lkV RX6 93 0 mX0_turnBy := ⟨⟨TX0, 4, rfl⟩, kmX6_93, wIX0_turnBy, wVX0_turnBy, wNX0, wCX0_turnBy, nmhX0.1, nmhX0.2, by decide⟩
theorem kmL_122 : Cond.methodLink RL 122 yX7_soon ∈ kw_ws := kz_3 (List.mem_of_getElem? (i := 152) (by first | exact rfl | decide +kernel)) rfl
theorem lvL_122 : kw_lkV RL 122 7 mX7_soon := ⟨⟨TX7, 11, rfl⟩, kmL_122, wIX7_soon, wVX7_soon, wNX7, wCX7_soon, nmhX7.1, nmhX7.2, by decide⟩
theorem kmX7_276 : Cond.methodLink RX7 276 yX1_mostMilesOf ∈ kw_ws := kz_3 (List.mem_of_getElem? (i := 156) (by first | exact rfl | decide +kernel)) rfl
theorem lvX7_276 : kw_lkV RX7 276 1 mX1_mostMilesOf := ⟨⟨TX1, 7, rfl⟩, kmX7_276, wIX1_mostMilesOf, wVX1_mostMilesOf, wNX1, wCX1_mostMilesOf, nmhX1.1, nmhX1.2, by decide⟩
theorem kmL_126 : Cond.methodLink RL 126 yX7_least ∈ kw_ws := kz_3 (List.mem_of_getElem? (i := 157) (by first | exact rfl | decide +kernel)) rfl
theorem lvL_126 : kw_lkV RL 126 7 mX7_least := ⟨⟨TX7, 11, rfl⟩, kmL_126, wIX7_least, wVX7_least, wNX7, wCX7_least, nmhX7.1, nmhX7.2, by decide⟩
theorem kmX7_279 : Cond.methodLink RX7 279 yX7_mostMilesBehind ∈ kw_ws := kz_3 (List.mem_of_getElem? (i := 161) (by first | exact rfl | decide +kernel)) rfl
theorem lvX7_279 : kw_lkV RX7 279 7 mX7_mostMilesBehind := ⟨⟨TX7, 11, rfl⟩, kmX7_279, wIX7_mostMilesBehind, wVX7_mostMilesBehind, wNX7, wCX7_mostMilesBehind, nmhX7.1, nmhX7.2, by decide⟩
theorem kmL_130 : Cond.methodLink RL 130 yX7_ways ∈ kw_ws := kz_3 (List.mem_of_getElem? (i := 165) (by first | exact rfl | decide +kernel)) rfl
theorem lvL_130 : kw_lkV RL 130 7 mX7_ways := ⟨⟨TX7, 11, rfl⟩, kmL_130, wIX7_ways, wVX7_ways, wNX7, wCX7_ways, nmhX7.1, nmhX7.2, by decide⟩
theorem kmL_134 : Cond.methodLink RL 134 yX7_kinds ∈ kw_ws := kz_3 (List.mem_of_getElem? (i := 169) (by first | exact rfl | decide +kernel)) rfl
theorem lvL_134 : kw_lkV RL 134 7 mX7_kinds := ⟨⟨TX7, 11, rfl⟩, kmL_134, wIX7_kinds, wVX7_kinds, wNX7, wCX7_kinds, nmhX7.1, nmhX7.2, by decide⟩
theorem kmX7_282 : Cond.methodLink RX7 282 yX7_pairsRefusal ∈ kw_ws := kz_3 (List.mem_of_getElem? (i := 173) (by first | exact rfl | decide +kernel)) rfl
theorem lvX7_282 : kw_lkV RX7 282 7 mX7_pairsRefusal := ⟨⟨TX7, 11, rfl⟩, kmX7_282, wIX7_pairsRefusal, wVX7_pairsRefusal, wNX7, wCX7_pairsRefusal, nmhX7.1, nmhX7.2, by decide⟩
theorem kmX7_285 : Cond.methodLink RX7 285 yX7_pulledSo ∈ kw_ws := kz_3 (List.mem_of_getElem? (i := 177) (by first | exact rfl | decide +kernel)) rfl
theorem lvX7_285 : kw_lkV RX7 285 7 mX7_pulledSo := ⟨⟨TX7, 11, rfl⟩, kmX7_285, wIX7_pulledSo, wVX7_pulledSo, wNX7, wCX7_pulledSo, nmhX7.1, nmhX7.2, by decide⟩
theorem kmL_138 : Cond.methodLink RL 138 yX7_areas ∈ kw_ws := kz_3 (List.mem_of_getElem? (i := 181) (by first | exact rfl | decide +kernel)) rfl
theorem lvL_138 : kw_lkV RL 138 7 mX7_areas := ⟨⟨TX7, 11, rfl⟩, kmL_138, wIX7_areas, wVX7_areas, wNX7, wCX7_areas, nmhX7.1, nmhX7.2, by decide⟩
theorem kmL_142 : Cond.methodLink RL 142 yX7_rival ∈ kw_ws := kz_3 (List.mem_of_getElem? (i := 185) (by first | exact rfl | decide +kernel)) rfl
theorem lvL_142 : kw_lkV RL 142 7 mX7_rival := ⟨⟨TX7, 11, rfl⟩, kmL_142, wIX7_rival, wVX7_rival, wNX7, wCX7_rival, nmhX7.1, nmhX7.2, by decide⟩
theorem kmX7_288 : Cond.methodLink RX7 288 yX7_play ∈ kw_ws := kz_3 (List.mem_of_getElem? (i := 189) (by first | exact rfl | decide +kernel)) rfl
theorem lsX7_288 : kw_lkS RX7 288 mX7_play := ⟨kmX7_288, wTX7_play, wNX7, wCX7_play, nmhX7.1, nmhX7.2, by decide⟩
theorem kmL_146 : Cond.methodLink RL 146 yX7_mid ∈ kw_ws := kz_3 (List.mem_of_getElem? (i := 192) (by first | exact rfl | decide +kernel)) rfl
theorem lvL_146 : kw_lkV RL 146 7 mX7_mid := ⟨⟨TX7, 11, rfl⟩, kmL_146, wIX7_mid, wVX7_mid, wNX7, wCX7_mid, nmhX7.1, nmhX7.2, by decide⟩
theorem kmX7_292 : Cond.methodLink RX7 292 yX7_foresee ∈ kw_ws := kz_3 (List.mem_of_getElem? (i := 196) (by first | exact rfl | decide +kernel)) rfl
theorem lvX7_292 : kw_lkV RX7 292 7 mX7_foresee := ⟨⟨TX7, 11, rfl⟩, kmX7_292, wIX7_foresee, wVX7_foresee, wNX7, wCX7_foresee, nmhX7.1, nmhX7.2, by decide⟩
theorem kmX7_297 : Cond.methodLink RX7 297 yX4_tellShare ∈ kw_ws := kz_3 (List.mem_of_getElem? (i := 201) (by first | exact rfl | decide +kernel)) rfl
theorem lvX7_297 : kw_lkV RX7 297 4 mX4_tellShare := ⟨⟨TX4, 5, rfl⟩, kmX7_297, wIX4_tellShare, wVX4_tellShare, wNX4, wCX4_tellShare, nmhX4.1, nmhX4.2, by decide⟩
theorem kmX4_29 : Cond.methodLink RX4 29 yJ9_abs_067f4 ∈ kw_ws := kz_3 (List.mem_of_getElem? (i := 205) (by first | exact rfl | decide +kernel)) rfl
theorem lsX4_29 : kw_lkS RX4 29 mJ9_abs_067f4 := ⟨kmX4_29, wTJ9_abs_067f4, wNJ9, wCJ9_abs_067f4, nmhJ9.1, nmhJ9.2, by decide⟩
theorem kmX4_35 : Cond.methodLink RX4 35 yX4_commonDivisor ∈ kw_ws := kz_3 (List.mem_of_getElem? (i := 208) (by first | exact rfl | decide +kernel)) rfl
theorem lsX4_35 : kw_lkS RX4 35 mX4_commonDivisor := ⟨kmX4_35, wTX4_commonDivisor, wNX4, wCX4_commonDivisor, nmhX4.1, nmhX4.2, by decide⟩
theorem kmL_150 : Cond.methodLink RL 150 yX7_odds ∈ kw_ws := kz_3 (List.mem_of_getElem? (i := 211) (by first | exact rfl | decide +kernel)) rfl
theorem lvL_150 : kw_lkV RL 150 7 mX7_odds := ⟨⟨TX7, 11, rfl⟩, kmL_150, wIX7_odds, wVX7_odds, wNX7, wCX7_odds, nmhX7.1, nmhX7.2, by decide⟩
theorem kmX7_301 : Cond.methodLink RX7 301 yX7_milesByGusts ∈ kw_ws := kz_3 (List.mem_of_getElem? (i := 215) (by first | exact rfl | decide +kernel)) rfl
theorem lvX7_301 : kw_lkV RX7 301 7 mX7_milesByGusts := ⟨⟨TX7, 11, rfl⟩, kmX7_301, wIX7_milesByGusts, wVX7_milesByGusts, wNX7, wCX7_milesByGusts, nmhX7.1, nmhX7.2, by decide⟩
theorem kmX7_304 : Cond.methodLink RX7 304 yX7_weightOfGusts ∈ kw_ws := kz_3 (List.mem_of_getElem? (i := 219) (by first | exact rfl | decide +kernel)) rfl
theorem lsX7_304 : kw_lkS RX7 304 mX7_weightOfGusts := ⟨kmX7_304, wTX7_weightOfGusts, wNX7, wCX7_weightOfGusts, nmhX7.1, nmhX7.2, by decide⟩
theorem kmL_154 : Cond.methodLink RL 154 yX7_lots ∈ kw_ws := kz_3 (List.mem_of_getElem? (i := 222) (by first | exact rfl | decide +kernel)) rfl
theorem lvL_154 : kw_lkV RL 154 7 mX7_lots := ⟨⟨TX7, 11, rfl⟩, kmL_154, wIX7_lots, wVX7_lots, wNX7, wCX7_lots, nmhX7.1, nmhX7.2, by decide⟩
theorem kmL_158 : Cond.methodLink RL 158 yX7_asked ∈ kw_ws := kz_3 (List.mem_of_getElem? (i := 228) (by first | exact rfl | decide +kernel)) rfl
theorem lvL_158 : kw_lkV RL 158 7 mX7_asked := ⟨⟨TX7, 11, rfl⟩, kmL_158, wIX7_asked, wVX7_asked, wNX7, wCX7_asked, nmhX7.1, nmhX7.2, by decide⟩
theorem kmL_162 : Cond.methodLink RL 162 yX7_upper ∈ kw_ws := kz_3 (List.mem_of_getElem? (i := 232) (by first | exact rfl | decide +kernel)) rfl
theorem lvL_162 : kw_lkV RL 162 7 mX7_upper := ⟨⟨TX7, 11, rfl⟩, kmL_162, wIX7_upper, wVX7_upper, wNX7, wCX7_upper, nmhX7.1, nmhX7.2, by decide⟩
theorem kmL_167 : Cond.methodLink RL 167 yX7_lower ∈ kw_ws := kz_3 (List.mem_of_getElem? (i := 236) (by first | exact rfl | decide +kernel)) rfl
theorem lvL_167 : kw_lkV RL 167 7 mX7_lower := ⟨⟨TX7, 11, rfl⟩, kmL_167, wIX7_lower, wVX7_lower, wNX7, wCX7_lower, nmhX7.1, nmhX7.2, by decide⟩
theorem kmL_171 : Cond.methodLink RL 171 yX7_count ∈ kw_ws := kz_4 (List.mem_of_getElem? (i := 0) (by first | exact rfl | decide +kernel)) rfl
theorem lvL_171 : kw_lkV RL 171 7 mX7_count := ⟨⟨TX7, 11, rfl⟩, kmL_171, wIX7_count, wVX7_count, wNX7, wCX7_count, nmhX7.1, nmhX7.2, by decide⟩
theorem kmX7_325 : Cond.methodLink RX7 325 yX1_howManyAre ∈ kw_ws := kz_4 (List.mem_of_getElem? (i := 4) (by first | exact rfl | decide +kernel)) rfl
theorem lvX7_325 : kw_lkV RX7 325 1 mX1_howManyAre := ⟨⟨TX1, 7, rfl⟩, kmX7_325, wIX1_howManyAre, wVX1_howManyAre, wNX1, wCX1_howManyAre, nmhX1.1, nmhX1.2, by decide⟩
theorem kmX7_328 : Cond.methodLink RX7 328 yX3_howMany ∈ kw_ws := kz_4 (List.mem_of_getElem? (i := 9) (by first | exact rfl | decide +kernel)) rfl
theorem lvX7_328 : kw_lkV RX7 328 3 mX3_howMany := ⟨⟨TX3, 3, rfl⟩, kmX7_328, wIX3_howMany, wVX3_howMany, wNX3, wCX3_howMany, nmhX3.1, nmhX3.2, by decide⟩
theorem kmL_175 : Cond.methodLink RL 175 yX7_miles ∈ kw_ws := kz_4 (List.mem_of_getElem? (i := 13) (by first | exact rfl | decide +kernel)) rfl
theorem lvL_175 : kw_lkV RL 175 7 mX7_miles := ⟨⟨TX7, 11, rfl⟩, kmL_175, wIX7_miles, wVX7_miles, wNX7, wCX7_miles, nmhX7.1, nmhX7.2, by decide⟩
theorem kmL_179 : Cond.methodLink RL 179 yX7_finding ∈ kw_ws := kz_4 (List.mem_of_getElem? (i := 17) (by first | exact rfl | decide +kernel)) rfl
theorem lvL_179 : kw_lkV RL 179 7 mX7_finding := ⟨⟨TX7, 11, rfl⟩, kmL_179, wIX7_finding, wVX7_finding, wNX7, wCX7_finding, nmhX7.1, nmhX7.2, by decide⟩
theorem kmL_183 : Cond.methodLink RL 183 yX7_findings ∈ kw_ws := kz_4 (List.mem_of_getElem? (i := 21) (by first | exact rfl | decide +kernel)) rfl
theorem lvL_183 : kw_lkV RL 183 7 mX7_findings := ⟨⟨TX7, 11, rfl⟩, kmL_183, wIX7_findings, wVX7_findings, wNX7, wCX7_findings, nmhX7.1, nmhX7.2, by decide⟩
theorem kmL_187 : Cond.methodLink RL 187 yX7_digest ∈ kw_ws := kz_4 (List.mem_of_getElem? (i := 25) (by first | exact rfl | decide +kernel)) rfl
theorem lvL_187 : kw_lkV RL 187 7 mX7_digest := ⟨⟨TX7, 11, rfl⟩, kmL_187, wIX7_digest, wVX7_digest, wNX7, wCX7_digest, nmhX7.1, nmhX7.2, by decide⟩
theorem kmX7_341 : Cond.methodLink RX7 341 yX7_count ∈ kw_ws := kz_4 (List.mem_of_getElem? (i := 31) (by first | exact rfl | decide +kernel)) rfl
theorem lvX7_341 : kw_lkV RX7 341 7 mX7_count := ⟨⟨TX7, 11, rfl⟩, kmX7_341, wIX7_count, wVX7_count, wNX7, wCX7_count, nmhX7.1, nmhX7.2, by decide⟩
theorem kmX7_344 : Cond.methodLink RX7 344 yX3_fold ∈ kw_ws := kz_4 (List.mem_of_getElem? (i := 32) (by first | exact rfl | decide +kernel)) rfl
theorem lvX7_344 : kw_lkV RX7 344 3 mX3_fold := ⟨⟨TX3, 3, rfl⟩, kmX7_344, wIX3_fold, wVX3_fold, wNX3, wCX3_fold, nmhX3.1, nmhX3.2, by decide⟩
theorem kmL_17 : Cond.methodLink RL 17 yX8_row ∈ kw_ws := kz_4 (List.mem_of_getElem? (i := 155) (by first | exact rfl | decide +kernel)) rfl
theorem lvL_17 : kw_lkV RL 17 8 mX8_row := ⟨⟨TX8, 37, rfl⟩, kmL_17, wIX8_row, wVX8_row, wNX8, wCX8_row, nmhX8.1, nmhX8.2, by decide⟩
theorem kmX8_97 : Cond.methodLink RX8 97 yX8_isRow ∈ kw_ws := kz_4 (List.mem_of_getElem? (i := 159) (by first | exact rfl | decide +kernel)) rfl
theorem lsX8_97 : kw_lkS RX8 97 mX8_isRow := ⟨kmX8_97, wTX8_isRow, wNX8, wCX8_isRow, nmhX8.1, nmhX8.2, by decide⟩
theorem kmX8_93 : Cond.methodLink RX8 93 yX8_in ∈ kw_ws := kz_4 (List.mem_of_getElem? (i := 162) (by first | exact rfl | decide +kernel)) rfl
theorem lsX8_93 : kw_lkS RX8 93 mX8_in := ⟨kmX8_93, wTX8_in, wNX8, wCX8_in, nmhX8.1, nmhX8.2, by decide⟩
theorem kmX8_101 : Cond.methodLink RX8 101 yX8_meet ∈ kw_ws := kz_4 (List.mem_of_getElem? (i := 165) (by first | exact rfl | decide +kernel)) rfl
theorem lvX8_101 : kw_lkV RX8 101 8 mX8_meet := ⟨⟨TX8, 37, rfl⟩, kmX8_101, wIX8_meet, wVX8_meet, wNX8, wCX8_meet, nmhX8.1, nmhX8.2, by decide⟩
theorem kmX8_108 : Cond.methodLink RX8 108 yX8_setRow ∈ kw_ws := kz_4 (List.mem_of_getElem? (i := 169) (by first | exact rfl | decide +kernel)) rfl
theorem lvX8_108 : kw_lkV RX8 108 8 mX8_setRow := ⟨⟨TX8, 37, rfl⟩, kmX8_108, wIX8_setRow, wVX8_setRow, wNX8, wCX8_setRow, nmhX8.1, nmhX8.2, by decide⟩
theorem kmL_26 : Cond.methodLink RL 26 yX8_at ∈ kw_ws := kz_4 (List.mem_of_getElem? (i := 173) (by first | exact rfl | decide +kernel)) rfl
theorem lvL_26 : kw_lkV RL 26 8 mX8_at := ⟨⟨TX8, 37, rfl⟩, kmL_26, wIX8_at, wVX8_at, wNX8, wCX8_at, nmhX8.1, nmhX8.2, by decide⟩
theorem kmX8_112 : Cond.methodLink RX8 112 yX8_askedRow ∈ kw_ws := kz_4 (List.mem_of_getElem? (i := 177) (by first | exact rfl | decide +kernel)) rfl
theorem lvX8_112 : kw_lkV RX8 112 8 mX8_askedRow := ⟨⟨TX8, 37, rfl⟩, kmX8_112, wIX8_askedRow, wVX8_askedRow, wNX8, wCX8_askedRow, nmhX8.1, nmhX8.2, by decide⟩
theorem kmX8_115 : Cond.methodLink RX8 115 yX8_rowAt ∈ kw_ws := kz_4 (List.mem_of_getElem? (i := 181) (by first | exact rfl | decide +kernel)) rfl
theorem lvX8_115 : kw_lkV RX8 115 8 mX8_rowAt := ⟨⟨TX8, 37, rfl⟩, kmX8_115, wIX8_rowAt, wVX8_rowAt, wNX8, wCX8_rowAt, nmhX8.1, nmhX8.2, by decide⟩
theorem kmX8_119 : Cond.methodLink RX8 119 yX8_ask ∈ kw_ws := kz_4 (List.mem_of_getElem? (i := 185) (by first | exact rfl | decide +kernel)) rfl
theorem lvX8_119 : kw_lkV RX8 119 8 mX8_ask := ⟨⟨TX8, 37, rfl⟩, kmX8_119, wIX8_ask, wVX8_ask, wNX8, wCX8_ask, nmhX8.1, nmhX8.2, by decide⟩
theorem kmL_22 : Cond.methodLink RL 22 yX8_lay ∈ kw_ws := kz_4 (List.mem_of_getElem? (i := 189) (by first | exact rfl | decide +kernel)) rfl
theorem lvL_22 : kw_lkV RL 22 8 mX8_lay := ⟨⟨TX8, 37, rfl⟩, kmL_22, wIX8_lay, wVX8_lay, wNX8, wCX8_lay, nmhX8.1, nmhX8.2, by decide⟩
theorem kmX8_122 : Cond.methodLink RX8 122 yX8_at ∈ kw_ws := kz_4 (List.mem_of_getElem? (i := 193) (by first | exact rfl | decide +kernel)) rfl
theorem lvX8_122 : kw_lkV RX8 122 8 mX8_at := ⟨⟨TX8, 37, rfl⟩, kmX8_122, wIX8_at, wVX8_at, wNX8, wCX8_at, nmhX8.1, nmhX8.2, by decide⟩
theorem kmL_31 : Cond.methodLink RL 31 yX8_tear ∈ kw_ws := kz_4 (List.mem_of_getElem? (i := 194) (by first | exact rfl | decide +kernel)) rfl
theorem lvL_31 : kw_lkV RL 31 8 mX8_tear := ⟨⟨TX8, 37, rfl⟩, kmL_31, wIX8_tear, wVX8_tear, wNX8, wCX8_tear, nmhX8.1, nmhX8.2, by decide⟩
theorem kmL_36 : Cond.methodLink RL 36 yX8_copy ∈ kw_ws := kz_4 (List.mem_of_getElem? (i := 198) (by first | exact rfl | decide +kernel)) rfl
theorem lvL_36 : kw_lkV RL 36 8 mX8_copy := ⟨⟨TX8, 37, rfl⟩, kmL_36, wIX8_copy, wVX8_copy, wNX8, wCX8_copy, nmhX8.1, nmhX8.2, by decide⟩
theorem kmL_40 : Cond.methodLink RL 40 yX8_mean ∈ kw_ws := kz_4 (List.mem_of_getElem? (i := 202) (by first | exact rfl | decide +kernel)) rfl
theorem lvL_40 : kw_lkV RL 40 8 mX8_mean := ⟨⟨TX8, 37, rfl⟩, kmL_40, wIX8_mean, wVX8_mean, wNX8, wCX8_mean, nmhX8.1, nmhX8.2, by decide⟩
theorem kmL_44 : Cond.methodLink RL 44 yX8_text ∈ kw_ws := kz_4 (List.mem_of_getElem? (i := 206) (by first | exact rfl | decide +kernel)) rfl
theorem lvL_44 : kw_lkV RL 44 8 mX8_text := ⟨⟨TX8, 37, rfl⟩, kmL_44, wIX8_text, wVX8_text, wNX8, wCX8_text, nmhX8.1, nmhX8.2, by decide⟩
theorem kmX8_105 : Cond.methodLink RX8 105 yX8_isText ∈ kw_ws := kz_4 (List.mem_of_getElem? (i := 210) (by first | exact rfl | decide +kernel)) rfl
theorem lsX8_105 : kw_lkS RX8 105 mX8_isText := ⟨kmX8_105, wTX8_isText, wNX8, wCX8_isText, nmhX8.1, nmhX8.2, by decide⟩
theorem kmL_48 : Cond.methodLink RL 48 yX8_put ∈ kw_ws := kz_4 (List.mem_of_getElem? (i := 213) (by first | exact rfl | decide +kernel)) rfl
theorem lvL_48 : kw_lkV RL 48 8 mX8_put := ⟨⟨TX8, 37, rfl⟩, kmL_48, wIX8_put, wVX8_put, wNX8, wCX8_put, nmhX8.1, nmhX8.2, by decide⟩
theorem kmX8_125 : Cond.methodLink RX8 125 yX8_askedText ∈ kw_ws := kz_4 (List.mem_of_getElem? (i := 217) (by first | exact rfl | decide +kernel)) rfl
theorem lvX8_125 : kw_lkV RX8 125 8 mX8_askedText := ⟨⟨TX8, 37, rfl⟩, kmX8_125, wIX8_askedText, wVX8_askedText, wNX8, wCX8_askedText, nmhX8.1, nmhX8.2, by decide⟩
theorem kmL_52 : Cond.methodLink RL 52 yX8_fault ∈ kw_ws := kz_4 (List.mem_of_getElem? (i := 221) (by first | exact rfl | decide +kernel)) rfl
theorem lvL_52 : kw_lkV RL 52 8 mX8_fault := ⟨⟨TX8, 37, rfl⟩, kmL_52, wIX8_fault, wVX8_fault, wNX8, wCX8_fault, nmhX8.1, nmhX8.2, by decide⟩
theorem kmX8_160 : Cond.methodLink RX8 160 yX8_goesOn ∈ kw_ws := kz_4 (List.mem_of_getElem? (i := 225) (by first | exact rfl | decide +kernel)) rfl
theorem lvX8_160 : kw_lkV RX8 160 8 mX8_goesOn := ⟨⟨TX8, 37, rfl⟩, kmX8_160, wIX8_goesOn, wVX8_goesOn, wNX8, wCX8_goesOn, nmhX8.1, nmhX8.2, by decide⟩
theorem kmX8_157 : Cond.methodLink RX8 157 yX8_readsTown ∈ kw_ws := kz_4 (List.mem_of_getElem? (i := 229) (by first | exact rfl | decide +kernel)) rfl
theorem lvX8_157 : kw_lkV RX8 157 8 mX8_readsTown := ⟨⟨TX8, 37, rfl⟩, kmX8_157, wIX8_readsTown, wVX8_readsTown, wNX8, wCX8_readsTown, nmhX8.1, nmhX8.2, by decide⟩
theorem kmX8_151 : Cond.methodLink RX8 151 yX8_readsWinds ∈ kw_ws := kz_4 (List.mem_of_getElem? (i := 233) (by first | exact rfl | decide +kernel)) rfl
theorem lvX8_151 : kw_lkV RX8 151 8 mX8_readsWinds := ⟨⟨TX8, 37, rfl⟩, kmX8_151, wIX8_readsWinds, wVX8_readsWinds, wNX8, wCX8_readsWinds, nmhX8.1, nmhX8.2, by decide⟩
theorem kmX8_134 : Cond.methodLink RX8 134 yX8_skip ∈ kw_ws := kz_4 (List.mem_of_getElem? (i := 237) (by first | exact rfl | decide +kernel)) rfl
theorem lvX8_134 : kw_lkV RX8 134 8 mX8_skip := ⟨⟨TX8, 37, rfl⟩, kmX8_134, wIX8_skip, wVX8_skip, wNX8, wCX8_skip, nmhX8.1, nmhX8.2, by decide⟩
theorem kmX8_131 : Cond.methodLink RX8 131 yX8_here ∈ kw_ws := kz_5 (List.mem_of_getElem? (i := 1) (by first | exact rfl | decide +kernel)) rfl
theorem lvX8_131 : kw_lkV RX8 131 8 mX8_here := ⟨⟨TX8, 37, rfl⟩, kmX8_131, wIX8_here, wVX8_here, wNX8, wCX8_here, nmhX8.1, nmhX8.2, by decide⟩
theorem kmX8_154 : Cond.methodLink RX8 154 yX8_readsLine ∈ kw_ws := kz_5 (List.mem_of_getElem? (i := 5) (by first | exact rfl | decide +kernel)) rfl
theorem lvX8_154 : kw_lkV RX8 154 8 mX8_readsLine := ⟨⟨TX8, 37, rfl⟩, kmX8_154, wIX8_readsLine, wVX8_readsLine, wNX8, wCX8_readsLine, nmhX8.1, nmhX8.2, by decide⟩
theorem kmX8_141 : Cond.methodLink RX8 141 yX8_kindBy ∈ kw_ws := kz_5 (List.mem_of_getElem? (i := 9) (by first | exact rfl | decide +kernel)) rfl
theorem lsX8_141 : kw_lkS RX8 141 mX8_kindBy := ⟨kmX8_141, wTX8_kindBy, wNX8, wCX8_kindBy, nmhX8.1, nmhX8.2, by decide⟩
theorem kmX8_147 : Cond.methodLink RX8 147 yX8_figure ∈ kw_ws := kz_5 (List.mem_of_getElem? (i := 12) (by first | exact rfl | decide +kernel)) rfl
theorem lvX8_147 : kw_lkV RX8 147 8 mX8_figure := ⟨⟨TX8, 37, rfl⟩, kmX8_147, wIX8_figure, wVX8_figure, wNX8, wCX8_figure, nmhX8.1, nmhX8.2, by decide⟩
theorem kmL_56 : Cond.methodLink RL 56 yX8_town ∈ kw_ws := kz_5 (List.mem_of_getElem? (i := 16) (by first | exact rfl | decide +kernel)) rfl
theorem lvL_56 : kw_lkV RL 56 8 mX8_town := ⟨⟨TX8, 37, rfl⟩, kmL_56, wIX8_town, wVX8_town, wNX8, wCX8_town, nmhX8.1, nmhX8.2, by decide⟩
theorem kmL_72 : Cond.methodLink RL 72 yX8_hang ∈ kw_ws := kz_5 (List.mem_of_getElem? (i := 20) (by first | exact rfl | decide +kernel)) rfl
theorem lvL_72 : kw_lkV RL 72 8 mX8_hang := ⟨⟨TX8, 37, rfl⟩, kmL_72, wIX8_hang, wVX8_hang, wNX8, wCX8_hang, nmhX8.1, nmhX8.2, by decide⟩
theorem kmX8_211 : Cond.methodLink RX8 211 yX8_isLine ∈ kw_ws := kz_5 (List.mem_of_getElem? (i := 24) (by first | exact rfl | decide +kernel)) rfl
theorem lvX8_211 : kw_lkV RX8 211 8 mX8_isLine := ⟨⟨TX8, 37, rfl⟩, kmX8_211, wIX8_isLine, wVX8_isLine, wNX8, wCX8_isLine, nmhX8.1, nmhX8.2, by decide⟩
theorem kmX8_185 : Cond.methodLink RX8 185 yX8_has ∈ kw_ws := kz_5 (List.mem_of_getElem? (i := 28) (by first | exact rfl | decide +kernel)) rfl
theorem lsX8_185 : kw_lkS RX8 185 mX8_has := ⟨kmX8_185, wTX8_has, wNX8, wCX8_has, nmhX8.1, nmhX8.2, by decide⟩
theorem kmX8_214 : Cond.methodLink RX8 214 yX8_turnLine ∈ kw_ws := kz_5 (List.mem_of_getElem? (i := 31) (by first | exact rfl | decide +kernel)) rfl
theorem lvX8_214 : kw_lkV RX8 214 8 mX8_turnLine := ⟨⟨TX8, 37, rfl⟩, kmX8_214, wIX8_turnLine, wVX8_turnLine, wNX8, wCX8_turnLine, nmhX8.1, nmhX8.2, by decide⟩
theorem kmX8_208 : Cond.methodLink RX8 208 yX8_note ∈ kw_ws := kz_5 (List.mem_of_getElem? (i := 35) (by first | exact rfl | decide +kernel)) rfl
theorem lvX8_208 : kw_lkV RX8 208 8 mX8_note := ⟨⟨TX8, 37, rfl⟩, kmX8_208, wIX8_note, wVX8_note, wNX8, wCX8_note, nmhX8.1, nmhX8.2, by decide⟩
theorem kmX8_192 : Cond.methodLink RX8 192 yX8_write ∈ kw_ws := kz_5 (List.mem_of_getElem? (i := 39) (by first | exact rfl | decide +kernel)) rfl
theorem lvX8_192 : kw_lkV RX8 192 8 mX8_write := ⟨⟨TX8, 37, rfl⟩, kmX8_192, wIX8_write, wVX8_write, wNX8, wCX8_write, nmhX8.1, nmhX8.2, by decide⟩
theorem kmX8_217 : Cond.methodLink RX8 217 yX8_bits ∈ kw_ws := kz_5 (List.mem_of_getElem? (i := 43) (by first | exact rfl | decide +kernel)) rfl
theorem lsX8_217 : kw_lkS RX8 217 mX8_bits := ⟨kmX8_217, wTX8_bits, wNX8, wCX8_bits, nmhX8.1, nmhX8.2, by decide⟩
theorem kmL_76 : Cond.methodLink RL 76 yX8_take ∈ kw_ws := kz_5 (List.mem_of_getElem? (i := 46) (by first | exact rfl | decide +kernel)) rfl
theorem lvL_76 : kw_lkV RL 76 8 mX8_take := ⟨⟨TX8, 37, rfl⟩, kmL_76, wIX8_take, wVX8_take, wNX8, wCX8_take, nmhX8.1, nmhX8.2, by decide⟩
theorem kmL_81 : Cond.methodLink RL 81 yX8_hour ∈ kw_ws := kz_5 (List.mem_of_getElem? (i := 50) (by first | exact rfl | decide +kernel)) rfl
theorem lvL_81 : kw_lkV RL 81 8 mX8_hour := ⟨⟨TX8, 37, rfl⟩, kmL_81, wIX8_hour, wVX8_hour, wNX8, wCX8_hour, nmhX8.1, nmhX8.2, by decide⟩
theorem kmX8_220 : Cond.methodLink RX8 220 yX8_pass ∈ kw_ws := kz_5 (List.mem_of_getElem? (i := 54) (by first | exact rfl | decide +kernel)) rfl
theorem lvX8_220 : kw_lkV RX8 220 8 mX8_pass := ⟨⟨TX8, 37, rfl⟩, kmX8_220, wIX8_pass, wVX8_pass, wNX8, wCX8_pass, nmhX8.1, nmhX8.2, by decide⟩
theorem kmX8_196 : Cond.methodLink RX8 196 yX8_windAt ∈ kw_ws := kz_5 (List.mem_of_getElem? (i := 58) (by first | exact rfl | decide +kernel)) rfl
theorem lvX8_196 : kw_lkV RX8 196 8 mX8_windAt := ⟨⟨TX8, 37, rfl⟩, kmX8_196, wIX8_windAt, wVX8_windAt, wNX8, wCX8_windAt, nmhX8.1, nmhX8.2, by decide⟩
theorem kmX8_199 : Cond.methodLink RX8 199 yX8_milesBy ∈ kw_ws := kz_5 (List.mem_of_getElem? (i := 62) (by first | exact rfl | decide +kernel)) rfl
theorem lvX8_199 : kw_lkV RX8 199 8 mX8_milesBy := ⟨⟨TX8, 37, rfl⟩, kmX8_199, wIX8_milesBy, wVX8_milesBy, wNX8, wCX8_milesBy, nmhX8.1, nmhX8.2, by decide⟩
theorem kmX8_189 : Cond.methodLink RX8 189 yX8_pullOf ∈ kw_ws := kz_5 (List.mem_of_getElem? (i := 66) (by first | exact rfl | decide +kernel)) rfl
theorem lvX8_189 : kw_lkV RX8 189 8 mX8_pullOf := ⟨⟨TX8, 37, rfl⟩, kmX8_189, wIX8_pullOf, wVX8_pullOf, wNX8, wCX8_pullOf, nmhX8.1, nmhX8.2, by decide⟩
theorem kmX8_181 : Cond.methodLink RX8 181 yX8_pullBy ∈ kw_ws := kz_5 (List.mem_of_getElem? (i := 70) (by first | exact rfl | decide +kernel)) rfl
theorem lsX8_181 : kw_lkS RX8 181 mX8_pullBy := ⟨kmX8_181, wTX8_pullBy, wNX8, wCX8_pullBy, nmhX8.1, nmhX8.2, by decide⟩
theorem kmX8_202 : Cond.methodLink RX8 202 yX8_turnBy ∈ kw_ws := kz_5 (List.mem_of_getElem? (i := 73) (by first | exact rfl | decide +kernel)) rfl
theorem lvX8_202 : kw_lkV RX8 202 8 mX8_turnBy := ⟨⟨TX8, 37, rfl⟩, kmX8_202, wIX8_turnBy, wVX8_turnBy, wNX8, wCX8_turnBy, nmhX8.1, nmhX8.2, by decide⟩
theorem kmX8_205 : Cond.methodLink RX8 205 yX8_wetBehind ∈ kw_ws := kz_5 (List.mem_of_getElem? (i := 77) (by first | exact rfl | decide +kernel)) rfl
theorem lvX8_205 : kw_lkV RX8 205 8 mX8_wetBehind := ⟨⟨TX8, 37, rfl⟩, kmX8_205, wIX8_wetBehind, wVX8_wetBehind, wNX8, wCX8_wetBehind, nmhX8.1, nmhX8.2, by decide⟩
theorem kmX8_223 : Cond.methodLink RX8 223 yX8_part ∈ kw_ws := kz_5 (List.mem_of_getElem? (i := 81) (by first | exact rfl | decide +kernel)) rfl
theorem lvX8_223 : kw_lkV RX8 223 8 mX8_part := ⟨⟨TX8, 37, rfl⟩, kmX8_223, wIX8_part, wVX8_part, wNX8, wCX8_part, nmhX8.1, nmhX8.2, by decide⟩
theorem kmL_85 : Cond.methodLink RL 85 yX8_undo ∈ kw_ws := kz_5 (List.mem_of_getElem? (i := 85) (by first | exact rfl | decide +kernel)) rfl
theorem lvL_85 : kw_lkV RL 85 8 mX8_undo := ⟨⟨TX8, 37, rfl⟩, kmL_85, wIX8_undo, wVX8_undo, wNX8, wCX8_undo, nmhX8.1, nmhX8.2, by decide⟩
theorem kmX8_227 : Cond.methodLink RX8 227 yX8_read ∈ kw_ws := kz_5 (List.mem_of_getElem? (i := 89) (by first | exact rfl | decide +kernel)) rfl
theorem lvX8_227 : kw_lkV RX8 227 8 mX8_read := ⟨⟨TX8, 37, rfl⟩, kmX8_227, wIX8_read, wVX8_read, wNX8, wCX8_read, nmhX8.1, nmhX8.2, by decide⟩
theorem kmL_89 : Cond.methodLink RL 89 yX8_keep ∈ kw_ws := kz_5 (List.mem_of_getElem? (i := 93) (by first | exact rfl | decide +kernel)) rfl
theorem lvL_89 : kw_lkV RL 89 8 mX8_keep := ⟨⟨TX8, 37, rfl⟩, kmL_89, wIX8_keep, wVX8_keep, wNX8, wCX8_keep, nmhX8.1, nmhX8.2, by decide⟩
theorem kmL_93 : Cond.methodLink RL 93 yX8_on ∈ kw_ws := kz_5 (List.mem_of_getElem? (i := 97) (by first | exact rfl | decide +kernel)) rfl
theorem lvL_93 : kw_lkV RL 93 8 mX8_on := ⟨⟨TX8, 37, rfl⟩, kmL_93, wIX8_on, wVX8_on, wNX8, wCX8_on, nmhX8.1, nmhX8.2, by decide⟩
theorem kmL_60 : Cond.methodLink RL 60 yX8_line ∈ kw_ws := kz_5 (List.mem_of_getElem? (i := 101) (by first | exact rfl | decide +kernel)) rfl
theorem lvL_60 : kw_lkV RL 60 8 mX8_line := ⟨⟨TX8, 37, rfl⟩, kmL_60, wIX8_line, wVX8_line, wNX8, wCX8_line, nmhX8.1, nmhX8.2, by decide⟩
theorem kmX8_230 : Cond.methodLink RX8 230 yX8_lineOf ∈ kw_ws := kz_5 (List.mem_of_getElem? (i := 105) (by first | exact rfl | decide +kernel)) rfl
theorem lvX8_230 : kw_lkV RX8 230 8 mX8_lineOf := ⟨⟨TX8, 37, rfl⟩, kmX8_230, wIX8_lineOf, wVX8_lineOf, wNX8, wCX8_lineOf, nmhX8.1, nmhX8.2, by decide⟩
theorem kmL_64 : Cond.methodLink RL 64 yX8_mark ∈ kw_ws := kz_5 (List.mem_of_getElem? (i := 109) (by first | exact rfl | decide +kernel)) rfl
theorem lvL_64 : kw_lkV RL 64 8 mX8_mark := ⟨⟨TX8, 37, rfl⟩, kmL_64, wIX8_mark, wVX8_mark, wNX8, wCX8_mark, nmhX8.1, nmhX8.2, by decide⟩
theorem kmX8_233 : Cond.methodLink RX8 233 yX8_isA ∈ kw_ws := kz_5 (List.mem_of_getElem? (i := 113) (by first | exact rfl | decide +kernel)) rfl
theorem lsX8_233 : kw_lkS RX8 233 mX8_isA := ⟨kmX8_233, wTX8_isA, wNX8, wCX8_isA, nmhX8.1, nmhX8.2, by decide⟩
theorem kmX8_236 : Cond.methodLink RX8 236 yX8_hoursTill ∈ kw_ws := kz_5 (List.mem_of_getElem? (i := 116) (by first | exact rfl | decide +kernel)) rfl
theorem lvX8_236 : kw_lkV RX8 236 8 mX8_hoursTill := ⟨⟨TX8, 37, rfl⟩, kmX8_236, wIX8_hoursTill, wVX8_hoursTill, wNX8, wCX8_hoursTill, nmhX8.1, nmhX8.2, by decide⟩
theorem kmX8_240 : Cond.methodLink RX8 240 yX8_lesserOnes ∈ kw_ws := kz_5 (List.mem_of_getElem? (i := 120) (by first | exact rfl | decide +kernel)) rfl
theorem lvX8_240 : kw_lkV RX8 240 8 mX8_lesserOnes := ⟨⟨TX8, 37, rfl⟩, kmX8_240, wIX8_lesserOnes, wVX8_lesserOnes, wNX8, wCX8_lesserOnes, nmhX8.1, nmhX8.2, by decide⟩
theorem kmL_68 : Cond.methodLink RL 68 yX8_wind ∈ kw_ws := kz_5 (List.mem_of_getElem? (i := 124) (by first | exact rfl | decide +kernel)) rfl
theorem lvL_68 : kw_lkV RL 68 8 mX8_wind := ⟨⟨TX8, 37, rfl⟩, kmL_68, wIX8_wind, wVX8_wind, wNX8, wCX8_wind, nmhX8.1, nmhX8.2, by decide⟩
theorem kmL_97 : Cond.methodLink RL 97 yX8_goes ∈ kw_ws := kz_5 (List.mem_of_getElem? (i := 128) (by first | exact rfl | decide +kernel)) rfl
theorem lvL_97 : kw_lkV RL 97 8 mX8_goes := ⟨⟨TX8, 37, rfl⟩, kmL_97, wIX8_goes, wVX8_goes, wNX8, wCX8_goes, nmhX8.1, nmhX8.2, by decide⟩
theorem kmX8_243 : Cond.methodLink RX8 243 yX8_isSet ∈ kw_ws := kz_5 (List.mem_of_getElem? (i := 132) (by first | exact rfl | decide +kernel)) rfl
theorem lvX8_243 : kw_lkV RX8 243 8 mX8_isSet := ⟨⟨TX8, 37, rfl⟩, kmX8_243, wIX8_isSet, wVX8_isSet, wNX8, wCX8_isSet, nmhX8.1, nmhX8.2, by decide⟩
theorem kmL_101 : Cond.methodLink RL 101 yX8_even ∈ kw_ws := kz_5 (List.mem_of_getElem? (i := 136) (by first | exact rfl | decide +kernel)) rfl
theorem lvL_101 : kw_lkV RL 101 8 mX8_even := ⟨⟨TX8, 37, rfl⟩, kmL_101, wIX8_even, wVX8_even, wNX8, wCX8_even, nmhX8.1, nmhX8.2, by decide⟩
theorem kmX8_246 : Cond.methodLink RX8 246 yX8_linenOf ∈ kw_ws := kz_5 (List.mem_of_getElem? (i := 140) (by first | exact rfl | decide +kernel)) rfl
theorem lvX8_246 : kw_lkV RX8 246 8 mX8_linenOf := ⟨⟨TX8, 37, rfl⟩, kmX8_246, wIX8_linenOf, wVX8_linenOf, wNX8, wCX8_linenOf, nmhX8.1, nmhX8.2, by decide⟩
theorem kmL_105 : Cond.methodLink RL 105 yX8_fast ∈ kw_ws := kz_5 (List.mem_of_getElem? (i := 144) (by first | exact rfl | decide +kernel)) rfl
theorem lvL_105 : kw_lkV RL 105 8 mX8_fast := ⟨⟨TX8, 37, rfl⟩, kmL_105, wIX8_fast, wVX8_fast, wNX8, wCX8_fast, nmhX8.1, nmhX8.2, by decide⟩
theorem kmL_109 : Cond.methodLink RL 109 yX8_wet ∈ kw_ws := kz_5 (List.mem_of_getElem? (i := 148) (by first | exact rfl | decide +kernel)) rfl
theorem lvL_109 : kw_lkV RL 109 8 mX8_wet := ⟨⟨TX8, 37, rfl⟩, kmL_109, wIX8_wet, wVX8_wet, wNX8, wCX8_wet, nmhX8.1, nmhX8.2, by decide⟩
theorem kmX8_249 : Cond.methodLink RX8 249 yX8_wetOfAll ∈ kw_ws := kz_5 (List.mem_of_getElem? (i := 152) (by first | exact rfl | decide +kernel)) rfl
theorem lvX8_249 : kw_lkV RX8 249 8 mX8_wetOfAll := ⟨⟨TX8, 37, rfl⟩, kmX8_249, wIX8_wetOfAll, wVX8_wetOfAll, wNX8, wCX8_wetOfAll, nmhX8.1, nmhX8.2, by decide⟩
theorem kmL_113 : Cond.methodLink RL 113 yX8_sail ∈ kw_ws := kz_5 (List.mem_of_getElem? (i := 156) (by first | exact rfl | decide +kernel)) rfl
theorem lvL_113 : kw_lkV RL 113 8 mX8_sail := ⟨⟨TX8, 37, rfl⟩, kmL_113, wIX8_sail, wVX8_sail, wNX8, wCX8_sail, nmhX8.1, nmhX8.2, by decide⟩
theorem kmX8_252 : Cond.methodLink RX8 252 yX8_askedPlan ∈ kw_ws := kz_5 (List.mem_of_getElem? (i := 160) (by first | exact rfl | decide +kernel)) rfl
theorem lvX8_252 : kw_lkV RX8 252 8 mX8_askedPlan := ⟨⟨TX8, 37, rfl⟩, kmX8_252, wIX8_askedPlan, wVX8_askedPlan, wNX8, wCX8_askedPlan, nmhX8.1, nmhX8.2, by decide⟩
theorem kmL_117 : Cond.methodLink RL 117 yX8_dry ∈ kw_ws := kz_5 (List.mem_of_getElem? (i := 164) (by first | exact rfl | decide +kernel)) rfl
theorem lvL_117 : kw_lkV RL 117 8 mX8_dry := ⟨⟨TX8, 37, rfl⟩, kmL_117, wIX8_dry, wVX8_dry, wNX8, wCX8_dry, nmhX8.1, nmhX8.2, by decide⟩
theorem kmL_121 : Cond.methodLink RL 121 yX8_far ∈ kw_ws := kz_5 (List.mem_of_getElem? (i := 168) (by first | exact rfl | decide +kernel)) rfl
theorem lvL_121 : kw_lkV RL 121 8 mX8_far := ⟨⟨TX8, 37, rfl⟩, kmL_121, wIX8_far, wVX8_far, wNX8, wCX8_far, nmhX8.1, nmhX8.2, by decide⟩
theorem kmX8_259 : Cond.methodLink RX8 259 yX8_setHours ∈ kw_ws := kz_5 (List.mem_of_getElem? (i := 172) (by first | exact rfl | decide +kernel)) rfl
theorem lvX8_259 : kw_lkV RX8 259 8 mX8_setHours := ⟨⟨TX8, 37, rfl⟩, kmX8_259, wIX8_setHours, wVX8_setHours, wNX8, wCX8_setHours, nmhX8.1, nmhX8.2, by decide⟩
theorem kmX8_262 : Cond.methodLink RX8 262 yX8_farBy ∈ kw_ws := kz_5 (List.mem_of_getElem? (i := 176) (by first | exact rfl | decide +kernel)) rfl
theorem lvX8_262 : kw_lkV RX8 262 8 mX8_farBy := ⟨⟨TX8, 37, rfl⟩, kmX8_262, wIX8_farBy, wVX8_farBy, wNX8, wCX8_farBy, nmhX8.1, nmhX8.2, by decide⟩
theorem kmX8_256 : Cond.methodLink RX8 256 yX8_isTurn ∈ kw_ws := kz_5 (List.mem_of_getElem? (i := 181) (by first | exact rfl | decide +kernel)) rfl
theorem lsX8_256 : kw_lkS RX8 256 mX8_isTurn := ⟨kmX8_256, wTX8_isTurn, wNX8, wCX8_isTurn, nmhX8.1, nmhX8.2, by decide⟩
theorem kmL_125 : Cond.methodLink RL 125 yX8_soon ∈ kw_ws := kz_5 (List.mem_of_getElem? (i := 184) (by first | exact rfl | decide +kernel)) rfl
theorem lvL_125 : kw_lkV RL 125 8 mX8_soon := ⟨⟨TX8, 37, rfl⟩, kmL_125, wIX8_soon, wVX8_soon, wNX8, wCX8_soon, nmhX8.1, nmhX8.2, by decide⟩
theorem kmX8_268 : Cond.methodLink RX8 268 yX8_mostOf ∈ kw_ws := kz_5 (List.mem_of_getElem? (i := 188) (by first | exact rfl | decide +kernel)) rfl
theorem lvX8_268 : kw_lkV RX8 268 8 mX8_mostOf := ⟨⟨TX8, 37, rfl⟩, kmX8_268, wIX8_mostOf, wVX8_mostOf, wNX8, wCX8_mostOf, nmhX8.1, nmhX8.2, by decide⟩
theorem kmX8_265 : Cond.methodLink RX8 265 yX8_greater ∈ kw_ws := kz_5 (List.mem_of_getElem? (i := 192) (by first | exact rfl | decide +kernel)) rfl
theorem lsX8_265 : kw_lkS RX8 265 mX8_greater := ⟨kmX8_265, wTX8_greater, wNX8, wCX8_greater, nmhX8.1, nmhX8.2, by decide⟩
theorem kmL_129 : Cond.methodLink RL 129 yX8_least ∈ kw_ws := kz_5 (List.mem_of_getElem? (i := 195) (by first | exact rfl | decide +kernel)) rfl
theorem lvL_129 : kw_lkV RL 129 8 mX8_least := ⟨⟨TX8, 37, rfl⟩, kmL_129, wIX8_least, wVX8_least, wNX8, wCX8_least, nmhX8.1, nmhX8.2, by decide⟩
theorem kmL_133 : Cond.methodLink RL 133 yX8_ways ∈ kw_ws := kz_5 (List.mem_of_getElem? (i := 199) (by first | exact rfl | decide +kernel)) rfl
theorem lvL_133 : kw_lkV RL 133 8 mX8_ways := ⟨⟨TX8, 37, rfl⟩, kmL_133, wIX8_ways, wVX8_ways, wNX8, wCX8_ways, nmhX8.1, nmhX8.2, by decide⟩
theorem kmL_137 : Cond.methodLink RL 137 yX8_kinds ∈ kw_ws := kz_5 (List.mem_of_getElem? (i := 203) (by first | exact rfl | decide +kernel)) rfl
theorem lvL_137 : kw_lkV RL 137 8 mX8_kinds := ⟨⟨TX8, 37, rfl⟩, kmL_137, wIX8_kinds, wVX8_kinds, wNX8, wCX8_kinds, nmhX8.1, nmhX8.2, by decide⟩
theorem kmX8_271 : Cond.methodLink RX8 271 yX8_askedPulls ∈ kw_ws := kz_5 (List.mem_of_getElem? (i := 207) (by first | exact rfl | decide +kernel)) rfl
theorem lvX8_271 : kw_lkV RX8 271 8 mX8_askedPulls := ⟨⟨TX8, 37, rfl⟩, kmX8_271, wIX8_askedPulls, wVX8_askedPulls, wNX8, wCX8_askedPulls, nmhX8.1, nmhX8.2, by decide⟩
theorem kmX8_274 : Cond.methodLink RX8 274 yX8_pullsSo ∈ kw_ws := kz_5 (List.mem_of_getElem? (i := 211) (by first | exact rfl | decide +kernel)) rfl
theorem lvX8_274 : kw_lkV RX8 274 8 mX8_pullsSo := ⟨⟨TX8, 37, rfl⟩, kmX8_274, wIX8_pullsSo, wVX8_pullsSo, wNX8, wCX8_pullsSo, nmhX8.1, nmhX8.2, by decide⟩
theorem kmL_141 : Cond.methodLink RL 141 yX8_areas ∈ kw_ws := kz_5 (List.mem_of_getElem? (i := 215) (by first | exact rfl | decide +kernel)) rfl
theorem lvL_141 : kw_lkV RL 141 8 mX8_areas := ⟨⟨TX8, 37, rfl⟩, kmL_141, wIX8_areas, wVX8_areas, wNX8, wCX8_areas, nmhX8.1, nmhX8.2, by decide⟩
theorem kmL_145 : Cond.methodLink RL 145 yX8_rival ∈ kw_ws := kz_5 (List.mem_of_getElem? (i := 219) (by first | exact rfl | decide +kernel)) rfl
theorem lvL_145 : kw_lkV RL 145 8 mX8_rival := ⟨⟨TX8, 37, rfl⟩, kmL_145, wIX8_rival, wVX8_rival, wNX8, wCX8_rival, nmhX8.1, nmhX8.2, by decide⟩
theorem kmL_149 : Cond.methodLink RL 149 yX8_mid ∈ kw_ws := kz_5 (List.mem_of_getElem? (i := 223) (by first | exact rfl | decide +kernel)) rfl
theorem lvL_149 : kw_lkV RL 149 8 mX8_mid := ⟨⟨TX8, 37, rfl⟩, kmL_149, wIX8_mid, wVX8_mid, wNX8, wCX8_mid, nmhX8.1, nmhX8.2, by decide⟩
theorem kmX8_281 : Cond.methodLink RX8 281 yX8_gustMiles ∈ kw_ws := kz_5 (List.mem_of_getElem? (i := 227) (by first | exact rfl | decide +kernel)) rfl
theorem lvX8_281 : kw_lkV RX8 281 8 mX8_gustMiles := ⟨⟨TX8, 37, rfl⟩, kmX8_281, wIX8_gustMiles, wVX8_gustMiles, wNX8, wCX8_gustMiles, nmhX8.1, nmhX8.2, by decide⟩
theorem kmX8_284 : Cond.methodLink RX8 284 yX8_weightOf ∈ kw_ws := kz_5 (List.mem_of_getElem? (i := 231) (by first | exact rfl | decide +kernel)) rfl
theorem lvX8_284 : kw_lkV RX8 284 8 mX8_weightOf := ⟨⟨TX8, 37, rfl⟩, kmX8_284, wIX8_weightOf, wVX8_weightOf, wNX8, wCX8_weightOf, nmhX8.1, nmhX8.2, by decide⟩
theorem kmX8_277 : Cond.methodLink RX8 277 yX8_power ∈ kw_ws := kz_5 (List.mem_of_getElem? (i := 235) (by first | exact rfl | decide +kernel)) rfl
theorem lsX8_277 : kw_lkS RX8 277 mX8_power := ⟨kmX8_277, wTX8_power, wNX8, wCX8_power, nmhX8.1, nmhX8.2, by decide⟩
theorem kmL_153 : Cond.methodLink RL 153 yX8_odds ∈ kw_ws := kz_5 (List.mem_of_getElem? (i := 239) (by first | exact rfl | decide +kernel)) rfl
theorem lvL_153 : kw_lkV RL 153 8 mX8_odds := ⟨⟨TX8, 37, rfl⟩, kmL_153, wIX8_odds, wVX8_odds, wNX8, wCX8_odds, nmhX8.1, nmhX8.2, by decide⟩
theorem kmL_157 : Cond.methodLink RL 157 yX8_lots ∈ kw_ws := kz_6 (List.mem_of_getElem? (i := 3) (by first | exact rfl | decide +kernel)) rfl
theorem lvL_157 : kw_lkV RL 157 8 mX8_lots := ⟨⟨TX8, 37, rfl⟩, kmL_157, wIX8_lots, wVX8_lots, wNX8, wCX8_lots, nmhX8.1, nmhX8.2, by decide⟩
theorem kmL_161 : Cond.methodLink RL 161 yX8_asked ∈ kw_ws := kz_6 (List.mem_of_getElem? (i := 10) (by first | exact rfl | decide +kernel)) rfl
theorem lvL_161 : kw_lkV RL 161 8 mX8_asked := ⟨⟨TX8, 37, rfl⟩, kmL_161, wIX8_asked, wVX8_asked, wNX8, wCX8_asked, nmhX8.1, nmhX8.2, by decide⟩
theorem kmL_166 : Cond.methodLink RL 166 yX8_upper ∈ kw_ws := kz_6 (List.mem_of_getElem? (i := 14) (by first | exact rfl | decide +kernel)) rfl
theorem lvL_166 : kw_lkV RL 166 8 mX8_upper := ⟨⟨TX8, 37, rfl⟩, kmL_166, wIX8_upper, wVX8_upper, wNX8, wCX8_upper, nmhX8.1, nmhX8.2, by decide⟩
theorem kmL_170 : Cond.methodLink RL 170 yX8_lower ∈ kw_ws := kz_6 (List.mem_of_getElem? (i := 18) (by first | exact rfl | decide +kernel)) rfl
theorem lvL_170 : kw_lkV RL 170 8 mX8_lower := ⟨⟨TX8, 37, rfl⟩, kmL_170, wIX8_lower, wVX8_lower, wNX8, wCX8_lower, nmhX8.1, nmhX8.2, by decide⟩
theorem kmL_174 : Cond.methodLink RL 174 yX8_count ∈ kw_ws := kz_6 (List.mem_of_getElem? (i := 22) (by first | exact rfl | decide +kernel)) rfl
theorem lvL_174 : kw_lkV RL 174 8 mX8_count := ⟨⟨TX8, 37, rfl⟩, kmL_174, wIX8_count, wVX8_count, wNX8, wCX8_count, nmhX8.1, nmhX8.2, by decide⟩
theorem kmX8_301 : Cond.methodLink RX8 301 yX8_tells ∈ kw_ws := kz_6 (List.mem_of_getElem? (i := 26) (by first | exact rfl | decide +kernel)) rfl
theorem lvX8_301 : kw_lkV RX8 301 8 mX8_tells := ⟨⟨TX8, 37, rfl⟩, kmX8_301, wIX8_tells, wVX8_tells, wNX8, wCX8_tells, nmhX8.1, nmhX8.2, by decide⟩
theorem kmX8_295 : Cond.methodLink RX8 295 yX8_howMany ∈ kw_ws := kz_6 (List.mem_of_getElem? (i := 30) (by first | exact rfl | decide +kernel)) rfl
theorem lvX8_295 : kw_lkV RX8 295 8 mX8_howMany := ⟨⟨TX8, 37, rfl⟩, kmX8_295, wIX8_howMany, wVX8_howMany, wNX8, wCX8_howMany, nmhX8.1, nmhX8.2, by decide⟩
theorem kmX8_298 : Cond.methodLink RX8 298 yX8_there ∈ kw_ws := kz_6 (List.mem_of_getElem? (i := 34) (by first | exact rfl | decide +kernel)) rfl
theorem lvX8_298 : kw_lkV RX8 298 8 mX8_there := ⟨⟨TX8, 37, rfl⟩, kmX8_298, wIX8_there, wVX8_there, wNX8, wCX8_there, nmhX8.1, nmhX8.2, by decide⟩
theorem kmL_178 : Cond.methodLink RL 178 yX8_miles ∈ kw_ws := kz_6 (List.mem_of_getElem? (i := 38) (by first | exact rfl | decide +kernel)) rfl
theorem lvL_178 : kw_lkV RL 178 8 mX8_miles := ⟨⟨TX8, 37, rfl⟩, kmL_178, wIX8_miles, wVX8_miles, wNX8, wCX8_miles, nmhX8.1, nmhX8.2, by decide⟩
theorem kmL_182 : Cond.methodLink RL 182 yX8_finding ∈ kw_ws := kz_6 (List.mem_of_getElem? (i := 42) (by first | exact rfl | decide +kernel)) rfl
theorem lvL_182 : kw_lkV RL 182 8 mX8_finding := ⟨⟨TX8, 37, rfl⟩, kmL_182, wIX8_finding, wVX8_finding, wNX8, wCX8_finding, nmhX8.1, nmhX8.2, by decide⟩
theorem kmL_186 : Cond.methodLink RL 186 yX8_findings ∈ kw_ws := kz_6 (List.mem_of_getElem? (i := 46) (by first | exact rfl | decide +kernel)) rfl
theorem lvL_186 : kw_lkV RL 186 8 mX8_findings := ⟨⟨TX8, 37, rfl⟩, kmL_186, wIX8_findings, wVX8_findings, wNX8, wCX8_findings, nmhX8.1, nmhX8.2, by decide⟩
theorem kmL_190 : Cond.methodLink RL 190 yX8_digest ∈ kw_ws := kz_6 (List.mem_of_getElem? (i := 50) (by first | exact rfl | decide +kernel)) rfl
theorem lvL_190 : kw_lkV RL 190 8 mX8_digest := ⟨⟨TX8, 37, rfl⟩, kmL_190, wIX8_digest, wVX8_digest, wNX8, wCX8_digest, nmhX8.1, nmhX8.2, by decide⟩
theorem kmX8_309 : Cond.methodLink RX8 309 yX8_mix ∈ kw_ws := kz_6 (List.mem_of_getElem? (i := 55) (by first | exact rfl | decide +kernel)) rfl
theorem lvX8_309 : kw_lkV RX8 309 8 mX8_mix := ⟨⟨TX8, 37, rfl⟩, kmX8_309, wIX8_mix, wVX8_mix, wNX8, wCX8_mix, nmhX8.1, nmhX8.2, by decide⟩
theorem kmX8_314 : Cond.methodLink RX8 314 yX8_mixTown ∈ kw_ws := kz_6 (List.mem_of_getElem? (i := 60) (by first | exact rfl | decide +kernel)) rfl
theorem lvX8_314 : kw_lkV RX8 314 8 mX8_mixTown := ⟨⟨TX8, 37, rfl⟩, kmX8_314, wIX8_mixTown, wVX8_mixTown, wNX8, wCX8_mixTown, nmhX8.1, nmhX8.2, by decide⟩
theorem lnX1_48 : kw_lkN RX1 48 mX7_pull := ⟨by decide, wTX7_pull, wNX7, wCX7_pull, nmhX7.1, nmhX7.2, by decide⟩
theorem lnX5_90 : kw_lkN RX5 90 mX7_weather := ⟨by decide, wTX7_weather, wNX7, wCX7_weather, nmhX7.1, nmhX7.2, by decide⟩
theorem lnX1_61 : kw_lkN RX1 61 mX7_isA := ⟨by decide, wTX7_isA, wNX7, wCX7_isA, nmhX7.1, nmhX7.2, by decide⟩
theorem ckJ6_265 : Cond.constant RJ6 265 (1431655765) ∈ kw_ws := kz_3 (List.mem_of_getElem? (i := 7) (by first | exact rfl | decide +kernel)) rfl
theorem ckJ6_266 : Cond.constant RJ6 266 (858993459) ∈ kw_ws := kz_3 (List.mem_of_getElem? (i := 8) (by first | exact rfl | decide +kernel)) rfl
theorem ckJ6_267 : Cond.constant RJ6 267 (252645135) ∈ kw_ws := kz_3 (List.mem_of_getElem? (i := 9) (by first | exact rfl | decide +kernel)) rfl
theorem ckX8_255 : Cond.constant RX8 255 (-1048576) ∈ kw_ws := kz_5 (List.mem_of_getElem? (i := 180) (by first | exact rfl | decide +kernel)) rfl
theorem ckX8_290 : Cond.constant RX8 290 (2147483646) ∈ kw_ws := kz_6 (List.mem_of_getElem? (i := 7) (by first | exact rfl | decide +kernel)) rfl
theorem ckX7_295 : Cond.constantLong RX7 295 (12) ∈ kw_ws := kz_3 (List.mem_of_getElem? (i := 200) (by first | exact rfl | decide +kernel)) rfl
theorem ckX7_308 : Cond.constantLong RX7 308 (2147483647) ∈ kw_ws := kz_3 (List.mem_of_getElem? (i := 226) (by first | exact rfl | decide +kernel)) rfl
theorem ckX7_310 : Cond.constantLong RX7 310 (48271) ∈ kw_ws := kz_3 (List.mem_of_getElem? (i := 227) (by first | exact rfl | decide +kernel)) rfl
theorem ckX7_337 : Cond.constantLong RX7 337 (17) ∈ kw_ws := kz_4 (List.mem_of_getElem? (i := 29) (by first | exact rfl | decide +kernel)) rfl
theorem ckX7_339 : Cond.constantLong RX7 339 (31) ∈ kw_ws := kz_4 (List.mem_of_getElem? (i := 30) (by first | exact rfl | decide +kernel)) rfl
theorem ckX3_51 : Cond.constantLong RX3 51 (31) ∈ kw_ws := kz_4 (List.mem_of_getElem? (i := 36) (by first | exact rfl | decide +kernel)) rfl
theorem ckX8_288 : Cond.constantLong RX8 288 (12) ∈ kw_ws := kz_5 (List.mem_of_getElem? (i := 238) (by first | exact rfl | decide +kernel)) rfl
theorem ckX8_291 : Cond.constantLong RX8 291 (48271) ∈ kw_ws := kz_6 (List.mem_of_getElem? (i := 8) (by first | exact rfl | decide +kernel)) rfl
theorem ckX8_293 : Cond.constantLong RX8 293 (2147483647) ∈ kw_ws := kz_6 (List.mem_of_getElem? (i := 9) (by first | exact rfl | decide +kernel)) rfl
theorem ckX8_312 : Cond.constantLong RX8 312 (17) ∈ kw_ws := kz_6 (List.mem_of_getElem? (i := 54) (by first | exact rfl | decide +kernel)) rfl
theorem ckX8_304 : Cond.constantLong RX8 304 (31) ∈ kw_ws := kz_6 (List.mem_of_getElem? (i := 59) (by first | exact rfl | decide +kernel)) rfl
end
