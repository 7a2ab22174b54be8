theorem kn_1 {w : Cond} (h : w ∈ tables_1_1) : w ∈ tables_1 := List.mem_append_left _ h
theorem kn_2 {w : Cond} (h : w ∈ tables_1_2) : w ∈ tables_1 := List.mem_append_right _ (List.mem_append_left _ h)
theorem kn_3 {w : Cond} (h : w ∈ tables_1_3) : w ∈ tables_1 := List.mem_append_right _ (List.mem_append_right _ (List.mem_append_left _ h))
theorem kn_4 {w : Cond} (h : w ∈ tables_1_4) : w ∈ tables_1 := List.mem_append_right _ (List.mem_append_right _ (List.mem_append_right _ (List.mem_append_left _ h)))
theorem kn_5 {w : Cond} (h : w ∈ tables_1_5) : w ∈ tables_1 := List.mem_append_right _ (List.mem_append_right _ (List.mem_append_right _ (List.mem_append_right _ (List.mem_append_left _ h))))
theorem kn_6 {w : Cond} (h : w ∈ tables_1_6) : w ∈ tables_1 := List.mem_append_right _ (List.mem_append_right _ (List.mem_append_right _ (List.mem_append_right _ (List.mem_append_right _ (h)))))
-- ===== PART A: goes FIRST, ahead of the names: the tables' words, and 'selects' of the private methods out of them =====
/-- a private method of a class that the tables say can be made, by its rows of tables_1 -/
def lw_okq (q : MethodName × Nat) : Prop := (q.1.cls ≠ "java/lang/invoke/MethodHandle" ∧ q.1.cls ≠ "java/lang/invoke/VarHandle") ∧ Cond.instantiable q.1.cls q.2 ∈ tables_1 ∧ Cond.privateMethod q.1 ∈ tables_1 ∧ Cond.instanceMethod q.1 ∈ tables_1
theorem lw_p0 : lw_okq (⟨"WashSails", "makeOn", "(LWashSails$Shelf;III)I"⟩, 11) := ⟨⟨by decide +kernel, by decide +kernel⟩, kn_1 (List.mem_of_getElem? (i := 15) (by first | exact rfl | decide +kernel)), kn_2 (List.mem_of_getElem? (i := 32) (by first | exact rfl | decide +kernel)), kn_2 (List.mem_of_getElem? (i := 33) (by first | exact rfl | decide +kernel))⟩
theorem lw_p1 : lw_okq (⟨"WashSails$Reader", "skipBlanks", "(LWashSails$Shelf;I)V"⟩, 2) := ⟨⟨by decide +kernel, by decide +kernel⟩, kn_1 (List.mem_of_getElem? (i := 46) (by first | exact rfl | decide +kernel)), kn_2 (List.mem_of_getElem? (i := 127) (by first | exact rfl | decide +kernel)), kn_2 (List.mem_of_getElem? (i := 128) (by first | exact rfl | decide +kernel))⟩
theorem lw_p2 : lw_okq (⟨"WashSails$Reader", "readWinds", "(LWashSails$Shelf;I)V"⟩, 2) := ⟨⟨by decide +kernel, by decide +kernel⟩, kn_1 (List.mem_of_getElem? (i := 46) (by first | exact rfl | decide +kernel)), kn_2 (List.mem_of_getElem? (i := 132) (by first | exact rfl | decide +kernel)), kn_2 (List.mem_of_getElem? (i := 133) (by first | exact rfl | decide +kernel))⟩
theorem lw_p3 : lw_okq (⟨"WashSails$Reader", "readLine", "(LWashSails$Shelf;I)Z"⟩, 2) := ⟨⟨by decide +kernel, by decide +kernel⟩, kn_1 (List.mem_of_getElem? (i := 46) (by first | exact rfl | decide +kernel)), kn_2 (List.mem_of_getElem? (i := 137) (by first | exact rfl | decide +kernel)), kn_2 (List.mem_of_getElem? (i := 138) (by first | exact rfl | decide +kernel))⟩
theorem lw_p4 : lw_okq (⟨"WashSails$Reader", "readFigure", "(LWashSails$Shelf;III)I"⟩, 2) := ⟨⟨by decide +kernel, by decide +kernel⟩, kn_1 (List.mem_of_getElem? (i := 46) (by first | exact rfl | decide +kernel)), kn_2 (List.mem_of_getElem? (i := 146) (by first | exact rfl | decide +kernel)), kn_2 (List.mem_of_getElem? (i := 147) (by first | exact rfl | decide +kernel))⟩
theorem lw_p5 : lw_okq (⟨"WashSails$Town", "passHour", "()V"⟩, 8) := ⟨⟨by decide +kernel, by decide +kernel⟩, kn_1 (List.mem_of_getElem? (i := 105) (by first | exact rfl | decide +kernel)), kn_2 (List.mem_of_getElem? (i := 172) (by first | exact rfl | decide +kernel)), kn_2 (List.mem_of_getElem? (i := 173) (by first | exact rfl | decide +kernel))⟩
theorem lw_p6 : lw_okq (⟨"WashSails", "drySet", "([I)I"⟩, 11) := ⟨⟨by decide +kernel, by decide +kernel⟩, kn_1 (List.mem_of_getElem? (i := 15) (by first | exact rfl | decide +kernel)), kn_3 (List.mem_of_getElem? (i := 110) (by first | exact rfl | decide +kernel)), kn_3 (List.mem_of_getElem? (i := 111) (by first | exact rfl | decide +kernel))⟩
theorem lw_p7 : lw_okq (⟨"WashSails", "planRefusal", "(I)I"⟩, 11) := ⟨⟨by decide +kernel, by decide +kernel⟩, kn_1 (List.mem_of_getElem? (i := 15) (by first | exact rfl | decide +kernel)), kn_3 (List.mem_of_getElem? (i := 118) (by first | exact rfl | decide +kernel)), kn_3 (List.mem_of_getElem? (i := 119) (by first | exact rfl | decide +kernel))⟩
theorem lw_p8 : lw_okq (⟨"WashSails$Voyage", "sailFrom", "(III)V"⟩, 8) := ⟨⟨by decide +kernel, by decide +kernel⟩, kn_1 (List.mem_of_getElem? (i := 171) (by first | exact rfl | decide +kernel)), kn_3 (List.mem_of_getElem? (i := 146) (by first | exact rfl | decide +kernel)), kn_3 (List.mem_of_getElem? (i := 147) (by first | exact rfl | decide +kernel))⟩
theorem lw_p9 : lw_okq (⟨"WashSails", "mostMilesBehind", "(II)I"⟩, 11) := ⟨⟨by decide +kernel, by decide +kernel⟩, kn_1 (List.mem_of_getElem? (i := 15) (by first | exact rfl | decide +kernel)), kn_3 (List.mem_of_getElem? (i := 162) (by first | exact rfl | decide +kernel)), kn_3 (List.mem_of_getElem? (i := 163) (by first | exact rfl | decide +kernel))⟩
theorem lw_p10 : lw_okq (⟨"WashSails", "pairsRefusal", "(II)I"⟩, 11) := ⟨⟨by decide +kernel, by decide +kernel⟩, kn_1 (List.mem_of_getElem? (i := 15) (by first | exact rfl | decide +kernel)), kn_3 (List.mem_of_getElem? (i := 174) (by first | exact rfl | decide +kernel)), kn_3 (List.mem_of_getElem? (i := 175) (by first | exact rfl | decide +kernel))⟩
theorem lw_p11 : lw_okq (⟨"WashSails", "pulledSo", "(III)Z"⟩, 11) := ⟨⟨by decide +kernel, by decide +kernel⟩, kn_1 (List.mem_of_getElem? (i := 15) (by first | exact rfl | decide +kernel)), kn_3 (List.mem_of_getElem? (i := 178) (by first | exact rfl | decide +kernel)), kn_3 (List.mem_of_getElem? (i := 179) (by first | exact rfl | decide +kernel))⟩
theorem lw_p12 : lw_okq (⟨"WashSails", "foresee", "(I)V"⟩, 11) := ⟨⟨by decide +kernel, by decide +kernel⟩, kn_1 (List.mem_of_getElem? (i := 15) (by first | exact rfl | decide +kernel)), kn_3 (List.mem_of_getElem? (i := 197) (by first | exact rfl | decide +kernel)), kn_3 (List.mem_of_getElem? (i := 198) (by first | exact rfl | decide +kernel))⟩
theorem lw_p13 : lw_okq (⟨"WashSails", "milesByGusts", "(II)I"⟩, 11) := ⟨⟨by decide +kernel, by decide +kernel⟩, kn_1 (List.mem_of_getElem? (i := 15) (by first | exact rfl | decide +kernel)), kn_3 (List.mem_of_getElem? (i := 216) (by first | exact rfl | decide +kernel)), kn_3 (List.mem_of_getElem? (i := 217) (by first | exact rfl | decide +kernel))⟩
theorem lw_p14 : lw_okq (⟨"WashSailsModel", "meet", "(I)I"⟩, 37) := ⟨⟨by decide +kernel, by decide +kernel⟩, kn_4 (List.mem_of_getElem? (i := 38) (by first | exact rfl | decide +kernel)), kn_4 (List.mem_of_getElem? (i := 166) (by first | exact rfl | decide +kernel)), kn_4 (List.mem_of_getElem? (i := 167) (by first | exact rfl | decide +kernel))⟩
theorem lw_p15 : lw_okq (⟨"WashSailsModel", "setRow", "(III)V"⟩, 37) := ⟨⟨by decide +kernel, by decide +kernel⟩, kn_4 (List.mem_of_getElem? (i := 38) (by first | exact rfl | decide +kernel)), kn_4 (List.mem_of_getElem? (i := 170) (by first | exact rfl | decide +kernel)), kn_4 (List.mem_of_getElem? (i := 171) (by first | exact rfl | decide +kernel))⟩
def lw_privs_1 : List (MethodName × Nat) := [(⟨"WashSails", "makeOn", "(LWashSails$Shelf;III)I"⟩, 11), (⟨"WashSails$Reader", "skipBlanks", "(LWashSails$Shelf;I)V"⟩, 2), (⟨"WashSails$Reader", "readWinds", "(LWashSails$Shelf;I)V"⟩, 2), (⟨"WashSails$Reader", "readLine", "(LWashSails$Shelf;I)Z"⟩, 2), (⟨"WashSails$Reader", "readFigure", "(LWashSails$Shelf;III)I"⟩, 2), (⟨"WashSails$Town", "passHour", "()V"⟩, 8), (⟨"WashSails", "drySet", "([I)I"⟩, 11), (⟨"WashSails", "planRefusal", "(I)I"⟩, 11), (⟨"WashSails$Voyage", "sailFrom", "(III)V"⟩, 8), (⟨"WashSails", "mostMilesBehind", "(II)I"⟩, 11), (⟨"WashSails", "pairsRefusal", "(II)I"⟩, 11), (⟨"WashSails", "pulledSo", "(III)Z"⟩, 11), (⟨"WashSails", "foresee", "(I)V"⟩, 11), (⟨"WashSails", "milesByGusts", "(II)I"⟩, 11), (⟨"WashSailsModel", "meet", "(I)I"⟩, 37), (⟨"WashSailsModel", "setRow", "(III)V"⟩, 37)]
theorem lw_r1 : ∀ q ∈ lw_privs_1, lw_okq q := List.forall_mem_cons.mpr ⟨lw_p0, List.forall_mem_cons.mpr ⟨lw_p1, List.forall_mem_cons.mpr ⟨lw_p2, List.forall_mem_cons.mpr ⟨lw_p3, List.forall_mem_cons.mpr ⟨lw_p4, List.forall_mem_cons.mpr ⟨lw_p5, List.forall_mem_cons.mpr ⟨lw_p6, List.forall_mem_cons.mpr ⟨lw_p7, List.forall_mem_cons.mpr ⟨lw_p8, List.forall_mem_cons.mpr ⟨lw_p9, List.forall_mem_cons.mpr ⟨lw_p10, List.forall_mem_cons.mpr ⟨lw_p11, List.forall_mem_cons.mpr ⟨lw_p12, List.forall_mem_cons.mpr ⟨lw_p13, List.forall_mem_cons.mpr ⟨lw_p14, List.forall_mem_cons.mpr ⟨lw_p15, fun _ h => absurd h List.not_mem_nil⟩⟩⟩⟩⟩⟩⟩⟩⟩⟩⟩⟩⟩⟩⟩⟩
theorem lw_p16 : lw_okq (⟨"WashSailsModel", "askedRow", "(I)I"⟩, 37) := ⟨⟨by decide +kernel, by decide +kernel⟩, kn_4 (List.mem_of_getElem? (i := 38) (by first | exact rfl | decide +kernel)), kn_4 (List.mem_of_getElem? (i := 178) (by first | exact rfl | decide +kernel)), kn_4 (List.mem_of_getElem? (i := 179) (by first | exact rfl | decide +kernel))⟩
theorem lw_p17 : lw_okq (⟨"WashSailsModel", "rowAt", "(II)I"⟩, 37) := ⟨⟨by decide +kernel, by decide +kernel⟩, kn_4 (List.mem_of_getElem? (i := 38) (by first | exact rfl | decide +kernel)), kn_4 (List.mem_of_getElem? (i := 182) (by first | exact rfl | decide +kernel)), kn_4 (List.mem_of_getElem? (i := 183) (by first | exact rfl | decide +kernel))⟩
theorem lw_p18 : lw_okq (⟨"WashSailsModel", "ask", "(II)I"⟩, 37) := ⟨⟨by decide +kernel, by decide +kernel⟩, kn_4 (List.mem_of_getElem? (i := 38) (by first | exact rfl | decide +kernel)), kn_4 (List.mem_of_getElem? (i := 186) (by first | exact rfl | decide +kernel)), kn_4 (List.mem_of_getElem? (i := 187) (by first | exact rfl | decide +kernel))⟩
theorem lw_p19 : lw_okq (⟨"WashSailsModel", "askedText", "(I)I"⟩, 37) := ⟨⟨by decide +kernel, by decide +kernel⟩, kn_4 (List.mem_of_getElem? (i := 38) (by first | exact rfl | decide +kernel)), kn_4 (List.mem_of_getElem? (i := 218) (by first | exact rfl | decide +kernel)), kn_4 (List.mem_of_getElem? (i := 219) (by first | exact rfl | decide +kernel))⟩
theorem lw_p20 : lw_okq (⟨"WashSailsModel", "goesOn", "(I)I"⟩, 37) := ⟨⟨by decide +kernel, by decide +kernel⟩, kn_4 (List.mem_of_getElem? (i := 38) (by first | exact rfl | decide +kernel)), kn_4 (List.mem_of_getElem? (i := 226) (by first | exact rfl | decide +kernel)), kn_4 (List.mem_of_getElem? (i := 227) (by first | exact rfl | decide +kernel))⟩
theorem lw_p21 : lw_okq (⟨"WashSailsModel", "readsTown", "(I)Z"⟩, 37) := ⟨⟨by decide +kernel, by decide +kernel⟩, kn_4 (List.mem_of_getElem? (i := 38) (by first | exact rfl | decide +kernel)), kn_4 (List.mem_of_getElem? (i := 230) (by first | exact rfl | decide +kernel)), kn_4 (List.mem_of_getElem? (i := 231) (by first | exact rfl | decide +kernel))⟩
theorem lw_p22 : lw_okq (⟨"WashSailsModel", "readsWinds", "(I)Z"⟩, 37) := ⟨⟨by decide +kernel, by decide +kernel⟩, kn_4 (List.mem_of_getElem? (i := 38) (by first | exact rfl | decide +kernel)), kn_4 (List.mem_of_getElem? (i := 234) (by first | exact rfl | decide +kernel)), kn_4 (List.mem_of_getElem? (i := 235) (by first | exact rfl | decide +kernel))⟩
theorem lw_p23 : lw_okq (⟨"WashSailsModel", "skip", "(I)V"⟩, 37) := ⟨⟨by decide +kernel, by decide +kernel⟩, kn_4 (List.mem_of_getElem? (i := 38) (by first | exact rfl | decide +kernel)), kn_4 (List.mem_of_getElem? (i := 238) (by first | exact rfl | decide +kernel)), kn_4 (List.mem_of_getElem? (i := 239) (by first | exact rfl | decide +kernel))⟩
theorem lw_p24 : lw_okq (⟨"WashSailsModel", "here", "(I)I"⟩, 37) := ⟨⟨by decide +kernel, by decide +kernel⟩, kn_4 (List.mem_of_getElem? (i := 38) (by first | exact rfl | decide +kernel)), kn_5 (List.mem_of_getElem? (i := 2) (by first | exact rfl | decide +kernel)), kn_5 (List.mem_of_getElem? (i := 3) (by first | exact rfl | decide +kernel))⟩
theorem lw_p25 : lw_okq (⟨"WashSailsModel", "readsLine", "(I)Z"⟩, 37) := ⟨⟨by decide +kernel, by decide +kernel⟩, kn_4 (List.mem_of_getElem? (i := 38) (by first | exact rfl | decide +kernel)), kn_5 (List.mem_of_getElem? (i := 6) (by first | exact rfl | decide +kernel)), kn_5 (List.mem_of_getElem? (i := 7) (by first | exact rfl | decide +kernel))⟩
theorem lw_p26 : lw_okq (⟨"WashSailsModel", "figure", "(IIII)Z"⟩, 37) := ⟨⟨by decide +kernel, by decide +kernel⟩, kn_4 (List.mem_of_getElem? (i := 38) (by first | exact rfl | decide +kernel)), kn_5 (List.mem_of_getElem? (i := 13) (by first | exact rfl | decide +kernel)), kn_5 (List.mem_of_getElem? (i := 14) (by first | exact rfl | decide +kernel))⟩
theorem lw_p27 : lw_okq (⟨"WashSailsModel", "isLine", "(I)Z"⟩, 37) := ⟨⟨by decide +kernel, by decide +kernel⟩, kn_4 (List.mem_of_getElem? (i := 38) (by first | exact rfl | decide +kernel)), kn_5 (List.mem_of_getElem? (i := 25) (by first | exact rfl | decide +kernel)), kn_5 (List.mem_of_getElem? (i := 26) (by first | exact rfl | decide +kernel))⟩
theorem lw_p28 : lw_okq (⟨"WashSailsModel", "turnLine", "(I)V"⟩, 37) := ⟨⟨by decide +kernel, by decide +kernel⟩, kn_4 (List.mem_of_getElem? (i := 38) (by first | exact rfl | decide +kernel)), kn_5 (List.mem_of_getElem? (i := 32) (by first | exact rfl | decide +kernel)), kn_5 (List.mem_of_getElem? (i := 33) (by first | exact rfl | decide +kernel))⟩
theorem lw_p29 : lw_okq (⟨"WashSailsModel", "note", "()V"⟩, 37) := ⟨⟨by decide +kernel, by decide +kernel⟩, kn_4 (List.mem_of_getElem? (i := 38) (by first | exact rfl | decide +kernel)), kn_5 (List.mem_of_getElem? (i := 36) (by first | exact rfl | decide +kernel)), kn_5 (List.mem_of_getElem? (i := 37) (by first | exact rfl | decide +kernel))⟩
theorem lw_p30 : lw_okq (⟨"WashSailsModel", "write", "([II)V"⟩, 37) := ⟨⟨by decide +kernel, by decide +kernel⟩, kn_4 (List.mem_of_getElem? (i := 38) (by first | exact rfl | decide +kernel)), kn_5 (List.mem_of_getElem? (i := 40) (by first | exact rfl | decide +kernel)), kn_5 (List.mem_of_getElem? (i := 41) (by first | exact rfl | decide +kernel))⟩
theorem lw_p31 : lw_okq (⟨"WashSailsModel", "pass", "(I)V"⟩, 37) := ⟨⟨by decide +kernel, by decide +kernel⟩, kn_4 (List.mem_of_getElem? (i := 38) (by first | exact rfl | decide +kernel)), kn_5 (List.mem_of_getElem? (i := 55) (by first | exact rfl | decide +kernel)), kn_5 (List.mem_of_getElem? (i := 56) (by first | exact rfl | decide +kernel))⟩
def lw_privs_2 : List (MethodName × Nat) := [(⟨"WashSailsModel", "askedRow", "(I)I"⟩, 37), (⟨"WashSailsModel", "rowAt", "(II)I"⟩, 37), (⟨"WashSailsModel", "ask", "(II)I"⟩, 37), (⟨"WashSailsModel", "askedText", "(I)I"⟩, 37), (⟨"WashSailsModel", "goesOn", "(I)I"⟩, 37), (⟨"WashSailsModel", "readsTown", "(I)Z"⟩, 37), (⟨"WashSailsModel", "readsWinds", "(I)Z"⟩, 37), (⟨"WashSailsModel", "skip", "(I)V"⟩, 37), (⟨"WashSailsModel", "here", "(I)I"⟩, 37), (⟨"WashSailsModel", "readsLine", "(I)Z"⟩, 37), (⟨"WashSailsModel", "figure", "(IIII)Z"⟩, 37), (⟨"WashSailsModel", "isLine", "(I)Z"⟩, 37), (⟨"WashSailsModel", "turnLine", "(I)V"⟩, 37), (⟨"WashSailsModel", "note", "()V"⟩, 37), (⟨"WashSailsModel", "write", "([II)V"⟩, 37), (⟨"WashSailsModel", "pass", "(I)V"⟩, 37)]
theorem lw_r2 : ∀ q ∈ lw_privs_2, lw_okq q := List.forall_mem_cons.mpr ⟨lw_p16, List.forall_mem_cons.mpr ⟨lw_p17, List.forall_mem_cons.mpr ⟨lw_p18, List.forall_mem_cons.mpr ⟨lw_p19, List.forall_mem_cons.mpr ⟨lw_p20, List.forall_mem_cons.mpr ⟨lw_p21, List.forall_mem_cons.mpr ⟨lw_p22, List.forall_mem_cons.mpr ⟨lw_p23, List.forall_mem_cons.mpr ⟨lw_p24, List.forall_mem_cons.mpr ⟨lw_p25, List.forall_mem_cons.mpr ⟨lw_p26, List.forall_mem_cons.mpr ⟨lw_p27, List.forall_mem_cons.mpr ⟨lw_p28, List.forall_mem_cons.mpr ⟨lw_p29, List.forall_mem_cons.mpr ⟨lw_p30, List.forall_mem_cons.mpr ⟨lw_p31, fun _ h => absurd h List.not_mem_nil⟩⟩⟩⟩⟩⟩⟩⟩⟩⟩⟩⟩⟩⟩⟩⟩
theorem lw_p32 : lw_okq (⟨"WashSailsModel", "windAt", "(I)I"⟩, 37) := ⟨⟨by decide +kernel, by decide +kernel⟩, kn_4 (List.mem_of_getElem? (i := 38) (by first | exact rfl | decide +kernel)), kn_5 (List.mem_of_getElem? (i := 59) (by first | exact rfl | decide +kernel)), kn_5 (List.mem_of_getElem? (i := 60) (by first | exact rfl | decide +kernel))⟩
theorem lw_p33 : lw_okq (⟨"WashSailsModel", "milesBy", "(II)I"⟩, 37) := ⟨⟨by decide +kernel, by decide +kernel⟩, kn_4 (List.mem_of_getElem? (i := 38) (by first | exact rfl | decide +kernel)), kn_5 (List.mem_of_getElem? (i := 63) (by first | exact rfl | decide +kernel)), kn_5 (List.mem_of_getElem? (i := 64) (by first | exact rfl | decide +kernel))⟩
theorem lw_p34 : lw_okq (⟨"WashSailsModel", "pullOf", "(II)I"⟩, 37) := ⟨⟨by decide +kernel, by decide +kernel⟩, kn_4 (List.mem_of_getElem? (i := 38) (by first | exact rfl | decide +kernel)), kn_5 (List.mem_of_getElem? (i := 67) (by first | exact rfl | decide +kernel)), kn_5 (List.mem_of_getElem? (i := 68) (by first | exact rfl | decide +kernel))⟩
theorem lw_p35 : lw_okq (⟨"WashSailsModel", "turnBy", "(II)I"⟩, 37) := ⟨⟨by decide +kernel, by decide +kernel⟩, kn_4 (List.mem_of_getElem? (i := 38) (by first | exact rfl | decide +kernel)), kn_5 (List.mem_of_getElem? (i := 74) (by first | exact rfl | decide +kernel)), kn_5 (List.mem_of_getElem? (i := 75) (by first | exact rfl | decide +kernel))⟩
theorem lw_p36 : lw_okq (⟨"WashSailsModel", "wetBehind", "(II)I"⟩, 37) := ⟨⟨by decide +kernel, by decide +kernel⟩, kn_4 (List.mem_of_getElem? (i := 38) (by first | exact rfl | decide +kernel)), kn_5 (List.mem_of_getElem? (i := 78) (by first | exact rfl | decide +kernel)), kn_5 (List.mem_of_getElem? (i := 79) (by first | exact rfl | decide +kernel))⟩
theorem lw_p37 : lw_okq (⟨"WashSailsModel", "part", "(JJ)I"⟩, 37) := ⟨⟨by decide +kernel, by decide +kernel⟩, kn_4 (List.mem_of_getElem? (i := 38) (by first | exact rfl | decide +kernel)), kn_5 (List.mem_of_getElem? (i := 82) (by first | exact rfl | decide +kernel)), kn_5 (List.mem_of_getElem? (i := 83) (by first | exact rfl | decide +kernel))⟩
theorem lw_p38 : lw_okq (⟨"WashSailsModel", "read", "([II)V"⟩, 37) := ⟨⟨by decide +kernel, by decide +kernel⟩, kn_4 (List.mem_of_getElem? (i := 38) (by first | exact rfl | decide +kernel)), kn_5 (List.mem_of_getElem? (i := 90) (by first | exact rfl | decide +kernel)), kn_5 (List.mem_of_getElem? (i := 91) (by first | exact rfl | decide +kernel))⟩
theorem lw_p39 : lw_okq (⟨"WashSailsModel", "lineOf", "(II)I"⟩, 37) := ⟨⟨by decide +kernel, by decide +kernel⟩, kn_4 (List.mem_of_getElem? (i := 38) (by first | exact rfl | decide +kernel)), kn_5 (List.mem_of_getElem? (i := 106) (by first | exact rfl | decide +kernel)), kn_5 (List.mem_of_getElem? (i := 107) (by first | exact rfl | decide +kernel))⟩
theorem lw_p40 : lw_okq (⟨"WashSailsModel", "hoursTill", "()I"⟩, 37) := ⟨⟨by decide +kernel, by decide +kernel⟩, kn_4 (List.mem_of_getElem? (i := 38) (by first | exact rfl | decide +kernel)), kn_5 (List.mem_of_getElem? (i := 117) (by first | exact rfl | decide +kernel)), kn_5 (List.mem_of_getElem? (i := 118) (by first | exact rfl | decide +kernel))⟩
theorem lw_p41 : lw_okq (⟨"WashSailsModel", "lesserOnes", "(I)I"⟩, 37) := ⟨⟨by decide +kernel, by decide +kernel⟩, kn_4 (List.mem_of_getElem? (i := 38) (by first | exact rfl | decide +kernel)), kn_5 (List.mem_of_getElem? (i := 121) (by first | exact rfl | decide +kernel)), kn_5 (List.mem_of_getElem? (i := 122) (by first | exact rfl | decide +kernel))⟩
theorem lw_p42 : lw_okq (⟨"WashSailsModel", "isSet", "(I)Z"⟩, 37) := ⟨⟨by decide +kernel, by decide +kernel⟩, kn_4 (List.mem_of_getElem? (i := 38) (by first | exact rfl | decide +kernel)), kn_5 (List.mem_of_getElem? (i := 133) (by first | exact rfl | decide +kernel)), kn_5 (List.mem_of_getElem? (i := 134) (by first | exact rfl | decide +kernel))⟩
theorem lw_p43 : lw_okq (⟨"WashSailsModel", "linenOf", "(I)I"⟩, 37) := ⟨⟨by decide +kernel, by decide +kernel⟩, kn_4 (List.mem_of_getElem? (i := 38) (by first | exact rfl | decide +kernel)), kn_5 (List.mem_of_getElem? (i := 141) (by first | exact rfl | decide +kernel)), kn_5 (List.mem_of_getElem? (i := 142) (by first | exact rfl | decide +kernel))⟩
theorem lw_p44 : lw_okq (⟨"WashSailsModel", "wetOfAll", "()I"⟩, 37) := ⟨⟨by decide +kernel, by decide +kernel⟩, kn_4 (List.mem_of_getElem? (i := 38) (by first | exact rfl | decide +kernel)), kn_5 (List.mem_of_getElem? (i := 153) (by first | exact rfl | decide +kernel)), kn_5 (List.mem_of_getElem? (i := 154) (by first | exact rfl | decide +kernel))⟩
theorem lw_p45 : lw_okq (⟨"WashSailsModel", "askedPlan", "(I)I"⟩, 37) := ⟨⟨by decide +kernel, by decide +kernel⟩, kn_4 (List.mem_of_getElem? (i := 38) (by first | exact rfl | decide +kernel)), kn_5 (List.mem_of_getElem? (i := 161) (by first | exact rfl | decide +kernel)), kn_5 (List.mem_of_getElem? (i := 162) (by first | exact rfl | decide +kernel))⟩
theorem lw_p46 : lw_okq (⟨"WashSailsModel", "setHours", "()V"⟩, 37) := ⟨⟨by decide +kernel, by decide +kernel⟩, kn_4 (List.mem_of_getElem? (i := 38) (by first | exact rfl | decide +kernel)), kn_5 (List.mem_of_getElem? (i := 173) (by first | exact rfl | decide +kernel)), kn_5 (List.mem_of_getElem? (i := 174) (by first | exact rfl | decide +kernel))⟩
theorem lw_p47 : lw_okq (⟨"WashSailsModel", "farBy", "(II)I"⟩, 37) := ⟨⟨by decide +kernel, by decide +kernel⟩, kn_4 (List.mem_of_getElem? (i := 38) (by first | exact rfl | decide +kernel)), kn_5 (List.mem_of_getElem? (i := 177) (by first | exact rfl | decide +kernel)), kn_5 (List.mem_of_getElem? (i := 178) (by first | exact rfl | decide +kernel))⟩
def lw_privs_3 : List (MethodName × Nat) := [(⟨"WashSailsModel", "windAt", "(I)I"⟩, 37), (⟨"WashSailsModel", "milesBy", "(II)I"⟩, 37), (⟨"WashSailsModel", "pullOf", "(II)I"⟩, 37), (⟨"WashSailsModel", "turnBy", "(II)I"⟩, 37), (⟨"WashSailsModel", "wetBehind", "(II)I"⟩, 37), (⟨"WashSailsModel", "part", "(JJ)I"⟩, 37), (⟨"WashSailsModel", "read", "([II)V"⟩, 37), (⟨"WashSailsModel", "lineOf", "(II)I"⟩, 37), (⟨"WashSailsModel", "hoursTill", "()I"⟩, 37), (⟨"WashSailsModel", "lesserOnes", "(I)I"⟩, 37), (⟨"WashSailsModel", "isSet", "(I)Z"⟩, 37), (⟨"WashSailsModel", "linenOf", "(I)I"⟩, 37), (⟨"WashSailsModel", "wetOfAll", "()I"⟩, 37), (⟨"WashSailsModel", "askedPlan", "(I)I"⟩, 37), (⟨"WashSailsModel", "setHours", "()V"⟩, 37), (⟨"WashSailsModel", "farBy", "(II)I"⟩, 37)]
theorem lw_r3 : ∀ q ∈ lw_privs_3, lw_okq q := List.forall_mem_cons.mpr ⟨lw_p32, List.forall_mem_cons.mpr ⟨lw_p33, List.forall_mem_cons.mpr ⟨lw_p34, List.forall_mem_cons.mpr ⟨lw_p35, List.forall_mem_cons.mpr ⟨lw_p36, List.forall_mem_cons.mpr ⟨lw_p37, List.forall_mem_cons.mpr ⟨lw_p38, List.forall_mem_cons.mpr ⟨lw_p39, List.forall_mem_cons.mpr ⟨lw_p40, List.forall_mem_cons.mpr ⟨lw_p41, List.forall_mem_cons.mpr ⟨lw_p42, List.forall_mem_cons.mpr ⟨lw_p43, List.forall_mem_cons.mpr ⟨lw_p44, List.forall_mem_cons.mpr ⟨lw_p45, List.forall_mem_cons.mpr ⟨lw_p46, List.forall_mem_cons.mpr ⟨lw_p47, fun _ h => absurd h List.not_mem_nil⟩⟩⟩⟩⟩⟩⟩⟩⟩⟩⟩⟩⟩⟩⟩⟩
theorem lw_p48 : lw_okq (⟨"WashSailsModel", "mostOf", "(II)I"⟩, 37) := ⟨⟨by decide +kernel, by decide +kernel⟩, kn_4 (List.mem_of_getElem? (i := 38) (by first | exact rfl | decide +kernel)), kn_5 (List.mem_of_getElem? (i := 189) (by first | exact rfl | decide +kernel)), kn_5 (List.mem_of_getElem? (i := 190) (by first | exact rfl | decide +kernel))⟩
theorem lw_p49 : lw_okq (⟨"WashSailsModel", "askedPulls", "(II)I"⟩, 37) := ⟨⟨by decide +kernel, by decide +kernel⟩, kn_4 (List.mem_of_getElem? (i := 38) (by first | exact rfl | decide +kernel)), kn_5 (List.mem_of_getElem? (i := 208) (by first | exact rfl | decide +kernel)), kn_5 (List.mem_of_getElem? (i := 209) (by first | exact rfl | decide +kernel))⟩
theorem lw_p50 : lw_okq (⟨"WashSailsModel", "pullsSo", "(III)Z"⟩, 37) := ⟨⟨by decide +kernel, by decide +kernel⟩, kn_4 (List.mem_of_getElem? (i := 38) (by first | exact rfl | decide +kernel)), kn_5 (List.mem_of_getElem? (i := 212) (by first | exact rfl | decide +kernel)), kn_5 (List.mem_of_getElem? (i := 213) (by first | exact rfl | decide +kernel))⟩
theorem lw_p51 : lw_okq (⟨"WashSailsModel", "gustMiles", "(II)I"⟩, 37) := ⟨⟨by decide +kernel, by decide +kernel⟩, kn_4 (List.mem_of_getElem? (i := 38) (by first | exact rfl | decide +kernel)), kn_5 (List.mem_of_getElem? (i := 228) (by first | exact rfl | decide +kernel)), kn_5 (List.mem_of_getElem? (i := 229) (by first | exact rfl | decide +kernel))⟩
theorem lw_p52 : lw_okq (⟨"WashSailsModel", "weightOf", "(III)J"⟩, 37) := ⟨⟨by decide +kernel, by decide +kernel⟩, kn_4 (List.mem_of_getElem? (i := 38) (by first | exact rfl | decide +kernel)), kn_5 (List.mem_of_getElem? (i := 232) (by first | exact rfl | decide +kernel)), kn_5 (List.mem_of_getElem? (i := 233) (by first | exact rfl | decide +kernel))⟩
theorem lw_p53 : lw_okq (⟨"WashSailsModel", "tells", "(I)I"⟩, 37) := ⟨⟨by decide +kernel, by decide +kernel⟩, kn_4 (List.mem_of_getElem? (i := 38) (by first | exact rfl | decide +kernel)), kn_6 (List.mem_of_getElem? (i := 27) (by first | exact rfl | decide +kernel)), kn_6 (List.mem_of_getElem? (i := 28) (by first | exact rfl | decide +kernel))⟩
theorem lw_p54 : lw_okq (⟨"WashSailsModel", "howMany", "(I)I"⟩, 37) := ⟨⟨by decide +kernel, by decide +kernel⟩, kn_4 (List.mem_of_getElem? (i := 38) (by first | exact rfl | decide +kernel)), kn_6 (List.mem_of_getElem? (i := 31) (by first | exact rfl | decide +kernel)), kn_6 (List.mem_of_getElem? (i := 32) (by first | exact rfl | decide +kernel))⟩
theorem lw_p55 : lw_okq (⟨"WashSailsModel", "there", "(I)I"⟩, 37) := ⟨⟨by decide +kernel, by decide +kernel⟩, kn_4 (List.mem_of_getElem? (i := 38) (by first | exact rfl | decide +kernel)), kn_6 (List.mem_of_getElem? (i := 35) (by first | exact rfl | decide +kernel)), kn_6 (List.mem_of_getElem? (i := 36) (by first | exact rfl | decide +kernel))⟩
theorem lw_p56 : lw_okq (⟨"WashSailsModel", "mix", "(I)V"⟩, 37) := ⟨⟨by decide +kernel, by decide +kernel⟩, kn_4 (List.mem_of_getElem? (i := 38) (by first | exact rfl | decide +kernel)), kn_6 (List.mem_of_getElem? (i := 56) (by first | exact rfl | decide +kernel)), kn_6 (List.mem_of_getElem? (i := 57) (by first | exact rfl | decide +kernel))⟩
theorem lw_p57 : lw_okq (⟨"WashSailsModel", "mixTown", "()V"⟩, 37) := ⟨⟨by decide +kernel, by decide +kernel⟩, kn_4 (List.mem_of_getElem? (i := 38) (by first | exact rfl | decide +kernel)), kn_6 (List.mem_of_getElem? (i := 61) (by first | exact rfl | decide +kernel)), kn_6 (List.mem_of_getElem? (i := 62) (by first | exact rfl | decide +kernel))⟩
def lw_privs_4 : List (MethodName × Nat) := [(⟨"WashSailsModel", "mostOf", "(II)I"⟩, 37), (⟨"WashSailsModel", "askedPulls", "(II)I"⟩, 37), (⟨"WashSailsModel", "pullsSo", "(III)Z"⟩, 37), (⟨"WashSailsModel", "gustMiles", "(II)I"⟩, 37), (⟨"WashSailsModel", "weightOf", "(III)J"⟩, 37), (⟨"WashSailsModel", "tells", "(I)I"⟩, 37), (⟨"WashSailsModel", "howMany", "(I)I"⟩, 37), (⟨"WashSailsModel", "there", "(I)I"⟩, 37), (⟨"WashSailsModel", "mix", "(I)V"⟩, 37), (⟨"WashSailsModel", "mixTown", "()V"⟩, 37)]
theorem lw_r4 : ∀ q ∈ lw_privs_4, lw_okq q := List.forall_mem_cons.mpr ⟨lw_p48, List.forall_mem_cons.mpr ⟨lw_p49, List.forall_mem_cons.mpr ⟨lw_p50, List.forall_mem_cons.mpr ⟨lw_p51, List.forall_mem_cons.mpr ⟨lw_p52, List.forall_mem_cons.mpr ⟨lw_p53, List.forall_mem_cons.mpr ⟨lw_p54, List.forall_mem_cons.mpr ⟨lw_p55, List.forall_mem_cons.mpr ⟨lw_p56, List.forall_mem_cons.mpr ⟨lw_p57, fun _ h => absurd h List.not_mem_nil⟩⟩⟩⟩⟩⟩⟩⟩⟩⟩
def lw_privs : List (MethodName × Nat) := lw_privs_1 ++ (lw_privs_2 ++ (lw_privs_3 ++ (lw_privs_4)))
def lw_tbl : List Cond := k2_sels lw_privs ++ tables_1
theorem lw_privs_ok : ∀ q ∈ lw_privs, lw_okq q := by
  show ∀ q ∈ lw_privs_1 ++ (lw_privs_2 ++ (lw_privs_3 ++ (lw_privs_4))), lw_okq q
  exact List.forall_mem_append.mpr ⟨lw_r1, List.forall_mem_append.mpr ⟨lw_r2, List.forall_mem_append.mpr ⟨lw_r3, lw_r4⟩⟩⟩
/-! ===== BEGIN printed: names, fields, word lists, decode rows ===== -/
def RX0 : String := "WashSails$Chart"
def TX0 : u_T := fun k => match k with
  | 0 => ("WashSails$Chart", "pulls", "[I", true)
  | 1 => ("WashSails$Chart", "turns", "[I", true)
  | 2 => ("WashSails$Chart", "lines", "I", false)
  | _ => ("WashSails$Chart", "sets", "I", false)
def tyX0 : Nat → FieldType := fun k => match k with
  | 0 => .array .int
  | 1 => .array .int
  | 2 => .int
  | _ => .int
abbrev wsX00 : List Cond := u_ws RX0 TX0 4
theorem nmX0 : ∀ a, a < 4 → ∀ b, b < 4 → a ≠ b → (TX0 a).2.1 ≠ (TX0 b).2.1 := by decide +kernel
theorem tyX0_ok : ∀ k, k < 4 → parseFieldDescriptor (TX0 k).2.2.1 = some (tyX0 k) := by decide +kernel
abbrev cX0_init : ByteArray := prog_2_method_1_code
def yX0_init : MethodName := ⟨RX0, "<init>", "()V"⟩
abbrev cX0_draw : ByteArray := prog_2_method_2_code
def yX0_draw : MethodName := ⟨RX0, "draw", "(LWashSails$Layout;I)V"⟩
abbrev cX0_milesOf : ByteArray := prog_2_method_3_code
def yX0_milesOf : MethodName := ⟨RX0, "milesOf", "(I)I"⟩
abbrev cX0_turnBy : ByteArray := prog_2_method_4_code
def yX0_turnBy : MethodName := ⟨RX0, "turnBy", "(I)I"⟩
abbrev cX0_fits : ByteArray := prog_2_method_5_code
def yX0_fits : MethodName := ⟨RX0, "fits", "(III)Z"⟩
def RX1 : String := "WashSails$Layout"
def TX1 : u_T := fun k => match k with
  | 0 => ("WashSails$Layout", "kinds", "[I", true)
  | 1 => ("WashSails$Layout", "places", "[I", true)
  | 2 => ("WashSails$Layout", "areas", "[I", true)
  | 3 => ("WashSails$Layout", "linens", "[I", true)
  | 4 => ("WashSails$Layout", "winds", "[I", true)
  | 5 => ("WashSails$Layout", "lines", "I", false)
  | _ => ("WashSails$Layout", "hours", "I", false)
def tyX1 : Nat → FieldType := fun k => match k with
  | 0 => .array .int
  | 1 => .array .int
  | 2 => .array .int
  | 3 => .array .int
  | 4 => .array .int
  | 5 => .int
  | _ => .int
abbrev wsX10 : List Cond := u_ws RX1 TX1 7
theorem nmX1 : ∀ a, a < 7 → ∀ b, b < 7 → a ≠ b → (TX1 a).2.1 ≠ (TX1 b).2.1 := by decide +kernel
theorem tyX1_ok : ∀ k, k < 7 → parseFieldDescriptor (TX1 k).2.2.1 = some (tyX1 k) := by decide +kernel
abbrev cX1_init : ByteArray := prog_3_method_1_code
def yX1_init : MethodName := ⟨RX1, "<init>", "()V"⟩
abbrev cX1_copyFrom : ByteArray := prog_3_method_2_code
def yX1_copyFrom : MethodName := ⟨RX1, "copyFrom", "(LWashSails$Layout;)V"⟩
abbrev cX1_hasLine : ByteArray := prog_3_method_3_code
def yX1_hasLine : MethodName := ⟨RX1, "hasLine", "(I)Z"⟩
abbrev cX1_allLines : ByteArray := prog_3_method_4_code
def yX1_allLines : MethodName := ⟨RX1, "allLines", "()I"⟩
abbrev cX1_hasSet : ByteArray := prog_3_method_5_code
def yX1_hasSet : MethodName := ⟨RX1, "hasSet", "(I)Z"⟩
abbrev cX1_windAt : ByteArray := prog_3_method_6_code
def yX1_windAt : MethodName := ⟨RX1, "windAt", "(I)I"⟩
abbrev cX1_pullOf : ByteArray := prog_3_method_7_code
def yX1_pullOf : MethodName := ⟨RX1, "pullOf", "(II)I"⟩
abbrev cX1_milesOf : ByteArray := prog_3_method_8_code
def yX1_milesOf : MethodName := ⟨RX1, "milesOf", "(II)I"⟩
abbrev cX1_turnOf : ByteArray := prog_3_method_9_code
def yX1_turnOf : MethodName := ⟨RX1, "turnOf", "(II)I"⟩
abbrev cX1_mostMilesOf : ByteArray := prog_3_method_10_code
def yX1_mostMilesOf : MethodName := ⟨RX1, "mostMilesOf", "(II)I"⟩
abbrev cX1_linenOf : ByteArray := prog_3_method_11_code
def yX1_linenOf : MethodName := ⟨RX1, "linenOf", "(I)I"⟩
abbrev cX1_howManyAre : ByteArray := prog_3_method_12_code
def yX1_howManyAre : MethodName := ⟨RX1, "howManyAre", "(I)I"⟩
abbrev cX1_othersNoWider : ByteArray := prog_3_method_13_code
def yX1_othersNoWider : MethodName := ⟨RX1, "othersNoWider", "(I)I"⟩
def RX2 : String := "WashSails$Reader"
def TX2 : u_T := fun k => match k with
  | 0 => ("WashSails$Reader", "draft", "LWashSails$Layout;", true)
  | _ => ("WashSails$Reader", "place", "I", false)
def tyX2 : Nat → FieldType := fun k => match k with
  | 0 => .object "WashSails$Layout"
  | _ => .int
abbrev wsX20 : List Cond := u_ws RX2 TX2 2
theorem nmX2 : ∀ a, a < 2 → ∀ b, b < 2 → a ≠ b → (TX2 a).2.1 ≠ (TX2 b).2.1 := by decide +kernel
theorem tyX2_ok : ∀ k, k < 2 → parseFieldDescriptor (TX2 k).2.2.1 = some (tyX2 k) := by decide +kernel
abbrev cX2_init : ByteArray := prog_4_method_1_code
def yX2_init : MethodName := ⟨RX2, "<init>", "()V"⟩
abbrev cX2_faultOf : ByteArray := prog_4_method_2_code
def yX2_faultOf : MethodName := ⟨RX2, "faultOf", "(LWashSails$Shelf;I)I"⟩
abbrev cX2_skipBlanks : ByteArray := prog_4_method_3_code
def yX2_skipBlanks : MethodName := ⟨RX2, "skipBlanks", "(LWashSails$Shelf;I)V"⟩
abbrev cX2_readWinds : ByteArray := prog_4_method_4_code
def yX2_readWinds : MethodName := ⟨RX2, "readWinds", "(LWashSails$Shelf;I)V"⟩
abbrev cX2_readLine : ByteArray := prog_4_method_5_code
def yX2_readLine : MethodName := ⟨RX2, "readLine", "(LWashSails$Shelf;I)Z"⟩
abbrev cX2_readFigure : ByteArray := prog_4_method_6_code
def yX2_readFigure : MethodName := ⟨RX2, "readFigure", "(LWashSails$Shelf;III)I"⟩
abbrev cX2_kindOf : ByteArray := prog_4_method_7_code
def yX2_kindOf : MethodName := ⟨RX2, "kindOf", "(I)I"⟩
def RX3 : String := "WashSails$Shelf"
def TX3 : u_T := fun k => match k with
  | 0 => ("WashSails$Shelf", "room", "I", true)
  | 1 => ("WashSails$Shelf", "cells", "[[I", true)
  | _ => ("WashSails$Shelf", "sizes", "[I", true)
def tyX3 : Nat → FieldType := fun k => match k with
  | 0 => .int
  | 1 => .array (.array .int)
  | _ => .array .int
abbrev wsX30 : List Cond := u_ws RX3 TX3 3
theorem nmX3 : ∀ a, a < 3 → ∀ b, b < 3 → a ≠ b → (TX3 a).2.1 ≠ (TX3 b).2.1 := by decide +kernel
theorem tyX3_ok : ∀ k, k < 3 → parseFieldDescriptor (TX3 k).2.2.1 = some (tyX3 k) := by decide +kernel
abbrev cX3_init : ByteArray := prog_5_method_1_code
def yX3_init : MethodName := ⟨RX3, "<init>", "(II)V"⟩
abbrev cX3_has : ByteArray := prog_5_method_2_code
def yX3_has : MethodName := ⟨RX3, "has", "(I)Z"⟩
abbrev cX3_isMissing : ByteArray := prog_5_method_3_code
def yX3_isMissing : MethodName := ⟨RX3, "isMissing", "(I)Z"⟩
abbrev cX3_sizeOf : ByteArray := prog_5_method_4_code
def yX3_sizeOf : MethodName := ⟨RX3, "sizeOf", "(I)I"⟩
abbrev cX3_howMany : ByteArray := prog_5_method_5_code
def yX3_howMany : MethodName := ⟨RX3, "howMany", "()I"⟩
abbrev cX3_hasPlaces : ByteArray := prog_5_method_6_code
def yX3_hasPlaces : MethodName := ⟨RX3, "hasPlaces", "(III)Z"⟩
abbrev cX3_findingAt : ByteArray := prog_5_method_7_code
def yX3_findingAt : MethodName := ⟨RX3, "findingAt", "(II)I"⟩
abbrev cX3_valueAt : ByteArray := prog_5_method_8_code
def yX3_valueAt : MethodName := ⟨RX3, "valueAt", "(II)I"⟩
abbrev cX3_change : ByteArray := prog_5_method_9_code
def yX3_change : MethodName := ⟨RX3, "change", "(III)V"⟩
abbrev cX3_make : ByteArray := prog_5_method_10_code
def yX3_make : MethodName := ⟨RX3, "make", "(III)V"⟩
abbrev cX3_drop : ByteArray := prog_5_method_11_code
def yX3_drop : MethodName := ⟨RX3, "drop", "(I)V"⟩
abbrev cX3_move : ByteArray := prog_5_method_12_code
def yX3_move : MethodName := ⟨RX3, "move", "(IIIII)V"⟩
abbrev cX3_fold : ByteArray := prog_5_method_13_code
def yX3_fold : MethodName := ⟨RX3, "fold", "(J)J"⟩
def RX4 : String := "WashSails$Told"
def TX4 : u_T := fun k => match k with
  | 0 => ("WashSails$Told", "findings", "[I", true)
  | 1 => ("WashSails$Told", "finding", "I", false)
  | 2 => ("WashSails$Told", "asked", "I", false)
  | 3 => ("WashSails$Told", "upper", "J", false)
  | _ => ("WashSails$Told", "lower", "J", false)
def tyX4 : Nat → FieldType := fun k => match k with
  | 0 => .array .int
  | 1 => .int
  | 2 => .int
  | 3 => .long
  | _ => .long
abbrev wsX40 : List Cond := u_ws RX4 TX4 5
theorem nmX4 : ∀ a, a < 5 → ∀ b, b < 5 → a ≠ b → (TX4 a).2.1 ≠ (TX4 b).2.1 := by decide +kernel
theorem tyX4_ok : ∀ k, k < 5 → parseFieldDescriptor (TX4 k).2.2.1 = some (tyX4 k) := by decide +kernel
abbrev cX4_init : ByteArray := prog_6_method_1_code
def yX4_init : MethodName := ⟨RX4, "<init>", "()V"⟩
abbrev cX4_answer : ByteArray := prog_6_method_2_code
def yX4_answer : MethodName := ⟨RX4, "answer", "(I)I"⟩
abbrev cX4_refuse : ByteArray := prog_6_method_3_code
def yX4_refuse : MethodName := ⟨RX4, "refuse", "(I)I"⟩
abbrev cX4_tellWhole : ByteArray := prog_6_method_4_code
def yX4_tellWhole : MethodName := ⟨RX4, "tellWhole", "(J)V"⟩
abbrev cX4_tellShare : ByteArray := prog_6_method_5_code
def yX4_tellShare : MethodName := ⟨RX4, "tellShare", "(JJ)V"⟩
abbrev cX4_commonDivisor : ByteArray := prog_6_method_6_code
def yX4_commonDivisor : MethodName := ⟨RX4, "commonDivisor", "(JJ)J"⟩
def RX5 : String := "WashSails$Town"
def TX5 : u_T := fun k => match k with
  | 0 => ("WashSails$Town", "layout", "LWashSails$Layout;", true)
  | 1 => ("WashSails$Town", "deeds", "[I", true)
  | 2 => ("WashSails$Town", "wet", "[I", true)
  | 3 => ("WashSails$Town", "deedCount", "I", false)
  | 4 => ("WashSails$Town", "hung", "I", false)
  | 5 => ("WashSails$Town", "hour", "I", false)
  | 6 => ("WashSails$Town", "miles", "I", false)
  | _ => ("WashSails$Town", "turn", "I", false)
def tyX5 : Nat → FieldType := fun k => match k with
  | 0 => .object "WashSails$Layout"
  | 1 => .array .int
  | 2 => .array .int
  | 3 => .int
  | 4 => .int
  | 5 => .int
  | 6 => .int
  | _ => .int
abbrev wsX50 : List Cond := u_ws RX5 TX5 8
theorem nmX5 : ∀ a, a < 8 → ∀ b, b < 8 → a ≠ b → (TX5 a).2.1 ≠ (TX5 b).2.1 := by decide +kernel
theorem tyX5_ok : ∀ k, k < 8 → parseFieldDescriptor (TX5 k).2.2.1 = some (tyX5 k) := by decide +kernel
abbrev cX5_init : ByteArray := prog_7_method_1_code
def yX5_init : MethodName := ⟨RX5, "<init>", "()V"⟩
abbrev cX5_isEmpty : ByteArray := prog_7_method_2_code
def yX5_isEmpty : MethodName := ⟨RX5, "isEmpty", "()Z"⟩
abbrev cX5_isHung : ByteArray := prog_7_method_3_code
def yX5_isHung : MethodName := ⟨RX5, "isHung", "(I)Z"⟩
abbrev cX5_hasRoomFor : ByteArray := prog_7_method_4_code
def yX5_hasRoomFor : MethodName := ⟨RX5, "hasRoomFor", "(I)Z"⟩
abbrev cX5_windNow : ByteArray := prog_7_method_5_code
def yX5_windNow : MethodName := ⟨RX5, "windNow", "()I"⟩
abbrev cX5_windAhead : ByteArray := prog_7_method_6_code
def yX5_windAhead : MethodName := ⟨RX5, "windAhead", "(I)I"⟩
abbrev cX5_allWet : ByteArray := prog_7_method_7_code
def yX5_allWet : MethodName := ⟨RX5, "allWet", "()I"⟩
abbrev cX5_hoursToStorm : ByteArray := prog_7_method_8_code
def yX5_hoursToStorm : MethodName := ⟨RX5, "hoursToStorm", "()I"⟩
abbrev cX5_trait : ByteArray := prog_7_method_9_code
def yX5_trait : MethodName := ⟨RX5, "trait", "(II)I"⟩
abbrev cX5_act : ByteArray := prog_7_method_10_code
def yX5_act : MethodName := ⟨RX5, "act", "(I)V"⟩
abbrev cX5_passHour : ByteArray := prog_7_method_11_code
def yX5_passHour : MethodName := ⟨RX5, "passHour", "()V"⟩
abbrev cX5_replay : ByteArray := prog_7_method_12_code
def yX5_replay : MethodName := ⟨RX5, "replay", "(I)V"⟩
def RX6 : String := "WashSails$Voyage"
def TX6 : u_T := fun k => match k with
  | 0 => ("WashSails$Voyage", "bestPlan", "[I", true)
  | 1 => ("WashSails$Voyage", "bestMiles", "I", false)
  | 2 => ("WashSails$Voyage", "charts", "[LWashSails$Chart;", true)
  | 3 => ("WashSails$Voyage", "atMost", "[I", true)
  | 4 => ("WashSails$Voyage", "plan", "[I", true)
  | 5 => ("WashSails$Voyage", "found", "Z", false)
  | 6 => ("WashSails$Voyage", "hours", "I", false)
  | _ => ("WashSails$Voyage", "limit", "I", false)
def tyX6 : Nat → FieldType := fun k => match k with
  | 0 => .array .int
  | 1 => .int
  | 2 => .array (.object "WashSails$Chart")
  | 3 => .array .int
  | 4 => .array .int
  | 5 => .boolean
  | 6 => .int
  | _ => .int
abbrev wsX60 : List Cond := u_ws RX6 TX6 8
theorem nmX6 : ∀ a, a < 8 → ∀ b, b < 8 → a ≠ b → (TX6 a).2.1 ≠ (TX6 b).2.1 := by decide +kernel
theorem tyX6_ok : ∀ k, k < 8 → parseFieldDescriptor (TX6 k).2.2.1 = some (tyX6 k) := by decide +kernel
abbrev cX6_init : ByteArray := prog_8_method_1_code
def yX6_init : MethodName := ⟨RX6, "<init>", "()V"⟩
abbrev cX6_find : ByteArray := prog_8_method_2_code
def yX6_find : MethodName := ⟨RX6, "find", "(LWashSails$Town;II)Z"⟩
abbrev cX6_sailFrom : ByteArray := prog_8_method_3_code
def yX6_sailFrom : MethodName := ⟨RX6, "sailFrom", "(III)V"⟩
def RX7 : String := "WashSails"
def TX7 : u_T := fun k => match k with
  | 0 => ("WashSails", "rows", "LWashSails$Shelf;", true)
  | 1 => ("WashSails", "texts", "LWashSails$Shelf;", true)
  | 2 => ("WashSails", "reader", "LWashSails$Reader;", true)
  | 3 => ("WashSails", "town", "LWashSails$Town;", true)
  | 4 => ("WashSails", "kept", "LWashSails$Shelf;", true)
  | 5 => ("WashSails", "chart", "LWashSails$Chart;", true)
  | 6 => ("WashSails", "voyage", "LWashSails$Voyage;", true)
  | 7 => ("WashSails", "told", "LWashSails$Told;", true)
  | 8 => ("WashSails", "forecast", "[I", true)
  | 9 => ("WashSails", "calm", "[I", true)
  | _ => ("WashSails", "gusty", "[I", true)
def tyX7 : Nat → FieldType := fun k => match k with
  | 0 => .object "WashSails$Shelf"
  | 1 => .object "WashSails$Shelf"
  | 2 => .object "WashSails$Reader"
  | 3 => .object "WashSails$Town"
  | 4 => .object "WashSails$Shelf"
  | 5 => .object "WashSails$Chart"
  | 6 => .object "WashSails$Voyage"
  | 7 => .object "WashSails$Told"
  | 8 => .array .int
  | 9 => .array .int
  | _ => .array .int
abbrev wsX70 : List Cond := u_ws RX7 TX7 11
theorem nmX7 : ∀ a, a < 11 → ∀ b, b < 11 → a ≠ b → (TX7 a).2.1 ≠ (TX7 b).2.1 := by decide +kernel
theorem tyX7_ok : ∀ k, k < 11 → parseFieldDescriptor (TX7 k).2.2.1 = some (tyX7 k) := by decide +kernel
abbrev cX7_init : ByteArray := prog_1_method_1_code
def yX7_init : MethodName := ⟨RX7, "<init>", "()V"⟩
abbrev cX7_row : ByteArray := prog_1_method_2_code
def yX7_row : MethodName := ⟨RX7, "row", "(II)I"⟩
abbrev cX7_lay : ByteArray := prog_1_method_3_code
def yX7_lay : MethodName := ⟨RX7, "lay", "(III)I"⟩
abbrev cX7_at : ByteArray := prog_1_method_4_code
def yX7_at : MethodName := ⟨RX7, "at", "(II)I"⟩
abbrev cX7_tear : ByteArray := prog_1_method_5_code
def yX7_tear : MethodName := ⟨RX7, "tear", "(I)I"⟩
abbrev cX7_copy : ByteArray := prog_1_method_6_code
def yX7_copy : MethodName := ⟨RX7, "copy", "(IIIII)I"⟩
abbrev cX7_mean : ByteArray := prog_1_method_7_code
def yX7_mean : MethodName := ⟨RX7, "mean", "(I)I"⟩
abbrev cX7_text : ByteArray := prog_1_method_8_code
def yX7_text : MethodName := ⟨RX7, "text", "(II)I"⟩
abbrev cX7_put : ByteArray := prog_1_method_9_code
def yX7_put : MethodName := ⟨RX7, "put", "(III)I"⟩
abbrev cX7_fault : ByteArray := prog_1_method_10_code
def yX7_fault : MethodName := ⟨RX7, "fault", "(I)I"⟩
abbrev cX7_town : ByteArray := prog_1_method_11_code
def yX7_town : MethodName := ⟨RX7, "town", "(I)I"⟩
abbrev cX7_line : ByteArray := prog_1_method_12_code
def yX7_line : MethodName := ⟨RX7, "line", "(II)I"⟩
abbrev cX7_mark : ByteArray := prog_1_method_13_code
def yX7_mark : MethodName := ⟨RX7, "mark", "(II)I"⟩
abbrev cX7_wind : ByteArray := prog_1_method_14_code
def yX7_wind : MethodName := ⟨RX7, "wind", "(I)I"⟩
abbrev cX7_hang : ByteArray := prog_1_method_15_code
def yX7_hang : MethodName := ⟨RX7, "hang", "(I)I"⟩
abbrev cX7_take : ByteArray := prog_1_method_16_code
def yX7_take : MethodName := ⟨RX7, "take", "(I)I"⟩
abbrev cX7_hour : ByteArray := prog_1_method_17_code
def yX7_hour : MethodName := ⟨RX7, "hour", "()I"⟩
abbrev cX7_undo : ByteArray := prog_1_method_18_code
def yX7_undo : MethodName := ⟨RX7, "undo", "(I)I"⟩
abbrev cX7_keep : ByteArray := prog_1_method_19_code
def yX7_keep : MethodName := ⟨RX7, "keep", "(I)I"⟩
abbrev cX7_on : ByteArray := prog_1_method_20_code
def yX7_on : MethodName := ⟨RX7, "on", "(I)I"⟩
abbrev cX7_goes : ByteArray := prog_1_method_21_code
def yX7_goes : MethodName := ⟨RX7, "goes", "(I)I"⟩
abbrev cX7_even : ByteArray := prog_1_method_22_code
def yX7_even : MethodName := ⟨RX7, "even", "(I)I"⟩
abbrev cX7_fast : ByteArray := prog_1_method_23_code
def yX7_fast : MethodName := ⟨RX7, "fast", "(I)I"⟩
abbrev cX7_wet : ByteArray := prog_1_method_24_code
def yX7_wet : MethodName := ⟨RX7, "wet", "()I"⟩
abbrev cX7_sail : ByteArray := prog_1_method_25_code
def yX7_sail : MethodName := ⟨RX7, "sail", "(I)I"⟩
abbrev cX7_dry : ByteArray := prog_1_method_26_code
def yX7_dry : MethodName := ⟨RX7, "dry", "(I)I"⟩
abbrev cX7_far : ByteArray := prog_1_method_27_code
def yX7_far : MethodName := ⟨RX7, "far", "(III)I"⟩
abbrev cX7_soon : ByteArray := prog_1_method_28_code
def yX7_soon : MethodName := ⟨RX7, "soon", "(I)I"⟩
abbrev cX7_least : ByteArray := prog_1_method_29_code
def yX7_least : MethodName := ⟨RX7, "least", "(II)I"⟩
abbrev cX7_ways : ByteArray := prog_1_method_30_code
def yX7_ways : MethodName := ⟨RX7, "ways", "(II)I"⟩
abbrev cX7_kinds : ByteArray := prog_1_method_31_code
def yX7_kinds : MethodName := ⟨RX7, "kinds", "(II)I"⟩
abbrev cX7_areas : ByteArray := prog_1_method_32_code
def yX7_areas : MethodName := ⟨RX7, "areas", "(II)I"⟩
abbrev cX7_rival : ByteArray := prog_1_method_33_code
def yX7_rival : MethodName := ⟨RX7, "rival", "(I)I"⟩
abbrev cX7_mid : ByteArray := prog_1_method_34_code
def yX7_mid : MethodName := ⟨RX7, "mid", "(II)I"⟩
abbrev cX7_odds : ByteArray := prog_1_method_35_code
def yX7_odds : MethodName := ⟨RX7, "odds", "(III)I"⟩
abbrev cX7_lots : ByteArray := prog_1_method_36_code
def yX7_lots : MethodName := ⟨RX7, "lots", "(II)I"⟩
abbrev cX7_asked : ByteArray := prog_1_method_37_code
def yX7_asked : MethodName := ⟨RX7, "asked", "()I"⟩
abbrev cX7_upper : ByteArray := prog_1_method_38_code
def yX7_upper : MethodName := ⟨RX7, "upper", "()J"⟩
abbrev cX7_lower : ByteArray := prog_1_method_39_code
def yX7_lower : MethodName := ⟨RX7, "lower", "()J"⟩
abbrev cX7_count : ByteArray := prog_1_method_40_code
def yX7_count : MethodName := ⟨RX7, "count", "(I)I"⟩
abbrev cX7_miles : ByteArray := prog_1_method_41_code
def yX7_miles : MethodName := ⟨RX7, "miles", "()I"⟩
abbrev cX7_finding : ByteArray := prog_1_method_42_code
def yX7_finding : MethodName := ⟨RX7, "finding", "()I"⟩
abbrev cX7_findings : ByteArray := prog_1_method_43_code
def yX7_findings : MethodName := ⟨RX7, "findings", "(I)I"⟩
abbrev cX7_digest : ByteArray := prog_1_method_44_code
def yX7_digest : MethodName := ⟨RX7, "digest", "()J"⟩
abbrev cX7_makeOn : ByteArray := prog_1_method_45_code
def yX7_makeOn : MethodName := ⟨RX7, "makeOn", "(LWashSails$Shelf;III)I"⟩
abbrev cX7_planRefusal : ByteArray := prog_1_method_46_code
def yX7_planRefusal : MethodName := ⟨RX7, "planRefusal", "(I)I"⟩
abbrev cX7_pairsRefusal : ByteArray := prog_1_method_47_code
def yX7_pairsRefusal : MethodName := ⟨RX7, "pairsRefusal", "(II)I"⟩
abbrev cX7_pulledSo : ByteArray := prog_1_method_48_code
def yX7_pulledSo : MethodName := ⟨RX7, "pulledSo", "(III)Z"⟩
abbrev cX7_drySet : ByteArray := prog_1_method_49_code
def yX7_drySet : MethodName := ⟨RX7, "drySet", "([I)I"⟩
abbrev cX7_mostMilesBehind : ByteArray := prog_1_method_50_code
def yX7_mostMilesBehind : MethodName := ⟨RX7, "mostMilesBehind", "(II)I"⟩
abbrev cX7_foresee : ByteArray := prog_1_method_51_code
def yX7_foresee : MethodName := ⟨RX7, "foresee", "(I)V"⟩
abbrev cX7_milesByGusts : ByteArray := prog_1_method_52_code
def yX7_milesByGusts : MethodName := ⟨RX7, "milesByGusts", "(II)I"⟩
abbrev cX7_weightOfGusts : ByteArray := prog_1_method_53_code
def yX7_weightOfGusts : MethodName := ⟨RX7, "weightOfGusts", "(III)J"⟩
abbrev cX7_play : ByteArray := prog_1_method_54_code
def yX7_play : MethodName := ⟨RX7, "play", "(LWashSails$Chart;II)I"⟩
abbrev cX7_isA : ByteArray := prog_1_method_55_code
def yX7_isA : MethodName := ⟨RX7, "isA", "(II)Z"⟩
abbrev cX7_pull : ByteArray := prog_1_method_56_code
def yX7_pull : MethodName := ⟨RX7, "pull", "(III)I"⟩
abbrev cX7_weather : ByteArray := prog_1_method_57_code
def yX7_weather : MethodName := ⟨RX7, "weather", "([III)V"⟩
def RX8 : String := "WashSailsModel"
def TX8 : u_T := fun k => match k with
  | 0 => ("WashSailsModel", "finding", "I", false)
  | 1 => ("WashSailsModel", "findings", "[I", true)
  | 2 => ("WashSailsModel", "asked", "I", false)
  | 3 => ("WashSailsModel", "upper", "J", false)
  | 4 => ("WashSailsModel", "lower", "J", false)
  | 5 => ("WashSailsModel", "sizes", "[I", true)
  | 6 => ("WashSailsModel", "rows", "[I", true)
  | 7 => ("WashSailsModel", "moving", "[I", true)
  | 8 => ("WashSailsModel", "lengths", "[I", true)
  | 9 => ("WashSailsModel", "texts", "[I", true)
  | 10 => ("WashSailsModel", "many", "I", false)
  | 11 => ("WashSailsModel", "windMany", "I", false)
  | 12 => ("WashSailsModel", "winds", "[I", true)
  | 13 => ("WashSailsModel", "kinds", "[I", true)
  | 14 => ("WashSailsModel", "places", "[I", true)
  | 15 => ("WashSailsModel", "areas", "[I", true)
  | 16 => ("WashSailsModel", "linens", "[I", true)
  | 17 => ("WashSailsModel", "readAt", "I", false)
  | 18 => ("WashSailsModel", "readWinds", "I", false)
  | 19 => ("WashSailsModel", "readMany", "I", false)
  | 20 => ("WashSailsModel", "readWind", "[I", true)
  | 21 => ("WashSailsModel", "readLine", "[I", true)
  | 22 => ("WashSailsModel", "now", "I", false)
  | 23 => ("WashSailsModel", "gone", "I", false)
  | 24 => ("WashSailsModel", "turned", "I", false)
  | 25 => ("WashSailsModel", "out", "I", false)
  | 26 => ("WashSailsModel", "wets", "[I", true)
  | 27 => ("WashSailsModel", "deedMany", "I", false)
  | 28 => ("WashSailsModel", "notes", "[I", true)
  | 29 => ("WashSailsModel", "isThere", "[I", true)
  | 30 => ("WashSailsModel", "images", "[I", true)
  | 31 => ("WashSailsModel", "milesOf", "[I", true)
  | 32 => ("WashSailsModel", "turnOf", "[I", true)
  | 33 => ("WashSailsModel", "best", "[I", true)
  | 34 => ("WashSailsModel", "worth", "[I", true)
  | 35 => ("WashSailsModel", "worthThen", "[I", true)
  | _ => ("WashSailsModel", "h0", "J", false)
def tyX8 : Nat → FieldType := fun k => match k with
  | 0 => .int
  | 1 => .array .int
  | 2 => .int
  | 3 => .long
  | 4 => .long
  | 5 => .array .int
  | 6 => .array .int
  | 7 => .array .int
  | 8 => .array .int
  | 9 => .array .int
  | 10 => .int
  | 11 => .int
  | 12 => .array .int
  | 13 => .array .int
  | 14 => .array .int
  | 15 => .array .int
  | 16 => .array .int
  | 17 => .int
  | 18 => .int
  | 19 => .int
  | 20 => .array .int
  | 21 => .array .int
  | 22 => .int
  | 23 => .int
  | 24 => .int
  | 25 => .int
  | 26 => .array .int
  | 27 => .int
  | 28 => .array .int
  | 29 => .array .int
  | 30 => .array .int
  | 31 => .array .int
  | 32 => .array .int
  | 33 => .array .int
  | 34 => .array .int
  | 35 => .array .int
  | _ => .long
abbrev wsX80 : List Cond := u_ws RX8 TX8 37
theorem nmX8 : ∀ a, a < 37 → ∀ b, b < 37 → a ≠ b → (TX8 a).2.1 ≠ (TX8 b).2.1 := by decide +kernel
theorem tyX8_ok : ∀ k, k < 37 → parseFieldDescriptor (TX8 k).2.2.1 = some (tyX8 k) := by decide +kernel
abbrev cX8_init : ByteArray := prog_10_method_1_code
def yX8_init : MethodName := ⟨RX8, "<init>", "()V"⟩
abbrev cX8_in : ByteArray := prog_10_method_2_code
def yX8_in : MethodName := ⟨RX8, "in", "(III)Z"⟩
abbrev cX8_meet : ByteArray := prog_10_method_3_code
def yX8_meet : MethodName := ⟨RX8, "meet", "(I)I"⟩
abbrev cX8_ask : ByteArray := prog_10_method_4_code
def yX8_ask : MethodName := ⟨RX8, "ask", "(II)I"⟩
abbrev cX8_has : ByteArray := prog_10_method_5_code
def yX8_has : MethodName := ⟨RX8, "has", "(II)Z"⟩
abbrev cX8_greater : ByteArray := prog_10_method_6_code
def yX8_greater : MethodName := ⟨RX8, "greater", "(II)I"⟩
abbrev cX8_part : ByteArray := prog_10_method_7_code
def yX8_part : MethodName := ⟨RX8, "part", "(JJ)I"⟩
abbrev cX8_isRow : ByteArray := prog_10_method_8_code
def yX8_isRow : MethodName := ⟨RX8, "isRow", "(I)Z"⟩
abbrev cX8_isText : ByteArray := prog_10_method_9_code
def yX8_isText : MethodName := ⟨RX8, "isText", "(I)Z"⟩
abbrev cX8_askedRow : ByteArray := prog_10_method_10_code
def yX8_askedRow : MethodName := ⟨RX8, "askedRow", "(I)I"⟩
abbrev cX8_askedText : ByteArray := prog_10_method_11_code
def yX8_askedText : MethodName := ⟨RX8, "askedText", "(I)I"⟩
abbrev cX8_rowAt : ByteArray := prog_10_method_12_code
def yX8_rowAt : MethodName := ⟨RX8, "rowAt", "(II)I"⟩
abbrev cX8_setRow : ByteArray := prog_10_method_13_code
def yX8_setRow : MethodName := ⟨RX8, "setRow", "(III)V"⟩
abbrev cX8_row : ByteArray := prog_10_method_14_code
def yX8_row : MethodName := ⟨RX8, "row", "(II)I"⟩
abbrev cX8_at : ByteArray := prog_10_method_15_code
def yX8_at : MethodName := ⟨RX8, "at", "(II)I"⟩
abbrev cX8_lay : ByteArray := prog_10_method_16_code
def yX8_lay : MethodName := ⟨RX8, "lay", "(III)I"⟩
abbrev cX8_tear : ByteArray := prog_10_method_17_code
def yX8_tear : MethodName := ⟨RX8, "tear", "(I)I"⟩
abbrev cX8_copy : ByteArray := prog_10_method_18_code
def yX8_copy : MethodName := ⟨RX8, "copy", "(IIIII)I"⟩
abbrev cX8_mean : ByteArray := prog_10_method_19_code
def yX8_mean : MethodName := ⟨RX8, "mean", "(I)I"⟩
abbrev cX8_text : ByteArray := prog_10_method_20_code
def yX8_text : MethodName := ⟨RX8, "text", "(II)I"⟩
abbrev cX8_put : ByteArray := prog_10_method_21_code
def yX8_put : MethodName := ⟨RX8, "put", "(III)I"⟩
abbrev cX8_here : ByteArray := prog_10_method_22_code
def yX8_here : MethodName := ⟨RX8, "here", "(I)I"⟩
abbrev cX8_skip : ByteArray := prog_10_method_23_code
def yX8_skip : MethodName := ⟨RX8, "skip", "(I)V"⟩
abbrev cX8_figure : ByteArray := prog_10_method_24_code
def yX8_figure : MethodName := ⟨RX8, "figure", "(IIII)Z"⟩
abbrev cX8_readsWinds : ByteArray := prog_10_method_25_code
def yX8_readsWinds : MethodName := ⟨RX8, "readsWinds", "(I)Z"⟩
abbrev cX8_kindBy : ByteArray := prog_10_method_26_code
def yX8_kindBy : MethodName := ⟨RX8, "kindBy", "(I)I"⟩
abbrev cX8_readsLine : ByteArray := prog_10_method_27_code
def yX8_readsLine : MethodName := ⟨RX8, "readsLine", "(I)Z"⟩
abbrev cX8_readsTown : ByteArray := prog_10_method_28_code
def yX8_readsTown : MethodName := ⟨RX8, "readsTown", "(I)Z"⟩
abbrev cX8_goesOn : ByteArray := prog_10_method_29_code
def yX8_goesOn : MethodName := ⟨RX8, "goesOn", "(I)I"⟩
abbrev cX8_fault : ByteArray := prog_10_method_30_code
def yX8_fault : MethodName := ⟨RX8, "fault", "(I)I"⟩
abbrev cX8_town : ByteArray := prog_10_method_31_code
def yX8_town : MethodName := ⟨RX8, "town", "(I)I"⟩
abbrev cX8_isLine : ByteArray := prog_10_method_32_code
def yX8_isLine : MethodName := ⟨RX8, "isLine", "(I)Z"⟩
abbrev cX8_isSet : ByteArray := prog_10_method_33_code
def yX8_isSet : MethodName := ⟨RX8, "isSet", "(I)Z"⟩
abbrev cX8_windAt : ByteArray := prog_10_method_34_code
def yX8_windAt : MethodName := ⟨RX8, "windAt", "(I)I"⟩
abbrev cX8_pullBy : ByteArray := prog_10_method_35_code
def yX8_pullBy : MethodName := ⟨RX8, "pullBy", "(III)I"⟩
abbrev cX8_pullOf : ByteArray := prog_10_method_36_code
def yX8_pullOf : MethodName := ⟨RX8, "pullOf", "(II)I"⟩
abbrev cX8_milesBy : ByteArray := prog_10_method_37_code
def yX8_milesBy : MethodName := ⟨RX8, "milesBy", "(II)I"⟩
abbrev cX8_turnBy : ByteArray := prog_10_method_38_code
def yX8_turnBy : MethodName := ⟨RX8, "turnBy", "(II)I"⟩
abbrev cX8_linenOf : ByteArray := prog_10_method_39_code
def yX8_linenOf : MethodName := ⟨RX8, "linenOf", "(I)I"⟩
abbrev cX8_bits : ByteArray := prog_10_method_40_code
def yX8_bits : MethodName := ⟨RX8, "bits", "(I)I"⟩
abbrev cX8_write : ByteArray := prog_10_method_41_code
def yX8_write : MethodName := ⟨RX8, "write", "([II)V"⟩
abbrev cX8_read : ByteArray := prog_10_method_42_code
def yX8_read : MethodName := ⟨RX8, "read", "([II)V"⟩
abbrev cX8_note : ByteArray := prog_10_method_43_code
def yX8_note : MethodName := ⟨RX8, "note", "()V"⟩
abbrev cX8_wetBehind : ByteArray := prog_10_method_44_code
def yX8_wetBehind : MethodName := ⟨RX8, "wetBehind", "(II)I"⟩
abbrev cX8_pass : ByteArray := prog_10_method_45_code
def yX8_pass : MethodName := ⟨RX8, "pass", "(I)V"⟩
abbrev cX8_turnLine : ByteArray := prog_10_method_46_code
def yX8_turnLine : MethodName := ⟨RX8, "turnLine", "(I)V"⟩
abbrev cX8_hang : ByteArray := prog_10_method_47_code
def yX8_hang : MethodName := ⟨RX8, "hang", "(I)I"⟩
abbrev cX8_take : ByteArray := prog_10_method_48_code
def yX8_take : MethodName := ⟨RX8, "take", "(I)I"⟩
abbrev cX8_hour : ByteArray := prog_10_method_49_code
def yX8_hour : MethodName := ⟨RX8, "hour", "()I"⟩
abbrev cX8_undo : ByteArray := prog_10_method_50_code
def yX8_undo : MethodName := ⟨RX8, "undo", "(I)I"⟩
abbrev cX8_keep : ByteArray := prog_10_method_51_code
def yX8_keep : MethodName := ⟨RX8, "keep", "(I)I"⟩
abbrev cX8_on : ByteArray := prog_10_method_52_code
def yX8_on : MethodName := ⟨RX8, "on", "(I)I"⟩
abbrev cX8_lineOf : ByteArray := prog_10_method_53_code
def yX8_lineOf : MethodName := ⟨RX8, "lineOf", "(II)I"⟩
abbrev cX8_line : ByteArray := prog_10_method_54_code
def yX8_line : MethodName := ⟨RX8, "line", "(II)I"⟩
abbrev cX8_isA : ByteArray := prog_10_method_55_code
def yX8_isA : MethodName := ⟨RX8, "isA", "(II)Z"⟩
abbrev cX8_howMany : ByteArray := prog_10_method_56_code
def yX8_howMany : MethodName := ⟨RX8, "howMany", "(I)I"⟩
abbrev cX8_hoursTill : ByteArray := prog_10_method_57_code
def yX8_hoursTill : MethodName := ⟨RX8, "hoursTill", "()I"⟩
abbrev cX8_lesserOnes : ByteArray := prog_10_method_58_code
def yX8_lesserOnes : MethodName := ⟨RX8, "lesserOnes", "(I)I"⟩
abbrev cX8_mark : ByteArray := prog_10_method_59_code
def yX8_mark : MethodName := ⟨RX8, "mark", "(II)I"⟩
abbrev cX8_wind : ByteArray := prog_10_method_60_code
def yX8_wind : MethodName := ⟨RX8, "wind", "(I)I"⟩
abbrev cX8_goes : ByteArray := prog_10_method_61_code
def yX8_goes : MethodName := ⟨RX8, "goes", "(I)I"⟩
abbrev cX8_even : ByteArray := prog_10_method_62_code
def yX8_even : MethodName := ⟨RX8, "even", "(I)I"⟩
abbrev cX8_fast : ByteArray := prog_10_method_63_code
def yX8_fast : MethodName := ⟨RX8, "fast", "(I)I"⟩
abbrev cX8_wetOfAll : ByteArray := prog_10_method_64_code
def yX8_wetOfAll : MethodName := ⟨RX8, "wetOfAll", "()I"⟩
abbrev cX8_wet : ByteArray := prog_10_method_65_code
def yX8_wet : MethodName := ⟨RX8, "wet", "()I"⟩
abbrev cX8_askedPlan : ByteArray := prog_10_method_66_code
def yX8_askedPlan : MethodName := ⟨RX8, "askedPlan", "(I)I"⟩
abbrev cX8_sail : ByteArray := prog_10_method_67_code
def yX8_sail : MethodName := ⟨RX8, "sail", "(I)I"⟩
abbrev cX8_dry : ByteArray := prog_10_method_68_code
def yX8_dry : MethodName := ⟨RX8, "dry", "(I)I"⟩
abbrev cX8_setHours : ByteArray := prog_10_method_69_code
def yX8_setHours : MethodName := ⟨RX8, "setHours", "()V"⟩
abbrev cX8_isTurn : ByteArray := prog_10_method_70_code
def yX8_isTurn : MethodName := ⟨RX8, "isTurn", "(II)Z"⟩
abbrev cX8_farBy : ByteArray := prog_10_method_71_code
def yX8_farBy : MethodName := ⟨RX8, "farBy", "(II)I"⟩
abbrev cX8_far : ByteArray := prog_10_method_72_code
def yX8_far : MethodName := ⟨RX8, "far", "(III)I"⟩
abbrev cX8_mostOf : ByteArray := prog_10_method_73_code
def yX8_mostOf : MethodName := ⟨RX8, "mostOf", "(II)I"⟩
abbrev cX8_soon : ByteArray := prog_10_method_74_code
def yX8_soon : MethodName := ⟨RX8, "soon", "(I)I"⟩
abbrev cX8_least : ByteArray := prog_10_method_75_code
def yX8_least : MethodName := ⟨RX8, "least", "(II)I"⟩
abbrev cX8_ways : ByteArray := prog_10_method_76_code
def yX8_ways : MethodName := ⟨RX8, "ways", "(II)I"⟩
abbrev cX8_askedPulls : ByteArray := prog_10_method_77_code
def yX8_askedPulls : MethodName := ⟨RX8, "askedPulls", "(II)I"⟩
abbrev cX8_pullsSo : ByteArray := prog_10_method_78_code
def yX8_pullsSo : MethodName := ⟨RX8, "pullsSo", "(III)Z"⟩
abbrev cX8_kinds : ByteArray := prog_10_method_79_code
def yX8_kinds : MethodName := ⟨RX8, "kinds", "(II)I"⟩
abbrev cX8_areas : ByteArray := prog_10_method_80_code
def yX8_areas : MethodName := ⟨RX8, "areas", "(II)I"⟩
abbrev cX8_rival : ByteArray := prog_10_method_81_code
def yX8_rival : MethodName := ⟨RX8, "rival", "(I)I"⟩
abbrev cX8_power : ByteArray := prog_10_method_82_code
def yX8_power : MethodName := ⟨RX8, "power", "(JI)J"⟩
abbrev cX8_gustMiles : ByteArray := prog_10_method_83_code
def yX8_gustMiles : MethodName := ⟨RX8, "gustMiles", "(II)I"⟩
abbrev cX8_weightOf : ByteArray := prog_10_method_84_code
def yX8_weightOf : MethodName := ⟨RX8, "weightOf", "(III)J"⟩
abbrev cX8_mid : ByteArray := prog_10_method_85_code
def yX8_mid : MethodName := ⟨RX8, "mid", "(II)I"⟩
abbrev cX8_odds : ByteArray := prog_10_method_86_code
def yX8_odds : MethodName := ⟨RX8, "odds", "(III)I"⟩
abbrev cX8_lots : ByteArray := prog_10_method_87_code
def yX8_lots : MethodName := ⟨RX8, "lots", "(II)I"⟩
abbrev cX8_asked : ByteArray := prog_10_method_88_code
def yX8_asked : MethodName := ⟨RX8, "asked", "()I"⟩
abbrev cX8_upper : ByteArray := prog_10_method_89_code
def yX8_upper : MethodName := ⟨RX8, "upper", "()J"⟩
abbrev cX8_lower : ByteArray := prog_10_method_90_code
def yX8_lower : MethodName := ⟨RX8, "lower", "()J"⟩
abbrev cX8_there : ByteArray := prog_10_method_91_code
def yX8_there : MethodName := ⟨RX8, "there", "(I)I"⟩
abbrev cX8_tells : ByteArray := prog_10_method_92_code
def yX8_tells : MethodName := ⟨RX8, "tells", "(I)I"⟩
abbrev cX8_count : ByteArray := prog_10_method_93_code
def yX8_count : MethodName := ⟨RX8, "count", "(I)I"⟩
abbrev cX8_miles : ByteArray := prog_10_method_94_code
def yX8_miles : MethodName := ⟨RX8, "miles", "()I"⟩
abbrev cX8_finding : ByteArray := prog_10_method_95_code
def yX8_finding : MethodName := ⟨RX8, "finding", "()I"⟩
abbrev cX8_findings : ByteArray := prog_10_method_96_code
def yX8_findings : MethodName := ⟨RX8, "findings", "(I)I"⟩
abbrev cX8_mix : ByteArray := prog_10_method_97_code
def yX8_mix : MethodName := ⟨RX8, "mix", "(I)V"⟩
abbrev cX8_mixTown : ByteArray := prog_10_method_98_code
def yX8_mixTown : MethodName := ⟨RX8, "mixTown", "()V"⟩
abbrev cX8_digest : ByteArray := prog_10_method_99_code
def yX8_digest : MethodName := ⟨RX8, "digest", "()J"⟩
def RJ6 : String := "java/lang/Integer"
def TJ6 : u_T := fun k => match k with
  | _ => ("", "", "", false)
def tyJ6 : Nat → FieldType := fun k => match k with
  | _ => .int
abbrev wsJ60 : List Cond := u_ws RJ6 TJ6 0
theorem nmJ6 : ∀ a, a < 0 → ∀ b, b < 0 → a ≠ b → (TJ6 a).2.1 ≠ (TJ6 b).2.1 := by decide +kernel
theorem tyJ6_ok : ∀ k, k < 0 → parseFieldDescriptor (TJ6 k).2.2.1 = some (tyJ6 k) := by decide +kernel
abbrev cJ6_bitCount_0f7a4 : ByteArray := prog_11_method_49_code
def yJ6_bitCount_0f7a4 : MethodName := ⟨RJ6, "bitCount", "(I)I"⟩
def RJ9 : String := "java/lang/Math"
def TJ9 : u_T := fun k => match k with
  | _ => ("", "", "", false)
def tyJ9 : Nat → FieldType := fun k => match k with
  | _ => .int
abbrev wsJ90 : List Cond := u_ws RJ9 TJ9 0
theorem nmJ9 : ∀ a, a < 0 → ∀ b, b < 0 → a ≠ b → (TJ9 a).2.1 ≠ (TJ9 b).2.1 := by decide +kernel
theorem tyJ9_ok : ∀ k, k < 0 → parseFieldDescriptor (TJ9 k).2.2.1 = some (tyJ9 k) := by decide +kernel
abbrev cJ9_abs_067f4 : ByteArray := prog_12_method_61_code
def yJ9_abs_067f4 : MethodName := ⟨RJ9, "abs", "(J)J"⟩
abbrev cJ9_max_7cf53 : ByteArray := prog_12_method_65_code
def yJ9_max_7cf53 : MethodName := ⟨RJ9, "max", "(II)I"⟩
abbrev cJ9_min_7cf53 : ByteArray := prog_12_method_69_code
def yJ9_min_7cf53 : MethodName := ⟨RJ9, "min", "(II)I"⟩
def RJ10 : String := "java/lang/System"
def TJ10 : u_T := fun k => match k with
  | _ => ("", "", "", false)
def tyJ10 : Nat → FieldType := fun k => match k with
  | _ => .int
abbrev wsJ100 : List Cond := u_ws RJ10 TJ10 0
theorem nmJ10 : ∀ a, a < 0 → ∀ b, b < 0 → a ≠ b → (TJ10 a).2.1 ≠ (TJ10 b).2.1 := by decide +kernel
theorem tyJ10_ok : ∀ k, k < 0 → parseFieldDescriptor (TJ10 k).2.2.1 = some (tyJ10 k) := by decide +kernel
def RJ7 : String := "java/util/Arrays"
def TJ7 : u_T := fun k => match k with
  | _ => ("", "", "", false)
def tyJ7 : Nat → FieldType := fun k => match k with
  | _ => .int
abbrev wsJ70 : List Cond := u_ws RJ7 TJ7 0
theorem nmJ7 : ∀ a, a < 0 → ∀ b, b < 0 → a ≠ b → (TJ7 a).2.1 ≠ (TJ7 b).2.1 := by decide +kernel
theorem tyJ7_ok : ∀ k, k < 0 → parseFieldDescriptor (TJ7 k).2.2.1 = some (tyJ7 k) := by decide +kernel
abbrev cJ7_fill_53178 : ByteArray := prog_14_method_103_code
def yJ7_fill_53178 : MethodName := ⟨RJ7, "fill", "([II)V"⟩
def RL : String := "WashSailsLaw"
abbrev cL_law : ByteArray := code
def yL_law : MethodName := ⟨RL, "law", "([I)Z"⟩
abbrev vwCl : List vw_C := [(RX0, TX0, 4), (RX1, TX1, 7), (RX2, TX2, 2), (RX3, TX3, 3), (RX4, TX4, 5), (RX5, TX5, 8), (RX6, TX6, 8), (RX7, TX7, 11), (RX8, TX8, 37)]
