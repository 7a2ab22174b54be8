section
-- ===== PART A: goes FIRST, ahead of the names: the tables' words, and 'selects' of the private methods out of them =====
/-- a private method of a class that the tables say can be made, by its rows of tables_1 -/
def lw_okq (q : MethodName × Nat) : Prop := (q.1.cls ≠ "java/lang/invoke/MethodHandle" ∧ q.1.cls ≠ "java/lang/invoke/VarHandle") ∧ Cond.instantiable q.1.cls q.2 ∈ tables_1 ∧ Cond.privateMethod q.1 ∈ tables_1 ∧ Cond.instanceMethod q.1 ∈ tables_1
theorem lw_p0 : lw_okq (⟨"WashSails", "makeOn", "(LWashSails$Shelf;III)I"⟩, 11) := ⟨⟨by decide +kernel, by decide +kernel⟩, List.mem_of_getElem? (i := 15) (by decide +kernel), List.mem_of_getElem? (i := 272) (by decide +kernel), List.mem_of_getElem? (i := 273) (by decide +kernel)⟩
theorem lw_p1 : lw_okq (⟨"WashSails$Reader", "skipBlanks", "(LWashSails$Shelf;I)V"⟩, 2) := ⟨⟨by decide +kernel, by decide +kernel⟩, List.mem_of_getElem? (i := 46) (by decide +kernel), List.mem_of_getElem? (i := 367) (by decide +kernel), List.mem_of_getElem? (i := 368) (by decide +kernel)⟩
theorem lw_p2 : lw_okq (⟨"WashSails$Reader", "readWinds", "(LWashSails$Shelf;I)V"⟩, 2) := ⟨⟨by decide +kernel, by decide +kernel⟩, List.mem_of_getElem? (i := 46) (by decide +kernel), List.mem_of_getElem? (i := 372) (by decide +kernel), List.mem_of_getElem? (i := 373) (by decide +kernel)⟩
theorem lw_p3 : lw_okq (⟨"WashSails$Reader", "readLine", "(LWashSails$Shelf;I)Z"⟩, 2) := ⟨⟨by decide +kernel, by decide +kernel⟩, List.mem_of_getElem? (i := 46) (by decide +kernel), List.mem_of_getElem? (i := 377) (by decide +kernel), List.mem_of_getElem? (i := 378) (by decide +kernel)⟩
theorem lw_p4 : lw_okq (⟨"WashSails$Reader", "readFigure", "(LWashSails$Shelf;III)I"⟩, 2) := ⟨⟨by decide +kernel, by decide +kernel⟩, List.mem_of_getElem? (i := 46) (by decide +kernel), List.mem_of_getElem? (i := 386) (by decide +kernel), List.mem_of_getElem? (i := 387) (by decide +kernel)⟩
theorem lw_p5 : lw_okq (⟨"WashSails$Town", "passHour", "()V"⟩, 8) := ⟨⟨by decide +kernel, by decide +kernel⟩, List.mem_of_getElem? (i := 105) (by decide +kernel), List.mem_of_getElem? (i := 412) (by decide +kernel), List.mem_of_getElem? (i := 413) (by decide +kernel)⟩
theorem lw_p6 : lw_okq (⟨"WashSails", "drySet", "([I)I"⟩, 11) := ⟨⟨by decide +kernel, by decide +kernel⟩, List.mem_of_getElem? (i := 15) (by decide +kernel), List.mem_of_getElem? (i := 590) (by decide +kernel), List.mem_of_getElem? (i := 591) (by decide +kernel)⟩
theorem lw_p7 : lw_okq (⟨"WashSails", "planRefusal", "(I)I"⟩, 11) := ⟨⟨by decide +kernel, by decide +kernel⟩, List.mem_of_getElem? (i := 15) (by decide +kernel), List.mem_of_getElem? (i := 598) (by decide +kernel), List.mem_of_getElem? (i := 599) (by decide +kernel)⟩
theorem lw_p8 : lw_okq (⟨"WashSails$Voyage", "sailFrom", "(III)V"⟩, 8) := ⟨⟨by decide +kernel, by decide +kernel⟩, List.mem_of_getElem? (i := 171) (by decide +kernel), List.mem_of_getElem? (i := 626) (by decide +kernel), List.mem_of_getElem? (i := 627) (by decide +kernel)⟩
theorem lw_p9 : lw_okq (⟨"WashSails", "mostMilesBehind", "(II)I"⟩, 11) := ⟨⟨by decide +kernel, by decide +kernel⟩, List.mem_of_getElem? (i := 15) (by decide +kernel), List.mem_of_getElem? (i := 642) (by decide +kernel), List.mem_of_getElem? (i := 643) (by decide +kernel)⟩
theorem lw_p10 : lw_okq (⟨"WashSails", "pairsRefusal", "(II)I"⟩, 11) := ⟨⟨by decide +kernel, by decide +kernel⟩, List.mem_of_getElem? (i := 15) (by decide +kernel), List.mem_of_getElem? (i := 654) (by decide +kernel), List.mem_of_getElem? (i := 655) (by decide +kernel)⟩
theorem lw_p11 : lw_okq (⟨"WashSails", "pulledSo", "(III)Z"⟩, 11) := ⟨⟨by decide +kernel, by decide +kernel⟩, List.mem_of_getElem? (i := 15) (by decide +kernel), List.mem_of_getElem? (i := 658) (by decide +kernel), List.mem_of_getElem? (i := 659) (by decide +kernel)⟩
theorem lw_p12 : lw_okq (⟨"WashSails", "foresee", "(I)V"⟩, 11) := ⟨⟨by decide +kernel, by decide +kernel⟩, List.mem_of_getElem? (i := 15) (by decide +kernel), List.mem_of_getElem? (i := 677) (by decide +kernel), List.mem_of_getElem? (i := 678) (by decide +kernel)⟩
theorem lw_p13 : lw_okq (⟨"WashSails", "milesByGusts", "(II)I"⟩, 11) := ⟨⟨by decide +kernel, by decide +kernel⟩, List.mem_of_getElem? (i := 15) (by decide +kernel), List.mem_of_getElem? (i := 696) (by decide +kernel), List.mem_of_getElem? (i := 697) (by decide +kernel)⟩
theorem lw_p14 : lw_okq (⟨"WashSailsModel", "meet", "(I)I"⟩, 37) := ⟨⟨by decide +kernel, by decide +kernel⟩, List.mem_of_getElem? (i := 758) (by decide +kernel), List.mem_of_getElem? (i := 886) (by decide +kernel), List.mem_of_getElem? (i := 887) (by decide +kernel)⟩
theorem lw_p15 : lw_okq (⟨"WashSailsModel", "setRow", "(III)V"⟩, 37) := ⟨⟨by decide +kernel, by decide +kernel⟩, List.mem_of_getElem? (i := 758) (by decide +kernel), List.mem_of_getElem? (i := 890) (by decide +kernel), List.mem_of_getElem? (i := 891) (by decide +kernel)⟩
def lw_privs_1 : List (MethodName × Nat) := [(⟨"WashSails", "makeOn", "(LWashSails$Shelf;III)I"⟩, 11), (⟨"WashSails$Reader", "skipBlanks", "(LWashSails$Shelf;I)V"⟩, 2), (⟨"WashSails$Reader", "readWinds", "(LWashSails$Shelf;I)V"⟩, 2), (⟨"WashSails$Reader", "readLine", "(LWashSails$Shelf;I)Z"⟩, 2), (⟨"WashSails$Reader", "readFigure", "(LWashSails$Shelf;III)I"⟩, 2), (⟨"WashSails$Town", "passHour", "()V"⟩, 8), (⟨"WashSails", "drySet", "([I)I"⟩, 11), (⟨"WashSails", "planRefusal", "(I)I"⟩, 11), (⟨"WashSails$Voyage", "sailFrom", "(III)V"⟩, 8), (⟨"WashSails", "mostMilesBehind", "(II)I"⟩, 11), (⟨"WashSails", "pairsRefusal", "(II)I"⟩, 11), (⟨"WashSails", "pulledSo", "(III)Z"⟩, 11), (⟨"WashSails", "foresee", "(I)V"⟩, 11), (⟨"WashSails", "milesByGusts", "(II)I"⟩, 11), (⟨"WashSailsModel", "meet", "(I)I"⟩, 37), (⟨"WashSailsModel", "setRow", "(III)V"⟩, 37)]
theorem lw_r1 : ∀ q ∈ lw_privs_1, lw_okq q := List.forall_mem_cons.mpr ⟨lw_p0, List.forall_mem_cons.mpr ⟨lw_p1, List.forall_mem_cons.mpr ⟨lw_p2, List.forall_mem_cons.mpr ⟨lw_p3, List.forall_mem_cons.mpr ⟨lw_p4, List.forall_mem_cons.mpr ⟨lw_p5, List.forall_mem_cons.mpr ⟨lw_p6, List.forall_mem_cons.mpr ⟨lw_p7, List.forall_mem_cons.mpr ⟨lw_p8, List.forall_mem_cons.mpr ⟨lw_p9, List.forall_mem_cons.mpr ⟨lw_p10, List.forall_mem_cons.mpr ⟨lw_p11, List.forall_mem_cons.mpr ⟨lw_p12, List.forall_mem_cons.mpr ⟨lw_p13, List.forall_mem_cons.mpr ⟨lw_p14, List.forall_mem_cons.mpr ⟨lw_p15, fun _ h => absurd h List.not_mem_nil⟩⟩⟩⟩⟩⟩⟩⟩⟩⟩⟩⟩⟩⟩⟩⟩
theorem lw_p16 : lw_okq (⟨"WashSailsModel", "askedRow", "(I)I"⟩, 37) := ⟨⟨by decide +kernel, by decide +kernel⟩, List.mem_of_getElem? (i := 758) (by decide +kernel), List.mem_of_getElem? (i := 898) (by decide +kernel), List.mem_of_getElem? (i := 899) (by decide +kernel)⟩
theorem lw_p17 : lw_okq (⟨"WashSailsModel", "rowAt", "(II)I"⟩, 37) := ⟨⟨by decide +kernel, by decide +kernel⟩, List.mem_of_getElem? (i := 758) (by decide +kernel), List.mem_of_getElem? (i := 902) (by decide +kernel), List.mem_of_getElem? (i := 903) (by decide +kernel)⟩
theorem lw_p18 : lw_okq (⟨"WashSailsModel", "ask", "(II)I"⟩, 37) := ⟨⟨by decide +kernel, by decide +kernel⟩, List.mem_of_getElem? (i := 758) (by decide +kernel), List.mem_of_getElem? (i := 906) (by decide +kernel), List.mem_of_getElem? (i := 907) (by decide +kernel)⟩
theorem lw_p19 : lw_okq (⟨"WashSailsModel", "askedText", "(I)I"⟩, 37) := ⟨⟨by decide +kernel, by decide +kernel⟩, List.mem_of_getElem? (i := 758) (by decide +kernel), List.mem_of_getElem? (i := 938) (by decide +kernel), List.mem_of_getElem? (i := 939) (by decide +kernel)⟩
theorem lw_p20 : lw_okq (⟨"WashSailsModel", "goesOn", "(I)I"⟩, 37) := ⟨⟨by decide +kernel, by decide +kernel⟩, List.mem_of_getElem? (i := 758) (by decide +kernel), List.mem_of_getElem? (i := 946) (by decide +kernel), List.mem_of_getElem? (i := 947) (by decide +kernel)⟩
theorem lw_p21 : lw_okq (⟨"WashSailsModel", "readsTown", "(I)Z"⟩, 37) := ⟨⟨by decide +kernel, by decide +kernel⟩, List.mem_of_getElem? (i := 758) (by decide +kernel), List.mem_of_getElem? (i := 950) (by decide +kernel), List.mem_of_getElem? (i := 951) (by decide +kernel)⟩
theorem lw_p22 : lw_okq (⟨"WashSailsModel", "readsWinds", "(I)Z"⟩, 37) := ⟨⟨by decide +kernel, by decide +kernel⟩, List.mem_of_getElem? (i := 758) (by decide +kernel), List.mem_of_getElem? (i := 954) (by decide +kernel), List.mem_of_getElem? (i := 955) (by decide +kernel)⟩
theorem lw_p23 : lw_okq (⟨"WashSailsModel", "skip", "(I)V"⟩, 37) := ⟨⟨by decide +kernel, by decide +kernel⟩, List.mem_of_getElem? (i := 758) (by decide +kernel), List.mem_of_getElem? (i := 958) (by decide +kernel), List.mem_of_getElem? (i := 959) (by decide +kernel)⟩
theorem lw_p24 : lw_okq (⟨"WashSailsModel", "here", "(I)I"⟩, 37) := ⟨⟨by decide +kernel, by decide +kernel⟩, List.mem_of_getElem? (i := 758) (by decide +kernel), List.mem_of_getElem? (i := 962) (by decide +kernel), List.mem_of_getElem? (i := 963) (by decide +kernel)⟩
theorem lw_p25 : lw_okq (⟨"WashSailsModel", "readsLine", "(I)Z"⟩, 37) := ⟨⟨by decide +kernel, by decide +kernel⟩, List.mem_of_getElem? (i := 758) (by decide +kernel), List.mem_of_getElem? (i := 966) (by decide +kernel), List.mem_of_getElem? (i := 967) (by decide +kernel)⟩
theorem lw_p26 : lw_okq (⟨"WashSailsModel", "figure", "(IIII)Z"⟩, 37) := ⟨⟨by decide +kernel, by decide +kernel⟩, List.mem_of_getElem? (i := 758) (by decide +kernel), List.mem_of_getElem? (i := 973) (by decide +kernel), List.mem_of_getElem? (i := 974) (by decide +kernel)⟩
theorem lw_p27 : lw_okq (⟨"WashSailsModel", "isLine", "(I)Z"⟩, 37) := ⟨⟨by decide +kernel, by decide +kernel⟩, List.mem_of_getElem? (i := 758) (by decide +kernel), List.mem_of_getElem? (i := 985) (by decide +kernel), List.mem_of_getElem? (i := 986) (by decide +kernel)⟩
theorem lw_p28 : lw_okq (⟨"WashSailsModel", "turnLine", "(I)V"⟩, 37) := ⟨⟨by decide +kernel, by decide +kernel⟩, List.mem_of_getElem? (i := 758) (by decide +kernel), List.mem_of_getElem? (i := 992) (by decide +kernel), List.mem_of_getElem? (i := 993) (by decide +kernel)⟩
theorem lw_p29 : lw_okq (⟨"WashSailsModel", "note", "()V"⟩, 37) := ⟨⟨by decide +kernel, by decide +kernel⟩, List.mem_of_getElem? (i := 758) (by decide +kernel), List.mem_of_getElem? (i := 996) (by decide +kernel), List.mem_of_getElem? (i := 997) (by decide +kernel)⟩
theorem lw_p30 : lw_okq (⟨"WashSailsModel", "write", "([II)V"⟩, 37) := ⟨⟨by decide +kernel, by decide +kernel⟩, List.mem_of_getElem? (i := 758) (by decide +kernel), List.mem_of_getElem? (i := 1000) (by decide +kernel), List.mem_of_getElem? (i := 1001) (by decide +kernel)⟩
theorem lw_p31 : lw_okq (⟨"WashSailsModel", "pass", "(I)V"⟩, 37) := ⟨⟨by decide +kernel, by decide +kernel⟩, List.mem_of_getElem? (i := 758) (by decide +kernel), List.mem_of_getElem? (i := 1015) (by decide +kernel), List.mem_of_getElem? (i := 1016) (by decide +kernel)⟩
def lw_privs_2 : List (MethodName × Nat) := [(⟨"WashSailsModel", "askedRow", "(I)I"⟩, 37), (⟨"WashSailsModel", "rowAt", "(II)I"⟩, 37), (⟨"WashSailsModel", "ask", "(II)I"⟩, 37), (⟨"WashSailsModel", "askedText", "(I)I"⟩, 37), (⟨"WashSailsModel", "goesOn", "(I)I"⟩, 37), (⟨"WashSailsModel", "readsTown", "(I)Z"⟩, 37), (⟨"WashSailsModel", "readsWinds", "(I)Z"⟩, 37), (⟨"WashSailsModel", "skip", "(I)V"⟩, 37), (⟨"WashSailsModel", "here", "(I)I"⟩, 37), (⟨"WashSailsModel", "readsLine", "(I)Z"⟩, 37), (⟨"WashSailsModel", "figure", "(IIII)Z"⟩, 37), (⟨"WashSailsModel", "isLine", "(I)Z"⟩, 37), (⟨"WashSailsModel", "turnLine", "(I)V"⟩, 37), (⟨"WashSailsModel", "note", "()V"⟩, 37), (⟨"WashSailsModel", "write", "([II)V"⟩, 37), (⟨"WashSailsModel", "pass", "(I)V"⟩, 37)]
theorem lw_r2 : ∀ q ∈ lw_privs_2, lw_okq q := List.forall_mem_cons.mpr ⟨lw_p16, List.forall_mem_cons.mpr ⟨lw_p17, List.forall_mem_cons.mpr ⟨lw_p18, List.forall_mem_cons.mpr ⟨lw_p19, List.forall_mem_cons.mpr ⟨lw_p20, List.forall_mem_cons.mpr ⟨lw_p21, List.forall_mem_cons.mpr ⟨lw_p22, List.forall_mem_cons.mpr ⟨lw_p23, List.forall_mem_cons.mpr ⟨lw_p24, List.forall_mem_cons.mpr ⟨lw_p25, List.forall_mem_cons.mpr ⟨lw_p26, List.forall_mem_cons.mpr ⟨lw_p27, List.forall_mem_cons.mpr ⟨lw_p28, List.forall_mem_cons.mpr ⟨lw_p29, List.forall_mem_cons.mpr ⟨lw_p30, List.forall_mem_cons.mpr ⟨lw_p31, fun _ h => absurd h List.not_mem_nil⟩⟩⟩⟩⟩⟩⟩⟩⟩⟩⟩⟩⟩⟩⟩⟩
theorem lw_p32 : lw_okq (⟨"WashSailsModel", "windAt", "(I)I"⟩, 37) := ⟨⟨by decide +kernel, by decide +kernel⟩, List.mem_of_getElem? (i := 758) (by decide +kernel), List.mem_of_getElem? (i := 1019) (by decide +kernel), List.mem_of_getElem? (i := 1020) (by decide +kernel)⟩
theorem lw_p33 : lw_okq (⟨"WashSailsModel", "milesBy", "(II)I"⟩, 37) := ⟨⟨by decide +kernel, by decide +kernel⟩, List.mem_of_getElem? (i := 758) (by decide +kernel), List.mem_of_getElem? (i := 1023) (by decide +kernel), List.mem_of_getElem? (i := 1024) (by decide +kernel)⟩
theorem lw_p34 : lw_okq (⟨"WashSailsModel", "pullOf", "(II)I"⟩, 37) := ⟨⟨by decide +kernel, by decide +kernel⟩, List.mem_of_getElem? (i := 758) (by decide +kernel), List.mem_of_getElem? (i := 1027) (by decide +kernel), List.mem_of_getElem? (i := 1028) (by decide +kernel)⟩
theorem lw_p35 : lw_okq (⟨"WashSailsModel", "turnBy", "(II)I"⟩, 37) := ⟨⟨by decide +kernel, by decide +kernel⟩, List.mem_of_getElem? (i := 758) (by decide +kernel), List.mem_of_getElem? (i := 1034) (by decide +kernel), List.mem_of_getElem? (i := 1035) (by decide +kernel)⟩
theorem lw_p36 : lw_okq (⟨"WashSailsModel", "wetBehind", "(II)I"⟩, 37) := ⟨⟨by decide +kernel, by decide +kernel⟩, List.mem_of_getElem? (i := 758) (by decide +kernel), List.mem_of_getElem? (i := 1038) (by decide +kernel), List.mem_of_getElem? (i := 1039) (by decide +kernel)⟩
theorem lw_p37 : lw_okq (⟨"WashSailsModel", "part", "(JJ)I"⟩, 37) := ⟨⟨by decide +kernel, by decide +kernel⟩, List.mem_of_getElem? (i := 758) (by decide +kernel), List.mem_of_getElem? (i := 1042) (by decide +kernel), List.mem_of_getElem? (i := 1043) (by decide +kernel)⟩
theorem lw_p38 : lw_okq (⟨"WashSailsModel", "read", "([II)V"⟩, 37) := ⟨⟨by decide +kernel, by decide +kernel⟩, List.mem_of_getElem? (i := 758) (by decide +kernel), List.mem_of_getElem? (i := 1050) (by decide +kernel), List.mem_of_getElem? (i := 1051) (by decide +kernel)⟩
theorem lw_p39 : lw_okq (⟨"WashSailsModel", "lineOf", "(II)I"⟩, 37) := ⟨⟨by decide +kernel, by decide +kernel⟩, List.mem_of_getElem? (i := 758) (by decide +kernel), List.mem_of_getElem? (i := 1066) (by decide +kernel), List.mem_of_getElem? (i := 1067) (by decide +kernel)⟩
theorem lw_p40 : lw_okq (⟨"WashSailsModel", "hoursTill", "()I"⟩, 37) := ⟨⟨by decide +kernel, by decide +kernel⟩, List.mem_of_getElem? (i := 758) (by decide +kernel), List.mem_of_getElem? (i := 1077) (by decide +kernel), List.mem_of_getElem? (i := 1078) (by decide +kernel)⟩
theorem lw_p41 : lw_okq (⟨"WashSailsModel", "lesserOnes", "(I)I"⟩, 37) := ⟨⟨by decide +kernel, by decide +kernel⟩, List.mem_of_getElem? (i := 758) (by decide +kernel), List.mem_of_getElem? (i := 1081) (by decide +kernel), List.mem_of_getElem? (i := 1082) (by decide +kernel)⟩
theorem lw_p42 : lw_okq (⟨"WashSailsModel", "isSet", "(I)Z"⟩, 37) := ⟨⟨by decide +kernel, by decide +kernel⟩, List.mem_of_getElem? (i := 758) (by decide +kernel), List.mem_of_getElem? (i := 1093) (by decide +kernel), List.mem_of_getElem? (i := 1094) (by decide +kernel)⟩
theorem lw_p43 : lw_okq (⟨"WashSailsModel", "linenOf", "(I)I"⟩, 37) := ⟨⟨by decide +kernel, by decide +kernel⟩, List.mem_of_getElem? (i := 758) (by decide +kernel), List.mem_of_getElem? (i := 1101) (by decide +kernel), List.mem_of_getElem? (i := 1102) (by decide +kernel)⟩
theorem lw_p44 : lw_okq (⟨"WashSailsModel", "wetOfAll", "()I"⟩, 37) := ⟨⟨by decide +kernel, by decide +kernel⟩, List.mem_of_getElem? (i := 758) (by decide +kernel), List.mem_of_getElem? (i := 1113) (by decide +kernel), List.mem_of_getElem? (i := 1114) (by decide +kernel)⟩
theorem lw_p45 : lw_okq (⟨"WashSailsModel", "askedPlan", "(I)I"⟩, 37) := ⟨⟨by decide +kernel, by decide +kernel⟩, List.mem_of_getElem? (i := 758) (by decide +kernel), List.mem_of_getElem? (i := 1121) (by decide +kernel), List.mem_of_getElem? (i := 1122) (by decide +kernel)⟩
theorem lw_p46 : lw_okq (⟨"WashSailsModel", "setHours", "()V"⟩, 37) := ⟨⟨by decide +kernel, by decide +kernel⟩, List.mem_of_getElem? (i := 758) (by decide +kernel), List.mem_of_getElem? (i := 1133) (by decide +kernel), List.mem_of_getElem? (i := 1134) (by decide +kernel)⟩
theorem lw_p47 : lw_okq (⟨"WashSailsModel", "farBy", "(II)I"⟩, 37) := ⟨⟨by decide +kernel, by decide +kernel⟩, List.mem_of_getElem? (i := 758) (by decide +kernel), List.mem_of_getElem? (i := 1137) (by decide +kernel), List.mem_of_getElem? (i := 1138) (by decide +kernel)⟩
def lw_privs_3 : List (MethodName × Nat) := [(⟨"WashSailsModel", "windAt", "(I)I"⟩, 37), (⟨"WashSailsModel", "milesBy", "(II)I"⟩, 37), (⟨"WashSailsModel", "pullOf", "(II)I"⟩, 37), (⟨"WashSailsModel", "turnBy", "(II)I"⟩, 37), (⟨"WashSailsModel", "wetBehind", "(II)I"⟩, 37), (⟨"WashSailsModel", "part", "(JJ)I"⟩, 37), (⟨"WashSailsModel", "read", "([II)V"⟩, 37), (⟨"WashSailsModel", "lineOf", "(II)I"⟩, 37), (⟨"WashSailsModel", "hoursTill", "()I"⟩, 37), (⟨"WashSailsModel", "lesserOnes", "(I)I"⟩, 37), (⟨"WashSailsModel", "isSet", "(I)Z"⟩, 37), (⟨"WashSailsModel", "linenOf", "(I)I"⟩, 37), (⟨"WashSailsModel", "wetOfAll", "()I"⟩, 37), (⟨"WashSailsModel", "askedPlan", "(I)I"⟩, 37), (⟨"WashSailsModel", "setHours", "()V"⟩, 37), (⟨"WashSailsModel", "farBy", "(II)I"⟩, 37)]
theorem lw_r3 : ∀ q ∈ lw_privs_3, lw_okq q := List.forall_mem_cons.mpr ⟨lw_p32, List.forall_mem_cons.mpr ⟨lw_p33, List.forall_mem_cons.mpr ⟨lw_p34, List.forall_mem_cons.mpr ⟨lw_p35, List.forall_mem_cons.mpr ⟨lw_p36, List.forall_mem_cons.mpr ⟨lw_p37, List.forall_mem_cons.mpr ⟨lw_p38, List.forall_mem_cons.mpr ⟨lw_p39, List.forall_mem_cons.mpr ⟨lw_p40, List.forall_mem_cons.mpr ⟨lw_p41, List.forall_mem_cons.mpr ⟨lw_p42, List.forall_mem_cons.mpr ⟨lw_p43, List.forall_mem_cons.mpr ⟨lw_p44, List.forall_mem_cons.mpr ⟨lw_p45, List.forall_mem_cons.mpr ⟨lw_p46, List.forall_mem_cons.mpr ⟨lw_p47, fun _ h => absurd h List.not_mem_nil⟩⟩⟩⟩⟩⟩⟩⟩⟩⟩⟩⟩⟩⟩⟩⟩
theorem lw_p48 : lw_okq (⟨"WashSailsModel", "mostOf", "(II)I"⟩, 37) := ⟨⟨by decide +kernel, by decide +kernel⟩, List.mem_of_getElem? (i := 758) (by decide +kernel), List.mem_of_getElem? (i := 1149) (by decide +kernel), List.mem_of_getElem? (i := 1150) (by decide +kernel)⟩
theorem lw_p49 : lw_okq (⟨"WashSailsModel", "askedPulls", "(II)I"⟩, 37) := ⟨⟨by decide +kernel, by decide +kernel⟩, List.mem_of_getElem? (i := 758) (by decide +kernel), List.mem_of_getElem? (i := 1168) (by decide +kernel), List.mem_of_getElem? (i := 1169) (by decide +kernel)⟩
theorem lw_p50 : lw_okq (⟨"WashSailsModel", "pullsSo", "(III)Z"⟩, 37) := ⟨⟨by decide +kernel, by decide +kernel⟩, List.mem_of_getElem? (i := 758) (by decide +kernel), List.mem_of_getElem? (i := 1172) (by decide +kernel), List.mem_of_getElem? (i := 1173) (by decide +kernel)⟩
theorem lw_p51 : lw_okq (⟨"WashSailsModel", "gustMiles", "(II)I"⟩, 37) := ⟨⟨by decide +kernel, by decide +kernel⟩, List.mem_of_getElem? (i := 758) (by decide +kernel), List.mem_of_getElem? (i := 1188) (by decide +kernel), List.mem_of_getElem? (i := 1189) (by decide +kernel)⟩
theorem lw_p52 : lw_okq (⟨"WashSailsModel", "weightOf", "(III)J"⟩, 37) := ⟨⟨by decide +kernel, by decide +kernel⟩, List.mem_of_getElem? (i := 758) (by decide +kernel), List.mem_of_getElem? (i := 1192) (by decide +kernel), List.mem_of_getElem? (i := 1193) (by decide +kernel)⟩
theorem lw_p53 : lw_okq (⟨"WashSailsModel", "tells", "(I)I"⟩, 37) := ⟨⟨by decide +kernel, by decide +kernel⟩, List.mem_of_getElem? (i := 758) (by decide +kernel), List.mem_of_getElem? (i := 1227) (by decide +kernel), List.mem_of_getElem? (i := 1228) (by decide +kernel)⟩
theorem lw_p54 : lw_okq (⟨"WashSailsModel", "howMany", "(I)I"⟩, 37) := ⟨⟨by decide +kernel, by decide +kernel⟩, List.mem_of_getElem? (i := 758) (by decide +kernel), List.mem_of_getElem? (i := 1231) (by decide +kernel), List.mem_of_getElem? (i := 1232) (by decide +kernel)⟩
theorem lw_p55 : lw_okq (⟨"WashSailsModel", "there", "(I)I"⟩, 37) := ⟨⟨by decide +kernel, by decide +kernel⟩, List.mem_of_getElem? (i := 758) (by decide +kernel), List.mem_of_getElem? (i := 1235) (by decide +kernel), List.mem_of_getElem? (i := 1236) (by decide +kernel)⟩
theorem lw_p56 : lw_okq (⟨"WashSailsModel", "mix", "(I)V"⟩, 37) := ⟨⟨by decide +kernel, by decide +kernel⟩, List.mem_of_getElem? (i := 758) (by decide +kernel), List.mem_of_getElem? (i := 1256) (by decide +kernel), List.mem_of_getElem? (i := 1257) (by decide +kernel)⟩
theorem lw_p57 : lw_okq (⟨"WashSailsModel", "mixTown", "()V"⟩, 37) := ⟨⟨by decide +kernel, by decide +kernel⟩, List.mem_of_getElem? (i := 758) (by decide +kernel), List.mem_of_getElem? (i := 1261) (by decide +kernel), List.mem_of_getElem? (i := 1262) (by decide +kernel)⟩
def lw_privs_4 : List (MethodName × Nat) := [(⟨"WashSailsModel", "mostOf", "(II)I"⟩, 37), (⟨"WashSailsModel", "askedPulls", "(II)I"⟩, 37), (⟨"WashSailsModel", "pullsSo", "(III)Z"⟩, 37), (⟨"WashSailsModel", "gustMiles", "(II)I"⟩, 37), (⟨"WashSailsModel", "weightOf", "(III)J"⟩, 37), (⟨"WashSailsModel", "tells", "(I)I"⟩, 37), (⟨"WashSailsModel", "howMany", "(I)I"⟩, 37), (⟨"WashSailsModel", "there", "(I)I"⟩, 37), (⟨"WashSailsModel", "mix", "(I)V"⟩, 37), (⟨"WashSailsModel", "mixTown", "()V"⟩, 37)]
theorem lw_r4 : ∀ q ∈ lw_privs_4, lw_okq q := List.forall_mem_cons.mpr ⟨lw_p48, List.forall_mem_cons.mpr ⟨lw_p49, List.forall_mem_cons.mpr ⟨lw_p50, List.forall_mem_cons.mpr ⟨lw_p51, List.forall_mem_cons.mpr ⟨lw_p52, List.forall_mem_cons.mpr ⟨lw_p53, List.forall_mem_cons.mpr ⟨lw_p54, List.forall_mem_cons.mpr ⟨lw_p55, List.forall_mem_cons.mpr ⟨lw_p56, List.forall_mem_cons.mpr ⟨lw_p57, fun _ h => absurd h List.not_mem_nil⟩⟩⟩⟩⟩⟩⟩⟩⟩⟩
def lw_privs : List (MethodName × Nat) := lw_privs_1 ++ (lw_privs_2 ++ (lw_privs_3 ++ (lw_privs_4)))
def lw_tbl : List Cond := k2_sels lw_privs ++ tables_1
theorem lw_privs_ok : ∀ q ∈ lw_privs, lw_okq q := by
  show ∀ q ∈ lw_privs_1 ++ (lw_privs_2 ++ (lw_privs_3 ++ (lw_privs_4))), lw_okq q
  exact List.forall_mem_append.mpr ⟨lw_r1, List.forall_mem_append.mpr ⟨lw_r2, List.forall_mem_append.mpr ⟨lw_r3, lw_r4⟩⟩⟩
/-! ===== BEGIN printed: names, fields, word lists, decode rows ===== -/
def RX0 : String := "WashSails$Chart"
def TX0 : u_T := fun k => match k with
  | 0 => ("WashSails$Chart", "pulls", "[I", true)
  | 1 => ("WashSails$Chart", "turns", "[I", true)
  | 2 => ("WashSails$Chart", "lines", "I", false)
  | _ => ("WashSails$Chart", "sets", "I", false)
def tyX0 : Nat → FieldType := fun k => match k with
  | 0 => .array .int
  | 1 => .array .int
  | 2 => .int
  | _ => .int
abbrev wsX00 : List Cond := u_ws RX0 TX0 4
theorem nmX0 : ∀ a, a < 4 → ∀ b, b < 4 → a ≠ b → (TX0 a).2.1 ≠ (TX0 b).2.1 := by decide +kernel
theorem tyX0_ok : ∀ k, k < 4 → parseFieldDescriptor (TX0 k).2.2.1 = some (tyX0 k) := by decide +kernel
abbrev cX0_init : ByteArray := prog_2_method_1_code
def yX0_init : MethodName := ⟨RX0, "<init>", "()V"⟩
abbrev cX0_draw : ByteArray := prog_2_method_2_code
def yX0_draw : MethodName := ⟨RX0, "draw", "(LWashSails$Layout;I)V"⟩
abbrev cX0_milesOf : ByteArray := prog_2_method_3_code
def yX0_milesOf : MethodName := ⟨RX0, "milesOf", "(I)I"⟩
abbrev cX0_turnBy : ByteArray := prog_2_method_4_code
def yX0_turnBy : MethodName := ⟨RX0, "turnBy", "(I)I"⟩
abbrev cX0_fits : ByteArray := prog_2_method_5_code
def yX0_fits : MethodName := ⟨RX0, "fits", "(III)Z"⟩
def RX1 : String := "WashSails$Layout"
def TX1 : u_T := fun k => match k with
  | 0 => ("WashSails$Layout", "kinds", "[I", true)
  | 1 => ("WashSails$Layout", "places", "[I", true)
  | 2 => ("WashSails$Layout", "areas", "[I", true)
  | 3 => ("WashSails$Layout", "linens", "[I", true)
  | 4 => ("WashSails$Layout", "winds", "[I", true)
  | 5 => ("WashSails$Layout", "lines", "I", false)
  | _ => ("WashSails$Layout", "hours", "I", false)
def tyX1 : Nat → FieldType := fun k => match k with
  | 0 => .array .int
  | 1 => .array .int
  | 2 => .array .int
  | 3 => .array .int
  | 4 => .array .int
  | 5 => .int
  | _ => .int
abbrev wsX10 : List Cond := u_ws RX1 TX1 7
theorem nmX1 : ∀ a, a < 7 → ∀ b, b < 7 → a ≠ b → (TX1 a).2.1 ≠ (TX1 b).2.1 := by decide +kernel
theorem tyX1_ok : ∀ k, k < 7 → parseFieldDescriptor (TX1 k).2.2.1 = some (tyX1 k) := by decide +kernel
abbrev cX1_init : ByteArray := prog_3_method_1_code
def yX1_init : MethodName := ⟨RX1, "<init>", "()V"⟩
abbrev cX1_copyFrom : ByteArray := prog_3_method_2_code
def yX1_copyFrom : MethodName := ⟨RX1, "copyFrom", "(LWashSails$Layout;)V"⟩
abbrev cX1_hasLine : ByteArray := prog_3_method_3_code
def yX1_hasLine : MethodName := ⟨RX1, "hasLine", "(I)Z"⟩
abbrev cX1_allLines : ByteArray := prog_3_method_4_code
def yX1_allLines : MethodName := ⟨RX1, "allLines", "()I"⟩
abbrev cX1_hasSet : ByteArray := prog_3_method_5_code
def yX1_hasSet : MethodName := ⟨RX1, "hasSet", "(I)Z"⟩
abbrev cX1_windAt : ByteArray := prog_3_method_6_code
def yX1_windAt : MethodName := ⟨RX1, "windAt", "(I)I"⟩
abbrev cX1_pullOf : ByteArray := prog_3_method_7_code
def yX1_pullOf : MethodName := ⟨RX1, "pullOf", "(II)I"⟩
abbrev cX1_milesOf : ByteArray := prog_3_method_8_code
def yX1_milesOf : MethodName := ⟨RX1, "milesOf", "(II)I"⟩
abbrev cX1_turnOf : ByteArray := prog_3_method_9_code
def yX1_turnOf : MethodName := ⟨RX1, "turnOf", "(II)I"⟩
abbrev cX1_mostMilesOf : ByteArray := prog_3_method_10_code
def yX1_mostMilesOf : MethodName := ⟨RX1, "mostMilesOf", "(II)I"⟩
abbrev cX1_linenOf : ByteArray := prog_3_method_11_code
def yX1_linenOf : MethodName := ⟨RX1, "linenOf", "(I)I"⟩
abbrev cX1_howManyAre : ByteArray := prog_3_method_12_code
def yX1_howManyAre : MethodName := ⟨RX1, "howManyAre", "(I)I"⟩
abbrev cX1_othersNoWider : ByteArray := prog_3_method_13_code
def yX1_othersNoWider : MethodName := ⟨RX1, "othersNoWider", "(I)I"⟩
def RX2 : String := "WashSails$Reader"
def TX2 : u_T := fun k => match k with
  | 0 => ("WashSails$Reader", "draft", "LWashSails$Layout;", true)
  | _ => ("WashSails$Reader", "place", "I", false)
def tyX2 : Nat → FieldType := fun k => match k with
  | 0 => .object "WashSails$Layout"
  | _ => .int
abbrev wsX20 : List Cond := u_ws RX2 TX2 2
theorem nmX2 : ∀ a, a < 2 → ∀ b, b < 2 → a ≠ b → (TX2 a).2.1 ≠ (TX2 b).2.1 := by decide +kernel
theorem tyX2_ok : ∀ k, k < 2 → parseFieldDescriptor (TX2 k).2.2.1 = some (tyX2 k) := by decide +kernel
abbrev cX2_init : ByteArray := prog_4_method_1_code
def yX2_init : MethodName := ⟨RX2, "<init>", "()V"⟩
abbrev cX2_faultOf : ByteArray := prog_4_method_2_code
def yX2_faultOf : MethodName := ⟨RX2, "faultOf", "(LWashSails$Shelf;I)I"⟩
abbrev cX2_skipBlanks : ByteArray := prog_4_method_3_code
def yX2_skipBlanks : MethodName := ⟨RX2, "skipBlanks", "(LWashSails$Shelf;I)V"⟩
abbrev cX2_readWinds : ByteArray := prog_4_method_4_code
def yX2_readWinds : MethodName := ⟨RX2, "readWinds", "(LWashSails$Shelf;I)V"⟩
abbrev cX2_readLine : ByteArray := prog_4_method_5_code
def yX2_readLine : MethodName := ⟨RX2, "readLine", "(LWashSails$Shelf;I)Z"⟩
abbrev cX2_readFigure : ByteArray := prog_4_method_6_code
def yX2_readFigure : MethodName := ⟨RX2, "readFigure", "(LWashSails$Shelf;III)I"⟩
abbrev cX2_kindOf : ByteArray := prog_4_method_7_code
def yX2_kindOf : MethodName := ⟨RX2, "kindOf", "(I)I"⟩
def RX3 : String := "WashSails$Shelf"
def TX3 : u_T := fun k => match k with
  | 0 => ("WashSails$Shelf", "room", "I", true)
  | 1 => ("WashSails$Shelf", "cells", "[[I", true)
  | _ => ("WashSails$Shelf", "sizes", "[I", true)
def tyX3 : Nat → FieldType := fun k => match k with
  | 0 => .int
  | 1 => .array (.array .int)
  | _ => .array .int
abbrev wsX30 : List Cond := u_ws RX3 TX3 3
theorem nmX3 : ∀ a, a < 3 → ∀ b, b < 3 → a ≠ b → (TX3 a).2.1 ≠ (TX3 b).2.1 := by decide +kernel
theorem tyX3_ok : ∀ k, k < 3 → parseFieldDescriptor (TX3 k).2.2.1 = some (tyX3 k) := by decide +kernel
abbrev cX3_init : ByteArray := prog_5_method_1_code
def yX3_init : MethodName := ⟨RX3, "<init>", "(II)V"⟩
abbrev cX3_has : ByteArray := prog_5_method_2_code
def yX3_has : MethodName := ⟨RX3, "has", "(I)Z"⟩
abbrev cX3_isMissing : ByteArray := prog_5_method_3_code
def yX3_isMissing : MethodName := ⟨RX3, "isMissing", "(I)Z"⟩
abbrev cX3_sizeOf : ByteArray := prog_5_method_4_code
def yX3_sizeOf : MethodName := ⟨RX3, "sizeOf", "(I)I"⟩
abbrev cX3_howMany : ByteArray := prog_5_method_5_code
def yX3_howMany : MethodName := ⟨RX3, "howMany", "()I"⟩
abbrev cX3_hasPlaces : ByteArray := prog_5_method_6_code
def yX3_hasPlaces : MethodName := ⟨RX3, "hasPlaces", "(III)Z"⟩
abbrev cX3_findingAt : ByteArray := prog_5_method_7_code
def yX3_findingAt : MethodName := ⟨RX3, "findingAt", "(II)I"⟩
abbrev cX3_valueAt : ByteArray := prog_5_method_8_code
def yX3_valueAt : MethodName := ⟨RX3, "valueAt", "(II)I"⟩
abbrev cX3_change : ByteArray := prog_5_method_9_code
def yX3_change : MethodName := ⟨RX3, "change", "(III)V"⟩
abbrev cX3_make : ByteArray := prog_5_method_10_code
def yX3_make : MethodName := ⟨RX3, "make", "(III)V"⟩
abbrev cX3_drop : ByteArray := prog_5_method_11_code
def yX3_drop : MethodName := ⟨RX3, "drop", "(I)V"⟩
abbrev cX3_move : ByteArray := prog_5_method_12_code
def yX3_move : MethodName := ⟨RX3, "move", "(IIIII)V"⟩
abbrev cX3_fold : ByteArray := prog_5_method_13_code
def yX3_fold : MethodName := ⟨RX3, "fold", "(J)J"⟩
def RX4 : String := "WashSails$Told"
def TX4 : u_T := fun k => match k with
  | 0 => ("WashSails$Told", "findings", "[I", true)
  | 1 => ("WashSails$Told", "finding", "I", false)
  | 2 => ("WashSails$Told", "asked", "I", false)
  | 3 => ("WashSails$Told", "upper", "J", false)
  | _ => ("WashSails$Told", "lower", "J", false)
def tyX4 : Nat → FieldType := fun k => match k with
  | 0 => .array .int
  | 1 => .int
  | 2 => .int
  | 3 => .long
  | _ => .long
abbrev wsX40 : List Cond := u_ws RX4 TX4 5
theorem nmX4 : ∀ a, a < 5 → ∀ b, b < 5 → a ≠ b → (TX4 a).2.1 ≠ (TX4 b).2.1 := by decide +kernel
theorem tyX4_ok : ∀ k, k < 5 → parseFieldDescriptor (TX4 k).2.2.1 = some (tyX4 k) := by decide +kernel
abbrev cX4_init : ByteArray := prog_6_method_1_code
def yX4_init : MethodName := ⟨RX4, "<init>", "()V"⟩
abbrev cX4_answer : ByteArray := prog_6_method_2_code
def yX4_answer : MethodName := ⟨RX4, "answer", "(I)I"⟩
abbrev cX4_refuse : ByteArray := prog_6_method_3_code
def yX4_refuse : MethodName := ⟨RX4, "refuse", "(I)I"⟩
abbrev cX4_tellWhole : ByteArray := prog_6_method_4_code
def yX4_tellWhole : MethodName := ⟨RX4, "tellWhole", "(J)V"⟩
abbrev cX4_tellShare : ByteArray := prog_6_method_5_code
def yX4_tellShare : MethodName := ⟨RX4, "tellShare", "(JJ)V"⟩
abbrev cX4_commonDivisor : ByteArray := prog_6_method_6_code
def yX4_commonDivisor : MethodName := ⟨RX4, "commonDivisor", "(JJ)J"⟩
def RX5 : String := "WashSails$Town"
def TX5 : u_T := fun k => match k with
  | 0 => ("WashSails$Town", "layout", "LWashSails$Layout;", true)
  | 1 => ("WashSails$Town", "deeds", "[I", true)
  | 2 => ("WashSails$Town", "wet", "[I", true)
  | 3 => ("WashSails$Town", "deedCount", "I", false)
  | 4 => ("WashSails$Town", "hung", "I", false)
  | 5 => ("WashSails$Town", "hour", "I", false)
  | 6 => ("WashSails$Town", "miles", "I", false)
  | _ => ("WashSails$Town", "turn", "I", false)
def tyX5 : Nat → FieldType := fun k => match k with
  | 0 => .object "WashSails$Layout"
  | 1 => .array .int
  | 2 => .array .int
  | 3 => .int
  | 4 => .int
  | 5 => .int
  | 6 => .int
  | _ => .int
abbrev wsX50 : List Cond := u_ws RX5 TX5 8
theorem nmX5 : ∀ a, a < 8 → ∀ b, b < 8 → a ≠ b → (TX5 a).2.1 ≠ (TX5 b).2.1 := by decide +kernel
theorem tyX5_ok : ∀ k, k < 8 → parseFieldDescriptor (TX5 k).2.2.1 = some (tyX5 k) := by decide +kernel
abbrev cX5_init : ByteArray := prog_7_method_1_code
def yX5_init : MethodName := ⟨RX5, "<init>", "()V"⟩
abbrev cX5_isEmpty : ByteArray := prog_7_method_2_code
def yX5_isEmpty : MethodName := ⟨RX5, "isEmpty", "()Z"⟩
abbrev cX5_isHung : ByteArray := prog_7_method_3_code
def yX5_isHung : MethodName := ⟨RX5, "isHung", "(I)Z"⟩
abbrev cX5_hasRoomFor : ByteArray := prog_7_method_4_code
def yX5_hasRoomFor : MethodName := ⟨RX5, "hasRoomFor", "(I)Z"⟩
abbrev cX5_windNow : ByteArray := prog_7_method_5_code
def yX5_windNow : MethodName := ⟨RX5, "windNow", "()I"⟩
abbrev cX5_windAhead : ByteArray := prog_7_method_6_code
def yX5_windAhead : MethodName := ⟨RX5, "windAhead", "(I)I"⟩
abbrev cX5_allWet : ByteArray := prog_7_method_7_code
def yX5_allWet : MethodName := ⟨RX5, "allWet", "()I"⟩
abbrev cX5_hoursToStorm : ByteArray := prog_7_method_8_code
def yX5_hoursToStorm : MethodName := ⟨RX5, "hoursToStorm", "()I"⟩
abbrev cX5_trait : ByteArray := prog_7_method_9_code
def yX5_trait : MethodName := ⟨RX5, "trait", "(II)I"⟩
abbrev cX5_act : ByteArray := prog_7_method_10_code
def yX5_act : MethodName := ⟨RX5, "act", "(I)V"⟩
abbrev cX5_passHour : ByteArray := prog_7_method_11_code
def yX5_passHour : MethodName := ⟨RX5, "passHour", "()V"⟩
abbrev cX5_replay : ByteArray := prog_7_method_12_code
def yX5_replay : MethodName := ⟨RX5, "replay", "(I)V"⟩
def RX6 : String := "WashSails$Voyage"
def TX6 : u_T := fun k => match k with
  | 0 => ("WashSails$Voyage", "bestPlan", "[I", true)
  | 1 => ("WashSails$Voyage", "bestMiles", "I", false)
  | 2 => ("WashSails$Voyage", "charts", "[LWashSails$Chart;", true)
  | 3 => ("WashSails$Voyage", "atMost", "[I", true)
  | 4 => ("WashSails$Voyage", "plan", "[I", true)
  | 5 => ("WashSails$Voyage", "found", "Z", false)
  | 6 => ("WashSails$Voyage", "hours", "I", false)
  | _ => ("WashSails$Voyage", "limit", "I", false)
def tyX6 : Nat → FieldType := fun k => match k with
  | 0 => .array .int
  | 1 => .int
  | 2 => .array (.object "WashSails$Chart")
  | 3 => .array .int
  | 4 => .array .int
  | 5 => .boolean
  | 6 => .int
  | _ => .int
abbrev wsX60 : List Cond := u_ws RX6 TX6 8
theorem nmX6 : ∀ a, a < 8 → ∀ b, b < 8 → a ≠ b → (TX6 a).2.1 ≠ (TX6 b).2.1 := by decide +kernel
theorem tyX6_ok : ∀ k, k < 8 → parseFieldDescriptor (TX6 k).2.2.1 = some (tyX6 k) := by decide +kernel
abbrev cX6_init : ByteArray := prog_8_method_1_code
def yX6_init : MethodName := ⟨RX6, "<init>", "()V"⟩
abbrev cX6_find : ByteArray := prog_8_method_2_code
def yX6_find : MethodName := ⟨RX6, "find", "(LWashSails$Town;II)Z"⟩
abbrev cX6_sailFrom : ByteArray := prog_8_method_3_code
def yX6_sailFrom : MethodName := ⟨RX6, "sailFrom", "(III)V"⟩
def RX7 : String := "WashSails"
def TX7 : u_T := fun k => match k with
  | 0 => ("WashSails", "rows", "LWashSails$Shelf;", true)
  | 1 => ("WashSails", "texts", "LWashSails$Shelf;", true)
  | 2 => ("WashSails", "reader", "LWashSails$Reader;", true)
  | 3 => ("WashSails", "town", "LWashSails$Town;", true)
  | 4 => ("WashSails", "kept", "LWashSails$Shelf;", true)
  | 5 => ("WashSails", "chart", "LWashSails$Chart;", true)
  | 6 => ("WashSails", "voyage", "LWashSails$Voyage;", true)
  | 7 => ("WashSails", "told", "LWashSails$Told;", true)
  | 8 => ("WashSails", "forecast", "[I", true)
  | 9 => ("WashSails", "calm", "[I", true)
  | _ => ("WashSails", "gusty", "[I", true)
def tyX7 : Nat → FieldType := fun k => match k with
  | 0 => .object "WashSails$Shelf"
  | 1 => .object "WashSails$Shelf"
  | 2 => .object "WashSails$Reader"
  | 3 => .object "WashSails$Town"
  | 4 => .object "WashSails$Shelf"
  | 5 => .object "WashSails$Chart"
  | 6 => .object "WashSails$Voyage"
  | 7 => .object "WashSails$Told"
  | 8 => .array .int
  | 9 => .array .int
  | _ => .array .int
abbrev wsX70 : List Cond := u_ws RX7 TX7 11
theorem nmX7 : ∀ a, a < 11 → ∀ b, b < 11 → a ≠ b → (TX7 a).2.1 ≠ (TX7 b).2.1 := by decide +kernel
theorem tyX7_ok : ∀ k, k < 11 → parseFieldDescriptor (TX7 k).2.2.1 = some (tyX7 k) := by decide +kernel
abbrev cX7_init : ByteArray := prog_1_method_1_code
def yX7_init : MethodName := ⟨RX7, "<init>", "()V"⟩
abbrev cX7_row : ByteArray := prog_1_method_2_code
def yX7_row : MethodName := ⟨RX7, "row", "(II)I"⟩
abbrev cX7_lay : ByteArray := prog_1_method_3_code
def yX7_lay : MethodName := ⟨RX7, "lay", "(III)I"⟩
abbrev cX7_at : ByteArray := prog_1_method_4_code
def yX7_at : MethodName := ⟨RX7, "at", "(II)I"⟩
abbrev cX7_tear : ByteArray := prog_1_method_5_code
def yX7_tear : MethodName := ⟨RX7, "tear", "(I)I"⟩
abbrev cX7_copy : ByteArray := prog_1_method_6_code
def yX7_copy : MethodName := ⟨RX7, "copy", "(IIIII)I"⟩
abbrev cX7_mean : ByteArray := prog_1_method_7_code
def yX7_mean : MethodName := ⟨RX7, "mean", "(I)I"⟩
abbrev cX7_text : ByteArray := prog_1_method_8_code
def yX7_text : MethodName := ⟨RX7, "text", "(II)I"⟩
abbrev cX7_put : ByteArray := prog_1_method_9_code
def yX7_put : MethodName := ⟨RX7, "put", "(III)I"⟩
abbrev cX7_fault : ByteArray := prog_1_method_10_code
def yX7_fault : MethodName := ⟨RX7, "fault", "(I)I"⟩
abbrev cX7_town : ByteArray := prog_1_method_11_code
def yX7_town : MethodName := ⟨RX7, "town", "(I)I"⟩
abbrev cX7_line : ByteArray := prog_1_method_12_code
def yX7_line : MethodName := ⟨RX7, "line", "(II)I"⟩
abbrev cX7_mark : ByteArray := prog_1_method_13_code
def yX7_mark : MethodName := ⟨RX7, "mark", "(II)I"⟩
abbrev cX7_wind : ByteArray := prog_1_method_14_code
def yX7_wind : MethodName := ⟨RX7, "wind", "(I)I"⟩
abbrev cX7_hang : ByteArray := prog_1_method_15_code
def yX7_hang : MethodName := ⟨RX7, "hang", "(I)I"⟩
abbrev cX7_take : ByteArray := prog_1_method_16_code
def yX7_take : MethodName := ⟨RX7, "take", "(I)I"⟩
abbrev cX7_hour : ByteArray := prog_1_method_17_code
def yX7_hour : MethodName := ⟨RX7, "hour", "()I"⟩
abbrev cX7_undo : ByteArray := prog_1_method_18_code
def yX7_undo : MethodName := ⟨RX7, "undo", "(I)I"⟩
abbrev cX7_keep : ByteArray := prog_1_method_19_code
def yX7_keep : MethodName := ⟨RX7, "keep", "(I)I"⟩
abbrev cX7_on : ByteArray := prog_1_method_20_code
def yX7_on : MethodName := ⟨RX7, "on", "(I)I"⟩
abbrev cX7_goes : ByteArray := prog_1_method_21_code
def yX7_goes : MethodName := ⟨RX7, "goes", "(I)I"⟩
abbrev cX7_even : ByteArray := prog_1_method_22_code
def yX7_even : MethodName := ⟨RX7, "even", "(I)I"⟩
abbrev cX7_fast : ByteArray := prog_1_method_23_code
def yX7_fast : MethodName := ⟨RX7, "fast", "(I)I"⟩
abbrev cX7_wet : ByteArray := prog_1_method_24_code
def yX7_wet : MethodName := ⟨RX7, "wet", "()I"⟩
abbrev cX7_sail : ByteArray := prog_1_method_25_code
def yX7_sail : MethodName := ⟨RX7, "sail", "(I)I"⟩
abbrev cX7_dry : ByteArray := prog_1_method_26_code
def yX7_dry : MethodName := ⟨RX7, "dry", "(I)I"⟩
abbrev cX7_far : ByteArray := prog_1_method_27_code
def yX7_far : MethodName := ⟨RX7, "far", "(III)I"⟩
abbrev cX7_soon : ByteArray := prog_1_method_28_code
def yX7_soon : MethodName := ⟨RX7, "soon", "(I)I"⟩
abbrev cX7_least : ByteArray := prog_1_method_29_code
def yX7_least : MethodName := ⟨RX7, "least", "(II)I"⟩
abbrev cX7_ways : ByteArray := prog_1_method_30_code
def yX7_ways : MethodName := ⟨RX7, "ways", "(II)I"⟩
abbrev cX7_kinds : ByteArray := prog_1_method_31_code
def yX7_kinds : MethodName := ⟨RX7, "kinds", "(II)I"⟩
abbrev cX7_areas : ByteArray := prog_1_method_32_code
def yX7_areas : MethodName := ⟨RX7, "areas", "(II)I"⟩
abbrev cX7_rival : ByteArray := prog_1_method_33_code
def yX7_rival : MethodName := ⟨RX7, "rival", "(I)I"⟩
abbrev cX7_mid : ByteArray := prog_1_method_34_code
def yX7_mid : MethodName := ⟨RX7, "mid", "(II)I"⟩
abbrev cX7_odds : ByteArray := prog_1_method_35_code
def yX7_odds : MethodName := ⟨RX7, "odds", "(III)I"⟩
abbrev cX7_lots : ByteArray := prog_1_method_36_code
def yX7_lots : MethodName := ⟨RX7, "lots", "(II)I"⟩
abbrev cX7_asked : ByteArray := prog_1_method_37_code
def yX7_asked : MethodName := ⟨RX7, "asked", "()I"⟩
abbrev cX7_upper : ByteArray := prog_1_method_38_code
def yX7_upper : MethodName := ⟨RX7, "upper", "()J"⟩
abbrev cX7_lower : ByteArray := prog_1_method_39_code
def yX7_lower : MethodName := ⟨RX7, "lower", "()J"⟩
abbrev cX7_count : ByteArray := prog_1_method_40_code
def yX7_count : MethodName := ⟨RX7, "count", "(I)I"⟩
abbrev cX7_miles : ByteArray := prog_1_method_41_code
def yX7_miles : MethodName := ⟨RX7, "miles", "()I"⟩
abbrev cX7_finding : ByteArray := prog_1_method_42_code
def yX7_finding : MethodName := ⟨RX7, "finding", "()I"⟩
abbrev cX7_findings : ByteArray := prog_1_method_43_code
def yX7_findings : MethodName := ⟨RX7, "findings", "(I)I"⟩
abbrev cX7_digest : ByteArray := prog_1_method_44_code
def yX7_digest : MethodName := ⟨RX7, "digest", "()J"⟩
abbrev cX7_makeOn : ByteArray := prog_1_method_45_code
def yX7_makeOn : MethodName := ⟨RX7, "makeOn", "(LWashSails$Shelf;III)I"⟩
abbrev cX7_planRefusal : ByteArray := prog_1_method_46_code
def yX7_planRefusal : MethodName := ⟨RX7, "planRefusal", "(I)I"⟩
abbrev cX7_pairsRefusal : ByteArray := prog_1_method_47_code
def yX7_pairsRefusal : MethodName := ⟨RX7, "pairsRefusal", "(II)I"⟩
abbrev cX7_pulledSo : ByteArray := prog_1_method_48_code
def yX7_pulledSo : MethodName := ⟨RX7, "pulledSo", "(III)Z"⟩
abbrev cX7_drySet : ByteArray := prog_1_method_49_code
def yX7_drySet : MethodName := ⟨RX7, "drySet", "([I)I"⟩
abbrev cX7_mostMilesBehind : ByteArray := prog_1_method_50_code
def yX7_mostMilesBehind : MethodName := ⟨RX7, "mostMilesBehind", "(II)I"⟩
abbrev cX7_foresee : ByteArray := prog_1_method_51_code
def yX7_foresee : MethodName := ⟨RX7, "foresee", "(I)V"⟩
abbrev cX7_milesByGusts : ByteArray := prog_1_method_52_code
def yX7_milesByGusts : MethodName := ⟨RX7, "milesByGusts", "(II)I"⟩
abbrev cX7_weightOfGusts : ByteArray := prog_1_method_53_code
def yX7_weightOfGusts : MethodName := ⟨RX7, "weightOfGusts", "(III)J"⟩
abbrev cX7_play : ByteArray := prog_1_method_54_code
def yX7_play : MethodName := ⟨RX7, "play", "(LWashSails$Chart;II)I"⟩
abbrev cX7_isA : ByteArray := prog_1_method_55_code
def yX7_isA : MethodName := ⟨RX7, "isA", "(II)Z"⟩
abbrev cX7_pull : ByteArray := prog_1_method_56_code
def yX7_pull : MethodName := ⟨RX7, "pull", "(III)I"⟩
abbrev cX7_weather : ByteArray := prog_1_method_57_code
def yX7_weather : MethodName := ⟨RX7, "weather", "([III)V"⟩
def RX8 : String := "WashSailsModel"
def TX8 : u_T := fun k => match k with
  | 0 => ("WashSailsModel", "finding", "I", false)
  | 1 => ("WashSailsModel", "findings", "[I", true)
  | 2 => ("WashSailsModel", "asked", "I", false)
  | 3 => ("WashSailsModel", "upper", "J", false)
  | 4 => ("WashSailsModel", "lower", "J", false)
  | 5 => ("WashSailsModel", "sizes", "[I", true)
  | 6 => ("WashSailsModel", "rows", "[I", true)
  | 7 => ("WashSailsModel", "moving", "[I", true)
  | 8 => ("WashSailsModel", "lengths", "[I", true)
  | 9 => ("WashSailsModel", "texts", "[I", true)
  | 10 => ("WashSailsModel", "many", "I", false)
  | 11 => ("WashSailsModel", "windMany", "I", false)
  | 12 => ("WashSailsModel", "winds", "[I", true)
  | 13 => ("WashSailsModel", "kinds", "[I", true)
  | 14 => ("WashSailsModel", "places", "[I", true)
  | 15 => ("WashSailsModel", "areas", "[I", true)
  | 16 => ("WashSailsModel", "linens", "[I", true)
  | 17 => ("WashSailsModel", "readAt", "I", false)
  | 18 => ("WashSailsModel", "readWinds", "I", false)
  | 19 => ("WashSailsModel", "readMany", "I", false)
  | 20 => ("WashSailsModel", "readWind", "[I", true)
  | 21 => ("WashSailsModel", "readLine", "[I", true)
  | 22 => ("WashSailsModel", "now", "I", false)
  | 23 => ("WashSailsModel", "gone", "I", false)
  | 24 => ("WashSailsModel", "turned", "I", false)
  | 25 => ("WashSailsModel", "out", "I", false)
  | 26 => ("WashSailsModel", "wets", "[I", true)
  | 27 => ("WashSailsModel", "deedMany", "I", false)
  | 28 => ("WashSailsModel", "notes", "[I", true)
  | 29 => ("WashSailsModel", "isThere", "[I", true)
  | 30 => ("WashSailsModel", "images", "[I", true)
  | 31 => ("WashSailsModel", "milesOf", "[I", true)
  | 32 => ("WashSailsModel", "turnOf", "[I", true)
  | 33 => ("WashSailsModel", "best", "[I", true)
  | 34 => ("WashSailsModel", "worth", "[I", true)
  | 35 => ("WashSailsModel", "worthThen", "[I", true)
  | _ => ("WashSailsModel", "h0", "J", false)
def tyX8 : Nat → FieldType := fun k => match k with
  | 0 => .int
  | 1 => .array .int
  | 2 => .int
  | 3 => .long
  | 4 => .long
  | 5 => .array .int
  | 6 => .array .int
  | 7 => .array .int
  | 8 => .array .int
  | 9 => .array .int
  | 10 => .int
  | 11 => .int
  | 12 => .array .int
  | 13 => .array .int
  | 14 => .array .int
  | 15 => .array .int
  | 16 => .array .int
  | 17 => .int
  | 18 => .int
  | 19 => .int
  | 20 => .array .int
  | 21 => .array .int
  | 22 => .int
  | 23 => .int
  | 24 => .int
  | 25 => .int
  | 26 => .array .int
  | 27 => .int
  | 28 => .array .int
  | 29 => .array .int
  | 30 => .array .int
  | 31 => .array .int
  | 32 => .array .int
  | 33 => .array .int
  | 34 => .array .int
  | 35 => .array .int
  | _ => .long
abbrev wsX80 : List Cond := u_ws RX8 TX8 37
theorem nmX8 : ∀ a, a < 37 → ∀ b, b < 37 → a ≠ b → (TX8 a).2.1 ≠ (TX8 b).2.1 := by decide +kernel
theorem tyX8_ok : ∀ k, k < 37 → parseFieldDescriptor (TX8 k).2.2.1 = some (tyX8 k) := by decide +kernel
abbrev cX8_init : ByteArray := prog_10_method_1_code
def yX8_init : MethodName := ⟨RX8, "<init>", "()V"⟩
abbrev cX8_in : ByteArray := prog_10_method_2_code
def yX8_in : MethodName := ⟨RX8, "in", "(III)Z"⟩
abbrev cX8_meet : ByteArray := prog_10_method_3_code
def yX8_meet : MethodName := ⟨RX8, "meet", "(I)I"⟩
abbrev cX8_ask : ByteArray := prog_10_method_4_code
def yX8_ask : MethodName := ⟨RX8, "ask", "(II)I"⟩
abbrev cX8_has : ByteArray := prog_10_method_5_code
def yX8_has : MethodName := ⟨RX8, "has", "(II)Z"⟩
abbrev cX8_greater : ByteArray := prog_10_method_6_code
def yX8_greater : MethodName := ⟨RX8, "greater", "(II)I"⟩
abbrev cX8_part : ByteArray := prog_10_method_7_code
def yX8_part : MethodName := ⟨RX8, "part", "(JJ)I"⟩
abbrev cX8_isRow : ByteArray := prog_10_method_8_code
def yX8_isRow : MethodName := ⟨RX8, "isRow", "(I)Z"⟩
abbrev cX8_isText : ByteArray := prog_10_method_9_code
def yX8_isText : MethodName := ⟨RX8, "isText", "(I)Z"⟩
abbrev cX8_askedRow : ByteArray := prog_10_method_10_code
def yX8_askedRow : MethodName := ⟨RX8, "askedRow", "(I)I"⟩
abbrev cX8_askedText : ByteArray := prog_10_method_11_code
def yX8_askedText : MethodName := ⟨RX8, "askedText", "(I)I"⟩
abbrev cX8_rowAt : ByteArray := prog_10_method_12_code
def yX8_rowAt : MethodName := ⟨RX8, "rowAt", "(II)I"⟩
abbrev cX8_setRow : ByteArray := prog_10_method_13_code
def yX8_setRow : MethodName := ⟨RX8, "setRow", "(III)V"⟩
abbrev cX8_row : ByteArray := prog_10_method_14_code
def yX8_row : MethodName := ⟨RX8, "row", "(II)I"⟩
abbrev cX8_at : ByteArray := prog_10_method_15_code
def yX8_at : MethodName := ⟨RX8, "at", "(II)I"⟩
abbrev cX8_lay : ByteArray := prog_10_method_16_code
def yX8_lay : MethodName := ⟨RX8, "lay", "(III)I"⟩
abbrev cX8_tear : ByteArray := prog_10_method_17_code
def yX8_tear : MethodName := ⟨RX8, "tear", "(I)I"⟩
abbrev cX8_copy : ByteArray := prog_10_method_18_code
def yX8_copy : MethodName := ⟨RX8, "copy", "(IIIII)I"⟩
abbrev cX8_mean : ByteArray := prog_10_method_19_code
def yX8_mean : MethodName := ⟨RX8, "mean", "(I)I"⟩
abbrev cX8_text : ByteArray := prog_10_method_20_code
def yX8_text : MethodName := ⟨RX8, "text", "(II)I"⟩
abbrev cX8_put : ByteArray := prog_10_method_21_code
def yX8_put : MethodName := ⟨RX8, "put", "(III)I"⟩
abbrev cX8_here : ByteArray := prog_10_method_22_code
def yX8_here : MethodName := ⟨RX8, "here", "(I)I"⟩
abbrev cX8_skip : ByteArray := prog_10_method_23_code
def yX8_skip : MethodName := ⟨RX8, "skip", "(I)V"⟩
abbrev cX8_figure : ByteArray := prog_10_method_24_code
def yX8_figure : MethodName := ⟨RX8, "figure", "(IIII)Z"⟩
abbrev cX8_readsWinds : ByteArray := prog_10_method_25_code
def yX8_readsWinds : MethodName := ⟨RX8, "readsWinds", "(I)Z"⟩
abbrev cX8_kindBy : ByteArray := prog_10_method_26_code
def yX8_kindBy : MethodName := ⟨RX8, "kindBy", "(I)I"⟩
abbrev cX8_readsLine : ByteArray := prog_10_method_27_code
def yX8_readsLine : MethodName := ⟨RX8, "readsLine", "(I)Z"⟩
abbrev cX8_readsTown : ByteArray := prog_10_method_28_code
def yX8_readsTown : MethodName := ⟨RX8, "readsTown", "(I)Z"⟩
abbrev cX8_goesOn : ByteArray := prog_10_method_29_code
def yX8_goesOn : MethodName := ⟨RX8, "goesOn", "(I)I"⟩
abbrev cX8_fault : ByteArray := prog_10_method_30_code
def yX8_fault : MethodName := ⟨RX8, "fault", "(I)I"⟩
abbrev cX8_town : ByteArray := prog_10_method_31_code
def yX8_town : MethodName := ⟨RX8, "town", "(I)I"⟩
abbrev cX8_isLine : ByteArray := prog_10_method_32_code
def yX8_isLine : MethodName := ⟨RX8, "isLine", "(I)Z"⟩
abbrev cX8_isSet : ByteArray := prog_10_method_33_code
def yX8_isSet : MethodName := ⟨RX8, "isSet", "(I)Z"⟩
abbrev cX8_windAt : ByteArray := prog_10_method_34_code
def yX8_windAt : MethodName := ⟨RX8, "windAt", "(I)I"⟩
abbrev cX8_pullBy : ByteArray := prog_10_method_35_code
def yX8_pullBy : MethodName := ⟨RX8, "pullBy", "(III)I"⟩
abbrev cX8_pullOf : ByteArray := prog_10_method_36_code
def yX8_pullOf : MethodName := ⟨RX8, "pullOf", "(II)I"⟩
abbrev cX8_milesBy : ByteArray := prog_10_method_37_code
def yX8_milesBy : MethodName := ⟨RX8, "milesBy", "(II)I"⟩
abbrev cX8_turnBy : ByteArray := prog_10_method_38_code
def yX8_turnBy : MethodName := ⟨RX8, "turnBy", "(II)I"⟩
abbrev cX8_linenOf : ByteArray := prog_10_method_39_code
def yX8_linenOf : MethodName := ⟨RX8, "linenOf", "(I)I"⟩
abbrev cX8_bits : ByteArray := prog_10_method_40_code
def yX8_bits : MethodName := ⟨RX8, "bits", "(I)I"⟩
abbrev cX8_write : ByteArray := prog_10_method_41_code
def yX8_write : MethodName := ⟨RX8, "write", "([II)V"⟩
abbrev cX8_read : ByteArray := prog_10_method_42_code
def yX8_read : MethodName := ⟨RX8, "read", "([II)V"⟩
abbrev cX8_note : ByteArray := prog_10_method_43_code
def yX8_note : MethodName := ⟨RX8, "note", "()V"⟩
abbrev cX8_wetBehind : ByteArray := prog_10_method_44_code
def yX8_wetBehind : MethodName := ⟨RX8, "wetBehind", "(II)I"⟩
abbrev cX8_pass : ByteArray := prog_10_method_45_code
def yX8_pass : MethodName := ⟨RX8, "pass", "(I)V"⟩
abbrev cX8_turnLine : ByteArray := prog_10_method_46_code
def yX8_turnLine : MethodName := ⟨RX8, "turnLine", "(I)V"⟩
abbrev cX8_hang : ByteArray := prog_10_method_47_code
def yX8_hang : MethodName := ⟨RX8, "hang", "(I)I"⟩
abbrev cX8_take : ByteArray := prog_10_method_48_code
def yX8_take : MethodName := ⟨RX8, "take", "(I)I"⟩
abbrev cX8_hour : ByteArray := prog_10_method_49_code
def yX8_hour : MethodName := ⟨RX8, "hour", "()I"⟩
abbrev cX8_undo : ByteArray := prog_10_method_50_code
def yX8_undo : MethodName := ⟨RX8, "undo", "(I)I"⟩
abbrev cX8_keep : ByteArray := prog_10_method_51_code
def yX8_keep : MethodName := ⟨RX8, "keep", "(I)I"⟩
abbrev cX8_on : ByteArray := prog_10_method_52_code
def yX8_on : MethodName := ⟨RX8, "on", "(I)I"⟩
abbrev cX8_lineOf : ByteArray := prog_10_method_53_code
def yX8_lineOf : MethodName := ⟨RX8, "lineOf", "(II)I"⟩
abbrev cX8_line : ByteArray := prog_10_method_54_code
def yX8_line : MethodName := ⟨RX8, "line", "(II)I"⟩
abbrev cX8_isA : ByteArray := prog_10_method_55_code
def yX8_isA : MethodName := ⟨RX8, "isA", "(II)Z"⟩
abbrev cX8_howMany : ByteArray := prog_10_method_56_code
def yX8_howMany : MethodName := ⟨RX8, "howMany", "(I)I"⟩
abbrev cX8_hoursTill : ByteArray := prog_10_method_57_code
def yX8_hoursTill : MethodName := ⟨RX8, "hoursTill", "()I"⟩
abbrev cX8_lesserOnes : ByteArray := prog_10_method_58_code
def yX8_lesserOnes : MethodName := ⟨RX8, "lesserOnes", "(I)I"⟩
abbrev cX8_mark : ByteArray := prog_10_method_59_code
def yX8_mark : MethodName := ⟨RX8, "mark", "(II)I"⟩
abbrev cX8_wind : ByteArray := prog_10_method_60_code
def yX8_wind : MethodName := ⟨RX8, "wind", "(I)I"⟩
abbrev cX8_goes : ByteArray := prog_10_method_61_code
def yX8_goes : MethodName := ⟨RX8, "goes", "(I)I"⟩
abbrev cX8_even : ByteArray := prog_10_method_62_code
def yX8_even : MethodName := ⟨RX8, "even", "(I)I"⟩
abbrev cX8_fast : ByteArray := prog_10_method_63_code
def yX8_fast : MethodName := ⟨RX8, "fast", "(I)I"⟩
abbrev cX8_wetOfAll : ByteArray := prog_10_method_64_code
def yX8_wetOfAll : MethodName := ⟨RX8, "wetOfAll", "()I"⟩
abbrev cX8_wet : ByteArray := prog_10_method_65_code
def yX8_wet : MethodName := ⟨RX8, "wet", "()I"⟩
abbrev cX8_askedPlan : ByteArray := prog_10_method_66_code
def yX8_askedPlan : MethodName := ⟨RX8, "askedPlan", "(I)I"⟩
abbrev cX8_sail : ByteArray := prog_10_method_67_code
def yX8_sail : MethodName := ⟨RX8, "sail", "(I)I"⟩
abbrev cX8_dry : ByteArray := prog_10_method_68_code
def yX8_dry : MethodName := ⟨RX8, "dry", "(I)I"⟩
abbrev cX8_setHours : ByteArray := prog_10_method_69_code
def yX8_setHours : MethodName := ⟨RX8, "setHours", "()V"⟩
abbrev cX8_isTurn : ByteArray := prog_10_method_70_code
def yX8_isTurn : MethodName := ⟨RX8, "isTurn", "(II)Z"⟩
abbrev cX8_farBy : ByteArray := prog_10_method_71_code
def yX8_farBy : MethodName := ⟨RX8, "farBy", "(II)I"⟩
abbrev cX8_far : ByteArray := prog_10_method_72_code
def yX8_far : MethodName := ⟨RX8, "far", "(III)I"⟩
abbrev cX8_mostOf : ByteArray := prog_10_method_73_code
def yX8_mostOf : MethodName := ⟨RX8, "mostOf", "(II)I"⟩
abbrev cX8_soon : ByteArray := prog_10_method_74_code
def yX8_soon : MethodName := ⟨RX8, "soon", "(I)I"⟩
abbrev cX8_least : ByteArray := prog_10_method_75_code
def yX8_least : MethodName := ⟨RX8, "least", "(II)I"⟩
abbrev cX8_ways : ByteArray := prog_10_method_76_code
def yX8_ways : MethodName := ⟨RX8, "ways", "(II)I"⟩
abbrev cX8_askedPulls : ByteArray := prog_10_method_77_code
def yX8_askedPulls : MethodName := ⟨RX8, "askedPulls", "(II)I"⟩
abbrev cX8_pullsSo : ByteArray := prog_10_method_78_code
def yX8_pullsSo : MethodName := ⟨RX8, "pullsSo", "(III)Z"⟩
abbrev cX8_kinds : ByteArray := prog_10_method_79_code
def yX8_kinds : MethodName := ⟨RX8, "kinds", "(II)I"⟩
abbrev cX8_areas : ByteArray := prog_10_method_80_code
def yX8_areas : MethodName := ⟨RX8, "areas", "(II)I"⟩
abbrev cX8_rival : ByteArray := prog_10_method_81_code
def yX8_rival : MethodName := ⟨RX8, "rival", "(I)I"⟩
abbrev cX8_power : ByteArray := prog_10_method_82_code
def yX8_power : MethodName := ⟨RX8, "power", "(JI)J"⟩
abbrev cX8_gustMiles : ByteArray := prog_10_method_83_code
def yX8_gustMiles : MethodName := ⟨RX8, "gustMiles", "(II)I"⟩
abbrev cX8_weightOf : ByteArray := prog_10_method_84_code
def yX8_weightOf : MethodName := ⟨RX8, "weightOf", "(III)J"⟩
abbrev cX8_mid : ByteArray := prog_10_method_85_code
def yX8_mid : MethodName := ⟨RX8, "mid", "(II)I"⟩
abbrev cX8_odds : ByteArray := prog_10_method_86_code
def yX8_odds : MethodName := ⟨RX8, "odds", "(III)I"⟩
abbrev cX8_lots : ByteArray := prog_10_method_87_code
def yX8_lots : MethodName := ⟨RX8, "lots", "(II)I"⟩
abbrev cX8_asked : ByteArray := prog_10_method_88_code
def yX8_asked : MethodName := ⟨RX8, "asked", "()I"⟩
abbrev cX8_upper : ByteArray := prog_10_method_89_code
def yX8_upper : MethodName := ⟨RX8, "upper", "()J"⟩
abbrev cX8_lower : ByteArray := prog_10_method_90_code
def yX8_lower : MethodName := ⟨RX8, "lower", "()J"⟩
abbrev cX8_there : ByteArray := prog_10_method_91_code
def yX8_there : MethodName := ⟨RX8, "there", "(I)I"⟩
abbrev cX8_tells : ByteArray := prog_10_method_92_code
def yX8_tells : MethodName := ⟨RX8, "tells", "(I)I"⟩
abbrev cX8_count : ByteArray := prog_10_method_93_code
def yX8_count : MethodName := ⟨RX8, "count", "(I)I"⟩
abbrev cX8_miles : ByteArray := prog_10_method_94_code
def yX8_miles : MethodName := ⟨RX8, "miles", "()I"⟩
abbrev cX8_finding : ByteArray := prog_10_method_95_code
def yX8_finding : MethodName := ⟨RX8, "finding", "()I"⟩
abbrev cX8_findings : ByteArray := prog_10_method_96_code
def yX8_findings : MethodName := ⟨RX8, "findings", "(I)I"⟩
abbrev cX8_mix : ByteArray := prog_10_method_97_code
def yX8_mix : MethodName := ⟨RX8, "mix", "(I)V"⟩
abbrev cX8_mixTown : ByteArray := prog_10_method_98_code
def yX8_mixTown : MethodName := ⟨RX8, "mixTown", "()V"⟩
abbrev cX8_digest : ByteArray := prog_10_method_99_code
def yX8_digest : MethodName := ⟨RX8, "digest", "()J"⟩
def RJ6 : String := "java/lang/Integer"
def TJ6 : u_T := fun k => match k with
  | _ => ("", "", "", false)
def tyJ6 : Nat → FieldType := fun k => match k with
  | _ => .int
abbrev wsJ60 : List Cond := u_ws RJ6 TJ6 0
theorem nmJ6 : ∀ a, a < 0 → ∀ b, b < 0 → a ≠ b → (TJ6 a).2.1 ≠ (TJ6 b).2.1 := by decide +kernel
theorem tyJ6_ok : ∀ k, k < 0 → parseFieldDescriptor (TJ6 k).2.2.1 = some (tyJ6 k) := by decide +kernel
abbrev cJ6_bitCount_0f7a4 : ByteArray := prog_11_method_49_code
def yJ6_bitCount_0f7a4 : MethodName := ⟨RJ6, "bitCount", "(I)I"⟩
def RJ9 : String := "java/lang/Math"
def TJ9 : u_T := fun k => match k with
  | _ => ("", "", "", false)
def tyJ9 : Nat → FieldType := fun k => match k with
  | _ => .int
abbrev wsJ90 : List Cond := u_ws RJ9 TJ9 0
theorem nmJ9 : ∀ a, a < 0 → ∀ b, b < 0 → a ≠ b → (TJ9 a).2.1 ≠ (TJ9 b).2.1 := by decide +kernel
theorem tyJ9_ok : ∀ k, k < 0 → parseFieldDescriptor (TJ9 k).2.2.1 = some (tyJ9 k) := by decide +kernel
abbrev cJ9_abs_067f4 : ByteArray := prog_12_method_61_code
def yJ9_abs_067f4 : MethodName := ⟨RJ9, "abs", "(J)J"⟩
abbrev cJ9_max_7cf53 : ByteArray := prog_12_method_65_code
def yJ9_max_7cf53 : MethodName := ⟨RJ9, "max", "(II)I"⟩
abbrev cJ9_min_7cf53 : ByteArray := prog_12_method_69_code
def yJ9_min_7cf53 : MethodName := ⟨RJ9, "min", "(II)I"⟩
def RJ10 : String := "java/lang/System"
def TJ10 : u_T := fun k => match k with
  | _ => ("", "", "", false)
def tyJ10 : Nat → FieldType := fun k => match k with
  | _ => .int
abbrev wsJ100 : List Cond := u_ws RJ10 TJ10 0
theorem nmJ10 : ∀ a, a < 0 → ∀ b, b < 0 → a ≠ b → (TJ10 a).2.1 ≠ (TJ10 b).2.1 := by decide +kernel
theorem tyJ10_ok : ∀ k, k < 0 → parseFieldDescriptor (TJ10 k).2.2.1 = some (tyJ10 k) := by decide +kernel
def RJ7 : String := "java/util/Arrays"
def TJ7 : u_T := fun k => match k with
  | _ => ("", "", "", false)
def tyJ7 : Nat → FieldType := fun k => match k with
  | _ => .int
abbrev wsJ70 : List Cond := u_ws RJ7 TJ7 0
theorem nmJ7 : ∀ a, a < 0 → ∀ b, b < 0 → a ≠ b → (TJ7 a).2.1 ≠ (TJ7 b).2.1 := by decide +kernel
theorem tyJ7_ok : ∀ k, k < 0 → parseFieldDescriptor (TJ7 k).2.2.1 = some (tyJ7 k) := by decide +kernel
abbrev cJ7_fill_53178 : ByteArray := prog_14_method_103_code
def yJ7_fill_53178 : MethodName := ⟨RJ7, "fill", "([II)V"⟩
def RL : String := "WashSailsLaw"
abbrev cL_law : ByteArray := code
def yL_law : MethodName := ⟨RL, "law", "([I)Z"⟩
abbrev vwCl : List vw_C := [(RX0, TX0, 4), (RX1, TX1, 7), (RX2, TX2, 2), (RX3, TX3, 3), (RX4, TX4, 5), (RX5, TX5, 8), (RX6, TX6, 8), (RX7, TX7, 11), (RX8, TX8, 37)]
end
section
/-! ===== a system whose cells stand: the state is ints and longs by cell and place; a frame's judgement over it ===== -/
abbrev kw_S : Type := (Nat → Nat → Int32) × (Nat → Nat → Int64)
abbrev kw_K1 : Type := (Nat ⊕ (Nat × List Nat)) ⊕ (Nat × List Value)
abbrev kw_G : Type := (Nat → Nat) × va_G × (Nat → ClassId)
abbrev kw_M : Type := (String × MethodName × ByteArray × Nat × Option FieldType) × List (Nat × Instr × Nat)
abbrev kw_E : Type := List (Nat × Nat × (Nat → Int32))
def kw_rv (ad : Nat → Nat) (v : Value) : Value := match v with
  | .ref a => .ref (ad a)
  | w => w
def kw_fv (ad : Nat → Nat) (σ : kw_S) (a j : Nat) (t : Value) : Value := match t with
  | .int _ => .int (σ.1 a j)
  | .long _ => .long (σ.2 a j)
  | w => kw_rv ad w
def kw_fill (ad : Nat → Nat) (σ : kw_S) (a : Nat) (fs : List Value) : List Value := fs.mapIdx (kw_fv ad σ a)
def kw_cell (G : kw_G) (σ : kw_S) (a : Nat) (k : kw_K1) : va_E := match k with
  | .inl (.inl n) => .inl (G.2.2 0, n, .inl (σ.1 a))
  | .inl (.inr (t, rs)) => .inl (G.2.2 t, rs.length, .inr (.inr (.inr (.inr (fun j => (rs[j]?).map G.1)))))
  | .inr (ci, fs) => .inr (ci, kw_fill G.1 σ a fs)
def kw_W (G : kw_G) (K : List kw_K1) (σ : kw_S) : va_W := K.mapIdx (fun a k => (G.1 a, kw_cell G σ a k))
theorem kw_W_get (G : kw_G) (K : List kw_K1) (σ : kw_S) (a : Nat) : (kw_W G K σ)[a]? = (K[a]?).map (fun k => (G.1 a, kw_cell G σ a k)) := by
  simp [kw_W, List.getElem?_mapIdx]
theorem kw_W_at {G : kw_G} {K : List kw_K1} {σ : kw_S} {a : Nat} {k : kw_K1} (h : K[a]? = some k) : (kw_W G K σ)[a]? = some (G.1 a, kw_cell G σ a k) := by
  rw [kw_W_get, h]; rfl
theorem kw_cell_eq {G : kw_G} {σ σ' : kw_S} {a : Nat} (h1 : σ.1 a = σ'.1 a) (h2 : σ.2 a = σ'.2 a) (k : kw_K1) : kw_cell G σ a k = kw_cell G σ' a k := by
  rcases k with (n | ⟨t, rs⟩) | ⟨ci, fs⟩
  · simp [kw_cell, h1]
  · rfl
  · have e : kw_fv G.1 σ a = kw_fv G.1 σ' a := by
      funext j t
      cases t <;> simp [kw_fv, h1, h2]
    simp [kw_cell, kw_fill, e]
theorem kw_W_set {G : kw_G} {K : List kw_K1} {σ σ' : kw_S} {a : Nat} {k : kw_K1} {e : va_E} (hk : K[a]? = some k) (hc : kw_cell G σ' a k = e) (h1 : ∀ b, b ≠ a → σ.1 b = σ'.1 b) (h2 : ∀ b, b ≠ a → σ.2 b = σ'.2 b) : (kw_W G K σ).set a (G.1 a, e) = kw_W G K σ' := by
  apply List.ext_getElem?
  intro b
  by_cases hb : b = a
  · subst hb
    have hl : b < (kw_W G K σ).length := (List.getElem?_eq_some_iff.mp (kw_W_at (G := G) (σ := σ) hk)).1
    rw [List.getElem?_set_self hl, kw_W_at hk, hc]
  · rw [List.getElem?_set_ne (Ne.symm hb), kw_W_get, kw_W_get]
    cases K[b]? with
    | none => rfl
    | some k => simp only [Option.map_some]; rw [kw_cell_eq (h1 b hb) (h2 b hb)]
def kw_ui (σ : kw_S) (a i : Nat) (x : Int32) : kw_S := (fun b => if b = a then upd (σ.1 a) i x else σ.1 b, σ.2)
def kw_ul (σ : kw_S) (a i : Nat) (x : Int64) : kw_S := (σ.1, fun b => if b = a then vp_updL (σ.2 a) i x else σ.2 b)
def kw_ua (σ : kw_S) (a : Nat) (f : Nat → Int32) : kw_S := (fun b => if b = a then f else σ.1 b, σ.2)
theorem kw_fill_get (ad : Nat → Nat) (σ : kw_S) (a : Nat) (fs : List Value) (j : Nat) : (kw_fill ad σ a fs)[j]? = (fs[j]?).map (kw_fv ad σ a j) := by
  simp [kw_fill, List.getElem?_mapIdx]
theorem kw_fill_seti {ad : Nat → Nat} {σ : kw_S} {a : Nat} {fs : List Value} {j : Nat} {z x : Int32} (h : fs[j]? = some (.int z)) : (kw_fill ad σ a fs).set j (.int x) = kw_fill ad (kw_ui σ a j x) a fs := by
  apply List.ext_getElem?
  intro i
  by_cases hi : i = j
  · subst hi
    have hl : i < (kw_fill ad σ a fs).length := by
      have := (List.getElem?_eq_some_iff.mp h).1
      simp [kw_fill, this]
    rw [List.getElem?_set_self hl, kw_fill_get, h]
    simp [kw_fv, kw_ui, upd]
  · rw [List.getElem?_set_ne (Ne.symm hi), kw_fill_get, kw_fill_get]
    cases fs[i]? with
    | none => rfl
    | some t => cases t <;> simp [kw_fv, kw_ui, upd, hi]
theorem kw_fill_setl {ad : Nat → Nat} {σ : kw_S} {a : Nat} {fs : List Value} {j : Nat} {z x : Int64} (h : fs[j]? = some (.long z)) : (kw_fill ad σ a fs).set j (.long x) = kw_fill ad (kw_ul σ a j x) a fs := by
  apply List.ext_getElem?
  intro i
  by_cases hi : i = j
  · subst hi
    have hl : i < (kw_fill ad σ a fs).length := by
      have := (List.getElem?_eq_some_iff.mp h).1
      simp [kw_fill, this]
    rw [List.getElem?_set_self hl, kw_fill_get, h]
    simp [kw_fv, kw_ul, vp_updL]
  · rw [List.getElem?_set_ne (Ne.symm hi), kw_fill_get, kw_fill_get]
    cases fs[i]? with
    | none => rfl
    | some t => cases t <;> simp [kw_fv, kw_ul, vp_updL, hi]
theorem kw_W_ui {G : kw_G} {K : List kw_K1} {σ : kw_S} {a n i : Nat} {x : Int32} (hk : K[a]? = some (.inl (.inl n))) : (kw_W G K σ).set a (G.1 a, .inl (G.2.2 0, n, .inl (upd (σ.1 a) i x))) = kw_W G K (kw_ui σ a i x) :=
  kw_W_set hk (by simp [kw_cell, kw_ui]) (fun b hb => by simp [kw_ui, hb]) (fun _ _ => rfl)
theorem kw_W_ua {G : kw_G} {K : List kw_K1} {σ : kw_S} {a n : Nat} {f : Nat → Int32} (hk : K[a]? = some (.inl (.inl n))) : (kw_W G K σ).set a (G.1 a, .inl (G.2.2 0, n, .inl f)) = kw_W G K (kw_ua σ a f) :=
  kw_W_set hk (by simp [kw_cell, kw_ua]) (fun b hb => by simp [kw_ua, hb]) (fun _ _ => rfl)
theorem kw_W_pi {G : kw_G} {K : List kw_K1} {σ : kw_S} {a ci j : Nat} {fs : List Value} {x z : Int32} (hk : K[a]? = some (.inr (ci, fs))) (hf : fs[j]? = some (.int z)) : (kw_W G K σ).set a (G.1 a, .inr (ci, (kw_fill G.1 σ a fs).set j (.int x))) = kw_W G K (kw_ui σ a j x) :=
  kw_W_set hk (by show Sum.inr _ = _; rw [kw_fill_seti hf]) (fun b hb => by simp [kw_ui, hb]) (fun _ _ => rfl)
theorem kw_W_pl {G : kw_G} {K : List kw_K1} {σ : kw_S} {a ci j : Nat} {fs : List Value} {x z : Int64} (hk : K[a]? = some (.inr (ci, fs))) (hf : fs[j]? = some (.long z)) : (kw_W G K σ).set a (G.1 a, .inr (ci, (kw_fill G.1 σ a fs).set j (.long x))) = kw_W G K (kw_ul σ a j x) :=
  kw_W_set hk (by show Sum.inr _ = _; rw [kw_fill_setl hf]) (fun _ _ => rfl) (fun b hb => by simp [kw_ul, hb])
theorem kw_W_same {G : kw_G} {K : List kw_K1} (σ σ' : kw_S) {i : Nat} {q : Nat × va_E} (h : (kw_W G K σ)[i]? = some q) : ∃ q' : Nat × va_E, (kw_W G K σ')[i]? = some q' ∧ q'.1 = q.1 := by
  rw [kw_W_get] at h
  cases hk : K[i]? with
  | none => rw [hk] at h; cases h
  | some k =>
    rw [hk] at h
    cases h
    exact ⟨_, kw_W_at hk, rfl⟩
theorem kw_D {G : kw_G} {K : List kw_K1} {σ : kw_S} (σ' : kw_S) {A : Nat → Prop} (h : va_D A (kw_W G K σ)) : va_D A (kw_W G K σ') := by
  refine ⟨fun i j p q hi hj hpq => ?_, fun k q hk => ?_⟩
  · obtain ⟨p', h1, h2⟩ := kw_W_same σ' σ hi
    obtain ⟨q', h3, h4⟩ := kw_W_same σ' σ hj
    exact h.1 i j p' q' h1 h3 (h2.trans (hpq.trans h4.symm))
  · obtain ⟨q', h1, h2⟩ := kw_W_same σ' σ hk
    rw [← h2]
    exact h.2 k q' h1
theorem kw_A {G : kw_G} {K : List kw_K1} {σ : kw_S} (σ' : kw_S) {sz q : Nat} (h : va_A (kw_W G K σ) sz q) : va_A (kw_W G K σ') sz q := by
  rcases h with ⟨k, e, h⟩ | h
  · obtain ⟨q', h1, h2⟩ := kw_W_same σ σ' h
    obtain ⟨x, y⟩ := q'
    cases h2
    exact Or.inl ⟨k, y, h1⟩
  · exact Or.inr h
abbrev kw_tys (G : kw_G) : List (ClassId × FieldType) := [(G.2.2 0, .int), (G.2.2 1, .array .int), (G.2.2 2, .object "WashSails$Chart")]
end
section
/-! ===== the tables that every method is given; what stands still: two static rows, links of nest mates ===== -/
def kw_ws : List Cond := lw_tbl.filter goodWord
theorem kw_ws_in {w : Cond} (h : w ∈ lw_tbl) (hg : goodWord w = true) : w ∈ kw_ws := List.mem_filter.mpr ⟨h, hg⟩
theorem kw_good {c : Cond} {ws : List Cond} (hc : c ∈ kw_ws) (h : ∀ w ∈ kw_ws, w ∈ ws) : GoodIn ws (c :: kw_ws) := by
  intro w hw
  have hw' : w ∈ kw_ws := by
    rcases List.mem_cons.mp hw with rfl | h1
    · exact hc
    · exact h1
  exact ⟨h w hw', good_of_word (List.mem_filter.mp hw').2⟩
def kw_LT (j : Nat) : Int32 := ([108, 115, 98, 107, 111, 112] : List Int32).getD j 0
def kw_KA (j : Nat) : Int32 := ([-1, 0, 0, 0, 1, 4] : List Int32).getD j 0
def kw_E0 : kw_E := [(1000, 6, kw_LT), (1001, 6, kw_KA)]
def kw_NM : List (String × Nat × MethodName) := [("WashSails$Layout", 48, ⟨"WashSails", "pull", "(III)I"⟩), ("WashSails$Town", 90, ⟨"WashSails", "weather", "([III)V"⟩), ("WashSails$Layout", 61, ⟨"WashSails", "isA", "(II)Z"⟩)]
def kw_St (G : kw_G) (E : kw_E) (A : Nat → Prop) (U : State) (H : Heap) : Prop :=
  va_Z "WashSails" "LETTERS" "[I" (.ref (G.1 1000)) A U H ∧ va_Z "WashSails" "KIND_ABOVE" "[I" (.ref (G.1 1001)) A U H ∧ (∀ q ∈ E, va_T .int (G.1 q.1) q.2.1 (fun j => .int (q.2.2 j)) A U H) ∧ (∀ q ∈ kw_NM, va_Nw (.methodLinkNest q.1 q.2.1 q.2.2 "WashSails") U) ∧ va_Nw (.fieldLinkNest "WashSails$Reader" 72 "WashSails" "LETTERS" "[I" "WashSails") U
theorem kw_St.calling {G : kw_G} {E : kw_E} {A : Nat → Prop} {U : State} {H : Heap} (h : kw_St G E A U H) (g : JFrame) (mk : MethodId) (a : Array Value) : kw_St G E A (U.calling g mk a) H :=
  ⟨va_Z.moved (u := U) (U := U.calling g mk a) (Vm.Alike.refl U.vm) h.1, va_Z.moved (u := U) (U := U.calling g mk a) (Vm.Alike.refl U.vm) h.2.1, fun q hq => va_T.moved (u := U) (U := U.calling g mk a) (Vm.Alike.refl U.vm) (h.2.2.1 q hq), fun q hq => va_Nw.same (u := U) (U := U.calling g mk a) rfl rfl (h.2.2.2.1 q hq), va_Nw.same (u := U) (U := U.calling g mk a) rfl rfl h.2.2.2.2⟩
theorem kw_St.next {G : kw_G} {E E' : kw_E} {A A' : Nat → Prop} {s U : State} {H locs} (h : kw_St G E A s s.heap) (hE : ∀ q ∈ E', q ∈ E) (hW : s.WarmedH U.vm) (hS : va_S A s.heap H locs) (hA : ∀ q, A' q → A q) : kw_St G E' A' U H := by
  have hk : ∀ a : Nat, a < s.heap.size → ¬ A a → H[a]? = s.heap[a]? := fun a h1 h2 => hS.2.1 a h1 h2
  exact ⟨((h.1.moved hW.alike).kept hk).narrow hA, ((h.2.1.moved hW.alike).kept hk).narrow hA, fun q hq => (((h.2.2.1 q (hE q hq)).moved hW.alike).kept hk).narrow hA, fun q hq => va_Nw.warmM hW (h.2.2.2.1 q hq), va_Nw.warmF hW h.2.2.2.2⟩
/-! ===== the judgement ===== -/
/-- what is fixed while a method runs -/
def kw_Cx (E : kw_E) (M : kw_M) (G : kw_G) (A : Nat → Prop) (p : Program) (s : State) (m : MethodId) (args : Array Value) (meth : Method) (c : Code) : Prop :=
  p.tables.exec = Jvm.exec ∧ c.code = M.1.2.2.1 ∧ meth.sig.returnType = M.1.2.2.2.2 ∧ meth.locks = false ∧ c.maxLocals = M.1.2.2.2.1 ∧ s.vm.findClass M.1.1 = some m.cls ∧ (∀ w ∈ kw_ws, w.before args s = true) ∧ va_K G.2.1 vwCl (kw_tys G) s ∧ (∀ q : Nat, s.heap.size ≤ q → A q) ∧ kw_St G E A s s.heap ∧ (∀ q ∈ M.2, decode M.1.2.2.1 q.1 = .ok q.2)
/-- what moves -/
def kw_Sx (K : List kw_K1) (M : kw_M) (G : kw_G) (A : Nat → Prop) (s : State) (H : Heap) (locs : List Loc) (ls : Array Slot) (lv : List (Nat × Value)) (σ : kw_S) : Prop :=
  va_P G.2.1 vwCl (kw_W G K σ) H ∧ va_D A (kw_W G K σ) ∧ va_S A s.heap H locs ∧ lv_has ls M.1.2.2.2.1 (lv.map (fun q => (q.1, kw_rv G.1 q.2)))
def kw_ret (ret : Option FieldType) (ins : Instr) (v : Option Value) : Prop := (ins = .return_ ∧ ret = none ∧ v = none) ∨ (∃ (ty : FieldType) (x : Int32), ins = .ireturn ∧ ret = some ty ∧ v = some (.int x) ∧ narrow ty (.int x) = .int x) ∨ (∃ x : Int64, ins = .lreturn ∧ ret = some .long ∧ v = some (.long x))
/-- what is owed at the method's end -/
def kw_Fin (l : Launch) (K : List kw_K1) (M : kw_M) (P : Option Value → kw_S → Prop) (G : kw_G) (A : Nat → Prop) (p : Program) (e : Env) (R : Room) (s : State) (m : MethodId) (args : Array Value) (below : List Frame) (meth : Method) (c : Code) (cells slots : Nat) (Q : State → Prop) : Prop :=
  ∀ (v : Option Value) (σ' : kw_S) (H' : Heap) (locs' : List Loc) (ls' : Array Slot) (pc' : Nat) (ins : Instr), P v σ' → va_P G.2.1 vwCl (kw_W G K σ') H' → va_S A s.heap H' locs' → decode M.1.2.2.1 pc' = .ok (ins, 1) → kw_ret M.1.2.2.2.2 ins v → W p l e R s m args below meth c H' locs' cells slots Q (F0 m pc' ls' (v.toList.map (kw_rv G.1)))
def kw_AW (l : Launch) (d : Nat) (E : kw_E) (K : List kw_K1) (M : kw_M) (P : Option Value → kw_S → Prop) (pc : Nat) (lv : List (Nat × Value)) (st : List Value) (σ : kw_S) : Prop :=
  ∀ (p : Program) (e : Env) (R : Room) (s : State) (m : MethodId) (args : Array Value) (below : List Frame) (meth : Method) (c : Code) (H : Heap) (locs : List Loc) (cells slots : Nat) (Q : State → Prop) (ls : Array Slot) (G : kw_G) (A : Nat → Prop),
    kw_Cx E M G A p s m args meth c → kw_Sx K M G A s H locs ls lv σ → (d ≤ R.frames ∧ 60 * d ≤ R.locals ∧ cells ≤ R.cells ∧ slots ≤ R.slots) → kw_Fin l K M P G A p e R s m args below meth c cells slots Q →
    W p l e R s m args below meth c H locs cells slots Q (F0 m pc ls (st.map (kw_rv G.1)))
def kw_rm (d : Nat) : Room := { frames := d, cells := 0, slots := 0, locals := 60 * d }
def kw_Q (G : kw_G) (K : List kw_K1) (P : Option Value → kw_S → Prop) (A : Nat → Prop) : Array Value → State → Outcome → State → Prop := fun _ st oc t =>
  (∃ (v : Option Value) (σ' : kw_S), oc = .returned (v.map (kw_rv G.1)) ∧ P v σ' ∧ va_P G.2.1 vwCl (kw_W G K σ') t.heap) ∧ va_F A st t
def kw_Pre (G : kw_G) (K : List kw_K1) (σ : kw_S) (sz : Nat) (As : List Value) : Array Value → State → Prop :=
  va_Pc (As.map (kw_rv G.1)) (fun U => U.heap.size = sz ∧ va_P G.2.1 vwCl (kw_W G K σ) U.heap ∧ va_K G.2.1 vwCl (kw_tys G) U ∧ va_D (fun _ => True) (kw_W G K σ) ∧ kw_St G kw_E0 (va_A (kw_W G K σ) sz) U U.heap)
/-- a method's contract over the state -/
def kw_Met (l : Launch) (d : Nat) (K : List kw_K1) (M : kw_M) (As : List Value) (σ : kw_S) (P : Option Value → kw_S → Prop) : Prop :=
  ∀ (G : kw_G) (sz : Nat), Met l M.1.2.1 (.code M.1.2.1 M.1.2.2.1 M.1.2.2.2.1 M.1.2.2.2.2 :: kw_ws) (kw_rm d) (kw_Pre G K σ sz As) (kw_Q G K P (va_A (kw_W G K σ) sz)) 0 0 (va_A (kw_W G K σ) sz)
theorem kw_blind {G : kw_G} {K : List kw_K1} {σ : kw_S} {sz : Nat} {As : List Value} : FrameBlind (kw_Pre G K σ sz As) := by
  intro a U g mk q
  obtain ⟨q0, q1, qP, qK, qD, qS⟩ := q
  exact ⟨q0, q1, qP, va_K.moved (u := U) (U := U.calling g mk a) (Vm.Alike.refl U.vm) qK, qD, qS.calling g mk a⟩
theorem kw_cat (ad : Nat → Nat) (v : Value) : (kw_rv ad v).category = v.category := by cases v <;> rfl
theorem kw_args (ad : Nat → Nat) : ∀ (vs : List Value) (i : Nat), lv_args i (vs.map (kw_rv ad)) = (lv_args i vs).map (fun q => (q.1, kw_rv ad q.2))
  | [], _ => rfl
  | v :: vs, i => by
    simp only [List.map_cons, lv_args, kw_cat]
    rw [kw_args ad vs]
theorem kw_sl (ad : Nat → Nat) (vs : List Value) : (lg_sl (vs.map (kw_rv ad))).length = (lg_sl vs).length := by
  induction vs with
  | nil => rfl
  | cons v t ih =>
    simp only [lg_sl, List.map_cons, List.flatMap_cons, List.length_append, kw_cat] at ih ⊢
    rw [ih]
    congr 1
    split <;> rfl
/-- the contract out of the walk -/
theorem kw_Met.of {l : Launch} {d : Nat} {K : List kw_K1} {M : kw_M} {As : List Value} {σ : kw_S} {P : Option Value → kw_S → Prop} (hy : plainName M.1.2.1.cls = true) (hown : M.1.2.1.cls = M.1.1) (htab : ∀ q ∈ M.2, decode M.1.2.2.1 q.1 = .ok q.2) (hn : (lg_sl As).length ≤ M.1.2.2.2.1)
    (h : kw_AW l d kw_E0 K M P 0 (lv_args 0 As) [] σ) : kw_Met l d K M As σ P := by
  intro G sz
  refine Met.ofW (cc := M.1.2.2.1) (maxL := M.1.2.2.2.1) (ret := M.1.2.2.2.2) hy rfl ?_
  intro p e s m args below meth c s₁ B hml hv
  obtain ⟨rfl, hsz, hP, hK, hD0, hSt⟩ := hv
  have hx := B.exec
  have hb := B.bytes
  have hr := B.returns
  have hts := atoms_spec (ws := .code M.1.2.1 M.1.2.2.1 M.1.2.2.2.1 M.1.2.2.2.2 :: kw_ws) B.pre
  have hfc : s.vm.findClass M.1.1 = some m.cls := by rw [← hown]; exact findClass_of_methodNamed B.named
  have hlocks := B.notSynchronized
  subst hsz
  have hD := hD0.self (sz := s.heap.size)
  have hA : ∀ q : Nat, s.heap.size ≤ q → va_A (kw_W G K σ) s.heap.size q := fun q h => Or.inr h
  have hS : va_S (va_A (kw_W G K σ) s.heap.size) s.heap s.heap [] := va_S.rf
  have hl := lv_entry (As.map (kw_rv G.1)) (n := M.1.2.2.2.1) (by rw [kw_sl]; exact hn)
  rw [kw_args] at hl
  rw [lg_entry_eq]
  generalize (lg_sl (As.map (kw_rv G.1)) ++ List.replicate (M.1.2.2.2.1 - (lg_sl (As.map (kw_rv G.1))).length) Slot.unset).toArray = ls at hl ⊢
  refine h p e (kw_rm d) s m _ below meth c s.heap [] 0 0 _ ls G (va_A (kw_W G K σ) s.heap.size) ⟨hx, hb, hr, hlocks, hml, hfc, fun w hw => hts w (List.mem_cons_of_mem _ hw), hK, hA, hSt, htab⟩ ⟨hP, hD, hS, hl⟩ ⟨Nat.le_refl _, Nat.le_refl _, Nat.le_refl _, Nat.le_refl _⟩ ?_
  intro v σ' H' locs' ls' pc' ins hPv hP' hS' hdec hret
  have hq : ∀ t : State, t.heap = H' → s.WarmedH t.vm → kw_Q G K P (va_A (kw_W G K σ) s.heap.size) (As.map (kw_rv G.1)).toArray s (.returned (v.map (kw_rv G.1))) t := fun t ht _ => ⟨⟨v, σ', rfl, hPv, by rw [ht]; exact hP'⟩, hS'.F ht⟩
  rcases hret with ⟨rfl, h2, rfl⟩ | ⟨ty, x, rfl, h2, rfl, h4⟩ | ⟨x, rfl, h2, rfl⟩
  · exact W.vret hx hb (hr.trans h2) hq hS'.2.2 hdec
  · exact W.zret hx hb (hr.trans h2) h4 hq hS'.2.2 hdec
  · exact W.lret hx hb (hr.trans h2) hq hS'.2.2 hdec
end
section
section KWR
variable {l : Launch} {d : Nat} {E : kw_E} {K : List kw_K1} {M : kw_M} {P : Option Value → kw_S → Prop} {pc : Nat} {lv : List (Nat × Value)} {st : List Value} {σ : kw_S}
theorem kw_dec {G : kw_G} {A : Nat → Prop} {p : Program} {s : State} {m : MethodId} {args : Array Value} {meth : Method} {c : Code} (C : kw_Cx E M G A p s m args meth c) {i pc len : Nat} {ins : Instr} (h : M.2[i]? = some (pc, ins, len)) : decode M.1.2.2.1 pc = .ok (ins, len) := C.2.2.2.2.2.2.2.2.2.2 (pc, ins, len) (List.mem_of_getElem? h)
theorem kw_find {G : kw_G} {ls : Array Slot} {n k : Nat} {i : Nat} {v : Value} (h : lv_has ls n (lv.map (fun q => (q.1, kw_rv G.1 q.2)))) (hk : lv[k]? = some (i, v)) : ls[i]? = some (.val (kw_rv G.1 v)) :=
  lv_at h k (by rw [List.getElem?_map, hk]; rfl)
theorem kw_fil1 (ad : Nat → Nat) (i : Nat) : ∀ l : List (Nat × Value), (l.map (fun q => (q.1, kw_rv ad q.2))).filter (fun q => !(q.1 == i) && !(q.1 + 1 == i && q.2.category == 2)) = (l.filter (fun q => !(q.1 == i) && !(q.1 + 1 == i && q.2.category == 2))).map (fun q => (q.1, kw_rv ad q.2))
  | [] => rfl
  | q :: l => by
    rw [List.map_cons, List.filter_cons, List.filter_cons, kw_fil1 ad i l]
    simp only [kw_cat]
    split <;> rfl
theorem kw_fil2 (ad : Nat → Nat) (i : Nat) : ∀ l : List (Nat × Value), (l.map (fun q => (q.1, kw_rv ad q.2))).filter (fun q => !(q.1 == i) && (!(q.1 == i + 1) && !(q.1 + 1 == i && q.2.category == 2))) = (l.filter (fun q => !(q.1 == i) && (!(q.1 == i + 1) && !(q.1 + 1 == i && q.2.category == 2)))).map (fun q => (q.1, kw_rv ad q.2))
  | [] => rfl
  | q :: l => by
    rw [List.map_cons, List.filter_cons, List.filter_cons, kw_fil2 ad i l]
    simp only [kw_cat]
    split <;> rfl
theorem kw_rng (x : Int32) : -2147483648 ≤ x.toInt ∧ x.toInt < 2147483648 := ⟨Int32.le_toInt x, Int32.toInt_lt x⟩
theorem kw_rngL (x : Int64) : -9223372036854775808 ≤ x.toInt ∧ x.toInt < 9223372036854775808 := ⟨Int64.le_toInt x, Int64.toInt_lt x⟩
theorem kw_bm (z : Int) : z.bmod (2 ^ 32) = (z + 2147483648) % 4294967296 - 2147483648 := by
  simp only [Int.bmod]; split <;> omega
theorem kw_bmL (z : Int) : z.bmod (2 ^ 64) = (z + 9223372036854775808) % 18446744073709551616 - 9223372036854775808 := by
  simp only [Int.bmod]; split <;> omega
theorem kw_addI (x y : Int32) : (x + y).toInt = (x.toInt + y.toInt + 2147483648) % 4294967296 - 2147483648 := by rw [Int32.toInt_add, kw_bm]
theorem kw_subI (x y : Int32) : (x - y).toInt = (x.toInt - y.toInt + 2147483648) % 4294967296 - 2147483648 := by rw [Int32.toInt_sub, kw_bm]
theorem kw_mulI (x y : Int32) : (x * y).toInt = (x.toInt * y.toInt + 2147483648) % 4294967296 - 2147483648 := by rw [Int32.toInt_mul, kw_bm]
theorem kw_negI (x : Int32) : (-x).toInt = (-x.toInt + 2147483648) % 4294967296 - 2147483648 := by rw [Int32.toInt_neg, kw_bm]
theorem kw_addL (x y : Int64) : (x + y).toInt = (x.toInt + y.toInt + 9223372036854775808) % 18446744073709551616 - 9223372036854775808 := by rw [Int64.toInt_add, kw_bmL]
theorem kw_i2lI (x : Int32) : x.toInt64.toInt = x.toInt := by simp
theorem kw_in {x : Int32} {n : Nat} (h0 : 0 ≤ x.toInt) (h1 : x.toInt < n) : vp_in x n := vp_in_iff.mpr ⟨h0, h1⟩
theorem kw_clamp {x : Int32} {n : Nat} (h0 : 0 ≤ x.toInt) (h1 : x.toInt < n) : x.toNatClampNeg < n := by
  have e : x.toNatClampNeg = x.toInt.toNat := rfl
  rw [e]; omega
theorem kw_clampI {x : Int32} (h0 : 0 ≤ x.toInt) : ((x.toNatClampNeg : Nat) : Int) = x.toInt := by
  have e : x.toNatClampNeg = x.toInt.toNat := rfl
  rw [e]; omega
theorem kw_lcmpI (x y : Int64) : ((lg_cmp x y).toInt < 0 ↔ x.toInt < y.toInt) ∧ (0 < (lg_cmp x y).toInt ↔ y.toInt < x.toInt) ∧ ((lg_cmp x y).toInt = 0 ↔ x.toInt = y.toInt) := by
  have e1 : (1 : Int32).toInt = 1 := rfl
  have e0 : (0 : Int32).toInt = 0 := rfl
  have em : (-1 : Int32).toInt = -1 := rfl
  unfold lg_cmp
  by_cases h1 : y < x
  · have h : y.toInt < x.toInt := Int64.lt_iff_toInt_lt.mp h1
    simp only [h1, if_true]
    rw [e1]
    refine ⟨⟨fun q => ?_, fun q => ?_⟩, ⟨fun q => ?_, fun q => ?_⟩, ⟨fun q => ?_, fun q => ?_⟩⟩ <;> omega
  · have h : ¬ y.toInt < x.toInt := fun q => h1 (Int64.lt_iff_toInt_lt.mpr q)
    by_cases h2 : x = y
    · subst h2
      have h1' : ¬ x < x := h1
      simp only [h1', if_false, if_true, e0, Int.lt_irrefl, iff_self, and_self]
    · have h3 : x.toInt ≠ y.toInt := fun q => h2 (Int64.toInt_inj.mp q)
      simp only [h1, h2, if_false]
      rw [em]
      refine ⟨⟨fun q => ?_, fun q => ?_⟩, ⟨fun q => ?_, fun q => ?_⟩, ⟨fun q => ?_, fun q => ?_⟩⟩ <;> omega
end KWR
end
section
section KWR
variable {l : Launch} {d : Nat} {E : kw_E} {K : List kw_K1} {M : kw_M} {P : Option Value → kw_S → Prop} {pc : Nat} {lv : List (Nat × Value)} {st : List Value} {σ : kw_S}
theorem kw_iconst {i : Nat} {n : Int} {v : Int32} (hi : M.2[i]? = some (pc, .iconst n, 1)) (hv : Int32.ofInt n = v) (h : kw_AW l d E K M P (pc + 1) lv (.int v :: st) σ) : kw_AW l d E K M P pc lv (st) σ := by
  intro p e R s m args below meth c H locs cells slots Q ls G A Cx Sx Rx Fx
  exact lv_iconst Cx.1 Cx.2.1 (kw_dec Cx hi) hv (h p e R s m args below meth c H locs cells slots Q ls G A Cx Sx Rx Fx)
theorem kw_bipush {i : Nat} {n : Int} {v : Int32} (hi : M.2[i]? = some (pc, .bipush n, 2)) (hv : (Int8.ofInt n).toInt32 = v) (h : kw_AW l d E K M P (pc + 2) lv (.int v :: st) σ) : kw_AW l d E K M P pc lv (st) σ := by
  intro p e R s m args below meth c H locs cells slots Q ls G A Cx Sx Rx Fx
  exact lv_bipush Cx.1 Cx.2.1 (kw_dec Cx hi) hv (h p e R s m args below meth c H locs cells slots Q ls G A Cx Sx Rx Fx)
theorem kw_sipush {i : Nat} {n : Int} {v : Int32} (hi : M.2[i]? = some (pc, .sipush n, 3)) (hv : (Int16.ofInt n).toInt32 = v) (h : kw_AW l d E K M P (pc + 3) lv (.int v :: st) σ) : kw_AW l d E K M P pc lv (st) σ := by
  intro p e R s m args below meth c H locs cells slots Q ls G A Cx Sx Rx Fx
  exact lv_sipush Cx.1 Cx.2.1 (kw_dec Cx hi) hv (h p e R s m args below meth c H locs cells slots Q ls G A Cx Sx Rx Fx)
theorem kw_lconst {i : Nat} {n : Fin 2} {v : Int64} (hi : M.2[i]? = some (pc, .lconst n, 1)) (hv : Int64.ofNat (n : Nat) = v) (h : kw_AW l d E K M P (pc + 1) lv (.long v :: st) σ) : kw_AW l d E K M P pc lv (st) σ := by
  intro p e R s m args below meth c H locs cells slots Q ls G A Cx Sx Rx Fx
  exact lv_lconst Cx.1 Cx.2.1 (kw_dec Cx hi) hv (h p e R s m args below meth c H locs cells slots Q ls G A Cx Sx Rx Fx)
theorem kw_ldc {i : Nat} {v : Int32} {index : Nat} (hi : M.2[i]? = some (pc, .ldc index, 2)) (hc : Cond.constant M.1.1 index v ∈ kw_ws) (h : kw_AW l d E K M P (pc + 2) lv (.int v :: st) σ) : kw_AW l d E K M P pc lv (st) σ := by
  intro p e R s m args below meth c H locs cells slots Q ls G A Cx Sx Rx Fx
  exact lv_ldc Cx.1 Cx.2.1 Cx.2.2.2.2.2.1 (Cx.2.2.2.2.2.2.1 _ hc) (kw_dec Cx hi) (h p e R s m args below meth c H locs cells slots Q ls G A Cx Sx Rx Fx)
theorem kw_ldcw {i : Nat} {v : Int32} {index : Nat} (hi : M.2[i]? = some (pc, .ldc_w index, 3)) (hc : Cond.constant M.1.1 index v ∈ kw_ws) (h : kw_AW l d E K M P (pc + 3) lv (.int v :: st) σ) : kw_AW l d E K M P pc lv (st) σ := by
  intro p e R s m args below meth c H locs cells slots Q ls G A Cx Sx Rx Fx
  exact lv_ldcw Cx.1 Cx.2.1 Cx.2.2.2.2.2.1 (Cx.2.2.2.2.2.2.1 _ hc) (kw_dec Cx hi) (h p e R s m args below meth c H locs cells slots Q ls G A Cx Sx Rx Fx)
theorem kw_ldc2 {i : Nat} {v : Int64} {index : Nat} (hi : M.2[i]? = some (pc, .ldc2_w index, 3)) (hc : Cond.constantLong M.1.1 index v ∈ kw_ws) (h : kw_AW l d E K M P (pc + 3) lv (.long v :: st) σ) : kw_AW l d E K M P pc lv (st) σ := by
  intro p e R s m args below meth c H locs cells slots Q ls G A Cx Sx Rx Fx
  exact lv_ldc2 Cx.1 Cx.2.1 Cx.2.2.2.2.2.1 (Cx.2.2.2.2.2.2.1 _ hc) (kw_dec Cx hi) (h p e R s m args below meth c H locs cells slots Q ls G A Cx Sx Rx Fx)
theorem kw_iload_n {i : Nat} {j : Fin 4} {k n : Nat} {x : Int32} (hi : M.2[i]? = some (pc, .iload_n j, 1)) (hj : (j : Nat) = n) (hk : lv[k]? = some (n, .int x)) (h : kw_AW l d E K M P (pc + 1) lv (.int x :: st) σ) : kw_AW l d E K M P pc lv (st) σ := by
  intro p e R s m args below meth c H locs cells slots Q ls G A Cx Sx Rx Fx
  exact lv_iload_n Cx.1 Cx.2.1 (kw_dec Cx hi) hj (kw_find Sx.2.2.2 hk) (h p e R s m args below meth c H locs cells slots Q ls G A Cx Sx Rx Fx)
theorem kw_iload {i : Nat} {k n : Nat} {x : Int32} (hi : M.2[i]? = some (pc, .iload n, 2)) (hk : lv[k]? = some (n, .int x)) (h : kw_AW l d E K M P (pc + 2) lv (.int x :: st) σ) : kw_AW l d E K M P pc lv (st) σ := by
  intro p e R s m args below meth c H locs cells slots Q ls G A Cx Sx Rx Fx
  exact lv_iload Cx.1 Cx.2.1 (kw_dec Cx hi) (kw_find Sx.2.2.2 hk) (h p e R s m args below meth c H locs cells slots Q ls G A Cx Sx Rx Fx)
theorem kw_lload_n {i : Nat} {j : Fin 4} {k n : Nat} {x : Int64} (hi : M.2[i]? = some (pc, .lload_n j, 1)) (hj : (j : Nat) = n) (hk : lv[k]? = some (n, .long x)) (h : kw_AW l d E K M P (pc + 1) lv (.long x :: st) σ) : kw_AW l d E K M P pc lv (st) σ := by
  intro p e R s m args below meth c H locs cells slots Q ls G A Cx Sx Rx Fx
  exact lv_lload_n Cx.1 Cx.2.1 (kw_dec Cx hi) hj (kw_find Sx.2.2.2 hk) (h p e R s m args below meth c H locs cells slots Q ls G A Cx Sx Rx Fx)
theorem kw_lload {i : Nat} {k n : Nat} {x : Int64} (hi : M.2[i]? = some (pc, .lload n, 2)) (hk : lv[k]? = some (n, .long x)) (h : kw_AW l d E K M P (pc + 2) lv (.long x :: st) σ) : kw_AW l d E K M P pc lv (st) σ := by
  intro p e R s m args below meth c H locs cells slots Q ls G A Cx Sx Rx Fx
  exact lv_lload Cx.1 Cx.2.1 (kw_dec Cx hi) (kw_find Sx.2.2.2 hk) (h p e R s m args below meth c H locs cells slots Q ls G A Cx Sx Rx Fx)
theorem kw_aload_n {i : Nat} {j : Fin 4} {k n : Nat} {x : Nat} (hi : M.2[i]? = some (pc, .aload_n j, 1)) (hj : (j : Nat) = n) (hk : lv[k]? = some (n, .ref x)) (h : kw_AW l d E K M P (pc + 1) lv (.ref x :: st) σ) : kw_AW l d E K M P pc lv (st) σ := by
  intro p e R s m args below meth c H locs cells slots Q ls G A Cx Sx Rx Fx
  exact lv_aload_n Cx.1 Cx.2.1 (kw_dec Cx hi) hj (kw_find Sx.2.2.2 hk) (h p e R s m args below meth c H locs cells slots Q ls G A Cx Sx Rx Fx)
theorem kw_aload {i : Nat} {k n : Nat} {x : Nat} (hi : M.2[i]? = some (pc, .aload n, 2)) (hk : lv[k]? = some (n, .ref x)) (h : kw_AW l d E K M P (pc + 2) lv (.ref x :: st) σ) : kw_AW l d E K M P pc lv (st) σ := by
  intro p e R s m args below meth c H locs cells slots Q ls G A Cx Sx Rx Fx
  exact lv_aload Cx.1 Cx.2.1 (kw_dec Cx hi) (kw_find Sx.2.2.2 hk) (h p e R s m args below meth c H locs cells slots Q ls G A Cx Sx Rx Fx)
end KWR
end
section
section KWR
variable {l : Launch} {d : Nat} {E : kw_E} {K : List kw_K1} {M : kw_M} {P : Option Value → kw_S → Prop} {pc : Nat} {lv : List (Nat × Value)} {st : List Value} {σ : kw_S}
theorem kw_istore_n {i : Nat} {j : Fin 4} {n : Nat} {x : Int32} {lv' : List (Nat × Value)} (hi : M.2[i]? = some (pc, .istore_n j, 1)) (hj : (j : Nat) = n) (hn : n < M.1.2.2.2.1) (hl' : (n, Value.int x) :: lv.filter (fun q => !(q.1 == n) && !(q.1 + 1 == n && q.2.category == 2)) = lv') (h : kw_AW l d E K M P (pc + 1) lv' (st) σ) : kw_AW l d E K M P pc lv (.int x :: st) σ := by
  intro p e R s m args below meth c H locs cells slots Q ls G A Cx Sx Rx Fx
  refine lv_istore_n (lv' := lv'.map (fun q => (q.1, kw_rv G.1 q.2))) Cx.1 Cx.2.1 (kw_dec Cx hi) hj Sx.2.2.2 hn (by rw [kw_fil1 G.1 n lv, ← hl']; rfl) (fun ls2 hl => h p e R s m args below meth c H locs cells slots Q ls2 G A Cx ⟨Sx.1, Sx.2.1, Sx.2.2.1, hl⟩ Rx Fx)
theorem kw_istore {i : Nat} {n : Nat} {x : Int32} {lv' : List (Nat × Value)} (hi : M.2[i]? = some (pc, .istore n, 2)) (hn : n < M.1.2.2.2.1) (hl' : (n, Value.int x) :: lv.filter (fun q => !(q.1 == n) && !(q.1 + 1 == n && q.2.category == 2)) = lv') (h : kw_AW l d E K M P (pc + 2) lv' (st) σ) : kw_AW l d E K M P pc lv (.int x :: st) σ := by
  intro p e R s m args below meth c H locs cells slots Q ls G A Cx Sx Rx Fx
  refine lv_istore (lv' := lv'.map (fun q => (q.1, kw_rv G.1 q.2))) Cx.1 Cx.2.1 (kw_dec Cx hi) Sx.2.2.2 hn (by rw [kw_fil1 G.1 n lv, ← hl']; rfl) (fun ls2 hl => h p e R s m args below meth c H locs cells slots Q ls2 G A Cx ⟨Sx.1, Sx.2.1, Sx.2.2.1, hl⟩ Rx Fx)
theorem kw_lstore_n {i : Nat} {j : Fin 4} {n : Nat} {x : Int64} {lv' : List (Nat × Value)} (hi : M.2[i]? = some (pc, .lstore_n j, 1)) (hj : (j : Nat) = n) (hn : n + 1 < M.1.2.2.2.1) (hl' : (n, Value.long x) :: lv.filter (fun q => !(q.1 == n) && (!(q.1 == n + 1) && !(q.1 + 1 == n && q.2.category == 2))) = lv') (h : kw_AW l d E K M P (pc + 1) lv' (st) σ) : kw_AW l d E K M P pc lv (.long x :: st) σ := by
  intro p e R s m args below meth c H locs cells slots Q ls G A Cx Sx Rx Fx
  refine lv_lstore_n (lv' := lv'.map (fun q => (q.1, kw_rv G.1 q.2))) Cx.1 Cx.2.1 (kw_dec Cx hi) hj Sx.2.2.2 hn (by rw [kw_fil2 G.1 n lv, ← hl']; rfl) (fun ls2 hl => h p e R s m args below meth c H locs cells slots Q ls2 G A Cx ⟨Sx.1, Sx.2.1, Sx.2.2.1, hl⟩ Rx Fx)
theorem kw_lstore {i : Nat} {n : Nat} {x : Int64} {lv' : List (Nat × Value)} (hi : M.2[i]? = some (pc, .lstore n, 2)) (hn : n + 1 < M.1.2.2.2.1) (hl' : (n, Value.long x) :: lv.filter (fun q => !(q.1 == n) && (!(q.1 == n + 1) && !(q.1 + 1 == n && q.2.category == 2))) = lv') (h : kw_AW l d E K M P (pc + 2) lv' (st) σ) : kw_AW l d E K M P pc lv (.long x :: st) σ := by
  intro p e R s m args below meth c H locs cells slots Q ls G A Cx Sx Rx Fx
  refine lv_lstore (lv' := lv'.map (fun q => (q.1, kw_rv G.1 q.2))) Cx.1 Cx.2.1 (kw_dec Cx hi) Sx.2.2.2 hn (by rw [kw_fil2 G.1 n lv, ← hl']; rfl) (fun ls2 hl => h p e R s m args below meth c H locs cells slots Q ls2 G A Cx ⟨Sx.1, Sx.2.1, Sx.2.2.1, hl⟩ Rx Fx)
theorem kw_astore_n {i : Nat} {j : Fin 4} {n : Nat} {x : Nat} {lv' : List (Nat × Value)} (hi : M.2[i]? = some (pc, .astore_n j, 1)) (hj : (j : Nat) = n) (hn : n < M.1.2.2.2.1) (hl' : (n, Value.ref x) :: lv.filter (fun q => !(q.1 == n) && !(q.1 + 1 == n && q.2.category == 2)) = lv') (h : kw_AW l d E K M P (pc + 1) lv' (st) σ) : kw_AW l d E K M P pc lv (.ref x :: st) σ := by
  intro p e R s m args below meth c H locs cells slots Q ls G A Cx Sx Rx Fx
  refine lv_astore_n (lv' := lv'.map (fun q => (q.1, kw_rv G.1 q.2))) Cx.1 Cx.2.1 (kw_dec Cx hi) hj Sx.2.2.2 hn (by rw [kw_fil1 G.1 n lv, ← hl']; rfl) (fun ls2 hl => h p e R s m args below meth c H locs cells slots Q ls2 G A Cx ⟨Sx.1, Sx.2.1, Sx.2.2.1, hl⟩ Rx Fx)
theorem kw_astore {i : Nat} {n : Nat} {x : Nat} {lv' : List (Nat × Value)} (hi : M.2[i]? = some (pc, .astore n, 2)) (hn : n < M.1.2.2.2.1) (hl' : (n, Value.ref x) :: lv.filter (fun q => !(q.1 == n) && !(q.1 + 1 == n && q.2.category == 2)) = lv') (h : kw_AW l d E K M P (pc + 2) lv' (st) σ) : kw_AW l d E K M P pc lv (.ref x :: st) σ := by
  intro p e R s m args below meth c H locs cells slots Q ls G A Cx Sx Rx Fx
  refine lv_astore (lv' := lv'.map (fun q => (q.1, kw_rv G.1 q.2))) Cx.1 Cx.2.1 (kw_dec Cx hi) Sx.2.2.2 hn (by rw [kw_fil1 G.1 n lv, ← hl']; rfl) (fun ls2 hl => h p e R s m args below meth c H locs cells slots Q ls2 G A Cx ⟨Sx.1, Sx.2.1, Sx.2.2.1, hl⟩ Rx Fx)
theorem kw_iinc {i n k : Nat} {by_ : Int} {x : Int32} (hi : M.2[i]? = some (pc, .iinc n by_, 3)) (hk : lv[k]? = some (n, .int x)) (hn : n < M.1.2.2.2.1) (hb : (Int32.ofInt by_).toInt = by_) (h : ∀ z : Int32, z = x + Int32.ofInt by_ → z.toInt = (x.toInt + by_ + 2147483648) % 4294967296 - 2147483648 → kw_AW l d E K M P (pc + 3) ((n, .int z) :: lv.filter (fun q => !(q.1 == n) && !(q.1 + 1 == n && q.2.category == 2))) st σ) : kw_AW l d E K M P pc lv st σ := by
  intro p e R s m args below meth c H locs cells slots Q ls G A Cx Sx Rx Fx
  refine lv_iinc (k := k) (lv' := ((n, Value.int (x + Int32.ofInt by_)) :: lv.filter (fun q => !(q.1 == n) && !(q.1 + 1 == n && q.2.category == 2))).map (fun q => (q.1, kw_rv G.1 q.2))) Cx.1 Cx.2.1 (kw_dec Cx hi) Sx.2.2.2 (by rw [List.getElem?_map, hk]; rfl) rfl hn (by rw [kw_fil1 G.1 n lv]; rfl) (fun ls2 hl => h _ rfl (by rw [kw_addI, hb]) p e R s m args below meth c H locs cells slots Q ls2 G A Cx ⟨Sx.1, Sx.2.1, Sx.2.2.1, hl⟩ Rx Fx)
end KWR
end
section
section KWR
variable {l : Launch} {d : Nat} {E : kw_E} {K : List kw_K1} {M : kw_M} {P : Option Value → kw_S → Prop} {pc : Nat} {lv : List (Nat × Value)} {st : List Value} {σ : kw_S}
theorem kw_iadd {i : Nat} {x y : Int32} (hi : M.2[i]? = some (pc, .iadd, 1))  (h : ∀ z : Int32, z = x + y → z.toInt = (x.toInt + y.toInt + 2147483648) % 4294967296 - 2147483648 → kw_AW l d E K M P (pc + 1) lv (.int z :: st) σ) : kw_AW l d E K M P pc lv (.int y :: .int x :: st) σ := by
  intro p e R s m args below meth c H locs cells slots Q ls G A Cx Sx Rx Fx
  exact lv_iadd Cx.1 Cx.2.1 (kw_dec Cx hi) (h _ rfl (kw_addI x y) p e R s m args below meth c H locs cells slots Q ls G A Cx Sx Rx Fx)
theorem kw_isub {i : Nat} {x y : Int32} (hi : M.2[i]? = some (pc, .isub, 1))  (h : ∀ z : Int32, z = x - y → z.toInt = (x.toInt - y.toInt + 2147483648) % 4294967296 - 2147483648 → kw_AW l d E K M P (pc + 1) lv (.int z :: st) σ) : kw_AW l d E K M P pc lv (.int y :: .int x :: st) σ := by
  intro p e R s m args below meth c H locs cells slots Q ls G A Cx Sx Rx Fx
  exact lv_isub Cx.1 Cx.2.1 (kw_dec Cx hi) (h _ rfl (kw_subI x y) p e R s m args below meth c H locs cells slots Q ls G A Cx Sx Rx Fx)
theorem kw_imul {i : Nat} {x y : Int32} (hi : M.2[i]? = some (pc, .imul, 1))  (h : ∀ z : Int32, z = x * y → z.toInt = (x.toInt * y.toInt + 2147483648) % 4294967296 - 2147483648 → kw_AW l d E K M P (pc + 1) lv (.int z :: st) σ) : kw_AW l d E K M P pc lv (.int y :: .int x :: st) σ := by
  intro p e R s m args below meth c H locs cells slots Q ls G A Cx Sx Rx Fx
  exact lv_imul Cx.1 Cx.2.1 (kw_dec Cx hi) (h _ rfl (kw_mulI x y) p e R s m args below meth c H locs cells slots Q ls G A Cx Sx Rx Fx)
theorem kw_ineg {i : Nat} {x : Int32} (hi : M.2[i]? = some (pc, .ineg, 1))  (h : ∀ z : Int32, z = -x → z.toInt = (-x.toInt + 2147483648) % 4294967296 - 2147483648 → kw_AW l d E K M P (pc + 1) lv (.int z :: st) σ) : kw_AW l d E K M P pc lv (.int x :: st) σ := by
  intro p e R s m args below meth c H locs cells slots Q ls G A Cx Sx Rx Fx
  exact lv_ineg Cx.1 Cx.2.1 (kw_dec Cx hi) (h _ rfl (kw_negI x) p e R s m args below meth c H locs cells slots Q ls G A Cx Sx Rx Fx)
theorem kw_iand {i : Nat} {x y : Int32} (hi : M.2[i]? = some (pc, .iand, 1))  (h : ∀ z : Int32, z = x &&& y → kw_AW l d E K M P (pc + 1) lv (.int z :: st) σ) : kw_AW l d E K M P pc lv (.int y :: .int x :: st) σ := by
  intro p e R s m args below meth c H locs cells slots Q ls G A Cx Sx Rx Fx
  exact lv_iand Cx.1 Cx.2.1 (kw_dec Cx hi) (h _ rfl p e R s m args below meth c H locs cells slots Q ls G A Cx Sx Rx Fx)
theorem kw_ior {i : Nat} {x y : Int32} (hi : M.2[i]? = some (pc, .ior, 1))  (h : ∀ z : Int32, z = x ||| y → kw_AW l d E K M P (pc + 1) lv (.int z :: st) σ) : kw_AW l d E K M P pc lv (.int y :: .int x :: st) σ := by
  intro p e R s m args below meth c H locs cells slots Q ls G A Cx Sx Rx Fx
  exact lv_ior Cx.1 Cx.2.1 (kw_dec Cx hi) (h _ rfl p e R s m args below meth c H locs cells slots Q ls G A Cx Sx Rx Fx)
theorem kw_ixor {i : Nat} {x y : Int32} (hi : M.2[i]? = some (pc, .ixor, 1))  (h : ∀ z : Int32, z = x ^^^ y → kw_AW l d E K M P (pc + 1) lv (.int z :: st) σ) : kw_AW l d E K M P pc lv (.int y :: .int x :: st) σ := by
  intro p e R s m args below meth c H locs cells slots Q ls G A Cx Sx Rx Fx
  exact lv_ixor Cx.1 Cx.2.1 (kw_dec Cx hi) (h _ rfl p e R s m args below meth c H locs cells slots Q ls G A Cx Sx Rx Fx)
theorem kw_ishl {i : Nat} {x y : Int32} (hi : M.2[i]? = some (pc, .ishl, 1))  (h : ∀ z : Int32, z = x <<< (y &&& 31) → kw_AW l d E K M P (pc + 1) lv (.int z :: st) σ) : kw_AW l d E K M P pc lv (.int y :: .int x :: st) σ := by
  intro p e R s m args below meth c H locs cells slots Q ls G A Cx Sx Rx Fx
  exact lv_ishl Cx.1 Cx.2.1 (kw_dec Cx hi) (h _ rfl p e R s m args below meth c H locs cells slots Q ls G A Cx Sx Rx Fx)
theorem kw_ishr {i : Nat} {x y : Int32} (hi : M.2[i]? = some (pc, .ishr, 1))  (h : ∀ z : Int32, z = x >>> (y &&& 31) → kw_AW l d E K M P (pc + 1) lv (.int z :: st) σ) : kw_AW l d E K M P pc lv (.int y :: .int x :: st) σ := by
  intro p e R s m args below meth c H locs cells slots Q ls G A Cx Sx Rx Fx
  exact lv_ishr Cx.1 Cx.2.1 (kw_dec Cx hi) (h _ rfl p e R s m args below meth c H locs cells slots Q ls G A Cx Sx Rx Fx)
theorem kw_iushr {i : Nat} {x y : Int32} (hi : M.2[i]? = some (pc, .iushr, 1))  (h : ∀ z : Int32, z = (x.toUInt32 >>> (y.toUInt32 &&& Int32.toUInt32 31)).toInt32 → kw_AW l d E K M P (pc + 1) lv (.int z :: st) σ) : kw_AW l d E K M P pc lv (.int y :: .int x :: st) σ := by
  intro p e R s m args below meth c H locs cells slots Q ls G A Cx Sx Rx Fx
  exact lv_iushr Cx.1 Cx.2.1 (kw_dec Cx hi) rfl (h _ rfl p e R s m args below meth c H locs cells slots Q ls G A Cx Sx Rx Fx)
theorem kw_ne0 {y : Int32} (h : y.toInt ≠ 0) : ¬ y = 0 := fun q => h (by rw [q]; rfl)
theorem kw_ne0L {y : Int64} (h : y.toInt ≠ 0) : ¬ y = 0 := fun q => h (by rw [q]; rfl)
theorem kw_idiv {i : Nat} {x y : Int32} (hi : M.2[i]? = some (pc, .idiv, 1)) (hy : y.toInt ≠ 0) (h : ∀ z : Int32, z = x / y → kw_AW l d E K M P (pc + 1) lv (.int z :: st) σ) : kw_AW l d E K M P pc lv (.int y :: .int x :: st) σ := by
  intro p e R s m args below meth c H locs cells slots Q ls G A Cx Sx Rx Fx
  exact lv_idiv Cx.1 Cx.2.1 (kw_dec Cx hi) (kw_ne0 hy) (h _ rfl p e R s m args below meth c H locs cells slots Q ls G A Cx Sx Rx Fx)
theorem kw_irem {i : Nat} {x y : Int32} (hi : M.2[i]? = some (pc, .irem, 1)) (hy : y.toInt ≠ 0) (h : ∀ z : Int32, z = x - x / y * y → kw_AW l d E K M P (pc + 1) lv (.int z :: st) σ) : kw_AW l d E K M P pc lv (.int y :: .int x :: st) σ := by
  intro p e R s m args below meth c H locs cells slots Q ls G A Cx Sx Rx Fx
  exact lv_irem Cx.1 Cx.2.1 (kw_dec Cx hi) (kw_ne0 hy) (h _ rfl p e R s m args below meth c H locs cells slots Q ls G A Cx Sx Rx Fx)
theorem kw_ladd {i : Nat} {x y : Int64} (hi : M.2[i]? = some (pc, .ladd, 1))  (h : ∀ z : Int64, z = x + y → kw_AW l d E K M P (pc + 1) lv (.long z :: st) σ) : kw_AW l d E K M P pc lv (.long y :: .long x :: st) σ := by
  intro p e R s m args below meth c H locs cells slots Q ls G A Cx Sx Rx Fx
  exact lv_ladd Cx.1 Cx.2.1 (kw_dec Cx hi) (h _ rfl p e R s m args below meth c H locs cells slots Q ls G A Cx Sx Rx Fx)
theorem kw_lsub {i : Nat} {x y : Int64} (hi : M.2[i]? = some (pc, .lsub, 1))  (h : ∀ z : Int64, z = x - y → kw_AW l d E K M P (pc + 1) lv (.long z :: st) σ) : kw_AW l d E K M P pc lv (.long y :: .long x :: st) σ := by
  intro p e R s m args below meth c H locs cells slots Q ls G A Cx Sx Rx Fx
  exact lv_lsub Cx.1 Cx.2.1 (kw_dec Cx hi) (h _ rfl p e R s m args below meth c H locs cells slots Q ls G A Cx Sx Rx Fx)
theorem kw_lmul {i : Nat} {x y : Int64} (hi : M.2[i]? = some (pc, .lmul, 1))  (h : ∀ z : Int64, z = x * y → kw_AW l d E K M P (pc + 1) lv (.long z :: st) σ) : kw_AW l d E K M P pc lv (.long y :: .long x :: st) σ := by
  intro p e R s m args below meth c H locs cells slots Q ls G A Cx Sx Rx Fx
  exact lv_lmul Cx.1 Cx.2.1 (kw_dec Cx hi) (h _ rfl p e R s m args below meth c H locs cells slots Q ls G A Cx Sx Rx Fx)
theorem kw_lneg {i : Nat} {x : Int64} (hi : M.2[i]? = some (pc, .lneg, 1))  (h : ∀ z : Int64, z = -x → kw_AW l d E K M P (pc + 1) lv (.long z :: st) σ) : kw_AW l d E K M P pc lv (.long x :: st) σ := by
  intro p e R s m args below meth c H locs cells slots Q ls G A Cx Sx Rx Fx
  exact lv_lneg Cx.1 Cx.2.1 (kw_dec Cx hi) (h _ rfl p e R s m args below meth c H locs cells slots Q ls G A Cx Sx Rx Fx)
theorem kw_ldiv {i : Nat} {x y : Int64} (hi : M.2[i]? = some (pc, .ldiv, 1)) (hy : y.toInt ≠ 0) (h : ∀ z : Int64, z = x / y → kw_AW l d E K M P (pc + 1) lv (.long z :: st) σ) : kw_AW l d E K M P pc lv (.long y :: .long x :: st) σ := by
  intro p e R s m args below meth c H locs cells slots Q ls G A Cx Sx Rx Fx
  exact lv_ldiv Cx.1 Cx.2.1 (kw_dec Cx hi) (kw_ne0L hy) (h _ rfl p e R s m args below meth c H locs cells slots Q ls G A Cx Sx Rx Fx)
theorem kw_lrem {i : Nat} {x y : Int64} (hi : M.2[i]? = some (pc, .lrem, 1)) (hy : y.toInt ≠ 0) (h : ∀ z : Int64, z = x - x / y * y → kw_AW l d E K M P (pc + 1) lv (.long z :: st) σ) : kw_AW l d E K M P pc lv (.long y :: .long x :: st) σ := by
  intro p e R s m args below meth c H locs cells slots Q ls G A Cx Sx Rx Fx
  exact lv_lrem Cx.1 Cx.2.1 (kw_dec Cx hi) (kw_ne0L hy) (h _ rfl p e R s m args below meth c H locs cells slots Q ls G A Cx Sx Rx Fx)
theorem kw_lcmp {i : Nat} {x y : Int64} (hi : M.2[i]? = some (pc, .lcmp, 1))  (h : ∀ z : Int32, z = lg_cmp x y → (z.toInt < 0 ↔ x.toInt < y.toInt) ∧ (0 < z.toInt ↔ y.toInt < x.toInt) ∧ (z.toInt = 0 ↔ x.toInt = y.toInt) → kw_AW l d E K M P (pc + 1) lv (.int z :: st) σ) : kw_AW l d E K M P pc lv (.long y :: .long x :: st) σ := by
  intro p e R s m args below meth c H locs cells slots Q ls G A Cx Sx Rx Fx
  exact W.lcmp Cx.1 Cx.2.1 (kw_dec Cx hi) (h _ rfl (kw_lcmpI x y) p e R s m args below meth c H locs cells slots Q ls G A Cx Sx Rx Fx)
theorem kw_i2l {i : Nat} {x : Int32} (hi : M.2[i]? = some (pc, .i2l, 1))  (h : ∀ z : Int64, z = x.toInt64 → z.toInt = x.toInt → kw_AW l d E K M P (pc + 1) lv (.long z :: st) σ) : kw_AW l d E K M P pc lv (.int x :: st) σ := by
  intro p e R s m args below meth c H locs cells slots Q ls G A Cx Sx Rx Fx
  exact lv_i2l Cx.1 Cx.2.1 (kw_dec Cx hi) rfl (h _ rfl (kw_i2lI x) p e R s m args below meth c H locs cells slots Q ls G A Cx Sx Rx Fx)
theorem kw_l2i {i : Nat} {x : Int64} (hi : M.2[i]? = some (pc, .l2i, 1))  (h : ∀ z : Int32, z = x.toInt32 → kw_AW l d E K M P (pc + 1) lv (.int z :: st) σ) : kw_AW l d E K M P pc lv (.long x :: st) σ := by
  intro p e R s m args below meth c H locs cells slots Q ls G A Cx Sx Rx Fx
  exact lv_l2i Cx.1 Cx.2.1 (kw_dec Cx hi) rfl (h _ rfl p e R s m args below meth c H locs cells slots Q ls G A Cx Sx Rx Fx)
theorem kw_i2b {i : Nat} {x : Int32} (hi : M.2[i]? = some (pc, .i2b, 1))  (h : ∀ z : Int32, z = x.toInt8.toInt32 → kw_AW l d E K M P (pc + 1) lv (.int z :: st) σ) : kw_AW l d E K M P pc lv (.int x :: st) σ := by
  intro p e R s m args below meth c H locs cells slots Q ls G A Cx Sx Rx Fx
  exact lv_i2b Cx.1 Cx.2.1 (kw_dec Cx hi) rfl (h _ rfl p e R s m args below meth c H locs cells slots Q ls G A Cx Sx Rx Fx)
theorem kw_dup {i : Nat} {v : Value} (hi : M.2[i]? = some (pc, .dup, 1)) (hv : v.category = 1) (h : kw_AW l d E K M P (pc + 1) lv (v :: v :: st) σ) : kw_AW l d E K M P pc lv (v :: st) σ := by
  intro p e R s m args below meth c H locs cells slots Q ls G A Cx Sx Rx Fx
  exact lv_dup Cx.1 Cx.2.1 (kw_dec Cx hi) (by rw [kw_cat]; exact hv) (h p e R s m args below meth c H locs cells slots Q ls G A Cx Sx Rx Fx)
theorem kw_pop {i : Nat} {v : Value} (hi : M.2[i]? = some (pc, .pop, 1)) (hv : v.category = 1) (h : kw_AW l d E K M P (pc + 1) lv (st) σ) : kw_AW l d E K M P pc lv (v :: st) σ := by
  intro p e R s m args below meth c H locs cells slots Q ls G A Cx Sx Rx Fx
  exact lv_pop Cx.1 Cx.2.1 (kw_dec Cx hi) (by rw [kw_cat]; exact hv) (h p e R s m args below meth c H locs cells slots Q ls G A Cx Sx Rx Fx)
theorem kw_pop2 {i : Nat} {v : Value} (hi : M.2[i]? = some (pc, .pop2, 1)) (hv : v.category = 2) (h : kw_AW l d E K M P (pc + 1) lv (st) σ) : kw_AW l d E K M P pc lv (v :: st) σ := by
  intro p e R s m args below meth c H locs cells slots Q ls G A Cx Sx Rx Fx
  exact lv_pop2_2 Cx.1 Cx.2.1 (kw_dec Cx hi) (by rw [kw_cat]; exact hv) (h p e R s m args below meth c H locs cells slots Q ls G A Cx Sx Rx Fx)
theorem kw_dup2 {i : Nat} {v w : Value} (hi : M.2[i]? = some (pc, .dup2, 1)) (hv : v.category = 1) (hw : w.category = 1) (h : kw_AW l d E K M P (pc + 1) lv (v :: w :: v :: w :: st) σ) : kw_AW l d E K M P pc lv (v :: w :: st) σ := by
  intro p e R s m args below meth c H locs cells slots Q ls G A Cx Sx Rx Fx
  exact lv_dup2_11 Cx.1 Cx.2.1 (kw_dec Cx hi) (by rw [kw_cat]; exact hv) (by rw [kw_cat]; exact hw) (h p e R s m args below meth c H locs cells slots Q ls G A Cx Sx Rx Fx)
end KWR
end
section
section KWR
variable {l : Launch} {d : Nat} {E : kw_E} {K : List kw_K1} {M : kw_M} {P : Option Value → kw_S → Prop} {pc : Nat} {lv : List (Nat × Value)} {st : List Value} {σ : kw_S}
theorem kw_eqI {x y : Int32} (h : x = y) : x.toInt = y.toInt := by rw [h]
theorem kw_neI {x y : Int32} (h : ¬ x = y) : x.toInt ≠ y.toInt := fun q => h (Int32.toInt_inj.mp q)
theorem kw_ltI {x y : Int32} (h : x < y) : x.toInt < y.toInt := Int32.lt_iff_toInt_lt.mp h
theorem kw_leI {x y : Int32} (h : x ≤ y) : x.toInt ≤ y.toInt := Int32.le_iff_toInt_le.mp h
theorem kw_nltI {x y : Int32} (h : ¬ x < y) : y.toInt ≤ x.toInt := Int.not_lt.mp fun q => h (Int32.lt_iff_toInt_lt.mpr q)
theorem kw_nleI {x y : Int32} (h : ¬ x ≤ y) : y.toInt < x.toInt := Int.not_le.mp fun q => h (Int32.le_iff_toInt_le.mpr q)
theorem kw_if_eq {i : Nat} {x : Int32} {off : Int} {tgt : Nat} (hi : M.2[i]? = some (pc, .ifCond .eq off, 3)) (ht : (pc : Int) + off = (tgt : Int)) (kt : x.toInt = 0 → kw_AW l d E K M P tgt lv st σ) (kf : x.toInt ≠ 0 → kw_AW l d E K M P (pc + 3) lv st σ) : kw_AW l d E K M P pc lv (.int x :: st) σ := by
  intro p e R s m args below meth c H locs cells slots Q ls G A Cx Sx Rx Fx
  exact lv_if_eq Cx.1 Cx.2.1 (kw_dec Cx hi) ht (fun q => kt (kw_eqI q) p e R s m args below meth c H locs cells slots Q ls G A Cx Sx Rx Fx) (fun q => kf (kw_neI q) p e R s m args below meth c H locs cells slots Q ls G A Cx Sx Rx Fx)
theorem kw_icmp_eq {i : Nat} {x y : Int32} {off : Int} {tgt : Nat} (hi : M.2[i]? = some (pc, .if_icmp .eq off, 3)) (ht : (pc : Int) + off = (tgt : Int)) (kt : x.toInt = y.toInt → kw_AW l d E K M P tgt lv st σ) (kf : x.toInt ≠ y.toInt → kw_AW l d E K M P (pc + 3) lv st σ) : kw_AW l d E K M P pc lv (.int y :: .int x :: st) σ := by
  intro p e R s m args below meth c H locs cells slots Q ls G A Cx Sx Rx Fx
  exact lv_icmp_eq Cx.1 Cx.2.1 (kw_dec Cx hi) ht (fun q => kt (kw_eqI q) p e R s m args below meth c H locs cells slots Q ls G A Cx Sx Rx Fx) (fun q => kf (kw_neI q) p e R s m args below meth c H locs cells slots Q ls G A Cx Sx Rx Fx)
theorem kw_if_ne {i : Nat} {x : Int32} {off : Int} {tgt : Nat} (hi : M.2[i]? = some (pc, .ifCond .ne off, 3)) (ht : (pc : Int) + off = (tgt : Int)) (kt : x.toInt ≠ 0 → kw_AW l d E K M P tgt lv st σ) (kf : x.toInt = 0 → kw_AW l d E K M P (pc + 3) lv st σ) : kw_AW l d E K M P pc lv (.int x :: st) σ := by
  intro p e R s m args below meth c H locs cells slots Q ls G A Cx Sx Rx Fx
  exact lv_if_ne Cx.1 Cx.2.1 (kw_dec Cx hi) ht (fun q => kt (kw_neI q) p e R s m args below meth c H locs cells slots Q ls G A Cx Sx Rx Fx) (fun q => kf (kw_eqI q) p e R s m args below meth c H locs cells slots Q ls G A Cx Sx Rx Fx)
theorem kw_icmp_ne {i : Nat} {x y : Int32} {off : Int} {tgt : Nat} (hi : M.2[i]? = some (pc, .if_icmp .ne off, 3)) (ht : (pc : Int) + off = (tgt : Int)) (kt : x.toInt ≠ y.toInt → kw_AW l d E K M P tgt lv st σ) (kf : x.toInt = y.toInt → kw_AW l d E K M P (pc + 3) lv st σ) : kw_AW l d E K M P pc lv (.int y :: .int x :: st) σ := by
  intro p e R s m args below meth c H locs cells slots Q ls G A Cx Sx Rx Fx
  exact lv_icmp_ne Cx.1 Cx.2.1 (kw_dec Cx hi) ht (fun q => kt (kw_neI q) p e R s m args below meth c H locs cells slots Q ls G A Cx Sx Rx Fx) (fun q => kf (kw_eqI q) p e R s m args below meth c H locs cells slots Q ls G A Cx Sx Rx Fx)
theorem kw_if_lt {i : Nat} {x : Int32} {off : Int} {tgt : Nat} (hi : M.2[i]? = some (pc, .ifCond .lt off, 3)) (ht : (pc : Int) + off = (tgt : Int)) (kt : x.toInt < 0 → kw_AW l d E K M P tgt lv st σ) (kf : 0 ≤ x.toInt → kw_AW l d E K M P (pc + 3) lv st σ) : kw_AW l d E K M P pc lv (.int x :: st) σ := by
  intro p e R s m args below meth c H locs cells slots Q ls G A Cx Sx Rx Fx
  exact lv_if_lt Cx.1 Cx.2.1 (kw_dec Cx hi) ht (fun q => kt (kw_ltI q) p e R s m args below meth c H locs cells slots Q ls G A Cx Sx Rx Fx) (fun q => kf (kw_nltI q) p e R s m args below meth c H locs cells slots Q ls G A Cx Sx Rx Fx)
theorem kw_icmp_lt {i : Nat} {x y : Int32} {off : Int} {tgt : Nat} (hi : M.2[i]? = some (pc, .if_icmp .lt off, 3)) (ht : (pc : Int) + off = (tgt : Int)) (kt : x.toInt < y.toInt → kw_AW l d E K M P tgt lv st σ) (kf : y.toInt ≤ x.toInt → kw_AW l d E K M P (pc + 3) lv st σ) : kw_AW l d E K M P pc lv (.int y :: .int x :: st) σ := by
  intro p e R s m args below meth c H locs cells slots Q ls G A Cx Sx Rx Fx
  exact lv_icmp_lt Cx.1 Cx.2.1 (kw_dec Cx hi) ht (fun q => kt (kw_ltI q) p e R s m args below meth c H locs cells slots Q ls G A Cx Sx Rx Fx) (fun q => kf (kw_nltI q) p e R s m args below meth c H locs cells slots Q ls G A Cx Sx Rx Fx)
theorem kw_if_ge {i : Nat} {x : Int32} {off : Int} {tgt : Nat} (hi : M.2[i]? = some (pc, .ifCond .ge off, 3)) (ht : (pc : Int) + off = (tgt : Int)) (kt : 0 ≤ x.toInt → kw_AW l d E K M P tgt lv st σ) (kf : x.toInt < 0 → kw_AW l d E K M P (pc + 3) lv st σ) : kw_AW l d E K M P pc lv (.int x :: st) σ := by
  intro p e R s m args below meth c H locs cells slots Q ls G A Cx Sx Rx Fx
  exact lv_if_ge Cx.1 Cx.2.1 (kw_dec Cx hi) ht (fun q => kt (kw_leI q) p e R s m args below meth c H locs cells slots Q ls G A Cx Sx Rx Fx) (fun q => kf (kw_nleI q) p e R s m args below meth c H locs cells slots Q ls G A Cx Sx Rx Fx)
theorem kw_icmp_ge {i : Nat} {x y : Int32} {off : Int} {tgt : Nat} (hi : M.2[i]? = some (pc, .if_icmp .ge off, 3)) (ht : (pc : Int) + off = (tgt : Int)) (kt : y.toInt ≤ x.toInt → kw_AW l d E K M P tgt lv st σ) (kf : x.toInt < y.toInt → kw_AW l d E K M P (pc + 3) lv st σ) : kw_AW l d E K M P pc lv (.int y :: .int x :: st) σ := by
  intro p e R s m args below meth c H locs cells slots Q ls G A Cx Sx Rx Fx
  exact lv_icmp_ge Cx.1 Cx.2.1 (kw_dec Cx hi) ht (fun q => kt (kw_leI q) p e R s m args below meth c H locs cells slots Q ls G A Cx Sx Rx Fx) (fun q => kf (kw_nleI q) p e R s m args below meth c H locs cells slots Q ls G A Cx Sx Rx Fx)
theorem kw_if_gt {i : Nat} {x : Int32} {off : Int} {tgt : Nat} (hi : M.2[i]? = some (pc, .ifCond .gt off, 3)) (ht : (pc : Int) + off = (tgt : Int)) (kt : 0 < x.toInt → kw_AW l d E K M P tgt lv st σ) (kf : x.toInt ≤ 0 → kw_AW l d E K M P (pc + 3) lv st σ) : kw_AW l d E K M P pc lv (.int x :: st) σ := by
  intro p e R s m args below meth c H locs cells slots Q ls G A Cx Sx Rx Fx
  exact lv_if_gt Cx.1 Cx.2.1 (kw_dec Cx hi) ht (fun q => kt (kw_ltI q) p e R s m args below meth c H locs cells slots Q ls G A Cx Sx Rx Fx) (fun q => kf (kw_nltI q) p e R s m args below meth c H locs cells slots Q ls G A Cx Sx Rx Fx)
theorem kw_icmp_gt {i : Nat} {x y : Int32} {off : Int} {tgt : Nat} (hi : M.2[i]? = some (pc, .if_icmp .gt off, 3)) (ht : (pc : Int) + off = (tgt : Int)) (kt : y.toInt < x.toInt → kw_AW l d E K M P tgt lv st σ) (kf : x.toInt ≤ y.toInt → kw_AW l d E K M P (pc + 3) lv st σ) : kw_AW l d E K M P pc lv (.int y :: .int x :: st) σ := by
  intro p e R s m args below meth c H locs cells slots Q ls G A Cx Sx Rx Fx
  exact lv_icmp_gt Cx.1 Cx.2.1 (kw_dec Cx hi) ht (fun q => kt (kw_ltI q) p e R s m args below meth c H locs cells slots Q ls G A Cx Sx Rx Fx) (fun q => kf (kw_nltI q) p e R s m args below meth c H locs cells slots Q ls G A Cx Sx Rx Fx)
theorem kw_if_le {i : Nat} {x : Int32} {off : Int} {tgt : Nat} (hi : M.2[i]? = some (pc, .ifCond .le off, 3)) (ht : (pc : Int) + off = (tgt : Int)) (kt : x.toInt ≤ 0 → kw_AW l d E K M P tgt lv st σ) (kf : 0 < x.toInt → kw_AW l d E K M P (pc + 3) lv st σ) : kw_AW l d E K M P pc lv (.int x :: st) σ := by
  intro p e R s m args below meth c H locs cells slots Q ls G A Cx Sx Rx Fx
  exact lv_if_le Cx.1 Cx.2.1 (kw_dec Cx hi) ht (fun q => kt (kw_leI q) p e R s m args below meth c H locs cells slots Q ls G A Cx Sx Rx Fx) (fun q => kf (kw_nleI q) p e R s m args below meth c H locs cells slots Q ls G A Cx Sx Rx Fx)
theorem kw_icmp_le {i : Nat} {x y : Int32} {off : Int} {tgt : Nat} (hi : M.2[i]? = some (pc, .if_icmp .le off, 3)) (ht : (pc : Int) + off = (tgt : Int)) (kt : x.toInt ≤ y.toInt → kw_AW l d E K M P tgt lv st σ) (kf : y.toInt < x.toInt → kw_AW l d E K M P (pc + 3) lv st σ) : kw_AW l d E K M P pc lv (.int y :: .int x :: st) σ := by
  intro p e R s m args below meth c H locs cells slots Q ls G A Cx Sx Rx Fx
  exact lv_icmp_le Cx.1 Cx.2.1 (kw_dec Cx hi) ht (fun q => kt (kw_leI q) p e R s m args below meth c H locs cells slots Q ls G A Cx Sx Rx Fx) (fun q => kf (kw_nleI q) p e R s m args below meth c H locs cells slots Q ls G A Cx Sx Rx Fx)
theorem kw_goto {i : Nat} {off : Int} {tgt : Nat} (hi : M.2[i]? = some (pc, .goto off, 3)) (ht : (pc : Int) + off = (tgt : Int)) (h : kw_AW l d E K M P tgt lv st σ) : kw_AW l d E K M P pc lv st σ := by
  intro p e R s m args below meth c H locs cells slots Q ls G A Cx Sx Rx Fx
  exact lv_goto Cx.1 Cx.2.1 (kw_dec Cx hi) ht (h p e R s m args below meth c H locs cells slots Q ls G A Cx Sx Rx Fx)
theorem kw_tableOut {i : Nat} {dflt lo hi_ : Int} {offs : Array Int} {len : Nat} {x : Int32} {tgt : Nat} (hi : M.2[i]? = some (pc, .tableswitch dflt lo hi_ offs, len)) (hx : x.toInt < lo ∨ hi_ < x.toInt) (ht : (pc : Int) + dflt = (tgt : Int)) (h : kw_AW l d E K M P tgt lv st σ) : kw_AW l d E K M P pc lv (.int x :: st) σ := by
  intro p e R s m args below meth c H locs cells slots Q ls G A Cx Sx Rx Fx
  exact lv_tableOut Cx.1 Cx.2.1 (kw_dec Cx hi) hx ht (h p e R s m args below meth c H locs cells slots Q ls G A Cx Sx Rx Fx)
theorem kw_tableIn {i : Nat} {dflt lo hi_ : Int} {offs : Array Int} {len : Nat} {x : Int32} {off : Int} {tgt : Nat} {k : Nat} (hi : M.2[i]? = some (pc, .tableswitch dflt lo hi_ offs, len)) (hx : x.toInt = lo + k) (hk : lo + (k : Int) ≤ hi_) (ho : offs[k]? = some off) (ht : (pc : Int) + off = (tgt : Int)) (h : kw_AW l d E K M P tgt lv st σ) : kw_AW l d E K M P pc lv (.int x :: st) σ := by
  intro p e R s m args below meth c H locs cells slots Q ls G A Cx Sx Rx Fx
  refine lv_tableIn Cx.1 Cx.2.1 (kw_dec Cx hi) (by omega) (by omega) (off := off) ?_ ht (h p e R s m args below meth c H locs cells slots Q ls G A Cx Sx Rx Fx)
  rw [show (x.toInt - lo).toNat = k by omega]
  exact ho
theorem kw_ireturn {i : Nat} {x : Int32} {ty : FieldType} (hi : M.2[i]? = some (pc, .ireturn, 1)) (hr : M.1.2.2.2.2 = some ty) (hn : narrow ty (.int x) = .int x) (hP : P (some (.int x)) σ) : kw_AW l d E K M P pc lv [.int x] σ := by
  intro p e R s m args below meth c H locs cells slots Q ls G A Cx Sx Rx Fx
  exact Fx (some (.int x)) σ H locs ls pc _ hP Sx.1 Sx.2.2.1 (kw_dec Cx hi) (Or.inr (Or.inl ⟨ty, x, rfl, hr, rfl, hn⟩))
theorem kw_lreturn {i : Nat} {x : Int64} (hi : M.2[i]? = some (pc, .lreturn, 1)) (hr : M.1.2.2.2.2 = some .long) (hP : P (some (.long x)) σ) : kw_AW l d E K M P pc lv [.long x] σ := by
  intro p e R s m args below meth c H locs cells slots Q ls G A Cx Sx Rx Fx
  exact Fx (some (.long x)) σ H locs ls pc _ hP Sx.1 Sx.2.2.1 (kw_dec Cx hi) (Or.inr (Or.inr ⟨x, rfl, hr, rfl⟩))
theorem kw_return {i : Nat} (hi : M.2[i]? = some (pc, .return_, 1)) (hr : M.1.2.2.2.2 = none) (hP : P none σ) : kw_AW l d E K M P pc lv [] σ := by
  intro p e R s m args below meth c H locs cells slots Q ls G A Cx Sx Rx Fx
  exact Fx none σ H locs ls pc _ hP Sx.1 Sx.2.2.1 (kw_dec Cx hi) (Or.inl ⟨rfl, hr, rfl⟩)
end KWR
end
section
section KWR
variable {l : Launch} {d : Nat} {E : kw_E} {K : List kw_K1} {M : kw_M} {P : Option Value → kw_S → Prop} {pc : Nat} {lv : List (Nat × Value)} {st : List Value} {σ : kw_S}
/-- a field's link: the class ci's field j, as the class own names it at idx -/
def kw_lk (own : String) (idx ci j : Nat) : Prop := ∃ (C : String) (T : u_T) (N : Nat), vwCl[ci]? = some (C, T, N) ∧ j < N ∧ (∀ w ∈ u_ws C T N, w ∈ kw_ws) ∧ (T j).1 = C ∧ Cond.fieldLink own idx C (T j).2.1 (T j).2.2.1 ∈ kw_ws
/-- and it may be written -/
def kw_lkP (own : String) (idx ci j : Nat) (ty : FieldType) : Prop := ∃ (C : String) (T : u_T) (N : Nat) (ty0 : Nat → FieldType), vwCl[ci]? = some (C, T, N) ∧ j < N ∧ (∀ w ∈ u_ws C T N, w ∈ kw_ws) ∧ (T j).1 = C ∧ Cond.fieldLink own idx C (T j).2.1 (T j).2.2.1 ∈ kw_ws ∧ (∀ k, k < N → parseFieldDescriptor (T k).2.2.1 = some (ty0 k)) ∧ (∀ a, a < N → ∀ b, b < N → a ≠ b → (T a).2.1 ≠ (T b).2.1) ∧ (T j).2.2.2 = false ∧ parseFieldDescriptor (T j).2.2.1 = some ty
theorem kw_get {i idx a ci j : Nat} {fs : List Value} {t : Value} (hi : M.2[i]? = some (pc, .getfield idx, 3)) (hk : K[a]? = some (.inr (ci, fs))) (hf : fs[j]? = some t) (hl : kw_lk M.1.1 idx ci j) {v : Value} (hv : ∀ ad : Nat → Nat, kw_fv ad σ a j t = kw_rv ad v) (h : kw_AW l d E K M P (pc + 3) lv (v :: st) σ) : kw_AW l d E K M P pc lv (.ref a :: st) σ := by
  intro p e R s m args below meth c H locs cells slots Q ls G A Cx Sx Rx Fx
  obtain ⟨C, T, N, h1, h2, h3, h4, h5⟩ := hl
  refine va_get (D := G.2.1) (C := C) (T := T) (N := N) (v := kw_rv G.1 v) Cx.1 Cx.2.1 Cx.2.2.2.2.2.2.1 h3 Cx.2.2.2.2.2.1 Cx.2.2.2.2.2.2.2.1 Sx.1 a (kw_W_at hk) h1 j h2 (Cx.2.2.2.2.2.2.1 _ h5) (fun _ h9 => by rw [h4] at h9; exact h9) (by rw [kw_fill_get, hf, ← hv G.1]; rfl) (kw_dec Cx hi) (h p e R s m args below meth c H locs cells slots Q ls G A Cx Sx Rx Fx)
theorem kw_puti {i idx a ci j : Nat} {fs : List Value} {z x : Int32} {ty : FieldType} (hi : M.2[i]? = some (pc, .putfield idx, 3)) (hk : K[a]? = some (.inr (ci, fs))) (hf : fs[j]? = some (.int z)) (hl : kw_lkP M.1.1 idx ci j ty) (hn : narrow ty (.int x) = .int x) (hfit : fits ty (.int x) = true) (h : kw_AW l d E K M P (pc + 3) lv st (kw_ui σ a j x)) : kw_AW l d E K M P pc lv (.int x :: .ref a :: st) σ := by
  intro p e R s m args below meth c H locs cells slots Q ls G A Cx Sx Rx Fx
  obtain ⟨C, T, N, ty0, h1, h2, h3, h4, h5, h6, h7, h8, h9⟩ := hl
  refine va_put (D := G.2.1) (C := C) (T := T) (N := N) (v := .int x) (ty := ty) Cx.1 Cx.2.1 Cx.2.2.2.2.2.2.1 h3 ty0 h6 h7 Cx.2.2.2.2.2.1 Cx.2.2.2.2.2.2.2.1 Sx.1 Sx.2.1 Sx.2.2.1 a (kw_W_at hk) h1 j h2 (Cx.2.2.2.2.2.2.1 _ h5) (fun _ h9 => by rw [h4] at h9; exact h9) h8 h9 hn hfit (by have := (List.getElem?_eq_some_iff.mp hf).1; simp [kw_fill, this]) (kw_dec Cx hi) (fun H1 locs1 hP hD hS => ?_)
  rw [kw_W_pi hk hf] at hP hD
  exact h p e R s m args below meth c H1 locs1 cells slots Q ls G A Cx ⟨hP, hD, hS, Sx.2.2.2⟩ Rx Fx
theorem kw_putl {i idx a ci j : Nat} {fs : List Value} {z x : Int64} (hi : M.2[i]? = some (pc, .putfield idx, 3)) (hk : K[a]? = some (.inr (ci, fs))) (hf : fs[j]? = some (.long z)) (hl : kw_lkP M.1.1 idx ci j .long) (h : kw_AW l d E K M P (pc + 3) lv st (kw_ul σ a j x)) : kw_AW l d E K M P pc lv (.long x :: .ref a :: st) σ := by
  intro p e R s m args below meth c H locs cells slots Q ls G A Cx Sx Rx Fx
  obtain ⟨C, T, N, ty0, h1, h2, h3, h4, h5, h6, h7, h8, h9⟩ := hl
  refine va_put (D := G.2.1) (C := C) (T := T) (N := N) (v := .long x) (ty := .long) Cx.1 Cx.2.1 Cx.2.2.2.2.2.2.1 h3 ty0 h6 h7 Cx.2.2.2.2.2.1 Cx.2.2.2.2.2.2.2.1 Sx.1 Sx.2.1 Sx.2.2.1 a (kw_W_at hk) h1 j h2 (Cx.2.2.2.2.2.2.1 _ h5) (fun _ h9 => by rw [h4] at h9; exact h9) h8 h9 rfl rfl (by have := (List.getElem?_eq_some_iff.mp hf).1; simp [kw_fill, this]) (kw_dec Cx hi) (fun H1 locs1 hP hD hS => ?_)
  rw [kw_W_pl hk hf] at hP hD
  exact h p e R s m args below meth c H1 locs1 cells slots Q ls G A Cx ⟨hP, hD, hS, Sx.2.2.2⟩ Rx Fx
theorem kw_iald {i a n : Nat} {x : Int32} (hi : M.2[i]? = some (pc, .iaload, 1)) (hk : K[a]? = some (.inl (.inl n))) (h0 : 0 ≤ x.toInt) (h1 : x.toInt < n) (h : ∀ v : Int32, v = σ.1 a x.toNatClampNeg → kw_AW l d E K M P (pc + 1) lv (.int v :: st) σ) : kw_AW l d E K M P pc lv (.int x :: .ref a :: st) σ := by
  intro p e R s m args below meth c H locs cells slots Q ls G A Cx Sx Rx Fx
  exact va_iald (D := G.2.1) (n := n) (f := σ.1 a) Cx.1 Cx.2.1 Cx.2.2.2.2.2.2.2.1 Sx.1 a 0 (kw_W_at hk) rfl (kw_in h0 h1) (kw_dec Cx hi) (h _ rfl p e R s m args below meth c H locs cells slots Q ls G A Cx Sx Rx Fx)
theorem kw_iast {i a n : Nat} {x y : Int32} (hi : M.2[i]? = some (pc, .iastore, 1)) (hk : K[a]? = some (.inl (.inl n))) (h0 : 0 ≤ x.toInt) (h1 : x.toInt < n) (h : kw_AW l d E K M P (pc + 1) lv st (kw_ui σ a x.toNatClampNeg y)) : kw_AW l d E K M P pc lv (.int y :: .int x :: .ref a :: st) σ := by
  intro p e R s m args below meth c H locs cells slots Q ls G A Cx Sx Rx Fx
  refine va_iast (D := G.2.1) (n := n) (f := σ.1 a) Cx.1 Cx.2.1 Cx.2.2.2.2.2.2.2.1 Sx.1 Sx.2.1 Sx.2.2.1 a 0 (kw_W_at hk) rfl (kw_in h0 h1) (kw_dec Cx hi) (fun H1 locs1 hP hD hS => ?_)
  rw [kw_W_ui hk] at hP hD
  exact h p e R s m args below meth c H1 locs1 cells slots Q ls G A Cx ⟨hP, hD, hS, Sx.2.2.2⟩ Rx Fx
theorem kw_alen {i a n : Nat} {v : Int32} (hi : M.2[i]? = some (pc, .arraylength, 1)) (hk : K[a]? = some (.inl (.inl n))) (hv : Int32.ofNat n = v) (h : kw_AW l d E K M P (pc + 1) lv (.int v :: st) σ) : kw_AW l d E K M P pc lv (.ref a :: st) σ := by
  intro p e R s m args below meth c H locs cells slots Q ls G A Cx Sx Rx Fx
  exact va_alen (D := G.2.1) Cx.1 Cx.2.1 Cx.2.2.2.2.2.2.2.1 Sx.1 a 0 (x := (n, .inl (σ.1 a))) (kw_W_at hk) rfl hv (kw_dec Cx hi) (h p e R s m args below meth c H locs cells slots Q ls G A Cx Sx Rx Fx)
theorem kw_aald {i a t : Nat} {rs : List Nat} {x : Int32} {b : Nat} (hi : M.2[i]? = some (pc, .aaload, 1)) (hk : K[a]? = some (.inl (.inr (t, rs)))) (ht : t = 1 ∨ t = 2) (h0 : 0 ≤ x.toInt) (hb : rs[x.toNatClampNeg]? = some b) (h : kw_AW l d E K M P (pc + 1) lv (.ref b :: st) σ) : kw_AW l d E K M P pc lv (.int x :: .ref a :: st) σ := by
  intro p e R s m args below meth c H locs cells slots Q ls G A Cx Sx Rx Fx
  have hlt : x.toNatClampNeg < rs.length := (List.getElem?_eq_some_iff.mp hb).1
  have hin : vp_in x rs.length := kw_in h0 (by have := kw_clampI h0; omega)
  have ee : va_rf ((fun j => (rs[j]?).map G.1) x.toNatClampNeg) = .ref (G.1 b) := by simp [hb, va_rf]
  have hh := h p e R s m args below meth c H locs cells slots Q ls G A Cx Sx Rx Fx
  have hp := Sx.1 a _ (kw_W_at hk)
  rcases ht with rfl | rfl
  · refine W.aald (v := .ref (G.1 b)) (ty := .array .int) Cx.1 Cx.2.1 hp ((Cx.2.2.2.2.2.2.2.1.2 1 _ rfl).1 rs.length (fun j => va_rf ((rs[j]?).map G.1))) rfl (fun q => by cases q) (by show ¬ (x < 0 ∨ (arrV _ _ _).slots.size ≤ _); rw [arrV_size]; exact hin) (by show (arrV _ _ _).slots[_]? = _; rw [arrV_read _ _ hlt]; exact congrArg some ee) rfl rfl (kw_dec Cx hi) hh
  · refine W.aald (v := .ref (G.1 b)) (ty := .object "WashSails$Chart") Cx.1 Cx.2.1 hp ((Cx.2.2.2.2.2.2.2.1.2 2 _ rfl).1 rs.length (fun j => va_rf ((rs[j]?).map G.1))) rfl (fun q => by cases q) (by show ¬ (x < 0 ∨ (arrV _ _ _).slots.size ≤ _); rw [arrV_size]; exact hin) (by show (arrV _ _ _).slots[_]? = _; rw [arrV_read _ _ hlt]; exact congrArg some ee) rfl rfl (kw_dec Cx hi) hh
/-- a row that nobody writes -/
theorem kw_tld {i k a n : Nat} {f : Nat → Int32} {x : Int32} (hi : M.2[i]? = some (pc, .iaload, 1)) (hE : E[k]? = some (a, n, f)) (h0 : 0 ≤ x.toInt) (h1 : x.toInt < n) (h : ∀ v : Int32, v = f x.toNatClampNeg → kw_AW l d E K M P (pc + 1) lv (.int v :: st) σ) : kw_AW l d E K M P pc lv (.int x :: .ref a :: st) σ := by
  intro p e R s m args below meth c H locs cells slots Q ls G A Cx Sx Rx Fx
  exact va_ti Cx.1 Cx.2.1 (Cx.2.2.2.2.2.2.2.2.2.1.2.2.1 _ (List.mem_of_getElem? hE)) Sx.2.2.1 (kw_in h0 h1) rfl (kw_dec Cx hi) (h _ rfl p e R s m args below meth c H locs cells slots Q ls G A Cx Sx Rx Fx)
theorem kw_tlen {i k a n : Nat} {f : Nat → Int32} {v : Int32} (hi : M.2[i]? = some (pc, .arraylength, 1)) (hE : E[k]? = some (a, n, f)) (hv : Int32.ofNat n = v) (h : kw_AW l d E K M P (pc + 1) lv (.int v :: st) σ) : kw_AW l d E K M P pc lv (.ref a :: st) σ := by
  intro p e R s m args below meth c H locs cells slots Q ls G A Cx Sx Rx Fx
  exact va_tlen Cx.1 Cx.2.1 (Cx.2.2.2.2.2.2.2.2.2.1.2.2.1 _ (List.mem_of_getElem? hE)) Sx.2.2.1 hv (kw_dec Cx hi) (h p e R s m args below meth c H locs cells slots Q ls G A Cx Sx Rx Fx)
theorem kw_getsL {i idx : Nat} (hi : M.2[i]? = some (pc, .getstatic idx, 3)) (ho : M.1.1 = "WashSails$Reader" ∧ idx = 72) (h : kw_AW l d E K M P (pc + 3) lv (.ref 1000 :: st) σ) : kw_AW l d E K M P pc lv st σ := by
  intro p e R s m args below meth c H locs cells slots Q ls G A Cx Sx Rx Fx
  obtain ⟨ho, rfl⟩ := ho
  have hown := Cx.2.2.2.2.2.1
  rw [ho] at hown
  exact va_getsN Cx.1 Cx.2.1 Cx.2.2.2.2.2.2.2.2.2.1.1 Sx.2.2.1 hown (va_Nw.use rfl Cx.2.2.2.2.2.2.2.2.2.1.2.2.2.2) (fun _ h9 => h9) (kw_dec Cx hi) (h p e R s m args below meth c H locs cells slots Q ls G A Cx Sx Rx Fx)
theorem kw_getsK {i idx : Nat} (hi : M.2[i]? = some (pc, .getstatic idx, 3)) (hl : Cond.fieldLink M.1.1 idx "WashSails" "KIND_ABOVE" "[I" ∈ kw_ws) (h : kw_AW l d E K M P (pc + 3) lv (.ref 1001 :: st) σ) : kw_AW l d E K M P pc lv st σ := by
  intro p e R s m args below meth c H locs cells slots Q ls G A Cx Sx Rx Fx
  exact va_gets Cx.1 Cx.2.1 Cx.2.2.2.2.2.2.2.2.2.1.2.1 Sx.2.2.1 Cx.2.2.2.2.2.1 (Cx.2.2.2.2.2.2.1 _ hl) (fun _ h9 => h9) (kw_dec Cx hi) (h p e R s m args below meth c H locs cells slots Q ls G A Cx Sx Rx Fx)

end KWR
end
section
section KWC
variable {l : Launch} {d : Nat} {E : kw_E} {K : List kw_K1} {M : kw_M} {P : Option Value → kw_S → Prop} {pc : Nat} {lv : List (Nat × Value)} {st : List Value} {σ : kw_S}
theorem kw_run {p : Program} {e : Env} {R : Room} {s : State} {m : MethodId} {args : Array Value} {below : List Frame} {meth : Method} {c : Code} {H : Heap} {locs : List Loc} {cells slots : Nat} {Q : State → Prop} {ls : Array Slot} {G : kw_G} {A0 A1 : Nat → Prop} {a : Array Value} {st0 rest : List Value} {P' : Option Value → kw_S → Prop}
    (hr : va_Run p l e R s m args below meth c H locs cells slots 0 0 (F0 m pc ls st0) rest (kw_Q G K P' A1 a) A1) (hS : va_S A0 s.heap H locs) (hA : ∀ q, A1 q → A0 q)
    (kk : ∀ (v : Option Value) (σ' : kw_S) (H1 : Heap) (locs1 : List Loc), P' v σ' → va_P G.2.1 vwCl (kw_W G K σ') H1 → va_S A0 s.heap H1 locs1 → W p l e R s m args below meth c H1 locs1 cells slots Q (F0 m (pc + 3) ls ((v.map (kw_rv G.1)).toList ++ rest))) : W p l e R s m args below meth c H locs cells slots Q (F0 m pc ls st0) := by
  intro T hT X
  obtain ⟨v, st₀, t, T', L, h0, X', hL, e1, e2, ⟨⟨u, σ', hv, hp, hb⟩, hz, hk⟩, stp⟩ := hr T hT X
  cases hv
  rw [h0] at hz hk
  obtain ⟨t2, a1, b1⟩ := kk u σ' T'.heap (locs ++ L) hp (by rw [e1]; exact hb)
    ⟨Nat.le_trans hS.1 (by rw [e1]; exact hz), fun q h1 h2 => by rw [e1, hk q (Nat.lt_of_lt_of_le h1 hS.1) (fun z => h2 (hA q z))]; exact hS.2.1 q h1 h2, fun q hq => by
      rcases List.mem_append.mp hq with h | h
      · exact hS.2.2 q h
      · exact hA _ (hL q h)⟩ T' rfl X'
  exact ⟨t2, stp t2 a1, b1⟩
theorem kw_free {G : kw_G} {A : Nat → Prop} {s : State} {H : Heap} {locs : List Loc} (hD : va_D A (kw_W G K σ)) (hS : va_S A s.heap H locs) (hA : ∀ q : Nat, s.heap.size ≤ q → A q) : ∀ q, va_A (kw_W G K σ) H.size q → A q := by
  intro q h
  rcases h with ⟨k, e, h⟩ | h
  · exact hD.2 k (q, e) h
  · exact hA q (Nat.le_trans hS.1 h)
theorem kw_catsum (ad : Nat → Nat) : ∀ st : List Value, ((st.map (kw_rv ad)).map fun v => v.category).sum = (st.map fun v => v.category).sum
  | [] => rfl
  | v :: st => by simp only [List.map_cons, List.sum_cons, kw_cat]; rw [kw_catsum ad st]
/-- the words of a call of an instance's method; of a static one; of a nest mate's static one -/
def kw_lkV (own : String) (idx ci : Nat) (Y : kw_M) : Prop := (∃ (T : u_T) (N : Nat), vwCl[ci]? = some (Y.1.2.1.cls, T, N)) ∧ Cond.methodLink own idx Y.1.2.1 ∈ kw_ws ∧ Cond.instanceMethod Y.1.2.1 ∈ kw_ws ∧ Cond.selects Y.1.2.1.cls Y.1.2.1 Y.1.2.1 ∈ kw_ws ∧ Cond.initialized Y.1.2.1.cls ∈ kw_ws ∧ Cond.code Y.1.2.1 Y.1.2.2.1 Y.1.2.2.2.1 Y.1.2.2.2.2 ∈ kw_ws ∧ Y.1.2.1.cls ≠ "java/lang/invoke/MethodHandle" ∧ Y.1.2.1.cls ≠ "java/lang/invoke/VarHandle" ∧ Y.1.2.2.2.1 ≤ 41
def kw_lkS (own : String) (idx : Nat) (Y : kw_M) : Prop := Cond.methodLink own idx Y.1.2.1 ∈ kw_ws ∧ Cond.static Y.1.2.1 ∈ kw_ws ∧ Cond.initialized Y.1.2.1.cls ∈ kw_ws ∧ Cond.code Y.1.2.1 Y.1.2.2.1 Y.1.2.2.2.1 Y.1.2.2.2.2 ∈ kw_ws ∧ Y.1.2.1.cls ≠ "java/lang/invoke/MethodHandle" ∧ Y.1.2.1.cls ≠ "java/lang/invoke/VarHandle" ∧ Y.1.2.2.2.1 ≤ 41
def kw_lkN (own : String) (idx : Nat) (Y : kw_M) : Prop := (own, idx, Y.1.2.1) ∈ kw_NM ∧ Cond.static Y.1.2.1 ∈ kw_ws ∧ Cond.initialized Y.1.2.1.cls ∈ kw_ws ∧ Cond.code Y.1.2.1 Y.1.2.2.1 Y.1.2.2.2.1 Y.1.2.2.2.2 ∈ kw_ws ∧ Y.1.2.1.cls ≠ "java/lang/invoke/MethodHandle" ∧ Y.1.2.1.cls ≠ "java/lang/invoke/VarHandle" ∧ Y.1.2.2.2.1 ≤ 41
theorem kw_goodw {w : Cond} (h : w ∈ kw_ws) : w ∈ kw_ws ∧ ((w.onTables && w.keeps) = true ∨ ∃ ty, w = .arrayClass ty) := ⟨h, good_of_word (List.mem_filter.mp h).2⟩
theorem kw_pre {G : kw_G} {A : Nat → Prop} {p : Program} {s : State} {m : MethodId} {args : Array Value} {meth : Method} {c : Code} {H : Heap} {locs : List Loc} {ls : Array Slot} (Cx : kw_Cx E M G A p s m args meth c) (Sx : kw_Sx K M G A s H locs ls lv σ) (hE : ∀ q ∈ kw_E0, q ∈ E) (As : List Value) : ∀ U : State, U.heap = H → s.WarmedH U.vm → kw_Pre G K σ H.size As (As.map (kw_rv G.1)).toArray U := by
  intro U hU hW
  refine ⟨rfl, by rw [hU], by rw [hU]; exact Sx.1, va_K.moved hW.alike Cx.2.2.2.2.2.2.2.1, Sx.2.1.weaken (fun _ _ _ _ => trivial), ?_⟩
  rw [hU]
  exact Cx.2.2.2.2.2.2.2.2.2.1.next hE hW Sx.2.2.1 (kw_free Sx.2.1 Sx.2.2.1 Cx.2.2.2.2.2.2.2.2.1)
theorem kw_callV {i idx ci a d' : Nat} {fs : List Value} {Y : kw_M} {As st0 : List Value} {P' : Option Value → kw_S → Prop} (hE : ∀ q ∈ kw_E0, q ∈ E) (hi : M.2[i]? = some (pc, .invokevirtual idx, 3)) (hk : K[a]? = some (.inr (ci, fs))) (hl : kw_lkV M.1.1 idx ci Y) (hn : (parseMethodDescriptor Y.1.2.1.desc).map (fun d => d.parameters.length) = some As.length) (hM : kw_Met l d' K Y (.ref a :: As) σ P') (hd : d' < d) (hc : (st.map fun v => v.category).sum ≤ 8) (hst : st0 = As.reverse ++ .ref a :: st)
    (kk : ∀ (v : Option Value) (σ' : kw_S), P' v σ' → kw_AW l d E K M P (pc + 3) lv (v.toList ++ st) σ') : kw_AW l d E K M P pc lv st0 σ := by
  intro p e R s m args below meth c H locs cells slots Q ls G A Cx Sx Rx Fx
  obtain ⟨⟨T, N, h1⟩, h2, h3, h4, h5, h6, h7, h8, h9⟩ := hl
  have hT : GoodIn kw_ws (wsV M.1.1 idx Y.1.2.1.cls Y.1.2.1 (.code Y.1.2.1 Y.1.2.2.1 Y.1.2.2.2.1 Y.1.2.2.2.2 :: kw_ws)) := by
    intro w hw
    rcases List.mem_append.mp hw with q | q
    · simp only [List.mem_cons, List.not_mem_nil, or_false] at q
      rcases q with rfl | rfl | rfl | rfl
      · exact kw_goodw h2
      · exact kw_goodw h3
      · exact kw_goodw h4
      · exact kw_goodw h5
    · rcases List.mem_cons.mp q with rfl | q
      · exact kw_goodw h6
      · exact kw_goodw q
  have cw := cwV (R := R) (own := M.1.1) (index := idx) (C := Y.1.2.1.cls) (y := Y.1.2.1) (rm := kw_rm d') (mc := 0) (ms := 0) As.length Cx.2.2.2.2.2.2.1 hT rfl rfl rfl ⟨rfl, h7, h8, hn⟩ ⟨by show d' + 1 ≤ _; omega, by show _ + 60 * d' ≤ _; omega⟩
  have hrec := va_recv (q := (Y.1.2.1.cls, T, N)) Cx.2.2.2.2.2.2.2.1 Sx.1 h1 (kw_W_at hk)
  have hrun := va_runV (g := F0 m pc ls (st0.map (kw_rv G.1))) (b := G.1 a) (As := As.map (kw_rv G.1)) (rest := st.map (kw_rv G.1)) (cells := cells) (slots := slots) (locs := locs) (e := e) (below := below) (meth := meth) ⟨Cx.1, Cx.2.1, Cx.2.2.2.2.1, Cx.2.2.2.2.2.1, Cx.2.2.2.2.2.2.1⟩ (hM G H.size) cw ⟨kw_blind, hrec, kw_pre Cx Sx hE (.ref a :: As)⟩ rfl (by simp) Sx.2.2.2.1 (by rw [hst]; simp [kw_rv]) (by rw [kw_catsum]; exact lv_room (rest := st0.map (kw_rv G.1)) hc) (kw_dec Cx hi) ⟨Rx.2.2.1, Rx.2.2.2⟩
  refine kw_run hrun Sx.2.2.1 (kw_free Sx.2.1 Sx.2.2.1 Cx.2.2.2.2.2.2.2.2.1) (fun v σ' H1 locs1 hP' hP1 hS1 => ?_)
  have hh := kk v σ' hP' p e R s m args below meth c H1 locs1 cells slots Q ls G A Cx ⟨hP1, kw_D σ' Sx.2.1, hS1, Sx.2.2.2⟩ Rx Fx
  cases v <;> exact hh
theorem kw_callS {i idx d' : Nat} {Y : kw_M} {As st0 : List Value} {P' : Option Value → kw_S → Prop} (hE : ∀ q ∈ kw_E0, q ∈ E) (hi : M.2[i]? = some (pc, .invokestatic idx, 3)) (hl : kw_lkS M.1.1 idx Y) (hn : (parseMethodDescriptor Y.1.2.1.desc).map (fun d => d.parameters.length) = some As.length) (hM : kw_Met l d' K Y As σ P') (hd : d' < d) (hc : (st.map fun v => v.category).sum ≤ 8) (hst : st0 = As.reverse ++ st)
    (kk : ∀ (v : Option Value) (σ' : kw_S), P' v σ' → kw_AW l d E K M P (pc + 3) lv (v.toList ++ st) σ') : kw_AW l d E K M P pc lv st0 σ := by
  intro p e R s m args below meth c H locs cells slots Q ls G A Cx Sx Rx Fx
  obtain ⟨h2, h3, h5, h6, h7, h8, h9⟩ := hl
  have hT : GoodIn kw_ws (va_wsS M.1.1 idx Y.1.2.1 (.code Y.1.2.1 Y.1.2.2.1 Y.1.2.2.2.1 Y.1.2.2.2.2 :: kw_ws)) := by
    intro w hw
    rcases List.mem_append.mp hw with q | q
    · simp only [List.mem_cons, List.not_mem_nil, or_false] at q
      rcases q with rfl | rfl | rfl
      · exact kw_goodw h2
      · exact kw_goodw h3
      · exact kw_goodw h5
    · rcases List.mem_cons.mp q with rfl | q
      · exact kw_goodw h6
      · exact kw_goodw q
  have cw := va_cwS (R := R) (own := M.1.1) (index := idx) (y := Y.1.2.1) (rm := kw_rm d') (mc := 0) (ms := 0) As.length Cx.2.2.2.2.2.2.1 hT rfl rfl rfl ⟨h7, h8, hn⟩ ⟨by show d' + 1 ≤ _; omega, by show _ + 60 * d' ≤ _; omega⟩
  have hrun := va_runS (g := F0 m pc ls (st0.map (kw_rv G.1))) (As := As.map (kw_rv G.1)) (rest := st.map (kw_rv G.1)) (cells := cells) (slots := slots) (locs := locs) (e := e) (below := below) (meth := meth) ⟨Cx.1, Cx.2.1, Cx.2.2.2.2.1, Cx.2.2.2.2.2.1, Cx.2.2.2.2.2.2.1⟩ (hM G H.size) cw ⟨kw_blind, kw_pre Cx Sx hE As⟩ rfl (by simp) Sx.2.2.2.1 (by rw [hst]; simp) (by rw [kw_catsum]; exact lv_room (rest := st0.map (kw_rv G.1)) hc) (kw_dec Cx hi) ⟨Rx.2.2.1, Rx.2.2.2⟩
  refine kw_run hrun Sx.2.2.1 (kw_free Sx.2.1 Sx.2.2.1 Cx.2.2.2.2.2.2.2.2.1) (fun v σ' H1 locs1 hP' hP1 hS1 => ?_)
  have hh := kk v σ' hP' p e R s m args below meth c H1 locs1 cells slots Q ls G A Cx ⟨hP1, kw_D σ' Sx.2.1, hS1, Sx.2.2.2⟩ Rx Fx
  cases v <;> exact hh
theorem kw_callN {i idx d' : Nat} {Y : kw_M} {As st0 : List Value} {P' : Option Value → kw_S → Prop} (hE : ∀ q ∈ kw_E0, q ∈ E) (hi : M.2[i]? = some (pc, .invokestatic idx, 3)) (hl : kw_lkN M.1.1 idx Y) (hn : (parseMethodDescriptor Y.1.2.1.desc).map (fun d => d.parameters.length) = some As.length) (hM : kw_Met l d' K Y As σ P') (hd : d' < d) (hc : (st.map fun v => v.category).sum ≤ 8) (hst : st0 = As.reverse ++ st)
    (kk : ∀ (v : Option Value) (σ' : kw_S), P' v σ' → kw_AW l d E K M P (pc + 3) lv (v.toList ++ st) σ') : kw_AW l d E K M P pc lv st0 σ := by
  intro p e R s m args below meth c H locs cells slots Q ls G A Cx Sx Rx Fx
  obtain ⟨h2, h3, h5, h6, h7, h8, h9⟩ := hl
  have hT : GoodIn kw_ws (.code Y.1.2.1 Y.1.2.2.1 Y.1.2.2.2.1 Y.1.2.2.2.2 :: kw_ws) := by
    intro w hw
    rcases List.mem_cons.mp hw with rfl | q
    · exact kw_goodw h6
    · exact kw_goodw q
  have cw := va_cnB (R := R) (s := s) (args := args) (own := M.1.1) (host := "WashSails") (index := idx) (y := Y.1.2.1) (rm := kw_rm d') (mc := 0) (ms := 0) As.length Cx.2.2.2.2.2.2.1 hT rfl rfl rfl (Cx.2.2.2.2.2.2.2.2.2.1.2.2.2.1 _ h2) (Cx.2.2.2.2.2.2.1 _ h5) ⟨h7, h8, hn⟩ ⟨by show d' + 1 ≤ _; omega, by show _ + 60 * d' ≤ _; omega⟩
  have hrun := va_runSN (g := F0 m pc ls (st0.map (kw_rv G.1))) (As := As.map (kw_rv G.1)) (rest := st.map (kw_rv G.1)) (cells := cells) (slots := slots) (locs := locs) (e := e) (below := below) (meth := meth) ⟨Cx.1, Cx.2.1, Cx.2.2.2.2.1, Cx.2.2.2.2.2.1, Cx.2.2.2.2.2.2.1⟩ (hM G H.size) ⟨cw, Cx.2.2.2.2.2.2.1 _ h3, trivial⟩ ⟨kw_blind, kw_pre Cx Sx hE As⟩ rfl (by simp) Sx.2.2.2.1 (by rw [hst]; simp) (by rw [kw_catsum]; exact lv_room (rest := st0.map (kw_rv G.1)) hc) (kw_dec Cx hi) ⟨Rx.2.2.1, Rx.2.2.2⟩
  refine kw_run hrun Sx.2.2.1 (kw_free Sx.2.1 Sx.2.2.1 Cx.2.2.2.2.2.2.2.2.1) (fun v σ' H1 locs1 hP' hP1 hS1 => ?_)
  have hh := kk v σ' hP' p e R s m args below meth c H1 locs1 cells slots Q ls G A Cx ⟨hP1, kw_D σ' Sx.2.1, hS1, Sx.2.2.2⟩ Rx Fx
  cases v <;> exact hh
/-- System.arraycopy of ints -/
def kw_lkA (own : String) (idx : Nat) : Prop := Cond.methodLink own idx arraycopyName ∈ kw_ws ∧ Cond.native arraycopyName ∈ kw_ws ∧ Cond.static arraycopyName ∈ kw_ws ∧ Cond.initialized "java/lang/System" ∈ kw_ws
theorem kw_copy {i idx a b n m_ : Nat} {sp dp k : Int32} (hi : M.2[i]? = some (pc, .invokestatic idx, 3)) (hl : kw_lkA M.1.1 idx) (ha : K[a]? = some (.inl (.inl n))) (hb : K[b]? = some (.inl (.inl m_))) (h0 : 0 ≤ sp.toInt) (h1 : 0 ≤ dp.toInt) (h2 : 0 ≤ k.toInt) (h3 : sp.toInt + k.toInt ≤ n) (h4 : dp.toInt + k.toInt ≤ m_) (hd : 1 < d) (hc : (st.map fun v => v.category).sum ≤ 8)
    (h : kw_AW l d E K M P (pc + 3) lv st (kw_ua σ b (va_cpy (σ.1 a) (σ.1 b) sp.toNatClampNeg dp.toNatClampNeg k.toNatClampNeg))) : kw_AW l d E K M P pc lv (.int k :: .int dp :: .ref b :: .int sp :: .ref a :: st) σ := by
  intro p e R s m args below meth c H locs cells slots Q ls G A Cx Sx Rx Fx
  obtain ⟨g1, g2, g3, g4⟩ := hl
  have hts := Cx.2.2.2.2.2.2.1
  have nn : ∀ z : Int32, 0 ≤ z.toInt → ¬ z < 0 := fun z hz q => by
    have e0 : (0 : Int32).toInt = 0 := rfl
    have := Int32.lt_iff_toInt_lt.mp q
    omega
  have c0 := kw_clampI h0
  have c1 := kw_clampI h1
  have c2 := kw_clampI h2
  refine va_copyi (D := G.2.1) (n0 := n) (n1 := m_) (f := σ.1 a) (g := σ.1 b) (ty := .int) Cx.1 Cx.2.1 (Cx.2.2.2.2.1.trans Sx.2.2.2.1.symm) Cx.2.2.2.2.2.1 (hts _ g1) (hts _ g2) (hts _ g3) (hts _ g4) Cx.2.2.2.2.2.2.2.1 Sx.1 Sx.2.1 Sx.2.2.1 a b 0 0 (kw_W_at ha) (kw_W_at hb) rfl rfl rfl (nn _ h0) (nn _ h1) (nn _ h2) (by omega) (by omega) (fun _ _ => rfl) (by omega) ?_ (kw_dec Cx hi) (fun H1 locs1 hP hD hS => ?_)
  · rw [kw_catsum]
    have : nativeFrameWords "java/lang/System" "arraycopy" 5 + 11 ≤ 100 := by decide +kernel
    omega
  · rw [kw_W_ua hb] at hP hD
    exact h p e R s m args below meth c H1 locs1 cells slots Q ls G A Cx ⟨hP, hD, hS, Sx.2.2.2⟩ Rx Fx
end KWC
end
section
def mX0_draw : kw_M := ((RX0, yX0_draw, cX0_draw, 7, none), [(0, .aload_n 0, 1), (1, .aload_n 1, 1), (2, .getfield 18, 3), (5, .putfield 24, 3), (8, .aload_n 0, 1), (9, .iconst 1, 1), (10, .putfield 25, 3), (13, .aload_n 0, 1), (14, .getfield 9, 3), (17, .iconst 0, 1), (18, .iconst 0, 1), (19, .iastore, 1), (20, .aload_n 0, 1), (21, .getfield 15, 3), (24, .iconst 0, 1), (25, .iconst 0, 1), (26, .iastore, 1), (27, .iconst 0, 1), (28, .istore_n 3, 1), (29, .iload_n 3, 1), (30, .aload_n 0, 1), (31, .getfield 24, 3), (34, .if_icmp .ge 112, 3), (37, .aload_n 1, 1), (38, .iload_n 3, 1), (39, .iload_n 2, 1), (40, .invokevirtual 28, 3), (43, .istore 4, 2), (45, .iload 4, 2), (47, .aload_n 1, 1), (48, .getfield 32, 3), (51, .iload_n 3, 1), (52, .iaload, 1), (53, .imul, 1), (54, .istore 5, 2), (56, .iconst 0, 1), (57, .istore 6, 2), (59, .iload 6, 2), (61, .aload_n 0, 1), (62, .getfield 25, 3), (65, .if_icmp .ge 65, 3), (68, .aload_n 0, 1), (69, .getfield 25, 3), (72, .iload 6, 2), (74, .iadd, 1), (75, .bipush 64, 2), (77, .if_icmp .ge 53, 3), (80, .aload_n 0, 1), (81, .getfield 9, 3), (84, .aload_n 0, 1), (85, .getfield 25, 3), (88, .iload 6, 2), (90, .iadd, 1), (91, .aload_n 0, 1), (92, .getfield 9, 3), (95, .iload 6, 2), (97, .iaload, 1), (98, .iload 4, 2), (100, .iadd, 1), (101, .iastore, 1), (102, .aload_n 0, 1), (103, .getfield 15, 3), (106, .aload_n 0, 1), (107, .getfield 25, 3), (110, .iload 6, 2), (112, .iadd, 1), (113, .aload_n 0, 1), (114, .getfield 15, 3), (117, .iload 6, 2), (119, .iaload, 1), (120, .iload 5, 2), (122, .iadd, 1), (123, .iastore, 1), (124, .iinc 6 1, 3), (127, .goto (-68), 3), (130, .aload_n 0, 1), (131, .dup, 1), (132, .getfield 25, 3), (135, .iconst 1, 1), (136, .ishl, 1), (137, .putfield 25, 3), (140, .iinc 3 1, 3), (143, .goto (-114), 3), (146, .return_, 1)])
set_option maxRecDepth 20000 in
theorem tX0_draw : ∀ q ∈ mX0_draw.2, decode mX0_draw.1.2.2.1 q.1 = .ok q.2 := by decide +kernel
def mX0_milesOf : kw_M := ((RX0, yX0_milesOf, cX0_milesOf, 2, (some .int)), [(0, .iload_n 1, 1), (1, .ifCond .lt 20, 3), (4, .iload_n 1, 1), (5, .bipush 64, 2), (7, .if_icmp .ge 14, 3), (10, .aload_n 0, 1), (11, .getfield 9, 3), (14, .iload_n 1, 1), (15, .iaload, 1), (16, .iconst 4, 1), (17, .idiv, 1), (18, .goto 4, 3), (21, .iconst 0, 1), (22, .ireturn, 1)])
set_option maxRecDepth 20000 in
theorem tX0_milesOf : ∀ q ∈ mX0_milesOf.2, decode mX0_milesOf.1.2.2.1 q.1 = .ok q.2 := by decide +kernel
def mX0_turnBy : kw_M := ((RX0, yX0_turnBy, cX0_turnBy, 2, (some .int)), [(0, .iload_n 1, 1), (1, .ifCond .lt 18, 3), (4, .iload_n 1, 1), (5, .bipush 64, 2), (7, .if_icmp .ge 12, 3), (10, .aload_n 0, 1), (11, .getfield 15, 3), (14, .iload_n 1, 1), (15, .iaload, 1), (16, .goto 4, 3), (19, .iconst 0, 1), (20, .ireturn, 1)])
set_option maxRecDepth 20000 in
theorem tX0_turnBy : ∀ q ∈ mX0_turnBy.2, decode mX0_turnBy.1.2.2.1 q.1 = .ok q.2 := by decide +kernel
def mX0_fits : kw_M := ((RX0, yX0_fits, cX0_fits, 4, (some .boolean)), [(0, .aload_n 0, 1), (1, .iload_n 1, 1), (2, .invokevirtual 35, 3), (5, .iload_n 2, 1), (6, .if_icmp .ne 16, 3), (9, .aload_n 0, 1), (10, .iload_n 1, 1), (11, .invokevirtual 39, 3), (14, .iload_n 3, 1), (15, .if_icmp .ne 7, 3), (18, .iconst 1, 1), (19, .goto 4, 3), (22, .iconst 0, 1), (23, .ireturn, 1)])
set_option maxRecDepth 20000 in
theorem tX0_fits : ∀ q ∈ mX0_fits.2, decode mX0_fits.1.2.2.1 q.1 = .ok q.2 := by decide +kernel
def mX1_copyFrom : kw_M := ((RX1, yX1_copyFrom, cX1_copyFrom, 2, none), [(0, .aload_n 1, 1), (1, .getfield 9, 3), (4, .iconst 0, 1), (5, .aload_n 0, 1), (6, .getfield 9, 3), (9, .iconst 0, 1), (10, .bipush 6, 2), (12, .invokestatic 27, 3), (15, .aload_n 1, 1), (16, .getfield 15, 3), (19, .iconst 0, 1), (20, .aload_n 0, 1), (21, .getfield 15, 3), (24, .iconst 0, 1), (25, .bipush 6, 2), (27, .invokestatic 27, 3), (30, .aload_n 1, 1), (31, .getfield 18, 3), (34, .iconst 0, 1), (35, .aload_n 0, 1), (36, .getfield 18, 3), (39, .iconst 0, 1), (40, .bipush 6, 2), (42, .invokestatic 27, 3), (45, .aload_n 1, 1), (46, .getfield 21, 3), (49, .iconst 0, 1), (50, .aload_n 0, 1), (51, .getfield 21, 3), (54, .iconst 0, 1), (55, .bipush 6, 2), (57, .invokestatic 27, 3), (60, .aload_n 1, 1), (61, .getfield 24, 3), (64, .iconst 0, 1), (65, .aload_n 0, 1), (66, .getfield 24, 3), (69, .iconst 0, 1), (70, .bipush 8, 2), (72, .invokestatic 27, 3), (75, .aload_n 0, 1), (76, .aload_n 1, 1), (77, .getfield 33, 3), (80, .putfield 33, 3), (83, .aload_n 0, 1), (84, .aload_n 1, 1), (85, .getfield 37, 3), (88, .putfield 37, 3), (91, .return_, 1)])
set_option maxRecDepth 20000 in
theorem tX1_copyFrom : ∀ q ∈ mX1_copyFrom.2, decode mX1_copyFrom.1.2.2.1 q.1 = .ok q.2 := by decide +kernel
def mX1_hasLine : kw_M := ((RX1, yX1_hasLine, cX1_hasLine, 2, (some .boolean)), [(0, .iload_n 1, 1), (1, .ifCond .lt 15, 3), (4, .iload_n 1, 1), (5, .aload_n 0, 1), (6, .getfield 33, 3), (9, .if_icmp .ge 7, 3), (12, .iconst 1, 1), (13, .goto 4, 3), (16, .iconst 0, 1), (17, .ireturn, 1)])
set_option maxRecDepth 20000 in
theorem tX1_hasLine : ∀ q ∈ mX1_hasLine.2, decode mX1_hasLine.1.2.2.1 q.1 = .ok q.2 := by decide +kernel
def mX1_allLines : kw_M := ((RX1, yX1_allLines, cX1_allLines, 1, (some .int)), [(0, .iconst 1, 1), (1, .aload_n 0, 1), (2, .getfield 33, 3), (5, .ishl, 1), (6, .iconst 1, 1), (7, .isub, 1), (8, .ireturn, 1)])
set_option maxRecDepth 20000 in
theorem tX1_allLines : ∀ q ∈ mX1_allLines.2, decode mX1_allLines.1.2.2.1 q.1 = .ok q.2 := by decide +kernel
def mX1_hasSet : kw_M := ((RX1, yX1_hasSet, cX1_hasSet, 2, (some .boolean)), [(0, .iload_n 1, 1), (1, .ifCond .lt 15, 3), (4, .iload_n 1, 1), (5, .aload_n 0, 1), (6, .invokevirtual 40, 3), (9, .if_icmp .gt 7, 3), (12, .iconst 1, 1), (13, .goto 4, 3), (16, .iconst 0, 1), (17, .ireturn, 1)])
set_option maxRecDepth 20000 in
theorem tX1_hasSet : ∀ q ∈ mX1_hasSet.2, decode mX1_hasSet.1.2.2.1 q.1 = .ok q.2 := by decide +kernel
def mX1_windAt : kw_M := ((RX1, yX1_windAt, cX1_windAt, 2, (some .int)), [(0, .aload_n 0, 1), (1, .getfield 37, 3), (4, .iconst 1, 1), (5, .if_icmp .lt 7, 3), (8, .iload_n 1, 1), (9, .ifCond .ge 7, 3), (12, .iconst 0, 1), (13, .goto 14, 3), (16, .aload_n 0, 1), (17, .getfield 24, 3), (20, .iload_n 1, 1), (21, .aload_n 0, 1), (22, .getfield 37, 3), (25, .irem, 1), (26, .iaload, 1), (27, .ireturn, 1)])
set_option maxRecDepth 20000 in
theorem tX1_windAt : ∀ q ∈ mX1_windAt.2, decode mX1_windAt.1.2.2.1 q.1 = .ok q.2 := by decide +kernel
def mX1_pullOf : kw_M := ((RX1, yX1_pullOf, cX1_pullOf, 3, (some .int)), [(0, .aload_n 0, 1), (1, .iload_n 1, 1), (2, .invokevirtual 44, 3), (5, .ifCond .eq 22, 3), (8, .aload_n 0, 1), (9, .getfield 9, 3), (12, .iload_n 1, 1), (13, .iaload, 1), (14, .aload_n 0, 1), (15, .getfield 18, 3), (18, .iload_n 1, 1), (19, .iaload, 1), (20, .iload_n 2, 1), (21, .invokestatic 48, 3), (24, .goto 4, 3), (27, .iconst 0, 1), (28, .ireturn, 1)])
set_option maxRecDepth 20000 in
theorem tX1_pullOf : ∀ q ∈ mX1_pullOf.2, decode mX1_pullOf.1.2.2.1 q.1 = .ok q.2 := by decide +kernel
def mX1_milesOf : kw_M := ((RX1, yX1_milesOf, cX1_milesOf, 5, (some .int)), [(0, .iconst 0, 1), (1, .istore_n 3, 1), (2, .iconst 0, 1), (3, .istore 4, 2), (5, .iload 4, 2), (7, .aload_n 0, 1), (8, .getfield 33, 3), (11, .if_icmp .ge 29, 3), (14, .iload_n 1, 1), (15, .iload 4, 2), (17, .ishr, 1), (18, .iconst 1, 1), (19, .iand, 1), (20, .iconst 1, 1), (21, .if_icmp .ne 13, 3), (24, .iload_n 3, 1), (25, .aload_n 0, 1), (26, .iload 4, 2), (28, .iload_n 2, 1), (29, .invokevirtual 52, 3), (32, .iadd, 1), (33, .istore_n 3, 1), (34, .iinc 4 1, 3), (37, .goto (-32), 3), (40, .iload_n 3, 1), (41, .iconst 4, 1), (42, .idiv, 1), (43, .ireturn, 1)])
set_option maxRecDepth 20000 in
theorem tX1_milesOf : ∀ q ∈ mX1_milesOf.2, decode mX1_milesOf.1.2.2.1 q.1 = .ok q.2 := by decide +kernel
def mX1_turnOf : kw_M := ((RX1, yX1_turnOf, cX1_turnOf, 5, (some .int)), [(0, .iconst 0, 1), (1, .istore_n 3, 1), (2, .iconst 0, 1), (3, .istore 4, 2), (5, .iload 4, 2), (7, .aload_n 0, 1), (8, .getfield 33, 3), (11, .if_icmp .ge 37, 3), (14, .iload_n 1, 1), (15, .iload 4, 2), (17, .ishr, 1), (18, .iconst 1, 1), (19, .iand, 1), (20, .iconst 1, 1), (21, .if_icmp .ne 21, 3), (24, .iload_n 3, 1), (25, .aload_n 0, 1), (26, .iload 4, 2), (28, .iload_n 2, 1), (29, .invokevirtual 52, 3), (32, .aload_n 0, 1), (33, .getfield 15, 3), (36, .iload 4, 2), (38, .iaload, 1), (39, .imul, 1), (40, .iadd, 1), (41, .istore_n 3, 1), (42, .iinc 4 1, 3), (45, .goto (-40), 3), (48, .iload_n 3, 1), (49, .ireturn, 1)])
set_option maxRecDepth 20000 in
theorem tX1_turnOf : ∀ q ∈ mX1_turnOf.2, decode mX1_turnOf.1.2.2.1 q.1 = .ok q.2 := by decide +kernel
def mX1_mostMilesOf : kw_M := ((RX1, yX1_mostMilesOf, cX1_mostMilesOf, 5, (some .int)), [(0, .iconst 0, 1), (1, .istore_n 3, 1), (2, .iconst 0, 1), (3, .istore 4, 2), (5, .iload 4, 2), (7, .aload_n 0, 1), (8, .getfield 33, 3), (11, .if_icmp .ge 33, 3), (14, .iload_n 1, 1), (15, .iload 4, 2), (17, .ishr, 1), (18, .iconst 1, 1), (19, .iand, 1), (20, .iconst 1, 1), (21, .if_icmp .ne 17, 3), (24, .iload_n 3, 1), (25, .iconst 0, 1), (26, .aload_n 0, 1), (27, .iload 4, 2), (29, .iload_n 2, 1), (30, .invokevirtual 52, 3), (33, .invokestatic 56, 3), (36, .iadd, 1), (37, .istore_n 3, 1), (38, .iinc 4 1, 3), (41, .goto (-36), 3), (44, .iload_n 3, 1), (45, .iconst 4, 1), (46, .idiv, 1), (47, .ireturn, 1)])
set_option maxRecDepth 20000 in
theorem tX1_mostMilesOf : ∀ q ∈ mX1_mostMilesOf.2, decode mX1_mostMilesOf.1.2.2.1 q.1 = .ok q.2 := by decide +kernel
def mX1_linenOf : kw_M := ((RX1, yX1_linenOf, cX1_linenOf, 4, (some .int)), [(0, .iconst 0, 1), (1, .istore_n 2, 1), (2, .iconst 0, 1), (3, .istore_n 3, 1), (4, .iload_n 3, 1), (5, .aload_n 0, 1), (6, .getfield 33, 3), (9, .if_icmp .ge 27, 3), (12, .iload_n 1, 1), (13, .iload_n 3, 1), (14, .ishr, 1), (15, .iconst 1, 1), (16, .iand, 1), (17, .iconst 1, 1), (18, .if_icmp .ne 12, 3), (21, .iload_n 2, 1), (22, .aload_n 0, 1), (23, .getfield 21, 3), (26, .iload_n 3, 1), (27, .iaload, 1), (28, .iadd, 1), (29, .istore_n 2, 1), (30, .iinc 3 1, 3), (33, .goto (-29), 3), (36, .iload_n 2, 1), (37, .ireturn, 1)])
set_option maxRecDepth 20000 in
theorem tX1_linenOf : ∀ q ∈ mX1_linenOf.2, decode mX1_linenOf.1.2.2.1 q.1 = .ok q.2 := by decide +kernel
def mX1_howManyAre : kw_M := ((RX1, yX1_howManyAre, cX1_howManyAre, 4, (some .int)), [(0, .iconst 0, 1), (1, .istore_n 2, 1), (2, .iconst 0, 1), (3, .istore_n 3, 1), (4, .iload_n 3, 1), (5, .aload_n 0, 1), (6, .getfield 33, 3), (9, .if_icmp .ge 25, 3), (12, .aload_n 0, 1), (13, .getfield 9, 3), (16, .iload_n 3, 1), (17, .iaload, 1), (18, .iload_n 1, 1), (19, .invokestatic 61, 3), (22, .ifCond .eq 6, 3), (25, .iinc 2 1, 3), (28, .iinc 3 1, 3), (31, .goto (-27), 3), (34, .iload_n 2, 1), (35, .ireturn, 1)])
set_option maxRecDepth 20000 in
theorem tX1_howManyAre : ∀ q ∈ mX1_howManyAre.2, decode mX1_howManyAre.1.2.2.1 q.1 = .ok q.2 := by decide +kernel
def mX1_othersNoWider : kw_M := ((RX1, yX1_othersNoWider, cX1_othersNoWider, 4, (some .int)), [(0, .aload_n 0, 1), (1, .iload_n 1, 1), (2, .invokevirtual 44, 3), (5, .ifCond .ne 5, 3), (8, .iconst 0, 1), (9, .ireturn, 1), (10, .iconst 0, 1), (11, .istore_n 2, 1), (12, .iconst 0, 1), (13, .istore_n 3, 1), (14, .iload_n 3, 1), (15, .aload_n 0, 1), (16, .getfield 33, 3), (19, .if_icmp .ge 32, 3), (22, .iload_n 3, 1), (23, .iload_n 1, 1), (24, .if_icmp .eq 21, 3), (27, .aload_n 0, 1), (28, .getfield 18, 3), (31, .iload_n 3, 1), (32, .iaload, 1), (33, .aload_n 0, 1), (34, .getfield 18, 3), (37, .iload_n 1, 1), (38, .iaload, 1), (39, .if_icmp .gt 6, 3), (42, .iinc 2 1, 3), (45, .iinc 3 1, 3), (48, .goto (-34), 3), (51, .iload_n 2, 1), (52, .ireturn, 1)])
set_option maxRecDepth 20000 in
theorem tX1_othersNoWider : ∀ q ∈ mX1_othersNoWider.2, decode mX1_othersNoWider.1.2.2.1 q.1 = .ok q.2 := by decide +kernel
def mX2_faultOf : kw_M := ((RX2, yX2_faultOf, cX2_faultOf, 4, (some .int)), [(0, .aload_n 0, 1), (1, .getfield 12, 3), (4, .iconst 0, 1), (5, .putfield 18, 3), (8, .aload_n 0, 1), (9, .getfield 12, 3), (12, .iconst 0, 1), (13, .putfield 22, 3), (16, .aload_n 0, 1), (17, .iconst 0, 1), (18, .putfield 25, 3), (21, .aload_n 0, 1), (22, .aload_n 1, 1), (23, .iload_n 2, 1), (24, .invokevirtual 28, 3), (27, .aload_n 1, 1), (28, .iload_n 2, 1), (29, .aload_n 0, 1), (30, .getfield 25, 3), (33, .invokevirtual 32, 3), (36, .bipush 119, 2), (38, .if_icmp .eq 8, 3), (41, .aload_n 0, 1), (42, .getfield 25, 3), (45, .ireturn, 1), (46, .aload_n 0, 1), (47, .dup, 1), (48, .getfield 25, 3), (51, .iconst 1, 1), (52, .iadd, 1), (53, .putfield 25, 3), (56, .aload_n 0, 1), (57, .aload_n 1, 1), (58, .iload_n 2, 1), (59, .invokevirtual 38, 3), (62, .aload_n 0, 1), (63, .getfield 12, 3), (66, .getfield 22, 3), (69, .ifCond .ne 8, 3), (72, .aload_n 0, 1), (73, .getfield 25, 3), (76, .ireturn, 1), (77, .iconst 0, 1), (78, .istore_n 3, 1), (79, .iload_n 3, 1), (80, .bipush 6, 2), (82, .if_icmp .gt 54, 3), (85, .aload_n 0, 1), (86, .aload_n 1, 1), (87, .iload_n 2, 1), (88, .invokevirtual 28, 3), (91, .iload_n 3, 1), (92, .ifCond .le 18, 3), (95, .aload_n 0, 1), (96, .getfield 25, 3), (99, .aload_n 1, 1), (100, .iload_n 2, 1), (101, .invokevirtual 41, 3), (104, .if_icmp .lt 6, 3), (107, .bipush (-9), 2), (109, .ireturn, 1), (110, .iload_n 3, 1), (111, .bipush 6, 2), (113, .if_icmp .eq 12, 3), (116, .aload_n 0, 1), (117, .aload_n 1, 1), (118, .iload_n 2, 1), (119, .invokevirtual 45, 3), (122, .ifCond .ne 8, 3), (125, .aload_n 0, 1), (126, .getfield 25, 3), (129, .ireturn, 1), (130, .iinc 3 1, 3), (133, .goto (-54), 3), (136, .aload_n 0, 1), (137, .getfield 25, 3), (140, .ireturn, 1)])
set_option maxRecDepth 20000 in
theorem tX2_faultOf : ∀ q ∈ mX2_faultOf.2, decode mX2_faultOf.1.2.2.1 q.1 = .ok q.2 := by decide +kernel
def mX2_skipBlanks : kw_M := ((RX2, yX2_skipBlanks, cX2_skipBlanks, 4, none), [(0, .iconst 0, 1), (1, .istore_n 3, 1), (2, .iload_n 3, 1), (3, .bipush 60, 2), (5, .if_icmp .ge 33, 3), (8, .aload_n 1, 1), (9, .iload_n 2, 1), (10, .aload_n 0, 1), (11, .getfield 25, 3), (14, .invokevirtual 32, 3), (17, .bipush 32, 2), (19, .if_icmp .ne 19, 3), (22, .aload_n 0, 1), (23, .dup, 1), (24, .getfield 25, 3), (27, .iconst 1, 1), (28, .iadd, 1), (29, .putfield 25, 3), (32, .iinc 3 1, 3), (35, .goto (-33), 3), (38, .return_, 1)])
set_option maxRecDepth 20000 in
theorem tX2_skipBlanks : ∀ q ∈ mX2_skipBlanks.2, decode mX2_skipBlanks.1.2.2.1 q.1 = .ok q.2 := by decide +kernel
def mX2_readWinds : kw_M := ((RX2, yX2_readWinds, cX2_readWinds, 5, none), [(0, .iconst 0, 1), (1, .istore_n 3, 1), (2, .iload_n 3, 1), (3, .bipush 8, 2), (5, .if_icmp .ge 66, 3), (8, .aload_n 1, 1), (9, .iload_n 2, 1), (10, .aload_n 0, 1), (11, .getfield 25, 3), (14, .invokevirtual 32, 3), (17, .bipush 48, 2), (19, .isub, 1), (20, .istore 4, 2), (22, .iload 4, 2), (24, .ifCond .lt 9, 3), (27, .iload 4, 2), (29, .iconst 5, 1), (30, .if_icmp .le 4, 3), (33, .return_, 1), (34, .aload_n 0, 1), (35, .getfield 12, 3), (38, .getfield 49, 3), (41, .iload_n 3, 1), (42, .iload 4, 2), (44, .iastore, 1), (45, .aload_n 0, 1), (46, .getfield 12, 3), (49, .iload_n 3, 1), (50, .iconst 1, 1), (51, .iadd, 1), (52, .putfield 22, 3), (55, .aload_n 0, 1), (56, .dup, 1), (57, .getfield 25, 3), (60, .iconst 1, 1), (61, .iadd, 1), (62, .putfield 25, 3), (65, .iinc 3 1, 3), (68, .goto (-66), 3), (71, .return_, 1)])
set_option maxRecDepth 20000 in
theorem tX2_readWinds : ∀ q ∈ mX2_readWinds.2, decode mX2_readWinds.1.2.2.1 q.1 = .ok q.2 := by decide +kernel
def mX2_readLine : kw_M := ((RX2, yX2_readLine, cX2_readLine, 5, (some .boolean)), [(0, .aload_n 0, 1), (1, .getfield 12, 3), (4, .getfield 18, 3), (7, .istore_n 3, 1), (8, .aload_n 1, 1), (9, .iload_n 2, 1), (10, .aload_n 0, 1), (11, .getfield 25, 3), (14, .invokevirtual 32, 3), (17, .invokestatic 53, 3), (20, .istore 4, 2), (22, .iload_n 3, 1), (23, .ifCond .lt 14, 3), (26, .iload_n 3, 1), (27, .bipush 6, 2), (29, .if_icmp .ge 8, 3), (32, .iload 4, 2), (34, .ifCond .ge 5, 3), (37, .iconst 0, 1), (38, .ireturn, 1), (39, .aload_n 0, 1), (40, .dup, 1), (41, .getfield 25, 3), (44, .iconst 1, 1), (45, .iadd, 1), (46, .putfield 25, 3), (49, .aload_n 0, 1), (50, .getfield 12, 3), (53, .getfield 56, 3), (56, .iload_n 3, 1), (57, .iload 4, 2), (59, .iastore, 1), (60, .aload_n 0, 1), (61, .getfield 12, 3), (64, .getfield 59, 3), (67, .iload_n 3, 1), (68, .aload_n 0, 1), (69, .aload_n 1, 1), (70, .iload_n 2, 1), (71, .iconst 0, 1), (72, .bipush 8, 2), (74, .invokevirtual 62, 3), (77, .iconst 4, 1), (78, .isub, 1), (79, .iastore, 1), (80, .aload_n 0, 1), (81, .getfield 12, 3), (84, .getfield 59, 3), (87, .iload_n 3, 1), (88, .iaload, 1), (89, .bipush (-4), 2), (91, .if_icmp .ge 5, 3), (94, .iconst 0, 1), (95, .ireturn, 1), (96, .aload_n 0, 1), (97, .getfield 12, 3), (100, .getfield 66, 3), (103, .iload_n 3, 1), (104, .aload_n 0, 1), (105, .aload_n 1, 1), (106, .iload_n 2, 1), (107, .iconst 1, 1), (108, .bipush 9, 2), (110, .invokevirtual 62, 3), (113, .iastore, 1), (114, .aload_n 0, 1), (115, .getfield 12, 3), (118, .getfield 66, 3), (121, .iload_n 3, 1), (122, .iaload, 1), (123, .ifCond .ge 5, 3), (126, .iconst 0, 1), (127, .ireturn, 1), (128, .aload_n 0, 1), (129, .getfield 12, 3), (132, .getfield 69, 3), (135, .iload_n 3, 1), (136, .aload_n 0, 1), (137, .aload_n 1, 1), (138, .iload_n 2, 1), (139, .iconst 0, 1), (140, .bipush 9, 2), (142, .invokevirtual 62, 3), (145, .iastore, 1), (146, .aload_n 0, 1), (147, .getfield 12, 3), (150, .getfield 69, 3), (153, .iload_n 3, 1), (154, .iaload, 1), (155, .ifCond .ge 5, 3), (158, .iconst 0, 1), (159, .ireturn, 1), (160, .aload_n 0, 1), (161, .getfield 12, 3), (164, .iload_n 3, 1), (165, .iconst 1, 1), (166, .iadd, 1), (167, .putfield 18, 3), (170, .iconst 1, 1), (171, .ireturn, 1)])
set_option maxRecDepth 20000 in
theorem tX2_readLine : ∀ q ∈ mX2_readLine.2, decode mX2_readLine.1.2.2.1 q.1 = .ok q.2 := by decide +kernel
def mX2_readFigure : kw_M := ((RX2, yX2_readFigure, cX2_readFigure, 6, (some .int)), [(0, .aload_n 1, 1), (1, .iload_n 2, 1), (2, .aload_n 0, 1), (3, .getfield 25, 3), (6, .invokevirtual 32, 3), (9, .bipush 48, 2), (11, .isub, 1), (12, .istore 5, 2), (14, .iload 5, 2), (16, .iload_n 3, 1), (17, .if_icmp .lt 10, 3), (20, .iload 5, 2), (22, .iload 4, 2), (24, .if_icmp .le 5, 3), (27, .iconst (-1), 1), (28, .ireturn, 1), (29, .aload_n 0, 1), (30, .dup, 1), (31, .getfield 25, 3), (34, .iconst 1, 1), (35, .iadd, 1), (36, .putfield 25, 3), (39, .iload 5, 2), (41, .ireturn, 1)])
set_option maxRecDepth 20000 in
theorem tX2_readFigure : ∀ q ∈ mX2_readFigure.2, decode mX2_readFigure.1.2.2.1 q.1 = .ok q.2 := by decide +kernel
def mX2_kindOf : kw_M := ((RX2, yX2_kindOf, cX2_kindOf, 2, (some .int)), [(0, .iconst 0, 1), (1, .istore_n 1, 1), (2, .iload_n 1, 1), (3, .bipush 6, 2), (5, .if_icmp .ge 20, 3), (8, .getstatic 72, 3), (11, .iload_n 1, 1), (12, .iaload, 1), (13, .iload_n 0, 1), (14, .if_icmp .ne 5, 3), (17, .iload_n 1, 1), (18, .ireturn, 1), (19, .iinc 1 1, 3), (22, .goto (-20), 3), (25, .iconst (-1), 1), (26, .ireturn, 1)])
set_option maxRecDepth 20000 in
theorem tX2_kindOf : ∀ q ∈ mX2_kindOf.2, decode mX2_kindOf.1.2.2.1 q.1 = .ok q.2 := by decide +kernel
def mX3_has : kw_M := ((RX3, yX3_has, cX3_has, 2, (some .boolean)), [(0, .iload_n 1, 1), (1, .ifCond .lt 16, 3), (4, .iload_n 1, 1), (5, .aload_n 0, 1), (6, .getfield 20, 3), (9, .arraylength, 1), (10, .if_icmp .ge 7, 3), (13, .iconst 1, 1), (14, .goto 4, 3), (17, .iconst 0, 1), (18, .ireturn, 1)])
set_option maxRecDepth 20000 in
theorem tX3_has : ∀ q ∈ mX3_has.2, decode mX3_has.1.2.2.1 q.1 = .ok q.2 := by decide +kernel
def mX3_isMissing : kw_M := ((RX3, yX3_isMissing, cX3_isMissing, 2, (some .boolean)), [(0, .aload_n 0, 1), (1, .iload_n 1, 1), (2, .invokevirtual 30, 3), (5, .ifCond .ge 7, 3), (8, .iconst 1, 1), (9, .goto 4, 3), (12, .iconst 0, 1), (13, .ireturn, 1)])
set_option maxRecDepth 20000 in
theorem tX3_isMissing : ∀ q ∈ mX3_isMissing.2, decode mX3_isMissing.1.2.2.1 q.1 = .ok q.2 := by decide +kernel
def mX3_sizeOf : kw_M := ((RX3, yX3_sizeOf, cX3_sizeOf, 2, (some .int)), [(0, .aload_n 0, 1), (1, .iload_n 1, 1), (2, .invokevirtual 34, 3), (5, .ifCond .eq 12, 3), (8, .aload_n 0, 1), (9, .getfield 20, 3), (12, .iload_n 1, 1), (13, .iaload, 1), (14, .goto 4, 3), (17, .iconst (-1), 1), (18, .ireturn, 1)])
set_option maxRecDepth 20000 in
theorem tX3_sizeOf : ∀ q ∈ mX3_sizeOf.2, decode mX3_sizeOf.1.2.2.1 q.1 = .ok q.2 := by decide +kernel
def mX3_howMany : kw_M := ((RX3, yX3_howMany, cX3_howMany, 3, (some .int)), [(0, .iconst 0, 1), (1, .istore_n 1, 1), (2, .iconst 0, 1), (3, .istore_n 2, 1), (4, .iload_n 2, 1), (5, .aload_n 0, 1), (6, .getfield 20, 3), (9, .arraylength, 1), (10, .if_icmp .ge 21, 3), (13, .aload_n 0, 1), (14, .getfield 20, 3), (17, .iload_n 2, 1), (18, .iaload, 1), (19, .ifCond .lt 6, 3), (22, .iinc 1 1, 3), (25, .iinc 2 1, 3), (28, .goto (-24), 3), (31, .iload_n 1, 1), (32, .ireturn, 1)])
set_option maxRecDepth 20000 in
theorem tX3_howMany : ∀ q ∈ mX3_howMany.2, decode mX3_howMany.1.2.2.1 q.1 = .ok q.2 := by decide +kernel
def mX3_hasPlaces : kw_M := ((RX3, yX3_hasPlaces, cX3_hasPlaces, 4, (some .boolean)), [(0, .aload_n 0, 1), (1, .iload_n 1, 1), (2, .invokevirtual 34, 3), (5, .ifCond .eq 27, 3), (8, .iload_n 2, 1), (9, .ifCond .lt 23, 3), (12, .iload_n 3, 1), (13, .ifCond .lt 19, 3), (16, .iload_n 2, 1), (17, .aload_n 0, 1), (18, .getfield 20, 3), (21, .iload_n 1, 1), (22, .iaload, 1), (23, .iload_n 3, 1), (24, .isub, 1), (25, .if_icmp .gt 7, 3), (28, .iconst 1, 1), (29, .goto 4, 3), (32, .iconst 0, 1), (33, .ireturn, 1)])
set_option maxRecDepth 20000 in
theorem tX3_hasPlaces : ∀ q ∈ mX3_hasPlaces.2, decode mX3_hasPlaces.1.2.2.1 q.1 = .ok q.2 := by decide +kernel
def mX3_findingAt : kw_M := ((RX3, yX3_findingAt, cX3_findingAt, 3, (some .int)), [(0, .aload_n 0, 1), (1, .iload_n 1, 1), (2, .invokevirtual 38, 3), (5, .ifCond .eq 5, 3), (8, .iconst 1, 1), (9, .ireturn, 1), (10, .aload_n 0, 1), (11, .iload_n 1, 1), (12, .iload_n 2, 1), (13, .iconst 1, 1), (14, .invokevirtual 41, 3), (17, .ifCond .eq 7, 3), (20, .iconst 0, 1), (21, .goto 4, 3), (24, .iconst 2, 1), (25, .ireturn, 1)])
set_option maxRecDepth 20000 in
theorem tX3_findingAt : ∀ q ∈ mX3_findingAt.2, decode mX3_findingAt.1.2.2.1 q.1 = .ok q.2 := by decide +kernel
def mX3_valueAt : kw_M := ((RX3, yX3_valueAt, cX3_valueAt, 3, (some .int)), [(0, .aload_n 0, 1), (1, .iload_n 1, 1), (2, .iload_n 2, 1), (3, .iconst 1, 1), (4, .invokevirtual 41, 3), (7, .ifCond .eq 14, 3), (10, .aload_n 0, 1), (11, .getfield 17, 3), (14, .iload_n 1, 1), (15, .aaload, 1), (16, .iload_n 2, 1), (17, .iaload, 1), (18, .goto 6, 3), (21, .sipush 1000, 3), (24, .ireturn, 1)])
set_option maxRecDepth 20000 in
theorem tX3_valueAt : ∀ q ∈ mX3_valueAt.2, decode mX3_valueAt.1.2.2.1 q.1 = .ok q.2 := by decide +kernel
def mX3_change : kw_M := ((RX3, yX3_change, cX3_change, 4, none), [(0, .aload_n 0, 1), (1, .iload_n 1, 1), (2, .iload_n 2, 1), (3, .iconst 1, 1), (4, .invokevirtual 41, 3), (7, .ifCond .eq 12, 3), (10, .aload_n 0, 1), (11, .getfield 17, 3), (14, .iload_n 1, 1), (15, .aaload, 1), (16, .iload_n 2, 1), (17, .iload_n 3, 1), (18, .iastore, 1), (19, .return_, 1)])
set_option maxRecDepth 20000 in
theorem tX3_change : ∀ q ∈ mX3_change.2, decode mX3_change.1.2.2.1 q.1 = .ok q.2 := by decide +kernel
def mX3_make : kw_M := ((RX3, yX3_make, cX3_make, 4, none), [(0, .aload_n 0, 1), (1, .iload_n 1, 1), (2, .invokevirtual 34, 3), (5, .ifCond .eq 15, 3), (8, .iload_n 2, 1), (9, .ifCond .lt 11, 3), (12, .iload_n 2, 1), (13, .aload_n 0, 1), (14, .getfield 9, 3), (17, .if_icmp .le 4, 3), (20, .return_, 1), (21, .aload_n 0, 1), (22, .getfield 20, 3), (25, .iload_n 1, 1), (26, .iload_n 2, 1), (27, .iastore, 1), (28, .aload_n 0, 1), (29, .getfield 17, 3), (32, .iload_n 1, 1), (33, .aaload, 1), (34, .iload_n 3, 1), (35, .invokestatic 24, 3), (38, .return_, 1)])
set_option maxRecDepth 20000 in
theorem tX3_make : ∀ q ∈ mX3_make.2, decode mX3_make.1.2.2.1 q.1 = .ok q.2 := by decide +kernel
def mX3_drop : kw_M := ((RX3, yX3_drop, cX3_drop, 2, none), [(0, .aload_n 0, 1), (1, .iload_n 1, 1), (2, .invokevirtual 34, 3), (5, .ifCond .eq 10, 3), (8, .aload_n 0, 1), (9, .getfield 20, 3), (12, .iload_n 1, 1), (13, .iconst (-1), 1), (14, .iastore, 1), (15, .return_, 1)])
set_option maxRecDepth 20000 in
theorem tX3_drop : ∀ q ∈ mX3_drop.2, decode mX3_drop.1.2.2.1 q.1 = .ok q.2 := by decide +kernel
def mX3_move : kw_M := ((RX3, yX3_move, cX3_move, 6, none), [(0, .aload_n 0, 1), (1, .iload_n 1, 1), (2, .iload_n 2, 1), (3, .iload 5, 2), (5, .invokevirtual 41, 3), (8, .ifCond .eq 35, 3), (11, .aload_n 0, 1), (12, .iload_n 3, 1), (13, .iload 4, 2), (15, .iload 5, 2), (17, .invokevirtual 41, 3), (20, .ifCond .eq 23, 3), (23, .aload_n 0, 1), (24, .getfield 17, 3), (27, .iload_n 1, 1), (28, .aaload, 1), (29, .iload_n 2, 1), (30, .aload_n 0, 1), (31, .getfield 17, 3), (34, .iload_n 3, 1), (35, .aaload, 1), (36, .iload 4, 2), (38, .iload 5, 2), (40, .invokestatic 45, 3), (43, .return_, 1)])
set_option maxRecDepth 20000 in
theorem tX3_move : ∀ q ∈ mX3_move.2, decode mX3_move.1.2.2.1 q.1 = .ok q.2 := by decide +kernel
def mX3_fold : kw_M := ((RX3, yX3_fold, cX3_fold, 7, (some .long)), [(0, .lload_n 1, 1), (1, .lstore_n 3, 1), (2, .iconst 0, 1), (3, .istore 5, 2), (5, .iload 5, 2), (7, .aload_n 0, 1), (8, .getfield 20, 3), (11, .arraylength, 1), (12, .if_icmp .ge 63, 3), (15, .ldc2_w 51, 3), (18, .lload_n 3, 1), (19, .lmul, 1), (20, .aload_n 0, 1), (21, .getfield 20, 3), (24, .iload 5, 2), (26, .iaload, 1), (27, .i2l, 1), (28, .ladd, 1), (29, .lstore_n 3, 1), (30, .iconst 0, 1), (31, .istore 6, 2), (33, .iload 6, 2), (35, .aload_n 0, 1), (36, .getfield 20, 3), (39, .iload 5, 2), (41, .iaload, 1), (42, .if_icmp .ge 27, 3), (45, .ldc2_w 51, 3), (48, .lload_n 3, 1), (49, .lmul, 1), (50, .aload_n 0, 1), (51, .getfield 17, 3), (54, .iload 5, 2), (56, .aaload, 1), (57, .iload 6, 2), (59, .iaload, 1), (60, .i2l, 1), (61, .ladd, 1), (62, .lstore_n 3, 1), (63, .iinc 6 1, 3), (66, .goto (-33), 3), (69, .iinc 5 1, 3), (72, .goto (-67), 3), (75, .lload_n 3, 1), (76, .lreturn, 1)])
set_option maxRecDepth 20000 in
theorem tX3_fold : ∀ q ∈ mX3_fold.2, decode mX3_fold.1.2.2.1 q.1 = .ok q.2 := by decide +kernel
def mX4_answer : kw_M := ((RX4, yX4_answer, cX4_answer, 2, (some .int)), [(0, .aload_n 0, 1), (1, .iload_n 1, 1), (2, .putfield 19, 3), (5, .iconst 1, 1), (6, .ireturn, 1)])
set_option maxRecDepth 20000 in
theorem tX4_answer : ∀ q ∈ mX4_answer.2, decode mX4_answer.1.2.2.1 q.1 = .ok q.2 := by decide +kernel
def mX4_refuse : kw_M := ((RX4, yX4_refuse, cX4_refuse, 2, (some .int)), [(0, .iload_n 1, 1), (1, .iconst 1, 1), (2, .if_icmp .lt 8, 3), (5, .iload_n 1, 1), (6, .iconst 5, 1), (7, .if_icmp .le 6, 3), (10, .bipush (-3), 2), (12, .ireturn, 1), (13, .aload_n 0, 1), (14, .iload_n 1, 1), (15, .putfield 23, 3), (18, .aload_n 0, 1), (19, .getfield 9, 3), (22, .iload_n 1, 1), (23, .dup2, 1), (24, .iaload, 1), (25, .iconst 1, 1), (26, .iadd, 1), (27, .iastore, 1), (28, .bipush (-3), 2), (30, .ireturn, 1)])
set_option maxRecDepth 20000 in
theorem tX4_refuse : ∀ q ∈ mX4_refuse.2, decode mX4_refuse.1.2.2.1 q.1 = .ok q.2 := by decide +kernel
def mX4_tellWhole : kw_M := ((RX4, yX4_tellWhole, cX4_tellWhole, 3, none), [(0, .aload_n 0, 1), (1, .lload_n 1, 1), (2, .putfield 26, 3), (5, .aload_n 0, 1), (6, .lconst 1, 1), (7, .putfield 15, 3), (10, .return_, 1)])
set_option maxRecDepth 20000 in
theorem tX4_tellWhole : ∀ q ∈ mX4_tellWhole.2, decode mX4_tellWhole.1.2.2.1 q.1 = .ok q.2 := by decide +kernel
def mX4_tellShare : kw_M := ((RX4, yX4_tellShare, cX4_tellShare, 7, none), [(0, .lload_n 1, 1), (1, .invokestatic 29, 3), (4, .lload_n 3, 1), (5, .invokestatic 35, 3), (8, .lstore 5, 2), (10, .lload 5, 2), (12, .lconst 1, 1), (13, .lcmp, 1), (14, .ifCond .ge 6, 3), (17, .lconst 1, 1), (18, .lstore 5, 2), (20, .aload_n 0, 1), (21, .lload_n 1, 1), (22, .lload 5, 2), (24, .ldiv, 1), (25, .putfield 26, 3), (28, .aload_n 0, 1), (29, .lload_n 3, 1), (30, .lload 5, 2), (32, .ldiv, 1), (33, .putfield 15, 3), (36, .return_, 1)])
set_option maxRecDepth 20000 in
theorem tX4_tellShare : ∀ q ∈ mX4_tellShare.2, decode mX4_tellShare.1.2.2.1 q.1 = .ok q.2 := by decide +kernel
def mX4_commonDivisor : kw_M := ((RX4, yX4_commonDivisor, cX4_commonDivisor, 11, (some .long)), [(0, .lload_n 0, 1), (1, .lstore 4, 2), (3, .lload_n 2, 1), (4, .lstore 6, 2), (6, .iconst 0, 1), (7, .istore 8, 2), (9, .iload 8, 2), (11, .bipush 100, 2), (13, .if_icmp .ge 31, 3), (16, .lload 6, 2), (18, .lconst 0, 1), (19, .lcmp, 1), (20, .ifCond .eq 24, 3), (23, .lload 4, 2), (25, .lload 6, 2), (27, .lrem, 1), (28, .lstore 9, 2), (30, .lload 6, 2), (32, .lstore 4, 2), (34, .lload 9, 2), (36, .lstore 6, 2), (38, .iinc 8 1, 3), (41, .goto (-32), 3), (44, .lload 4, 2), (46, .lreturn, 1)])
set_option maxRecDepth 20000 in
theorem tX4_commonDivisor : ∀ q ∈ mX4_commonDivisor.2, decode mX4_commonDivisor.1.2.2.1 q.1 = .ok q.2 := by decide +kernel
def mX5_isEmpty : kw_M := ((RX5, yX5_isEmpty, cX5_isEmpty, 1, (some .boolean)), [(0, .aload_n 0, 1), (1, .getfield 12, 3), (4, .getfield 25, 3), (7, .iconst 1, 1), (8, .if_icmp .ge 7, 3), (11, .iconst 1, 1), (12, .goto 4, 3), (15, .iconst 0, 1), (16, .ireturn, 1)])
set_option maxRecDepth 20000 in
theorem tX5_isEmpty : ∀ q ∈ mX5_isEmpty.2, decode mX5_isEmpty.1.2.2.1 q.1 = .ok q.2 := by decide +kernel
def mX5_isHung : kw_M := ((RX5, yX5_isHung, cX5_isHung, 2, (some .boolean)), [(0, .aload_n 0, 1), (1, .getfield 29, 3), (4, .iload_n 1, 1), (5, .ishr, 1), (6, .iconst 1, 1), (7, .iand, 1), (8, .iconst 1, 1), (9, .if_icmp .ne 7, 3), (12, .iconst 1, 1), (13, .goto 4, 3), (16, .iconst 0, 1), (17, .ireturn, 1)])
set_option maxRecDepth 20000 in
theorem tX5_isHung : ∀ q ∈ mX5_isHung.2, decode mX5_isHung.1.2.2.1 q.1 = .ok q.2 := by decide +kernel
def mX5_hasRoomFor : kw_M := ((RX5, yX5_hasRoomFor, cX5_hasRoomFor, 2, (some .boolean)), [(0, .aload_n 0, 1), (1, .getfield 32, 3), (4, .iload_n 1, 1), (5, .iadd, 1), (6, .bipush 40, 2), (8, .if_icmp .gt 7, 3), (11, .iconst 1, 1), (12, .goto 4, 3), (15, .iconst 0, 1), (16, .ireturn, 1)])
set_option maxRecDepth 20000 in
theorem tX5_hasRoomFor : ∀ q ∈ mX5_hasRoomFor.2, decode mX5_hasRoomFor.1.2.2.1 q.1 = .ok q.2 := by decide +kernel
def mX5_windNow : kw_M := ((RX5, yX5_windNow, cX5_windNow, 1, (some .int)), [(0, .aload_n 0, 1), (1, .getfield 12, 3), (4, .aload_n 0, 1), (5, .getfield 35, 3), (8, .invokevirtual 38, 3), (11, .ireturn, 1)])
set_option maxRecDepth 20000 in
theorem tX5_windNow : ∀ q ∈ mX5_windNow.2, decode mX5_windNow.1.2.2.1 q.1 = .ok q.2 := by decide +kernel
def mX5_windAhead : kw_M := ((RX5, yX5_windAhead, cX5_windAhead, 2, (some .int)), [(0, .aload_n 0, 1), (1, .getfield 12, 3), (4, .aload_n 0, 1), (5, .getfield 35, 3), (8, .iload_n 1, 1), (9, .iadd, 1), (10, .invokevirtual 38, 3), (13, .ireturn, 1)])
set_option maxRecDepth 20000 in
theorem tX5_windAhead : ∀ q ∈ mX5_windAhead.2, decode mX5_windAhead.1.2.2.1 q.1 = .ok q.2 := by decide +kernel
def mX5_allWet : kw_M := ((RX5, yX5_allWet, cX5_allWet, 3, (some .int)), [(0, .iconst 0, 1), (1, .istore_n 1, 1), (2, .iconst 0, 1), (3, .istore_n 2, 1), (4, .iload_n 2, 1), (5, .aload_n 0, 1), (6, .getfield 12, 3), (9, .getfield 25, 3), (12, .if_icmp .ge 18, 3), (15, .iload_n 1, 1), (16, .aload_n 0, 1), (17, .getfield 22, 3), (20, .iload_n 2, 1), (21, .iaload, 1), (22, .iadd, 1), (23, .istore_n 1, 1), (24, .iinc 2 1, 3), (27, .goto (-23), 3), (30, .iload_n 1, 1), (31, .ireturn, 1)])
set_option maxRecDepth 20000 in
theorem tX5_allWet : ∀ q ∈ mX5_allWet.2, decode mX5_allWet.1.2.2.1 q.1 = .ok q.2 := by decide +kernel
def mX5_hoursToStorm : kw_M := ((RX5, yX5_hoursToStorm, cX5_hoursToStorm, 2, (some .int)), [(0, .iconst 0, 1), (1, .istore_n 1, 1), (2, .iload_n 1, 1), (3, .bipush 8, 2), (5, .if_icmp .ge 20, 3), (8, .aload_n 0, 1), (9, .iload_n 1, 1), (10, .invokevirtual 42, 3), (13, .iconst 3, 1), (14, .if_icmp .lt 5, 3), (17, .iload_n 1, 1), (18, .ireturn, 1), (19, .iinc 1 1, 3), (22, .goto (-20), 3), (25, .bipush (-9), 2), (27, .ireturn, 1)])
set_option maxRecDepth 20000 in
theorem tX5_hoursToStorm : ∀ q ∈ mX5_hoursToStorm.2, decode mX5_hoursToStorm.1.2.2.1 q.1 = .ok q.2 := by decide +kernel
def mX5_trait : kw_M := ((RX5, yX5_trait, cX5_trait, 3, (some .int)), [(0, .aload_n 0, 1), (1, .getfield 12, 3), (4, .iload_n 1, 1), (5, .invokevirtual 45, 3), (8, .ifCond .ne 5, 3), (11, .iconst 0, 1), (12, .ireturn, 1), (13, .iload_n 2, 1), (14, .tableswitch 99 0 5 #[38, 48, 58, 68, 78, 92], 38), (52, .aload_n 0, 1), (53, .getfield 12, 3), (56, .getfield 49, 3), (59, .iload_n 1, 1), (60, .iaload, 1), (61, .ireturn, 1), (62, .aload_n 0, 1), (63, .getfield 12, 3), (66, .getfield 52, 3), (69, .iload_n 1, 1), (70, .iaload, 1), (71, .ireturn, 1), (72, .aload_n 0, 1), (73, .getfield 12, 3), (76, .getfield 55, 3), (79, .iload_n 1, 1), (80, .iaload, 1), (81, .ireturn, 1), (82, .aload_n 0, 1), (83, .getfield 12, 3), (86, .getfield 58, 3), (89, .iload_n 1, 1), (90, .iaload, 1), (91, .ireturn, 1), (92, .aload_n 0, 1), (93, .iload_n 1, 1), (94, .invokevirtual 61, 3), (97, .ifCond .eq 7, 3), (100, .iconst 1, 1), (101, .goto 4, 3), (104, .iconst 0, 1), (105, .ireturn, 1), (106, .aload_n 0, 1), (107, .getfield 22, 3), (110, .iload_n 1, 1), (111, .iaload, 1), (112, .ireturn, 1), (113, .aload_n 0, 1), (114, .getfield 12, 3), (117, .iload_n 1, 1), (118, .aload_n 0, 1), (119, .invokevirtual 64, 3), (122, .invokevirtual 68, 3), (125, .ireturn, 1)])
set_option maxRecDepth 20000 in
theorem tX5_trait : ∀ q ∈ mX5_trait.2, decode mX5_trait.1.2.2.1 q.1 = .ok q.2 := by decide +kernel
def mX5_act : kw_M := ((RX5, yX5_act, cX5_act, 2, none), [(0, .aload_n 0, 1), (1, .iconst 1, 1), (2, .invokevirtual 72, 3), (5, .ifCond .ne 4, 3), (8, .return_, 1), (9, .aload_n 0, 1), (10, .getfield 18, 3), (13, .aload_n 0, 1), (14, .getfield 32, 3), (17, .iload_n 1, 1), (18, .iastore, 1), (19, .aload_n 0, 1), (20, .dup, 1), (21, .getfield 32, 3), (24, .iconst 1, 1), (25, .iadd, 1), (26, .putfield 32, 3), (29, .iload_n 1, 1), (30, .bipush 6, 2), (32, .if_icmp .ne 10, 3), (35, .aload_n 0, 1), (36, .invokevirtual 75, 3), (39, .goto 15, 3), (42, .aload_n 0, 1), (43, .dup, 1), (44, .getfield 29, 3), (47, .iconst 1, 1), (48, .iload_n 1, 1), (49, .ishl, 1), (50, .ixor, 1), (51, .putfield 29, 3), (54, .return_, 1)])
set_option maxRecDepth 20000 in
theorem tX5_act : ∀ q ∈ mX5_act.2, decode mX5_act.1.2.2.1 q.1 = .ok q.2 := by decide +kernel
def mX5_passHour : kw_M := ((RX5, yX5_passHour, cX5_passHour, 2, none), [(0, .aload_n 0, 1), (1, .invokevirtual 64, 3), (4, .istore_n 1, 1), (5, .aload_n 0, 1), (6, .dup, 1), (7, .getfield 78, 3), (10, .aload_n 0, 1), (11, .getfield 12, 3), (14, .aload_n 0, 1), (15, .getfield 29, 3), (18, .iload_n 1, 1), (19, .invokevirtual 81, 3), (22, .iadd, 1), (23, .putfield 78, 3), (26, .aload_n 0, 1), (27, .dup, 1), (28, .getfield 84, 3), (31, .aload_n 0, 1), (32, .getfield 12, 3), (35, .aload_n 0, 1), (36, .getfield 29, 3), (39, .iload_n 1, 1), (40, .invokevirtual 87, 3), (43, .iadd, 1), (44, .putfield 84, 3), (47, .aload_n 0, 1), (48, .getfield 22, 3), (51, .aload_n 0, 1), (52, .getfield 29, 3), (55, .iload_n 1, 1), (56, .invokestatic 90, 3), (59, .aload_n 0, 1), (60, .dup, 1), (61, .getfield 35, 3), (64, .iconst 1, 1), (65, .iadd, 1), (66, .putfield 35, 3), (69, .return_, 1)])
set_option maxRecDepth 20000 in
theorem tX5_passHour : ∀ q ∈ mX5_passHour.2, decode mX5_passHour.1.2.2.1 q.1 = .ok q.2 := by decide +kernel
def mX5_replay : kw_M := ((RX5, yX5_replay, cX5_replay, 3, none), [(0, .aload_n 0, 1), (1, .getfield 22, 3), (4, .iconst 0, 1), (5, .invokestatic 94, 3), (8, .aload_n 0, 1), (9, .iconst 0, 1), (10, .putfield 32, 3), (13, .aload_n 0, 1), (14, .iconst 0, 1), (15, .putfield 29, 3), (18, .aload_n 0, 1), (19, .iconst 0, 1), (20, .putfield 35, 3), (23, .aload_n 0, 1), (24, .iconst 0, 1), (25, .putfield 78, 3), (28, .aload_n 0, 1), (29, .iconst 0, 1), (30, .putfield 84, 3), (33, .iconst 0, 1), (34, .istore_n 2, 1), (35, .iload_n 2, 1), (36, .iload_n 1, 1), (37, .if_icmp .ge 25, 3), (40, .iload_n 2, 1), (41, .bipush 40, 2), (43, .if_icmp .ge 19, 3), (46, .aload_n 0, 1), (47, .aload_n 0, 1), (48, .getfield 18, 3), (51, .iload_n 2, 1), (52, .iaload, 1), (53, .invokevirtual 100, 3), (56, .iinc 2 1, 3), (59, .goto (-24), 3), (62, .return_, 1)])
set_option maxRecDepth 20000 in
theorem tX5_replay : ∀ q ∈ mX5_replay.2, decode mX5_replay.1.2.2.1 q.1 = .ok q.2 := by decide +kernel
def mX6_find : kw_M := ((RX6, yX6_find, cX6_find, 6, (some .boolean)), [(0, .aload_n 0, 1), (1, .iload_n 2, 1), (2, .iconst 3, 1), (3, .invokestatic 28, 3), (6, .putfield 34, 3), (9, .aload_n 0, 1), (10, .iload_n 3, 1), (11, .putfield 38, 3), (14, .aload_n 0, 1), (15, .iconst 0, 1), (16, .putfield 41, 3), (19, .aload_n 0, 1), (20, .getfield 21, 3), (23, .aload_n 0, 1), (24, .getfield 34, 3), (27, .iconst 0, 1), (28, .iastore, 1), (29, .aload_n 0, 1), (30, .getfield 34, 3), (33, .iconst 1, 1), (34, .isub, 1), (35, .istore 4, 2), (37, .iload 4, 2), (39, .ifCond .lt 66, 3), (42, .aload_n 1, 1), (43, .iload 4, 2), (45, .invokevirtual 45, 3), (48, .istore 5, 2), (50, .aload_n 0, 1), (51, .getfield 17, 3), (54, .iload 4, 2), (56, .aaload, 1), (57, .aload_n 1, 1), (58, .getfield 51, 3), (61, .iload 5, 2), (63, .invokevirtual 55, 3), (66, .aload_n 0, 1), (67, .getfield 21, 3), (70, .iload 4, 2), (72, .aload_n 0, 1), (73, .getfield 21, 3), (76, .iload 4, 2), (78, .iconst 1, 1), (79, .iadd, 1), (80, .iaload, 1), (81, .aload_n 1, 1), (82, .getfield 51, 3), (85, .aload_n 1, 1), (86, .getfield 51, 3), (89, .invokevirtual 59, 3), (92, .iload 5, 2), (94, .invokevirtual 65, 3), (97, .iadd, 1), (98, .iastore, 1), (99, .iinc 4 (-1), 3), (102, .goto (-65), 3), (105, .aload_n 0, 1), (106, .iconst 0, 1), (107, .aload_n 1, 1), (108, .getfield 68, 3), (111, .aload_n 1, 1), (112, .getfield 71, 3), (115, .invokevirtual 74, 3), (118, .aload_n 0, 1), (119, .getfield 41, 3), (122, .ireturn, 1)])
set_option maxRecDepth 20000 in
theorem tX6_find : ∀ q ∈ mX6_find.2, decode mX6_find.1.2.2.1 q.1 = .ok q.2 := by decide +kernel
def mX6_sailFrom : kw_M := ((RX6, yX6_sailFrom, cX6_sailFrom, 8, none), [(0, .iload_n 1, 1), (1, .aload_n 0, 1), (2, .getfield 34, 3), (5, .if_icmp .ge 8, 3), (8, .iload_n 1, 1), (9, .iconst 3, 1), (10, .if_icmp .lt 28, 3), (13, .aload_n 0, 1), (14, .iconst 1, 1), (15, .putfield 41, 3), (18, .aload_n 0, 1), (19, .iload_n 2, 1), (20, .putfield 78, 3), (23, .aload_n 0, 1), (24, .getfield 24, 3), (27, .iconst 0, 1), (28, .aload_n 0, 1), (29, .getfield 9, 3), (32, .iconst 0, 1), (33, .iconst 3, 1), (34, .invokestatic 81, 3), (37, .return_, 1), (38, .aload_n 0, 1), (39, .getfield 17, 3), (42, .iload_n 1, 1), (43, .aaload, 1), (44, .astore 4, 2), (46, .iconst 0, 1), (47, .istore 5, 2), (49, .iload 5, 2), (51, .aload 4, 2), (53, .getfield 87, 3), (56, .if_icmp .ge 100, 3), (59, .iload_n 2, 1), (60, .aload 4, 2), (62, .iload 5, 2), (64, .invokevirtual 90, 3), (67, .iadd, 1), (68, .istore 6, 2), (70, .aload_n 0, 1), (71, .getfield 41, 3), (74, .ifCond .eq 24, 3), (77, .iload 6, 2), (79, .aload_n 0, 1), (80, .getfield 21, 3), (83, .iload_n 1, 1), (84, .iconst 1, 1), (85, .iadd, 1), (86, .iaload, 1), (87, .iadd, 1), (88, .aload_n 0, 1), (89, .getfield 78, 3), (92, .if_icmp .gt 6, 3), (95, .goto 55, 3), (98, .iload_n 3, 1), (99, .aload 4, 2), (101, .iload 5, 2), (103, .invokevirtual 93, 3), (106, .iadd, 1), (107, .istore 7, 2), (109, .iload 7, 2), (111, .aload_n 0, 1), (112, .getfield 38, 3), (115, .if_icmp .gt 35, 3), (118, .iload 7, 2), (120, .aload_n 0, 1), (121, .getfield 38, 3), (124, .ineg, 1), (125, .if_icmp .ge 6, 3), (128, .goto 22, 3), (131, .aload_n 0, 1), (132, .getfield 24, 3), (135, .iload_n 1, 1), (136, .iload 5, 2), (138, .iastore, 1), (139, .aload_n 0, 1), (140, .iload_n 1, 1), (141, .iconst 1, 1), (142, .iadd, 1), (143, .iload 6, 2), (145, .iload 7, 2), (147, .invokevirtual 74, 3), (150, .iinc 5 1, 3), (153, .goto (-104), 3), (156, .return_, 1)])
set_option maxRecDepth 20000 in
theorem tX6_sailFrom : ∀ q ∈ mX6_sailFrom.2, decode mX6_sailFrom.1.2.2.1 q.1 = .ok q.2 := by decide +kernel
def mX7_row : kw_M := ((RX7, yX7_row, cX7_row, 3, (some .int)), [(0, .aload_n 0, 1), (1, .aload_n 0, 1), (2, .getfield 14, 3), (5, .iload_n 1, 1), (6, .iload_n 2, 1), (7, .iconst 0, 1), (8, .invokevirtual 69, 3), (11, .ireturn, 1)])
set_option maxRecDepth 20000 in
theorem tX7_row : ∀ q ∈ mX7_row.2, decode mX7_row.1.2.2.1 q.1 = .ok q.2 := by decide +kernel
def mX7_lay : kw_M := ((RX7, yX7_lay, cX7_lay, 6, (some .int)), [(0, .aload_n 0, 1), (1, .getfield 14, 3), (4, .iload_n 1, 1), (5, .invokevirtual 73, 3), (8, .ifCond .ne 5, 3), (11, .iconst (-1), 1), (12, .ireturn, 1), (13, .aload_n 0, 1), (14, .getfield 14, 3), (17, .iload_n 1, 1), (18, .iload_n 2, 1), (19, .invokevirtual 77, 3), (22, .istore 4, 2), (24, .iload 4, 2), (26, .ifCond .eq 13, 3), (29, .aload_n 0, 1), (30, .getfield 55, 3), (33, .iload 4, 2), (35, .invokevirtual 81, 3), (38, .ireturn, 1), (39, .aload_n 0, 1), (40, .getfield 14, 3), (43, .iload_n 1, 1), (44, .iload_n 2, 1), (45, .invokevirtual 85, 3), (48, .istore 5, 2), (50, .aload_n 0, 1), (51, .getfield 14, 3), (54, .iload_n 1, 1), (55, .iload_n 2, 1), (56, .iload_n 3, 1), (57, .invokevirtual 88, 3), (60, .aload_n 0, 1), (61, .getfield 55, 3), (64, .iload 5, 2), (66, .invokevirtual 92, 3), (69, .ireturn, 1)])
set_option maxRecDepth 20000 in
theorem tX7_lay : ∀ q ∈ mX7_lay.2, decode mX7_lay.1.2.2.1 q.1 = .ok q.2 := by decide +kernel
def mX7_at : kw_M := ((RX7, yX7_at, cX7_at, 4, (some .int)), [(0, .aload_n 0, 1), (1, .getfield 14, 3), (4, .iload_n 1, 1), (5, .invokevirtual 73, 3), (8, .ifCond .ne 5, 3), (11, .iconst (-1), 1), (12, .ireturn, 1), (13, .aload_n 0, 1), (14, .getfield 14, 3), (17, .iload_n 1, 1), (18, .iload_n 2, 1), (19, .invokevirtual 77, 3), (22, .istore_n 3, 1), (23, .iload_n 3, 1), (24, .ifCond .eq 12, 3), (27, .aload_n 0, 1), (28, .getfield 55, 3), (31, .iload_n 3, 1), (32, .invokevirtual 81, 3), (35, .ireturn, 1), (36, .aload_n 0, 1), (37, .getfield 55, 3), (40, .aload_n 0, 1), (41, .getfield 14, 3), (44, .iload_n 1, 1), (45, .iload_n 2, 1), (46, .invokevirtual 85, 3), (49, .invokevirtual 92, 3), (52, .ireturn, 1)])
set_option maxRecDepth 20000 in
theorem tX7_at : ∀ q ∈ mX7_at.2, decode mX7_at.1.2.2.1 q.1 = .ok q.2 := by decide +kernel
def mX7_tear : kw_M := ((RX7, yX7_tear, cX7_tear, 2, (some .int)), [(0, .aload_n 0, 1), (1, .getfield 14, 3), (4, .iload_n 1, 1), (5, .invokevirtual 73, 3), (8, .ifCond .ne 5, 3), (11, .iconst (-1), 1), (12, .ireturn, 1), (13, .aload_n 0, 1), (14, .getfield 14, 3), (17, .iload_n 1, 1), (18, .invokevirtual 95, 3), (21, .ifCond .eq 12, 3), (24, .aload_n 0, 1), (25, .getfield 55, 3), (28, .iconst 1, 1), (29, .invokevirtual 81, 3), (32, .ireturn, 1), (33, .aload_n 0, 1), (34, .getfield 14, 3), (37, .iload_n 1, 1), (38, .invokevirtual 98, 3), (41, .iconst 1, 1), (42, .ireturn, 1)])
set_option maxRecDepth 20000 in
theorem tX7_tear : ∀ q ∈ mX7_tear.2, decode mX7_tear.1.2.2.1 q.1 = .ok q.2 := by decide +kernel
def mX7_copy : kw_M := ((RX7, yX7_copy, cX7_copy, 6, (some .int)), [(0, .aload_n 0, 1), (1, .getfield 14, 3), (4, .iload_n 1, 1), (5, .invokevirtual 73, 3), (8, .ifCond .eq 14, 3), (11, .aload_n 0, 1), (12, .getfield 14, 3), (15, .iload_n 3, 1), (16, .invokevirtual 73, 3), (19, .ifCond .ne 5, 3), (22, .iconst (-1), 1), (23, .ireturn, 1), (24, .iload 5, 2), (26, .ifCond .ge 12, 3), (29, .aload_n 0, 1), (30, .getfield 55, 3), (33, .iconst 5, 1), (34, .invokevirtual 81, 3), (37, .ireturn, 1), (38, .aload_n 0, 1), (39, .getfield 14, 3), (42, .iload_n 1, 1), (43, .invokevirtual 95, 3), (46, .ifCond .ne 14, 3), (49, .aload_n 0, 1), (50, .getfield 14, 3), (53, .iload_n 3, 1), (54, .invokevirtual 95, 3), (57, .ifCond .eq 12, 3), (60, .aload_n 0, 1), (61, .getfield 55, 3), (64, .iconst 1, 1), (65, .invokevirtual 81, 3), (68, .ireturn, 1), (69, .aload_n 0, 1), (70, .getfield 14, 3), (73, .iload_n 1, 1), (74, .iload_n 2, 1), (75, .iload 5, 2), (77, .invokevirtual 102, 3), (80, .ifCond .eq 18, 3), (83, .aload_n 0, 1), (84, .getfield 14, 3), (87, .iload_n 3, 1), (88, .iload 4, 2), (90, .iload 5, 2), (92, .invokevirtual 102, 3), (95, .ifCond .ne 12, 3), (98, .aload_n 0, 1), (99, .getfield 55, 3), (102, .iconst 2, 1), (103, .invokevirtual 81, 3), (106, .ireturn, 1), (107, .aload_n 0, 1), (108, .getfield 14, 3), (111, .iload_n 1, 1), (112, .iload_n 2, 1), (113, .iload_n 3, 1), (114, .iload 4, 2), (116, .iload 5, 2), (118, .invokevirtual 106, 3), (121, .iconst 1, 1), (122, .ireturn, 1)])
set_option maxRecDepth 20000 in
theorem tX7_copy : ∀ q ∈ mX7_copy.2, decode mX7_copy.1.2.2.1 q.1 = .ok q.2 := by decide +kernel
def mX7_mean : kw_M := ((RX7, yX7_mean, cX7_mean, 6, (some .int)), [(0, .aload_n 0, 1), (1, .getfield 14, 3), (4, .iload_n 1, 1), (5, .invokevirtual 73, 3), (8, .ifCond .ne 5, 3), (11, .iconst (-1), 1), (12, .ireturn, 1), (13, .aload_n 0, 1), (14, .getfield 14, 3), (17, .iload_n 1, 1), (18, .invokevirtual 95, 3), (21, .ifCond .eq 12, 3), (24, .aload_n 0, 1), (25, .getfield 55, 3), (28, .iconst 1, 1), (29, .invokevirtual 81, 3), (32, .ireturn, 1), (33, .aload_n 0, 1), (34, .getfield 14, 3), (37, .iload_n 1, 1), (38, .invokevirtual 110, 3), (41, .istore_n 2, 1), (42, .iload_n 2, 1), (43, .iconst 1, 1), (44, .if_icmp .ge 12, 3), (47, .aload_n 0, 1), (48, .getfield 55, 3), (51, .iconst 4, 1), (52, .invokevirtual 81, 3), (55, .ireturn, 1), (56, .lconst 0, 1), (57, .lstore_n 3, 1), (58, .iconst 0, 1), (59, .istore 5, 2), (61, .iload 5, 2), (63, .iload_n 2, 1), (64, .if_icmp .ge 23, 3), (67, .lload_n 3, 1), (68, .aload_n 0, 1), (69, .getfield 14, 3), (72, .iload_n 1, 1), (73, .iload 5, 2), (75, .invokevirtual 85, 3), (78, .i2l, 1), (79, .ladd, 1), (80, .lstore_n 3, 1), (81, .iinc 5 1, 3), (84, .goto (-23), 3), (87, .aload_n 0, 1), (88, .getfield 55, 3), (91, .lload_n 3, 1), (92, .iload_n 2, 1), (93, .i2l, 1), (94, .ldiv, 1), (95, .l2i, 1), (96, .invokevirtual 92, 3), (99, .ireturn, 1)])
set_option maxRecDepth 20000 in
theorem tX7_mean : ∀ q ∈ mX7_mean.2, decode mX7_mean.1.2.2.1 q.1 = .ok q.2 := by decide +kernel
def mX7_text : kw_M := ((RX7, yX7_text, cX7_text, 3, (some .int)), [(0, .aload_n 0, 1), (1, .aload_n 0, 1), (2, .getfield 18, 3), (5, .iload_n 1, 1), (6, .iload_n 2, 1), (7, .bipush 32, 2), (9, .invokevirtual 69, 3), (12, .ireturn, 1)])
set_option maxRecDepth 20000 in
theorem tX7_text : ∀ q ∈ mX7_text.2, decode mX7_text.1.2.2.1 q.1 = .ok q.2 := by decide +kernel
def mX7_put : kw_M := ((RX7, yX7_put, cX7_put, 6, (some .int)), [(0, .aload_n 0, 1), (1, .getfield 18, 3), (4, .iload_n 1, 1), (5, .invokevirtual 73, 3), (8, .ifCond .ne 5, 3), (11, .iconst (-1), 1), (12, .ireturn, 1), (13, .aload_n 0, 1), (14, .getfield 18, 3), (17, .iload_n 1, 1), (18, .iload_n 2, 1), (19, .invokevirtual 77, 3), (22, .istore 4, 2), (24, .iload 4, 2), (26, .ifCond .eq 13, 3), (29, .aload_n 0, 1), (30, .getfield 55, 3), (33, .iload 4, 2), (35, .invokevirtual 81, 3), (38, .ireturn, 1), (39, .aload_n 0, 1), (40, .getfield 18, 3), (43, .iload_n 1, 1), (44, .iload_n 2, 1), (45, .invokevirtual 85, 3), (48, .istore 5, 2), (50, .aload_n 0, 1), (51, .getfield 18, 3), (54, .iload_n 1, 1), (55, .iload_n 2, 1), (56, .iload_n 3, 1), (57, .i2b, 1), (58, .invokevirtual 88, 3), (61, .iload 5, 2), (63, .sipush 1000, 3), (66, .iadd, 1), (67, .ireturn, 1)])
set_option maxRecDepth 20000 in
theorem tX7_put : ∀ q ∈ mX7_put.2, decode mX7_put.1.2.2.1 q.1 = .ok q.2 := by decide +kernel
def mX7_fault : kw_M := ((RX7, yX7_fault, cX7_fault, 2, (some .int)), [(0, .aload_n 0, 1), (1, .getfield 18, 3), (4, .iload_n 1, 1), (5, .invokevirtual 73, 3), (8, .ifCond .ne 5, 3), (11, .iconst (-1), 1), (12, .ireturn, 1), (13, .aload_n 0, 1), (14, .getfield 18, 3), (17, .iload_n 1, 1), (18, .invokevirtual 95, 3), (21, .ifCond .eq 12, 3), (24, .aload_n 0, 1), (25, .getfield 55, 3), (28, .iconst 1, 1), (29, .invokevirtual 81, 3), (32, .ireturn, 1), (33, .aload_n 0, 1), (34, .getfield 24, 3), (37, .aload_n 0, 1), (38, .getfield 18, 3), (41, .iload_n 1, 1), (42, .invokevirtual 113, 3), (45, .ireturn, 1)])
set_option maxRecDepth 20000 in
theorem tX7_fault : ∀ q ∈ mX7_fault.2, decode mX7_fault.1.2.2.1 q.1 = .ok q.2 := by decide +kernel
def mX7_town : kw_M := ((RX7, yX7_town, cX7_town, 3, (some .int)), [(0, .aload_n 0, 1), (1, .getfield 18, 3), (4, .iload_n 1, 1), (5, .invokevirtual 73, 3), (8, .ifCond .ne 5, 3), (11, .iconst (-1), 1), (12, .ireturn, 1), (13, .aload_n 0, 1), (14, .getfield 18, 3), (17, .iload_n 1, 1), (18, .invokevirtual 95, 3), (21, .ifCond .eq 12, 3), (24, .aload_n 0, 1), (25, .getfield 55, 3), (28, .iconst 1, 1), (29, .invokevirtual 81, 3), (32, .ireturn, 1), (33, .aload_n 0, 1), (34, .getfield 24, 3), (37, .aload_n 0, 1), (38, .getfield 18, 3), (41, .iload_n 1, 1), (42, .invokevirtual 113, 3), (45, .bipush (-9), 2), (47, .if_icmp .eq 6, 3), (50, .bipush (-4), 2), (52, .ireturn, 1), (53, .aload_n 0, 1), (54, .getfield 31, 3), (57, .getfield 117, 3), (60, .aload_n 0, 1), (61, .getfield 24, 3), (64, .getfield 121, 3), (67, .invokevirtual 124, 3), (70, .aload_n 0, 1), (71, .getfield 31, 3), (74, .iconst 0, 1), (75, .invokevirtual 130, 3), (78, .iconst 0, 1), (79, .istore_n 2, 1), (80, .iload_n 2, 1), (81, .iconst 3, 1), (82, .if_icmp .ge 17, 3), (85, .aload_n 0, 1), (86, .getfield 35, 3), (89, .iload_n 2, 1), (90, .invokevirtual 98, 3), (93, .iinc 2 1, 3), (96, .goto (-16), 3), (99, .aload_n 0, 1), (100, .getfield 31, 3), (103, .getfield 117, 3), (106, .getfield 133, 3), (109, .ireturn, 1)])
set_option maxRecDepth 20000 in
theorem tX7_town : ∀ q ∈ mX7_town.2, decode mX7_town.1.2.2.1 q.1 = .ok q.2 := by decide +kernel
def mX7_line : kw_M := ((RX7, yX7_line, cX7_line, 3, (some .int)), [(0, .aload_n 0, 1), (1, .getfield 31, 3), (4, .getfield 117, 3), (7, .iload_n 1, 1), (8, .invokevirtual 137, 3), (11, .ifCond .eq 13, 3), (14, .iload_n 2, 1), (15, .ifCond .lt 9, 3), (18, .iload_n 2, 1), (19, .bipush 6, 2), (21, .if_icmp .le 5, 3), (24, .iconst (-1), 1), (25, .ireturn, 1), (26, .aload_n 0, 1), (27, .getfield 55, 3), (30, .aload_n 0, 1), (31, .getfield 31, 3), (34, .iload_n 1, 1), (35, .iload_n 2, 1), (36, .invokevirtual 140, 3), (39, .invokevirtual 92, 3), (42, .ireturn, 1)])
set_option maxRecDepth 20000 in
theorem tX7_line : ∀ q ∈ mX7_line.2, decode mX7_line.1.2.2.1 q.1 = .ok q.2 := by decide +kernel
def mX7_mark : kw_M := ((RX7, yX7_mark, cX7_mark, 4, (some .int)), [(0, .aload_n 0, 1), (1, .getfield 31, 3), (4, .getfield 117, 3), (7, .astore_n 3, 1), (8, .aload_n 3, 1), (9, .iload_n 1, 1), (10, .invokevirtual 137, 3), (13, .ifCond .eq 13, 3), (16, .iload_n 2, 1), (17, .ifCond .le 9, 3), (20, .iload_n 2, 1), (21, .bipush 6, 2), (23, .if_icmp .lt 5, 3), (26, .iconst (-1), 1), (27, .ireturn, 1), (28, .aload_n 3, 1), (29, .getfield 143, 3), (32, .iload_n 1, 1), (33, .iaload, 1), (34, .iload_n 2, 1), (35, .invokestatic 146, 3), (38, .ifCond .ne 12, 3), (41, .aload_n 0, 1), (42, .getfield 55, 3), (45, .iconst 3, 1), (46, .invokevirtual 81, 3), (49, .ireturn, 1), (50, .iload_n 2, 1), (51, .tableswitch 67 1 4 #[29, 36, 44, 61], 29), (80, .aload_n 3, 1), (81, .iload_n 1, 1), (82, .iconst 5, 1), (83, .invokevirtual 150, 3), (86, .ireturn, 1), (87, .aload_n 0, 1), (88, .getfield 31, 3), (91, .invokevirtual 153, 3), (94, .ireturn, 1), (95, .aload_n 0, 1), (96, .getfield 31, 3), (99, .getfield 157, 3), (102, .iconst 1, 1), (103, .iload_n 1, 1), (104, .ishl, 1), (105, .iconst (-1), 1), (106, .ixor, 1), (107, .iand, 1), (108, .invokestatic 160, 3), (111, .ireturn, 1), (112, .aload_n 3, 1), (113, .iload_n 1, 1), (114, .invokevirtual 165, 3), (117, .ireturn, 1), (118, .iconst 4, 1), (119, .aload_n 3, 1), (120, .getfield 168, 3), (123, .iload_n 1, 1), (124, .iaload, 1), (125, .aload_n 0, 1), (126, .getfield 31, 3), (129, .invokevirtual 171, 3), (132, .invokestatic 174, 3), (135, .aload_n 3, 1), (136, .iload_n 1, 1), (137, .aload_n 0, 1), (138, .getfield 31, 3), (141, .invokevirtual 171, 3), (144, .invokevirtual 150, 3), (147, .isub, 1), (148, .ireturn, 1)])
set_option maxRecDepth 20000 in
theorem tX7_mark : ∀ q ∈ mX7_mark.2, decode mX7_mark.1.2.2.1 q.1 = .ok q.2 := by decide +kernel
def mX7_wind : kw_M := ((RX7, yX7_wind, cX7_wind, 2, (some .int)), [(0, .iload_n 1, 1), (1, .ifCond .lt 10, 3), (4, .iload_n 1, 1), (5, .sipush 999, 3), (8, .if_icmp .le 5, 3), (11, .iconst (-1), 1), (12, .ireturn, 1), (13, .aload_n 0, 1), (14, .getfield 31, 3), (17, .invokevirtual 178, 3), (20, .ifCond .eq 6, 3), (23, .bipush (-4), 2), (25, .ireturn, 1), (26, .aload_n 0, 1), (27, .getfield 31, 3), (30, .getfield 117, 3), (33, .iload_n 1, 1), (34, .invokevirtual 182, 3), (37, .ireturn, 1)])
set_option maxRecDepth 20000 in
theorem tX7_wind : ∀ q ∈ mX7_wind.2, decode mX7_wind.1.2.2.1 q.1 = .ok q.2 := by decide +kernel
def mX7_hang : kw_M := ((RX7, yX7_hang, cX7_hang, 2, (some .int)), [(0, .aload_n 0, 1), (1, .getfield 31, 3), (4, .getfield 117, 3), (7, .iload_n 1, 1), (8, .invokevirtual 137, 3), (11, .ifCond .ne 5, 3), (14, .iconst (-1), 1), (15, .ireturn, 1), (16, .aload_n 0, 1), (17, .getfield 31, 3), (20, .iload_n 1, 1), (21, .invokevirtual 185, 3), (24, .ifCond .eq 6, 3), (27, .bipush (-4), 2), (29, .ireturn, 1), (30, .aload_n 0, 1), (31, .getfield 31, 3), (34, .iconst 1, 1), (35, .invokevirtual 188, 3), (38, .ifCond .ne 6, 3), (41, .bipush (-2), 2), (43, .ireturn, 1), (44, .aload_n 0, 1), (45, .getfield 31, 3), (48, .iload_n 1, 1), (49, .invokevirtual 191, 3), (52, .aload_n 0, 1), (53, .getfield 31, 3), (56, .getfield 157, 3), (59, .invokestatic 160, 3), (62, .ireturn, 1)])
set_option maxRecDepth 20000 in
theorem tX7_hang : ∀ q ∈ mX7_hang.2, decode mX7_hang.1.2.2.1 q.1 = .ok q.2 := by decide +kernel
def mX7_take : kw_M := ((RX7, yX7_take, cX7_take, 2, (some .int)), [(0, .aload_n 0, 1), (1, .getfield 31, 3), (4, .getfield 117, 3), (7, .iload_n 1, 1), (8, .invokevirtual 137, 3), (11, .ifCond .ne 5, 3), (14, .iconst (-1), 1), (15, .ireturn, 1), (16, .aload_n 0, 1), (17, .getfield 31, 3), (20, .iload_n 1, 1), (21, .invokevirtual 185, 3), (24, .ifCond .ne 6, 3), (27, .bipush (-4), 2), (29, .ireturn, 1), (30, .aload_n 0, 1), (31, .getfield 31, 3), (34, .iconst 1, 1), (35, .invokevirtual 188, 3), (38, .ifCond .ne 6, 3), (41, .bipush (-2), 2), (43, .ireturn, 1), (44, .aload_n 0, 1), (45, .getfield 31, 3), (48, .iload_n 1, 1), (49, .invokevirtual 191, 3), (52, .aload_n 0, 1), (53, .getfield 31, 3), (56, .getfield 194, 3), (59, .iload_n 1, 1), (60, .iaload, 1), (61, .ireturn, 1)])
set_option maxRecDepth 20000 in
theorem tX7_take : ∀ q ∈ mX7_take.2, decode mX7_take.1.2.2.1 q.1 = .ok q.2 := by decide +kernel
def mX7_hour : kw_M := ((RX7, yX7_hour, cX7_hour, 1, (some .int)), [(0, .aload_n 0, 1), (1, .getfield 31, 3), (4, .invokevirtual 178, 3), (7, .ifCond .eq 6, 3), (10, .bipush (-4), 2), (12, .ireturn, 1), (13, .aload_n 0, 1), (14, .getfield 31, 3), (17, .iconst 1, 1), (18, .invokevirtual 188, 3), (21, .ifCond .ne 6, 3), (24, .bipush (-2), 2), (26, .ireturn, 1), (27, .aload_n 0, 1), (28, .getfield 31, 3), (31, .bipush 6, 2), (33, .invokevirtual 191, 3), (36, .aload_n 0, 1), (37, .getfield 55, 3), (40, .aload_n 0, 1), (41, .getfield 31, 3), (44, .getfield 197, 3), (47, .i2l, 1), (48, .invokevirtual 200, 3), (51, .aload_n 0, 1), (52, .getfield 55, 3), (55, .aload_n 0, 1), (56, .getfield 31, 3), (59, .getfield 204, 3), (62, .invokevirtual 92, 3), (65, .ireturn, 1)])
set_option maxRecDepth 20000 in
theorem tX7_hour : ∀ q ∈ mX7_hour.2, decode mX7_hour.1.2.2.1 q.1 = .ok q.2 := by decide +kernel
def mX7_undo : kw_M := ((RX7, yX7_undo, cX7_undo, 3, (some .int)), [(0, .iload_n 1, 1), (1, .ifCond .lt 14, 3), (4, .iload_n 1, 1), (5, .aload_n 0, 1), (6, .getfield 31, 3), (9, .getfield 207, 3), (12, .if_icmp .le 5, 3), (15, .iconst (-1), 1), (16, .ireturn, 1), (17, .aload_n 0, 1), (18, .getfield 31, 3), (21, .getfield 207, 3), (24, .iload_n 1, 1), (25, .isub, 1), (26, .istore_n 2, 1), (27, .aload_n 0, 1), (28, .getfield 31, 3), (31, .iload_n 1, 1), (32, .invokevirtual 130, 3), (35, .iload_n 2, 1), (36, .ireturn, 1)])
set_option maxRecDepth 20000 in
theorem tX7_undo : ∀ q ∈ mX7_undo.2, decode mX7_undo.1.2.2.1 q.1 = .ok q.2 := by decide +kernel
def mX7_keep : kw_M := ((RX7, yX7_keep, cX7_keep, 3, (some .int)), [(0, .aload_n 0, 1), (1, .getfield 35, 3), (4, .iload_n 1, 1), (5, .invokevirtual 73, 3), (8, .ifCond .ne 5, 3), (11, .iconst (-1), 1), (12, .ireturn, 1), (13, .aload_n 0, 1), (14, .getfield 31, 3), (17, .invokevirtual 178, 3), (20, .ifCond .eq 6, 3), (23, .bipush (-4), 2), (25, .ireturn, 1), (26, .aload_n 0, 1), (27, .getfield 35, 3), (30, .iload_n 1, 1), (31, .aload_n 0, 1), (32, .getfield 31, 3), (35, .getfield 207, 3), (38, .iconst 0, 1), (39, .invokevirtual 210, 3), (42, .iconst 0, 1), (43, .istore_n 2, 1), (44, .iload_n 2, 1), (45, .aload_n 0, 1), (46, .getfield 31, 3), (49, .getfield 207, 3), (52, .if_icmp .ge 27, 3), (55, .aload_n 0, 1), (56, .getfield 35, 3), (59, .iload_n 1, 1), (60, .iload_n 2, 1), (61, .aload_n 0, 1), (62, .getfield 31, 3), (65, .getfield 213, 3), (68, .iload_n 2, 1), (69, .iaload, 1), (70, .invokevirtual 88, 3), (73, .iinc 2 1, 3), (76, .goto (-32), 3), (79, .aload_n 0, 1), (80, .getfield 31, 3), (83, .getfield 207, 3), (86, .ireturn, 1)])
set_option maxRecDepth 20000 in
theorem tX7_keep : ∀ q ∈ mX7_keep.2, decode mX7_keep.1.2.2.1 q.1 = .ok q.2 := by decide +kernel
def mX7_on : kw_M := ((RX7, yX7_on, cX7_on, 4, (some .int)), [(0, .aload_n 0, 1), (1, .getfield 35, 3), (4, .iload_n 1, 1), (5, .invokevirtual 73, 3), (8, .ifCond .ne 5, 3), (11, .iconst (-1), 1), (12, .ireturn, 1), (13, .aload_n 0, 1), (14, .getfield 35, 3), (17, .iload_n 1, 1), (18, .invokevirtual 95, 3), (21, .ifCond .eq 12, 3), (24, .aload_n 0, 1), (25, .getfield 55, 3), (28, .iconst 1, 1), (29, .invokevirtual 81, 3), (32, .ireturn, 1), (33, .aload_n 0, 1), (34, .getfield 35, 3), (37, .iload_n 1, 1), (38, .invokevirtual 110, 3), (41, .istore_n 2, 1), (42, .iconst 0, 1), (43, .istore_n 3, 1), (44, .iload_n 3, 1), (45, .iload_n 2, 1), (46, .if_icmp .ge 27, 3), (49, .aload_n 0, 1), (50, .getfield 31, 3), (53, .getfield 213, 3), (56, .iload_n 3, 1), (57, .aload_n 0, 1), (58, .getfield 35, 3), (61, .iload_n 1, 1), (62, .iload_n 3, 1), (63, .invokevirtual 85, 3), (66, .iastore, 1), (67, .iinc 3 1, 3), (70, .goto (-26), 3), (73, .aload_n 0, 1), (74, .getfield 31, 3), (77, .iload_n 2, 1), (78, .invokevirtual 130, 3), (81, .iload_n 2, 1), (82, .ireturn, 1)])
set_option maxRecDepth 20000 in
theorem tX7_on : ∀ q ∈ mX7_on.2, decode mX7_on.1.2.2.1 q.1 = .ok q.2 := by decide +kernel
def mX7_goes : kw_M := ((RX7, yX7_goes, cX7_goes, 3, (some .int)), [(0, .aload_n 0, 1), (1, .getfield 31, 3), (4, .getfield 117, 3), (7, .iload_n 1, 1), (8, .invokevirtual 216, 3), (11, .ifCond .ne 5, 3), (14, .iconst (-1), 1), (15, .ireturn, 1), (16, .aload_n 0, 1), (17, .getfield 31, 3), (20, .invokevirtual 171, 3), (23, .istore_n 2, 1), (24, .aload_n 0, 1), (25, .getfield 55, 3), (28, .aload_n 0, 1), (29, .getfield 31, 3), (32, .getfield 117, 3), (35, .iload_n 1, 1), (36, .iload_n 2, 1), (37, .invokevirtual 219, 3), (40, .i2l, 1), (41, .invokevirtual 200, 3), (44, .aload_n 0, 1), (45, .getfield 55, 3), (48, .aload_n 0, 1), (49, .getfield 31, 3), (52, .getfield 117, 3), (55, .iload_n 1, 1), (56, .iload_n 2, 1), (57, .invokevirtual 222, 3), (60, .invokevirtual 92, 3), (63, .ireturn, 1)])
set_option maxRecDepth 20000 in
theorem tX7_goes : ∀ q ∈ mX7_goes.2, decode mX7_goes.1.2.2.1 q.1 = .ok q.2 := by decide +kernel
def mX7_even : kw_M := ((RX7, yX7_even, cX7_even, 7, (some .int)), [(0, .iload_n 1, 1), (1, .bipush (-99), 2), (3, .if_icmp .lt 9, 3), (6, .iload_n 1, 1), (7, .bipush 99, 2), (9, .if_icmp .le 5, 3), (12, .iconst (-1), 1), (13, .ireturn, 1), (14, .aload_n 0, 1), (15, .getfield 31, 3), (18, .invokevirtual 178, 3), (21, .ifCond .eq 6, 3), (24, .bipush (-4), 2), (26, .ireturn, 1), (27, .aload_n 0, 1), (28, .getfield 41, 3), (31, .aload_n 0, 1), (32, .getfield 31, 3), (35, .getfield 117, 3), (38, .aload_n 0, 1), (39, .getfield 31, 3), (42, .invokevirtual 171, 3), (45, .invokevirtual 225, 3), (48, .iconst 0, 1), (49, .istore_n 2, 1), (50, .bipush (-9), 2), (52, .istore_n 3, 1), (53, .iconst 0, 1), (54, .istore 4, 2), (56, .iconst 0, 1), (57, .istore 5, 2), (59, .iload 5, 2), (61, .aload_n 0, 1), (62, .getfield 41, 3), (65, .getfield 229, 3), (68, .if_icmp .ge 61, 3), (71, .aload_n 0, 1), (72, .getfield 41, 3), (75, .iload 5, 2), (77, .iload_n 1, 1), (78, .iconst 0, 1), (79, .invokevirtual 232, 3), (82, .ifCond .ne 6, 3), (85, .goto 38, 3), (88, .aload_n 0, 1), (89, .getfield 31, 3), (92, .getfield 117, 3), (95, .iload 5, 2), (97, .invokevirtual 235, 3), (100, .istore 6, 2), (102, .iload_n 2, 1), (103, .ifCond .eq 10, 3), (106, .iload 6, 2), (108, .iload 4, 2), (110, .if_icmp .ge 10, 3), (113, .iload 5, 2), (115, .istore_n 3, 1), (116, .iload 6, 2), (118, .istore 4, 2), (120, .iinc 2 1, 3), (123, .iinc 5 1, 3), (126, .goto (-67), 3), (129, .aload_n 0, 1), (130, .getfield 55, 3), (133, .iload_n 2, 1), (134, .i2l, 1), (135, .invokevirtual 200, 3), (138, .aload_n 0, 1), (139, .getfield 55, 3), (142, .iload_n 3, 1), (143, .invokevirtual 92, 3), (146, .ireturn, 1)])
set_option maxRecDepth 20000 in
theorem tX7_even : ∀ q ∈ mX7_even.2, decode mX7_even.1.2.2.1 q.1 = .ok q.2 := by decide +kernel
def mX7_fast : kw_M := ((RX7, yX7_fast, cX7_fast, 4, (some .int)), [(0, .iload_n 1, 1), (1, .ifCond .lt 9, 3), (4, .iload_n 1, 1), (5, .bipush 99, 2), (7, .if_icmp .le 5, 3), (10, .iconst (-1), 1), (11, .ireturn, 1), (12, .aload_n 0, 1), (13, .getfield 31, 3), (16, .invokevirtual 178, 3), (19, .ifCond .eq 6, 3), (22, .bipush (-4), 2), (24, .ireturn, 1), (25, .aload_n 0, 1), (26, .getfield 41, 3), (29, .aload_n 0, 1), (30, .getfield 31, 3), (33, .getfield 117, 3), (36, .aload_n 0, 1), (37, .getfield 31, 3), (40, .invokevirtual 171, 3), (43, .invokevirtual 225, 3), (46, .iconst 0, 1), (47, .istore_n 2, 1), (48, .iconst 1, 1), (49, .istore_n 3, 1), (50, .iload_n 3, 1), (51, .aload_n 0, 1), (52, .getfield 41, 3), (55, .getfield 229, 3), (58, .if_icmp .ge 45, 3), (61, .aload_n 0, 1), (62, .getfield 31, 3), (65, .getfield 117, 3), (68, .iload_n 3, 1), (69, .invokevirtual 235, 3), (72, .iload_n 1, 1), (73, .if_icmp .gt 24, 3), (76, .aload_n 0, 1), (77, .getfield 41, 3), (80, .iload_n 3, 1), (81, .invokevirtual 238, 3), (84, .aload_n 0, 1), (85, .getfield 41, 3), (88, .iload_n 2, 1), (89, .invokevirtual 238, 3), (92, .if_icmp .le 5, 3), (95, .iload_n 3, 1), (96, .istore_n 2, 1), (97, .iinc 3 1, 3), (100, .goto (-50), 3), (103, .aload_n 0, 1), (104, .getfield 55, 3), (107, .iload_n 2, 1), (108, .invokevirtual 92, 3), (111, .pop, 1), (112, .aload_n 0, 1), (113, .getfield 41, 3), (116, .iload_n 2, 1), (117, .invokevirtual 238, 3), (120, .ireturn, 1)])
set_option maxRecDepth 20000 in
theorem tX7_fast : ∀ q ∈ mX7_fast.2, decode mX7_fast.1.2.2.1 q.1 = .ok q.2 := by decide +kernel
def mX7_wet : kw_M := ((RX7, yX7_wet, cX7_wet, 1, (some .int)), [(0, .aload_n 0, 1), (1, .getfield 55, 3), (4, .aload_n 0, 1), (5, .getfield 31, 3), (8, .invokevirtual 240, 3), (11, .invokevirtual 92, 3), (14, .pop, 1), (15, .aload_n 0, 1), (16, .getfield 31, 3), (19, .getfield 117, 3), (22, .invokevirtual 243, 3), (25, .aload_n 0, 1), (26, .aload_n 0, 1), (27, .getfield 31, 3), (30, .getfield 194, 3), (33, .invokevirtual 246, 3), (36, .iconst (-1), 1), (37, .ixor, 1), (38, .iand, 1), (39, .ireturn, 1)])
set_option maxRecDepth 20000 in
theorem tX7_wet : ∀ q ∈ mX7_wet.2, decode mX7_wet.1.2.2.1 q.1 = .ok q.2 := by decide +kernel
def mX7_sail : kw_M := ((RX7, yX7_sail, cX7_sail, 7, (some .int)), [(0, .aload_n 0, 1), (1, .iload_n 1, 1), (2, .invokevirtual 250, 3), (5, .istore_n 2, 1), (6, .iload_n 2, 1), (7, .ifCond .eq 5, 3), (10, .iload_n 2, 1), (11, .ireturn, 1), (12, .aload_n 0, 1), (13, .getfield 31, 3), (16, .getfield 204, 3), (19, .istore_n 3, 1), (20, .aload_n 0, 1), (21, .getfield 31, 3), (24, .getfield 197, 3), (27, .istore 4, 2), (29, .iconst 0, 1), (30, .istore 5, 2), (32, .iload 5, 2), (34, .aload_n 0, 1), (35, .getfield 14, 3), (38, .iload_n 1, 1), (39, .invokevirtual 110, 3), (42, .if_icmp .ge 72, 3), (45, .aload_n 0, 1), (46, .getfield 31, 3), (49, .iload 5, 2), (51, .invokevirtual 253, 3), (54, .istore 6, 2), (56, .iload_n 3, 1), (57, .aload_n 0, 1), (58, .getfield 31, 3), (61, .getfield 117, 3), (64, .aload_n 0, 1), (65, .getfield 14, 3), (68, .iload_n 1, 1), (69, .iload 5, 2), (71, .invokevirtual 85, 3), (74, .iload 6, 2), (76, .invokevirtual 222, 3), (79, .iadd, 1), (80, .istore_n 3, 1), (81, .iload 4, 2), (83, .aload_n 0, 1), (84, .getfield 31, 3), (87, .getfield 117, 3), (90, .aload_n 0, 1), (91, .getfield 14, 3), (94, .iload_n 1, 1), (95, .iload 5, 2), (97, .invokevirtual 85, 3), (100, .iload 6, 2), (102, .invokevirtual 219, 3), (105, .iadd, 1), (106, .istore 4, 2), (108, .iinc 5 1, 3), (111, .goto (-79), 3), (114, .aload_n 0, 1), (115, .getfield 55, 3), (118, .iload 4, 2), (120, .i2l, 1), (121, .invokevirtual 200, 3), (124, .aload_n 0, 1), (125, .getfield 55, 3), (128, .iload_n 3, 1), (129, .invokevirtual 92, 3), (132, .ireturn, 1)])
set_option maxRecDepth 20000 in
theorem tX7_sail : ∀ q ∈ mX7_sail.2, decode mX7_sail.1.2.2.1 q.1 = .ok q.2 := by decide +kernel
def mX7_dry : kw_M := ((RX7, yX7_dry, cX7_dry, 4, (some .int)), [(0, .aload_n 0, 1), (1, .iload_n 1, 1), (2, .invokevirtual 250, 3), (5, .istore_n 2, 1), (6, .iload_n 2, 1), (7, .ifCond .eq 5, 3), (10, .iload_n 2, 1), (11, .ireturn, 1), (12, .aload_n 0, 1), (13, .getfield 31, 3), (16, .getfield 194, 3), (19, .iconst 0, 1), (20, .aload_n 0, 1), (21, .getfield 59, 3), (24, .iconst 0, 1), (25, .bipush 6, 2), (27, .invokestatic 256, 3), (30, .iconst 0, 1), (31, .istore_n 3, 1), (32, .iload_n 3, 1), (33, .aload_n 0, 1), (34, .getfield 14, 3), (37, .iload_n 1, 1), (38, .invokevirtual 110, 3), (41, .if_icmp .ge 33, 3), (44, .aload_n 0, 1), (45, .getfield 59, 3), (48, .aload_n 0, 1), (49, .getfield 14, 3), (52, .iload_n 1, 1), (53, .iload_n 3, 1), (54, .invokevirtual 85, 3), (57, .aload_n 0, 1), (58, .getfield 31, 3), (61, .iload_n 3, 1), (62, .invokevirtual 253, 3), (65, .invokestatic 262, 3), (68, .iinc 3 1, 3), (71, .goto (-39), 3), (74, .aload_n 0, 1), (75, .aload_n 0, 1), (76, .getfield 59, 3), (79, .invokevirtual 246, 3), (82, .ireturn, 1)])
set_option maxRecDepth 20000 in
theorem tX7_dry : ∀ q ∈ mX7_dry.2, decode mX7_dry.1.2.2.1 q.1 = .ok q.2 := by decide +kernel
def mX7_far : kw_M := ((RX7, yX7_far, cX7_far, 5, (some .int)), [(0, .iload_n 1, 1), (1, .ifCond .lt 30, 3), (4, .iload_n 1, 1), (5, .iconst 3, 1), (6, .if_icmp .gt 25, 3), (9, .iload_n 2, 1), (10, .ifCond .lt 21, 3), (13, .iload_n 2, 1), (14, .sipush 999, 3), (17, .if_icmp .gt 14, 3), (20, .aload_n 0, 1), (21, .getfield 14, 3), (24, .iload_n 3, 1), (25, .invokevirtual 73, 3), (28, .ifCond .ne 5, 3), (31, .iconst (-1), 1), (32, .ireturn, 1), (33, .aload_n 0, 1), (34, .getfield 31, 3), (37, .invokevirtual 178, 3), (40, .ifCond .eq 6, 3), (43, .bipush (-4), 2), (45, .ireturn, 1), (46, .aload_n 0, 1), (47, .getfield 48, 3), (50, .aload_n 0, 1), (51, .getfield 31, 3), (54, .iload_n 1, 1), (55, .iload_n 2, 1), (56, .invokevirtual 266, 3), (59, .ifCond .ne 6, 3), (62, .bipush (-9), 2), (64, .ireturn, 1), (65, .aload_n 0, 1), (66, .getfield 14, 3), (69, .iload_n 3, 1), (70, .iload_n 1, 1), (71, .iconst 0, 1), (72, .invokevirtual 210, 3), (75, .iconst 0, 1), (76, .istore 4, 2), (78, .iload 4, 2), (80, .iload_n 1, 1), (81, .if_icmp .ge 29, 3), (84, .aload_n 0, 1), (85, .getfield 14, 3), (88, .iload_n 3, 1), (89, .iload 4, 2), (91, .aload_n 0, 1), (92, .getfield 48, 3), (95, .getfield 270, 3), (98, .iload 4, 2), (100, .iaload, 1), (101, .invokevirtual 88, 3), (104, .iinc 4 1, 3), (107, .goto (-29), 3), (110, .aload_n 0, 1), (111, .getfield 55, 3), (114, .aload_n 0, 1), (115, .getfield 48, 3), (118, .getfield 273, 3), (121, .invokevirtual 92, 3), (124, .ireturn, 1)])
set_option maxRecDepth 20000 in
theorem tX7_far : ∀ q ∈ mX7_far.2, decode mX7_far.1.2.2.1 q.1 = .ok q.2 := by decide +kernel
def mX7_soon : kw_M := ((RX7, yX7_soon, cX7_soon, 5, (some .int)), [(0, .iload_n 1, 1), (1, .sipush (-999), 3), (4, .if_icmp .lt 10, 3), (7, .iload_n 1, 1), (8, .sipush 999, 3), (11, .if_icmp .le 5, 3), (14, .iconst (-1), 1), (15, .ireturn, 1), (16, .aload_n 0, 1), (17, .getfield 31, 3), (20, .invokevirtual 178, 3), (23, .ifCond .eq 6, 3), (26, .bipush (-4), 2), (28, .ireturn, 1), (29, .aload_n 0, 1), (30, .getfield 31, 3), (33, .getfield 117, 3), (36, .invokevirtual 243, 3), (39, .istore_n 2, 1), (40, .aload_n 0, 1), (41, .getfield 31, 3), (44, .getfield 204, 3), (47, .istore_n 3, 1), (48, .iconst 0, 1), (49, .istore 4, 2), (51, .iload 4, 2), (53, .iconst 3, 1), (54, .if_icmp .gt 40, 3), (57, .iload_n 3, 1), (58, .iload_n 1, 1), (59, .if_icmp .lt 6, 3), (62, .iload 4, 2), (64, .ireturn, 1), (65, .iload_n 3, 1), (66, .aload_n 0, 1), (67, .getfield 31, 3), (70, .getfield 117, 3), (73, .iload_n 2, 1), (74, .aload_n 0, 1), (75, .getfield 31, 3), (78, .iload 4, 2), (80, .invokevirtual 253, 3), (83, .invokevirtual 276, 3), (86, .iadd, 1), (87, .istore_n 3, 1), (88, .iinc 4 1, 3), (91, .goto (-40), 3), (94, .bipush (-9), 2), (96, .ireturn, 1)])
set_option maxRecDepth 20000 in
theorem tX7_soon : ∀ q ∈ mX7_soon.2, decode mX7_soon.1.2.2.1 q.1 = .ok q.2 := by decide +kernel
def mX7_least : kw_M := ((RX7, yX7_least, cX7_least, 7, (some .int)), [(0, .iload_n 1, 1), (1, .ifCond .lt 8, 3), (4, .iload_n 1, 1), (5, .iconst 3, 1), (6, .if_icmp .le 5, 3), (9, .iconst (-1), 1), (10, .ireturn, 1), (11, .aload_n 0, 1), (12, .getfield 31, 3), (15, .invokevirtual 178, 3), (18, .ifCond .eq 6, 3), (21, .bipush (-4), 2), (23, .ireturn, 1), (24, .bipush (-9), 2), (26, .istore_n 3, 1), (27, .aload_n 0, 1), (28, .getfield 31, 3), (31, .getfield 117, 3), (34, .invokevirtual 243, 3), (37, .iconst 1, 1), (38, .iadd, 1), (39, .istore 4, 2), (41, .iconst 0, 1), (42, .istore 5, 2), (44, .iload 5, 2), (46, .iload 4, 2), (48, .if_icmp .ge 52, 3), (51, .aload_n 0, 1), (52, .iload_n 1, 1), (53, .iload 5, 2), (55, .invokevirtual 279, 3), (58, .iload_n 2, 1), (59, .if_icmp .ge 6, 3), (62, .goto 32, 3), (65, .aload_n 0, 1), (66, .getfield 31, 3), (69, .getfield 117, 3), (72, .iload 5, 2), (74, .invokevirtual 235, 3), (77, .istore 6, 2), (79, .iload_n 3, 1), (80, .bipush (-9), 2), (82, .if_icmp .eq 9, 3), (85, .iload 6, 2), (87, .iload_n 3, 1), (88, .if_icmp .ge 6, 3), (91, .iload 6, 2), (93, .istore_n 3, 1), (94, .iinc 5 1, 3), (97, .goto (-53), 3), (100, .iload_n 3, 1), (101, .ireturn, 1)])
set_option maxRecDepth 20000 in
theorem tX7_least : ∀ q ∈ mX7_least.2, decode mX7_least.1.2.2.1 q.1 = .ok q.2 := by decide +kernel
def mX7_ways : kw_M := ((RX7, yX7_ways, cX7_ways, 6, (some .int)), [(0, .iload_n 1, 1), (1, .bipush (-99), 2), (3, .if_icmp .lt 23, 3), (6, .iload_n 1, 1), (7, .bipush 99, 2), (9, .if_icmp .gt 17, 3), (12, .iload_n 2, 1), (13, .sipush (-999), 3), (16, .if_icmp .lt 10, 3), (19, .iload_n 2, 1), (20, .sipush 999, 3), (23, .if_icmp .le 5, 3), (26, .iconst (-1), 1), (27, .ireturn, 1), (28, .aload_n 0, 1), (29, .getfield 31, 3), (32, .invokevirtual 178, 3), (35, .ifCond .eq 6, 3), (38, .bipush (-4), 2), (40, .ireturn, 1), (41, .aload_n 0, 1), (42, .getfield 41, 3), (45, .aload_n 0, 1), (46, .getfield 31, 3), (49, .getfield 117, 3), (52, .aload_n 0, 1), (53, .getfield 31, 3), (56, .invokevirtual 171, 3), (59, .invokevirtual 225, 3), (62, .iconst 0, 1), (63, .istore_n 3, 1), (64, .aload_n 0, 1), (65, .getfield 31, 3), (68, .getfield 117, 3), (71, .invokevirtual 243, 3), (74, .istore 4, 2), (76, .iconst 0, 1), (77, .istore 5, 2), (79, .iload 5, 2), (81, .aload_n 0, 1), (82, .getfield 41, 3), (85, .getfield 229, 3), (88, .if_icmp .ge 36, 3), (91, .aload_n 0, 1), (92, .getfield 41, 3), (95, .iload 5, 2), (97, .iload_n 1, 1), (98, .iload_n 2, 1), (99, .invokevirtual 232, 3), (102, .ifCond .ne 6, 3), (105, .goto 13, 3), (108, .iload 4, 2), (110, .iload 5, 2), (112, .iand, 1), (113, .istore 4, 2), (115, .iinc 3 1, 3), (118, .iinc 5 1, 3), (121, .goto (-42), 3), (124, .aload_n 0, 1), (125, .getfield 55, 3), (128, .iload_n 3, 1), (129, .i2l, 1), (130, .invokevirtual 200, 3), (133, .aload_n 0, 1), (134, .getfield 55, 3), (137, .iload_n 3, 1), (138, .ifCond .ne 7, 3), (141, .iconst 0, 1), (142, .goto 5, 3), (145, .iload 4, 2), (147, .invokevirtual 92, 3), (150, .ireturn, 1)])
set_option maxRecDepth 20000 in
theorem tX7_ways : ∀ q ∈ mX7_ways.2, decode mX7_ways.1.2.2.1 q.1 = .ok q.2 := by decide +kernel
def mX7_kinds : kw_M := ((RX7, yX7_kinds, cX7_kinds, 6, (some .int)), [(0, .aload_n 0, 1), (1, .iload_n 1, 1), (2, .iload_n 2, 1), (3, .invokevirtual 282, 3), (6, .istore_n 3, 1), (7, .iload_n 3, 1), (8, .ifCond .eq 5, 3), (11, .iload_n 3, 1), (12, .ireturn, 1), (13, .iconst 0, 1), (14, .istore 4, 2), (16, .iconst 0, 1), (17, .istore 5, 2), (19, .iload 5, 2), (21, .bipush 6, 2), (23, .if_icmp .ge 40, 3), (26, .aload_n 0, 1), (27, .iload_n 2, 1), (28, .iload 5, 2), (30, .aload_n 0, 1), (31, .getfield 31, 3), (34, .getfield 117, 3), (37, .getfield 168, 3), (40, .iload_n 1, 1), (41, .iaload, 1), (42, .invokevirtual 285, 3), (45, .ifCond .eq 12, 3), (48, .iload 4, 2), (50, .iconst 1, 1), (51, .iload 5, 2), (53, .ishl, 1), (54, .ior, 1), (55, .istore 4, 2), (57, .iinc 5 1, 3), (60, .goto (-41), 3), (63, .iload 4, 2), (65, .ireturn, 1)])
set_option maxRecDepth 20000 in
theorem tX7_kinds : ∀ q ∈ mX7_kinds.2, decode mX7_kinds.1.2.2.1 q.1 = .ok q.2 := by decide +kernel
def mX7_areas : kw_M := ((RX7, yX7_areas, cX7_areas, 6, (some .int)), [(0, .aload_n 0, 1), (1, .iload_n 1, 1), (2, .iload_n 2, 1), (3, .invokevirtual 282, 3), (6, .istore_n 3, 1), (7, .iload_n 3, 1), (8, .ifCond .eq 5, 3), (11, .iload_n 3, 1), (12, .ireturn, 1), (13, .iconst 0, 1), (14, .istore 4, 2), (16, .iconst 1, 1), (17, .istore 5, 2), (19, .iload 5, 2), (21, .bipush 9, 2), (23, .if_icmp .gt 40, 3), (26, .aload_n 0, 1), (27, .iload_n 2, 1), (28, .aload_n 0, 1), (29, .getfield 31, 3), (32, .getfield 117, 3), (35, .getfield 143, 3), (38, .iload_n 1, 1), (39, .iaload, 1), (40, .iload 5, 2), (42, .invokevirtual 285, 3), (45, .ifCond .eq 12, 3), (48, .iload 4, 2), (50, .iconst 1, 1), (51, .iload 5, 2), (53, .ishl, 1), (54, .ior, 1), (55, .istore 4, 2), (57, .iinc 5 1, 3), (60, .goto (-41), 3), (63, .iload 4, 2), (65, .ireturn, 1)])
set_option maxRecDepth 20000 in
theorem tX7_areas : ∀ q ∈ mX7_areas.2, decode mX7_areas.1.2.2.1 q.1 = .ok q.2 := by decide +kernel
def mX7_rival : kw_M := ((RX7, yX7_rival, cX7_rival, 2, (some .int)), [(0, .iload_n 1, 1), (1, .ifCond .lt 8, 3), (4, .iload_n 1, 1), (5, .iconst 2, 1), (6, .if_icmp .le 5, 3), (9, .iconst (-1), 1), (10, .ireturn, 1), (11, .aload_n 0, 1), (12, .getfield 31, 3), (15, .invokevirtual 178, 3), (18, .ifCond .eq 6, 3), (21, .bipush (-4), 2), (23, .ireturn, 1), (24, .aload_n 0, 1), (25, .getfield 41, 3), (28, .aload_n 0, 1), (29, .getfield 31, 3), (32, .getfield 117, 3), (35, .aload_n 0, 1), (36, .getfield 31, 3), (39, .invokevirtual 171, 3), (42, .invokevirtual 225, 3), (45, .aload_n 0, 1), (46, .getfield 55, 3), (49, .aload_n 0, 1), (50, .getfield 41, 3), (53, .aload_n 0, 1), (54, .getfield 31, 3), (57, .getfield 157, 3), (60, .iconst 2, 1), (61, .iload_n 1, 1), (62, .imul, 1), (63, .invokestatic 288, 3), (66, .invokevirtual 92, 3), (69, .ireturn, 1)])
set_option maxRecDepth 20000 in
theorem tX7_rival : ∀ q ∈ mX7_rival.2, decode mX7_rival.1.2.2.1 q.1 = .ok q.2 := by decide +kernel
def mX7_mid : kw_M := ((RX7, yX7_mid, cX7_mid, 7, (some .int)), [(0, .iload_n 2, 1), (1, .ifCond .lt 9, 3), (4, .iload_n 2, 1), (5, .bipush 12, 2), (7, .if_icmp .le 5, 3), (10, .iconst (-1), 1), (11, .ireturn, 1), (12, .aload_n 0, 1), (13, .iload_n 1, 1), (14, .invokevirtual 250, 3), (17, .istore_n 3, 1), (18, .iload_n 3, 1), (19, .ifCond .eq 5, 3), (22, .iload_n 3, 1), (23, .ireturn, 1), (24, .aload_n 0, 1), (25, .iload_n 1, 1), (26, .invokevirtual 292, 3), (29, .ldc2_w 295, 3), (32, .aload_n 0, 1), (33, .getfield 31, 3), (36, .getfield 204, 3), (39, .i2l, 1), (40, .lmul, 1), (41, .lstore 4, 2), (43, .iconst 0, 1), (44, .istore 6, 2), (46, .iload 6, 2), (48, .aload_n 0, 1), (49, .getfield 14, 3), (52, .iload_n 1, 1), (53, .invokevirtual 110, 3), (56, .if_icmp .ge 37, 3), (59, .lload 4, 2), (61, .bipush 12, 2), (63, .iload_n 2, 1), (64, .isub, 1), (65, .aload_n 0, 1), (66, .getfield 63, 3), (69, .iload 6, 2), (71, .iaload, 1), (72, .imul, 1), (73, .iload_n 2, 1), (74, .aload_n 0, 1), (75, .getfield 66, 3), (78, .iload 6, 2), (80, .iaload, 1), (81, .imul, 1), (82, .iadd, 1), (83, .i2l, 1), (84, .ladd, 1), (85, .lstore 4, 2), (87, .iinc 6 1, 3), (90, .goto (-44), 3), (93, .aload_n 0, 1), (94, .getfield 55, 3), (97, .lload 4, 2), (99, .ldc2_w 295, 3), (102, .invokevirtual 297, 3), (105, .iconst 1, 1), (106, .ireturn, 1)])
set_option maxRecDepth 20000 in
theorem tX7_mid : ∀ q ∈ mX7_mid.2, decode mX7_mid.1.2.2.1 q.1 = .ok q.2 := by decide +kernel
def mX7_odds : kw_M := ((RX7, yX7_odds, cX7_odds, 11, (some .int)), [(0, .iload_n 2, 1), (1, .sipush (-999), 3), (4, .if_icmp .lt 20, 3), (7, .iload_n 2, 1), (8, .sipush 999, 3), (11, .if_icmp .gt 13, 3), (14, .iload_n 3, 1), (15, .ifCond .lt 9, 3), (18, .iload_n 3, 1), (19, .bipush 12, 2), (21, .if_icmp .le 5, 3), (24, .iconst (-1), 1), (25, .ireturn, 1), (26, .aload_n 0, 1), (27, .iload_n 1, 1), (28, .invokevirtual 250, 3), (31, .istore 4, 2), (33, .iload 4, 2), (35, .ifCond .eq 6, 3), (38, .iload 4, 2), (40, .ireturn, 1), (41, .aload_n 0, 1), (42, .iload_n 1, 1), (43, .invokevirtual 292, 3), (46, .aload_n 0, 1), (47, .getfield 14, 3), (50, .iload_n 1, 1), (51, .invokevirtual 110, 3), (54, .istore 5, 2), (56, .lconst 1, 1), (57, .lstore 6, 2), (59, .iconst 0, 1), (60, .istore 8, 2), (62, .iload 8, 2), (64, .iload 5, 2), (66, .if_icmp .ge 17, 3), (69, .lload 6, 2), (71, .ldc2_w 295, 3), (74, .lmul, 1), (75, .lstore 6, 2), (77, .iinc 8 1, 3), (80, .goto (-18), 3), (83, .lconst 0, 1), (84, .lstore 8, 2), (86, .iconst 0, 1), (87, .istore 10, 2), (89, .iload 10, 2), (91, .iconst 1, 1), (92, .iload 5, 2), (94, .ishl, 1), (95, .if_icmp .ge 34, 3), (98, .aload_n 0, 1), (99, .iload 5, 2), (101, .iload 10, 2), (103, .invokevirtual 301, 3), (106, .iload_n 2, 1), (107, .if_icmp .lt 16, 3), (110, .lload 8, 2), (112, .iload 5, 2), (114, .iload 10, 2), (116, .iload_n 3, 1), (117, .invokestatic 304, 3), (120, .ladd, 1), (121, .lstore 8, 2), (123, .iinc 10 1, 3), (126, .goto (-37), 3), (129, .aload_n 0, 1), (130, .getfield 55, 3), (133, .lload 8, 2), (135, .lload 6, 2), (137, .invokevirtual 297, 3), (140, .iconst 1, 1), (141, .ireturn, 1)])
set_option maxRecDepth 20000 in
theorem tX7_odds : ∀ q ∈ mX7_odds.2, decode mX7_odds.1.2.2.1 q.1 = .ok q.2 := by decide +kernel
def mX7_lots : kw_M := ((RX7, yX7_lots, cX7_lots, 7, (some .int)), [(0, .iload_n 1, 1), (1, .iconst 1, 1), (2, .if_icmp .lt 23, 3), (5, .iload_n 1, 1), (6, .bipush 20, 2), (8, .if_icmp .gt 17, 3), (11, .iload_n 2, 1), (12, .iconst 1, 1), (13, .if_icmp .lt 12, 3), (16, .iload_n 2, 1), (17, .i2l, 1), (18, .ldc2_w 308, 3), (21, .lcmp, 1), (22, .ifCond .lt 5, 3), (25, .iconst (-1), 1), (26, .ireturn, 1), (27, .aload_n 0, 1), (28, .getfield 31, 3), (31, .getfield 117, 3), (34, .getfield 133, 3), (37, .istore_n 3, 1), (38, .iload_n 3, 1), (39, .iconst 1, 1), (40, .if_icmp .ge 6, 3), (43, .bipush (-4), 2), (45, .ireturn, 1), (46, .aload_n 0, 1), (47, .getfield 31, 3), (50, .iconst 2, 1), (51, .iload_n 1, 1), (52, .imul, 1), (53, .invokevirtual 188, 3), (56, .ifCond .ne 6, 3), (59, .bipush (-2), 2), (61, .ireturn, 1), (62, .iload_n 2, 1), (63, .i2l, 1), (64, .lstore 4, 2), (66, .iconst 0, 1), (67, .istore 6, 2), (69, .iload 6, 2), (71, .iload_n 1, 1), (72, .if_icmp .ge 43, 3), (75, .lload 4, 2), (77, .ldc2_w 310, 3), (80, .lmul, 1), (81, .ldc2_w 308, 3), (84, .lrem, 1), (85, .lstore 4, 2), (87, .aload_n 0, 1), (88, .getfield 31, 3), (91, .lload 4, 2), (93, .iload_n 3, 1), (94, .i2l, 1), (95, .lrem, 1), (96, .l2i, 1), (97, .invokevirtual 191, 3), (100, .aload_n 0, 1), (101, .getfield 31, 3), (104, .bipush 6, 2), (106, .invokevirtual 191, 3), (109, .iinc 6 1, 3), (112, .goto (-43), 3), (115, .aload_n 0, 1), (116, .getfield 55, 3), (119, .aload_n 0, 1), (120, .getfield 31, 3), (123, .getfield 204, 3), (126, .invokevirtual 92, 3), (129, .ireturn, 1)])
set_option maxRecDepth 20000 in
theorem tX7_lots : ∀ q ∈ mX7_lots.2, decode mX7_lots.1.2.2.1 q.1 = .ok q.2 := by decide +kernel
def mX7_asked : kw_M := ((RX7, yX7_asked, cX7_asked, 1, (some .int)), [(0, .aload_n 0, 1), (1, .getfield 55, 3), (4, .getfield 312, 3), (7, .ireturn, 1)])
set_option maxRecDepth 20000 in
theorem tX7_asked : ∀ q ∈ mX7_asked.2, decode mX7_asked.1.2.2.1 q.1 = .ok q.2 := by decide +kernel
def mX7_upper : kw_M := ((RX7, yX7_upper, cX7_upper, 1, (some .long)), [(0, .aload_n 0, 1), (1, .getfield 55, 3), (4, .getfield 315, 3), (7, .lreturn, 1)])
set_option maxRecDepth 20000 in
theorem tX7_upper : ∀ q ∈ mX7_upper.2, decode mX7_upper.1.2.2.1 q.1 = .ok q.2 := by decide +kernel
def mX7_lower : kw_M := ((RX7, yX7_lower, cX7_lower, 1, (some .long)), [(0, .aload_n 0, 1), (1, .getfield 55, 3), (4, .getfield 319, 3), (7, .lreturn, 1)])
set_option maxRecDepth 20000 in
theorem tX7_lower : ∀ q ∈ mX7_lower.2, decode mX7_lower.1.2.2.1 q.1 = .ok q.2 := by decide +kernel
def mX7_count : kw_M := ((RX7, yX7_count, cX7_count, 2, (some .int)), [(0, .iload_n 1, 1), (1, .tableswitch 149 0 9 #[55, 66, 74, 82, 93, 101, 113, 125, 133, 141], 55), (56, .aload_n 0, 1), (57, .getfield 31, 3), (60, .getfield 117, 3), (63, .getfield 133, 3), (66, .ireturn, 1), (67, .aload_n 0, 1), (68, .getfield 31, 3), (71, .getfield 322, 3), (74, .ireturn, 1), (75, .aload_n 0, 1), (76, .getfield 31, 3), (79, .getfield 207, 3), (82, .ireturn, 1), (83, .aload_n 0, 1), (84, .getfield 31, 3), (87, .getfield 157, 3), (90, .invokestatic 160, 3), (93, .ireturn, 1), (94, .aload_n 0, 1), (95, .getfield 31, 3), (98, .invokevirtual 240, 3), (101, .ireturn, 1), (102, .aload_n 0, 1), (103, .getfield 31, 3), (106, .getfield 117, 3), (109, .iconst 1, 1), (110, .invokevirtual 325, 3), (113, .ireturn, 1), (114, .aload_n 0, 1), (115, .getfield 31, 3), (118, .getfield 117, 3), (121, .iconst 4, 1), (122, .invokevirtual 325, 3), (125, .ireturn, 1), (126, .aload_n 0, 1), (127, .getfield 14, 3), (130, .invokevirtual 328, 3), (133, .ireturn, 1), (134, .aload_n 0, 1), (135, .getfield 18, 3), (138, .invokevirtual 328, 3), (141, .ireturn, 1), (142, .aload_n 0, 1), (143, .getfield 35, 3), (146, .invokevirtual 328, 3), (149, .ireturn, 1), (150, .iconst (-1), 1), (151, .ireturn, 1)])
set_option maxRecDepth 20000 in
theorem tX7_count : ∀ q ∈ mX7_count.2, decode mX7_count.1.2.2.1 q.1 = .ok q.2 := by decide +kernel
def mX7_miles : kw_M := ((RX7, yX7_miles, cX7_miles, 1, (some .int)), [(0, .aload_n 0, 1), (1, .getfield 55, 3), (4, .aload_n 0, 1), (5, .getfield 31, 3), (8, .getfield 197, 3), (11, .i2l, 1), (12, .invokevirtual 200, 3), (15, .aload_n 0, 1), (16, .getfield 31, 3), (19, .getfield 204, 3), (22, .ireturn, 1)])
set_option maxRecDepth 20000 in
theorem tX7_miles : ∀ q ∈ mX7_miles.2, decode mX7_miles.1.2.2.1 q.1 = .ok q.2 := by decide +kernel
def mX7_finding : kw_M := ((RX7, yX7_finding, cX7_finding, 1, (some .int)), [(0, .aload_n 0, 1), (1, .getfield 55, 3), (4, .getfield 331, 3), (7, .ireturn, 1)])
set_option maxRecDepth 20000 in
theorem tX7_finding : ∀ q ∈ mX7_finding.2, decode mX7_finding.1.2.2.1 q.1 = .ok q.2 := by decide +kernel
def mX7_findings : kw_M := ((RX7, yX7_findings, cX7_findings, 2, (some .int)), [(0, .iload_n 1, 1), (1, .iconst 1, 1), (2, .if_icmp .lt 8, 3), (5, .iload_n 1, 1), (6, .iconst 5, 1), (7, .if_icmp .le 5, 3), (10, .iconst (-1), 1), (11, .ireturn, 1), (12, .aload_n 0, 1), (13, .getfield 55, 3), (16, .getfield 334, 3), (19, .iload_n 1, 1), (20, .iaload, 1), (21, .ireturn, 1)])
set_option maxRecDepth 20000 in
theorem tX7_findings : ∀ q ∈ mX7_findings.2, decode mX7_findings.1.2.2.1 q.1 = .ok q.2 := by decide +kernel
def mX7_digest : kw_M := ((RX7, yX7_digest, cX7_digest, 5, (some .long)), [(0, .ldc2_w 337, 3), (3, .lstore_n 1, 1), (4, .iconst 0, 1), (5, .istore_n 3, 1), (6, .iload_n 3, 1), (7, .bipush 9, 2), (9, .if_icmp .gt 22, 3), (12, .ldc2_w 339, 3), (15, .lload_n 1, 1), (16, .lmul, 1), (17, .aload_n 0, 1), (18, .iload_n 3, 1), (19, .invokevirtual 341, 3), (22, .i2l, 1), (23, .ladd, 1), (24, .lstore_n 1, 1), (25, .iinc 3 1, 3), (28, .goto (-22), 3), (31, .ldc2_w 339, 3), (34, .lload_n 1, 1), (35, .lmul, 1), (36, .aload_n 0, 1), (37, .getfield 31, 3), (40, .getfield 204, 3), (43, .i2l, 1), (44, .ladd, 1), (45, .lstore_n 1, 1), (46, .ldc2_w 339, 3), (49, .lload_n 1, 1), (50, .lmul, 1), (51, .aload_n 0, 1), (52, .getfield 31, 3), (55, .getfield 197, 3), (58, .i2l, 1), (59, .ladd, 1), (60, .lstore_n 1, 1), (61, .iconst 0, 1), (62, .istore_n 3, 1), (63, .iload_n 3, 1), (64, .aload_n 0, 1), (65, .getfield 31, 3), (68, .getfield 117, 3), (71, .getfield 133, 3), (74, .if_icmp .ge 43, 3), (77, .iconst 0, 1), (78, .istore 4, 2), (80, .iload 4, 2), (82, .bipush 6, 2), (84, .if_icmp .gt 27, 3), (87, .ldc2_w 339, 3), (90, .lload_n 1, 1), (91, .lmul, 1), (92, .aload_n 0, 1), (93, .getfield 31, 3), (96, .iload_n 3, 1), (97, .iload 4, 2), (99, .invokevirtual 140, 3), (102, .i2l, 1), (103, .ladd, 1), (104, .lstore_n 1, 1), (105, .iinc 4 1, 3), (108, .goto (-28), 3), (111, .iinc 3 1, 3), (114, .goto (-51), 3), (117, .iconst 0, 1), (118, .istore_n 3, 1), (119, .iload_n 3, 1), (120, .iconst 3, 1), (121, .if_icmp .ge 25, 3), (124, .ldc2_w 339, 3), (127, .lload_n 1, 1), (128, .lmul, 1), (129, .aload_n 0, 1), (130, .getfield 35, 3), (133, .iload_n 3, 1), (134, .invokevirtual 110, 3), (137, .i2l, 1), (138, .ladd, 1), (139, .lstore_n 1, 1), (140, .iinc 3 1, 3), (143, .goto (-24), 3), (146, .aload_n 0, 1), (147, .getfield 18, 3), (150, .aload_n 0, 1), (151, .getfield 14, 3), (154, .lload_n 1, 1), (155, .invokevirtual 344, 3), (158, .invokevirtual 344, 3), (161, .lreturn, 1)])
set_option maxRecDepth 20000 in
theorem tX7_digest : ∀ q ∈ mX7_digest.2, decode mX7_digest.1.2.2.1 q.1 = .ok q.2 := by decide +kernel
def mX7_makeOn : kw_M := ((RX7, yX7_makeOn, cX7_makeOn, 5, (some .int)), [(0, .aload_n 1, 1), (1, .iload_n 2, 1), (2, .invokevirtual 73, 3), (5, .ifCond .eq 11, 3), (8, .iload_n 3, 1), (9, .aload_n 1, 1), (10, .getfield 348, 3), (13, .if_icmp .le 5, 3), (16, .iconst (-1), 1), (17, .ireturn, 1), (18, .iload_n 3, 1), (19, .ifCond .ge 12, 3), (22, .aload_n 0, 1), (23, .getfield 55, 3), (26, .iconst 5, 1), (27, .invokevirtual 81, 3), (30, .ireturn, 1), (31, .aload_n 1, 1), (32, .iload_n 2, 1), (33, .iload_n 3, 1), (34, .iload 4, 2), (36, .invokevirtual 210, 3), (39, .iload_n 3, 1), (40, .ireturn, 1)])
set_option maxRecDepth 20000 in
theorem tX7_makeOn : ∀ q ∈ mX7_makeOn.2, decode mX7_makeOn.1.2.2.1 q.1 = .ok q.2 := by decide +kernel
def mX7_planRefusal : kw_M := ((RX7, yX7_planRefusal, cX7_planRefusal, 3, (some .int)), [(0, .aload_n 0, 1), (1, .getfield 14, 3), (4, .iload_n 1, 1), (5, .invokevirtual 73, 3), (8, .ifCond .ne 5, 3), (11, .iconst (-1), 1), (12, .ireturn, 1), (13, .aload_n 0, 1), (14, .getfield 31, 3), (17, .invokevirtual 178, 3), (20, .ifCond .eq 6, 3), (23, .bipush (-4), 2), (25, .ireturn, 1), (26, .aload_n 0, 1), (27, .getfield 14, 3), (30, .iload_n 1, 1), (31, .invokevirtual 95, 3), (34, .ifCond .eq 12, 3), (37, .aload_n 0, 1), (38, .getfield 55, 3), (41, .iconst 1, 1), (42, .invokevirtual 81, 3), (45, .ireturn, 1), (46, .aload_n 0, 1), (47, .getfield 14, 3), (50, .iload_n 1, 1), (51, .invokevirtual 110, 3), (54, .bipush 6, 2), (56, .if_icmp .le 12, 3), (59, .aload_n 0, 1), (60, .getfield 55, 3), (63, .iconst 5, 1), (64, .invokevirtual 81, 3), (67, .ireturn, 1), (68, .iconst 0, 1), (69, .istore_n 2, 1), (70, .iload_n 2, 1), (71, .aload_n 0, 1), (72, .getfield 14, 3), (75, .iload_n 1, 1), (76, .invokevirtual 110, 3), (79, .if_icmp .ge 40, 3), (82, .aload_n 0, 1), (83, .getfield 31, 3), (86, .getfield 117, 3), (89, .aload_n 0, 1), (90, .getfield 14, 3), (93, .iload_n 1, 1), (94, .iload_n 2, 1), (95, .invokevirtual 85, 3), (98, .invokevirtual 216, 3), (101, .ifCond .ne 12, 3), (104, .aload_n 0, 1), (105, .getfield 55, 3), (108, .iconst 3, 1), (109, .invokevirtual 81, 3), (112, .ireturn, 1), (113, .iinc 2 1, 3), (116, .goto (-46), 3), (119, .iconst 0, 1), (120, .ireturn, 1)])
set_option maxRecDepth 20000 in
theorem tX7_planRefusal : ∀ q ∈ mX7_planRefusal.2, decode mX7_planRefusal.1.2.2.1 q.1 = .ok q.2 := by decide +kernel
def mX7_pairsRefusal : kw_M := ((RX7, yX7_pairsRefusal, cX7_pairsRefusal, 6, (some .int)), [(0, .aload_n 0, 1), (1, .getfield 31, 3), (4, .getfield 117, 3), (7, .iload_n 1, 1), (8, .invokevirtual 137, 3), (11, .ifCond .eq 14, 3), (14, .aload_n 0, 1), (15, .getfield 14, 3), (18, .iload_n 2, 1), (19, .invokevirtual 73, 3), (22, .ifCond .ne 5, 3), (25, .iconst (-1), 1), (26, .ireturn, 1), (27, .aload_n 0, 1), (28, .getfield 14, 3), (31, .iload_n 2, 1), (32, .invokevirtual 95, 3), (35, .ifCond .eq 12, 3), (38, .aload_n 0, 1), (39, .getfield 55, 3), (42, .iconst 1, 1), (43, .invokevirtual 81, 3), (46, .ireturn, 1), (47, .aload_n 0, 1), (48, .getfield 14, 3), (51, .iload_n 2, 1), (52, .invokevirtual 110, 3), (55, .istore_n 3, 1), (56, .iload_n 3, 1), (57, .iconst 2, 1), (58, .irem, 1), (59, .ifCond .ne 9, 3), (62, .iload_n 3, 1), (63, .bipush 20, 2), (65, .if_icmp .le 12, 3), (68, .aload_n 0, 1), (69, .getfield 55, 3), (72, .iconst 5, 1), (73, .invokevirtual 81, 3), (76, .ireturn, 1), (77, .iconst 0, 1), (78, .istore 4, 2), (80, .iload 4, 2), (82, .iload_n 3, 1), (83, .if_icmp .ge 42, 3), (86, .aload_n 0, 1), (87, .getfield 14, 3), (90, .iload_n 2, 1), (91, .iload 4, 2), (93, .invokevirtual 85, 3), (96, .istore 5, 2), (98, .iload 5, 2), (100, .ifCond .lt 10, 3), (103, .iload 5, 2), (105, .bipush 6, 2), (107, .if_icmp .le 12, 3), (110, .aload_n 0, 1), (111, .getfield 55, 3), (114, .iconst 3, 1), (115, .invokevirtual 81, 3), (118, .ireturn, 1), (119, .iinc 4 2, 3), (122, .goto (-42), 3), (125, .iconst 0, 1), (126, .ireturn, 1)])
set_option maxRecDepth 20000 in
theorem tX7_pairsRefusal : ∀ q ∈ mX7_pairsRefusal.2, decode mX7_pairsRefusal.1.2.2.1 q.1 = .ok q.2 := by decide +kernel
def mX7_pulledSo : kw_M := ((RX7, yX7_pulledSo, cX7_pulledSo, 5, (some .boolean)), [(0, .iconst 0, 1), (1, .istore 4, 2), (3, .iload 4, 2), (5, .iconst 1, 1), (6, .iadd, 1), (7, .aload_n 0, 1), (8, .getfield 14, 3), (11, .iload_n 1, 1), (12, .invokevirtual 110, 3), (15, .if_icmp .ge 41, 3), (18, .iload_n 2, 1), (19, .iload_n 3, 1), (20, .aload_n 0, 1), (21, .getfield 14, 3), (24, .iload_n 1, 1), (25, .iload 4, 2), (27, .invokevirtual 85, 3), (30, .invokestatic 174, 3), (33, .aload_n 0, 1), (34, .getfield 14, 3), (37, .iload_n 1, 1), (38, .iload 4, 2), (40, .iconst 1, 1), (41, .iadd, 1), (42, .invokevirtual 85, 3), (45, .if_icmp .eq 5, 3), (48, .iconst 0, 1), (49, .ireturn, 1), (50, .iinc 4 2, 3), (53, .goto (-50), 3), (56, .iconst 1, 1), (57, .ireturn, 1)])
set_option maxRecDepth 20000 in
theorem tX7_pulledSo : ∀ q ∈ mX7_pulledSo.2, decode mX7_pulledSo.1.2.2.1 q.1 = .ok q.2 := by decide +kernel
def mX7_drySet : kw_M := ((RX7, yX7_drySet, cX7_drySet, 4, (some .int)), [(0, .iconst 0, 1), (1, .istore_n 2, 1), (2, .iconst 0, 1), (3, .istore_n 3, 1), (4, .iload_n 3, 1), (5, .aload_n 0, 1), (6, .getfield 31, 3), (9, .getfield 117, 3), (12, .getfield 133, 3), (15, .if_icmp .ge 21, 3), (18, .aload_n 1, 1), (19, .iload_n 3, 1), (20, .iaload, 1), (21, .ifCond .ne 9, 3), (24, .iload_n 2, 1), (25, .iconst 1, 1), (26, .iload_n 3, 1), (27, .ishl, 1), (28, .ior, 1), (29, .istore_n 2, 1), (30, .iinc 3 1, 3), (33, .goto (-29), 3), (36, .iload_n 2, 1), (37, .ireturn, 1)])
set_option maxRecDepth 20000 in
theorem tX7_drySet : ∀ q ∈ mX7_drySet.2, decode mX7_drySet.1.2.2.1 q.1 = .ok q.2 := by decide +kernel
def mX7_mostMilesBehind : kw_M := ((RX7, yX7_mostMilesBehind, cX7_mostMilesBehind, 5, (some .int)), [(0, .aload_n 0, 1), (1, .getfield 31, 3), (4, .getfield 204, 3), (7, .istore_n 3, 1), (8, .iconst 0, 1), (9, .istore 4, 2), (11, .iload 4, 2), (13, .iload_n 1, 1), (14, .if_icmp .ge 32, 3), (17, .iload_n 3, 1), (18, .aload_n 0, 1), (19, .getfield 31, 3), (22, .getfield 117, 3), (25, .iload_n 2, 1), (26, .aload_n 0, 1), (27, .getfield 31, 3), (30, .iload 4, 2), (32, .invokevirtual 253, 3), (35, .invokevirtual 276, 3), (38, .iadd, 1), (39, .istore_n 3, 1), (40, .iinc 4 1, 3), (43, .goto (-32), 3), (46, .iload_n 3, 1), (47, .ireturn, 1)])
set_option maxRecDepth 20000 in
theorem tX7_mostMilesBehind : ∀ q ∈ mX7_mostMilesBehind.2, decode mX7_mostMilesBehind.1.2.2.1 q.1 = .ok q.2 := by decide +kernel
def mX7_foresee : kw_M := ((RX7, yX7_foresee, cX7_foresee, 4, none), [(0, .iconst 0, 1), (1, .istore_n 2, 1), (2, .iload_n 2, 1), (3, .aload_n 0, 1), (4, .getfield 14, 3), (7, .iload_n 1, 1), (8, .invokevirtual 110, 3), (11, .if_icmp .ge 77, 3), (14, .iload_n 2, 1), (15, .bipush 6, 2), (17, .if_icmp .ge 71, 3), (20, .aload_n 0, 1), (21, .getfield 14, 3), (24, .iload_n 1, 1), (25, .iload_n 2, 1), (26, .invokevirtual 85, 3), (29, .istore_n 3, 1), (30, .aload_n 0, 1), (31, .getfield 63, 3), (34, .iload_n 2, 1), (35, .aload_n 0, 1), (36, .getfield 31, 3), (39, .getfield 117, 3), (42, .iload_n 3, 1), (43, .aload_n 0, 1), (44, .getfield 31, 3), (47, .iload_n 2, 1), (48, .invokevirtual 253, 3), (51, .invokevirtual 222, 3), (54, .iastore, 1), (55, .aload_n 0, 1), (56, .getfield 66, 3), (59, .iload_n 2, 1), (60, .aload_n 0, 1), (61, .getfield 31, 3), (64, .getfield 117, 3), (67, .iload_n 3, 1), (68, .aload_n 0, 1), (69, .getfield 31, 3), (72, .iload_n 2, 1), (73, .invokevirtual 253, 3), (76, .iconst 1, 1), (77, .iadd, 1), (78, .invokevirtual 222, 3), (81, .iastore, 1), (82, .iinc 2 1, 3), (85, .goto (-83), 3), (88, .return_, 1)])
set_option maxRecDepth 20000 in
theorem tX7_foresee : ∀ q ∈ mX7_foresee.2, decode mX7_foresee.1.2.2.1 q.1 = .ok q.2 := by decide +kernel
def mX7_milesByGusts : kw_M := ((RX7, yX7_milesByGusts, cX7_milesByGusts, 5, (some .int)), [(0, .aload_n 0, 1), (1, .getfield 31, 3), (4, .getfield 204, 3), (7, .istore_n 3, 1), (8, .iconst 0, 1), (9, .istore 4, 2), (11, .iload 4, 2), (13, .iload_n 1, 1), (14, .if_icmp .ge 39, 3), (17, .iload_n 3, 1), (18, .iload_n 2, 1), (19, .iload 4, 2), (21, .ishr, 1), (22, .iconst 1, 1), (23, .iand, 1), (24, .iconst 1, 1), (25, .if_icmp .ne 13, 3), (28, .aload_n 0, 1), (29, .getfield 66, 3), (32, .iload 4, 2), (34, .iaload, 1), (35, .goto 10, 3), (38, .aload_n 0, 1), (39, .getfield 63, 3), (42, .iload 4, 2), (44, .iaload, 1), (45, .iadd, 1), (46, .istore_n 3, 1), (47, .iinc 4 1, 3), (50, .goto (-39), 3), (53, .iload_n 3, 1), (54, .ireturn, 1)])
set_option maxRecDepth 20000 in
theorem tX7_milesByGusts : ∀ q ∈ mX7_milesByGusts.2, decode mX7_milesByGusts.1.2.2.1 q.1 = .ok q.2 := by decide +kernel
def mX7_weightOfGusts : kw_M := ((RX7, yX7_weightOfGusts, cX7_weightOfGusts, 6, (some .long)), [(0, .lconst 1, 1), (1, .lstore_n 3, 1), (2, .iconst 0, 1), (3, .istore 5, 2), (5, .iload 5, 2), (7, .iload_n 0, 1), (8, .if_icmp .ge 32, 3), (11, .lload_n 3, 1), (12, .iload_n 1, 1), (13, .iload 5, 2), (15, .ishr, 1), (16, .iconst 1, 1), (17, .iand, 1), (18, .iconst 1, 1), (19, .if_icmp .ne 8, 3), (22, .iload_n 2, 1), (23, .i2l, 1), (24, .goto 8, 3), (27, .bipush 12, 2), (29, .iload_n 2, 1), (30, .isub, 1), (31, .i2l, 1), (32, .lmul, 1), (33, .lstore_n 3, 1), (34, .iinc 5 1, 3), (37, .goto (-32), 3), (40, .lload_n 3, 1), (41, .lreturn, 1)])
set_option maxRecDepth 20000 in
theorem tX7_weightOfGusts : ∀ q ∈ mX7_weightOfGusts.2, decode mX7_weightOfGusts.1.2.2.1 q.1 = .ok q.2 := by decide +kernel
def mX7_play : kw_M := ((RX7, yX7_play, cX7_play, 8, (some .int)), [(0, .iload_n 2, 1), (1, .ifCond .gt 9, 3), (4, .aload_n 0, 1), (5, .iload_n 1, 1), (6, .invokevirtual 238, 3), (9, .ireturn, 1), (10, .iload_n 2, 1), (11, .iconst 2, 1), (12, .irem, 1), (13, .ifCond .ne 7, 3), (16, .iconst 1, 1), (17, .goto 4, 3), (20, .iconst 0, 1), (21, .istore_n 3, 1), (22, .aload_n 0, 1), (23, .iload_n 1, 1), (24, .iload_n 2, 1), (25, .iconst 1, 1), (26, .isub, 1), (27, .invokestatic 288, 3), (30, .istore 4, 2), (32, .iconst 0, 1), (33, .istore 5, 2), (35, .iload 5, 2), (37, .aload_n 0, 1), (38, .getfield 351, 3), (41, .if_icmp .ge 73, 3), (44, .iload_n 1, 1), (45, .iload 5, 2), (47, .ishr, 1), (48, .iconst 1, 1), (49, .iand, 1), (50, .iconst 1, 1), (51, .if_icmp .ne 7, 3), (54, .iconst 1, 1), (55, .goto 4, 3), (58, .iconst 0, 1), (59, .istore 6, 2), (61, .iload 6, 2), (63, .iload_n 3, 1), (64, .if_icmp .ne 6, 3), (67, .goto 41, 3), (70, .aload_n 0, 1), (71, .iload_n 1, 1), (72, .iconst 1, 1), (73, .iload 5, 2), (75, .ishl, 1), (76, .ixor, 1), (77, .iload_n 2, 1), (78, .iconst 1, 1), (79, .isub, 1), (80, .invokestatic 288, 3), (83, .istore 7, 2), (85, .iload_n 3, 1), (86, .ifCond .eq 13, 3), (89, .iload 4, 2), (91, .iload 7, 2), (93, .invokestatic 352, 3), (96, .goto 10, 3), (99, .iload 4, 2), (101, .iload 7, 2), (103, .invokestatic 357, 3), (106, .istore 4, 2), (108, .iinc 5 1, 3), (111, .goto (-76), 3), (114, .iload 4, 2), (116, .ireturn, 1)])
set_option maxRecDepth 20000 in
theorem tX7_play : ∀ q ∈ mX7_play.2, decode mX7_play.1.2.2.1 q.1 = .ok q.2 := by decide +kernel
def mX7_isA : kw_M := ((RX7, yX7_isA, cX7_isA, 4, (some .boolean)), [(0, .iload_n 0, 1), (1, .istore_n 2, 1), (2, .iconst 0, 1), (3, .istore_n 3, 1), (4, .iload_n 3, 1), (5, .bipush 6, 2), (7, .if_icmp .ge 32, 3), (10, .iload_n 2, 1), (11, .ifCond .lt 28, 3), (14, .iload_n 2, 1), (15, .bipush 6, 2), (17, .if_icmp .ge 22, 3), (20, .iload_n 2, 1), (21, .iload_n 1, 1), (22, .if_icmp .ne 5, 3), (25, .iconst 1, 1), (26, .ireturn, 1), (27, .getstatic 360, 3), (30, .iload_n 2, 1), (31, .iaload, 1), (32, .istore_n 2, 1), (33, .iinc 3 1, 3), (36, .goto (-32), 3), (39, .iconst 0, 1), (40, .ireturn, 1)])
set_option maxRecDepth 20000 in
theorem tX7_isA : ∀ q ∈ mX7_isA.2, decode mX7_isA.1.2.2.1 q.1 = .ok q.2 := by decide +kernel
def mX7_pull : kw_M := ((RX7, yX7_pull, cX7_pull, 5, (some .int)), [(0, .iload_n 1, 1), (1, .iload_n 2, 1), (2, .imul, 1), (3, .istore_n 3, 1), (4, .iload_n 3, 1), (5, .iload_n 2, 1), (6, .iadd, 1), (7, .istore 4, 2), (9, .iload_n 0, 1), (10, .tableswitch 63 1 5 #[34, 37, 48, 51, 56], 34), (44, .iload 4, 2), (46, .ireturn, 1), (47, .iload_n 2, 1), (48, .iconst 3, 1), (49, .if_icmp .lt 7, 3), (52, .iload_n 3, 1), (53, .goto 4, 3), (56, .iconst 0, 1), (57, .ireturn, 1), (58, .iload_n 3, 1), (59, .ineg, 1), (60, .ireturn, 1), (61, .iconst 2, 1), (62, .iload 4, 2), (64, .imul, 1), (65, .ireturn, 1), (66, .iconst 2, 1), (67, .iload 4, 2), (69, .imul, 1), (70, .iconst 3, 1), (71, .idiv, 1), (72, .ireturn, 1), (73, .iload_n 3, 1), (74, .ireturn, 1)])
set_option maxRecDepth 20000 in
theorem tX7_pull : ∀ q ∈ mX7_pull.2, decode mX7_pull.1.2.2.1 q.1 = .ok q.2 := by decide +kernel
def mX7_weather : kw_M := ((RX7, yX7_weather, cX7_weather, 4, none), [(0, .iconst 0, 1), (1, .istore_n 3, 1), (2, .iload_n 3, 1), (3, .bipush 6, 2), (5, .if_icmp .ge 55, 3), (8, .iload_n 3, 1), (9, .aload_n 0, 1), (10, .arraylength, 1), (11, .if_icmp .ge 49, 3), (14, .iload_n 1, 1), (15, .iload_n 3, 1), (16, .ishr, 1), (17, .iconst 1, 1), (18, .iand, 1), (19, .ifCond .ne 6, 3), (22, .goto 32, 3), (25, .aload_n 0, 1), (26, .iload_n 3, 1), (27, .iload_n 2, 1), (28, .ifCond .le 15, 3), (31, .iconst 0, 1), (32, .aload_n 0, 1), (33, .iload_n 3, 1), (34, .iaload, 1), (35, .iconst 1, 1), (36, .isub, 1), (37, .invokestatic 352, 3), (40, .goto 13, 3), (43, .bipush 9, 2), (45, .aload_n 0, 1), (46, .iload_n 3, 1), (47, .iaload, 1), (48, .iconst 2, 1), (49, .iadd, 1), (50, .invokestatic 357, 3), (53, .iastore, 1), (54, .iinc 3 1, 3), (57, .goto (-55), 3), (60, .return_, 1)])
set_option maxRecDepth 20000 in
theorem tX7_weather : ∀ q ∈ mX7_weather.2, decode mX7_weather.1.2.2.1 q.1 = .ok q.2 := by decide +kernel
def mJ6_bitCount_0f7a4 : kw_M := ((RJ6, yJ6_bitCount_0f7a4, cJ6_bitCount_0f7a4, 1, (some .int)), [(0, .iload_n 0, 1), (1, .iload_n 0, 1), (2, .iconst 1, 1), (3, .iushr, 1), (4, .ldc_w 265, 3), (7, .iand, 1), (8, .isub, 1), (9, .istore_n 0, 1), (10, .iload_n 0, 1), (11, .ldc_w 266, 3), (14, .iand, 1), (15, .iload_n 0, 1), (16, .iconst 2, 1), (17, .iushr, 1), (18, .ldc_w 266, 3), (21, .iand, 1), (22, .iadd, 1), (23, .istore_n 0, 1), (24, .iload_n 0, 1), (25, .iload_n 0, 1), (26, .iconst 4, 1), (27, .iushr, 1), (28, .iadd, 1), (29, .ldc_w 267, 3), (32, .iand, 1), (33, .istore_n 0, 1), (34, .iload_n 0, 1), (35, .iload_n 0, 1), (36, .bipush 8, 2), (38, .iushr, 1), (39, .iadd, 1), (40, .istore_n 0, 1), (41, .iload_n 0, 1), (42, .iload_n 0, 1), (43, .bipush 16, 2), (45, .iushr, 1), (46, .iadd, 1), (47, .istore_n 0, 1), (48, .iload_n 0, 1), (49, .bipush 63, 2), (51, .iand, 1), (52, .ireturn, 1)])
set_option maxRecDepth 20000 in
theorem tJ6_bitCount_0f7a4 : ∀ q ∈ mJ6_bitCount_0f7a4.2, decode mJ6_bitCount_0f7a4.1.2.2.1 q.1 = .ok q.2 := by decide +kernel
def mJ9_abs_067f4 : kw_M := ((RJ9, yJ9_abs_067f4, cJ9_abs_067f4, 2, (some .long)), [(0, .lload_n 0, 1), (1, .lconst 0, 1), (2, .lcmp, 1), (3, .ifCond .ge 8, 3), (6, .lload_n 0, 1), (7, .lneg, 1), (8, .goto 4, 3), (11, .lload_n 0, 1), (12, .lreturn, 1)])
set_option maxRecDepth 20000 in
theorem tJ9_abs_067f4 : ∀ q ∈ mJ9_abs_067f4.2, decode mJ9_abs_067f4.1.2.2.1 q.1 = .ok q.2 := by decide +kernel
def mJ9_max_7cf53 : kw_M := ((RJ9, yJ9_max_7cf53, cJ9_max_7cf53, 2, (some .int)), [(0, .iload_n 0, 1), (1, .iload_n 1, 1), (2, .if_icmp .lt 7, 3), (5, .iload_n 0, 1), (6, .goto 4, 3), (9, .iload_n 1, 1), (10, .ireturn, 1)])
set_option maxRecDepth 20000 in
theorem tJ9_max_7cf53 : ∀ q ∈ mJ9_max_7cf53.2, decode mJ9_max_7cf53.1.2.2.1 q.1 = .ok q.2 := by decide +kernel
def mJ9_min_7cf53 : kw_M := ((RJ9, yJ9_min_7cf53, cJ9_min_7cf53, 2, (some .int)), [(0, .iload_n 0, 1), (1, .iload_n 1, 1), (2, .if_icmp .gt 7, 3), (5, .iload_n 0, 1), (6, .goto 4, 3), (9, .iload_n 1, 1), (10, .ireturn, 1)])
set_option maxRecDepth 20000 in
theorem tJ9_min_7cf53 : ∀ q ∈ mJ9_min_7cf53.2, decode mJ9_min_7cf53.1.2.2.1 q.1 = .ok q.2 := by decide +kernel
def mJ7_fill_53178 : kw_M := ((RJ7, yJ7_fill_53178, cJ7_fill_53178, 4, none), [(0, .iconst 0, 1), (1, .istore_n 2, 1), (2, .aload_n 0, 1), (3, .arraylength, 1), (4, .istore_n 3, 1), (5, .iload_n 2, 1), (6, .iload_n 3, 1), (7, .if_icmp .ge 13, 3), (10, .aload_n 0, 1), (11, .iload_n 2, 1), (12, .iload_n 1, 1), (13, .iastore, 1), (14, .iinc 2 1, 3), (17, .goto (-12), 3), (20, .return_, 1)])
set_option maxRecDepth 20000 in
theorem tJ7_fill_53178 : ∀ q ∈ mJ7_fill_53178.2, decode mJ7_fill_53178.1.2.2.1 q.1 = .ok q.2 := by decide +kernel
end
section
def mX8_in : kw_M := ((RX8, yX8_in, cX8_in, 3, (some .boolean)), [(0, .iload_n 0, 1), (1, .iload_n 1, 1), (2, .if_icmp .lt 12, 3), (5, .iload_n 0, 1), (6, .iload_n 2, 1), (7, .if_icmp .gt 7, 3), (10, .iconst 1, 1), (11, .goto 4, 3), (14, .iconst 0, 1), (15, .ireturn, 1)])
set_option maxRecDepth 20000 in
theorem tX8_in : ∀ q ∈ mX8_in.2, decode mX8_in.1.2.2.1 q.1 = .ok q.2 := by decide +kernel
def mX8_meet : kw_M := ((RX8, yX8_meet, cX8_meet, 2, (some .int)), [(0, .aload_n 0, 1), (1, .iload_n 1, 1), (2, .putfield 84, 3), (5, .aload_n 0, 1), (6, .getfield 7, 3), (9, .iload_n 1, 1), (10, .dup2, 1), (11, .iaload, 1), (12, .iconst 1, 1), (13, .iadd, 1), (14, .iastore, 1), (15, .bipush (-3), 2), (17, .ireturn, 1)])
set_option maxRecDepth 20000 in
theorem tX8_meet : ∀ q ∈ mX8_meet.2, decode mX8_meet.1.2.2.1 q.1 = .ok q.2 := by decide +kernel
def mX8_ask : kw_M := ((RX8, yX8_ask, cX8_ask, 3, (some .int)), [(0, .aload_n 0, 1), (1, .iload_n 1, 1), (2, .putfield 87, 3), (5, .iload_n 2, 1), (6, .ireturn, 1)])
set_option maxRecDepth 20000 in
theorem tX8_ask : ∀ q ∈ mX8_ask.2, decode mX8_ask.1.2.2.1 q.1 = .ok q.2 := by decide +kernel
def mX8_has : kw_M := ((RX8, yX8_has, cX8_has, 2, (some .boolean)), [(0, .iload_n 0, 1), (1, .iload_n 1, 1), (2, .ishr, 1), (3, .iconst 1, 1), (4, .iand, 1), (5, .iconst 1, 1), (6, .if_icmp .ne 7, 3), (9, .iconst 1, 1), (10, .goto 4, 3), (13, .iconst 0, 1), (14, .ireturn, 1)])
set_option maxRecDepth 20000 in
theorem tX8_has : ∀ q ∈ mX8_has.2, decode mX8_has.1.2.2.1 q.1 = .ok q.2 := by decide +kernel
def mX8_greater : kw_M := ((RX8, yX8_greater, cX8_greater, 2, (some .int)), [(0, .iload_n 0, 1), (1, .iload_n 1, 1), (2, .if_icmp .le 7, 3), (5, .iload_n 0, 1), (6, .goto 4, 3), (9, .iload_n 1, 1), (10, .ireturn, 1)])
set_option maxRecDepth 20000 in
theorem tX8_greater : ∀ q ∈ mX8_greater.2, decode mX8_greater.1.2.2.1 q.1 = .ok q.2 := by decide +kernel
def mX8_part : kw_M := ((RX8, yX8_part, cX8_part, 11, (some .int)), [(0, .lload_n 1, 1), (1, .lconst 0, 1), (2, .lcmp, 1), (3, .ifCond .ge 8, 3), (6, .lload_n 1, 1), (7, .lneg, 1), (8, .goto 4, 3), (11, .lload_n 1, 1), (12, .lstore 5, 2), (14, .lload_n 3, 1), (15, .lstore 7, 2), (17, .lload 7, 2), (19, .lconst 0, 1), (20, .lcmp, 1), (21, .ifCond .eq 21, 3), (24, .lload 5, 2), (26, .lload 7, 2), (28, .lrem, 1), (29, .lstore 9, 2), (31, .lload 7, 2), (33, .lstore 5, 2), (35, .lload 9, 2), (37, .lstore 7, 2), (39, .goto (-22), 3), (42, .aload_n 0, 1), (43, .lload_n 1, 1), (44, .lload 5, 2), (46, .ldiv, 1), (47, .putfield 90, 3), (50, .aload_n 0, 1), (51, .lload_n 3, 1), (52, .lload 5, 2), (54, .ldiv, 1), (55, .putfield 13, 3), (58, .iconst 1, 1), (59, .ireturn, 1)])
set_option maxRecDepth 20000 in
theorem tX8_part : ∀ q ∈ mX8_part.2, decode mX8_part.1.2.2.1 q.1 = .ok q.2 := by decide +kernel
def mX8_isRow : kw_M := ((RX8, yX8_isRow, cX8_isRow, 1, (some .boolean)), [(0, .iload_n 0, 1), (1, .iconst 0, 1), (2, .iconst 5, 1), (3, .invokestatic 93, 3), (6, .ireturn, 1)])
set_option maxRecDepth 20000 in
theorem tX8_isRow : ∀ q ∈ mX8_isRow.2, decode mX8_isRow.1.2.2.1 q.1 = .ok q.2 := by decide +kernel
def mX8_isText : kw_M := ((RX8, yX8_isText, cX8_isText, 1, (some .boolean)), [(0, .iload_n 0, 1), (1, .iconst 0, 1), (2, .iconst 3, 1), (3, .invokestatic 93, 3), (6, .ireturn, 1)])
set_option maxRecDepth 20000 in
theorem tX8_isText : ∀ q ∈ mX8_isText.2, decode mX8_isText.1.2.2.1 q.1 = .ok q.2 := by decide +kernel
def mX8_askedRow : kw_M := ((RX8, yX8_askedRow, cX8_askedRow, 2, (some .int)), [(0, .iload_n 1, 1), (1, .invokestatic 97, 3), (4, .ifCond .ne 7, 3), (7, .iconst (-1), 1), (8, .goto 21, 3), (11, .aload_n 0, 1), (12, .getfield 17, 3), (15, .iload_n 1, 1), (16, .iaload, 1), (17, .ifCond .ge 11, 3), (20, .aload_n 0, 1), (21, .iconst 1, 1), (22, .invokevirtual 101, 3), (25, .goto 4, 3), (28, .iconst 0, 1), (29, .ireturn, 1)])
set_option maxRecDepth 20000 in
theorem tX8_askedRow : ∀ q ∈ mX8_askedRow.2, decode mX8_askedRow.1.2.2.1 q.1 = .ok q.2 := by decide +kernel
def mX8_askedText : kw_M := ((RX8, yX8_askedText, cX8_askedText, 2, (some .int)), [(0, .iload_n 1, 1), (1, .invokestatic 105, 3), (4, .ifCond .ne 7, 3), (7, .iconst (-1), 1), (8, .goto 21, 3), (11, .aload_n 0, 1), (12, .getfield 26, 3), (15, .iload_n 1, 1), (16, .iaload, 1), (17, .ifCond .ge 11, 3), (20, .aload_n 0, 1), (21, .iconst 1, 1), (22, .invokevirtual 101, 3), (25, .goto 4, 3), (28, .iconst 0, 1), (29, .ireturn, 1)])
set_option maxRecDepth 20000 in
theorem tX8_askedText : ∀ q ∈ mX8_askedText.2, decode mX8_askedText.1.2.2.1 q.1 = .ok q.2 := by decide +kernel
def mX8_rowAt : kw_M := ((RX8, yX8_rowAt, cX8_rowAt, 3, (some .int)), [(0, .aload_n 0, 1), (1, .getfield 20, 3), (4, .bipush 40, 2), (6, .iload_n 1, 1), (7, .imul, 1), (8, .iload_n 2, 1), (9, .iadd, 1), (10, .iaload, 1), (11, .ireturn, 1)])
set_option maxRecDepth 20000 in
theorem tX8_rowAt : ∀ q ∈ mX8_rowAt.2, decode mX8_rowAt.1.2.2.1 q.1 = .ok q.2 := by decide +kernel
def mX8_setRow : kw_M := ((RX8, yX8_setRow, cX8_setRow, 4, none), [(0, .aload_n 0, 1), (1, .getfield 20, 3), (4, .bipush 40, 2), (6, .iload_n 1, 1), (7, .imul, 1), (8, .iload_n 2, 1), (9, .iadd, 1), (10, .iload_n 3, 1), (11, .iastore, 1), (12, .return_, 1)])
set_option maxRecDepth 20000 in
theorem tX8_setRow : ∀ q ∈ mX8_setRow.2, decode mX8_setRow.1.2.2.1 q.1 = .ok q.2 := by decide +kernel
def mX8_row : kw_M := ((RX8, yX8_row, cX8_row, 4, (some .int)), [(0, .iload_n 1, 1), (1, .invokestatic 97, 3), (4, .ifCond .eq 9, 3), (7, .iload_n 2, 1), (8, .bipush 40, 2), (10, .if_icmp .le 5, 3), (13, .iconst (-1), 1), (14, .ireturn, 1), (15, .iload_n 2, 1), (16, .ifCond .ge 9, 3), (19, .aload_n 0, 1), (20, .iconst 5, 1), (21, .invokevirtual 101, 3), (24, .ireturn, 1), (25, .aload_n 0, 1), (26, .getfield 17, 3), (29, .iload_n 1, 1), (30, .iload_n 2, 1), (31, .iastore, 1), (32, .iconst 0, 1), (33, .istore_n 3, 1), (34, .iload_n 3, 1), (35, .bipush 40, 2), (37, .if_icmp .ge 16, 3), (40, .aload_n 0, 1), (41, .iload_n 1, 1), (42, .iload_n 3, 1), (43, .iconst 0, 1), (44, .invokevirtual 108, 3), (47, .iinc 3 1, 3), (50, .goto (-16), 3), (53, .iload_n 2, 1), (54, .ireturn, 1)])
set_option maxRecDepth 20000 in
theorem tX8_row : ∀ q ∈ mX8_row.2, decode mX8_row.1.2.2.1 q.1 = .ok q.2 := by decide +kernel
def mX8_at : kw_M := ((RX8, yX8_at, cX8_at, 4, (some .int)), [(0, .aload_n 0, 1), (1, .iload_n 1, 1), (2, .invokevirtual 112, 3), (5, .istore_n 3, 1), (6, .iload_n 3, 1), (7, .ifCond .ge 5, 3), (10, .iload_n 3, 1), (11, .ireturn, 1), (12, .iload_n 2, 1), (13, .iconst 0, 1), (14, .aload_n 0, 1), (15, .getfield 17, 3), (18, .iload_n 1, 1), (19, .iaload, 1), (20, .iconst 1, 1), (21, .isub, 1), (22, .invokestatic 93, 3), (25, .ifCond .eq 17, 3), (28, .aload_n 0, 1), (29, .aload_n 0, 1), (30, .iload_n 1, 1), (31, .iload_n 2, 1), (32, .invokevirtual 115, 3), (35, .iconst 1, 1), (36, .invokevirtual 119, 3), (39, .goto 8, 3), (42, .aload_n 0, 1), (43, .iconst 2, 1), (44, .invokevirtual 101, 3), (47, .ireturn, 1)])
set_option maxRecDepth 20000 in
theorem tX8_at : ∀ q ∈ mX8_at.2, decode mX8_at.1.2.2.1 q.1 = .ok q.2 := by decide +kernel
def mX8_lay : kw_M := ((RX8, yX8_lay, cX8_lay, 5, (some .int)), [(0, .aload_n 0, 1), (1, .iload_n 1, 1), (2, .iload_n 2, 1), (3, .invokevirtual 122, 3), (6, .istore 4, 2), (8, .iload 4, 2), (10, .ifCond .ge 6, 3), (13, .iload 4, 2), (15, .ireturn, 1), (16, .aload_n 0, 1), (17, .iload_n 1, 1), (18, .iload_n 2, 1), (19, .iload_n 3, 1), (20, .invokevirtual 108, 3), (23, .iconst 1, 1), (24, .ireturn, 1)])
set_option maxRecDepth 20000 in
theorem tX8_lay : ∀ q ∈ mX8_lay.2, decode mX8_lay.1.2.2.1 q.1 = .ok q.2 := by decide +kernel
def mX8_tear : kw_M := ((RX8, yX8_tear, cX8_tear, 3, (some .int)), [(0, .aload_n 0, 1), (1, .iload_n 1, 1), (2, .invokevirtual 112, 3), (5, .istore_n 2, 1), (6, .iload_n 2, 1), (7, .ifCond .ge 5, 3), (10, .iload_n 2, 1), (11, .ireturn, 1), (12, .aload_n 0, 1), (13, .getfield 17, 3), (16, .iload_n 1, 1), (17, .bipush (-9), 2), (19, .iastore, 1), (20, .iconst 1, 1), (21, .ireturn, 1)])
set_option maxRecDepth 20000 in
theorem tX8_tear : ∀ q ∈ mX8_tear.2, decode mX8_tear.1.2.2.1 q.1 = .ok q.2 := by decide +kernel
def mX8_copy : kw_M := ((RX8, yX8_copy, cX8_copy, 7, (some .int)), [(0, .iload_n 1, 1), (1, .invokestatic 97, 3), (4, .ifCond .eq 10, 3), (7, .iload_n 3, 1), (8, .invokestatic 97, 3), (11, .ifCond .ne 5, 3), (14, .iconst (-1), 1), (15, .ireturn, 1), (16, .iload 5, 2), (18, .ifCond .ge 9, 3), (21, .aload_n 0, 1), (22, .iconst 5, 1), (23, .invokevirtual 101, 3), (26, .ireturn, 1), (27, .aload_n 0, 1), (28, .getfield 17, 3), (31, .iload_n 1, 1), (32, .iaload, 1), (33, .ifCond .lt 12, 3), (36, .aload_n 0, 1), (37, .getfield 17, 3), (40, .iload_n 3, 1), (41, .iaload, 1), (42, .ifCond .ge 9, 3), (45, .aload_n 0, 1), (46, .iconst 1, 1), (47, .invokevirtual 101, 3), (50, .ireturn, 1), (51, .iload_n 2, 1), (52, .ifCond .lt 43, 3), (55, .iload 4, 2), (57, .ifCond .lt 38, 3), (60, .iload_n 2, 1), (61, .i2l, 1), (62, .iload 5, 2), (64, .i2l, 1), (65, .ladd, 1), (66, .aload_n 0, 1), (67, .getfield 17, 3), (70, .iload_n 1, 1), (71, .iaload, 1), (72, .i2l, 1), (73, .lcmp, 1), (74, .ifCond .gt 21, 3), (77, .iload 4, 2), (79, .i2l, 1), (80, .iload 5, 2), (82, .i2l, 1), (83, .ladd, 1), (84, .aload_n 0, 1), (85, .getfield 17, 3), (88, .iload_n 3, 1), (89, .iaload, 1), (90, .i2l, 1), (91, .lcmp, 1), (92, .ifCond .le 9, 3), (95, .aload_n 0, 1), (96, .iconst 2, 1), (97, .invokevirtual 101, 3), (100, .ireturn, 1), (101, .iconst 0, 1), (102, .istore 6, 2), (104, .iload 6, 2), (106, .iload 5, 2), (108, .if_icmp .ge 25, 3), (111, .aload_n 0, 1), (112, .getfield 23, 3), (115, .iload 6, 2), (117, .aload_n 0, 1), (118, .iload_n 1, 1), (119, .iload_n 2, 1), (120, .iload 6, 2), (122, .iadd, 1), (123, .invokevirtual 115, 3), (126, .iastore, 1), (127, .iinc 6 1, 3), (130, .goto (-26), 3), (133, .iconst 0, 1), (134, .istore 6, 2), (136, .iload 6, 2), (138, .iload 5, 2), (140, .if_icmp .ge 26, 3), (143, .aload_n 0, 1), (144, .iload_n 3, 1), (145, .iload 4, 2), (147, .iload 6, 2), (149, .iadd, 1), (150, .aload_n 0, 1), (151, .getfield 23, 3), (154, .iload 6, 2), (156, .iaload, 1), (157, .invokevirtual 108, 3), (160, .iinc 6 1, 3), (163, .goto (-27), 3), (166, .iconst 1, 1), (167, .ireturn, 1)])
set_option maxRecDepth 20000 in
theorem tX8_copy : ∀ q ∈ mX8_copy.2, decode mX8_copy.1.2.2.1 q.1 = .ok q.2 := by decide +kernel
def mX8_mean : kw_M := ((RX8, yX8_mean, cX8_mean, 6, (some .int)), [(0, .aload_n 0, 1), (1, .iload_n 1, 1), (2, .invokevirtual 112, 3), (5, .istore_n 2, 1), (6, .iload_n 2, 1), (7, .ifCond .ge 5, 3), (10, .iload_n 2, 1), (11, .ireturn, 1), (12, .lconst 0, 1), (13, .lstore_n 3, 1), (14, .iconst 0, 1), (15, .istore 5, 2), (17, .iload 5, 2), (19, .aload_n 0, 1), (20, .getfield 17, 3), (23, .iload_n 1, 1), (24, .iaload, 1), (25, .if_icmp .ge 20, 3), (28, .lload_n 3, 1), (29, .aload_n 0, 1), (30, .iload_n 1, 1), (31, .iload 5, 2), (33, .invokevirtual 115, 3), (36, .i2l, 1), (37, .ladd, 1), (38, .lstore_n 3, 1), (39, .iinc 5 1, 3), (42, .goto (-25), 3), (45, .aload_n 0, 1), (46, .getfield 17, 3), (49, .iload_n 1, 1), (50, .iaload, 1), (51, .ifCond .ne 11, 3), (54, .aload_n 0, 1), (55, .iconst 4, 1), (56, .invokevirtual 101, 3), (59, .goto 18, 3), (62, .aload_n 0, 1), (63, .lload_n 3, 1), (64, .aload_n 0, 1), (65, .getfield 17, 3), (68, .iload_n 1, 1), (69, .iaload, 1), (70, .i2l, 1), (71, .ldiv, 1), (72, .l2i, 1), (73, .iconst 1, 1), (74, .invokevirtual 119, 3), (77, .ireturn, 1)])
set_option maxRecDepth 20000 in
theorem tX8_mean : ∀ q ∈ mX8_mean.2, decode mX8_mean.1.2.2.1 q.1 = .ok q.2 := by decide +kernel
def mX8_text : kw_M := ((RX8, yX8_text, cX8_text, 4, (some .int)), [(0, .iload_n 1, 1), (1, .invokestatic 105, 3), (4, .ifCond .eq 9, 3), (7, .iload_n 2, 1), (8, .bipush 60, 2), (10, .if_icmp .le 5, 3), (13, .iconst (-1), 1), (14, .ireturn, 1), (15, .iload_n 2, 1), (16, .ifCond .ge 9, 3), (19, .aload_n 0, 1), (20, .iconst 5, 1), (21, .invokevirtual 101, 3), (24, .ireturn, 1), (25, .aload_n 0, 1), (26, .getfield 26, 3), (29, .iload_n 1, 1), (30, .iload_n 2, 1), (31, .iastore, 1), (32, .iconst 0, 1), (33, .istore_n 3, 1), (34, .iload_n 3, 1), (35, .bipush 60, 2), (37, .if_icmp .ge 22, 3), (40, .aload_n 0, 1), (41, .getfield 29, 3), (44, .bipush 60, 2), (46, .iload_n 1, 1), (47, .imul, 1), (48, .iload_n 3, 1), (49, .iadd, 1), (50, .bipush 32, 2), (52, .iastore, 1), (53, .iinc 3 1, 3), (56, .goto (-22), 3), (59, .iload_n 2, 1), (60, .ireturn, 1)])
set_option maxRecDepth 20000 in
theorem tX8_text : ∀ q ∈ mX8_text.2, decode mX8_text.1.2.2.1 q.1 = .ok q.2 := by decide +kernel
def mX8_put : kw_M := ((RX8, yX8_put, cX8_put, 6, (some .int)), [(0, .aload_n 0, 1), (1, .iload_n 1, 1), (2, .invokevirtual 125, 3), (5, .istore 4, 2), (7, .iload 4, 2), (9, .ifCond .ge 6, 3), (12, .iload 4, 2), (14, .ireturn, 1), (15, .iload_n 2, 1), (16, .iconst 0, 1), (17, .aload_n 0, 1), (18, .getfield 26, 3), (21, .iload_n 1, 1), (22, .iaload, 1), (23, .iconst 1, 1), (24, .isub, 1), (25, .invokestatic 93, 3), (28, .ifCond .ne 9, 3), (31, .aload_n 0, 1), (32, .iconst 2, 1), (33, .invokevirtual 101, 3), (36, .ireturn, 1), (37, .aload_n 0, 1), (38, .getfield 29, 3), (41, .bipush 60, 2), (43, .iload_n 1, 1), (44, .imul, 1), (45, .iload_n 2, 1), (46, .iadd, 1), (47, .iaload, 1), (48, .istore 5, 2), (50, .aload_n 0, 1), (51, .getfield 29, 3), (54, .bipush 60, 2), (56, .iload_n 1, 1), (57, .imul, 1), (58, .iload_n 2, 1), (59, .iadd, 1), (60, .iload_n 3, 1), (61, .i2b, 1), (62, .iastore, 1), (63, .iload 5, 2), (65, .sipush 1000, 3), (68, .iadd, 1), (69, .ireturn, 1)])
set_option maxRecDepth 20000 in
theorem tX8_put : ∀ q ∈ mX8_put.2, decode mX8_put.1.2.2.1 q.1 = .ok q.2 := by decide +kernel
def mX8_here : kw_M := ((RX8, yX8_here, cX8_here, 2, (some .int)), [(0, .aload_n 0, 1), (1, .getfield 128, 3), (4, .aload_n 0, 1), (5, .getfield 26, 3), (8, .iload_n 1, 1), (9, .iaload, 1), (10, .if_icmp .ge 20, 3), (13, .aload_n 0, 1), (14, .getfield 29, 3), (17, .bipush 60, 2), (19, .iload_n 1, 1), (20, .imul, 1), (21, .aload_n 0, 1), (22, .getfield 128, 3), (25, .iadd, 1), (26, .iaload, 1), (27, .goto 5, 3), (30, .bipush (-9), 2), (32, .ireturn, 1)])
set_option maxRecDepth 20000 in
theorem tX8_here : ∀ q ∈ mX8_here.2, decode mX8_here.1.2.2.1 q.1 = .ok q.2 := by decide +kernel
def mX8_skip : kw_M := ((RX8, yX8_skip, cX8_skip, 2, none), [(0, .aload_n 0, 1), (1, .iload_n 1, 1), (2, .invokevirtual 131, 3), (5, .bipush 32, 2), (7, .if_icmp .ne 16, 3), (10, .aload_n 0, 1), (11, .dup, 1), (12, .getfield 128, 3), (15, .iconst 1, 1), (16, .iadd, 1), (17, .putfield 128, 3), (20, .goto (-20), 3), (23, .return_, 1)])
set_option maxRecDepth 20000 in
theorem tX8_skip : ∀ q ∈ mX8_skip.2, decode mX8_skip.1.2.2.1 q.1 = .ok q.2 := by decide +kernel
def mX8_figure : kw_M := ((RX8, yX8_figure, cX8_figure, 6, (some .boolean)), [(0, .aload_n 0, 1), (1, .iload_n 1, 1), (2, .invokevirtual 131, 3), (5, .bipush 48, 2), (7, .isub, 1), (8, .istore 5, 2), (10, .iload 5, 2), (12, .iload_n 3, 1), (13, .iload 4, 2), (15, .invokestatic 93, 3), (18, .ifCond .ne 5, 3), (21, .iconst 0, 1), (22, .ireturn, 1), (23, .aload_n 0, 1), (24, .getfield 54, 3), (27, .iload_n 2, 1), (28, .iload 5, 2), (30, .iastore, 1), (31, .aload_n 0, 1), (32, .dup, 1), (33, .getfield 128, 3), (36, .iconst 1, 1), (37, .iadd, 1), (38, .putfield 128, 3), (41, .iconst 1, 1), (42, .ireturn, 1)])
set_option maxRecDepth 20000 in
theorem tX8_figure : ∀ q ∈ mX8_figure.2, decode mX8_figure.1.2.2.1 q.1 = .ok q.2 := by decide +kernel
def mX8_readsWinds : kw_M := ((RX8, yX8_readsWinds, cX8_readsWinds, 2, (some .boolean)), [(0, .aload_n 0, 1), (1, .iload_n 1, 1), (2, .invokevirtual 134, 3), (5, .aload_n 0, 1), (6, .iload_n 1, 1), (7, .invokevirtual 131, 3), (10, .bipush 119, 2), (12, .if_icmp .eq 5, 3), (15, .iconst 0, 1), (16, .ireturn, 1), (17, .aload_n 0, 1), (18, .dup, 1), (19, .getfield 128, 3), (22, .iconst 1, 1), (23, .iadd, 1), (24, .putfield 128, 3), (27, .aload_n 0, 1), (28, .iconst 0, 1), (29, .putfield 138, 3), (32, .aload_n 0, 1), (33, .getfield 138, 3), (36, .bipush 8, 2), (38, .if_icmp .ge 59, 3), (41, .aload_n 0, 1), (42, .iload_n 1, 1), (43, .invokevirtual 131, 3), (46, .bipush 48, 2), (48, .isub, 1), (49, .iconst 0, 1), (50, .iconst 5, 1), (51, .invokestatic 93, 3), (54, .ifCond .eq 43, 3), (57, .aload_n 0, 1), (58, .getfield 51, 3), (61, .aload_n 0, 1), (62, .getfield 138, 3), (65, .aload_n 0, 1), (66, .iload_n 1, 1), (67, .invokevirtual 131, 3), (70, .bipush 48, 2), (72, .isub, 1), (73, .iastore, 1), (74, .aload_n 0, 1), (75, .dup, 1), (76, .getfield 138, 3), (79, .iconst 1, 1), (80, .iadd, 1), (81, .putfield 138, 3), (84, .aload_n 0, 1), (85, .dup, 1), (86, .getfield 128, 3), (89, .iconst 1, 1), (90, .iadd, 1), (91, .putfield 128, 3), (94, .goto (-62), 3), (97, .aload_n 0, 1), (98, .getfield 138, 3), (101, .ifCond .le 7, 3), (104, .iconst 1, 1), (105, .goto 4, 3), (108, .iconst 0, 1), (109, .ireturn, 1)])
set_option maxRecDepth 20000 in
theorem tX8_readsWinds : ∀ q ∈ mX8_readsWinds.2, decode mX8_readsWinds.1.2.2.1 q.1 = .ok q.2 := by decide +kernel
def mX8_kindBy : kw_M := ((RX8, yX8_kindBy, cX8_kindBy, 1, (some .int)), [(0, .iload_n 0, 1), (1, .bipush 108, 2), (3, .if_icmp .ne 7, 3), (6, .iconst 0, 1), (7, .goto 55, 3), (10, .iload_n 0, 1), (11, .bipush 115, 2), (13, .if_icmp .ne 7, 3), (16, .iconst 1, 1), (17, .goto 45, 3), (20, .iload_n 0, 1), (21, .bipush 98, 2), (23, .if_icmp .ne 7, 3), (26, .iconst 2, 1), (27, .goto 35, 3), (30, .iload_n 0, 1), (31, .bipush 107, 2), (33, .if_icmp .ne 7, 3), (36, .iconst 3, 1), (37, .goto 25, 3), (40, .iload_n 0, 1), (41, .bipush 111, 2), (43, .if_icmp .ne 7, 3), (46, .iconst 4, 1), (47, .goto 15, 3), (50, .iload_n 0, 1), (51, .bipush 112, 2), (53, .if_icmp .ne 7, 3), (56, .iconst 5, 1), (57, .goto 5, 3), (60, .bipush (-9), 2), (62, .ireturn, 1)])
set_option maxRecDepth 20000 in
theorem tX8_kindBy : ∀ q ∈ mX8_kindBy.2, decode mX8_kindBy.1.2.2.1 q.1 = .ok q.2 := by decide +kernel
def mX8_readsLine : kw_M := ((RX8, yX8_readsLine, cX8_readsLine, 4, (some .boolean)), [(0, .aload_n 0, 1), (1, .iload_n 1, 1), (2, .invokevirtual 131, 3), (5, .invokestatic 141, 3), (8, .istore_n 2, 1), (9, .iload_n 2, 1), (10, .bipush (-9), 2), (12, .if_icmp .eq 12, 3), (15, .aload_n 0, 1), (16, .getfield 144, 3), (19, .bipush 6, 2), (21, .if_icmp .ne 5, 3), (24, .iconst 0, 1), (25, .ireturn, 1), (26, .iconst 4, 1), (27, .aload_n 0, 1), (28, .getfield 144, 3), (31, .imul, 1), (32, .istore_n 3, 1), (33, .aload_n 0, 1), (34, .getfield 54, 3), (37, .iload_n 3, 1), (38, .iload_n 2, 1), (39, .iastore, 1), (40, .aload_n 0, 1), (41, .dup, 1), (42, .getfield 128, 3), (45, .iconst 1, 1), (46, .iadd, 1), (47, .putfield 128, 3), (50, .aload_n 0, 1), (51, .iload_n 1, 1), (52, .iload_n 3, 1), (53, .iconst 1, 1), (54, .iadd, 1), (55, .iconst 0, 1), (56, .bipush 8, 2), (58, .invokevirtual 147, 3), (61, .ifCond .eq 31, 3), (64, .aload_n 0, 1), (65, .iload_n 1, 1), (66, .iload_n 3, 1), (67, .iconst 2, 1), (68, .iadd, 1), (69, .iconst 1, 1), (70, .bipush 9, 2), (72, .invokevirtual 147, 3), (75, .ifCond .eq 17, 3), (78, .aload_n 0, 1), (79, .iload_n 1, 1), (80, .iload_n 3, 1), (81, .iconst 3, 1), (82, .iadd, 1), (83, .iconst 0, 1), (84, .bipush 9, 2), (86, .invokevirtual 147, 3), (89, .ifCond .ne 5, 3), (92, .iconst 0, 1), (93, .ireturn, 1), (94, .aload_n 0, 1), (95, .dup, 1), (96, .getfield 144, 3), (99, .iconst 1, 1), (100, .iadd, 1), (101, .putfield 144, 3), (104, .iconst 1, 1), (105, .ireturn, 1)])
set_option maxRecDepth 20000 in
theorem tX8_readsLine : ∀ q ∈ mX8_readsLine.2, decode mX8_readsLine.1.2.2.1 q.1 = .ok q.2 := by decide +kernel
def mX8_readsTown : kw_M := ((RX8, yX8_readsTown, cX8_readsTown, 2, (some .boolean)), [(0, .aload_n 0, 1), (1, .iconst 0, 1), (2, .putfield 128, 3), (5, .aload_n 0, 1), (6, .iconst 0, 1), (7, .putfield 144, 3), (10, .aload_n 0, 1), (11, .iload_n 1, 1), (12, .invokevirtual 151, 3), (15, .ifCond .ne 5, 3), (18, .iconst 0, 1), (19, .ireturn, 1), (20, .aload_n 0, 1), (21, .iload_n 1, 1), (22, .invokevirtual 134, 3), (25, .aload_n 0, 1), (26, .getfield 128, 3), (29, .aload_n 0, 1), (30, .getfield 26, 3), (33, .iload_n 1, 1), (34, .iaload, 1), (35, .if_icmp .ge 21, 3), (38, .aload_n 0, 1), (39, .iload_n 1, 1), (40, .invokevirtual 154, 3), (43, .ifCond .ne 5, 3), (46, .iconst 0, 1), (47, .ireturn, 1), (48, .aload_n 0, 1), (49, .iload_n 1, 1), (50, .invokevirtual 134, 3), (53, .goto (-28), 3), (56, .aload_n 0, 1), (57, .getfield 144, 3), (60, .ifCond .le 7, 3), (63, .iconst 1, 1), (64, .goto 4, 3), (67, .iconst 0, 1), (68, .ireturn, 1)])
set_option maxRecDepth 20000 in
theorem tX8_readsTown : ∀ q ∈ mX8_readsTown.2, decode mX8_readsTown.1.2.2.1 q.1 = .ok q.2 := by decide +kernel
def mX8_goesOn : kw_M := ((RX8, yX8_goesOn, cX8_goesOn, 2, (some .int)), [(0, .aload_n 0, 1), (1, .iload_n 1, 1), (2, .invokevirtual 157, 3), (5, .ifCond .eq 8, 3), (8, .bipush (-9), 2), (10, .goto 7, 3), (13, .aload_n 0, 1), (14, .getfield 128, 3), (17, .ireturn, 1)])
set_option maxRecDepth 20000 in
theorem tX8_goesOn : ∀ q ∈ mX8_goesOn.2, decode mX8_goesOn.1.2.2.1 q.1 = .ok q.2 := by decide +kernel
def mX8_fault : kw_M := ((RX8, yX8_fault, cX8_fault, 3, (some .int)), [(0, .aload_n 0, 1), (1, .iload_n 1, 1), (2, .invokevirtual 125, 3), (5, .istore_n 2, 1), (6, .iload_n 2, 1), (7, .ifCond .ge 7, 3), (10, .iload_n 2, 1), (11, .goto 8, 3), (14, .aload_n 0, 1), (15, .iload_n 1, 1), (16, .invokevirtual 160, 3), (19, .ireturn, 1)])
set_option maxRecDepth 20000 in
theorem tX8_fault : ∀ q ∈ mX8_fault.2, decode mX8_fault.1.2.2.1 q.1 = .ok q.2 := by decide +kernel
def mX8_town : kw_M := ((RX8, yX8_town, cX8_town, 4, (some .int)), [(0, .aload_n 0, 1), (1, .iload_n 1, 1), (2, .invokevirtual 125, 3), (5, .istore_n 2, 1), (6, .iload_n 2, 1), (7, .ifCond .ge 5, 3), (10, .iload_n 2, 1), (11, .ireturn, 1), (12, .aload_n 0, 1), (13, .iload_n 1, 1), (14, .invokevirtual 160, 3), (17, .bipush (-9), 2), (19, .if_icmp .eq 6, 3), (22, .bipush (-4), 2), (24, .ireturn, 1), (25, .aload_n 0, 1), (26, .aload_n 0, 1), (27, .getfield 144, 3), (30, .putfield 163, 3), (33, .aload_n 0, 1), (34, .aload_n 0, 1), (35, .getfield 138, 3), (38, .putfield 32, 3), (41, .iconst 0, 1), (42, .istore_n 3, 1), (43, .iload_n 3, 1), (44, .aload_n 0, 1), (45, .getfield 32, 3), (48, .if_icmp .ge 21, 3), (51, .aload_n 0, 1), (52, .getfield 36, 3), (55, .iload_n 3, 1), (56, .aload_n 0, 1), (57, .getfield 51, 3), (60, .iload_n 3, 1), (61, .iaload, 1), (62, .iastore, 1), (63, .iinc 3 1, 3), (66, .goto (-23), 3), (69, .iconst 0, 1), (70, .istore_n 3, 1), (71, .iload_n 3, 1), (72, .aload_n 0, 1), (73, .getfield 163, 3), (76, .if_icmp .ge 80, 3), (79, .aload_n 0, 1), (80, .getfield 39, 3), (83, .iload_n 3, 1), (84, .aload_n 0, 1), (85, .getfield 54, 3), (88, .iconst 4, 1), (89, .iload_n 3, 1), (90, .imul, 1), (91, .iaload, 1), (92, .iastore, 1), (93, .aload_n 0, 1), (94, .getfield 42, 3), (97, .iload_n 3, 1), (98, .aload_n 0, 1), (99, .getfield 54, 3), (102, .iconst 4, 1), (103, .iload_n 3, 1), (104, .imul, 1), (105, .iconst 1, 1), (106, .iadd, 1), (107, .iaload, 1), (108, .iconst 4, 1), (109, .isub, 1), (110, .iastore, 1), (111, .aload_n 0, 1), (112, .getfield 45, 3), (115, .iload_n 3, 1), (116, .aload_n 0, 1), (117, .getfield 54, 3), (120, .iconst 4, 1), (121, .iload_n 3, 1), (122, .imul, 1), (123, .iconst 2, 1), (124, .iadd, 1), (125, .iaload, 1), (126, .iastore, 1), (127, .aload_n 0, 1), (128, .getfield 48, 3), (131, .iload_n 3, 1), (132, .aload_n 0, 1), (133, .getfield 54, 3), (136, .iconst 4, 1), (137, .iload_n 3, 1), (138, .imul, 1), (139, .iconst 3, 1), (140, .iadd, 1), (141, .iaload, 1), (142, .iastore, 1), (143, .aload_n 0, 1), (144, .getfield 57, 3), (147, .iload_n 3, 1), (148, .iconst 0, 1), (149, .iastore, 1), (150, .iinc 3 1, 3), (153, .goto (-82), 3), (156, .aload_n 0, 1), (157, .iconst 0, 1), (158, .putfield 166, 3), (161, .aload_n 0, 1), (162, .iconst 0, 1), (163, .putfield 169, 3), (166, .aload_n 0, 1), (167, .iconst 0, 1), (168, .putfield 172, 3), (171, .aload_n 0, 1), (172, .iconst 0, 1), (173, .putfield 175, 3), (176, .aload_n 0, 1), (177, .iconst 0, 1), (178, .putfield 178, 3), (181, .iconst 0, 1), (182, .istore_n 3, 1), (183, .iload_n 3, 1), (184, .iconst 3, 1), (185, .if_icmp .ge 16, 3), (188, .aload_n 0, 1), (189, .getfield 63, 3), (192, .iload_n 3, 1), (193, .iconst 0, 1), (194, .iastore, 1), (195, .iinc 3 1, 3), (198, .goto (-15), 3), (201, .aload_n 0, 1), (202, .getfield 163, 3), (205, .ireturn, 1)])
set_option maxRecDepth 20000 in
theorem tX8_town : ∀ q ∈ mX8_town.2, decode mX8_town.1.2.2.1 q.1 = .ok q.2 := by decide +kernel
def mX8_isLine : kw_M := ((RX8, yX8_isLine, cX8_isLine, 2, (some .boolean)), [(0, .iload_n 1, 1), (1, .iconst 0, 1), (2, .aload_n 0, 1), (3, .getfield 163, 3), (6, .iconst 1, 1), (7, .isub, 1), (8, .invokestatic 93, 3), (11, .ireturn, 1)])
set_option maxRecDepth 20000 in
theorem tX8_isLine : ∀ q ∈ mX8_isLine.2, decode mX8_isLine.1.2.2.1 q.1 = .ok q.2 := by decide +kernel
def mX8_isSet : kw_M := ((RX8, yX8_isSet, cX8_isSet, 2, (some .boolean)), [(0, .iload_n 1, 1), (1, .iconst 0, 1), (2, .iconst 1, 1), (3, .aload_n 0, 1), (4, .getfield 163, 3), (7, .ishl, 1), (8, .iconst 1, 1), (9, .isub, 1), (10, .invokestatic 93, 3), (13, .ireturn, 1)])
set_option maxRecDepth 20000 in
theorem tX8_isSet : ∀ q ∈ mX8_isSet.2, decode mX8_isSet.1.2.2.1 q.1 = .ok q.2 := by decide +kernel
def mX8_windAt : kw_M := ((RX8, yX8_windAt, cX8_windAt, 2, (some .int)), [(0, .aload_n 0, 1), (1, .getfield 36, 3), (4, .iload_n 1, 1), (5, .aload_n 0, 1), (6, .getfield 32, 3), (9, .irem, 1), (10, .iaload, 1), (11, .ireturn, 1)])
set_option maxRecDepth 20000 in
theorem tX8_windAt : ∀ q ∈ mX8_windAt.2, decode mX8_windAt.1.2.2.1 q.1 = .ok q.2 := by decide +kernel
def mX8_pullBy : kw_M := ((RX8, yX8_pullBy, cX8_pullBy, 4, (some .int)), [(0, .iload_n 1, 1), (1, .iload_n 2, 1), (2, .imul, 1), (3, .iload_n 2, 1), (4, .iadd, 1), (5, .istore_n 3, 1), (6, .iload_n 0, 1), (7, .tableswitch 63 1 5 #[33, 35, 48, 53, 57], 33), (40, .iload_n 3, 1), (41, .ireturn, 1), (42, .iload_n 2, 1), (43, .iconst 3, 1), (44, .if_icmp .ge 7, 3), (47, .iconst 0, 1), (48, .goto 6, 3), (51, .iload_n 1, 1), (52, .iload_n 2, 1), (53, .imul, 1), (54, .ireturn, 1), (55, .iload_n 1, 1), (56, .ineg, 1), (57, .iload_n 2, 1), (58, .imul, 1), (59, .ireturn, 1), (60, .iconst 2, 1), (61, .iload_n 3, 1), (62, .imul, 1), (63, .ireturn, 1), (64, .iconst 2, 1), (65, .iload_n 3, 1), (66, .imul, 1), (67, .iconst 3, 1), (68, .idiv, 1), (69, .ireturn, 1), (70, .iload_n 1, 1), (71, .iload_n 2, 1), (72, .imul, 1), (73, .ireturn, 1)])
set_option maxRecDepth 20000 in
theorem tX8_pullBy : ∀ q ∈ mX8_pullBy.2, decode mX8_pullBy.1.2.2.1 q.1 = .ok q.2 := by decide +kernel
def mX8_pullOf : kw_M := ((RX8, yX8_pullOf, cX8_pullOf, 3, (some .int)), [(0, .aload_n 0, 1), (1, .getfield 39, 3), (4, .iload_n 1, 1), (5, .iaload, 1), (6, .aload_n 0, 1), (7, .getfield 45, 3), (10, .iload_n 1, 1), (11, .iaload, 1), (12, .iload_n 2, 1), (13, .invokestatic 181, 3), (16, .ireturn, 1)])
set_option maxRecDepth 20000 in
theorem tX8_pullOf : ∀ q ∈ mX8_pullOf.2, decode mX8_pullOf.1.2.2.1 q.1 = .ok q.2 := by decide +kernel
def mX8_milesBy : kw_M := ((RX8, yX8_milesBy, cX8_milesBy, 5, (some .int)), [(0, .iconst 0, 1), (1, .istore_n 3, 1), (2, .iconst 0, 1), (3, .istore 4, 2), (5, .iload 4, 2), (7, .aload_n 0, 1), (8, .getfield 163, 3), (11, .if_icmp .ge 32, 3), (14, .iload_n 3, 1), (15, .iload_n 1, 1), (16, .iload 4, 2), (18, .invokestatic 185, 3), (21, .ifCond .eq 13, 3), (24, .aload_n 0, 1), (25, .iload 4, 2), (27, .iload_n 2, 1), (28, .invokevirtual 189, 3), (31, .goto 4, 3), (34, .iconst 0, 1), (35, .iadd, 1), (36, .istore_n 3, 1), (37, .iinc 4 1, 3), (40, .goto (-35), 3), (43, .iload_n 3, 1), (44, .iconst 4, 1), (45, .idiv, 1), (46, .ireturn, 1)])
set_option maxRecDepth 20000 in
theorem tX8_milesBy : ∀ q ∈ mX8_milesBy.2, decode mX8_milesBy.1.2.2.1 q.1 = .ok q.2 := by decide +kernel
def mX8_turnBy : kw_M := ((RX8, yX8_turnBy, cX8_turnBy, 5, (some .int)), [(0, .iconst 0, 1), (1, .istore_n 3, 1), (2, .iconst 0, 1), (3, .istore 4, 2), (5, .iload 4, 2), (7, .aload_n 0, 1), (8, .getfield 163, 3), (11, .if_icmp .ge 40, 3), (14, .iload_n 3, 1), (15, .iload_n 1, 1), (16, .iload 4, 2), (18, .invokestatic 185, 3), (21, .ifCond .eq 21, 3), (24, .aload_n 0, 1), (25, .iload 4, 2), (27, .iload_n 2, 1), (28, .invokevirtual 189, 3), (31, .aload_n 0, 1), (32, .getfield 42, 3), (35, .iload 4, 2), (37, .iaload, 1), (38, .imul, 1), (39, .goto 4, 3), (42, .iconst 0, 1), (43, .iadd, 1), (44, .istore_n 3, 1), (45, .iinc 4 1, 3), (48, .goto (-43), 3), (51, .iload_n 3, 1), (52, .ireturn, 1)])
set_option maxRecDepth 20000 in
theorem tX8_turnBy : ∀ q ∈ mX8_turnBy.2, decode mX8_turnBy.1.2.2.1 q.1 = .ok q.2 := by decide +kernel
def mX8_linenOf : kw_M := ((RX8, yX8_linenOf, cX8_linenOf, 4, (some .int)), [(0, .iconst 0, 1), (1, .istore_n 2, 1), (2, .iconst 0, 1), (3, .istore_n 3, 1), (4, .iload_n 3, 1), (5, .aload_n 0, 1), (6, .getfield 163, 3), (9, .if_icmp .ge 30, 3), (12, .iload_n 2, 1), (13, .iload_n 1, 1), (14, .iload_n 3, 1), (15, .invokestatic 185, 3), (18, .ifCond .eq 12, 3), (21, .aload_n 0, 1), (22, .getfield 48, 3), (25, .iload_n 3, 1), (26, .iaload, 1), (27, .goto 4, 3), (30, .iconst 0, 1), (31, .iadd, 1), (32, .istore_n 2, 1), (33, .iinc 3 1, 3), (36, .goto (-32), 3), (39, .iload_n 2, 1), (40, .ireturn, 1)])
set_option maxRecDepth 20000 in
theorem tX8_linenOf : ∀ q ∈ mX8_linenOf.2, decode mX8_linenOf.1.2.2.1 q.1 = .ok q.2 := by decide +kernel
def mX8_bits : kw_M := ((RX8, yX8_bits, cX8_bits, 3, (some .int)), [(0, .iconst 0, 1), (1, .istore_n 1, 1), (2, .iconst 0, 1), (3, .istore_n 2, 1), (4, .iload_n 2, 1), (5, .bipush 6, 2), (7, .if_icmp .ge 17, 3), (10, .iload_n 1, 1), (11, .iload_n 0, 1), (12, .iload_n 2, 1), (13, .ishr, 1), (14, .iconst 1, 1), (15, .iand, 1), (16, .iadd, 1), (17, .istore_n 1, 1), (18, .iinc 2 1, 3), (21, .goto (-17), 3), (24, .iload_n 1, 1), (25, .ireturn, 1)])
set_option maxRecDepth 20000 in
theorem tX8_bits : ∀ q ∈ mX8_bits.2, decode mX8_bits.1.2.2.1 q.1 = .ok q.2 := by decide +kernel
def mX8_write : kw_M := ((RX8, yX8_write, cX8_write, 4, none), [(0, .aload_n 1, 1), (1, .iload_n 2, 1), (2, .aload_n 0, 1), (3, .getfield 166, 3), (6, .iastore, 1), (7, .aload_n 1, 1), (8, .iload_n 2, 1), (9, .iconst 1, 1), (10, .iadd, 1), (11, .aload_n 0, 1), (12, .getfield 169, 3), (15, .iastore, 1), (16, .aload_n 1, 1), (17, .iload_n 2, 1), (18, .iconst 2, 1), (19, .iadd, 1), (20, .aload_n 0, 1), (21, .getfield 172, 3), (24, .iastore, 1), (25, .aload_n 1, 1), (26, .iload_n 2, 1), (27, .iconst 3, 1), (28, .iadd, 1), (29, .aload_n 0, 1), (30, .getfield 175, 3), (33, .iastore, 1), (34, .iconst 0, 1), (35, .istore_n 3, 1), (36, .iload_n 3, 1), (37, .bipush 6, 2), (39, .if_icmp .ge 22, 3), (42, .aload_n 1, 1), (43, .iload_n 2, 1), (44, .iconst 4, 1), (45, .iadd, 1), (46, .iload_n 3, 1), (47, .iadd, 1), (48, .aload_n 0, 1), (49, .getfield 57, 3), (52, .iload_n 3, 1), (53, .iaload, 1), (54, .iastore, 1), (55, .iinc 3 1, 3), (58, .goto (-22), 3), (61, .return_, 1)])
set_option maxRecDepth 20000 in
theorem tX8_write : ∀ q ∈ mX8_write.2, decode mX8_write.1.2.2.1 q.1 = .ok q.2 := by decide +kernel
def mX8_read : kw_M := ((RX8, yX8_read, cX8_read, 4, none), [(0, .aload_n 0, 1), (1, .aload_n 1, 1), (2, .iload_n 2, 1), (3, .iaload, 1), (4, .putfield 166, 3), (7, .aload_n 0, 1), (8, .aload_n 1, 1), (9, .iload_n 2, 1), (10, .iconst 1, 1), (11, .iadd, 1), (12, .iaload, 1), (13, .putfield 169, 3), (16, .aload_n 0, 1), (17, .aload_n 1, 1), (18, .iload_n 2, 1), (19, .iconst 2, 1), (20, .iadd, 1), (21, .iaload, 1), (22, .putfield 172, 3), (25, .aload_n 0, 1), (26, .aload_n 1, 1), (27, .iload_n 2, 1), (28, .iconst 3, 1), (29, .iadd, 1), (30, .iaload, 1), (31, .putfield 175, 3), (34, .iconst 0, 1), (35, .istore_n 3, 1), (36, .iload_n 3, 1), (37, .bipush 6, 2), (39, .if_icmp .ge 22, 3), (42, .aload_n 0, 1), (43, .getfield 57, 3), (46, .iload_n 3, 1), (47, .aload_n 1, 1), (48, .iload_n 2, 1), (49, .iconst 4, 1), (50, .iadd, 1), (51, .iload_n 3, 1), (52, .iadd, 1), (53, .iaload, 1), (54, .iastore, 1), (55, .iinc 3 1, 3), (58, .goto (-22), 3), (61, .return_, 1)])
set_option maxRecDepth 20000 in
theorem tX8_read : ∀ q ∈ mX8_read.2, decode mX8_read.1.2.2.1 q.1 = .ok q.2 := by decide +kernel
def mX8_note : kw_M := ((RX8, yX8_note, cX8_note, 1, none), [(0, .aload_n 0, 1), (1, .aload_n 0, 1), (2, .getfield 60, 3), (5, .bipush 10, 2), (7, .aload_n 0, 1), (8, .getfield 178, 3), (11, .imul, 1), (12, .invokevirtual 192, 3), (15, .aload_n 0, 1), (16, .dup, 1), (17, .getfield 178, 3), (20, .iconst 1, 1), (21, .iadd, 1), (22, .putfield 178, 3), (25, .return_, 1)])
set_option maxRecDepth 20000 in
theorem tX8_note : ∀ q ∈ mX8_note.2, decode mX8_note.1.2.2.1 q.1 = .ok q.2 := by decide +kernel
def mX8_wetBehind : kw_M := ((RX8, yX8_wetBehind, cX8_wetBehind, 3, (some .int)), [(0, .iload_n 2, 1), (1, .ifCond .ne 22, 3), (4, .iload_n 1, 1), (5, .iconst 2, 1), (6, .iadd, 1), (7, .bipush 9, 2), (9, .if_icmp .le 8, 3), (12, .bipush 9, 2), (14, .goto 20, 3), (17, .iload_n 1, 1), (18, .iconst 2, 1), (19, .iadd, 1), (20, .goto 14, 3), (23, .iload_n 1, 1), (24, .ifCond .le 9, 3), (27, .iload_n 1, 1), (28, .iconst 1, 1), (29, .isub, 1), (30, .goto 4, 3), (33, .iconst 0, 1), (34, .ireturn, 1)])
set_option maxRecDepth 20000 in
theorem tX8_wetBehind : ∀ q ∈ mX8_wetBehind.2, decode mX8_wetBehind.1.2.2.1 q.1 = .ok q.2 := by decide +kernel
def mX8_pass : kw_M := ((RX8, yX8_pass, cX8_pass, 4, none), [(0, .aload_n 0, 1), (1, .aload_n 0, 1), (2, .getfield 166, 3), (5, .invokevirtual 196, 3), (8, .istore_n 2, 1), (9, .aload_n 0, 1), (10, .dup, 1), (11, .getfield 169, 3), (14, .aload_n 0, 1), (15, .iload_n 1, 1), (16, .iload_n 2, 1), (17, .invokevirtual 199, 3), (20, .iadd, 1), (21, .putfield 169, 3), (24, .aload_n 0, 1), (25, .dup, 1), (26, .getfield 172, 3), (29, .aload_n 0, 1), (30, .iload_n 1, 1), (31, .iload_n 2, 1), (32, .invokevirtual 202, 3), (35, .iadd, 1), (36, .putfield 172, 3), (39, .iconst 0, 1), (40, .istore_n 3, 1), (41, .iload_n 3, 1), (42, .aload_n 0, 1), (43, .getfield 163, 3), (46, .if_icmp .ge 43, 3), (49, .aload_n 0, 1), (50, .getfield 57, 3), (53, .iload_n 3, 1), (54, .iload_n 1, 1), (55, .iload_n 3, 1), (56, .invokestatic 185, 3), (59, .ifCond .eq 17, 3), (62, .aload_n 0, 1), (63, .aload_n 0, 1), (64, .getfield 57, 3), (67, .iload_n 3, 1), (68, .iaload, 1), (69, .iload_n 2, 1), (70, .invokevirtual 205, 3), (73, .goto 9, 3), (76, .aload_n 0, 1), (77, .getfield 57, 3), (80, .iload_n 3, 1), (81, .iaload, 1), (82, .iastore, 1), (83, .iinc 3 1, 3), (86, .goto (-45), 3), (89, .aload_n 0, 1), (90, .dup, 1), (91, .getfield 166, 3), (94, .iconst 1, 1), (95, .iadd, 1), (96, .putfield 166, 3), (99, .return_, 1)])
set_option maxRecDepth 20000 in
theorem tX8_pass : ∀ q ∈ mX8_pass.2, decode mX8_pass.1.2.2.1 q.1 = .ok q.2 := by decide +kernel
def mX8_turnLine : kw_M := ((RX8, yX8_turnLine, cX8_turnLine, 2, none), [(0, .aload_n 0, 1), (1, .invokevirtual 208, 3), (4, .aload_n 0, 1), (5, .dup, 1), (6, .getfield 175, 3), (9, .iconst 1, 1), (10, .iload_n 1, 1), (11, .ishl, 1), (12, .ixor, 1), (13, .putfield 175, 3), (16, .return_, 1)])
set_option maxRecDepth 20000 in
theorem tX8_turnLine : ∀ q ∈ mX8_turnLine.2, decode mX8_turnLine.1.2.2.1 q.1 = .ok q.2 := by decide +kernel
def mX8_hang : kw_M := ((RX8, yX8_hang, cX8_hang, 2, (some .int)), [(0, .aload_n 0, 1), (1, .iload_n 1, 1), (2, .invokevirtual 211, 3), (5, .ifCond .ne 5, 3), (8, .iconst (-1), 1), (9, .ireturn, 1), (10, .aload_n 0, 1), (11, .getfield 175, 3), (14, .iload_n 1, 1), (15, .invokestatic 185, 3), (18, .ifCond .eq 6, 3), (21, .bipush (-4), 2), (23, .ireturn, 1), (24, .aload_n 0, 1), (25, .getfield 178, 3), (28, .bipush 40, 2), (30, .if_icmp .ne 6, 3), (33, .bipush (-2), 2), (35, .ireturn, 1), (36, .aload_n 0, 1), (37, .iload_n 1, 1), (38, .invokevirtual 214, 3), (41, .aload_n 0, 1), (42, .getfield 175, 3), (45, .invokestatic 217, 3), (48, .ireturn, 1)])
set_option maxRecDepth 20000 in
theorem tX8_hang : ∀ q ∈ mX8_hang.2, decode mX8_hang.1.2.2.1 q.1 = .ok q.2 := by decide +kernel
def mX8_take : kw_M := ((RX8, yX8_take, cX8_take, 2, (some .int)), [(0, .aload_n 0, 1), (1, .iload_n 1, 1), (2, .invokevirtual 211, 3), (5, .ifCond .ne 5, 3), (8, .iconst (-1), 1), (9, .ireturn, 1), (10, .aload_n 0, 1), (11, .getfield 175, 3), (14, .iload_n 1, 1), (15, .invokestatic 185, 3), (18, .ifCond .ne 6, 3), (21, .bipush (-4), 2), (23, .ireturn, 1), (24, .aload_n 0, 1), (25, .getfield 178, 3), (28, .bipush 40, 2), (30, .if_icmp .ne 6, 3), (33, .bipush (-2), 2), (35, .ireturn, 1), (36, .aload_n 0, 1), (37, .iload_n 1, 1), (38, .invokevirtual 214, 3), (41, .aload_n 0, 1), (42, .getfield 57, 3), (45, .iload_n 1, 1), (46, .iaload, 1), (47, .ireturn, 1)])
set_option maxRecDepth 20000 in
theorem tX8_take : ∀ q ∈ mX8_take.2, decode mX8_take.1.2.2.1 q.1 = .ok q.2 := by decide +kernel
def mX8_hour : kw_M := ((RX8, yX8_hour, cX8_hour, 1, (some .int)), [(0, .aload_n 0, 1), (1, .getfield 163, 3), (4, .ifCond .ne 6, 3), (7, .bipush (-4), 2), (9, .ireturn, 1), (10, .aload_n 0, 1), (11, .getfield 178, 3), (14, .bipush 40, 2), (16, .if_icmp .ne 6, 3), (19, .bipush (-2), 2), (21, .ireturn, 1), (22, .aload_n 0, 1), (23, .invokevirtual 208, 3), (26, .aload_n 0, 1), (27, .aload_n 0, 1), (28, .getfield 175, 3), (31, .invokevirtual 220, 3), (34, .aload_n 0, 1), (35, .aload_n 0, 1), (36, .getfield 172, 3), (39, .i2l, 1), (40, .lconst 1, 1), (41, .invokevirtual 223, 3), (44, .pop, 1), (45, .aload_n 0, 1), (46, .aload_n 0, 1), (47, .getfield 169, 3), (50, .iconst 1, 1), (51, .invokevirtual 119, 3), (54, .ireturn, 1)])
set_option maxRecDepth 20000 in
theorem tX8_hour : ∀ q ∈ mX8_hour.2, decode mX8_hour.1.2.2.1 q.1 = .ok q.2 := by decide +kernel
def mX8_undo : kw_M := ((RX8, yX8_undo, cX8_undo, 3, (some .int)), [(0, .iload_n 1, 1), (1, .iconst 0, 1), (2, .aload_n 0, 1), (3, .getfield 178, 3), (6, .invokestatic 93, 3), (9, .ifCond .ne 5, 3), (12, .iconst (-1), 1), (13, .ireturn, 1), (14, .aload_n 0, 1), (15, .getfield 178, 3), (18, .iload_n 1, 1), (19, .isub, 1), (20, .istore_n 2, 1), (21, .iload_n 2, 1), (22, .ifCond .le 20, 3), (25, .aload_n 0, 1), (26, .aload_n 0, 1), (27, .getfield 60, 3), (30, .bipush 10, 2), (32, .iload_n 1, 1), (33, .imul, 1), (34, .invokevirtual 227, 3), (37, .aload_n 0, 1), (38, .iload_n 1, 1), (39, .putfield 178, 3), (42, .iload_n 2, 1), (43, .ireturn, 1)])
set_option maxRecDepth 20000 in
theorem tX8_undo : ∀ q ∈ mX8_undo.2, decode mX8_undo.1.2.2.1 q.1 = .ok q.2 := by decide +kernel
def mX8_keep : kw_M := ((RX8, yX8_keep, cX8_keep, 4, (some .int)), [(0, .iload_n 1, 1), (1, .iconst 0, 1), (2, .iconst 2, 1), (3, .invokestatic 93, 3), (6, .ifCond .ne 5, 3), (9, .iconst (-1), 1), (10, .ireturn, 1), (11, .aload_n 0, 1), (12, .getfield 163, 3), (15, .ifCond .ne 6, 3), (18, .bipush (-4), 2), (20, .ireturn, 1), (21, .sipush 411, 3), (24, .iload_n 1, 1), (25, .imul, 1), (26, .istore_n 2, 1), (27, .iconst 0, 1), (28, .istore_n 3, 1), (29, .iload_n 3, 1), (30, .bipush 10, 2), (32, .aload_n 0, 1), (33, .getfield 178, 3), (36, .imul, 1), (37, .if_icmp .ge 23, 3), (40, .aload_n 0, 1), (41, .getfield 66, 3), (44, .iload_n 2, 1), (45, .iload_n 3, 1), (46, .iadd, 1), (47, .aload_n 0, 1), (48, .getfield 60, 3), (51, .iload_n 3, 1), (52, .iaload, 1), (53, .iastore, 1), (54, .iinc 3 1, 3), (57, .goto (-28), 3), (60, .aload_n 0, 1), (61, .aload_n 0, 1), (62, .getfield 66, 3), (65, .iload_n 2, 1), (66, .sipush 400, 3), (69, .iadd, 1), (70, .invokevirtual 192, 3), (73, .aload_n 0, 1), (74, .getfield 66, 3), (77, .iload_n 2, 1), (78, .sipush 410, 3), (81, .iadd, 1), (82, .aload_n 0, 1), (83, .getfield 178, 3), (86, .iastore, 1), (87, .aload_n 0, 1), (88, .getfield 63, 3), (91, .iload_n 1, 1), (92, .iconst 1, 1), (93, .iastore, 1), (94, .aload_n 0, 1), (95, .getfield 178, 3), (98, .ireturn, 1)])
set_option maxRecDepth 20000 in
theorem tX8_keep : ∀ q ∈ mX8_keep.2, decode mX8_keep.1.2.2.1 q.1 = .ok q.2 := by decide +kernel
def mX8_on : kw_M := ((RX8, yX8_on, cX8_on, 4, (some .int)), [(0, .iload_n 1, 1), (1, .iconst 0, 1), (2, .iconst 2, 1), (3, .invokestatic 93, 3), (6, .ifCond .ne 5, 3), (9, .iconst (-1), 1), (10, .ireturn, 1), (11, .aload_n 0, 1), (12, .getfield 63, 3), (15, .iload_n 1, 1), (16, .iaload, 1), (17, .ifCond .ne 9, 3), (20, .aload_n 0, 1), (21, .iconst 1, 1), (22, .invokevirtual 101, 3), (25, .ireturn, 1), (26, .sipush 411, 3), (29, .iload_n 1, 1), (30, .imul, 1), (31, .istore_n 2, 1), (32, .aload_n 0, 1), (33, .aload_n 0, 1), (34, .getfield 66, 3), (37, .iload_n 2, 1), (38, .sipush 400, 3), (41, .iadd, 1), (42, .invokevirtual 227, 3), (45, .aload_n 0, 1), (46, .aload_n 0, 1), (47, .getfield 66, 3), (50, .iload_n 2, 1), (51, .sipush 410, 3), (54, .iadd, 1), (55, .iaload, 1), (56, .putfield 178, 3), (59, .iconst 0, 1), (60, .istore_n 3, 1), (61, .iload_n 3, 1), (62, .bipush 10, 2), (64, .aload_n 0, 1), (65, .getfield 178, 3), (68, .imul, 1), (69, .if_icmp .ge 23, 3), (72, .aload_n 0, 1), (73, .getfield 60, 3), (76, .iload_n 3, 1), (77, .aload_n 0, 1), (78, .getfield 66, 3), (81, .iload_n 2, 1), (82, .iload_n 3, 1), (83, .iadd, 1), (84, .iaload, 1), (85, .iastore, 1), (86, .iinc 3 1, 3), (89, .goto (-28), 3), (92, .aload_n 0, 1), (93, .getfield 178, 3), (96, .ireturn, 1)])
set_option maxRecDepth 20000 in
theorem tX8_on : ∀ q ∈ mX8_on.2, decode mX8_on.1.2.2.1 q.1 = .ok q.2 := by decide +kernel
def mX8_lineOf : kw_M := ((RX8, yX8_lineOf, cX8_lineOf, 3, (some .int)), [(0, .iload_n 2, 1), (1, .tableswitch 83 0 5 #[39, 46, 53, 60, 67, 76], 39), (40, .aload_n 0, 1), (41, .getfield 39, 3), (44, .iload_n 1, 1), (45, .iaload, 1), (46, .ireturn, 1), (47, .aload_n 0, 1), (48, .getfield 42, 3), (51, .iload_n 1, 1), (52, .iaload, 1), (53, .ireturn, 1), (54, .aload_n 0, 1), (55, .getfield 45, 3), (58, .iload_n 1, 1), (59, .iaload, 1), (60, .ireturn, 1), (61, .aload_n 0, 1), (62, .getfield 48, 3), (65, .iload_n 1, 1), (66, .iaload, 1), (67, .ireturn, 1), (68, .aload_n 0, 1), (69, .getfield 175, 3), (72, .iload_n 1, 1), (73, .ishr, 1), (74, .iconst 1, 1), (75, .iand, 1), (76, .ireturn, 1), (77, .aload_n 0, 1), (78, .getfield 57, 3), (81, .iload_n 1, 1), (82, .iaload, 1), (83, .ireturn, 1), (84, .aload_n 0, 1), (85, .iload_n 1, 1), (86, .aload_n 0, 1), (87, .aload_n 0, 1), (88, .getfield 166, 3), (91, .invokevirtual 196, 3), (94, .invokevirtual 189, 3), (97, .ireturn, 1)])
set_option maxRecDepth 20000 in
theorem tX8_lineOf : ∀ q ∈ mX8_lineOf.2, decode mX8_lineOf.1.2.2.1 q.1 = .ok q.2 := by decide +kernel
def mX8_line : kw_M := ((RX8, yX8_line, cX8_line, 3, (some .int)), [(0, .aload_n 0, 1), (1, .iload_n 1, 1), (2, .invokevirtual 211, 3), (5, .ifCond .eq 27, 3), (8, .iload_n 2, 1), (9, .iconst 0, 1), (10, .bipush 6, 2), (12, .invokestatic 93, 3), (15, .ifCond .eq 17, 3), (18, .aload_n 0, 1), (19, .aload_n 0, 1), (20, .iload_n 1, 1), (21, .iload_n 2, 1), (22, .invokevirtual 230, 3), (25, .iconst 1, 1), (26, .invokevirtual 119, 3), (29, .goto 4, 3), (32, .iconst (-1), 1), (33, .ireturn, 1)])
set_option maxRecDepth 20000 in
theorem tX8_line : ∀ q ∈ mX8_line.2, decode mX8_line.1.2.2.1 q.1 = .ok q.2 := by decide +kernel
def mX8_isA : kw_M := ((RX8, yX8_isA, cX8_isA, 2, (some .boolean)), [(0, .iload_n 0, 1), (1, .iload_n 1, 1), (2, .if_icmp .eq 23, 3), (5, .iload_n 1, 1), (6, .iconst 1, 1), (7, .if_icmp .ne 8, 3), (10, .iload_n 0, 1), (11, .iconst 4, 1), (12, .if_icmp .ge 13, 3), (15, .iload_n 1, 1), (16, .iconst 4, 1), (17, .if_icmp .ne 12, 3), (20, .iload_n 0, 1), (21, .iconst 5, 1), (22, .if_icmp .ne 7, 3), (25, .iconst 1, 1), (26, .goto 4, 3), (29, .iconst 0, 1), (30, .ireturn, 1)])
set_option maxRecDepth 20000 in
theorem tX8_isA : ∀ q ∈ mX8_isA.2, decode mX8_isA.1.2.2.1 q.1 = .ok q.2 := by decide +kernel
def mX8_howMany : kw_M := ((RX8, yX8_howMany, cX8_howMany, 4, (some .int)), [(0, .iconst 0, 1), (1, .istore_n 2, 1), (2, .iconst 0, 1), (3, .istore_n 3, 1), (4, .iload_n 3, 1), (5, .aload_n 0, 1), (6, .getfield 163, 3), (9, .if_icmp .ge 30, 3), (12, .iload_n 2, 1), (13, .aload_n 0, 1), (14, .getfield 39, 3), (17, .iload_n 3, 1), (18, .iaload, 1), (19, .iload_n 1, 1), (20, .invokestatic 233, 3), (23, .ifCond .eq 7, 3), (26, .iconst 1, 1), (27, .goto 4, 3), (30, .iconst 0, 1), (31, .iadd, 1), (32, .istore_n 2, 1), (33, .iinc 3 1, 3), (36, .goto (-32), 3), (39, .iload_n 2, 1), (40, .ireturn, 1)])
set_option maxRecDepth 20000 in
theorem tX8_howMany : ∀ q ∈ mX8_howMany.2, decode mX8_howMany.1.2.2.1 q.1 = .ok q.2 := by decide +kernel
def mX8_hoursTill : kw_M := ((RX8, yX8_hoursTill, cX8_hoursTill, 2, (some .int)), [(0, .iconst 0, 1), (1, .istore_n 1, 1), (2, .iload_n 1, 1), (3, .bipush 8, 2), (5, .if_icmp .ge 23, 3), (8, .aload_n 0, 1), (9, .aload_n 0, 1), (10, .getfield 166, 3), (13, .iload_n 1, 1), (14, .iadd, 1), (15, .invokevirtual 196, 3), (18, .iconst 3, 1), (19, .if_icmp .ge 9, 3), (22, .iinc 1 1, 3), (25, .goto (-23), 3), (28, .iload_n 1, 1), (29, .bipush 8, 2), (31, .if_icmp .ge 7, 3), (34, .iload_n 1, 1), (35, .goto 5, 3), (38, .bipush (-9), 2), (40, .ireturn, 1)])
set_option maxRecDepth 20000 in
theorem tX8_hoursTill : ∀ q ∈ mX8_hoursTill.2, decode mX8_hoursTill.1.2.2.1 q.1 = .ok q.2 := by decide +kernel
def mX8_lesserOnes : kw_M := ((RX8, yX8_lesserOnes, cX8_lesserOnes, 4, (some .int)), [(0, .iconst 0, 1), (1, .istore_n 2, 1), (2, .iconst 0, 1), (3, .istore_n 3, 1), (4, .iload_n 3, 1), (5, .aload_n 0, 1), (6, .getfield 163, 3), (9, .if_icmp .ge 37, 3), (12, .iload_n 2, 1), (13, .iload_n 3, 1), (14, .iload_n 1, 1), (15, .if_icmp .eq 22, 3), (18, .aload_n 0, 1), (19, .getfield 45, 3), (22, .iload_n 3, 1), (23, .iaload, 1), (24, .aload_n 0, 1), (25, .getfield 45, 3), (28, .iload_n 1, 1), (29, .iaload, 1), (30, .if_icmp .gt 7, 3), (33, .iconst 1, 1), (34, .goto 4, 3), (37, .iconst 0, 1), (38, .iadd, 1), (39, .istore_n 2, 1), (40, .iinc 3 1, 3), (43, .goto (-39), 3), (46, .iload_n 2, 1), (47, .ireturn, 1)])
set_option maxRecDepth 20000 in
theorem tX8_lesserOnes : ∀ q ∈ mX8_lesserOnes.2, decode mX8_lesserOnes.1.2.2.1 q.1 = .ok q.2 := by decide +kernel
def mX8_mark : kw_M := ((RX8, yX8_mark, cX8_mark, 4, (some .int)), [(0, .aload_n 0, 1), (1, .iload_n 1, 1), (2, .invokevirtual 211, 3), (5, .ifCond .eq 12, 3), (8, .iload_n 2, 1), (9, .iconst 1, 1), (10, .iconst 5, 1), (11, .invokestatic 93, 3), (14, .ifCond .ne 5, 3), (17, .iconst (-1), 1), (18, .ireturn, 1), (19, .aload_n 0, 1), (20, .getfield 39, 3), (23, .iload_n 1, 1), (24, .iaload, 1), (25, .iload_n 2, 1), (26, .invokestatic 233, 3), (29, .ifCond .ne 9, 3), (32, .aload_n 0, 1), (33, .iconst 3, 1), (34, .invokevirtual 101, 3), (37, .ireturn, 1), (38, .aload_n 0, 1), (39, .aload_n 0, 1), (40, .getfield 166, 3), (43, .invokevirtual 196, 3), (46, .istore_n 3, 1), (47, .iload_n 2, 1), (48, .tableswitch 64 1 4 #[32, 39, 44, 58], 32), (80, .aload_n 0, 1), (81, .iload_n 1, 1), (82, .iconst 5, 1), (83, .invokevirtual 189, 3), (86, .ireturn, 1), (87, .aload_n 0, 1), (88, .invokevirtual 236, 3), (91, .ireturn, 1), (92, .aload_n 0, 1), (93, .getfield 175, 3), (96, .iconst 1, 1), (97, .iload_n 1, 1), (98, .ishl, 1), (99, .iconst (-1), 1), (100, .ixor, 1), (101, .iand, 1), (102, .invokestatic 217, 3), (105, .ireturn, 1), (106, .aload_n 0, 1), (107, .iload_n 1, 1), (108, .invokevirtual 240, 3), (111, .ireturn, 1), (112, .iconst 4, 1), (113, .aload_n 0, 1), (114, .getfield 45, 3), (117, .iload_n 1, 1), (118, .iaload, 1), (119, .iload_n 3, 1), (120, .invokestatic 181, 3), (123, .aload_n 0, 1), (124, .iload_n 1, 1), (125, .iload_n 3, 1), (126, .invokevirtual 189, 3), (129, .isub, 1), (130, .ireturn, 1)])
set_option maxRecDepth 20000 in
theorem tX8_mark : ∀ q ∈ mX8_mark.2, decode mX8_mark.1.2.2.1 q.1 = .ok q.2 := by decide +kernel
def mX8_wind : kw_M := ((RX8, yX8_wind, cX8_wind, 2, (some .int)), [(0, .iload_n 1, 1), (1, .iconst 0, 1), (2, .sipush 999, 3), (5, .invokestatic 93, 3), (8, .ifCond .ne 5, 3), (11, .iconst (-1), 1), (12, .ireturn, 1), (13, .aload_n 0, 1), (14, .getfield 163, 3), (17, .ifCond .ne 8, 3), (20, .bipush (-4), 2), (22, .goto 8, 3), (25, .aload_n 0, 1), (26, .iload_n 1, 1), (27, .invokevirtual 196, 3), (30, .ireturn, 1)])
set_option maxRecDepth 20000 in
theorem tX8_wind : ∀ q ∈ mX8_wind.2, decode mX8_wind.1.2.2.1 q.1 = .ok q.2 := by decide +kernel
def mX8_goes : kw_M := ((RX8, yX8_goes, cX8_goes, 3, (some .int)), [(0, .aload_n 0, 1), (1, .iload_n 1, 1), (2, .invokevirtual 243, 3), (5, .ifCond .ne 5, 3), (8, .iconst (-1), 1), (9, .ireturn, 1), (10, .aload_n 0, 1), (11, .aload_n 0, 1), (12, .getfield 166, 3), (15, .invokevirtual 196, 3), (18, .istore_n 2, 1), (19, .aload_n 0, 1), (20, .aload_n 0, 1), (21, .iload_n 1, 1), (22, .iload_n 2, 1), (23, .invokevirtual 202, 3), (26, .i2l, 1), (27, .lconst 1, 1), (28, .invokevirtual 223, 3), (31, .pop, 1), (32, .aload_n 0, 1), (33, .aload_n 0, 1), (34, .iload_n 1, 1), (35, .iload_n 2, 1), (36, .invokevirtual 199, 3), (39, .iconst 1, 1), (40, .invokevirtual 119, 3), (43, .ireturn, 1)])
set_option maxRecDepth 20000 in
theorem tX8_goes : ∀ q ∈ mX8_goes.2, decode mX8_goes.1.2.2.1 q.1 = .ok q.2 := by decide +kernel
def mX8_even : kw_M := ((RX8, yX8_even, cX8_even, 6, (some .int)), [(0, .iload_n 1, 1), (1, .bipush (-99), 2), (3, .bipush 99, 2), (5, .invokestatic 93, 3), (8, .ifCond .ne 5, 3), (11, .iconst (-1), 1), (12, .ireturn, 1), (13, .aload_n 0, 1), (14, .getfield 163, 3), (17, .ifCond .ne 6, 3), (20, .bipush (-4), 2), (22, .ireturn, 1), (23, .aload_n 0, 1), (24, .aload_n 0, 1), (25, .getfield 166, 3), (28, .invokevirtual 196, 3), (31, .istore_n 2, 1), (32, .iconst 0, 1), (33, .istore_n 3, 1), (34, .bipush (-9), 2), (36, .istore 4, 2), (38, .iconst 0, 1), (39, .istore 5, 2), (41, .iload 5, 2), (43, .iconst 1, 1), (44, .aload_n 0, 1), (45, .getfield 163, 3), (48, .ishl, 1), (49, .if_icmp .ge 64, 3), (52, .aload_n 0, 1), (53, .iload 5, 2), (55, .iload_n 2, 1), (56, .invokevirtual 199, 3), (59, .iload_n 1, 1), (60, .if_icmp .ne 47, 3), (63, .aload_n 0, 1), (64, .iload 5, 2), (66, .iload_n 2, 1), (67, .invokevirtual 202, 3), (70, .ifCond .ne 37, 3), (73, .iinc 3 1, 3), (76, .iload 4, 2), (78, .bipush (-9), 2), (80, .if_icmp .eq 18, 3), (83, .aload_n 0, 1), (84, .iload 5, 2), (86, .invokevirtual 246, 3), (89, .aload_n 0, 1), (90, .iload 4, 2), (92, .invokevirtual 246, 3), (95, .if_icmp .ge 8, 3), (98, .iload 5, 2), (100, .goto 5, 3), (103, .iload 4, 2), (105, .istore 4, 2), (107, .iinc 5 1, 3), (110, .goto (-69), 3), (113, .aload_n 0, 1), (114, .iload_n 3, 1), (115, .i2l, 1), (116, .lconst 1, 1), (117, .invokevirtual 223, 3), (120, .pop, 1), (121, .aload_n 0, 1), (122, .iload 4, 2), (124, .iconst 1, 1), (125, .invokevirtual 119, 3), (128, .ireturn, 1)])
set_option maxRecDepth 20000 in
theorem tX8_even : ∀ q ∈ mX8_even.2, decode mX8_even.1.2.2.1 q.1 = .ok q.2 := by decide +kernel
def mX8_fast : kw_M := ((RX8, yX8_fast, cX8_fast, 5, (some .int)), [(0, .iload_n 1, 1), (1, .iconst 0, 1), (2, .bipush 99, 2), (4, .invokestatic 93, 3), (7, .ifCond .ne 5, 3), (10, .iconst (-1), 1), (11, .ireturn, 1), (12, .aload_n 0, 1), (13, .getfield 163, 3), (16, .ifCond .ne 6, 3), (19, .bipush (-4), 2), (21, .ireturn, 1), (22, .aload_n 0, 1), (23, .aload_n 0, 1), (24, .getfield 166, 3), (27, .invokevirtual 196, 3), (30, .istore_n 2, 1), (31, .iconst 0, 1), (32, .istore_n 3, 1), (33, .iconst 1, 1), (34, .istore 4, 2), (36, .iload 4, 2), (38, .iconst 1, 1), (39, .aload_n 0, 1), (40, .getfield 163, 3), (43, .ishl, 1), (44, .if_icmp .ge 42, 3), (47, .aload_n 0, 1), (48, .iload 4, 2), (50, .invokevirtual 246, 3), (53, .iload_n 1, 1), (54, .if_icmp .gt 24, 3), (57, .aload_n 0, 1), (58, .iload 4, 2), (60, .iload_n 2, 1), (61, .invokevirtual 199, 3), (64, .aload_n 0, 1), (65, .iload_n 3, 1), (66, .iload_n 2, 1), (67, .invokevirtual 199, 3), (70, .if_icmp .le 8, 3), (73, .iload 4, 2), (75, .goto 4, 3), (78, .iload_n 3, 1), (79, .istore_n 3, 1), (80, .iinc 4 1, 3), (83, .goto (-47), 3), (86, .aload_n 0, 1), (87, .iload_n 3, 1), (88, .aload_n 0, 1), (89, .iload_n 3, 1), (90, .iload_n 2, 1), (91, .invokevirtual 199, 3), (94, .invokevirtual 119, 3), (97, .ireturn, 1)])
set_option maxRecDepth 20000 in
theorem tX8_fast : ∀ q ∈ mX8_fast.2, decode mX8_fast.1.2.2.1 q.1 = .ok q.2 := by decide +kernel
def mX8_wetOfAll : kw_M := ((RX8, yX8_wetOfAll, cX8_wetOfAll, 3, (some .int)), [(0, .iconst 0, 1), (1, .istore_n 1, 1), (2, .iconst 0, 1), (3, .istore_n 2, 1), (4, .iload_n 2, 1), (5, .aload_n 0, 1), (6, .getfield 163, 3), (9, .if_icmp .ge 18, 3), (12, .iload_n 1, 1), (13, .aload_n 0, 1), (14, .getfield 57, 3), (17, .iload_n 2, 1), (18, .iaload, 1), (19, .iadd, 1), (20, .istore_n 1, 1), (21, .iinc 2 1, 3), (24, .goto (-20), 3), (27, .iload_n 1, 1), (28, .ireturn, 1)])
set_option maxRecDepth 20000 in
theorem tX8_wetOfAll : ∀ q ∈ mX8_wetOfAll.2, decode mX8_wetOfAll.1.2.2.1 q.1 = .ok q.2 := by decide +kernel
def mX8_wet : kw_M := ((RX8, yX8_wet, cX8_wet, 3, (some .int)), [(0, .iconst 0, 1), (1, .istore_n 1, 1), (2, .iconst 0, 1), (3, .istore_n 2, 1), (4, .iload_n 2, 1), (5, .aload_n 0, 1), (6, .getfield 163, 3), (9, .if_icmp .ge 28, 3), (12, .iload_n 1, 1), (13, .aload_n 0, 1), (14, .getfield 57, 3), (17, .iload_n 2, 1), (18, .iaload, 1), (19, .ifCond .le 9, 3), (22, .iconst 1, 1), (23, .iload_n 2, 1), (24, .ishl, 1), (25, .goto 4, 3), (28, .iconst 0, 1), (29, .ior, 1), (30, .istore_n 1, 1), (31, .iinc 2 1, 3), (34, .goto (-30), 3), (37, .aload_n 0, 1), (38, .aload_n 0, 1), (39, .invokevirtual 249, 3), (42, .iload_n 1, 1), (43, .invokevirtual 119, 3), (46, .ireturn, 1)])
set_option maxRecDepth 20000 in
theorem tX8_wet : ∀ q ∈ mX8_wet.2, decode mX8_wet.1.2.2.1 q.1 = .ok q.2 := by decide +kernel
def mX8_askedPlan : kw_M := ((RX8, yX8_askedPlan, cX8_askedPlan, 3, (some .int)), [(0, .iload_n 1, 1), (1, .invokestatic 97, 3), (4, .ifCond .ne 5, 3), (7, .iconst (-1), 1), (8, .ireturn, 1), (9, .aload_n 0, 1), (10, .getfield 163, 3), (13, .ifCond .ne 6, 3), (16, .bipush (-4), 2), (18, .ireturn, 1), (19, .aload_n 0, 1), (20, .getfield 17, 3), (23, .iload_n 1, 1), (24, .iaload, 1), (25, .ifCond .ge 9, 3), (28, .aload_n 0, 1), (29, .iconst 1, 1), (30, .invokevirtual 101, 3), (33, .ireturn, 1), (34, .aload_n 0, 1), (35, .getfield 17, 3), (38, .iload_n 1, 1), (39, .iaload, 1), (40, .bipush 6, 2), (42, .if_icmp .le 9, 3), (45, .aload_n 0, 1), (46, .iconst 5, 1), (47, .invokevirtual 101, 3), (50, .ireturn, 1), (51, .iconst 0, 1), (52, .istore_n 2, 1), (53, .iload_n 2, 1), (54, .aload_n 0, 1), (55, .getfield 17, 3), (58, .iload_n 1, 1), (59, .iaload, 1), (60, .if_icmp .ge 28, 3), (63, .aload_n 0, 1), (64, .aload_n 0, 1), (65, .iload_n 1, 1), (66, .iload_n 2, 1), (67, .invokevirtual 115, 3), (70, .invokevirtual 243, 3), (73, .ifCond .ne 9, 3), (76, .aload_n 0, 1), (77, .iconst 3, 1), (78, .invokevirtual 101, 3), (81, .ireturn, 1), (82, .iinc 2 1, 3), (85, .goto (-32), 3), (88, .iconst 0, 1), (89, .ireturn, 1)])
set_option maxRecDepth 20000 in
theorem tX8_askedPlan : ∀ q ∈ mX8_askedPlan.2, decode mX8_askedPlan.1.2.2.1 q.1 = .ok q.2 := by decide +kernel
def mX8_sail : kw_M := ((RX8, yX8_sail, cX8_sail, 6, (some .int)), [(0, .aload_n 0, 1), (1, .iload_n 1, 1), (2, .invokevirtual 252, 3), (5, .istore_n 2, 1), (6, .iload_n 2, 1), (7, .ifCond .ge 5, 3), (10, .iload_n 2, 1), (11, .ireturn, 1), (12, .aload_n 0, 1), (13, .getfield 169, 3), (16, .istore_n 3, 1), (17, .aload_n 0, 1), (18, .getfield 172, 3), (21, .istore 4, 2), (23, .iconst 0, 1), (24, .istore 5, 2), (26, .iload 5, 2), (28, .aload_n 0, 1), (29, .getfield 17, 3), (32, .iload_n 1, 1), (33, .iaload, 1), (34, .if_icmp .ge 61, 3), (37, .iload_n 3, 1), (38, .aload_n 0, 1), (39, .aload_n 0, 1), (40, .iload_n 1, 1), (41, .iload 5, 2), (43, .invokevirtual 115, 3), (46, .aload_n 0, 1), (47, .aload_n 0, 1), (48, .getfield 166, 3), (51, .iload 5, 2), (53, .iadd, 1), (54, .invokevirtual 196, 3), (57, .invokevirtual 199, 3), (60, .iadd, 1), (61, .istore_n 3, 1), (62, .iload 4, 2), (64, .aload_n 0, 1), (65, .aload_n 0, 1), (66, .iload_n 1, 1), (67, .iload 5, 2), (69, .invokevirtual 115, 3), (72, .aload_n 0, 1), (73, .aload_n 0, 1), (74, .getfield 166, 3), (77, .iload 5, 2), (79, .iadd, 1), (80, .invokevirtual 196, 3), (83, .invokevirtual 202, 3), (86, .iadd, 1), (87, .istore 4, 2), (89, .iinc 5 1, 3), (92, .goto (-66), 3), (95, .aload_n 0, 1), (96, .iload 4, 2), (98, .i2l, 1), (99, .lconst 1, 1), (100, .invokevirtual 223, 3), (103, .pop, 1), (104, .aload_n 0, 1), (105, .iload_n 3, 1), (106, .iconst 1, 1), (107, .invokevirtual 119, 3), (110, .ireturn, 1)])
set_option maxRecDepth 20000 in
theorem tX8_sail : ∀ q ∈ mX8_sail.2, decode mX8_sail.1.2.2.1 q.1 = .ok q.2 := by decide +kernel
def mX8_dry : kw_M := ((RX8, yX8_dry, cX8_dry, 7, (some .int)), [(0, .aload_n 0, 1), (1, .iload_n 1, 1), (2, .invokevirtual 252, 3), (5, .istore_n 2, 1), (6, .iload_n 2, 1), (7, .ifCond .ge 5, 3), (10, .iload_n 2, 1), (11, .ireturn, 1), (12, .iconst 0, 1), (13, .istore_n 3, 1), (14, .iconst 0, 1), (15, .istore 4, 2), (17, .iload 4, 2), (19, .aload_n 0, 1), (20, .getfield 163, 3), (23, .if_icmp .ge 93, 3), (26, .aload_n 0, 1), (27, .getfield 57, 3), (30, .iload 4, 2), (32, .iaload, 1), (33, .istore 5, 2), (35, .iconst 0, 1), (36, .istore 6, 2), (38, .iload 6, 2), (40, .aload_n 0, 1), (41, .getfield 17, 3), (44, .iload_n 1, 1), (45, .iaload, 1), (46, .if_icmp .ge 48, 3), (49, .aload_n 0, 1), (50, .iload_n 1, 1), (51, .iload 6, 2), (53, .invokevirtual 115, 3), (56, .iload 4, 2), (58, .invokestatic 185, 3), (61, .ifCond .eq 23, 3), (64, .aload_n 0, 1), (65, .iload 5, 2), (67, .aload_n 0, 1), (68, .aload_n 0, 1), (69, .getfield 166, 3), (72, .iload 6, 2), (74, .iadd, 1), (75, .invokevirtual 196, 3), (78, .invokevirtual 205, 3), (81, .goto 5, 3), (84, .iload 5, 2), (86, .istore 5, 2), (88, .iinc 6 1, 3), (91, .goto (-53), 3), (94, .iload_n 3, 1), (95, .iload 5, 2), (97, .ifCond .ne 10, 3), (100, .iconst 1, 1), (101, .iload 4, 2), (103, .ishl, 1), (104, .goto 4, 3), (107, .iconst 0, 1), (108, .ior, 1), (109, .istore_n 3, 1), (110, .iinc 4 1, 3), (113, .goto (-96), 3), (116, .iload_n 3, 1), (117, .ireturn, 1)])
set_option maxRecDepth 20000 in
theorem tX8_dry : ∀ q ∈ mX8_dry.2, decode mX8_dry.1.2.2.1 q.1 = .ok q.2 := by decide +kernel
def mX8_setHours : kw_M := ((RX8, yX8_setHours, cX8_setHours, 3, none), [(0, .iconst 0, 1), (1, .istore_n 1, 1), (2, .iload_n 1, 1), (3, .iconst 3, 1), (4, .if_icmp .ge 79, 3), (7, .iconst 0, 1), (8, .istore_n 2, 1), (9, .iload_n 2, 1), (10, .iconst 1, 1), (11, .aload_n 0, 1), (12, .getfield 163, 3), (15, .ishl, 1), (16, .if_icmp .ge 61, 3), (19, .aload_n 0, 1), (20, .getfield 69, 3), (23, .bipush 64, 2), (25, .iload_n 1, 1), (26, .imul, 1), (27, .iload_n 2, 1), (28, .iadd, 1), (29, .aload_n 0, 1), (30, .iload_n 2, 1), (31, .aload_n 0, 1), (32, .aload_n 0, 1), (33, .getfield 166, 3), (36, .iload_n 1, 1), (37, .iadd, 1), (38, .invokevirtual 196, 3), (41, .invokevirtual 199, 3), (44, .iastore, 1), (45, .aload_n 0, 1), (46, .getfield 72, 3), (49, .bipush 64, 2), (51, .iload_n 1, 1), (52, .imul, 1), (53, .iload_n 2, 1), (54, .iadd, 1), (55, .aload_n 0, 1), (56, .iload_n 2, 1), (57, .aload_n 0, 1), (58, .aload_n 0, 1), (59, .getfield 166, 3), (62, .iload_n 1, 1), (63, .iadd, 1), (64, .invokevirtual 196, 3), (67, .invokevirtual 202, 3), (70, .iastore, 1), (71, .iinc 2 1, 3), (74, .goto (-65), 3), (77, .iinc 1 1, 3), (80, .goto (-78), 3), (83, .return_, 1)])
set_option maxRecDepth 20000 in
theorem tX8_setHours : ∀ q ∈ mX8_setHours.2, decode mX8_setHours.1.2.2.1 q.1 = .ok q.2 := by decide +kernel
def mX8_isTurn : kw_M := ((RX8, yX8_isTurn, cX8_isTurn, 2, (some .boolean)), [(0, .iload_n 0, 1), (1, .iload_n 1, 1), (2, .ineg, 1), (3, .if_icmp .lt 12, 3), (6, .iload_n 0, 1), (7, .iload_n 1, 1), (8, .if_icmp .gt 7, 3), (11, .iconst 1, 1), (12, .goto 4, 3), (15, .iconst 0, 1), (16, .ireturn, 1)])
set_option maxRecDepth 20000 in
theorem tX8_isTurn : ∀ q ∈ mX8_isTurn.2, decode mX8_isTurn.1.2.2.1 q.1 = .ok q.2 := by decide +kernel
def mX8_farBy : kw_M := ((RX8, yX8_farBy, cX8_farBy, 16, (some .int)), [(0, .iconst 1, 1), (1, .aload_n 0, 1), (2, .getfield 163, 3), (5, .ishl, 1), (6, .istore_n 3, 1), (7, .ldc 255, 2), (9, .istore 4, 2), (11, .iconst 0, 1), (12, .istore 5, 2), (14, .iload 5, 2), (16, .iload_n 1, 1), (17, .ifCond .le 7, 3), (20, .iload_n 3, 1), (21, .goto 4, 3), (24, .iconst 1, 1), (25, .if_icmp .ge 299, 3), (28, .aload_n 0, 1), (29, .getfield 172, 3), (32, .iload_n 1, 1), (33, .ifCond .le 13, 3), (36, .aload_n 0, 1), (37, .getfield 72, 3), (40, .iload 5, 2), (42, .iaload, 1), (43, .goto 4, 3), (46, .iconst 0, 1), (47, .iadd, 1), (48, .istore 6, 2), (50, .aload_n 0, 1), (51, .getfield 169, 3), (54, .iload_n 1, 1), (55, .ifCond .le 13, 3), (58, .aload_n 0, 1), (59, .getfield 69, 3), (62, .iload 5, 2), (64, .iaload, 1), (65, .goto 4, 3), (68, .iconst 0, 1), (69, .iadd, 1), (70, .istore 7, 2), (72, .iload_n 1, 1), (73, .ifCond .eq 12, 3), (76, .iload 6, 2), (78, .iload_n 2, 1), (79, .invokestatic 256, 3), (82, .ifCond .eq 7, 3), (85, .iconst 1, 1), (86, .goto 4, 3), (89, .iconst 0, 1), (90, .istore 8, 2), (92, .iconst 0, 1), (93, .istore 9, 2), (95, .iload 8, 2), (97, .ifCond .eq 221, 3), (100, .iload 9, 2), (102, .iload_n 1, 1), (103, .iconst 1, 1), (104, .if_icmp .le 7, 3), (107, .iload_n 3, 1), (108, .goto 4, 3), (111, .iconst 1, 1), (112, .if_icmp .ge 206, 3), (115, .iload 6, 2), (117, .iload_n 1, 1), (118, .iconst 1, 1), (119, .if_icmp .le 16, 3), (122, .aload_n 0, 1), (123, .getfield 72, 3), (126, .bipush 64, 2), (128, .iload 9, 2), (130, .iadd, 1), (131, .iaload, 1), (132, .goto 4, 3), (135, .iconst 0, 1), (136, .iadd, 1), (137, .istore 10, 2), (139, .iload 7, 2), (141, .iload_n 1, 1), (142, .iconst 1, 1), (143, .if_icmp .le 16, 3), (146, .aload_n 0, 1), (147, .getfield 69, 3), (150, .bipush 64, 2), (152, .iload 9, 2), (154, .iadd, 1), (155, .iaload, 1), (156, .goto 4, 3), (159, .iconst 0, 1), (160, .iadd, 1), (161, .istore 11, 2), (163, .iload_n 1, 1), (164, .iconst 2, 1), (165, .if_icmp .lt 12, 3), (168, .iload 10, 2), (170, .iload_n 2, 1), (171, .invokestatic 256, 3), (174, .ifCond .eq 7, 3), (177, .iconst 1, 1), (178, .goto 4, 3), (181, .iconst 0, 1), (182, .istore 12, 2), (184, .iconst 0, 1), (185, .istore 13, 2), (187, .iload 12, 2), (189, .ifCond .eq 123, 3), (192, .iload 13, 2), (194, .iload_n 1, 1), (195, .iconst 2, 1), (196, .if_icmp .le 7, 3), (199, .iload_n 3, 1), (200, .goto 4, 3), (203, .iconst 1, 1), (204, .if_icmp .ge 108, 3), (207, .iload 10, 2), (209, .iload_n 1, 1), (210, .iconst 2, 1), (211, .if_icmp .le 17, 3), (214, .aload_n 0, 1), (215, .getfield 72, 3), (218, .sipush 128, 3), (221, .iload 13, 2), (223, .iadd, 1), (224, .iaload, 1), (225, .goto 4, 3), (228, .iconst 0, 1), (229, .iadd, 1), (230, .istore 14, 2), (232, .iload 11, 2), (234, .iload_n 1, 1), (235, .iconst 2, 1), (236, .if_icmp .le 17, 3), (239, .aload_n 0, 1), (240, .getfield 69, 3), (243, .sipush 128, 3), (246, .iload 13, 2), (248, .iadd, 1), (249, .iaload, 1), (250, .goto 4, 3), (253, .iconst 0, 1), (254, .iadd, 1), (255, .istore 15, 2), (257, .iload_n 1, 1), (258, .iconst 3, 1), (259, .if_icmp .lt 12, 3), (262, .iload 14, 2), (264, .iload_n 2, 1), (265, .invokestatic 256, 3), (268, .ifCond .eq 38, 3), (271, .iload 15, 2), (273, .iload 4, 2), (275, .if_icmp .le 31, 3), (278, .iload 15, 2), (280, .istore 4, 2), (282, .aload_n 0, 1), (283, .getfield 75, 3), (286, .iconst 0, 1), (287, .iload 5, 2), (289, .iastore, 1), (290, .aload_n 0, 1), (291, .getfield 75, 3), (294, .iconst 1, 1), (295, .iload 9, 2), (297, .iastore, 1), (298, .aload_n 0, 1), (299, .getfield 75, 3), (302, .iconst 2, 1), (303, .iload 13, 2), (305, .iastore, 1), (306, .iinc 13 1, 3), (309, .goto (-122), 3), (312, .iinc 9 1, 3), (315, .goto (-220), 3), (318, .iinc 5 1, 3), (321, .goto (-307), 3), (324, .iload 4, 2), (326, .ireturn, 1)])
set_option maxRecDepth 20000 in
theorem tX8_farBy : ∀ q ∈ mX8_farBy.2, decode mX8_farBy.1.2.2.1 q.1 = .ok q.2 := by decide +kernel
def mX8_far : kw_M := ((RX8, yX8_far, cX8_far, 6, (some .int)), [(0, .iload_n 1, 1), (1, .iconst 0, 1), (2, .iconst 3, 1), (3, .invokestatic 93, 3), (6, .ifCond .eq 21, 3), (9, .iload_n 2, 1), (10, .iconst 0, 1), (11, .sipush 999, 3), (14, .invokestatic 93, 3), (17, .ifCond .eq 10, 3), (20, .iload_n 3, 1), (21, .invokestatic 97, 3), (24, .ifCond .ne 5, 3), (27, .iconst (-1), 1), (28, .ireturn, 1), (29, .aload_n 0, 1), (30, .getfield 163, 3), (33, .ifCond .ne 6, 3), (36, .bipush (-4), 2), (38, .ireturn, 1), (39, .aload_n 0, 1), (40, .invokevirtual 259, 3), (43, .aload_n 0, 1), (44, .iload_n 1, 1), (45, .iload_n 2, 1), (46, .invokevirtual 262, 3), (49, .istore 4, 2), (51, .iload 4, 2), (53, .ldc 255, 2), (55, .if_icmp .ne 6, 3), (58, .bipush (-9), 2), (60, .ireturn, 1), (61, .aload_n 0, 1), (62, .getfield 17, 3), (65, .iload_n 3, 1), (66, .iload_n 1, 1), (67, .iastore, 1), (68, .iconst 0, 1), (69, .istore 5, 2), (71, .iload 5, 2), (73, .bipush 40, 2), (75, .if_icmp .ge 33, 3), (78, .aload_n 0, 1), (79, .iload_n 3, 1), (80, .iload 5, 2), (82, .iload 5, 2), (84, .iload_n 1, 1), (85, .if_icmp .ge 13, 3), (88, .aload_n 0, 1), (89, .getfield 75, 3), (92, .iload 5, 2), (94, .iaload, 1), (95, .goto 4, 3), (98, .iconst 0, 1), (99, .invokevirtual 108, 3), (102, .iinc 5 1, 3), (105, .goto (-34), 3), (108, .aload_n 0, 1), (109, .iload 4, 2), (111, .iconst 1, 1), (112, .invokevirtual 119, 3), (115, .ireturn, 1)])
set_option maxRecDepth 20000 in
theorem tX8_far : ∀ q ∈ mX8_far.2, decode mX8_far.1.2.2.1 q.1 = .ok q.2 := by decide +kernel
def mX8_mostOf : kw_M := ((RX8, yX8_mostOf, cX8_mostOf, 5, (some .int)), [(0, .iconst 0, 1), (1, .istore_n 3, 1), (2, .iload_n 2, 1), (3, .istore 4, 2), (5, .iload 4, 2), (7, .ifCond .le 31, 3), (10, .iload_n 3, 1), (11, .aload_n 0, 1), (12, .getfield 69, 3), (15, .bipush 64, 2), (17, .iload_n 1, 1), (18, .imul, 1), (19, .iload 4, 2), (21, .iadd, 1), (22, .iaload, 1), (23, .invokestatic 265, 3), (26, .istore_n 3, 1), (27, .iload 4, 2), (29, .iconst 1, 1), (30, .isub, 1), (31, .iload_n 2, 1), (32, .iand, 1), (33, .istore 4, 2), (35, .goto (-30), 3), (38, .iload_n 3, 1), (39, .ireturn, 1)])
set_option maxRecDepth 20000 in
theorem tX8_mostOf : ∀ q ∈ mX8_mostOf.2, decode mX8_mostOf.1.2.2.1 q.1 = .ok q.2 := by decide +kernel
def mX8_soon : kw_M := ((RX8, yX8_soon, cX8_soon, 4, (some .int)), [(0, .iload_n 1, 1), (1, .sipush (-999), 3), (4, .sipush 999, 3), (7, .invokestatic 93, 3), (10, .ifCond .ne 5, 3), (13, .iconst (-1), 1), (14, .ireturn, 1), (15, .aload_n 0, 1), (16, .getfield 163, 3), (19, .ifCond .ne 6, 3), (22, .bipush (-4), 2), (24, .ireturn, 1), (25, .aload_n 0, 1), (26, .invokevirtual 259, 3), (29, .aload_n 0, 1), (30, .getfield 169, 3), (33, .istore_n 2, 1), (34, .iconst 0, 1), (35, .istore_n 3, 1), (36, .iload_n 3, 1), (37, .iconst 3, 1), (38, .if_icmp .ge 30, 3), (41, .iload_n 2, 1), (42, .iload_n 1, 1), (43, .if_icmp .ge 25, 3), (46, .iload_n 2, 1), (47, .aload_n 0, 1), (48, .iload_n 3, 1), (49, .iconst 1, 1), (50, .aload_n 0, 1), (51, .getfield 163, 3), (54, .ishl, 1), (55, .iconst 1, 1), (56, .isub, 1), (57, .invokevirtual 268, 3), (60, .iadd, 1), (61, .istore_n 2, 1), (62, .iinc 3 1, 3), (65, .goto (-29), 3), (68, .iload_n 2, 1), (69, .iload_n 1, 1), (70, .if_icmp .ge 8, 3), (73, .bipush (-9), 2), (75, .goto 4, 3), (78, .iload_n 3, 1), (79, .ireturn, 1)])
set_option maxRecDepth 20000 in
theorem tX8_soon : ∀ q ∈ mX8_soon.2, decode mX8_soon.1.2.2.1 q.1 = .ok q.2 := by decide +kernel
def mX8_least : kw_M := ((RX8, yX8_least, cX8_least, 7, (some .int)), [(0, .iload_n 1, 1), (1, .iconst 0, 1), (2, .iconst 3, 1), (3, .invokestatic 93, 3), (6, .ifCond .eq 16, 3), (9, .iload_n 2, 1), (10, .sipush (-999), 3), (13, .sipush 999, 3), (16, .invokestatic 93, 3), (19, .ifCond .ne 5, 3), (22, .iconst (-1), 1), (23, .ireturn, 1), (24, .aload_n 0, 1), (25, .getfield 163, 3), (28, .ifCond .ne 6, 3), (31, .bipush (-4), 2), (33, .ireturn, 1), (34, .aload_n 0, 1), (35, .invokevirtual 259, 3), (38, .bipush (-9), 2), (40, .istore_n 3, 1), (41, .iconst 0, 1), (42, .istore 4, 2), (44, .iload 4, 2), (46, .iconst 1, 1), (47, .aload_n 0, 1), (48, .getfield 163, 3), (51, .ishl, 1), (52, .if_icmp .ge 88, 3), (55, .aload_n 0, 1), (56, .getfield 169, 3), (59, .istore 5, 2), (61, .iconst 0, 1), (62, .istore 6, 2), (64, .iload 6, 2), (66, .iload_n 1, 1), (67, .if_icmp .ge 22, 3), (70, .iload 5, 2), (72, .aload_n 0, 1), (73, .iload 6, 2), (75, .iload 4, 2), (77, .invokevirtual 268, 3), (80, .iadd, 1), (81, .istore 5, 2), (83, .iinc 6 1, 3), (86, .goto (-22), 3), (89, .iload_n 3, 1), (90, .bipush (-9), 2), (92, .if_icmp .eq 13, 3), (95, .aload_n 0, 1), (96, .iload 4, 2), (98, .invokevirtual 246, 3), (101, .iload_n 3, 1), (102, .if_icmp .ge 7, 3), (105, .iconst 1, 1), (106, .goto 4, 3), (109, .iconst 0, 1), (110, .istore 6, 2), (112, .iload 5, 2), (114, .iload_n 2, 1), (115, .if_icmp .lt 17, 3), (118, .iload 6, 2), (120, .ifCond .eq 12, 3), (123, .aload_n 0, 1), (124, .iload 4, 2), (126, .invokevirtual 246, 3), (129, .goto 4, 3), (132, .iload_n 3, 1), (133, .istore_n 3, 1), (134, .iinc 4 1, 3), (137, .goto (-93), 3), (140, .iload_n 3, 1), (141, .ireturn, 1)])
set_option maxRecDepth 20000 in
theorem tX8_least : ∀ q ∈ mX8_least.2, decode mX8_least.1.2.2.1 q.1 = .ok q.2 := by decide +kernel
def mX8_ways : kw_M := ((RX8, yX8_ways, cX8_ways, 7, (some .int)), [(0, .iload_n 1, 1), (1, .bipush (-99), 2), (3, .bipush 99, 2), (5, .invokestatic 93, 3), (8, .ifCond .eq 16, 3), (11, .iload_n 2, 1), (12, .sipush (-999), 3), (15, .sipush 999, 3), (18, .invokestatic 93, 3), (21, .ifCond .ne 5, 3), (24, .iconst (-1), 1), (25, .ireturn, 1), (26, .aload_n 0, 1), (27, .getfield 163, 3), (30, .ifCond .ne 6, 3), (33, .bipush (-4), 2), (35, .ireturn, 1), (36, .aload_n 0, 1), (37, .aload_n 0, 1), (38, .getfield 166, 3), (41, .invokevirtual 196, 3), (44, .istore_n 3, 1), (45, .iconst 0, 1), (46, .istore 4, 2), (48, .iconst 1, 1), (49, .aload_n 0, 1), (50, .getfield 163, 3), (53, .ishl, 1), (54, .iconst 1, 1), (55, .isub, 1), (56, .istore 5, 2), (58, .iconst 0, 1), (59, .istore 6, 2), (61, .iload 6, 2), (63, .iconst 1, 1), (64, .aload_n 0, 1), (65, .getfield 163, 3), (68, .ishl, 1), (69, .if_icmp .ge 41, 3), (72, .aload_n 0, 1), (73, .iload 6, 2), (75, .iload_n 3, 1), (76, .invokevirtual 199, 3), (79, .iload_n 1, 1), (80, .if_icmp .ne 24, 3), (83, .aload_n 0, 1), (84, .iload 6, 2), (86, .iload_n 3, 1), (87, .invokevirtual 202, 3), (90, .iload_n 2, 1), (91, .if_icmp .ne 13, 3), (94, .iinc 4 1, 3), (97, .iload 5, 2), (99, .iload 6, 2), (101, .iand, 1), (102, .istore 5, 2), (104, .iinc 6 1, 3), (107, .goto (-46), 3), (110, .aload_n 0, 1), (111, .iload 4, 2), (113, .i2l, 1), (114, .lconst 1, 1), (115, .invokevirtual 223, 3), (118, .pop, 1), (119, .aload_n 0, 1), (120, .iload 4, 2), (122, .ifCond .ne 7, 3), (125, .iconst 0, 1), (126, .goto 5, 3), (129, .iload 5, 2), (131, .iconst 1, 1), (132, .invokevirtual 119, 3), (135, .ireturn, 1)])
set_option maxRecDepth 20000 in
theorem tX8_ways : ∀ q ∈ mX8_ways.2, decode mX8_ways.1.2.2.1 q.1 = .ok q.2 := by decide +kernel
def mX8_askedPulls : kw_M := ((RX8, yX8_askedPulls, cX8_askedPulls, 5, (some .int)), [(0, .aload_n 0, 1), (1, .iload_n 1, 1), (2, .invokevirtual 211, 3), (5, .ifCond .ne 7, 3), (8, .iconst (-1), 1), (9, .goto 8, 3), (12, .aload_n 0, 1), (13, .iload_n 2, 1), (14, .invokevirtual 112, 3), (17, .istore_n 3, 1), (18, .iload_n 3, 1), (19, .ifCond .ge 5, 3), (22, .iload_n 3, 1), (23, .ireturn, 1), (24, .aload_n 0, 1), (25, .getfield 17, 3), (28, .iload_n 2, 1), (29, .iaload, 1), (30, .iconst 2, 1), (31, .irem, 1), (32, .ifCond .ne 14, 3), (35, .aload_n 0, 1), (36, .getfield 17, 3), (39, .iload_n 2, 1), (40, .iaload, 1), (41, .bipush 20, 2), (43, .if_icmp .le 9, 3), (46, .aload_n 0, 1), (47, .iconst 5, 1), (48, .invokevirtual 101, 3), (51, .ireturn, 1), (52, .iconst 0, 1), (53, .istore 4, 2), (55, .iload 4, 2), (57, .aload_n 0, 1), (58, .getfield 17, 3), (61, .iload_n 2, 1), (62, .iaload, 1), (63, .if_icmp .ge 31, 3), (66, .aload_n 0, 1), (67, .iload_n 2, 1), (68, .iload 4, 2), (70, .invokevirtual 115, 3), (73, .iconst 0, 1), (74, .bipush 6, 2), (76, .invokestatic 93, 3), (79, .ifCond .ne 9, 3), (82, .aload_n 0, 1), (83, .iconst 3, 1), (84, .invokevirtual 101, 3), (87, .ireturn, 1), (88, .iinc 4 2, 3), (91, .goto (-36), 3), (94, .iconst 0, 1), (95, .ireturn, 1)])
set_option maxRecDepth 20000 in
theorem tX8_askedPulls : ∀ q ∈ mX8_askedPulls.2, decode mX8_askedPulls.1.2.2.1 q.1 = .ok q.2 := by decide +kernel
def mX8_pullsSo : kw_M := ((RX8, yX8_pullsSo, cX8_pullsSo, 6, (some .boolean)), [(0, .iconst 1, 1), (1, .istore 4, 2), (3, .iconst 0, 1), (4, .istore 5, 2), (6, .iload 5, 2), (8, .aload_n 0, 1), (9, .getfield 17, 3), (12, .iload_n 3, 1), (13, .iaload, 1), (14, .if_icmp .ge 45, 3), (17, .iload 4, 2), (19, .ifCond .eq 31, 3), (22, .iload_n 1, 1), (23, .iload_n 2, 1), (24, .aload_n 0, 1), (25, .iload_n 3, 1), (26, .iload 5, 2), (28, .invokevirtual 115, 3), (31, .invokestatic 181, 3), (34, .aload_n 0, 1), (35, .iload_n 3, 1), (36, .iload 5, 2), (38, .iconst 1, 1), (39, .iadd, 1), (40, .invokevirtual 115, 3), (43, .if_icmp .ne 7, 3), (46, .iconst 1, 1), (47, .goto 4, 3), (50, .iconst 0, 1), (51, .istore 4, 2), (53, .iinc 5 2, 3), (56, .goto (-50), 3), (59, .iload 4, 2), (61, .ireturn, 1)])
set_option maxRecDepth 20000 in
theorem tX8_pullsSo : ∀ q ∈ mX8_pullsSo.2, decode mX8_pullsSo.1.2.2.1 q.1 = .ok q.2 := by decide +kernel
def mX8_kinds : kw_M := ((RX8, yX8_kinds, cX8_kinds, 6, (some .int)), [(0, .aload_n 0, 1), (1, .iload_n 1, 1), (2, .iload_n 2, 1), (3, .invokevirtual 271, 3), (6, .istore_n 3, 1), (7, .iload_n 3, 1), (8, .ifCond .ge 5, 3), (11, .iload_n 3, 1), (12, .ireturn, 1), (13, .iconst 0, 1), (14, .istore 4, 2), (16, .iconst 0, 1), (17, .istore 5, 2), (19, .iload 5, 2), (21, .iconst 5, 1), (22, .if_icmp .gt 38, 3), (25, .iload 4, 2), (27, .aload_n 0, 1), (28, .iload 5, 2), (30, .aload_n 0, 1), (31, .getfield 45, 3), (34, .iload_n 1, 1), (35, .iaload, 1), (36, .iload_n 2, 1), (37, .invokevirtual 274, 3), (40, .ifCond .eq 10, 3), (43, .iconst 1, 1), (44, .iload 5, 2), (46, .ishl, 1), (47, .goto 4, 3), (50, .iconst 0, 1), (51, .ior, 1), (52, .istore 4, 2), (54, .iinc 5 1, 3), (57, .goto (-38), 3), (60, .iload 4, 2), (62, .ireturn, 1)])
set_option maxRecDepth 20000 in
theorem tX8_kinds : ∀ q ∈ mX8_kinds.2, decode mX8_kinds.1.2.2.1 q.1 = .ok q.2 := by decide +kernel
def mX8_areas : kw_M := ((RX8, yX8_areas, cX8_areas, 6, (some .int)), [(0, .aload_n 0, 1), (1, .iload_n 1, 1), (2, .iload_n 2, 1), (3, .invokevirtual 271, 3), (6, .istore_n 3, 1), (7, .iload_n 3, 1), (8, .ifCond .ge 5, 3), (11, .iload_n 3, 1), (12, .ireturn, 1), (13, .iconst 0, 1), (14, .istore 4, 2), (16, .iconst 1, 1), (17, .istore 5, 2), (19, .iload 5, 2), (21, .bipush 9, 2), (23, .if_icmp .gt 38, 3), (26, .iload 4, 2), (28, .aload_n 0, 1), (29, .aload_n 0, 1), (30, .getfield 39, 3), (33, .iload_n 1, 1), (34, .iaload, 1), (35, .iload 5, 2), (37, .iload_n 2, 1), (38, .invokevirtual 274, 3), (41, .ifCond .eq 10, 3), (44, .iconst 1, 1), (45, .iload 5, 2), (47, .ishl, 1), (48, .goto 4, 3), (51, .iconst 0, 1), (52, .ior, 1), (53, .istore 4, 2), (55, .iinc 5 1, 3), (58, .goto (-39), 3), (61, .iload 4, 2), (63, .ireturn, 1)])
set_option maxRecDepth 20000 in
theorem tX8_areas : ∀ q ∈ mX8_areas.2, decode mX8_areas.1.2.2.1 q.1 = .ok q.2 := by decide +kernel
def mX8_rival : kw_M := ((RX8, yX8_rival, cX8_rival, 9, (some .int)), [(0, .iload_n 1, 1), (1, .iconst 0, 1), (2, .iconst 2, 1), (3, .invokestatic 93, 3), (6, .ifCond .ne 5, 3), (9, .iconst (-1), 1), (10, .ireturn, 1), (11, .aload_n 0, 1), (12, .getfield 163, 3), (15, .ifCond .ne 6, 3), (18, .bipush (-4), 2), (20, .ireturn, 1), (21, .aload_n 0, 1), (22, .aload_n 0, 1), (23, .getfield 166, 3), (26, .invokevirtual 196, 3), (29, .istore_n 2, 1), (30, .iconst 0, 1), (31, .istore_n 3, 1), (32, .iload_n 3, 1), (33, .iconst 1, 1), (34, .aload_n 0, 1), (35, .getfield 163, 3), (38, .ishl, 1), (39, .if_icmp .ge 21, 3), (42, .aload_n 0, 1), (43, .getfield 78, 3), (46, .iload_n 3, 1), (47, .aload_n 0, 1), (48, .iload_n 3, 1), (49, .iload_n 2, 1), (50, .invokevirtual 199, 3), (53, .iastore, 1), (54, .iinc 3 1, 3), (57, .goto (-25), 3), (60, .iconst 2, 1), (61, .iload_n 1, 1), (62, .imul, 1), (63, .iconst 1, 1), (64, .isub, 1), (65, .istore_n 3, 1), (66, .iload_n 3, 1), (67, .ifCond .lt 169, 3), (70, .iload_n 3, 1), (71, .iconst 2, 1), (72, .irem, 1), (73, .ifCond .ne 7, 3), (76, .iconst 1, 1), (77, .goto 4, 3), (80, .iconst 0, 1), (81, .istore 4, 2), (83, .iconst 0, 1), (84, .istore 5, 2), (86, .iload 5, 2), (88, .iconst 1, 1), (89, .aload_n 0, 1), (90, .getfield 163, 3), (93, .ishl, 1), (94, .if_icmp .ge 102, 3), (97, .aload_n 0, 1), (98, .getfield 78, 3), (101, .iload 5, 2), (103, .iaload, 1), (104, .istore 6, 2), (106, .iconst 0, 1), (107, .istore 7, 2), (109, .iload 7, 2), (111, .aload_n 0, 1), (112, .getfield 163, 3), (115, .if_icmp .ge 66, 3), (118, .iload 5, 2), (120, .iload 7, 2), (122, .invokestatic 185, 3), (125, .iload 4, 2), (127, .if_icmp .eq 48, 3), (130, .aload_n 0, 1), (131, .getfield 78, 3), (134, .iload 5, 2), (136, .iconst 1, 1), (137, .iload 7, 2), (139, .ishl, 1), (140, .ixor, 1), (141, .iaload, 1), (142, .istore 8, 2), (144, .iload 4, 2), (146, .ifCond .eq 13, 3), (149, .iload 6, 2), (151, .iload 8, 2), (153, .invokestatic 265, 3), (156, .goto 17, 3), (159, .iload 8, 2), (161, .iload 6, 2), (163, .if_icmp .ge 8, 3), (166, .iload 8, 2), (168, .goto 5, 3), (171, .iload 6, 2), (173, .istore 6, 2), (175, .iinc 7 1, 3), (178, .goto (-69), 3), (181, .aload_n 0, 1), (182, .getfield 81, 3), (185, .iload 5, 2), (187, .iload 6, 2), (189, .iastore, 1), (190, .iinc 5 1, 3), (193, .goto (-107), 3), (196, .iconst 0, 1), (197, .istore 5, 2), (199, .iload 5, 2), (201, .iconst 1, 1), (202, .aload_n 0, 1), (203, .getfield 163, 3), (206, .ishl, 1), (207, .if_icmp .ge 23, 3), (210, .aload_n 0, 1), (211, .getfield 78, 3), (214, .iload 5, 2), (216, .aload_n 0, 1), (217, .getfield 81, 3), (220, .iload 5, 2), (222, .iaload, 1), (223, .iastore, 1), (224, .iinc 5 1, 3), (227, .goto (-28), 3), (230, .iinc 3 (-1), 3), (233, .goto (-167), 3), (236, .aload_n 0, 1), (237, .aload_n 0, 1), (238, .getfield 78, 3), (241, .aload_n 0, 1), (242, .getfield 175, 3), (245, .iaload, 1), (246, .iconst 1, 1), (247, .invokevirtual 119, 3), (250, .ireturn, 1)])
set_option maxRecDepth 20000 in
theorem tX8_rival : ∀ q ∈ mX8_rival.2, decode mX8_rival.1.2.2.1 q.1 = .ok q.2 := by decide +kernel
def mX8_power : kw_M := ((RX8, yX8_power, cX8_power, 6, (some .long)), [(0, .lconst 1, 1), (1, .lstore_n 3, 1), (2, .iconst 0, 1), (3, .istore 5, 2), (5, .iload 5, 2), (7, .iload_n 2, 1), (8, .if_icmp .ge 13, 3), (11, .lload_n 3, 1), (12, .lload_n 0, 1), (13, .lmul, 1), (14, .lstore_n 3, 1), (15, .iinc 5 1, 3), (18, .goto (-13), 3), (21, .lload_n 3, 1), (22, .lreturn, 1)])
set_option maxRecDepth 20000 in
theorem tX8_power : ∀ q ∈ mX8_power.2, decode mX8_power.1.2.2.1 q.1 = .ok q.2 := by decide +kernel
def mX8_gustMiles : kw_M := ((RX8, yX8_gustMiles, cX8_gustMiles, 5, (some .int)), [(0, .aload_n 0, 1), (1, .getfield 169, 3), (4, .istore_n 3, 1), (5, .iconst 0, 1), (6, .istore 4, 2), (8, .iload 4, 2), (10, .aload_n 0, 1), (11, .getfield 17, 3), (14, .iload_n 1, 1), (15, .iaload, 1), (16, .if_icmp .ge 41, 3), (19, .iload_n 3, 1), (20, .aload_n 0, 1), (21, .aload_n 0, 1), (22, .iload_n 1, 1), (23, .iload 4, 2), (25, .invokevirtual 115, 3), (28, .aload_n 0, 1), (29, .aload_n 0, 1), (30, .getfield 166, 3), (33, .iload 4, 2), (35, .iadd, 1), (36, .invokevirtual 196, 3), (39, .iload_n 2, 1), (40, .iload 4, 2), (42, .ishr, 1), (43, .iconst 1, 1), (44, .iand, 1), (45, .iadd, 1), (46, .invokevirtual 199, 3), (49, .iadd, 1), (50, .istore_n 3, 1), (51, .iinc 4 1, 3), (54, .goto (-46), 3), (57, .iload_n 3, 1), (58, .ireturn, 1)])
set_option maxRecDepth 20000 in
theorem tX8_gustMiles : ∀ q ∈ mX8_gustMiles.2, decode mX8_gustMiles.1.2.2.1 q.1 = .ok q.2 := by decide +kernel
def mX8_weightOf : kw_M := ((RX8, yX8_weightOf, cX8_weightOf, 4, (some .long)), [(0, .iload_n 3, 1), (1, .i2l, 1), (2, .iload_n 1, 1), (3, .invokestatic 217, 3), (6, .invokestatic 277, 3), (9, .bipush 12, 2), (11, .iload_n 3, 1), (12, .isub, 1), (13, .i2l, 1), (14, .iload_n 2, 1), (15, .iload_n 1, 1), (16, .invokestatic 217, 3), (19, .isub, 1), (20, .invokestatic 277, 3), (23, .lmul, 1), (24, .lreturn, 1)])
set_option maxRecDepth 20000 in
theorem tX8_weightOf : ∀ q ∈ mX8_weightOf.2, decode mX8_weightOf.1.2.2.1 q.1 = .ok q.2 := by decide +kernel
def mX8_mid : kw_M := ((RX8, yX8_mid, cX8_mid, 8, (some .int)), [(0, .iload_n 2, 1), (1, .iconst 0, 1), (2, .bipush 12, 2), (4, .invokestatic 93, 3), (7, .ifCond .ne 7, 3), (10, .iconst (-1), 1), (11, .goto 8, 3), (14, .aload_n 0, 1), (15, .iload_n 1, 1), (16, .invokevirtual 252, 3), (19, .istore_n 3, 1), (20, .iload_n 3, 1), (21, .ifCond .ge 5, 3), (24, .iload_n 3, 1), (25, .ireturn, 1), (26, .aload_n 0, 1), (27, .getfield 17, 3), (30, .iload_n 1, 1), (31, .iaload, 1), (32, .istore 4, 2), (34, .lconst 0, 1), (35, .lstore 5, 2), (37, .iconst 0, 1), (38, .istore 7, 2), (40, .iload 7, 2), (42, .iconst 1, 1), (43, .iload 4, 2), (45, .ishl, 1), (46, .if_icmp .ge 32, 3), (49, .lload 5, 2), (51, .aload_n 0, 1), (52, .iload_n 1, 1), (53, .iload 7, 2), (55, .invokevirtual 281, 3), (58, .i2l, 1), (59, .aload_n 0, 1), (60, .iload 7, 2), (62, .iload 4, 2), (64, .iload_n 2, 1), (65, .invokevirtual 284, 3), (68, .lmul, 1), (69, .ladd, 1), (70, .lstore 5, 2), (72, .iinc 7 1, 3), (75, .goto (-35), 3), (78, .aload_n 0, 1), (79, .lload 5, 2), (81, .ldc2_w 288, 3), (84, .iload 4, 2), (86, .invokestatic 277, 3), (89, .invokevirtual 223, 3), (92, .ireturn, 1)])
set_option maxRecDepth 20000 in
theorem tX8_mid : ∀ q ∈ mX8_mid.2, decode mX8_mid.1.2.2.1 q.1 = .ok q.2 := by decide +kernel
def mX8_odds : kw_M := ((RX8, yX8_odds, cX8_odds, 9, (some .int)), [(0, .iload_n 3, 1), (1, .iconst 0, 1), (2, .bipush 12, 2), (4, .invokestatic 93, 3), (7, .ifCond .eq 16, 3), (10, .iload_n 2, 1), (11, .sipush (-999), 3), (14, .sipush 999, 3), (17, .invokestatic 93, 3), (20, .ifCond .ne 7, 3), (23, .iconst (-1), 1), (24, .goto 8, 3), (27, .aload_n 0, 1), (28, .iload_n 1, 1), (29, .invokevirtual 252, 3), (32, .istore 4, 2), (34, .iload 4, 2), (36, .ifCond .ge 6, 3), (39, .iload 4, 2), (41, .ireturn, 1), (42, .aload_n 0, 1), (43, .getfield 17, 3), (46, .iload_n 1, 1), (47, .iaload, 1), (48, .istore 5, 2), (50, .lconst 0, 1), (51, .lstore 6, 2), (53, .iconst 0, 1), (54, .istore 8, 2), (56, .iload 8, 2), (58, .iconst 1, 1), (59, .iload 5, 2), (61, .ishl, 1), (62, .if_icmp .ge 38, 3), (65, .lload 6, 2), (67, .aload_n 0, 1), (68, .iload_n 1, 1), (69, .iload 8, 2), (71, .invokevirtual 281, 3), (74, .iload_n 2, 1), (75, .if_icmp .lt 15, 3), (78, .aload_n 0, 1), (79, .iload 8, 2), (81, .iload 5, 2), (83, .iload_n 3, 1), (84, .invokevirtual 284, 3), (87, .goto 4, 3), (90, .lconst 0, 1), (91, .ladd, 1), (92, .lstore 6, 2), (94, .iinc 8 1, 3), (97, .goto (-41), 3), (100, .aload_n 0, 1), (101, .lload 6, 2), (103, .ldc2_w 288, 3), (106, .iload 5, 2), (108, .invokestatic 277, 3), (111, .invokevirtual 223, 3), (114, .ireturn, 1)])
set_option maxRecDepth 20000 in
theorem tX8_odds : ∀ q ∈ mX8_odds.2, decode mX8_odds.1.2.2.1 q.1 = .ok q.2 := by decide +kernel
def mX8_lots : kw_M := ((RX8, yX8_lots, cX8_lots, 6, (some .int)), [(0, .iload_n 1, 1), (1, .iconst 1, 1), (2, .bipush 20, 2), (4, .invokestatic 93, 3), (7, .ifCond .eq 14, 3), (10, .iload_n 2, 1), (11, .iconst 1, 1), (12, .ldc_w 290, 3), (15, .invokestatic 93, 3), (18, .ifCond .ne 5, 3), (21, .iconst (-1), 1), (22, .ireturn, 1), (23, .aload_n 0, 1), (24, .getfield 163, 3), (27, .ifCond .ne 6, 3), (30, .bipush (-4), 2), (32, .ireturn, 1), (33, .aload_n 0, 1), (34, .getfield 178, 3), (37, .iconst 2, 1), (38, .iload_n 1, 1), (39, .imul, 1), (40, .iadd, 1), (41, .bipush 40, 2), (43, .if_icmp .le 6, 3), (46, .bipush (-2), 2), (48, .ireturn, 1), (49, .iload_n 2, 1), (50, .i2l, 1), (51, .lstore_n 3, 1), (52, .iconst 0, 1), (53, .istore 5, 2), (55, .iload 5, 2), (57, .iload_n 1, 1), (58, .if_icmp .ge 43, 3), (61, .ldc2_w 291, 3), (64, .lload_n 3, 1), (65, .lmul, 1), (66, .ldc2_w 293, 3), (69, .lrem, 1), (70, .lstore_n 3, 1), (71, .aload_n 0, 1), (72, .lload_n 3, 1), (73, .aload_n 0, 1), (74, .getfield 163, 3), (77, .i2l, 1), (78, .lrem, 1), (79, .l2i, 1), (80, .invokevirtual 214, 3), (83, .aload_n 0, 1), (84, .invokevirtual 208, 3), (87, .aload_n 0, 1), (88, .aload_n 0, 1), (89, .getfield 175, 3), (92, .invokevirtual 220, 3), (95, .iinc 5 1, 3), (98, .goto (-43), 3), (101, .aload_n 0, 1), (102, .aload_n 0, 1), (103, .getfield 169, 3), (106, .iconst 1, 1), (107, .invokevirtual 119, 3), (110, .ireturn, 1)])
set_option maxRecDepth 20000 in
theorem tX8_lots : ∀ q ∈ mX8_lots.2, decode mX8_lots.1.2.2.1 q.1 = .ok q.2 := by decide +kernel
def mX8_asked : kw_M := ((RX8, yX8_asked, cX8_asked, 1, (some .int)), [(0, .aload_n 0, 1), (1, .getfield 87, 3), (4, .ireturn, 1)])
set_option maxRecDepth 20000 in
theorem tX8_asked : ∀ q ∈ mX8_asked.2, decode mX8_asked.1.2.2.1 q.1 = .ok q.2 := by decide +kernel
def mX8_upper : kw_M := ((RX8, yX8_upper, cX8_upper, 1, (some .long)), [(0, .aload_n 0, 1), (1, .getfield 90, 3), (4, .lreturn, 1)])
set_option maxRecDepth 20000 in
theorem tX8_upper : ∀ q ∈ mX8_upper.2, decode mX8_upper.1.2.2.1 q.1 = .ok q.2 := by decide +kernel
def mX8_lower : kw_M := ((RX8, yX8_lower, cX8_lower, 1, (some .long)), [(0, .aload_n 0, 1), (1, .getfield 13, 3), (4, .lreturn, 1)])
set_option maxRecDepth 20000 in
theorem tX8_lower : ∀ q ∈ mX8_lower.2, decode mX8_lower.1.2.2.1 q.1 = .ok q.2 := by decide +kernel
def mX8_there : kw_M := ((RX8, yX8_there, cX8_there, 4, (some .int)), [(0, .iconst 0, 1), (1, .istore_n 2, 1), (2, .iconst 0, 1), (3, .istore_n 3, 1), (4, .iload_n 3, 1), (5, .bipush 6, 2), (7, .if_icmp .ge 73, 3), (10, .iload_n 2, 1), (11, .iload_n 1, 1), (12, .bipush 7, 2), (14, .if_icmp .ne 12, 3), (17, .aload_n 0, 1), (18, .getfield 17, 3), (21, .iload_n 3, 1), (22, .iaload, 1), (23, .ifCond .ge 44, 3), (26, .iload_n 1, 1), (27, .bipush 8, 2), (29, .if_icmp .ne 17, 3), (32, .iload_n 3, 1), (33, .iconst 4, 1), (34, .if_icmp .ge 12, 3), (37, .aload_n 0, 1), (38, .getfield 26, 3), (41, .iload_n 3, 1), (42, .iaload, 1), (43, .ifCond .ge 24, 3), (46, .iload_n 1, 1), (47, .bipush 9, 2), (49, .if_icmp .ne 22, 3), (52, .iload_n 3, 1), (53, .iconst 3, 1), (54, .if_icmp .ge 17, 3), (57, .aload_n 0, 1), (58, .getfield 63, 3), (61, .iload_n 3, 1), (62, .iaload, 1), (63, .iconst 1, 1), (64, .if_icmp .ne 7, 3), (67, .iconst 1, 1), (68, .goto 4, 3), (71, .iconst 0, 1), (72, .iadd, 1), (73, .istore_n 2, 1), (74, .iinc 3 1, 3), (77, .goto (-73), 3), (80, .iload_n 2, 1), (81, .ireturn, 1)])
set_option maxRecDepth 20000 in
theorem tX8_there : ∀ q ∈ mX8_there.2, decode mX8_there.1.2.2.1 q.1 = .ok q.2 := by decide +kernel
def mX8_tells : kw_M := ((RX8, yX8_tells, cX8_tells, 2, (some .int)), [(0, .iload_n 1, 1), (1, .tableswitch 83 0 6 #[43, 48, 53, 58, 66, 71, 77], 43), (44, .aload_n 0, 1), (45, .getfield 163, 3), (48, .ireturn, 1), (49, .aload_n 0, 1), (50, .getfield 166, 3), (53, .ireturn, 1), (54, .aload_n 0, 1), (55, .getfield 178, 3), (58, .ireturn, 1), (59, .aload_n 0, 1), (60, .getfield 175, 3), (63, .invokestatic 217, 3), (66, .ireturn, 1), (67, .aload_n 0, 1), (68, .invokevirtual 249, 3), (71, .ireturn, 1), (72, .aload_n 0, 1), (73, .iconst 1, 1), (74, .invokevirtual 295, 3), (77, .ireturn, 1), (78, .aload_n 0, 1), (79, .iconst 4, 1), (80, .invokevirtual 295, 3), (83, .ireturn, 1), (84, .aload_n 0, 1), (85, .iload_n 1, 1), (86, .invokevirtual 298, 3), (89, .ireturn, 1)])
set_option maxRecDepth 20000 in
theorem tX8_tells : ∀ q ∈ mX8_tells.2, decode mX8_tells.1.2.2.1 q.1 = .ok q.2 := by decide +kernel
def mX8_count : kw_M := ((RX8, yX8_count, cX8_count, 2, (some .int)), [(0, .iload_n 1, 1), (1, .iconst 0, 1), (2, .bipush 9, 2), (4, .invokestatic 93, 3), (7, .ifCond .eq 11, 3), (10, .aload_n 0, 1), (11, .iload_n 1, 1), (12, .invokevirtual 301, 3), (15, .goto 4, 3), (18, .iconst (-1), 1), (19, .ireturn, 1)])
set_option maxRecDepth 20000 in
theorem tX8_count : ∀ q ∈ mX8_count.2, decode mX8_count.1.2.2.1 q.1 = .ok q.2 := by decide +kernel
def mX8_miles : kw_M := ((RX8, yX8_miles, cX8_miles, 1, (some .int)), [(0, .aload_n 0, 1), (1, .aload_n 0, 1), (2, .getfield 172, 3), (5, .i2l, 1), (6, .lconst 1, 1), (7, .invokevirtual 223, 3), (10, .pop, 1), (11, .aload_n 0, 1), (12, .getfield 169, 3), (15, .ireturn, 1)])
set_option maxRecDepth 20000 in
theorem tX8_miles : ∀ q ∈ mX8_miles.2, decode mX8_miles.1.2.2.1 q.1 = .ok q.2 := by decide +kernel
def mX8_finding : kw_M := ((RX8, yX8_finding, cX8_finding, 1, (some .int)), [(0, .aload_n 0, 1), (1, .getfield 84, 3), (4, .ireturn, 1)])
set_option maxRecDepth 20000 in
theorem tX8_finding : ∀ q ∈ mX8_finding.2, decode mX8_finding.1.2.2.1 q.1 = .ok q.2 := by decide +kernel
def mX8_findings : kw_M := ((RX8, yX8_findings, cX8_findings, 2, (some .int)), [(0, .iload_n 1, 1), (1, .iconst 1, 1), (2, .iconst 5, 1), (3, .invokestatic 93, 3), (6, .ifCond .eq 12, 3), (9, .aload_n 0, 1), (10, .getfield 7, 3), (13, .iload_n 1, 1), (14, .iaload, 1), (15, .goto 4, 3), (18, .iconst (-1), 1), (19, .ireturn, 1)])
set_option maxRecDepth 20000 in
theorem tX8_findings : ∀ q ∈ mX8_findings.2, decode mX8_findings.1.2.2.1 q.1 = .ok q.2 := by decide +kernel
def mX8_mix : kw_M := ((RX8, yX8_mix, cX8_mix, 2, none), [(0, .aload_n 0, 1), (1, .ldc2_w 304, 3), (4, .aload_n 0, 1), (5, .getfield 306, 3), (8, .lmul, 1), (9, .iload_n 1, 1), (10, .i2l, 1), (11, .ladd, 1), (12, .putfield 306, 3), (15, .return_, 1)])
set_option maxRecDepth 20000 in
theorem tX8_mix : ∀ q ∈ mX8_mix.2, decode mX8_mix.1.2.2.1 q.1 = .ok q.2 := by decide +kernel
def mX8_mixTown : kw_M := ((RX8, yX8_mixTown, cX8_mixTown, 3, none), [(0, .aload_n 0, 1), (1, .aload_n 0, 1), (2, .getfield 169, 3), (5, .invokevirtual 309, 3), (8, .aload_n 0, 1), (9, .aload_n 0, 1), (10, .getfield 172, 3), (13, .invokevirtual 309, 3), (16, .iconst 0, 1), (17, .istore_n 1, 1), (18, .iload_n 1, 1), (19, .aload_n 0, 1), (20, .getfield 163, 3), (23, .if_icmp .ge 33, 3), (26, .iconst 0, 1), (27, .istore_n 2, 1), (28, .iload_n 2, 1), (29, .bipush 6, 2), (31, .if_icmp .gt 19, 3), (34, .aload_n 0, 1), (35, .aload_n 0, 1), (36, .iload_n 1, 1), (37, .iload_n 2, 1), (38, .invokevirtual 230, 3), (41, .invokevirtual 309, 3), (44, .iinc 2 1, 3), (47, .goto (-19), 3), (50, .iinc 1 1, 3), (53, .goto (-35), 3), (56, .iconst 0, 1), (57, .istore_n 1, 1), (58, .iload_n 1, 1), (59, .iconst 3, 1), (60, .if_icmp .ge 41, 3), (63, .aload_n 0, 1), (64, .aload_n 0, 1), (65, .getfield 63, 3), (68, .iload_n 1, 1), (69, .iaload, 1), (70, .iconst 1, 1), (71, .if_icmp .ne 20, 3), (74, .aload_n 0, 1), (75, .getfield 66, 3), (78, .sipush 411, 3), (81, .iload_n 1, 1), (82, .imul, 1), (83, .sipush 410, 3), (86, .iadd, 1), (87, .iaload, 1), (88, .goto 4, 3), (91, .iconst (-1), 1), (92, .invokevirtual 309, 3), (95, .iinc 1 1, 3), (98, .goto (-40), 3), (101, .return_, 1)])
set_option maxRecDepth 20000 in
theorem tX8_mixTown : ∀ q ∈ mX8_mixTown.2, decode mX8_mixTown.1.2.2.1 q.1 = .ok q.2 := by decide +kernel
def mX8_digest : kw_M := ((RX8, yX8_digest, cX8_digest, 3, (some .long)), [(0, .aload_n 0, 1), (1, .ldc2_w 312, 3), (4, .putfield 306, 3), (7, .iconst 0, 1), (8, .istore_n 1, 1), (9, .iload_n 1, 1), (10, .bipush 9, 2), (12, .if_icmp .gt 18, 3), (15, .aload_n 0, 1), (16, .aload_n 0, 1), (17, .iload_n 1, 1), (18, .invokevirtual 301, 3), (21, .invokevirtual 309, 3), (24, .iinc 1 1, 3), (27, .goto (-18), 3), (30, .aload_n 0, 1), (31, .invokevirtual 314, 3), (34, .iconst 0, 1), (35, .istore_n 1, 1), (36, .iload_n 1, 1), (37, .bipush 6, 2), (39, .if_icmp .ge 60, 3), (42, .aload_n 0, 1), (43, .aload_n 0, 1), (44, .getfield 17, 3), (47, .iload_n 1, 1), (48, .iaload, 1), (49, .ifCond .ge 7, 3), (52, .iconst (-1), 1), (53, .goto 9, 3), (56, .aload_n 0, 1), (57, .getfield 17, 3), (60, .iload_n 1, 1), (61, .iaload, 1), (62, .invokevirtual 309, 3), (65, .iconst 0, 1), (66, .istore_n 2, 1), (67, .iload_n 2, 1), (68, .aload_n 0, 1), (69, .getfield 17, 3), (72, .iload_n 1, 1), (73, .iaload, 1), (74, .if_icmp .ge 19, 3), (77, .aload_n 0, 1), (78, .aload_n 0, 1), (79, .iload_n 1, 1), (80, .iload_n 2, 1), (81, .invokevirtual 115, 3), (84, .invokevirtual 309, 3), (87, .iinc 2 1, 3), (90, .goto (-23), 3), (93, .iinc 1 1, 3), (96, .goto (-60), 3), (99, .iconst 0, 1), (100, .istore_n 1, 1), (101, .iload_n 1, 1), (102, .iconst 4, 1), (103, .if_icmp .ge 65, 3), (106, .aload_n 0, 1), (107, .aload_n 0, 1), (108, .getfield 26, 3), (111, .iload_n 1, 1), (112, .iaload, 1), (113, .ifCond .ge 7, 3), (116, .iconst (-1), 1), (117, .goto 9, 3), (120, .aload_n 0, 1), (121, .getfield 26, 3), (124, .iload_n 1, 1), (125, .iaload, 1), (126, .invokevirtual 309, 3), (129, .iconst 0, 1), (130, .istore_n 2, 1), (131, .iload_n 2, 1), (132, .aload_n 0, 1), (133, .getfield 26, 3), (136, .iload_n 1, 1), (137, .iaload, 1), (138, .if_icmp .ge 24, 3), (141, .aload_n 0, 1), (142, .aload_n 0, 1), (143, .getfield 29, 3), (146, .bipush 60, 2), (148, .iload_n 1, 1), (149, .imul, 1), (150, .iload_n 2, 1), (151, .iadd, 1), (152, .iaload, 1), (153, .invokevirtual 309, 3), (156, .iinc 2 1, 3), (159, .goto (-28), 3), (162, .iinc 1 1, 3), (165, .goto (-64), 3), (168, .aload_n 0, 1), (169, .getfield 306, 3), (172, .lreturn, 1)])
set_option maxRecDepth 20000 in
theorem tX8_digest : ∀ q ∈ mX8_digest.2, decode mX8_digest.1.2.2.1 q.1 = .ok q.2 := by decide +kernel
end
section
theorem inW0 : ∀ w ∈ u_ws RX0 TX0 4, w ∈ kw_ws := fun w h => kw_ws_in ((show ∀ w ∈ u_ws RX0 TX0 4, w ∈ lw_tbl by decide +kernel) w h) ((show ∀ w ∈ u_ws RX0 TX0 4, goodWord w = true by decide +kernel) w h)
theorem inW1 : ∀ w ∈ u_ws RX1 TX1 7, w ∈ kw_ws := fun w h => kw_ws_in ((show ∀ w ∈ u_ws RX1 TX1 7, w ∈ lw_tbl by decide +kernel) w h) ((show ∀ w ∈ u_ws RX1 TX1 7, goodWord w = true by decide +kernel) w h)
theorem inW2 : ∀ w ∈ u_ws RX2 TX2 2, w ∈ kw_ws := fun w h => kw_ws_in ((show ∀ w ∈ u_ws RX2 TX2 2, w ∈ lw_tbl by decide +kernel) w h) ((show ∀ w ∈ u_ws RX2 TX2 2, goodWord w = true by decide +kernel) w h)
theorem inW3 : ∀ w ∈ u_ws RX3 TX3 3, w ∈ kw_ws := fun w h => kw_ws_in ((show ∀ w ∈ u_ws RX3 TX3 3, w ∈ lw_tbl by decide +kernel) w h) ((show ∀ w ∈ u_ws RX3 TX3 3, goodWord w = true by decide +kernel) w h)
theorem inW4 : ∀ w ∈ u_ws RX4 TX4 5, w ∈ kw_ws := fun w h => kw_ws_in ((show ∀ w ∈ u_ws RX4 TX4 5, w ∈ lw_tbl by decide +kernel) w h) ((show ∀ w ∈ u_ws RX4 TX4 5, goodWord w = true by decide +kernel) w h)
theorem inW5 : ∀ w ∈ u_ws RX5 TX5 8, w ∈ kw_ws := fun w h => kw_ws_in ((show ∀ w ∈ u_ws RX5 TX5 8, w ∈ lw_tbl by decide +kernel) w h) ((show ∀ w ∈ u_ws RX5 TX5 8, goodWord w = true by decide +kernel) w h)
theorem inW6 : ∀ w ∈ u_ws RX6 TX6 8, w ∈ kw_ws := fun w h => kw_ws_in ((show ∀ w ∈ u_ws RX6 TX6 8, w ∈ lw_tbl by decide +kernel) w h) ((show ∀ w ∈ u_ws RX6 TX6 8, goodWord w = true by decide +kernel) w h)
theorem inW7 : ∀ w ∈ u_ws RX7 TX7 11, w ∈ kw_ws := fun w h => kw_ws_in ((show ∀ w ∈ u_ws RX7 TX7 11, w ∈ lw_tbl by decide +kernel) w h) ((show ∀ w ∈ u_ws RX7 TX7 11, goodWord w = true by decide +kernel) w h)
theorem inW8 : ∀ w ∈ u_ws RX8 TX8 37, w ∈ kw_ws := fun w h => kw_ws_in ((show ∀ w ∈ u_ws RX8 TX8 37, w ∈ lw_tbl by decide +kernel) w h) ((show ∀ w ∈ u_ws RX8 TX8 37, goodWord w = true by decide +kernel) w h)
theorem wIX7_row : Cond.instanceMethod yX7_row ∈ kw_ws := kw_ws_in (List.mem_append_right _ (List.mem_of_getElem? (i := 268) (by decide +kernel))) rfl
theorem wIX7_makeOn : Cond.instanceMethod yX7_makeOn ∈ kw_ws := kw_ws_in (List.mem_append_right _ (List.mem_of_getElem? (i := 273) (by decide +kernel))) rfl
theorem wIX3_has : Cond.instanceMethod yX3_has ∈ kw_ws := kw_ws_in (List.mem_append_right _ (List.mem_of_getElem? (i := 276) (by decide +kernel))) rfl
theorem wIX4_refuse : Cond.instanceMethod yX4_refuse ∈ kw_ws := kw_ws_in (List.mem_append_right _ (List.mem_of_getElem? (i := 280) (by decide +kernel))) rfl
theorem wIX3_make : Cond.instanceMethod yX3_make ∈ kw_ws := kw_ws_in (List.mem_append_right _ (List.mem_of_getElem? (i := 284) (by decide +kernel))) rfl
theorem wIX7_lay : Cond.instanceMethod yX7_lay ∈ kw_ws := kw_ws_in (List.mem_append_right _ (List.mem_of_getElem? (i := 289) (by decide +kernel))) rfl
theorem wIX3_findingAt : Cond.instanceMethod yX3_findingAt ∈ kw_ws := kw_ws_in (List.mem_append_right _ (List.mem_of_getElem? (i := 293) (by decide +kernel))) rfl
theorem wIX3_isMissing : Cond.instanceMethod yX3_isMissing ∈ kw_ws := kw_ws_in (List.mem_append_right _ (List.mem_of_getElem? (i := 297) (by decide +kernel))) rfl
theorem wIX3_sizeOf : Cond.instanceMethod yX3_sizeOf ∈ kw_ws := kw_ws_in (List.mem_append_right _ (List.mem_of_getElem? (i := 301) (by decide +kernel))) rfl
theorem wIX3_hasPlaces : Cond.instanceMethod yX3_hasPlaces ∈ kw_ws := kw_ws_in (List.mem_append_right _ (List.mem_of_getElem? (i := 305) (by decide +kernel))) rfl
theorem wIX3_valueAt : Cond.instanceMethod yX3_valueAt ∈ kw_ws := kw_ws_in (List.mem_append_right _ (List.mem_of_getElem? (i := 309) (by decide +kernel))) rfl
theorem wIX3_change : Cond.instanceMethod yX3_change ∈ kw_ws := kw_ws_in (List.mem_append_right _ (List.mem_of_getElem? (i := 313) (by decide +kernel))) rfl
theorem wIX4_answer : Cond.instanceMethod yX4_answer ∈ kw_ws := kw_ws_in (List.mem_append_right _ (List.mem_of_getElem? (i := 317) (by decide +kernel))) rfl
theorem wIX7_at : Cond.instanceMethod yX7_at ∈ kw_ws := kw_ws_in (List.mem_append_right _ (List.mem_of_getElem? (i := 321) (by decide +kernel))) rfl
theorem wIX7_tear : Cond.instanceMethod yX7_tear ∈ kw_ws := kw_ws_in (List.mem_append_right _ (List.mem_of_getElem? (i := 325) (by decide +kernel))) rfl
theorem wIX3_drop : Cond.instanceMethod yX3_drop ∈ kw_ws := kw_ws_in (List.mem_append_right _ (List.mem_of_getElem? (i := 330) (by decide +kernel))) rfl
theorem wIX7_copy : Cond.instanceMethod yX7_copy ∈ kw_ws := kw_ws_in (List.mem_append_right _ (List.mem_of_getElem? (i := 334) (by decide +kernel))) rfl
theorem wIX3_move : Cond.instanceMethod yX3_move ∈ kw_ws := kw_ws_in (List.mem_append_right _ (List.mem_of_getElem? (i := 339) (by decide +kernel))) rfl
theorem wIX7_mean : Cond.instanceMethod yX7_mean ∈ kw_ws := kw_ws_in (List.mem_append_right _ (List.mem_of_getElem? (i := 346) (by decide +kernel))) rfl
theorem wIX7_text : Cond.instanceMethod yX7_text ∈ kw_ws := kw_ws_in (List.mem_append_right _ (List.mem_of_getElem? (i := 351) (by decide +kernel))) rfl
theorem wIX7_put : Cond.instanceMethod yX7_put ∈ kw_ws := kw_ws_in (List.mem_append_right _ (List.mem_of_getElem? (i := 355) (by decide +kernel))) rfl
theorem wIX7_fault : Cond.instanceMethod yX7_fault ∈ kw_ws := kw_ws_in (List.mem_append_right _ (List.mem_of_getElem? (i := 359) (by decide +kernel))) rfl
theorem wIX2_faultOf : Cond.instanceMethod yX2_faultOf ∈ kw_ws := kw_ws_in (List.mem_append_right _ (List.mem_of_getElem? (i := 363) (by decide +kernel))) rfl
theorem wIX2_skipBlanks : Cond.instanceMethod yX2_skipBlanks ∈ kw_ws := kw_ws_in (List.mem_append_right _ (List.mem_of_getElem? (i := 368) (by decide +kernel))) rfl
theorem wIX2_readWinds : Cond.instanceMethod yX2_readWinds ∈ kw_ws := kw_ws_in (List.mem_append_right _ (List.mem_of_getElem? (i := 373) (by decide +kernel))) rfl
theorem wIX2_readLine : Cond.instanceMethod yX2_readLine ∈ kw_ws := kw_ws_in (List.mem_append_right _ (List.mem_of_getElem? (i := 378) (by decide +kernel))) rfl
theorem wIX2_readFigure : Cond.instanceMethod yX2_readFigure ∈ kw_ws := kw_ws_in (List.mem_append_right _ (List.mem_of_getElem? (i := 387) (by decide +kernel))) rfl
theorem wIX7_town : Cond.instanceMethod yX7_town ∈ kw_ws := kw_ws_in (List.mem_append_right _ (List.mem_of_getElem? (i := 390) (by decide +kernel))) rfl
theorem wIX1_copyFrom : Cond.instanceMethod yX1_copyFrom ∈ kw_ws := kw_ws_in (List.mem_append_right _ (List.mem_of_getElem? (i := 394) (by decide +kernel))) rfl
theorem wIX5_replay : Cond.instanceMethod yX5_replay ∈ kw_ws := kw_ws_in (List.mem_append_right _ (List.mem_of_getElem? (i := 399) (by decide +kernel))) rfl
theorem wIX5_act : Cond.instanceMethod yX5_act ∈ kw_ws := kw_ws_in (List.mem_append_right _ (List.mem_of_getElem? (i := 404) (by decide +kernel))) rfl
theorem wIX5_hasRoomFor : Cond.instanceMethod yX5_hasRoomFor ∈ kw_ws := kw_ws_in (List.mem_append_right _ (List.mem_of_getElem? (i := 408) (by decide +kernel))) rfl
theorem wIX5_passHour : Cond.instanceMethod yX5_passHour ∈ kw_ws := kw_ws_in (List.mem_append_right _ (List.mem_of_getElem? (i := 413) (by decide +kernel))) rfl
theorem wIX5_windNow : Cond.instanceMethod yX5_windNow ∈ kw_ws := kw_ws_in (List.mem_append_right _ (List.mem_of_getElem? (i := 416) (by decide +kernel))) rfl
theorem wIX1_windAt : Cond.instanceMethod yX1_windAt ∈ kw_ws := kw_ws_in (List.mem_append_right _ (List.mem_of_getElem? (i := 420) (by decide +kernel))) rfl
theorem wIX1_milesOf : Cond.instanceMethod yX1_milesOf ∈ kw_ws := kw_ws_in (List.mem_append_right _ (List.mem_of_getElem? (i := 424) (by decide +kernel))) rfl
theorem wIX1_pullOf : Cond.instanceMethod yX1_pullOf ∈ kw_ws := kw_ws_in (List.mem_append_right _ (List.mem_of_getElem? (i := 428) (by decide +kernel))) rfl
theorem wIX1_hasLine : Cond.instanceMethod yX1_hasLine ∈ kw_ws := kw_ws_in (List.mem_append_right _ (List.mem_of_getElem? (i := 432) (by decide +kernel))) rfl
theorem wIX1_turnOf : Cond.instanceMethod yX1_turnOf ∈ kw_ws := kw_ws_in (List.mem_append_right _ (List.mem_of_getElem? (i := 439) (by decide +kernel))) rfl
theorem wIX7_line : Cond.instanceMethod yX7_line ∈ kw_ws := kw_ws_in (List.mem_append_right _ (List.mem_of_getElem? (i := 452) (by decide +kernel))) rfl
theorem wIX5_trait : Cond.instanceMethod yX5_trait ∈ kw_ws := kw_ws_in (List.mem_append_right _ (List.mem_of_getElem? (i := 457) (by decide +kernel))) rfl
theorem wIX5_isHung : Cond.instanceMethod yX5_isHung ∈ kw_ws := kw_ws_in (List.mem_append_right _ (List.mem_of_getElem? (i := 462) (by decide +kernel))) rfl
theorem wIX7_mark : Cond.instanceMethod yX7_mark ∈ kw_ws := kw_ws_in (List.mem_append_right _ (List.mem_of_getElem? (i := 467) (by decide +kernel))) rfl
theorem wIX5_hoursToStorm : Cond.instanceMethod yX5_hoursToStorm ∈ kw_ws := kw_ws_in (List.mem_append_right _ (List.mem_of_getElem? (i := 477) (by decide +kernel))) rfl
theorem wIX5_windAhead : Cond.instanceMethod yX5_windAhead ∈ kw_ws := kw_ws_in (List.mem_append_right _ (List.mem_of_getElem? (i := 481) (by decide +kernel))) rfl
theorem wIX1_othersNoWider : Cond.instanceMethod yX1_othersNoWider ∈ kw_ws := kw_ws_in (List.mem_append_right _ (List.mem_of_getElem? (i := 491) (by decide +kernel))) rfl
theorem wIX7_wind : Cond.instanceMethod yX7_wind ∈ kw_ws := kw_ws_in (List.mem_append_right _ (List.mem_of_getElem? (i := 497) (by decide +kernel))) rfl
theorem wIX5_isEmpty : Cond.instanceMethod yX5_isEmpty ∈ kw_ws := kw_ws_in (List.mem_append_right _ (List.mem_of_getElem? (i := 501) (by decide +kernel))) rfl
theorem wIX7_hang : Cond.instanceMethod yX7_hang ∈ kw_ws := kw_ws_in (List.mem_append_right _ (List.mem_of_getElem? (i := 506) (by decide +kernel))) rfl
theorem wIX7_take : Cond.instanceMethod yX7_take ∈ kw_ws := kw_ws_in (List.mem_append_right _ (List.mem_of_getElem? (i := 513) (by decide +kernel))) rfl
theorem wIX7_hour : Cond.instanceMethod yX7_hour ∈ kw_ws := kw_ws_in (List.mem_append_right _ (List.mem_of_getElem? (i := 517) (by decide +kernel))) rfl
theorem wIX4_tellWhole : Cond.instanceMethod yX4_tellWhole ∈ kw_ws := kw_ws_in (List.mem_append_right _ (List.mem_of_getElem? (i := 521) (by decide +kernel))) rfl
theorem wIX7_undo : Cond.instanceMethod yX7_undo ∈ kw_ws := kw_ws_in (List.mem_append_right _ (List.mem_of_getElem? (i := 525) (by decide +kernel))) rfl
theorem wIX7_keep : Cond.instanceMethod yX7_keep ∈ kw_ws := kw_ws_in (List.mem_append_right _ (List.mem_of_getElem? (i := 529) (by decide +kernel))) rfl
theorem wIX7_on : Cond.instanceMethod yX7_on ∈ kw_ws := kw_ws_in (List.mem_append_right _ (List.mem_of_getElem? (i := 533) (by decide +kernel))) rfl
theorem wIX7_goes : Cond.instanceMethod yX7_goes ∈ kw_ws := kw_ws_in (List.mem_append_right _ (List.mem_of_getElem? (i := 537) (by decide +kernel))) rfl
theorem wIX1_hasSet : Cond.instanceMethod yX1_hasSet ∈ kw_ws := kw_ws_in (List.mem_append_right _ (List.mem_of_getElem? (i := 541) (by decide +kernel))) rfl
theorem wIX1_allLines : Cond.instanceMethod yX1_allLines ∈ kw_ws := kw_ws_in (List.mem_append_right _ (List.mem_of_getElem? (i := 545) (by decide +kernel))) rfl
theorem wIX7_even : Cond.instanceMethod yX7_even ∈ kw_ws := kw_ws_in (List.mem_append_right _ (List.mem_of_getElem? (i := 551) (by decide +kernel))) rfl
theorem wIX0_draw : Cond.instanceMethod yX0_draw ∈ kw_ws := kw_ws_in (List.mem_append_right _ (List.mem_of_getElem? (i := 555) (by decide +kernel))) rfl
theorem wIX0_fits : Cond.instanceMethod yX0_fits ∈ kw_ws := kw_ws_in (List.mem_append_right _ (List.mem_of_getElem? (i := 560) (by decide +kernel))) rfl
theorem wIX0_milesOf : Cond.instanceMethod yX0_milesOf ∈ kw_ws := kw_ws_in (List.mem_append_right _ (List.mem_of_getElem? (i := 564) (by decide +kernel))) rfl
theorem wIX0_turnBy : Cond.instanceMethod yX0_turnBy ∈ kw_ws := kw_ws_in (List.mem_append_right _ (List.mem_of_getElem? (i := 568) (by decide +kernel))) rfl
theorem wIX1_linenOf : Cond.instanceMethod yX1_linenOf ∈ kw_ws := kw_ws_in (List.mem_append_right _ (List.mem_of_getElem? (i := 572) (by decide +kernel))) rfl
theorem wIX7_fast : Cond.instanceMethod yX7_fast ∈ kw_ws := kw_ws_in (List.mem_append_right _ (List.mem_of_getElem? (i := 576) (by decide +kernel))) rfl
theorem wIX7_wet : Cond.instanceMethod yX7_wet ∈ kw_ws := kw_ws_in (List.mem_append_right _ (List.mem_of_getElem? (i := 581) (by decide +kernel))) rfl
theorem wIX5_allWet : Cond.instanceMethod yX5_allWet ∈ kw_ws := kw_ws_in (List.mem_append_right _ (List.mem_of_getElem? (i := 585) (by decide +kernel))) rfl
theorem wIX7_drySet : Cond.instanceMethod yX7_drySet ∈ kw_ws := kw_ws_in (List.mem_append_right _ (List.mem_of_getElem? (i := 591) (by decide +kernel))) rfl
theorem wIX7_sail : Cond.instanceMethod yX7_sail ∈ kw_ws := kw_ws_in (List.mem_append_right _ (List.mem_of_getElem? (i := 594) (by decide +kernel))) rfl
theorem wIX7_planRefusal : Cond.instanceMethod yX7_planRefusal ∈ kw_ws := kw_ws_in (List.mem_append_right _ (List.mem_of_getElem? (i := 599) (by decide +kernel))) rfl
theorem wIX7_dry : Cond.instanceMethod yX7_dry ∈ kw_ws := kw_ws_in (List.mem_append_right _ (List.mem_of_getElem? (i := 603) (by decide +kernel))) rfl
theorem wIX7_far : Cond.instanceMethod yX7_far ∈ kw_ws := kw_ws_in (List.mem_append_right _ (List.mem_of_getElem? (i := 609) (by decide +kernel))) rfl
theorem wIX6_find : Cond.instanceMethod yX6_find ∈ kw_ws := kw_ws_in (List.mem_append_right _ (List.mem_of_getElem? (i := 613) (by decide +kernel))) rfl
theorem wIX1_mostMilesOf : Cond.instanceMethod yX1_mostMilesOf ∈ kw_ws := kw_ws_in (List.mem_append_right _ (List.mem_of_getElem? (i := 621) (by decide +kernel))) rfl
theorem wIX6_sailFrom : Cond.instanceMethod yX6_sailFrom ∈ kw_ws := kw_ws_in (List.mem_append_right _ (List.mem_of_getElem? (i := 627) (by decide +kernel))) rfl
theorem wIX7_soon : Cond.instanceMethod yX7_soon ∈ kw_ws := kw_ws_in (List.mem_append_right _ (List.mem_of_getElem? (i := 633) (by decide +kernel))) rfl
theorem wIX7_least : Cond.instanceMethod yX7_least ∈ kw_ws := kw_ws_in (List.mem_append_right _ (List.mem_of_getElem? (i := 638) (by decide +kernel))) rfl
theorem wIX7_mostMilesBehind : Cond.instanceMethod yX7_mostMilesBehind ∈ kw_ws := kw_ws_in (List.mem_append_right _ (List.mem_of_getElem? (i := 643) (by decide +kernel))) rfl
theorem wIX7_ways : Cond.instanceMethod yX7_ways ∈ kw_ws := kw_ws_in (List.mem_append_right _ (List.mem_of_getElem? (i := 646) (by decide +kernel))) rfl
theorem wIX7_kinds : Cond.instanceMethod yX7_kinds ∈ kw_ws := kw_ws_in (List.mem_append_right _ (List.mem_of_getElem? (i := 650) (by decide +kernel))) rfl
theorem wIX7_pairsRefusal : Cond.instanceMethod yX7_pairsRefusal ∈ kw_ws := kw_ws_in (List.mem_append_right _ (List.mem_of_getElem? (i := 655) (by decide +kernel))) rfl
theorem wIX7_pulledSo : Cond.instanceMethod yX7_pulledSo ∈ kw_ws := kw_ws_in (List.mem_append_right _ (List.mem_of_getElem? (i := 659) (by decide +kernel))) rfl
theorem wIX7_areas : Cond.instanceMethod yX7_areas ∈ kw_ws := kw_ws_in (List.mem_append_right _ (List.mem_of_getElem? (i := 662) (by decide +kernel))) rfl
theorem wIX7_rival : Cond.instanceMethod yX7_rival ∈ kw_ws := kw_ws_in (List.mem_append_right _ (List.mem_of_getElem? (i := 666) (by decide +kernel))) rfl
theorem wIX7_mid : Cond.instanceMethod yX7_mid ∈ kw_ws := kw_ws_in (List.mem_append_right _ (List.mem_of_getElem? (i := 673) (by decide +kernel))) rfl
theorem wIX7_foresee : Cond.instanceMethod yX7_foresee ∈ kw_ws := kw_ws_in (List.mem_append_right _ (List.mem_of_getElem? (i := 678) (by decide +kernel))) rfl
theorem wIX4_tellShare : Cond.instanceMethod yX4_tellShare ∈ kw_ws := kw_ws_in (List.mem_append_right _ (List.mem_of_getElem? (i := 682) (by decide +kernel))) rfl
theorem wIX7_odds : Cond.instanceMethod yX7_odds ∈ kw_ws := kw_ws_in (List.mem_append_right _ (List.mem_of_getElem? (i := 692) (by decide +kernel))) rfl
theorem wIX7_milesByGusts : Cond.instanceMethod yX7_milesByGusts ∈ kw_ws := kw_ws_in (List.mem_append_right _ (List.mem_of_getElem? (i := 697) (by decide +kernel))) rfl
theorem wIX7_lots : Cond.instanceMethod yX7_lots ∈ kw_ws := kw_ws_in (List.mem_append_right _ (List.mem_of_getElem? (i := 703) (by decide +kernel))) rfl
theorem wIX7_asked : Cond.instanceMethod yX7_asked ∈ kw_ws := kw_ws_in (List.mem_append_right _ (List.mem_of_getElem? (i := 709) (by decide +kernel))) rfl
theorem wIX7_upper : Cond.instanceMethod yX7_upper ∈ kw_ws := kw_ws_in (List.mem_append_right _ (List.mem_of_getElem? (i := 713) (by decide +kernel))) rfl
theorem wIX7_lower : Cond.instanceMethod yX7_lower ∈ kw_ws := kw_ws_in (List.mem_append_right _ (List.mem_of_getElem? (i := 717) (by decide +kernel))) rfl
theorem wIX7_count : Cond.instanceMethod yX7_count ∈ kw_ws := kw_ws_in (List.mem_append_right _ (List.mem_of_getElem? (i := 721) (by decide +kernel))) rfl
theorem wIX1_howManyAre : Cond.instanceMethod yX1_howManyAre ∈ kw_ws := kw_ws_in (List.mem_append_right _ (List.mem_of_getElem? (i := 725) (by decide +kernel))) rfl
theorem wIX3_howMany : Cond.instanceMethod yX3_howMany ∈ kw_ws := kw_ws_in (List.mem_append_right _ (List.mem_of_getElem? (i := 730) (by decide +kernel))) rfl
theorem wIX7_miles : Cond.instanceMethod yX7_miles ∈ kw_ws := kw_ws_in (List.mem_append_right _ (List.mem_of_getElem? (i := 734) (by decide +kernel))) rfl
theorem wIX7_finding : Cond.instanceMethod yX7_finding ∈ kw_ws := kw_ws_in (List.mem_append_right _ (List.mem_of_getElem? (i := 738) (by decide +kernel))) rfl
theorem wIX7_findings : Cond.instanceMethod yX7_findings ∈ kw_ws := kw_ws_in (List.mem_append_right _ (List.mem_of_getElem? (i := 742) (by decide +kernel))) rfl
theorem wIX7_digest : Cond.instanceMethod yX7_digest ∈ kw_ws := kw_ws_in (List.mem_append_right _ (List.mem_of_getElem? (i := 746) (by decide +kernel))) rfl
theorem wIX3_fold : Cond.instanceMethod yX3_fold ∈ kw_ws := kw_ws_in (List.mem_append_right _ (List.mem_of_getElem? (i := 753) (by decide +kernel))) rfl
theorem wIX8_row : Cond.instanceMethod yX8_row ∈ kw_ws := kw_ws_in (List.mem_append_right _ (List.mem_of_getElem? (i := 876) (by decide +kernel))) rfl
theorem wIX8_meet : Cond.instanceMethod yX8_meet ∈ kw_ws := kw_ws_in (List.mem_append_right _ (List.mem_of_getElem? (i := 887) (by decide +kernel))) rfl
theorem wIX8_setRow : Cond.instanceMethod yX8_setRow ∈ kw_ws := kw_ws_in (List.mem_append_right _ (List.mem_of_getElem? (i := 891) (by decide +kernel))) rfl
theorem wIX8_at : Cond.instanceMethod yX8_at ∈ kw_ws := kw_ws_in (List.mem_append_right _ (List.mem_of_getElem? (i := 894) (by decide +kernel))) rfl
theorem wIX8_askedRow : Cond.instanceMethod yX8_askedRow ∈ kw_ws := kw_ws_in (List.mem_append_right _ (List.mem_of_getElem? (i := 899) (by decide +kernel))) rfl
theorem wIX8_rowAt : Cond.instanceMethod yX8_rowAt ∈ kw_ws := kw_ws_in (List.mem_append_right _ (List.mem_of_getElem? (i := 903) (by decide +kernel))) rfl
theorem wIX8_ask : Cond.instanceMethod yX8_ask ∈ kw_ws := kw_ws_in (List.mem_append_right _ (List.mem_of_getElem? (i := 907) (by decide +kernel))) rfl
theorem wIX8_lay : Cond.instanceMethod yX8_lay ∈ kw_ws := kw_ws_in (List.mem_append_right _ (List.mem_of_getElem? (i := 910) (by decide +kernel))) rfl
theorem wIX8_tear : Cond.instanceMethod yX8_tear ∈ kw_ws := kw_ws_in (List.mem_append_right _ (List.mem_of_getElem? (i := 915) (by decide +kernel))) rfl
theorem wIX8_copy : Cond.instanceMethod yX8_copy ∈ kw_ws := kw_ws_in (List.mem_append_right _ (List.mem_of_getElem? (i := 919) (by decide +kernel))) rfl
theorem wIX8_mean : Cond.instanceMethod yX8_mean ∈ kw_ws := kw_ws_in (List.mem_append_right _ (List.mem_of_getElem? (i := 923) (by decide +kernel))) rfl
theorem wIX8_text : Cond.instanceMethod yX8_text ∈ kw_ws := kw_ws_in (List.mem_append_right _ (List.mem_of_getElem? (i := 927) (by decide +kernel))) rfl
theorem wIX8_put : Cond.instanceMethod yX8_put ∈ kw_ws := kw_ws_in (List.mem_append_right _ (List.mem_of_getElem? (i := 934) (by decide +kernel))) rfl
theorem wIX8_askedText : Cond.instanceMethod yX8_askedText ∈ kw_ws := kw_ws_in (List.mem_append_right _ (List.mem_of_getElem? (i := 939) (by decide +kernel))) rfl
theorem wIX8_fault : Cond.instanceMethod yX8_fault ∈ kw_ws := kw_ws_in (List.mem_append_right _ (List.mem_of_getElem? (i := 942) (by decide +kernel))) rfl
theorem wIX8_goesOn : Cond.instanceMethod yX8_goesOn ∈ kw_ws := kw_ws_in (List.mem_append_right _ (List.mem_of_getElem? (i := 947) (by decide +kernel))) rfl
theorem wIX8_readsTown : Cond.instanceMethod yX8_readsTown ∈ kw_ws := kw_ws_in (List.mem_append_right _ (List.mem_of_getElem? (i := 951) (by decide +kernel))) rfl
theorem wIX8_readsWinds : Cond.instanceMethod yX8_readsWinds ∈ kw_ws := kw_ws_in (List.mem_append_right _ (List.mem_of_getElem? (i := 955) (by decide +kernel))) rfl
theorem wIX8_skip : Cond.instanceMethod yX8_skip ∈ kw_ws := kw_ws_in (List.mem_append_right _ (List.mem_of_getElem? (i := 959) (by decide +kernel))) rfl
theorem wIX8_here : Cond.instanceMethod yX8_here ∈ kw_ws := kw_ws_in (List.mem_append_right _ (List.mem_of_getElem? (i := 963) (by decide +kernel))) rfl
theorem wIX8_readsLine : Cond.instanceMethod yX8_readsLine ∈ kw_ws := kw_ws_in (List.mem_append_right _ (List.mem_of_getElem? (i := 967) (by decide +kernel))) rfl
theorem wIX8_figure : Cond.instanceMethod yX8_figure ∈ kw_ws := kw_ws_in (List.mem_append_right _ (List.mem_of_getElem? (i := 974) (by decide +kernel))) rfl
theorem wIX8_town : Cond.instanceMethod yX8_town ∈ kw_ws := kw_ws_in (List.mem_append_right _ (List.mem_of_getElem? (i := 977) (by decide +kernel))) rfl
theorem wIX8_hang : Cond.instanceMethod yX8_hang ∈ kw_ws := kw_ws_in (List.mem_append_right _ (List.mem_of_getElem? (i := 981) (by decide +kernel))) rfl
theorem wIX8_isLine : Cond.instanceMethod yX8_isLine ∈ kw_ws := kw_ws_in (List.mem_append_right _ (List.mem_of_getElem? (i := 986) (by decide +kernel))) rfl
theorem wIX8_turnLine : Cond.instanceMethod yX8_turnLine ∈ kw_ws := kw_ws_in (List.mem_append_right _ (List.mem_of_getElem? (i := 993) (by decide +kernel))) rfl
theorem wIX8_note : Cond.instanceMethod yX8_note ∈ kw_ws := kw_ws_in (List.mem_append_right _ (List.mem_of_getElem? (i := 997) (by decide +kernel))) rfl
theorem wIX8_write : Cond.instanceMethod yX8_write ∈ kw_ws := kw_ws_in (List.mem_append_right _ (List.mem_of_getElem? (i := 1001) (by decide +kernel))) rfl
theorem wIX8_take : Cond.instanceMethod yX8_take ∈ kw_ws := kw_ws_in (List.mem_append_right _ (List.mem_of_getElem? (i := 1007) (by decide +kernel))) rfl
theorem wIX8_hour : Cond.instanceMethod yX8_hour ∈ kw_ws := kw_ws_in (List.mem_append_right _ (List.mem_of_getElem? (i := 1011) (by decide +kernel))) rfl
theorem wIX8_pass : Cond.instanceMethod yX8_pass ∈ kw_ws := kw_ws_in (List.mem_append_right _ (List.mem_of_getElem? (i := 1016) (by decide +kernel))) rfl
theorem wIX8_windAt : Cond.instanceMethod yX8_windAt ∈ kw_ws := kw_ws_in (List.mem_append_right _ (List.mem_of_getElem? (i := 1020) (by decide +kernel))) rfl
theorem wIX8_milesBy : Cond.instanceMethod yX8_milesBy ∈ kw_ws := kw_ws_in (List.mem_append_right _ (List.mem_of_getElem? (i := 1024) (by decide +kernel))) rfl
theorem wIX8_pullOf : Cond.instanceMethod yX8_pullOf ∈ kw_ws := kw_ws_in (List.mem_append_right _ (List.mem_of_getElem? (i := 1028) (by decide +kernel))) rfl
theorem wIX8_turnBy : Cond.instanceMethod yX8_turnBy ∈ kw_ws := kw_ws_in (List.mem_append_right _ (List.mem_of_getElem? (i := 1035) (by decide +kernel))) rfl
theorem wIX8_wetBehind : Cond.instanceMethod yX8_wetBehind ∈ kw_ws := kw_ws_in (List.mem_append_right _ (List.mem_of_getElem? (i := 1039) (by decide +kernel))) rfl
theorem wIX8_part : Cond.instanceMethod yX8_part ∈ kw_ws := kw_ws_in (List.mem_append_right _ (List.mem_of_getElem? (i := 1043) (by decide +kernel))) rfl
theorem wIX8_undo : Cond.instanceMethod yX8_undo ∈ kw_ws := kw_ws_in (List.mem_append_right _ (List.mem_of_getElem? (i := 1046) (by decide +kernel))) rfl
theorem wIX8_read : Cond.instanceMethod yX8_read ∈ kw_ws := kw_ws_in (List.mem_append_right _ (List.mem_of_getElem? (i := 1051) (by decide +kernel))) rfl
theorem wIX8_keep : Cond.instanceMethod yX8_keep ∈ kw_ws := kw_ws_in (List.mem_append_right _ (List.mem_of_getElem? (i := 1054) (by decide +kernel))) rfl
theorem wIX8_on : Cond.instanceMethod yX8_on ∈ kw_ws := kw_ws_in (List.mem_append_right _ (List.mem_of_getElem? (i := 1058) (by decide +kernel))) rfl
theorem wIX8_line : Cond.instanceMethod yX8_line ∈ kw_ws := kw_ws_in (List.mem_append_right _ (List.mem_of_getElem? (i := 1062) (by decide +kernel))) rfl
theorem wIX8_lineOf : Cond.instanceMethod yX8_lineOf ∈ kw_ws := kw_ws_in (List.mem_append_right _ (List.mem_of_getElem? (i := 1067) (by decide +kernel))) rfl
theorem wIX8_mark : Cond.instanceMethod yX8_mark ∈ kw_ws := kw_ws_in (List.mem_append_right _ (List.mem_of_getElem? (i := 1070) (by decide +kernel))) rfl
theorem wIX8_hoursTill : Cond.instanceMethod yX8_hoursTill ∈ kw_ws := kw_ws_in (List.mem_append_right _ (List.mem_of_getElem? (i := 1078) (by decide +kernel))) rfl
theorem wIX8_lesserOnes : Cond.instanceMethod yX8_lesserOnes ∈ kw_ws := kw_ws_in (List.mem_append_right _ (List.mem_of_getElem? (i := 1082) (by decide +kernel))) rfl
theorem wIX8_wind : Cond.instanceMethod yX8_wind ∈ kw_ws := kw_ws_in (List.mem_append_right _ (List.mem_of_getElem? (i := 1085) (by decide +kernel))) rfl
theorem wIX8_goes : Cond.instanceMethod yX8_goes ∈ kw_ws := kw_ws_in (List.mem_append_right _ (List.mem_of_getElem? (i := 1089) (by decide +kernel))) rfl
theorem wIX8_isSet : Cond.instanceMethod yX8_isSet ∈ kw_ws := kw_ws_in (List.mem_append_right _ (List.mem_of_getElem? (i := 1094) (by decide +kernel))) rfl
theorem wIX8_even : Cond.instanceMethod yX8_even ∈ kw_ws := kw_ws_in (List.mem_append_right _ (List.mem_of_getElem? (i := 1097) (by decide +kernel))) rfl
theorem wIX8_linenOf : Cond.instanceMethod yX8_linenOf ∈ kw_ws := kw_ws_in (List.mem_append_right _ (List.mem_of_getElem? (i := 1102) (by decide +kernel))) rfl
theorem wIX8_fast : Cond.instanceMethod yX8_fast ∈ kw_ws := kw_ws_in (List.mem_append_right _ (List.mem_of_getElem? (i := 1105) (by decide +kernel))) rfl
theorem wIX8_wet : Cond.instanceMethod yX8_wet ∈ kw_ws := kw_ws_in (List.mem_append_right _ (List.mem_of_getElem? (i := 1109) (by decide +kernel))) rfl
theorem wIX8_wetOfAll : Cond.instanceMethod yX8_wetOfAll ∈ kw_ws := kw_ws_in (List.mem_append_right _ (List.mem_of_getElem? (i := 1114) (by decide +kernel))) rfl
theorem wIX8_sail : Cond.instanceMethod yX8_sail ∈ kw_ws := kw_ws_in (List.mem_append_right _ (List.mem_of_getElem? (i := 1117) (by decide +kernel))) rfl
theorem wIX8_askedPlan : Cond.instanceMethod yX8_askedPlan ∈ kw_ws := kw_ws_in (List.mem_append_right _ (List.mem_of_getElem? (i := 1122) (by decide +kernel))) rfl
theorem wIX8_dry : Cond.instanceMethod yX8_dry ∈ kw_ws := kw_ws_in (List.mem_append_right _ (List.mem_of_getElem? (i := 1125) (by decide +kernel))) rfl
theorem wIX8_far : Cond.instanceMethod yX8_far ∈ kw_ws := kw_ws_in (List.mem_append_right _ (List.mem_of_getElem? (i := 1129) (by decide +kernel))) rfl
theorem wIX8_setHours : Cond.instanceMethod yX8_setHours ∈ kw_ws := kw_ws_in (List.mem_append_right _ (List.mem_of_getElem? (i := 1134) (by decide +kernel))) rfl
theorem wIX8_farBy : Cond.instanceMethod yX8_farBy ∈ kw_ws := kw_ws_in (List.mem_append_right _ (List.mem_of_getElem? (i := 1138) (by decide +kernel))) rfl
theorem wIX8_soon : Cond.instanceMethod yX8_soon ∈ kw_ws := kw_ws_in (List.mem_append_right _ (List.mem_of_getElem? (i := 1145) (by decide +kernel))) rfl
theorem wIX8_mostOf : Cond.instanceMethod yX8_mostOf ∈ kw_ws := kw_ws_in (List.mem_append_right _ (List.mem_of_getElem? (i := 1150) (by decide +kernel))) rfl
theorem wIX8_least : Cond.instanceMethod yX8_least ∈ kw_ws := kw_ws_in (List.mem_append_right _ (List.mem_of_getElem? (i := 1156) (by decide +kernel))) rfl
theorem wIX8_ways : Cond.instanceMethod yX8_ways ∈ kw_ws := kw_ws_in (List.mem_append_right _ (List.mem_of_getElem? (i := 1160) (by decide +kernel))) rfl
theorem wIX8_kinds : Cond.instanceMethod yX8_kinds ∈ kw_ws := kw_ws_in (List.mem_append_right _ (List.mem_of_getElem? (i := 1164) (by decide +kernel))) rfl
theorem wIX8_askedPulls : Cond.instanceMethod yX8_askedPulls ∈ kw_ws := kw_ws_in (List.mem_append_right _ (List.mem_of_getElem? (i := 1169) (by decide +kernel))) rfl
theorem wIX8_pullsSo : Cond.instanceMethod yX8_pullsSo ∈ kw_ws := kw_ws_in (List.mem_append_right _ (List.mem_of_getElem? (i := 1173) (by decide +kernel))) rfl
theorem wIX8_areas : Cond.instanceMethod yX8_areas ∈ kw_ws := kw_ws_in (List.mem_append_right _ (List.mem_of_getElem? (i := 1176) (by decide +kernel))) rfl
theorem wIX8_rival : Cond.instanceMethod yX8_rival ∈ kw_ws := kw_ws_in (List.mem_append_right _ (List.mem_of_getElem? (i := 1180) (by decide +kernel))) rfl
theorem wIX8_mid : Cond.instanceMethod yX8_mid ∈ kw_ws := kw_ws_in (List.mem_append_right _ (List.mem_of_getElem? (i := 1184) (by decide +kernel))) rfl
theorem wIX8_gustMiles : Cond.instanceMethod yX8_gustMiles ∈ kw_ws := kw_ws_in (List.mem_append_right _ (List.mem_of_getElem? (i := 1189) (by decide +kernel))) rfl
theorem wIX8_weightOf : Cond.instanceMethod yX8_weightOf ∈ kw_ws := kw_ws_in (List.mem_append_right _ (List.mem_of_getElem? (i := 1193) (by decide +kernel))) rfl
theorem wIX8_odds : Cond.instanceMethod yX8_odds ∈ kw_ws := kw_ws_in (List.mem_append_right _ (List.mem_of_getElem? (i := 1200) (by decide +kernel))) rfl
theorem wIX8_lots : Cond.instanceMethod yX8_lots ∈ kw_ws := kw_ws_in (List.mem_append_right _ (List.mem_of_getElem? (i := 1204) (by decide +kernel))) rfl
theorem wIX8_asked : Cond.instanceMethod yX8_asked ∈ kw_ws := kw_ws_in (List.mem_append_right _ (List.mem_of_getElem? (i := 1211) (by decide +kernel))) rfl
theorem wIX8_upper : Cond.instanceMethod yX8_upper ∈ kw_ws := kw_ws_in (List.mem_append_right _ (List.mem_of_getElem? (i := 1215) (by decide +kernel))) rfl
theorem wIX8_lower : Cond.instanceMethod yX8_lower ∈ kw_ws := kw_ws_in (List.mem_append_right _ (List.mem_of_getElem? (i := 1219) (by decide +kernel))) rfl
theorem wIX8_count : Cond.instanceMethod yX8_count ∈ kw_ws := kw_ws_in (List.mem_append_right _ (List.mem_of_getElem? (i := 1223) (by decide +kernel))) rfl
theorem wIX8_tells : Cond.instanceMethod yX8_tells ∈ kw_ws := kw_ws_in (List.mem_append_right _ (List.mem_of_getElem? (i := 1228) (by decide +kernel))) rfl
theorem wIX8_howMany : Cond.instanceMethod yX8_howMany ∈ kw_ws := kw_ws_in (List.mem_append_right _ (List.mem_of_getElem? (i := 1232) (by decide +kernel))) rfl
theorem wIX8_there : Cond.instanceMethod yX8_there ∈ kw_ws := kw_ws_in (List.mem_append_right _ (List.mem_of_getElem? (i := 1236) (by decide +kernel))) rfl
theorem wIX8_miles : Cond.instanceMethod yX8_miles ∈ kw_ws := kw_ws_in (List.mem_append_right _ (List.mem_of_getElem? (i := 1239) (by decide +kernel))) rfl
theorem wIX8_finding : Cond.instanceMethod yX8_finding ∈ kw_ws := kw_ws_in (List.mem_append_right _ (List.mem_of_getElem? (i := 1243) (by decide +kernel))) rfl
theorem wIX8_findings : Cond.instanceMethod yX8_findings ∈ kw_ws := kw_ws_in (List.mem_append_right _ (List.mem_of_getElem? (i := 1247) (by decide +kernel))) rfl
theorem wIX8_digest : Cond.instanceMethod yX8_digest ∈ kw_ws := kw_ws_in (List.mem_append_right _ (List.mem_of_getElem? (i := 1251) (by decide +kernel))) rfl
theorem wIX8_mix : Cond.instanceMethod yX8_mix ∈ kw_ws := kw_ws_in (List.mem_append_right _ (List.mem_of_getElem? (i := 1257) (by decide +kernel))) rfl
theorem wIX8_mixTown : Cond.instanceMethod yX8_mixTown ∈ kw_ws := kw_ws_in (List.mem_append_right _ (List.mem_of_getElem? (i := 1262) (by decide +kernel))) rfl
theorem wVX7_row : Cond.selects RX7 yX7_row yX7_row ∈ kw_ws := kw_ws_in (List.mem_append_right _ (List.mem_of_getElem? (i := 269) (by decide +kernel))) rfl
theorem wVX3_has : Cond.selects RX3 yX3_has yX3_has ∈ kw_ws := kw_ws_in (List.mem_append_right _ (List.mem_of_getElem? (i := 277) (by decide +kernel))) rfl
theorem wVX4_refuse : Cond.selects RX4 yX4_refuse yX4_refuse ∈ kw_ws := kw_ws_in (List.mem_append_right _ (List.mem_of_getElem? (i := 281) (by decide +kernel))) rfl
theorem wVX3_make : Cond.selects RX3 yX3_make yX3_make ∈ kw_ws := kw_ws_in (List.mem_append_right _ (List.mem_of_getElem? (i := 285) (by decide +kernel))) rfl
theorem wVX7_lay : Cond.selects RX7 yX7_lay yX7_lay ∈ kw_ws := kw_ws_in (List.mem_append_right _ (List.mem_of_getElem? (i := 290) (by decide +kernel))) rfl
theorem wVX3_findingAt : Cond.selects RX3 yX3_findingAt yX3_findingAt ∈ kw_ws := kw_ws_in (List.mem_append_right _ (List.mem_of_getElem? (i := 294) (by decide +kernel))) rfl
theorem wVX3_isMissing : Cond.selects RX3 yX3_isMissing yX3_isMissing ∈ kw_ws := kw_ws_in (List.mem_append_right _ (List.mem_of_getElem? (i := 298) (by decide +kernel))) rfl
theorem wVX3_sizeOf : Cond.selects RX3 yX3_sizeOf yX3_sizeOf ∈ kw_ws := kw_ws_in (List.mem_append_right _ (List.mem_of_getElem? (i := 302) (by decide +kernel))) rfl
theorem wVX3_hasPlaces : Cond.selects RX3 yX3_hasPlaces yX3_hasPlaces ∈ kw_ws := kw_ws_in (List.mem_append_right _ (List.mem_of_getElem? (i := 306) (by decide +kernel))) rfl
theorem wVX3_valueAt : Cond.selects RX3 yX3_valueAt yX3_valueAt ∈ kw_ws := kw_ws_in (List.mem_append_right _ (List.mem_of_getElem? (i := 310) (by decide +kernel))) rfl
theorem wVX3_change : Cond.selects RX3 yX3_change yX3_change ∈ kw_ws := kw_ws_in (List.mem_append_right _ (List.mem_of_getElem? (i := 314) (by decide +kernel))) rfl
theorem wVX4_answer : Cond.selects RX4 yX4_answer yX4_answer ∈ kw_ws := kw_ws_in (List.mem_append_right _ (List.mem_of_getElem? (i := 318) (by decide +kernel))) rfl
theorem wVX7_at : Cond.selects RX7 yX7_at yX7_at ∈ kw_ws := kw_ws_in (List.mem_append_right _ (List.mem_of_getElem? (i := 322) (by decide +kernel))) rfl
theorem wVX7_tear : Cond.selects RX7 yX7_tear yX7_tear ∈ kw_ws := kw_ws_in (List.mem_append_right _ (List.mem_of_getElem? (i := 326) (by decide +kernel))) rfl
theorem wVX3_drop : Cond.selects RX3 yX3_drop yX3_drop ∈ kw_ws := kw_ws_in (List.mem_append_right _ (List.mem_of_getElem? (i := 331) (by decide +kernel))) rfl
theorem wVX7_copy : Cond.selects RX7 yX7_copy yX7_copy ∈ kw_ws := kw_ws_in (List.mem_append_right _ (List.mem_of_getElem? (i := 335) (by decide +kernel))) rfl
theorem wVX3_move : Cond.selects RX3 yX3_move yX3_move ∈ kw_ws := kw_ws_in (List.mem_append_right _ (List.mem_of_getElem? (i := 340) (by decide +kernel))) rfl
theorem wVX7_mean : Cond.selects RX7 yX7_mean yX7_mean ∈ kw_ws := kw_ws_in (List.mem_append_right _ (List.mem_of_getElem? (i := 347) (by decide +kernel))) rfl
theorem wVX7_text : Cond.selects RX7 yX7_text yX7_text ∈ kw_ws := kw_ws_in (List.mem_append_right _ (List.mem_of_getElem? (i := 352) (by decide +kernel))) rfl
theorem wVX7_put : Cond.selects RX7 yX7_put yX7_put ∈ kw_ws := kw_ws_in (List.mem_append_right _ (List.mem_of_getElem? (i := 356) (by decide +kernel))) rfl
theorem wVX7_fault : Cond.selects RX7 yX7_fault yX7_fault ∈ kw_ws := kw_ws_in (List.mem_append_right _ (List.mem_of_getElem? (i := 360) (by decide +kernel))) rfl
theorem wVX2_faultOf : Cond.selects RX2 yX2_faultOf yX2_faultOf ∈ kw_ws := kw_ws_in (List.mem_append_right _ (List.mem_of_getElem? (i := 364) (by decide +kernel))) rfl
theorem wVX7_town : Cond.selects RX7 yX7_town yX7_town ∈ kw_ws := kw_ws_in (List.mem_append_right _ (List.mem_of_getElem? (i := 391) (by decide +kernel))) rfl
theorem wVX1_copyFrom : Cond.selects RX1 yX1_copyFrom yX1_copyFrom ∈ kw_ws := kw_ws_in (List.mem_append_right _ (List.mem_of_getElem? (i := 395) (by decide +kernel))) rfl
theorem wVX5_replay : Cond.selects RX5 yX5_replay yX5_replay ∈ kw_ws := kw_ws_in (List.mem_append_right _ (List.mem_of_getElem? (i := 400) (by decide +kernel))) rfl
theorem wVX5_act : Cond.selects RX5 yX5_act yX5_act ∈ kw_ws := kw_ws_in (List.mem_append_right _ (List.mem_of_getElem? (i := 405) (by decide +kernel))) rfl
theorem wVX5_hasRoomFor : Cond.selects RX5 yX5_hasRoomFor yX5_hasRoomFor ∈ kw_ws := kw_ws_in (List.mem_append_right _ (List.mem_of_getElem? (i := 409) (by decide +kernel))) rfl
theorem wVX5_windNow : Cond.selects RX5 yX5_windNow yX5_windNow ∈ kw_ws := kw_ws_in (List.mem_append_right _ (List.mem_of_getElem? (i := 417) (by decide +kernel))) rfl
theorem wVX1_windAt : Cond.selects RX1 yX1_windAt yX1_windAt ∈ kw_ws := kw_ws_in (List.mem_append_right _ (List.mem_of_getElem? (i := 421) (by decide +kernel))) rfl
theorem wVX1_milesOf : Cond.selects RX1 yX1_milesOf yX1_milesOf ∈ kw_ws := kw_ws_in (List.mem_append_right _ (List.mem_of_getElem? (i := 425) (by decide +kernel))) rfl
theorem wVX1_pullOf : Cond.selects RX1 yX1_pullOf yX1_pullOf ∈ kw_ws := kw_ws_in (List.mem_append_right _ (List.mem_of_getElem? (i := 429) (by decide +kernel))) rfl
theorem wVX1_hasLine : Cond.selects RX1 yX1_hasLine yX1_hasLine ∈ kw_ws := kw_ws_in (List.mem_append_right _ (List.mem_of_getElem? (i := 433) (by decide +kernel))) rfl
theorem wVX1_turnOf : Cond.selects RX1 yX1_turnOf yX1_turnOf ∈ kw_ws := kw_ws_in (List.mem_append_right _ (List.mem_of_getElem? (i := 440) (by decide +kernel))) rfl
theorem wVX7_line : Cond.selects RX7 yX7_line yX7_line ∈ kw_ws := kw_ws_in (List.mem_append_right _ (List.mem_of_getElem? (i := 453) (by decide +kernel))) rfl
theorem wVX5_trait : Cond.selects RX5 yX5_trait yX5_trait ∈ kw_ws := kw_ws_in (List.mem_append_right _ (List.mem_of_getElem? (i := 458) (by decide +kernel))) rfl
theorem wVX5_isHung : Cond.selects RX5 yX5_isHung yX5_isHung ∈ kw_ws := kw_ws_in (List.mem_append_right _ (List.mem_of_getElem? (i := 463) (by decide +kernel))) rfl
theorem wVX7_mark : Cond.selects RX7 yX7_mark yX7_mark ∈ kw_ws := kw_ws_in (List.mem_append_right _ (List.mem_of_getElem? (i := 468) (by decide +kernel))) rfl
theorem wVX5_hoursToStorm : Cond.selects RX5 yX5_hoursToStorm yX5_hoursToStorm ∈ kw_ws := kw_ws_in (List.mem_append_right _ (List.mem_of_getElem? (i := 478) (by decide +kernel))) rfl
theorem wVX5_windAhead : Cond.selects RX5 yX5_windAhead yX5_windAhead ∈ kw_ws := kw_ws_in (List.mem_append_right _ (List.mem_of_getElem? (i := 482) (by decide +kernel))) rfl
theorem wVX1_othersNoWider : Cond.selects RX1 yX1_othersNoWider yX1_othersNoWider ∈ kw_ws := kw_ws_in (List.mem_append_right _ (List.mem_of_getElem? (i := 492) (by decide +kernel))) rfl
theorem wVX7_wind : Cond.selects RX7 yX7_wind yX7_wind ∈ kw_ws := kw_ws_in (List.mem_append_right _ (List.mem_of_getElem? (i := 498) (by decide +kernel))) rfl
theorem wVX5_isEmpty : Cond.selects RX5 yX5_isEmpty yX5_isEmpty ∈ kw_ws := kw_ws_in (List.mem_append_right _ (List.mem_of_getElem? (i := 502) (by decide +kernel))) rfl
theorem wVX7_hang : Cond.selects RX7 yX7_hang yX7_hang ∈ kw_ws := kw_ws_in (List.mem_append_right _ (List.mem_of_getElem? (i := 507) (by decide +kernel))) rfl
theorem wVX7_take : Cond.selects RX7 yX7_take yX7_take ∈ kw_ws := kw_ws_in (List.mem_append_right _ (List.mem_of_getElem? (i := 514) (by decide +kernel))) rfl
theorem wVX7_hour : Cond.selects RX7 yX7_hour yX7_hour ∈ kw_ws := kw_ws_in (List.mem_append_right _ (List.mem_of_getElem? (i := 518) (by decide +kernel))) rfl
theorem wVX4_tellWhole : Cond.selects RX4 yX4_tellWhole yX4_tellWhole ∈ kw_ws := kw_ws_in (List.mem_append_right _ (List.mem_of_getElem? (i := 522) (by decide +kernel))) rfl
theorem wVX7_undo : Cond.selects RX7 yX7_undo yX7_undo ∈ kw_ws := kw_ws_in (List.mem_append_right _ (List.mem_of_getElem? (i := 526) (by decide +kernel))) rfl
theorem wVX7_keep : Cond.selects RX7 yX7_keep yX7_keep ∈ kw_ws := kw_ws_in (List.mem_append_right _ (List.mem_of_getElem? (i := 530) (by decide +kernel))) rfl
theorem wVX7_on : Cond.selects RX7 yX7_on yX7_on ∈ kw_ws := kw_ws_in (List.mem_append_right _ (List.mem_of_getElem? (i := 534) (by decide +kernel))) rfl
theorem wVX7_goes : Cond.selects RX7 yX7_goes yX7_goes ∈ kw_ws := kw_ws_in (List.mem_append_right _ (List.mem_of_getElem? (i := 538) (by decide +kernel))) rfl
theorem wVX1_hasSet : Cond.selects RX1 yX1_hasSet yX1_hasSet ∈ kw_ws := kw_ws_in (List.mem_append_right _ (List.mem_of_getElem? (i := 542) (by decide +kernel))) rfl
theorem wVX1_allLines : Cond.selects RX1 yX1_allLines yX1_allLines ∈ kw_ws := kw_ws_in (List.mem_append_right _ (List.mem_of_getElem? (i := 546) (by decide +kernel))) rfl
theorem wVX7_even : Cond.selects RX7 yX7_even yX7_even ∈ kw_ws := kw_ws_in (List.mem_append_right _ (List.mem_of_getElem? (i := 552) (by decide +kernel))) rfl
theorem wVX0_draw : Cond.selects RX0 yX0_draw yX0_draw ∈ kw_ws := kw_ws_in (List.mem_append_right _ (List.mem_of_getElem? (i := 556) (by decide +kernel))) rfl
theorem wVX0_fits : Cond.selects RX0 yX0_fits yX0_fits ∈ kw_ws := kw_ws_in (List.mem_append_right _ (List.mem_of_getElem? (i := 561) (by decide +kernel))) rfl
theorem wVX0_milesOf : Cond.selects RX0 yX0_milesOf yX0_milesOf ∈ kw_ws := kw_ws_in (List.mem_append_right _ (List.mem_of_getElem? (i := 565) (by decide +kernel))) rfl
theorem wVX0_turnBy : Cond.selects RX0 yX0_turnBy yX0_turnBy ∈ kw_ws := kw_ws_in (List.mem_append_right _ (List.mem_of_getElem? (i := 569) (by decide +kernel))) rfl
theorem wVX1_linenOf : Cond.selects RX1 yX1_linenOf yX1_linenOf ∈ kw_ws := kw_ws_in (List.mem_append_right _ (List.mem_of_getElem? (i := 573) (by decide +kernel))) rfl
theorem wVX7_fast : Cond.selects RX7 yX7_fast yX7_fast ∈ kw_ws := kw_ws_in (List.mem_append_right _ (List.mem_of_getElem? (i := 577) (by decide +kernel))) rfl
theorem wVX7_wet : Cond.selects RX7 yX7_wet yX7_wet ∈ kw_ws := kw_ws_in (List.mem_append_right _ (List.mem_of_getElem? (i := 582) (by decide +kernel))) rfl
theorem wVX5_allWet : Cond.selects RX5 yX5_allWet yX5_allWet ∈ kw_ws := kw_ws_in (List.mem_append_right _ (List.mem_of_getElem? (i := 586) (by decide +kernel))) rfl
theorem wVX7_sail : Cond.selects RX7 yX7_sail yX7_sail ∈ kw_ws := kw_ws_in (List.mem_append_right _ (List.mem_of_getElem? (i := 595) (by decide +kernel))) rfl
theorem wVX7_dry : Cond.selects RX7 yX7_dry yX7_dry ∈ kw_ws := kw_ws_in (List.mem_append_right _ (List.mem_of_getElem? (i := 604) (by decide +kernel))) rfl
theorem wVX7_far : Cond.selects RX7 yX7_far yX7_far ∈ kw_ws := kw_ws_in (List.mem_append_right _ (List.mem_of_getElem? (i := 610) (by decide +kernel))) rfl
theorem wVX6_find : Cond.selects RX6 yX6_find yX6_find ∈ kw_ws := kw_ws_in (List.mem_append_right _ (List.mem_of_getElem? (i := 614) (by decide +kernel))) rfl
theorem wVX1_mostMilesOf : Cond.selects RX1 yX1_mostMilesOf yX1_mostMilesOf ∈ kw_ws := kw_ws_in (List.mem_append_right _ (List.mem_of_getElem? (i := 622) (by decide +kernel))) rfl
theorem wVX7_soon : Cond.selects RX7 yX7_soon yX7_soon ∈ kw_ws := kw_ws_in (List.mem_append_right _ (List.mem_of_getElem? (i := 634) (by decide +kernel))) rfl
theorem wVX7_least : Cond.selects RX7 yX7_least yX7_least ∈ kw_ws := kw_ws_in (List.mem_append_right _ (List.mem_of_getElem? (i := 639) (by decide +kernel))) rfl
theorem wVX7_ways : Cond.selects RX7 yX7_ways yX7_ways ∈ kw_ws := kw_ws_in (List.mem_append_right _ (List.mem_of_getElem? (i := 647) (by decide +kernel))) rfl
theorem wVX7_kinds : Cond.selects RX7 yX7_kinds yX7_kinds ∈ kw_ws := kw_ws_in (List.mem_append_right _ (List.mem_of_getElem? (i := 651) (by decide +kernel))) rfl
theorem wVX7_areas : Cond.selects RX7 yX7_areas yX7_areas ∈ kw_ws := kw_ws_in (List.mem_append_right _ (List.mem_of_getElem? (i := 663) (by decide +kernel))) rfl
theorem wVX7_rival : Cond.selects RX7 yX7_rival yX7_rival ∈ kw_ws := kw_ws_in (List.mem_append_right _ (List.mem_of_getElem? (i := 667) (by decide +kernel))) rfl
theorem wVX7_mid : Cond.selects RX7 yX7_mid yX7_mid ∈ kw_ws := kw_ws_in (List.mem_append_right _ (List.mem_of_getElem? (i := 674) (by decide +kernel))) rfl
theorem wVX4_tellShare : Cond.selects RX4 yX4_tellShare yX4_tellShare ∈ kw_ws := kw_ws_in (List.mem_append_right _ (List.mem_of_getElem? (i := 683) (by decide +kernel))) rfl
theorem wVX7_odds : Cond.selects RX7 yX7_odds yX7_odds ∈ kw_ws := kw_ws_in (List.mem_append_right _ (List.mem_of_getElem? (i := 693) (by decide +kernel))) rfl
theorem wVX7_lots : Cond.selects RX7 yX7_lots yX7_lots ∈ kw_ws := kw_ws_in (List.mem_append_right _ (List.mem_of_getElem? (i := 704) (by decide +kernel))) rfl
theorem wVX7_asked : Cond.selects RX7 yX7_asked yX7_asked ∈ kw_ws := kw_ws_in (List.mem_append_right _ (List.mem_of_getElem? (i := 710) (by decide +kernel))) rfl
theorem wVX7_upper : Cond.selects RX7 yX7_upper yX7_upper ∈ kw_ws := kw_ws_in (List.mem_append_right _ (List.mem_of_getElem? (i := 714) (by decide +kernel))) rfl
theorem wVX7_lower : Cond.selects RX7 yX7_lower yX7_lower ∈ kw_ws := kw_ws_in (List.mem_append_right _ (List.mem_of_getElem? (i := 718) (by decide +kernel))) rfl
theorem wVX7_count : Cond.selects RX7 yX7_count yX7_count ∈ kw_ws := kw_ws_in (List.mem_append_right _ (List.mem_of_getElem? (i := 722) (by decide +kernel))) rfl
theorem wVX1_howManyAre : Cond.selects RX1 yX1_howManyAre yX1_howManyAre ∈ kw_ws := kw_ws_in (List.mem_append_right _ (List.mem_of_getElem? (i := 726) (by decide +kernel))) rfl
theorem wVX3_howMany : Cond.selects RX3 yX3_howMany yX3_howMany ∈ kw_ws := kw_ws_in (List.mem_append_right _ (List.mem_of_getElem? (i := 731) (by decide +kernel))) rfl
theorem wVX7_miles : Cond.selects RX7 yX7_miles yX7_miles ∈ kw_ws := kw_ws_in (List.mem_append_right _ (List.mem_of_getElem? (i := 735) (by decide +kernel))) rfl
theorem wVX7_finding : Cond.selects RX7 yX7_finding yX7_finding ∈ kw_ws := kw_ws_in (List.mem_append_right _ (List.mem_of_getElem? (i := 739) (by decide +kernel))) rfl
theorem wVX7_findings : Cond.selects RX7 yX7_findings yX7_findings ∈ kw_ws := kw_ws_in (List.mem_append_right _ (List.mem_of_getElem? (i := 743) (by decide +kernel))) rfl
theorem wVX7_digest : Cond.selects RX7 yX7_digest yX7_digest ∈ kw_ws := kw_ws_in (List.mem_append_right _ (List.mem_of_getElem? (i := 747) (by decide +kernel))) rfl
theorem wVX3_fold : Cond.selects RX3 yX3_fold yX3_fold ∈ kw_ws := kw_ws_in (List.mem_append_right _ (List.mem_of_getElem? (i := 754) (by decide +kernel))) rfl
theorem wVX8_row : Cond.selects RX8 yX8_row yX8_row ∈ kw_ws := kw_ws_in (List.mem_append_right _ (List.mem_of_getElem? (i := 877) (by decide +kernel))) rfl
theorem wVX8_at : Cond.selects RX8 yX8_at yX8_at ∈ kw_ws := kw_ws_in (List.mem_append_right _ (List.mem_of_getElem? (i := 895) (by decide +kernel))) rfl
theorem wVX8_lay : Cond.selects RX8 yX8_lay yX8_lay ∈ kw_ws := kw_ws_in (List.mem_append_right _ (List.mem_of_getElem? (i := 911) (by decide +kernel))) rfl
theorem wVX8_tear : Cond.selects RX8 yX8_tear yX8_tear ∈ kw_ws := kw_ws_in (List.mem_append_right _ (List.mem_of_getElem? (i := 916) (by decide +kernel))) rfl
theorem wVX8_copy : Cond.selects RX8 yX8_copy yX8_copy ∈ kw_ws := kw_ws_in (List.mem_append_right _ (List.mem_of_getElem? (i := 920) (by decide +kernel))) rfl
theorem wVX8_mean : Cond.selects RX8 yX8_mean yX8_mean ∈ kw_ws := kw_ws_in (List.mem_append_right _ (List.mem_of_getElem? (i := 924) (by decide +kernel))) rfl
theorem wVX8_text : Cond.selects RX8 yX8_text yX8_text ∈ kw_ws := kw_ws_in (List.mem_append_right _ (List.mem_of_getElem? (i := 928) (by decide +kernel))) rfl
theorem wVX8_put : Cond.selects RX8 yX8_put yX8_put ∈ kw_ws := kw_ws_in (List.mem_append_right _ (List.mem_of_getElem? (i := 935) (by decide +kernel))) rfl
theorem wVX8_fault : Cond.selects RX8 yX8_fault yX8_fault ∈ kw_ws := kw_ws_in (List.mem_append_right _ (List.mem_of_getElem? (i := 943) (by decide +kernel))) rfl
theorem wVX8_town : Cond.selects RX8 yX8_town yX8_town ∈ kw_ws := kw_ws_in (List.mem_append_right _ (List.mem_of_getElem? (i := 978) (by decide +kernel))) rfl
theorem wVX8_hang : Cond.selects RX8 yX8_hang yX8_hang ∈ kw_ws := kw_ws_in (List.mem_append_right _ (List.mem_of_getElem? (i := 982) (by decide +kernel))) rfl
theorem wVX8_take : Cond.selects RX8 yX8_take yX8_take ∈ kw_ws := kw_ws_in (List.mem_append_right _ (List.mem_of_getElem? (i := 1008) (by decide +kernel))) rfl
theorem wVX8_hour : Cond.selects RX8 yX8_hour yX8_hour ∈ kw_ws := kw_ws_in (List.mem_append_right _ (List.mem_of_getElem? (i := 1012) (by decide +kernel))) rfl
theorem wVX8_undo : Cond.selects RX8 yX8_undo yX8_undo ∈ kw_ws := kw_ws_in (List.mem_append_right _ (List.mem_of_getElem? (i := 1047) (by decide +kernel))) rfl
theorem wVX8_keep : Cond.selects RX8 yX8_keep yX8_keep ∈ kw_ws := kw_ws_in (List.mem_append_right _ (List.mem_of_getElem? (i := 1055) (by decide +kernel))) rfl
theorem wVX8_on : Cond.selects RX8 yX8_on yX8_on ∈ kw_ws := kw_ws_in (List.mem_append_right _ (List.mem_of_getElem? (i := 1059) (by decide +kernel))) rfl
theorem wVX8_line : Cond.selects RX8 yX8_line yX8_line ∈ kw_ws := kw_ws_in (List.mem_append_right _ (List.mem_of_getElem? (i := 1063) (by decide +kernel))) rfl
theorem wVX8_mark : Cond.selects RX8 yX8_mark yX8_mark ∈ kw_ws := kw_ws_in (List.mem_append_right _ (List.mem_of_getElem? (i := 1071) (by decide +kernel))) rfl
theorem wVX8_wind : Cond.selects RX8 yX8_wind yX8_wind ∈ kw_ws := kw_ws_in (List.mem_append_right _ (List.mem_of_getElem? (i := 1086) (by decide +kernel))) rfl
theorem wVX8_goes : Cond.selects RX8 yX8_goes yX8_goes ∈ kw_ws := kw_ws_in (List.mem_append_right _ (List.mem_of_getElem? (i := 1090) (by decide +kernel))) rfl
theorem wVX8_even : Cond.selects RX8 yX8_even yX8_even ∈ kw_ws := kw_ws_in (List.mem_append_right _ (List.mem_of_getElem? (i := 1098) (by decide +kernel))) rfl
theorem wVX8_fast : Cond.selects RX8 yX8_fast yX8_fast ∈ kw_ws := kw_ws_in (List.mem_append_right _ (List.mem_of_getElem? (i := 1106) (by decide +kernel))) rfl
theorem wVX8_wet : Cond.selects RX8 yX8_wet yX8_wet ∈ kw_ws := kw_ws_in (List.mem_append_right _ (List.mem_of_getElem? (i := 1110) (by decide +kernel))) rfl
theorem wVX8_sail : Cond.selects RX8 yX8_sail yX8_sail ∈ kw_ws := kw_ws_in (List.mem_append_right _ (List.mem_of_getElem? (i := 1118) (by decide +kernel))) rfl
theorem wVX8_dry : Cond.selects RX8 yX8_dry yX8_dry ∈ kw_ws := kw_ws_in (List.mem_append_right _ (List.mem_of_getElem? (i := 1126) (by decide +kernel))) rfl
theorem wVX8_far : Cond.selects RX8 yX8_far yX8_far ∈ kw_ws := kw_ws_in (List.mem_append_right _ (List.mem_of_getElem? (i := 1130) (by decide +kernel))) rfl
theorem wVX8_soon : Cond.selects RX8 yX8_soon yX8_soon ∈ kw_ws := kw_ws_in (List.mem_append_right _ (List.mem_of_getElem? (i := 1146) (by decide +kernel))) rfl
theorem wVX8_least : Cond.selects RX8 yX8_least yX8_least ∈ kw_ws := kw_ws_in (List.mem_append_right _ (List.mem_of_getElem? (i := 1157) (by decide +kernel))) rfl
theorem wVX8_ways : Cond.selects RX8 yX8_ways yX8_ways ∈ kw_ws := kw_ws_in (List.mem_append_right _ (List.mem_of_getElem? (i := 1161) (by decide +kernel))) rfl
theorem wVX8_kinds : Cond.selects RX8 yX8_kinds yX8_kinds ∈ kw_ws := kw_ws_in (List.mem_append_right _ (List.mem_of_getElem? (i := 1165) (by decide +kernel))) rfl
theorem wVX8_areas : Cond.selects RX8 yX8_areas yX8_areas ∈ kw_ws := kw_ws_in (List.mem_append_right _ (List.mem_of_getElem? (i := 1177) (by decide +kernel))) rfl
theorem wVX8_rival : Cond.selects RX8 yX8_rival yX8_rival ∈ kw_ws := kw_ws_in (List.mem_append_right _ (List.mem_of_getElem? (i := 1181) (by decide +kernel))) rfl
theorem wVX8_mid : Cond.selects RX8 yX8_mid yX8_mid ∈ kw_ws := kw_ws_in (List.mem_append_right _ (List.mem_of_getElem? (i := 1185) (by decide +kernel))) rfl
theorem wVX8_odds : Cond.selects RX8 yX8_odds yX8_odds ∈ kw_ws := kw_ws_in (List.mem_append_right _ (List.mem_of_getElem? (i := 1201) (by decide +kernel))) rfl
theorem wVX8_lots : Cond.selects RX8 yX8_lots yX8_lots ∈ kw_ws := kw_ws_in (List.mem_append_right _ (List.mem_of_getElem? (i := 1205) (by decide +kernel))) rfl
theorem wVX8_asked : Cond.selects RX8 yX8_asked yX8_asked ∈ kw_ws := kw_ws_in (List.mem_append_right _ (List.mem_of_getElem? (i := 1212) (by decide +kernel))) rfl
theorem wVX8_upper : Cond.selects RX8 yX8_upper yX8_upper ∈ kw_ws := kw_ws_in (List.mem_append_right _ (List.mem_of_getElem? (i := 1216) (by decide +kernel))) rfl
theorem wVX8_lower : Cond.selects RX8 yX8_lower yX8_lower ∈ kw_ws := kw_ws_in (List.mem_append_right _ (List.mem_of_getElem? (i := 1220) (by decide +kernel))) rfl
theorem wVX8_count : Cond.selects RX8 yX8_count yX8_count ∈ kw_ws := kw_ws_in (List.mem_append_right _ (List.mem_of_getElem? (i := 1224) (by decide +kernel))) rfl
theorem wVX8_miles : Cond.selects RX8 yX8_miles yX8_miles ∈ kw_ws := kw_ws_in (List.mem_append_right _ (List.mem_of_getElem? (i := 1240) (by decide +kernel))) rfl
theorem wVX8_finding : Cond.selects RX8 yX8_finding yX8_finding ∈ kw_ws := kw_ws_in (List.mem_append_right _ (List.mem_of_getElem? (i := 1244) (by decide +kernel))) rfl
theorem wVX8_findings : Cond.selects RX8 yX8_findings yX8_findings ∈ kw_ws := kw_ws_in (List.mem_append_right _ (List.mem_of_getElem? (i := 1248) (by decide +kernel))) rfl
theorem wVX8_digest : Cond.selects RX8 yX8_digest yX8_digest ∈ kw_ws := kw_ws_in (List.mem_append_right _ (List.mem_of_getElem? (i := 1252) (by decide +kernel))) rfl
theorem wTJ7_fill_53178 : Cond.static yJ7_fill_53178 ∈ kw_ws := kw_ws_in (List.mem_append_right _ (List.mem_of_getElem? (i := 31) (by decide +kernel))) rfl
theorem wTX2_kindOf : Cond.static yX2_kindOf ∈ kw_ws := kw_ws_in (List.mem_append_right _ (List.mem_of_getElem? (i := 381) (by decide +kernel))) rfl
theorem wTX7_pull : Cond.static yX7_pull ∈ kw_ws := kw_ws_in (List.mem_append_right _ (List.mem_of_getElem? (i := 436) (by decide +kernel))) rfl
theorem wTX7_weather : Cond.static yX7_weather ∈ kw_ws := kw_ws_in (List.mem_append_right _ (List.mem_of_getElem? (i := 443) (by decide +kernel))) rfl
theorem wTJ9_max_7cf53 : Cond.static yJ9_max_7cf53 ∈ kw_ws := kw_ws_in (List.mem_append_right _ (List.mem_of_getElem? (i := 446) (by decide +kernel))) rfl
theorem wTJ9_min_7cf53 : Cond.static yJ9_min_7cf53 ∈ kw_ws := kw_ws_in (List.mem_append_right _ (List.mem_of_getElem? (i := 449) (by decide +kernel))) rfl
theorem wTX7_isA : Cond.static yX7_isA ∈ kw_ws := kw_ws_in (List.mem_append_right _ (List.mem_of_getElem? (i := 471) (by decide +kernel))) rfl
theorem wTJ6_bitCount_0f7a4 : Cond.static yJ6_bitCount_0f7a4 ∈ kw_ws := kw_ws_in (List.mem_append_right _ (List.mem_of_getElem? (i := 485) (by decide +kernel))) rfl
theorem wTX7_play : Cond.static yX7_play ∈ kw_ws := kw_ws_in (List.mem_append_right _ (List.mem_of_getElem? (i := 670) (by decide +kernel))) rfl
theorem wTJ9_abs_067f4 : Cond.static yJ9_abs_067f4 ∈ kw_ws := kw_ws_in (List.mem_append_right _ (List.mem_of_getElem? (i := 686) (by decide +kernel))) rfl
theorem wTX4_commonDivisor : Cond.static yX4_commonDivisor ∈ kw_ws := kw_ws_in (List.mem_append_right _ (List.mem_of_getElem? (i := 689) (by decide +kernel))) rfl
theorem wTX7_weightOfGusts : Cond.static yX7_weightOfGusts ∈ kw_ws := kw_ws_in (List.mem_append_right _ (List.mem_of_getElem? (i := 700) (by decide +kernel))) rfl
theorem wTX8_isRow : Cond.static yX8_isRow ∈ kw_ws := kw_ws_in (List.mem_append_right _ (List.mem_of_getElem? (i := 880) (by decide +kernel))) rfl
theorem wTX8_in : Cond.static yX8_in ∈ kw_ws := kw_ws_in (List.mem_append_right _ (List.mem_of_getElem? (i := 883) (by decide +kernel))) rfl
theorem wTX8_isText : Cond.static yX8_isText ∈ kw_ws := kw_ws_in (List.mem_append_right _ (List.mem_of_getElem? (i := 931) (by decide +kernel))) rfl
theorem wTX8_kindBy : Cond.static yX8_kindBy ∈ kw_ws := kw_ws_in (List.mem_append_right _ (List.mem_of_getElem? (i := 970) (by decide +kernel))) rfl
theorem wTX8_has : Cond.static yX8_has ∈ kw_ws := kw_ws_in (List.mem_append_right _ (List.mem_of_getElem? (i := 989) (by decide +kernel))) rfl
theorem wTX8_bits : Cond.static yX8_bits ∈ kw_ws := kw_ws_in (List.mem_append_right _ (List.mem_of_getElem? (i := 1004) (by decide +kernel))) rfl
theorem wTX8_pullBy : Cond.static yX8_pullBy ∈ kw_ws := kw_ws_in (List.mem_append_right _ (List.mem_of_getElem? (i := 1031) (by decide +kernel))) rfl
theorem wTX8_isA : Cond.static yX8_isA ∈ kw_ws := kw_ws_in (List.mem_append_right _ (List.mem_of_getElem? (i := 1074) (by decide +kernel))) rfl
theorem wTX8_isTurn : Cond.static yX8_isTurn ∈ kw_ws := kw_ws_in (List.mem_append_right _ (List.mem_of_getElem? (i := 1142) (by decide +kernel))) rfl
theorem wTX8_greater : Cond.static yX8_greater ∈ kw_ws := kw_ws_in (List.mem_append_right _ (List.mem_of_getElem? (i := 1153) (by decide +kernel))) rfl
theorem wTX8_power : Cond.static yX8_power ∈ kw_ws := kw_ws_in (List.mem_append_right _ (List.mem_of_getElem? (i := 1196) (by decide +kernel))) rfl
theorem wNL : Cond.initialized RL ∈ kw_ws := kw_ws_in (List.mem_append_right _ (List.mem_of_getElem? (i := 0) (by decide +kernel))) rfl
theorem wNX7 : Cond.initialized RX7 ∈ kw_ws := kw_ws_in (List.mem_append_right _ (List.mem_of_getElem? (i := 1) (by decide +kernel))) rfl
theorem wNX3 : Cond.initialized RX3 ∈ kw_ws := kw_ws_in (List.mem_append_right _ (List.mem_of_getElem? (i := 2) (by decide +kernel))) rfl
theorem wNJ7 : Cond.initialized RJ7 ∈ kw_ws := kw_ws_in (List.mem_append_right _ (List.mem_of_getElem? (i := 3) (by decide +kernel))) rfl
theorem wNX2 : Cond.initialized RX2 ∈ kw_ws := kw_ws_in (List.mem_append_right _ (List.mem_of_getElem? (i := 4) (by decide +kernel))) rfl
theorem wNX1 : Cond.initialized RX1 ∈ kw_ws := kw_ws_in (List.mem_append_right _ (List.mem_of_getElem? (i := 5) (by decide +kernel))) rfl
theorem wNX5 : Cond.initialized RX5 ∈ kw_ws := kw_ws_in (List.mem_append_right _ (List.mem_of_getElem? (i := 6) (by decide +kernel))) rfl
theorem wNX0 : Cond.initialized RX0 ∈ kw_ws := kw_ws_in (List.mem_append_right _ (List.mem_of_getElem? (i := 7) (by decide +kernel))) rfl
theorem wNX6 : Cond.initialized RX6 ∈ kw_ws := kw_ws_in (List.mem_append_right _ (List.mem_of_getElem? (i := 8) (by decide +kernel))) rfl
theorem wNX4 : Cond.initialized RX4 ∈ kw_ws := kw_ws_in (List.mem_append_right _ (List.mem_of_getElem? (i := 9) (by decide +kernel))) rfl
theorem wNX8 : Cond.initialized RX8 ∈ kw_ws := kw_ws_in (List.mem_append_right _ (List.mem_of_getElem? (i := 10) (by decide +kernel))) rfl
theorem wNJ10 : Cond.initialized RJ10 ∈ kw_ws := kw_ws_in (List.mem_append_right _ (List.mem_of_getElem? (i := 11) (by decide +kernel))) rfl
theorem wNJ9 : Cond.initialized RJ9 ∈ kw_ws := kw_ws_in (List.mem_append_right _ (List.mem_of_getElem? (i := 12) (by decide +kernel))) rfl
theorem wNJ6 : Cond.initialized RJ6 ∈ kw_ws := kw_ws_in (List.mem_append_right _ (List.mem_of_getElem? (i := 13) (by decide +kernel))) rfl
theorem wCJ7_fill_53178 : Cond.code yJ7_fill_53178 cJ7_fill_53178 4 none ∈ kw_ws := kw_ws_in (List.mem_append_right _ (List.mem_of_getElem? (i := 32) (by decide +kernel))) rfl
theorem wCX7_row : Cond.code yX7_row cX7_row 3 (some .int) ∈ kw_ws := kw_ws_in (List.mem_append_right _ (List.mem_of_getElem? (i := 270) (by decide +kernel))) rfl
theorem wCX7_makeOn : Cond.code yX7_makeOn cX7_makeOn 5 (some .int) ∈ kw_ws := kw_ws_in (List.mem_append_right _ (List.mem_of_getElem? (i := 274) (by decide +kernel))) rfl
theorem wCX3_has : Cond.code yX3_has cX3_has 2 (some .boolean) ∈ kw_ws := kw_ws_in (List.mem_append_right _ (List.mem_of_getElem? (i := 278) (by decide +kernel))) rfl
theorem wCX4_refuse : Cond.code yX4_refuse cX4_refuse 2 (some .int) ∈ kw_ws := kw_ws_in (List.mem_append_right _ (List.mem_of_getElem? (i := 282) (by decide +kernel))) rfl
theorem wCX3_make : Cond.code yX3_make cX3_make 4 none ∈ kw_ws := kw_ws_in (List.mem_append_right _ (List.mem_of_getElem? (i := 286) (by decide +kernel))) rfl
theorem wCX7_lay : Cond.code yX7_lay cX7_lay 6 (some .int) ∈ kw_ws := kw_ws_in (List.mem_append_right _ (List.mem_of_getElem? (i := 291) (by decide +kernel))) rfl
theorem wCX3_findingAt : Cond.code yX3_findingAt cX3_findingAt 3 (some .int) ∈ kw_ws := kw_ws_in (List.mem_append_right _ (List.mem_of_getElem? (i := 295) (by decide +kernel))) rfl
theorem wCX3_isMissing : Cond.code yX3_isMissing cX3_isMissing 2 (some .boolean) ∈ kw_ws := kw_ws_in (List.mem_append_right _ (List.mem_of_getElem? (i := 299) (by decide +kernel))) rfl
theorem wCX3_sizeOf : Cond.code yX3_sizeOf cX3_sizeOf 2 (some .int) ∈ kw_ws := kw_ws_in (List.mem_append_right _ (List.mem_of_getElem? (i := 303) (by decide +kernel))) rfl
theorem wCX3_hasPlaces : Cond.code yX3_hasPlaces cX3_hasPlaces 4 (some .boolean) ∈ kw_ws := kw_ws_in (List.mem_append_right _ (List.mem_of_getElem? (i := 307) (by decide +kernel))) rfl
theorem wCX3_valueAt : Cond.code yX3_valueAt cX3_valueAt 3 (some .int) ∈ kw_ws := kw_ws_in (List.mem_append_right _ (List.mem_of_getElem? (i := 311) (by decide +kernel))) rfl
theorem wCX3_change : Cond.code yX3_change cX3_change 4 none ∈ kw_ws := kw_ws_in (List.mem_append_right _ (List.mem_of_getElem? (i := 315) (by decide +kernel))) rfl
theorem wCX4_answer : Cond.code yX4_answer cX4_answer 2 (some .int) ∈ kw_ws := kw_ws_in (List.mem_append_right _ (List.mem_of_getElem? (i := 319) (by decide +kernel))) rfl
theorem wCX7_at : Cond.code yX7_at cX7_at 4 (some .int) ∈ kw_ws := kw_ws_in (List.mem_append_right _ (List.mem_of_getElem? (i := 323) (by decide +kernel))) rfl
theorem wCX7_tear : Cond.code yX7_tear cX7_tear 2 (some .int) ∈ kw_ws := kw_ws_in (List.mem_append_right _ (List.mem_of_getElem? (i := 327) (by decide +kernel))) rfl
theorem wCX3_drop : Cond.code yX3_drop cX3_drop 2 none ∈ kw_ws := kw_ws_in (List.mem_append_right _ (List.mem_of_getElem? (i := 332) (by decide +kernel))) rfl
theorem wCX7_copy : Cond.code yX7_copy cX7_copy 6 (some .int) ∈ kw_ws := kw_ws_in (List.mem_append_right _ (List.mem_of_getElem? (i := 336) (by decide +kernel))) rfl
theorem wCX3_move : Cond.code yX3_move cX3_move 6 none ∈ kw_ws := kw_ws_in (List.mem_append_right _ (List.mem_of_getElem? (i := 341) (by decide +kernel))) rfl
theorem wCX7_mean : Cond.code yX7_mean cX7_mean 6 (some .int) ∈ kw_ws := kw_ws_in (List.mem_append_right _ (List.mem_of_getElem? (i := 348) (by decide +kernel))) rfl
theorem wCX7_text : Cond.code yX7_text cX7_text 3 (some .int) ∈ kw_ws := kw_ws_in (List.mem_append_right _ (List.mem_of_getElem? (i := 353) (by decide +kernel))) rfl
theorem wCX7_put : Cond.code yX7_put cX7_put 6 (some .int) ∈ kw_ws := kw_ws_in (List.mem_append_right _ (List.mem_of_getElem? (i := 357) (by decide +kernel))) rfl
theorem wCX7_fault : Cond.code yX7_fault cX7_fault 2 (some .int) ∈ kw_ws := kw_ws_in (List.mem_append_right _ (List.mem_of_getElem? (i := 361) (by decide +kernel))) rfl
theorem wCX2_faultOf : Cond.code yX2_faultOf cX2_faultOf 4 (some .int) ∈ kw_ws := kw_ws_in (List.mem_append_right _ (List.mem_of_getElem? (i := 365) (by decide +kernel))) rfl
theorem wCX2_skipBlanks : Cond.code yX2_skipBlanks cX2_skipBlanks 4 none ∈ kw_ws := kw_ws_in (List.mem_append_right _ (List.mem_of_getElem? (i := 369) (by decide +kernel))) rfl
theorem wCX2_readWinds : Cond.code yX2_readWinds cX2_readWinds 5 none ∈ kw_ws := kw_ws_in (List.mem_append_right _ (List.mem_of_getElem? (i := 374) (by decide +kernel))) rfl
theorem wCX2_readLine : Cond.code yX2_readLine cX2_readLine 5 (some .boolean) ∈ kw_ws := kw_ws_in (List.mem_append_right _ (List.mem_of_getElem? (i := 379) (by decide +kernel))) rfl
theorem wCX2_kindOf : Cond.code yX2_kindOf cX2_kindOf 2 (some .int) ∈ kw_ws := kw_ws_in (List.mem_append_right _ (List.mem_of_getElem? (i := 382) (by decide +kernel))) rfl
theorem wCX2_readFigure : Cond.code yX2_readFigure cX2_readFigure 6 (some .int) ∈ kw_ws := kw_ws_in (List.mem_append_right _ (List.mem_of_getElem? (i := 388) (by decide +kernel))) rfl
theorem wCX7_town : Cond.code yX7_town cX7_town 3 (some .int) ∈ kw_ws := kw_ws_in (List.mem_append_right _ (List.mem_of_getElem? (i := 392) (by decide +kernel))) rfl
theorem wCX1_copyFrom : Cond.code yX1_copyFrom cX1_copyFrom 2 none ∈ kw_ws := kw_ws_in (List.mem_append_right _ (List.mem_of_getElem? (i := 396) (by decide +kernel))) rfl
theorem wCX5_replay : Cond.code yX5_replay cX5_replay 3 none ∈ kw_ws := kw_ws_in (List.mem_append_right _ (List.mem_of_getElem? (i := 401) (by decide +kernel))) rfl
theorem wCX5_act : Cond.code yX5_act cX5_act 2 none ∈ kw_ws := kw_ws_in (List.mem_append_right _ (List.mem_of_getElem? (i := 406) (by decide +kernel))) rfl
theorem wCX5_hasRoomFor : Cond.code yX5_hasRoomFor cX5_hasRoomFor 2 (some .boolean) ∈ kw_ws := kw_ws_in (List.mem_append_right _ (List.mem_of_getElem? (i := 410) (by decide +kernel))) rfl
theorem wCX5_passHour : Cond.code yX5_passHour cX5_passHour 2 none ∈ kw_ws := kw_ws_in (List.mem_append_right _ (List.mem_of_getElem? (i := 414) (by decide +kernel))) rfl
theorem wCX5_windNow : Cond.code yX5_windNow cX5_windNow 1 (some .int) ∈ kw_ws := kw_ws_in (List.mem_append_right _ (List.mem_of_getElem? (i := 418) (by decide +kernel))) rfl
theorem wCX1_windAt : Cond.code yX1_windAt cX1_windAt 2 (some .int) ∈ kw_ws := kw_ws_in (List.mem_append_right _ (List.mem_of_getElem? (i := 422) (by decide +kernel))) rfl
theorem wCX1_milesOf : Cond.code yX1_milesOf cX1_milesOf 5 (some .int) ∈ kw_ws := kw_ws_in (List.mem_append_right _ (List.mem_of_getElem? (i := 426) (by decide +kernel))) rfl
theorem wCX1_pullOf : Cond.code yX1_pullOf cX1_pullOf 3 (some .int) ∈ kw_ws := kw_ws_in (List.mem_append_right _ (List.mem_of_getElem? (i := 430) (by decide +kernel))) rfl
theorem wCX1_hasLine : Cond.code yX1_hasLine cX1_hasLine 2 (some .boolean) ∈ kw_ws := kw_ws_in (List.mem_append_right _ (List.mem_of_getElem? (i := 434) (by decide +kernel))) rfl
theorem wCX7_pull : Cond.code yX7_pull cX7_pull 5 (some .int) ∈ kw_ws := kw_ws_in (List.mem_append_right _ (List.mem_of_getElem? (i := 437) (by decide +kernel))) rfl
theorem wCX1_turnOf : Cond.code yX1_turnOf cX1_turnOf 5 (some .int) ∈ kw_ws := kw_ws_in (List.mem_append_right _ (List.mem_of_getElem? (i := 441) (by decide +kernel))) rfl
theorem wCX7_weather : Cond.code yX7_weather cX7_weather 4 none ∈ kw_ws := kw_ws_in (List.mem_append_right _ (List.mem_of_getElem? (i := 444) (by decide +kernel))) rfl
theorem wCJ9_max_7cf53 : Cond.code yJ9_max_7cf53 cJ9_max_7cf53 2 (some .int) ∈ kw_ws := kw_ws_in (List.mem_append_right _ (List.mem_of_getElem? (i := 447) (by decide +kernel))) rfl
theorem wCJ9_min_7cf53 : Cond.code yJ9_min_7cf53 cJ9_min_7cf53 2 (some .int) ∈ kw_ws := kw_ws_in (List.mem_append_right _ (List.mem_of_getElem? (i := 450) (by decide +kernel))) rfl
theorem wCX7_line : Cond.code yX7_line cX7_line 3 (some .int) ∈ kw_ws := kw_ws_in (List.mem_append_right _ (List.mem_of_getElem? (i := 454) (by decide +kernel))) rfl
theorem wCX5_trait : Cond.code yX5_trait cX5_trait 3 (some .int) ∈ kw_ws := kw_ws_in (List.mem_append_right _ (List.mem_of_getElem? (i := 459) (by decide +kernel))) rfl
theorem wCX5_isHung : Cond.code yX5_isHung cX5_isHung 2 (some .boolean) ∈ kw_ws := kw_ws_in (List.mem_append_right _ (List.mem_of_getElem? (i := 464) (by decide +kernel))) rfl
theorem wCX7_mark : Cond.code yX7_mark cX7_mark 4 (some .int) ∈ kw_ws := kw_ws_in (List.mem_append_right _ (List.mem_of_getElem? (i := 469) (by decide +kernel))) rfl
theorem wCX7_isA : Cond.code yX7_isA cX7_isA 4 (some .boolean) ∈ kw_ws := kw_ws_in (List.mem_append_right _ (List.mem_of_getElem? (i := 472) (by decide +kernel))) rfl
theorem wCX5_hoursToStorm : Cond.code yX5_hoursToStorm cX5_hoursToStorm 2 (some .int) ∈ kw_ws := kw_ws_in (List.mem_append_right _ (List.mem_of_getElem? (i := 479) (by decide +kernel))) rfl
theorem wCX5_windAhead : Cond.code yX5_windAhead cX5_windAhead 2 (some .int) ∈ kw_ws := kw_ws_in (List.mem_append_right _ (List.mem_of_getElem? (i := 483) (by decide +kernel))) rfl
theorem wCJ6_bitCount_0f7a4 : Cond.code yJ6_bitCount_0f7a4 cJ6_bitCount_0f7a4 1 (some .int) ∈ kw_ws := kw_ws_in (List.mem_append_right _ (List.mem_of_getElem? (i := 486) (by decide +kernel))) rfl
theorem wCX1_othersNoWider : Cond.code yX1_othersNoWider cX1_othersNoWider 4 (some .int) ∈ kw_ws := kw_ws_in (List.mem_append_right _ (List.mem_of_getElem? (i := 493) (by decide +kernel))) rfl
theorem wCX7_wind : Cond.code yX7_wind cX7_wind 2 (some .int) ∈ kw_ws := kw_ws_in (List.mem_append_right _ (List.mem_of_getElem? (i := 499) (by decide +kernel))) rfl
theorem wCX5_isEmpty : Cond.code yX5_isEmpty cX5_isEmpty 1 (some .boolean) ∈ kw_ws := kw_ws_in (List.mem_append_right _ (List.mem_of_getElem? (i := 503) (by decide +kernel))) rfl
theorem wCX7_hang : Cond.code yX7_hang cX7_hang 2 (some .int) ∈ kw_ws := kw_ws_in (List.mem_append_right _ (List.mem_of_getElem? (i := 508) (by decide +kernel))) rfl
theorem wCX7_take : Cond.code yX7_take cX7_take 2 (some .int) ∈ kw_ws := kw_ws_in (List.mem_append_right _ (List.mem_of_getElem? (i := 515) (by decide +kernel))) rfl
theorem wCX7_hour : Cond.code yX7_hour cX7_hour 1 (some .int) ∈ kw_ws := kw_ws_in (List.mem_append_right _ (List.mem_of_getElem? (i := 519) (by decide +kernel))) rfl
theorem wCX4_tellWhole : Cond.code yX4_tellWhole cX4_tellWhole 3 none ∈ kw_ws := kw_ws_in (List.mem_append_right _ (List.mem_of_getElem? (i := 523) (by decide +kernel))) rfl
theorem wCX7_undo : Cond.code yX7_undo cX7_undo 3 (some .int) ∈ kw_ws := kw_ws_in (List.mem_append_right _ (List.mem_of_getElem? (i := 527) (by decide +kernel))) rfl
theorem wCX7_keep : Cond.code yX7_keep cX7_keep 3 (some .int) ∈ kw_ws := kw_ws_in (List.mem_append_right _ (List.mem_of_getElem? (i := 531) (by decide +kernel))) rfl
theorem wCX7_on : Cond.code yX7_on cX7_on 4 (some .int) ∈ kw_ws := kw_ws_in (List.mem_append_right _ (List.mem_of_getElem? (i := 535) (by decide +kernel))) rfl
theorem wCX7_goes : Cond.code yX7_goes cX7_goes 3 (some .int) ∈ kw_ws := kw_ws_in (List.mem_append_right _ (List.mem_of_getElem? (i := 539) (by decide +kernel))) rfl
theorem wCX1_hasSet : Cond.code yX1_hasSet cX1_hasSet 2 (some .boolean) ∈ kw_ws := kw_ws_in (List.mem_append_right _ (List.mem_of_getElem? (i := 543) (by decide +kernel))) rfl
theorem wCX1_allLines : Cond.code yX1_allLines cX1_allLines 1 (some .int) ∈ kw_ws := kw_ws_in (List.mem_append_right _ (List.mem_of_getElem? (i := 547) (by decide +kernel))) rfl
theorem wCX7_even : Cond.code yX7_even cX7_even 7 (some .int) ∈ kw_ws := kw_ws_in (List.mem_append_right _ (List.mem_of_getElem? (i := 553) (by decide +kernel))) rfl
theorem wCX0_draw : Cond.code yX0_draw cX0_draw 7 none ∈ kw_ws := kw_ws_in (List.mem_append_right _ (List.mem_of_getElem? (i := 557) (by decide +kernel))) rfl
theorem wCX0_fits : Cond.code yX0_fits cX0_fits 4 (some .boolean) ∈ kw_ws := kw_ws_in (List.mem_append_right _ (List.mem_of_getElem? (i := 562) (by decide +kernel))) rfl
theorem wCX0_milesOf : Cond.code yX0_milesOf cX0_milesOf 2 (some .int) ∈ kw_ws := kw_ws_in (List.mem_append_right _ (List.mem_of_getElem? (i := 566) (by decide +kernel))) rfl
theorem wCX0_turnBy : Cond.code yX0_turnBy cX0_turnBy 2 (some .int) ∈ kw_ws := kw_ws_in (List.mem_append_right _ (List.mem_of_getElem? (i := 570) (by decide +kernel))) rfl
theorem wCX1_linenOf : Cond.code yX1_linenOf cX1_linenOf 4 (some .int) ∈ kw_ws := kw_ws_in (List.mem_append_right _ (List.mem_of_getElem? (i := 574) (by decide +kernel))) rfl
theorem wCX7_fast : Cond.code yX7_fast cX7_fast 4 (some .int) ∈ kw_ws := kw_ws_in (List.mem_append_right _ (List.mem_of_getElem? (i := 578) (by decide +kernel))) rfl
theorem wCX7_wet : Cond.code yX7_wet cX7_wet 1 (some .int) ∈ kw_ws := kw_ws_in (List.mem_append_right _ (List.mem_of_getElem? (i := 583) (by decide +kernel))) rfl
theorem wCX5_allWet : Cond.code yX5_allWet cX5_allWet 3 (some .int) ∈ kw_ws := kw_ws_in (List.mem_append_right _ (List.mem_of_getElem? (i := 587) (by decide +kernel))) rfl
theorem wCX7_drySet : Cond.code yX7_drySet cX7_drySet 4 (some .int) ∈ kw_ws := kw_ws_in (List.mem_append_right _ (List.mem_of_getElem? (i := 592) (by decide +kernel))) rfl
theorem wCX7_sail : Cond.code yX7_sail cX7_sail 7 (some .int) ∈ kw_ws := kw_ws_in (List.mem_append_right _ (List.mem_of_getElem? (i := 596) (by decide +kernel))) rfl
theorem wCX7_planRefusal : Cond.code yX7_planRefusal cX7_planRefusal 3 (some .int) ∈ kw_ws := kw_ws_in (List.mem_append_right _ (List.mem_of_getElem? (i := 600) (by decide +kernel))) rfl
theorem wCX7_dry : Cond.code yX7_dry cX7_dry 4 (some .int) ∈ kw_ws := kw_ws_in (List.mem_append_right _ (List.mem_of_getElem? (i := 605) (by decide +kernel))) rfl
theorem wCX7_far : Cond.code yX7_far cX7_far 5 (some .int) ∈ kw_ws := kw_ws_in (List.mem_append_right _ (List.mem_of_getElem? (i := 611) (by decide +kernel))) rfl
theorem wCX6_find : Cond.code yX6_find cX6_find 6 (some .boolean) ∈ kw_ws := kw_ws_in (List.mem_append_right _ (List.mem_of_getElem? (i := 615) (by decide +kernel))) rfl
theorem wCX1_mostMilesOf : Cond.code yX1_mostMilesOf cX1_mostMilesOf 5 (some .int) ∈ kw_ws := kw_ws_in (List.mem_append_right _ (List.mem_of_getElem? (i := 623) (by decide +kernel))) rfl
theorem wCX6_sailFrom : Cond.code yX6_sailFrom cX6_sailFrom 8 none ∈ kw_ws := kw_ws_in (List.mem_append_right _ (List.mem_of_getElem? (i := 628) (by decide +kernel))) rfl
theorem wCX7_soon : Cond.code yX7_soon cX7_soon 5 (some .int) ∈ kw_ws := kw_ws_in (List.mem_append_right _ (List.mem_of_getElem? (i := 635) (by decide +kernel))) rfl
theorem wCX7_least : Cond.code yX7_least cX7_least 7 (some .int) ∈ kw_ws := kw_ws_in (List.mem_append_right _ (List.mem_of_getElem? (i := 640) (by decide +kernel))) rfl
theorem wCX7_mostMilesBehind : Cond.code yX7_mostMilesBehind cX7_mostMilesBehind 5 (some .int) ∈ kw_ws := kw_ws_in (List.mem_append_right _ (List.mem_of_getElem? (i := 644) (by decide +kernel))) rfl
theorem wCX7_ways : Cond.code yX7_ways cX7_ways 6 (some .int) ∈ kw_ws := kw_ws_in (List.mem_append_right _ (List.mem_of_getElem? (i := 648) (by decide +kernel))) rfl
theorem wCX7_kinds : Cond.code yX7_kinds cX7_kinds 6 (some .int) ∈ kw_ws := kw_ws_in (List.mem_append_right _ (List.mem_of_getElem? (i := 652) (by decide +kernel))) rfl
theorem wCX7_pairsRefusal : Cond.code yX7_pairsRefusal cX7_pairsRefusal 6 (some .int) ∈ kw_ws := kw_ws_in (List.mem_append_right _ (List.mem_of_getElem? (i := 656) (by decide +kernel))) rfl
theorem wCX7_pulledSo : Cond.code yX7_pulledSo cX7_pulledSo 5 (some .boolean) ∈ kw_ws := kw_ws_in (List.mem_append_right _ (List.mem_of_getElem? (i := 660) (by decide +kernel))) rfl
theorem wCX7_areas : Cond.code yX7_areas cX7_areas 6 (some .int) ∈ kw_ws := kw_ws_in (List.mem_append_right _ (List.mem_of_getElem? (i := 664) (by decide +kernel))) rfl
theorem wCX7_rival : Cond.code yX7_rival cX7_rival 2 (some .int) ∈ kw_ws := kw_ws_in (List.mem_append_right _ (List.mem_of_getElem? (i := 668) (by decide +kernel))) rfl
theorem wCX7_play : Cond.code yX7_play cX7_play 8 (some .int) ∈ kw_ws := kw_ws_in (List.mem_append_right _ (List.mem_of_getElem? (i := 671) (by decide +kernel))) rfl
theorem wCX7_mid : Cond.code yX7_mid cX7_mid 7 (some .int) ∈ kw_ws := kw_ws_in (List.mem_append_right _ (List.mem_of_getElem? (i := 675) (by decide +kernel))) rfl
theorem wCX7_foresee : Cond.code yX7_foresee cX7_foresee 4 none ∈ kw_ws := kw_ws_in (List.mem_append_right _ (List.mem_of_getElem? (i := 679) (by decide +kernel))) rfl
theorem wCX4_tellShare : Cond.code yX4_tellShare cX4_tellShare 7 none ∈ kw_ws := kw_ws_in (List.mem_append_right _ (List.mem_of_getElem? (i := 684) (by decide +kernel))) rfl
theorem wCJ9_abs_067f4 : Cond.code yJ9_abs_067f4 cJ9_abs_067f4 2 (some .long) ∈ kw_ws := kw_ws_in (List.mem_append_right _ (List.mem_of_getElem? (i := 687) (by decide +kernel))) rfl
theorem wCX4_commonDivisor : Cond.code yX4_commonDivisor cX4_commonDivisor 11 (some .long) ∈ kw_ws := kw_ws_in (List.mem_append_right _ (List.mem_of_getElem? (i := 690) (by decide +kernel))) rfl
theorem wCX7_odds : Cond.code yX7_odds cX7_odds 11 (some .int) ∈ kw_ws := kw_ws_in (List.mem_append_right _ (List.mem_of_getElem? (i := 694) (by decide +kernel))) rfl
theorem wCX7_milesByGusts : Cond.code yX7_milesByGusts cX7_milesByGusts 5 (some .int) ∈ kw_ws := kw_ws_in (List.mem_append_right _ (List.mem_of_getElem? (i := 698) (by decide +kernel))) rfl
theorem wCX7_weightOfGusts : Cond.code yX7_weightOfGusts cX7_weightOfGusts 6 (some .long) ∈ kw_ws := kw_ws_in (List.mem_append_right _ (List.mem_of_getElem? (i := 701) (by decide +kernel))) rfl
theorem wCX7_lots : Cond.code yX7_lots cX7_lots 7 (some .int) ∈ kw_ws := kw_ws_in (List.mem_append_right _ (List.mem_of_getElem? (i := 705) (by decide +kernel))) rfl
theorem wCX7_asked : Cond.code yX7_asked cX7_asked 1 (some .int) ∈ kw_ws := kw_ws_in (List.mem_append_right _ (List.mem_of_getElem? (i := 711) (by decide +kernel))) rfl
theorem wCX7_upper : Cond.code yX7_upper cX7_upper 1 (some .long) ∈ kw_ws := kw_ws_in (List.mem_append_right _ (List.mem_of_getElem? (i := 715) (by decide +kernel))) rfl
theorem wCX7_lower : Cond.code yX7_lower cX7_lower 1 (some .long) ∈ kw_ws := kw_ws_in (List.mem_append_right _ (List.mem_of_getElem? (i := 719) (by decide +kernel))) rfl
theorem wCX7_count : Cond.code yX7_count cX7_count 2 (some .int) ∈ kw_ws := kw_ws_in (List.mem_append_right _ (List.mem_of_getElem? (i := 723) (by decide +kernel))) rfl
theorem wCX1_howManyAre : Cond.code yX1_howManyAre cX1_howManyAre 4 (some .int) ∈ kw_ws := kw_ws_in (List.mem_append_right _ (List.mem_of_getElem? (i := 727) (by decide +kernel))) rfl
theorem wCX3_howMany : Cond.code yX3_howMany cX3_howMany 3 (some .int) ∈ kw_ws := kw_ws_in (List.mem_append_right _ (List.mem_of_getElem? (i := 732) (by decide +kernel))) rfl
theorem wCX7_miles : Cond.code yX7_miles cX7_miles 1 (some .int) ∈ kw_ws := kw_ws_in (List.mem_append_right _ (List.mem_of_getElem? (i := 736) (by decide +kernel))) rfl
theorem wCX7_finding : Cond.code yX7_finding cX7_finding 1 (some .int) ∈ kw_ws := kw_ws_in (List.mem_append_right _ (List.mem_of_getElem? (i := 740) (by decide +kernel))) rfl
theorem wCX7_findings : Cond.code yX7_findings cX7_findings 2 (some .int) ∈ kw_ws := kw_ws_in (List.mem_append_right _ (List.mem_of_getElem? (i := 744) (by decide +kernel))) rfl
theorem wCX7_digest : Cond.code yX7_digest cX7_digest 5 (some .long) ∈ kw_ws := kw_ws_in (List.mem_append_right _ (List.mem_of_getElem? (i := 748) (by decide +kernel))) rfl
theorem wCX3_fold : Cond.code yX3_fold cX3_fold 7 (some .long) ∈ kw_ws := kw_ws_in (List.mem_append_right _ (List.mem_of_getElem? (i := 755) (by decide +kernel))) rfl
theorem wCX8_row : Cond.code yX8_row cX8_row 4 (some .int) ∈ kw_ws := kw_ws_in (List.mem_append_right _ (List.mem_of_getElem? (i := 878) (by decide +kernel))) rfl
theorem wCX8_isRow : Cond.code yX8_isRow cX8_isRow 1 (some .boolean) ∈ kw_ws := kw_ws_in (List.mem_append_right _ (List.mem_of_getElem? (i := 881) (by decide +kernel))) rfl
theorem wCX8_in : Cond.code yX8_in cX8_in 3 (some .boolean) ∈ kw_ws := kw_ws_in (List.mem_append_right _ (List.mem_of_getElem? (i := 884) (by decide +kernel))) rfl
theorem wCX8_meet : Cond.code yX8_meet cX8_meet 2 (some .int) ∈ kw_ws := kw_ws_in (List.mem_append_right _ (List.mem_of_getElem? (i := 888) (by decide +kernel))) rfl
theorem wCX8_setRow : Cond.code yX8_setRow cX8_setRow 4 none ∈ kw_ws := kw_ws_in (List.mem_append_right _ (List.mem_of_getElem? (i := 892) (by decide +kernel))) rfl
theorem wCX8_at : Cond.code yX8_at cX8_at 4 (some .int) ∈ kw_ws := kw_ws_in (List.mem_append_right _ (List.mem_of_getElem? (i := 896) (by decide +kernel))) rfl
theorem wCX8_askedRow : Cond.code yX8_askedRow cX8_askedRow 2 (some .int) ∈ kw_ws := kw_ws_in (List.mem_append_right _ (List.mem_of_getElem? (i := 900) (by decide +kernel))) rfl
end
section
theorem wCX8_rowAt : Cond.code yX8_rowAt cX8_rowAt 3 (some .int) ∈ kw_ws := kw_ws_in (List.mem_append_right _ (List.mem_of_getElem? (i := 904) (by decide +kernel))) rfl
theorem wCX8_ask : Cond.code yX8_ask cX8_ask 3 (some .int) ∈ kw_ws := kw_ws_in (List.mem_append_right _ (List.mem_of_getElem? (i := 908) (by decide +kernel))) rfl
theorem wCX8_lay : Cond.code yX8_lay cX8_lay 5 (some .int) ∈ kw_ws := kw_ws_in (List.mem_append_right _ (List.mem_of_getElem? (i := 912) (by decide +kernel))) rfl
theorem wCX8_tear : Cond.code yX8_tear cX8_tear 3 (some .int) ∈ kw_ws := kw_ws_in (List.mem_append_right _ (List.mem_of_getElem? (i := 917) (by decide +kernel))) rfl
theorem wCX8_copy : Cond.code yX8_copy cX8_copy 7 (some .int) ∈ kw_ws := kw_ws_in (List.mem_append_right _ (List.mem_of_getElem? (i := 921) (by decide +kernel))) rfl
theorem wCX8_mean : Cond.code yX8_mean cX8_mean 6 (some .int) ∈ kw_ws := kw_ws_in (List.mem_append_right _ (List.mem_of_getElem? (i := 925) (by decide +kernel))) rfl
theorem wCX8_text : Cond.code yX8_text cX8_text 4 (some .int) ∈ kw_ws := kw_ws_in (List.mem_append_right _ (List.mem_of_getElem? (i := 929) (by decide +kernel))) rfl
theorem wCX8_isText : Cond.code yX8_isText cX8_isText 1 (some .boolean) ∈ kw_ws := kw_ws_in (List.mem_append_right _ (List.mem_of_getElem? (i := 932) (by decide +kernel))) rfl
theorem wCX8_put : Cond.code yX8_put cX8_put 6 (some .int) ∈ kw_ws := kw_ws_in (List.mem_append_right _ (List.mem_of_getElem? (i := 936) (by decide +kernel))) rfl
theorem wCX8_askedText : Cond.code yX8_askedText cX8_askedText 2 (some .int) ∈ kw_ws := kw_ws_in (List.mem_append_right _ (List.mem_of_getElem? (i := 940) (by decide +kernel))) rfl
theorem wCX8_fault : Cond.code yX8_fault cX8_fault 3 (some .int) ∈ kw_ws := kw_ws_in (List.mem_append_right _ (List.mem_of_getElem? (i := 944) (by decide +kernel))) rfl
theorem wCX8_goesOn : Cond.code yX8_goesOn cX8_goesOn 2 (some .int) ∈ kw_ws := kw_ws_in (List.mem_append_right _ (List.mem_of_getElem? (i := 948) (by decide +kernel))) rfl
theorem wCX8_readsTown : Cond.code yX8_readsTown cX8_readsTown 2 (some .boolean) ∈ kw_ws := kw_ws_in (List.mem_append_right _ (List.mem_of_getElem? (i := 952) (by decide +kernel))) rfl
theorem wCX8_readsWinds : Cond.code yX8_readsWinds cX8_readsWinds 2 (some .boolean) ∈ kw_ws := kw_ws_in (List.mem_append_right _ (List.mem_of_getElem? (i := 956) (by decide +kernel))) rfl
theorem wCX8_skip : Cond.code yX8_skip cX8_skip 2 none ∈ kw_ws := kw_ws_in (List.mem_append_right _ (List.mem_of_getElem? (i := 960) (by decide +kernel))) rfl
theorem wCX8_here : Cond.code yX8_here cX8_here 2 (some .int) ∈ kw_ws := kw_ws_in (List.mem_append_right _ (List.mem_of_getElem? (i := 964) (by decide +kernel))) rfl
theorem wCX8_readsLine : Cond.code yX8_readsLine cX8_readsLine 4 (some .boolean) ∈ kw_ws := kw_ws_in (List.mem_append_right _ (List.mem_of_getElem? (i := 968) (by decide +kernel))) rfl
theorem wCX8_kindBy : Cond.code yX8_kindBy cX8_kindBy 1 (some .int) ∈ kw_ws := kw_ws_in (List.mem_append_right _ (List.mem_of_getElem? (i := 971) (by decide +kernel))) rfl
theorem wCX8_figure : Cond.code yX8_figure cX8_figure 6 (some .boolean) ∈ kw_ws := kw_ws_in (List.mem_append_right _ (List.mem_of_getElem? (i := 975) (by decide +kernel))) rfl
theorem wCX8_town : Cond.code yX8_town cX8_town 4 (some .int) ∈ kw_ws := kw_ws_in (List.mem_append_right _ (List.mem_of_getElem? (i := 979) (by decide +kernel))) rfl
theorem wCX8_hang : Cond.code yX8_hang cX8_hang 2 (some .int) ∈ kw_ws := kw_ws_in (List.mem_append_right _ (List.mem_of_getElem? (i := 983) (by decide +kernel))) rfl
theorem wCX8_isLine : Cond.code yX8_isLine cX8_isLine 2 (some .boolean) ∈ kw_ws := kw_ws_in (List.mem_append_right _ (List.mem_of_getElem? (i := 987) (by decide +kernel))) rfl
theorem wCX8_has : Cond.code yX8_has cX8_has 2 (some .boolean) ∈ kw_ws := kw_ws_in (List.mem_append_right _ (List.mem_of_getElem? (i := 990) (by decide +kernel))) rfl
theorem wCX8_turnLine : Cond.code yX8_turnLine cX8_turnLine 2 none ∈ kw_ws := kw_ws_in (List.mem_append_right _ (List.mem_of_getElem? (i := 994) (by decide +kernel))) rfl
theorem wCX8_note : Cond.code yX8_note cX8_note 1 none ∈ kw_ws := kw_ws_in (List.mem_append_right _ (List.mem_of_getElem? (i := 998) (by decide +kernel))) rfl
theorem wCX8_write : Cond.code yX8_write cX8_write 4 none ∈ kw_ws := kw_ws_in (List.mem_append_right _ (List.mem_of_getElem? (i := 1002) (by decide +kernel))) rfl
theorem wCX8_bits : Cond.code yX8_bits cX8_bits 3 (some .int) ∈ kw_ws := kw_ws_in (List.mem_append_right _ (List.mem_of_getElem? (i := 1005) (by decide +kernel))) rfl
theorem wCX8_take : Cond.code yX8_take cX8_take 2 (some .int) ∈ kw_ws := kw_ws_in (List.mem_append_right _ (List.mem_of_getElem? (i := 1009) (by decide +kernel))) rfl
theorem wCX8_hour : Cond.code yX8_hour cX8_hour 1 (some .int) ∈ kw_ws := kw_ws_in (List.mem_append_right _ (List.mem_of_getElem? (i := 1013) (by decide +kernel))) rfl
theorem wCX8_pass : Cond.code yX8_pass cX8_pass 4 none ∈ kw_ws := kw_ws_in (List.mem_append_right _ (List.mem_of_getElem? (i := 1017) (by decide +kernel))) rfl
theorem wCX8_windAt : Cond.code yX8_windAt cX8_windAt 2 (some .int) ∈ kw_ws := kw_ws_in (List.mem_append_right _ (List.mem_of_getElem? (i := 1021) (by decide +kernel))) rfl
theorem wCX8_milesBy : Cond.code yX8_milesBy cX8_milesBy 5 (some .int) ∈ kw_ws := kw_ws_in (List.mem_append_right _ (List.mem_of_getElem? (i := 1025) (by decide +kernel))) rfl
theorem wCX8_pullOf : Cond.code yX8_pullOf cX8_pullOf 3 (some .int) ∈ kw_ws := kw_ws_in (List.mem_append_right _ (List.mem_of_getElem? (i := 1029) (by decide +kernel))) rfl
theorem wCX8_pullBy : Cond.code yX8_pullBy cX8_pullBy 4 (some .int) ∈ kw_ws := kw_ws_in (List.mem_append_right _ (List.mem_of_getElem? (i := 1032) (by decide +kernel))) rfl
theorem wCX8_turnBy : Cond.code yX8_turnBy cX8_turnBy 5 (some .int) ∈ kw_ws := kw_ws_in (List.mem_append_right _ (List.mem_of_getElem? (i := 1036) (by decide +kernel))) rfl
theorem wCX8_wetBehind : Cond.code yX8_wetBehind cX8_wetBehind 3 (some .int) ∈ kw_ws := kw_ws_in (List.mem_append_right _ (List.mem_of_getElem? (i := 1040) (by decide +kernel))) rfl
theorem wCX8_part : Cond.code yX8_part cX8_part 11 (some .int) ∈ kw_ws := kw_ws_in (List.mem_append_right _ (List.mem_of_getElem? (i := 1044) (by decide +kernel))) rfl
theorem wCX8_undo : Cond.code yX8_undo cX8_undo 3 (some .int) ∈ kw_ws := kw_ws_in (List.mem_append_right _ (List.mem_of_getElem? (i := 1048) (by decide +kernel))) rfl
theorem wCX8_read : Cond.code yX8_read cX8_read 4 none ∈ kw_ws := kw_ws_in (List.mem_append_right _ (List.mem_of_getElem? (i := 1052) (by decide +kernel))) rfl
theorem wCX8_keep : Cond.code yX8_keep cX8_keep 4 (some .int) ∈ kw_ws := kw_ws_in (List.mem_append_right _ (List.mem_of_getElem? (i := 1056) (by decide +kernel))) rfl
theorem wCX8_on : Cond.code yX8_on cX8_on 4 (some .int) ∈ kw_ws := kw_ws_in (List.mem_append_right _ (List.mem_of_getElem? (i := 1060) (by decide +kernel))) rfl
theorem wCX8_line : Cond.code yX8_line cX8_line 3 (some .int) ∈ kw_ws := kw_ws_in (List.mem_append_right _ (List.mem_of_getElem? (i := 1064) (by decide +kernel))) rfl
theorem wCX8_lineOf : Cond.code yX8_lineOf cX8_lineOf 3 (some .int) ∈ kw_ws := kw_ws_in (List.mem_append_right _ (List.mem_of_getElem? (i := 1068) (by decide +kernel))) rfl
theorem wCX8_mark : Cond.code yX8_mark cX8_mark 4 (some .int) ∈ kw_ws := kw_ws_in (List.mem_append_right _ (List.mem_of_getElem? (i := 1072) (by decide +kernel))) rfl
theorem wCX8_isA : Cond.code yX8_isA cX8_isA 2 (some .boolean) ∈ kw_ws := kw_ws_in (List.mem_append_right _ (List.mem_of_getElem? (i := 1075) (by decide +kernel))) rfl
theorem wCX8_hoursTill : Cond.code yX8_hoursTill cX8_hoursTill 2 (some .int) ∈ kw_ws := kw_ws_in (List.mem_append_right _ (List.mem_of_getElem? (i := 1079) (by decide +kernel))) rfl
theorem wCX8_lesserOnes : Cond.code yX8_lesserOnes cX8_lesserOnes 4 (some .int) ∈ kw_ws := kw_ws_in (List.mem_append_right _ (List.mem_of_getElem? (i := 1083) (by decide +kernel))) rfl
theorem wCX8_wind : Cond.code yX8_wind cX8_wind 2 (some .int) ∈ kw_ws := kw_ws_in (List.mem_append_right _ (List.mem_of_getElem? (i := 1087) (by decide +kernel))) rfl
theorem wCX8_goes : Cond.code yX8_goes cX8_goes 3 (some .int) ∈ kw_ws := kw_ws_in (List.mem_append_right _ (List.mem_of_getElem? (i := 1091) (by decide +kernel))) rfl
theorem wCX8_isSet : Cond.code yX8_isSet cX8_isSet 2 (some .boolean) ∈ kw_ws := kw_ws_in (List.mem_append_right _ (List.mem_of_getElem? (i := 1095) (by decide +kernel))) rfl
theorem wCX8_even : Cond.code yX8_even cX8_even 6 (some .int) ∈ kw_ws := kw_ws_in (List.mem_append_right _ (List.mem_of_getElem? (i := 1099) (by decide +kernel))) rfl
theorem wCX8_linenOf : Cond.code yX8_linenOf cX8_linenOf 4 (some .int) ∈ kw_ws := kw_ws_in (List.mem_append_right _ (List.mem_of_getElem? (i := 1103) (by decide +kernel))) rfl
theorem wCX8_fast : Cond.code yX8_fast cX8_fast 5 (some .int) ∈ kw_ws := kw_ws_in (List.mem_append_right _ (List.mem_of_getElem? (i := 1107) (by decide +kernel))) rfl
theorem wCX8_wet : Cond.code yX8_wet cX8_wet 3 (some .int) ∈ kw_ws := kw_ws_in (List.mem_append_right _ (List.mem_of_getElem? (i := 1111) (by decide +kernel))) rfl
theorem wCX8_wetOfAll : Cond.code yX8_wetOfAll cX8_wetOfAll 3 (some .int) ∈ kw_ws := kw_ws_in (List.mem_append_right _ (List.mem_of_getElem? (i := 1115) (by decide +kernel))) rfl
theorem wCX8_sail : Cond.code yX8_sail cX8_sail 6 (some .int) ∈ kw_ws := kw_ws_in (List.mem_append_right _ (List.mem_of_getElem? (i := 1119) (by decide +kernel))) rfl
theorem wCX8_askedPlan : Cond.code yX8_askedPlan cX8_askedPlan 3 (some .int) ∈ kw_ws := kw_ws_in (List.mem_append_right _ (List.mem_of_getElem? (i := 1123) (by decide +kernel))) rfl
theorem wCX8_dry : Cond.code yX8_dry cX8_dry 7 (some .int) ∈ kw_ws := kw_ws_in (List.mem_append_right _ (List.mem_of_getElem? (i := 1127) (by decide +kernel))) rfl
theorem wCX8_far : Cond.code yX8_far cX8_far 6 (some .int) ∈ kw_ws := kw_ws_in (List.mem_append_right _ (List.mem_of_getElem? (i := 1131) (by decide +kernel))) rfl
theorem wCX8_setHours : Cond.code yX8_setHours cX8_setHours 3 none ∈ kw_ws := kw_ws_in (List.mem_append_right _ (List.mem_of_getElem? (i := 1135) (by decide +kernel))) rfl
theorem wCX8_farBy : Cond.code yX8_farBy cX8_farBy 16 (some .int) ∈ kw_ws := kw_ws_in (List.mem_append_right _ (List.mem_of_getElem? (i := 1139) (by decide +kernel))) rfl
theorem wCX8_isTurn : Cond.code yX8_isTurn cX8_isTurn 2 (some .boolean) ∈ kw_ws := kw_ws_in (List.mem_append_right _ (List.mem_of_getElem? (i := 1143) (by decide +kernel))) rfl
theorem wCX8_soon : Cond.code yX8_soon cX8_soon 4 (some .int) ∈ kw_ws := kw_ws_in (List.mem_append_right _ (List.mem_of_getElem? (i := 1147) (by decide +kernel))) rfl
theorem wCX8_mostOf : Cond.code yX8_mostOf cX8_mostOf 5 (some .int) ∈ kw_ws := kw_ws_in (List.mem_append_right _ (List.mem_of_getElem? (i := 1151) (by decide +kernel))) rfl
theorem wCX8_greater : Cond.code yX8_greater cX8_greater 2 (some .int) ∈ kw_ws := kw_ws_in (List.mem_append_right _ (List.mem_of_getElem? (i := 1154) (by decide +kernel))) rfl
theorem wCX8_least : Cond.code yX8_least cX8_least 7 (some .int) ∈ kw_ws := kw_ws_in (List.mem_append_right _ (List.mem_of_getElem? (i := 1158) (by decide +kernel))) rfl
theorem wCX8_ways : Cond.code yX8_ways cX8_ways 7 (some .int) ∈ kw_ws := kw_ws_in (List.mem_append_right _ (List.mem_of_getElem? (i := 1162) (by decide +kernel))) rfl
theorem wCX8_kinds : Cond.code yX8_kinds cX8_kinds 6 (some .int) ∈ kw_ws := kw_ws_in (List.mem_append_right _ (List.mem_of_getElem? (i := 1166) (by decide +kernel))) rfl
theorem wCX8_askedPulls : Cond.code yX8_askedPulls cX8_askedPulls 5 (some .int) ∈ kw_ws := kw_ws_in (List.mem_append_right _ (List.mem_of_getElem? (i := 1170) (by decide +kernel))) rfl
theorem wCX8_pullsSo : Cond.code yX8_pullsSo cX8_pullsSo 6 (some .boolean) ∈ kw_ws := kw_ws_in (List.mem_append_right _ (List.mem_of_getElem? (i := 1174) (by decide +kernel))) rfl
theorem wCX8_areas : Cond.code yX8_areas cX8_areas 6 (some .int) ∈ kw_ws := kw_ws_in (List.mem_append_right _ (List.mem_of_getElem? (i := 1178) (by decide +kernel))) rfl
theorem wCX8_rival : Cond.code yX8_rival cX8_rival 9 (some .int) ∈ kw_ws := kw_ws_in (List.mem_append_right _ (List.mem_of_getElem? (i := 1182) (by decide +kernel))) rfl
theorem wCX8_mid : Cond.code yX8_mid cX8_mid 8 (some .int) ∈ kw_ws := kw_ws_in (List.mem_append_right _ (List.mem_of_getElem? (i := 1186) (by decide +kernel))) rfl
theorem wCX8_gustMiles : Cond.code yX8_gustMiles cX8_gustMiles 5 (some .int) ∈ kw_ws := kw_ws_in (List.mem_append_right _ (List.mem_of_getElem? (i := 1190) (by decide +kernel))) rfl
theorem wCX8_weightOf : Cond.code yX8_weightOf cX8_weightOf 4 (some .long) ∈ kw_ws := kw_ws_in (List.mem_append_right _ (List.mem_of_getElem? (i := 1194) (by decide +kernel))) rfl
theorem wCX8_power : Cond.code yX8_power cX8_power 6 (some .long) ∈ kw_ws := kw_ws_in (List.mem_append_right _ (List.mem_of_getElem? (i := 1197) (by decide +kernel))) rfl
theorem wCX8_odds : Cond.code yX8_odds cX8_odds 9 (some .int) ∈ kw_ws := kw_ws_in (List.mem_append_right _ (List.mem_of_getElem? (i := 1202) (by decide +kernel))) rfl
theorem wCX8_lots : Cond.code yX8_lots cX8_lots 6 (some .int) ∈ kw_ws := kw_ws_in (List.mem_append_right _ (List.mem_of_getElem? (i := 1206) (by decide +kernel))) rfl
theorem wCX8_asked : Cond.code yX8_asked cX8_asked 1 (some .int) ∈ kw_ws := kw_ws_in (List.mem_append_right _ (List.mem_of_getElem? (i := 1213) (by decide +kernel))) rfl
theorem wCX8_upper : Cond.code yX8_upper cX8_upper 1 (some .long) ∈ kw_ws := kw_ws_in (List.mem_append_right _ (List.mem_of_getElem? (i := 1217) (by decide +kernel))) rfl
theorem wCX8_lower : Cond.code yX8_lower cX8_lower 1 (some .long) ∈ kw_ws := kw_ws_in (List.mem_append_right _ (List.mem_of_getElem? (i := 1221) (by decide +kernel))) rfl
theorem wCX8_count : Cond.code yX8_count cX8_count 2 (some .int) ∈ kw_ws := kw_ws_in (List.mem_append_right _ (List.mem_of_getElem? (i := 1225) (by decide +kernel))) rfl
theorem wCX8_tells : Cond.code yX8_tells cX8_tells 2 (some .int) ∈ kw_ws := kw_ws_in (List.mem_append_right _ (List.mem_of_getElem? (i := 1229) (by decide +kernel))) rfl
theorem wCX8_howMany : Cond.code yX8_howMany cX8_howMany 4 (some .int) ∈ kw_ws := kw_ws_in (List.mem_append_right _ (List.mem_of_getElem? (i := 1233) (by decide +kernel))) rfl
theorem wCX8_there : Cond.code yX8_there cX8_there 4 (some .int) ∈ kw_ws := kw_ws_in (List.mem_append_right _ (List.mem_of_getElem? (i := 1237) (by decide +kernel))) rfl
theorem wCX8_miles : Cond.code yX8_miles cX8_miles 1 (some .int) ∈ kw_ws := kw_ws_in (List.mem_append_right _ (List.mem_of_getElem? (i := 1241) (by decide +kernel))) rfl
theorem wCX8_finding : Cond.code yX8_finding cX8_finding 1 (some .int) ∈ kw_ws := kw_ws_in (List.mem_append_right _ (List.mem_of_getElem? (i := 1245) (by decide +kernel))) rfl
theorem wCX8_findings : Cond.code yX8_findings cX8_findings 2 (some .int) ∈ kw_ws := kw_ws_in (List.mem_append_right _ (List.mem_of_getElem? (i := 1249) (by decide +kernel))) rfl
theorem wCX8_digest : Cond.code yX8_digest cX8_digest 3 (some .long) ∈ kw_ws := kw_ws_in (List.mem_append_right _ (List.mem_of_getElem? (i := 1253) (by decide +kernel))) rfl
theorem wCX8_mix : Cond.code yX8_mix cX8_mix 2 none ∈ kw_ws := kw_ws_in (List.mem_append_right _ (List.mem_of_getElem? (i := 1258) (by decide +kernel))) rfl
theorem wCX8_mixTown : Cond.code yX8_mixTown cX8_mixTown 3 none ∈ kw_ws := kw_ws_in (List.mem_append_right _ (List.mem_of_getElem? (i := 1263) (by decide +kernel))) rfl
theorem wVX7_makeOn : Cond.selects RX7 yX7_makeOn yX7_makeOn ∈ kw_ws := kw_ws_in (List.mem_append_left _ (List.mem_of_getElem? (i := 0) (by decide +kernel))) rfl
theorem wVX2_skipBlanks : Cond.selects RX2 yX2_skipBlanks yX2_skipBlanks ∈ kw_ws := kw_ws_in (List.mem_append_left _ (List.mem_of_getElem? (i := 1) (by decide +kernel))) rfl
theorem wVX2_readWinds : Cond.selects RX2 yX2_readWinds yX2_readWinds ∈ kw_ws := kw_ws_in (List.mem_append_left _ (List.mem_of_getElem? (i := 2) (by decide +kernel))) rfl
theorem wVX2_readLine : Cond.selects RX2 yX2_readLine yX2_readLine ∈ kw_ws := kw_ws_in (List.mem_append_left _ (List.mem_of_getElem? (i := 3) (by decide +kernel))) rfl
theorem wVX2_readFigure : Cond.selects RX2 yX2_readFigure yX2_readFigure ∈ kw_ws := kw_ws_in (List.mem_append_left _ (List.mem_of_getElem? (i := 4) (by decide +kernel))) rfl
theorem wVX5_passHour : Cond.selects RX5 yX5_passHour yX5_passHour ∈ kw_ws := kw_ws_in (List.mem_append_left _ (List.mem_of_getElem? (i := 5) (by decide +kernel))) rfl
theorem wVX7_drySet : Cond.selects RX7 yX7_drySet yX7_drySet ∈ kw_ws := kw_ws_in (List.mem_append_left _ (List.mem_of_getElem? (i := 6) (by decide +kernel))) rfl
theorem wVX7_planRefusal : Cond.selects RX7 yX7_planRefusal yX7_planRefusal ∈ kw_ws := kw_ws_in (List.mem_append_left _ (List.mem_of_getElem? (i := 7) (by decide +kernel))) rfl
theorem wVX6_sailFrom : Cond.selects RX6 yX6_sailFrom yX6_sailFrom ∈ kw_ws := kw_ws_in (List.mem_append_left _ (List.mem_of_getElem? (i := 8) (by decide +kernel))) rfl
theorem wVX7_mostMilesBehind : Cond.selects RX7 yX7_mostMilesBehind yX7_mostMilesBehind ∈ kw_ws := kw_ws_in (List.mem_append_left _ (List.mem_of_getElem? (i := 9) (by decide +kernel))) rfl
theorem wVX7_pairsRefusal : Cond.selects RX7 yX7_pairsRefusal yX7_pairsRefusal ∈ kw_ws := kw_ws_in (List.mem_append_left _ (List.mem_of_getElem? (i := 10) (by decide +kernel))) rfl
theorem wVX7_pulledSo : Cond.selects RX7 yX7_pulledSo yX7_pulledSo ∈ kw_ws := kw_ws_in (List.mem_append_left _ (List.mem_of_getElem? (i := 11) (by decide +kernel))) rfl
theorem wVX7_foresee : Cond.selects RX7 yX7_foresee yX7_foresee ∈ kw_ws := kw_ws_in (List.mem_append_left _ (List.mem_of_getElem? (i := 12) (by decide +kernel))) rfl
theorem wVX7_milesByGusts : Cond.selects RX7 yX7_milesByGusts yX7_milesByGusts ∈ kw_ws := kw_ws_in (List.mem_append_left _ (List.mem_of_getElem? (i := 13) (by decide +kernel))) rfl
theorem wVX8_meet : Cond.selects RX8 yX8_meet yX8_meet ∈ kw_ws := kw_ws_in (List.mem_append_left _ (List.mem_of_getElem? (i := 14) (by decide +kernel))) rfl
theorem wVX8_setRow : Cond.selects RX8 yX8_setRow yX8_setRow ∈ kw_ws := kw_ws_in (List.mem_append_left _ (List.mem_of_getElem? (i := 15) (by decide +kernel))) rfl
theorem wVX8_askedRow : Cond.selects RX8 yX8_askedRow yX8_askedRow ∈ kw_ws := kw_ws_in (List.mem_append_left _ (List.mem_of_getElem? (i := 16) (by decide +kernel))) rfl
theorem wVX8_rowAt : Cond.selects RX8 yX8_rowAt yX8_rowAt ∈ kw_ws := kw_ws_in (List.mem_append_left _ (List.mem_of_getElem? (i := 17) (by decide +kernel))) rfl
theorem wVX8_ask : Cond.selects RX8 yX8_ask yX8_ask ∈ kw_ws := kw_ws_in (List.mem_append_left _ (List.mem_of_getElem? (i := 18) (by decide +kernel))) rfl
theorem wVX8_askedText : Cond.selects RX8 yX8_askedText yX8_askedText ∈ kw_ws := kw_ws_in (List.mem_append_left _ (List.mem_of_getElem? (i := 19) (by decide +kernel))) rfl
theorem wVX8_goesOn : Cond.selects RX8 yX8_goesOn yX8_goesOn ∈ kw_ws := kw_ws_in (List.mem_append_left _ (List.mem_of_getElem? (i := 20) (by decide +kernel))) rfl
theorem wVX8_readsTown : Cond.selects RX8 yX8_readsTown yX8_readsTown ∈ kw_ws := kw_ws_in (List.mem_append_left _ (List.mem_of_getElem? (i := 21) (by decide +kernel))) rfl
theorem wVX8_readsWinds : Cond.selects RX8 yX8_readsWinds yX8_readsWinds ∈ kw_ws := kw_ws_in (List.mem_append_left _ (List.mem_of_getElem? (i := 22) (by decide +kernel))) rfl
theorem wVX8_skip : Cond.selects RX8 yX8_skip yX8_skip ∈ kw_ws := kw_ws_in (List.mem_append_left _ (List.mem_of_getElem? (i := 23) (by decide +kernel))) rfl
theorem wVX8_here : Cond.selects RX8 yX8_here yX8_here ∈ kw_ws := kw_ws_in (List.mem_append_left _ (List.mem_of_getElem? (i := 24) (by decide +kernel))) rfl
theorem wVX8_readsLine : Cond.selects RX8 yX8_readsLine yX8_readsLine ∈ kw_ws := kw_ws_in (List.mem_append_left _ (List.mem_of_getElem? (i := 25) (by decide +kernel))) rfl
theorem wVX8_figure : Cond.selects RX8 yX8_figure yX8_figure ∈ kw_ws := kw_ws_in (List.mem_append_left _ (List.mem_of_getElem? (i := 26) (by decide +kernel))) rfl
theorem wVX8_isLine : Cond.selects RX8 yX8_isLine yX8_isLine ∈ kw_ws := kw_ws_in (List.mem_append_left _ (List.mem_of_getElem? (i := 27) (by decide +kernel))) rfl
theorem wVX8_turnLine : Cond.selects RX8 yX8_turnLine yX8_turnLine ∈ kw_ws := kw_ws_in (List.mem_append_left _ (List.mem_of_getElem? (i := 28) (by decide +kernel))) rfl
theorem wVX8_note : Cond.selects RX8 yX8_note yX8_note ∈ kw_ws := kw_ws_in (List.mem_append_left _ (List.mem_of_getElem? (i := 29) (by decide +kernel))) rfl
theorem wVX8_write : Cond.selects RX8 yX8_write yX8_write ∈ kw_ws := kw_ws_in (List.mem_append_left _ (List.mem_of_getElem? (i := 30) (by decide +kernel))) rfl
theorem wVX8_pass : Cond.selects RX8 yX8_pass yX8_pass ∈ kw_ws := kw_ws_in (List.mem_append_left _ (List.mem_of_getElem? (i := 31) (by decide +kernel))) rfl
theorem wVX8_windAt : Cond.selects RX8 yX8_windAt yX8_windAt ∈ kw_ws := kw_ws_in (List.mem_append_left _ (List.mem_of_getElem? (i := 32) (by decide +kernel))) rfl
theorem wVX8_milesBy : Cond.selects RX8 yX8_milesBy yX8_milesBy ∈ kw_ws := kw_ws_in (List.mem_append_left _ (List.mem_of_getElem? (i := 33) (by decide +kernel))) rfl
theorem wVX8_pullOf : Cond.selects RX8 yX8_pullOf yX8_pullOf ∈ kw_ws := kw_ws_in (List.mem_append_left _ (List.mem_of_getElem? (i := 34) (by decide +kernel))) rfl
theorem wVX8_turnBy : Cond.selects RX8 yX8_turnBy yX8_turnBy ∈ kw_ws := kw_ws_in (List.mem_append_left _ (List.mem_of_getElem? (i := 35) (by decide +kernel))) rfl
theorem wVX8_wetBehind : Cond.selects RX8 yX8_wetBehind yX8_wetBehind ∈ kw_ws := kw_ws_in (List.mem_append_left _ (List.mem_of_getElem? (i := 36) (by decide +kernel))) rfl
theorem wVX8_part : Cond.selects RX8 yX8_part yX8_part ∈ kw_ws := kw_ws_in (List.mem_append_left _ (List.mem_of_getElem? (i := 37) (by decide +kernel))) rfl
theorem wVX8_read : Cond.selects RX8 yX8_read yX8_read ∈ kw_ws := kw_ws_in (List.mem_append_left _ (List.mem_of_getElem? (i := 38) (by decide +kernel))) rfl
theorem wVX8_lineOf : Cond.selects RX8 yX8_lineOf yX8_lineOf ∈ kw_ws := kw_ws_in (List.mem_append_left _ (List.mem_of_getElem? (i := 39) (by decide +kernel))) rfl
theorem wVX8_hoursTill : Cond.selects RX8 yX8_hoursTill yX8_hoursTill ∈ kw_ws := kw_ws_in (List.mem_append_left _ (List.mem_of_getElem? (i := 40) (by decide +kernel))) rfl
theorem wVX8_lesserOnes : Cond.selects RX8 yX8_lesserOnes yX8_lesserOnes ∈ kw_ws := kw_ws_in (List.mem_append_left _ (List.mem_of_getElem? (i := 41) (by decide +kernel))) rfl
theorem wVX8_isSet : Cond.selects RX8 yX8_isSet yX8_isSet ∈ kw_ws := kw_ws_in (List.mem_append_left _ (List.mem_of_getElem? (i := 42) (by decide +kernel))) rfl
theorem wVX8_linenOf : Cond.selects RX8 yX8_linenOf yX8_linenOf ∈ kw_ws := kw_ws_in (List.mem_append_left _ (List.mem_of_getElem? (i := 43) (by decide +kernel))) rfl
theorem wVX8_wetOfAll : Cond.selects RX8 yX8_wetOfAll yX8_wetOfAll ∈ kw_ws := kw_ws_in (List.mem_append_left _ (List.mem_of_getElem? (i := 44) (by decide +kernel))) rfl
theorem wVX8_askedPlan : Cond.selects RX8 yX8_askedPlan yX8_askedPlan ∈ kw_ws := kw_ws_in (List.mem_append_left _ (List.mem_of_getElem? (i := 45) (by decide +kernel))) rfl
theorem wVX8_setHours : Cond.selects RX8 yX8_setHours yX8_setHours ∈ kw_ws := kw_ws_in (List.mem_append_left _ (List.mem_of_getElem? (i := 46) (by decide +kernel))) rfl
theorem wVX8_farBy : Cond.selects RX8 yX8_farBy yX8_farBy ∈ kw_ws := kw_ws_in (List.mem_append_left _ (List.mem_of_getElem? (i := 47) (by decide +kernel))) rfl
theorem wVX8_mostOf : Cond.selects RX8 yX8_mostOf yX8_mostOf ∈ kw_ws := kw_ws_in (List.mem_append_left _ (List.mem_of_getElem? (i := 48) (by decide +kernel))) rfl
theorem wVX8_askedPulls : Cond.selects RX8 yX8_askedPulls yX8_askedPulls ∈ kw_ws := kw_ws_in (List.mem_append_left _ (List.mem_of_getElem? (i := 49) (by decide +kernel))) rfl
theorem wVX8_pullsSo : Cond.selects RX8 yX8_pullsSo yX8_pullsSo ∈ kw_ws := kw_ws_in (List.mem_append_left _ (List.mem_of_getElem? (i := 50) (by decide +kernel))) rfl
theorem wVX8_gustMiles : Cond.selects RX8 yX8_gustMiles yX8_gustMiles ∈ kw_ws := kw_ws_in (List.mem_append_left _ (List.mem_of_getElem? (i := 51) (by decide +kernel))) rfl
theorem wVX8_weightOf : Cond.selects RX8 yX8_weightOf yX8_weightOf ∈ kw_ws := kw_ws_in (List.mem_append_left _ (List.mem_of_getElem? (i := 52) (by decide +kernel))) rfl
theorem wVX8_tells : Cond.selects RX8 yX8_tells yX8_tells ∈ kw_ws := kw_ws_in (List.mem_append_left _ (List.mem_of_getElem? (i := 53) (by decide +kernel))) rfl
theorem wVX8_howMany : Cond.selects RX8 yX8_howMany yX8_howMany ∈ kw_ws := kw_ws_in (List.mem_append_left _ (List.mem_of_getElem? (i := 54) (by decide +kernel))) rfl
theorem wVX8_there : Cond.selects RX8 yX8_there yX8_there ∈ kw_ws := kw_ws_in (List.mem_append_left _ (List.mem_of_getElem? (i := 55) (by decide +kernel))) rfl
theorem wVX8_mix : Cond.selects RX8 yX8_mix yX8_mix ∈ kw_ws := kw_ws_in (List.mem_append_left _ (List.mem_of_getElem? (i := 56) (by decide +kernel))) rfl
theorem wVX8_mixTown : Cond.selects RX8 yX8_mixTown yX8_mixTown ∈ kw_ws := kw_ws_in (List.mem_append_left _ (List.mem_of_getElem? (i := 57) (by decide +kernel))) rfl
theorem kfX3_9 : Cond.fieldLink RX3 9 RX3 (TX3 0).2.1 (TX3 0).2.2.1 ∈ kw_ws := kw_ws_in (List.mem_append_right _ (List.mem_of_getElem? (i := 33) (by decide +kernel))) rfl
theorem lkX3_9 : kw_lk RX3 9 3 0 := ⟨RX3, TX3, 3, rfl, by decide, inW3, rfl, kfX3_9⟩
theorem kfX7_348 : Cond.fieldLink RX7 348 RX3 (TX3 0).2.1 (TX3 0).2.2.1 ∈ kw_ws := kw_ws_in (List.mem_append_right _ (List.mem_of_getElem? (i := 34) (by decide +kernel))) rfl
theorem lkX7_348 : kw_lk RX7 348 3 0 := ⟨RX3, TX3, 3, rfl, by decide, inW3, rfl, kfX7_348⟩
theorem kfX3_17 : Cond.fieldLink RX3 17 RX3 (TX3 1).2.1 (TX3 1).2.2.1 ∈ kw_ws := kw_ws_in (List.mem_append_right _ (List.mem_of_getElem? (i := 35) (by decide +kernel))) rfl
theorem lkX3_17 : kw_lk RX3 17 3 1 := ⟨RX3, TX3, 3, rfl, by decide, inW3, rfl, kfX3_17⟩
theorem kfX3_20 : Cond.fieldLink RX3 20 RX3 (TX3 2).2.1 (TX3 2).2.2.1 ∈ kw_ws := kw_ws_in (List.mem_append_right _ (List.mem_of_getElem? (i := 36) (by decide +kernel))) rfl
theorem lkX3_20 : kw_lk RX3 20 3 2 := ⟨RX3, TX3, 3, rfl, by decide, inW3, rfl, kfX3_20⟩
theorem kfX1_9 : Cond.fieldLink RX1 9 RX1 (TX1 0).2.1 (TX1 0).2.2.1 ∈ kw_ws := kw_ws_in (List.mem_append_right _ (List.mem_of_getElem? (i := 57) (by decide +kernel))) rfl
theorem lkX1_9 : kw_lk RX1 9 1 0 := ⟨RX1, TX1, 7, rfl, by decide, inW1, rfl, kfX1_9⟩
theorem kfX2_56 : Cond.fieldLink RX2 56 RX1 (TX1 0).2.1 (TX1 0).2.2.1 ∈ kw_ws := kw_ws_in (List.mem_append_right _ (List.mem_of_getElem? (i := 58) (by decide +kernel))) rfl
theorem lkX2_56 : kw_lk RX2 56 1 0 := ⟨RX1, TX1, 7, rfl, by decide, inW1, rfl, kfX2_56⟩
theorem kfX5_49 : Cond.fieldLink RX5 49 RX1 (TX1 0).2.1 (TX1 0).2.2.1 ∈ kw_ws := kw_ws_in (List.mem_append_right _ (List.mem_of_getElem? (i := 59) (by decide +kernel))) rfl
theorem lkX5_49 : kw_lk RX5 49 1 0 := ⟨RX1, TX1, 7, rfl, by decide, inW1, rfl, kfX5_49⟩
theorem kfX7_143 : Cond.fieldLink RX7 143 RX1 (TX1 0).2.1 (TX1 0).2.2.1 ∈ kw_ws := kw_ws_in (List.mem_append_right _ (List.mem_of_getElem? (i := 60) (by decide +kernel))) rfl
theorem lkX7_143 : kw_lk RX7 143 1 0 := ⟨RX1, TX1, 7, rfl, by decide, inW1, rfl, kfX7_143⟩
theorem kfX1_15 : Cond.fieldLink RX1 15 RX1 (TX1 1).2.1 (TX1 1).2.2.1 ∈ kw_ws := kw_ws_in (List.mem_append_right _ (List.mem_of_getElem? (i := 61) (by decide +kernel))) rfl
theorem lkX1_15 : kw_lk RX1 15 1 1 := ⟨RX1, TX1, 7, rfl, by decide, inW1, rfl, kfX1_15⟩
theorem kfX0_32 : Cond.fieldLink RX0 32 RX1 (TX1 1).2.1 (TX1 1).2.2.1 ∈ kw_ws := kw_ws_in (List.mem_append_right _ (List.mem_of_getElem? (i := 62) (by decide +kernel))) rfl
theorem lkX0_32 : kw_lk RX0 32 1 1 := ⟨RX1, TX1, 7, rfl, by decide, inW1, rfl, kfX0_32⟩
theorem kfX2_59 : Cond.fieldLink RX2 59 RX1 (TX1 1).2.1 (TX1 1).2.2.1 ∈ kw_ws := kw_ws_in (List.mem_append_right _ (List.mem_of_getElem? (i := 63) (by decide +kernel))) rfl
theorem lkX2_59 : kw_lk RX2 59 1 1 := ⟨RX1, TX1, 7, rfl, by decide, inW1, rfl, kfX2_59⟩
theorem kfX5_52 : Cond.fieldLink RX5 52 RX1 (TX1 1).2.1 (TX1 1).2.2.1 ∈ kw_ws := kw_ws_in (List.mem_append_right _ (List.mem_of_getElem? (i := 64) (by decide +kernel))) rfl
theorem lkX5_52 : kw_lk RX5 52 1 1 := ⟨RX1, TX1, 7, rfl, by decide, inW1, rfl, kfX5_52⟩
theorem kfX1_18 : Cond.fieldLink RX1 18 RX1 (TX1 2).2.1 (TX1 2).2.2.1 ∈ kw_ws := kw_ws_in (List.mem_append_right _ (List.mem_of_getElem? (i := 65) (by decide +kernel))) rfl
theorem lkX1_18 : kw_lk RX1 18 1 2 := ⟨RX1, TX1, 7, rfl, by decide, inW1, rfl, kfX1_18⟩
theorem kfX2_66 : Cond.fieldLink RX2 66 RX1 (TX1 2).2.1 (TX1 2).2.2.1 ∈ kw_ws := kw_ws_in (List.mem_append_right _ (List.mem_of_getElem? (i := 66) (by decide +kernel))) rfl
theorem lkX2_66 : kw_lk RX2 66 1 2 := ⟨RX1, TX1, 7, rfl, by decide, inW1, rfl, kfX2_66⟩
theorem kfX5_55 : Cond.fieldLink RX5 55 RX1 (TX1 2).2.1 (TX1 2).2.2.1 ∈ kw_ws := kw_ws_in (List.mem_append_right _ (List.mem_of_getElem? (i := 67) (by decide +kernel))) rfl
theorem lkX5_55 : kw_lk RX5 55 1 2 := ⟨RX1, TX1, 7, rfl, by decide, inW1, rfl, kfX5_55⟩
theorem kfX7_168 : Cond.fieldLink RX7 168 RX1 (TX1 2).2.1 (TX1 2).2.2.1 ∈ kw_ws := kw_ws_in (List.mem_append_right _ (List.mem_of_getElem? (i := 68) (by decide +kernel))) rfl
theorem lkX7_168 : kw_lk RX7 168 1 2 := ⟨RX1, TX1, 7, rfl, by decide, inW1, rfl, kfX7_168⟩
theorem kfX1_21 : Cond.fieldLink RX1 21 RX1 (TX1 3).2.1 (TX1 3).2.2.1 ∈ kw_ws := kw_ws_in (List.mem_append_right _ (List.mem_of_getElem? (i := 69) (by decide +kernel))) rfl
theorem lkX1_21 : kw_lk RX1 21 1 3 := ⟨RX1, TX1, 7, rfl, by decide, inW1, rfl, kfX1_21⟩
theorem kfX2_69 : Cond.fieldLink RX2 69 RX1 (TX1 3).2.1 (TX1 3).2.2.1 ∈ kw_ws := kw_ws_in (List.mem_append_right _ (List.mem_of_getElem? (i := 70) (by decide +kernel))) rfl
theorem lkX2_69 : kw_lk RX2 69 1 3 := ⟨RX1, TX1, 7, rfl, by decide, inW1, rfl, kfX2_69⟩
theorem kfX5_58 : Cond.fieldLink RX5 58 RX1 (TX1 3).2.1 (TX1 3).2.2.1 ∈ kw_ws := kw_ws_in (List.mem_append_right _ (List.mem_of_getElem? (i := 71) (by decide +kernel))) rfl
theorem lkX5_58 : kw_lk RX5 58 1 3 := ⟨RX1, TX1, 7, rfl, by decide, inW1, rfl, kfX5_58⟩
theorem kfX1_24 : Cond.fieldLink RX1 24 RX1 (TX1 4).2.1 (TX1 4).2.2.1 ∈ kw_ws := kw_ws_in (List.mem_append_right _ (List.mem_of_getElem? (i := 72) (by decide +kernel))) rfl
theorem lkX1_24 : kw_lk RX1 24 1 4 := ⟨RX1, TX1, 7, rfl, by decide, inW1, rfl, kfX1_24⟩
theorem kfX2_49 : Cond.fieldLink RX2 49 RX1 (TX1 4).2.1 (TX1 4).2.2.1 ∈ kw_ws := kw_ws_in (List.mem_append_right _ (List.mem_of_getElem? (i := 73) (by decide +kernel))) rfl
theorem lkX2_49 : kw_lk RX2 49 1 4 := ⟨RX1, TX1, 7, rfl, by decide, inW1, rfl, kfX2_49⟩
theorem kfX0_18 : Cond.fieldLink RX0 18 RX1 (TX1 5).2.1 (TX1 5).2.2.1 ∈ kw_ws := kw_ws_in (List.mem_append_right _ (List.mem_of_getElem? (i := 74) (by decide +kernel))) rfl
theorem lkX0_18 : kw_lk RX0 18 1 5 := ⟨RX1, TX1, 7, rfl, by decide, inW1, rfl, kfX0_18⟩
theorem lpX0_18 : kw_lkP RX0 18 1 5 .int := ⟨RX1, TX1, 7, tyX1, rfl, by decide, inW1, rfl, kfX0_18, tyX1_ok, nmX1, rfl, by decide +kernel⟩
theorem kfX5_25 : Cond.fieldLink RX5 25 RX1 (TX1 5).2.1 (TX1 5).2.2.1 ∈ kw_ws := kw_ws_in (List.mem_append_right _ (List.mem_of_getElem? (i := 75) (by decide +kernel))) rfl
theorem lkX5_25 : kw_lk RX5 25 1 5 := ⟨RX1, TX1, 7, rfl, by decide, inW1, rfl, kfX5_25⟩
theorem lpX5_25 : kw_lkP RX5 25 1 5 .int := ⟨RX1, TX1, 7, tyX1, rfl, by decide, inW1, rfl, kfX5_25, tyX1_ok, nmX1, rfl, by decide +kernel⟩
theorem kfX2_18 : Cond.fieldLink RX2 18 RX1 (TX1 5).2.1 (TX1 5).2.2.1 ∈ kw_ws := kw_ws_in (List.mem_append_right _ (List.mem_of_getElem? (i := 76) (by decide +kernel))) rfl
theorem lkX2_18 : kw_lk RX2 18 1 5 := ⟨RX1, TX1, 7, rfl, by decide, inW1, rfl, kfX2_18⟩
theorem lpX2_18 : kw_lkP RX2 18 1 5 .int := ⟨RX1, TX1, 7, tyX1, rfl, by decide, inW1, rfl, kfX2_18, tyX1_ok, nmX1, rfl, by decide +kernel⟩
theorem kfX1_33 : Cond.fieldLink RX1 33 RX1 (TX1 5).2.1 (TX1 5).2.2.1 ∈ kw_ws := kw_ws_in (List.mem_append_right _ (List.mem_of_getElem? (i := 77) (by decide +kernel))) rfl
theorem lkX1_33 : kw_lk RX1 33 1 5 := ⟨RX1, TX1, 7, rfl, by decide, inW1, rfl, kfX1_33⟩
theorem lpX1_33 : kw_lkP RX1 33 1 5 .int := ⟨RX1, TX1, 7, tyX1, rfl, by decide, inW1, rfl, kfX1_33, tyX1_ok, nmX1, rfl, by decide +kernel⟩
theorem kfX7_133 : Cond.fieldLink RX7 133 RX1 (TX1 5).2.1 (TX1 5).2.2.1 ∈ kw_ws := kw_ws_in (List.mem_append_right _ (List.mem_of_getElem? (i := 78) (by decide +kernel))) rfl
theorem lkX7_133 : kw_lk RX7 133 1 5 := ⟨RX1, TX1, 7, rfl, by decide, inW1, rfl, kfX7_133⟩
theorem lpX7_133 : kw_lkP RX7 133 1 5 .int := ⟨RX1, TX1, 7, tyX1, rfl, by decide, inW1, rfl, kfX7_133, tyX1_ok, nmX1, rfl, by decide +kernel⟩
theorem kfX2_22 : Cond.fieldLink RX2 22 RX1 (TX1 6).2.1 (TX1 6).2.2.1 ∈ kw_ws := kw_ws_in (List.mem_append_right _ (List.mem_of_getElem? (i := 79) (by decide +kernel))) rfl
theorem lkX2_22 : kw_lk RX2 22 1 6 := ⟨RX1, TX1, 7, rfl, by decide, inW1, rfl, kfX2_22⟩
theorem lpX2_22 : kw_lkP RX2 22 1 6 .int := ⟨RX1, TX1, 7, tyX1, rfl, by decide, inW1, rfl, kfX2_22, tyX1_ok, nmX1, rfl, by decide +kernel⟩
theorem kfX1_37 : Cond.fieldLink RX1 37 RX1 (TX1 6).2.1 (TX1 6).2.2.1 ∈ kw_ws := kw_ws_in (List.mem_append_right _ (List.mem_of_getElem? (i := 80) (by decide +kernel))) rfl
theorem lkX1_37 : kw_lk RX1 37 1 6 := ⟨RX1, TX1, 7, rfl, by decide, inW1, rfl, kfX1_37⟩
theorem lpX1_37 : kw_lkP RX1 37 1 6 .int := ⟨RX1, TX1, 7, tyX1, rfl, by decide, inW1, rfl, kfX1_37, tyX1_ok, nmX1, rfl, by decide +kernel⟩
theorem kfX2_12 : Cond.fieldLink RX2 12 RX2 (TX2 0).2.1 (TX2 0).2.2.1 ∈ kw_ws := kw_ws_in (List.mem_append_right _ (List.mem_of_getElem? (i := 96) (by decide +kernel))) rfl
theorem lkX2_12 : kw_lk RX2 12 2 0 := ⟨RX2, TX2, 2, rfl, by decide, inW2, rfl, kfX2_12⟩
theorem kfX7_121 : Cond.fieldLink RX7 121 RX2 (TX2 0).2.1 (TX2 0).2.2.1 ∈ kw_ws := kw_ws_in (List.mem_append_right _ (List.mem_of_getElem? (i := 97) (by decide +kernel))) rfl
theorem lkX7_121 : kw_lk RX7 121 2 0 := ⟨RX2, TX2, 2, rfl, by decide, inW2, rfl, kfX7_121⟩
theorem kfX2_25 : Cond.fieldLink RX2 25 RX2 (TX2 1).2.1 (TX2 1).2.2.1 ∈ kw_ws := kw_ws_in (List.mem_append_right _ (List.mem_of_getElem? (i := 98) (by decide +kernel))) rfl
theorem lkX2_25 : kw_lk RX2 25 2 1 := ⟨RX2, TX2, 2, rfl, by decide, inW2, rfl, kfX2_25⟩
theorem lpX2_25 : kw_lkP RX2 25 2 1 .int := ⟨RX2, TX2, 2, tyX2, rfl, by decide, inW2, rfl, kfX2_25, tyX2_ok, nmX2, rfl, by decide +kernel⟩
theorem kfX5_12 : Cond.fieldLink RX5 12 RX5 (TX5 0).2.1 (TX5 0).2.2.1 ∈ kw_ws := kw_ws_in (List.mem_append_right _ (List.mem_of_getElem? (i := 112) (by decide +kernel))) rfl
theorem lkX5_12 : kw_lk RX5 12 5 0 := ⟨RX5, TX5, 8, rfl, by decide, inW5, rfl, kfX5_12⟩
theorem kfX6_51 : Cond.fieldLink RX6 51 RX5 (TX5 0).2.1 (TX5 0).2.2.1 ∈ kw_ws := kw_ws_in (List.mem_append_right _ (List.mem_of_getElem? (i := 113) (by decide +kernel))) rfl
theorem lkX6_51 : kw_lk RX6 51 5 0 := ⟨RX5, TX5, 8, rfl, by decide, inW5, rfl, kfX6_51⟩
theorem kfX7_117 : Cond.fieldLink RX7 117 RX5 (TX5 0).2.1 (TX5 0).2.2.1 ∈ kw_ws := kw_ws_in (List.mem_append_right _ (List.mem_of_getElem? (i := 114) (by decide +kernel))) rfl
theorem lkX7_117 : kw_lk RX7 117 5 0 := ⟨RX5, TX5, 8, rfl, by decide, inW5, rfl, kfX7_117⟩
theorem kfX5_18 : Cond.fieldLink RX5 18 RX5 (TX5 1).2.1 (TX5 1).2.2.1 ∈ kw_ws := kw_ws_in (List.mem_append_right _ (List.mem_of_getElem? (i := 115) (by decide +kernel))) rfl
theorem lkX5_18 : kw_lk RX5 18 5 1 := ⟨RX5, TX5, 8, rfl, by decide, inW5, rfl, kfX5_18⟩
theorem kfX7_213 : Cond.fieldLink RX7 213 RX5 (TX5 1).2.1 (TX5 1).2.2.1 ∈ kw_ws := kw_ws_in (List.mem_append_right _ (List.mem_of_getElem? (i := 116) (by decide +kernel))) rfl
theorem lkX7_213 : kw_lk RX7 213 5 1 := ⟨RX5, TX5, 8, rfl, by decide, inW5, rfl, kfX7_213⟩
theorem kfX5_22 : Cond.fieldLink RX5 22 RX5 (TX5 2).2.1 (TX5 2).2.2.1 ∈ kw_ws := kw_ws_in (List.mem_append_right _ (List.mem_of_getElem? (i := 117) (by decide +kernel))) rfl
theorem lkX5_22 : kw_lk RX5 22 5 2 := ⟨RX5, TX5, 8, rfl, by decide, inW5, rfl, kfX5_22⟩
theorem kfX7_194 : Cond.fieldLink RX7 194 RX5 (TX5 2).2.1 (TX5 2).2.2.1 ∈ kw_ws := kw_ws_in (List.mem_append_right _ (List.mem_of_getElem? (i := 118) (by decide +kernel))) rfl
theorem lkX7_194 : kw_lk RX7 194 5 2 := ⟨RX5, TX5, 8, rfl, by decide, inW5, rfl, kfX7_194⟩
theorem kfX5_32 : Cond.fieldLink RX5 32 RX5 (TX5 3).2.1 (TX5 3).2.2.1 ∈ kw_ws := kw_ws_in (List.mem_append_right _ (List.mem_of_getElem? (i := 119) (by decide +kernel))) rfl
theorem lkX5_32 : kw_lk RX5 32 5 3 := ⟨RX5, TX5, 8, rfl, by decide, inW5, rfl, kfX5_32⟩
theorem lpX5_32 : kw_lkP RX5 32 5 3 .int := ⟨RX5, TX5, 8, tyX5, rfl, by decide, inW5, rfl, kfX5_32, tyX5_ok, nmX5, rfl, by decide +kernel⟩
theorem kfX7_207 : Cond.fieldLink RX7 207 RX5 (TX5 3).2.1 (TX5 3).2.2.1 ∈ kw_ws := kw_ws_in (List.mem_append_right _ (List.mem_of_getElem? (i := 120) (by decide +kernel))) rfl
theorem lkX7_207 : kw_lk RX7 207 5 3 := ⟨RX5, TX5, 8, rfl, by decide, inW5, rfl, kfX7_207⟩
theorem lpX7_207 : kw_lkP RX7 207 5 3 .int := ⟨RX5, TX5, 8, tyX5, rfl, by decide, inW5, rfl, kfX7_207, tyX5_ok, nmX5, rfl, by decide +kernel⟩
theorem kfX5_29 : Cond.fieldLink RX5 29 RX5 (TX5 4).2.1 (TX5 4).2.2.1 ∈ kw_ws := kw_ws_in (List.mem_append_right _ (List.mem_of_getElem? (i := 121) (by decide +kernel))) rfl
theorem lkX5_29 : kw_lk RX5 29 5 4 := ⟨RX5, TX5, 8, rfl, by decide, inW5, rfl, kfX5_29⟩
theorem lpX5_29 : kw_lkP RX5 29 5 4 .int := ⟨RX5, TX5, 8, tyX5, rfl, by decide, inW5, rfl, kfX5_29, tyX5_ok, nmX5, rfl, by decide +kernel⟩
theorem kfX7_157 : Cond.fieldLink RX7 157 RX5 (TX5 4).2.1 (TX5 4).2.2.1 ∈ kw_ws := kw_ws_in (List.mem_append_right _ (List.mem_of_getElem? (i := 122) (by decide +kernel))) rfl
theorem lkX7_157 : kw_lk RX7 157 5 4 := ⟨RX5, TX5, 8, rfl, by decide, inW5, rfl, kfX7_157⟩
theorem lpX7_157 : kw_lkP RX7 157 5 4 .int := ⟨RX5, TX5, 8, tyX5, rfl, by decide, inW5, rfl, kfX7_157, tyX5_ok, nmX5, rfl, by decide +kernel⟩
theorem kfX5_35 : Cond.fieldLink RX5 35 RX5 (TX5 5).2.1 (TX5 5).2.2.1 ∈ kw_ws := kw_ws_in (List.mem_append_right _ (List.mem_of_getElem? (i := 123) (by decide +kernel))) rfl
theorem lkX5_35 : kw_lk RX5 35 5 5 := ⟨RX5, TX5, 8, rfl, by decide, inW5, rfl, kfX5_35⟩
theorem lpX5_35 : kw_lkP RX5 35 5 5 .int := ⟨RX5, TX5, 8, tyX5, rfl, by decide, inW5, rfl, kfX5_35, tyX5_ok, nmX5, rfl, by decide +kernel⟩
theorem kfX7_322 : Cond.fieldLink RX7 322 RX5 (TX5 5).2.1 (TX5 5).2.2.1 ∈ kw_ws := kw_ws_in (List.mem_append_right _ (List.mem_of_getElem? (i := 124) (by decide +kernel))) rfl
theorem lkX7_322 : kw_lk RX7 322 5 5 := ⟨RX5, TX5, 8, rfl, by decide, inW5, rfl, kfX7_322⟩
theorem lpX7_322 : kw_lkP RX7 322 5 5 .int := ⟨RX5, TX5, 8, tyX5, rfl, by decide, inW5, rfl, kfX7_322, tyX5_ok, nmX5, rfl, by decide +kernel⟩
theorem kfX6_68 : Cond.fieldLink RX6 68 RX5 (TX5 6).2.1 (TX5 6).2.2.1 ∈ kw_ws := kw_ws_in (List.mem_append_right _ (List.mem_of_getElem? (i := 125) (by decide +kernel))) rfl
theorem lkX6_68 : kw_lk RX6 68 5 6 := ⟨RX5, TX5, 8, rfl, by decide, inW5, rfl, kfX6_68⟩
theorem lpX6_68 : kw_lkP RX6 68 5 6 .int := ⟨RX5, TX5, 8, tyX5, rfl, by decide, inW5, rfl, kfX6_68, tyX5_ok, nmX5, rfl, by decide +kernel⟩
theorem kfX5_78 : Cond.fieldLink RX5 78 RX5 (TX5 6).2.1 (TX5 6).2.2.1 ∈ kw_ws := kw_ws_in (List.mem_append_right _ (List.mem_of_getElem? (i := 126) (by decide +kernel))) rfl
theorem lkX5_78 : kw_lk RX5 78 5 6 := ⟨RX5, TX5, 8, rfl, by decide, inW5, rfl, kfX5_78⟩
theorem lpX5_78 : kw_lkP RX5 78 5 6 .int := ⟨RX5, TX5, 8, tyX5, rfl, by decide, inW5, rfl, kfX5_78, tyX5_ok, nmX5, rfl, by decide +kernel⟩
theorem kfX7_204 : Cond.fieldLink RX7 204 RX5 (TX5 6).2.1 (TX5 6).2.2.1 ∈ kw_ws := kw_ws_in (List.mem_append_right _ (List.mem_of_getElem? (i := 127) (by decide +kernel))) rfl
theorem lkX7_204 : kw_lk RX7 204 5 6 := ⟨RX5, TX5, 8, rfl, by decide, inW5, rfl, kfX7_204⟩
theorem lpX7_204 : kw_lkP RX7 204 5 6 .int := ⟨RX5, TX5, 8, tyX5, rfl, by decide, inW5, rfl, kfX7_204, tyX5_ok, nmX5, rfl, by decide +kernel⟩
theorem kfX6_71 : Cond.fieldLink RX6 71 RX5 (TX5 7).2.1 (TX5 7).2.2.1 ∈ kw_ws := kw_ws_in (List.mem_append_right _ (List.mem_of_getElem? (i := 128) (by decide +kernel))) rfl
theorem lkX6_71 : kw_lk RX6 71 5 7 := ⟨RX5, TX5, 8, rfl, by decide, inW5, rfl, kfX6_71⟩
theorem lpX6_71 : kw_lkP RX6 71 5 7 .int := ⟨RX5, TX5, 8, tyX5, rfl, by decide, inW5, rfl, kfX6_71, tyX5_ok, nmX5, rfl, by decide +kernel⟩
theorem kfX5_84 : Cond.fieldLink RX5 84 RX5 (TX5 7).2.1 (TX5 7).2.2.1 ∈ kw_ws := kw_ws_in (List.mem_append_right _ (List.mem_of_getElem? (i := 129) (by decide +kernel))) rfl
theorem lkX5_84 : kw_lk RX5 84 5 7 := ⟨RX5, TX5, 8, rfl, by decide, inW5, rfl, kfX5_84⟩
theorem lpX5_84 : kw_lkP RX5 84 5 7 .int := ⟨RX5, TX5, 8, tyX5, rfl, by decide, inW5, rfl, kfX5_84, tyX5_ok, nmX5, rfl, by decide +kernel⟩
theorem kfX7_197 : Cond.fieldLink RX7 197 RX5 (TX5 7).2.1 (TX5 7).2.2.1 ∈ kw_ws := kw_ws_in (List.mem_append_right _ (List.mem_of_getElem? (i := 130) (by decide +kernel))) rfl
theorem lkX7_197 : kw_lk RX7 197 5 7 := ⟨RX5, TX5, 8, rfl, by decide, inW5, rfl, kfX7_197⟩
theorem lpX7_197 : kw_lkP RX7 197 5 7 .int := ⟨RX5, TX5, 8, tyX5, rfl, by decide, inW5, rfl, kfX7_197, tyX5_ok, nmX5, rfl, by decide +kernel⟩
theorem kfX0_9 : Cond.fieldLink RX0 9 RX0 (TX0 0).2.1 (TX0 0).2.2.1 ∈ kw_ws := kw_ws_in (List.mem_append_right _ (List.mem_of_getElem? (i := 154) (by decide +kernel))) rfl
theorem lkX0_9 : kw_lk RX0 9 0 0 := ⟨RX0, TX0, 4, rfl, by decide, inW0, rfl, kfX0_9⟩
theorem kfX0_15 : Cond.fieldLink RX0 15 RX0 (TX0 1).2.1 (TX0 1).2.2.1 ∈ kw_ws := kw_ws_in (List.mem_append_right _ (List.mem_of_getElem? (i := 155) (by decide +kernel))) rfl
theorem lkX0_15 : kw_lk RX0 15 0 1 := ⟨RX0, TX0, 4, rfl, by decide, inW0, rfl, kfX0_15⟩
theorem kfX0_24 : Cond.fieldLink RX0 24 RX0 (TX0 2).2.1 (TX0 2).2.2.1 ∈ kw_ws := kw_ws_in (List.mem_append_right _ (List.mem_of_getElem? (i := 156) (by decide +kernel))) rfl
theorem lkX0_24 : kw_lk RX0 24 0 2 := ⟨RX0, TX0, 4, rfl, by decide, inW0, rfl, kfX0_24⟩
theorem lpX0_24 : kw_lkP RX0 24 0 2 .int := ⟨RX0, TX0, 4, tyX0, rfl, by decide, inW0, rfl, kfX0_24, tyX0_ok, nmX0, rfl, by decide +kernel⟩
theorem kfX7_351 : Cond.fieldLink RX7 351 RX0 (TX0 2).2.1 (TX0 2).2.2.1 ∈ kw_ws := kw_ws_in (List.mem_append_right _ (List.mem_of_getElem? (i := 157) (by decide +kernel))) rfl
theorem lkX7_351 : kw_lk RX7 351 0 2 := ⟨RX0, TX0, 4, rfl, by decide, inW0, rfl, kfX7_351⟩
theorem lpX7_351 : kw_lkP RX7 351 0 2 .int := ⟨RX0, TX0, 4, tyX0, rfl, by decide, inW0, rfl, kfX7_351, tyX0_ok, nmX0, rfl, by decide +kernel⟩
theorem kfX0_25 : Cond.fieldLink RX0 25 RX0 (TX0 3).2.1 (TX0 3).2.2.1 ∈ kw_ws := kw_ws_in (List.mem_append_right _ (List.mem_of_getElem? (i := 158) (by decide +kernel))) rfl
theorem lkX0_25 : kw_lk RX0 25 0 3 := ⟨RX0, TX0, 4, rfl, by decide, inW0, rfl, kfX0_25⟩
theorem lpX0_25 : kw_lkP RX0 25 0 3 .int := ⟨RX0, TX0, 4, tyX0, rfl, by decide, inW0, rfl, kfX0_25, tyX0_ok, nmX0, rfl, by decide +kernel⟩
theorem kfX6_87 : Cond.fieldLink RX6 87 RX0 (TX0 3).2.1 (TX0 3).2.2.1 ∈ kw_ws := kw_ws_in (List.mem_append_right _ (List.mem_of_getElem? (i := 159) (by decide +kernel))) rfl
theorem lkX6_87 : kw_lk RX6 87 0 3 := ⟨RX0, TX0, 4, rfl, by decide, inW0, rfl, kfX6_87⟩
theorem lpX6_87 : kw_lkP RX6 87 0 3 .int := ⟨RX0, TX0, 4, tyX0, rfl, by decide, inW0, rfl, kfX6_87, tyX0_ok, nmX0, rfl, by decide +kernel⟩
theorem kfX7_229 : Cond.fieldLink RX7 229 RX0 (TX0 3).2.1 (TX0 3).2.2.1 ∈ kw_ws := kw_ws_in (List.mem_append_right _ (List.mem_of_getElem? (i := 160) (by decide +kernel))) rfl
theorem lkX7_229 : kw_lk RX7 229 0 3 := ⟨RX0, TX0, 4, rfl, by decide, inW0, rfl, kfX7_229⟩
theorem lpX7_229 : kw_lkP RX7 229 0 3 .int := ⟨RX0, TX0, 4, tyX0, rfl, by decide, inW0, rfl, kfX7_229, tyX0_ok, nmX0, rfl, by decide +kernel⟩
theorem kfX6_9 : Cond.fieldLink RX6 9 RX6 (TX6 0).2.1 (TX6 0).2.2.1 ∈ kw_ws := kw_ws_in (List.mem_append_right _ (List.mem_of_getElem? (i := 179) (by decide +kernel))) rfl
theorem lkX6_9 : kw_lk RX6 9 6 0 := ⟨RX6, TX6, 8, rfl, by decide, inW6, rfl, kfX6_9⟩
theorem kfX7_270 : Cond.fieldLink RX7 270 RX6 (TX6 0).2.1 (TX6 0).2.2.1 ∈ kw_ws := kw_ws_in (List.mem_append_right _ (List.mem_of_getElem? (i := 180) (by decide +kernel))) rfl
theorem lkX7_270 : kw_lk RX7 270 6 0 := ⟨RX6, TX6, 8, rfl, by decide, inW6, rfl, kfX7_270⟩
theorem kfX6_78 : Cond.fieldLink RX6 78 RX6 (TX6 1).2.1 (TX6 1).2.2.1 ∈ kw_ws := kw_ws_in (List.mem_append_right _ (List.mem_of_getElem? (i := 181) (by decide +kernel))) rfl
theorem lkX6_78 : kw_lk RX6 78 6 1 := ⟨RX6, TX6, 8, rfl, by decide, inW6, rfl, kfX6_78⟩
theorem lpX6_78 : kw_lkP RX6 78 6 1 .int := ⟨RX6, TX6, 8, tyX6, rfl, by decide, inW6, rfl, kfX6_78, tyX6_ok, nmX6, rfl, by decide +kernel⟩
theorem kfX7_273 : Cond.fieldLink RX7 273 RX6 (TX6 1).2.1 (TX6 1).2.2.1 ∈ kw_ws := kw_ws_in (List.mem_append_right _ (List.mem_of_getElem? (i := 182) (by decide +kernel))) rfl
theorem lkX7_273 : kw_lk RX7 273 6 1 := ⟨RX6, TX6, 8, rfl, by decide, inW6, rfl, kfX7_273⟩
theorem lpX7_273 : kw_lkP RX7 273 6 1 .int := ⟨RX6, TX6, 8, tyX6, rfl, by decide, inW6, rfl, kfX7_273, tyX6_ok, nmX6, rfl, by decide +kernel⟩
theorem kfX6_17 : Cond.fieldLink RX6 17 RX6 (TX6 2).2.1 (TX6 2).2.2.1 ∈ kw_ws := kw_ws_in (List.mem_append_right _ (List.mem_of_getElem? (i := 183) (by decide +kernel))) rfl
theorem lkX6_17 : kw_lk RX6 17 6 2 := ⟨RX6, TX6, 8, rfl, by decide, inW6, rfl, kfX6_17⟩
theorem kfX6_21 : Cond.fieldLink RX6 21 RX6 (TX6 3).2.1 (TX6 3).2.2.1 ∈ kw_ws := kw_ws_in (List.mem_append_right _ (List.mem_of_getElem? (i := 184) (by decide +kernel))) rfl
theorem lkX6_21 : kw_lk RX6 21 6 3 := ⟨RX6, TX6, 8, rfl, by decide, inW6, rfl, kfX6_21⟩
theorem kfX6_24 : Cond.fieldLink RX6 24 RX6 (TX6 4).2.1 (TX6 4).2.2.1 ∈ kw_ws := kw_ws_in (List.mem_append_right _ (List.mem_of_getElem? (i := 185) (by decide +kernel))) rfl
theorem lkX6_24 : kw_lk RX6 24 6 4 := ⟨RX6, TX6, 8, rfl, by decide, inW6, rfl, kfX6_24⟩
theorem kfX6_41 : Cond.fieldLink RX6 41 RX6 (TX6 5).2.1 (TX6 5).2.2.1 ∈ kw_ws := kw_ws_in (List.mem_append_right _ (List.mem_of_getElem? (i := 186) (by decide +kernel))) rfl
theorem lkX6_41 : kw_lk RX6 41 6 5 := ⟨RX6, TX6, 8, rfl, by decide, inW6, rfl, kfX6_41⟩
theorem lpX6_41 : kw_lkP RX6 41 6 5 .boolean := ⟨RX6, TX6, 8, tyX6, rfl, by decide, inW6, rfl, kfX6_41, tyX6_ok, nmX6, rfl, by decide +kernel⟩
theorem kfX6_34 : Cond.fieldLink RX6 34 RX6 (TX6 6).2.1 (TX6 6).2.2.1 ∈ kw_ws := kw_ws_in (List.mem_append_right _ (List.mem_of_getElem? (i := 187) (by decide +kernel))) rfl
theorem lkX6_34 : kw_lk RX6 34 6 6 := ⟨RX6, TX6, 8, rfl, by decide, inW6, rfl, kfX6_34⟩
theorem lpX6_34 : kw_lkP RX6 34 6 6 .int := ⟨RX6, TX6, 8, tyX6, rfl, by decide, inW6, rfl, kfX6_34, tyX6_ok, nmX6, rfl, by decide +kernel⟩
theorem kfX6_38 : Cond.fieldLink RX6 38 RX6 (TX6 7).2.1 (TX6 7).2.2.1 ∈ kw_ws := kw_ws_in (List.mem_append_right _ (List.mem_of_getElem? (i := 188) (by decide +kernel))) rfl
theorem lkX6_38 : kw_lk RX6 38 6 7 := ⟨RX6, TX6, 8, rfl, by decide, inW6, rfl, kfX6_38⟩
theorem lpX6_38 : kw_lkP RX6 38 6 7 .int := ⟨RX6, TX6, 8, tyX6, rfl, by decide, inW6, rfl, kfX6_38, tyX6_ok, nmX6, rfl, by decide +kernel⟩
theorem kfX4_9 : Cond.fieldLink RX4 9 RX4 (TX4 0).2.1 (TX4 0).2.2.1 ∈ kw_ws := kw_ws_in (List.mem_append_right _ (List.mem_of_getElem? (i := 212) (by decide +kernel))) rfl
theorem lkX4_9 : kw_lk RX4 9 4 0 := ⟨RX4, TX4, 5, rfl, by decide, inW4, rfl, kfX4_9⟩
theorem kfX7_334 : Cond.fieldLink RX7 334 RX4 (TX4 0).2.1 (TX4 0).2.2.1 ∈ kw_ws := kw_ws_in (List.mem_append_right _ (List.mem_of_getElem? (i := 213) (by decide +kernel))) rfl
theorem lkX7_334 : kw_lk RX7 334 4 0 := ⟨RX4, TX4, 5, rfl, by decide, inW4, rfl, kfX7_334⟩
theorem kfX4_23 : Cond.fieldLink RX4 23 RX4 (TX4 1).2.1 (TX4 1).2.2.1 ∈ kw_ws := kw_ws_in (List.mem_append_right _ (List.mem_of_getElem? (i := 214) (by decide +kernel))) rfl
theorem lkX4_23 : kw_lk RX4 23 4 1 := ⟨RX4, TX4, 5, rfl, by decide, inW4, rfl, kfX4_23⟩
theorem lpX4_23 : kw_lkP RX4 23 4 1 .int := ⟨RX4, TX4, 5, tyX4, rfl, by decide, inW4, rfl, kfX4_23, tyX4_ok, nmX4, rfl, by decide +kernel⟩
theorem kfX7_331 : Cond.fieldLink RX7 331 RX4 (TX4 1).2.1 (TX4 1).2.2.1 ∈ kw_ws := kw_ws_in (List.mem_append_right _ (List.mem_of_getElem? (i := 215) (by decide +kernel))) rfl
theorem lkX7_331 : kw_lk RX7 331 4 1 := ⟨RX4, TX4, 5, rfl, by decide, inW4, rfl, kfX7_331⟩
theorem lpX7_331 : kw_lkP RX7 331 4 1 .int := ⟨RX4, TX4, 5, tyX4, rfl, by decide, inW4, rfl, kfX7_331, tyX4_ok, nmX4, rfl, by decide +kernel⟩
theorem kfX4_19 : Cond.fieldLink RX4 19 RX4 (TX4 2).2.1 (TX4 2).2.2.1 ∈ kw_ws := kw_ws_in (List.mem_append_right _ (List.mem_of_getElem? (i := 216) (by decide +kernel))) rfl
theorem lkX4_19 : kw_lk RX4 19 4 2 := ⟨RX4, TX4, 5, rfl, by decide, inW4, rfl, kfX4_19⟩
theorem lpX4_19 : kw_lkP RX4 19 4 2 .int := ⟨RX4, TX4, 5, tyX4, rfl, by decide, inW4, rfl, kfX4_19, tyX4_ok, nmX4, rfl, by decide +kernel⟩
theorem kfX7_312 : Cond.fieldLink RX7 312 RX4 (TX4 2).2.1 (TX4 2).2.2.1 ∈ kw_ws := kw_ws_in (List.mem_append_right _ (List.mem_of_getElem? (i := 217) (by decide +kernel))) rfl
theorem lkX7_312 : kw_lk RX7 312 4 2 := ⟨RX4, TX4, 5, rfl, by decide, inW4, rfl, kfX7_312⟩
theorem lpX7_312 : kw_lkP RX7 312 4 2 .int := ⟨RX4, TX4, 5, tyX4, rfl, by decide, inW4, rfl, kfX7_312, tyX4_ok, nmX4, rfl, by decide +kernel⟩
theorem kfX4_26 : Cond.fieldLink RX4 26 RX4 (TX4 3).2.1 (TX4 3).2.2.1 ∈ kw_ws := kw_ws_in (List.mem_append_right _ (List.mem_of_getElem? (i := 218) (by decide +kernel))) rfl
theorem lkX4_26 : kw_lk RX4 26 4 3 := ⟨RX4, TX4, 5, rfl, by decide, inW4, rfl, kfX4_26⟩
theorem lpX4_26 : kw_lkP RX4 26 4 3 .long := ⟨RX4, TX4, 5, tyX4, rfl, by decide, inW4, rfl, kfX4_26, tyX4_ok, nmX4, rfl, by decide +kernel⟩
theorem kfX7_315 : Cond.fieldLink RX7 315 RX4 (TX4 3).2.1 (TX4 3).2.2.1 ∈ kw_ws := kw_ws_in (List.mem_append_right _ (List.mem_of_getElem? (i := 219) (by decide +kernel))) rfl
theorem lkX7_315 : kw_lk RX7 315 4 3 := ⟨RX4, TX4, 5, rfl, by decide, inW4, rfl, kfX7_315⟩
theorem lpX7_315 : kw_lkP RX7 315 4 3 .long := ⟨RX4, TX4, 5, tyX4, rfl, by decide, inW4, rfl, kfX7_315, tyX4_ok, nmX4, rfl, by decide +kernel⟩
theorem kfX4_15 : Cond.fieldLink RX4 15 RX4 (TX4 4).2.1 (TX4 4).2.2.1 ∈ kw_ws := kw_ws_in (List.mem_append_right _ (List.mem_of_getElem? (i := 220) (by decide +kernel))) rfl
theorem lkX4_15 : kw_lk RX4 15 4 4 := ⟨RX4, TX4, 5, rfl, by decide, inW4, rfl, kfX4_15⟩
theorem lpX4_15 : kw_lkP RX4 15 4 4 .long := ⟨RX4, TX4, 5, tyX4, rfl, by decide, inW4, rfl, kfX4_15, tyX4_ok, nmX4, rfl, by decide +kernel⟩
theorem kfX7_319 : Cond.fieldLink RX7 319 RX4 (TX4 4).2.1 (TX4 4).2.2.1 ∈ kw_ws := kw_ws_in (List.mem_append_right _ (List.mem_of_getElem? (i := 221) (by decide +kernel))) rfl
theorem lkX7_319 : kw_lk RX7 319 4 4 := ⟨RX4, TX4, 5, rfl, by decide, inW4, rfl, kfX7_319⟩
theorem lpX7_319 : kw_lkP RX7 319 4 4 .long := ⟨RX4, TX4, 5, tyX4, rfl, by decide, inW4, rfl, kfX7_319, tyX4_ok, nmX4, rfl, by decide +kernel⟩
theorem kfX7_14 : Cond.fieldLink RX7 14 RX7 (TX7 0).2.1 (TX7 0).2.2.1 ∈ kw_ws := kw_ws_in (List.mem_append_right _ (List.mem_of_getElem? (i := 233) (by decide +kernel))) rfl
theorem lkX7_14 : kw_lk RX7 14 7 0 := ⟨RX7, TX7, 11, rfl, by decide, inW7, rfl, kfX7_14⟩
theorem kfX7_18 : Cond.fieldLink RX7 18 RX7 (TX7 1).2.1 (TX7 1).2.2.1 ∈ kw_ws := kw_ws_in (List.mem_append_right _ (List.mem_of_getElem? (i := 234) (by decide +kernel))) rfl
theorem lkX7_18 : kw_lk RX7 18 7 1 := ⟨RX7, TX7, 11, rfl, by decide, inW7, rfl, kfX7_18⟩
theorem kfX7_24 : Cond.fieldLink RX7 24 RX7 (TX7 2).2.1 (TX7 2).2.2.1 ∈ kw_ws := kw_ws_in (List.mem_append_right _ (List.mem_of_getElem? (i := 235) (by decide +kernel))) rfl
theorem lkX7_24 : kw_lk RX7 24 7 2 := ⟨RX7, TX7, 11, rfl, by decide, inW7, rfl, kfX7_24⟩
theorem kfX7_31 : Cond.fieldLink RX7 31 RX7 (TX7 3).2.1 (TX7 3).2.2.1 ∈ kw_ws := kw_ws_in (List.mem_append_right _ (List.mem_of_getElem? (i := 236) (by decide +kernel))) rfl
theorem lkX7_31 : kw_lk RX7 31 7 3 := ⟨RX7, TX7, 11, rfl, by decide, inW7, rfl, kfX7_31⟩
theorem kfX7_35 : Cond.fieldLink RX7 35 RX7 (TX7 4).2.1 (TX7 4).2.2.1 ∈ kw_ws := kw_ws_in (List.mem_append_right _ (List.mem_of_getElem? (i := 237) (by decide +kernel))) rfl
theorem lkX7_35 : kw_lk RX7 35 7 4 := ⟨RX7, TX7, 11, rfl, by decide, inW7, rfl, kfX7_35⟩
theorem kfX7_41 : Cond.fieldLink RX7 41 RX7 (TX7 5).2.1 (TX7 5).2.2.1 ∈ kw_ws := kw_ws_in (List.mem_append_right _ (List.mem_of_getElem? (i := 238) (by decide +kernel))) rfl
theorem lkX7_41 : kw_lk RX7 41 7 5 := ⟨RX7, TX7, 11, rfl, by decide, inW7, rfl, kfX7_41⟩
theorem kfX7_48 : Cond.fieldLink RX7 48 RX7 (TX7 6).2.1 (TX7 6).2.2.1 ∈ kw_ws := kw_ws_in (List.mem_append_right _ (List.mem_of_getElem? (i := 239) (by decide +kernel))) rfl
theorem lkX7_48 : kw_lk RX7 48 7 6 := ⟨RX7, TX7, 11, rfl, by decide, inW7, rfl, kfX7_48⟩
theorem kfX7_55 : Cond.fieldLink RX7 55 RX7 (TX7 7).2.1 (TX7 7).2.2.1 ∈ kw_ws := kw_ws_in (List.mem_append_right _ (List.mem_of_getElem? (i := 240) (by decide +kernel))) rfl
theorem lkX7_55 : kw_lk RX7 55 7 7 := ⟨RX7, TX7, 11, rfl, by decide, inW7, rfl, kfX7_55⟩
theorem kfX7_59 : Cond.fieldLink RX7 59 RX7 (TX7 8).2.1 (TX7 8).2.2.1 ∈ kw_ws := kw_ws_in (List.mem_append_right _ (List.mem_of_getElem? (i := 241) (by decide +kernel))) rfl
theorem lkX7_59 : kw_lk RX7 59 7 8 := ⟨RX7, TX7, 11, rfl, by decide, inW7, rfl, kfX7_59⟩
theorem kfX7_63 : Cond.fieldLink RX7 63 RX7 (TX7 9).2.1 (TX7 9).2.2.1 ∈ kw_ws := kw_ws_in (List.mem_append_right _ (List.mem_of_getElem? (i := 242) (by decide +kernel))) rfl
theorem lkX7_63 : kw_lk RX7 63 7 9 := ⟨RX7, TX7, 11, rfl, by decide, inW7, rfl, kfX7_63⟩
theorem kfX7_66 : Cond.fieldLink RX7 66 RX7 (TX7 10).2.1 (TX7 10).2.2.1 ∈ kw_ws := kw_ws_in (List.mem_append_right _ (List.mem_of_getElem? (i := 243) (by decide +kernel))) rfl
theorem lkX7_66 : kw_lk RX7 66 7 10 := ⟨RX7, TX7, 11, rfl, by decide, inW7, rfl, kfX7_66⟩
theorem kxX7_360 : Cond.fieldLink RX7 360 "WashSails" "KIND_ABOVE" "[I" ∈ kw_ws := kw_ws_in (List.mem_append_right _ (List.mem_of_getElem? (i := 473) (by decide +kernel))) rfl
theorem kfX8_84 : Cond.fieldLink RX8 84 RX8 (TX8 0).2.1 (TX8 0).2.2.1 ∈ kw_ws := kw_ws_in (List.mem_append_right _ (List.mem_of_getElem? (i := 763) (by decide +kernel))) rfl
theorem lkX8_84 : kw_lk RX8 84 8 0 := ⟨RX8, TX8, 37, rfl, by decide, inW8, rfl, kfX8_84⟩
theorem lpX8_84 : kw_lkP RX8 84 8 0 .int := ⟨RX8, TX8, 37, tyX8, rfl, by decide, inW8, rfl, kfX8_84, tyX8_ok, nmX8, rfl, by decide +kernel⟩
theorem kfX8_7 : Cond.fieldLink RX8 7 RX8 (TX8 1).2.1 (TX8 1).2.2.1 ∈ kw_ws := kw_ws_in (List.mem_append_right _ (List.mem_of_getElem? (i := 764) (by decide +kernel))) rfl
theorem lkX8_7 : kw_lk RX8 7 8 1 := ⟨RX8, TX8, 37, rfl, by decide, inW8, rfl, kfX8_7⟩
theorem kfX8_87 : Cond.fieldLink RX8 87 RX8 (TX8 2).2.1 (TX8 2).2.2.1 ∈ kw_ws := kw_ws_in (List.mem_append_right _ (List.mem_of_getElem? (i := 765) (by decide +kernel))) rfl
theorem lkX8_87 : kw_lk RX8 87 8 2 := ⟨RX8, TX8, 37, rfl, by decide, inW8, rfl, kfX8_87⟩
theorem lpX8_87 : kw_lkP RX8 87 8 2 .int := ⟨RX8, TX8, 37, tyX8, rfl, by decide, inW8, rfl, kfX8_87, tyX8_ok, nmX8, rfl, by decide +kernel⟩
theorem kfX8_90 : Cond.fieldLink RX8 90 RX8 (TX8 3).2.1 (TX8 3).2.2.1 ∈ kw_ws := kw_ws_in (List.mem_append_right _ (List.mem_of_getElem? (i := 766) (by decide +kernel))) rfl
theorem lkX8_90 : kw_lk RX8 90 8 3 := ⟨RX8, TX8, 37, rfl, by decide, inW8, rfl, kfX8_90⟩
theorem lpX8_90 : kw_lkP RX8 90 8 3 .long := ⟨RX8, TX8, 37, tyX8, rfl, by decide, inW8, rfl, kfX8_90, tyX8_ok, nmX8, rfl, by decide +kernel⟩
theorem kfX8_13 : Cond.fieldLink RX8 13 RX8 (TX8 4).2.1 (TX8 4).2.2.1 ∈ kw_ws := kw_ws_in (List.mem_append_right _ (List.mem_of_getElem? (i := 767) (by decide +kernel))) rfl
theorem lkX8_13 : kw_lk RX8 13 8 4 := ⟨RX8, TX8, 37, rfl, by decide, inW8, rfl, kfX8_13⟩
theorem lpX8_13 : kw_lkP RX8 13 8 4 .long := ⟨RX8, TX8, 37, tyX8, rfl, by decide, inW8, rfl, kfX8_13, tyX8_ok, nmX8, rfl, by decide +kernel⟩
theorem kfX8_17 : Cond.fieldLink RX8 17 RX8 (TX8 5).2.1 (TX8 5).2.2.1 ∈ kw_ws := kw_ws_in (List.mem_append_right _ (List.mem_of_getElem? (i := 768) (by decide +kernel))) rfl
theorem lkX8_17 : kw_lk RX8 17 8 5 := ⟨RX8, TX8, 37, rfl, by decide, inW8, rfl, kfX8_17⟩
theorem kfX8_20 : Cond.fieldLink RX8 20 RX8 (TX8 6).2.1 (TX8 6).2.2.1 ∈ kw_ws := kw_ws_in (List.mem_append_right _ (List.mem_of_getElem? (i := 769) (by decide +kernel))) rfl
theorem lkX8_20 : kw_lk RX8 20 8 6 := ⟨RX8, TX8, 37, rfl, by decide, inW8, rfl, kfX8_20⟩
theorem kfX8_23 : Cond.fieldLink RX8 23 RX8 (TX8 7).2.1 (TX8 7).2.2.1 ∈ kw_ws := kw_ws_in (List.mem_append_right _ (List.mem_of_getElem? (i := 770) (by decide +kernel))) rfl
theorem lkX8_23 : kw_lk RX8 23 8 7 := ⟨RX8, TX8, 37, rfl, by decide, inW8, rfl, kfX8_23⟩
theorem kfX8_26 : Cond.fieldLink RX8 26 RX8 (TX8 8).2.1 (TX8 8).2.2.1 ∈ kw_ws := kw_ws_in (List.mem_append_right _ (List.mem_of_getElem? (i := 771) (by decide +kernel))) rfl
theorem lkX8_26 : kw_lk RX8 26 8 8 := ⟨RX8, TX8, 37, rfl, by decide, inW8, rfl, kfX8_26⟩
theorem kfX8_29 : Cond.fieldLink RX8 29 RX8 (TX8 9).2.1 (TX8 9).2.2.1 ∈ kw_ws := kw_ws_in (List.mem_append_right _ (List.mem_of_getElem? (i := 772) (by decide +kernel))) rfl
theorem lkX8_29 : kw_lk RX8 29 8 9 := ⟨RX8, TX8, 37, rfl, by decide, inW8, rfl, kfX8_29⟩
theorem kfX8_163 : Cond.fieldLink RX8 163 RX8 (TX8 10).2.1 (TX8 10).2.2.1 ∈ kw_ws := kw_ws_in (List.mem_append_right _ (List.mem_of_getElem? (i := 773) (by decide +kernel))) rfl
theorem lkX8_163 : kw_lk RX8 163 8 10 := ⟨RX8, TX8, 37, rfl, by decide, inW8, rfl, kfX8_163⟩
theorem lpX8_163 : kw_lkP RX8 163 8 10 .int := ⟨RX8, TX8, 37, tyX8, rfl, by decide, inW8, rfl, kfX8_163, tyX8_ok, nmX8, rfl, by decide +kernel⟩
theorem kfX8_32 : Cond.fieldLink RX8 32 RX8 (TX8 11).2.1 (TX8 11).2.2.1 ∈ kw_ws := kw_ws_in (List.mem_append_right _ (List.mem_of_getElem? (i := 774) (by decide +kernel))) rfl
theorem lkX8_32 : kw_lk RX8 32 8 11 := ⟨RX8, TX8, 37, rfl, by decide, inW8, rfl, kfX8_32⟩
theorem lpX8_32 : kw_lkP RX8 32 8 11 .int := ⟨RX8, TX8, 37, tyX8, rfl, by decide, inW8, rfl, kfX8_32, tyX8_ok, nmX8, rfl, by decide +kernel⟩
theorem kfX8_36 : Cond.fieldLink RX8 36 RX8 (TX8 12).2.1 (TX8 12).2.2.1 ∈ kw_ws := kw_ws_in (List.mem_append_right _ (List.mem_of_getElem? (i := 775) (by decide +kernel))) rfl
theorem lkX8_36 : kw_lk RX8 36 8 12 := ⟨RX8, TX8, 37, rfl, by decide, inW8, rfl, kfX8_36⟩
theorem kfX8_39 : Cond.fieldLink RX8 39 RX8 (TX8 13).2.1 (TX8 13).2.2.1 ∈ kw_ws := kw_ws_in (List.mem_append_right _ (List.mem_of_getElem? (i := 776) (by decide +kernel))) rfl
theorem lkX8_39 : kw_lk RX8 39 8 13 := ⟨RX8, TX8, 37, rfl, by decide, inW8, rfl, kfX8_39⟩
theorem kfX8_42 : Cond.fieldLink RX8 42 RX8 (TX8 14).2.1 (TX8 14).2.2.1 ∈ kw_ws := kw_ws_in (List.mem_append_right _ (List.mem_of_getElem? (i := 777) (by decide +kernel))) rfl
theorem lkX8_42 : kw_lk RX8 42 8 14 := ⟨RX8, TX8, 37, rfl, by decide, inW8, rfl, kfX8_42⟩
theorem kfX8_45 : Cond.fieldLink RX8 45 RX8 (TX8 15).2.1 (TX8 15).2.2.1 ∈ kw_ws := kw_ws_in (List.mem_append_right _ (List.mem_of_getElem? (i := 778) (by decide +kernel))) rfl
theorem lkX8_45 : kw_lk RX8 45 8 15 := ⟨RX8, TX8, 37, rfl, by decide, inW8, rfl, kfX8_45⟩
theorem kfX8_48 : Cond.fieldLink RX8 48 RX8 (TX8 16).2.1 (TX8 16).2.2.1 ∈ kw_ws := kw_ws_in (List.mem_append_right _ (List.mem_of_getElem? (i := 779) (by decide +kernel))) rfl
theorem lkX8_48 : kw_lk RX8 48 8 16 := ⟨RX8, TX8, 37, rfl, by decide, inW8, rfl, kfX8_48⟩
theorem kfX8_128 : Cond.fieldLink RX8 128 RX8 (TX8 17).2.1 (TX8 17).2.2.1 ∈ kw_ws := kw_ws_in (List.mem_append_right _ (List.mem_of_getElem? (i := 780) (by decide +kernel))) rfl
theorem lkX8_128 : kw_lk RX8 128 8 17 := ⟨RX8, TX8, 37, rfl, by decide, inW8, rfl, kfX8_128⟩
theorem lpX8_128 : kw_lkP RX8 128 8 17 .int := ⟨RX8, TX8, 37, tyX8, rfl, by decide, inW8, rfl, kfX8_128, tyX8_ok, nmX8, rfl, by decide +kernel⟩
theorem kfX8_138 : Cond.fieldLink RX8 138 RX8 (TX8 18).2.1 (TX8 18).2.2.1 ∈ kw_ws := kw_ws_in (List.mem_append_right _ (List.mem_of_getElem? (i := 781) (by decide +kernel))) rfl
theorem lkX8_138 : kw_lk RX8 138 8 18 := ⟨RX8, TX8, 37, rfl, by decide, inW8, rfl, kfX8_138⟩
theorem lpX8_138 : kw_lkP RX8 138 8 18 .int := ⟨RX8, TX8, 37, tyX8, rfl, by decide, inW8, rfl, kfX8_138, tyX8_ok, nmX8, rfl, by decide +kernel⟩
theorem kfX8_144 : Cond.fieldLink RX8 144 RX8 (TX8 19).2.1 (TX8 19).2.2.1 ∈ kw_ws := kw_ws_in (List.mem_append_right _ (List.mem_of_getElem? (i := 782) (by decide +kernel))) rfl
theorem lkX8_144 : kw_lk RX8 144 8 19 := ⟨RX8, TX8, 37, rfl, by decide, inW8, rfl, kfX8_144⟩
theorem lpX8_144 : kw_lkP RX8 144 8 19 .int := ⟨RX8, TX8, 37, tyX8, rfl, by decide, inW8, rfl, kfX8_144, tyX8_ok, nmX8, rfl, by decide +kernel⟩
theorem kfX8_51 : Cond.fieldLink RX8 51 RX8 (TX8 20).2.1 (TX8 20).2.2.1 ∈ kw_ws := kw_ws_in (List.mem_append_right _ (List.mem_of_getElem? (i := 783) (by decide +kernel))) rfl
theorem lkX8_51 : kw_lk RX8 51 8 20 := ⟨RX8, TX8, 37, rfl, by decide, inW8, rfl, kfX8_51⟩
theorem kfX8_54 : Cond.fieldLink RX8 54 RX8 (TX8 21).2.1 (TX8 21).2.2.1 ∈ kw_ws := kw_ws_in (List.mem_append_right _ (List.mem_of_getElem? (i := 784) (by decide +kernel))) rfl
theorem lkX8_54 : kw_lk RX8 54 8 21 := ⟨RX8, TX8, 37, rfl, by decide, inW8, rfl, kfX8_54⟩
theorem kfX8_166 : Cond.fieldLink RX8 166 RX8 (TX8 22).2.1 (TX8 22).2.2.1 ∈ kw_ws := kw_ws_in (List.mem_append_right _ (List.mem_of_getElem? (i := 785) (by decide +kernel))) rfl
theorem lkX8_166 : kw_lk RX8 166 8 22 := ⟨RX8, TX8, 37, rfl, by decide, inW8, rfl, kfX8_166⟩
theorem lpX8_166 : kw_lkP RX8 166 8 22 .int := ⟨RX8, TX8, 37, tyX8, rfl, by decide, inW8, rfl, kfX8_166, tyX8_ok, nmX8, rfl, by decide +kernel⟩
theorem kfX8_169 : Cond.fieldLink RX8 169 RX8 (TX8 23).2.1 (TX8 23).2.2.1 ∈ kw_ws := kw_ws_in (List.mem_append_right _ (List.mem_of_getElem? (i := 786) (by decide +kernel))) rfl
theorem lkX8_169 : kw_lk RX8 169 8 23 := ⟨RX8, TX8, 37, rfl, by decide, inW8, rfl, kfX8_169⟩
theorem lpX8_169 : kw_lkP RX8 169 8 23 .int := ⟨RX8, TX8, 37, tyX8, rfl, by decide, inW8, rfl, kfX8_169, tyX8_ok, nmX8, rfl, by decide +kernel⟩
theorem kfX8_172 : Cond.fieldLink RX8 172 RX8 (TX8 24).2.1 (TX8 24).2.2.1 ∈ kw_ws := kw_ws_in (List.mem_append_right _ (List.mem_of_getElem? (i := 787) (by decide +kernel))) rfl
theorem lkX8_172 : kw_lk RX8 172 8 24 := ⟨RX8, TX8, 37, rfl, by decide, inW8, rfl, kfX8_172⟩
theorem lpX8_172 : kw_lkP RX8 172 8 24 .int := ⟨RX8, TX8, 37, tyX8, rfl, by decide, inW8, rfl, kfX8_172, tyX8_ok, nmX8, rfl, by decide +kernel⟩
theorem kfX8_175 : Cond.fieldLink RX8 175 RX8 (TX8 25).2.1 (TX8 25).2.2.1 ∈ kw_ws := kw_ws_in (List.mem_append_right _ (List.mem_of_getElem? (i := 788) (by decide +kernel))) rfl
theorem lkX8_175 : kw_lk RX8 175 8 25 := ⟨RX8, TX8, 37, rfl, by decide, inW8, rfl, kfX8_175⟩
theorem lpX8_175 : kw_lkP RX8 175 8 25 .int := ⟨RX8, TX8, 37, tyX8, rfl, by decide, inW8, rfl, kfX8_175, tyX8_ok, nmX8, rfl, by decide +kernel⟩
theorem kfX8_57 : Cond.fieldLink RX8 57 RX8 (TX8 26).2.1 (TX8 26).2.2.1 ∈ kw_ws := kw_ws_in (List.mem_append_right _ (List.mem_of_getElem? (i := 789) (by decide +kernel))) rfl
theorem lkX8_57 : kw_lk RX8 57 8 26 := ⟨RX8, TX8, 37, rfl, by decide, inW8, rfl, kfX8_57⟩
theorem kfX8_178 : Cond.fieldLink RX8 178 RX8 (TX8 27).2.1 (TX8 27).2.2.1 ∈ kw_ws := kw_ws_in (List.mem_append_right _ (List.mem_of_getElem? (i := 790) (by decide +kernel))) rfl
theorem lkX8_178 : kw_lk RX8 178 8 27 := ⟨RX8, TX8, 37, rfl, by decide, inW8, rfl, kfX8_178⟩
theorem lpX8_178 : kw_lkP RX8 178 8 27 .int := ⟨RX8, TX8, 37, tyX8, rfl, by decide, inW8, rfl, kfX8_178, tyX8_ok, nmX8, rfl, by decide +kernel⟩
theorem kfX8_60 : Cond.fieldLink RX8 60 RX8 (TX8 28).2.1 (TX8 28).2.2.1 ∈ kw_ws := kw_ws_in (List.mem_append_right _ (List.mem_of_getElem? (i := 791) (by decide +kernel))) rfl
theorem lkX8_60 : kw_lk RX8 60 8 28 := ⟨RX8, TX8, 37, rfl, by decide, inW8, rfl, kfX8_60⟩
theorem kfX8_63 : Cond.fieldLink RX8 63 RX8 (TX8 29).2.1 (TX8 29).2.2.1 ∈ kw_ws := kw_ws_in (List.mem_append_right _ (List.mem_of_getElem? (i := 792) (by decide +kernel))) rfl
theorem lkX8_63 : kw_lk RX8 63 8 29 := ⟨RX8, TX8, 37, rfl, by decide, inW8, rfl, kfX8_63⟩
theorem kfX8_66 : Cond.fieldLink RX8 66 RX8 (TX8 30).2.1 (TX8 30).2.2.1 ∈ kw_ws := kw_ws_in (List.mem_append_right _ (List.mem_of_getElem? (i := 793) (by decide +kernel))) rfl
theorem lkX8_66 : kw_lk RX8 66 8 30 := ⟨RX8, TX8, 37, rfl, by decide, inW8, rfl, kfX8_66⟩
theorem kfX8_69 : Cond.fieldLink RX8 69 RX8 (TX8 31).2.1 (TX8 31).2.2.1 ∈ kw_ws := kw_ws_in (List.mem_append_right _ (List.mem_of_getElem? (i := 794) (by decide +kernel))) rfl
theorem lkX8_69 : kw_lk RX8 69 8 31 := ⟨RX8, TX8, 37, rfl, by decide, inW8, rfl, kfX8_69⟩
theorem kfX8_72 : Cond.fieldLink RX8 72 RX8 (TX8 32).2.1 (TX8 32).2.2.1 ∈ kw_ws := kw_ws_in (List.mem_append_right _ (List.mem_of_getElem? (i := 795) (by decide +kernel))) rfl
theorem lkX8_72 : kw_lk RX8 72 8 32 := ⟨RX8, TX8, 37, rfl, by decide, inW8, rfl, kfX8_72⟩
theorem kfX8_75 : Cond.fieldLink RX8 75 RX8 (TX8 33).2.1 (TX8 33).2.2.1 ∈ kw_ws := kw_ws_in (List.mem_append_right _ (List.mem_of_getElem? (i := 796) (by decide +kernel))) rfl
theorem lkX8_75 : kw_lk RX8 75 8 33 := ⟨RX8, TX8, 37, rfl, by decide, inW8, rfl, kfX8_75⟩
theorem kfX8_78 : Cond.fieldLink RX8 78 RX8 (TX8 34).2.1 (TX8 34).2.2.1 ∈ kw_ws := kw_ws_in (List.mem_append_right _ (List.mem_of_getElem? (i := 797) (by decide +kernel))) rfl
theorem lkX8_78 : kw_lk RX8 78 8 34 := ⟨RX8, TX8, 37, rfl, by decide, inW8, rfl, kfX8_78⟩
theorem kfX8_81 : Cond.fieldLink RX8 81 RX8 (TX8 35).2.1 (TX8 35).2.2.1 ∈ kw_ws := kw_ws_in (List.mem_append_right _ (List.mem_of_getElem? (i := 798) (by decide +kernel))) rfl
theorem lkX8_81 : kw_lk RX8 81 8 35 := ⟨RX8, TX8, 37, rfl, by decide, inW8, rfl, kfX8_81⟩
theorem kfX8_306 : Cond.fieldLink RX8 306 RX8 (TX8 36).2.1 (TX8 36).2.2.1 ∈ kw_ws := kw_ws_in (List.mem_append_right _ (List.mem_of_getElem? (i := 799) (by decide +kernel))) rfl
theorem lkX8_306 : kw_lk RX8 306 8 36 := ⟨RX8, TX8, 37, rfl, by decide, inW8, rfl, kfX8_306⟩
theorem lpX8_306 : kw_lkP RX8 306 8 36 .long := ⟨RX8, TX8, 37, tyX8, rfl, by decide, inW8, rfl, kfX8_306, tyX8_ok, nmX8, rfl, by decide +kernel⟩
theorem kmX3_24 : Cond.methodLink RX3 24 yJ7_fill_53178 ∈ kw_ws := kw_ws_in (List.mem_append_right _ (List.mem_of_getElem? (i := 30) (by decide +kernel))) rfl
theorem lsX3_24 : kw_lkS RX3 24 mJ7_fill_53178 := ⟨kmX3_24, wTJ7_fill_53178, wNJ7, wCJ7_fill_53178, by decide, by decide, by decide⟩
theorem kmL_13 : Cond.methodLink RL 13 yX7_row ∈ kw_ws := kw_ws_in (List.mem_append_right _ (List.mem_of_getElem? (i := 267) (by decide +kernel))) rfl
theorem lvL_13 : kw_lkV RL 13 7 mX7_row := ⟨⟨TX7, 11, rfl⟩, kmL_13, wIX7_row, wVX7_row, wNX7, wCX7_row, by decide, by decide, by decide⟩
theorem kmX7_69 : Cond.methodLink RX7 69 yX7_makeOn ∈ kw_ws := kw_ws_in (List.mem_append_right _ (List.mem_of_getElem? (i := 271) (by decide +kernel))) rfl
theorem lvX7_69 : kw_lkV RX7 69 7 mX7_makeOn := ⟨⟨TX7, 11, rfl⟩, kmX7_69, wIX7_makeOn, wVX7_makeOn, wNX7, wCX7_makeOn, by decide, by decide, by decide⟩
theorem kmX7_73 : Cond.methodLink RX7 73 yX3_has ∈ kw_ws := kw_ws_in (List.mem_append_right _ (List.mem_of_getElem? (i := 275) (by decide +kernel))) rfl
theorem lvX7_73 : kw_lkV RX7 73 3 mX3_has := ⟨⟨TX3, 3, rfl⟩, kmX7_73, wIX3_has, wVX3_has, wNX3, wCX3_has, by decide, by decide, by decide⟩
theorem kmX7_81 : Cond.methodLink RX7 81 yX4_refuse ∈ kw_ws := kw_ws_in (List.mem_append_right _ (List.mem_of_getElem? (i := 279) (by decide +kernel))) rfl
theorem lvX7_81 : kw_lkV RX7 81 4 mX4_refuse := ⟨⟨TX4, 5, rfl⟩, kmX7_81, wIX4_refuse, wVX4_refuse, wNX4, wCX4_refuse, by decide, by decide, by decide⟩
theorem kmX7_210 : Cond.methodLink RX7 210 yX3_make ∈ kw_ws := kw_ws_in (List.mem_append_right _ (List.mem_of_getElem? (i := 283) (by decide +kernel))) rfl
theorem lvX7_210 : kw_lkV RX7 210 3 mX3_make := ⟨⟨TX3, 3, rfl⟩, kmX7_210, wIX3_make, wVX3_make, wNX3, wCX3_make, by decide, by decide, by decide⟩
theorem kmX3_34 : Cond.methodLink RX3 34 yX3_has ∈ kw_ws := kw_ws_in (List.mem_append_right _ (List.mem_of_getElem? (i := 287) (by decide +kernel))) rfl
theorem lvX3_34 : kw_lkV RX3 34 3 mX3_has := ⟨⟨TX3, 3, rfl⟩, kmX3_34, wIX3_has, wVX3_has, wNX3, wCX3_has, by decide, by decide, by decide⟩
theorem kmL_18 : Cond.methodLink RL 18 yX7_lay ∈ kw_ws := kw_ws_in (List.mem_append_right _ (List.mem_of_getElem? (i := 288) (by decide +kernel))) rfl
theorem lvL_18 : kw_lkV RL 18 7 mX7_lay := ⟨⟨TX7, 11, rfl⟩, kmL_18, wIX7_lay, wVX7_lay, wNX7, wCX7_lay, by decide, by decide, by decide⟩
theorem kmX7_77 : Cond.methodLink RX7 77 yX3_findingAt ∈ kw_ws := kw_ws_in (List.mem_append_right _ (List.mem_of_getElem? (i := 292) (by decide +kernel))) rfl
theorem lvX7_77 : kw_lkV RX7 77 3 mX3_findingAt := ⟨⟨TX3, 3, rfl⟩, kmX7_77, wIX3_findingAt, wVX3_findingAt, wNX3, wCX3_findingAt, by decide, by decide, by decide⟩
theorem kmX3_38 : Cond.methodLink RX3 38 yX3_isMissing ∈ kw_ws := kw_ws_in (List.mem_append_right _ (List.mem_of_getElem? (i := 296) (by decide +kernel))) rfl
theorem lvX3_38 : kw_lkV RX3 38 3 mX3_isMissing := ⟨⟨TX3, 3, rfl⟩, kmX3_38, wIX3_isMissing, wVX3_isMissing, wNX3, wCX3_isMissing, by decide, by decide, by decide⟩
theorem kmX3_30 : Cond.methodLink RX3 30 yX3_sizeOf ∈ kw_ws := kw_ws_in (List.mem_append_right _ (List.mem_of_getElem? (i := 300) (by decide +kernel))) rfl
theorem lvX3_30 : kw_lkV RX3 30 3 mX3_sizeOf := ⟨⟨TX3, 3, rfl⟩, kmX3_30, wIX3_sizeOf, wVX3_sizeOf, wNX3, wCX3_sizeOf, by decide, by decide, by decide⟩
theorem kmX3_41 : Cond.methodLink RX3 41 yX3_hasPlaces ∈ kw_ws := kw_ws_in (List.mem_append_right _ (List.mem_of_getElem? (i := 304) (by decide +kernel))) rfl
theorem lvX3_41 : kw_lkV RX3 41 3 mX3_hasPlaces := ⟨⟨TX3, 3, rfl⟩, kmX3_41, wIX3_hasPlaces, wVX3_hasPlaces, wNX3, wCX3_hasPlaces, by decide, by decide, by decide⟩
theorem kmX7_85 : Cond.methodLink RX7 85 yX3_valueAt ∈ kw_ws := kw_ws_in (List.mem_append_right _ (List.mem_of_getElem? (i := 308) (by decide +kernel))) rfl
theorem lvX7_85 : kw_lkV RX7 85 3 mX3_valueAt := ⟨⟨TX3, 3, rfl⟩, kmX7_85, wIX3_valueAt, wVX3_valueAt, wNX3, wCX3_valueAt, by decide, by decide, by decide⟩
theorem kmX7_88 : Cond.methodLink RX7 88 yX3_change ∈ kw_ws := kw_ws_in (List.mem_append_right _ (List.mem_of_getElem? (i := 312) (by decide +kernel))) rfl
theorem lvX7_88 : kw_lkV RX7 88 3 mX3_change := ⟨⟨TX3, 3, rfl⟩, kmX7_88, wIX3_change, wVX3_change, wNX3, wCX3_change, by decide, by decide, by decide⟩
theorem kmX7_92 : Cond.methodLink RX7 92 yX4_answer ∈ kw_ws := kw_ws_in (List.mem_append_right _ (List.mem_of_getElem? (i := 316) (by decide +kernel))) rfl
theorem lvX7_92 : kw_lkV RX7 92 4 mX4_answer := ⟨⟨TX4, 5, rfl⟩, kmX7_92, wIX4_answer, wVX4_answer, wNX4, wCX4_answer, by decide, by decide, by decide⟩
theorem kmL_23 : Cond.methodLink RL 23 yX7_at ∈ kw_ws := kw_ws_in (List.mem_append_right _ (List.mem_of_getElem? (i := 320) (by decide +kernel))) rfl
end
section
theorem lvL_23 : kw_lkV RL 23 7 mX7_at := ⟨⟨TX7, 11, rfl⟩, kmL_23, wIX7_at, wVX7_at, wNX7, wCX7_at, by decide, by decide, by decide⟩
theorem kmL_27 : Cond.methodLink RL 27 yX7_tear ∈ kw_ws := kw_ws_in (List.mem_append_right _ (List.mem_of_getElem? (i := 324) (by decide +kernel))) rfl
theorem lvL_27 : kw_lkV RL 27 7 mX7_tear := ⟨⟨TX7, 11, rfl⟩, kmL_27, wIX7_tear, wVX7_tear, wNX7, wCX7_tear, by decide, by decide, by decide⟩
theorem kmX7_95 : Cond.methodLink RX7 95 yX3_isMissing ∈ kw_ws := kw_ws_in (List.mem_append_right _ (List.mem_of_getElem? (i := 328) (by decide +kernel))) rfl
theorem lvX7_95 : kw_lkV RX7 95 3 mX3_isMissing := ⟨⟨TX3, 3, rfl⟩, kmX7_95, wIX3_isMissing, wVX3_isMissing, wNX3, wCX3_isMissing, by decide, by decide, by decide⟩
theorem kmX7_98 : Cond.methodLink RX7 98 yX3_drop ∈ kw_ws := kw_ws_in (List.mem_append_right _ (List.mem_of_getElem? (i := 329) (by decide +kernel))) rfl
theorem lvX7_98 : kw_lkV RX7 98 3 mX3_drop := ⟨⟨TX3, 3, rfl⟩, kmX7_98, wIX3_drop, wVX3_drop, wNX3, wCX3_drop, by decide, by decide, by decide⟩
theorem kmL_32 : Cond.methodLink RL 32 yX7_copy ∈ kw_ws := kw_ws_in (List.mem_append_right _ (List.mem_of_getElem? (i := 333) (by decide +kernel))) rfl
theorem lvL_32 : kw_lkV RL 32 7 mX7_copy := ⟨⟨TX7, 11, rfl⟩, kmL_32, wIX7_copy, wVX7_copy, wNX7, wCX7_copy, by decide, by decide, by decide⟩
theorem kmX7_102 : Cond.methodLink RX7 102 yX3_hasPlaces ∈ kw_ws := kw_ws_in (List.mem_append_right _ (List.mem_of_getElem? (i := 337) (by decide +kernel))) rfl
theorem lvX7_102 : kw_lkV RX7 102 3 mX3_hasPlaces := ⟨⟨TX3, 3, rfl⟩, kmX7_102, wIX3_hasPlaces, wVX3_hasPlaces, wNX3, wCX3_hasPlaces, by decide, by decide, by decide⟩
theorem kmX7_106 : Cond.methodLink RX7 106 yX3_move ∈ kw_ws := kw_ws_in (List.mem_append_right _ (List.mem_of_getElem? (i := 338) (by decide +kernel))) rfl
theorem lvX7_106 : kw_lkV RX7 106 3 mX3_move := ⟨⟨TX3, 3, rfl⟩, kmX7_106, wIX3_move, wVX3_move, wNX3, wCX3_move, by decide, by decide, by decide⟩
theorem wA_native : Cond.native arraycopyName ∈ kw_ws := kw_ws_in (List.mem_append_right _ (List.mem_of_getElem? (i := 344) (by decide +kernel))) rfl
theorem wA_static : Cond.static arraycopyName ∈ kw_ws := kw_ws_in (List.mem_append_right _ (List.mem_of_getElem? (i := 343) (by decide +kernel))) rfl
theorem kmX3_45 : Cond.methodLink RX3 45 arraycopyName ∈ kw_ws := kw_ws_in (List.mem_append_right _ (List.mem_of_getElem? (i := 342) (by decide +kernel))) rfl
theorem laX3_45 : kw_lkA RX3 45 := ⟨kmX3_45, wA_native, wA_static, wNJ10⟩
theorem kmL_37 : Cond.methodLink RL 37 yX7_mean ∈ kw_ws := kw_ws_in (List.mem_append_right _ (List.mem_of_getElem? (i := 345) (by decide +kernel))) rfl
theorem lvL_37 : kw_lkV RL 37 7 mX7_mean := ⟨⟨TX7, 11, rfl⟩, kmL_37, wIX7_mean, wVX7_mean, wNX7, wCX7_mean, by decide, by decide, by decide⟩
theorem kmX7_110 : Cond.methodLink RX7 110 yX3_sizeOf ∈ kw_ws := kw_ws_in (List.mem_append_right _ (List.mem_of_getElem? (i := 349) (by decide +kernel))) rfl
theorem lvX7_110 : kw_lkV RX7 110 3 mX3_sizeOf := ⟨⟨TX3, 3, rfl⟩, kmX7_110, wIX3_sizeOf, wVX3_sizeOf, wNX3, wCX3_sizeOf, by decide, by decide, by decide⟩
theorem kmL_41 : Cond.methodLink RL 41 yX7_text ∈ kw_ws := kw_ws_in (List.mem_append_right _ (List.mem_of_getElem? (i := 350) (by decide +kernel))) rfl
theorem lvL_41 : kw_lkV RL 41 7 mX7_text := ⟨⟨TX7, 11, rfl⟩, kmL_41, wIX7_text, wVX7_text, wNX7, wCX7_text, by decide, by decide, by decide⟩
theorem kmL_45 : Cond.methodLink RL 45 yX7_put ∈ kw_ws := kw_ws_in (List.mem_append_right _ (List.mem_of_getElem? (i := 354) (by decide +kernel))) rfl
theorem lvL_45 : kw_lkV RL 45 7 mX7_put := ⟨⟨TX7, 11, rfl⟩, kmL_45, wIX7_put, wVX7_put, wNX7, wCX7_put, by decide, by decide, by decide⟩
theorem kmL_49 : Cond.methodLink RL 49 yX7_fault ∈ kw_ws := kw_ws_in (List.mem_append_right _ (List.mem_of_getElem? (i := 358) (by decide +kernel))) rfl
theorem lvL_49 : kw_lkV RL 49 7 mX7_fault := ⟨⟨TX7, 11, rfl⟩, kmL_49, wIX7_fault, wVX7_fault, wNX7, wCX7_fault, by decide, by decide, by decide⟩
theorem kmX7_113 : Cond.methodLink RX7 113 yX2_faultOf ∈ kw_ws := kw_ws_in (List.mem_append_right _ (List.mem_of_getElem? (i := 362) (by decide +kernel))) rfl
theorem lvX7_113 : kw_lkV RX7 113 2 mX2_faultOf := ⟨⟨TX2, 2, rfl⟩, kmX7_113, wIX2_faultOf, wVX2_faultOf, wNX2, wCX2_faultOf, by decide, by decide, by decide⟩
theorem kmX2_28 : Cond.methodLink RX2 28 yX2_skipBlanks ∈ kw_ws := kw_ws_in (List.mem_append_right _ (List.mem_of_getElem? (i := 366) (by decide +kernel))) rfl
theorem lvX2_28 : kw_lkV RX2 28 2 mX2_skipBlanks := ⟨⟨TX2, 2, rfl⟩, kmX2_28, wIX2_skipBlanks, wVX2_skipBlanks, wNX2, wCX2_skipBlanks, by decide, by decide, by decide⟩
theorem kmX2_32 : Cond.methodLink RX2 32 yX3_valueAt ∈ kw_ws := kw_ws_in (List.mem_append_right _ (List.mem_of_getElem? (i := 370) (by decide +kernel))) rfl
theorem lvX2_32 : kw_lkV RX2 32 3 mX3_valueAt := ⟨⟨TX3, 3, rfl⟩, kmX2_32, wIX3_valueAt, wVX3_valueAt, wNX3, wCX3_valueAt, by decide, by decide, by decide⟩
theorem kmX2_38 : Cond.methodLink RX2 38 yX2_readWinds ∈ kw_ws := kw_ws_in (List.mem_append_right _ (List.mem_of_getElem? (i := 371) (by decide +kernel))) rfl
theorem lvX2_38 : kw_lkV RX2 38 2 mX2_readWinds := ⟨⟨TX2, 2, rfl⟩, kmX2_38, wIX2_readWinds, wVX2_readWinds, wNX2, wCX2_readWinds, by decide, by decide, by decide⟩
theorem kmX2_41 : Cond.methodLink RX2 41 yX3_sizeOf ∈ kw_ws := kw_ws_in (List.mem_append_right _ (List.mem_of_getElem? (i := 375) (by decide +kernel))) rfl
theorem lvX2_41 : kw_lkV RX2 41 3 mX3_sizeOf := ⟨⟨TX3, 3, rfl⟩, kmX2_41, wIX3_sizeOf, wVX3_sizeOf, wNX3, wCX3_sizeOf, by decide, by decide, by decide⟩
theorem kmX2_45 : Cond.methodLink RX2 45 yX2_readLine ∈ kw_ws := kw_ws_in (List.mem_append_right _ (List.mem_of_getElem? (i := 376) (by decide +kernel))) rfl
theorem lvX2_45 : kw_lkV RX2 45 2 mX2_readLine := ⟨⟨TX2, 2, rfl⟩, kmX2_45, wIX2_readLine, wVX2_readLine, wNX2, wCX2_readLine, by decide, by decide, by decide⟩
theorem kmX2_53 : Cond.methodLink RX2 53 yX2_kindOf ∈ kw_ws := kw_ws_in (List.mem_append_right _ (List.mem_of_getElem? (i := 380) (by decide +kernel))) rfl
theorem lsX2_53 : kw_lkS RX2 53 mX2_kindOf := ⟨kmX2_53, wTX2_kindOf, wNX2, wCX2_kindOf, by decide, by decide, by decide⟩
theorem kmX2_62 : Cond.methodLink RX2 62 yX2_readFigure ∈ kw_ws := kw_ws_in (List.mem_append_right _ (List.mem_of_getElem? (i := 385) (by decide +kernel))) rfl
theorem lvX2_62 : kw_lkV RX2 62 2 mX2_readFigure := ⟨⟨TX2, 2, rfl⟩, kmX2_62, wIX2_readFigure, wVX2_readFigure, wNX2, wCX2_readFigure, by decide, by decide, by decide⟩
theorem kmL_53 : Cond.methodLink RL 53 yX7_town ∈ kw_ws := kw_ws_in (List.mem_append_right _ (List.mem_of_getElem? (i := 389) (by decide +kernel))) rfl
theorem lvL_53 : kw_lkV RL 53 7 mX7_town := ⟨⟨TX7, 11, rfl⟩, kmL_53, wIX7_town, wVX7_town, wNX7, wCX7_town, by decide, by decide, by decide⟩
theorem kmX7_124 : Cond.methodLink RX7 124 yX1_copyFrom ∈ kw_ws := kw_ws_in (List.mem_append_right _ (List.mem_of_getElem? (i := 393) (by decide +kernel))) rfl
theorem lvX7_124 : kw_lkV RX7 124 1 mX1_copyFrom := ⟨⟨TX1, 7, rfl⟩, kmX7_124, wIX1_copyFrom, wVX1_copyFrom, wNX1, wCX1_copyFrom, by decide, by decide, by decide⟩
theorem kmX1_27 : Cond.methodLink RX1 27 arraycopyName ∈ kw_ws := kw_ws_in (List.mem_append_right _ (List.mem_of_getElem? (i := 397) (by decide +kernel))) rfl
theorem laX1_27 : kw_lkA RX1 27 := ⟨kmX1_27, wA_native, wA_static, wNJ10⟩
theorem kmX7_130 : Cond.methodLink RX7 130 yX5_replay ∈ kw_ws := kw_ws_in (List.mem_append_right _ (List.mem_of_getElem? (i := 398) (by decide +kernel))) rfl
theorem lvX7_130 : kw_lkV RX7 130 5 mX5_replay := ⟨⟨TX5, 8, rfl⟩, kmX7_130, wIX5_replay, wVX5_replay, wNX5, wCX5_replay, by decide, by decide, by decide⟩
theorem kmX5_94 : Cond.methodLink RX5 94 yJ7_fill_53178 ∈ kw_ws := kw_ws_in (List.mem_append_right _ (List.mem_of_getElem? (i := 402) (by decide +kernel))) rfl
theorem lsX5_94 : kw_lkS RX5 94 mJ7_fill_53178 := ⟨kmX5_94, wTJ7_fill_53178, wNJ7, wCJ7_fill_53178, by decide, by decide, by decide⟩
theorem kmX5_100 : Cond.methodLink RX5 100 yX5_act ∈ kw_ws := kw_ws_in (List.mem_append_right _ (List.mem_of_getElem? (i := 403) (by decide +kernel))) rfl
theorem lvX5_100 : kw_lkV RX5 100 5 mX5_act := ⟨⟨TX5, 8, rfl⟩, kmX5_100, wIX5_act, wVX5_act, wNX5, wCX5_act, by decide, by decide, by decide⟩
theorem kmX5_72 : Cond.methodLink RX5 72 yX5_hasRoomFor ∈ kw_ws := kw_ws_in (List.mem_append_right _ (List.mem_of_getElem? (i := 407) (by decide +kernel))) rfl
theorem lvX5_72 : kw_lkV RX5 72 5 mX5_hasRoomFor := ⟨⟨TX5, 8, rfl⟩, kmX5_72, wIX5_hasRoomFor, wVX5_hasRoomFor, wNX5, wCX5_hasRoomFor, by decide, by decide, by decide⟩
theorem kmX5_75 : Cond.methodLink RX5 75 yX5_passHour ∈ kw_ws := kw_ws_in (List.mem_append_right _ (List.mem_of_getElem? (i := 411) (by decide +kernel))) rfl
theorem lvX5_75 : kw_lkV RX5 75 5 mX5_passHour := ⟨⟨TX5, 8, rfl⟩, kmX5_75, wIX5_passHour, wVX5_passHour, wNX5, wCX5_passHour, by decide, by decide, by decide⟩
theorem kmX5_64 : Cond.methodLink RX5 64 yX5_windNow ∈ kw_ws := kw_ws_in (List.mem_append_right _ (List.mem_of_getElem? (i := 415) (by decide +kernel))) rfl
theorem lvX5_64 : kw_lkV RX5 64 5 mX5_windNow := ⟨⟨TX5, 8, rfl⟩, kmX5_64, wIX5_windNow, wVX5_windNow, wNX5, wCX5_windNow, by decide, by decide, by decide⟩
theorem kmX5_38 : Cond.methodLink RX5 38 yX1_windAt ∈ kw_ws := kw_ws_in (List.mem_append_right _ (List.mem_of_getElem? (i := 419) (by decide +kernel))) rfl
theorem lvX5_38 : kw_lkV RX5 38 1 mX1_windAt := ⟨⟨TX1, 7, rfl⟩, kmX5_38, wIX1_windAt, wVX1_windAt, wNX1, wCX1_windAt, by decide, by decide, by decide⟩
theorem kmX5_81 : Cond.methodLink RX5 81 yX1_milesOf ∈ kw_ws := kw_ws_in (List.mem_append_right _ (List.mem_of_getElem? (i := 423) (by decide +kernel))) rfl
theorem lvX5_81 : kw_lkV RX5 81 1 mX1_milesOf := ⟨⟨TX1, 7, rfl⟩, kmX5_81, wIX1_milesOf, wVX1_milesOf, wNX1, wCX1_milesOf, by decide, by decide, by decide⟩
theorem kmX1_52 : Cond.methodLink RX1 52 yX1_pullOf ∈ kw_ws := kw_ws_in (List.mem_append_right _ (List.mem_of_getElem? (i := 427) (by decide +kernel))) rfl
theorem lvX1_52 : kw_lkV RX1 52 1 mX1_pullOf := ⟨⟨TX1, 7, rfl⟩, kmX1_52, wIX1_pullOf, wVX1_pullOf, wNX1, wCX1_pullOf, by decide, by decide, by decide⟩
theorem kmX1_44 : Cond.methodLink RX1 44 yX1_hasLine ∈ kw_ws := kw_ws_in (List.mem_append_right _ (List.mem_of_getElem? (i := 431) (by decide +kernel))) rfl
theorem lvX1_44 : kw_lkV RX1 44 1 mX1_hasLine := ⟨⟨TX1, 7, rfl⟩, kmX1_44, wIX1_hasLine, wVX1_hasLine, wNX1, wCX1_hasLine, by decide, by decide, by decide⟩
theorem kmX5_87 : Cond.methodLink RX5 87 yX1_turnOf ∈ kw_ws := kw_ws_in (List.mem_append_right _ (List.mem_of_getElem? (i := 438) (by decide +kernel))) rfl
theorem lvX5_87 : kw_lkV RX5 87 1 mX1_turnOf := ⟨⟨TX1, 7, rfl⟩, kmX5_87, wIX1_turnOf, wVX1_turnOf, wNX1, wCX1_turnOf, by decide, by decide, by decide⟩
theorem kmX7_352 : Cond.methodLink RX7 352 yJ9_max_7cf53 ∈ kw_ws := kw_ws_in (List.mem_append_right _ (List.mem_of_getElem? (i := 445) (by decide +kernel))) rfl
theorem lsX7_352 : kw_lkS RX7 352 mJ9_max_7cf53 := ⟨kmX7_352, wTJ9_max_7cf53, wNJ9, wCJ9_max_7cf53, by decide, by decide, by decide⟩
theorem kmX7_357 : Cond.methodLink RX7 357 yJ9_min_7cf53 ∈ kw_ws := kw_ws_in (List.mem_append_right _ (List.mem_of_getElem? (i := 448) (by decide +kernel))) rfl
theorem lsX7_357 : kw_lkS RX7 357 mJ9_min_7cf53 := ⟨kmX7_357, wTJ9_min_7cf53, wNJ9, wCJ9_min_7cf53, by decide, by decide, by decide⟩
theorem kmL_57 : Cond.methodLink RL 57 yX7_line ∈ kw_ws := kw_ws_in (List.mem_append_right _ (List.mem_of_getElem? (i := 451) (by decide +kernel))) rfl
theorem lvL_57 : kw_lkV RL 57 7 mX7_line := ⟨⟨TX7, 11, rfl⟩, kmL_57, wIX7_line, wVX7_line, wNX7, wCX7_line, by decide, by decide, by decide⟩
theorem kmX7_137 : Cond.methodLink RX7 137 yX1_hasLine ∈ kw_ws := kw_ws_in (List.mem_append_right _ (List.mem_of_getElem? (i := 455) (by decide +kernel))) rfl
theorem lvX7_137 : kw_lkV RX7 137 1 mX1_hasLine := ⟨⟨TX1, 7, rfl⟩, kmX7_137, wIX1_hasLine, wVX1_hasLine, wNX1, wCX1_hasLine, by decide, by decide, by decide⟩
theorem kmX7_140 : Cond.methodLink RX7 140 yX5_trait ∈ kw_ws := kw_ws_in (List.mem_append_right _ (List.mem_of_getElem? (i := 456) (by decide +kernel))) rfl
theorem lvX7_140 : kw_lkV RX7 140 5 mX5_trait := ⟨⟨TX5, 8, rfl⟩, kmX7_140, wIX5_trait, wVX5_trait, wNX5, wCX5_trait, by decide, by decide, by decide⟩
theorem kmX5_45 : Cond.methodLink RX5 45 yX1_hasLine ∈ kw_ws := kw_ws_in (List.mem_append_right _ (List.mem_of_getElem? (i := 460) (by decide +kernel))) rfl
theorem lvX5_45 : kw_lkV RX5 45 1 mX1_hasLine := ⟨⟨TX1, 7, rfl⟩, kmX5_45, wIX1_hasLine, wVX1_hasLine, wNX1, wCX1_hasLine, by decide, by decide, by decide⟩
theorem kmX5_61 : Cond.methodLink RX5 61 yX5_isHung ∈ kw_ws := kw_ws_in (List.mem_append_right _ (List.mem_of_getElem? (i := 461) (by decide +kernel))) rfl
theorem lvX5_61 : kw_lkV RX5 61 5 mX5_isHung := ⟨⟨TX5, 8, rfl⟩, kmX5_61, wIX5_isHung, wVX5_isHung, wNX5, wCX5_isHung, by decide, by decide, by decide⟩
theorem kmX5_68 : Cond.methodLink RX5 68 yX1_pullOf ∈ kw_ws := kw_ws_in (List.mem_append_right _ (List.mem_of_getElem? (i := 465) (by decide +kernel))) rfl
theorem lvX5_68 : kw_lkV RX5 68 1 mX1_pullOf := ⟨⟨TX1, 7, rfl⟩, kmX5_68, wIX1_pullOf, wVX1_pullOf, wNX1, wCX1_pullOf, by decide, by decide, by decide⟩
theorem kmL_61 : Cond.methodLink RL 61 yX7_mark ∈ kw_ws := kw_ws_in (List.mem_append_right _ (List.mem_of_getElem? (i := 466) (by decide +kernel))) rfl
theorem lvL_61 : kw_lkV RL 61 7 mX7_mark := ⟨⟨TX7, 11, rfl⟩, kmL_61, wIX7_mark, wVX7_mark, wNX7, wCX7_mark, by decide, by decide, by decide⟩
theorem kmX7_146 : Cond.methodLink RX7 146 yX7_isA ∈ kw_ws := kw_ws_in (List.mem_append_right _ (List.mem_of_getElem? (i := 470) (by decide +kernel))) rfl
theorem lsX7_146 : kw_lkS RX7 146 mX7_isA := ⟨kmX7_146, wTX7_isA, wNX7, wCX7_isA, by decide, by decide, by decide⟩
theorem kmX7_150 : Cond.methodLink RX7 150 yX1_pullOf ∈ kw_ws := kw_ws_in (List.mem_append_right _ (List.mem_of_getElem? (i := 475) (by decide +kernel))) rfl
theorem lvX7_150 : kw_lkV RX7 150 1 mX1_pullOf := ⟨⟨TX1, 7, rfl⟩, kmX7_150, wIX1_pullOf, wVX1_pullOf, wNX1, wCX1_pullOf, by decide, by decide, by decide⟩
theorem kmX7_153 : Cond.methodLink RX7 153 yX5_hoursToStorm ∈ kw_ws := kw_ws_in (List.mem_append_right _ (List.mem_of_getElem? (i := 476) (by decide +kernel))) rfl
theorem lvX7_153 : kw_lkV RX7 153 5 mX5_hoursToStorm := ⟨⟨TX5, 8, rfl⟩, kmX7_153, wIX5_hoursToStorm, wVX5_hoursToStorm, wNX5, wCX5_hoursToStorm, by decide, by decide, by decide⟩
theorem kmX5_42 : Cond.methodLink RX5 42 yX5_windAhead ∈ kw_ws := kw_ws_in (List.mem_append_right _ (List.mem_of_getElem? (i := 480) (by decide +kernel))) rfl
theorem lvX5_42 : kw_lkV RX5 42 5 mX5_windAhead := ⟨⟨TX5, 8, rfl⟩, kmX5_42, wIX5_windAhead, wVX5_windAhead, wNX5, wCX5_windAhead, by decide, by decide, by decide⟩
theorem kmX7_160 : Cond.methodLink RX7 160 yJ6_bitCount_0f7a4 ∈ kw_ws := kw_ws_in (List.mem_append_right _ (List.mem_of_getElem? (i := 484) (by decide +kernel))) rfl
theorem lsX7_160 : kw_lkS RX7 160 mJ6_bitCount_0f7a4 := ⟨kmX7_160, wTJ6_bitCount_0f7a4, wNJ6, wCJ6_bitCount_0f7a4, by decide, by decide, by decide⟩
theorem kmX7_165 : Cond.methodLink RX7 165 yX1_othersNoWider ∈ kw_ws := kw_ws_in (List.mem_append_right _ (List.mem_of_getElem? (i := 490) (by decide +kernel))) rfl
theorem lvX7_165 : kw_lkV RX7 165 1 mX1_othersNoWider := ⟨⟨TX1, 7, rfl⟩, kmX7_165, wIX1_othersNoWider, wVX1_othersNoWider, wNX1, wCX1_othersNoWider, by decide, by decide, by decide⟩
theorem kmX7_171 : Cond.methodLink RX7 171 yX5_windNow ∈ kw_ws := kw_ws_in (List.mem_append_right _ (List.mem_of_getElem? (i := 494) (by decide +kernel))) rfl
theorem lvX7_171 : kw_lkV RX7 171 5 mX5_windNow := ⟨⟨TX5, 8, rfl⟩, kmX7_171, wIX5_windNow, wVX5_windNow, wNX5, wCX5_windNow, by decide, by decide, by decide⟩
theorem kmX7_174 : Cond.methodLink RX7 174 yX7_pull ∈ kw_ws := kw_ws_in (List.mem_append_right _ (List.mem_of_getElem? (i := 495) (by decide +kernel))) rfl
theorem lsX7_174 : kw_lkS RX7 174 mX7_pull := ⟨kmX7_174, wTX7_pull, wNX7, wCX7_pull, by decide, by decide, by decide⟩
theorem kmL_65 : Cond.methodLink RL 65 yX7_wind ∈ kw_ws := kw_ws_in (List.mem_append_right _ (List.mem_of_getElem? (i := 496) (by decide +kernel))) rfl
theorem lvL_65 : kw_lkV RL 65 7 mX7_wind := ⟨⟨TX7, 11, rfl⟩, kmL_65, wIX7_wind, wVX7_wind, wNX7, wCX7_wind, by decide, by decide, by decide⟩
theorem kmX7_178 : Cond.methodLink RX7 178 yX5_isEmpty ∈ kw_ws := kw_ws_in (List.mem_append_right _ (List.mem_of_getElem? (i := 500) (by decide +kernel))) rfl
theorem lvX7_178 : kw_lkV RX7 178 5 mX5_isEmpty := ⟨⟨TX5, 8, rfl⟩, kmX7_178, wIX5_isEmpty, wVX5_isEmpty, wNX5, wCX5_isEmpty, by decide, by decide, by decide⟩
theorem kmX7_182 : Cond.methodLink RX7 182 yX1_windAt ∈ kw_ws := kw_ws_in (List.mem_append_right _ (List.mem_of_getElem? (i := 504) (by decide +kernel))) rfl
theorem lvX7_182 : kw_lkV RX7 182 1 mX1_windAt := ⟨⟨TX1, 7, rfl⟩, kmX7_182, wIX1_windAt, wVX1_windAt, wNX1, wCX1_windAt, by decide, by decide, by decide⟩
theorem kmL_69 : Cond.methodLink RL 69 yX7_hang ∈ kw_ws := kw_ws_in (List.mem_append_right _ (List.mem_of_getElem? (i := 505) (by decide +kernel))) rfl
theorem lvL_69 : kw_lkV RL 69 7 mX7_hang := ⟨⟨TX7, 11, rfl⟩, kmL_69, wIX7_hang, wVX7_hang, wNX7, wCX7_hang, by decide, by decide, by decide⟩
theorem kmX7_185 : Cond.methodLink RX7 185 yX5_isHung ∈ kw_ws := kw_ws_in (List.mem_append_right _ (List.mem_of_getElem? (i := 509) (by decide +kernel))) rfl
theorem lvX7_185 : kw_lkV RX7 185 5 mX5_isHung := ⟨⟨TX5, 8, rfl⟩, kmX7_185, wIX5_isHung, wVX5_isHung, wNX5, wCX5_isHung, by decide, by decide, by decide⟩
theorem kmX7_188 : Cond.methodLink RX7 188 yX5_hasRoomFor ∈ kw_ws := kw_ws_in (List.mem_append_right _ (List.mem_of_getElem? (i := 510) (by decide +kernel))) rfl
theorem lvX7_188 : kw_lkV RX7 188 5 mX5_hasRoomFor := ⟨⟨TX5, 8, rfl⟩, kmX7_188, wIX5_hasRoomFor, wVX5_hasRoomFor, wNX5, wCX5_hasRoomFor, by decide, by decide, by decide⟩
theorem kmX7_191 : Cond.methodLink RX7 191 yX5_act ∈ kw_ws := kw_ws_in (List.mem_append_right _ (List.mem_of_getElem? (i := 511) (by decide +kernel))) rfl
theorem lvX7_191 : kw_lkV RX7 191 5 mX5_act := ⟨⟨TX5, 8, rfl⟩, kmX7_191, wIX5_act, wVX5_act, wNX5, wCX5_act, by decide, by decide, by decide⟩
theorem kmL_73 : Cond.methodLink RL 73 yX7_take ∈ kw_ws := kw_ws_in (List.mem_append_right _ (List.mem_of_getElem? (i := 512) (by decide +kernel))) rfl
theorem lvL_73 : kw_lkV RL 73 7 mX7_take := ⟨⟨TX7, 11, rfl⟩, kmL_73, wIX7_take, wVX7_take, wNX7, wCX7_take, by decide, by decide, by decide⟩
theorem kmL_77 : Cond.methodLink RL 77 yX7_hour ∈ kw_ws := kw_ws_in (List.mem_append_right _ (List.mem_of_getElem? (i := 516) (by decide +kernel))) rfl
theorem lvL_77 : kw_lkV RL 77 7 mX7_hour := ⟨⟨TX7, 11, rfl⟩, kmL_77, wIX7_hour, wVX7_hour, wNX7, wCX7_hour, by decide, by decide, by decide⟩
theorem kmX7_200 : Cond.methodLink RX7 200 yX4_tellWhole ∈ kw_ws := kw_ws_in (List.mem_append_right _ (List.mem_of_getElem? (i := 520) (by decide +kernel))) rfl
theorem lvX7_200 : kw_lkV RX7 200 4 mX4_tellWhole := ⟨⟨TX4, 5, rfl⟩, kmX7_200, wIX4_tellWhole, wVX4_tellWhole, wNX4, wCX4_tellWhole, by decide, by decide, by decide⟩
theorem kmL_82 : Cond.methodLink RL 82 yX7_undo ∈ kw_ws := kw_ws_in (List.mem_append_right _ (List.mem_of_getElem? (i := 524) (by decide +kernel))) rfl
theorem lvL_82 : kw_lkV RL 82 7 mX7_undo := ⟨⟨TX7, 11, rfl⟩, kmL_82, wIX7_undo, wVX7_undo, wNX7, wCX7_undo, by decide, by decide, by decide⟩
theorem kmL_86 : Cond.methodLink RL 86 yX7_keep ∈ kw_ws := kw_ws_in (List.mem_append_right _ (List.mem_of_getElem? (i := 528) (by decide +kernel))) rfl
theorem lvL_86 : kw_lkV RL 86 7 mX7_keep := ⟨⟨TX7, 11, rfl⟩, kmL_86, wIX7_keep, wVX7_keep, wNX7, wCX7_keep, by decide, by decide, by decide⟩
theorem kmL_90 : Cond.methodLink RL 90 yX7_on ∈ kw_ws := kw_ws_in (List.mem_append_right _ (List.mem_of_getElem? (i := 532) (by decide +kernel))) rfl
theorem lvL_90 : kw_lkV RL 90 7 mX7_on := ⟨⟨TX7, 11, rfl⟩, kmL_90, wIX7_on, wVX7_on, wNX7, wCX7_on, by decide, by decide, by decide⟩
theorem kmL_94 : Cond.methodLink RL 94 yX7_goes ∈ kw_ws := kw_ws_in (List.mem_append_right _ (List.mem_of_getElem? (i := 536) (by decide +kernel))) rfl
theorem lvL_94 : kw_lkV RL 94 7 mX7_goes := ⟨⟨TX7, 11, rfl⟩, kmL_94, wIX7_goes, wVX7_goes, wNX7, wCX7_goes, by decide, by decide, by decide⟩
theorem kmX7_216 : Cond.methodLink RX7 216 yX1_hasSet ∈ kw_ws := kw_ws_in (List.mem_append_right _ (List.mem_of_getElem? (i := 540) (by decide +kernel))) rfl
theorem lvX7_216 : kw_lkV RX7 216 1 mX1_hasSet := ⟨⟨TX1, 7, rfl⟩, kmX7_216, wIX1_hasSet, wVX1_hasSet, wNX1, wCX1_hasSet, by decide, by decide, by decide⟩
theorem kmX1_40 : Cond.methodLink RX1 40 yX1_allLines ∈ kw_ws := kw_ws_in (List.mem_append_right _ (List.mem_of_getElem? (i := 544) (by decide +kernel))) rfl
theorem lvX1_40 : kw_lkV RX1 40 1 mX1_allLines := ⟨⟨TX1, 7, rfl⟩, kmX1_40, wIX1_allLines, wVX1_allLines, wNX1, wCX1_allLines, by decide, by decide, by decide⟩
theorem kmX7_219 : Cond.methodLink RX7 219 yX1_turnOf ∈ kw_ws := kw_ws_in (List.mem_append_right _ (List.mem_of_getElem? (i := 548) (by decide +kernel))) rfl
theorem lvX7_219 : kw_lkV RX7 219 1 mX1_turnOf := ⟨⟨TX1, 7, rfl⟩, kmX7_219, wIX1_turnOf, wVX1_turnOf, wNX1, wCX1_turnOf, by decide, by decide, by decide⟩
theorem kmX7_222 : Cond.methodLink RX7 222 yX1_milesOf ∈ kw_ws := kw_ws_in (List.mem_append_right _ (List.mem_of_getElem? (i := 549) (by decide +kernel))) rfl
theorem lvX7_222 : kw_lkV RX7 222 1 mX1_milesOf := ⟨⟨TX1, 7, rfl⟩, kmX7_222, wIX1_milesOf, wVX1_milesOf, wNX1, wCX1_milesOf, by decide, by decide, by decide⟩
theorem kmL_98 : Cond.methodLink RL 98 yX7_even ∈ kw_ws := kw_ws_in (List.mem_append_right _ (List.mem_of_getElem? (i := 550) (by decide +kernel))) rfl
theorem lvL_98 : kw_lkV RL 98 7 mX7_even := ⟨⟨TX7, 11, rfl⟩, kmL_98, wIX7_even, wVX7_even, wNX7, wCX7_even, by decide, by decide, by decide⟩
theorem kmX7_225 : Cond.methodLink RX7 225 yX0_draw ∈ kw_ws := kw_ws_in (List.mem_append_right _ (List.mem_of_getElem? (i := 554) (by decide +kernel))) rfl
theorem lvX7_225 : kw_lkV RX7 225 0 mX0_draw := ⟨⟨TX0, 4, rfl⟩, kmX7_225, wIX0_draw, wVX0_draw, wNX0, wCX0_draw, by decide, by decide, by decide⟩
theorem kmX0_28 : Cond.methodLink RX0 28 yX1_pullOf ∈ kw_ws := kw_ws_in (List.mem_append_right _ (List.mem_of_getElem? (i := 558) (by decide +kernel))) rfl
theorem lvX0_28 : kw_lkV RX0 28 1 mX1_pullOf := ⟨⟨TX1, 7, rfl⟩, kmX0_28, wIX1_pullOf, wVX1_pullOf, wNX1, wCX1_pullOf, by decide, by decide, by decide⟩
theorem kmX7_232 : Cond.methodLink RX7 232 yX0_fits ∈ kw_ws := kw_ws_in (List.mem_append_right _ (List.mem_of_getElem? (i := 559) (by decide +kernel))) rfl
theorem lvX7_232 : kw_lkV RX7 232 0 mX0_fits := ⟨⟨TX0, 4, rfl⟩, kmX7_232, wIX0_fits, wVX0_fits, wNX0, wCX0_fits, by decide, by decide, by decide⟩
theorem kmX0_35 : Cond.methodLink RX0 35 yX0_milesOf ∈ kw_ws := kw_ws_in (List.mem_append_right _ (List.mem_of_getElem? (i := 563) (by decide +kernel))) rfl
theorem lvX0_35 : kw_lkV RX0 35 0 mX0_milesOf := ⟨⟨TX0, 4, rfl⟩, kmX0_35, wIX0_milesOf, wVX0_milesOf, wNX0, wCX0_milesOf, by decide, by decide, by decide⟩
theorem kmX0_39 : Cond.methodLink RX0 39 yX0_turnBy ∈ kw_ws := kw_ws_in (List.mem_append_right _ (List.mem_of_getElem? (i := 567) (by decide +kernel))) rfl
theorem lvX0_39 : kw_lkV RX0 39 0 mX0_turnBy := ⟨⟨TX0, 4, rfl⟩, kmX0_39, wIX0_turnBy, wVX0_turnBy, wNX0, wCX0_turnBy, by decide, by decide, by decide⟩
theorem kmX7_235 : Cond.methodLink RX7 235 yX1_linenOf ∈ kw_ws := kw_ws_in (List.mem_append_right _ (List.mem_of_getElem? (i := 571) (by decide +kernel))) rfl
theorem lvX7_235 : kw_lkV RX7 235 1 mX1_linenOf := ⟨⟨TX1, 7, rfl⟩, kmX7_235, wIX1_linenOf, wVX1_linenOf, wNX1, wCX1_linenOf, by decide, by decide, by decide⟩
theorem kmL_102 : Cond.methodLink RL 102 yX7_fast ∈ kw_ws := kw_ws_in (List.mem_append_right _ (List.mem_of_getElem? (i := 575) (by decide +kernel))) rfl
theorem lvL_102 : kw_lkV RL 102 7 mX7_fast := ⟨⟨TX7, 11, rfl⟩, kmL_102, wIX7_fast, wVX7_fast, wNX7, wCX7_fast, by decide, by decide, by decide⟩
theorem kmX7_238 : Cond.methodLink RX7 238 yX0_milesOf ∈ kw_ws := kw_ws_in (List.mem_append_right _ (List.mem_of_getElem? (i := 579) (by decide +kernel))) rfl
theorem lvX7_238 : kw_lkV RX7 238 0 mX0_milesOf := ⟨⟨TX0, 4, rfl⟩, kmX7_238, wIX0_milesOf, wVX0_milesOf, wNX0, wCX0_milesOf, by decide, by decide, by decide⟩
theorem kmL_106 : Cond.methodLink RL 106 yX7_wet ∈ kw_ws := kw_ws_in (List.mem_append_right _ (List.mem_of_getElem? (i := 580) (by decide +kernel))) rfl
theorem lvL_106 : kw_lkV RL 106 7 mX7_wet := ⟨⟨TX7, 11, rfl⟩, kmL_106, wIX7_wet, wVX7_wet, wNX7, wCX7_wet, by decide, by decide, by decide⟩
theorem kmX7_240 : Cond.methodLink RX7 240 yX5_allWet ∈ kw_ws := kw_ws_in (List.mem_append_right _ (List.mem_of_getElem? (i := 584) (by decide +kernel))) rfl
theorem lvX7_240 : kw_lkV RX7 240 5 mX5_allWet := ⟨⟨TX5, 8, rfl⟩, kmX7_240, wIX5_allWet, wVX5_allWet, wNX5, wCX5_allWet, by decide, by decide, by decide⟩
theorem kmX7_243 : Cond.methodLink RX7 243 yX1_allLines ∈ kw_ws := kw_ws_in (List.mem_append_right _ (List.mem_of_getElem? (i := 588) (by decide +kernel))) rfl
theorem lvX7_243 : kw_lkV RX7 243 1 mX1_allLines := ⟨⟨TX1, 7, rfl⟩, kmX7_243, wIX1_allLines, wVX1_allLines, wNX1, wCX1_allLines, by decide, by decide, by decide⟩
theorem kmX7_246 : Cond.methodLink RX7 246 yX7_drySet ∈ kw_ws := kw_ws_in (List.mem_append_right _ (List.mem_of_getElem? (i := 589) (by decide +kernel))) rfl
theorem lvX7_246 : kw_lkV RX7 246 7 mX7_drySet := ⟨⟨TX7, 11, rfl⟩, kmX7_246, wIX7_drySet, wVX7_drySet, wNX7, wCX7_drySet, by decide, by decide, by decide⟩
theorem kmL_110 : Cond.methodLink RL 110 yX7_sail ∈ kw_ws := kw_ws_in (List.mem_append_right _ (List.mem_of_getElem? (i := 593) (by decide +kernel))) rfl
theorem lvL_110 : kw_lkV RL 110 7 mX7_sail := ⟨⟨TX7, 11, rfl⟩, kmL_110, wIX7_sail, wVX7_sail, wNX7, wCX7_sail, by decide, by decide, by decide⟩
theorem kmX7_250 : Cond.methodLink RX7 250 yX7_planRefusal ∈ kw_ws := kw_ws_in (List.mem_append_right _ (List.mem_of_getElem? (i := 597) (by decide +kernel))) rfl
theorem lvX7_250 : kw_lkV RX7 250 7 mX7_planRefusal := ⟨⟨TX7, 11, rfl⟩, kmX7_250, wIX7_planRefusal, wVX7_planRefusal, wNX7, wCX7_planRefusal, by decide, by decide, by decide⟩
theorem kmX7_253 : Cond.methodLink RX7 253 yX5_windAhead ∈ kw_ws := kw_ws_in (List.mem_append_right _ (List.mem_of_getElem? (i := 601) (by decide +kernel))) rfl
theorem lvX7_253 : kw_lkV RX7 253 5 mX5_windAhead := ⟨⟨TX5, 8, rfl⟩, kmX7_253, wIX5_windAhead, wVX5_windAhead, wNX5, wCX5_windAhead, by decide, by decide, by decide⟩
theorem kmL_114 : Cond.methodLink RL 114 yX7_dry ∈ kw_ws := kw_ws_in (List.mem_append_right _ (List.mem_of_getElem? (i := 602) (by decide +kernel))) rfl
theorem lvL_114 : kw_lkV RL 114 7 mX7_dry := ⟨⟨TX7, 11, rfl⟩, kmL_114, wIX7_dry, wVX7_dry, wNX7, wCX7_dry, by decide, by decide, by decide⟩
theorem kmX7_256 : Cond.methodLink RX7 256 arraycopyName ∈ kw_ws := kw_ws_in (List.mem_append_right _ (List.mem_of_getElem? (i := 606) (by decide +kernel))) rfl
theorem laX7_256 : kw_lkA RX7 256 := ⟨kmX7_256, wA_native, wA_static, wNJ10⟩
theorem kmX7_262 : Cond.methodLink RX7 262 yX7_weather ∈ kw_ws := kw_ws_in (List.mem_append_right _ (List.mem_of_getElem? (i := 607) (by decide +kernel))) rfl
theorem lsX7_262 : kw_lkS RX7 262 mX7_weather := ⟨kmX7_262, wTX7_weather, wNX7, wCX7_weather, by decide, by decide, by decide⟩
theorem kmL_118 : Cond.methodLink RL 118 yX7_far ∈ kw_ws := kw_ws_in (List.mem_append_right _ (List.mem_of_getElem? (i := 608) (by decide +kernel))) rfl
theorem lvL_118 : kw_lkV RL 118 7 mX7_far := ⟨⟨TX7, 11, rfl⟩, kmL_118, wIX7_far, wVX7_far, wNX7, wCX7_far, by decide, by decide, by decide⟩
theorem kmX7_266 : Cond.methodLink RX7 266 yX6_find ∈ kw_ws := kw_ws_in (List.mem_append_right _ (List.mem_of_getElem? (i := 612) (by decide +kernel))) rfl
theorem lvX7_266 : kw_lkV RX7 266 6 mX6_find := ⟨⟨TX6, 8, rfl⟩, kmX7_266, wIX6_find, wVX6_find, wNX6, wCX6_find, by decide, by decide, by decide⟩
theorem kmX6_28 : Cond.methodLink RX6 28 yJ9_min_7cf53 ∈ kw_ws := kw_ws_in (List.mem_append_right _ (List.mem_of_getElem? (i := 616) (by decide +kernel))) rfl
theorem lsX6_28 : kw_lkS RX6 28 mJ9_min_7cf53 := ⟨kmX6_28, wTJ9_min_7cf53, wNJ9, wCJ9_min_7cf53, by decide, by decide, by decide⟩
theorem kmX6_45 : Cond.methodLink RX6 45 yX5_windAhead ∈ kw_ws := kw_ws_in (List.mem_append_right _ (List.mem_of_getElem? (i := 617) (by decide +kernel))) rfl
theorem lvX6_45 : kw_lkV RX6 45 5 mX5_windAhead := ⟨⟨TX5, 8, rfl⟩, kmX6_45, wIX5_windAhead, wVX5_windAhead, wNX5, wCX5_windAhead, by decide, by decide, by decide⟩
theorem kmX6_55 : Cond.methodLink RX6 55 yX0_draw ∈ kw_ws := kw_ws_in (List.mem_append_right _ (List.mem_of_getElem? (i := 618) (by decide +kernel))) rfl
theorem lvX6_55 : kw_lkV RX6 55 0 mX0_draw := ⟨⟨TX0, 4, rfl⟩, kmX6_55, wIX0_draw, wVX0_draw, wNX0, wCX0_draw, by decide, by decide, by decide⟩
theorem kmX6_59 : Cond.methodLink RX6 59 yX1_allLines ∈ kw_ws := kw_ws_in (List.mem_append_right _ (List.mem_of_getElem? (i := 619) (by decide +kernel))) rfl
theorem lvX6_59 : kw_lkV RX6 59 1 mX1_allLines := ⟨⟨TX1, 7, rfl⟩, kmX6_59, wIX1_allLines, wVX1_allLines, wNX1, wCX1_allLines, by decide, by decide, by decide⟩
theorem kmX6_65 : Cond.methodLink RX6 65 yX1_mostMilesOf ∈ kw_ws := kw_ws_in (List.mem_append_right _ (List.mem_of_getElem? (i := 620) (by decide +kernel))) rfl
theorem lvX6_65 : kw_lkV RX6 65 1 mX1_mostMilesOf := ⟨⟨TX1, 7, rfl⟩, kmX6_65, wIX1_mostMilesOf, wVX1_mostMilesOf, wNX1, wCX1_mostMilesOf, by decide, by decide, by decide⟩
theorem kmX1_56 : Cond.methodLink RX1 56 yJ9_max_7cf53 ∈ kw_ws := kw_ws_in (List.mem_append_right _ (List.mem_of_getElem? (i := 624) (by decide +kernel))) rfl
theorem lsX1_56 : kw_lkS RX1 56 mJ9_max_7cf53 := ⟨kmX1_56, wTJ9_max_7cf53, wNJ9, wCJ9_max_7cf53, by decide, by decide, by decide⟩
theorem kmX6_74 : Cond.methodLink RX6 74 yX6_sailFrom ∈ kw_ws := kw_ws_in (List.mem_append_right _ (List.mem_of_getElem? (i := 625) (by decide +kernel))) rfl
theorem lvX6_74 : kw_lkV RX6 74 6 mX6_sailFrom := ⟨⟨TX6, 8, rfl⟩, kmX6_74, wIX6_sailFrom, wVX6_sailFrom, wNX6, wCX6_sailFrom, by decide, by decide, by decide⟩
theorem kmX6_81 : Cond.methodLink RX6 81 arraycopyName ∈ kw_ws := kw_ws_in (List.mem_append_right _ (List.mem_of_getElem? (i := 629) (by decide +kernel))) rfl
theorem laX6_81 : kw_lkA RX6 81 := ⟨kmX6_81, wA_native, wA_static, wNJ10⟩
theorem kmX6_90 : Cond.methodLink RX6 90 yX0_milesOf ∈ kw_ws := kw_ws_in (List.mem_append_right _ (List.mem_of_getElem? (i := 630) (by decide +kernel))) rfl
theorem lvX6_90 : kw_lkV RX6 90 0 mX0_milesOf := ⟨⟨TX0, 4, rfl⟩, kmX6_90, wIX0_milesOf, wVX0_milesOf, wNX0, wCX0_milesOf, by decide, by decide, by decide⟩
theorem kmX6_93 : Cond.methodLink RX6 93 yX0_turnBy ∈ kw_ws := kw_ws_in (List.mem_append_right _ (List.mem_of_getElem? (i := 631) (by decide +kernel))) rfl
theorem lvX6_93 : kw_lkV RX6 93 0 mX0_turnBy := ⟨⟨TX0, 4, rfl⟩, kmX6_93, wIX0_turnBy, wVX0_turnBy, wNX0, wCX0_turnBy, by decide, by decide, by decide⟩
theorem kmL_122 : Cond.methodLink RL 122 yX7_soon ∈ kw_ws := kw_ws_in (List.mem_append_right _ (List.mem_of_getElem? (i := 632) (by decide +kernel))) rfl
theorem lvL_122 : kw_lkV RL 122 7 mX7_soon := ⟨⟨TX7, 11, rfl⟩, kmL_122, wIX7_soon, wVX7_soon, wNX7, wCX7_soon, by decide, by decide, by decide⟩
theorem kmX7_276 : Cond.methodLink RX7 276 yX1_mostMilesOf ∈ kw_ws := kw_ws_in (List.mem_append_right _ (List.mem_of_getElem? (i := 636) (by decide +kernel))) rfl
theorem lvX7_276 : kw_lkV RX7 276 1 mX1_mostMilesOf := ⟨⟨TX1, 7, rfl⟩, kmX7_276, wIX1_mostMilesOf, wVX1_mostMilesOf, wNX1, wCX1_mostMilesOf, by decide, by decide, by decide⟩
theorem kmL_126 : Cond.methodLink RL 126 yX7_least ∈ kw_ws := kw_ws_in (List.mem_append_right _ (List.mem_of_getElem? (i := 637) (by decide +kernel))) rfl
theorem lvL_126 : kw_lkV RL 126 7 mX7_least := ⟨⟨TX7, 11, rfl⟩, kmL_126, wIX7_least, wVX7_least, wNX7, wCX7_least, by decide, by decide, by decide⟩
theorem kmX7_279 : Cond.methodLink RX7 279 yX7_mostMilesBehind ∈ kw_ws := kw_ws_in (List.mem_append_right _ (List.mem_of_getElem? (i := 641) (by decide +kernel))) rfl
theorem lvX7_279 : kw_lkV RX7 279 7 mX7_mostMilesBehind := ⟨⟨TX7, 11, rfl⟩, kmX7_279, wIX7_mostMilesBehind, wVX7_mostMilesBehind, wNX7, wCX7_mostMilesBehind, by decide, by decide, by decide⟩
theorem kmL_130 : Cond.methodLink RL 130 yX7_ways ∈ kw_ws := kw_ws_in (List.mem_append_right _ (List.mem_of_getElem? (i := 645) (by decide +kernel))) rfl
theorem lvL_130 : kw_lkV RL 130 7 mX7_ways := ⟨⟨TX7, 11, rfl⟩, kmL_130, wIX7_ways, wVX7_ways, wNX7, wCX7_ways, by decide, by decide, by decide⟩
theorem kmL_134 : Cond.methodLink RL 134 yX7_kinds ∈ kw_ws := kw_ws_in (List.mem_append_right _ (List.mem_of_getElem? (i := 649) (by decide +kernel))) rfl
theorem lvL_134 : kw_lkV RL 134 7 mX7_kinds := ⟨⟨TX7, 11, rfl⟩, kmL_134, wIX7_kinds, wVX7_kinds, wNX7, wCX7_kinds, by decide, by decide, by decide⟩
theorem kmX7_282 : Cond.methodLink RX7 282 yX7_pairsRefusal ∈ kw_ws := kw_ws_in (List.mem_append_right _ (List.mem_of_getElem? (i := 653) (by decide +kernel))) rfl
theorem lvX7_282 : kw_lkV RX7 282 7 mX7_pairsRefusal := ⟨⟨TX7, 11, rfl⟩, kmX7_282, wIX7_pairsRefusal, wVX7_pairsRefusal, wNX7, wCX7_pairsRefusal, by decide, by decide, by decide⟩
theorem kmX7_285 : Cond.methodLink RX7 285 yX7_pulledSo ∈ kw_ws := kw_ws_in (List.mem_append_right _ (List.mem_of_getElem? (i := 657) (by decide +kernel))) rfl
theorem lvX7_285 : kw_lkV RX7 285 7 mX7_pulledSo := ⟨⟨TX7, 11, rfl⟩, kmX7_285, wIX7_pulledSo, wVX7_pulledSo, wNX7, wCX7_pulledSo, by decide, by decide, by decide⟩
theorem kmL_138 : Cond.methodLink RL 138 yX7_areas ∈ kw_ws := kw_ws_in (List.mem_append_right _ (List.mem_of_getElem? (i := 661) (by decide +kernel))) rfl
theorem lvL_138 : kw_lkV RL 138 7 mX7_areas := ⟨⟨TX7, 11, rfl⟩, kmL_138, wIX7_areas, wVX7_areas, wNX7, wCX7_areas, by decide, by decide, by decide⟩
theorem kmL_142 : Cond.methodLink RL 142 yX7_rival ∈ kw_ws := kw_ws_in (List.mem_append_right _ (List.mem_of_getElem? (i := 665) (by decide +kernel))) rfl
theorem lvL_142 : kw_lkV RL 142 7 mX7_rival := ⟨⟨TX7, 11, rfl⟩, kmL_142, wIX7_rival, wVX7_rival, wNX7, wCX7_rival, by decide, by decide, by decide⟩
theorem kmX7_288 : Cond.methodLink RX7 288 yX7_play ∈ kw_ws := kw_ws_in (List.mem_append_right _ (List.mem_of_getElem? (i := 669) (by decide +kernel))) rfl
theorem lsX7_288 : kw_lkS RX7 288 mX7_play := ⟨kmX7_288, wTX7_play, wNX7, wCX7_play, by decide, by decide, by decide⟩
theorem kmL_146 : Cond.methodLink RL 146 yX7_mid ∈ kw_ws := kw_ws_in (List.mem_append_right _ (List.mem_of_getElem? (i := 672) (by decide +kernel))) rfl
theorem lvL_146 : kw_lkV RL 146 7 mX7_mid := ⟨⟨TX7, 11, rfl⟩, kmL_146, wIX7_mid, wVX7_mid, wNX7, wCX7_mid, by decide, by decide, by decide⟩
theorem kmX7_292 : Cond.methodLink RX7 292 yX7_foresee ∈ kw_ws := kw_ws_in (List.mem_append_right _ (List.mem_of_getElem? (i := 676) (by decide +kernel))) rfl
theorem lvX7_292 : kw_lkV RX7 292 7 mX7_foresee := ⟨⟨TX7, 11, rfl⟩, kmX7_292, wIX7_foresee, wVX7_foresee, wNX7, wCX7_foresee, by decide, by decide, by decide⟩
theorem kmX7_297 : Cond.methodLink RX7 297 yX4_tellShare ∈ kw_ws := kw_ws_in (List.mem_append_right _ (List.mem_of_getElem? (i := 681) (by decide +kernel))) rfl
theorem lvX7_297 : kw_lkV RX7 297 4 mX4_tellShare := ⟨⟨TX4, 5, rfl⟩, kmX7_297, wIX4_tellShare, wVX4_tellShare, wNX4, wCX4_tellShare, by decide, by decide, by decide⟩
theorem kmX4_29 : Cond.methodLink RX4 29 yJ9_abs_067f4 ∈ kw_ws := kw_ws_in (List.mem_append_right _ (List.mem_of_getElem? (i := 685) (by decide +kernel))) rfl
theorem lsX4_29 : kw_lkS RX4 29 mJ9_abs_067f4 := ⟨kmX4_29, wTJ9_abs_067f4, wNJ9, wCJ9_abs_067f4, by decide, by decide, by decide⟩
theorem kmX4_35 : Cond.methodLink RX4 35 yX4_commonDivisor ∈ kw_ws := kw_ws_in (List.mem_append_right _ (List.mem_of_getElem? (i := 688) (by decide +kernel))) rfl
theorem lsX4_35 : kw_lkS RX4 35 mX4_commonDivisor := ⟨kmX4_35, wTX4_commonDivisor, wNX4, wCX4_commonDivisor, by decide, by decide, by decide⟩
theorem kmL_150 : Cond.methodLink RL 150 yX7_odds ∈ kw_ws := kw_ws_in (List.mem_append_right _ (List.mem_of_getElem? (i := 691) (by decide +kernel))) rfl
theorem lvL_150 : kw_lkV RL 150 7 mX7_odds := ⟨⟨TX7, 11, rfl⟩, kmL_150, wIX7_odds, wVX7_odds, wNX7, wCX7_odds, by decide, by decide, by decide⟩
theorem kmX7_301 : Cond.methodLink RX7 301 yX7_milesByGusts ∈ kw_ws := kw_ws_in (List.mem_append_right _ (List.mem_of_getElem? (i := 695) (by decide +kernel))) rfl
theorem lvX7_301 : kw_lkV RX7 301 7 mX7_milesByGusts := ⟨⟨TX7, 11, rfl⟩, kmX7_301, wIX7_milesByGusts, wVX7_milesByGusts, wNX7, wCX7_milesByGusts, by decide, by decide, by decide⟩
theorem kmX7_304 : Cond.methodLink RX7 304 yX7_weightOfGusts ∈ kw_ws := kw_ws_in (List.mem_append_right _ (List.mem_of_getElem? (i := 699) (by decide +kernel))) rfl
theorem lsX7_304 : kw_lkS RX7 304 mX7_weightOfGusts := ⟨kmX7_304, wTX7_weightOfGusts, wNX7, wCX7_weightOfGusts, by decide, by decide, by decide⟩
theorem kmL_154 : Cond.methodLink RL 154 yX7_lots ∈ kw_ws := kw_ws_in (List.mem_append_right _ (List.mem_of_getElem? (i := 702) (by decide +kernel))) rfl
theorem lvL_154 : kw_lkV RL 154 7 mX7_lots := ⟨⟨TX7, 11, rfl⟩, kmL_154, wIX7_lots, wVX7_lots, wNX7, wCX7_lots, by decide, by decide, by decide⟩
theorem kmL_158 : Cond.methodLink RL 158 yX7_asked ∈ kw_ws := kw_ws_in (List.mem_append_right _ (List.mem_of_getElem? (i := 708) (by decide +kernel))) rfl
theorem lvL_158 : kw_lkV RL 158 7 mX7_asked := ⟨⟨TX7, 11, rfl⟩, kmL_158, wIX7_asked, wVX7_asked, wNX7, wCX7_asked, by decide, by decide, by decide⟩
theorem kmL_162 : Cond.methodLink RL 162 yX7_upper ∈ kw_ws := kw_ws_in (List.mem_append_right _ (List.mem_of_getElem? (i := 712) (by decide +kernel))) rfl
theorem lvL_162 : kw_lkV RL 162 7 mX7_upper := ⟨⟨TX7, 11, rfl⟩, kmL_162, wIX7_upper, wVX7_upper, wNX7, wCX7_upper, by decide, by decide, by decide⟩
theorem kmL_167 : Cond.methodLink RL 167 yX7_lower ∈ kw_ws := kw_ws_in (List.mem_append_right _ (List.mem_of_getElem? (i := 716) (by decide +kernel))) rfl
theorem lvL_167 : kw_lkV RL 167 7 mX7_lower := ⟨⟨TX7, 11, rfl⟩, kmL_167, wIX7_lower, wVX7_lower, wNX7, wCX7_lower, by decide, by decide, by decide⟩
theorem kmL_171 : Cond.methodLink RL 171 yX7_count ∈ kw_ws := kw_ws_in (List.mem_append_right _ (List.mem_of_getElem? (i := 720) (by decide +kernel))) rfl
theorem lvL_171 : kw_lkV RL 171 7 mX7_count := ⟨⟨TX7, 11, rfl⟩, kmL_171, wIX7_count, wVX7_count, wNX7, wCX7_count, by decide, by decide, by decide⟩
theorem kmX7_325 : Cond.methodLink RX7 325 yX1_howManyAre ∈ kw_ws := kw_ws_in (List.mem_append_right _ (List.mem_of_getElem? (i := 724) (by decide +kernel))) rfl
theorem lvX7_325 : kw_lkV RX7 325 1 mX1_howManyAre := ⟨⟨TX1, 7, rfl⟩, kmX7_325, wIX1_howManyAre, wVX1_howManyAre, wNX1, wCX1_howManyAre, by decide, by decide, by decide⟩
theorem kmX7_328 : Cond.methodLink RX7 328 yX3_howMany ∈ kw_ws := kw_ws_in (List.mem_append_right _ (List.mem_of_getElem? (i := 729) (by decide +kernel))) rfl
theorem lvX7_328 : kw_lkV RX7 328 3 mX3_howMany := ⟨⟨TX3, 3, rfl⟩, kmX7_328, wIX3_howMany, wVX3_howMany, wNX3, wCX3_howMany, by decide, by decide, by decide⟩
theorem kmL_175 : Cond.methodLink RL 175 yX7_miles ∈ kw_ws := kw_ws_in (List.mem_append_right _ (List.mem_of_getElem? (i := 733) (by decide +kernel))) rfl
theorem lvL_175 : kw_lkV RL 175 7 mX7_miles := ⟨⟨TX7, 11, rfl⟩, kmL_175, wIX7_miles, wVX7_miles, wNX7, wCX7_miles, by decide, by decide, by decide⟩
theorem kmL_179 : Cond.methodLink RL 179 yX7_finding ∈ kw_ws := kw_ws_in (List.mem_append_right _ (List.mem_of_getElem? (i := 737) (by decide +kernel))) rfl
theorem lvL_179 : kw_lkV RL 179 7 mX7_finding := ⟨⟨TX7, 11, rfl⟩, kmL_179, wIX7_finding, wVX7_finding, wNX7, wCX7_finding, by decide, by decide, by decide⟩
theorem kmL_183 : Cond.methodLink RL 183 yX7_findings ∈ kw_ws := kw_ws_in (List.mem_append_right _ (List.mem_of_getElem? (i := 741) (by decide +kernel))) rfl
theorem lvL_183 : kw_lkV RL 183 7 mX7_findings := ⟨⟨TX7, 11, rfl⟩, kmL_183, wIX7_findings, wVX7_findings, wNX7, wCX7_findings, by decide, by decide, by decide⟩
theorem kmL_187 : Cond.methodLink RL 187 yX7_digest ∈ kw_ws := kw_ws_in (List.mem_append_right _ (List.mem_of_getElem? (i := 745) (by decide +kernel))) rfl
theorem lvL_187 : kw_lkV RL 187 7 mX7_digest := ⟨⟨TX7, 11, rfl⟩, kmL_187, wIX7_digest, wVX7_digest, wNX7, wCX7_digest, by decide, by decide, by decide⟩
theorem kmX7_341 : Cond.methodLink RX7 341 yX7_count ∈ kw_ws := kw_ws_in (List.mem_append_right _ (List.mem_of_getElem? (i := 751) (by decide +kernel))) rfl
theorem lvX7_341 : kw_lkV RX7 341 7 mX7_count := ⟨⟨TX7, 11, rfl⟩, kmX7_341, wIX7_count, wVX7_count, wNX7, wCX7_count, by decide, by decide, by decide⟩
theorem kmX7_344 : Cond.methodLink RX7 344 yX3_fold ∈ kw_ws := kw_ws_in (List.mem_append_right _ (List.mem_of_getElem? (i := 752) (by decide +kernel))) rfl
theorem lvX7_344 : kw_lkV RX7 344 3 mX3_fold := ⟨⟨TX3, 3, rfl⟩, kmX7_344, wIX3_fold, wVX3_fold, wNX3, wCX3_fold, by decide, by decide, by decide⟩
theorem kmL_17 : Cond.methodLink RL 17 yX8_row ∈ kw_ws := kw_ws_in (List.mem_append_right _ (List.mem_of_getElem? (i := 875) (by decide +kernel))) rfl
theorem lvL_17 : kw_lkV RL 17 8 mX8_row := ⟨⟨TX8, 37, rfl⟩, kmL_17, wIX8_row, wVX8_row, wNX8, wCX8_row, by decide, by decide, by decide⟩
theorem kmX8_97 : Cond.methodLink RX8 97 yX8_isRow ∈ kw_ws := kw_ws_in (List.mem_append_right _ (List.mem_of_getElem? (i := 879) (by decide +kernel))) rfl
theorem lsX8_97 : kw_lkS RX8 97 mX8_isRow := ⟨kmX8_97, wTX8_isRow, wNX8, wCX8_isRow, by decide, by decide, by decide⟩
theorem kmX8_93 : Cond.methodLink RX8 93 yX8_in ∈ kw_ws := kw_ws_in (List.mem_append_right _ (List.mem_of_getElem? (i := 882) (by decide +kernel))) rfl
theorem lsX8_93 : kw_lkS RX8 93 mX8_in := ⟨kmX8_93, wTX8_in, wNX8, wCX8_in, by decide, by decide, by decide⟩
theorem kmX8_101 : Cond.methodLink RX8 101 yX8_meet ∈ kw_ws := kw_ws_in (List.mem_append_right _ (List.mem_of_getElem? (i := 885) (by decide +kernel))) rfl
theorem lvX8_101 : kw_lkV RX8 101 8 mX8_meet := ⟨⟨TX8, 37, rfl⟩, kmX8_101, wIX8_meet, wVX8_meet, wNX8, wCX8_meet, by decide, by decide, by decide⟩
theorem kmX8_108 : Cond.methodLink RX8 108 yX8_setRow ∈ kw_ws := kw_ws_in (List.mem_append_right _ (List.mem_of_getElem? (i := 889) (by decide +kernel))) rfl
theorem lvX8_108 : kw_lkV RX8 108 8 mX8_setRow := ⟨⟨TX8, 37, rfl⟩, kmX8_108, wIX8_setRow, wVX8_setRow, wNX8, wCX8_setRow, by decide, by decide, by decide⟩
theorem kmL_26 : Cond.methodLink RL 26 yX8_at ∈ kw_ws := kw_ws_in (List.mem_append_right _ (List.mem_of_getElem? (i := 893) (by decide +kernel))) rfl
theorem lvL_26 : kw_lkV RL 26 8 mX8_at := ⟨⟨TX8, 37, rfl⟩, kmL_26, wIX8_at, wVX8_at, wNX8, wCX8_at, by decide, by decide, by decide⟩
theorem kmX8_112 : Cond.methodLink RX8 112 yX8_askedRow ∈ kw_ws := kw_ws_in (List.mem_append_right _ (List.mem_of_getElem? (i := 897) (by decide +kernel))) rfl
theorem lvX8_112 : kw_lkV RX8 112 8 mX8_askedRow := ⟨⟨TX8, 37, rfl⟩, kmX8_112, wIX8_askedRow, wVX8_askedRow, wNX8, wCX8_askedRow, by decide, by decide, by decide⟩
theorem kmX8_115 : Cond.methodLink RX8 115 yX8_rowAt ∈ kw_ws := kw_ws_in (List.mem_append_right _ (List.mem_of_getElem? (i := 901) (by decide +kernel))) rfl
theorem lvX8_115 : kw_lkV RX8 115 8 mX8_rowAt := ⟨⟨TX8, 37, rfl⟩, kmX8_115, wIX8_rowAt, wVX8_rowAt, wNX8, wCX8_rowAt, by decide, by decide, by decide⟩
theorem kmX8_119 : Cond.methodLink RX8 119 yX8_ask ∈ kw_ws := kw_ws_in (List.mem_append_right _ (List.mem_of_getElem? (i := 905) (by decide +kernel))) rfl
theorem lvX8_119 : kw_lkV RX8 119 8 mX8_ask := ⟨⟨TX8, 37, rfl⟩, kmX8_119, wIX8_ask, wVX8_ask, wNX8, wCX8_ask, by decide, by decide, by decide⟩
theorem kmL_22 : Cond.methodLink RL 22 yX8_lay ∈ kw_ws := kw_ws_in (List.mem_append_right _ (List.mem_of_getElem? (i := 909) (by decide +kernel))) rfl
theorem lvL_22 : kw_lkV RL 22 8 mX8_lay := ⟨⟨TX8, 37, rfl⟩, kmL_22, wIX8_lay, wVX8_lay, wNX8, wCX8_lay, by decide, by decide, by decide⟩
theorem kmX8_122 : Cond.methodLink RX8 122 yX8_at ∈ kw_ws := kw_ws_in (List.mem_append_right _ (List.mem_of_getElem? (i := 913) (by decide +kernel))) rfl
theorem lvX8_122 : kw_lkV RX8 122 8 mX8_at := ⟨⟨TX8, 37, rfl⟩, kmX8_122, wIX8_at, wVX8_at, wNX8, wCX8_at, by decide, by decide, by decide⟩
theorem kmL_31 : Cond.methodLink RL 31 yX8_tear ∈ kw_ws := kw_ws_in (List.mem_append_right _ (List.mem_of_getElem? (i := 914) (by decide +kernel))) rfl
theorem lvL_31 : kw_lkV RL 31 8 mX8_tear := ⟨⟨TX8, 37, rfl⟩, kmL_31, wIX8_tear, wVX8_tear, wNX8, wCX8_tear, by decide, by decide, by decide⟩
theorem kmL_36 : Cond.methodLink RL 36 yX8_copy ∈ kw_ws := kw_ws_in (List.mem_append_right _ (List.mem_of_getElem? (i := 918) (by decide +kernel))) rfl
theorem lvL_36 : kw_lkV RL 36 8 mX8_copy := ⟨⟨TX8, 37, rfl⟩, kmL_36, wIX8_copy, wVX8_copy, wNX8, wCX8_copy, by decide, by decide, by decide⟩
theorem kmL_40 : Cond.methodLink RL 40 yX8_mean ∈ kw_ws := kw_ws_in (List.mem_append_right _ (List.mem_of_getElem? (i := 922) (by decide +kernel))) rfl
theorem lvL_40 : kw_lkV RL 40 8 mX8_mean := ⟨⟨TX8, 37, rfl⟩, kmL_40, wIX8_mean, wVX8_mean, wNX8, wCX8_mean, by decide, by decide, by decide⟩
theorem kmL_44 : Cond.methodLink RL 44 yX8_text ∈ kw_ws := kw_ws_in (List.mem_append_right _ (List.mem_of_getElem? (i := 926) (by decide +kernel))) rfl
theorem lvL_44 : kw_lkV RL 44 8 mX8_text := ⟨⟨TX8, 37, rfl⟩, kmL_44, wIX8_text, wVX8_text, wNX8, wCX8_text, by decide, by decide, by decide⟩
theorem kmX8_105 : Cond.methodLink RX8 105 yX8_isText ∈ kw_ws := kw_ws_in (List.mem_append_right _ (List.mem_of_getElem? (i := 930) (by decide +kernel))) rfl
theorem lsX8_105 : kw_lkS RX8 105 mX8_isText := ⟨kmX8_105, wTX8_isText, wNX8, wCX8_isText, by decide, by decide, by decide⟩
theorem kmL_48 : Cond.methodLink RL 48 yX8_put ∈ kw_ws := kw_ws_in (List.mem_append_right _ (List.mem_of_getElem? (i := 933) (by decide +kernel))) rfl
theorem lvL_48 : kw_lkV RL 48 8 mX8_put := ⟨⟨TX8, 37, rfl⟩, kmL_48, wIX8_put, wVX8_put, wNX8, wCX8_put, by decide, by decide, by decide⟩
theorem kmX8_125 : Cond.methodLink RX8 125 yX8_askedText ∈ kw_ws := kw_ws_in (List.mem_append_right _ (List.mem_of_getElem? (i := 937) (by decide +kernel))) rfl
theorem lvX8_125 : kw_lkV RX8 125 8 mX8_askedText := ⟨⟨TX8, 37, rfl⟩, kmX8_125, wIX8_askedText, wVX8_askedText, wNX8, wCX8_askedText, by decide, by decide, by decide⟩
theorem kmL_52 : Cond.methodLink RL 52 yX8_fault ∈ kw_ws := kw_ws_in (List.mem_append_right _ (List.mem_of_getElem? (i := 941) (by decide +kernel))) rfl
theorem lvL_52 : kw_lkV RL 52 8 mX8_fault := ⟨⟨TX8, 37, rfl⟩, kmL_52, wIX8_fault, wVX8_fault, wNX8, wCX8_fault, by decide, by decide, by decide⟩
theorem kmX8_160 : Cond.methodLink RX8 160 yX8_goesOn ∈ kw_ws := kw_ws_in (List.mem_append_right _ (List.mem_of_getElem? (i := 945) (by decide +kernel))) rfl
theorem lvX8_160 : kw_lkV RX8 160 8 mX8_goesOn := ⟨⟨TX8, 37, rfl⟩, kmX8_160, wIX8_goesOn, wVX8_goesOn, wNX8, wCX8_goesOn, by decide, by decide, by decide⟩
theorem kmX8_157 : Cond.methodLink RX8 157 yX8_readsTown ∈ kw_ws := kw_ws_in (List.mem_append_right _ (List.mem_of_getElem? (i := 949) (by decide +kernel))) rfl
theorem lvX8_157 : kw_lkV RX8 157 8 mX8_readsTown := ⟨⟨TX8, 37, rfl⟩, kmX8_157, wIX8_readsTown, wVX8_readsTown, wNX8, wCX8_readsTown, by decide, by decide, by decide⟩
theorem kmX8_151 : Cond.methodLink RX8 151 yX8_readsWinds ∈ kw_ws := kw_ws_in (List.mem_append_right _ (List.mem_of_getElem? (i := 953) (by decide +kernel))) rfl
theorem lvX8_151 : kw_lkV RX8 151 8 mX8_readsWinds := ⟨⟨TX8, 37, rfl⟩, kmX8_151, wIX8_readsWinds, wVX8_readsWinds, wNX8, wCX8_readsWinds, by decide, by decide, by decide⟩
theorem kmX8_134 : Cond.methodLink RX8 134 yX8_skip ∈ kw_ws := kw_ws_in (List.mem_append_right _ (List.mem_of_getElem? (i := 957) (by decide +kernel))) rfl
theorem lvX8_134 : kw_lkV RX8 134 8 mX8_skip := ⟨⟨TX8, 37, rfl⟩, kmX8_134, wIX8_skip, wVX8_skip, wNX8, wCX8_skip, by decide, by decide, by decide⟩
theorem kmX8_131 : Cond.methodLink RX8 131 yX8_here ∈ kw_ws := kw_ws_in (List.mem_append_right _ (List.mem_of_getElem? (i := 961) (by decide +kernel))) rfl
theorem lvX8_131 : kw_lkV RX8 131 8 mX8_here := ⟨⟨TX8, 37, rfl⟩, kmX8_131, wIX8_here, wVX8_here, wNX8, wCX8_here, by decide, by decide, by decide⟩
theorem kmX8_154 : Cond.methodLink RX8 154 yX8_readsLine ∈ kw_ws := kw_ws_in (List.mem_append_right _ (List.mem_of_getElem? (i := 965) (by decide +kernel))) rfl
theorem lvX8_154 : kw_lkV RX8 154 8 mX8_readsLine := ⟨⟨TX8, 37, rfl⟩, kmX8_154, wIX8_readsLine, wVX8_readsLine, wNX8, wCX8_readsLine, by decide, by decide, by decide⟩
theorem kmX8_141 : Cond.methodLink RX8 141 yX8_kindBy ∈ kw_ws := kw_ws_in (List.mem_append_right _ (List.mem_of_getElem? (i := 969) (by decide +kernel))) rfl
theorem lsX8_141 : kw_lkS RX8 141 mX8_kindBy := ⟨kmX8_141, wTX8_kindBy, wNX8, wCX8_kindBy, by decide, by decide, by decide⟩
theorem kmX8_147 : Cond.methodLink RX8 147 yX8_figure ∈ kw_ws := kw_ws_in (List.mem_append_right _ (List.mem_of_getElem? (i := 972) (by decide +kernel))) rfl
theorem lvX8_147 : kw_lkV RX8 147 8 mX8_figure := ⟨⟨TX8, 37, rfl⟩, kmX8_147, wIX8_figure, wVX8_figure, wNX8, wCX8_figure, by decide, by decide, by decide⟩
theorem kmL_56 : Cond.methodLink RL 56 yX8_town ∈ kw_ws := kw_ws_in (List.mem_append_right _ (List.mem_of_getElem? (i := 976) (by decide +kernel))) rfl
theorem lvL_56 : kw_lkV RL 56 8 mX8_town := ⟨⟨TX8, 37, rfl⟩, kmL_56, wIX8_town, wVX8_town, wNX8, wCX8_town, by decide, by decide, by decide⟩
theorem kmL_72 : Cond.methodLink RL 72 yX8_hang ∈ kw_ws := kw_ws_in (List.mem_append_right _ (List.mem_of_getElem? (i := 980) (by decide +kernel))) rfl
theorem lvL_72 : kw_lkV RL 72 8 mX8_hang := ⟨⟨TX8, 37, rfl⟩, kmL_72, wIX8_hang, wVX8_hang, wNX8, wCX8_hang, by decide, by decide, by decide⟩
theorem kmX8_211 : Cond.methodLink RX8 211 yX8_isLine ∈ kw_ws := kw_ws_in (List.mem_append_right _ (List.mem_of_getElem? (i := 984) (by decide +kernel))) rfl
theorem lvX8_211 : kw_lkV RX8 211 8 mX8_isLine := ⟨⟨TX8, 37, rfl⟩, kmX8_211, wIX8_isLine, wVX8_isLine, wNX8, wCX8_isLine, by decide, by decide, by decide⟩
theorem kmX8_185 : Cond.methodLink RX8 185 yX8_has ∈ kw_ws := kw_ws_in (List.mem_append_right _ (List.mem_of_getElem? (i := 988) (by decide +kernel))) rfl
theorem lsX8_185 : kw_lkS RX8 185 mX8_has := ⟨kmX8_185, wTX8_has, wNX8, wCX8_has, by decide, by decide, by decide⟩
theorem kmX8_214 : Cond.methodLink RX8 214 yX8_turnLine ∈ kw_ws := kw_ws_in (List.mem_append_right _ (List.mem_of_getElem? (i := 991) (by decide +kernel))) rfl
theorem lvX8_214 : kw_lkV RX8 214 8 mX8_turnLine := ⟨⟨TX8, 37, rfl⟩, kmX8_214, wIX8_turnLine, wVX8_turnLine, wNX8, wCX8_turnLine, by decide, by decide, by decide⟩
theorem kmX8_208 : Cond.methodLink RX8 208 yX8_note ∈ kw_ws := kw_ws_in (List.mem_append_right _ (List.mem_of_getElem? (i := 995) (by decide +kernel))) rfl
theorem lvX8_208 : kw_lkV RX8 208 8 mX8_note := ⟨⟨TX8, 37, rfl⟩, kmX8_208, wIX8_note, wVX8_note, wNX8, wCX8_note, by decide, by decide, by decide⟩
theorem kmX8_192 : Cond.methodLink RX8 192 yX8_write ∈ kw_ws := kw_ws_in (List.mem_append_right _ (List.mem_of_getElem? (i := 999) (by decide +kernel))) rfl
theorem lvX8_192 : kw_lkV RX8 192 8 mX8_write := ⟨⟨TX8, 37, rfl⟩, kmX8_192, wIX8_write, wVX8_write, wNX8, wCX8_write, by decide, by decide, by decide⟩
theorem kmX8_217 : Cond.methodLink RX8 217 yX8_bits ∈ kw_ws := kw_ws_in (List.mem_append_right _ (List.mem_of_getElem? (i := 1003) (by decide +kernel))) rfl
theorem lsX8_217 : kw_lkS RX8 217 mX8_bits := ⟨kmX8_217, wTX8_bits, wNX8, wCX8_bits, by decide, by decide, by decide⟩
theorem kmL_76 : Cond.methodLink RL 76 yX8_take ∈ kw_ws := kw_ws_in (List.mem_append_right _ (List.mem_of_getElem? (i := 1006) (by decide +kernel))) rfl
theorem lvL_76 : kw_lkV RL 76 8 mX8_take := ⟨⟨TX8, 37, rfl⟩, kmL_76, wIX8_take, wVX8_take, wNX8, wCX8_take, by decide, by decide, by decide⟩
theorem kmL_81 : Cond.methodLink RL 81 yX8_hour ∈ kw_ws := kw_ws_in (List.mem_append_right _ (List.mem_of_getElem? (i := 1010) (by decide +kernel))) rfl
theorem lvL_81 : kw_lkV RL 81 8 mX8_hour := ⟨⟨TX8, 37, rfl⟩, kmL_81, wIX8_hour, wVX8_hour, wNX8, wCX8_hour, by decide, by decide, by decide⟩
theorem kmX8_220 : Cond.methodLink RX8 220 yX8_pass ∈ kw_ws := kw_ws_in (List.mem_append_right _ (List.mem_of_getElem? (i := 1014) (by decide +kernel))) rfl
theorem lvX8_220 : kw_lkV RX8 220 8 mX8_pass := ⟨⟨TX8, 37, rfl⟩, kmX8_220, wIX8_pass, wVX8_pass, wNX8, wCX8_pass, by decide, by decide, by decide⟩
theorem kmX8_196 : Cond.methodLink RX8 196 yX8_windAt ∈ kw_ws := kw_ws_in (List.mem_append_right _ (List.mem_of_getElem? (i := 1018) (by decide +kernel))) rfl
theorem lvX8_196 : kw_lkV RX8 196 8 mX8_windAt := ⟨⟨TX8, 37, rfl⟩, kmX8_196, wIX8_windAt, wVX8_windAt, wNX8, wCX8_windAt, by decide, by decide, by decide⟩
theorem kmX8_199 : Cond.methodLink RX8 199 yX8_milesBy ∈ kw_ws := kw_ws_in (List.mem_append_right _ (List.mem_of_getElem? (i := 1022) (by decide +kernel))) rfl
theorem lvX8_199 : kw_lkV RX8 199 8 mX8_milesBy := ⟨⟨TX8, 37, rfl⟩, kmX8_199, wIX8_milesBy, wVX8_milesBy, wNX8, wCX8_milesBy, by decide, by decide, by decide⟩
theorem kmX8_189 : Cond.methodLink RX8 189 yX8_pullOf ∈ kw_ws := kw_ws_in (List.mem_append_right _ (List.mem_of_getElem? (i := 1026) (by decide +kernel))) rfl
theorem lvX8_189 : kw_lkV RX8 189 8 mX8_pullOf := ⟨⟨TX8, 37, rfl⟩, kmX8_189, wIX8_pullOf, wVX8_pullOf, wNX8, wCX8_pullOf, by decide, by decide, by decide⟩
theorem kmX8_181 : Cond.methodLink RX8 181 yX8_pullBy ∈ kw_ws := kw_ws_in (List.mem_append_right _ (List.mem_of_getElem? (i := 1030) (by decide +kernel))) rfl
theorem lsX8_181 : kw_lkS RX8 181 mX8_pullBy := ⟨kmX8_181, wTX8_pullBy, wNX8, wCX8_pullBy, by decide, by decide, by decide⟩
theorem kmX8_202 : Cond.methodLink RX8 202 yX8_turnBy ∈ kw_ws := kw_ws_in (List.mem_append_right _ (List.mem_of_getElem? (i := 1033) (by decide +kernel))) rfl
theorem lvX8_202 : kw_lkV RX8 202 8 mX8_turnBy := ⟨⟨TX8, 37, rfl⟩, kmX8_202, wIX8_turnBy, wVX8_turnBy, wNX8, wCX8_turnBy, by decide, by decide, by decide⟩
theorem kmX8_205 : Cond.methodLink RX8 205 yX8_wetBehind ∈ kw_ws := kw_ws_in (List.mem_append_right _ (List.mem_of_getElem? (i := 1037) (by decide +kernel))) rfl
theorem lvX8_205 : kw_lkV RX8 205 8 mX8_wetBehind := ⟨⟨TX8, 37, rfl⟩, kmX8_205, wIX8_wetBehind, wVX8_wetBehind, wNX8, wCX8_wetBehind, by decide, by decide, by decide⟩
theorem kmX8_223 : Cond.methodLink RX8 223 yX8_part ∈ kw_ws := kw_ws_in (List.mem_append_right _ (List.mem_of_getElem? (i := 1041) (by decide +kernel))) rfl
theorem lvX8_223 : kw_lkV RX8 223 8 mX8_part := ⟨⟨TX8, 37, rfl⟩, kmX8_223, wIX8_part, wVX8_part, wNX8, wCX8_part, by decide, by decide, by decide⟩
theorem kmL_85 : Cond.methodLink RL 85 yX8_undo ∈ kw_ws := kw_ws_in (List.mem_append_right _ (List.mem_of_getElem? (i := 1045) (by decide +kernel))) rfl
theorem lvL_85 : kw_lkV RL 85 8 mX8_undo := ⟨⟨TX8, 37, rfl⟩, kmL_85, wIX8_undo, wVX8_undo, wNX8, wCX8_undo, by decide, by decide, by decide⟩
theorem kmX8_227 : Cond.methodLink RX8 227 yX8_read ∈ kw_ws := kw_ws_in (List.mem_append_right _ (List.mem_of_getElem? (i := 1049) (by decide +kernel))) rfl
theorem lvX8_227 : kw_lkV RX8 227 8 mX8_read := ⟨⟨TX8, 37, rfl⟩, kmX8_227, wIX8_read, wVX8_read, wNX8, wCX8_read, by decide, by decide, by decide⟩
theorem kmL_89 : Cond.methodLink RL 89 yX8_keep ∈ kw_ws := kw_ws_in (List.mem_append_right _ (List.mem_of_getElem? (i := 1053) (by decide +kernel))) rfl
theorem lvL_89 : kw_lkV RL 89 8 mX8_keep := ⟨⟨TX8, 37, rfl⟩, kmL_89, wIX8_keep, wVX8_keep, wNX8, wCX8_keep, by decide, by decide, by decide⟩
theorem kmL_93 : Cond.methodLink RL 93 yX8_on ∈ kw_ws := kw_ws_in (List.mem_append_right _ (List.mem_of_getElem? (i := 1057) (by decide +kernel))) rfl
theorem lvL_93 : kw_lkV RL 93 8 mX8_on := ⟨⟨TX8, 37, rfl⟩, kmL_93, wIX8_on, wVX8_on, wNX8, wCX8_on, by decide, by decide, by decide⟩
theorem kmL_60 : Cond.methodLink RL 60 yX8_line ∈ kw_ws := kw_ws_in (List.mem_append_right _ (List.mem_of_getElem? (i := 1061) (by decide +kernel))) rfl
theorem lvL_60 : kw_lkV RL 60 8 mX8_line := ⟨⟨TX8, 37, rfl⟩, kmL_60, wIX8_line, wVX8_line, wNX8, wCX8_line, by decide, by decide, by decide⟩
theorem kmX8_230 : Cond.methodLink RX8 230 yX8_lineOf ∈ kw_ws := kw_ws_in (List.mem_append_right _ (List.mem_of_getElem? (i := 1065) (by decide +kernel))) rfl
theorem lvX8_230 : kw_lkV RX8 230 8 mX8_lineOf := ⟨⟨TX8, 37, rfl⟩, kmX8_230, wIX8_lineOf, wVX8_lineOf, wNX8, wCX8_lineOf, by decide, by decide, by decide⟩
theorem kmL_64 : Cond.methodLink RL 64 yX8_mark ∈ kw_ws := kw_ws_in (List.mem_append_right _ (List.mem_of_getElem? (i := 1069) (by decide +kernel))) rfl
theorem lvL_64 : kw_lkV RL 64 8 mX8_mark := ⟨⟨TX8, 37, rfl⟩, kmL_64, wIX8_mark, wVX8_mark, wNX8, wCX8_mark, by decide, by decide, by decide⟩
theorem kmX8_233 : Cond.methodLink RX8 233 yX8_isA ∈ kw_ws := kw_ws_in (List.mem_append_right _ (List.mem_of_getElem? (i := 1073) (by decide +kernel))) rfl
theorem lsX8_233 : kw_lkS RX8 233 mX8_isA := ⟨kmX8_233, wTX8_isA, wNX8, wCX8_isA, by decide, by decide, by decide⟩
theorem kmX8_236 : Cond.methodLink RX8 236 yX8_hoursTill ∈ kw_ws := kw_ws_in (List.mem_append_right _ (List.mem_of_getElem? (i := 1076) (by decide +kernel))) rfl
theorem lvX8_236 : kw_lkV RX8 236 8 mX8_hoursTill := ⟨⟨TX8, 37, rfl⟩, kmX8_236, wIX8_hoursTill, wVX8_hoursTill, wNX8, wCX8_hoursTill, by decide, by decide, by decide⟩
theorem kmX8_240 : Cond.methodLink RX8 240 yX8_lesserOnes ∈ kw_ws := kw_ws_in (List.mem_append_right _ (List.mem_of_getElem? (i := 1080) (by decide +kernel))) rfl
theorem lvX8_240 : kw_lkV RX8 240 8 mX8_lesserOnes := ⟨⟨TX8, 37, rfl⟩, kmX8_240, wIX8_lesserOnes, wVX8_lesserOnes, wNX8, wCX8_lesserOnes, by decide, by decide, by decide⟩
theorem kmL_68 : Cond.methodLink RL 68 yX8_wind ∈ kw_ws := kw_ws_in (List.mem_append_right _ (List.mem_of_getElem? (i := 1084) (by decide +kernel))) rfl
theorem lvL_68 : kw_lkV RL 68 8 mX8_wind := ⟨⟨TX8, 37, rfl⟩, kmL_68, wIX8_wind, wVX8_wind, wNX8, wCX8_wind, by decide, by decide, by decide⟩
theorem kmL_97 : Cond.methodLink RL 97 yX8_goes ∈ kw_ws := kw_ws_in (List.mem_append_right _ (List.mem_of_getElem? (i := 1088) (by decide +kernel))) rfl
theorem lvL_97 : kw_lkV RL 97 8 mX8_goes := ⟨⟨TX8, 37, rfl⟩, kmL_97, wIX8_goes, wVX8_goes, wNX8, wCX8_goes, by decide, by decide, by decide⟩
theorem kmX8_243 : Cond.methodLink RX8 243 yX8_isSet ∈ kw_ws := kw_ws_in (List.mem_append_right _ (List.mem_of_getElem? (i := 1092) (by decide +kernel))) rfl
theorem lvX8_243 : kw_lkV RX8 243 8 mX8_isSet := ⟨⟨TX8, 37, rfl⟩, kmX8_243, wIX8_isSet, wVX8_isSet, wNX8, wCX8_isSet, by decide, by decide, by decide⟩
theorem kmL_101 : Cond.methodLink RL 101 yX8_even ∈ kw_ws := kw_ws_in (List.mem_append_right _ (List.mem_of_getElem? (i := 1096) (by decide +kernel))) rfl
theorem lvL_101 : kw_lkV RL 101 8 mX8_even := ⟨⟨TX8, 37, rfl⟩, kmL_101, wIX8_even, wVX8_even, wNX8, wCX8_even, by decide, by decide, by decide⟩
theorem kmX8_246 : Cond.methodLink RX8 246 yX8_linenOf ∈ kw_ws := kw_ws_in (List.mem_append_right _ (List.mem_of_getElem? (i := 1100) (by decide +kernel))) rfl
theorem lvX8_246 : kw_lkV RX8 246 8 mX8_linenOf := ⟨⟨TX8, 37, rfl⟩, kmX8_246, wIX8_linenOf, wVX8_linenOf, wNX8, wCX8_linenOf, by decide, by decide, by decide⟩
theorem kmL_105 : Cond.methodLink RL 105 yX8_fast ∈ kw_ws := kw_ws_in (List.mem_append_right _ (List.mem_of_getElem? (i := 1104) (by decide +kernel))) rfl
theorem lvL_105 : kw_lkV RL 105 8 mX8_fast := ⟨⟨TX8, 37, rfl⟩, kmL_105, wIX8_fast, wVX8_fast, wNX8, wCX8_fast, by decide, by decide, by decide⟩
theorem kmL_109 : Cond.methodLink RL 109 yX8_wet ∈ kw_ws := kw_ws_in (List.mem_append_right _ (List.mem_of_getElem? (i := 1108) (by decide +kernel))) rfl
theorem lvL_109 : kw_lkV RL 109 8 mX8_wet := ⟨⟨TX8, 37, rfl⟩, kmL_109, wIX8_wet, wVX8_wet, wNX8, wCX8_wet, by decide, by decide, by decide⟩
theorem kmX8_249 : Cond.methodLink RX8 249 yX8_wetOfAll ∈ kw_ws := kw_ws_in (List.mem_append_right _ (List.mem_of_getElem? (i := 1112) (by decide +kernel))) rfl
theorem lvX8_249 : kw_lkV RX8 249 8 mX8_wetOfAll := ⟨⟨TX8, 37, rfl⟩, kmX8_249, wIX8_wetOfAll, wVX8_wetOfAll, wNX8, wCX8_wetOfAll, by decide, by decide, by decide⟩
theorem kmL_113 : Cond.methodLink RL 113 yX8_sail ∈ kw_ws := kw_ws_in (List.mem_append_right _ (List.mem_of_getElem? (i := 1116) (by decide +kernel))) rfl
theorem lvL_113 : kw_lkV RL 113 8 mX8_sail := ⟨⟨TX8, 37, rfl⟩, kmL_113, wIX8_sail, wVX8_sail, wNX8, wCX8_sail, by decide, by decide, by decide⟩
theorem kmX8_252 : Cond.methodLink RX8 252 yX8_askedPlan ∈ kw_ws := kw_ws_in (List.mem_append_right _ (List.mem_of_getElem? (i := 1120) (by decide +kernel))) rfl
theorem lvX8_252 : kw_lkV RX8 252 8 mX8_askedPlan := ⟨⟨TX8, 37, rfl⟩, kmX8_252, wIX8_askedPlan, wVX8_askedPlan, wNX8, wCX8_askedPlan, by decide, by decide, by decide⟩
theorem kmL_117 : Cond.methodLink RL 117 yX8_dry ∈ kw_ws := kw_ws_in (List.mem_append_right _ (List.mem_of_getElem? (i := 1124) (by decide +kernel))) rfl
theorem lvL_117 : kw_lkV RL 117 8 mX8_dry := ⟨⟨TX8, 37, rfl⟩, kmL_117, wIX8_dry, wVX8_dry, wNX8, wCX8_dry, by decide, by decide, by decide⟩
theorem kmL_121 : Cond.methodLink RL 121 yX8_far ∈ kw_ws := kw_ws_in (List.mem_append_right _ (List.mem_of_getElem? (i := 1128) (by decide +kernel))) rfl
theorem lvL_121 : kw_lkV RL 121 8 mX8_far := ⟨⟨TX8, 37, rfl⟩, kmL_121, wIX8_far, wVX8_far, wNX8, wCX8_far, by decide, by decide, by decide⟩
theorem kmX8_259 : Cond.methodLink RX8 259 yX8_setHours ∈ kw_ws := kw_ws_in (List.mem_append_right _ (List.mem_of_getElem? (i := 1132) (by decide +kernel))) rfl
theorem lvX8_259 : kw_lkV RX8 259 8 mX8_setHours := ⟨⟨TX8, 37, rfl⟩, kmX8_259, wIX8_setHours, wVX8_setHours, wNX8, wCX8_setHours, by decide, by decide, by decide⟩
theorem kmX8_262 : Cond.methodLink RX8 262 yX8_farBy ∈ kw_ws := kw_ws_in (List.mem_append_right _ (List.mem_of_getElem? (i := 1136) (by decide +kernel))) rfl
theorem lvX8_262 : kw_lkV RX8 262 8 mX8_farBy := ⟨⟨TX8, 37, rfl⟩, kmX8_262, wIX8_farBy, wVX8_farBy, wNX8, wCX8_farBy, by decide, by decide, by decide⟩
theorem kmX8_256 : Cond.methodLink RX8 256 yX8_isTurn ∈ kw_ws := kw_ws_in (List.mem_append_right _ (List.mem_of_getElem? (i := 1141) (by decide +kernel))) rfl
theorem lsX8_256 : kw_lkS RX8 256 mX8_isTurn := ⟨kmX8_256, wTX8_isTurn, wNX8, wCX8_isTurn, by decide, by decide, by decide⟩
theorem kmL_125 : Cond.methodLink RL 125 yX8_soon ∈ kw_ws := kw_ws_in (List.mem_append_right _ (List.mem_of_getElem? (i := 1144) (by decide +kernel))) rfl
theorem lvL_125 : kw_lkV RL 125 8 mX8_soon := ⟨⟨TX8, 37, rfl⟩, kmL_125, wIX8_soon, wVX8_soon, wNX8, wCX8_soon, by decide, by decide, by decide⟩
theorem kmX8_268 : Cond.methodLink RX8 268 yX8_mostOf ∈ kw_ws := kw_ws_in (List.mem_append_right _ (List.mem_of_getElem? (i := 1148) (by decide +kernel))) rfl
theorem lvX8_268 : kw_lkV RX8 268 8 mX8_mostOf := ⟨⟨TX8, 37, rfl⟩, kmX8_268, wIX8_mostOf, wVX8_mostOf, wNX8, wCX8_mostOf, by decide, by decide, by decide⟩
theorem kmX8_265 : Cond.methodLink RX8 265 yX8_greater ∈ kw_ws := kw_ws_in (List.mem_append_right _ (List.mem_of_getElem? (i := 1152) (by decide +kernel))) rfl
theorem lsX8_265 : kw_lkS RX8 265 mX8_greater := ⟨kmX8_265, wTX8_greater, wNX8, wCX8_greater, by decide, by decide, by decide⟩
theorem kmL_129 : Cond.methodLink RL 129 yX8_least ∈ kw_ws := kw_ws_in (List.mem_append_right _ (List.mem_of_getElem? (i := 1155) (by decide +kernel))) rfl
theorem lvL_129 : kw_lkV RL 129 8 mX8_least := ⟨⟨TX8, 37, rfl⟩, kmL_129, wIX8_least, wVX8_least, wNX8, wCX8_least, by decide, by decide, by decide⟩
theorem kmL_133 : Cond.methodLink RL 133 yX8_ways ∈ kw_ws := kw_ws_in (List.mem_append_right _ (List.mem_of_getElem? (i := 1159) (by decide +kernel))) rfl
theorem lvL_133 : kw_lkV RL 133 8 mX8_ways := ⟨⟨TX8, 37, rfl⟩, kmL_133, wIX8_ways, wVX8_ways, wNX8, wCX8_ways, by decide, by decide, by decide⟩
theorem kmL_137 : Cond.methodLink RL 137 yX8_kinds ∈ kw_ws := kw_ws_in (List.mem_append_right _ (List.mem_of_getElem? (i := 1163) (by decide +kernel))) rfl
theorem lvL_137 : kw_lkV RL 137 8 mX8_kinds := ⟨⟨TX8, 37, rfl⟩, kmL_137, wIX8_kinds, wVX8_kinds, wNX8, wCX8_kinds, by decide, by decide, by decide⟩
theorem kmX8_271 : Cond.methodLink RX8 271 yX8_askedPulls ∈ kw_ws := kw_ws_in (List.mem_append_right _ (List.mem_of_getElem? (i := 1167) (by decide +kernel))) rfl
theorem lvX8_271 : kw_lkV RX8 271 8 mX8_askedPulls := ⟨⟨TX8, 37, rfl⟩, kmX8_271, wIX8_askedPulls, wVX8_askedPulls, wNX8, wCX8_askedPulls, by decide, by decide, by decide⟩
theorem kmX8_274 : Cond.methodLink RX8 274 yX8_pullsSo ∈ kw_ws := kw_ws_in (List.mem_append_right _ (List.mem_of_getElem? (i := 1171) (by decide +kernel))) rfl
theorem lvX8_274 : kw_lkV RX8 274 8 mX8_pullsSo := ⟨⟨TX8, 37, rfl⟩, kmX8_274, wIX8_pullsSo, wVX8_pullsSo, wNX8, wCX8_pullsSo, by decide, by decide, by decide⟩
theorem kmL_141 : Cond.methodLink RL 141 yX8_areas ∈ kw_ws := kw_ws_in (List.mem_append_right _ (List.mem_of_getElem? (i := 1175) (by decide +kernel))) rfl
theorem lvL_141 : kw_lkV RL 141 8 mX8_areas := ⟨⟨TX8, 37, rfl⟩, kmL_141, wIX8_areas, wVX8_areas, wNX8, wCX8_areas, by decide, by decide, by decide⟩
theorem kmL_145 : Cond.methodLink RL 145 yX8_rival ∈ kw_ws := kw_ws_in (List.mem_append_right _ (List.mem_of_getElem? (i := 1179) (by decide +kernel))) rfl
theorem lvL_145 : kw_lkV RL 145 8 mX8_rival := ⟨⟨TX8, 37, rfl⟩, kmL_145, wIX8_rival, wVX8_rival, wNX8, wCX8_rival, by decide, by decide, by decide⟩
theorem kmL_149 : Cond.methodLink RL 149 yX8_mid ∈ kw_ws := kw_ws_in (List.mem_append_right _ (List.mem_of_getElem? (i := 1183) (by decide +kernel))) rfl
theorem lvL_149 : kw_lkV RL 149 8 mX8_mid := ⟨⟨TX8, 37, rfl⟩, kmL_149, wIX8_mid, wVX8_mid, wNX8, wCX8_mid, by decide, by decide, by decide⟩
theorem kmX8_281 : Cond.methodLink RX8 281 yX8_gustMiles ∈ kw_ws := kw_ws_in (List.mem_append_right _ (List.mem_of_getElem? (i := 1187) (by decide +kernel))) rfl
theorem lvX8_281 : kw_lkV RX8 281 8 mX8_gustMiles := ⟨⟨TX8, 37, rfl⟩, kmX8_281, wIX8_gustMiles, wVX8_gustMiles, wNX8, wCX8_gustMiles, by decide, by decide, by decide⟩
theorem kmX8_284 : Cond.methodLink RX8 284 yX8_weightOf ∈ kw_ws := kw_ws_in (List.mem_append_right _ (List.mem_of_getElem? (i := 1191) (by decide +kernel))) rfl
theorem lvX8_284 : kw_lkV RX8 284 8 mX8_weightOf := ⟨⟨TX8, 37, rfl⟩, kmX8_284, wIX8_weightOf, wVX8_weightOf, wNX8, wCX8_weightOf, by decide, by decide, by decide⟩
theorem kmX8_277 : Cond.methodLink RX8 277 yX8_power ∈ kw_ws := kw_ws_in (List.mem_append_right _ (List.mem_of_getElem? (i := 1195) (by decide +kernel))) rfl
theorem lsX8_277 : kw_lkS RX8 277 mX8_power := ⟨kmX8_277, wTX8_power, wNX8, wCX8_power, by decide, by decide, by decide⟩
theorem kmL_153 : Cond.methodLink RL 153 yX8_odds ∈ kw_ws := kw_ws_in (List.mem_append_right _ (List.mem_of_getElem? (i := 1199) (by decide +kernel))) rfl
theorem lvL_153 : kw_lkV RL 153 8 mX8_odds := ⟨⟨TX8, 37, rfl⟩, kmL_153, wIX8_odds, wVX8_odds, wNX8, wCX8_odds, by decide, by decide, by decide⟩
theorem kmL_157 : Cond.methodLink RL 157 yX8_lots ∈ kw_ws := kw_ws_in (List.mem_append_right _ (List.mem_of_getElem? (i := 1203) (by decide +kernel))) rfl
theorem lvL_157 : kw_lkV RL 157 8 mX8_lots := ⟨⟨TX8, 37, rfl⟩, kmL_157, wIX8_lots, wVX8_lots, wNX8, wCX8_lots, by decide, by decide, by decide⟩
theorem kmL_161 : Cond.methodLink RL 161 yX8_asked ∈ kw_ws := kw_ws_in (List.mem_append_right _ (List.mem_of_getElem? (i := 1210) (by decide +kernel))) rfl
theorem lvL_161 : kw_lkV RL 161 8 mX8_asked := ⟨⟨TX8, 37, rfl⟩, kmL_161, wIX8_asked, wVX8_asked, wNX8, wCX8_asked, by decide, by decide, by decide⟩
theorem kmL_166 : Cond.methodLink RL 166 yX8_upper ∈ kw_ws := kw_ws_in (List.mem_append_right _ (List.mem_of_getElem? (i := 1214) (by decide +kernel))) rfl
theorem lvL_166 : kw_lkV RL 166 8 mX8_upper := ⟨⟨TX8, 37, rfl⟩, kmL_166, wIX8_upper, wVX8_upper, wNX8, wCX8_upper, by decide, by decide, by decide⟩
theorem kmL_170 : Cond.methodLink RL 170 yX8_lower ∈ kw_ws := kw_ws_in (List.mem_append_right _ (List.mem_of_getElem? (i := 1218) (by decide +kernel))) rfl
theorem lvL_170 : kw_lkV RL 170 8 mX8_lower := ⟨⟨TX8, 37, rfl⟩, kmL_170, wIX8_lower, wVX8_lower, wNX8, wCX8_lower, by decide, by decide, by decide⟩
theorem kmL_174 : Cond.methodLink RL 174 yX8_count ∈ kw_ws := kw_ws_in (List.mem_append_right _ (List.mem_of_getElem? (i := 1222) (by decide +kernel))) rfl
theorem lvL_174 : kw_lkV RL 174 8 mX8_count := ⟨⟨TX8, 37, rfl⟩, kmL_174, wIX8_count, wVX8_count, wNX8, wCX8_count, by decide, by decide, by decide⟩
theorem kmX8_301 : Cond.methodLink RX8 301 yX8_tells ∈ kw_ws := kw_ws_in (List.mem_append_right _ (List.mem_of_getElem? (i := 1226) (by decide +kernel))) rfl
theorem lvX8_301 : kw_lkV RX8 301 8 mX8_tells := ⟨⟨TX8, 37, rfl⟩, kmX8_301, wIX8_tells, wVX8_tells, wNX8, wCX8_tells, by decide, by decide, by decide⟩
theorem kmX8_295 : Cond.methodLink RX8 295 yX8_howMany ∈ kw_ws := kw_ws_in (List.mem_append_right _ (List.mem_of_getElem? (i := 1230) (by decide +kernel))) rfl
theorem lvX8_295 : kw_lkV RX8 295 8 mX8_howMany := ⟨⟨TX8, 37, rfl⟩, kmX8_295, wIX8_howMany, wVX8_howMany, wNX8, wCX8_howMany, by decide, by decide, by decide⟩
theorem kmX8_298 : Cond.methodLink RX8 298 yX8_there ∈ kw_ws := kw_ws_in (List.mem_append_right _ (List.mem_of_getElem? (i := 1234) (by decide +kernel))) rfl
theorem lvX8_298 : kw_lkV RX8 298 8 mX8_there := ⟨⟨TX8, 37, rfl⟩, kmX8_298, wIX8_there, wVX8_there, wNX8, wCX8_there, by decide, by decide, by decide⟩
theorem kmL_178 : Cond.methodLink RL 178 yX8_miles ∈ kw_ws := kw_ws_in (List.mem_append_right _ (List.mem_of_getElem? (i := 1238) (by decide +kernel))) rfl
theorem lvL_178 : kw_lkV RL 178 8 mX8_miles := ⟨⟨TX8, 37, rfl⟩, kmL_178, wIX8_miles, wVX8_miles, wNX8, wCX8_miles, by decide, by decide, by decide⟩
theorem kmL_182 : Cond.methodLink RL 182 yX8_finding ∈ kw_ws := kw_ws_in (List.mem_append_right _ (List.mem_of_getElem? (i := 1242) (by decide +kernel))) rfl
theorem lvL_182 : kw_lkV RL 182 8 mX8_finding := ⟨⟨TX8, 37, rfl⟩, kmL_182, wIX8_finding, wVX8_finding, wNX8, wCX8_finding, by decide, by decide, by decide⟩
theorem kmL_186 : Cond.methodLink RL 186 yX8_findings ∈ kw_ws := kw_ws_in (List.mem_append_right _ (List.mem_of_getElem? (i := 1246) (by decide +kernel))) rfl
theorem lvL_186 : kw_lkV RL 186 8 mX8_findings := ⟨⟨TX8, 37, rfl⟩, kmL_186, wIX8_findings, wVX8_findings, wNX8, wCX8_findings, by decide, by decide, by decide⟩
theorem kmL_190 : Cond.methodLink RL 190 yX8_digest ∈ kw_ws := kw_ws_in (List.mem_append_right _ (List.mem_of_getElem? (i := 1250) (by decide +kernel))) rfl
theorem lvL_190 : kw_lkV RL 190 8 mX8_digest := ⟨⟨TX8, 37, rfl⟩, kmL_190, wIX8_digest, wVX8_digest, wNX8, wCX8_digest, by decide, by decide, by decide⟩
theorem kmX8_309 : Cond.methodLink RX8 309 yX8_mix ∈ kw_ws := kw_ws_in (List.mem_append_right _ (List.mem_of_getElem? (i := 1255) (by decide +kernel))) rfl
theorem lvX8_309 : kw_lkV RX8 309 8 mX8_mix := ⟨⟨TX8, 37, rfl⟩, kmX8_309, wIX8_mix, wVX8_mix, wNX8, wCX8_mix, by decide, by decide, by decide⟩
theorem kmX8_314 : Cond.methodLink RX8 314 yX8_mixTown ∈ kw_ws := kw_ws_in (List.mem_append_right _ (List.mem_of_getElem? (i := 1260) (by decide +kernel))) rfl
theorem lvX8_314 : kw_lkV RX8 314 8 mX8_mixTown := ⟨⟨TX8, 37, rfl⟩, kmX8_314, wIX8_mixTown, wVX8_mixTown, wNX8, wCX8_mixTown, by decide, by decide, by decide⟩
theorem lnX1_48 : kw_lkN RX1 48 mX7_pull := ⟨by decide, wTX7_pull, wNX7, wCX7_pull, by decide, by decide, by decide⟩
theorem lnX5_90 : kw_lkN RX5 90 mX7_weather := ⟨by decide, wTX7_weather, wNX7, wCX7_weather, by decide, by decide, by decide⟩
theorem lnX1_61 : kw_lkN RX1 61 mX7_isA := ⟨by decide, wTX7_isA, wNX7, wCX7_isA, by decide, by decide, by decide⟩
theorem ckJ6_265 : Cond.constant RJ6 265 (1431655765) ∈ kw_ws := kw_ws_in (List.mem_append_right _ (List.mem_of_getElem? (i := 487) (by decide +kernel))) rfl
theorem ckJ6_266 : Cond.constant RJ6 266 (858993459) ∈ kw_ws := kw_ws_in (List.mem_append_right _ (List.mem_of_getElem? (i := 488) (by decide +kernel))) rfl
theorem ckJ6_267 : Cond.constant RJ6 267 (252645135) ∈ kw_ws := kw_ws_in (List.mem_append_right _ (List.mem_of_getElem? (i := 489) (by decide +kernel))) rfl
theorem ckX8_255 : Cond.constant RX8 255 (-1048576) ∈ kw_ws := kw_ws_in (List.mem_append_right _ (List.mem_of_getElem? (i := 1140) (by decide +kernel))) rfl
theorem ckX8_290 : Cond.constant RX8 290 (2147483646) ∈ kw_ws := kw_ws_in (List.mem_append_right _ (List.mem_of_getElem? (i := 1207) (by decide +kernel))) rfl
theorem ckX7_295 : Cond.constantLong RX7 295 (12) ∈ kw_ws := kw_ws_in (List.mem_append_right _ (List.mem_of_getElem? (i := 680) (by decide +kernel))) rfl
theorem ckX7_308 : Cond.constantLong RX7 308 (2147483647) ∈ kw_ws := kw_ws_in (List.mem_append_right _ (List.mem_of_getElem? (i := 706) (by decide +kernel))) rfl
theorem ckX7_310 : Cond.constantLong RX7 310 (48271) ∈ kw_ws := kw_ws_in (List.mem_append_right _ (List.mem_of_getElem? (i := 707) (by decide +kernel))) rfl
theorem ckX7_337 : Cond.constantLong RX7 337 (17) ∈ kw_ws := kw_ws_in (List.mem_append_right _ (List.mem_of_getElem? (i := 749) (by decide +kernel))) rfl
theorem ckX7_339 : Cond.constantLong RX7 339 (31) ∈ kw_ws := kw_ws_in (List.mem_append_right _ (List.mem_of_getElem? (i := 750) (by decide +kernel))) rfl
theorem ckX3_51 : Cond.constantLong RX3 51 (31) ∈ kw_ws := kw_ws_in (List.mem_append_right _ (List.mem_of_getElem? (i := 756) (by decide +kernel))) rfl
theorem ckX8_288 : Cond.constantLong RX8 288 (12) ∈ kw_ws := kw_ws_in (List.mem_append_right _ (List.mem_of_getElem? (i := 1198) (by decide +kernel))) rfl
theorem ckX8_291 : Cond.constantLong RX8 291 (48271) ∈ kw_ws := kw_ws_in (List.mem_append_right _ (List.mem_of_getElem? (i := 1208) (by decide +kernel))) rfl
theorem ckX8_293 : Cond.constantLong RX8 293 (2147483647) ∈ kw_ws := kw_ws_in (List.mem_append_right _ (List.mem_of_getElem? (i := 1209) (by decide +kernel))) rfl
theorem ckX8_312 : Cond.constantLong RX8 312 (17) ∈ kw_ws := kw_ws_in (List.mem_append_right _ (List.mem_of_getElem? (i := 1254) (by decide +kernel))) rfl
theorem ckX8_304 : Cond.constantLong RX8 304 (31) ∈ kw_ws := kw_ws_in (List.mem_append_right _ (List.mem_of_getElem? (i := 1259) (by decide +kernel))) rfl
end
section
/-! ===== the class's cells, and the bounds that its numbers keep ===== -/
def KX : List kw_K1 := [.inr (7, [.ref 1, .ref 2, .ref 3, .ref 4, .ref 5, .ref 6, .ref 7, .ref 8, .ref 9, .ref 10, .ref 11]), .inr (3, [.int 0, .ref 12, .ref 13]), .inr (3, [.int 0, .ref 14, .ref 15]), .inr (2, [.ref 16, .int 0]), .inr (5, [.ref 17, .ref 18, .ref 19, .int 0, .int 0, .int 0, .int 0, .int 0]), .inr (3, [.int 0, .ref 20, .ref 21]), .inr (0, [.ref 22, .ref 23, .int 0, .int 0]), .inr (6, [.ref 24, .int 0, .ref 25, .ref 26, .ref 27, .int 0, .int 0, .int 0]), .inr (4, [.ref 28, .int 0, .int 0, .long 0, .long 0]), .inl (.inl 6), .inl (.inl 6), .inl (.inl 6), .inl (.inr (1, [29, 30, 31, 32, 33, 34])), .inl (.inl 6), .inl (.inr (1, [35, 36, 37, 38])), .inl (.inl 4), .inr (1, [.ref 39, .ref 40, .ref 41, .ref 42, .ref 43, .int 0, .int 0]), .inr (1, [.ref 44, .ref 45, .ref 46, .ref 47, .ref 48, .int 0, .int 0]), .inl (.inl 40), .inl (.inl 6), .inl (.inr (1, [49, 50, 51])), .inl (.inl 3), .inl (.inl 64), .inl (.inl 64), .inl (.inl 3), .inl (.inr (2, [52, 53, 54])), .inl (.inl 4), .inl (.inl 3), .inl (.inl 6), .inl (.inl 40), .inl (.inl 40), .inl (.inl 40), .inl (.inl 40), .inl (.inl 40), .inl (.inl 40), .inl (.inl 60), .inl (.inl 60), .inl (.inl 60), .inl (.inl 60), .inl (.inl 6), .inl (.inl 6), .inl (.inl 6), .inl (.inl 6), .inl (.inl 8), .inl (.inl 6), .inl (.inl 6), .inl (.inl 6), .inl (.inl 6), .inl (.inl 8), .inl (.inl 40), .inl (.inl 40), .inl (.inl 40), .inr (0, [.ref 55, .ref 56, .int 0, .int 0]), .inr (0, [.ref 57, .ref 58, .int 0, .int 0]), .inr (0, [.ref 59, .ref 60, .int 0, .int 0]), .inl (.inl 64), .inl (.inl 64), .inl (.inl 64), .inl (.inl 64), .inl (.inl 64), .inl (.inl 64)]
def KM : List kw_K1 := [.inr (8, [.int 0, .ref 1, .int 0, .long 0, .long 0, .ref 2, .ref 3, .ref 4, .ref 5, .ref 6, .int 0, .int 0, .ref 7, .ref 8, .ref 9, .ref 10, .ref 11, .int 0, .int 0, .int 0, .ref 12, .ref 13, .int 0, .int 0, .int 0, .int 0, .ref 14, .int 0, .ref 15, .ref 16, .ref 17, .ref 18, .ref 19, .ref 20, .ref 21, .ref 22, .long 0]), .inl (.inl 6), .inl (.inl 6), .inl (.inl 240), .inl (.inl 40), .inl (.inl 4), .inl (.inl 240), .inl (.inl 8), .inl (.inl 6), .inl (.inl 6), .inl (.inl 6), .inl (.inl 6), .inl (.inl 8), .inl (.inl 24), .inl (.inl 6), .inl (.inl 400), .inl (.inl 3), .inl (.inl 1233), .inl (.inl 192), .inl (.inl 192), .inl (.inl 3), .inl (.inl 64), .inl (.inl 64)]
abbrev kw_B : Type := Nat → Nat → Int × Int
def kw_I (b : kw_B) (σ : kw_S) : Prop := ∀ a j : Nat, (b a j).1 ≤ (σ.1 a j).toInt ∧ (σ.1 a j).toInt ≤ (b a j).2
theorem kw_I_ui {b : kw_B} {σ : kw_S} (h : kw_I b σ) {a i : Nat} {x : Int32} (h1 : (b a i).1 ≤ x.toInt) (h2 : x.toInt ≤ (b a i).2) : kw_I b (kw_ui σ a i x) := by
  intro c j
  by_cases hc : c = a
  · subst hc
    by_cases hj : j = i
    · subst hj
      simp only [kw_ui, upd, if_true]
      exact ⟨h1, h2⟩
    · simp only [kw_ui, upd, if_true, hj, if_false]
      exact h c j
  · simp only [kw_ui, hc, if_false]
    exact h c j
theorem kw_I_ul {b : kw_B} {σ : kw_S} (h : kw_I b σ) (a i : Nat) (x : Int64) : kw_I b (kw_ul σ a i x) := h
theorem kw_I_ua {b : kw_B} {σ : kw_S} (h : kw_I b σ) {a : Nat} {f : Nat → Int32} (h1 : ∀ j, (b a j).1 ≤ (f j).toInt ∧ (f j).toInt ≤ (b a j).2) : kw_I b (kw_ua σ a f) := by
  intro c j
  by_cases hc : c = a
  · subst hc
    simp only [kw_ua, if_true]
    exact h1 j
  · simp only [kw_ua, hc, if_false]
    exact h c j
/-- what isn't of the list stays -/
def kw_F (L : List Nat) (σ σ' : kw_S) : Prop := ∀ a : Nat, a ∉ L → σ'.1 a = σ.1 a
theorem kw_F.rf {L : List Nat} {σ : kw_S} : kw_F L σ σ := fun _ _ => rfl
theorem kw_F.tr {L L' : List Nat} {σ σ1 σ2 : kw_S} (h : kw_F L σ σ1) (h' : kw_F L' σ1 σ2) (hL : ∀ a ∈ L', a ∈ L) : kw_F L σ σ2 := fun a ha => (h' a (fun q => ha (hL a q))).trans (h a ha)
theorem kw_F_ui {L : List Nat} {σ σ' : kw_S} (h : kw_F L σ σ') {a i : Nat} {x : Int32} (ha : a ∈ L) : kw_F L σ (kw_ui σ' a i x) := by
  intro c hc
  have : ¬ c = a := fun q => hc (q ▸ ha)
  simp only [kw_ui, this, if_false]
  exact h c hc
theorem kw_F_ul {L : List Nat} {σ σ' : kw_S} (h : kw_F L σ σ') (a i : Nat) (x : Int64) : kw_F L σ (kw_ul σ' a i x) := h
theorem kw_F_ua {L : List Nat} {σ σ' : kw_S} (h : kw_F L σ σ') {a : Nat} {f : Nat → Int32} (ha : a ∈ L) : kw_F L σ (kw_ua σ' a f) := by
  intro c hc
  have : ¬ c = a := fun q => hc (q ▸ ha)
  simp only [kw_ua, this, if_false]
  exact h c hc
theorem kw_F.at {L : List Nat} {σ σ' : kw_S} (h : kw_F L σ σ') {a j : Nat} (ha : a ∉ L) : σ'.1 a j = σ.1 a j := by rw [h a ha]
theorem kw_nb {r : Int32} (h : r.toInt = 0 ∨ r.toInt = 1) : narrow .boolean (.int r) = .int r := by
  have e0 : (0 : Int32).toInt = 0 := rfl
  have e1 : (1 : Int32).toInt = 1 := rfl
  rcases h with h | h
  · have : r = 0 := Int32.toInt_inj.mp (h.trans e0.symm)
    subst this; rfl
  · have : r = 1 := Int32.toInt_inj.mp (h.trans e1.symm)
    subst this; rfl
theorem kw_hE : ∀ q ∈ kw_E0, q ∈ kw_E0 := fun _ h => h
def bX : kw_B := fun a j => match a with
  | 1 => (match j with | 0 => (40, 40) | _ => (-2147483648, 2147483647))
  | 2 => (match j with | 0 => (60, 60) | _ => (-2147483648, 2147483647))
  | 4 => (match j with | 3 => (0, 40) | _ => (-2147483648, 2147483647))
  | 5 => (match j with | 0 => (40, 40) | _ => (-2147483648, 2147483647))
  | 7 => (match j with | 6 => (0, 3) | _ => (-2147483648, 2147483647))
  | 13 => (-1, 40)
  | 15 => (-1, 60)
  | 16 => (match j with | 5 => (0, 6) | 6 => (0, 8) | _ => (-2147483648, 2147483647))
  | 17 => (match j with | 5 => (0, 6) | 6 => (0, 8) | _ => (-2147483648, 2147483647))
  | 21 => (-1, 40)
  | _ => (-2147483648, 2147483647)
end
section
theorem kw_sub {l : Launch} {d : Nat} {E : kw_E} {K : List kw_K1} {M : kw_M} {P : Option Value → kw_S → Prop} {pc : Nat} {lv lv' : List (Nat × Value)} {st : List Value} {σ : kw_S} (ks : List Nat) (hl : lv_pick lv ks = lv') (h : kw_AW l d E K M P pc lv' st σ) : kw_AW l d E K M P pc lv st σ := by
  intro p e R s m args below meth c H locs cells slots Q ls G A Cx Sx Rx Fx
  refine h p e R s m args below meth c H locs cells slots Q ls G A Cx ⟨Sx.1, Sx.2.1, Sx.2.2.1, lv_sub Sx.2.2.2 ks ?_⟩ Rx Fx
  rw [← hl]
  simp only [lv_pick, List.getElem?_map, List.map_filterMap]
theorem kw_iinc' {l : Launch} {d : Nat} {E : kw_E} {K : List kw_K1} {M : kw_M} {P : Option Value → kw_S → Prop} {pc : Nat} {lv : List (Nat × Value)} {st : List Value} {σ : kw_S} {i n k : Nat} {by_ : Int} {x : Int32} (lv' : Int32 → List (Nat × Value)) (hi : M.2[i]? = some (pc, .iinc n by_, 3)) (hk : lv[k]? = some (n, .int x)) (hn : n < M.1.2.2.2.1) (hb : (Int32.ofInt by_).toInt = by_) (hl : ∀ z : Int32, (n, .int z) :: lv.filter (fun q => !(q.1 == n) && !(q.1 + 1 == n && q.2.category == 2)) = lv' z) (h : ∀ z : Int32, z = x + Int32.ofInt by_ → z.toInt = (x.toInt + by_ + 2147483648) % 4294967296 - 2147483648 → kw_AW l d E K M P (pc + 3) (lv' z) st σ) : kw_AW l d E K M P pc lv st σ :=
  kw_iinc hi hk hn hb (fun z h1 h2 => by rw [hl z]; exact h z h1 h2)
theorem kw_remI (x y z : Int32) (h : z = x - x / y * y) : 0 ≤ x.toInt → 0 < y.toInt → 0 ≤ z.toInt ∧ z.toInt < y.toInt := by
  intro hx hy
  have e0 : (0 : Int32).toInt = 0 := rfl
  have hx' : ¬ x < 0 := fun q => by have := Int32.lt_iff_toInt_lt.mp q; omega
  have hy' : ¬ y < 0 := fun q => by have := Int32.lt_iff_toInt_lt.mp q; omega
  obtain ⟨a, ha, rfl⟩ := nI_of hx'
  obtain ⟨d, hd, rfl⟩ := nI_of hy'
  rw [nI_toInt hd] at hy ⊢
  have hd0 : 0 < d := by omega
  rw [pk_rem ha hd0 hd] at h
  subst h
  have hm := Nat.mod_lt a hd0
  rw [nI_toInt (by omega)]
  omega
theorem kw_mmax {l : Launch} {d : Nat} {E : kw_E} {K : List kw_K1} {M : kw_M} {P : Option Value → kw_S → Prop} {pc : Nat} {lv : List (Nat × Value)} {st : List Value} {σ : kw_S} {i idx : Nat} {x y : Int32} (hi : M.2[i]? = some (pc, .invokestatic idx, 3)) (hl : Cond.methodLink M.1.1 idx Lib.Math.max.name ∈ kw_ws ∧ Cond.static Lib.Math.max.name ∈ kw_ws ∧ Cond.initialized "java/lang/Math" ∈ kw_ws ∧ Cond.code Lib.Math.max.name Lib.Math.max.code 2 (some .int) ∈ kw_ws) (hd : 0 < d) (hc : (st.map fun v => v.category).sum ≤ 8)
    (h : ∀ z : Int32, z = (if x < y then y else x) → (z.toInt = x.toInt ∧ y.toInt ≤ x.toInt ∨ z.toInt = y.toInt ∧ x.toInt < y.toInt) → kw_AW l d E K M P (pc + 3) lv (.int z :: st) σ) : kw_AW l d E K M P pc lv (.int y :: .int x :: st) σ := by
  intro p e R s m args below meth c H locs cells slots Q ls G A Cx Sx Rx Fx
  have hts := Cx.2.2.2.2.2.2.1
  refine va_mmax Cx.1 Cx.2.1 (Cx.2.2.2.2.1.trans Sx.2.2.2.1.symm) Cx.2.2.2.2.2.1 (hts _ hl.1) (hts _ hl.2.1) (hts _ hl.2.2.1) (hts _ hl.2.2.2) (by omega) (by rw [kw_catsum]; omega) Rx.2.2.1 Rx.2.2.2 (kw_dec Cx hi) (h _ rfl ?_ p e R s m args below meth c H locs cells slots Q ls G A Cx Sx Rx Fx)
  by_cases q : x < y
  · rw [if_pos q]; exact Or.inr ⟨rfl, kw_ltI q⟩
  · rw [if_neg q]; exact Or.inl ⟨rfl, kw_nltI q⟩
theorem kw_mmin {l : Launch} {d : Nat} {E : kw_E} {K : List kw_K1} {M : kw_M} {P : Option Value → kw_S → Prop} {pc : Nat} {lv : List (Nat × Value)} {st : List Value} {σ : kw_S} {i idx : Nat} {x y : Int32} (hi : M.2[i]? = some (pc, .invokestatic idx, 3)) (hl : Cond.methodLink M.1.1 idx Lib.Math.min.name ∈ kw_ws ∧ Cond.static Lib.Math.min.name ∈ kw_ws ∧ Cond.initialized "java/lang/Math" ∈ kw_ws ∧ Cond.code Lib.Math.min.name Lib.Math.min.code 2 (some .int) ∈ kw_ws) (hd : 0 < d) (hc : (st.map fun v => v.category).sum ≤ 8)
    (h : ∀ z : Int32, z = (if y < x then y else x) → (z.toInt = x.toInt ∧ x.toInt ≤ y.toInt ∨ z.toInt = y.toInt ∧ y.toInt < x.toInt) → kw_AW l d E K M P (pc + 3) lv (.int z :: st) σ) : kw_AW l d E K M P pc lv (.int y :: .int x :: st) σ := by
  intro p e R s m args below meth c H locs cells slots Q ls G A Cx Sx Rx Fx
  have hts := Cx.2.2.2.2.2.2.1
  refine va_mmin Cx.1 Cx.2.1 (Cx.2.2.2.2.1.trans Sx.2.2.2.1.symm) Cx.2.2.2.2.2.1 (hts _ hl.1) (hts _ hl.2.1) (hts _ hl.2.2.1) (hts _ hl.2.2.2) (by omega) (by rw [kw_catsum]; omega) Rx.2.2.1 Rx.2.2.2 (kw_dec Cx hi) (h _ rfl ?_ p e R s m args below meth c H locs cells slots Q ls G A Cx Sx Rx Fx)
  by_cases q : y < x
  · rw [if_pos q]; exact Or.inr ⟨rfl, kw_ltI q⟩
  · rw [if_neg q]; exact Or.inl ⟨rfl, kw_nltI q⟩
theorem kw_mabsl {l : Launch} {d : Nat} {E : kw_E} {K : List kw_K1} {M : kw_M} {P : Option Value → kw_S → Prop} {pc : Nat} {lv : List (Nat × Value)} {st : List Value} {σ : kw_S} {i idx : Nat} {x : Int64} (hi : M.2[i]? = some (pc, .invokestatic idx, 3)) (hl : Cond.methodLink M.1.1 idx Lib.MathLoose.abs_long.x ∈ kw_ws ∧ Cond.static Lib.MathLoose.abs_long.x ∈ kw_ws ∧ Cond.initialized "java/lang/Math" ∈ kw_ws ∧ Cond.code Lib.MathLoose.abs_long.x Lib.MathLoose.abs_long.code 2 (some .long) ∈ kw_ws) (hd : 0 < d) (hc : (st.map fun v => v.category).sum ≤ 8)
    (h : ∀ z : Int64, z = (if 0 < x then x else -x) → kw_AW l d E K M P (pc + 3) lv (.long z :: st) σ) : kw_AW l d E K M P pc lv (.long x :: st) σ := by
  intro p e R s m args below meth c H locs cells slots Q ls G A Cx Sx Rx Fx
  have hts := Cx.2.2.2.2.2.2.1
  exact va_mabs_long Cx.1 Cx.2.1 (Cx.2.2.2.2.1.trans Sx.2.2.2.1.symm) Cx.2.2.2.2.2.1 (hts _ hl.1) (hts _ hl.2.1) (hts _ hl.2.2.1) (hts _ hl.2.2.2) (by omega) (by rw [kw_catsum]; omega) Rx.2.2.1 Rx.2.2.2 (kw_dec Cx hi) (h _ rfl p e R s m args below meth c H locs cells slots Q ls G A Cx Sx Rx Fx)
theorem jX7_352 : Cond.methodLink RX7 352 Lib.Math.max.name ∈ kw_ws ∧ Cond.static Lib.Math.max.name ∈ kw_ws ∧ Cond.initialized "java/lang/Math" ∈ kw_ws ∧ Cond.code Lib.Math.max.name Lib.Math.max.code 2 (some .int) ∈ kw_ws := ⟨kmX7_352, wTJ9_max_7cf53, wNJ9, wCJ9_max_7cf53⟩
theorem jX1_56 : Cond.methodLink RX1 56 Lib.Math.max.name ∈ kw_ws ∧ Cond.static Lib.Math.max.name ∈ kw_ws ∧ Cond.initialized "java/lang/Math" ∈ kw_ws ∧ Cond.code Lib.Math.max.name Lib.Math.max.code 2 (some .int) ∈ kw_ws := ⟨kmX1_56, wTJ9_max_7cf53, wNJ9, wCJ9_max_7cf53⟩
theorem jX7_357 : Cond.methodLink RX7 357 Lib.Math.min.name ∈ kw_ws ∧ Cond.static Lib.Math.min.name ∈ kw_ws ∧ Cond.initialized "java/lang/Math" ∈ kw_ws ∧ Cond.code Lib.Math.min.name Lib.Math.min.code 2 (some .int) ∈ kw_ws := ⟨kmX7_357, wTJ9_min_7cf53, wNJ9, wCJ9_min_7cf53⟩
theorem jX6_28 : Cond.methodLink RX6 28 Lib.Math.min.name ∈ kw_ws ∧ Cond.static Lib.Math.min.name ∈ kw_ws ∧ Cond.initialized "java/lang/Math" ∈ kw_ws ∧ Cond.code Lib.Math.min.name Lib.Math.min.code 2 (some .int) ∈ kw_ws := ⟨kmX6_28, wTJ9_min_7cf53, wNJ9, wCJ9_min_7cf53⟩
theorem jX4_29 : Cond.methodLink RX4 29 Lib.MathLoose.abs_long.x ∈ kw_ws ∧ Cond.static Lib.MathLoose.abs_long.x ∈ kw_ws ∧ Cond.initialized "java/lang/Math" ∈ kw_ws ∧ Cond.code Lib.MathLoose.abs_long.x Lib.MathLoose.abs_long.code 2 (some .long) ∈ kw_ws := ⟨kmX4_29, wTJ9_abs_067f4, wNJ9, wCJ9_abs_067f4⟩
end
section
theorem arX0_draw : (parseMethodDescriptor mX0_draw.1.2.1.desc).map (fun d => d.parameters.length) = some 2 := by decide +kernel
theorem arX0_milesOf : (parseMethodDescriptor mX0_milesOf.1.2.1.desc).map (fun d => d.parameters.length) = some 1 := by decide +kernel
theorem arX0_turnBy : (parseMethodDescriptor mX0_turnBy.1.2.1.desc).map (fun d => d.parameters.length) = some 1 := by decide +kernel
theorem arX0_fits : (parseMethodDescriptor mX0_fits.1.2.1.desc).map (fun d => d.parameters.length) = some 3 := by decide +kernel
theorem arX1_copyFrom : (parseMethodDescriptor mX1_copyFrom.1.2.1.desc).map (fun d => d.parameters.length) = some 1 := by decide +kernel
theorem arX1_hasLine : (parseMethodDescriptor mX1_hasLine.1.2.1.desc).map (fun d => d.parameters.length) = some 1 := by decide +kernel
theorem arX1_allLines : (parseMethodDescriptor mX1_allLines.1.2.1.desc).map (fun d => d.parameters.length) = some 0 := by decide +kernel
theorem arX1_hasSet : (parseMethodDescriptor mX1_hasSet.1.2.1.desc).map (fun d => d.parameters.length) = some 1 := by decide +kernel
theorem arX1_windAt : (parseMethodDescriptor mX1_windAt.1.2.1.desc).map (fun d => d.parameters.length) = some 1 := by decide +kernel
theorem arX1_pullOf : (parseMethodDescriptor mX1_pullOf.1.2.1.desc).map (fun d => d.parameters.length) = some 2 := by decide +kernel
theorem arX1_milesOf : (parseMethodDescriptor mX1_milesOf.1.2.1.desc).map (fun d => d.parameters.length) = some 2 := by decide +kernel
theorem arX1_turnOf : (parseMethodDescriptor mX1_turnOf.1.2.1.desc).map (fun d => d.parameters.length) = some 2 := by decide +kernel
theorem arX1_mostMilesOf : (parseMethodDescriptor mX1_mostMilesOf.1.2.1.desc).map (fun d => d.parameters.length) = some 2 := by decide +kernel
theorem arX1_linenOf : (parseMethodDescriptor mX1_linenOf.1.2.1.desc).map (fun d => d.parameters.length) = some 1 := by decide +kernel
theorem arX1_howManyAre : (parseMethodDescriptor mX1_howManyAre.1.2.1.desc).map (fun d => d.parameters.length) = some 1 := by decide +kernel
theorem arX1_othersNoWider : (parseMethodDescriptor mX1_othersNoWider.1.2.1.desc).map (fun d => d.parameters.length) = some 1 := by decide +kernel
theorem arX2_faultOf : (parseMethodDescriptor mX2_faultOf.1.2.1.desc).map (fun d => d.parameters.length) = some 2 := by decide +kernel
theorem arX2_skipBlanks : (parseMethodDescriptor mX2_skipBlanks.1.2.1.desc).map (fun d => d.parameters.length) = some 2 := by decide +kernel
theorem arX2_readWinds : (parseMethodDescriptor mX2_readWinds.1.2.1.desc).map (fun d => d.parameters.length) = some 2 := by decide +kernel
theorem arX2_readLine : (parseMethodDescriptor mX2_readLine.1.2.1.desc).map (fun d => d.parameters.length) = some 2 := by decide +kernel
theorem arX2_readFigure : (parseMethodDescriptor mX2_readFigure.1.2.1.desc).map (fun d => d.parameters.length) = some 4 := by decide +kernel
theorem arX2_kindOf : (parseMethodDescriptor mX2_kindOf.1.2.1.desc).map (fun d => d.parameters.length) = some 1 := by decide +kernel
theorem arX3_has : (parseMethodDescriptor mX3_has.1.2.1.desc).map (fun d => d.parameters.length) = some 1 := by decide +kernel
theorem arX3_isMissing : (parseMethodDescriptor mX3_isMissing.1.2.1.desc).map (fun d => d.parameters.length) = some 1 := by decide +kernel
theorem arX3_sizeOf : (parseMethodDescriptor mX3_sizeOf.1.2.1.desc).map (fun d => d.parameters.length) = some 1 := by decide +kernel
theorem arX3_howMany : (parseMethodDescriptor mX3_howMany.1.2.1.desc).map (fun d => d.parameters.length) = some 0 := by decide +kernel
theorem arX3_hasPlaces : (parseMethodDescriptor mX3_hasPlaces.1.2.1.desc).map (fun d => d.parameters.length) = some 3 := by decide +kernel
theorem arX3_findingAt : (parseMethodDescriptor mX3_findingAt.1.2.1.desc).map (fun d => d.parameters.length) = some 2 := by decide +kernel
theorem arX3_valueAt : (parseMethodDescriptor mX3_valueAt.1.2.1.desc).map (fun d => d.parameters.length) = some 2 := by decide +kernel
theorem arX3_change : (parseMethodDescriptor mX3_change.1.2.1.desc).map (fun d => d.parameters.length) = some 3 := by decide +kernel
theorem arX3_make : (parseMethodDescriptor mX3_make.1.2.1.desc).map (fun d => d.parameters.length) = some 3 := by decide +kernel
theorem arX3_drop : (parseMethodDescriptor mX3_drop.1.2.1.desc).map (fun d => d.parameters.length) = some 1 := by decide +kernel
theorem arX3_move : (parseMethodDescriptor mX3_move.1.2.1.desc).map (fun d => d.parameters.length) = some 5 := by decide +kernel
theorem arX3_fold : (parseMethodDescriptor mX3_fold.1.2.1.desc).map (fun d => d.parameters.length) = some 1 := by decide +kernel
theorem arX4_answer : (parseMethodDescriptor mX4_answer.1.2.1.desc).map (fun d => d.parameters.length) = some 1 := by decide +kernel
theorem arX4_refuse : (parseMethodDescriptor mX4_refuse.1.2.1.desc).map (fun d => d.parameters.length) = some 1 := by decide +kernel
theorem arX4_tellWhole : (parseMethodDescriptor mX4_tellWhole.1.2.1.desc).map (fun d => d.parameters.length) = some 1 := by decide +kernel
theorem arX4_tellShare : (parseMethodDescriptor mX4_tellShare.1.2.1.desc).map (fun d => d.parameters.length) = some 2 := by decide +kernel
theorem arX4_commonDivisor : (parseMethodDescriptor mX4_commonDivisor.1.2.1.desc).map (fun d => d.parameters.length) = some 2 := by decide +kernel
theorem arX5_isEmpty : (parseMethodDescriptor mX5_isEmpty.1.2.1.desc).map (fun d => d.parameters.length) = some 0 := by decide +kernel
theorem arX5_isHung : (parseMethodDescriptor mX5_isHung.1.2.1.desc).map (fun d => d.parameters.length) = some 1 := by decide +kernel
theorem arX5_hasRoomFor : (parseMethodDescriptor mX5_hasRoomFor.1.2.1.desc).map (fun d => d.parameters.length) = some 1 := by decide +kernel
theorem arX5_windNow : (parseMethodDescriptor mX5_windNow.1.2.1.desc).map (fun d => d.parameters.length) = some 0 := by decide +kernel
theorem arX5_windAhead : (parseMethodDescriptor mX5_windAhead.1.2.1.desc).map (fun d => d.parameters.length) = some 1 := by decide +kernel
theorem arX5_allWet : (parseMethodDescriptor mX5_allWet.1.2.1.desc).map (fun d => d.parameters.length) = some 0 := by decide +kernel
theorem arX5_hoursToStorm : (parseMethodDescriptor mX5_hoursToStorm.1.2.1.desc).map (fun d => d.parameters.length) = some 0 := by decide +kernel
theorem arX5_trait : (parseMethodDescriptor mX5_trait.1.2.1.desc).map (fun d => d.parameters.length) = some 2 := by decide +kernel
theorem arX5_act : (parseMethodDescriptor mX5_act.1.2.1.desc).map (fun d => d.parameters.length) = some 1 := by decide +kernel
theorem arX5_passHour : (parseMethodDescriptor mX5_passHour.1.2.1.desc).map (fun d => d.parameters.length) = some 0 := by decide +kernel
theorem arX5_replay : (parseMethodDescriptor mX5_replay.1.2.1.desc).map (fun d => d.parameters.length) = some 1 := by decide +kernel
theorem arX6_find : (parseMethodDescriptor mX6_find.1.2.1.desc).map (fun d => d.parameters.length) = some 3 := by decide +kernel
theorem arX6_sailFrom : (parseMethodDescriptor mX6_sailFrom.1.2.1.desc).map (fun d => d.parameters.length) = some 3 := by decide +kernel
theorem arX7_row : (parseMethodDescriptor mX7_row.1.2.1.desc).map (fun d => d.parameters.length) = some 2 := by decide +kernel
theorem arX7_lay : (parseMethodDescriptor mX7_lay.1.2.1.desc).map (fun d => d.parameters.length) = some 3 := by decide +kernel
theorem arX7_at : (parseMethodDescriptor mX7_at.1.2.1.desc).map (fun d => d.parameters.length) = some 2 := by decide +kernel
theorem arX7_tear : (parseMethodDescriptor mX7_tear.1.2.1.desc).map (fun d => d.parameters.length) = some 1 := by decide +kernel
theorem arX7_copy : (parseMethodDescriptor mX7_copy.1.2.1.desc).map (fun d => d.parameters.length) = some 5 := by decide +kernel
theorem arX7_mean : (parseMethodDescriptor mX7_mean.1.2.1.desc).map (fun d => d.parameters.length) = some 1 := by decide +kernel
theorem arX7_text : (parseMethodDescriptor mX7_text.1.2.1.desc).map (fun d => d.parameters.length) = some 2 := by decide +kernel
theorem arX7_put : (parseMethodDescriptor mX7_put.1.2.1.desc).map (fun d => d.parameters.length) = some 3 := by decide +kernel
theorem arX7_fault : (parseMethodDescriptor mX7_fault.1.2.1.desc).map (fun d => d.parameters.length) = some 1 := by decide +kernel
theorem arX7_town : (parseMethodDescriptor mX7_town.1.2.1.desc).map (fun d => d.parameters.length) = some 1 := by decide +kernel
theorem arX7_line : (parseMethodDescriptor mX7_line.1.2.1.desc).map (fun d => d.parameters.length) = some 2 := by decide +kernel
theorem arX7_mark : (parseMethodDescriptor mX7_mark.1.2.1.desc).map (fun d => d.parameters.length) = some 2 := by decide +kernel
theorem arX7_wind : (parseMethodDescriptor mX7_wind.1.2.1.desc).map (fun d => d.parameters.length) = some 1 := by decide +kernel
theorem arX7_hang : (parseMethodDescriptor mX7_hang.1.2.1.desc).map (fun d => d.parameters.length) = some 1 := by decide +kernel
theorem arX7_take : (parseMethodDescriptor mX7_take.1.2.1.desc).map (fun d => d.parameters.length) = some 1 := by decide +kernel
theorem arX7_hour : (parseMethodDescriptor mX7_hour.1.2.1.desc).map (fun d => d.parameters.length) = some 0 := by decide +kernel
theorem arX7_undo : (parseMethodDescriptor mX7_undo.1.2.1.desc).map (fun d => d.parameters.length) = some 1 := by decide +kernel
theorem arX7_keep : (parseMethodDescriptor mX7_keep.1.2.1.desc).map (fun d => d.parameters.length) = some 1 := by decide +kernel
theorem arX7_on : (parseMethodDescriptor mX7_on.1.2.1.desc).map (fun d => d.parameters.length) = some 1 := by decide +kernel
theorem arX7_goes : (parseMethodDescriptor mX7_goes.1.2.1.desc).map (fun d => d.parameters.length) = some 1 := by decide +kernel
theorem arX7_even : (parseMethodDescriptor mX7_even.1.2.1.desc).map (fun d => d.parameters.length) = some 1 := by decide +kernel
theorem arX7_fast : (parseMethodDescriptor mX7_fast.1.2.1.desc).map (fun d => d.parameters.length) = some 1 := by decide +kernel
theorem arX7_wet : (parseMethodDescriptor mX7_wet.1.2.1.desc).map (fun d => d.parameters.length) = some 0 := by decide +kernel
theorem arX7_sail : (parseMethodDescriptor mX7_sail.1.2.1.desc).map (fun d => d.parameters.length) = some 1 := by decide +kernel
theorem arX7_dry : (parseMethodDescriptor mX7_dry.1.2.1.desc).map (fun d => d.parameters.length) = some 1 := by decide +kernel
theorem arX7_far : (parseMethodDescriptor mX7_far.1.2.1.desc).map (fun d => d.parameters.length) = some 3 := by decide +kernel
theorem arX7_soon : (parseMethodDescriptor mX7_soon.1.2.1.desc).map (fun d => d.parameters.length) = some 1 := by decide +kernel
theorem arX7_least : (parseMethodDescriptor mX7_least.1.2.1.desc).map (fun d => d.parameters.length) = some 2 := by decide +kernel
theorem arX7_ways : (parseMethodDescriptor mX7_ways.1.2.1.desc).map (fun d => d.parameters.length) = some 2 := by decide +kernel
theorem arX7_kinds : (parseMethodDescriptor mX7_kinds.1.2.1.desc).map (fun d => d.parameters.length) = some 2 := by decide +kernel
theorem arX7_areas : (parseMethodDescriptor mX7_areas.1.2.1.desc).map (fun d => d.parameters.length) = some 2 := by decide +kernel
theorem arX7_rival : (parseMethodDescriptor mX7_rival.1.2.1.desc).map (fun d => d.parameters.length) = some 1 := by decide +kernel
theorem arX7_mid : (parseMethodDescriptor mX7_mid.1.2.1.desc).map (fun d => d.parameters.length) = some 2 := by decide +kernel
theorem arX7_odds : (parseMethodDescriptor mX7_odds.1.2.1.desc).map (fun d => d.parameters.length) = some 3 := by decide +kernel
theorem arX7_lots : (parseMethodDescriptor mX7_lots.1.2.1.desc).map (fun d => d.parameters.length) = some 2 := by decide +kernel
theorem arX7_asked : (parseMethodDescriptor mX7_asked.1.2.1.desc).map (fun d => d.parameters.length) = some 0 := by decide +kernel
theorem arX7_upper : (parseMethodDescriptor mX7_upper.1.2.1.desc).map (fun d => d.parameters.length) = some 0 := by decide +kernel
theorem arX7_lower : (parseMethodDescriptor mX7_lower.1.2.1.desc).map (fun d => d.parameters.length) = some 0 := by decide +kernel
theorem arX7_count : (parseMethodDescriptor mX7_count.1.2.1.desc).map (fun d => d.parameters.length) = some 1 := by decide +kernel
theorem arX7_miles : (parseMethodDescriptor mX7_miles.1.2.1.desc).map (fun d => d.parameters.length) = some 0 := by decide +kernel
theorem arX7_finding : (parseMethodDescriptor mX7_finding.1.2.1.desc).map (fun d => d.parameters.length) = some 0 := by decide +kernel
theorem arX7_findings : (parseMethodDescriptor mX7_findings.1.2.1.desc).map (fun d => d.parameters.length) = some 1 := by decide +kernel
theorem arX7_digest : (parseMethodDescriptor mX7_digest.1.2.1.desc).map (fun d => d.parameters.length) = some 0 := by decide +kernel
theorem arX7_makeOn : (parseMethodDescriptor mX7_makeOn.1.2.1.desc).map (fun d => d.parameters.length) = some 4 := by decide +kernel
theorem arX7_planRefusal : (parseMethodDescriptor mX7_planRefusal.1.2.1.desc).map (fun d => d.parameters.length) = some 1 := by decide +kernel
theorem arX7_pairsRefusal : (parseMethodDescriptor mX7_pairsRefusal.1.2.1.desc).map (fun d => d.parameters.length) = some 2 := by decide +kernel
theorem arX7_pulledSo : (parseMethodDescriptor mX7_pulledSo.1.2.1.desc).map (fun d => d.parameters.length) = some 3 := by decide +kernel
theorem arX7_drySet : (parseMethodDescriptor mX7_drySet.1.2.1.desc).map (fun d => d.parameters.length) = some 1 := by decide +kernel
theorem arX7_mostMilesBehind : (parseMethodDescriptor mX7_mostMilesBehind.1.2.1.desc).map (fun d => d.parameters.length) = some 2 := by decide +kernel
theorem arX7_foresee : (parseMethodDescriptor mX7_foresee.1.2.1.desc).map (fun d => d.parameters.length) = some 1 := by decide +kernel
theorem arX7_milesByGusts : (parseMethodDescriptor mX7_milesByGusts.1.2.1.desc).map (fun d => d.parameters.length) = some 2 := by decide +kernel
theorem arX7_weightOfGusts : (parseMethodDescriptor mX7_weightOfGusts.1.2.1.desc).map (fun d => d.parameters.length) = some 3 := by decide +kernel
theorem arX7_play : (parseMethodDescriptor mX7_play.1.2.1.desc).map (fun d => d.parameters.length) = some 3 := by decide +kernel
theorem arX7_isA : (parseMethodDescriptor mX7_isA.1.2.1.desc).map (fun d => d.parameters.length) = some 2 := by decide +kernel
theorem arX7_pull : (parseMethodDescriptor mX7_pull.1.2.1.desc).map (fun d => d.parameters.length) = some 3 := by decide +kernel
theorem arX7_weather : (parseMethodDescriptor mX7_weather.1.2.1.desc).map (fun d => d.parameters.length) = some 3 := by decide +kernel
theorem arX8_in : (parseMethodDescriptor mX8_in.1.2.1.desc).map (fun d => d.parameters.length) = some 3 := by decide +kernel
theorem arX8_meet : (parseMethodDescriptor mX8_meet.1.2.1.desc).map (fun d => d.parameters.length) = some 1 := by decide +kernel
theorem arX8_ask : (parseMethodDescriptor mX8_ask.1.2.1.desc).map (fun d => d.parameters.length) = some 2 := by decide +kernel
theorem arX8_has : (parseMethodDescriptor mX8_has.1.2.1.desc).map (fun d => d.parameters.length) = some 2 := by decide +kernel
theorem arX8_greater : (parseMethodDescriptor mX8_greater.1.2.1.desc).map (fun d => d.parameters.length) = some 2 := by decide +kernel
theorem arX8_part : (parseMethodDescriptor mX8_part.1.2.1.desc).map (fun d => d.parameters.length) = some 2 := by decide +kernel
theorem arX8_isRow : (parseMethodDescriptor mX8_isRow.1.2.1.desc).map (fun d => d.parameters.length) = some 1 := by decide +kernel
theorem arX8_isText : (parseMethodDescriptor mX8_isText.1.2.1.desc).map (fun d => d.parameters.length) = some 1 := by decide +kernel
theorem arX8_askedRow : (parseMethodDescriptor mX8_askedRow.1.2.1.desc).map (fun d => d.parameters.length) = some 1 := by decide +kernel
theorem arX8_askedText : (parseMethodDescriptor mX8_askedText.1.2.1.desc).map (fun d => d.parameters.length) = some 1 := by decide +kernel
theorem arX8_rowAt : (parseMethodDescriptor mX8_rowAt.1.2.1.desc).map (fun d => d.parameters.length) = some 2 := by decide +kernel
theorem arX8_setRow : (parseMethodDescriptor mX8_setRow.1.2.1.desc).map (fun d => d.parameters.length) = some 3 := by decide +kernel
theorem arX8_row : (parseMethodDescriptor mX8_row.1.2.1.desc).map (fun d => d.parameters.length) = some 2 := by decide +kernel
theorem arX8_at : (parseMethodDescriptor mX8_at.1.2.1.desc).map (fun d => d.parameters.length) = some 2 := by decide +kernel
theorem arX8_lay : (parseMethodDescriptor mX8_lay.1.2.1.desc).map (fun d => d.parameters.length) = some 3 := by decide +kernel
theorem arX8_tear : (parseMethodDescriptor mX8_tear.1.2.1.desc).map (fun d => d.parameters.length) = some 1 := by decide +kernel
theorem arX8_copy : (parseMethodDescriptor mX8_copy.1.2.1.desc).map (fun d => d.parameters.length) = some 5 := by decide +kernel
theorem arX8_mean : (parseMethodDescriptor mX8_mean.1.2.1.desc).map (fun d => d.parameters.length) = some 1 := by decide +kernel
theorem arX8_text : (parseMethodDescriptor mX8_text.1.2.1.desc).map (fun d => d.parameters.length) = some 2 := by decide +kernel
theorem arX8_put : (parseMethodDescriptor mX8_put.1.2.1.desc).map (fun d => d.parameters.length) = some 3 := by decide +kernel
theorem arX8_here : (parseMethodDescriptor mX8_here.1.2.1.desc).map (fun d => d.parameters.length) = some 1 := by decide +kernel
theorem arX8_skip : (parseMethodDescriptor mX8_skip.1.2.1.desc).map (fun d => d.parameters.length) = some 1 := by decide +kernel
theorem arX8_figure : (parseMethodDescriptor mX8_figure.1.2.1.desc).map (fun d => d.parameters.length) = some 4 := by decide +kernel
theorem arX8_readsWinds : (parseMethodDescriptor mX8_readsWinds.1.2.1.desc).map (fun d => d.parameters.length) = some 1 := by decide +kernel
theorem arX8_kindBy : (parseMethodDescriptor mX8_kindBy.1.2.1.desc).map (fun d => d.parameters.length) = some 1 := by decide +kernel
theorem arX8_readsLine : (parseMethodDescriptor mX8_readsLine.1.2.1.desc).map (fun d => d.parameters.length) = some 1 := by decide +kernel
theorem arX8_readsTown : (parseMethodDescriptor mX8_readsTown.1.2.1.desc).map (fun d => d.parameters.length) = some 1 := by decide +kernel
theorem arX8_goesOn : (parseMethodDescriptor mX8_goesOn.1.2.1.desc).map (fun d => d.parameters.length) = some 1 := by decide +kernel
theorem arX8_fault : (parseMethodDescriptor mX8_fault.1.2.1.desc).map (fun d => d.parameters.length) = some 1 := by decide +kernel
theorem arX8_town : (parseMethodDescriptor mX8_town.1.2.1.desc).map (fun d => d.parameters.length) = some 1 := by decide +kernel
theorem arX8_isLine : (parseMethodDescriptor mX8_isLine.1.2.1.desc).map (fun d => d.parameters.length) = some 1 := by decide +kernel
theorem arX8_isSet : (parseMethodDescriptor mX8_isSet.1.2.1.desc).map (fun d => d.parameters.length) = some 1 := by decide +kernel
theorem arX8_windAt : (parseMethodDescriptor mX8_windAt.1.2.1.desc).map (fun d => d.parameters.length) = some 1 := by decide +kernel
theorem arX8_pullBy : (parseMethodDescriptor mX8_pullBy.1.2.1.desc).map (fun d => d.parameters.length) = some 3 := by decide +kernel
theorem arX8_pullOf : (parseMethodDescriptor mX8_pullOf.1.2.1.desc).map (fun d => d.parameters.length) = some 2 := by decide +kernel
theorem arX8_milesBy : (parseMethodDescriptor mX8_milesBy.1.2.1.desc).map (fun d => d.parameters.length) = some 2 := by decide +kernel
theorem arX8_turnBy : (parseMethodDescriptor mX8_turnBy.1.2.1.desc).map (fun d => d.parameters.length) = some 2 := by decide +kernel
theorem arX8_linenOf : (parseMethodDescriptor mX8_linenOf.1.2.1.desc).map (fun d => d.parameters.length) = some 1 := by decide +kernel
theorem arX8_bits : (parseMethodDescriptor mX8_bits.1.2.1.desc).map (fun d => d.parameters.length) = some 1 := by decide +kernel
theorem arX8_write : (parseMethodDescriptor mX8_write.1.2.1.desc).map (fun d => d.parameters.length) = some 2 := by decide +kernel
theorem arX8_read : (parseMethodDescriptor mX8_read.1.2.1.desc).map (fun d => d.parameters.length) = some 2 := by decide +kernel
theorem arX8_note : (parseMethodDescriptor mX8_note.1.2.1.desc).map (fun d => d.parameters.length) = some 0 := by decide +kernel
theorem arX8_wetBehind : (parseMethodDescriptor mX8_wetBehind.1.2.1.desc).map (fun d => d.parameters.length) = some 2 := by decide +kernel
theorem arX8_pass : (parseMethodDescriptor mX8_pass.1.2.1.desc).map (fun d => d.parameters.length) = some 1 := by decide +kernel
theorem arX8_turnLine : (parseMethodDescriptor mX8_turnLine.1.2.1.desc).map (fun d => d.parameters.length) = some 1 := by decide +kernel
theorem arX8_hang : (parseMethodDescriptor mX8_hang.1.2.1.desc).map (fun d => d.parameters.length) = some 1 := by decide +kernel
theorem arX8_take : (parseMethodDescriptor mX8_take.1.2.1.desc).map (fun d => d.parameters.length) = some 1 := by decide +kernel
theorem arX8_hour : (parseMethodDescriptor mX8_hour.1.2.1.desc).map (fun d => d.parameters.length) = some 0 := by decide +kernel
theorem arX8_undo : (parseMethodDescriptor mX8_undo.1.2.1.desc).map (fun d => d.parameters.length) = some 1 := by decide +kernel
theorem arX8_keep : (parseMethodDescriptor mX8_keep.1.2.1.desc).map (fun d => d.parameters.length) = some 1 := by decide +kernel
theorem arX8_on : (parseMethodDescriptor mX8_on.1.2.1.desc).map (fun d => d.parameters.length) = some 1 := by decide +kernel
theorem arX8_lineOf : (parseMethodDescriptor mX8_lineOf.1.2.1.desc).map (fun d => d.parameters.length) = some 2 := by decide +kernel
theorem arX8_line : (parseMethodDescriptor mX8_line.1.2.1.desc).map (fun d => d.parameters.length) = some 2 := by decide +kernel
theorem arX8_isA : (parseMethodDescriptor mX8_isA.1.2.1.desc).map (fun d => d.parameters.length) = some 2 := by decide +kernel
theorem arX8_howMany : (parseMethodDescriptor mX8_howMany.1.2.1.desc).map (fun d => d.parameters.length) = some 1 := by decide +kernel
theorem arX8_hoursTill : (parseMethodDescriptor mX8_hoursTill.1.2.1.desc).map (fun d => d.parameters.length) = some 0 := by decide +kernel
theorem arX8_lesserOnes : (parseMethodDescriptor mX8_lesserOnes.1.2.1.desc).map (fun d => d.parameters.length) = some 1 := by decide +kernel
theorem arX8_mark : (parseMethodDescriptor mX8_mark.1.2.1.desc).map (fun d => d.parameters.length) = some 2 := by decide +kernel
theorem arX8_wind : (parseMethodDescriptor mX8_wind.1.2.1.desc).map (fun d => d.parameters.length) = some 1 := by decide +kernel
theorem arX8_goes : (parseMethodDescriptor mX8_goes.1.2.1.desc).map (fun d => d.parameters.length) = some 1 := by decide +kernel
theorem arX8_even : (parseMethodDescriptor mX8_even.1.2.1.desc).map (fun d => d.parameters.length) = some 1 := by decide +kernel
theorem arX8_fast : (parseMethodDescriptor mX8_fast.1.2.1.desc).map (fun d => d.parameters.length) = some 1 := by decide +kernel
theorem arX8_wetOfAll : (parseMethodDescriptor mX8_wetOfAll.1.2.1.desc).map (fun d => d.parameters.length) = some 0 := by decide +kernel
theorem arX8_wet : (parseMethodDescriptor mX8_wet.1.2.1.desc).map (fun d => d.parameters.length) = some 0 := by decide +kernel
theorem arX8_askedPlan : (parseMethodDescriptor mX8_askedPlan.1.2.1.desc).map (fun d => d.parameters.length) = some 1 := by decide +kernel
theorem arX8_sail : (parseMethodDescriptor mX8_sail.1.2.1.desc).map (fun d => d.parameters.length) = some 1 := by decide +kernel
theorem arX8_dry : (parseMethodDescriptor mX8_dry.1.2.1.desc).map (fun d => d.parameters.length) = some 1 := by decide +kernel
theorem arX8_setHours : (parseMethodDescriptor mX8_setHours.1.2.1.desc).map (fun d => d.parameters.length) = some 0 := by decide +kernel
theorem arX8_isTurn : (parseMethodDescriptor mX8_isTurn.1.2.1.desc).map (fun d => d.parameters.length) = some 2 := by decide +kernel
theorem arX8_farBy : (parseMethodDescriptor mX8_farBy.1.2.1.desc).map (fun d => d.parameters.length) = some 2 := by decide +kernel
theorem arX8_far : (parseMethodDescriptor mX8_far.1.2.1.desc).map (fun d => d.parameters.length) = some 3 := by decide +kernel
theorem arX8_mostOf : (parseMethodDescriptor mX8_mostOf.1.2.1.desc).map (fun d => d.parameters.length) = some 2 := by decide +kernel
theorem arX8_soon : (parseMethodDescriptor mX8_soon.1.2.1.desc).map (fun d => d.parameters.length) = some 1 := by decide +kernel
theorem arX8_least : (parseMethodDescriptor mX8_least.1.2.1.desc).map (fun d => d.parameters.length) = some 2 := by decide +kernel
theorem arX8_ways : (parseMethodDescriptor mX8_ways.1.2.1.desc).map (fun d => d.parameters.length) = some 2 := by decide +kernel
theorem arX8_askedPulls : (parseMethodDescriptor mX8_askedPulls.1.2.1.desc).map (fun d => d.parameters.length) = some 2 := by decide +kernel
theorem arX8_pullsSo : (parseMethodDescriptor mX8_pullsSo.1.2.1.desc).map (fun d => d.parameters.length) = some 3 := by decide +kernel
theorem arX8_kinds : (parseMethodDescriptor mX8_kinds.1.2.1.desc).map (fun d => d.parameters.length) = some 2 := by decide +kernel
theorem arX8_areas : (parseMethodDescriptor mX8_areas.1.2.1.desc).map (fun d => d.parameters.length) = some 2 := by decide +kernel
theorem arX8_rival : (parseMethodDescriptor mX8_rival.1.2.1.desc).map (fun d => d.parameters.length) = some 1 := by decide +kernel
theorem arX8_power : (parseMethodDescriptor mX8_power.1.2.1.desc).map (fun d => d.parameters.length) = some 2 := by decide +kernel
theorem arX8_gustMiles : (parseMethodDescriptor mX8_gustMiles.1.2.1.desc).map (fun d => d.parameters.length) = some 2 := by decide +kernel
theorem arX8_weightOf : (parseMethodDescriptor mX8_weightOf.1.2.1.desc).map (fun d => d.parameters.length) = some 3 := by decide +kernel
theorem arX8_mid : (parseMethodDescriptor mX8_mid.1.2.1.desc).map (fun d => d.parameters.length) = some 2 := by decide +kernel
theorem arX8_odds : (parseMethodDescriptor mX8_odds.1.2.1.desc).map (fun d => d.parameters.length) = some 3 := by decide +kernel
theorem arX8_lots : (parseMethodDescriptor mX8_lots.1.2.1.desc).map (fun d => d.parameters.length) = some 2 := by decide +kernel
theorem arX8_asked : (parseMethodDescriptor mX8_asked.1.2.1.desc).map (fun d => d.parameters.length) = some 0 := by decide +kernel
theorem arX8_upper : (parseMethodDescriptor mX8_upper.1.2.1.desc).map (fun d => d.parameters.length) = some 0 := by decide +kernel
theorem arX8_lower : (parseMethodDescriptor mX8_lower.1.2.1.desc).map (fun d => d.parameters.length) = some 0 := by decide +kernel
theorem arX8_there : (parseMethodDescriptor mX8_there.1.2.1.desc).map (fun d => d.parameters.length) = some 1 := by decide +kernel
theorem arX8_tells : (parseMethodDescriptor mX8_tells.1.2.1.desc).map (fun d => d.parameters.length) = some 1 := by decide +kernel
theorem arX8_count : (parseMethodDescriptor mX8_count.1.2.1.desc).map (fun d => d.parameters.length) = some 1 := by decide +kernel
theorem arX8_miles : (parseMethodDescriptor mX8_miles.1.2.1.desc).map (fun d => d.parameters.length) = some 0 := by decide +kernel
theorem arX8_finding : (parseMethodDescriptor mX8_finding.1.2.1.desc).map (fun d => d.parameters.length) = some 0 := by decide +kernel
theorem arX8_findings : (parseMethodDescriptor mX8_findings.1.2.1.desc).map (fun d => d.parameters.length) = some 1 := by decide +kernel
theorem arX8_mix : (parseMethodDescriptor mX8_mix.1.2.1.desc).map (fun d => d.parameters.length) = some 1 := by decide +kernel
theorem arX8_mixTown : (parseMethodDescriptor mX8_mixTown.1.2.1.desc).map (fun d => d.parameters.length) = some 0 := by decide +kernel
theorem arX8_digest : (parseMethodDescriptor mX8_digest.1.2.1.desc).map (fun d => d.parameters.length) = some 0 := by decide +kernel
theorem arJ6_bitCount_0f7a4 : (parseMethodDescriptor mJ6_bitCount_0f7a4.1.2.1.desc).map (fun d => d.parameters.length) = some 1 := by decide +kernel
theorem arJ9_abs_067f4 : (parseMethodDescriptor mJ9_abs_067f4.1.2.1.desc).map (fun d => d.parameters.length) = some 1 := by decide +kernel
theorem arJ9_max_7cf53 : (parseMethodDescriptor mJ9_max_7cf53.1.2.1.desc).map (fun d => d.parameters.length) = some 2 := by decide +kernel
theorem arJ9_min_7cf53 : (parseMethodDescriptor mJ9_min_7cf53.1.2.1.desc).map (fun d => d.parameters.length) = some 2 := by decide +kernel
theorem arJ7_fill_53178 : (parseMethodDescriptor mJ7_fill_53178.1.2.1.desc).map (fun d => d.parameters.length) = some 2 := by decide +kernel
end
section
abbrev p_J7_fill_53178_19 (σ : kw_S) (v : Int32) : Option Value → kw_S → Prop := fun v σ' => (kw_I bX σ' ∧ kw_F [19] σ σ') ∧ v = none
set_option maxRecDepth 100000 in
set_option maxHeartbeats 4000000 in
theorem c_J7_fill_53178_19 (l : Launch) (σ : kw_S) (hI : kw_I bX σ) (v : Int32) : kw_Met l 1 KX mJ7_fill_53178 [.ref 19, .int v] σ (p_J7_fill_53178_19 σ v) := by
  have r_v := kw_rng v
  have hF0 : kw_F [19] σ σ := kw_F.rf
  have q_0 : (0 : Int32).toInt = 0 := rfl
  have q_6 : (6 : Int32).toInt = 6 := rfl
  refine kw_Met.of (by decide) rfl tJ7_fill_53178 (Nat.le_of_ble_eq_true rfl) ?_
  show kw_AW l 1 kw_E0 KX mJ7_fill_53178 (p_J7_fill_53178_19 σ v) 0 [(0, .ref 19), (1, .int v)] [] σ
  refine kw_iconst (pc := 0) (i := 0) (v := 0) rfl rfl ?_
  refine kw_istore_n (pc := 1) (i := 1) (n := 2) (lv' := [(2, .int 0), (0, .ref 19), (1, .int v)]) rfl rfl (by decide) rfl ?_
  refine kw_aload_n (pc := 2) (i := 2) (k := 1) (n := 0) rfl rfl rfl ?_
  refine kw_alen (pc := 3) (i := 3) (n := 6) (v := 6) rfl rfl rfl ?_
  refine kw_istore_n (pc := 4) (i := 4) (n := 3) (lv' := [(3, .int 6), (2, .int 0), (0, .ref 19), (1, .int v)]) rfl rfl (by decide) rfl ?_
  have L5 : ∀ (n10 : Nat) (x1 : Int32) (S2 : kw_S), kw_I bX S2 → kw_F [19] σ S2 → 0 ≤ x1.toInt → (6 : Int32).toInt ≤ 1000 → (1001 - x1.toInt).toNat < n10 → kw_AW l 1 kw_E0 KX mJ7_fill_53178 (p_J7_fill_53178_19 σ v) 5 [(3, .int 6), (2, .int x1), (0, .ref 19), (1, .int v)] [] S2 := by
    intro n10
    induction n10 with
    | zero => intro x1 S2 I3 F4 v7 v8 m9; exact absurd m9 (Nat.not_lt_zero _)
    | succ n10 ih6 =>
      intro x1 S2 I3 F4 v7 v8 m9
      have r_x1 := kw_rng x1
      refine kw_iload_n (pc := 5) (i := 5) (k := 1) (n := 2) rfl rfl rfl ?_
      refine kw_iload_n (pc := 6) (i := 6) (k := 0) (n := 3) rfl rfl rfl ?_
      refine kw_icmp_ge (pc := 7) (i := 7) (tgt := 20) rfl rfl (fun c11 => ?_) (fun c11 => ?_)
      · exact kw_return (pc := 20) (i := 14) rfl rfl ⟨⟨I3, F4⟩, rfl⟩
      · refine kw_aload_n (pc := 10) (i := 8) (k := 2) (n := 0) rfl rfl rfl ?_
        refine kw_iload_n (pc := 11) (i := 9) (k := 1) (n := 2) rfl rfl rfl ?_
        refine kw_iload_n (pc := 12) (i := 10) (k := 3) (n := 1) rfl rfl rfl ?_
        refine kw_iast (pc := 13) (i := 11) (n := 6) rfl rfl (by omega) (by omega) ?_
        have I12 : kw_I bX (kw_ui S2 19 x1.toNatClampNeg v) := kw_I_ui I3 (kw_rng v).1 (Int.le_of_lt_add_one (kw_rng v).2)
        have F13 : kw_F [19] σ (kw_ui S2 19 x1.toNatClampNeg v) := kw_F_ui F4 (by decide)
        refine kw_iinc' (pc := 14) (i := 12) (k := 1) (fun z => [(2, .int z), (3, .int 6), (0, .ref 19), (1, .int v)]) rfl rfl (by decide) rfl (fun _ => rfl) (fun z14 e_z14 t_z14 => ?_)
        refine kw_goto (pc := 17) (i := 13) (tgt := 5) rfl rfl ?_
        refine kw_sub (lv' := [(3, .int 6), (2, .int z14), (0, .ref 19), (1, .int v)]) [1, 0, 2, 3] rfl ?_
        exact ih6 z14 (kw_ui S2 19 x1.toNatClampNeg v) I12 F13 (by omega) (by omega) (by omega)
  exact L5 _ 0 σ hI hF0 (by omega) (by omega) (Nat.lt_succ_self _)
abbrev p_J7_fill_53178_29 (σ : kw_S) (v : Int32) : Option Value → kw_S → Prop := fun v σ' => (kw_I bX σ' ∧ kw_F [29] σ σ') ∧ v = none
set_option maxRecDepth 100000 in
set_option maxHeartbeats 4000000 in
theorem c_J7_fill_53178_29 (l : Launch) (σ : kw_S) (hI : kw_I bX σ) (v : Int32) : kw_Met l 1 KX mJ7_fill_53178 [.ref 29, .int v] σ (p_J7_fill_53178_29 σ v) := by
  have r_v := kw_rng v
  have hF0 : kw_F [29] σ σ := kw_F.rf
  have q_0 : (0 : Int32).toInt = 0 := rfl
  have q_40 : (40 : Int32).toInt = 40 := rfl
  refine kw_Met.of (by decide) rfl tJ7_fill_53178 (Nat.le_of_ble_eq_true rfl) ?_
  show kw_AW l 1 kw_E0 KX mJ7_fill_53178 (p_J7_fill_53178_29 σ v) 0 [(0, .ref 29), (1, .int v)] [] σ
  refine kw_iconst (pc := 0) (i := 0) (v := 0) rfl rfl ?_
  refine kw_istore_n (pc := 1) (i := 1) (n := 2) (lv' := [(2, .int 0), (0, .ref 29), (1, .int v)]) rfl rfl (by decide) rfl ?_
  refine kw_aload_n (pc := 2) (i := 2) (k := 1) (n := 0) rfl rfl rfl ?_
  refine kw_alen (pc := 3) (i := 3) (n := 40) (v := 40) rfl rfl rfl ?_
  refine kw_istore_n (pc := 4) (i := 4) (n := 3) (lv' := [(3, .int 40), (2, .int 0), (0, .ref 29), (1, .int v)]) rfl rfl (by decide) rfl ?_
  have L5 : ∀ (n10 : Nat) (x1 : Int32) (S2 : kw_S), kw_I bX S2 → kw_F [29] σ S2 → 0 ≤ x1.toInt → (40 : Int32).toInt ≤ 1000 → (1001 - x1.toInt).toNat < n10 → kw_AW l 1 kw_E0 KX mJ7_fill_53178 (p_J7_fill_53178_29 σ v) 5 [(3, .int 40), (2, .int x1), (0, .ref 29), (1, .int v)] [] S2 := by
    intro n10
    induction n10 with
    | zero => intro x1 S2 I3 F4 v7 v8 m9; exact absurd m9 (Nat.not_lt_zero _)
    | succ n10 ih6 =>
      intro x1 S2 I3 F4 v7 v8 m9
      have r_x1 := kw_rng x1
      refine kw_iload_n (pc := 5) (i := 5) (k := 1) (n := 2) rfl rfl rfl ?_
      refine kw_iload_n (pc := 6) (i := 6) (k := 0) (n := 3) rfl rfl rfl ?_
      refine kw_icmp_ge (pc := 7) (i := 7) (tgt := 20) rfl rfl (fun c11 => ?_) (fun c11 => ?_)
      · exact kw_return (pc := 20) (i := 14) rfl rfl ⟨⟨I3, F4⟩, rfl⟩
      · refine kw_aload_n (pc := 10) (i := 8) (k := 2) (n := 0) rfl rfl rfl ?_
        refine kw_iload_n (pc := 11) (i := 9) (k := 1) (n := 2) rfl rfl rfl ?_
        refine kw_iload_n (pc := 12) (i := 10) (k := 3) (n := 1) rfl rfl rfl ?_
        refine kw_iast (pc := 13) (i := 11) (n := 40) rfl rfl (by omega) (by omega) ?_
        have I12 : kw_I bX (kw_ui S2 29 x1.toNatClampNeg v) := kw_I_ui I3 (kw_rng v).1 (Int.le_of_lt_add_one (kw_rng v).2)
        have F13 : kw_F [29] σ (kw_ui S2 29 x1.toNatClampNeg v) := kw_F_ui F4 (by decide)
        refine kw_iinc' (pc := 14) (i := 12) (k := 1) (fun z => [(2, .int z), (3, .int 40), (0, .ref 29), (1, .int v)]) rfl rfl (by decide) rfl (fun _ => rfl) (fun z14 e_z14 t_z14 => ?_)
        refine kw_goto (pc := 17) (i := 13) (tgt := 5) rfl rfl ?_
        refine kw_sub (lv' := [(3, .int 40), (2, .int z14), (0, .ref 29), (1, .int v)]) [1, 0, 2, 3] rfl ?_
        exact ih6 z14 (kw_ui S2 29 x1.toNatClampNeg v) I12 F13 (by omega) (by omega) (by omega)
  exact L5 _ 0 σ hI hF0 (by omega) (by omega) (Nat.lt_succ_self _)
abbrev p_J7_fill_53178_30 (σ : kw_S) (v : Int32) : Option Value → kw_S → Prop := fun v σ' => (kw_I bX σ' ∧ kw_F [30] σ σ') ∧ v = none
set_option maxRecDepth 100000 in
set_option maxHeartbeats 4000000 in
theorem c_J7_fill_53178_30 (l : Launch) (σ : kw_S) (hI : kw_I bX σ) (v : Int32) : kw_Met l 1 KX mJ7_fill_53178 [.ref 30, .int v] σ (p_J7_fill_53178_30 σ v) := by
  have r_v := kw_rng v
  have hF0 : kw_F [30] σ σ := kw_F.rf
  have q_0 : (0 : Int32).toInt = 0 := rfl
  have q_40 : (40 : Int32).toInt = 40 := rfl
  refine kw_Met.of (by decide) rfl tJ7_fill_53178 (Nat.le_of_ble_eq_true rfl) ?_
  show kw_AW l 1 kw_E0 KX mJ7_fill_53178 (p_J7_fill_53178_30 σ v) 0 [(0, .ref 30), (1, .int v)] [] σ
  refine kw_iconst (pc := 0) (i := 0) (v := 0) rfl rfl ?_
  refine kw_istore_n (pc := 1) (i := 1) (n := 2) (lv' := [(2, .int 0), (0, .ref 30), (1, .int v)]) rfl rfl (by decide) rfl ?_
  refine kw_aload_n (pc := 2) (i := 2) (k := 1) (n := 0) rfl rfl rfl ?_
  refine kw_alen (pc := 3) (i := 3) (n := 40) (v := 40) rfl rfl rfl ?_
  refine kw_istore_n (pc := 4) (i := 4) (n := 3) (lv' := [(3, .int 40), (2, .int 0), (0, .ref 30), (1, .int v)]) rfl rfl (by decide) rfl ?_
  have L5 : ∀ (n10 : Nat) (x1 : Int32) (S2 : kw_S), kw_I bX S2 → kw_F [30] σ S2 → 0 ≤ x1.toInt → (40 : Int32).toInt ≤ 1000 → (1001 - x1.toInt).toNat < n10 → kw_AW l 1 kw_E0 KX mJ7_fill_53178 (p_J7_fill_53178_30 σ v) 5 [(3, .int 40), (2, .int x1), (0, .ref 30), (1, .int v)] [] S2 := by
    intro n10
    induction n10 with
    | zero => intro x1 S2 I3 F4 v7 v8 m9; exact absurd m9 (Nat.not_lt_zero _)
    | succ n10 ih6 =>
      intro x1 S2 I3 F4 v7 v8 m9
      have r_x1 := kw_rng x1
      refine kw_iload_n (pc := 5) (i := 5) (k := 1) (n := 2) rfl rfl rfl ?_
      refine kw_iload_n (pc := 6) (i := 6) (k := 0) (n := 3) rfl rfl rfl ?_
      refine kw_icmp_ge (pc := 7) (i := 7) (tgt := 20) rfl rfl (fun c11 => ?_) (fun c11 => ?_)
      · exact kw_return (pc := 20) (i := 14) rfl rfl ⟨⟨I3, F4⟩, rfl⟩
      · refine kw_aload_n (pc := 10) (i := 8) (k := 2) (n := 0) rfl rfl rfl ?_
        refine kw_iload_n (pc := 11) (i := 9) (k := 1) (n := 2) rfl rfl rfl ?_
        refine kw_iload_n (pc := 12) (i := 10) (k := 3) (n := 1) rfl rfl rfl ?_
        refine kw_iast (pc := 13) (i := 11) (n := 40) rfl rfl (by omega) (by omega) ?_
        have I12 : kw_I bX (kw_ui S2 30 x1.toNatClampNeg v) := kw_I_ui I3 (kw_rng v).1 (Int.le_of_lt_add_one (kw_rng v).2)
        have F13 : kw_F [30] σ (kw_ui S2 30 x1.toNatClampNeg v) := kw_F_ui F4 (by decide)
        refine kw_iinc' (pc := 14) (i := 12) (k := 1) (fun z => [(2, .int z), (3, .int 40), (0, .ref 30), (1, .int v)]) rfl rfl (by decide) rfl (fun _ => rfl) (fun z14 e_z14 t_z14 => ?_)
        refine kw_goto (pc := 17) (i := 13) (tgt := 5) rfl rfl ?_
        refine kw_sub (lv' := [(3, .int 40), (2, .int z14), (0, .ref 30), (1, .int v)]) [1, 0, 2, 3] rfl ?_
        exact ih6 z14 (kw_ui S2 30 x1.toNatClampNeg v) I12 F13 (by omega) (by omega) (by omega)
  exact L5 _ 0 σ hI hF0 (by omega) (by omega) (Nat.lt_succ_self _)
abbrev p_J7_fill_53178_31 (σ : kw_S) (v : Int32) : Option Value → kw_S → Prop := fun v σ' => (kw_I bX σ' ∧ kw_F [31] σ σ') ∧ v = none
set_option maxRecDepth 100000 in
set_option maxHeartbeats 4000000 in
theorem c_J7_fill_53178_31 (l : Launch) (σ : kw_S) (hI : kw_I bX σ) (v : Int32) : kw_Met l 1 KX mJ7_fill_53178 [.ref 31, .int v] σ (p_J7_fill_53178_31 σ v) := by
  have r_v := kw_rng v
  have hF0 : kw_F [31] σ σ := kw_F.rf
  have q_0 : (0 : Int32).toInt = 0 := rfl
  have q_40 : (40 : Int32).toInt = 40 := rfl
  refine kw_Met.of (by decide) rfl tJ7_fill_53178 (Nat.le_of_ble_eq_true rfl) ?_
  show kw_AW l 1 kw_E0 KX mJ7_fill_53178 (p_J7_fill_53178_31 σ v) 0 [(0, .ref 31), (1, .int v)] [] σ
  refine kw_iconst (pc := 0) (i := 0) (v := 0) rfl rfl ?_
  refine kw_istore_n (pc := 1) (i := 1) (n := 2) (lv' := [(2, .int 0), (0, .ref 31), (1, .int v)]) rfl rfl (by decide) rfl ?_
  refine kw_aload_n (pc := 2) (i := 2) (k := 1) (n := 0) rfl rfl rfl ?_
  refine kw_alen (pc := 3) (i := 3) (n := 40) (v := 40) rfl rfl rfl ?_
  refine kw_istore_n (pc := 4) (i := 4) (n := 3) (lv' := [(3, .int 40), (2, .int 0), (0, .ref 31), (1, .int v)]) rfl rfl (by decide) rfl ?_
  have L5 : ∀ (n10 : Nat) (x1 : Int32) (S2 : kw_S), kw_I bX S2 → kw_F [31] σ S2 → 0 ≤ x1.toInt → (40 : Int32).toInt ≤ 1000 → (1001 - x1.toInt).toNat < n10 → kw_AW l 1 kw_E0 KX mJ7_fill_53178 (p_J7_fill_53178_31 σ v) 5 [(3, .int 40), (2, .int x1), (0, .ref 31), (1, .int v)] [] S2 := by
    intro n10
    induction n10 with
    | zero => intro x1 S2 I3 F4 v7 v8 m9; exact absurd m9 (Nat.not_lt_zero _)
    | succ n10 ih6 =>
      intro x1 S2 I3 F4 v7 v8 m9
      have r_x1 := kw_rng x1
      refine kw_iload_n (pc := 5) (i := 5) (k := 1) (n := 2) rfl rfl rfl ?_
      refine kw_iload_n (pc := 6) (i := 6) (k := 0) (n := 3) rfl rfl rfl ?_
      refine kw_icmp_ge (pc := 7) (i := 7) (tgt := 20) rfl rfl (fun c11 => ?_) (fun c11 => ?_)
      · exact kw_return (pc := 20) (i := 14) rfl rfl ⟨⟨I3, F4⟩, rfl⟩
      · refine kw_aload_n (pc := 10) (i := 8) (k := 2) (n := 0) rfl rfl rfl ?_
        refine kw_iload_n (pc := 11) (i := 9) (k := 1) (n := 2) rfl rfl rfl ?_
        refine kw_iload_n (pc := 12) (i := 10) (k := 3) (n := 1) rfl rfl rfl ?_
        refine kw_iast (pc := 13) (i := 11) (n := 40) rfl rfl (by omega) (by omega) ?_
        have I12 : kw_I bX (kw_ui S2 31 x1.toNatClampNeg v) := kw_I_ui I3 (kw_rng v).1 (Int.le_of_lt_add_one (kw_rng v).2)
        have F13 : kw_F [31] σ (kw_ui S2 31 x1.toNatClampNeg v) := kw_F_ui F4 (by decide)
        refine kw_iinc' (pc := 14) (i := 12) (k := 1) (fun z => [(2, .int z), (3, .int 40), (0, .ref 31), (1, .int v)]) rfl rfl (by decide) rfl (fun _ => rfl) (fun z14 e_z14 t_z14 => ?_)
        refine kw_goto (pc := 17) (i := 13) (tgt := 5) rfl rfl ?_
        refine kw_sub (lv' := [(3, .int 40), (2, .int z14), (0, .ref 31), (1, .int v)]) [1, 0, 2, 3] rfl ?_
        exact ih6 z14 (kw_ui S2 31 x1.toNatClampNeg v) I12 F13 (by omega) (by omega) (by omega)
  exact L5 _ 0 σ hI hF0 (by omega) (by omega) (Nat.lt_succ_self _)
abbrev p_J7_fill_53178_32 (σ : kw_S) (v : Int32) : Option Value → kw_S → Prop := fun v σ' => (kw_I bX σ' ∧ kw_F [32] σ σ') ∧ v = none
set_option maxRecDepth 100000 in
set_option maxHeartbeats 4000000 in
theorem c_J7_fill_53178_32 (l : Launch) (σ : kw_S) (hI : kw_I bX σ) (v : Int32) : kw_Met l 1 KX mJ7_fill_53178 [.ref 32, .int v] σ (p_J7_fill_53178_32 σ v) := by
  have r_v := kw_rng v
  have hF0 : kw_F [32] σ σ := kw_F.rf
  have q_0 : (0 : Int32).toInt = 0 := rfl
  have q_40 : (40 : Int32).toInt = 40 := rfl
  refine kw_Met.of (by decide) rfl tJ7_fill_53178 (Nat.le_of_ble_eq_true rfl) ?_
  show kw_AW l 1 kw_E0 KX mJ7_fill_53178 (p_J7_fill_53178_32 σ v) 0 [(0, .ref 32), (1, .int v)] [] σ
  refine kw_iconst (pc := 0) (i := 0) (v := 0) rfl rfl ?_
  refine kw_istore_n (pc := 1) (i := 1) (n := 2) (lv' := [(2, .int 0), (0, .ref 32), (1, .int v)]) rfl rfl (by decide) rfl ?_
  refine kw_aload_n (pc := 2) (i := 2) (k := 1) (n := 0) rfl rfl rfl ?_
  refine kw_alen (pc := 3) (i := 3) (n := 40) (v := 40) rfl rfl rfl ?_
  refine kw_istore_n (pc := 4) (i := 4) (n := 3) (lv' := [(3, .int 40), (2, .int 0), (0, .ref 32), (1, .int v)]) rfl rfl (by decide) rfl ?_
  have L5 : ∀ (n10 : Nat) (x1 : Int32) (S2 : kw_S), kw_I bX S2 → kw_F [32] σ S2 → 0 ≤ x1.toInt → (40 : Int32).toInt ≤ 1000 → (1001 - x1.toInt).toNat < n10 → kw_AW l 1 kw_E0 KX mJ7_fill_53178 (p_J7_fill_53178_32 σ v) 5 [(3, .int 40), (2, .int x1), (0, .ref 32), (1, .int v)] [] S2 := by
    intro n10
    induction n10 with
    | zero => intro x1 S2 I3 F4 v7 v8 m9; exact absurd m9 (Nat.not_lt_zero _)
    | succ n10 ih6 =>
      intro x1 S2 I3 F4 v7 v8 m9
      have r_x1 := kw_rng x1
      refine kw_iload_n (pc := 5) (i := 5) (k := 1) (n := 2) rfl rfl rfl ?_
      refine kw_iload_n (pc := 6) (i := 6) (k := 0) (n := 3) rfl rfl rfl ?_
      refine kw_icmp_ge (pc := 7) (i := 7) (tgt := 20) rfl rfl (fun c11 => ?_) (fun c11 => ?_)
      · exact kw_return (pc := 20) (i := 14) rfl rfl ⟨⟨I3, F4⟩, rfl⟩
      · refine kw_aload_n (pc := 10) (i := 8) (k := 2) (n := 0) rfl rfl rfl ?_
        refine kw_iload_n (pc := 11) (i := 9) (k := 1) (n := 2) rfl rfl rfl ?_
        refine kw_iload_n (pc := 12) (i := 10) (k := 3) (n := 1) rfl rfl rfl ?_
        refine kw_iast (pc := 13) (i := 11) (n := 40) rfl rfl (by omega) (by omega) ?_
        have I12 : kw_I bX (kw_ui S2 32 x1.toNatClampNeg v) := kw_I_ui I3 (kw_rng v).1 (Int.le_of_lt_add_one (kw_rng v).2)
        have F13 : kw_F [32] σ (kw_ui S2 32 x1.toNatClampNeg v) := kw_F_ui F4 (by decide)
        refine kw_iinc' (pc := 14) (i := 12) (k := 1) (fun z => [(2, .int z), (3, .int 40), (0, .ref 32), (1, .int v)]) rfl rfl (by decide) rfl (fun _ => rfl) (fun z14 e_z14 t_z14 => ?_)
        refine kw_goto (pc := 17) (i := 13) (tgt := 5) rfl rfl ?_
        refine kw_sub (lv' := [(3, .int 40), (2, .int z14), (0, .ref 32), (1, .int v)]) [1, 0, 2, 3] rfl ?_
        exact ih6 z14 (kw_ui S2 32 x1.toNatClampNeg v) I12 F13 (by omega) (by omega) (by omega)
  exact L5 _ 0 σ hI hF0 (by omega) (by omega) (Nat.lt_succ_self _)
abbrev p_J7_fill_53178_33 (σ : kw_S) (v : Int32) : Option Value → kw_S → Prop := fun v σ' => (kw_I bX σ' ∧ kw_F [33] σ σ') ∧ v = none
set_option maxRecDepth 100000 in
set_option maxHeartbeats 4000000 in
theorem c_J7_fill_53178_33 (l : Launch) (σ : kw_S) (hI : kw_I bX σ) (v : Int32) : kw_Met l 1 KX mJ7_fill_53178 [.ref 33, .int v] σ (p_J7_fill_53178_33 σ v) := by
  have r_v := kw_rng v
  have hF0 : kw_F [33] σ σ := kw_F.rf
  have q_0 : (0 : Int32).toInt = 0 := rfl
  have q_40 : (40 : Int32).toInt = 40 := rfl
  refine kw_Met.of (by decide) rfl tJ7_fill_53178 (Nat.le_of_ble_eq_true rfl) ?_
  show kw_AW l 1 kw_E0 KX mJ7_fill_53178 (p_J7_fill_53178_33 σ v) 0 [(0, .ref 33), (1, .int v)] [] σ
  refine kw_iconst (pc := 0) (i := 0) (v := 0) rfl rfl ?_
  refine kw_istore_n (pc := 1) (i := 1) (n := 2) (lv' := [(2, .int 0), (0, .ref 33), (1, .int v)]) rfl rfl (by decide) rfl ?_
  refine kw_aload_n (pc := 2) (i := 2) (k := 1) (n := 0) rfl rfl rfl ?_
  refine kw_alen (pc := 3) (i := 3) (n := 40) (v := 40) rfl rfl rfl ?_
  refine kw_istore_n (pc := 4) (i := 4) (n := 3) (lv' := [(3, .int 40), (2, .int 0), (0, .ref 33), (1, .int v)]) rfl rfl (by decide) rfl ?_
  have L5 : ∀ (n10 : Nat) (x1 : Int32) (S2 : kw_S), kw_I bX S2 → kw_F [33] σ S2 → 0 ≤ x1.toInt → (40 : Int32).toInt ≤ 1000 → (1001 - x1.toInt).toNat < n10 → kw_AW l 1 kw_E0 KX mJ7_fill_53178 (p_J7_fill_53178_33 σ v) 5 [(3, .int 40), (2, .int x1), (0, .ref 33), (1, .int v)] [] S2 := by
    intro n10
    induction n10 with
    | zero => intro x1 S2 I3 F4 v7 v8 m9; exact absurd m9 (Nat.not_lt_zero _)
    | succ n10 ih6 =>
      intro x1 S2 I3 F4 v7 v8 m9
      have r_x1 := kw_rng x1
      refine kw_iload_n (pc := 5) (i := 5) (k := 1) (n := 2) rfl rfl rfl ?_
      refine kw_iload_n (pc := 6) (i := 6) (k := 0) (n := 3) rfl rfl rfl ?_
      refine kw_icmp_ge (pc := 7) (i := 7) (tgt := 20) rfl rfl (fun c11 => ?_) (fun c11 => ?_)
      · exact kw_return (pc := 20) (i := 14) rfl rfl ⟨⟨I3, F4⟩, rfl⟩
      · refine kw_aload_n (pc := 10) (i := 8) (k := 2) (n := 0) rfl rfl rfl ?_
        refine kw_iload_n (pc := 11) (i := 9) (k := 1) (n := 2) rfl rfl rfl ?_
        refine kw_iload_n (pc := 12) (i := 10) (k := 3) (n := 1) rfl rfl rfl ?_
        refine kw_iast (pc := 13) (i := 11) (n := 40) rfl rfl (by omega) (by omega) ?_
        have I12 : kw_I bX (kw_ui S2 33 x1.toNatClampNeg v) := kw_I_ui I3 (kw_rng v).1 (Int.le_of_lt_add_one (kw_rng v).2)
        have F13 : kw_F [33] σ (kw_ui S2 33 x1.toNatClampNeg v) := kw_F_ui F4 (by decide)
        refine kw_iinc' (pc := 14) (i := 12) (k := 1) (fun z => [(2, .int z), (3, .int 40), (0, .ref 33), (1, .int v)]) rfl rfl (by decide) rfl (fun _ => rfl) (fun z14 e_z14 t_z14 => ?_)
        refine kw_goto (pc := 17) (i := 13) (tgt := 5) rfl rfl ?_
        refine kw_sub (lv' := [(3, .int 40), (2, .int z14), (0, .ref 33), (1, .int v)]) [1, 0, 2, 3] rfl ?_
        exact ih6 z14 (kw_ui S2 33 x1.toNatClampNeg v) I12 F13 (by omega) (by omega) (by omega)
  exact L5 _ 0 σ hI hF0 (by omega) (by omega) (Nat.lt_succ_self _)
abbrev p_J7_fill_53178_34 (σ : kw_S) (v : Int32) : Option Value → kw_S → Prop := fun v σ' => (kw_I bX σ' ∧ kw_F [34] σ σ') ∧ v = none
set_option maxRecDepth 100000 in
set_option maxHeartbeats 4000000 in
theorem c_J7_fill_53178_34 (l : Launch) (σ : kw_S) (hI : kw_I bX σ) (v : Int32) : kw_Met l 1 KX mJ7_fill_53178 [.ref 34, .int v] σ (p_J7_fill_53178_34 σ v) := by
  have r_v := kw_rng v
  have hF0 : kw_F [34] σ σ := kw_F.rf
  have q_0 : (0 : Int32).toInt = 0 := rfl
  have q_40 : (40 : Int32).toInt = 40 := rfl
  refine kw_Met.of (by decide) rfl tJ7_fill_53178 (Nat.le_of_ble_eq_true rfl) ?_
  show kw_AW l 1 kw_E0 KX mJ7_fill_53178 (p_J7_fill_53178_34 σ v) 0 [(0, .ref 34), (1, .int v)] [] σ
  refine kw_iconst (pc := 0) (i := 0) (v := 0) rfl rfl ?_
  refine kw_istore_n (pc := 1) (i := 1) (n := 2) (lv' := [(2, .int 0), (0, .ref 34), (1, .int v)]) rfl rfl (by decide) rfl ?_
  refine kw_aload_n (pc := 2) (i := 2) (k := 1) (n := 0) rfl rfl rfl ?_
  refine kw_alen (pc := 3) (i := 3) (n := 40) (v := 40) rfl rfl rfl ?_
  refine kw_istore_n (pc := 4) (i := 4) (n := 3) (lv' := [(3, .int 40), (2, .int 0), (0, .ref 34), (1, .int v)]) rfl rfl (by decide) rfl ?_
  have L5 : ∀ (n10 : Nat) (x1 : Int32) (S2 : kw_S), kw_I bX S2 → kw_F [34] σ S2 → 0 ≤ x1.toInt → (40 : Int32).toInt ≤ 1000 → (1001 - x1.toInt).toNat < n10 → kw_AW l 1 kw_E0 KX mJ7_fill_53178 (p_J7_fill_53178_34 σ v) 5 [(3, .int 40), (2, .int x1), (0, .ref 34), (1, .int v)] [] S2 := by
    intro n10
    induction n10 with
    | zero => intro x1 S2 I3 F4 v7 v8 m9; exact absurd m9 (Nat.not_lt_zero _)
    | succ n10 ih6 =>
      intro x1 S2 I3 F4 v7 v8 m9
      have r_x1 := kw_rng x1
      refine kw_iload_n (pc := 5) (i := 5) (k := 1) (n := 2) rfl rfl rfl ?_
      refine kw_iload_n (pc := 6) (i := 6) (k := 0) (n := 3) rfl rfl rfl ?_
      refine kw_icmp_ge (pc := 7) (i := 7) (tgt := 20) rfl rfl (fun c11 => ?_) (fun c11 => ?_)
      · exact kw_return (pc := 20) (i := 14) rfl rfl ⟨⟨I3, F4⟩, rfl⟩
      · refine kw_aload_n (pc := 10) (i := 8) (k := 2) (n := 0) rfl rfl rfl ?_
        refine kw_iload_n (pc := 11) (i := 9) (k := 1) (n := 2) rfl rfl rfl ?_
        refine kw_iload_n (pc := 12) (i := 10) (k := 3) (n := 1) rfl rfl rfl ?_
        refine kw_iast (pc := 13) (i := 11) (n := 40) rfl rfl (by omega) (by omega) ?_
        have I12 : kw_I bX (kw_ui S2 34 x1.toNatClampNeg v) := kw_I_ui I3 (kw_rng v).1 (Int.le_of_lt_add_one (kw_rng v).2)
        have F13 : kw_F [34] σ (kw_ui S2 34 x1.toNatClampNeg v) := kw_F_ui F4 (by decide)
        refine kw_iinc' (pc := 14) (i := 12) (k := 1) (fun z => [(2, .int z), (3, .int 40), (0, .ref 34), (1, .int v)]) rfl rfl (by decide) rfl (fun _ => rfl) (fun z14 e_z14 t_z14 => ?_)
        refine kw_goto (pc := 17) (i := 13) (tgt := 5) rfl rfl ?_
        refine kw_sub (lv' := [(3, .int 40), (2, .int z14), (0, .ref 34), (1, .int v)]) [1, 0, 2, 3] rfl ?_
        exact ih6 z14 (kw_ui S2 34 x1.toNatClampNeg v) I12 F13 (by omega) (by omega) (by omega)
  exact L5 _ 0 σ hI hF0 (by omega) (by omega) (Nat.lt_succ_self _)
abbrev p_J7_fill_53178_35 (σ : kw_S) (v : Int32) : Option Value → kw_S → Prop := fun v σ' => (kw_I bX σ' ∧ kw_F [35] σ σ') ∧ v = none
set_option maxRecDepth 100000 in
set_option maxHeartbeats 4000000 in
theorem c_J7_fill_53178_35 (l : Launch) (σ : kw_S) (hI : kw_I bX σ) (v : Int32) : kw_Met l 1 KX mJ7_fill_53178 [.ref 35, .int v] σ (p_J7_fill_53178_35 σ v) := by
  have r_v := kw_rng v
  have hF0 : kw_F [35] σ σ := kw_F.rf
  have q_0 : (0 : Int32).toInt = 0 := rfl
  have q_60 : (60 : Int32).toInt = 60 := rfl
  refine kw_Met.of (by decide) rfl tJ7_fill_53178 (Nat.le_of_ble_eq_true rfl) ?_
  show kw_AW l 1 kw_E0 KX mJ7_fill_53178 (p_J7_fill_53178_35 σ v) 0 [(0, .ref 35), (1, .int v)] [] σ
  refine kw_iconst (pc := 0) (i := 0) (v := 0) rfl rfl ?_
  refine kw_istore_n (pc := 1) (i := 1) (n := 2) (lv' := [(2, .int 0), (0, .ref 35), (1, .int v)]) rfl rfl (by decide) rfl ?_
  refine kw_aload_n (pc := 2) (i := 2) (k := 1) (n := 0) rfl rfl rfl ?_
  refine kw_alen (pc := 3) (i := 3) (n := 60) (v := 60) rfl rfl rfl ?_
  refine kw_istore_n (pc := 4) (i := 4) (n := 3) (lv' := [(3, .int 60), (2, .int 0), (0, .ref 35), (1, .int v)]) rfl rfl (by decide) rfl ?_
  have L5 : ∀ (n10 : Nat) (x1 : Int32) (S2 : kw_S), kw_I bX S2 → kw_F [35] σ S2 → 0 ≤ x1.toInt → (60 : Int32).toInt ≤ 1000 → (1001 - x1.toInt).toNat < n10 → kw_AW l 1 kw_E0 KX mJ7_fill_53178 (p_J7_fill_53178_35 σ v) 5 [(3, .int 60), (2, .int x1), (0, .ref 35), (1, .int v)] [] S2 := by
    intro n10
    induction n10 with
    | zero => intro x1 S2 I3 F4 v7 v8 m9; exact absurd m9 (Nat.not_lt_zero _)
    | succ n10 ih6 =>
      intro x1 S2 I3 F4 v7 v8 m9
      have r_x1 := kw_rng x1
      refine kw_iload_n (pc := 5) (i := 5) (k := 1) (n := 2) rfl rfl rfl ?_
      refine kw_iload_n (pc := 6) (i := 6) (k := 0) (n := 3) rfl rfl rfl ?_
      refine kw_icmp_ge (pc := 7) (i := 7) (tgt := 20) rfl rfl (fun c11 => ?_) (fun c11 => ?_)
      · exact kw_return (pc := 20) (i := 14) rfl rfl ⟨⟨I3, F4⟩, rfl⟩
      · refine kw_aload_n (pc := 10) (i := 8) (k := 2) (n := 0) rfl rfl rfl ?_
        refine kw_iload_n (pc := 11) (i := 9) (k := 1) (n := 2) rfl rfl rfl ?_
        refine kw_iload_n (pc := 12) (i := 10) (k := 3) (n := 1) rfl rfl rfl ?_
        refine kw_iast (pc := 13) (i := 11) (n := 60) rfl rfl (by omega) (by omega) ?_
        have I12 : kw_I bX (kw_ui S2 35 x1.toNatClampNeg v) := kw_I_ui I3 (kw_rng v).1 (Int.le_of_lt_add_one (kw_rng v).2)
        have F13 : kw_F [35] σ (kw_ui S2 35 x1.toNatClampNeg v) := kw_F_ui F4 (by decide)
        refine kw_iinc' (pc := 14) (i := 12) (k := 1) (fun z => [(2, .int z), (3, .int 60), (0, .ref 35), (1, .int v)]) rfl rfl (by decide) rfl (fun _ => rfl) (fun z14 e_z14 t_z14 => ?_)
        refine kw_goto (pc := 17) (i := 13) (tgt := 5) rfl rfl ?_
        refine kw_sub (lv' := [(3, .int 60), (2, .int z14), (0, .ref 35), (1, .int v)]) [1, 0, 2, 3] rfl ?_
        exact ih6 z14 (kw_ui S2 35 x1.toNatClampNeg v) I12 F13 (by omega) (by omega) (by omega)
  exact L5 _ 0 σ hI hF0 (by omega) (by omega) (Nat.lt_succ_self _)
abbrev p_J7_fill_53178_36 (σ : kw_S) (v : Int32) : Option Value → kw_S → Prop := fun v σ' => (kw_I bX σ' ∧ kw_F [36] σ σ') ∧ v = none
set_option maxRecDepth 100000 in
set_option maxHeartbeats 4000000 in
theorem c_J7_fill_53178_36 (l : Launch) (σ : kw_S) (hI : kw_I bX σ) (v : Int32) : kw_Met l 1 KX mJ7_fill_53178 [.ref 36, .int v] σ (p_J7_fill_53178_36 σ v) := by
  have r_v := kw_rng v
  have hF0 : kw_F [36] σ σ := kw_F.rf
  have q_0 : (0 : Int32).toInt = 0 := rfl
  have q_60 : (60 : Int32).toInt = 60 := rfl
  refine kw_Met.of (by decide) rfl tJ7_fill_53178 (Nat.le_of_ble_eq_true rfl) ?_
  show kw_AW l 1 kw_E0 KX mJ7_fill_53178 (p_J7_fill_53178_36 σ v) 0 [(0, .ref 36), (1, .int v)] [] σ
  refine kw_iconst (pc := 0) (i := 0) (v := 0) rfl rfl ?_
  refine kw_istore_n (pc := 1) (i := 1) (n := 2) (lv' := [(2, .int 0), (0, .ref 36), (1, .int v)]) rfl rfl (by decide) rfl ?_
  refine kw_aload_n (pc := 2) (i := 2) (k := 1) (n := 0) rfl rfl rfl ?_
  refine kw_alen (pc := 3) (i := 3) (n := 60) (v := 60) rfl rfl rfl ?_
  refine kw_istore_n (pc := 4) (i := 4) (n := 3) (lv' := [(3, .int 60), (2, .int 0), (0, .ref 36), (1, .int v)]) rfl rfl (by decide) rfl ?_
  have L5 : ∀ (n10 : Nat) (x1 : Int32) (S2 : kw_S), kw_I bX S2 → kw_F [36] σ S2 → 0 ≤ x1.toInt → (60 : Int32).toInt ≤ 1000 → (1001 - x1.toInt).toNat < n10 → kw_AW l 1 kw_E0 KX mJ7_fill_53178 (p_J7_fill_53178_36 σ v) 5 [(3, .int 60), (2, .int x1), (0, .ref 36), (1, .int v)] [] S2 := by
    intro n10
    induction n10 with
    | zero => intro x1 S2 I3 F4 v7 v8 m9; exact absurd m9 (Nat.not_lt_zero _)
    | succ n10 ih6 =>
      intro x1 S2 I3 F4 v7 v8 m9
      have r_x1 := kw_rng x1
      refine kw_iload_n (pc := 5) (i := 5) (k := 1) (n := 2) rfl rfl rfl ?_
      refine kw_iload_n (pc := 6) (i := 6) (k := 0) (n := 3) rfl rfl rfl ?_
      refine kw_icmp_ge (pc := 7) (i := 7) (tgt := 20) rfl rfl (fun c11 => ?_) (fun c11 => ?_)
      · exact kw_return (pc := 20) (i := 14) rfl rfl ⟨⟨I3, F4⟩, rfl⟩
      · refine kw_aload_n (pc := 10) (i := 8) (k := 2) (n := 0) rfl rfl rfl ?_
        refine kw_iload_n (pc := 11) (i := 9) (k := 1) (n := 2) rfl rfl rfl ?_
        refine kw_iload_n (pc := 12) (i := 10) (k := 3) (n := 1) rfl rfl rfl ?_
        refine kw_iast (pc := 13) (i := 11) (n := 60) rfl rfl (by omega) (by omega) ?_
        have I12 : kw_I bX (kw_ui S2 36 x1.toNatClampNeg v) := kw_I_ui I3 (kw_rng v).1 (Int.le_of_lt_add_one (kw_rng v).2)
        have F13 : kw_F [36] σ (kw_ui S2 36 x1.toNatClampNeg v) := kw_F_ui F4 (by decide)
        refine kw_iinc' (pc := 14) (i := 12) (k := 1) (fun z => [(2, .int z), (3, .int 60), (0, .ref 36), (1, .int v)]) rfl rfl (by decide) rfl (fun _ => rfl) (fun z14 e_z14 t_z14 => ?_)
        refine kw_goto (pc := 17) (i := 13) (tgt := 5) rfl rfl ?_
        refine kw_sub (lv' := [(3, .int 60), (2, .int z14), (0, .ref 36), (1, .int v)]) [1, 0, 2, 3] rfl ?_
        exact ih6 z14 (kw_ui S2 36 x1.toNatClampNeg v) I12 F13 (by omega) (by omega) (by omega)
  exact L5 _ 0 σ hI hF0 (by omega) (by omega) (Nat.lt_succ_self _)
abbrev p_J7_fill_53178_37 (σ : kw_S) (v : Int32) : Option Value → kw_S → Prop := fun v σ' => (kw_I bX σ' ∧ kw_F [37] σ σ') ∧ v = none
set_option maxRecDepth 100000 in
set_option maxHeartbeats 4000000 in
theorem c_J7_fill_53178_37 (l : Launch) (σ : kw_S) (hI : kw_I bX σ) (v : Int32) : kw_Met l 1 KX mJ7_fill_53178 [.ref 37, .int v] σ (p_J7_fill_53178_37 σ v) := by
  have r_v := kw_rng v
  have hF0 : kw_F [37] σ σ := kw_F.rf
  have q_0 : (0 : Int32).toInt = 0 := rfl
  have q_60 : (60 : Int32).toInt = 60 := rfl
  refine kw_Met.of (by decide) rfl tJ7_fill_53178 (Nat.le_of_ble_eq_true rfl) ?_
  show kw_AW l 1 kw_E0 KX mJ7_fill_53178 (p_J7_fill_53178_37 σ v) 0 [(0, .ref 37), (1, .int v)] [] σ
  refine kw_iconst (pc := 0) (i := 0) (v := 0) rfl rfl ?_
  refine kw_istore_n (pc := 1) (i := 1) (n := 2) (lv' := [(2, .int 0), (0, .ref 37), (1, .int v)]) rfl rfl (by decide) rfl ?_
  refine kw_aload_n (pc := 2) (i := 2) (k := 1) (n := 0) rfl rfl rfl ?_
  refine kw_alen (pc := 3) (i := 3) (n := 60) (v := 60) rfl rfl rfl ?_
  refine kw_istore_n (pc := 4) (i := 4) (n := 3) (lv' := [(3, .int 60), (2, .int 0), (0, .ref 37), (1, .int v)]) rfl rfl (by decide) rfl ?_
  have L5 : ∀ (n10 : Nat) (x1 : Int32) (S2 : kw_S), kw_I bX S2 → kw_F [37] σ S2 → 0 ≤ x1.toInt → (60 : Int32).toInt ≤ 1000 → (1001 - x1.toInt).toNat < n10 → kw_AW l 1 kw_E0 KX mJ7_fill_53178 (p_J7_fill_53178_37 σ v) 5 [(3, .int 60), (2, .int x1), (0, .ref 37), (1, .int v)] [] S2 := by
    intro n10
    induction n10 with
    | zero => intro x1 S2 I3 F4 v7 v8 m9; exact absurd m9 (Nat.not_lt_zero _)
    | succ n10 ih6 =>
      intro x1 S2 I3 F4 v7 v8 m9
      have r_x1 := kw_rng x1
      refine kw_iload_n (pc := 5) (i := 5) (k := 1) (n := 2) rfl rfl rfl ?_
      refine kw_iload_n (pc := 6) (i := 6) (k := 0) (n := 3) rfl rfl rfl ?_
      refine kw_icmp_ge (pc := 7) (i := 7) (tgt := 20) rfl rfl (fun c11 => ?_) (fun c11 => ?_)
      · exact kw_return (pc := 20) (i := 14) rfl rfl ⟨⟨I3, F4⟩, rfl⟩
      · refine kw_aload_n (pc := 10) (i := 8) (k := 2) (n := 0) rfl rfl rfl ?_
        refine kw_iload_n (pc := 11) (i := 9) (k := 1) (n := 2) rfl rfl rfl ?_
        refine kw_iload_n (pc := 12) (i := 10) (k := 3) (n := 1) rfl rfl rfl ?_
        refine kw_iast (pc := 13) (i := 11) (n := 60) rfl rfl (by omega) (by omega) ?_
        have I12 : kw_I bX (kw_ui S2 37 x1.toNatClampNeg v) := kw_I_ui I3 (kw_rng v).1 (Int.le_of_lt_add_one (kw_rng v).2)
        have F13 : kw_F [37] σ (kw_ui S2 37 x1.toNatClampNeg v) := kw_F_ui F4 (by decide)
        refine kw_iinc' (pc := 14) (i := 12) (k := 1) (fun z => [(2, .int z), (3, .int 60), (0, .ref 37), (1, .int v)]) rfl rfl (by decide) rfl (fun _ => rfl) (fun z14 e_z14 t_z14 => ?_)
        refine kw_goto (pc := 17) (i := 13) (tgt := 5) rfl rfl ?_
        refine kw_sub (lv' := [(3, .int 60), (2, .int z14), (0, .ref 37), (1, .int v)]) [1, 0, 2, 3] rfl ?_
        exact ih6 z14 (kw_ui S2 37 x1.toNatClampNeg v) I12 F13 (by omega) (by omega) (by omega)
  exact L5 _ 0 σ hI hF0 (by omega) (by omega) (Nat.lt_succ_self _)
abbrev p_J7_fill_53178_38 (σ : kw_S) (v : Int32) : Option Value → kw_S → Prop := fun v σ' => (kw_I bX σ' ∧ kw_F [38] σ σ') ∧ v = none
set_option maxRecDepth 100000 in
set_option maxHeartbeats 4000000 in
theorem c_J7_fill_53178_38 (l : Launch) (σ : kw_S) (hI : kw_I bX σ) (v : Int32) : kw_Met l 1 KX mJ7_fill_53178 [.ref 38, .int v] σ (p_J7_fill_53178_38 σ v) := by
  have r_v := kw_rng v
  have hF0 : kw_F [38] σ σ := kw_F.rf
  have q_0 : (0 : Int32).toInt = 0 := rfl
  have q_60 : (60 : Int32).toInt = 60 := rfl
  refine kw_Met.of (by decide) rfl tJ7_fill_53178 (Nat.le_of_ble_eq_true rfl) ?_
  show kw_AW l 1 kw_E0 KX mJ7_fill_53178 (p_J7_fill_53178_38 σ v) 0 [(0, .ref 38), (1, .int v)] [] σ
  refine kw_iconst (pc := 0) (i := 0) (v := 0) rfl rfl ?_
  refine kw_istore_n (pc := 1) (i := 1) (n := 2) (lv' := [(2, .int 0), (0, .ref 38), (1, .int v)]) rfl rfl (by decide) rfl ?_
  refine kw_aload_n (pc := 2) (i := 2) (k := 1) (n := 0) rfl rfl rfl ?_
  refine kw_alen (pc := 3) (i := 3) (n := 60) (v := 60) rfl rfl rfl ?_
  refine kw_istore_n (pc := 4) (i := 4) (n := 3) (lv' := [(3, .int 60), (2, .int 0), (0, .ref 38), (1, .int v)]) rfl rfl (by decide) rfl ?_
  have L5 : ∀ (n10 : Nat) (x1 : Int32) (S2 : kw_S), kw_I bX S2 → kw_F [38] σ S2 → 0 ≤ x1.toInt → (60 : Int32).toInt ≤ 1000 → (1001 - x1.toInt).toNat < n10 → kw_AW l 1 kw_E0 KX mJ7_fill_53178 (p_J7_fill_53178_38 σ v) 5 [(3, .int 60), (2, .int x1), (0, .ref 38), (1, .int v)] [] S2 := by
    intro n10
    induction n10 with
    | zero => intro x1 S2 I3 F4 v7 v8 m9; exact absurd m9 (Nat.not_lt_zero _)
    | succ n10 ih6 =>
      intro x1 S2 I3 F4 v7 v8 m9
      have r_x1 := kw_rng x1
      refine kw_iload_n (pc := 5) (i := 5) (k := 1) (n := 2) rfl rfl rfl ?_
      refine kw_iload_n (pc := 6) (i := 6) (k := 0) (n := 3) rfl rfl rfl ?_
      refine kw_icmp_ge (pc := 7) (i := 7) (tgt := 20) rfl rfl (fun c11 => ?_) (fun c11 => ?_)
      · exact kw_return (pc := 20) (i := 14) rfl rfl ⟨⟨I3, F4⟩, rfl⟩
      · refine kw_aload_n (pc := 10) (i := 8) (k := 2) (n := 0) rfl rfl rfl ?_
        refine kw_iload_n (pc := 11) (i := 9) (k := 1) (n := 2) rfl rfl rfl ?_
        refine kw_iload_n (pc := 12) (i := 10) (k := 3) (n := 1) rfl rfl rfl ?_
        refine kw_iast (pc := 13) (i := 11) (n := 60) rfl rfl (by omega) (by omega) ?_
        have I12 : kw_I bX (kw_ui S2 38 x1.toNatClampNeg v) := kw_I_ui I3 (kw_rng v).1 (Int.le_of_lt_add_one (kw_rng v).2)
        have F13 : kw_F [38] σ (kw_ui S2 38 x1.toNatClampNeg v) := kw_F_ui F4 (by decide)
        refine kw_iinc' (pc := 14) (i := 12) (k := 1) (fun z => [(2, .int z), (3, .int 60), (0, .ref 38), (1, .int v)]) rfl rfl (by decide) rfl (fun _ => rfl) (fun z14 e_z14 t_z14 => ?_)
        refine kw_goto (pc := 17) (i := 13) (tgt := 5) rfl rfl ?_
        refine kw_sub (lv' := [(3, .int 60), (2, .int z14), (0, .ref 38), (1, .int v)]) [1, 0, 2, 3] rfl ?_
        exact ih6 z14 (kw_ui S2 38 x1.toNatClampNeg v) I12 F13 (by omega) (by omega) (by omega)
  exact L5 _ 0 σ hI hF0 (by omega) (by omega) (Nat.lt_succ_self _)
abbrev p_J7_fill_53178_49 (σ : kw_S) (v : Int32) : Option Value → kw_S → Prop := fun v σ' => (kw_I bX σ' ∧ kw_F [49] σ σ') ∧ v = none
set_option maxRecDepth 100000 in
set_option maxHeartbeats 4000000 in
theorem c_J7_fill_53178_49 (l : Launch) (σ : kw_S) (hI : kw_I bX σ) (v : Int32) : kw_Met l 1 KX mJ7_fill_53178 [.ref 49, .int v] σ (p_J7_fill_53178_49 σ v) := by
  have r_v := kw_rng v
  have hF0 : kw_F [49] σ σ := kw_F.rf
  have q_0 : (0 : Int32).toInt = 0 := rfl
  have q_40 : (40 : Int32).toInt = 40 := rfl
  refine kw_Met.of (by decide) rfl tJ7_fill_53178 (Nat.le_of_ble_eq_true rfl) ?_
  show kw_AW l 1 kw_E0 KX mJ7_fill_53178 (p_J7_fill_53178_49 σ v) 0 [(0, .ref 49), (1, .int v)] [] σ
  refine kw_iconst (pc := 0) (i := 0) (v := 0) rfl rfl ?_
  refine kw_istore_n (pc := 1) (i := 1) (n := 2) (lv' := [(2, .int 0), (0, .ref 49), (1, .int v)]) rfl rfl (by decide) rfl ?_
  refine kw_aload_n (pc := 2) (i := 2) (k := 1) (n := 0) rfl rfl rfl ?_
  refine kw_alen (pc := 3) (i := 3) (n := 40) (v := 40) rfl rfl rfl ?_
  refine kw_istore_n (pc := 4) (i := 4) (n := 3) (lv' := [(3, .int 40), (2, .int 0), (0, .ref 49), (1, .int v)]) rfl rfl (by decide) rfl ?_
  have L5 : ∀ (n10 : Nat) (x1 : Int32) (S2 : kw_S), kw_I bX S2 → kw_F [49] σ S2 → 0 ≤ x1.toInt → (40 : Int32).toInt ≤ 1000 → (1001 - x1.toInt).toNat < n10 → kw_AW l 1 kw_E0 KX mJ7_fill_53178 (p_J7_fill_53178_49 σ v) 5 [(3, .int 40), (2, .int x1), (0, .ref 49), (1, .int v)] [] S2 := by
    intro n10
    induction n10 with
    | zero => intro x1 S2 I3 F4 v7 v8 m9; exact absurd m9 (Nat.not_lt_zero _)
    | succ n10 ih6 =>
      intro x1 S2 I3 F4 v7 v8 m9
      have r_x1 := kw_rng x1
      refine kw_iload_n (pc := 5) (i := 5) (k := 1) (n := 2) rfl rfl rfl ?_
      refine kw_iload_n (pc := 6) (i := 6) (k := 0) (n := 3) rfl rfl rfl ?_
      refine kw_icmp_ge (pc := 7) (i := 7) (tgt := 20) rfl rfl (fun c11 => ?_) (fun c11 => ?_)
      · exact kw_return (pc := 20) (i := 14) rfl rfl ⟨⟨I3, F4⟩, rfl⟩
      · refine kw_aload_n (pc := 10) (i := 8) (k := 2) (n := 0) rfl rfl rfl ?_
        refine kw_iload_n (pc := 11) (i := 9) (k := 1) (n := 2) rfl rfl rfl ?_
        refine kw_iload_n (pc := 12) (i := 10) (k := 3) (n := 1) rfl rfl rfl ?_
        refine kw_iast (pc := 13) (i := 11) (n := 40) rfl rfl (by omega) (by omega) ?_
        have I12 : kw_I bX (kw_ui S2 49 x1.toNatClampNeg v) := kw_I_ui I3 (kw_rng v).1 (Int.le_of_lt_add_one (kw_rng v).2)
        have F13 : kw_F [49] σ (kw_ui S2 49 x1.toNatClampNeg v) := kw_F_ui F4 (by decide)
        refine kw_iinc' (pc := 14) (i := 12) (k := 1) (fun z => [(2, .int z), (3, .int 40), (0, .ref 49), (1, .int v)]) rfl rfl (by decide) rfl (fun _ => rfl) (fun z14 e_z14 t_z14 => ?_)
        refine kw_goto (pc := 17) (i := 13) (tgt := 5) rfl rfl ?_
        refine kw_sub (lv' := [(3, .int 40), (2, .int z14), (0, .ref 49), (1, .int v)]) [1, 0, 2, 3] rfl ?_
        exact ih6 z14 (kw_ui S2 49 x1.toNatClampNeg v) I12 F13 (by omega) (by omega) (by omega)
  exact L5 _ 0 σ hI hF0 (by omega) (by omega) (Nat.lt_succ_self _)
abbrev p_J7_fill_53178_50 (σ : kw_S) (v : Int32) : Option Value → kw_S → Prop := fun v σ' => (kw_I bX σ' ∧ kw_F [50] σ σ') ∧ v = none
set_option maxRecDepth 100000 in
set_option maxHeartbeats 4000000 in
theorem c_J7_fill_53178_50 (l : Launch) (σ : kw_S) (hI : kw_I bX σ) (v : Int32) : kw_Met l 1 KX mJ7_fill_53178 [.ref 50, .int v] σ (p_J7_fill_53178_50 σ v) := by
  have r_v := kw_rng v
  have hF0 : kw_F [50] σ σ := kw_F.rf
  have q_0 : (0 : Int32).toInt = 0 := rfl
  have q_40 : (40 : Int32).toInt = 40 := rfl
  refine kw_Met.of (by decide) rfl tJ7_fill_53178 (Nat.le_of_ble_eq_true rfl) ?_
  show kw_AW l 1 kw_E0 KX mJ7_fill_53178 (p_J7_fill_53178_50 σ v) 0 [(0, .ref 50), (1, .int v)] [] σ
  refine kw_iconst (pc := 0) (i := 0) (v := 0) rfl rfl ?_
  refine kw_istore_n (pc := 1) (i := 1) (n := 2) (lv' := [(2, .int 0), (0, .ref 50), (1, .int v)]) rfl rfl (by decide) rfl ?_
  refine kw_aload_n (pc := 2) (i := 2) (k := 1) (n := 0) rfl rfl rfl ?_
  refine kw_alen (pc := 3) (i := 3) (n := 40) (v := 40) rfl rfl rfl ?_
  refine kw_istore_n (pc := 4) (i := 4) (n := 3) (lv' := [(3, .int 40), (2, .int 0), (0, .ref 50), (1, .int v)]) rfl rfl (by decide) rfl ?_
  have L5 : ∀ (n10 : Nat) (x1 : Int32) (S2 : kw_S), kw_I bX S2 → kw_F [50] σ S2 → 0 ≤ x1.toInt → (40 : Int32).toInt ≤ 1000 → (1001 - x1.toInt).toNat < n10 → kw_AW l 1 kw_E0 KX mJ7_fill_53178 (p_J7_fill_53178_50 σ v) 5 [(3, .int 40), (2, .int x1), (0, .ref 50), (1, .int v)] [] S2 := by
    intro n10
    induction n10 with
    | zero => intro x1 S2 I3 F4 v7 v8 m9; exact absurd m9 (Nat.not_lt_zero _)
    | succ n10 ih6 =>
      intro x1 S2 I3 F4 v7 v8 m9
      have r_x1 := kw_rng x1
      refine kw_iload_n (pc := 5) (i := 5) (k := 1) (n := 2) rfl rfl rfl ?_
      refine kw_iload_n (pc := 6) (i := 6) (k := 0) (n := 3) rfl rfl rfl ?_
      refine kw_icmp_ge (pc := 7) (i := 7) (tgt := 20) rfl rfl (fun c11 => ?_) (fun c11 => ?_)
      · exact kw_return (pc := 20) (i := 14) rfl rfl ⟨⟨I3, F4⟩, rfl⟩
      · refine kw_aload_n (pc := 10) (i := 8) (k := 2) (n := 0) rfl rfl rfl ?_
        refine kw_iload_n (pc := 11) (i := 9) (k := 1) (n := 2) rfl rfl rfl ?_
        refine kw_iload_n (pc := 12) (i := 10) (k := 3) (n := 1) rfl rfl rfl ?_
        refine kw_iast (pc := 13) (i := 11) (n := 40) rfl rfl (by omega) (by omega) ?_
        have I12 : kw_I bX (kw_ui S2 50 x1.toNatClampNeg v) := kw_I_ui I3 (kw_rng v).1 (Int.le_of_lt_add_one (kw_rng v).2)
        have F13 : kw_F [50] σ (kw_ui S2 50 x1.toNatClampNeg v) := kw_F_ui F4 (by decide)
        refine kw_iinc' (pc := 14) (i := 12) (k := 1) (fun z => [(2, .int z), (3, .int 40), (0, .ref 50), (1, .int v)]) rfl rfl (by decide) rfl (fun _ => rfl) (fun z14 e_z14 t_z14 => ?_)
        refine kw_goto (pc := 17) (i := 13) (tgt := 5) rfl rfl ?_
        refine kw_sub (lv' := [(3, .int 40), (2, .int z14), (0, .ref 50), (1, .int v)]) [1, 0, 2, 3] rfl ?_
        exact ih6 z14 (kw_ui S2 50 x1.toNatClampNeg v) I12 F13 (by omega) (by omega) (by omega)
  exact L5 _ 0 σ hI hF0 (by omega) (by omega) (Nat.lt_succ_self _)
abbrev p_J7_fill_53178_51 (σ : kw_S) (v : Int32) : Option Value → kw_S → Prop := fun v σ' => (kw_I bX σ' ∧ kw_F [51] σ σ') ∧ v = none
set_option maxRecDepth 100000 in
set_option maxHeartbeats 4000000 in
theorem c_J7_fill_53178_51 (l : Launch) (σ : kw_S) (hI : kw_I bX σ) (v : Int32) : kw_Met l 1 KX mJ7_fill_53178 [.ref 51, .int v] σ (p_J7_fill_53178_51 σ v) := by
  have r_v := kw_rng v
  have hF0 : kw_F [51] σ σ := kw_F.rf
  have q_0 : (0 : Int32).toInt = 0 := rfl
  have q_40 : (40 : Int32).toInt = 40 := rfl
  refine kw_Met.of (by decide) rfl tJ7_fill_53178 (Nat.le_of_ble_eq_true rfl) ?_
  show kw_AW l 1 kw_E0 KX mJ7_fill_53178 (p_J7_fill_53178_51 σ v) 0 [(0, .ref 51), (1, .int v)] [] σ
  refine kw_iconst (pc := 0) (i := 0) (v := 0) rfl rfl ?_
  refine kw_istore_n (pc := 1) (i := 1) (n := 2) (lv' := [(2, .int 0), (0, .ref 51), (1, .int v)]) rfl rfl (by decide) rfl ?_
  refine kw_aload_n (pc := 2) (i := 2) (k := 1) (n := 0) rfl rfl rfl ?_
  refine kw_alen (pc := 3) (i := 3) (n := 40) (v := 40) rfl rfl rfl ?_
  refine kw_istore_n (pc := 4) (i := 4) (n := 3) (lv' := [(3, .int 40), (2, .int 0), (0, .ref 51), (1, .int v)]) rfl rfl (by decide) rfl ?_
  have L5 : ∀ (n10 : Nat) (x1 : Int32) (S2 : kw_S), kw_I bX S2 → kw_F [51] σ S2 → 0 ≤ x1.toInt → (40 : Int32).toInt ≤ 1000 → (1001 - x1.toInt).toNat < n10 → kw_AW l 1 kw_E0 KX mJ7_fill_53178 (p_J7_fill_53178_51 σ v) 5 [(3, .int 40), (2, .int x1), (0, .ref 51), (1, .int v)] [] S2 := by
    intro n10
    induction n10 with
    | zero => intro x1 S2 I3 F4 v7 v8 m9; exact absurd m9 (Nat.not_lt_zero _)
    | succ n10 ih6 =>
      intro x1 S2 I3 F4 v7 v8 m9
      have r_x1 := kw_rng x1
      refine kw_iload_n (pc := 5) (i := 5) (k := 1) (n := 2) rfl rfl rfl ?_
      refine kw_iload_n (pc := 6) (i := 6) (k := 0) (n := 3) rfl rfl rfl ?_
      refine kw_icmp_ge (pc := 7) (i := 7) (tgt := 20) rfl rfl (fun c11 => ?_) (fun c11 => ?_)
      · exact kw_return (pc := 20) (i := 14) rfl rfl ⟨⟨I3, F4⟩, rfl⟩
      · refine kw_aload_n (pc := 10) (i := 8) (k := 2) (n := 0) rfl rfl rfl ?_
        refine kw_iload_n (pc := 11) (i := 9) (k := 1) (n := 2) rfl rfl rfl ?_
        refine kw_iload_n (pc := 12) (i := 10) (k := 3) (n := 1) rfl rfl rfl ?_
        refine kw_iast (pc := 13) (i := 11) (n := 40) rfl rfl (by omega) (by omega) ?_
        have I12 : kw_I bX (kw_ui S2 51 x1.toNatClampNeg v) := kw_I_ui I3 (kw_rng v).1 (Int.le_of_lt_add_one (kw_rng v).2)
        have F13 : kw_F [51] σ (kw_ui S2 51 x1.toNatClampNeg v) := kw_F_ui F4 (by decide)
        refine kw_iinc' (pc := 14) (i := 12) (k := 1) (fun z => [(2, .int z), (3, .int 40), (0, .ref 51), (1, .int v)]) rfl rfl (by decide) rfl (fun _ => rfl) (fun z14 e_z14 t_z14 => ?_)
        refine kw_goto (pc := 17) (i := 13) (tgt := 5) rfl rfl ?_
        refine kw_sub (lv' := [(3, .int 40), (2, .int z14), (0, .ref 51), (1, .int v)]) [1, 0, 2, 3] rfl ?_
        exact ih6 z14 (kw_ui S2 51 x1.toNatClampNeg v) I12 F13 (by omega) (by omega) (by omega)
  exact L5 _ 0 σ hI hF0 (by omega) (by omega) (Nat.lt_succ_self _)
end
section
abbrev p_X3_has_1 (σ : kw_S) (k : Int32) : Option Value → kw_S → Prop := fun v σ' => σ' = σ ∧ ∃ r : Int32, v = some (.int r) ∧ (r.toInt = 0 ∨ r.toInt = 1) ∧ (r.toInt = 0 ∨ 0 ≤ k.toInt ∧ k.toInt < 6) ∧ (r.toInt = 1 ∨ k.toInt < 0 ∨ 6 ≤ k.toInt)
set_option maxRecDepth 100000 in
set_option maxHeartbeats 4000000 in
theorem c_X3_has_1 (l : Launch) (σ : kw_S) (hI : kw_I bX σ) (k : Int32) : kw_Met l 1 KX mX3_has [.ref 1, .int k] σ (p_X3_has_1 σ k) := by
  have r_k := kw_rng k
  have q_0 : (0 : Int32).toInt = 0 := rfl
  have q_1 : (1 : Int32).toInt = 1 := rfl
  have q_6 : (6 : Int32).toInt = 6 := rfl
  refine kw_Met.of (by decide) rfl tX3_has (Nat.le_of_ble_eq_true rfl) ?_
  show kw_AW l 1 kw_E0 KX mX3_has (p_X3_has_1 σ k) 0 [(0, .ref 1), (1, .int k)] [] σ
  refine kw_iload_n (pc := 0) (i := 0) (k := 1) (n := 1) rfl rfl rfl ?_
  refine kw_if_lt (pc := 1) (i := 1) (tgt := 17) rfl rfl (fun c1 => ?_) (fun c1 => ?_)
  · refine kw_iconst (pc := 17) (i := 9) (v := 0) rfl rfl ?_
    exact kw_ireturn (pc := 18) (i := 10) (ty := .boolean) rfl rfl rfl ⟨rfl, _, rfl, ⟨by omega, by omega, by omega⟩⟩
  · refine kw_iload_n (pc := 4) (i := 2) (k := 1) (n := 1) rfl rfl rfl ?_
    refine kw_aload_n (pc := 5) (i := 3) (k := 0) (n := 0) rfl rfl rfl ?_
    refine kw_get (pc := 6) (i := 4) (v := .ref 13) rfl rfl rfl lkX3_20 (fun _ => rfl) ?_
    refine kw_alen (pc := 9) (i := 5) (n := 6) (v := 6) rfl rfl rfl ?_
    refine kw_icmp_ge (pc := 10) (i := 6) (tgt := 17) rfl rfl (fun c2 => ?_) (fun c2 => ?_)
    · refine kw_iconst (pc := 17) (i := 9) (v := 0) rfl rfl ?_
      exact kw_ireturn (pc := 18) (i := 10) (ty := .boolean) rfl rfl rfl ⟨rfl, _, rfl, ⟨by omega, by omega, by omega⟩⟩
    · refine kw_iconst (pc := 13) (i := 7) (v := 1) rfl rfl ?_
      refine kw_goto (pc := 14) (i := 8) (tgt := 18) rfl rfl ?_
      exact kw_ireturn (pc := 18) (i := 10) (ty := .boolean) rfl rfl rfl ⟨rfl, _, rfl, ⟨by omega, by omega, by omega⟩⟩
abbrev p_X3_sizeOf_1 (σ : kw_S) (k : Int32) : Option Value → kw_S → Prop := fun v σ' => σ' = σ ∧ ∃ r : Int32, v = some (.int r) ∧ -1 ≤ r.toInt ∧ r.toInt ≤ 40 ∧ (r.toInt < 0 ∨ 0 ≤ k.toInt ∧ k.toInt < 6) ∧ (0 ≤ k.toInt → k.toInt < 6 → r.toInt = (σ.1 13 k.toNatClampNeg).toInt)
set_option maxRecDepth 100000 in
set_option maxHeartbeats 4000000 in
theorem c_X3_sizeOf_1 (l : Launch) (σ : kw_S) (hI : kw_I bX σ) (k : Int32) : kw_Met l 2 KX mX3_sizeOf [.ref 1, .int k] σ (p_X3_sizeOf_1 σ k) := by
  have r_k := kw_rng k
  have q_m1 : (-1 : Int32).toInt = -1 := rfl
  refine kw_Met.of (by decide) rfl tX3_sizeOf (Nat.le_of_ble_eq_true rfl) ?_
  show kw_AW l 2 kw_E0 KX mX3_sizeOf (p_X3_sizeOf_1 σ k) 0 [(0, .ref 1), (1, .int k)] [] σ
  refine kw_aload_n (pc := 0) (i := 0) (k := 0) (n := 0) rfl rfl rfl ?_
  refine kw_iload_n (pc := 1) (i := 1) (k := 1) (n := 1) rfl rfl rfl ?_
  refine kw_callV (pc := 2) (i := 2) (Y := mX3_has) (a := 1) (As := [.int k]) (st := []) kw_hE rfl rfl lvX3_34 arX3_has (c_X3_has_1 l σ hI k ) (by decide) (by decide) rfl (fun v S2 p1 => ?_)
  obtain ⟨e7, z6, rfl, f3, f4, f5⟩ := p1
  rw [e7]
  have r_z6 := kw_rng z6
  show kw_AW l 2 kw_E0 KX mX3_sizeOf (p_X3_sizeOf_1 σ k) 5 [(0, .ref 1), (1, .int k)] [.int z6] σ
  refine kw_if_eq (pc := 5) (i := 3) (tgt := 17) rfl rfl (fun c8 => ?_) (fun c8 => ?_)
  · refine kw_iconst (pc := 17) (i := 9) (v := (-1)) rfl rfl ?_
    exact kw_ireturn (pc := 18) (i := 10) (ty := .int) rfl rfl rfl ⟨rfl, _, rfl, ⟨by omega, by omega, by omega, by omega⟩⟩
  · refine kw_aload_n (pc := 8) (i := 4) (k := 0) (n := 0) rfl rfl rfl ?_
    refine kw_get (pc := 9) (i := 5) (v := .ref 13) rfl rfl rfl lkX3_20 (fun _ => rfl) ?_
    refine kw_iload_n (pc := 12) (i := 6) (k := 1) (n := 1) rfl rfl rfl ?_
    refine kw_iald (pc := 13) (i := 7) (n := 6) rfl rfl (by omega) (by omega) (fun z9 e_z9 => ?_)
    have t_z9 := congrArg Int32.toInt e_z9
    have b_z9 : -1 ≤ z9.toInt ∧ z9.toInt ≤ 40 := by rw [e_z9]; exact hI 13 _
    refine kw_goto (pc := 14) (i := 8) (tgt := 18) rfl rfl ?_
    exact kw_ireturn (pc := 18) (i := 10) (ty := .int) rfl rfl rfl ⟨rfl, _, rfl, ⟨by omega, by omega, by omega, by omega⟩⟩
abbrev p_X3_isMissing_1 (σ : kw_S) (k : Int32) : Option Value → kw_S → Prop := fun v σ' => σ' = σ ∧ ∃ r : Int32, v = some (.int r) ∧ (r.toInt = 0 ∨ r.toInt = 1) ∧ (r.toInt = 1 ∨ 0 ≤ k.toInt ∧ k.toInt < 6)
set_option maxRecDepth 100000 in
set_option maxHeartbeats 4000000 in
theorem c_X3_isMissing_1 (l : Launch) (σ : kw_S) (hI : kw_I bX σ) (k : Int32) : kw_Met l 3 KX mX3_isMissing [.ref 1, .int k] σ (p_X3_isMissing_1 σ k) := by
  have r_k := kw_rng k
  have q_0 : (0 : Int32).toInt = 0 := rfl
  have q_1 : (1 : Int32).toInt = 1 := rfl
  refine kw_Met.of (by decide) rfl tX3_isMissing (Nat.le_of_ble_eq_true rfl) ?_
  show kw_AW l 3 kw_E0 KX mX3_isMissing (p_X3_isMissing_1 σ k) 0 [(0, .ref 1), (1, .int k)] [] σ
  refine kw_aload_n (pc := 0) (i := 0) (k := 0) (n := 0) rfl rfl rfl ?_
  refine kw_iload_n (pc := 1) (i := 1) (k := 1) (n := 1) rfl rfl rfl ?_
  refine kw_callV (pc := 2) (i := 2) (Y := mX3_sizeOf) (a := 1) (As := [.int k]) (st := []) kw_hE rfl rfl lvX3_30 arX3_sizeOf (c_X3_sizeOf_1 l σ hI k ) (by decide) (by decide) rfl (fun v S2 p1 => ?_)
  obtain ⟨e8, z7, rfl, f3, f4, f5, f6⟩ := p1
  rw [e8]
  have r_z7 := kw_rng z7
  show kw_AW l 3 kw_E0 KX mX3_isMissing (p_X3_isMissing_1 σ k) 5 [(0, .ref 1), (1, .int k)] [.int z7] σ
  refine kw_if_ge (pc := 5) (i := 3) (tgt := 12) rfl rfl (fun c9 => ?_) (fun c9 => ?_)
  · refine kw_iconst (pc := 12) (i := 6) (v := 0) rfl rfl ?_
    exact kw_ireturn (pc := 13) (i := 7) (ty := .boolean) rfl rfl rfl ⟨rfl, _, rfl, ⟨by omega, by omega⟩⟩
  · refine kw_iconst (pc := 8) (i := 4) (v := 1) rfl rfl ?_
    refine kw_goto (pc := 9) (i := 5) (tgt := 13) rfl rfl ?_
    exact kw_ireturn (pc := 13) (i := 7) (ty := .boolean) rfl rfl rfl ⟨rfl, _, rfl, ⟨by omega, by omega⟩⟩
abbrev p_X3_howMany_1 (σ : kw_S)  : Option Value → kw_S → Prop := fun v σ' => σ' = σ ∧ ∃ r : Int32, v = some (.int r)
set_option maxRecDepth 100000 in
set_option maxHeartbeats 4000000 in
theorem c_X3_howMany_1 (l : Launch) (σ : kw_S) (hI : kw_I bX σ)  : kw_Met l 1 KX mX3_howMany [.ref 1] σ (p_X3_howMany_1 σ) := by
  have q_0 : (0 : Int32).toInt = 0 := rfl
  have q_6 : (6 : Int32).toInt = 6 := rfl
  refine kw_Met.of (by decide) rfl tX3_howMany (Nat.le_of_ble_eq_true rfl) ?_
  show kw_AW l 1 kw_E0 KX mX3_howMany (p_X3_howMany_1 σ) 0 [(0, .ref 1)] [] σ
  refine kw_iconst (pc := 0) (i := 0) (v := 0) rfl rfl ?_
  refine kw_istore_n (pc := 1) (i := 1) (n := 1) (lv' := [(1, .int 0), (0, .ref 1)]) rfl rfl (by decide) rfl ?_
  refine kw_iconst (pc := 2) (i := 2) (v := 0) rfl rfl ?_
  refine kw_istore_n (pc := 3) (i := 3) (n := 2) (lv' := [(2, .int 0), (1, .int 0), (0, .ref 1)]) rfl rfl (by decide) rfl ?_
  have L3 : ∀ (n7 : Nat) (x1 : Int32) (x2 : Int32), 0 ≤ x1.toInt → (10 - x1.toInt).toNat < n7 → kw_AW l 1 kw_E0 KX mX3_howMany (p_X3_howMany_1 σ) 4 [(2, .int x1), (1, .int x2), (0, .ref 1)] [] σ := by
    intro n7
    induction n7 with
    | zero => intro x1 x2 v5 m6; exact absurd m6 (Nat.not_lt_zero _)
    | succ n7 ih4 =>
      intro x1 x2 v5 m6
      have r_x1 := kw_rng x1
      have r_x2 := kw_rng x2
      refine kw_iload_n (pc := 4) (i := 4) (k := 0) (n := 2) rfl rfl rfl ?_
      refine kw_aload_n (pc := 5) (i := 5) (k := 2) (n := 0) rfl rfl rfl ?_
      refine kw_get (pc := 6) (i := 6) (v := .ref 13) rfl rfl rfl lkX3_20 (fun _ => rfl) ?_
      refine kw_alen (pc := 9) (i := 7) (n := 6) (v := 6) rfl rfl rfl ?_
      refine kw_icmp_ge (pc := 10) (i := 8) (tgt := 31) rfl rfl (fun c8 => ?_) (fun c8 => ?_)
      · refine kw_iload_n (pc := 31) (i := 17) (k := 1) (n := 1) rfl rfl rfl ?_
        exact kw_ireturn (pc := 32) (i := 18) (ty := .int) rfl rfl rfl ⟨rfl, _, rfl⟩
      · refine kw_aload_n (pc := 13) (i := 9) (k := 2) (n := 0) rfl rfl rfl ?_
        refine kw_get (pc := 14) (i := 10) (v := .ref 13) rfl rfl rfl lkX3_20 (fun _ => rfl) ?_
        refine kw_iload_n (pc := 17) (i := 11) (k := 0) (n := 2) rfl rfl rfl ?_
        refine kw_iald (pc := 18) (i := 12) (n := 6) rfl rfl (by omega) (by omega) (fun z9 e_z9 => ?_)
        have t_z9 := congrArg Int32.toInt e_z9
        have b_z9 : -1 ≤ z9.toInt ∧ z9.toInt ≤ 40 := by rw [e_z9]; exact hI 13 _
        refine kw_if_lt (pc := 19) (i := 13) (tgt := 25) rfl rfl (fun c10 => ?_) (fun c10 => ?_)
        · refine kw_iinc' (pc := 25) (i := 15) (k := 0) (fun z => [(2, .int z), (1, .int x2), (0, .ref 1)]) rfl rfl (by decide) rfl (fun _ => rfl) (fun z11 e_z11 t_z11 => ?_)
          refine kw_goto (pc := 28) (i := 16) (tgt := 4) rfl rfl ?_
          refine kw_sub (lv' := [(2, .int z11), (1, .int x2), (0, .ref 1)]) [0, 1, 2] rfl ?_
          exact ih4 z11 x2 (by omega) (by omega)
        · refine kw_iinc' (pc := 22) (i := 14) (k := 1) (fun z => [(1, .int z), (2, .int x1), (0, .ref 1)]) rfl rfl (by decide) rfl (fun _ => rfl) (fun z12 e_z12 t_z12 => ?_)
          refine kw_iinc' (pc := 25) (i := 15) (k := 1) (fun z => [(2, .int z), (1, .int z12), (0, .ref 1)]) rfl rfl (by decide) rfl (fun _ => rfl) (fun z13 e_z13 t_z13 => ?_)
          refine kw_goto (pc := 28) (i := 16) (tgt := 4) rfl rfl ?_
          refine kw_sub (lv' := [(2, .int z13), (1, .int z12), (0, .ref 1)]) [0, 1, 2] rfl ?_
          exact ih4 z13 z12 (by omega) (by omega)
  exact L3 _ 0 0 (by omega) (Nat.lt_succ_self _)
abbrev p_X3_hasPlaces_1 (σ : kw_S) (k : Int32) (f : Int32) (n : Int32) : Option Value → kw_S → Prop := fun v σ' => σ' = σ ∧ ∃ r : Int32, v = some (.int r) ∧ (r.toInt = 0 ∨ r.toInt = 1) ∧ (r.toInt = 0 ∨ 0 ≤ k.toInt ∧ k.toInt < 6 ∧ 0 ≤ f.toInt ∧ 0 ≤ n.toInt ∧ f.toInt + n.toInt ≤ 40)
set_option maxRecDepth 100000 in
set_option maxHeartbeats 4000000 in
theorem c_X3_hasPlaces_1 (l : Launch) (σ : kw_S) (hI : kw_I bX σ) (k : Int32) (f : Int32) (n : Int32) : kw_Met l 2 KX mX3_hasPlaces [.ref 1, .int k, .int f, .int n] σ (p_X3_hasPlaces_1 σ k f n) := by
  have r_k := kw_rng k
  have r_f := kw_rng f
  have r_n := kw_rng n
  have q_0 : (0 : Int32).toInt = 0 := rfl
  have q_1 : (1 : Int32).toInt = 1 := rfl
  refine kw_Met.of (by decide) rfl tX3_hasPlaces (Nat.le_of_ble_eq_true rfl) ?_
  show kw_AW l 2 kw_E0 KX mX3_hasPlaces (p_X3_hasPlaces_1 σ k f n) 0 [(0, .ref 1), (1, .int k), (2, .int f), (3, .int n)] [] σ
  refine kw_aload_n (pc := 0) (i := 0) (k := 0) (n := 0) rfl rfl rfl ?_
  refine kw_iload_n (pc := 1) (i := 1) (k := 1) (n := 1) rfl rfl rfl ?_
  refine kw_callV (pc := 2) (i := 2) (Y := mX3_has) (a := 1) (As := [.int k]) (st := []) kw_hE rfl rfl lvX3_34 arX3_has (c_X3_has_1 l σ hI k ) (by decide) (by decide) rfl (fun v S2 p1 => ?_)
  obtain ⟨e7, z6, rfl, f3, f4, f5⟩ := p1
  rw [e7]
  have r_z6 := kw_rng z6
  show kw_AW l 2 kw_E0 KX mX3_hasPlaces (p_X3_hasPlaces_1 σ k f n) 5 [(0, .ref 1), (1, .int k), (2, .int f), (3, .int n)] [.int z6] σ
  refine kw_if_eq (pc := 5) (i := 3) (tgt := 32) rfl rfl (fun c8 => ?_) (fun c8 => ?_)
  · refine kw_iconst (pc := 32) (i := 18) (v := 0) rfl rfl ?_
    exact kw_ireturn (pc := 33) (i := 19) (ty := .boolean) rfl rfl rfl ⟨rfl, _, rfl, ⟨by omega, by omega⟩⟩
  · refine kw_iload_n (pc := 8) (i := 4) (k := 2) (n := 2) rfl rfl rfl ?_
    refine kw_if_lt (pc := 9) (i := 5) (tgt := 32) rfl rfl (fun c9 => ?_) (fun c9 => ?_)
    · refine kw_iconst (pc := 32) (i := 18) (v := 0) rfl rfl ?_
      exact kw_ireturn (pc := 33) (i := 19) (ty := .boolean) rfl rfl rfl ⟨rfl, _, rfl, ⟨by omega, by omega⟩⟩
    · refine kw_iload_n (pc := 12) (i := 6) (k := 3) (n := 3) rfl rfl rfl ?_
      refine kw_if_lt (pc := 13) (i := 7) (tgt := 32) rfl rfl (fun c10 => ?_) (fun c10 => ?_)
      · refine kw_iconst (pc := 32) (i := 18) (v := 0) rfl rfl ?_
        exact kw_ireturn (pc := 33) (i := 19) (ty := .boolean) rfl rfl rfl ⟨rfl, _, rfl, ⟨by omega, by omega⟩⟩
      · refine kw_iload_n (pc := 16) (i := 8) (k := 2) (n := 2) rfl rfl rfl ?_
        refine kw_aload_n (pc := 17) (i := 9) (k := 0) (n := 0) rfl rfl rfl ?_
        refine kw_get (pc := 18) (i := 10) (v := .ref 13) rfl rfl rfl lkX3_20 (fun _ => rfl) ?_
        refine kw_iload_n (pc := 21) (i := 11) (k := 1) (n := 1) rfl rfl rfl ?_
        refine kw_iald (pc := 22) (i := 12) (n := 6) rfl rfl (by omega) (by omega) (fun z11 e_z11 => ?_)
        have t_z11 := congrArg Int32.toInt e_z11
        have b_z11 : -1 ≤ z11.toInt ∧ z11.toInt ≤ 40 := by rw [e_z11]; exact hI 13 _
        refine kw_iload_n (pc := 23) (i := 13) (k := 3) (n := 3) rfl rfl rfl ?_
        refine kw_isub (pc := 24) (i := 14) rfl (fun z12 e_z12 t_z12 => ?_)
        refine kw_icmp_gt (pc := 25) (i := 15) (tgt := 32) rfl rfl (fun c13 => ?_) (fun c13 => ?_)
        · refine kw_iconst (pc := 32) (i := 18) (v := 0) rfl rfl ?_
          exact kw_ireturn (pc := 33) (i := 19) (ty := .boolean) rfl rfl rfl ⟨rfl, _, rfl, ⟨by omega, by omega⟩⟩
        · refine kw_iconst (pc := 28) (i := 16) (v := 1) rfl rfl ?_
          refine kw_goto (pc := 29) (i := 17) (tgt := 33) rfl rfl ?_
          exact kw_ireturn (pc := 33) (i := 19) (ty := .boolean) rfl rfl rfl ⟨rfl, _, rfl, ⟨by omega, by omega⟩⟩
abbrev p_X3_has_2 (σ : kw_S) (k : Int32) : Option Value → kw_S → Prop := fun v σ' => σ' = σ ∧ ∃ r : Int32, v = some (.int r) ∧ (r.toInt = 0 ∨ r.toInt = 1) ∧ (r.toInt = 0 ∨ 0 ≤ k.toInt ∧ k.toInt < 4) ∧ (r.toInt = 1 ∨ k.toInt < 0 ∨ 4 ≤ k.toInt)
set_option maxRecDepth 100000 in
set_option maxHeartbeats 4000000 in
theorem c_X3_has_2 (l : Launch) (σ : kw_S) (hI : kw_I bX σ) (k : Int32) : kw_Met l 1 KX mX3_has [.ref 2, .int k] σ (p_X3_has_2 σ k) := by
  have r_k := kw_rng k
  have q_0 : (0 : Int32).toInt = 0 := rfl
  have q_1 : (1 : Int32).toInt = 1 := rfl
  have q_4 : (4 : Int32).toInt = 4 := rfl
  refine kw_Met.of (by decide) rfl tX3_has (Nat.le_of_ble_eq_true rfl) ?_
  show kw_AW l 1 kw_E0 KX mX3_has (p_X3_has_2 σ k) 0 [(0, .ref 2), (1, .int k)] [] σ
  refine kw_iload_n (pc := 0) (i := 0) (k := 1) (n := 1) rfl rfl rfl ?_
  refine kw_if_lt (pc := 1) (i := 1) (tgt := 17) rfl rfl (fun c1 => ?_) (fun c1 => ?_)
  · refine kw_iconst (pc := 17) (i := 9) (v := 0) rfl rfl ?_
    exact kw_ireturn (pc := 18) (i := 10) (ty := .boolean) rfl rfl rfl ⟨rfl, _, rfl, ⟨by omega, by omega, by omega⟩⟩
  · refine kw_iload_n (pc := 4) (i := 2) (k := 1) (n := 1) rfl rfl rfl ?_
    refine kw_aload_n (pc := 5) (i := 3) (k := 0) (n := 0) rfl rfl rfl ?_
    refine kw_get (pc := 6) (i := 4) (v := .ref 15) rfl rfl rfl lkX3_20 (fun _ => rfl) ?_
    refine kw_alen (pc := 9) (i := 5) (n := 4) (v := 4) rfl rfl rfl ?_
    refine kw_icmp_ge (pc := 10) (i := 6) (tgt := 17) rfl rfl (fun c2 => ?_) (fun c2 => ?_)
    · refine kw_iconst (pc := 17) (i := 9) (v := 0) rfl rfl ?_
      exact kw_ireturn (pc := 18) (i := 10) (ty := .boolean) rfl rfl rfl ⟨rfl, _, rfl, ⟨by omega, by omega, by omega⟩⟩
    · refine kw_iconst (pc := 13) (i := 7) (v := 1) rfl rfl ?_
      refine kw_goto (pc := 14) (i := 8) (tgt := 18) rfl rfl ?_
      exact kw_ireturn (pc := 18) (i := 10) (ty := .boolean) rfl rfl rfl ⟨rfl, _, rfl, ⟨by omega, by omega, by omega⟩⟩
abbrev p_X3_sizeOf_2 (σ : kw_S) (k : Int32) : Option Value → kw_S → Prop := fun v σ' => σ' = σ ∧ ∃ r : Int32, v = some (.int r) ∧ -1 ≤ r.toInt ∧ r.toInt ≤ 60 ∧ (r.toInt < 0 ∨ 0 ≤ k.toInt ∧ k.toInt < 4) ∧ (0 ≤ k.toInt → k.toInt < 4 → r.toInt = (σ.1 15 k.toNatClampNeg).toInt)
set_option maxRecDepth 100000 in
set_option maxHeartbeats 4000000 in
theorem c_X3_sizeOf_2 (l : Launch) (σ : kw_S) (hI : kw_I bX σ) (k : Int32) : kw_Met l 2 KX mX3_sizeOf [.ref 2, .int k] σ (p_X3_sizeOf_2 σ k) := by
  have r_k := kw_rng k
  have q_m1 : (-1 : Int32).toInt = -1 := rfl
  refine kw_Met.of (by decide) rfl tX3_sizeOf (Nat.le_of_ble_eq_true rfl) ?_
  show kw_AW l 2 kw_E0 KX mX3_sizeOf (p_X3_sizeOf_2 σ k) 0 [(0, .ref 2), (1, .int k)] [] σ
  refine kw_aload_n (pc := 0) (i := 0) (k := 0) (n := 0) rfl rfl rfl ?_
  refine kw_iload_n (pc := 1) (i := 1) (k := 1) (n := 1) rfl rfl rfl ?_
  refine kw_callV (pc := 2) (i := 2) (Y := mX3_has) (a := 2) (As := [.int k]) (st := []) kw_hE rfl rfl lvX3_34 arX3_has (c_X3_has_2 l σ hI k ) (by decide) (by decide) rfl (fun v S2 p1 => ?_)
  obtain ⟨e7, z6, rfl, f3, f4, f5⟩ := p1
  rw [e7]
  have r_z6 := kw_rng z6
  show kw_AW l 2 kw_E0 KX mX3_sizeOf (p_X3_sizeOf_2 σ k) 5 [(0, .ref 2), (1, .int k)] [.int z6] σ
  refine kw_if_eq (pc := 5) (i := 3) (tgt := 17) rfl rfl (fun c8 => ?_) (fun c8 => ?_)
  · refine kw_iconst (pc := 17) (i := 9) (v := (-1)) rfl rfl ?_
    exact kw_ireturn (pc := 18) (i := 10) (ty := .int) rfl rfl rfl ⟨rfl, _, rfl, ⟨by omega, by omega, by omega, by omega⟩⟩
  · refine kw_aload_n (pc := 8) (i := 4) (k := 0) (n := 0) rfl rfl rfl ?_
    refine kw_get (pc := 9) (i := 5) (v := .ref 15) rfl rfl rfl lkX3_20 (fun _ => rfl) ?_
    refine kw_iload_n (pc := 12) (i := 6) (k := 1) (n := 1) rfl rfl rfl ?_
    refine kw_iald (pc := 13) (i := 7) (n := 4) rfl rfl (by omega) (by omega) (fun z9 e_z9 => ?_)
    have t_z9 := congrArg Int32.toInt e_z9
    have b_z9 : -1 ≤ z9.toInt ∧ z9.toInt ≤ 60 := by rw [e_z9]; exact hI 15 _
    refine kw_goto (pc := 14) (i := 8) (tgt := 18) rfl rfl ?_
    exact kw_ireturn (pc := 18) (i := 10) (ty := .int) rfl rfl rfl ⟨rfl, _, rfl, ⟨by omega, by omega, by omega, by omega⟩⟩
abbrev p_X3_isMissing_2 (σ : kw_S) (k : Int32) : Option Value → kw_S → Prop := fun v σ' => σ' = σ ∧ ∃ r : Int32, v = some (.int r) ∧ (r.toInt = 0 ∨ r.toInt = 1) ∧ (r.toInt = 1 ∨ 0 ≤ k.toInt ∧ k.toInt < 4)
set_option maxRecDepth 100000 in
set_option maxHeartbeats 4000000 in
theorem c_X3_isMissing_2 (l : Launch) (σ : kw_S) (hI : kw_I bX σ) (k : Int32) : kw_Met l 3 KX mX3_isMissing [.ref 2, .int k] σ (p_X3_isMissing_2 σ k) := by
  have r_k := kw_rng k
  have q_0 : (0 : Int32).toInt = 0 := rfl
  have q_1 : (1 : Int32).toInt = 1 := rfl
  refine kw_Met.of (by decide) rfl tX3_isMissing (Nat.le_of_ble_eq_true rfl) ?_
  show kw_AW l 3 kw_E0 KX mX3_isMissing (p_X3_isMissing_2 σ k) 0 [(0, .ref 2), (1, .int k)] [] σ
  refine kw_aload_n (pc := 0) (i := 0) (k := 0) (n := 0) rfl rfl rfl ?_
  refine kw_iload_n (pc := 1) (i := 1) (k := 1) (n := 1) rfl rfl rfl ?_
  refine kw_callV (pc := 2) (i := 2) (Y := mX3_sizeOf) (a := 2) (As := [.int k]) (st := []) kw_hE rfl rfl lvX3_30 arX3_sizeOf (c_X3_sizeOf_2 l σ hI k ) (by decide) (by decide) rfl (fun v S2 p1 => ?_)
  obtain ⟨e8, z7, rfl, f3, f4, f5, f6⟩ := p1
  rw [e8]
  have r_z7 := kw_rng z7
  show kw_AW l 3 kw_E0 KX mX3_isMissing (p_X3_isMissing_2 σ k) 5 [(0, .ref 2), (1, .int k)] [.int z7] σ
  refine kw_if_ge (pc := 5) (i := 3) (tgt := 12) rfl rfl (fun c9 => ?_) (fun c9 => ?_)
  · refine kw_iconst (pc := 12) (i := 6) (v := 0) rfl rfl ?_
    exact kw_ireturn (pc := 13) (i := 7) (ty := .boolean) rfl rfl rfl ⟨rfl, _, rfl, ⟨by omega, by omega⟩⟩
  · refine kw_iconst (pc := 8) (i := 4) (v := 1) rfl rfl ?_
    refine kw_goto (pc := 9) (i := 5) (tgt := 13) rfl rfl ?_
    exact kw_ireturn (pc := 13) (i := 7) (ty := .boolean) rfl rfl rfl ⟨rfl, _, rfl, ⟨by omega, by omega⟩⟩
abbrev p_X3_howMany_2 (σ : kw_S)  : Option Value → kw_S → Prop := fun v σ' => σ' = σ ∧ ∃ r : Int32, v = some (.int r)
set_option maxRecDepth 100000 in
set_option maxHeartbeats 4000000 in
theorem c_X3_howMany_2 (l : Launch) (σ : kw_S) (hI : kw_I bX σ)  : kw_Met l 1 KX mX3_howMany [.ref 2] σ (p_X3_howMany_2 σ) := by
  have q_0 : (0 : Int32).toInt = 0 := rfl
  have q_4 : (4 : Int32).toInt = 4 := rfl
  refine kw_Met.of (by decide) rfl tX3_howMany (Nat.le_of_ble_eq_true rfl) ?_
  show kw_AW l 1 kw_E0 KX mX3_howMany (p_X3_howMany_2 σ) 0 [(0, .ref 2)] [] σ
  refine kw_iconst (pc := 0) (i := 0) (v := 0) rfl rfl ?_
  refine kw_istore_n (pc := 1) (i := 1) (n := 1) (lv' := [(1, .int 0), (0, .ref 2)]) rfl rfl (by decide) rfl ?_
  refine kw_iconst (pc := 2) (i := 2) (v := 0) rfl rfl ?_
  refine kw_istore_n (pc := 3) (i := 3) (n := 2) (lv' := [(2, .int 0), (1, .int 0), (0, .ref 2)]) rfl rfl (by decide) rfl ?_
  have L3 : ∀ (n7 : Nat) (x1 : Int32) (x2 : Int32), 0 ≤ x1.toInt → (10 - x1.toInt).toNat < n7 → kw_AW l 1 kw_E0 KX mX3_howMany (p_X3_howMany_2 σ) 4 [(2, .int x1), (1, .int x2), (0, .ref 2)] [] σ := by
    intro n7
    induction n7 with
    | zero => intro x1 x2 v5 m6; exact absurd m6 (Nat.not_lt_zero _)
    | succ n7 ih4 =>
      intro x1 x2 v5 m6
      have r_x1 := kw_rng x1
      have r_x2 := kw_rng x2
      refine kw_iload_n (pc := 4) (i := 4) (k := 0) (n := 2) rfl rfl rfl ?_
      refine kw_aload_n (pc := 5) (i := 5) (k := 2) (n := 0) rfl rfl rfl ?_
      refine kw_get (pc := 6) (i := 6) (v := .ref 15) rfl rfl rfl lkX3_20 (fun _ => rfl) ?_
      refine kw_alen (pc := 9) (i := 7) (n := 4) (v := 4) rfl rfl rfl ?_
      refine kw_icmp_ge (pc := 10) (i := 8) (tgt := 31) rfl rfl (fun c8 => ?_) (fun c8 => ?_)
      · refine kw_iload_n (pc := 31) (i := 17) (k := 1) (n := 1) rfl rfl rfl ?_
        exact kw_ireturn (pc := 32) (i := 18) (ty := .int) rfl rfl rfl ⟨rfl, _, rfl⟩
      · refine kw_aload_n (pc := 13) (i := 9) (k := 2) (n := 0) rfl rfl rfl ?_
        refine kw_get (pc := 14) (i := 10) (v := .ref 15) rfl rfl rfl lkX3_20 (fun _ => rfl) ?_
        refine kw_iload_n (pc := 17) (i := 11) (k := 0) (n := 2) rfl rfl rfl ?_
        refine kw_iald (pc := 18) (i := 12) (n := 4) rfl rfl (by omega) (by omega) (fun z9 e_z9 => ?_)
        have t_z9 := congrArg Int32.toInt e_z9
        have b_z9 : -1 ≤ z9.toInt ∧ z9.toInt ≤ 60 := by rw [e_z9]; exact hI 15 _
        refine kw_if_lt (pc := 19) (i := 13) (tgt := 25) rfl rfl (fun c10 => ?_) (fun c10 => ?_)
        · refine kw_iinc' (pc := 25) (i := 15) (k := 0) (fun z => [(2, .int z), (1, .int x2), (0, .ref 2)]) rfl rfl (by decide) rfl (fun _ => rfl) (fun z11 e_z11 t_z11 => ?_)
          refine kw_goto (pc := 28) (i := 16) (tgt := 4) rfl rfl ?_
          refine kw_sub (lv' := [(2, .int z11), (1, .int x2), (0, .ref 2)]) [0, 1, 2] rfl ?_
          exact ih4 z11 x2 (by omega) (by omega)
        · refine kw_iinc' (pc := 22) (i := 14) (k := 1) (fun z => [(1, .int z), (2, .int x1), (0, .ref 2)]) rfl rfl (by decide) rfl (fun _ => rfl) (fun z12 e_z12 t_z12 => ?_)
          refine kw_iinc' (pc := 25) (i := 15) (k := 1) (fun z => [(2, .int z), (1, .int z12), (0, .ref 2)]) rfl rfl (by decide) rfl (fun _ => rfl) (fun z13 e_z13 t_z13 => ?_)
          refine kw_goto (pc := 28) (i := 16) (tgt := 4) rfl rfl ?_
          refine kw_sub (lv' := [(2, .int z13), (1, .int z12), (0, .ref 2)]) [0, 1, 2] rfl ?_
          exact ih4 z13 z12 (by omega) (by omega)
  exact L3 _ 0 0 (by omega) (Nat.lt_succ_self _)
abbrev p_X3_hasPlaces_2 (σ : kw_S) (k : Int32) (f : Int32) (n : Int32) : Option Value → kw_S → Prop := fun v σ' => σ' = σ ∧ ∃ r : Int32, v = some (.int r) ∧ (r.toInt = 0 ∨ r.toInt = 1) ∧ (r.toInt = 0 ∨ 0 ≤ k.toInt ∧ k.toInt < 4 ∧ 0 ≤ f.toInt ∧ 0 ≤ n.toInt ∧ f.toInt + n.toInt ≤ 60)
set_option maxRecDepth 100000 in
set_option maxHeartbeats 4000000 in
theorem c_X3_hasPlaces_2 (l : Launch) (σ : kw_S) (hI : kw_I bX σ) (k : Int32) (f : Int32) (n : Int32) : kw_Met l 2 KX mX3_hasPlaces [.ref 2, .int k, .int f, .int n] σ (p_X3_hasPlaces_2 σ k f n) := by
  have r_k := kw_rng k
  have r_f := kw_rng f
  have r_n := kw_rng n
  have q_0 : (0 : Int32).toInt = 0 := rfl
  have q_1 : (1 : Int32).toInt = 1 := rfl
  refine kw_Met.of (by decide) rfl tX3_hasPlaces (Nat.le_of_ble_eq_true rfl) ?_
  show kw_AW l 2 kw_E0 KX mX3_hasPlaces (p_X3_hasPlaces_2 σ k f n) 0 [(0, .ref 2), (1, .int k), (2, .int f), (3, .int n)] [] σ
  refine kw_aload_n (pc := 0) (i := 0) (k := 0) (n := 0) rfl rfl rfl ?_
  refine kw_iload_n (pc := 1) (i := 1) (k := 1) (n := 1) rfl rfl rfl ?_
  refine kw_callV (pc := 2) (i := 2) (Y := mX3_has) (a := 2) (As := [.int k]) (st := []) kw_hE rfl rfl lvX3_34 arX3_has (c_X3_has_2 l σ hI k ) (by decide) (by decide) rfl (fun v S2 p1 => ?_)
  obtain ⟨e7, z6, rfl, f3, f4, f5⟩ := p1
  rw [e7]
  have r_z6 := kw_rng z6
  show kw_AW l 2 kw_E0 KX mX3_hasPlaces (p_X3_hasPlaces_2 σ k f n) 5 [(0, .ref 2), (1, .int k), (2, .int f), (3, .int n)] [.int z6] σ
  refine kw_if_eq (pc := 5) (i := 3) (tgt := 32) rfl rfl (fun c8 => ?_) (fun c8 => ?_)
  · refine kw_iconst (pc := 32) (i := 18) (v := 0) rfl rfl ?_
    exact kw_ireturn (pc := 33) (i := 19) (ty := .boolean) rfl rfl rfl ⟨rfl, _, rfl, ⟨by omega, by omega⟩⟩
  · refine kw_iload_n (pc := 8) (i := 4) (k := 2) (n := 2) rfl rfl rfl ?_
    refine kw_if_lt (pc := 9) (i := 5) (tgt := 32) rfl rfl (fun c9 => ?_) (fun c9 => ?_)
    · refine kw_iconst (pc := 32) (i := 18) (v := 0) rfl rfl ?_
      exact kw_ireturn (pc := 33) (i := 19) (ty := .boolean) rfl rfl rfl ⟨rfl, _, rfl, ⟨by omega, by omega⟩⟩
    · refine kw_iload_n (pc := 12) (i := 6) (k := 3) (n := 3) rfl rfl rfl ?_
      refine kw_if_lt (pc := 13) (i := 7) (tgt := 32) rfl rfl (fun c10 => ?_) (fun c10 => ?_)
      · refine kw_iconst (pc := 32) (i := 18) (v := 0) rfl rfl ?_
        exact kw_ireturn (pc := 33) (i := 19) (ty := .boolean) rfl rfl rfl ⟨rfl, _, rfl, ⟨by omega, by omega⟩⟩
      · refine kw_iload_n (pc := 16) (i := 8) (k := 2) (n := 2) rfl rfl rfl ?_
        refine kw_aload_n (pc := 17) (i := 9) (k := 0) (n := 0) rfl rfl rfl ?_
        refine kw_get (pc := 18) (i := 10) (v := .ref 15) rfl rfl rfl lkX3_20 (fun _ => rfl) ?_
        refine kw_iload_n (pc := 21) (i := 11) (k := 1) (n := 1) rfl rfl rfl ?_
        refine kw_iald (pc := 22) (i := 12) (n := 4) rfl rfl (by omega) (by omega) (fun z11 e_z11 => ?_)
        have t_z11 := congrArg Int32.toInt e_z11
        have b_z11 : -1 ≤ z11.toInt ∧ z11.toInt ≤ 60 := by rw [e_z11]; exact hI 15 _
        refine kw_iload_n (pc := 23) (i := 13) (k := 3) (n := 3) rfl rfl rfl ?_
        refine kw_isub (pc := 24) (i := 14) rfl (fun z12 e_z12 t_z12 => ?_)
        refine kw_icmp_gt (pc := 25) (i := 15) (tgt := 32) rfl rfl (fun c13 => ?_) (fun c13 => ?_)
        · refine kw_iconst (pc := 32) (i := 18) (v := 0) rfl rfl ?_
          exact kw_ireturn (pc := 33) (i := 19) (ty := .boolean) rfl rfl rfl ⟨rfl, _, rfl, ⟨by omega, by omega⟩⟩
        · refine kw_iconst (pc := 28) (i := 16) (v := 1) rfl rfl ?_
          refine kw_goto (pc := 29) (i := 17) (tgt := 33) rfl rfl ?_
          exact kw_ireturn (pc := 33) (i := 19) (ty := .boolean) rfl rfl rfl ⟨rfl, _, rfl, ⟨by omega, by omega⟩⟩
abbrev p_X3_has_5 (σ : kw_S) (k : Int32) : Option Value → kw_S → Prop := fun v σ' => σ' = σ ∧ ∃ r : Int32, v = some (.int r) ∧ (r.toInt = 0 ∨ r.toInt = 1) ∧ (r.toInt = 0 ∨ 0 ≤ k.toInt ∧ k.toInt < 3) ∧ (r.toInt = 1 ∨ k.toInt < 0 ∨ 3 ≤ k.toInt)
set_option maxRecDepth 100000 in
set_option maxHeartbeats 4000000 in
theorem c_X3_has_5 (l : Launch) (σ : kw_S) (hI : kw_I bX σ) (k : Int32) : kw_Met l 1 KX mX3_has [.ref 5, .int k] σ (p_X3_has_5 σ k) := by
  have r_k := kw_rng k
  have q_0 : (0 : Int32).toInt = 0 := rfl
  have q_1 : (1 : Int32).toInt = 1 := rfl
  have q_3 : (3 : Int32).toInt = 3 := rfl
  refine kw_Met.of (by decide) rfl tX3_has (Nat.le_of_ble_eq_true rfl) ?_
  show kw_AW l 1 kw_E0 KX mX3_has (p_X3_has_5 σ k) 0 [(0, .ref 5), (1, .int k)] [] σ
  refine kw_iload_n (pc := 0) (i := 0) (k := 1) (n := 1) rfl rfl rfl ?_
  refine kw_if_lt (pc := 1) (i := 1) (tgt := 17) rfl rfl (fun c1 => ?_) (fun c1 => ?_)
  · refine kw_iconst (pc := 17) (i := 9) (v := 0) rfl rfl ?_
    exact kw_ireturn (pc := 18) (i := 10) (ty := .boolean) rfl rfl rfl ⟨rfl, _, rfl, ⟨by omega, by omega, by omega⟩⟩
  · refine kw_iload_n (pc := 4) (i := 2) (k := 1) (n := 1) rfl rfl rfl ?_
    refine kw_aload_n (pc := 5) (i := 3) (k := 0) (n := 0) rfl rfl rfl ?_
    refine kw_get (pc := 6) (i := 4) (v := .ref 21) rfl rfl rfl lkX3_20 (fun _ => rfl) ?_
    refine kw_alen (pc := 9) (i := 5) (n := 3) (v := 3) rfl rfl rfl ?_
    refine kw_icmp_ge (pc := 10) (i := 6) (tgt := 17) rfl rfl (fun c2 => ?_) (fun c2 => ?_)
    · refine kw_iconst (pc := 17) (i := 9) (v := 0) rfl rfl ?_
      exact kw_ireturn (pc := 18) (i := 10) (ty := .boolean) rfl rfl rfl ⟨rfl, _, rfl, ⟨by omega, by omega, by omega⟩⟩
    · refine kw_iconst (pc := 13) (i := 7) (v := 1) rfl rfl ?_
      refine kw_goto (pc := 14) (i := 8) (tgt := 18) rfl rfl ?_
      exact kw_ireturn (pc := 18) (i := 10) (ty := .boolean) rfl rfl rfl ⟨rfl, _, rfl, ⟨by omega, by omega, by omega⟩⟩
abbrev p_X3_sizeOf_5 (σ : kw_S) (k : Int32) : Option Value → kw_S → Prop := fun v σ' => σ' = σ ∧ ∃ r : Int32, v = some (.int r) ∧ -1 ≤ r.toInt ∧ r.toInt ≤ 40 ∧ (r.toInt < 0 ∨ 0 ≤ k.toInt ∧ k.toInt < 3) ∧ (0 ≤ k.toInt → k.toInt < 3 → r.toInt = (σ.1 21 k.toNatClampNeg).toInt)
set_option maxRecDepth 100000 in
set_option maxHeartbeats 4000000 in
theorem c_X3_sizeOf_5 (l : Launch) (σ : kw_S) (hI : kw_I bX σ) (k : Int32) : kw_Met l 2 KX mX3_sizeOf [.ref 5, .int k] σ (p_X3_sizeOf_5 σ k) := by
  have r_k := kw_rng k
  have q_m1 : (-1 : Int32).toInt = -1 := rfl
  refine kw_Met.of (by decide) rfl tX3_sizeOf (Nat.le_of_ble_eq_true rfl) ?_
  show kw_AW l 2 kw_E0 KX mX3_sizeOf (p_X3_sizeOf_5 σ k) 0 [(0, .ref 5), (1, .int k)] [] σ
  refine kw_aload_n (pc := 0) (i := 0) (k := 0) (n := 0) rfl rfl rfl ?_
  refine kw_iload_n (pc := 1) (i := 1) (k := 1) (n := 1) rfl rfl rfl ?_
  refine kw_callV (pc := 2) (i := 2) (Y := mX3_has) (a := 5) (As := [.int k]) (st := []) kw_hE rfl rfl lvX3_34 arX3_has (c_X3_has_5 l σ hI k ) (by decide) (by decide) rfl (fun v S2 p1 => ?_)
  obtain ⟨e7, z6, rfl, f3, f4, f5⟩ := p1
  rw [e7]
  have r_z6 := kw_rng z6
  show kw_AW l 2 kw_E0 KX mX3_sizeOf (p_X3_sizeOf_5 σ k) 5 [(0, .ref 5), (1, .int k)] [.int z6] σ
  refine kw_if_eq (pc := 5) (i := 3) (tgt := 17) rfl rfl (fun c8 => ?_) (fun c8 => ?_)
  · refine kw_iconst (pc := 17) (i := 9) (v := (-1)) rfl rfl ?_
    exact kw_ireturn (pc := 18) (i := 10) (ty := .int) rfl rfl rfl ⟨rfl, _, rfl, ⟨by omega, by omega, by omega, by omega⟩⟩
  · refine kw_aload_n (pc := 8) (i := 4) (k := 0) (n := 0) rfl rfl rfl ?_
    refine kw_get (pc := 9) (i := 5) (v := .ref 21) rfl rfl rfl lkX3_20 (fun _ => rfl) ?_
    refine kw_iload_n (pc := 12) (i := 6) (k := 1) (n := 1) rfl rfl rfl ?_
    refine kw_iald (pc := 13) (i := 7) (n := 3) rfl rfl (by omega) (by omega) (fun z9 e_z9 => ?_)
    have t_z9 := congrArg Int32.toInt e_z9
    have b_z9 : -1 ≤ z9.toInt ∧ z9.toInt ≤ 40 := by rw [e_z9]; exact hI 21 _
    refine kw_goto (pc := 14) (i := 8) (tgt := 18) rfl rfl ?_
    exact kw_ireturn (pc := 18) (i := 10) (ty := .int) rfl rfl rfl ⟨rfl, _, rfl, ⟨by omega, by omega, by omega, by omega⟩⟩
abbrev p_X3_isMissing_5 (σ : kw_S) (k : Int32) : Option Value → kw_S → Prop := fun v σ' => σ' = σ ∧ ∃ r : Int32, v = some (.int r) ∧ (r.toInt = 0 ∨ r.toInt = 1) ∧ (r.toInt = 1 ∨ 0 ≤ k.toInt ∧ k.toInt < 3)
set_option maxRecDepth 100000 in
set_option maxHeartbeats 4000000 in
theorem c_X3_isMissing_5 (l : Launch) (σ : kw_S) (hI : kw_I bX σ) (k : Int32) : kw_Met l 3 KX mX3_isMissing [.ref 5, .int k] σ (p_X3_isMissing_5 σ k) := by
  have r_k := kw_rng k
  have q_0 : (0 : Int32).toInt = 0 := rfl
  have q_1 : (1 : Int32).toInt = 1 := rfl
  refine kw_Met.of (by decide) rfl tX3_isMissing (Nat.le_of_ble_eq_true rfl) ?_
  show kw_AW l 3 kw_E0 KX mX3_isMissing (p_X3_isMissing_5 σ k) 0 [(0, .ref 5), (1, .int k)] [] σ
  refine kw_aload_n (pc := 0) (i := 0) (k := 0) (n := 0) rfl rfl rfl ?_
  refine kw_iload_n (pc := 1) (i := 1) (k := 1) (n := 1) rfl rfl rfl ?_
  refine kw_callV (pc := 2) (i := 2) (Y := mX3_sizeOf) (a := 5) (As := [.int k]) (st := []) kw_hE rfl rfl lvX3_30 arX3_sizeOf (c_X3_sizeOf_5 l σ hI k ) (by decide) (by decide) rfl (fun v S2 p1 => ?_)
  obtain ⟨e8, z7, rfl, f3, f4, f5, f6⟩ := p1
  rw [e8]
  have r_z7 := kw_rng z7
  show kw_AW l 3 kw_E0 KX mX3_isMissing (p_X3_isMissing_5 σ k) 5 [(0, .ref 5), (1, .int k)] [.int z7] σ
  refine kw_if_ge (pc := 5) (i := 3) (tgt := 12) rfl rfl (fun c9 => ?_) (fun c9 => ?_)
  · refine kw_iconst (pc := 12) (i := 6) (v := 0) rfl rfl ?_
    exact kw_ireturn (pc := 13) (i := 7) (ty := .boolean) rfl rfl rfl ⟨rfl, _, rfl, ⟨by omega, by omega⟩⟩
  · refine kw_iconst (pc := 8) (i := 4) (v := 1) rfl rfl ?_
    refine kw_goto (pc := 9) (i := 5) (tgt := 13) rfl rfl ?_
    exact kw_ireturn (pc := 13) (i := 7) (ty := .boolean) rfl rfl rfl ⟨rfl, _, rfl, ⟨by omega, by omega⟩⟩
abbrev p_X3_howMany_5 (σ : kw_S)  : Option Value → kw_S → Prop := fun v σ' => σ' = σ ∧ ∃ r : Int32, v = some (.int r)
set_option maxRecDepth 100000 in
set_option maxHeartbeats 4000000 in
theorem c_X3_howMany_5 (l : Launch) (σ : kw_S) (hI : kw_I bX σ)  : kw_Met l 1 KX mX3_howMany [.ref 5] σ (p_X3_howMany_5 σ) := by
  have q_0 : (0 : Int32).toInt = 0 := rfl
  have q_3 : (3 : Int32).toInt = 3 := rfl
  refine kw_Met.of (by decide) rfl tX3_howMany (Nat.le_of_ble_eq_true rfl) ?_
  show kw_AW l 1 kw_E0 KX mX3_howMany (p_X3_howMany_5 σ) 0 [(0, .ref 5)] [] σ
  refine kw_iconst (pc := 0) (i := 0) (v := 0) rfl rfl ?_
  refine kw_istore_n (pc := 1) (i := 1) (n := 1) (lv' := [(1, .int 0), (0, .ref 5)]) rfl rfl (by decide) rfl ?_
  refine kw_iconst (pc := 2) (i := 2) (v := 0) rfl rfl ?_
  refine kw_istore_n (pc := 3) (i := 3) (n := 2) (lv' := [(2, .int 0), (1, .int 0), (0, .ref 5)]) rfl rfl (by decide) rfl ?_
  have L3 : ∀ (n7 : Nat) (x1 : Int32) (x2 : Int32), 0 ≤ x1.toInt → (10 - x1.toInt).toNat < n7 → kw_AW l 1 kw_E0 KX mX3_howMany (p_X3_howMany_5 σ) 4 [(2, .int x1), (1, .int x2), (0, .ref 5)] [] σ := by
    intro n7
    induction n7 with
    | zero => intro x1 x2 v5 m6; exact absurd m6 (Nat.not_lt_zero _)
    | succ n7 ih4 =>
      intro x1 x2 v5 m6
      have r_x1 := kw_rng x1
      have r_x2 := kw_rng x2
      refine kw_iload_n (pc := 4) (i := 4) (k := 0) (n := 2) rfl rfl rfl ?_
      refine kw_aload_n (pc := 5) (i := 5) (k := 2) (n := 0) rfl rfl rfl ?_
      refine kw_get (pc := 6) (i := 6) (v := .ref 21) rfl rfl rfl lkX3_20 (fun _ => rfl) ?_
      refine kw_alen (pc := 9) (i := 7) (n := 3) (v := 3) rfl rfl rfl ?_
      refine kw_icmp_ge (pc := 10) (i := 8) (tgt := 31) rfl rfl (fun c8 => ?_) (fun c8 => ?_)
      · refine kw_iload_n (pc := 31) (i := 17) (k := 1) (n := 1) rfl rfl rfl ?_
        exact kw_ireturn (pc := 32) (i := 18) (ty := .int) rfl rfl rfl ⟨rfl, _, rfl⟩
      · refine kw_aload_n (pc := 13) (i := 9) (k := 2) (n := 0) rfl rfl rfl ?_
        refine kw_get (pc := 14) (i := 10) (v := .ref 21) rfl rfl rfl lkX3_20 (fun _ => rfl) ?_
        refine kw_iload_n (pc := 17) (i := 11) (k := 0) (n := 2) rfl rfl rfl ?_
        refine kw_iald (pc := 18) (i := 12) (n := 3) rfl rfl (by omega) (by omega) (fun z9 e_z9 => ?_)
        have t_z9 := congrArg Int32.toInt e_z9
        have b_z9 : -1 ≤ z9.toInt ∧ z9.toInt ≤ 40 := by rw [e_z9]; exact hI 21 _
        refine kw_if_lt (pc := 19) (i := 13) (tgt := 25) rfl rfl (fun c10 => ?_) (fun c10 => ?_)
        · refine kw_iinc' (pc := 25) (i := 15) (k := 0) (fun z => [(2, .int z), (1, .int x2), (0, .ref 5)]) rfl rfl (by decide) rfl (fun _ => rfl) (fun z11 e_z11 t_z11 => ?_)
          refine kw_goto (pc := 28) (i := 16) (tgt := 4) rfl rfl ?_
          refine kw_sub (lv' := [(2, .int z11), (1, .int x2), (0, .ref 5)]) [0, 1, 2] rfl ?_
          exact ih4 z11 x2 (by omega) (by omega)
        · refine kw_iinc' (pc := 22) (i := 14) (k := 1) (fun z => [(1, .int z), (2, .int x1), (0, .ref 5)]) rfl rfl (by decide) rfl (fun _ => rfl) (fun z12 e_z12 t_z12 => ?_)
          refine kw_iinc' (pc := 25) (i := 15) (k := 1) (fun z => [(2, .int z), (1, .int z12), (0, .ref 5)]) rfl rfl (by decide) rfl (fun _ => rfl) (fun z13 e_z13 t_z13 => ?_)
          refine kw_goto (pc := 28) (i := 16) (tgt := 4) rfl rfl ?_
          refine kw_sub (lv' := [(2, .int z13), (1, .int z12), (0, .ref 5)]) [0, 1, 2] rfl ?_
          exact ih4 z13 z12 (by omega) (by omega)
  exact L3 _ 0 0 (by omega) (Nat.lt_succ_self _)
abbrev p_X3_hasPlaces_5 (σ : kw_S) (k : Int32) (f : Int32) (n : Int32) : Option Value → kw_S → Prop := fun v σ' => σ' = σ ∧ ∃ r : Int32, v = some (.int r) ∧ (r.toInt = 0 ∨ r.toInt = 1) ∧ (r.toInt = 0 ∨ 0 ≤ k.toInt ∧ k.toInt < 3 ∧ 0 ≤ f.toInt ∧ 0 ≤ n.toInt ∧ f.toInt + n.toInt ≤ 40)
set_option maxRecDepth 100000 in
set_option maxHeartbeats 4000000 in
theorem c_X3_hasPlaces_5 (l : Launch) (σ : kw_S) (hI : kw_I bX σ) (k : Int32) (f : Int32) (n : Int32) : kw_Met l 2 KX mX3_hasPlaces [.ref 5, .int k, .int f, .int n] σ (p_X3_hasPlaces_5 σ k f n) := by
  have r_k := kw_rng k
  have r_f := kw_rng f
  have r_n := kw_rng n
  have q_0 : (0 : Int32).toInt = 0 := rfl
  have q_1 : (1 : Int32).toInt = 1 := rfl
  refine kw_Met.of (by decide) rfl tX3_hasPlaces (Nat.le_of_ble_eq_true rfl) ?_
  show kw_AW l 2 kw_E0 KX mX3_hasPlaces (p_X3_hasPlaces_5 σ k f n) 0 [(0, .ref 5), (1, .int k), (2, .int f), (3, .int n)] [] σ
  refine kw_aload_n (pc := 0) (i := 0) (k := 0) (n := 0) rfl rfl rfl ?_
  refine kw_iload_n (pc := 1) (i := 1) (k := 1) (n := 1) rfl rfl rfl ?_
  refine kw_callV (pc := 2) (i := 2) (Y := mX3_has) (a := 5) (As := [.int k]) (st := []) kw_hE rfl rfl lvX3_34 arX3_has (c_X3_has_5 l σ hI k ) (by decide) (by decide) rfl (fun v S2 p1 => ?_)
  obtain ⟨e7, z6, rfl, f3, f4, f5⟩ := p1
  rw [e7]
  have r_z6 := kw_rng z6
  show kw_AW l 2 kw_E0 KX mX3_hasPlaces (p_X3_hasPlaces_5 σ k f n) 5 [(0, .ref 5), (1, .int k), (2, .int f), (3, .int n)] [.int z6] σ
  refine kw_if_eq (pc := 5) (i := 3) (tgt := 32) rfl rfl (fun c8 => ?_) (fun c8 => ?_)
  · refine kw_iconst (pc := 32) (i := 18) (v := 0) rfl rfl ?_
    exact kw_ireturn (pc := 33) (i := 19) (ty := .boolean) rfl rfl rfl ⟨rfl, _, rfl, ⟨by omega, by omega⟩⟩
  · refine kw_iload_n (pc := 8) (i := 4) (k := 2) (n := 2) rfl rfl rfl ?_
    refine kw_if_lt (pc := 9) (i := 5) (tgt := 32) rfl rfl (fun c9 => ?_) (fun c9 => ?_)
    · refine kw_iconst (pc := 32) (i := 18) (v := 0) rfl rfl ?_
      exact kw_ireturn (pc := 33) (i := 19) (ty := .boolean) rfl rfl rfl ⟨rfl, _, rfl, ⟨by omega, by omega⟩⟩
    · refine kw_iload_n (pc := 12) (i := 6) (k := 3) (n := 3) rfl rfl rfl ?_
      refine kw_if_lt (pc := 13) (i := 7) (tgt := 32) rfl rfl (fun c10 => ?_) (fun c10 => ?_)
      · refine kw_iconst (pc := 32) (i := 18) (v := 0) rfl rfl ?_
        exact kw_ireturn (pc := 33) (i := 19) (ty := .boolean) rfl rfl rfl ⟨rfl, _, rfl, ⟨by omega, by omega⟩⟩
      · refine kw_iload_n (pc := 16) (i := 8) (k := 2) (n := 2) rfl rfl rfl ?_
        refine kw_aload_n (pc := 17) (i := 9) (k := 0) (n := 0) rfl rfl rfl ?_
        refine kw_get (pc := 18) (i := 10) (v := .ref 21) rfl rfl rfl lkX3_20 (fun _ => rfl) ?_
        refine kw_iload_n (pc := 21) (i := 11) (k := 1) (n := 1) rfl rfl rfl ?_
        refine kw_iald (pc := 22) (i := 12) (n := 3) rfl rfl (by omega) (by omega) (fun z11 e_z11 => ?_)
        have t_z11 := congrArg Int32.toInt e_z11
        have b_z11 : -1 ≤ z11.toInt ∧ z11.toInt ≤ 40 := by rw [e_z11]; exact hI 21 _
        refine kw_iload_n (pc := 23) (i := 13) (k := 3) (n := 3) rfl rfl rfl ?_
        refine kw_isub (pc := 24) (i := 14) rfl (fun z12 e_z12 t_z12 => ?_)
        refine kw_icmp_gt (pc := 25) (i := 15) (tgt := 32) rfl rfl (fun c13 => ?_) (fun c13 => ?_)
        · refine kw_iconst (pc := 32) (i := 18) (v := 0) rfl rfl ?_
          exact kw_ireturn (pc := 33) (i := 19) (ty := .boolean) rfl rfl rfl ⟨rfl, _, rfl, ⟨by omega, by omega⟩⟩
        · refine kw_iconst (pc := 28) (i := 16) (v := 1) rfl rfl ?_
          refine kw_goto (pc := 29) (i := 17) (tgt := 33) rfl rfl ?_
          exact kw_ireturn (pc := 33) (i := 19) (ty := .boolean) rfl rfl rfl ⟨rfl, _, rfl, ⟨by omega, by omega⟩⟩
end
section
abbrev p_X3_valueAt_1 (σ : kw_S) (k : Int32) (i : Int32) : Option Value → kw_S → Prop := fun v σ' => σ' = σ ∧ ∃ r : Int32, v = some (.int r)
set_option maxRecDepth 100000 in
set_option maxHeartbeats 4000000 in
theorem c_X3_valueAt_1 (l : Launch) (σ : kw_S) (hI : kw_I bX σ) (k : Int32) (i : Int32) : kw_Met l 3 KX mX3_valueAt [.ref 1, .int k, .int i] σ (p_X3_valueAt_1 σ k i) := by
  have r_k := kw_rng k
  have r_i := kw_rng i
  have q_1 : (1 : Int32).toInt = 1 := rfl
  have q_1000 : (1000 : Int32).toInt = 1000 := rfl
  refine kw_Met.of (by decide) rfl tX3_valueAt (Nat.le_of_ble_eq_true rfl) ?_
  show kw_AW l 3 kw_E0 KX mX3_valueAt (p_X3_valueAt_1 σ k i) 0 [(0, .ref 1), (1, .int k), (2, .int i)] [] σ
  refine kw_aload_n (pc := 0) (i := 0) (k := 0) (n := 0) rfl rfl rfl ?_
  refine kw_iload_n (pc := 1) (i := 1) (k := 1) (n := 1) rfl rfl rfl ?_
  refine kw_iload_n (pc := 2) (i := 2) (k := 2) (n := 2) rfl rfl rfl ?_
  refine kw_iconst (pc := 3) (i := 3) (v := 1) rfl rfl ?_
  refine kw_callV (pc := 4) (i := 4) (Y := mX3_hasPlaces) (a := 1) (As := [.int k, .int i, .int 1]) (st := []) kw_hE rfl rfl lvX3_41 arX3_hasPlaces (c_X3_hasPlaces_1 l σ hI k i 1 ) (by decide) (by decide) rfl (fun v S2 p1 => ?_)
  obtain ⟨e6, z5, rfl, f3, f4⟩ := p1
  rw [e6]
  have r_z5 := kw_rng z5
  show kw_AW l 3 kw_E0 KX mX3_valueAt (p_X3_valueAt_1 σ k i) 7 [(0, .ref 1), (1, .int k), (2, .int i)] [.int z5] σ
  refine kw_if_eq (pc := 7) (i := 5) (tgt := 21) rfl rfl (fun c7 => ?_) (fun c7 => ?_)
  · refine kw_sipush (pc := 21) (i := 13) (v := 1000) rfl rfl ?_
    exact kw_ireturn (pc := 24) (i := 14) (ty := .int) rfl rfl rfl ⟨rfl, _, rfl⟩
  · refine kw_aload_n (pc := 10) (i := 6) (k := 0) (n := 0) rfl rfl rfl ?_
    refine kw_get (pc := 11) (i := 7) (v := .ref 12) rfl rfl rfl lkX3_17 (fun _ => rfl) ?_
    refine kw_iload_n (pc := 14) (i := 8) (k := 1) (n := 1) rfl rfl rfl ?_
    have w8 : k.toInt = 0 ∨ k.toInt = 1 ∨ k.toInt = 2 ∨ k.toInt = 3 ∨ k.toInt = 4 ∨ k.toInt = 5 := by omega
    rcases w8 with w8 | w8 | w8 | w8 | w8 | w8
    · have e_w8 : k.toNatClampNeg = 0 := by have := kw_clampI (x := k) (by omega); omega
      refine kw_aald (pc := 15) (i := 9) (b := 29) rfl rfl (by decide) (by omega) (by rw [e_w8]; rfl) ?_
      refine kw_iload_n (pc := 16) (i := 10) (k := 2) (n := 2) rfl rfl rfl ?_
      refine kw_iald (pc := 17) (i := 11) (n := 40) rfl rfl (by omega) (by omega) (fun z9 e_z9 => ?_)
      have t_z9 := congrArg Int32.toInt e_z9
      have r_z9 := kw_rng z9
      refine kw_goto (pc := 18) (i := 12) (tgt := 24) rfl rfl ?_
      exact kw_ireturn (pc := 24) (i := 14) (ty := .int) rfl rfl rfl ⟨rfl, _, rfl⟩
    · have e_w8 : k.toNatClampNeg = 1 := by have := kw_clampI (x := k) (by omega); omega
      refine kw_aald (pc := 15) (i := 9) (b := 30) rfl rfl (by decide) (by omega) (by rw [e_w8]; rfl) ?_
      refine kw_iload_n (pc := 16) (i := 10) (k := 2) (n := 2) rfl rfl rfl ?_
      refine kw_iald (pc := 17) (i := 11) (n := 40) rfl rfl (by omega) (by omega) (fun z10 e_z10 => ?_)
      have t_z10 := congrArg Int32.toInt e_z10
      have r_z10 := kw_rng z10
      refine kw_goto (pc := 18) (i := 12) (tgt := 24) rfl rfl ?_
      exact kw_ireturn (pc := 24) (i := 14) (ty := .int) rfl rfl rfl ⟨rfl, _, rfl⟩
    · have e_w8 : k.toNatClampNeg = 2 := by have := kw_clampI (x := k) (by omega); omega
      refine kw_aald (pc := 15) (i := 9) (b := 31) rfl rfl (by decide) (by omega) (by rw [e_w8]; rfl) ?_
      refine kw_iload_n (pc := 16) (i := 10) (k := 2) (n := 2) rfl rfl rfl ?_
      refine kw_iald (pc := 17) (i := 11) (n := 40) rfl rfl (by omega) (by omega) (fun z11 e_z11 => ?_)
      have t_z11 := congrArg Int32.toInt e_z11
      have r_z11 := kw_rng z11
      refine kw_goto (pc := 18) (i := 12) (tgt := 24) rfl rfl ?_
      exact kw_ireturn (pc := 24) (i := 14) (ty := .int) rfl rfl rfl ⟨rfl, _, rfl⟩
    · have e_w8 : k.toNatClampNeg = 3 := by have := kw_clampI (x := k) (by omega); omega
      refine kw_aald (pc := 15) (i := 9) (b := 32) rfl rfl (by decide) (by omega) (by rw [e_w8]; rfl) ?_
      refine kw_iload_n (pc := 16) (i := 10) (k := 2) (n := 2) rfl rfl rfl ?_
      refine kw_iald (pc := 17) (i := 11) (n := 40) rfl rfl (by omega) (by omega) (fun z12 e_z12 => ?_)
      have t_z12 := congrArg Int32.toInt e_z12
      have r_z12 := kw_rng z12
      refine kw_goto (pc := 18) (i := 12) (tgt := 24) rfl rfl ?_
      exact kw_ireturn (pc := 24) (i := 14) (ty := .int) rfl rfl rfl ⟨rfl, _, rfl⟩
    · have e_w8 : k.toNatClampNeg = 4 := by have := kw_clampI (x := k) (by omega); omega
      refine kw_aald (pc := 15) (i := 9) (b := 33) rfl rfl (by decide) (by omega) (by rw [e_w8]; rfl) ?_
      refine kw_iload_n (pc := 16) (i := 10) (k := 2) (n := 2) rfl rfl rfl ?_
      refine kw_iald (pc := 17) (i := 11) (n := 40) rfl rfl (by omega) (by omega) (fun z13 e_z13 => ?_)
      have t_z13 := congrArg Int32.toInt e_z13
      have r_z13 := kw_rng z13
      refine kw_goto (pc := 18) (i := 12) (tgt := 24) rfl rfl ?_
      exact kw_ireturn (pc := 24) (i := 14) (ty := .int) rfl rfl rfl ⟨rfl, _, rfl⟩
    · have e_w8 : k.toNatClampNeg = 5 := by have := kw_clampI (x := k) (by omega); omega
      refine kw_aald (pc := 15) (i := 9) (b := 34) rfl rfl (by decide) (by omega) (by rw [e_w8]; rfl) ?_
      refine kw_iload_n (pc := 16) (i := 10) (k := 2) (n := 2) rfl rfl rfl ?_
      refine kw_iald (pc := 17) (i := 11) (n := 40) rfl rfl (by omega) (by omega) (fun z14 e_z14 => ?_)
      have t_z14 := congrArg Int32.toInt e_z14
      have r_z14 := kw_rng z14
      refine kw_goto (pc := 18) (i := 12) (tgt := 24) rfl rfl ?_
      exact kw_ireturn (pc := 24) (i := 14) (ty := .int) rfl rfl rfl ⟨rfl, _, rfl⟩
abbrev p_X3_change_1 (σ : kw_S) (k : Int32) (i : Int32) (v : Int32) : Option Value → kw_S → Prop := fun v σ' => (kw_I bX σ' ∧ kw_F [29, 30, 31, 32, 33, 34] σ σ') ∧ v = none
set_option maxRecDepth 100000 in
set_option maxHeartbeats 4000000 in
theorem c_X3_change_1 (l : Launch) (σ : kw_S) (hI : kw_I bX σ) (k : Int32) (i : Int32) (v : Int32) : kw_Met l 3 KX mX3_change [.ref 1, .int k, .int i, .int v] σ (p_X3_change_1 σ k i v) := by
  have r_k := kw_rng k
  have r_i := kw_rng i
  have r_v := kw_rng v
  have hF0 : kw_F [29, 30, 31, 32, 33, 34] σ σ := kw_F.rf
  have q_1 : (1 : Int32).toInt = 1 := rfl
  refine kw_Met.of (by decide) rfl tX3_change (Nat.le_of_ble_eq_true rfl) ?_
  show kw_AW l 3 kw_E0 KX mX3_change (p_X3_change_1 σ k i v) 0 [(0, .ref 1), (1, .int k), (2, .int i), (3, .int v)] [] σ
  refine kw_aload_n (pc := 0) (i := 0) (k := 0) (n := 0) rfl rfl rfl ?_
  refine kw_iload_n (pc := 1) (i := 1) (k := 1) (n := 1) rfl rfl rfl ?_
  refine kw_iload_n (pc := 2) (i := 2) (k := 2) (n := 2) rfl rfl rfl ?_
  refine kw_iconst (pc := 3) (i := 3) (v := 1) rfl rfl ?_
  refine kw_callV (pc := 4) (i := 4) (Y := mX3_hasPlaces) (a := 1) (As := [.int k, .int i, .int 1]) (st := []) kw_hE rfl rfl lvX3_41 arX3_hasPlaces (c_X3_hasPlaces_1 l σ hI k i 1 ) (by decide) (by decide) rfl (fun v S2 p1 => ?_)
  obtain ⟨e6, z5, rfl, f3, f4⟩ := p1
  rw [e6]
  have r_z5 := kw_rng z5
  show kw_AW l 3 kw_E0 KX mX3_change (p_X3_change_1 σ k i v) 7 [(0, .ref 1), (1, .int k), (2, .int i), (3, .int v)] [.int z5] σ
  refine kw_if_eq (pc := 7) (i := 5) (tgt := 19) rfl rfl (fun c7 => ?_) (fun c7 => ?_)
  · exact kw_return (pc := 19) (i := 13) rfl rfl ⟨⟨hI, hF0⟩, rfl⟩
  · refine kw_aload_n (pc := 10) (i := 6) (k := 0) (n := 0) rfl rfl rfl ?_
    refine kw_get (pc := 11) (i := 7) (v := .ref 12) rfl rfl rfl lkX3_17 (fun _ => rfl) ?_
    refine kw_iload_n (pc := 14) (i := 8) (k := 1) (n := 1) rfl rfl rfl ?_
    have w8 : k.toInt = 0 ∨ k.toInt = 1 ∨ k.toInt = 2 ∨ k.toInt = 3 ∨ k.toInt = 4 ∨ k.toInt = 5 := by omega
    rcases w8 with w8 | w8 | w8 | w8 | w8 | w8
    · have e_w8 : k.toNatClampNeg = 0 := by have := kw_clampI (x := k) (by omega); omega
      refine kw_aald (pc := 15) (i := 9) (b := 29) rfl rfl (by decide) (by omega) (by rw [e_w8]; rfl) ?_
      refine kw_iload_n (pc := 16) (i := 10) (k := 2) (n := 2) rfl rfl rfl ?_
      refine kw_iload_n (pc := 17) (i := 11) (k := 3) (n := 3) rfl rfl rfl ?_
      refine kw_iast (pc := 18) (i := 12) (n := 40) rfl rfl (by omega) (by omega) ?_
      have I9 : kw_I bX (kw_ui σ 29 i.toNatClampNeg v) := kw_I_ui hI (kw_rng v).1 (Int.le_of_lt_add_one (kw_rng v).2)
      have F10 : kw_F [29, 30, 31, 32, 33, 34] σ (kw_ui σ 29 i.toNatClampNeg v) := kw_F_ui hF0 (by decide)
      exact kw_return (pc := 19) (i := 13) rfl rfl ⟨⟨I9, F10⟩, rfl⟩
    · have e_w8 : k.toNatClampNeg = 1 := by have := kw_clampI (x := k) (by omega); omega
      refine kw_aald (pc := 15) (i := 9) (b := 30) rfl rfl (by decide) (by omega) (by rw [e_w8]; rfl) ?_
      refine kw_iload_n (pc := 16) (i := 10) (k := 2) (n := 2) rfl rfl rfl ?_
      refine kw_iload_n (pc := 17) (i := 11) (k := 3) (n := 3) rfl rfl rfl ?_
      refine kw_iast (pc := 18) (i := 12) (n := 40) rfl rfl (by omega) (by omega) ?_
      have I11 : kw_I bX (kw_ui σ 30 i.toNatClampNeg v) := kw_I_ui hI (kw_rng v).1 (Int.le_of_lt_add_one (kw_rng v).2)
      have F12 : kw_F [29, 30, 31, 32, 33, 34] σ (kw_ui σ 30 i.toNatClampNeg v) := kw_F_ui hF0 (by decide)
      exact kw_return (pc := 19) (i := 13) rfl rfl ⟨⟨I11, F12⟩, rfl⟩
    · have e_w8 : k.toNatClampNeg = 2 := by have := kw_clampI (x := k) (by omega); omega
      refine kw_aald (pc := 15) (i := 9) (b := 31) rfl rfl (by decide) (by omega) (by rw [e_w8]; rfl) ?_
      refine kw_iload_n (pc := 16) (i := 10) (k := 2) (n := 2) rfl rfl rfl ?_
      refine kw_iload_n (pc := 17) (i := 11) (k := 3) (n := 3) rfl rfl rfl ?_
      refine kw_iast (pc := 18) (i := 12) (n := 40) rfl rfl (by omega) (by omega) ?_
      have I13 : kw_I bX (kw_ui σ 31 i.toNatClampNeg v) := kw_I_ui hI (kw_rng v).1 (Int.le_of_lt_add_one (kw_rng v).2)
      have F14 : kw_F [29, 30, 31, 32, 33, 34] σ (kw_ui σ 31 i.toNatClampNeg v) := kw_F_ui hF0 (by decide)
      exact kw_return (pc := 19) (i := 13) rfl rfl ⟨⟨I13, F14⟩, rfl⟩
    · have e_w8 : k.toNatClampNeg = 3 := by have := kw_clampI (x := k) (by omega); omega
      refine kw_aald (pc := 15) (i := 9) (b := 32) rfl rfl (by decide) (by omega) (by rw [e_w8]; rfl) ?_
      refine kw_iload_n (pc := 16) (i := 10) (k := 2) (n := 2) rfl rfl rfl ?_
      refine kw_iload_n (pc := 17) (i := 11) (k := 3) (n := 3) rfl rfl rfl ?_
      refine kw_iast (pc := 18) (i := 12) (n := 40) rfl rfl (by omega) (by omega) ?_
      have I15 : kw_I bX (kw_ui σ 32 i.toNatClampNeg v) := kw_I_ui hI (kw_rng v).1 (Int.le_of_lt_add_one (kw_rng v).2)
      have F16 : kw_F [29, 30, 31, 32, 33, 34] σ (kw_ui σ 32 i.toNatClampNeg v) := kw_F_ui hF0 (by decide)
      exact kw_return (pc := 19) (i := 13) rfl rfl ⟨⟨I15, F16⟩, rfl⟩
    · have e_w8 : k.toNatClampNeg = 4 := by have := kw_clampI (x := k) (by omega); omega
      refine kw_aald (pc := 15) (i := 9) (b := 33) rfl rfl (by decide) (by omega) (by rw [e_w8]; rfl) ?_
      refine kw_iload_n (pc := 16) (i := 10) (k := 2) (n := 2) rfl rfl rfl ?_
      refine kw_iload_n (pc := 17) (i := 11) (k := 3) (n := 3) rfl rfl rfl ?_
      refine kw_iast (pc := 18) (i := 12) (n := 40) rfl rfl (by omega) (by omega) ?_
      have I17 : kw_I bX (kw_ui σ 33 i.toNatClampNeg v) := kw_I_ui hI (kw_rng v).1 (Int.le_of_lt_add_one (kw_rng v).2)
      have F18 : kw_F [29, 30, 31, 32, 33, 34] σ (kw_ui σ 33 i.toNatClampNeg v) := kw_F_ui hF0 (by decide)
      exact kw_return (pc := 19) (i := 13) rfl rfl ⟨⟨I17, F18⟩, rfl⟩
    · have e_w8 : k.toNatClampNeg = 5 := by have := kw_clampI (x := k) (by omega); omega
      refine kw_aald (pc := 15) (i := 9) (b := 34) rfl rfl (by decide) (by omega) (by rw [e_w8]; rfl) ?_
      refine kw_iload_n (pc := 16) (i := 10) (k := 2) (n := 2) rfl rfl rfl ?_
      refine kw_iload_n (pc := 17) (i := 11) (k := 3) (n := 3) rfl rfl rfl ?_
      refine kw_iast (pc := 18) (i := 12) (n := 40) rfl rfl (by omega) (by omega) ?_
      have I19 : kw_I bX (kw_ui σ 34 i.toNatClampNeg v) := kw_I_ui hI (kw_rng v).1 (Int.le_of_lt_add_one (kw_rng v).2)
      have F20 : kw_F [29, 30, 31, 32, 33, 34] σ (kw_ui σ 34 i.toNatClampNeg v) := kw_F_ui hF0 (by decide)
      exact kw_return (pc := 19) (i := 13) rfl rfl ⟨⟨I19, F20⟩, rfl⟩
abbrev p_X3_make_1 (σ : kw_S) (k : Int32) (n : Int32) (v : Int32) : Option Value → kw_S → Prop := fun v σ' => (kw_I bX σ' ∧ kw_F [13, 29, 30, 31, 32, 33, 34] σ σ') ∧ v = none
set_option maxRecDepth 100000 in
set_option maxHeartbeats 4000000 in
theorem c_X3_make_1 (l : Launch) (σ : kw_S) (hI : kw_I bX σ) (k : Int32) (n : Int32) (v : Int32) : kw_Met l 2 KX mX3_make [.ref 1, .int k, .int n, .int v] σ (p_X3_make_1 σ k n v) := by
  have r_k := kw_rng k
  have r_n := kw_rng n
  have r_v := kw_rng v
  have hF0 : kw_F [13, 29, 30, 31, 32, 33, 34] σ σ := kw_F.rf
  refine kw_Met.of (by decide) rfl tX3_make (Nat.le_of_ble_eq_true rfl) ?_
  show kw_AW l 2 kw_E0 KX mX3_make (p_X3_make_1 σ k n v) 0 [(0, .ref 1), (1, .int k), (2, .int n), (3, .int v)] [] σ
  refine kw_aload_n (pc := 0) (i := 0) (k := 0) (n := 0) rfl rfl rfl ?_
  refine kw_iload_n (pc := 1) (i := 1) (k := 1) (n := 1) rfl rfl rfl ?_
  refine kw_callV (pc := 2) (i := 2) (Y := mX3_has) (a := 1) (As := [.int k]) (st := []) kw_hE rfl rfl lvX3_34 arX3_has (c_X3_has_1 l σ hI k ) (by decide) (by decide) rfl (fun v S2 p1 => ?_)
  obtain ⟨e7, z6, rfl, f3, f4, f5⟩ := p1
  rw [e7]
  have r_z6 := kw_rng z6
  show kw_AW l 2 kw_E0 KX mX3_make (p_X3_make_1 σ k n v) 5 [(0, .ref 1), (1, .int k), (2, .int n), (3, .int v)] [.int z6] σ
  refine kw_if_eq (pc := 5) (i := 3) (tgt := 20) rfl rfl (fun c8 => ?_) (fun c8 => ?_)
  · exact kw_return (pc := 20) (i := 10) rfl rfl ⟨⟨hI, hF0⟩, rfl⟩
  · refine kw_iload_n (pc := 8) (i := 4) (k := 2) (n := 2) rfl rfl rfl ?_
    refine kw_if_lt (pc := 9) (i := 5) (tgt := 20) rfl rfl (fun c9 => ?_) (fun c9 => ?_)
    · exact kw_return (pc := 20) (i := 10) rfl rfl ⟨⟨hI, hF0⟩, rfl⟩
    · refine kw_iload_n (pc := 12) (i := 6) (k := 2) (n := 2) rfl rfl rfl ?_
      refine kw_aload_n (pc := 13) (i := 7) (k := 0) (n := 0) rfl rfl rfl ?_
      refine kw_get (pc := 14) (i := 8) (v := .int (σ.1 1 0)) rfl rfl rfl lkX3_9 (fun _ => rfl) ?_
      have b10 : 40 ≤ (σ.1 1 0).toInt ∧ (σ.1 1 0).toInt ≤ 40 := hI 1 0
      refine kw_icmp_le (pc := 17) (i := 9) (tgt := 21) rfl rfl (fun c11 => ?_) (fun c11 => ?_)
      · refine kw_aload_n (pc := 21) (i := 11) (k := 0) (n := 0) rfl rfl rfl ?_
        refine kw_get (pc := 22) (i := 12) (v := .ref 13) rfl rfl rfl lkX3_20 (fun _ => rfl) ?_
        refine kw_iload_n (pc := 25) (i := 13) (k := 1) (n := 1) rfl rfl rfl ?_
        refine kw_iload_n (pc := 26) (i := 14) (k := 2) (n := 2) rfl rfl rfl ?_
        refine kw_iast (pc := 27) (i := 15) (n := 6) rfl rfl (by omega) (by omega) ?_
        have I12 : kw_I bX (kw_ui σ 13 k.toNatClampNeg n) := kw_I_ui hI (show -1 ≤ n.toInt by omega) (show n.toInt ≤ 40 by omega)
        have F13 : kw_F [13, 29, 30, 31, 32, 33, 34] σ (kw_ui σ 13 k.toNatClampNeg n) := kw_F_ui hF0 (by decide)
        refine kw_aload_n (pc := 28) (i := 16) (k := 0) (n := 0) rfl rfl rfl ?_
        refine kw_get (pc := 29) (i := 17) (v := .ref 12) rfl rfl rfl lkX3_17 (fun _ => rfl) ?_
        refine kw_iload_n (pc := 32) (i := 18) (k := 1) (n := 1) rfl rfl rfl ?_
        have w14 : k.toInt = 0 ∨ k.toInt = 1 ∨ k.toInt = 2 ∨ k.toInt = 3 ∨ k.toInt = 4 ∨ k.toInt = 5 := by omega
        rcases w14 with w14 | w14 | w14 | w14 | w14 | w14
        · have e_w14 : k.toNatClampNeg = 0 := by have := kw_clampI (x := k) (by omega); omega
          refine kw_aald (pc := 33) (i := 19) (b := 29) rfl rfl (by decide) (by omega) (by rw [e_w14]; rfl) ?_
          refine kw_iload_n (pc := 34) (i := 20) (k := 3) (n := 3) rfl rfl rfl ?_
          refine kw_callS (pc := 35) (i := 21) (Y := mJ7_fill_53178) (As := [.ref 29, .int v]) (st := []) kw_hE rfl lsX3_24 arJ7_fill_53178 (c_J7_fill_53178_29 l (kw_ui σ 13 k.toNatClampNeg n) I12 v ) (by decide) (by decide) rfl (fun v S16 p15 => ?_)
          obtain ⟨⟨I17, F18⟩, rfl⟩ := p15
          have F19 : kw_F [13, 29, 30, 31, 32, 33, 34] σ S16 := kw_F.tr F13 F18 (by decide)
          show kw_AW l 2 kw_E0 KX mX3_make (p_X3_make_1 σ k n v) 38 [(0, .ref 1), (1, .int k), (2, .int n), (3, .int v)] [] S16
          exact kw_return (pc := 38) (i := 22) rfl rfl ⟨⟨I17, F19⟩, rfl⟩
        · have e_w14 : k.toNatClampNeg = 1 := by have := kw_clampI (x := k) (by omega); omega
          refine kw_aald (pc := 33) (i := 19) (b := 30) rfl rfl (by decide) (by omega) (by rw [e_w14]; rfl) ?_
          refine kw_iload_n (pc := 34) (i := 20) (k := 3) (n := 3) rfl rfl rfl ?_
          refine kw_callS (pc := 35) (i := 21) (Y := mJ7_fill_53178) (As := [.ref 30, .int v]) (st := []) kw_hE rfl lsX3_24 arJ7_fill_53178 (c_J7_fill_53178_30 l (kw_ui σ 13 k.toNatClampNeg n) I12 v ) (by decide) (by decide) rfl (fun v S21 p20 => ?_)
          obtain ⟨⟨I22, F23⟩, rfl⟩ := p20
          have F24 : kw_F [13, 29, 30, 31, 32, 33, 34] σ S21 := kw_F.tr F13 F23 (by decide)
          show kw_AW l 2 kw_E0 KX mX3_make (p_X3_make_1 σ k n v) 38 [(0, .ref 1), (1, .int k), (2, .int n), (3, .int v)] [] S21
          exact kw_return (pc := 38) (i := 22) rfl rfl ⟨⟨I22, F24⟩, rfl⟩
        · have e_w14 : k.toNatClampNeg = 2 := by have := kw_clampI (x := k) (by omega); omega
          refine kw_aald (pc := 33) (i := 19) (b := 31) rfl rfl (by decide) (by omega) (by rw [e_w14]; rfl) ?_
          refine kw_iload_n (pc := 34) (i := 20) (k := 3) (n := 3) rfl rfl rfl ?_
          refine kw_callS (pc := 35) (i := 21) (Y := mJ7_fill_53178) (As := [.ref 31, .int v]) (st := []) kw_hE rfl lsX3_24 arJ7_fill_53178 (c_J7_fill_53178_31 l (kw_ui σ 13 k.toNatClampNeg n) I12 v ) (by decide) (by decide) rfl (fun v S26 p25 => ?_)
          obtain ⟨⟨I27, F28⟩, rfl⟩ := p25
          have F29 : kw_F [13, 29, 30, 31, 32, 33, 34] σ S26 := kw_F.tr F13 F28 (by decide)
          show kw_AW l 2 kw_E0 KX mX3_make (p_X3_make_1 σ k n v) 38 [(0, .ref 1), (1, .int k), (2, .int n), (3, .int v)] [] S26
          exact kw_return (pc := 38) (i := 22) rfl rfl ⟨⟨I27, F29⟩, rfl⟩
        · have e_w14 : k.toNatClampNeg = 3 := by have := kw_clampI (x := k) (by omega); omega
          refine kw_aald (pc := 33) (i := 19) (b := 32) rfl rfl (by decide) (by omega) (by rw [e_w14]; rfl) ?_
          refine kw_iload_n (pc := 34) (i := 20) (k := 3) (n := 3) rfl rfl rfl ?_
          refine kw_callS (pc := 35) (i := 21) (Y := mJ7_fill_53178) (As := [.ref 32, .int v]) (st := []) kw_hE rfl lsX3_24 arJ7_fill_53178 (c_J7_fill_53178_32 l (kw_ui σ 13 k.toNatClampNeg n) I12 v ) (by decide) (by decide) rfl (fun v S31 p30 => ?_)
          obtain ⟨⟨I32, F33⟩, rfl⟩ := p30
          have F34 : kw_F [13, 29, 30, 31, 32, 33, 34] σ S31 := kw_F.tr F13 F33 (by decide)
          show kw_AW l 2 kw_E0 KX mX3_make (p_X3_make_1 σ k n v) 38 [(0, .ref 1), (1, .int k), (2, .int n), (3, .int v)] [] S31
          exact kw_return (pc := 38) (i := 22) rfl rfl ⟨⟨I32, F34⟩, rfl⟩
        · have e_w14 : k.toNatClampNeg = 4 := by have := kw_clampI (x := k) (by omega); omega
          refine kw_aald (pc := 33) (i := 19) (b := 33) rfl rfl (by decide) (by omega) (by rw [e_w14]; rfl) ?_
          refine kw_iload_n (pc := 34) (i := 20) (k := 3) (n := 3) rfl rfl rfl ?_
          refine kw_callS (pc := 35) (i := 21) (Y := mJ7_fill_53178) (As := [.ref 33, .int v]) (st := []) kw_hE rfl lsX3_24 arJ7_fill_53178 (c_J7_fill_53178_33 l (kw_ui σ 13 k.toNatClampNeg n) I12 v ) (by decide) (by decide) rfl (fun v S36 p35 => ?_)
          obtain ⟨⟨I37, F38⟩, rfl⟩ := p35
          have F39 : kw_F [13, 29, 30, 31, 32, 33, 34] σ S36 := kw_F.tr F13 F38 (by decide)
          show kw_AW l 2 kw_E0 KX mX3_make (p_X3_make_1 σ k n v) 38 [(0, .ref 1), (1, .int k), (2, .int n), (3, .int v)] [] S36
          exact kw_return (pc := 38) (i := 22) rfl rfl ⟨⟨I37, F39⟩, rfl⟩
        · have e_w14 : k.toNatClampNeg = 5 := by have := kw_clampI (x := k) (by omega); omega
          refine kw_aald (pc := 33) (i := 19) (b := 34) rfl rfl (by decide) (by omega) (by rw [e_w14]; rfl) ?_
          refine kw_iload_n (pc := 34) (i := 20) (k := 3) (n := 3) rfl rfl rfl ?_
          refine kw_callS (pc := 35) (i := 21) (Y := mJ7_fill_53178) (As := [.ref 34, .int v]) (st := []) kw_hE rfl lsX3_24 arJ7_fill_53178 (c_J7_fill_53178_34 l (kw_ui σ 13 k.toNatClampNeg n) I12 v ) (by decide) (by decide) rfl (fun v S41 p40 => ?_)
          obtain ⟨⟨I42, F43⟩, rfl⟩ := p40
          have F44 : kw_F [13, 29, 30, 31, 32, 33, 34] σ S41 := kw_F.tr F13 F43 (by decide)
          show kw_AW l 2 kw_E0 KX mX3_make (p_X3_make_1 σ k n v) 38 [(0, .ref 1), (1, .int k), (2, .int n), (3, .int v)] [] S41
          exact kw_return (pc := 38) (i := 22) rfl rfl ⟨⟨I42, F44⟩, rfl⟩
      · exact kw_return (pc := 20) (i := 10) rfl rfl ⟨⟨hI, hF0⟩, rfl⟩
abbrev p_X3_drop_1 (σ : kw_S) (k : Int32) : Option Value → kw_S → Prop := fun v σ' => (kw_I bX σ' ∧ kw_F [13] σ σ') ∧ v = none
set_option maxRecDepth 100000 in
set_option maxHeartbeats 4000000 in
theorem c_X3_drop_1 (l : Launch) (σ : kw_S) (hI : kw_I bX σ) (k : Int32) : kw_Met l 2 KX mX3_drop [.ref 1, .int k] σ (p_X3_drop_1 σ k) := by
  have r_k := kw_rng k
  have hF0 : kw_F [13] σ σ := kw_F.rf
  have q_m1 : (-1 : Int32).toInt = -1 := rfl
  refine kw_Met.of (by decide) rfl tX3_drop (Nat.le_of_ble_eq_true rfl) ?_
  show kw_AW l 2 kw_E0 KX mX3_drop (p_X3_drop_1 σ k) 0 [(0, .ref 1), (1, .int k)] [] σ
  refine kw_aload_n (pc := 0) (i := 0) (k := 0) (n := 0) rfl rfl rfl ?_
  refine kw_iload_n (pc := 1) (i := 1) (k := 1) (n := 1) rfl rfl rfl ?_
  refine kw_callV (pc := 2) (i := 2) (Y := mX3_has) (a := 1) (As := [.int k]) (st := []) kw_hE rfl rfl lvX3_34 arX3_has (c_X3_has_1 l σ hI k ) (by decide) (by decide) rfl (fun v S2 p1 => ?_)
  obtain ⟨e7, z6, rfl, f3, f4, f5⟩ := p1
  rw [e7]
  have r_z6 := kw_rng z6
  show kw_AW l 2 kw_E0 KX mX3_drop (p_X3_drop_1 σ k) 5 [(0, .ref 1), (1, .int k)] [.int z6] σ
  refine kw_if_eq (pc := 5) (i := 3) (tgt := 15) rfl rfl (fun c8 => ?_) (fun c8 => ?_)
  · exact kw_return (pc := 15) (i := 9) rfl rfl ⟨⟨hI, hF0⟩, rfl⟩
  · refine kw_aload_n (pc := 8) (i := 4) (k := 0) (n := 0) rfl rfl rfl ?_
    refine kw_get (pc := 9) (i := 5) (v := .ref 13) rfl rfl rfl lkX3_20 (fun _ => rfl) ?_
    refine kw_iload_n (pc := 12) (i := 6) (k := 1) (n := 1) rfl rfl rfl ?_
    refine kw_iconst (pc := 13) (i := 7) (v := (-1)) rfl rfl ?_
    refine kw_iast (pc := 14) (i := 8) (n := 6) rfl rfl (by omega) (by omega) ?_
    have I9 : kw_I bX (kw_ui σ 13 k.toNatClampNeg (-1)) := kw_I_ui hI (show -1 ≤ ((-1) : Int32).toInt by omega) (show ((-1) : Int32).toInt ≤ 40 by omega)
    have F10 : kw_F [13] σ (kw_ui σ 13 k.toNatClampNeg (-1)) := kw_F_ui hF0 (by decide)
    exact kw_return (pc := 15) (i := 9) rfl rfl ⟨⟨I9, F10⟩, rfl⟩
abbrev p_X3_findingAt_1 (σ : kw_S) (k : Int32) (i : Int32) : Option Value → kw_S → Prop := fun v σ' => σ' = σ ∧ ∃ r : Int32, v = some (.int r)
set_option maxRecDepth 100000 in
set_option maxHeartbeats 4000000 in
theorem c_X3_findingAt_1 (l : Launch) (σ : kw_S) (hI : kw_I bX σ) (k : Int32) (i : Int32) : kw_Met l 4 KX mX3_findingAt [.ref 1, .int k, .int i] σ (p_X3_findingAt_1 σ k i) := by
  have r_k := kw_rng k
  have r_i := kw_rng i
  have q_0 : (0 : Int32).toInt = 0 := rfl
  have q_1 : (1 : Int32).toInt = 1 := rfl
  have q_2 : (2 : Int32).toInt = 2 := rfl
  refine kw_Met.of (by decide) rfl tX3_findingAt (Nat.le_of_ble_eq_true rfl) ?_
  show kw_AW l 4 kw_E0 KX mX3_findingAt (p_X3_findingAt_1 σ k i) 0 [(0, .ref 1), (1, .int k), (2, .int i)] [] σ
  refine kw_aload_n (pc := 0) (i := 0) (k := 0) (n := 0) rfl rfl rfl ?_
  refine kw_iload_n (pc := 1) (i := 1) (k := 1) (n := 1) rfl rfl rfl ?_
  refine kw_callV (pc := 2) (i := 2) (Y := mX3_isMissing) (a := 1) (As := [.int k]) (st := []) kw_hE rfl rfl lvX3_38 arX3_isMissing (c_X3_isMissing_1 l σ hI k ) (by decide) (by decide) rfl (fun v S2 p1 => ?_)
  obtain ⟨e6, z5, rfl, f3, f4⟩ := p1
  rw [e6]
  have r_z5 := kw_rng z5
  show kw_AW l 4 kw_E0 KX mX3_findingAt (p_X3_findingAt_1 σ k i) 5 [(0, .ref 1), (1, .int k), (2, .int i)] [.int z5] σ
  refine kw_if_eq (pc := 5) (i := 3) (tgt := 10) rfl rfl (fun c7 => ?_) (fun c7 => ?_)
  · refine kw_aload_n (pc := 10) (i := 6) (k := 0) (n := 0) rfl rfl rfl ?_
    refine kw_iload_n (pc := 11) (i := 7) (k := 1) (n := 1) rfl rfl rfl ?_
    refine kw_iload_n (pc := 12) (i := 8) (k := 2) (n := 2) rfl rfl rfl ?_
    refine kw_iconst (pc := 13) (i := 9) (v := 1) rfl rfl ?_
    refine kw_callV (pc := 14) (i := 10) (Y := mX3_hasPlaces) (a := 1) (As := [.int k, .int i, .int 1]) (st := []) kw_hE rfl rfl lvX3_41 arX3_hasPlaces (c_X3_hasPlaces_1 l σ hI k i 1 ) (by decide) (by decide) rfl (fun v S9 p8 => ?_)
    obtain ⟨e13, z12, rfl, f10, f11⟩ := p8
    rw [e13]
    have r_z12 := kw_rng z12
    show kw_AW l 4 kw_E0 KX mX3_findingAt (p_X3_findingAt_1 σ k i) 17 [(0, .ref 1), (1, .int k), (2, .int i)] [.int z12] σ
    refine kw_if_eq (pc := 17) (i := 11) (tgt := 24) rfl rfl (fun c14 => ?_) (fun c14 => ?_)
    · refine kw_iconst (pc := 24) (i := 14) (v := 2) rfl rfl ?_
      exact kw_ireturn (pc := 25) (i := 15) (ty := .int) rfl rfl rfl ⟨rfl, _, rfl⟩
    · refine kw_iconst (pc := 20) (i := 12) (v := 0) rfl rfl ?_
      refine kw_goto (pc := 21) (i := 13) (tgt := 25) rfl rfl ?_
      exact kw_ireturn (pc := 25) (i := 15) (ty := .int) rfl rfl rfl ⟨rfl, _, rfl⟩
  · refine kw_iconst (pc := 8) (i := 4) (v := 1) rfl rfl ?_
    exact kw_ireturn (pc := 9) (i := 5) (ty := .int) rfl rfl rfl ⟨rfl, _, rfl⟩
abbrev p_X3_fold_1 (σ : kw_S) (h : Int64) : Option Value → kw_S → Prop := fun v σ' => σ' = σ ∧ ∃ r : Int64, v = some (.long r)
set_option maxRecDepth 100000 in
set_option maxHeartbeats 4000000 in
theorem c_X3_fold_1 (l : Launch) (σ : kw_S) (hI : kw_I bX σ) (h : Int64) : kw_Met l 1 KX mX3_fold [.ref 1, .long h] σ (p_X3_fold_1 σ h) := by
  have q_0 : (0 : Int32).toInt = 0 := rfl
  have q_6 : (6 : Int32).toInt = 6 := rfl
  refine kw_Met.of (by decide) rfl tX3_fold (Nat.le_of_ble_eq_true rfl) ?_
  show kw_AW l 1 kw_E0 KX mX3_fold (p_X3_fold_1 σ h) 0 [(0, .ref 1), (1, .long h)] [] σ
  refine kw_lload_n (pc := 0) (i := 0) (k := 1) (n := 1) rfl rfl rfl ?_
  refine kw_lstore_n (pc := 1) (i := 1) (n := 3) (lv' := [(3, .long h), (0, .ref 1), (1, .long h)]) rfl rfl (by decide) rfl ?_
  refine kw_iconst (pc := 2) (i := 2) (v := 0) rfl rfl ?_
  refine kw_istore (pc := 3) (i := 3) (n := 5) (lv' := [(5, .int 0), (3, .long h), (0, .ref 1), (1, .long h)]) rfl (by decide) rfl ?_
  have L3 : ∀ (n7 : Nat) (x1 : Int32) (x2 : Int64), 0 ≤ x1.toInt → (10 - x1.toInt).toNat < n7 → kw_AW l 1 kw_E0 KX mX3_fold (p_X3_fold_1 σ h) 5 [(5, .int x1), (3, .long x2), (0, .ref 1), (1, .long h)] [] σ := by
    intro n7
    induction n7 with
    | zero => intro x1 x2 v5 m6; exact absurd m6 (Nat.not_lt_zero _)
    | succ n7 ih4 =>
      intro x1 x2 v5 m6
      have r_x1 := kw_rng x1
      refine kw_iload (pc := 5) (i := 4) (k := 0) (n := 5) rfl rfl ?_
      refine kw_aload_n (pc := 7) (i := 5) (k := 2) (n := 0) rfl rfl rfl ?_
      refine kw_get (pc := 8) (i := 6) (v := .ref 13) rfl rfl rfl lkX3_20 (fun _ => rfl) ?_
      refine kw_alen (pc := 11) (i := 7) (n := 6) (v := 6) rfl rfl rfl ?_
      refine kw_icmp_ge (pc := 12) (i := 8) (tgt := 75) rfl rfl (fun c8 => ?_) (fun c8 => ?_)
      · refine kw_lload_n (pc := 75) (i := 43) (k := 1) (n := 3) rfl rfl rfl ?_
        exact kw_lreturn (pc := 76) (i := 44) rfl rfl ⟨rfl, _, rfl⟩
      · refine kw_ldc2 (pc := 15) (i := 9) (v := 31) rfl ckX3_51 ?_
        refine kw_lload_n (pc := 18) (i := 10) (k := 1) (n := 3) rfl rfl rfl ?_
        refine kw_lmul (pc := 19) (i := 11) rfl (fun z9 e_z9 => ?_)
        refine kw_aload_n (pc := 20) (i := 12) (k := 2) (n := 0) rfl rfl rfl ?_
        refine kw_get (pc := 21) (i := 13) (v := .ref 13) rfl rfl rfl lkX3_20 (fun _ => rfl) ?_
        refine kw_iload (pc := 24) (i := 14) (k := 0) (n := 5) rfl rfl ?_
        refine kw_iald (pc := 26) (i := 15) (n := 6) rfl rfl (by omega) (by omega) (fun z10 e_z10 => ?_)
        have t_z10 := congrArg Int32.toInt e_z10
        have b_z10 : -1 ≤ z10.toInt ∧ z10.toInt ≤ 40 := by rw [e_z10]; exact hI 13 _
        refine kw_i2l (pc := 27) (i := 16) rfl (fun z11 e_z11 t_z11 => ?_)
        refine kw_ladd (pc := 28) (i := 17) rfl (fun z12 e_z12 => ?_)
        refine kw_lstore_n (pc := 29) (i := 18) (n := 3) (lv' := [(3, .long z12), (5, .int x1), (0, .ref 1), (1, .long h)]) rfl rfl (by decide) rfl ?_
        refine kw_iconst (pc := 30) (i := 19) (v := 0) rfl rfl ?_
        refine kw_istore (pc := 31) (i := 20) (n := 6) (lv' := [(6, .int 0), (3, .long z12), (5, .int x1), (0, .ref 1), (1, .long h)]) rfl (by decide) rfl ?_
        have L15 : ∀ (n19 : Nat) (x13 : Int32) (x14 : Int64), 0 ≤ x13.toInt → (61 - x13.toInt).toNat < n19 → kw_AW l 1 kw_E0 KX mX3_fold (p_X3_fold_1 σ h) 33 [(6, .int x13), (3, .long x14), (5, .int x1), (0, .ref 1), (1, .long h)] [] σ := by
          intro n19
          induction n19 with
          | zero => intro x13 x14 v17 m18; exact absurd m18 (Nat.not_lt_zero _)
          | succ n19 ih16 =>
            intro x13 x14 v17 m18
            have r_x13 := kw_rng x13
            refine kw_iload (pc := 33) (i := 21) (k := 0) (n := 6) rfl rfl ?_
            refine kw_aload_n (pc := 35) (i := 22) (k := 3) (n := 0) rfl rfl rfl ?_
            refine kw_get (pc := 36) (i := 23) (v := .ref 13) rfl rfl rfl lkX3_20 (fun _ => rfl) ?_
            refine kw_iload (pc := 39) (i := 24) (k := 2) (n := 5) rfl rfl ?_
            refine kw_iald (pc := 41) (i := 25) (n := 6) rfl rfl (by omega) (by omega) (fun z20 e_z20 => ?_)
            have t_z20 := congrArg Int32.toInt e_z20
            have b_z20 : -1 ≤ z20.toInt ∧ z20.toInt ≤ 40 := by rw [e_z20]; exact hI 13 _
            refine kw_icmp_ge (pc := 42) (i := 26) (tgt := 69) rfl rfl (fun c21 => ?_) (fun c21 => ?_)
            · refine kw_iinc' (pc := 69) (i := 41) (k := 2) (fun z => [(5, .int z), (6, .int x13), (3, .long x14), (0, .ref 1), (1, .long h)]) rfl rfl (by decide) rfl (fun _ => rfl) (fun z22 e_z22 t_z22 => ?_)
              refine kw_goto (pc := 72) (i := 42) (tgt := 5) rfl rfl ?_
              refine kw_sub (lv' := [(5, .int z22), (3, .long x14), (0, .ref 1), (1, .long h)]) [0, 2, 3, 4] rfl ?_
              exact ih4 z22 x14 (by omega) (by omega)
            · refine kw_ldc2 (pc := 45) (i := 27) (v := 31) rfl ckX3_51 ?_
              refine kw_lload_n (pc := 48) (i := 28) (k := 1) (n := 3) rfl rfl rfl ?_
              refine kw_lmul (pc := 49) (i := 29) rfl (fun z23 e_z23 => ?_)
              refine kw_aload_n (pc := 50) (i := 30) (k := 3) (n := 0) rfl rfl rfl ?_
              refine kw_get (pc := 51) (i := 31) (v := .ref 12) rfl rfl rfl lkX3_17 (fun _ => rfl) ?_
              refine kw_iload (pc := 54) (i := 32) (k := 2) (n := 5) rfl rfl ?_
              have w24 : x1.toInt = 0 ∨ x1.toInt = 1 ∨ x1.toInt = 2 ∨ x1.toInt = 3 ∨ x1.toInt = 4 ∨ x1.toInt = 5 := by omega
              rcases w24 with w24 | w24 | w24 | w24 | w24 | w24
              · have e_w24 : x1.toNatClampNeg = 0 := by have := kw_clampI (x := x1) (by omega); omega
                refine kw_aald (pc := 56) (i := 33) (b := 29) rfl rfl (by decide) (by omega) (by rw [e_w24]; rfl) ?_
                refine kw_iload (pc := 57) (i := 34) (k := 0) (n := 6) rfl rfl ?_
                refine kw_iald (pc := 59) (i := 35) (n := 40) rfl rfl (by omega) (by omega) (fun z25 e_z25 => ?_)
                have t_z25 := congrArg Int32.toInt e_z25
                have r_z25 := kw_rng z25
                refine kw_i2l (pc := 60) (i := 36) rfl (fun z26 e_z26 t_z26 => ?_)
                refine kw_ladd (pc := 61) (i := 37) rfl (fun z27 e_z27 => ?_)
                refine kw_lstore_n (pc := 62) (i := 38) (n := 3) (lv' := [(3, .long z27), (6, .int x13), (5, .int x1), (0, .ref 1), (1, .long h)]) rfl rfl (by decide) rfl ?_
                refine kw_iinc' (pc := 63) (i := 39) (k := 1) (fun z => [(6, .int z), (3, .long z27), (5, .int x1), (0, .ref 1), (1, .long h)]) rfl rfl (by decide) rfl (fun _ => rfl) (fun z28 e_z28 t_z28 => ?_)
                refine kw_goto (pc := 66) (i := 40) (tgt := 33) rfl rfl ?_
                refine kw_sub (lv' := [(6, .int z28), (3, .long z27), (5, .int x1), (0, .ref 1), (1, .long h)]) [0, 1, 2, 3, 4] rfl ?_
                exact ih16 z28 z27 (by omega) (by omega)
              · have e_w24 : x1.toNatClampNeg = 1 := by have := kw_clampI (x := x1) (by omega); omega
                refine kw_aald (pc := 56) (i := 33) (b := 30) rfl rfl (by decide) (by omega) (by rw [e_w24]; rfl) ?_
                refine kw_iload (pc := 57) (i := 34) (k := 0) (n := 6) rfl rfl ?_
                refine kw_iald (pc := 59) (i := 35) (n := 40) rfl rfl (by omega) (by omega) (fun z29 e_z29 => ?_)
                have t_z29 := congrArg Int32.toInt e_z29
                have r_z29 := kw_rng z29
                refine kw_i2l (pc := 60) (i := 36) rfl (fun z30 e_z30 t_z30 => ?_)
                refine kw_ladd (pc := 61) (i := 37) rfl (fun z31 e_z31 => ?_)
                refine kw_lstore_n (pc := 62) (i := 38) (n := 3) (lv' := [(3, .long z31), (6, .int x13), (5, .int x1), (0, .ref 1), (1, .long h)]) rfl rfl (by decide) rfl ?_
                refine kw_iinc' (pc := 63) (i := 39) (k := 1) (fun z => [(6, .int z), (3, .long z31), (5, .int x1), (0, .ref 1), (1, .long h)]) rfl rfl (by decide) rfl (fun _ => rfl) (fun z32 e_z32 t_z32 => ?_)
                refine kw_goto (pc := 66) (i := 40) (tgt := 33) rfl rfl ?_
                refine kw_sub (lv' := [(6, .int z32), (3, .long z31), (5, .int x1), (0, .ref 1), (1, .long h)]) [0, 1, 2, 3, 4] rfl ?_
                exact ih16 z32 z31 (by omega) (by omega)
              · have e_w24 : x1.toNatClampNeg = 2 := by have := kw_clampI (x := x1) (by omega); omega
                refine kw_aald (pc := 56) (i := 33) (b := 31) rfl rfl (by decide) (by omega) (by rw [e_w24]; rfl) ?_
                refine kw_iload (pc := 57) (i := 34) (k := 0) (n := 6) rfl rfl ?_
                refine kw_iald (pc := 59) (i := 35) (n := 40) rfl rfl (by omega) (by omega) (fun z33 e_z33 => ?_)
                have t_z33 := congrArg Int32.toInt e_z33
                have r_z33 := kw_rng z33
                refine kw_i2l (pc := 60) (i := 36) rfl (fun z34 e_z34 t_z34 => ?_)
                refine kw_ladd (pc := 61) (i := 37) rfl (fun z35 e_z35 => ?_)
                refine kw_lstore_n (pc := 62) (i := 38) (n := 3) (lv' := [(3, .long z35), (6, .int x13), (5, .int x1), (0, .ref 1), (1, .long h)]) rfl rfl (by decide) rfl ?_
                refine kw_iinc' (pc := 63) (i := 39) (k := 1) (fun z => [(6, .int z), (3, .long z35), (5, .int x1), (0, .ref 1), (1, .long h)]) rfl rfl (by decide) rfl (fun _ => rfl) (fun z36 e_z36 t_z36 => ?_)
                refine kw_goto (pc := 66) (i := 40) (tgt := 33) rfl rfl ?_
                refine kw_sub (lv' := [(6, .int z36), (3, .long z35), (5, .int x1), (0, .ref 1), (1, .long h)]) [0, 1, 2, 3, 4] rfl ?_
                exact ih16 z36 z35 (by omega) (by omega)
              · have e_w24 : x1.toNatClampNeg = 3 := by have := kw_clampI (x := x1) (by omega); omega
                refine kw_aald (pc := 56) (i := 33) (b := 32) rfl rfl (by decide) (by omega) (by rw [e_w24]; rfl) ?_
                refine kw_iload (pc := 57) (i := 34) (k := 0) (n := 6) rfl rfl ?_
                refine kw_iald (pc := 59) (i := 35) (n := 40) rfl rfl (by omega) (by omega) (fun z37 e_z37 => ?_)
                have t_z37 := congrArg Int32.toInt e_z37
                have r_z37 := kw_rng z37
                refine kw_i2l (pc := 60) (i := 36) rfl (fun z38 e_z38 t_z38 => ?_)
                refine kw_ladd (pc := 61) (i := 37) rfl (fun z39 e_z39 => ?_)
                refine kw_lstore_n (pc := 62) (i := 38) (n := 3) (lv' := [(3, .long z39), (6, .int x13), (5, .int x1), (0, .ref 1), (1, .long h)]) rfl rfl (by decide) rfl ?_
                refine kw_iinc' (pc := 63) (i := 39) (k := 1) (fun z => [(6, .int z), (3, .long z39), (5, .int x1), (0, .ref 1), (1, .long h)]) rfl rfl (by decide) rfl (fun _ => rfl) (fun z40 e_z40 t_z40 => ?_)
                refine kw_goto (pc := 66) (i := 40) (tgt := 33) rfl rfl ?_
                refine kw_sub (lv' := [(6, .int z40), (3, .long z39), (5, .int x1), (0, .ref 1), (1, .long h)]) [0, 1, 2, 3, 4] rfl ?_
                exact ih16 z40 z39 (by omega) (by omega)
              · have e_w24 : x1.toNatClampNeg = 4 := by have := kw_clampI (x := x1) (by omega); omega
                refine kw_aald (pc := 56) (i := 33) (b := 33) rfl rfl (by decide) (by omega) (by rw [e_w24]; rfl) ?_
                refine kw_iload (pc := 57) (i := 34) (k := 0) (n := 6) rfl rfl ?_
                refine kw_iald (pc := 59) (i := 35) (n := 40) rfl rfl (by omega) (by omega) (fun z41 e_z41 => ?_)
                have t_z41 := congrArg Int32.toInt e_z41
                have r_z41 := kw_rng z41
                refine kw_i2l (pc := 60) (i := 36) rfl (fun z42 e_z42 t_z42 => ?_)
                refine kw_ladd (pc := 61) (i := 37) rfl (fun z43 e_z43 => ?_)
                refine kw_lstore_n (pc := 62) (i := 38) (n := 3) (lv' := [(3, .long z43), (6, .int x13), (5, .int x1), (0, .ref 1), (1, .long h)]) rfl rfl (by decide) rfl ?_
                refine kw_iinc' (pc := 63) (i := 39) (k := 1) (fun z => [(6, .int z), (3, .long z43), (5, .int x1), (0, .ref 1), (1, .long h)]) rfl rfl (by decide) rfl (fun _ => rfl) (fun z44 e_z44 t_z44 => ?_)
                refine kw_goto (pc := 66) (i := 40) (tgt := 33) rfl rfl ?_
                refine kw_sub (lv' := [(6, .int z44), (3, .long z43), (5, .int x1), (0, .ref 1), (1, .long h)]) [0, 1, 2, 3, 4] rfl ?_
                exact ih16 z44 z43 (by omega) (by omega)
              · have e_w24 : x1.toNatClampNeg = 5 := by have := kw_clampI (x := x1) (by omega); omega
                refine kw_aald (pc := 56) (i := 33) (b := 34) rfl rfl (by decide) (by omega) (by rw [e_w24]; rfl) ?_
                refine kw_iload (pc := 57) (i := 34) (k := 0) (n := 6) rfl rfl ?_
                refine kw_iald (pc := 59) (i := 35) (n := 40) rfl rfl (by omega) (by omega) (fun z45 e_z45 => ?_)
                have t_z45 := congrArg Int32.toInt e_z45
                have r_z45 := kw_rng z45
                refine kw_i2l (pc := 60) (i := 36) rfl (fun z46 e_z46 t_z46 => ?_)
                refine kw_ladd (pc := 61) (i := 37) rfl (fun z47 e_z47 => ?_)
                refine kw_lstore_n (pc := 62) (i := 38) (n := 3) (lv' := [(3, .long z47), (6, .int x13), (5, .int x1), (0, .ref 1), (1, .long h)]) rfl rfl (by decide) rfl ?_
                refine kw_iinc' (pc := 63) (i := 39) (k := 1) (fun z => [(6, .int z), (3, .long z47), (5, .int x1), (0, .ref 1), (1, .long h)]) rfl rfl (by decide) rfl (fun _ => rfl) (fun z48 e_z48 t_z48 => ?_)
                refine kw_goto (pc := 66) (i := 40) (tgt := 33) rfl rfl ?_
                refine kw_sub (lv' := [(6, .int z48), (3, .long z47), (5, .int x1), (0, .ref 1), (1, .long h)]) [0, 1, 2, 3, 4] rfl ?_
                exact ih16 z48 z47 (by omega) (by omega)
        exact L15 _ 0 z12 (by omega) (Nat.lt_succ_self _)
  exact L3 _ 0 h (by omega) (Nat.lt_succ_self _)
abbrev p_X3_valueAt_2 (σ : kw_S) (k : Int32) (i : Int32) : Option Value → kw_S → Prop := fun v σ' => σ' = σ ∧ ∃ r : Int32, v = some (.int r)
set_option maxRecDepth 100000 in
set_option maxHeartbeats 4000000 in
theorem c_X3_valueAt_2 (l : Launch) (σ : kw_S) (hI : kw_I bX σ) (k : Int32) (i : Int32) : kw_Met l 3 KX mX3_valueAt [.ref 2, .int k, .int i] σ (p_X3_valueAt_2 σ k i) := by
  have r_k := kw_rng k
  have r_i := kw_rng i
  have q_1 : (1 : Int32).toInt = 1 := rfl
  have q_1000 : (1000 : Int32).toInt = 1000 := rfl
  refine kw_Met.of (by decide) rfl tX3_valueAt (Nat.le_of_ble_eq_true rfl) ?_
  show kw_AW l 3 kw_E0 KX mX3_valueAt (p_X3_valueAt_2 σ k i) 0 [(0, .ref 2), (1, .int k), (2, .int i)] [] σ
  refine kw_aload_n (pc := 0) (i := 0) (k := 0) (n := 0) rfl rfl rfl ?_
  refine kw_iload_n (pc := 1) (i := 1) (k := 1) (n := 1) rfl rfl rfl ?_
  refine kw_iload_n (pc := 2) (i := 2) (k := 2) (n := 2) rfl rfl rfl ?_
  refine kw_iconst (pc := 3) (i := 3) (v := 1) rfl rfl ?_
  refine kw_callV (pc := 4) (i := 4) (Y := mX3_hasPlaces) (a := 2) (As := [.int k, .int i, .int 1]) (st := []) kw_hE rfl rfl lvX3_41 arX3_hasPlaces (c_X3_hasPlaces_2 l σ hI k i 1 ) (by decide) (by decide) rfl (fun v S2 p1 => ?_)
  obtain ⟨e6, z5, rfl, f3, f4⟩ := p1
  rw [e6]
  have r_z5 := kw_rng z5
  show kw_AW l 3 kw_E0 KX mX3_valueAt (p_X3_valueAt_2 σ k i) 7 [(0, .ref 2), (1, .int k), (2, .int i)] [.int z5] σ
  refine kw_if_eq (pc := 7) (i := 5) (tgt := 21) rfl rfl (fun c7 => ?_) (fun c7 => ?_)
  · refine kw_sipush (pc := 21) (i := 13) (v := 1000) rfl rfl ?_
    exact kw_ireturn (pc := 24) (i := 14) (ty := .int) rfl rfl rfl ⟨rfl, _, rfl⟩
  · refine kw_aload_n (pc := 10) (i := 6) (k := 0) (n := 0) rfl rfl rfl ?_
    refine kw_get (pc := 11) (i := 7) (v := .ref 14) rfl rfl rfl lkX3_17 (fun _ => rfl) ?_
    refine kw_iload_n (pc := 14) (i := 8) (k := 1) (n := 1) rfl rfl rfl ?_
    have w8 : k.toInt = 0 ∨ k.toInt = 1 ∨ k.toInt = 2 ∨ k.toInt = 3 := by omega
    rcases w8 with w8 | w8 | w8 | w8
    · have e_w8 : k.toNatClampNeg = 0 := by have := kw_clampI (x := k) (by omega); omega
      refine kw_aald (pc := 15) (i := 9) (b := 35) rfl rfl (by decide) (by omega) (by rw [e_w8]; rfl) ?_
      refine kw_iload_n (pc := 16) (i := 10) (k := 2) (n := 2) rfl rfl rfl ?_
      refine kw_iald (pc := 17) (i := 11) (n := 60) rfl rfl (by omega) (by omega) (fun z9 e_z9 => ?_)
      have t_z9 := congrArg Int32.toInt e_z9
      have r_z9 := kw_rng z9
      refine kw_goto (pc := 18) (i := 12) (tgt := 24) rfl rfl ?_
      exact kw_ireturn (pc := 24) (i := 14) (ty := .int) rfl rfl rfl ⟨rfl, _, rfl⟩
    · have e_w8 : k.toNatClampNeg = 1 := by have := kw_clampI (x := k) (by omega); omega
      refine kw_aald (pc := 15) (i := 9) (b := 36) rfl rfl (by decide) (by omega) (by rw [e_w8]; rfl) ?_
      refine kw_iload_n (pc := 16) (i := 10) (k := 2) (n := 2) rfl rfl rfl ?_
      refine kw_iald (pc := 17) (i := 11) (n := 60) rfl rfl (by omega) (by omega) (fun z10 e_z10 => ?_)
      have t_z10 := congrArg Int32.toInt e_z10
      have r_z10 := kw_rng z10
      refine kw_goto (pc := 18) (i := 12) (tgt := 24) rfl rfl ?_
      exact kw_ireturn (pc := 24) (i := 14) (ty := .int) rfl rfl rfl ⟨rfl, _, rfl⟩
    · have e_w8 : k.toNatClampNeg = 2 := by have := kw_clampI (x := k) (by omega); omega
      refine kw_aald (pc := 15) (i := 9) (b := 37) rfl rfl (by decide) (by omega) (by rw [e_w8]; rfl) ?_
      refine kw_iload_n (pc := 16) (i := 10) (k := 2) (n := 2) rfl rfl rfl ?_
      refine kw_iald (pc := 17) (i := 11) (n := 60) rfl rfl (by omega) (by omega) (fun z11 e_z11 => ?_)
      have t_z11 := congrArg Int32.toInt e_z11
      have r_z11 := kw_rng z11
      refine kw_goto (pc := 18) (i := 12) (tgt := 24) rfl rfl ?_
      exact kw_ireturn (pc := 24) (i := 14) (ty := .int) rfl rfl rfl ⟨rfl, _, rfl⟩
    · have e_w8 : k.toNatClampNeg = 3 := by have := kw_clampI (x := k) (by omega); omega
      refine kw_aald (pc := 15) (i := 9) (b := 38) rfl rfl (by decide) (by omega) (by rw [e_w8]; rfl) ?_
      refine kw_iload_n (pc := 16) (i := 10) (k := 2) (n := 2) rfl rfl rfl ?_
      refine kw_iald (pc := 17) (i := 11) (n := 60) rfl rfl (by omega) (by omega) (fun z12 e_z12 => ?_)
      have t_z12 := congrArg Int32.toInt e_z12
      have r_z12 := kw_rng z12
      refine kw_goto (pc := 18) (i := 12) (tgt := 24) rfl rfl ?_
      exact kw_ireturn (pc := 24) (i := 14) (ty := .int) rfl rfl rfl ⟨rfl, _, rfl⟩
abbrev p_X3_change_2 (σ : kw_S) (k : Int32) (i : Int32) (v : Int32) : Option Value → kw_S → Prop := fun v σ' => (kw_I bX σ' ∧ kw_F [35, 36, 37, 38] σ σ') ∧ v = none
set_option maxRecDepth 100000 in
set_option maxHeartbeats 4000000 in
theorem c_X3_change_2 (l : Launch) (σ : kw_S) (hI : kw_I bX σ) (k : Int32) (i : Int32) (v : Int32) : kw_Met l 3 KX mX3_change [.ref 2, .int k, .int i, .int v] σ (p_X3_change_2 σ k i v) := by
  have r_k := kw_rng k
  have r_i := kw_rng i
  have r_v := kw_rng v
  have hF0 : kw_F [35, 36, 37, 38] σ σ := kw_F.rf
  have q_1 : (1 : Int32).toInt = 1 := rfl
  refine kw_Met.of (by decide) rfl tX3_change (Nat.le_of_ble_eq_true rfl) ?_
  show kw_AW l 3 kw_E0 KX mX3_change (p_X3_change_2 σ k i v) 0 [(0, .ref 2), (1, .int k), (2, .int i), (3, .int v)] [] σ
  refine kw_aload_n (pc := 0) (i := 0) (k := 0) (n := 0) rfl rfl rfl ?_
  refine kw_iload_n (pc := 1) (i := 1) (k := 1) (n := 1) rfl rfl rfl ?_
  refine kw_iload_n (pc := 2) (i := 2) (k := 2) (n := 2) rfl rfl rfl ?_
  refine kw_iconst (pc := 3) (i := 3) (v := 1) rfl rfl ?_
  refine kw_callV (pc := 4) (i := 4) (Y := mX3_hasPlaces) (a := 2) (As := [.int k, .int i, .int 1]) (st := []) kw_hE rfl rfl lvX3_41 arX3_hasPlaces (c_X3_hasPlaces_2 l σ hI k i 1 ) (by decide) (by decide) rfl (fun v S2 p1 => ?_)
  obtain ⟨e6, z5, rfl, f3, f4⟩ := p1
  rw [e6]
  have r_z5 := kw_rng z5
  show kw_AW l 3 kw_E0 KX mX3_change (p_X3_change_2 σ k i v) 7 [(0, .ref 2), (1, .int k), (2, .int i), (3, .int v)] [.int z5] σ
  refine kw_if_eq (pc := 7) (i := 5) (tgt := 19) rfl rfl (fun c7 => ?_) (fun c7 => ?_)
  · exact kw_return (pc := 19) (i := 13) rfl rfl ⟨⟨hI, hF0⟩, rfl⟩
  · refine kw_aload_n (pc := 10) (i := 6) (k := 0) (n := 0) rfl rfl rfl ?_
    refine kw_get (pc := 11) (i := 7) (v := .ref 14) rfl rfl rfl lkX3_17 (fun _ => rfl) ?_
    refine kw_iload_n (pc := 14) (i := 8) (k := 1) (n := 1) rfl rfl rfl ?_
    have w8 : k.toInt = 0 ∨ k.toInt = 1 ∨ k.toInt = 2 ∨ k.toInt = 3 := by omega
    rcases w8 with w8 | w8 | w8 | w8
    · have e_w8 : k.toNatClampNeg = 0 := by have := kw_clampI (x := k) (by omega); omega
      refine kw_aald (pc := 15) (i := 9) (b := 35) rfl rfl (by decide) (by omega) (by rw [e_w8]; rfl) ?_
      refine kw_iload_n (pc := 16) (i := 10) (k := 2) (n := 2) rfl rfl rfl ?_
      refine kw_iload_n (pc := 17) (i := 11) (k := 3) (n := 3) rfl rfl rfl ?_
      refine kw_iast (pc := 18) (i := 12) (n := 60) rfl rfl (by omega) (by omega) ?_
      have I9 : kw_I bX (kw_ui σ 35 i.toNatClampNeg v) := kw_I_ui hI (kw_rng v).1 (Int.le_of_lt_add_one (kw_rng v).2)
      have F10 : kw_F [35, 36, 37, 38] σ (kw_ui σ 35 i.toNatClampNeg v) := kw_F_ui hF0 (by decide)
      exact kw_return (pc := 19) (i := 13) rfl rfl ⟨⟨I9, F10⟩, rfl⟩
    · have e_w8 : k.toNatClampNeg = 1 := by have := kw_clampI (x := k) (by omega); omega
      refine kw_aald (pc := 15) (i := 9) (b := 36) rfl rfl (by decide) (by omega) (by rw [e_w8]; rfl) ?_
      refine kw_iload_n (pc := 16) (i := 10) (k := 2) (n := 2) rfl rfl rfl ?_
      refine kw_iload_n (pc := 17) (i := 11) (k := 3) (n := 3) rfl rfl rfl ?_
      refine kw_iast (pc := 18) (i := 12) (n := 60) rfl rfl (by omega) (by omega) ?_
      have I11 : kw_I bX (kw_ui σ 36 i.toNatClampNeg v) := kw_I_ui hI (kw_rng v).1 (Int.le_of_lt_add_one (kw_rng v).2)
      have F12 : kw_F [35, 36, 37, 38] σ (kw_ui σ 36 i.toNatClampNeg v) := kw_F_ui hF0 (by decide)
      exact kw_return (pc := 19) (i := 13) rfl rfl ⟨⟨I11, F12⟩, rfl⟩
    · have e_w8 : k.toNatClampNeg = 2 := by have := kw_clampI (x := k) (by omega); omega
      refine kw_aald (pc := 15) (i := 9) (b := 37) rfl rfl (by decide) (by omega) (by rw [e_w8]; rfl) ?_
      refine kw_iload_n (pc := 16) (i := 10) (k := 2) (n := 2) rfl rfl rfl ?_
      refine kw_iload_n (pc := 17) (i := 11) (k := 3) (n := 3) rfl rfl rfl ?_
      refine kw_iast (pc := 18) (i := 12) (n := 60) rfl rfl (by omega) (by omega) ?_
      have I13 : kw_I bX (kw_ui σ 37 i.toNatClampNeg v) := kw_I_ui hI (kw_rng v).1 (Int.le_of_lt_add_one (kw_rng v).2)
      have F14 : kw_F [35, 36, 37, 38] σ (kw_ui σ 37 i.toNatClampNeg v) := kw_F_ui hF0 (by decide)
      exact kw_return (pc := 19) (i := 13) rfl rfl ⟨⟨I13, F14⟩, rfl⟩
    · have e_w8 : k.toNatClampNeg = 3 := by have := kw_clampI (x := k) (by omega); omega
      refine kw_aald (pc := 15) (i := 9) (b := 38) rfl rfl (by decide) (by omega) (by rw [e_w8]; rfl) ?_
      refine kw_iload_n (pc := 16) (i := 10) (k := 2) (n := 2) rfl rfl rfl ?_
      refine kw_iload_n (pc := 17) (i := 11) (k := 3) (n := 3) rfl rfl rfl ?_
      refine kw_iast (pc := 18) (i := 12) (n := 60) rfl rfl (by omega) (by omega) ?_
      have I15 : kw_I bX (kw_ui σ 38 i.toNatClampNeg v) := kw_I_ui hI (kw_rng v).1 (Int.le_of_lt_add_one (kw_rng v).2)
      have F16 : kw_F [35, 36, 37, 38] σ (kw_ui σ 38 i.toNatClampNeg v) := kw_F_ui hF0 (by decide)
      exact kw_return (pc := 19) (i := 13) rfl rfl ⟨⟨I15, F16⟩, rfl⟩
abbrev p_X3_make_2 (σ : kw_S) (k : Int32) (n : Int32) (v : Int32) : Option Value → kw_S → Prop := fun v σ' => (kw_I bX σ' ∧ kw_F [15, 35, 36, 37, 38] σ σ') ∧ v = none
set_option maxRecDepth 100000 in
set_option maxHeartbeats 4000000 in
theorem c_X3_make_2 (l : Launch) (σ : kw_S) (hI : kw_I bX σ) (k : Int32) (n : Int32) (v : Int32) : kw_Met l 2 KX mX3_make [.ref 2, .int k, .int n, .int v] σ (p_X3_make_2 σ k n v) := by
  have r_k := kw_rng k
  have r_n := kw_rng n
  have r_v := kw_rng v
  have hF0 : kw_F [15, 35, 36, 37, 38] σ σ := kw_F.rf
  refine kw_Met.of (by decide) rfl tX3_make (Nat.le_of_ble_eq_true rfl) ?_
  show kw_AW l 2 kw_E0 KX mX3_make (p_X3_make_2 σ k n v) 0 [(0, .ref 2), (1, .int k), (2, .int n), (3, .int v)] [] σ
  refine kw_aload_n (pc := 0) (i := 0) (k := 0) (n := 0) rfl rfl rfl ?_
  refine kw_iload_n (pc := 1) (i := 1) (k := 1) (n := 1) rfl rfl rfl ?_
  refine kw_callV (pc := 2) (i := 2) (Y := mX3_has) (a := 2) (As := [.int k]) (st := []) kw_hE rfl rfl lvX3_34 arX3_has (c_X3_has_2 l σ hI k ) (by decide) (by decide) rfl (fun v S2 p1 => ?_)
  obtain ⟨e7, z6, rfl, f3, f4, f5⟩ := p1
  rw [e7]
  have r_z6 := kw_rng z6
  show kw_AW l 2 kw_E0 KX mX3_make (p_X3_make_2 σ k n v) 5 [(0, .ref 2), (1, .int k), (2, .int n), (3, .int v)] [.int z6] σ
  refine kw_if_eq (pc := 5) (i := 3) (tgt := 20) rfl rfl (fun c8 => ?_) (fun c8 => ?_)
  · exact kw_return (pc := 20) (i := 10) rfl rfl ⟨⟨hI, hF0⟩, rfl⟩
  · refine kw_iload_n (pc := 8) (i := 4) (k := 2) (n := 2) rfl rfl rfl ?_
    refine kw_if_lt (pc := 9) (i := 5) (tgt := 20) rfl rfl (fun c9 => ?_) (fun c9 => ?_)
    · exact kw_return (pc := 20) (i := 10) rfl rfl ⟨⟨hI, hF0⟩, rfl⟩
    · refine kw_iload_n (pc := 12) (i := 6) (k := 2) (n := 2) rfl rfl rfl ?_
      refine kw_aload_n (pc := 13) (i := 7) (k := 0) (n := 0) rfl rfl rfl ?_
      refine kw_get (pc := 14) (i := 8) (v := .int (σ.1 2 0)) rfl rfl rfl lkX3_9 (fun _ => rfl) ?_
      have b10 : 60 ≤ (σ.1 2 0).toInt ∧ (σ.1 2 0).toInt ≤ 60 := hI 2 0
      refine kw_icmp_le (pc := 17) (i := 9) (tgt := 21) rfl rfl (fun c11 => ?_) (fun c11 => ?_)
      · refine kw_aload_n (pc := 21) (i := 11) (k := 0) (n := 0) rfl rfl rfl ?_
        refine kw_get (pc := 22) (i := 12) (v := .ref 15) rfl rfl rfl lkX3_20 (fun _ => rfl) ?_
        refine kw_iload_n (pc := 25) (i := 13) (k := 1) (n := 1) rfl rfl rfl ?_
        refine kw_iload_n (pc := 26) (i := 14) (k := 2) (n := 2) rfl rfl rfl ?_
        refine kw_iast (pc := 27) (i := 15) (n := 4) rfl rfl (by omega) (by omega) ?_
        have I12 : kw_I bX (kw_ui σ 15 k.toNatClampNeg n) := kw_I_ui hI (show -1 ≤ n.toInt by omega) (show n.toInt ≤ 60 by omega)
        have F13 : kw_F [15, 35, 36, 37, 38] σ (kw_ui σ 15 k.toNatClampNeg n) := kw_F_ui hF0 (by decide)
        refine kw_aload_n (pc := 28) (i := 16) (k := 0) (n := 0) rfl rfl rfl ?_
        refine kw_get (pc := 29) (i := 17) (v := .ref 14) rfl rfl rfl lkX3_17 (fun _ => rfl) ?_
        refine kw_iload_n (pc := 32) (i := 18) (k := 1) (n := 1) rfl rfl rfl ?_
        have w14 : k.toInt = 0 ∨ k.toInt = 1 ∨ k.toInt = 2 ∨ k.toInt = 3 := by omega
        rcases w14 with w14 | w14 | w14 | w14
        · have e_w14 : k.toNatClampNeg = 0 := by have := kw_clampI (x := k) (by omega); omega
          refine kw_aald (pc := 33) (i := 19) (b := 35) rfl rfl (by decide) (by omega) (by rw [e_w14]; rfl) ?_
          refine kw_iload_n (pc := 34) (i := 20) (k := 3) (n := 3) rfl rfl rfl ?_
          refine kw_callS (pc := 35) (i := 21) (Y := mJ7_fill_53178) (As := [.ref 35, .int v]) (st := []) kw_hE rfl lsX3_24 arJ7_fill_53178 (c_J7_fill_53178_35 l (kw_ui σ 15 k.toNatClampNeg n) I12 v ) (by decide) (by decide) rfl (fun v S16 p15 => ?_)
          obtain ⟨⟨I17, F18⟩, rfl⟩ := p15
          have F19 : kw_F [15, 35, 36, 37, 38] σ S16 := kw_F.tr F13 F18 (by decide)
          show kw_AW l 2 kw_E0 KX mX3_make (p_X3_make_2 σ k n v) 38 [(0, .ref 2), (1, .int k), (2, .int n), (3, .int v)] [] S16
          exact kw_return (pc := 38) (i := 22) rfl rfl ⟨⟨I17, F19⟩, rfl⟩
        · have e_w14 : k.toNatClampNeg = 1 := by have := kw_clampI (x := k) (by omega); omega
          refine kw_aald (pc := 33) (i := 19) (b := 36) rfl rfl (by decide) (by omega) (by rw [e_w14]; rfl) ?_
          refine kw_iload_n (pc := 34) (i := 20) (k := 3) (n := 3) rfl rfl rfl ?_
          refine kw_callS (pc := 35) (i := 21) (Y := mJ7_fill_53178) (As := [.ref 36, .int v]) (st := []) kw_hE rfl lsX3_24 arJ7_fill_53178 (c_J7_fill_53178_36 l (kw_ui σ 15 k.toNatClampNeg n) I12 v ) (by decide) (by decide) rfl (fun v S21 p20 => ?_)
          obtain ⟨⟨I22, F23⟩, rfl⟩ := p20
          have F24 : kw_F [15, 35, 36, 37, 38] σ S21 := kw_F.tr F13 F23 (by decide)
          show kw_AW l 2 kw_E0 KX mX3_make (p_X3_make_2 σ k n v) 38 [(0, .ref 2), (1, .int k), (2, .int n), (3, .int v)] [] S21
          exact kw_return (pc := 38) (i := 22) rfl rfl ⟨⟨I22, F24⟩, rfl⟩
        · have e_w14 : k.toNatClampNeg = 2 := by have := kw_clampI (x := k) (by omega); omega
          refine kw_aald (pc := 33) (i := 19) (b := 37) rfl rfl (by decide) (by omega) (by rw [e_w14]; rfl) ?_
          refine kw_iload_n (pc := 34) (i := 20) (k := 3) (n := 3) rfl rfl rfl ?_
          refine kw_callS (pc := 35) (i := 21) (Y := mJ7_fill_53178) (As := [.ref 37, .int v]) (st := []) kw_hE rfl lsX3_24 arJ7_fill_53178 (c_J7_fill_53178_37 l (kw_ui σ 15 k.toNatClampNeg n) I12 v ) (by decide) (by decide) rfl (fun v S26 p25 => ?_)
          obtain ⟨⟨I27, F28⟩, rfl⟩ := p25
          have F29 : kw_F [15, 35, 36, 37, 38] σ S26 := kw_F.tr F13 F28 (by decide)
          show kw_AW l 2 kw_E0 KX mX3_make (p_X3_make_2 σ k n v) 38 [(0, .ref 2), (1, .int k), (2, .int n), (3, .int v)] [] S26
          exact kw_return (pc := 38) (i := 22) rfl rfl ⟨⟨I27, F29⟩, rfl⟩
        · have e_w14 : k.toNatClampNeg = 3 := by have := kw_clampI (x := k) (by omega); omega
          refine kw_aald (pc := 33) (i := 19) (b := 38) rfl rfl (by decide) (by omega) (by rw [e_w14]; rfl) ?_
          refine kw_iload_n (pc := 34) (i := 20) (k := 3) (n := 3) rfl rfl rfl ?_
          refine kw_callS (pc := 35) (i := 21) (Y := mJ7_fill_53178) (As := [.ref 38, .int v]) (st := []) kw_hE rfl lsX3_24 arJ7_fill_53178 (c_J7_fill_53178_38 l (kw_ui σ 15 k.toNatClampNeg n) I12 v ) (by decide) (by decide) rfl (fun v S31 p30 => ?_)
          obtain ⟨⟨I32, F33⟩, rfl⟩ := p30
          have F34 : kw_F [15, 35, 36, 37, 38] σ S31 := kw_F.tr F13 F33 (by decide)
          show kw_AW l 2 kw_E0 KX mX3_make (p_X3_make_2 σ k n v) 38 [(0, .ref 2), (1, .int k), (2, .int n), (3, .int v)] [] S31
          exact kw_return (pc := 38) (i := 22) rfl rfl ⟨⟨I32, F34⟩, rfl⟩
      · exact kw_return (pc := 20) (i := 10) rfl rfl ⟨⟨hI, hF0⟩, rfl⟩
abbrev p_X3_drop_2 (σ : kw_S) (k : Int32) : Option Value → kw_S → Prop := fun v σ' => (kw_I bX σ' ∧ kw_F [15] σ σ') ∧ v = none
set_option maxRecDepth 100000 in
set_option maxHeartbeats 4000000 in
theorem c_X3_drop_2 (l : Launch) (σ : kw_S) (hI : kw_I bX σ) (k : Int32) : kw_Met l 2 KX mX3_drop [.ref 2, .int k] σ (p_X3_drop_2 σ k) := by
  have r_k := kw_rng k
  have hF0 : kw_F [15] σ σ := kw_F.rf
  have q_m1 : (-1 : Int32).toInt = -1 := rfl
  refine kw_Met.of (by decide) rfl tX3_drop (Nat.le_of_ble_eq_true rfl) ?_
  show kw_AW l 2 kw_E0 KX mX3_drop (p_X3_drop_2 σ k) 0 [(0, .ref 2), (1, .int k)] [] σ
  refine kw_aload_n (pc := 0) (i := 0) (k := 0) (n := 0) rfl rfl rfl ?_
  refine kw_iload_n (pc := 1) (i := 1) (k := 1) (n := 1) rfl rfl rfl ?_
  refine kw_callV (pc := 2) (i := 2) (Y := mX3_has) (a := 2) (As := [.int k]) (st := []) kw_hE rfl rfl lvX3_34 arX3_has (c_X3_has_2 l σ hI k ) (by decide) (by decide) rfl (fun v S2 p1 => ?_)
  obtain ⟨e7, z6, rfl, f3, f4, f5⟩ := p1
  rw [e7]
  have r_z6 := kw_rng z6
  show kw_AW l 2 kw_E0 KX mX3_drop (p_X3_drop_2 σ k) 5 [(0, .ref 2), (1, .int k)] [.int z6] σ
  refine kw_if_eq (pc := 5) (i := 3) (tgt := 15) rfl rfl (fun c8 => ?_) (fun c8 => ?_)
  · exact kw_return (pc := 15) (i := 9) rfl rfl ⟨⟨hI, hF0⟩, rfl⟩
  · refine kw_aload_n (pc := 8) (i := 4) (k := 0) (n := 0) rfl rfl rfl ?_
    refine kw_get (pc := 9) (i := 5) (v := .ref 15) rfl rfl rfl lkX3_20 (fun _ => rfl) ?_
    refine kw_iload_n (pc := 12) (i := 6) (k := 1) (n := 1) rfl rfl rfl ?_
    refine kw_iconst (pc := 13) (i := 7) (v := (-1)) rfl rfl ?_
    refine kw_iast (pc := 14) (i := 8) (n := 4) rfl rfl (by omega) (by omega) ?_
    have I9 : kw_I bX (kw_ui σ 15 k.toNatClampNeg (-1)) := kw_I_ui hI (show -1 ≤ ((-1) : Int32).toInt by omega) (show ((-1) : Int32).toInt ≤ 60 by omega)
    have F10 : kw_F [15] σ (kw_ui σ 15 k.toNatClampNeg (-1)) := kw_F_ui hF0 (by decide)
    exact kw_return (pc := 15) (i := 9) rfl rfl ⟨⟨I9, F10⟩, rfl⟩
abbrev p_X3_findingAt_2 (σ : kw_S) (k : Int32) (i : Int32) : Option Value → kw_S → Prop := fun v σ' => σ' = σ ∧ ∃ r : Int32, v = some (.int r)
set_option maxRecDepth 100000 in
set_option maxHeartbeats 4000000 in
theorem c_X3_findingAt_2 (l : Launch) (σ : kw_S) (hI : kw_I bX σ) (k : Int32) (i : Int32) : kw_Met l 4 KX mX3_findingAt [.ref 2, .int k, .int i] σ (p_X3_findingAt_2 σ k i) := by
  have r_k := kw_rng k
  have r_i := kw_rng i
  have q_0 : (0 : Int32).toInt = 0 := rfl
  have q_1 : (1 : Int32).toInt = 1 := rfl
  have q_2 : (2 : Int32).toInt = 2 := rfl
  refine kw_Met.of (by decide) rfl tX3_findingAt (Nat.le_of_ble_eq_true rfl) ?_
  show kw_AW l 4 kw_E0 KX mX3_findingAt (p_X3_findingAt_2 σ k i) 0 [(0, .ref 2), (1, .int k), (2, .int i)] [] σ
  refine kw_aload_n (pc := 0) (i := 0) (k := 0) (n := 0) rfl rfl rfl ?_
  refine kw_iload_n (pc := 1) (i := 1) (k := 1) (n := 1) rfl rfl rfl ?_
  refine kw_callV (pc := 2) (i := 2) (Y := mX3_isMissing) (a := 2) (As := [.int k]) (st := []) kw_hE rfl rfl lvX3_38 arX3_isMissing (c_X3_isMissing_2 l σ hI k ) (by decide) (by decide) rfl (fun v S2 p1 => ?_)
  obtain ⟨e6, z5, rfl, f3, f4⟩ := p1
  rw [e6]
  have r_z5 := kw_rng z5
  show kw_AW l 4 kw_E0 KX mX3_findingAt (p_X3_findingAt_2 σ k i) 5 [(0, .ref 2), (1, .int k), (2, .int i)] [.int z5] σ
  refine kw_if_eq (pc := 5) (i := 3) (tgt := 10) rfl rfl (fun c7 => ?_) (fun c7 => ?_)
  · refine kw_aload_n (pc := 10) (i := 6) (k := 0) (n := 0) rfl rfl rfl ?_
    refine kw_iload_n (pc := 11) (i := 7) (k := 1) (n := 1) rfl rfl rfl ?_
    refine kw_iload_n (pc := 12) (i := 8) (k := 2) (n := 2) rfl rfl rfl ?_
    refine kw_iconst (pc := 13) (i := 9) (v := 1) rfl rfl ?_
    refine kw_callV (pc := 14) (i := 10) (Y := mX3_hasPlaces) (a := 2) (As := [.int k, .int i, .int 1]) (st := []) kw_hE rfl rfl lvX3_41 arX3_hasPlaces (c_X3_hasPlaces_2 l σ hI k i 1 ) (by decide) (by decide) rfl (fun v S9 p8 => ?_)
    obtain ⟨e13, z12, rfl, f10, f11⟩ := p8
    rw [e13]
    have r_z12 := kw_rng z12
    show kw_AW l 4 kw_E0 KX mX3_findingAt (p_X3_findingAt_2 σ k i) 17 [(0, .ref 2), (1, .int k), (2, .int i)] [.int z12] σ
    refine kw_if_eq (pc := 17) (i := 11) (tgt := 24) rfl rfl (fun c14 => ?_) (fun c14 => ?_)
    · refine kw_iconst (pc := 24) (i := 14) (v := 2) rfl rfl ?_
      exact kw_ireturn (pc := 25) (i := 15) (ty := .int) rfl rfl rfl ⟨rfl, _, rfl⟩
    · refine kw_iconst (pc := 20) (i := 12) (v := 0) rfl rfl ?_
      refine kw_goto (pc := 21) (i := 13) (tgt := 25) rfl rfl ?_
      exact kw_ireturn (pc := 25) (i := 15) (ty := .int) rfl rfl rfl ⟨rfl, _, rfl⟩
  · refine kw_iconst (pc := 8) (i := 4) (v := 1) rfl rfl ?_
    exact kw_ireturn (pc := 9) (i := 5) (ty := .int) rfl rfl rfl ⟨rfl, _, rfl⟩
abbrev p_X3_fold_2 (σ : kw_S) (h : Int64) : Option Value → kw_S → Prop := fun v σ' => σ' = σ ∧ ∃ r : Int64, v = some (.long r)
set_option maxRecDepth 100000 in
set_option maxHeartbeats 4000000 in
theorem c_X3_fold_2 (l : Launch) (σ : kw_S) (hI : kw_I bX σ) (h : Int64) : kw_Met l 1 KX mX3_fold [.ref 2, .long h] σ (p_X3_fold_2 σ h) := by
  have q_0 : (0 : Int32).toInt = 0 := rfl
  have q_4 : (4 : Int32).toInt = 4 := rfl
  refine kw_Met.of (by decide) rfl tX3_fold (Nat.le_of_ble_eq_true rfl) ?_
  show kw_AW l 1 kw_E0 KX mX3_fold (p_X3_fold_2 σ h) 0 [(0, .ref 2), (1, .long h)] [] σ
  refine kw_lload_n (pc := 0) (i := 0) (k := 1) (n := 1) rfl rfl rfl ?_
  refine kw_lstore_n (pc := 1) (i := 1) (n := 3) (lv' := [(3, .long h), (0, .ref 2), (1, .long h)]) rfl rfl (by decide) rfl ?_
  refine kw_iconst (pc := 2) (i := 2) (v := 0) rfl rfl ?_
  refine kw_istore (pc := 3) (i := 3) (n := 5) (lv' := [(5, .int 0), (3, .long h), (0, .ref 2), (1, .long h)]) rfl (by decide) rfl ?_
  have L3 : ∀ (n7 : Nat) (x1 : Int32) (x2 : Int64), 0 ≤ x1.toInt → (10 - x1.toInt).toNat < n7 → kw_AW l 1 kw_E0 KX mX3_fold (p_X3_fold_2 σ h) 5 [(5, .int x1), (3, .long x2), (0, .ref 2), (1, .long h)] [] σ := by
    intro n7
    induction n7 with
    | zero => intro x1 x2 v5 m6; exact absurd m6 (Nat.not_lt_zero _)
    | succ n7 ih4 =>
      intro x1 x2 v5 m6
      have r_x1 := kw_rng x1
      refine kw_iload (pc := 5) (i := 4) (k := 0) (n := 5) rfl rfl ?_
      refine kw_aload_n (pc := 7) (i := 5) (k := 2) (n := 0) rfl rfl rfl ?_
      refine kw_get (pc := 8) (i := 6) (v := .ref 15) rfl rfl rfl lkX3_20 (fun _ => rfl) ?_
      refine kw_alen (pc := 11) (i := 7) (n := 4) (v := 4) rfl rfl rfl ?_
      refine kw_icmp_ge (pc := 12) (i := 8) (tgt := 75) rfl rfl (fun c8 => ?_) (fun c8 => ?_)
      · refine kw_lload_n (pc := 75) (i := 43) (k := 1) (n := 3) rfl rfl rfl ?_
        exact kw_lreturn (pc := 76) (i := 44) rfl rfl ⟨rfl, _, rfl⟩
      · refine kw_ldc2 (pc := 15) (i := 9) (v := 31) rfl ckX3_51 ?_
        refine kw_lload_n (pc := 18) (i := 10) (k := 1) (n := 3) rfl rfl rfl ?_
        refine kw_lmul (pc := 19) (i := 11) rfl (fun z9 e_z9 => ?_)
        refine kw_aload_n (pc := 20) (i := 12) (k := 2) (n := 0) rfl rfl rfl ?_
        refine kw_get (pc := 21) (i := 13) (v := .ref 15) rfl rfl rfl lkX3_20 (fun _ => rfl) ?_
        refine kw_iload (pc := 24) (i := 14) (k := 0) (n := 5) rfl rfl ?_
        refine kw_iald (pc := 26) (i := 15) (n := 4) rfl rfl (by omega) (by omega) (fun z10 e_z10 => ?_)
        have t_z10 := congrArg Int32.toInt e_z10
        have b_z10 : -1 ≤ z10.toInt ∧ z10.toInt ≤ 60 := by rw [e_z10]; exact hI 15 _
        refine kw_i2l (pc := 27) (i := 16) rfl (fun z11 e_z11 t_z11 => ?_)
        refine kw_ladd (pc := 28) (i := 17) rfl (fun z12 e_z12 => ?_)
        refine kw_lstore_n (pc := 29) (i := 18) (n := 3) (lv' := [(3, .long z12), (5, .int x1), (0, .ref 2), (1, .long h)]) rfl rfl (by decide) rfl ?_
        refine kw_iconst (pc := 30) (i := 19) (v := 0) rfl rfl ?_
        refine kw_istore (pc := 31) (i := 20) (n := 6) (lv' := [(6, .int 0), (3, .long z12), (5, .int x1), (0, .ref 2), (1, .long h)]) rfl (by decide) rfl ?_
        have L15 : ∀ (n19 : Nat) (x13 : Int32) (x14 : Int64), 0 ≤ x13.toInt → (61 - x13.toInt).toNat < n19 → kw_AW l 1 kw_E0 KX mX3_fold (p_X3_fold_2 σ h) 33 [(6, .int x13), (3, .long x14), (5, .int x1), (0, .ref 2), (1, .long h)] [] σ := by
          intro n19
          induction n19 with
          | zero => intro x13 x14 v17 m18; exact absurd m18 (Nat.not_lt_zero _)
          | succ n19 ih16 =>
            intro x13 x14 v17 m18
            have r_x13 := kw_rng x13
            refine kw_iload (pc := 33) (i := 21) (k := 0) (n := 6) rfl rfl ?_
            refine kw_aload_n (pc := 35) (i := 22) (k := 3) (n := 0) rfl rfl rfl ?_
            refine kw_get (pc := 36) (i := 23) (v := .ref 15) rfl rfl rfl lkX3_20 (fun _ => rfl) ?_
            refine kw_iload (pc := 39) (i := 24) (k := 2) (n := 5) rfl rfl ?_
            refine kw_iald (pc := 41) (i := 25) (n := 4) rfl rfl (by omega) (by omega) (fun z20 e_z20 => ?_)
            have t_z20 := congrArg Int32.toInt e_z20
            have b_z20 : -1 ≤ z20.toInt ∧ z20.toInt ≤ 60 := by rw [e_z20]; exact hI 15 _
            refine kw_icmp_ge (pc := 42) (i := 26) (tgt := 69) rfl rfl (fun c21 => ?_) (fun c21 => ?_)
            · refine kw_iinc' (pc := 69) (i := 41) (k := 2) (fun z => [(5, .int z), (6, .int x13), (3, .long x14), (0, .ref 2), (1, .long h)]) rfl rfl (by decide) rfl (fun _ => rfl) (fun z22 e_z22 t_z22 => ?_)
              refine kw_goto (pc := 72) (i := 42) (tgt := 5) rfl rfl ?_
              refine kw_sub (lv' := [(5, .int z22), (3, .long x14), (0, .ref 2), (1, .long h)]) [0, 2, 3, 4] rfl ?_
              exact ih4 z22 x14 (by omega) (by omega)
            · refine kw_ldc2 (pc := 45) (i := 27) (v := 31) rfl ckX3_51 ?_
              refine kw_lload_n (pc := 48) (i := 28) (k := 1) (n := 3) rfl rfl rfl ?_
              refine kw_lmul (pc := 49) (i := 29) rfl (fun z23 e_z23 => ?_)
              refine kw_aload_n (pc := 50) (i := 30) (k := 3) (n := 0) rfl rfl rfl ?_
              refine kw_get (pc := 51) (i := 31) (v := .ref 14) rfl rfl rfl lkX3_17 (fun _ => rfl) ?_
              refine kw_iload (pc := 54) (i := 32) (k := 2) (n := 5) rfl rfl ?_
              have w24 : x1.toInt = 0 ∨ x1.toInt = 1 ∨ x1.toInt = 2 ∨ x1.toInt = 3 := by omega
              rcases w24 with w24 | w24 | w24 | w24
              · have e_w24 : x1.toNatClampNeg = 0 := by have := kw_clampI (x := x1) (by omega); omega
                refine kw_aald (pc := 56) (i := 33) (b := 35) rfl rfl (by decide) (by omega) (by rw [e_w24]; rfl) ?_
                refine kw_iload (pc := 57) (i := 34) (k := 0) (n := 6) rfl rfl ?_
                refine kw_iald (pc := 59) (i := 35) (n := 60) rfl rfl (by omega) (by omega) (fun z25 e_z25 => ?_)
                have t_z25 := congrArg Int32.toInt e_z25
                have r_z25 := kw_rng z25
                refine kw_i2l (pc := 60) (i := 36) rfl (fun z26 e_z26 t_z26 => ?_)
                refine kw_ladd (pc := 61) (i := 37) rfl (fun z27 e_z27 => ?_)
                refine kw_lstore_n (pc := 62) (i := 38) (n := 3) (lv' := [(3, .long z27), (6, .int x13), (5, .int x1), (0, .ref 2), (1, .long h)]) rfl rfl (by decide) rfl ?_
                refine kw_iinc' (pc := 63) (i := 39) (k := 1) (fun z => [(6, .int z), (3, .long z27), (5, .int x1), (0, .ref 2), (1, .long h)]) rfl rfl (by decide) rfl (fun _ => rfl) (fun z28 e_z28 t_z28 => ?_)
                refine kw_goto (pc := 66) (i := 40) (tgt := 33) rfl rfl ?_
                refine kw_sub (lv' := [(6, .int z28), (3, .long z27), (5, .int x1), (0, .ref 2), (1, .long h)]) [0, 1, 2, 3, 4] rfl ?_
                exact ih16 z28 z27 (by omega) (by omega)
              · have e_w24 : x1.toNatClampNeg = 1 := by have := kw_clampI (x := x1) (by omega); omega
                refine kw_aald (pc := 56) (i := 33) (b := 36) rfl rfl (by decide) (by omega) (by rw [e_w24]; rfl) ?_
                refine kw_iload (pc := 57) (i := 34) (k := 0) (n := 6) rfl rfl ?_
                refine kw_iald (pc := 59) (i := 35) (n := 60) rfl rfl (by omega) (by omega) (fun z29 e_z29 => ?_)
                have t_z29 := congrArg Int32.toInt e_z29
                have r_z29 := kw_rng z29
                refine kw_i2l (pc := 60) (i := 36) rfl (fun z30 e_z30 t_z30 => ?_)
                refine kw_ladd (pc := 61) (i := 37) rfl (fun z31 e_z31 => ?_)
                refine kw_lstore_n (pc := 62) (i := 38) (n := 3) (lv' := [(3, .long z31), (6, .int x13), (5, .int x1), (0, .ref 2), (1, .long h)]) rfl rfl (by decide) rfl ?_
                refine kw_iinc' (pc := 63) (i := 39) (k := 1) (fun z => [(6, .int z), (3, .long z31), (5, .int x1), (0, .ref 2), (1, .long h)]) rfl rfl (by decide) rfl (fun _ => rfl) (fun z32 e_z32 t_z32 => ?_)
                refine kw_goto (pc := 66) (i := 40) (tgt := 33) rfl rfl ?_
                refine kw_sub (lv' := [(6, .int z32), (3, .long z31), (5, .int x1), (0, .ref 2), (1, .long h)]) [0, 1, 2, 3, 4] rfl ?_
                exact ih16 z32 z31 (by omega) (by omega)
              · have e_w24 : x1.toNatClampNeg = 2 := by have := kw_clampI (x := x1) (by omega); omega
                refine kw_aald (pc := 56) (i := 33) (b := 37) rfl rfl (by decide) (by omega) (by rw [e_w24]; rfl) ?_
                refine kw_iload (pc := 57) (i := 34) (k := 0) (n := 6) rfl rfl ?_
                refine kw_iald (pc := 59) (i := 35) (n := 60) rfl rfl (by omega) (by omega) (fun z33 e_z33 => ?_)
                have t_z33 := congrArg Int32.toInt e_z33
                have r_z33 := kw_rng z33
                refine kw_i2l (pc := 60) (i := 36) rfl (fun z34 e_z34 t_z34 => ?_)
                refine kw_ladd (pc := 61) (i := 37) rfl (fun z35 e_z35 => ?_)
                refine kw_lstore_n (pc := 62) (i := 38) (n := 3) (lv' := [(3, .long z35), (6, .int x13), (5, .int x1), (0, .ref 2), (1, .long h)]) rfl rfl (by decide) rfl ?_
                refine kw_iinc' (pc := 63) (i := 39) (k := 1) (fun z => [(6, .int z), (3, .long z35), (5, .int x1), (0, .ref 2), (1, .long h)]) rfl rfl (by decide) rfl (fun _ => rfl) (fun z36 e_z36 t_z36 => ?_)
                refine kw_goto (pc := 66) (i := 40) (tgt := 33) rfl rfl ?_
                refine kw_sub (lv' := [(6, .int z36), (3, .long z35), (5, .int x1), (0, .ref 2), (1, .long h)]) [0, 1, 2, 3, 4] rfl ?_
                exact ih16 z36 z35 (by omega) (by omega)
              · have e_w24 : x1.toNatClampNeg = 3 := by have := kw_clampI (x := x1) (by omega); omega
                refine kw_aald (pc := 56) (i := 33) (b := 38) rfl rfl (by decide) (by omega) (by rw [e_w24]; rfl) ?_
                refine kw_iload (pc := 57) (i := 34) (k := 0) (n := 6) rfl rfl ?_
                refine kw_iald (pc := 59) (i := 35) (n := 60) rfl rfl (by omega) (by omega) (fun z37 e_z37 => ?_)
                have t_z37 := congrArg Int32.toInt e_z37
                have r_z37 := kw_rng z37
                refine kw_i2l (pc := 60) (i := 36) rfl (fun z38 e_z38 t_z38 => ?_)
                refine kw_ladd (pc := 61) (i := 37) rfl (fun z39 e_z39 => ?_)
                refine kw_lstore_n (pc := 62) (i := 38) (n := 3) (lv' := [(3, .long z39), (6, .int x13), (5, .int x1), (0, .ref 2), (1, .long h)]) rfl rfl (by decide) rfl ?_
                refine kw_iinc' (pc := 63) (i := 39) (k := 1) (fun z => [(6, .int z), (3, .long z39), (5, .int x1), (0, .ref 2), (1, .long h)]) rfl rfl (by decide) rfl (fun _ => rfl) (fun z40 e_z40 t_z40 => ?_)
                refine kw_goto (pc := 66) (i := 40) (tgt := 33) rfl rfl ?_
                refine kw_sub (lv' := [(6, .int z40), (3, .long z39), (5, .int x1), (0, .ref 2), (1, .long h)]) [0, 1, 2, 3, 4] rfl ?_
                exact ih16 z40 z39 (by omega) (by omega)
        exact L15 _ 0 z12 (by omega) (Nat.lt_succ_self _)
  exact L3 _ 0 h (by omega) (Nat.lt_succ_self _)
abbrev p_X3_valueAt_5 (σ : kw_S) (k : Int32) (i : Int32) : Option Value → kw_S → Prop := fun v σ' => σ' = σ ∧ ∃ r : Int32, v = some (.int r)
set_option maxRecDepth 100000 in
set_option maxHeartbeats 4000000 in
theorem c_X3_valueAt_5 (l : Launch) (σ : kw_S) (hI : kw_I bX σ) (k : Int32) (i : Int32) : kw_Met l 3 KX mX3_valueAt [.ref 5, .int k, .int i] σ (p_X3_valueAt_5 σ k i) := by
  have r_k := kw_rng k
  have r_i := kw_rng i
  have q_1 : (1 : Int32).toInt = 1 := rfl
  have q_1000 : (1000 : Int32).toInt = 1000 := rfl
  refine kw_Met.of (by decide) rfl tX3_valueAt (Nat.le_of_ble_eq_true rfl) ?_
  show kw_AW l 3 kw_E0 KX mX3_valueAt (p_X3_valueAt_5 σ k i) 0 [(0, .ref 5), (1, .int k), (2, .int i)] [] σ
  refine kw_aload_n (pc := 0) (i := 0) (k := 0) (n := 0) rfl rfl rfl ?_
  refine kw_iload_n (pc := 1) (i := 1) (k := 1) (n := 1) rfl rfl rfl ?_
  refine kw_iload_n (pc := 2) (i := 2) (k := 2) (n := 2) rfl rfl rfl ?_
  refine kw_iconst (pc := 3) (i := 3) (v := 1) rfl rfl ?_
  refine kw_callV (pc := 4) (i := 4) (Y := mX3_hasPlaces) (a := 5) (As := [.int k, .int i, .int 1]) (st := []) kw_hE rfl rfl lvX3_41 arX3_hasPlaces (c_X3_hasPlaces_5 l σ hI k i 1 ) (by decide) (by decide) rfl (fun v S2 p1 => ?_)
  obtain ⟨e6, z5, rfl, f3, f4⟩ := p1
  rw [e6]
  have r_z5 := kw_rng z5
  show kw_AW l 3 kw_E0 KX mX3_valueAt (p_X3_valueAt_5 σ k i) 7 [(0, .ref 5), (1, .int k), (2, .int i)] [.int z5] σ
  refine kw_if_eq (pc := 7) (i := 5) (tgt := 21) rfl rfl (fun c7 => ?_) (fun c7 => ?_)
  · refine kw_sipush (pc := 21) (i := 13) (v := 1000) rfl rfl ?_
    exact kw_ireturn (pc := 24) (i := 14) (ty := .int) rfl rfl rfl ⟨rfl, _, rfl⟩
  · refine kw_aload_n (pc := 10) (i := 6) (k := 0) (n := 0) rfl rfl rfl ?_
    refine kw_get (pc := 11) (i := 7) (v := .ref 20) rfl rfl rfl lkX3_17 (fun _ => rfl) ?_
    refine kw_iload_n (pc := 14) (i := 8) (k := 1) (n := 1) rfl rfl rfl ?_
    have w8 : k.toInt = 0 ∨ k.toInt = 1 ∨ k.toInt = 2 := by omega
    rcases w8 with w8 | w8 | w8
    · have e_w8 : k.toNatClampNeg = 0 := by have := kw_clampI (x := k) (by omega); omega
      refine kw_aald (pc := 15) (i := 9) (b := 49) rfl rfl (by decide) (by omega) (by rw [e_w8]; rfl) ?_
      refine kw_iload_n (pc := 16) (i := 10) (k := 2) (n := 2) rfl rfl rfl ?_
      refine kw_iald (pc := 17) (i := 11) (n := 40) rfl rfl (by omega) (by omega) (fun z9 e_z9 => ?_)
      have t_z9 := congrArg Int32.toInt e_z9
      have r_z9 := kw_rng z9
      refine kw_goto (pc := 18) (i := 12) (tgt := 24) rfl rfl ?_
      exact kw_ireturn (pc := 24) (i := 14) (ty := .int) rfl rfl rfl ⟨rfl, _, rfl⟩
    · have e_w8 : k.toNatClampNeg = 1 := by have := kw_clampI (x := k) (by omega); omega
      refine kw_aald (pc := 15) (i := 9) (b := 50) rfl rfl (by decide) (by omega) (by rw [e_w8]; rfl) ?_
      refine kw_iload_n (pc := 16) (i := 10) (k := 2) (n := 2) rfl rfl rfl ?_
      refine kw_iald (pc := 17) (i := 11) (n := 40) rfl rfl (by omega) (by omega) (fun z10 e_z10 => ?_)
      have t_z10 := congrArg Int32.toInt e_z10
      have r_z10 := kw_rng z10
      refine kw_goto (pc := 18) (i := 12) (tgt := 24) rfl rfl ?_
      exact kw_ireturn (pc := 24) (i := 14) (ty := .int) rfl rfl rfl ⟨rfl, _, rfl⟩
    · have e_w8 : k.toNatClampNeg = 2 := by have := kw_clampI (x := k) (by omega); omega
      refine kw_aald (pc := 15) (i := 9) (b := 51) rfl rfl (by decide) (by omega) (by rw [e_w8]; rfl) ?_
      refine kw_iload_n (pc := 16) (i := 10) (k := 2) (n := 2) rfl rfl rfl ?_
      refine kw_iald (pc := 17) (i := 11) (n := 40) rfl rfl (by omega) (by omega) (fun z11 e_z11 => ?_)
      have t_z11 := congrArg Int32.toInt e_z11
      have r_z11 := kw_rng z11
      refine kw_goto (pc := 18) (i := 12) (tgt := 24) rfl rfl ?_
      exact kw_ireturn (pc := 24) (i := 14) (ty := .int) rfl rfl rfl ⟨rfl, _, rfl⟩
abbrev p_X3_change_5 (σ : kw_S) (k : Int32) (i : Int32) (v : Int32) : Option Value → kw_S → Prop := fun v σ' => (kw_I bX σ' ∧ kw_F [49, 50, 51] σ σ') ∧ v = none
set_option maxRecDepth 100000 in
set_option maxHeartbeats 4000000 in
theorem c_X3_change_5 (l : Launch) (σ : kw_S) (hI : kw_I bX σ) (k : Int32) (i : Int32) (v : Int32) : kw_Met l 3 KX mX3_change [.ref 5, .int k, .int i, .int v] σ (p_X3_change_5 σ k i v) := by
  have r_k := kw_rng k
  have r_i := kw_rng i
  have r_v := kw_rng v
  have hF0 : kw_F [49, 50, 51] σ σ := kw_F.rf
  have q_1 : (1 : Int32).toInt = 1 := rfl
  refine kw_Met.of (by decide) rfl tX3_change (Nat.le_of_ble_eq_true rfl) ?_
  show kw_AW l 3 kw_E0 KX mX3_change (p_X3_change_5 σ k i v) 0 [(0, .ref 5), (1, .int k), (2, .int i), (3, .int v)] [] σ
  refine kw_aload_n (pc := 0) (i := 0) (k := 0) (n := 0) rfl rfl rfl ?_
  refine kw_iload_n (pc := 1) (i := 1) (k := 1) (n := 1) rfl rfl rfl ?_
  refine kw_iload_n (pc := 2) (i := 2) (k := 2) (n := 2) rfl rfl rfl ?_
  refine kw_iconst (pc := 3) (i := 3) (v := 1) rfl rfl ?_
  refine kw_callV (pc := 4) (i := 4) (Y := mX3_hasPlaces) (a := 5) (As := [.int k, .int i, .int 1]) (st := []) kw_hE rfl rfl lvX3_41 arX3_hasPlaces (c_X3_hasPlaces_5 l σ hI k i 1 ) (by decide) (by decide) rfl (fun v S2 p1 => ?_)
  obtain ⟨e6, z5, rfl, f3, f4⟩ := p1
  rw [e6]
  have r_z5 := kw_rng z5
  show kw_AW l 3 kw_E0 KX mX3_change (p_X3_change_5 σ k i v) 7 [(0, .ref 5), (1, .int k), (2, .int i), (3, .int v)] [.int z5] σ
  refine kw_if_eq (pc := 7) (i := 5) (tgt := 19) rfl rfl (fun c7 => ?_) (fun c7 => ?_)
  · exact kw_return (pc := 19) (i := 13) rfl rfl ⟨⟨hI, hF0⟩, rfl⟩
  · refine kw_aload_n (pc := 10) (i := 6) (k := 0) (n := 0) rfl rfl rfl ?_
    refine kw_get (pc := 11) (i := 7) (v := .ref 20) rfl rfl rfl lkX3_17 (fun _ => rfl) ?_
    refine kw_iload_n (pc := 14) (i := 8) (k := 1) (n := 1) rfl rfl rfl ?_
    have w8 : k.toInt = 0 ∨ k.toInt = 1 ∨ k.toInt = 2 := by omega
    rcases w8 with w8 | w8 | w8
    · have e_w8 : k.toNatClampNeg = 0 := by have := kw_clampI (x := k) (by omega); omega
      refine kw_aald (pc := 15) (i := 9) (b := 49) rfl rfl (by decide) (by omega) (by rw [e_w8]; rfl) ?_
      refine kw_iload_n (pc := 16) (i := 10) (k := 2) (n := 2) rfl rfl rfl ?_
      refine kw_iload_n (pc := 17) (i := 11) (k := 3) (n := 3) rfl rfl rfl ?_
      refine kw_iast (pc := 18) (i := 12) (n := 40) rfl rfl (by omega) (by omega) ?_
      have I9 : kw_I bX (kw_ui σ 49 i.toNatClampNeg v) := kw_I_ui hI (kw_rng v).1 (Int.le_of_lt_add_one (kw_rng v).2)
      have F10 : kw_F [49, 50, 51] σ (kw_ui σ 49 i.toNatClampNeg v) := kw_F_ui hF0 (by decide)
      exact kw_return (pc := 19) (i := 13) rfl rfl ⟨⟨I9, F10⟩, rfl⟩
    · have e_w8 : k.toNatClampNeg = 1 := by have := kw_clampI (x := k) (by omega); omega
      refine kw_aald (pc := 15) (i := 9) (b := 50) rfl rfl (by decide) (by omega) (by rw [e_w8]; rfl) ?_
      refine kw_iload_n (pc := 16) (i := 10) (k := 2) (n := 2) rfl rfl rfl ?_
      refine kw_iload_n (pc := 17) (i := 11) (k := 3) (n := 3) rfl rfl rfl ?_
      refine kw_iast (pc := 18) (i := 12) (n := 40) rfl rfl (by omega) (by omega) ?_
      have I11 : kw_I bX (kw_ui σ 50 i.toNatClampNeg v) := kw_I_ui hI (kw_rng v).1 (Int.le_of_lt_add_one (kw_rng v).2)
      have F12 : kw_F [49, 50, 51] σ (kw_ui σ 50 i.toNatClampNeg v) := kw_F_ui hF0 (by decide)
      exact kw_return (pc := 19) (i := 13) rfl rfl ⟨⟨I11, F12⟩, rfl⟩
    · have e_w8 : k.toNatClampNeg = 2 := by have := kw_clampI (x := k) (by omega); omega
      refine kw_aald (pc := 15) (i := 9) (b := 51) rfl rfl (by decide) (by omega) (by rw [e_w8]; rfl) ?_
      refine kw_iload_n (pc := 16) (i := 10) (k := 2) (n := 2) rfl rfl rfl ?_
      refine kw_iload_n (pc := 17) (i := 11) (k := 3) (n := 3) rfl rfl rfl ?_
      refine kw_iast (pc := 18) (i := 12) (n := 40) rfl rfl (by omega) (by omega) ?_
      have I13 : kw_I bX (kw_ui σ 51 i.toNatClampNeg v) := kw_I_ui hI (kw_rng v).1 (Int.le_of_lt_add_one (kw_rng v).2)
      have F14 : kw_F [49, 50, 51] σ (kw_ui σ 51 i.toNatClampNeg v) := kw_F_ui hF0 (by decide)
      exact kw_return (pc := 19) (i := 13) rfl rfl ⟨⟨I13, F14⟩, rfl⟩
abbrev p_X3_make_5 (σ : kw_S) (k : Int32) (n : Int32) (v : Int32) : Option Value → kw_S → Prop := fun v σ' => (kw_I bX σ' ∧ kw_F [21, 49, 50, 51] σ σ') ∧ v = none
set_option maxRecDepth 100000 in
set_option maxHeartbeats 4000000 in
theorem c_X3_make_5 (l : Launch) (σ : kw_S) (hI : kw_I bX σ) (k : Int32) (n : Int32) (v : Int32) : kw_Met l 2 KX mX3_make [.ref 5, .int k, .int n, .int v] σ (p_X3_make_5 σ k n v) := by
  have r_k := kw_rng k
  have r_n := kw_rng n
  have r_v := kw_rng v
  have hF0 : kw_F [21, 49, 50, 51] σ σ := kw_F.rf
  refine kw_Met.of (by decide) rfl tX3_make (Nat.le_of_ble_eq_true rfl) ?_
  show kw_AW l 2 kw_E0 KX mX3_make (p_X3_make_5 σ k n v) 0 [(0, .ref 5), (1, .int k), (2, .int n), (3, .int v)] [] σ
  refine kw_aload_n (pc := 0) (i := 0) (k := 0) (n := 0) rfl rfl rfl ?_
  refine kw_iload_n (pc := 1) (i := 1) (k := 1) (n := 1) rfl rfl rfl ?_
  refine kw_callV (pc := 2) (i := 2) (Y := mX3_has) (a := 5) (As := [.int k]) (st := []) kw_hE rfl rfl lvX3_34 arX3_has (c_X3_has_5 l σ hI k ) (by decide) (by decide) rfl (fun v S2 p1 => ?_)
  obtain ⟨e7, z6, rfl, f3, f4, f5⟩ := p1
  rw [e7]
  have r_z6 := kw_rng z6
  show kw_AW l 2 kw_E0 KX mX3_make (p_X3_make_5 σ k n v) 5 [(0, .ref 5), (1, .int k), (2, .int n), (3, .int v)] [.int z6] σ
  refine kw_if_eq (pc := 5) (i := 3) (tgt := 20) rfl rfl (fun c8 => ?_) (fun c8 => ?_)
  · exact kw_return (pc := 20) (i := 10) rfl rfl ⟨⟨hI, hF0⟩, rfl⟩
  · refine kw_iload_n (pc := 8) (i := 4) (k := 2) (n := 2) rfl rfl rfl ?_
    refine kw_if_lt (pc := 9) (i := 5) (tgt := 20) rfl rfl (fun c9 => ?_) (fun c9 => ?_)
    · exact kw_return (pc := 20) (i := 10) rfl rfl ⟨⟨hI, hF0⟩, rfl⟩
    · refine kw_iload_n (pc := 12) (i := 6) (k := 2) (n := 2) rfl rfl rfl ?_
      refine kw_aload_n (pc := 13) (i := 7) (k := 0) (n := 0) rfl rfl rfl ?_
      refine kw_get (pc := 14) (i := 8) (v := .int (σ.1 5 0)) rfl rfl rfl lkX3_9 (fun _ => rfl) ?_
      have b10 : 40 ≤ (σ.1 5 0).toInt ∧ (σ.1 5 0).toInt ≤ 40 := hI 5 0
      refine kw_icmp_le (pc := 17) (i := 9) (tgt := 21) rfl rfl (fun c11 => ?_) (fun c11 => ?_)
      · refine kw_aload_n (pc := 21) (i := 11) (k := 0) (n := 0) rfl rfl rfl ?_
        refine kw_get (pc := 22) (i := 12) (v := .ref 21) rfl rfl rfl lkX3_20 (fun _ => rfl) ?_
        refine kw_iload_n (pc := 25) (i := 13) (k := 1) (n := 1) rfl rfl rfl ?_
        refine kw_iload_n (pc := 26) (i := 14) (k := 2) (n := 2) rfl rfl rfl ?_
        refine kw_iast (pc := 27) (i := 15) (n := 3) rfl rfl (by omega) (by omega) ?_
        have I12 : kw_I bX (kw_ui σ 21 k.toNatClampNeg n) := kw_I_ui hI (show -1 ≤ n.toInt by omega) (show n.toInt ≤ 40 by omega)
        have F13 : kw_F [21, 49, 50, 51] σ (kw_ui σ 21 k.toNatClampNeg n) := kw_F_ui hF0 (by decide)
        refine kw_aload_n (pc := 28) (i := 16) (k := 0) (n := 0) rfl rfl rfl ?_
        refine kw_get (pc := 29) (i := 17) (v := .ref 20) rfl rfl rfl lkX3_17 (fun _ => rfl) ?_
        refine kw_iload_n (pc := 32) (i := 18) (k := 1) (n := 1) rfl rfl rfl ?_
        have w14 : k.toInt = 0 ∨ k.toInt = 1 ∨ k.toInt = 2 := by omega
        rcases w14 with w14 | w14 | w14
        · have e_w14 : k.toNatClampNeg = 0 := by have := kw_clampI (x := k) (by omega); omega
          refine kw_aald (pc := 33) (i := 19) (b := 49) rfl rfl (by decide) (by omega) (by rw [e_w14]; rfl) ?_
          refine kw_iload_n (pc := 34) (i := 20) (k := 3) (n := 3) rfl rfl rfl ?_
          refine kw_callS (pc := 35) (i := 21) (Y := mJ7_fill_53178) (As := [.ref 49, .int v]) (st := []) kw_hE rfl lsX3_24 arJ7_fill_53178 (c_J7_fill_53178_49 l (kw_ui σ 21 k.toNatClampNeg n) I12 v ) (by decide) (by decide) rfl (fun v S16 p15 => ?_)
          obtain ⟨⟨I17, F18⟩, rfl⟩ := p15
          have F19 : kw_F [21, 49, 50, 51] σ S16 := kw_F.tr F13 F18 (by decide)
          show kw_AW l 2 kw_E0 KX mX3_make (p_X3_make_5 σ k n v) 38 [(0, .ref 5), (1, .int k), (2, .int n), (3, .int v)] [] S16
          exact kw_return (pc := 38) (i := 22) rfl rfl ⟨⟨I17, F19⟩, rfl⟩
        · have e_w14 : k.toNatClampNeg = 1 := by have := kw_clampI (x := k) (by omega); omega
          refine kw_aald (pc := 33) (i := 19) (b := 50) rfl rfl (by decide) (by omega) (by rw [e_w14]; rfl) ?_
          refine kw_iload_n (pc := 34) (i := 20) (k := 3) (n := 3) rfl rfl rfl ?_
          refine kw_callS (pc := 35) (i := 21) (Y := mJ7_fill_53178) (As := [.ref 50, .int v]) (st := []) kw_hE rfl lsX3_24 arJ7_fill_53178 (c_J7_fill_53178_50 l (kw_ui σ 21 k.toNatClampNeg n) I12 v ) (by decide) (by decide) rfl (fun v S21 p20 => ?_)
          obtain ⟨⟨I22, F23⟩, rfl⟩ := p20
          have F24 : kw_F [21, 49, 50, 51] σ S21 := kw_F.tr F13 F23 (by decide)
          show kw_AW l 2 kw_E0 KX mX3_make (p_X3_make_5 σ k n v) 38 [(0, .ref 5), (1, .int k), (2, .int n), (3, .int v)] [] S21
          exact kw_return (pc := 38) (i := 22) rfl rfl ⟨⟨I22, F24⟩, rfl⟩
        · have e_w14 : k.toNatClampNeg = 2 := by have := kw_clampI (x := k) (by omega); omega
          refine kw_aald (pc := 33) (i := 19) (b := 51) rfl rfl (by decide) (by omega) (by rw [e_w14]; rfl) ?_
          refine kw_iload_n (pc := 34) (i := 20) (k := 3) (n := 3) rfl rfl rfl ?_
          refine kw_callS (pc := 35) (i := 21) (Y := mJ7_fill_53178) (As := [.ref 51, .int v]) (st := []) kw_hE rfl lsX3_24 arJ7_fill_53178 (c_J7_fill_53178_51 l (kw_ui σ 21 k.toNatClampNeg n) I12 v ) (by decide) (by decide) rfl (fun v S26 p25 => ?_)
          obtain ⟨⟨I27, F28⟩, rfl⟩ := p25
          have F29 : kw_F [21, 49, 50, 51] σ S26 := kw_F.tr F13 F28 (by decide)
          show kw_AW l 2 kw_E0 KX mX3_make (p_X3_make_5 σ k n v) 38 [(0, .ref 5), (1, .int k), (2, .int n), (3, .int v)] [] S26
          exact kw_return (pc := 38) (i := 22) rfl rfl ⟨⟨I27, F29⟩, rfl⟩
      · exact kw_return (pc := 20) (i := 10) rfl rfl ⟨⟨hI, hF0⟩, rfl⟩
abbrev p_X3_drop_5 (σ : kw_S) (k : Int32) : Option Value → kw_S → Prop := fun v σ' => (kw_I bX σ' ∧ kw_F [21] σ σ') ∧ v = none
set_option maxRecDepth 100000 in
set_option maxHeartbeats 4000000 in
theorem c_X3_drop_5 (l : Launch) (σ : kw_S) (hI : kw_I bX σ) (k : Int32) : kw_Met l 2 KX mX3_drop [.ref 5, .int k] σ (p_X3_drop_5 σ k) := by
  have r_k := kw_rng k
  have hF0 : kw_F [21] σ σ := kw_F.rf
  have q_m1 : (-1 : Int32).toInt = -1 := rfl
  refine kw_Met.of (by decide) rfl tX3_drop (Nat.le_of_ble_eq_true rfl) ?_
  show kw_AW l 2 kw_E0 KX mX3_drop (p_X3_drop_5 σ k) 0 [(0, .ref 5), (1, .int k)] [] σ
  refine kw_aload_n (pc := 0) (i := 0) (k := 0) (n := 0) rfl rfl rfl ?_
  refine kw_iload_n (pc := 1) (i := 1) (k := 1) (n := 1) rfl rfl rfl ?_
  refine kw_callV (pc := 2) (i := 2) (Y := mX3_has) (a := 5) (As := [.int k]) (st := []) kw_hE rfl rfl lvX3_34 arX3_has (c_X3_has_5 l σ hI k ) (by decide) (by decide) rfl (fun v S2 p1 => ?_)
  obtain ⟨e7, z6, rfl, f3, f4, f5⟩ := p1
  rw [e7]
  have r_z6 := kw_rng z6
  show kw_AW l 2 kw_E0 KX mX3_drop (p_X3_drop_5 σ k) 5 [(0, .ref 5), (1, .int k)] [.int z6] σ
  refine kw_if_eq (pc := 5) (i := 3) (tgt := 15) rfl rfl (fun c8 => ?_) (fun c8 => ?_)
  · exact kw_return (pc := 15) (i := 9) rfl rfl ⟨⟨hI, hF0⟩, rfl⟩
  · refine kw_aload_n (pc := 8) (i := 4) (k := 0) (n := 0) rfl rfl rfl ?_
    refine kw_get (pc := 9) (i := 5) (v := .ref 21) rfl rfl rfl lkX3_20 (fun _ => rfl) ?_
    refine kw_iload_n (pc := 12) (i := 6) (k := 1) (n := 1) rfl rfl rfl ?_
    refine kw_iconst (pc := 13) (i := 7) (v := (-1)) rfl rfl ?_
    refine kw_iast (pc := 14) (i := 8) (n := 3) rfl rfl (by omega) (by omega) ?_
    have I9 : kw_I bX (kw_ui σ 21 k.toNatClampNeg (-1)) := kw_I_ui hI (show -1 ≤ ((-1) : Int32).toInt by omega) (show ((-1) : Int32).toInt ≤ 40 by omega)
    have F10 : kw_F [21] σ (kw_ui σ 21 k.toNatClampNeg (-1)) := kw_F_ui hF0 (by decide)
    exact kw_return (pc := 15) (i := 9) rfl rfl ⟨⟨I9, F10⟩, rfl⟩
end
section
abbrev p_X3_move_1 (σ : kw_S) (k : Int32) (i : Int32) (t : Int32) (j : Int32) (n : Int32) : Option Value → kw_S → Prop := fun v σ' => (kw_I bX σ' ∧ kw_F [29, 30, 31, 32, 33, 34] σ σ') ∧ v = none
set_option maxRecDepth 100000 in
set_option maxHeartbeats 4000000 in
theorem c_X3_move_1 (l : Launch) (σ : kw_S) (hI : kw_I bX σ) (k : Int32) (i : Int32) (t : Int32) (j : Int32) (n : Int32) : kw_Met l 3 KX mX3_move [.ref 1, .int k, .int i, .int t, .int j, .int n] σ (p_X3_move_1 σ k i t j n) := by
  have r_k := kw_rng k
  have r_i := kw_rng i
  have r_t := kw_rng t
  have r_j := kw_rng j
  have r_n := kw_rng n
  have hF0 : kw_F [29, 30, 31, 32, 33, 34] σ σ := kw_F.rf
  refine kw_Met.of (by decide) rfl tX3_move (Nat.le_of_ble_eq_true rfl) ?_
  show kw_AW l 3 kw_E0 KX mX3_move (p_X3_move_1 σ k i t j n) 0 [(0, .ref 1), (1, .int k), (2, .int i), (3, .int t), (4, .int j), (5, .int n)] [] σ
  refine kw_aload_n (pc := 0) (i := 0) (k := 0) (n := 0) rfl rfl rfl ?_
  refine kw_iload_n (pc := 1) (i := 1) (k := 1) (n := 1) rfl rfl rfl ?_
  refine kw_iload_n (pc := 2) (i := 2) (k := 2) (n := 2) rfl rfl rfl ?_
  refine kw_iload (pc := 3) (i := 3) (k := 5) (n := 5) rfl rfl ?_
  refine kw_callV (pc := 5) (i := 4) (Y := mX3_hasPlaces) (a := 1) (As := [.int k, .int i, .int n]) (st := []) kw_hE rfl rfl lvX3_41 arX3_hasPlaces (c_X3_hasPlaces_1 l σ hI k i n ) (by decide) (by decide) rfl (fun v S2 p1 => ?_)
  obtain ⟨e6, z5, rfl, f3, f4⟩ := p1
  rw [e6]
  have r_z5 := kw_rng z5
  show kw_AW l 3 kw_E0 KX mX3_move (p_X3_move_1 σ k i t j n) 8 [(0, .ref 1), (1, .int k), (2, .int i), (3, .int t), (4, .int j), (5, .int n)] [.int z5] σ
  refine kw_if_eq (pc := 8) (i := 5) (tgt := 43) rfl rfl (fun c7 => ?_) (fun c7 => ?_)
  · exact kw_return (pc := 43) (i := 24) rfl rfl ⟨⟨hI, hF0⟩, rfl⟩
  · refine kw_aload_n (pc := 11) (i := 6) (k := 0) (n := 0) rfl rfl rfl ?_
    refine kw_iload_n (pc := 12) (i := 7) (k := 3) (n := 3) rfl rfl rfl ?_
    refine kw_iload (pc := 13) (i := 8) (k := 4) (n := 4) rfl rfl ?_
    refine kw_iload (pc := 15) (i := 9) (k := 5) (n := 5) rfl rfl ?_
    refine kw_callV (pc := 17) (i := 10) (Y := mX3_hasPlaces) (a := 1) (As := [.int t, .int j, .int n]) (st := []) kw_hE rfl rfl lvX3_41 arX3_hasPlaces (c_X3_hasPlaces_1 l σ hI t j n ) (by decide) (by decide) rfl (fun v S9 p8 => ?_)
    obtain ⟨e13, z12, rfl, f10, f11⟩ := p8
    rw [e13]
    have r_z12 := kw_rng z12
    show kw_AW l 3 kw_E0 KX mX3_move (p_X3_move_1 σ k i t j n) 20 [(0, .ref 1), (1, .int k), (2, .int i), (3, .int t), (4, .int j), (5, .int n)] [.int z12] σ
    refine kw_if_eq (pc := 20) (i := 11) (tgt := 43) rfl rfl (fun c14 => ?_) (fun c14 => ?_)
    · exact kw_return (pc := 43) (i := 24) rfl rfl ⟨⟨hI, hF0⟩, rfl⟩
    · refine kw_aload_n (pc := 23) (i := 12) (k := 0) (n := 0) rfl rfl rfl ?_
      refine kw_get (pc := 24) (i := 13) (v := .ref 12) rfl rfl rfl lkX3_17 (fun _ => rfl) ?_
      refine kw_iload_n (pc := 27) (i := 14) (k := 1) (n := 1) rfl rfl rfl ?_
      have w15 : k.toInt = 0 ∨ k.toInt = 1 ∨ k.toInt = 2 ∨ k.toInt = 3 ∨ k.toInt = 4 ∨ k.toInt = 5 := by omega
      rcases w15 with w15 | w15 | w15 | w15 | w15 | w15
      · have e_w15 : k.toNatClampNeg = 0 := by have := kw_clampI (x := k) (by omega); omega
        refine kw_aald (pc := 28) (i := 15) (b := 29) rfl rfl (by decide) (by omega) (by rw [e_w15]; rfl) ?_
        refine kw_iload_n (pc := 29) (i := 16) (k := 2) (n := 2) rfl rfl rfl ?_
        refine kw_aload_n (pc := 30) (i := 17) (k := 0) (n := 0) rfl rfl rfl ?_
        refine kw_get (pc := 31) (i := 18) (v := .ref 12) rfl rfl rfl lkX3_17 (fun _ => rfl) ?_
        refine kw_iload_n (pc := 34) (i := 19) (k := 3) (n := 3) rfl rfl rfl ?_
        have w16 : t.toInt = 0 ∨ t.toInt = 1 ∨ t.toInt = 2 ∨ t.toInt = 3 ∨ t.toInt = 4 ∨ t.toInt = 5 := by omega
        rcases w16 with w16 | w16 | w16 | w16 | w16 | w16
        · have e_w16 : t.toNatClampNeg = 0 := by have := kw_clampI (x := t) (by omega); omega
          refine kw_aald (pc := 35) (i := 20) (b := 29) rfl rfl (by decide) (by omega) (by rw [e_w16]; rfl) ?_
          refine kw_iload (pc := 36) (i := 21) (k := 4) (n := 4) rfl rfl ?_
          refine kw_iload (pc := 38) (i := 22) (k := 5) (n := 5) rfl rfl ?_
          refine kw_copy (pc := 40) (i := 23) (n := 40) (m_ := 40) rfl laX3_45 rfl rfl (by omega) (by omega) (by omega) (by omega) (by omega) (by decide) (by decide) ?_
          have I17 : kw_I bX (kw_ua σ 29 (va_cpy (σ.1 29) (σ.1 29) (i.toNatClampNeg) (j.toNatClampNeg) (n.toNatClampNeg))) := kw_I_ua hI (fun j => ⟨(kw_rng _).1, Int.le_of_lt_add_one (kw_rng _).2⟩)
          have F18 : kw_F [29, 30, 31, 32, 33, 34] σ (kw_ua σ 29 (va_cpy (σ.1 29) (σ.1 29) (i.toNatClampNeg) (j.toNatClampNeg) (n.toNatClampNeg))) := kw_F_ua hF0 (by decide)
          exact kw_return (pc := 43) (i := 24) rfl rfl ⟨⟨I17, F18⟩, rfl⟩
        · have e_w16 : t.toNatClampNeg = 1 := by have := kw_clampI (x := t) (by omega); omega
          refine kw_aald (pc := 35) (i := 20) (b := 30) rfl rfl (by decide) (by omega) (by rw [e_w16]; rfl) ?_
          refine kw_iload (pc := 36) (i := 21) (k := 4) (n := 4) rfl rfl ?_
          refine kw_iload (pc := 38) (i := 22) (k := 5) (n := 5) rfl rfl ?_
          refine kw_copy (pc := 40) (i := 23) (n := 40) (m_ := 40) rfl laX3_45 rfl rfl (by omega) (by omega) (by omega) (by omega) (by omega) (by decide) (by decide) ?_
          have I19 : kw_I bX (kw_ua σ 30 (va_cpy (σ.1 29) (σ.1 30) (i.toNatClampNeg) (j.toNatClampNeg) (n.toNatClampNeg))) := kw_I_ua hI (fun j => ⟨(kw_rng _).1, Int.le_of_lt_add_one (kw_rng _).2⟩)
          have F20 : kw_F [29, 30, 31, 32, 33, 34] σ (kw_ua σ 30 (va_cpy (σ.1 29) (σ.1 30) (i.toNatClampNeg) (j.toNatClampNeg) (n.toNatClampNeg))) := kw_F_ua hF0 (by decide)
          exact kw_return (pc := 43) (i := 24) rfl rfl ⟨⟨I19, F20⟩, rfl⟩
        · have e_w16 : t.toNatClampNeg = 2 := by have := kw_clampI (x := t) (by omega); omega
          refine kw_aald (pc := 35) (i := 20) (b := 31) rfl rfl (by decide) (by omega) (by rw [e_w16]; rfl) ?_
          refine kw_iload (pc := 36) (i := 21) (k := 4) (n := 4) rfl rfl ?_
          refine kw_iload (pc := 38) (i := 22) (k := 5) (n := 5) rfl rfl ?_
          refine kw_copy (pc := 40) (i := 23) (n := 40) (m_ := 40) rfl laX3_45 rfl rfl (by omega) (by omega) (by omega) (by omega) (by omega) (by decide) (by decide) ?_
          have I21 : kw_I bX (kw_ua σ 31 (va_cpy (σ.1 29) (σ.1 31) (i.toNatClampNeg) (j.toNatClampNeg) (n.toNatClampNeg))) := kw_I_ua hI (fun j => ⟨(kw_rng _).1, Int.le_of_lt_add_one (kw_rng _).2⟩)
          have F22 : kw_F [29, 30, 31, 32, 33, 34] σ (kw_ua σ 31 (va_cpy (σ.1 29) (σ.1 31) (i.toNatClampNeg) (j.toNatClampNeg) (n.toNatClampNeg))) := kw_F_ua hF0 (by decide)
          exact kw_return (pc := 43) (i := 24) rfl rfl ⟨⟨I21, F22⟩, rfl⟩
        · have e_w16 : t.toNatClampNeg = 3 := by have := kw_clampI (x := t) (by omega); omega
          refine kw_aald (pc := 35) (i := 20) (b := 32) rfl rfl (by decide) (by omega) (by rw [e_w16]; rfl) ?_
          refine kw_iload (pc := 36) (i := 21) (k := 4) (n := 4) rfl rfl ?_
          refine kw_iload (pc := 38) (i := 22) (k := 5) (n := 5) rfl rfl ?_
          refine kw_copy (pc := 40) (i := 23) (n := 40) (m_ := 40) rfl laX3_45 rfl rfl (by omega) (by omega) (by omega) (by omega) (by omega) (by decide) (by decide) ?_
          have I23 : kw_I bX (kw_ua σ 32 (va_cpy (σ.1 29) (σ.1 32) (i.toNatClampNeg) (j.toNatClampNeg) (n.toNatClampNeg))) := kw_I_ua hI (fun j => ⟨(kw_rng _).1, Int.le_of_lt_add_one (kw_rng _).2⟩)
          have F24 : kw_F [29, 30, 31, 32, 33, 34] σ (kw_ua σ 32 (va_cpy (σ.1 29) (σ.1 32) (i.toNatClampNeg) (j.toNatClampNeg) (n.toNatClampNeg))) := kw_F_ua hF0 (by decide)
          exact kw_return (pc := 43) (i := 24) rfl rfl ⟨⟨I23, F24⟩, rfl⟩
        · have e_w16 : t.toNatClampNeg = 4 := by have := kw_clampI (x := t) (by omega); omega
          refine kw_aald (pc := 35) (i := 20) (b := 33) rfl rfl (by decide) (by omega) (by rw [e_w16]; rfl) ?_
          refine kw_iload (pc := 36) (i := 21) (k := 4) (n := 4) rfl rfl ?_
          refine kw_iload (pc := 38) (i := 22) (k := 5) (n := 5) rfl rfl ?_
          refine kw_copy (pc := 40) (i := 23) (n := 40) (m_ := 40) rfl laX3_45 rfl rfl (by omega) (by omega) (by omega) (by omega) (by omega) (by decide) (by decide) ?_
          have I25 : kw_I bX (kw_ua σ 33 (va_cpy (σ.1 29) (σ.1 33) (i.toNatClampNeg) (j.toNatClampNeg) (n.toNatClampNeg))) := kw_I_ua hI (fun j => ⟨(kw_rng _).1, Int.le_of_lt_add_one (kw_rng _).2⟩)
          have F26 : kw_F [29, 30, 31, 32, 33, 34] σ (kw_ua σ 33 (va_cpy (σ.1 29) (σ.1 33) (i.toNatClampNeg) (j.toNatClampNeg) (n.toNatClampNeg))) := kw_F_ua hF0 (by decide)
          exact kw_return (pc := 43) (i := 24) rfl rfl ⟨⟨I25, F26⟩, rfl⟩
        · have e_w16 : t.toNatClampNeg = 5 := by have := kw_clampI (x := t) (by omega); omega
          refine kw_aald (pc := 35) (i := 20) (b := 34) rfl rfl (by decide) (by omega) (by rw [e_w16]; rfl) ?_
          refine kw_iload (pc := 36) (i := 21) (k := 4) (n := 4) rfl rfl ?_
          refine kw_iload (pc := 38) (i := 22) (k := 5) (n := 5) rfl rfl ?_
          refine kw_copy (pc := 40) (i := 23) (n := 40) (m_ := 40) rfl laX3_45 rfl rfl (by omega) (by omega) (by omega) (by omega) (by omega) (by decide) (by decide) ?_
          have I27 : kw_I bX (kw_ua σ 34 (va_cpy (σ.1 29) (σ.1 34) (i.toNatClampNeg) (j.toNatClampNeg) (n.toNatClampNeg))) := kw_I_ua hI (fun j => ⟨(kw_rng _).1, Int.le_of_lt_add_one (kw_rng _).2⟩)
          have F28 : kw_F [29, 30, 31, 32, 33, 34] σ (kw_ua σ 34 (va_cpy (σ.1 29) (σ.1 34) (i.toNatClampNeg) (j.toNatClampNeg) (n.toNatClampNeg))) := kw_F_ua hF0 (by decide)
          exact kw_return (pc := 43) (i := 24) rfl rfl ⟨⟨I27, F28⟩, rfl⟩
      · have e_w15 : k.toNatClampNeg = 1 := by have := kw_clampI (x := k) (by omega); omega
        refine kw_aald (pc := 28) (i := 15) (b := 30) rfl rfl (by decide) (by omega) (by rw [e_w15]; rfl) ?_
        refine kw_iload_n (pc := 29) (i := 16) (k := 2) (n := 2) rfl rfl rfl ?_
        refine kw_aload_n (pc := 30) (i := 17) (k := 0) (n := 0) rfl rfl rfl ?_
        refine kw_get (pc := 31) (i := 18) (v := .ref 12) rfl rfl rfl lkX3_17 (fun _ => rfl) ?_
        refine kw_iload_n (pc := 34) (i := 19) (k := 3) (n := 3) rfl rfl rfl ?_
        have w29 : t.toInt = 0 ∨ t.toInt = 1 ∨ t.toInt = 2 ∨ t.toInt = 3 ∨ t.toInt = 4 ∨ t.toInt = 5 := by omega
        rcases w29 with w29 | w29 | w29 | w29 | w29 | w29
        · have e_w29 : t.toNatClampNeg = 0 := by have := kw_clampI (x := t) (by omega); omega
          refine kw_aald (pc := 35) (i := 20) (b := 29) rfl rfl (by decide) (by omega) (by rw [e_w29]; rfl) ?_
          refine kw_iload (pc := 36) (i := 21) (k := 4) (n := 4) rfl rfl ?_
          refine kw_iload (pc := 38) (i := 22) (k := 5) (n := 5) rfl rfl ?_
          refine kw_copy (pc := 40) (i := 23) (n := 40) (m_ := 40) rfl laX3_45 rfl rfl (by omega) (by omega) (by omega) (by omega) (by omega) (by decide) (by decide) ?_
          have I30 : kw_I bX (kw_ua σ 29 (va_cpy (σ.1 30) (σ.1 29) (i.toNatClampNeg) (j.toNatClampNeg) (n.toNatClampNeg))) := kw_I_ua hI (fun j => ⟨(kw_rng _).1, Int.le_of_lt_add_one (kw_rng _).2⟩)
          have F31 : kw_F [29, 30, 31, 32, 33, 34] σ (kw_ua σ 29 (va_cpy (σ.1 30) (σ.1 29) (i.toNatClampNeg) (j.toNatClampNeg) (n.toNatClampNeg))) := kw_F_ua hF0 (by decide)
          exact kw_return (pc := 43) (i := 24) rfl rfl ⟨⟨I30, F31⟩, rfl⟩
        · have e_w29 : t.toNatClampNeg = 1 := by have := kw_clampI (x := t) (by omega); omega
          refine kw_aald (pc := 35) (i := 20) (b := 30) rfl rfl (by decide) (by omega) (by rw [e_w29]; rfl) ?_
          refine kw_iload (pc := 36) (i := 21) (k := 4) (n := 4) rfl rfl ?_
          refine kw_iload (pc := 38) (i := 22) (k := 5) (n := 5) rfl rfl ?_
          refine kw_copy (pc := 40) (i := 23) (n := 40) (m_ := 40) rfl laX3_45 rfl rfl (by omega) (by omega) (by omega) (by omega) (by omega) (by decide) (by decide) ?_
          have I32 : kw_I bX (kw_ua σ 30 (va_cpy (σ.1 30) (σ.1 30) (i.toNatClampNeg) (j.toNatClampNeg) (n.toNatClampNeg))) := kw_I_ua hI (fun j => ⟨(kw_rng _).1, Int.le_of_lt_add_one (kw_rng _).2⟩)
          have F33 : kw_F [29, 30, 31, 32, 33, 34] σ (kw_ua σ 30 (va_cpy (σ.1 30) (σ.1 30) (i.toNatClampNeg) (j.toNatClampNeg) (n.toNatClampNeg))) := kw_F_ua hF0 (by decide)
          exact kw_return (pc := 43) (i := 24) rfl rfl ⟨⟨I32, F33⟩, rfl⟩
        · have e_w29 : t.toNatClampNeg = 2 := by have := kw_clampI (x := t) (by omega); omega
          refine kw_aald (pc := 35) (i := 20) (b := 31) rfl rfl (by decide) (by omega) (by rw [e_w29]; rfl) ?_
          refine kw_iload (pc := 36) (i := 21) (k := 4) (n := 4) rfl rfl ?_
          refine kw_iload (pc := 38) (i := 22) (k := 5) (n := 5) rfl rfl ?_
          refine kw_copy (pc := 40) (i := 23) (n := 40) (m_ := 40) rfl laX3_45 rfl rfl (by omega) (by omega) (by omega) (by omega) (by omega) (by decide) (by decide) ?_
          have I34 : kw_I bX (kw_ua σ 31 (va_cpy (σ.1 30) (σ.1 31) (i.toNatClampNeg) (j.toNatClampNeg) (n.toNatClampNeg))) := kw_I_ua hI (fun j => ⟨(kw_rng _).1, Int.le_of_lt_add_one (kw_rng _).2⟩)
          have F35 : kw_F [29, 30, 31, 32, 33, 34] σ (kw_ua σ 31 (va_cpy (σ.1 30) (σ.1 31) (i.toNatClampNeg) (j.toNatClampNeg) (n.toNatClampNeg))) := kw_F_ua hF0 (by decide)
          exact kw_return (pc := 43) (i := 24) rfl rfl ⟨⟨I34, F35⟩, rfl⟩
        · have e_w29 : t.toNatClampNeg = 3 := by have := kw_clampI (x := t) (by omega); omega
          refine kw_aald (pc := 35) (i := 20) (b := 32) rfl rfl (by decide) (by omega) (by rw [e_w29]; rfl) ?_
          refine kw_iload (pc := 36) (i := 21) (k := 4) (n := 4) rfl rfl ?_
          refine kw_iload (pc := 38) (i := 22) (k := 5) (n := 5) rfl rfl ?_
          refine kw_copy (pc := 40) (i := 23) (n := 40) (m_ := 40) rfl laX3_45 rfl rfl (by omega) (by omega) (by omega) (by omega) (by omega) (by decide) (by decide) ?_
          have I36 : kw_I bX (kw_ua σ 32 (va_cpy (σ.1 30) (σ.1 32) (i.toNatClampNeg) (j.toNatClampNeg) (n.toNatClampNeg))) := kw_I_ua hI (fun j => ⟨(kw_rng _).1, Int.le_of_lt_add_one (kw_rng _).2⟩)
          have F37 : kw_F [29, 30, 31, 32, 33, 34] σ (kw_ua σ 32 (va_cpy (σ.1 30) (σ.1 32) (i.toNatClampNeg) (j.toNatClampNeg) (n.toNatClampNeg))) := kw_F_ua hF0 (by decide)
          exact kw_return (pc := 43) (i := 24) rfl rfl ⟨⟨I36, F37⟩, rfl⟩
        · have e_w29 : t.toNatClampNeg = 4 := by have := kw_clampI (x := t) (by omega); omega
          refine kw_aald (pc := 35) (i := 20) (b := 33) rfl rfl (by decide) (by omega) (by rw [e_w29]; rfl) ?_
          refine kw_iload (pc := 36) (i := 21) (k := 4) (n := 4) rfl rfl ?_
          refine kw_iload (pc := 38) (i := 22) (k := 5) (n := 5) rfl rfl ?_
          refine kw_copy (pc := 40) (i := 23) (n := 40) (m_ := 40) rfl laX3_45 rfl rfl (by omega) (by omega) (by omega) (by omega) (by omega) (by decide) (by decide) ?_
          have I38 : kw_I bX (kw_ua σ 33 (va_cpy (σ.1 30) (σ.1 33) (i.toNatClampNeg) (j.toNatClampNeg) (n.toNatClampNeg))) := kw_I_ua hI (fun j => ⟨(kw_rng _).1, Int.le_of_lt_add_one (kw_rng _).2⟩)
          have F39 : kw_F [29, 30, 31, 32, 33, 34] σ (kw_ua σ 33 (va_cpy (σ.1 30) (σ.1 33) (i.toNatClampNeg) (j.toNatClampNeg) (n.toNatClampNeg))) := kw_F_ua hF0 (by decide)
          exact kw_return (pc := 43) (i := 24) rfl rfl ⟨⟨I38, F39⟩, rfl⟩
        · have e_w29 : t.toNatClampNeg = 5 := by have := kw_clampI (x := t) (by omega); omega
          refine kw_aald (pc := 35) (i := 20) (b := 34) rfl rfl (by decide) (by omega) (by rw [e_w29]; rfl) ?_
          refine kw_iload (pc := 36) (i := 21) (k := 4) (n := 4) rfl rfl ?_
          refine kw_iload (pc := 38) (i := 22) (k := 5) (n := 5) rfl rfl ?_
          refine kw_copy (pc := 40) (i := 23) (n := 40) (m_ := 40) rfl laX3_45 rfl rfl (by omega) (by omega) (by omega) (by omega) (by omega) (by decide) (by decide) ?_
          have I40 : kw_I bX (kw_ua σ 34 (va_cpy (σ.1 30) (σ.1 34) (i.toNatClampNeg) (j.toNatClampNeg) (n.toNatClampNeg))) := kw_I_ua hI (fun j => ⟨(kw_rng _).1, Int.le_of_lt_add_one (kw_rng _).2⟩)
          have F41 : kw_F [29, 30, 31, 32, 33, 34] σ (kw_ua σ 34 (va_cpy (σ.1 30) (σ.1 34) (i.toNatClampNeg) (j.toNatClampNeg) (n.toNatClampNeg))) := kw_F_ua hF0 (by decide)
          exact kw_return (pc := 43) (i := 24) rfl rfl ⟨⟨I40, F41⟩, rfl⟩
      · have e_w15 : k.toNatClampNeg = 2 := by have := kw_clampI (x := k) (by omega); omega
        refine kw_aald (pc := 28) (i := 15) (b := 31) rfl rfl (by decide) (by omega) (by rw [e_w15]; rfl) ?_
        refine kw_iload_n (pc := 29) (i := 16) (k := 2) (n := 2) rfl rfl rfl ?_
        refine kw_aload_n (pc := 30) (i := 17) (k := 0) (n := 0) rfl rfl rfl ?_
        refine kw_get (pc := 31) (i := 18) (v := .ref 12) rfl rfl rfl lkX3_17 (fun _ => rfl) ?_
        refine kw_iload_n (pc := 34) (i := 19) (k := 3) (n := 3) rfl rfl rfl ?_
        have w42 : t.toInt = 0 ∨ t.toInt = 1 ∨ t.toInt = 2 ∨ t.toInt = 3 ∨ t.toInt = 4 ∨ t.toInt = 5 := by omega
        rcases w42 with w42 | w42 | w42 | w42 | w42 | w42
        · have e_w42 : t.toNatClampNeg = 0 := by have := kw_clampI (x := t) (by omega); omega
          refine kw_aald (pc := 35) (i := 20) (b := 29) rfl rfl (by decide) (by omega) (by rw [e_w42]; rfl) ?_
          refine kw_iload (pc := 36) (i := 21) (k := 4) (n := 4) rfl rfl ?_
          refine kw_iload (pc := 38) (i := 22) (k := 5) (n := 5) rfl rfl ?_
          refine kw_copy (pc := 40) (i := 23) (n := 40) (m_ := 40) rfl laX3_45 rfl rfl (by omega) (by omega) (by omega) (by omega) (by omega) (by decide) (by decide) ?_
          have I43 : kw_I bX (kw_ua σ 29 (va_cpy (σ.1 31) (σ.1 29) (i.toNatClampNeg) (j.toNatClampNeg) (n.toNatClampNeg))) := kw_I_ua hI (fun j => ⟨(kw_rng _).1, Int.le_of_lt_add_one (kw_rng _).2⟩)
          have F44 : kw_F [29, 30, 31, 32, 33, 34] σ (kw_ua σ 29 (va_cpy (σ.1 31) (σ.1 29) (i.toNatClampNeg) (j.toNatClampNeg) (n.toNatClampNeg))) := kw_F_ua hF0 (by decide)
          exact kw_return (pc := 43) (i := 24) rfl rfl ⟨⟨I43, F44⟩, rfl⟩
        · have e_w42 : t.toNatClampNeg = 1 := by have := kw_clampI (x := t) (by omega); omega
          refine kw_aald (pc := 35) (i := 20) (b := 30) rfl rfl (by decide) (by omega) (by rw [e_w42]; rfl) ?_
          refine kw_iload (pc := 36) (i := 21) (k := 4) (n := 4) rfl rfl ?_
          refine kw_iload (pc := 38) (i := 22) (k := 5) (n := 5) rfl rfl ?_
          refine kw_copy (pc := 40) (i := 23) (n := 40) (m_ := 40) rfl laX3_45 rfl rfl (by omega) (by omega) (by omega) (by omega) (by omega) (by decide) (by decide) ?_
          have I45 : kw_I bX (kw_ua σ 30 (va_cpy (σ.1 31) (σ.1 30) (i.toNatClampNeg) (j.toNatClampNeg) (n.toNatClampNeg))) := kw_I_ua hI (fun j => ⟨(kw_rng _).1, Int.le_of_lt_add_one (kw_rng _).2⟩)
          have F46 : kw_F [29, 30, 31, 32, 33, 34] σ (kw_ua σ 30 (va_cpy (σ.1 31) (σ.1 30) (i.toNatClampNeg) (j.toNatClampNeg) (n.toNatClampNeg))) := kw_F_ua hF0 (by decide)
          exact kw_return (pc := 43) (i := 24) rfl rfl ⟨⟨I45, F46⟩, rfl⟩
        · have e_w42 : t.toNatClampNeg = 2 := by have := kw_clampI (x := t) (by omega); omega
          refine kw_aald (pc := 35) (i := 20) (b := 31) rfl rfl (by decide) (by omega) (by rw [e_w42]; rfl) ?_
          refine kw_iload (pc := 36) (i := 21) (k := 4) (n := 4) rfl rfl ?_
          refine kw_iload (pc := 38) (i := 22) (k := 5) (n := 5) rfl rfl ?_
          refine kw_copy (pc := 40) (i := 23) (n := 40) (m_ := 40) rfl laX3_45 rfl rfl (by omega) (by omega) (by omega) (by omega) (by omega) (by decide) (by decide) ?_
          have I47 : kw_I bX (kw_ua σ 31 (va_cpy (σ.1 31) (σ.1 31) (i.toNatClampNeg) (j.toNatClampNeg) (n.toNatClampNeg))) := kw_I_ua hI (fun j => ⟨(kw_rng _).1, Int.le_of_lt_add_one (kw_rng _).2⟩)
          have F48 : kw_F [29, 30, 31, 32, 33, 34] σ (kw_ua σ 31 (va_cpy (σ.1 31) (σ.1 31) (i.toNatClampNeg) (j.toNatClampNeg) (n.toNatClampNeg))) := kw_F_ua hF0 (by decide)
          exact kw_return (pc := 43) (i := 24) rfl rfl ⟨⟨I47, F48⟩, rfl⟩
        · have e_w42 : t.toNatClampNeg = 3 := by have := kw_clampI (x := t) (by omega); omega
          refine kw_aald (pc := 35) (i := 20) (b := 32) rfl rfl (by decide) (by omega) (by rw [e_w42]; rfl) ?_
          refine kw_iload (pc := 36) (i := 21) (k := 4) (n := 4) rfl rfl ?_
          refine kw_iload (pc := 38) (i := 22) (k := 5) (n := 5) rfl rfl ?_
          refine kw_copy (pc := 40) (i := 23) (n := 40) (m_ := 40) rfl laX3_45 rfl rfl (by omega) (by omega) (by omega) (by omega) (by omega) (by decide) (by decide) ?_
          have I49 : kw_I bX (kw_ua σ 32 (va_cpy (σ.1 31) (σ.1 32) (i.toNatClampNeg) (j.toNatClampNeg) (n.toNatClampNeg))) := kw_I_ua hI (fun j => ⟨(kw_rng _).1, Int.le_of_lt_add_one (kw_rng _).2⟩)
          have F50 : kw_F [29, 30, 31, 32, 33, 34] σ (kw_ua σ 32 (va_cpy (σ.1 31) (σ.1 32) (i.toNatClampNeg) (j.toNatClampNeg) (n.toNatClampNeg))) := kw_F_ua hF0 (by decide)
          exact kw_return (pc := 43) (i := 24) rfl rfl ⟨⟨I49, F50⟩, rfl⟩
        · have e_w42 : t.toNatClampNeg = 4 := by have := kw_clampI (x := t) (by omega); omega
          refine kw_aald (pc := 35) (i := 20) (b := 33) rfl rfl (by decide) (by omega) (by rw [e_w42]; rfl) ?_
          refine kw_iload (pc := 36) (i := 21) (k := 4) (n := 4) rfl rfl ?_
          refine kw_iload (pc := 38) (i := 22) (k := 5) (n := 5) rfl rfl ?_
          refine kw_copy (pc := 40) (i := 23) (n := 40) (m_ := 40) rfl laX3_45 rfl rfl (by omega) (by omega) (by omega) (by omega) (by omega) (by decide) (by decide) ?_
          have I51 : kw_I bX (kw_ua σ 33 (va_cpy (σ.1 31) (σ.1 33) (i.toNatClampNeg) (j.toNatClampNeg) (n.toNatClampNeg))) := kw_I_ua hI (fun j => ⟨(kw_rng _).1, Int.le_of_lt_add_one (kw_rng _).2⟩)
          have F52 : kw_F [29, 30, 31, 32, 33, 34] σ (kw_ua σ 33 (va_cpy (σ.1 31) (σ.1 33) (i.toNatClampNeg) (j.toNatClampNeg) (n.toNatClampNeg))) := kw_F_ua hF0 (by decide)
          exact kw_return (pc := 43) (i := 24) rfl rfl ⟨⟨I51, F52⟩, rfl⟩
        · have e_w42 : t.toNatClampNeg = 5 := by have := kw_clampI (x := t) (by omega); omega
          refine kw_aald (pc := 35) (i := 20) (b := 34) rfl rfl (by decide) (by omega) (by rw [e_w42]; rfl) ?_
          refine kw_iload (pc := 36) (i := 21) (k := 4) (n := 4) rfl rfl ?_
          refine kw_iload (pc := 38) (i := 22) (k := 5) (n := 5) rfl rfl ?_
          refine kw_copy (pc := 40) (i := 23) (n := 40) (m_ := 40) rfl laX3_45 rfl rfl (by omega) (by omega) (by omega) (by omega) (by omega) (by decide) (by decide) ?_
          have I53 : kw_I bX (kw_ua σ 34 (va_cpy (σ.1 31) (σ.1 34) (i.toNatClampNeg) (j.toNatClampNeg) (n.toNatClampNeg))) := kw_I_ua hI (fun j => ⟨(kw_rng _).1, Int.le_of_lt_add_one (kw_rng _).2⟩)
          have F54 : kw_F [29, 30, 31, 32, 33, 34] σ (kw_ua σ 34 (va_cpy (σ.1 31) (σ.1 34) (i.toNatClampNeg) (j.toNatClampNeg) (n.toNatClampNeg))) := kw_F_ua hF0 (by decide)
          exact kw_return (pc := 43) (i := 24) rfl rfl ⟨⟨I53, F54⟩, rfl⟩
      · have e_w15 : k.toNatClampNeg = 3 := by have := kw_clampI (x := k) (by omega); omega
        refine kw_aald (pc := 28) (i := 15) (b := 32) rfl rfl (by decide) (by omega) (by rw [e_w15]; rfl) ?_
        refine kw_iload_n (pc := 29) (i := 16) (k := 2) (n := 2) rfl rfl rfl ?_
        refine kw_aload_n (pc := 30) (i := 17) (k := 0) (n := 0) rfl rfl rfl ?_
        refine kw_get (pc := 31) (i := 18) (v := .ref 12) rfl rfl rfl lkX3_17 (fun _ => rfl) ?_
        refine kw_iload_n (pc := 34) (i := 19) (k := 3) (n := 3) rfl rfl rfl ?_
        have w55 : t.toInt = 0 ∨ t.toInt = 1 ∨ t.toInt = 2 ∨ t.toInt = 3 ∨ t.toInt = 4 ∨ t.toInt = 5 := by omega
        rcases w55 with w55 | w55 | w55 | w55 | w55 | w55
        · have e_w55 : t.toNatClampNeg = 0 := by have := kw_clampI (x := t) (by omega); omega
          refine kw_aald (pc := 35) (i := 20) (b := 29) rfl rfl (by decide) (by omega) (by rw [e_w55]; rfl) ?_
          refine kw_iload (pc := 36) (i := 21) (k := 4) (n := 4) rfl rfl ?_
          refine kw_iload (pc := 38) (i := 22) (k := 5) (n := 5) rfl rfl ?_
          refine kw_copy (pc := 40) (i := 23) (n := 40) (m_ := 40) rfl laX3_45 rfl rfl (by omega) (by omega) (by omega) (by omega) (by omega) (by decide) (by decide) ?_
          have I56 : kw_I bX (kw_ua σ 29 (va_cpy (σ.1 32) (σ.1 29) (i.toNatClampNeg) (j.toNatClampNeg) (n.toNatClampNeg))) := kw_I_ua hI (fun j => ⟨(kw_rng _).1, Int.le_of_lt_add_one (kw_rng _).2⟩)
          have F57 : kw_F [29, 30, 31, 32, 33, 34] σ (kw_ua σ 29 (va_cpy (σ.1 32) (σ.1 29) (i.toNatClampNeg) (j.toNatClampNeg) (n.toNatClampNeg))) := kw_F_ua hF0 (by decide)
          exact kw_return (pc := 43) (i := 24) rfl rfl ⟨⟨I56, F57⟩, rfl⟩
        · have e_w55 : t.toNatClampNeg = 1 := by have := kw_clampI (x := t) (by omega); omega
          refine kw_aald (pc := 35) (i := 20) (b := 30) rfl rfl (by decide) (by omega) (by rw [e_w55]; rfl) ?_
          refine kw_iload (pc := 36) (i := 21) (k := 4) (n := 4) rfl rfl ?_
          refine kw_iload (pc := 38) (i := 22) (k := 5) (n := 5) rfl rfl ?_
          refine kw_copy (pc := 40) (i := 23) (n := 40) (m_ := 40) rfl laX3_45 rfl rfl (by omega) (by omega) (by omega) (by omega) (by omega) (by decide) (by decide) ?_
          have I58 : kw_I bX (kw_ua σ 30 (va_cpy (σ.1 32) (σ.1 30) (i.toNatClampNeg) (j.toNatClampNeg) (n.toNatClampNeg))) := kw_I_ua hI (fun j => ⟨(kw_rng _).1, Int.le_of_lt_add_one (kw_rng _).2⟩)
          have F59 : kw_F [29, 30, 31, 32, 33, 34] σ (kw_ua σ 30 (va_cpy (σ.1 32) (σ.1 30) (i.toNatClampNeg) (j.toNatClampNeg) (n.toNatClampNeg))) := kw_F_ua hF0 (by decide)
          exact kw_return (pc := 43) (i := 24) rfl rfl ⟨⟨I58, F59⟩, rfl⟩
        · have e_w55 : t.toNatClampNeg = 2 := by have := kw_clampI (x := t) (by omega); omega
          refine kw_aald (pc := 35) (i := 20) (b := 31) rfl rfl (by decide) (by omega) (by rw [e_w55]; rfl) ?_
          refine kw_iload (pc := 36) (i := 21) (k := 4) (n := 4) rfl rfl ?_
          refine kw_iload (pc := 38) (i := 22) (k := 5) (n := 5) rfl rfl ?_
          refine kw_copy (pc := 40) (i := 23) (n := 40) (m_ := 40) rfl laX3_45 rfl rfl (by omega) (by omega) (by omega) (by omega) (by omega) (by decide) (by decide) ?_
          have I60 : kw_I bX (kw_ua σ 31 (va_cpy (σ.1 32) (σ.1 31) (i.toNatClampNeg) (j.toNatClampNeg) (n.toNatClampNeg))) := kw_I_ua hI (fun j => ⟨(kw_rng _).1, Int.le_of_lt_add_one (kw_rng _).2⟩)
          have F61 : kw_F [29, 30, 31, 32, 33, 34] σ (kw_ua σ 31 (va_cpy (σ.1 32) (σ.1 31) (i.toNatClampNeg) (j.toNatClampNeg) (n.toNatClampNeg))) := kw_F_ua hF0 (by decide)
          exact kw_return (pc := 43) (i := 24) rfl rfl ⟨⟨I60, F61⟩, rfl⟩
        · have e_w55 : t.toNatClampNeg = 3 := by have := kw_clampI (x := t) (by omega); omega
          refine kw_aald (pc := 35) (i := 20) (b := 32) rfl rfl (by decide) (by omega) (by rw [e_w55]; rfl) ?_
          refine kw_iload (pc := 36) (i := 21) (k := 4) (n := 4) rfl rfl ?_
          refine kw_iload (pc := 38) (i := 22) (k := 5) (n := 5) rfl rfl ?_
          refine kw_copy (pc := 40) (i := 23) (n := 40) (m_ := 40) rfl laX3_45 rfl rfl (by omega) (by omega) (by omega) (by omega) (by omega) (by decide) (by decide) ?_
          have I62 : kw_I bX (kw_ua σ 32 (va_cpy (σ.1 32) (σ.1 32) (i.toNatClampNeg) (j.toNatClampNeg) (n.toNatClampNeg))) := kw_I_ua hI (fun j => ⟨(kw_rng _).1, Int.le_of_lt_add_one (kw_rng _).2⟩)
          have F63 : kw_F [29, 30, 31, 32, 33, 34] σ (kw_ua σ 32 (va_cpy (σ.1 32) (σ.1 32) (i.toNatClampNeg) (j.toNatClampNeg) (n.toNatClampNeg))) := kw_F_ua hF0 (by decide)
          exact kw_return (pc := 43) (i := 24) rfl rfl ⟨⟨I62, F63⟩, rfl⟩
        · have e_w55 : t.toNatClampNeg = 4 := by have := kw_clampI (x := t) (by omega); omega
          refine kw_aald (pc := 35) (i := 20) (b := 33) rfl rfl (by decide) (by omega) (by rw [e_w55]; rfl) ?_
          refine kw_iload (pc := 36) (i := 21) (k := 4) (n := 4) rfl rfl ?_
          refine kw_iload (pc := 38) (i := 22) (k := 5) (n := 5) rfl rfl ?_
          refine kw_copy (pc := 40) (i := 23) (n := 40) (m_ := 40) rfl laX3_45 rfl rfl (by omega) (by omega) (by omega) (by omega) (by omega) (by decide) (by decide) ?_
          have I64 : kw_I bX (kw_ua σ 33 (va_cpy (σ.1 32) (σ.1 33) (i.toNatClampNeg) (j.toNatClampNeg) (n.toNatClampNeg))) := kw_I_ua hI (fun j => ⟨(kw_rng _).1, Int.le_of_lt_add_one (kw_rng _).2⟩)
          have F65 : kw_F [29, 30, 31, 32, 33, 34] σ (kw_ua σ 33 (va_cpy (σ.1 32) (σ.1 33) (i.toNatClampNeg) (j.toNatClampNeg) (n.toNatClampNeg))) := kw_F_ua hF0 (by decide)
          exact kw_return (pc := 43) (i := 24) rfl rfl ⟨⟨I64, F65⟩, rfl⟩
        · have e_w55 : t.toNatClampNeg = 5 := by have := kw_clampI (x := t) (by omega); omega
          refine kw_aald (pc := 35) (i := 20) (b := 34) rfl rfl (by decide) (by omega) (by rw [e_w55]; rfl) ?_
          refine kw_iload (pc := 36) (i := 21) (k := 4) (n := 4) rfl rfl ?_
          refine kw_iload (pc := 38) (i := 22) (k := 5) (n := 5) rfl rfl ?_
          refine kw_copy (pc := 40) (i := 23) (n := 40) (m_ := 40) rfl laX3_45 rfl rfl (by omega) (by omega) (by omega) (by omega) (by omega) (by decide) (by decide) ?_
          have I66 : kw_I bX (kw_ua σ 34 (va_cpy (σ.1 32) (σ.1 34) (i.toNatClampNeg) (j.toNatClampNeg) (n.toNatClampNeg))) := kw_I_ua hI (fun j => ⟨(kw_rng _).1, Int.le_of_lt_add_one (kw_rng _).2⟩)
          have F67 : kw_F [29, 30, 31, 32, 33, 34] σ (kw_ua σ 34 (va_cpy (σ.1 32) (σ.1 34) (i.toNatClampNeg) (j.toNatClampNeg) (n.toNatClampNeg))) := kw_F_ua hF0 (by decide)
          exact kw_return (pc := 43) (i := 24) rfl rfl ⟨⟨I66, F67⟩, rfl⟩
      · have e_w15 : k.toNatClampNeg = 4 := by have := kw_clampI (x := k) (by omega); omega
        refine kw_aald (pc := 28) (i := 15) (b := 33) rfl rfl (by decide) (by omega) (by rw [e_w15]; rfl) ?_
        refine kw_iload_n (pc := 29) (i := 16) (k := 2) (n := 2) rfl rfl rfl ?_
        refine kw_aload_n (pc := 30) (i := 17) (k := 0) (n := 0) rfl rfl rfl ?_
        refine kw_get (pc := 31) (i := 18) (v := .ref 12) rfl rfl rfl lkX3_17 (fun _ => rfl) ?_
        refine kw_iload_n (pc := 34) (i := 19) (k := 3) (n := 3) rfl rfl rfl ?_
        have w68 : t.toInt = 0 ∨ t.toInt = 1 ∨ t.toInt = 2 ∨ t.toInt = 3 ∨ t.toInt = 4 ∨ t.toInt = 5 := by omega
        rcases w68 with w68 | w68 | w68 | w68 | w68 | w68
        · have e_w68 : t.toNatClampNeg = 0 := by have := kw_clampI (x := t) (by omega); omega
          refine kw_aald (pc := 35) (i := 20) (b := 29) rfl rfl (by decide) (by omega) (by rw [e_w68]; rfl) ?_
          refine kw_iload (pc := 36) (i := 21) (k := 4) (n := 4) rfl rfl ?_
          refine kw_iload (pc := 38) (i := 22) (k := 5) (n := 5) rfl rfl ?_
          refine kw_copy (pc := 40) (i := 23) (n := 40) (m_ := 40) rfl laX3_45 rfl rfl (by omega) (by omega) (by omega) (by omega) (by omega) (by decide) (by decide) ?_
          have I69 : kw_I bX (kw_ua σ 29 (va_cpy (σ.1 33) (σ.1 29) (i.toNatClampNeg) (j.toNatClampNeg) (n.toNatClampNeg))) := kw_I_ua hI (fun j => ⟨(kw_rng _).1, Int.le_of_lt_add_one (kw_rng _).2⟩)
          have F70 : kw_F [29, 30, 31, 32, 33, 34] σ (kw_ua σ 29 (va_cpy (σ.1 33) (σ.1 29) (i.toNatClampNeg) (j.toNatClampNeg) (n.toNatClampNeg))) := kw_F_ua hF0 (by decide)
          exact kw_return (pc := 43) (i := 24) rfl rfl ⟨⟨I69, F70⟩, rfl⟩
        · have e_w68 : t.toNatClampNeg = 1 := by have := kw_clampI (x := t) (by omega); omega
          refine kw_aald (pc := 35) (i := 20) (b := 30) rfl rfl (by decide) (by omega) (by rw [e_w68]; rfl) ?_
          refine kw_iload (pc := 36) (i := 21) (k := 4) (n := 4) rfl rfl ?_
          refine kw_iload (pc := 38) (i := 22) (k := 5) (n := 5) rfl rfl ?_
          refine kw_copy (pc := 40) (i := 23) (n := 40) (m_ := 40) rfl laX3_45 rfl rfl (by omega) (by omega) (by omega) (by omega) (by omega) (by decide) (by decide) ?_
          have I71 : kw_I bX (kw_ua σ 30 (va_cpy (σ.1 33) (σ.1 30) (i.toNatClampNeg) (j.toNatClampNeg) (n.toNatClampNeg))) := kw_I_ua hI (fun j => ⟨(kw_rng _).1, Int.le_of_lt_add_one (kw_rng _).2⟩)
          have F72 : kw_F [29, 30, 31, 32, 33, 34] σ (kw_ua σ 30 (va_cpy (σ.1 33) (σ.1 30) (i.toNatClampNeg) (j.toNatClampNeg) (n.toNatClampNeg))) := kw_F_ua hF0 (by decide)
          exact kw_return (pc := 43) (i := 24) rfl rfl ⟨⟨I71, F72⟩, rfl⟩
        · have e_w68 : t.toNatClampNeg = 2 := by have := kw_clampI (x := t) (by omega); omega
          refine kw_aald (pc := 35) (i := 20) (b := 31) rfl rfl (by decide) (by omega) (by rw [e_w68]; rfl) ?_
          refine kw_iload (pc := 36) (i := 21) (k := 4) (n := 4) rfl rfl ?_
          refine kw_iload (pc := 38) (i := 22) (k := 5) (n := 5) rfl rfl ?_
          refine kw_copy (pc := 40) (i := 23) (n := 40) (m_ := 40) rfl laX3_45 rfl rfl (by omega) (by omega) (by omega) (by omega) (by omega) (by decide) (by decide) ?_
          have I73 : kw_I bX (kw_ua σ 31 (va_cpy (σ.1 33) (σ.1 31) (i.toNatClampNeg) (j.toNatClampNeg) (n.toNatClampNeg))) := kw_I_ua hI (fun j => ⟨(kw_rng _).1, Int.le_of_lt_add_one (kw_rng _).2⟩)
          have F74 : kw_F [29, 30, 31, 32, 33, 34] σ (kw_ua σ 31 (va_cpy (σ.1 33) (σ.1 31) (i.toNatClampNeg) (j.toNatClampNeg) (n.toNatClampNeg))) := kw_F_ua hF0 (by decide)
          exact kw_return (pc := 43) (i := 24) rfl rfl ⟨⟨I73, F74⟩, rfl⟩
        · have e_w68 : t.toNatClampNeg = 3 := by have := kw_clampI (x := t) (by omega); omega
          refine kw_aald (pc := 35) (i := 20) (b := 32) rfl rfl (by decide) (by omega) (by rw [e_w68]; rfl) ?_
          refine kw_iload (pc := 36) (i := 21) (k := 4) (n := 4) rfl rfl ?_
          refine kw_iload (pc := 38) (i := 22) (k := 5) (n := 5) rfl rfl ?_
          refine kw_copy (pc := 40) (i := 23) (n := 40) (m_ := 40) rfl laX3_45 rfl rfl (by omega) (by omega) (by omega) (by omega) (by omega) (by decide) (by decide) ?_
          have I75 : kw_I bX (kw_ua σ 32 (va_cpy (σ.1 33) (σ.1 32) (i.toNatClampNeg) (j.toNatClampNeg) (n.toNatClampNeg))) := kw_I_ua hI (fun j => ⟨(kw_rng _).1, Int.le_of_lt_add_one (kw_rng _).2⟩)
          have F76 : kw_F [29, 30, 31, 32, 33, 34] σ (kw_ua σ 32 (va_cpy (σ.1 33) (σ.1 32) (i.toNatClampNeg) (j.toNatClampNeg) (n.toNatClampNeg))) := kw_F_ua hF0 (by decide)
          exact kw_return (pc := 43) (i := 24) rfl rfl ⟨⟨I75, F76⟩, rfl⟩
        · have e_w68 : t.toNatClampNeg = 4 := by have := kw_clampI (x := t) (by omega); omega
          refine kw_aald (pc := 35) (i := 20) (b := 33) rfl rfl (by decide) (by omega) (by rw [e_w68]; rfl) ?_
          refine kw_iload (pc := 36) (i := 21) (k := 4) (n := 4) rfl rfl ?_
          refine kw_iload (pc := 38) (i := 22) (k := 5) (n := 5) rfl rfl ?_
          refine kw_copy (pc := 40) (i := 23) (n := 40) (m_ := 40) rfl laX3_45 rfl rfl (by omega) (by omega) (by omega) (by omega) (by omega) (by decide) (by decide) ?_
          have I77 : kw_I bX (kw_ua σ 33 (va_cpy (σ.1 33) (σ.1 33) (i.toNatClampNeg) (j.toNatClampNeg) (n.toNatClampNeg))) := kw_I_ua hI (fun j => ⟨(kw_rng _).1, Int.le_of_lt_add_one (kw_rng _).2⟩)
          have F78 : kw_F [29, 30, 31, 32, 33, 34] σ (kw_ua σ 33 (va_cpy (σ.1 33) (σ.1 33) (i.toNatClampNeg) (j.toNatClampNeg) (n.toNatClampNeg))) := kw_F_ua hF0 (by decide)
          exact kw_return (pc := 43) (i := 24) rfl rfl ⟨⟨I77, F78⟩, rfl⟩
        · have e_w68 : t.toNatClampNeg = 5 := by have := kw_clampI (x := t) (by omega); omega
          refine kw_aald (pc := 35) (i := 20) (b := 34) rfl rfl (by decide) (by omega) (by rw [e_w68]; rfl) ?_
          refine kw_iload (pc := 36) (i := 21) (k := 4) (n := 4) rfl rfl ?_
          refine kw_iload (pc := 38) (i := 22) (k := 5) (n := 5) rfl rfl ?_
          refine kw_copy (pc := 40) (i := 23) (n := 40) (m_ := 40) rfl laX3_45 rfl rfl (by omega) (by omega) (by omega) (by omega) (by omega) (by decide) (by decide) ?_
          have I79 : kw_I bX (kw_ua σ 34 (va_cpy (σ.1 33) (σ.1 34) (i.toNatClampNeg) (j.toNatClampNeg) (n.toNatClampNeg))) := kw_I_ua hI (fun j => ⟨(kw_rng _).1, Int.le_of_lt_add_one (kw_rng _).2⟩)
          have F80 : kw_F [29, 30, 31, 32, 33, 34] σ (kw_ua σ 34 (va_cpy (σ.1 33) (σ.1 34) (i.toNatClampNeg) (j.toNatClampNeg) (n.toNatClampNeg))) := kw_F_ua hF0 (by decide)
          exact kw_return (pc := 43) (i := 24) rfl rfl ⟨⟨I79, F80⟩, rfl⟩
      · have e_w15 : k.toNatClampNeg = 5 := by have := kw_clampI (x := k) (by omega); omega
        refine kw_aald (pc := 28) (i := 15) (b := 34) rfl rfl (by decide) (by omega) (by rw [e_w15]; rfl) ?_
        refine kw_iload_n (pc := 29) (i := 16) (k := 2) (n := 2) rfl rfl rfl ?_
        refine kw_aload_n (pc := 30) (i := 17) (k := 0) (n := 0) rfl rfl rfl ?_
        refine kw_get (pc := 31) (i := 18) (v := .ref 12) rfl rfl rfl lkX3_17 (fun _ => rfl) ?_
        refine kw_iload_n (pc := 34) (i := 19) (k := 3) (n := 3) rfl rfl rfl ?_
        have w81 : t.toInt = 0 ∨ t.toInt = 1 ∨ t.toInt = 2 ∨ t.toInt = 3 ∨ t.toInt = 4 ∨ t.toInt = 5 := by omega
        rcases w81 with w81 | w81 | w81 | w81 | w81 | w81
        · have e_w81 : t.toNatClampNeg = 0 := by have := kw_clampI (x := t) (by omega); omega
          refine kw_aald (pc := 35) (i := 20) (b := 29) rfl rfl (by decide) (by omega) (by rw [e_w81]; rfl) ?_
          refine kw_iload (pc := 36) (i := 21) (k := 4) (n := 4) rfl rfl ?_
          refine kw_iload (pc := 38) (i := 22) (k := 5) (n := 5) rfl rfl ?_
          refine kw_copy (pc := 40) (i := 23) (n := 40) (m_ := 40) rfl laX3_45 rfl rfl (by omega) (by omega) (by omega) (by omega) (by omega) (by decide) (by decide) ?_
          have I82 : kw_I bX (kw_ua σ 29 (va_cpy (σ.1 34) (σ.1 29) (i.toNatClampNeg) (j.toNatClampNeg) (n.toNatClampNeg))) := kw_I_ua hI (fun j => ⟨(kw_rng _).1, Int.le_of_lt_add_one (kw_rng _).2⟩)
          have F83 : kw_F [29, 30, 31, 32, 33, 34] σ (kw_ua σ 29 (va_cpy (σ.1 34) (σ.1 29) (i.toNatClampNeg) (j.toNatClampNeg) (n.toNatClampNeg))) := kw_F_ua hF0 (by decide)
          exact kw_return (pc := 43) (i := 24) rfl rfl ⟨⟨I82, F83⟩, rfl⟩
        · have e_w81 : t.toNatClampNeg = 1 := by have := kw_clampI (x := t) (by omega); omega
          refine kw_aald (pc := 35) (i := 20) (b := 30) rfl rfl (by decide) (by omega) (by rw [e_w81]; rfl) ?_
          refine kw_iload (pc := 36) (i := 21) (k := 4) (n := 4) rfl rfl ?_
          refine kw_iload (pc := 38) (i := 22) (k := 5) (n := 5) rfl rfl ?_
          refine kw_copy (pc := 40) (i := 23) (n := 40) (m_ := 40) rfl laX3_45 rfl rfl (by omega) (by omega) (by omega) (by omega) (by omega) (by decide) (by decide) ?_
          have I84 : kw_I bX (kw_ua σ 30 (va_cpy (σ.1 34) (σ.1 30) (i.toNatClampNeg) (j.toNatClampNeg) (n.toNatClampNeg))) := kw_I_ua hI (fun j => ⟨(kw_rng _).1, Int.le_of_lt_add_one (kw_rng _).2⟩)
          have F85 : kw_F [29, 30, 31, 32, 33, 34] σ (kw_ua σ 30 (va_cpy (σ.1 34) (σ.1 30) (i.toNatClampNeg) (j.toNatClampNeg) (n.toNatClampNeg))) := kw_F_ua hF0 (by decide)
          exact kw_return (pc := 43) (i := 24) rfl rfl ⟨⟨I84, F85⟩, rfl⟩
        · have e_w81 : t.toNatClampNeg = 2 := by have := kw_clampI (x := t) (by omega); omega
          refine kw_aald (pc := 35) (i := 20) (b := 31) rfl rfl (by decide) (by omega) (by rw [e_w81]; rfl) ?_
          refine kw_iload (pc := 36) (i := 21) (k := 4) (n := 4) rfl rfl ?_
          refine kw_iload (pc := 38) (i := 22) (k := 5) (n := 5) rfl rfl ?_
          refine kw_copy (pc := 40) (i := 23) (n := 40) (m_ := 40) rfl laX3_45 rfl rfl (by omega) (by omega) (by omega) (by omega) (by omega) (by decide) (by decide) ?_
          have I86 : kw_I bX (kw_ua σ 31 (va_cpy (σ.1 34) (σ.1 31) (i.toNatClampNeg) (j.toNatClampNeg) (n.toNatClampNeg))) := kw_I_ua hI (fun j => ⟨(kw_rng _).1, Int.le_of_lt_add_one (kw_rng _).2⟩)
          have F87 : kw_F [29, 30, 31, 32, 33, 34] σ (kw_ua σ 31 (va_cpy (σ.1 34) (σ.1 31) (i.toNatClampNeg) (j.toNatClampNeg) (n.toNatClampNeg))) := kw_F_ua hF0 (by decide)
          exact kw_return (pc := 43) (i := 24) rfl rfl ⟨⟨I86, F87⟩, rfl⟩
        · have e_w81 : t.toNatClampNeg = 3 := by have := kw_clampI (x := t) (by omega); omega
          refine kw_aald (pc := 35) (i := 20) (b := 32) rfl rfl (by decide) (by omega) (by rw [e_w81]; rfl) ?_
          refine kw_iload (pc := 36) (i := 21) (k := 4) (n := 4) rfl rfl ?_
          refine kw_iload (pc := 38) (i := 22) (k := 5) (n := 5) rfl rfl ?_
          refine kw_copy (pc := 40) (i := 23) (n := 40) (m_ := 40) rfl laX3_45 rfl rfl (by omega) (by omega) (by omega) (by omega) (by omega) (by decide) (by decide) ?_
          have I88 : kw_I bX (kw_ua σ 32 (va_cpy (σ.1 34) (σ.1 32) (i.toNatClampNeg) (j.toNatClampNeg) (n.toNatClampNeg))) := kw_I_ua hI (fun j => ⟨(kw_rng _).1, Int.le_of_lt_add_one (kw_rng _).2⟩)
          have F89 : kw_F [29, 30, 31, 32, 33, 34] σ (kw_ua σ 32 (va_cpy (σ.1 34) (σ.1 32) (i.toNatClampNeg) (j.toNatClampNeg) (n.toNatClampNeg))) := kw_F_ua hF0 (by decide)
          exact kw_return (pc := 43) (i := 24) rfl rfl ⟨⟨I88, F89⟩, rfl⟩
        · have e_w81 : t.toNatClampNeg = 4 := by have := kw_clampI (x := t) (by omega); omega
          refine kw_aald (pc := 35) (i := 20) (b := 33) rfl rfl (by decide) (by omega) (by rw [e_w81]; rfl) ?_
          refine kw_iload (pc := 36) (i := 21) (k := 4) (n := 4) rfl rfl ?_
          refine kw_iload (pc := 38) (i := 22) (k := 5) (n := 5) rfl rfl ?_
          refine kw_copy (pc := 40) (i := 23) (n := 40) (m_ := 40) rfl laX3_45 rfl rfl (by omega) (by omega) (by omega) (by omega) (by omega) (by decide) (by decide) ?_
          have I90 : kw_I bX (kw_ua σ 33 (va_cpy (σ.1 34) (σ.1 33) (i.toNatClampNeg) (j.toNatClampNeg) (n.toNatClampNeg))) := kw_I_ua hI (fun j => ⟨(kw_rng _).1, Int.le_of_lt_add_one (kw_rng _).2⟩)
          have F91 : kw_F [29, 30, 31, 32, 33, 34] σ (kw_ua σ 33 (va_cpy (σ.1 34) (σ.1 33) (i.toNatClampNeg) (j.toNatClampNeg) (n.toNatClampNeg))) := kw_F_ua hF0 (by decide)
          exact kw_return (pc := 43) (i := 24) rfl rfl ⟨⟨I90, F91⟩, rfl⟩
        · have e_w81 : t.toNatClampNeg = 5 := by have := kw_clampI (x := t) (by omega); omega
          refine kw_aald (pc := 35) (i := 20) (b := 34) rfl rfl (by decide) (by omega) (by rw [e_w81]; rfl) ?_
          refine kw_iload (pc := 36) (i := 21) (k := 4) (n := 4) rfl rfl ?_
          refine kw_iload (pc := 38) (i := 22) (k := 5) (n := 5) rfl rfl ?_
          refine kw_copy (pc := 40) (i := 23) (n := 40) (m_ := 40) rfl laX3_45 rfl rfl (by omega) (by omega) (by omega) (by omega) (by omega) (by decide) (by decide) ?_
          have I92 : kw_I bX (kw_ua σ 34 (va_cpy (σ.1 34) (σ.1 34) (i.toNatClampNeg) (j.toNatClampNeg) (n.toNatClampNeg))) := kw_I_ua hI (fun j => ⟨(kw_rng _).1, Int.le_of_lt_add_one (kw_rng _).2⟩)
          have F93 : kw_F [29, 30, 31, 32, 33, 34] σ (kw_ua σ 34 (va_cpy (σ.1 34) (σ.1 34) (i.toNatClampNeg) (j.toNatClampNeg) (n.toNatClampNeg))) := kw_F_ua hF0 (by decide)
          exact kw_return (pc := 43) (i := 24) rfl rfl ⟨⟨I92, F93⟩, rfl⟩
end
section
abbrev p_X4_answer_8 (σ : kw_S) (v : Int32) : Option Value → kw_S → Prop := fun v σ' => (kw_I bX σ' ∧ kw_F [8] σ σ') ∧ ∃ r : Int32, v = some (.int r) ∧ r.toInt = 1
set_option maxRecDepth 100000 in
set_option maxHeartbeats 4000000 in
theorem c_X4_answer_8 (l : Launch) (σ : kw_S) (hI : kw_I bX σ) (v : Int32) : kw_Met l 1 KX mX4_answer [.ref 8, .int v] σ (p_X4_answer_8 σ v) := by
  have r_v := kw_rng v
  have hF0 : kw_F [8] σ σ := kw_F.rf
  have q_1 : (1 : Int32).toInt = 1 := rfl
  refine kw_Met.of (by decide) rfl tX4_answer (Nat.le_of_ble_eq_true rfl) ?_
  show kw_AW l 1 kw_E0 KX mX4_answer (p_X4_answer_8 σ v) 0 [(0, .ref 8), (1, .int v)] [] σ
  refine kw_aload_n (pc := 0) (i := 0) (k := 0) (n := 0) rfl rfl rfl ?_
  refine kw_iload_n (pc := 1) (i := 1) (k := 1) (n := 1) rfl rfl rfl ?_
  refine kw_puti (pc := 2) (i := 2) (z := 0) rfl rfl rfl lpX4_19 rfl rfl ?_
  have I1 : kw_I bX (kw_ui σ 8 2 v) := kw_I_ui hI (kw_rng v).1 (Int.le_of_lt_add_one (kw_rng v).2)
  have F2 : kw_F [8] σ (kw_ui σ 8 2 v) := kw_F_ui hF0 (by decide)
  refine kw_iconst (pc := 5) (i := 3) (v := 1) rfl rfl ?_
  exact kw_ireturn (pc := 6) (i := 4) (ty := .int) rfl rfl rfl ⟨⟨I1, F2⟩, _, rfl, by omega⟩
abbrev p_X4_refuse_8 (σ : kw_S) (f : Int32) : Option Value → kw_S → Prop := fun v σ' => (kw_I bX σ' ∧ kw_F [8, 28] σ σ') ∧ ∃ r : Int32, v = some (.int r) ∧ r.toInt = -3
set_option maxRecDepth 100000 in
set_option maxHeartbeats 4000000 in
theorem c_X4_refuse_8 (l : Launch) (σ : kw_S) (hI : kw_I bX σ) (f : Int32) : kw_Met l 1 KX mX4_refuse [.ref 8, .int f] σ (p_X4_refuse_8 σ f) := by
  have r_f := kw_rng f
  have hF0 : kw_F [8, 28] σ σ := kw_F.rf
  have q_m3 : (-3 : Int32).toInt = -3 := rfl
  have q_1 : (1 : Int32).toInt = 1 := rfl
  have q_5 : (5 : Int32).toInt = 5 := rfl
  refine kw_Met.of (by decide) rfl tX4_refuse (Nat.le_of_ble_eq_true rfl) ?_
  show kw_AW l 1 kw_E0 KX mX4_refuse (p_X4_refuse_8 σ f) 0 [(0, .ref 8), (1, .int f)] [] σ
  refine kw_iload_n (pc := 0) (i := 0) (k := 1) (n := 1) rfl rfl rfl ?_
  refine kw_iconst (pc := 1) (i := 1) (v := 1) rfl rfl ?_
  refine kw_icmp_lt (pc := 2) (i := 2) (tgt := 10) rfl rfl (fun c1 => ?_) (fun c1 => ?_)
  · refine kw_bipush (pc := 10) (i := 6) (v := (-3)) rfl rfl ?_
    exact kw_ireturn (pc := 12) (i := 7) (ty := .int) rfl rfl rfl ⟨⟨hI, hF0⟩, _, rfl, by omega⟩
  · refine kw_iload_n (pc := 5) (i := 3) (k := 1) (n := 1) rfl rfl rfl ?_
    refine kw_iconst (pc := 6) (i := 4) (v := 5) rfl rfl ?_
    refine kw_icmp_le (pc := 7) (i := 5) (tgt := 13) rfl rfl (fun c2 => ?_) (fun c2 => ?_)
    · refine kw_aload_n (pc := 13) (i := 8) (k := 0) (n := 0) rfl rfl rfl ?_
      refine kw_iload_n (pc := 14) (i := 9) (k := 1) (n := 1) rfl rfl rfl ?_
      refine kw_puti (pc := 15) (i := 10) (z := 0) rfl rfl rfl lpX4_23 rfl rfl ?_
      have I3 : kw_I bX (kw_ui σ 8 1 f) := kw_I_ui hI (kw_rng f).1 (Int.le_of_lt_add_one (kw_rng f).2)
      have F4 : kw_F [8, 28] σ (kw_ui σ 8 1 f) := kw_F_ui hF0 (by decide)
      refine kw_aload_n (pc := 18) (i := 11) (k := 0) (n := 0) rfl rfl rfl ?_
      refine kw_get (pc := 19) (i := 12) (v := .ref 28) rfl rfl rfl lkX4_9 (fun _ => rfl) ?_
      refine kw_iload_n (pc := 22) (i := 13) (k := 1) (n := 1) rfl rfl rfl ?_
      refine kw_dup2 (pc := 23) (i := 14) rfl rfl rfl ?_
      refine kw_iald (pc := 24) (i := 15) (n := 6) rfl rfl (by omega) (by omega) (fun z5 e_z5 => ?_)
      have t_z5 := congrArg Int32.toInt e_z5
      have r_z5 := kw_rng z5
      refine kw_iconst (pc := 25) (i := 16) (v := 1) rfl rfl ?_
      refine kw_iadd (pc := 26) (i := 17) rfl (fun z6 e_z6 t_z6 => ?_)
      refine kw_iast (pc := 27) (i := 18) (n := 6) rfl rfl (by omega) (by omega) ?_
      have I7 : kw_I bX (kw_ui (kw_ui σ 8 1 f) 28 f.toNatClampNeg z6) := kw_I_ui I3 (kw_rng z6).1 (Int.le_of_lt_add_one (kw_rng z6).2)
      have F8 : kw_F [8, 28] σ (kw_ui (kw_ui σ 8 1 f) 28 f.toNatClampNeg z6) := kw_F_ui F4 (by decide)
      refine kw_bipush (pc := 28) (i := 19) (v := (-3)) rfl rfl ?_
      exact kw_ireturn (pc := 30) (i := 20) (ty := .int) rfl rfl rfl ⟨⟨I7, F8⟩, _, rfl, by omega⟩
    · refine kw_bipush (pc := 10) (i := 6) (v := (-3)) rfl rfl ?_
      exact kw_ireturn (pc := 12) (i := 7) (ty := .int) rfl rfl rfl ⟨⟨hI, hF0⟩, _, rfl, by omega⟩
abbrev p_X4_tellWhole_8 (σ : kw_S) (v : Int64) : Option Value → kw_S → Prop := fun v σ' => (kw_I bX σ' ∧ kw_F [8] σ σ') ∧ v = none
set_option maxRecDepth 100000 in
set_option maxHeartbeats 4000000 in
theorem c_X4_tellWhole_8 (l : Launch) (σ : kw_S) (hI : kw_I bX σ) (v : Int64) : kw_Met l 1 KX mX4_tellWhole [.ref 8, .long v] σ (p_X4_tellWhole_8 σ v) := by
  have hF0 : kw_F [8] σ σ := kw_F.rf
  refine kw_Met.of (by decide) rfl tX4_tellWhole (Nat.le_of_ble_eq_true rfl) ?_
  show kw_AW l 1 kw_E0 KX mX4_tellWhole (p_X4_tellWhole_8 σ v) 0 [(0, .ref 8), (1, .long v)] [] σ
  refine kw_aload_n (pc := 0) (i := 0) (k := 0) (n := 0) rfl rfl rfl ?_
  refine kw_lload_n (pc := 1) (i := 1) (k := 1) (n := 1) rfl rfl rfl ?_
  refine kw_putl (pc := 2) (i := 2) (z := 0) rfl rfl rfl lpX4_26 ?_
  have I1 : kw_I bX (kw_ul σ 8 3 v) := kw_I_ul hI _ _ _
  have F2 : kw_F [8] σ (kw_ul σ 8 3 v) := kw_F_ul hF0 _ _ _
  refine kw_aload_n (pc := 5) (i := 3) (k := 0) (n := 0) rfl rfl rfl ?_
  refine kw_lconst (pc := 6) (i := 4) (v := 1) rfl rfl ?_
  refine kw_putl (pc := 7) (i := 5) (z := 0) rfl rfl rfl lpX4_15 ?_
  have I3 : kw_I bX (kw_ul (kw_ul σ 8 3 v) 8 4 1) := kw_I_ul I1 _ _ _
  have F4 : kw_F [8] σ (kw_ul (kw_ul σ 8 3 v) 8 4 1) := kw_F_ul F2 _ _ _
  exact kw_return (pc := 10) (i := 6) rfl rfl ⟨⟨I3, F4⟩, rfl⟩
abbrev p_X4_commonDivisor (σ : kw_S) (a : Int64) (b : Int64) : Option Value → kw_S → Prop := fun v σ' => σ' = σ ∧ ∃ r : Int64, v = some (.long r)
set_option maxRecDepth 100000 in
set_option maxHeartbeats 4000000 in
theorem c_X4_commonDivisor (l : Launch) (σ : kw_S) (hI : kw_I bX σ) (a : Int64) (b : Int64) : kw_Met l 1 KX mX4_commonDivisor [.long a, .long b] σ (p_X4_commonDivisor σ a b) := by
  have q_0 : (0 : Int32).toInt = 0 := rfl
  have q_100 : (100 : Int32).toInt = 100 := rfl
  refine kw_Met.of (by decide) rfl tX4_commonDivisor (Nat.le_of_ble_eq_true rfl) ?_
  show kw_AW l 1 kw_E0 KX mX4_commonDivisor (p_X4_commonDivisor σ a b) 0 [(0, .long a), (2, .long b)] [] σ
  refine kw_lload_n (pc := 0) (i := 0) (k := 0) (n := 0) rfl rfl rfl ?_
  refine kw_lstore (pc := 1) (i := 1) (n := 4) (lv' := [(4, .long a), (0, .long a), (2, .long b)]) rfl (by decide) rfl ?_
  refine kw_lload_n (pc := 3) (i := 2) (k := 2) (n := 2) rfl rfl rfl ?_
  refine kw_lstore (pc := 4) (i := 3) (n := 6) (lv' := [(6, .long b), (4, .long a), (0, .long a), (2, .long b)]) rfl (by decide) rfl ?_
  refine kw_iconst (pc := 6) (i := 4) (v := 0) rfl rfl ?_
  refine kw_istore (pc := 7) (i := 5) (n := 8) (lv' := [(8, .int 0), (6, .long b), (4, .long a), (0, .long a), (2, .long b)]) rfl (by decide) rfl ?_
  have L4 : ∀ (n8 : Nat) (x1 : Int32) (x2 : Int64) (x3 : Int64), 0 ≤ x1.toInt → (101 - x1.toInt).toNat < n8 → kw_AW l 1 kw_E0 KX mX4_commonDivisor (p_X4_commonDivisor σ a b) 9 [(8, .int x1), (6, .long x2), (4, .long x3), (0, .long a), (2, .long b)] [] σ := by
    intro n8
    induction n8 with
    | zero => intro x1 x2 x3 v6 m7; exact absurd m7 (Nat.not_lt_zero _)
    | succ n8 ih5 =>
      intro x1 x2 x3 v6 m7
      have r_x1 := kw_rng x1
      refine kw_iload (pc := 9) (i := 6) (k := 0) (n := 8) rfl rfl ?_
      refine kw_bipush (pc := 11) (i := 7) (v := 100) rfl rfl ?_
      refine kw_icmp_ge (pc := 13) (i := 8) (tgt := 44) rfl rfl (fun c9 => ?_) (fun c9 => ?_)
      · refine kw_lload (pc := 44) (i := 23) (k := 2) (n := 4) rfl rfl ?_
        exact kw_lreturn (pc := 46) (i := 24) rfl rfl ⟨rfl, _, rfl⟩
      · refine kw_lload (pc := 16) (i := 9) (k := 1) (n := 6) rfl rfl ?_
        refine kw_lconst (pc := 18) (i := 10) (v := 0) rfl rfl ?_
        refine kw_lcmp (pc := 19) (i := 11) rfl (fun z10 e_z10 t_z10 => ?_)
        have lq11 : (0 : Int64).toInt = 0 := rfl
        refine kw_if_eq (pc := 20) (i := 12) (tgt := 44) rfl rfl (fun c12 => ?_) (fun c12 => ?_)
        · refine kw_lload (pc := 44) (i := 23) (k := 2) (n := 4) rfl rfl ?_
          exact kw_lreturn (pc := 46) (i := 24) rfl rfl ⟨rfl, _, rfl⟩
        · refine kw_lload (pc := 23) (i := 13) (k := 2) (n := 4) rfl rfl ?_
          refine kw_lload (pc := 25) (i := 14) (k := 1) (n := 6) rfl rfl ?_
          refine kw_lrem (pc := 27) (i := 15) rfl (by omega) (fun z13 e_z13 => ?_)
          refine kw_lstore (pc := 28) (i := 16) (n := 9) (lv' := [(9, .long z13), (8, .int x1), (6, .long x2), (4, .long x3), (0, .long a), (2, .long b)]) rfl (by decide) rfl ?_
          refine kw_lload (pc := 30) (i := 17) (k := 2) (n := 6) rfl rfl ?_
          refine kw_lstore (pc := 32) (i := 18) (n := 4) (lv' := [(4, .long x2), (9, .long z13), (8, .int x1), (6, .long x2), (0, .long a), (2, .long b)]) rfl (by decide) rfl ?_
          refine kw_lload (pc := 34) (i := 19) (k := 1) (n := 9) rfl rfl ?_
          refine kw_lstore (pc := 36) (i := 20) (n := 6) (lv' := [(6, .long z13), (4, .long x2), (9, .long z13), (8, .int x1), (0, .long a), (2, .long b)]) rfl (by decide) rfl ?_
          refine kw_iinc' (pc := 38) (i := 21) (k := 3) (fun z => [(8, .int z), (6, .long z13), (4, .long x2), (9, .long z13), (0, .long a), (2, .long b)]) rfl rfl (by decide) rfl (fun _ => rfl) (fun z14 e_z14 t_z14 => ?_)
          refine kw_goto (pc := 41) (i := 22) (tgt := 9) rfl rfl ?_
          refine kw_sub (lv' := [(8, .int z14), (6, .long z13), (4, .long x2), (0, .long a), (2, .long b)]) [0, 1, 2, 4, 5] rfl ?_
          exact ih5 z14 z13 x2 (by omega) (by omega)
  exact L4 _ 0 b a (by omega) (Nat.lt_succ_self _)
abbrev p_X4_tellShare_8 (σ : kw_S) (a : Int64) (b : Int64) : Option Value → kw_S → Prop := fun v σ' => (kw_I bX σ' ∧ kw_F [8] σ σ') ∧ v = none
set_option maxRecDepth 100000 in
set_option maxHeartbeats 4000000 in
theorem c_X4_tellShare_8 (l : Launch) (σ : kw_S) (hI : kw_I bX σ) (a : Int64) (b : Int64) : kw_Met l 2 KX mX4_tellShare [.ref 8, .long a, .long b] σ (p_X4_tellShare_8 σ a b) := by
  have hF0 : kw_F [8] σ σ := kw_F.rf
  refine kw_Met.of (by decide) rfl tX4_tellShare (Nat.le_of_ble_eq_true rfl) ?_
  show kw_AW l 2 kw_E0 KX mX4_tellShare (p_X4_tellShare_8 σ a b) 0 [(0, .ref 8), (1, .long a), (3, .long b)] [] σ
  refine kw_lload_n (pc := 0) (i := 0) (k := 1) (n := 1) rfl rfl rfl ?_
  refine kw_mabsl (pc := 1) (i := 1) rfl jX4_29 (by decide) (by decide) (fun z1 e_z1 => ?_)
  refine kw_lload_n (pc := 4) (i := 2) (k := 2) (n := 3) rfl rfl rfl ?_
  refine kw_callS (pc := 5) (i := 3) (Y := mX4_commonDivisor) (As := [.long z1, .long b]) (st := []) kw_hE rfl lsX4_35 arX4_commonDivisor (c_X4_commonDivisor l σ hI z1 b ) (by decide) (by decide) rfl (fun v S3 p2 => ?_)
  obtain ⟨e5, z4, rfl⟩ := p2
  rw [e5]
  show kw_AW l 2 kw_E0 KX mX4_tellShare (p_X4_tellShare_8 σ a b) 8 [(0, .ref 8), (1, .long a), (3, .long b)] [.long z4] σ
  refine kw_lstore (pc := 8) (i := 4) (n := 5) (lv' := [(5, .long z4), (0, .ref 8), (1, .long a), (3, .long b)]) rfl (by decide) rfl ?_
  refine kw_lload (pc := 10) (i := 5) (k := 0) (n := 5) rfl rfl ?_
  refine kw_lconst (pc := 12) (i := 6) (v := 1) rfl rfl ?_
  refine kw_lcmp (pc := 13) (i := 7) rfl (fun z6 e_z6 t_z6 => ?_)
  have lq7 : (1 : Int64).toInt = 1 := rfl
  refine kw_if_ge (pc := 14) (i := 8) (tgt := 20) rfl rfl (fun c8 => ?_) (fun c8 => ?_)
  · refine kw_aload_n (pc := 20) (i := 11) (k := 1) (n := 0) rfl rfl rfl ?_
    refine kw_lload_n (pc := 21) (i := 12) (k := 2) (n := 1) rfl rfl rfl ?_
    refine kw_lload (pc := 22) (i := 13) (k := 0) (n := 5) rfl rfl ?_
    refine kw_ldiv (pc := 24) (i := 14) rfl (by omega) (fun z9 e_z9 => ?_)
    refine kw_putl (pc := 25) (i := 15) (z := 0) rfl rfl rfl lpX4_26 ?_
    have I10 : kw_I bX (kw_ul σ 8 3 z9) := kw_I_ul hI _ _ _
    have F11 : kw_F [8] σ (kw_ul σ 8 3 z9) := kw_F_ul hF0 _ _ _
    refine kw_aload_n (pc := 28) (i := 16) (k := 1) (n := 0) rfl rfl rfl ?_
    refine kw_lload_n (pc := 29) (i := 17) (k := 3) (n := 3) rfl rfl rfl ?_
    refine kw_lload (pc := 30) (i := 18) (k := 0) (n := 5) rfl rfl ?_
    refine kw_ldiv (pc := 32) (i := 19) rfl (by omega) (fun z12 e_z12 => ?_)
    refine kw_putl (pc := 33) (i := 20) (z := 0) rfl rfl rfl lpX4_15 ?_
    have I13 : kw_I bX (kw_ul (kw_ul σ 8 3 z9) 8 4 z12) := kw_I_ul I10 _ _ _
    have F14 : kw_F [8] σ (kw_ul (kw_ul σ 8 3 z9) 8 4 z12) := kw_F_ul F11 _ _ _
    exact kw_return (pc := 36) (i := 21) rfl rfl ⟨⟨I13, F14⟩, rfl⟩
  · refine kw_lconst (pc := 17) (i := 9) (v := 1) rfl rfl ?_
    refine kw_lstore (pc := 18) (i := 10) (n := 5) (lv' := [(5, .long 1), (0, .ref 8), (1, .long a), (3, .long b)]) rfl (by decide) rfl ?_
    refine kw_aload_n (pc := 20) (i := 11) (k := 1) (n := 0) rfl rfl rfl ?_
    refine kw_lload_n (pc := 21) (i := 12) (k := 2) (n := 1) rfl rfl rfl ?_
    refine kw_lload (pc := 22) (i := 13) (k := 0) (n := 5) rfl rfl ?_
    refine kw_ldiv (pc := 24) (i := 14) rfl (by decide) (fun z15 e_z15 => ?_)
    refine kw_putl (pc := 25) (i := 15) (z := 0) rfl rfl rfl lpX4_26 ?_
    have I16 : kw_I bX (kw_ul σ 8 3 z15) := kw_I_ul hI _ _ _
    have F17 : kw_F [8] σ (kw_ul σ 8 3 z15) := kw_F_ul hF0 _ _ _
    refine kw_aload_n (pc := 28) (i := 16) (k := 1) (n := 0) rfl rfl rfl ?_
    refine kw_lload_n (pc := 29) (i := 17) (k := 3) (n := 3) rfl rfl rfl ?_
    refine kw_lload (pc := 30) (i := 18) (k := 0) (n := 5) rfl rfl ?_
    refine kw_ldiv (pc := 32) (i := 19) rfl (by decide) (fun z18 e_z18 => ?_)
    refine kw_putl (pc := 33) (i := 20) (z := 0) rfl rfl rfl lpX4_15 ?_
    have I19 : kw_I bX (kw_ul (kw_ul σ 8 3 z15) 8 4 z18) := kw_I_ul I16 _ _ _
    have F20 : kw_F [8] σ (kw_ul (kw_ul σ 8 3 z15) 8 4 z18) := kw_F_ul F17 _ _ _
    exact kw_return (pc := 36) (i := 21) rfl rfl ⟨⟨I19, F20⟩, rfl⟩
end
