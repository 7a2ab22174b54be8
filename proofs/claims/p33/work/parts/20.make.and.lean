section
def mX0_init : kw_M := ((RX0, yX0_init, cX0_init, 1, none), [(0, .aload_n 0, 1), (1, .invokespecial 3, 3), (4, .aload_n 0, 1), (5, .bipush 64, 2), (7, .newarray .int, 2), (9, .putfield 9, 3), (12, .aload_n 0, 1), (13, .bipush 64, 2), (15, .newarray .int, 2), (17, .putfield 15, 3), (20, .return_, 1)])
set_option maxRecDepth 20000 in
theorem tX0_init : ∀ q ∈ mX0_init.2, decode mX0_init.1.2.2.1 q.1 = .ok q.2 := by decide +kernel
def mX1_init : kw_M := ((RX1, yX1_init, cX1_init, 1, none), [(0, .aload_n 0, 1), (1, .invokespecial 3, 3), (4, .aload_n 0, 1), (5, .bipush 6, 2), (7, .newarray .int, 2), (9, .putfield 9, 3), (12, .aload_n 0, 1), (13, .bipush 6, 2), (15, .newarray .int, 2), (17, .putfield 15, 3), (20, .aload_n 0, 1), (21, .bipush 6, 2), (23, .newarray .int, 2), (25, .putfield 18, 3), (28, .aload_n 0, 1), (29, .bipush 6, 2), (31, .newarray .int, 2), (33, .putfield 21, 3), (36, .aload_n 0, 1), (37, .bipush 8, 2), (39, .newarray .int, 2), (41, .putfield 24, 3), (44, .return_, 1)])
set_option maxRecDepth 20000 in
theorem tX1_init : ∀ q ∈ mX1_init.2, decode mX1_init.1.2.2.1 q.1 = .ok q.2 := by decide +kernel
def mX2_init : kw_M := ((RX2, yX2_init, cX2_init, 1, none), [(0, .aload_n 0, 1), (1, .invokespecial 3, 3), (4, .aload_n 0, 1), (5, .new 9, 3), (8, .dup, 1), (9, .invokespecial 11, 3), (12, .putfield 12, 3), (15, .return_, 1)])
set_option maxRecDepth 20000 in
theorem tX2_init : ∀ q ∈ mX2_init.2, decode mX2_init.1.2.2.1 q.1 = .ok q.2 := by decide +kernel
def mX3_init : kw_M := ((RX3, yX3_init, cX3_init, 3, none), [(0, .aload_n 0, 1), (1, .invokespecial 3, 3), (4, .aload_n 0, 1), (5, .iload_n 2, 1), (6, .putfield 9, 3), (9, .aload_n 0, 1), (10, .iload_n 1, 1), (11, .iload_n 2, 1), (12, .multianewarray 15 2, 4), (16, .putfield 17, 3), (19, .aload_n 0, 1), (20, .iload_n 1, 1), (21, .newarray .int, 2), (23, .putfield 20, 3), (26, .aload_n 0, 1), (27, .getfield 20, 3), (30, .iconst (-1), 1), (31, .invokestatic 24, 3), (34, .return_, 1)])
set_option maxRecDepth 20000 in
theorem tX3_init : ∀ q ∈ mX3_init.2, decode mX3_init.1.2.2.1 q.1 = .ok q.2 := by decide +kernel
def mX4_init : kw_M := ((RX4, yX4_init, cX4_init, 1, none), [(0, .aload_n 0, 1), (1, .invokespecial 3, 3), (4, .aload_n 0, 1), (5, .bipush 6, 2), (7, .newarray .int, 2), (9, .putfield 9, 3), (12, .aload_n 0, 1), (13, .lconst 1, 1), (14, .putfield 15, 3), (17, .return_, 1)])
set_option maxRecDepth 20000 in
theorem tX4_init : ∀ q ∈ mX4_init.2, decode mX4_init.1.2.2.1 q.1 = .ok q.2 := by decide +kernel
def mX5_init : kw_M := ((RX5, yX5_init, cX5_init, 1, none), [(0, .aload_n 0, 1), (1, .invokespecial 3, 3), (4, .aload_n 0, 1), (5, .new 9, 3), (8, .dup, 1), (9, .invokespecial 11, 3), (12, .putfield 12, 3), (15, .aload_n 0, 1), (16, .bipush 40, 2), (18, .newarray .int, 2), (20, .putfield 18, 3), (23, .aload_n 0, 1), (24, .bipush 6, 2), (26, .newarray .int, 2), (28, .putfield 22, 3), (31, .return_, 1)])
set_option maxRecDepth 20000 in
theorem tX5_init : ∀ q ∈ mX5_init.2, decode mX5_init.1.2.2.1 q.1 = .ok q.2 := by decide +kernel
def mX6_init : kw_M := ((RX6, yX6_init, cX6_init, 2, none), [(0, .aload_n 0, 1), (1, .invokespecial 3, 3), (4, .aload_n 0, 1), (5, .iconst 3, 1), (6, .newarray .int, 2), (8, .putfield 9, 3), (11, .aload_n 0, 1), (12, .iconst 3, 1), (13, .anewarray 15, 3), (16, .putfield 17, 3), (19, .aload_n 0, 1), (20, .iconst 4, 1), (21, .newarray .int, 2), (23, .putfield 21, 3), (26, .aload_n 0, 1), (27, .iconst 3, 1), (28, .newarray .int, 2), (30, .putfield 24, 3), (33, .iconst 0, 1), (34, .istore_n 1, 1), (35, .iload_n 1, 1), (36, .iconst 3, 1), (37, .if_icmp .ge 22, 3), (40, .aload_n 0, 1), (41, .getfield 17, 3), (44, .iload_n 1, 1), (45, .new 15, 3), (48, .dup, 1), (49, .invokespecial 27, 3), (52, .aastore, 1), (53, .iinc 1 1, 3), (56, .goto (-21), 3), (59, .return_, 1)])
set_option maxRecDepth 20000 in
theorem tX6_init : ∀ q ∈ mX6_init.2, decode mX6_init.1.2.2.1 q.1 = .ok q.2 := by decide +kernel
def mX7_init : kw_M := ((RX7, yX7_init, cX7_init, 1, none), [(0, .aload_n 0, 1), (1, .invokespecial 3, 3), (4, .aload_n 0, 1), (5, .new 9, 3), (8, .dup, 1), (9, .bipush 6, 2), (11, .bipush 40, 2), (13, .invokespecial 11, 3), (16, .putfield 14, 3), (19, .aload_n 0, 1), (20, .new 9, 3), (23, .dup, 1), (24, .iconst 4, 1), (25, .bipush 60, 2), (27, .invokespecial 11, 3), (30, .putfield 18, 3), (33, .aload_n 0, 1), (34, .new 21, 3), (37, .dup, 1), (38, .invokespecial 23, 3), (41, .putfield 24, 3), (44, .aload_n 0, 1), (45, .new 28, 3), (48, .dup, 1), (49, .invokespecial 30, 3), (52, .putfield 31, 3), (55, .aload_n 0, 1), (56, .new 9, 3), (59, .dup, 1), (60, .iconst 3, 1), (61, .bipush 40, 2), (63, .invokespecial 11, 3), (66, .putfield 35, 3), (69, .aload_n 0, 1), (70, .new 38, 3), (73, .dup, 1), (74, .invokespecial 40, 3), (77, .putfield 41, 3), (80, .aload_n 0, 1), (81, .new 45, 3), (84, .dup, 1), (85, .invokespecial 47, 3), (88, .putfield 48, 3), (91, .aload_n 0, 1), (92, .new 52, 3), (95, .dup, 1), (96, .invokespecial 54, 3), (99, .putfield 55, 3), (102, .aload_n 0, 1), (103, .bipush 6, 2), (105, .newarray .int, 2), (107, .putfield 59, 3), (110, .aload_n 0, 1), (111, .bipush 6, 2), (113, .newarray .int, 2), (115, .putfield 63, 3), (118, .aload_n 0, 1), (119, .bipush 6, 2), (121, .newarray .int, 2), (123, .putfield 66, 3), (126, .return_, 1)])
set_option maxRecDepth 20000 in
theorem tX7_init : ∀ q ∈ mX7_init.2, decode mX7_init.1.2.2.1 q.1 = .ok q.2 := by decide +kernel
def mX8_init : kw_M := ((RX8, yX8_init, cX8_init, 2, none), [(0, .aload_n 0, 1), (1, .invokespecial 1, 3), (4, .aload_n 0, 1), (5, .bipush 6, 2), (7, .newarray .int, 2), (9, .putfield 7, 3), (12, .aload_n 0, 1), (13, .lconst 1, 1), (14, .putfield 13, 3), (17, .aload_n 0, 1), (18, .bipush 6, 2), (20, .newarray .int, 2), (22, .putfield 17, 3), (25, .aload_n 0, 1), (26, .sipush 240, 3), (29, .newarray .int, 2), (31, .putfield 20, 3), (34, .aload_n 0, 1), (35, .bipush 40, 2), (37, .newarray .int, 2), (39, .putfield 23, 3), (42, .aload_n 0, 1), (43, .iconst 4, 1), (44, .newarray .int, 2), (46, .putfield 26, 3), (49, .aload_n 0, 1), (50, .sipush 240, 3), (53, .newarray .int, 2), (55, .putfield 29, 3), (58, .aload_n 0, 1), (59, .iconst 1, 1), (60, .putfield 32, 3), (63, .aload_n 0, 1), (64, .bipush 8, 2), (66, .newarray .int, 2), (68, .putfield 36, 3), (71, .aload_n 0, 1), (72, .bipush 6, 2), (74, .newarray .int, 2), (76, .putfield 39, 3), (79, .aload_n 0, 1), (80, .bipush 6, 2), (82, .newarray .int, 2), (84, .putfield 42, 3), (87, .aload_n 0, 1), (88, .bipush 6, 2), (90, .newarray .int, 2), (92, .putfield 45, 3), (95, .aload_n 0, 1), (96, .bipush 6, 2), (98, .newarray .int, 2), (100, .putfield 48, 3), (103, .aload_n 0, 1), (104, .bipush 8, 2), (106, .newarray .int, 2), (108, .putfield 51, 3), (111, .aload_n 0, 1), (112, .bipush 24, 2), (114, .newarray .int, 2), (116, .putfield 54, 3), (119, .aload_n 0, 1), (120, .bipush 6, 2), (122, .newarray .int, 2), (124, .putfield 57, 3), (127, .aload_n 0, 1), (128, .sipush 400, 3), (131, .newarray .int, 2), (133, .putfield 60, 3), (136, .aload_n 0, 1), (137, .iconst 3, 1), (138, .newarray .int, 2), (140, .putfield 63, 3), (143, .aload_n 0, 1), (144, .sipush 1233, 3), (147, .newarray .int, 2), (149, .putfield 66, 3), (152, .aload_n 0, 1), (153, .sipush 192, 3), (156, .newarray .int, 2), (158, .putfield 69, 3), (161, .aload_n 0, 1), (162, .sipush 192, 3), (165, .newarray .int, 2), (167, .putfield 72, 3), (170, .aload_n 0, 1), (171, .iconst 3, 1), (172, .newarray .int, 2), (174, .putfield 75, 3), (177, .aload_n 0, 1), (178, .bipush 64, 2), (180, .newarray .int, 2), (182, .putfield 78, 3), (185, .aload_n 0, 1), (186, .bipush 64, 2), (188, .newarray .int, 2), (190, .putfield 81, 3), (193, .iconst 0, 1), (194, .istore_n 1, 1), (195, .iload_n 1, 1), (196, .bipush 6, 2), (198, .if_icmp .ge 17, 3), (201, .aload_n 0, 1), (202, .getfield 17, 3), (205, .iload_n 1, 1), (206, .bipush (-9), 2), (208, .iastore, 1), (209, .iinc 1 1, 3), (212, .goto (-17), 3), (215, .iconst 0, 1), (216, .istore_n 1, 1), (217, .iload_n 1, 1), (218, .iconst 4, 1), (219, .if_icmp .ge 17, 3), (222, .aload_n 0, 1), (223, .getfield 26, 3), (226, .iload_n 1, 1), (227, .bipush (-9), 2), (229, .iastore, 1), (230, .iinc 1 1, 3), (233, .goto (-16), 3), (236, .return_, 1)])
set_option maxRecDepth 20000 in
theorem tX8_init : ∀ q ∈ mX8_init.2, decode mX8_init.1.2.2.1 q.1 = .ok q.2 := by decide +kernel
theorem kcL_7 : Cond.classLink RL 7 RX7 ∈ kw_ws := kz_1 (List.mem_of_getElem? (i := 14) (by first | exact rfl | decide +kernel)) rfl
theorem wKX7 : Cond.instantiable RX7 11 ∈ kw_ws := kz_1 (List.mem_of_getElem? (i := 15) (by first | exact rfl | decide +kernel)) rfl
theorem kmL_9 : Cond.methodLink RL 9 yX7_init ∈ kw_ws := kz_1 (List.mem_of_getElem? (i := 16) (by first | exact rfl | decide +kernel)) rfl
theorem wIX7_init : Cond.instanceMethod yX7_init ∈ kw_ws := kz_1 (List.mem_of_getElem? (i := 17) (by first | exact rfl | decide +kernel)) rfl
theorem wCX7_init : Cond.code yX7_init cX7_init 1 none ∈ kw_ws := kz_1 (List.mem_of_getElem? (i := 18) (by first | exact rfl | decide +kernel)) rfl
theorem kmX7_3 : Cond.methodLink RX7 3 objectInit ∈ kw_ws := kz_1 (List.mem_of_getElem? (i := 19) (by first | exact rfl | decide +kernel)) rfl
theorem wIObj : Cond.instanceMethod objectInit ∈ kw_ws := kz_1 (List.mem_of_getElem? (i := 20) (by first | exact rfl | decide +kernel)) rfl
theorem wCObj : Cond.code objectInit ⟨#[0xb1]⟩ 1 none ∈ kw_ws := kz_1 (List.mem_of_getElem? (i := 21) (by first | exact rfl | decide +kernel)) rfl
theorem kcX7_9 : Cond.classLink RX7 9 RX3 ∈ kw_ws := kz_1 (List.mem_of_getElem? (i := 22) (by first | exact rfl | decide +kernel)) rfl
theorem wKX3 : Cond.instantiable RX3 3 ∈ kw_ws := kz_1 (List.mem_of_getElem? (i := 23) (by first | exact rfl | decide +kernel)) rfl
theorem kmX7_11 : Cond.methodLink RX7 11 yX3_init ∈ kw_ws := kz_1 (List.mem_of_getElem? (i := 24) (by first | exact rfl | decide +kernel)) rfl
theorem wIX3_init : Cond.instanceMethod yX3_init ∈ kw_ws := kz_1 (List.mem_of_getElem? (i := 25) (by first | exact rfl | decide +kernel)) rfl
theorem wCX3_init : Cond.code yX3_init cX3_init 3 none ∈ kw_ws := kz_1 (List.mem_of_getElem? (i := 26) (by first | exact rfl | decide +kernel)) rfl
theorem kmX3_3 : Cond.methodLink RX3 3 objectInit ∈ kw_ws := kz_1 (List.mem_of_getElem? (i := 27) (by first | exact rfl | decide +kernel)) rfl
theorem kcX3_15 : Cond.classLink RX3 15 "[[I" ∈ kw_ws := kz_1 (List.mem_of_getElem? (i := 28) (by first | exact rfl | decide +kernel)) rfl
theorem wArr : Cond.arrayClass .int ∈ kw_ws := kz_1 (List.mem_of_getElem? (i := 44) (by first | exact rfl | decide +kernel)) rfl
theorem kcX7_21 : Cond.classLink RX7 21 RX2 ∈ kw_ws := kz_1 (List.mem_of_getElem? (i := 45) (by first | exact rfl | decide +kernel)) rfl
theorem wKX2 : Cond.instantiable RX2 2 ∈ kw_ws := kz_1 (List.mem_of_getElem? (i := 46) (by first | exact rfl | decide +kernel)) rfl
theorem wIX2_init : Cond.instanceMethod yX2_init ∈ kw_ws := kz_1 (List.mem_of_getElem? (i := 48) (by first | exact rfl | decide +kernel)) rfl
theorem wCX2_init : Cond.code yX2_init cX2_init 1 none ∈ kw_ws := kz_1 (List.mem_of_getElem? (i := 49) (by first | exact rfl | decide +kernel)) rfl
theorem kmX2_3 : Cond.methodLink RX2 3 objectInit ∈ kw_ws := kz_1 (List.mem_of_getElem? (i := 50) (by first | exact rfl | decide +kernel)) rfl
theorem kcX2_9 : Cond.classLink RX2 9 RX1 ∈ kw_ws := kz_1 (List.mem_of_getElem? (i := 51) (by first | exact rfl | decide +kernel)) rfl
theorem wKX1 : Cond.instantiable RX1 7 ∈ kw_ws := kz_1 (List.mem_of_getElem? (i := 52) (by first | exact rfl | decide +kernel)) rfl
theorem wIX1_init : Cond.instanceMethod yX1_init ∈ kw_ws := kz_1 (List.mem_of_getElem? (i := 54) (by first | exact rfl | decide +kernel)) rfl
theorem wCX1_init : Cond.code yX1_init cX1_init 1 none ∈ kw_ws := kz_1 (List.mem_of_getElem? (i := 55) (by first | exact rfl | decide +kernel)) rfl
theorem kmX1_3 : Cond.methodLink RX1 3 objectInit ∈ kw_ws := kz_1 (List.mem_of_getElem? (i := 56) (by first | exact rfl | decide +kernel)) rfl
theorem kcX7_28 : Cond.classLink RX7 28 RX5 ∈ kw_ws := kz_1 (List.mem_of_getElem? (i := 104) (by first | exact rfl | decide +kernel)) rfl
theorem wKX5 : Cond.instantiable RX5 8 ∈ kw_ws := kz_1 (List.mem_of_getElem? (i := 105) (by first | exact rfl | decide +kernel)) rfl
theorem wIX5_init : Cond.instanceMethod yX5_init ∈ kw_ws := kz_1 (List.mem_of_getElem? (i := 107) (by first | exact rfl | decide +kernel)) rfl
theorem wCX5_init : Cond.code yX5_init cX5_init 1 none ∈ kw_ws := kz_1 (List.mem_of_getElem? (i := 108) (by first | exact rfl | decide +kernel)) rfl
theorem kmX5_3 : Cond.methodLink RX5 3 objectInit ∈ kw_ws := kz_1 (List.mem_of_getElem? (i := 109) (by first | exact rfl | decide +kernel)) rfl
theorem kcX5_9 : Cond.classLink RX5 9 RX1 ∈ kw_ws := kz_1 (List.mem_of_getElem? (i := 110) (by first | exact rfl | decide +kernel)) rfl
theorem kcX7_38 : Cond.classLink RX7 38 RX0 ∈ kw_ws := kz_1 (List.mem_of_getElem? (i := 148) (by first | exact rfl | decide +kernel)) rfl
theorem wKX0 : Cond.instantiable RX0 4 ∈ kw_ws := kz_1 (List.mem_of_getElem? (i := 149) (by first | exact rfl | decide +kernel)) rfl
theorem wIX0_init : Cond.instanceMethod yX0_init ∈ kw_ws := kz_1 (List.mem_of_getElem? (i := 151) (by first | exact rfl | decide +kernel)) rfl
theorem wCX0_init : Cond.code yX0_init cX0_init 1 none ∈ kw_ws := kz_1 (List.mem_of_getElem? (i := 152) (by first | exact rfl | decide +kernel)) rfl
theorem kmX0_3 : Cond.methodLink RX0 3 objectInit ∈ kw_ws := kz_1 (List.mem_of_getElem? (i := 153) (by first | exact rfl | decide +kernel)) rfl
theorem kcX7_45 : Cond.classLink RX7 45 RX6 ∈ kw_ws := kz_1 (List.mem_of_getElem? (i := 170) (by first | exact rfl | decide +kernel)) rfl
theorem wKX6 : Cond.instantiable RX6 8 ∈ kw_ws := kz_1 (List.mem_of_getElem? (i := 171) (by first | exact rfl | decide +kernel)) rfl
theorem kmX7_47 : Cond.methodLink RX7 47 yX6_init ∈ kw_ws := kz_1 (List.mem_of_getElem? (i := 172) (by first | exact rfl | decide +kernel)) rfl
theorem wIX6_init : Cond.instanceMethod yX6_init ∈ kw_ws := kz_1 (List.mem_of_getElem? (i := 173) (by first | exact rfl | decide +kernel)) rfl
theorem wCX6_init : Cond.code yX6_init cX6_init 2 none ∈ kw_ws := kz_1 (List.mem_of_getElem? (i := 174) (by first | exact rfl | decide +kernel)) rfl
theorem kmX6_3 : Cond.methodLink RX6 3 objectInit ∈ kw_ws := kz_1 (List.mem_of_getElem? (i := 175) (by first | exact rfl | decide +kernel)) rfl
theorem kcX6_15 : Cond.classLink RX6 15 RX0 ∈ kw_ws := kz_1 (List.mem_of_getElem? (i := 176) (by first | exact rfl | decide +kernel)) rfl
theorem kcX7_52 : Cond.classLink RX7 52 RX4 ∈ kw_ws := kz_1 (List.mem_of_getElem? (i := 206) (by first | exact rfl | decide +kernel)) rfl
theorem wKX4 : Cond.instantiable RX4 5 ∈ kw_ws := kz_1 (List.mem_of_getElem? (i := 207) (by first | exact rfl | decide +kernel)) rfl
theorem wIX4_init : Cond.instanceMethod yX4_init ∈ kw_ws := kz_1 (List.mem_of_getElem? (i := 209) (by first | exact rfl | decide +kernel)) rfl
theorem wCX4_init : Cond.code yX4_init cX4_init 1 none ∈ kw_ws := kz_1 (List.mem_of_getElem? (i := 210) (by first | exact rfl | decide +kernel)) rfl
theorem kmX4_3 : Cond.methodLink RX4 3 objectInit ∈ kw_ws := kz_1 (List.mem_of_getElem? (i := 211) (by first | exact rfl | decide +kernel)) rfl
theorem kcL_10 : Cond.classLink RL 10 RX8 ∈ kw_ws := kz_4 (List.mem_of_getElem? (i := 37) (by first | exact rfl | decide +kernel)) rfl
theorem wKX8 : Cond.instantiable RX8 37 ∈ kw_ws := kz_4 (List.mem_of_getElem? (i := 38) (by first | exact rfl | decide +kernel)) rfl
theorem kmL_12 : Cond.methodLink RL 12 yX8_init ∈ kw_ws := kz_4 (List.mem_of_getElem? (i := 39) (by first | exact rfl | decide +kernel)) rfl
theorem wIX8_init : Cond.instanceMethod yX8_init ∈ kw_ws := kz_4 (List.mem_of_getElem? (i := 40) (by first | exact rfl | decide +kernel)) rfl
theorem wCX8_init : Cond.code yX8_init cX8_init 2 none ∈ kw_ws := kz_4 (List.mem_of_getElem? (i := 41) (by first | exact rfl | decide +kernel)) rfl
theorem kmX8_1 : Cond.methodLink RX8 1 objectInit ∈ kw_ws := kz_4 (List.mem_of_getElem? (i := 42) (by first | exact rfl | decide +kernel)) rfl
def kc_NM : List (String × Nat × MethodName) := [(RX7, 23, yX2_init), (RX2, 11, yX1_init), (RX7, 30, yX5_init), (RX5, 11, yX1_init), (RX7, 40, yX0_init), (RX6, 27, yX0_init), (RX7, 54, yX4_init)]
abbrev kc_PD (D : va_G) (A : Nat → Prop) (H : Heap) (w : va_W) : Prop := va_P D vwCl w H ∧ va_D A w
theorem kc_dec {bs : ByteArray} {tb : List (Nat × Instr × Nat)} (h : ∀ q ∈ tb, decode bs q.1 = .ok q.2) (i : Nat) {pc len : Nat} {ins : Instr} (hi : tb[i]? = some (pc, ins, len)) : decode bs pc = .ok (ins, len) := h (pc, ins, len) (List.mem_of_getElem? hi)
abbrev kc_tys (cI cII cC : ClassId) : List (ClassId × FieldType) := [(cI, .int), (cII, .array .int), (cC, .object "WashSails$Chart")]
theorem kc_same {D : va_G} {cl : List vw_C} {tys : List (ClassId × FieldType)} {s : State} (h : va_K D cl tys s) (i j : Nat) {c c' : ClassId} (hi : tys[i]? = some (c, .int)) (hj : tys[j]? = some (c', .int)) : c = c' := by
  have a : s.vm.findClass ("[" ++ FieldType.int.toString) = some c := (h.2 i _ hi).2
  have b : s.vm.findClass ("[" ++ FieldType.int.toString) = some c' := (h.2 j _ hj).2
  exact Option.some.inj (a.symm.trans b)
/-- what the tables say beside kw_ws: links of nest mates' constructors, arrays of arrays, arrays of charts -/
def kc_AOA (U : State) : Prop := (Cond.arrayOver (.array .int)).before #[] U = true
theorem kc_AOA.moved {u U : State} (h : u.vm.Alike U.vm) (hu : kc_AOA u) : kc_AOA U := by
  have h1 := Cond.arrayOver_setVmC (args := #[]) h (.array .int)
  have h2 : (Cond.arrayOver (.array .int)).before #[] (u.setVm U.vm) = true := h1.trans hu
  exact h2
def kc_St (U : State) : Prop := (∀ q ∈ kc_NM, va_Nw (.methodLinkNest q.1 q.2.1 q.2.2 "WashSails") U) ∧ va_AO "WashSails$Chart" U ∧ kc_AOA U
theorem kc_St.calling {U : State} (h : kc_St U) (g : JFrame) (mk : MethodId) (a : Array Value) : kc_St (U.calling g mk a) :=
  ⟨fun q hq => va_Nw.same (u := U) (U := U.calling g mk a) rfl rfl (h.1 q hq), va_AO.moved (u := U) (U := U.calling g mk a) (Vm.Alike.refl U.vm) h.2.1, kc_AOA.moved (u := U) (U := U.calling g mk a) (Vm.Alike.refl U.vm) h.2.2⟩
theorem kc_St.next {s U : State} (h : kc_St s) (hW : s.WarmedH U.vm) : kc_St U := ⟨fun q hq => va_Nw.warmM hW (h.1 q hq), h.2.1.moved hW.alike, h.2.2.moved hW.alike⟩
def kc_Pre (D : va_G) (cI cII cC : ClassId) (sz : Nat) (av : List Value) (ws : va_W) : Array Value → State → Prop :=
  va_Pc av (fun U => U.heap.size = sz ∧ va_P D vwCl ws U.heap ∧ va_K D vwCl (kc_tys cI cII cC) U ∧ va_D (fun _ => True) ws ∧ kc_St U)
theorem kc_blind {D : va_G} {cI cII cC : ClassId} {sz : Nat} {av : List Value} {ws : va_W} : FrameBlind (kc_Pre D cI cII cC sz av ws) := by
  intro a U g mk q
  obtain ⟨q0, q1, qP, qK, qD, qS⟩ := q
  exact ⟨q0, q1, qP, va_K.moved (u := U) (U := U.calling g mk a) (Vm.Alike.refl U.vm) qK, qD, qS.calling g mk a⟩
def kc_rm (d c n : Nat) : Room := { frames := d, cells := c, slots := n, locals := 60 * d }
end
section
theorem dX0_init_0 : decode cX0_init 0 = .ok (.aload_n 0, 1) := by decide +kernel
theorem dX0_init_1 : decode cX0_init 1 = .ok (.invokespecial 3, 3) := by decide +kernel
theorem dX0_init_4 : decode cX0_init 4 = .ok (.aload_n 0, 1) := by decide +kernel
theorem dX0_init_5 : decode cX0_init 5 = .ok (.bipush 64, 2) := by decide +kernel
theorem dX0_init_7 : decode cX0_init 7 = .ok (.newarray .int, 2) := by decide +kernel
theorem dX0_init_9 : decode cX0_init 9 = .ok (.putfield 9, 3) := by decide +kernel
theorem dX0_init_12 : decode cX0_init 12 = .ok (.aload_n 0, 1) := by decide +kernel
theorem dX0_init_13 : decode cX0_init 13 = .ok (.bipush 64, 2) := by decide +kernel
theorem dX0_init_15 : decode cX0_init 15 = .ok (.newarray .int, 2) := by decide +kernel
theorem dX0_init_17 : decode cX0_init 17 = .ok (.putfield 15, 3) := by decide +kernel
theorem dX0_init_20 : decode cX0_init 20 = .ok (.return_, 1) := by decide +kernel
theorem dX1_init_0 : decode cX1_init 0 = .ok (.aload_n 0, 1) := by decide +kernel
theorem dX1_init_1 : decode cX1_init 1 = .ok (.invokespecial 3, 3) := by decide +kernel
theorem dX1_init_4 : decode cX1_init 4 = .ok (.aload_n 0, 1) := by decide +kernel
theorem dX1_init_5 : decode cX1_init 5 = .ok (.bipush 6, 2) := by decide +kernel
theorem dX1_init_7 : decode cX1_init 7 = .ok (.newarray .int, 2) := by decide +kernel
theorem dX1_init_9 : decode cX1_init 9 = .ok (.putfield 9, 3) := by decide +kernel
theorem dX1_init_12 : decode cX1_init 12 = .ok (.aload_n 0, 1) := by decide +kernel
theorem dX1_init_13 : decode cX1_init 13 = .ok (.bipush 6, 2) := by decide +kernel
theorem dX1_init_15 : decode cX1_init 15 = .ok (.newarray .int, 2) := by decide +kernel
theorem dX1_init_17 : decode cX1_init 17 = .ok (.putfield 15, 3) := by decide +kernel
theorem dX1_init_20 : decode cX1_init 20 = .ok (.aload_n 0, 1) := by decide +kernel
theorem dX1_init_21 : decode cX1_init 21 = .ok (.bipush 6, 2) := by decide +kernel
theorem dX1_init_23 : decode cX1_init 23 = .ok (.newarray .int, 2) := by decide +kernel
theorem dX1_init_25 : decode cX1_init 25 = .ok (.putfield 18, 3) := by decide +kernel
theorem dX1_init_28 : decode cX1_init 28 = .ok (.aload_n 0, 1) := by decide +kernel
theorem dX1_init_29 : decode cX1_init 29 = .ok (.bipush 6, 2) := by decide +kernel
theorem dX1_init_31 : decode cX1_init 31 = .ok (.newarray .int, 2) := by decide +kernel
theorem dX1_init_33 : decode cX1_init 33 = .ok (.putfield 21, 3) := by decide +kernel
theorem dX1_init_36 : decode cX1_init 36 = .ok (.aload_n 0, 1) := by decide +kernel
theorem dX1_init_37 : decode cX1_init 37 = .ok (.bipush 8, 2) := by decide +kernel
theorem dX1_init_39 : decode cX1_init 39 = .ok (.newarray .int, 2) := by decide +kernel
theorem dX1_init_41 : decode cX1_init 41 = .ok (.putfield 24, 3) := by decide +kernel
theorem dX1_init_44 : decode cX1_init 44 = .ok (.return_, 1) := by decide +kernel
theorem dX2_init_0 : decode cX2_init 0 = .ok (.aload_n 0, 1) := by decide +kernel
theorem dX2_init_1 : decode cX2_init 1 = .ok (.invokespecial 3, 3) := by decide +kernel
theorem dX2_init_4 : decode cX2_init 4 = .ok (.aload_n 0, 1) := by decide +kernel
theorem dX2_init_5 : decode cX2_init 5 = .ok (.new 9, 3) := by decide +kernel
theorem dX2_init_8 : decode cX2_init 8 = .ok (.dup, 1) := by decide +kernel
theorem dX2_init_9 : decode cX2_init 9 = .ok (.invokespecial 11, 3) := by decide +kernel
theorem dX2_init_12 : decode cX2_init 12 = .ok (.putfield 12, 3) := by decide +kernel
theorem dX2_init_15 : decode cX2_init 15 = .ok (.return_, 1) := by decide +kernel
theorem dX3_init_0 : decode cX3_init 0 = .ok (.aload_n 0, 1) := by decide +kernel
theorem dX3_init_1 : decode cX3_init 1 = .ok (.invokespecial 3, 3) := by decide +kernel
theorem dX3_init_4 : decode cX3_init 4 = .ok (.aload_n 0, 1) := by decide +kernel
theorem dX3_init_5 : decode cX3_init 5 = .ok (.iload_n 2, 1) := by decide +kernel
theorem dX3_init_6 : decode cX3_init 6 = .ok (.putfield 9, 3) := by decide +kernel
theorem dX3_init_9 : decode cX3_init 9 = .ok (.aload_n 0, 1) := by decide +kernel
theorem dX3_init_10 : decode cX3_init 10 = .ok (.iload_n 1, 1) := by decide +kernel
theorem dX3_init_11 : decode cX3_init 11 = .ok (.iload_n 2, 1) := by decide +kernel
theorem dX3_init_12 : decode cX3_init 12 = .ok (.multianewarray 15 2, 4) := by decide +kernel
theorem dX3_init_16 : decode cX3_init 16 = .ok (.putfield 17, 3) := by decide +kernel
theorem dX3_init_19 : decode cX3_init 19 = .ok (.aload_n 0, 1) := by decide +kernel
theorem dX3_init_20 : decode cX3_init 20 = .ok (.iload_n 1, 1) := by decide +kernel
theorem dX3_init_21 : decode cX3_init 21 = .ok (.newarray .int, 2) := by decide +kernel
theorem dX3_init_23 : decode cX3_init 23 = .ok (.putfield 20, 3) := by decide +kernel
theorem dX3_init_26 : decode cX3_init 26 = .ok (.aload_n 0, 1) := by decide +kernel
theorem dX3_init_27 : decode cX3_init 27 = .ok (.getfield 20, 3) := by decide +kernel
theorem dX3_init_30 : decode cX3_init 30 = .ok (.iconst (-1), 1) := by decide +kernel
theorem dX3_init_31 : decode cX3_init 31 = .ok (.invokestatic 24, 3) := by decide +kernel
theorem dX3_init_34 : decode cX3_init 34 = .ok (.return_, 1) := by decide +kernel
theorem dX4_init_0 : decode cX4_init 0 = .ok (.aload_n 0, 1) := by decide +kernel
theorem dX4_init_1 : decode cX4_init 1 = .ok (.invokespecial 3, 3) := by decide +kernel
theorem dX4_init_4 : decode cX4_init 4 = .ok (.aload_n 0, 1) := by decide +kernel
theorem dX4_init_5 : decode cX4_init 5 = .ok (.bipush 6, 2) := by decide +kernel
theorem dX4_init_7 : decode cX4_init 7 = .ok (.newarray .int, 2) := by decide +kernel
theorem dX4_init_9 : decode cX4_init 9 = .ok (.putfield 9, 3) := by decide +kernel
theorem dX4_init_12 : decode cX4_init 12 = .ok (.aload_n 0, 1) := by decide +kernel
theorem dX4_init_13 : decode cX4_init 13 = .ok (.lconst 1, 1) := by decide +kernel
theorem dX4_init_14 : decode cX4_init 14 = .ok (.putfield 15, 3) := by decide +kernel
theorem dX4_init_17 : decode cX4_init 17 = .ok (.return_, 1) := by decide +kernel
theorem dX5_init_0 : decode cX5_init 0 = .ok (.aload_n 0, 1) := by decide +kernel
theorem dX5_init_1 : decode cX5_init 1 = .ok (.invokespecial 3, 3) := by decide +kernel
theorem dX5_init_4 : decode cX5_init 4 = .ok (.aload_n 0, 1) := by decide +kernel
theorem dX5_init_5 : decode cX5_init 5 = .ok (.new 9, 3) := by decide +kernel
theorem dX5_init_8 : decode cX5_init 8 = .ok (.dup, 1) := by decide +kernel
theorem dX5_init_9 : decode cX5_init 9 = .ok (.invokespecial 11, 3) := by decide +kernel
theorem dX5_init_12 : decode cX5_init 12 = .ok (.putfield 12, 3) := by decide +kernel
theorem dX5_init_15 : decode cX5_init 15 = .ok (.aload_n 0, 1) := by decide +kernel
theorem dX5_init_16 : decode cX5_init 16 = .ok (.bipush 40, 2) := by decide +kernel
theorem dX5_init_18 : decode cX5_init 18 = .ok (.newarray .int, 2) := by decide +kernel
theorem dX5_init_20 : decode cX5_init 20 = .ok (.putfield 18, 3) := by decide +kernel
theorem dX5_init_23 : decode cX5_init 23 = .ok (.aload_n 0, 1) := by decide +kernel
theorem dX5_init_24 : decode cX5_init 24 = .ok (.bipush 6, 2) := by decide +kernel
theorem dX5_init_26 : decode cX5_init 26 = .ok (.newarray .int, 2) := by decide +kernel
theorem dX5_init_28 : decode cX5_init 28 = .ok (.putfield 22, 3) := by decide +kernel
theorem dX5_init_31 : decode cX5_init 31 = .ok (.return_, 1) := by decide +kernel
theorem dX6_init_0 : decode cX6_init 0 = .ok (.aload_n 0, 1) := by decide +kernel
theorem dX6_init_1 : decode cX6_init 1 = .ok (.invokespecial 3, 3) := by decide +kernel
theorem dX6_init_4 : decode cX6_init 4 = .ok (.aload_n 0, 1) := by decide +kernel
theorem dX6_init_5 : decode cX6_init 5 = .ok (.iconst 3, 1) := by decide +kernel
theorem dX6_init_6 : decode cX6_init 6 = .ok (.newarray .int, 2) := by decide +kernel
theorem dX6_init_8 : decode cX6_init 8 = .ok (.putfield 9, 3) := by decide +kernel
theorem dX6_init_11 : decode cX6_init 11 = .ok (.aload_n 0, 1) := by decide +kernel
theorem dX6_init_12 : decode cX6_init 12 = .ok (.iconst 3, 1) := by decide +kernel
theorem dX6_init_13 : decode cX6_init 13 = .ok (.anewarray 15, 3) := by decide +kernel
theorem dX6_init_16 : decode cX6_init 16 = .ok (.putfield 17, 3) := by decide +kernel
theorem dX6_init_19 : decode cX6_init 19 = .ok (.aload_n 0, 1) := by decide +kernel
theorem dX6_init_20 : decode cX6_init 20 = .ok (.iconst 4, 1) := by decide +kernel
theorem dX6_init_21 : decode cX6_init 21 = .ok (.newarray .int, 2) := by decide +kernel
theorem dX6_init_23 : decode cX6_init 23 = .ok (.putfield 21, 3) := by decide +kernel
theorem dX6_init_26 : decode cX6_init 26 = .ok (.aload_n 0, 1) := by decide +kernel
theorem dX6_init_27 : decode cX6_init 27 = .ok (.iconst 3, 1) := by decide +kernel
theorem dX6_init_28 : decode cX6_init 28 = .ok (.newarray .int, 2) := by decide +kernel
theorem dX6_init_30 : decode cX6_init 30 = .ok (.putfield 24, 3) := by decide +kernel
theorem dX6_init_33 : decode cX6_init 33 = .ok (.iconst 0, 1) := by decide +kernel
theorem dX6_init_34 : decode cX6_init 34 = .ok (.istore_n 1, 1) := by decide +kernel
theorem dX6_init_35 : decode cX6_init 35 = .ok (.iload_n 1, 1) := by decide +kernel
theorem dX6_init_36 : decode cX6_init 36 = .ok (.iconst 3, 1) := by decide +kernel
theorem dX6_init_37 : decode cX6_init 37 = .ok (.if_icmp .ge 22, 3) := by decide +kernel
theorem dX6_init_40 : decode cX6_init 40 = .ok (.aload_n 0, 1) := by decide +kernel
theorem dX6_init_41 : decode cX6_init 41 = .ok (.getfield 17, 3) := by decide +kernel
theorem dX6_init_44 : decode cX6_init 44 = .ok (.iload_n 1, 1) := by decide +kernel
theorem dX6_init_45 : decode cX6_init 45 = .ok (.new 15, 3) := by decide +kernel
theorem dX6_init_48 : decode cX6_init 48 = .ok (.dup, 1) := by decide +kernel
theorem dX6_init_49 : decode cX6_init 49 = .ok (.invokespecial 27, 3) := by decide +kernel
theorem dX6_init_52 : decode cX6_init 52 = .ok (.aastore, 1) := by decide +kernel
theorem dX6_init_53 : decode cX6_init 53 = .ok (.iinc 1 1, 3) := by decide +kernel
theorem dX6_init_56 : decode cX6_init 56 = .ok (.goto (-21), 3) := by decide +kernel
theorem dX6_init_59 : decode cX6_init 59 = .ok (.return_, 1) := by decide +kernel
theorem dX7_init_0 : decode cX7_init 0 = .ok (.aload_n 0, 1) := by decide +kernel
theorem dX7_init_1 : decode cX7_init 1 = .ok (.invokespecial 3, 3) := by decide +kernel
theorem dX7_init_4 : decode cX7_init 4 = .ok (.aload_n 0, 1) := by decide +kernel
theorem dX7_init_5 : decode cX7_init 5 = .ok (.new 9, 3) := by decide +kernel
theorem dX7_init_8 : decode cX7_init 8 = .ok (.dup, 1) := by decide +kernel
theorem dX7_init_9 : decode cX7_init 9 = .ok (.bipush 6, 2) := by decide +kernel
theorem dX7_init_11 : decode cX7_init 11 = .ok (.bipush 40, 2) := by decide +kernel
theorem dX7_init_13 : decode cX7_init 13 = .ok (.invokespecial 11, 3) := by decide +kernel
theorem dX7_init_16 : decode cX7_init 16 = .ok (.putfield 14, 3) := by decide +kernel
theorem dX7_init_19 : decode cX7_init 19 = .ok (.aload_n 0, 1) := by decide +kernel
theorem dX7_init_20 : decode cX7_init 20 = .ok (.new 9, 3) := by decide +kernel
theorem dX7_init_23 : decode cX7_init 23 = .ok (.dup, 1) := by decide +kernel
theorem dX7_init_24 : decode cX7_init 24 = .ok (.iconst 4, 1) := by decide +kernel
theorem dX7_init_25 : decode cX7_init 25 = .ok (.bipush 60, 2) := by decide +kernel
theorem dX7_init_27 : decode cX7_init 27 = .ok (.invokespecial 11, 3) := by decide +kernel
theorem dX7_init_30 : decode cX7_init 30 = .ok (.putfield 18, 3) := by decide +kernel
theorem dX7_init_33 : decode cX7_init 33 = .ok (.aload_n 0, 1) := by decide +kernel
theorem dX7_init_34 : decode cX7_init 34 = .ok (.new 21, 3) := by decide +kernel
theorem dX7_init_37 : decode cX7_init 37 = .ok (.dup, 1) := by decide +kernel
theorem dX7_init_38 : decode cX7_init 38 = .ok (.invokespecial 23, 3) := by decide +kernel
theorem dX7_init_41 : decode cX7_init 41 = .ok (.putfield 24, 3) := by decide +kernel
theorem dX7_init_44 : decode cX7_init 44 = .ok (.aload_n 0, 1) := by decide +kernel
theorem dX7_init_45 : decode cX7_init 45 = .ok (.new 28, 3) := by decide +kernel
theorem dX7_init_48 : decode cX7_init 48 = .ok (.dup, 1) := by decide +kernel
theorem dX7_init_49 : decode cX7_init 49 = .ok (.invokespecial 30, 3) := by decide +kernel
theorem dX7_init_52 : decode cX7_init 52 = .ok (.putfield 31, 3) := by decide +kernel
theorem dX7_init_55 : decode cX7_init 55 = .ok (.aload_n 0, 1) := by decide +kernel
theorem dX7_init_56 : decode cX7_init 56 = .ok (.new 9, 3) := by decide +kernel
theorem dX7_init_59 : decode cX7_init 59 = .ok (.dup, 1) := by decide +kernel
theorem dX7_init_60 : decode cX7_init 60 = .ok (.iconst 3, 1) := by decide +kernel
theorem dX7_init_61 : decode cX7_init 61 = .ok (.bipush 40, 2) := by decide +kernel
theorem dX7_init_63 : decode cX7_init 63 = .ok (.invokespecial 11, 3) := by decide +kernel
theorem dX7_init_66 : decode cX7_init 66 = .ok (.putfield 35, 3) := by decide +kernel
theorem dX7_init_69 : decode cX7_init 69 = .ok (.aload_n 0, 1) := by decide +kernel
theorem dX7_init_70 : decode cX7_init 70 = .ok (.new 38, 3) := by decide +kernel
theorem dX7_init_73 : decode cX7_init 73 = .ok (.dup, 1) := by decide +kernel
theorem dX7_init_74 : decode cX7_init 74 = .ok (.invokespecial 40, 3) := by decide +kernel
theorem dX7_init_77 : decode cX7_init 77 = .ok (.putfield 41, 3) := by decide +kernel
theorem dX7_init_80 : decode cX7_init 80 = .ok (.aload_n 0, 1) := by decide +kernel
theorem dX7_init_81 : decode cX7_init 81 = .ok (.new 45, 3) := by decide +kernel
theorem dX7_init_84 : decode cX7_init 84 = .ok (.dup, 1) := by decide +kernel
theorem dX7_init_85 : decode cX7_init 85 = .ok (.invokespecial 47, 3) := by decide +kernel
theorem dX7_init_88 : decode cX7_init 88 = .ok (.putfield 48, 3) := by decide +kernel
theorem dX7_init_91 : decode cX7_init 91 = .ok (.aload_n 0, 1) := by decide +kernel
theorem dX7_init_92 : decode cX7_init 92 = .ok (.new 52, 3) := by decide +kernel
theorem dX7_init_95 : decode cX7_init 95 = .ok (.dup, 1) := by decide +kernel
theorem dX7_init_96 : decode cX7_init 96 = .ok (.invokespecial 54, 3) := by decide +kernel
theorem dX7_init_99 : decode cX7_init 99 = .ok (.putfield 55, 3) := by decide +kernel
theorem dX7_init_102 : decode cX7_init 102 = .ok (.aload_n 0, 1) := by decide +kernel
theorem dX7_init_103 : decode cX7_init 103 = .ok (.bipush 6, 2) := by decide +kernel
theorem dX7_init_105 : decode cX7_init 105 = .ok (.newarray .int, 2) := by decide +kernel
theorem dX7_init_107 : decode cX7_init 107 = .ok (.putfield 59, 3) := by decide +kernel
theorem dX7_init_110 : decode cX7_init 110 = .ok (.aload_n 0, 1) := by decide +kernel
theorem dX7_init_111 : decode cX7_init 111 = .ok (.bipush 6, 2) := by decide +kernel
theorem dX7_init_113 : decode cX7_init 113 = .ok (.newarray .int, 2) := by decide +kernel
theorem dX7_init_115 : decode cX7_init 115 = .ok (.putfield 63, 3) := by decide +kernel
theorem dX7_init_118 : decode cX7_init 118 = .ok (.aload_n 0, 1) := by decide +kernel
theorem dX7_init_119 : decode cX7_init 119 = .ok (.bipush 6, 2) := by decide +kernel
theorem dX7_init_121 : decode cX7_init 121 = .ok (.newarray .int, 2) := by decide +kernel
theorem dX7_init_123 : decode cX7_init 123 = .ok (.putfield 66, 3) := by decide +kernel
theorem dX7_init_126 : decode cX7_init 126 = .ok (.return_, 1) := by decide +kernel
theorem dX8_init_0 : decode cX8_init 0 = .ok (.aload_n 0, 1) := by decide +kernel
theorem dX8_init_1 : decode cX8_init 1 = .ok (.invokespecial 1, 3) := by decide +kernel
theorem dX8_init_4 : decode cX8_init 4 = .ok (.aload_n 0, 1) := by decide +kernel
theorem dX8_init_5 : decode cX8_init 5 = .ok (.bipush 6, 2) := by decide +kernel
theorem dX8_init_7 : decode cX8_init 7 = .ok (.newarray .int, 2) := by decide +kernel
theorem dX8_init_9 : decode cX8_init 9 = .ok (.putfield 7, 3) := by decide +kernel
theorem dX8_init_12 : decode cX8_init 12 = .ok (.aload_n 0, 1) := by decide +kernel
theorem dX8_init_13 : decode cX8_init 13 = .ok (.lconst 1, 1) := by decide +kernel
theorem dX8_init_14 : decode cX8_init 14 = .ok (.putfield 13, 3) := by decide +kernel
theorem dX8_init_17 : decode cX8_init 17 = .ok (.aload_n 0, 1) := by decide +kernel
theorem dX8_init_18 : decode cX8_init 18 = .ok (.bipush 6, 2) := by decide +kernel
theorem dX8_init_20 : decode cX8_init 20 = .ok (.newarray .int, 2) := by decide +kernel
theorem dX8_init_22 : decode cX8_init 22 = .ok (.putfield 17, 3) := by decide +kernel
theorem dX8_init_25 : decode cX8_init 25 = .ok (.aload_n 0, 1) := by decide +kernel
theorem dX8_init_26 : decode cX8_init 26 = .ok (.sipush 240, 3) := by decide +kernel
theorem dX8_init_29 : decode cX8_init 29 = .ok (.newarray .int, 2) := by decide +kernel
theorem dX8_init_31 : decode cX8_init 31 = .ok (.putfield 20, 3) := by decide +kernel
theorem dX8_init_34 : decode cX8_init 34 = .ok (.aload_n 0, 1) := by decide +kernel
theorem dX8_init_35 : decode cX8_init 35 = .ok (.bipush 40, 2) := by decide +kernel
theorem dX8_init_37 : decode cX8_init 37 = .ok (.newarray .int, 2) := by decide +kernel
theorem dX8_init_39 : decode cX8_init 39 = .ok (.putfield 23, 3) := by decide +kernel
theorem dX8_init_42 : decode cX8_init 42 = .ok (.aload_n 0, 1) := by decide +kernel
theorem dX8_init_43 : decode cX8_init 43 = .ok (.iconst 4, 1) := by decide +kernel
theorem dX8_init_44 : decode cX8_init 44 = .ok (.newarray .int, 2) := by decide +kernel
theorem dX8_init_46 : decode cX8_init 46 = .ok (.putfield 26, 3) := by decide +kernel
theorem dX8_init_49 : decode cX8_init 49 = .ok (.aload_n 0, 1) := by decide +kernel
theorem dX8_init_50 : decode cX8_init 50 = .ok (.sipush 240, 3) := by decide +kernel
theorem dX8_init_53 : decode cX8_init 53 = .ok (.newarray .int, 2) := by decide +kernel
theorem dX8_init_55 : decode cX8_init 55 = .ok (.putfield 29, 3) := by decide +kernel
theorem dX8_init_58 : decode cX8_init 58 = .ok (.aload_n 0, 1) := by decide +kernel
theorem dX8_init_59 : decode cX8_init 59 = .ok (.iconst 1, 1) := by decide +kernel
theorem dX8_init_60 : decode cX8_init 60 = .ok (.putfield 32, 3) := by decide +kernel
theorem dX8_init_63 : decode cX8_init 63 = .ok (.aload_n 0, 1) := by decide +kernel
theorem dX8_init_64 : decode cX8_init 64 = .ok (.bipush 8, 2) := by decide +kernel
theorem dX8_init_66 : decode cX8_init 66 = .ok (.newarray .int, 2) := by decide +kernel
theorem dX8_init_68 : decode cX8_init 68 = .ok (.putfield 36, 3) := by decide +kernel
theorem dX8_init_71 : decode cX8_init 71 = .ok (.aload_n 0, 1) := by decide +kernel
theorem dX8_init_72 : decode cX8_init 72 = .ok (.bipush 6, 2) := by decide +kernel
theorem dX8_init_74 : decode cX8_init 74 = .ok (.newarray .int, 2) := by decide +kernel
theorem dX8_init_76 : decode cX8_init 76 = .ok (.putfield 39, 3) := by decide +kernel
theorem dX8_init_79 : decode cX8_init 79 = .ok (.aload_n 0, 1) := by decide +kernel
theorem dX8_init_80 : decode cX8_init 80 = .ok (.bipush 6, 2) := by decide +kernel
theorem dX8_init_82 : decode cX8_init 82 = .ok (.newarray .int, 2) := by decide +kernel
theorem dX8_init_84 : decode cX8_init 84 = .ok (.putfield 42, 3) := by decide +kernel
theorem dX8_init_87 : decode cX8_init 87 = .ok (.aload_n 0, 1) := by decide +kernel
theorem dX8_init_88 : decode cX8_init 88 = .ok (.bipush 6, 2) := by decide +kernel
theorem dX8_init_90 : decode cX8_init 90 = .ok (.newarray .int, 2) := by decide +kernel
theorem dX8_init_92 : decode cX8_init 92 = .ok (.putfield 45, 3) := by decide +kernel
theorem dX8_init_95 : decode cX8_init 95 = .ok (.aload_n 0, 1) := by decide +kernel
theorem dX8_init_96 : decode cX8_init 96 = .ok (.bipush 6, 2) := by decide +kernel
theorem dX8_init_98 : decode cX8_init 98 = .ok (.newarray .int, 2) := by decide +kernel
theorem dX8_init_100 : decode cX8_init 100 = .ok (.putfield 48, 3) := by decide +kernel
theorem dX8_init_103 : decode cX8_init 103 = .ok (.aload_n 0, 1) := by decide +kernel
theorem dX8_init_104 : decode cX8_init 104 = .ok (.bipush 8, 2) := by decide +kernel
theorem dX8_init_106 : decode cX8_init 106 = .ok (.newarray .int, 2) := by decide +kernel
theorem dX8_init_108 : decode cX8_init 108 = .ok (.putfield 51, 3) := by decide +kernel
theorem dX8_init_111 : decode cX8_init 111 = .ok (.aload_n 0, 1) := by decide +kernel
theorem dX8_init_112 : decode cX8_init 112 = .ok (.bipush 24, 2) := by decide +kernel
theorem dX8_init_114 : decode cX8_init 114 = .ok (.newarray .int, 2) := by decide +kernel
theorem dX8_init_116 : decode cX8_init 116 = .ok (.putfield 54, 3) := by decide +kernel
theorem dX8_init_119 : decode cX8_init 119 = .ok (.aload_n 0, 1) := by decide +kernel
theorem dX8_init_120 : decode cX8_init 120 = .ok (.bipush 6, 2) := by decide +kernel
theorem dX8_init_122 : decode cX8_init 122 = .ok (.newarray .int, 2) := by decide +kernel
theorem dX8_init_124 : decode cX8_init 124 = .ok (.putfield 57, 3) := by decide +kernel
theorem dX8_init_127 : decode cX8_init 127 = .ok (.aload_n 0, 1) := by decide +kernel
theorem dX8_init_128 : decode cX8_init 128 = .ok (.sipush 400, 3) := by decide +kernel
theorem dX8_init_131 : decode cX8_init 131 = .ok (.newarray .int, 2) := by decide +kernel
theorem dX8_init_133 : decode cX8_init 133 = .ok (.putfield 60, 3) := by decide +kernel
theorem dX8_init_136 : decode cX8_init 136 = .ok (.aload_n 0, 1) := by decide +kernel
theorem dX8_init_137 : decode cX8_init 137 = .ok (.iconst 3, 1) := by decide +kernel
theorem dX8_init_138 : decode cX8_init 138 = .ok (.newarray .int, 2) := by decide +kernel
theorem dX8_init_140 : decode cX8_init 140 = .ok (.putfield 63, 3) := by decide +kernel
theorem dX8_init_143 : decode cX8_init 143 = .ok (.aload_n 0, 1) := by decide +kernel
theorem dX8_init_144 : decode cX8_init 144 = .ok (.sipush 1233, 3) := by decide +kernel
theorem dX8_init_147 : decode cX8_init 147 = .ok (.newarray .int, 2) := by decide +kernel
theorem dX8_init_149 : decode cX8_init 149 = .ok (.putfield 66, 3) := by decide +kernel
theorem dX8_init_152 : decode cX8_init 152 = .ok (.aload_n 0, 1) := by decide +kernel
theorem dX8_init_153 : decode cX8_init 153 = .ok (.sipush 192, 3) := by decide +kernel
theorem dX8_init_156 : decode cX8_init 156 = .ok (.newarray .int, 2) := by decide +kernel
theorem dX8_init_158 : decode cX8_init 158 = .ok (.putfield 69, 3) := by decide +kernel
theorem dX8_init_161 : decode cX8_init 161 = .ok (.aload_n 0, 1) := by decide +kernel
theorem dX8_init_162 : decode cX8_init 162 = .ok (.sipush 192, 3) := by decide +kernel
theorem dX8_init_165 : decode cX8_init 165 = .ok (.newarray .int, 2) := by decide +kernel
theorem dX8_init_167 : decode cX8_init 167 = .ok (.putfield 72, 3) := by decide +kernel
theorem dX8_init_170 : decode cX8_init 170 = .ok (.aload_n 0, 1) := by decide +kernel
theorem dX8_init_171 : decode cX8_init 171 = .ok (.iconst 3, 1) := by decide +kernel
theorem dX8_init_172 : decode cX8_init 172 = .ok (.newarray .int, 2) := by decide +kernel
theorem dX8_init_174 : decode cX8_init 174 = .ok (.putfield 75, 3) := by decide +kernel
theorem dX8_init_177 : decode cX8_init 177 = .ok (.aload_n 0, 1) := by decide +kernel
theorem dX8_init_178 : decode cX8_init 178 = .ok (.bipush 64, 2) := by decide +kernel
theorem dX8_init_180 : decode cX8_init 180 = .ok (.newarray .int, 2) := by decide +kernel
theorem dX8_init_182 : decode cX8_init 182 = .ok (.putfield 78, 3) := by decide +kernel
theorem dX8_init_185 : decode cX8_init 185 = .ok (.aload_n 0, 1) := by decide +kernel
theorem dX8_init_186 : decode cX8_init 186 = .ok (.bipush 64, 2) := by decide +kernel
theorem dX8_init_188 : decode cX8_init 188 = .ok (.newarray .int, 2) := by decide +kernel
theorem dX8_init_190 : decode cX8_init 190 = .ok (.putfield 81, 3) := by decide +kernel
theorem dX8_init_193 : decode cX8_init 193 = .ok (.iconst 0, 1) := by decide +kernel
theorem dX8_init_194 : decode cX8_init 194 = .ok (.istore_n 1, 1) := by decide +kernel
theorem dX8_init_195 : decode cX8_init 195 = .ok (.iload_n 1, 1) := by decide +kernel
theorem dX8_init_196 : decode cX8_init 196 = .ok (.bipush 6, 2) := by decide +kernel
theorem dX8_init_198 : decode cX8_init 198 = .ok (.if_icmp .ge 17, 3) := by decide +kernel
theorem dX8_init_201 : decode cX8_init 201 = .ok (.aload_n 0, 1) := by decide +kernel
theorem dX8_init_202 : decode cX8_init 202 = .ok (.getfield 17, 3) := by decide +kernel
theorem dX8_init_205 : decode cX8_init 205 = .ok (.iload_n 1, 1) := by decide +kernel
theorem dX8_init_206 : decode cX8_init 206 = .ok (.bipush (-9), 2) := by decide +kernel
theorem dX8_init_208 : decode cX8_init 208 = .ok (.iastore, 1) := by decide +kernel
theorem dX8_init_209 : decode cX8_init 209 = .ok (.iinc 1 1, 3) := by decide +kernel
theorem dX8_init_212 : decode cX8_init 212 = .ok (.goto (-17), 3) := by decide +kernel
theorem dX8_init_215 : decode cX8_init 215 = .ok (.iconst 0, 1) := by decide +kernel
theorem dX8_init_216 : decode cX8_init 216 = .ok (.istore_n 1, 1) := by decide +kernel
theorem dX8_init_217 : decode cX8_init 217 = .ok (.iload_n 1, 1) := by decide +kernel
theorem dX8_init_218 : decode cX8_init 218 = .ok (.iconst 4, 1) := by decide +kernel
theorem dX8_init_219 : decode cX8_init 219 = .ok (.if_icmp .ge 17, 3) := by decide +kernel
theorem dX8_init_222 : decode cX8_init 222 = .ok (.aload_n 0, 1) := by decide +kernel
theorem dX8_init_223 : decode cX8_init 223 = .ok (.getfield 26, 3) := by decide +kernel
theorem dX8_init_226 : decode cX8_init 226 = .ok (.iload_n 1, 1) := by decide +kernel
theorem dX8_init_227 : decode cX8_init 227 = .ok (.bipush (-9), 2) := by decide +kernel
theorem dX8_init_229 : decode cX8_init 229 = .ok (.iastore, 1) := by decide +kernel
theorem dX8_init_230 : decode cX8_init 230 = .ok (.iinc 1 1, 3) := by decide +kernel
theorem dX8_init_233 : decode cX8_init 233 = .ok (.goto (-16), 3) := by decide +kernel
theorem dX8_init_236 : decode cX8_init 236 = .ok (.return_, 1) := by decide +kernel
theorem dJ7_fill_53178_0 : decode cJ7_fill_53178 0 = .ok (.iconst 0, 1) := by decide +kernel
theorem dJ7_fill_53178_1 : decode cJ7_fill_53178 1 = .ok (.istore_n 2, 1) := by decide +kernel
theorem dJ7_fill_53178_2 : decode cJ7_fill_53178 2 = .ok (.aload_n 0, 1) := by decide +kernel
theorem dJ7_fill_53178_3 : decode cJ7_fill_53178 3 = .ok (.arraylength, 1) := by decide +kernel
theorem dJ7_fill_53178_4 : decode cJ7_fill_53178 4 = .ok (.istore_n 3, 1) := by decide +kernel
theorem dJ7_fill_53178_5 : decode cJ7_fill_53178 5 = .ok (.iload_n 2, 1) := by decide +kernel
theorem dJ7_fill_53178_6 : decode cJ7_fill_53178 6 = .ok (.iload_n 3, 1) := by decide +kernel
theorem dJ7_fill_53178_7 : decode cJ7_fill_53178 7 = .ok (.if_icmp .ge 13, 3) := by decide +kernel
theorem dJ7_fill_53178_10 : decode cJ7_fill_53178 10 = .ok (.aload_n 0, 1) := by decide +kernel
theorem dJ7_fill_53178_11 : decode cJ7_fill_53178 11 = .ok (.iload_n 2, 1) := by decide +kernel
theorem dJ7_fill_53178_12 : decode cJ7_fill_53178 12 = .ok (.iload_n 1, 1) := by decide +kernel
theorem dJ7_fill_53178_13 : decode cJ7_fill_53178 13 = .ok (.iastore, 1) := by decide +kernel
theorem dJ7_fill_53178_14 : decode cJ7_fill_53178 14 = .ok (.iinc 2 1, 3) := by decide +kernel
theorem dJ7_fill_53178_17 : decode cJ7_fill_53178 17 = .ok (.goto (-12), 3) := by decide +kernel
theorem dJ7_fill_53178_20 : decode cJ7_fill_53178 20 = .ok (.return_, 1) := by decide +kernel
end
section
theorem kw_goodS {own : String} {idx : Nat} {Y : kw_M} (hl : kw_lkS own idx Y) : GoodIn kw_ws (va_wsS own idx Y.1.2.1 (.code Y.1.2.1 Y.1.2.2.1 Y.1.2.2.2.1 Y.1.2.2.2.2 :: kw_ws)) := by
  obtain ⟨h2, h3, h5, h6, h7, h8, h9⟩ := hl
  intro w hw
  rcases List.mem_append.mp hw with q | q
  · simp only [List.mem_cons, List.not_mem_nil, or_false] at q
    rcases q with rfl | rfl | rfl
    · exact kw_goodw h2
    · exact kw_goodw h3
    · exact kw_goodw h5
  · rcases List.mem_cons.mp q with rfl | q
    · exact kw_goodw h6
    · exact kw_goodw q
set_option maxHeartbeats 4000000 in
set_option maxRecDepth 100000 in
/-- Arrays.fill, over one row -/
theorem k_fill (l : Launch) (D : va_G) (cI cII cC : ClassId) (h0 sz n : Nat) (hn : n ≤ 1000) (f : Nat → Int32) (v : Int32) : Met l yJ7_fill_53178 (.code yJ7_fill_53178 cJ7_fill_53178 4 none :: kw_ws) (kc_rm 1 0 0) (kc_Pre D cI cII cC sz [.ref h0, .int v] [(h0, .inl (cI, n, .inl f))]) (va_Qv (fun f' : Nat → Int32 => f' = fun j => if j < n then v else f j) (fun f' t => va_P D vwCl [(h0, .inl (cI, n, .inl f'))] t.heap ∧ va_D (va_A [(h0, .inl (cI, n, .inl f))] sz) [(h0, .inl (cI, n, .inl f'))]) (va_A [(h0, .inl (cI, n, .inl f))] sz)) 0 0 (va_A [(h0, .inl (cI, n, .inl f))] sz) := by
  refine Met.ofW (cc := cJ7_fill_53178) (maxL := 4) (ret := none) (by decide) rfl ?_
  intro p e s m args below meth c s₁ B hml hv
  obtain ⟨rfl, hsz, hP, hK, hD0, hSt⟩ := hv
  have hx := B.exec
  have hb := B.bytes
  have hr := B.returns
  have hlocks := B.notSynchronized
  subst hsz
  have hD := hD0.self (sz := s.heap.size)
  generalize hAe : va_A [(h0, .inl (cI, n, .inl f))] s.heap.size = A at hD ⊢
  have hA : ∀ q : Nat, s.heap.size ≤ q → A q := fun q h => by rw [← hAe]; exact Or.inr h
  have hS : va_S A s.heap s.heap [] := va_S.rf
  have hP : va_P D vwCl [(h0, .inl (cI, n, .inl f))] s.heap := hP
  have hl := lv_entry ([.ref h0, .int v]) (n := 4) (Nat.le_of_ble_eq_true rfl)
  rw [lg_entry_eq]
  generalize (lg_sl ([.ref h0, .int v]) ++ List.replicate (4 - (lg_sl ([.ref h0, .int v])).length) Slot.unset).toArray = ls at hl ⊢
  have hl : lv_has ls 4 [(0, .ref h0), (1, .int v)] := hl
  have hlen : (Int32.ofNat n).toInt = (n : Int) := nI_toInt (by omega)
  refine lv_iconst (v := 0) hx hb dJ7_fill_53178_0 (by decide) ?_
  refine lv_istore_n (lv' := [(2, .int 0), (0, .ref h0), (1, .int v)]) hx hb dJ7_fill_53178_1 rfl hl (by decide) rfl (fun ls hl => ?_)
  refine lv_aload_n hx hb dJ7_fill_53178_2 rfl (lv_at hl 1 rfl) ?_
  refine va_alen (D := D) (v := Int32.ofNat n) hx hb hK hP 0 0 rfl rfl rfl dJ7_fill_53178_3 ?_
  refine lv_istore_n (lv' := [(3, .int (Int32.ofNat n)), (2, .int 0), (0, .ref h0), (1, .int v)]) hx hb dJ7_fill_53178_4 rfl hl (by decide) rfl (fun ls hl => ?_)
  have L : ∀ (k : Nat) (x : Int32) (g : Nat → Int32) (H : Heap) (locs : List Loc) (ls : Array Slot), 0 ≤ x.toInt → x.toInt ≤ n → (∀ j : Nat, g j = if (j : Int) < x.toInt then v else f j) → (1001 - x.toInt).toNat < k → va_P D vwCl [(h0, .inl (cI, n, .inl g))] H → va_D A [(h0, .inl (cI, n, .inl g))] → va_S A s.heap H locs → lv_has ls 4 [(3, .int (Int32.ofNat n)), (2, .int x), (0, .ref h0), (1, .int v)] → W p l e (headSpec (.code yJ7_fill_53178 cJ7_fill_53178 4 none :: kw_ws) (kc_rm 1 0 0)).room s m [Value.ref h0, Value.int v].toArray below meth c H locs 0 0 (MQ below (va_Qv (fun f' : Nat → Int32 => f' = fun j => if j < n then v else f j) (fun f' t => va_P D vwCl [(h0, .inl (cI, n, .inl f'))] t.heap ∧ va_D A [(h0, .inl (cI, n, .inl f'))]) A) [Value.ref h0, Value.int v].toArray s 0 0 A) (F0 m 5 ls []) := by
    intro k
    induction k with
    | zero => intro x g H locs ls _ _ _ hm; exact absurd hm (Nat.not_lt_zero _)
    | succ k ih =>
      intro x g H locs ls h1 hxn hg hm hP hD hS hl
      have hrx := kw_rng x
      refine lv_iload_n hx hb dJ7_fill_53178_5 rfl (lv_at hl 1 rfl) ?_
      refine lv_iload_n hx hb dJ7_fill_53178_6 rfl (lv_at hl 0 rfl) ?_
      refine lv_icmp_ge (tgt := 20) hx hb dJ7_fill_53178_7 (by decide) (fun c9 => ?_) (fun c9 => ?_)
      · have c8 := kw_leI c9
        have hge : g = fun j => if j < n then v else f j := by
          funext j
          rw [hg j]
          by_cases hj : j < n
          · rw [if_pos hj, if_pos (by omega)]
          · rw [if_neg hj, if_neg (by omega)]
        exact W.vret hx hb hr (fun t ht hW => ⟨⟨g, rfl, hge, by rw [ht]; exact hP, hD⟩, hS.F ht⟩) hS.2.2 dJ7_fill_53178_20
      · have c8 := kw_nleI c9
        refine lv_aload_n hx hb dJ7_fill_53178_10 rfl (lv_at hl 2 rfl) ?_
        refine lv_iload_n hx hb dJ7_fill_53178_11 rfl (lv_at hl 1 rfl) ?_
        refine lv_iload_n hx hb dJ7_fill_53178_12 rfl (lv_at hl 3 rfl) ?_
        refine va_iast (D := D) (n := n) (f := g) (i := x) (x := v) hx hb hK hP hD hS 0 0 rfl rfl (kw_in h1 (by omega)) dJ7_fill_53178_13 (fun H locs hP hD hS => ?_)
        have hP : va_P D vwCl [(h0, .inl (cI, n, .inl (upd g x.toNatClampNeg v)))] H := hP
        have hD : va_D A [(h0, .inl (cI, n, .inl (upd g x.toNatClampNeg v)))] := hD
        obtain ⟨z, ez⟩ : ∃ z : Int32, x + Int32.ofInt 1 = z := ⟨_, rfl⟩
        have tz : z.toInt = x.toInt + 1 := by
          rw [← ez, kw_addI, show (Int32.ofInt 1).toInt = 1 from rfl]; omega
        refine lv_iinc (v := z) (lv' := [(2, .int z), (3, .int (Int32.ofNat n)), (0, .ref h0), (1, .int v)]) hx hb dJ7_fill_53178_14 hl (k := 1) rfl ez (by decide) rfl (fun ls hl => ?_)
        refine lv_goto (tgt := 5) hx hb dJ7_fill_53178_17 (by decide) ?_
        refine ih z (upd g x.toNatClampNeg v) H locs ls (by omega) (by omega) (fun j => ?_) (by omega) hP hD hS (lv_sub hl [1, 0, 2, 3] rfl)
        have cx := kw_clampI h1
        by_cases hj : j = x.toNatClampNeg
        · rw [if_pos (by omega)]
          simp [upd, hj]
        · have hu : upd g x.toNatClampNeg v j = g j := by simp [upd, hj]
          rw [hu, hg j]
          by_cases h3 : (j : Int) < x.toInt
          · rw [if_pos h3, if_pos (by omega)]
          · rw [if_neg h3, if_neg (by omega)]
  exact L _ 0 f s.heap [] ls (by decide) (by show (0 : Int) ≤ _; omega) (fun j => by rw [if_neg (by show ¬ (j : Int) < 0; omega)]) (Nat.lt_succ_self _) hP hD hS hl
theorem kc_same2 {D : va_G} {cl : List vw_C} {tys : List (ClassId × FieldType)} {s : State} (h : va_K D cl tys s) (i j : Nat) {c c' : ClassId} (hi : tys[i]? = some (c, .array .int)) (hj : tys[j]? = some (c', .array .int)) : c = c' := by
  have a : s.vm.findClass ("[" ++ (FieldType.array .int).toString) = some c := (h.2 i _ hi).2
  have b : s.vm.findClass ("[" ++ (FieldType.array .int).toString) = some c' := (h.2 j _ hj).2
  exact Option.some.inj (a.symm.trans b)
theorem kc_same3 {D : va_G} {cl : List vw_C} {tys : List (ClassId × FieldType)} {s : State} (h : va_K D cl tys s) (i j : Nat) {C : String} {c c' : ClassId} (hi : tys[i]? = some (c, .object C)) (hj : tys[j]? = some (c', .object C)) : c = c' := by
  obtain ⟨_, _, -, -, -, a⟩ := (h.2 i _ hi).2
  obtain ⟨_, _, -, -, -, b⟩ := (h.2 j _ hj).2
  exact Option.some.inj (a.symm.trans b)
/-! new int[n][m]: the outer row's law, out of the printed one, over any world -/
theorem kc_outer (c : ClassId) (N h0 : Nat) : ∀ i : Nat, Jvm.Free.Multi.outerC c N h0 i = arrV c N (fun j => va_rf (if j < i then some (h0 + 1 + j) else none))
  | 0 => by
    show ({ cls := c, slots := Array.replicate N .null, vm := .none } : Cell) = _
    rw [arrV_new]
    refine congrArg (arrV c N) (funext fun j => ?_)
    simp [va_rf]
  | i + 1 => by
    show (Jvm.Free.Multi.outerC c N h0 i).setSlot i (.ref (h0 + 1 + i)) = _
    rw [kc_outer c N h0 i, arrV_store]
    refine congrArg (arrV c N) (funext fun j => ?_)
    by_cases e : j = i
    · subst e
      simp [updV, va_rf]
    · by_cases h : j < i
      · simp [updV, e, h, Nat.lt_succ_of_lt h]
      · simp [updV, e, h, show ¬ j < i + 1 by omega]
section KCM
variable {p : Program} {l : Launch} {e : Env} {R : Room} {s : State} {m : MethodId} {args : Array Value} {below : List Frame} {meth : Method} {c : Code} {H : Heap} {locs : List Loc} {cells slots : Nat} {Q : State → Prop}
variable {cc : ByteArray} {pc : Nat} {ls : Array Slot} {rest : List Value} {D : va_G} {cl : List vw_C} {A : Nat → Prop} {tys : List (ClassId × FieldType)} {ws : va_W} {H0 : Heap}
theorem kc_mna (hexec : p.tables.exec = Jvm.exec) (hb : c.code = cc) {own : String} {index : Nat} {cy : ClassId} (hown : s.vm.findClass own = some m.cls) (hclink : (Cond.classLink own index "[[I").before args s = true) (hover : kc_AOA s) (harr : (Cond.arrayClass .int).before args s = true) (hcy : s.vm.findClass (FieldType.array .int).toString = some cy)
    (hK : va_K D cl tys s) (hP : va_P D cl ws H) (hD : va_D A ws) (hS : va_S A H0 H locs) (hA : ∀ q, H0.size ≤ q → A q) {n k : Int32} (N' K' : Nat) (hn : ¬ n < 0) (hk : ¬ k < 0) (hN : n.toNatClampNeg = N') (hM : k.toNatClampNeg = K')
    (hb1 : N' * 4 ≤ 536870912) (hb2 : K' * componentBytes .int ≤ 536870912) (hb3 : K' ≤ 536870912) (hcells : cells + (1 + N') ≤ R.cells) (hslots : slots + (N' + N' * K') ≤ R.slots) (hdg : decode cc pc = .ok (.multianewarray index 2, 4))
    (kk : ∀ (q : Nat) (r : Nat → Nat) (cA : ClassId) (H1 : Heap), va_K D cl (tys ++ [(cA, .array .int)]) s →
      va_P D cl ((ws ++ [(q, .inl (cA, N', .inr (.inr (.inr (.inr (fun i => if i < N' then some (r i) else none))))))]) ++ ((List.range N').map r).map (fun a => (a, .inl (cy, K', .inl (fun _ => 0))))) H1 → va_D A ((ws ++ [(q, .inl (cA, N', .inr (.inr (.inr (.inr (fun i => if i < N' then some (r i) else none))))))]) ++ ((List.range N').map r).map (fun a => (a, .inl (cy, K', .inl (fun _ => 0))))) → va_S A H0 H1 locs →
      W p l e R s m args below meth c H1 locs (cells + 1 + N') (slots + N' + N' * K') Q (F0 m (pc + 4) ls (.ref q :: rest))) : W p l e R s m args below meth c H locs cells slots Q (F0 m pc ls (.int k :: .int n :: rest)) := by
  subst hN
  subst hM
  intro T hT Xs
  obtain ⟨vm₁, cA, comp, -, fA, fC, hO, -, X', step⟩ := Xs.multianewarray2F (ty := .int) hexec hown hclink hover harr (g := F0 m pc ls (.int k :: .int n :: rest)) rfl (by rw [hb]; exact hdg) rfl hn hk hb1 hb2 hb3 rfl rfl hcells hslots
  have ec : some cy = some comp := hcy.symm.trans fC
  cases ec
  generalize hF : Jvm.Free.Multi.fill (T.setVm vm₁) cA cy n.toNatClampNeg k.toNatClampNeg (defaultValue .int) n.toNatClampNeg = F at X' step
  have hTh : (T.setVm vm₁).heap = H := hT
  obtain ⟨f1, f2, -, -⟩ := Jvm.Free.Multi.fill_facts (T.setVm vm₁) cA cy n.toNatClampNeg k.toNatClampNeg (defaultValue .int) n.toNatClampNeg
  rw [hF, hTh] at f1 f2
  have hold : ∀ x : Nat, x < H.size → F.heap[x]? = H[x]? := fun x hx => by
    have := Jvm.Free.Multi.fill_old (T.setVm vm₁) cA cy n.toNatClampNeg k.toNatClampNeg (defaultValue .int) (a := x) (by rw [hTh]; exact hx) n.toNatClampNeg
    rw [hF, hTh] at this
    exact this
  have hz : ∀ c : ClassId, Jvm.Free.Multi.innerC c k.toNatClampNeg (defaultValue .int) = vp_cell c (k.toNatClampNeg, .inl (fun _ => 0)) := fun c => by
    rw [vp_cell_i]
    show ({ cls := c, slots := Array.replicate k.toNatClampNeg (.int 0), vm := .none } : Cell) = _
    rw [arrV_new]
  have hrow : ∀ j : Nat, j < n.toNatClampNeg → F.heap[H.size + 1 + j]? = some (vp_cell cy (k.toNatClampNeg, .inl (fun _ => 0))) := fun j hj => by
    have := Jvm.Free.Multi.fill_inner (T.setVm vm₁) cA cy n.toNatClampNeg k.toNatClampNeg (defaultValue .int) n.toNatClampNeg j hj
    rw [hF, hTh, hz] at this
    exact this
  have hout : Jvm.Free.Multi.outerC cA n.toNatClampNeg H.size n.toNatClampNeg = vp_cell cA (n.toNatClampNeg, .inr (.inr (.inr (.inr (fun i => if i < n.toNatClampNeg then some (H.size + 1 + i) else none))))) := by
    rw [vp_cell_q]
    exact kc_outer cA n.toNatClampNeg H.size n.toNatClampNeg
  rw [hout] at f2
  have hP0 : va_P D cl ws F.heap := hP.kept (fun k9 x hx => hold x.1 ((hP k9 x hx).lt))
  have hP1 : va_P D cl (ws ++ [(H.size, .inl (cA, n.toNatClampNeg, .inr (.inr (.inr (.inr (fun i => if i < n.toNatClampNeg then some (H.size + 1 + i) else none))))))]) F.heap := hP0.app (fun k9 x hx => by
    have h0 : k9 < 1 := (List.getElem?_eq_some_iff.mp hx).1
    rw [show k9 = 0 by omega] at hx
    cases hx
    exact f2)
  have hP2 : va_P D cl ((ws ++ [(H.size, .inl (cA, n.toNatClampNeg, .inr (.inr (.inr (.inr (fun i => if i < n.toNatClampNeg then some (H.size + 1 + i) else none))))))]) ++ ((List.range n.toNatClampNeg).map (fun i => H.size + 1 + i)).map (fun a => (a, .inl (cy, k.toNatClampNeg, .inl (fun _ => 0))))) F.heap := hP1.app (fun k9 x hx => by
    obtain ⟨a, ha, rfl⟩ := List.mem_map.mp (List.mem_of_getElem? hx)
    obtain ⟨i, hi, rfl⟩ := List.mem_map.mp ha
    exact hrow i (List.mem_range.mp hi))
  have hD2 : va_D A ((ws ++ [(H.size, .inl (cA, n.toNatClampNeg, .inr (.inr (.inr (.inr (fun i => if i < n.toNatClampNeg then some (H.size + 1 + i) else none))))))]) ++ ((List.range n.toNatClampNeg).map (fun i => H.size + 1 + i)).map (fun a => (a, .inl (cy, k.toNatClampNeg, .inl (fun _ => 0))))) := by
    have hD1 := hD.push (e := .inl (cA, n.toNatClampNeg, .inr (.inr (.inr (.inr (fun i => if i < n.toNatClampNeg then some (H.size + 1 + i) else none)))))) hP rfl (hA _ hS.1)
    generalize hW1 : ws ++ [(H.size, .inl (cA, n.toNatClampNeg, .inr (.inr (.inr (.inr (fun i => if i < n.toNatClampNeg then some (H.size + 1 + i) else none))))))] = W1 at hD1 hP1 ⊢
    have hle : ∀ (k9 : Nat) (x : Nat × va_E), W1[k9]? = some x → x.1 ≤ H.size := fun k9 x hx => by
      rw [← hW1] at hx
      by_cases hl : k9 < ws.length
      · rw [List.getElem?_append_left hl] at hx
        exact Nat.le_of_lt ((hP k9 x hx).lt)
      · rw [List.getElem?_append_right (by omega)] at hx
        have h0 : k9 - ws.length < 1 := (List.getElem?_eq_some_iff.mp hx).1
        rw [show k9 - ws.length = 0 by omega] at hx
        cases hx
        exact Nat.le_refl _
    have hr : ∀ (k9 : Nat) (x : Nat × va_E), (((List.range n.toNatClampNeg).map (fun i => H.size + 1 + i)).map (fun a => ((a, .inl (cy, k.toNatClampNeg, .inl (fun _ => 0))) : Nat × va_E)))[k9]? = some x → x.1 = H.size + 1 + k9 := fun k9 x hx => by
      rw [List.getElem?_map, List.getElem?_map] at hx
      by_cases h9 : k9 < n.toNatClampNeg
      · rw [List.getElem?_range h9] at hx
        cases hx
        rfl
      · have hn0 : (List.range n.toNatClampNeg)[k9]? = none := List.getElem?_eq_none (by rw [List.length_range]; omega)
        rw [hn0] at hx
        cases hx
    refine ⟨fun i j x y hi hj hxy => ?_, fun k9 x hx => ?_⟩
    · by_cases h1 : i < W1.length <;> by_cases h2 : j < W1.length
      · rw [List.getElem?_append_left h1] at hi
        rw [List.getElem?_append_left h2] at hj
        exact hD1.1 i j x y hi hj hxy
      · rw [List.getElem?_append_left h1] at hi
        rw [List.getElem?_append_right (by omega)] at hj
        have := hle _ _ hi
        have := hr _ _ hj
        omega
      · rw [List.getElem?_append_right (by omega)] at hi
        rw [List.getElem?_append_left h2] at hj
        have := hle _ _ hj
        have := hr _ _ hi
        omega
      · rw [List.getElem?_append_right (by omega)] at hi hj
        have := hr _ _ hi
        have := hr _ _ hj
        omega
    · by_cases h1 : k9 < W1.length
      · rw [List.getElem?_append_left h1] at hx
        exact hD1.2 k9 x hx
      · rw [List.getElem?_append_right (by omega)] at hx
        have := hr _ _ hx
        exact hA _ (by have := hS.1; omega)
  have hAr : ArrOfT s cA (.array .int) := fun N9 z9 => by
    obtain ⟨-, k9, hk9, cm9, hkk9⟩ := (hO 0 0 0).1
    exact ⟨(fun q hq => by cases hq), k9, hk9, cm9, hkk9⟩
  have hK2 : va_K D cl (tys ++ [(cA, .array .int)]) s := ⟨hK.1, fun k9 x hx => by
    by_cases hl : k9 < tys.length
    · rw [List.getElem?_append_left hl] at hx
      exact hK.2 k9 x hx
    · rw [List.getElem?_append_right (by omega)] at hx
      have h0 : k9 - tys.length < 1 := (List.getElem?_eq_some_iff.mp hx).1
      rw [show k9 - tys.length = 0 by omega] at hx
      cases hx
      exact ⟨hAr, fA⟩⟩
  obtain ⟨t, a1, b1⟩ := kk H.size (fun i => H.size + 1 + i) cA F.heap hK2 hP2 hD2 ⟨by rw [f1]; have := hS.1; omega, fun x h1 h2 => (hold x (Nat.lt_of_lt_of_le h1 hS.1)).trans (hS.2.1 x h1 h2), hS.2.2⟩ F rfl X'
  refine ⟨t, step t ?_, b1⟩
  have e : T.heap.size = H.size := by rw [hT]
  rw [e]
  exact a1
end KCM
end
section
/-! ===== worlds by their skeleton: read one by one; side by side ===== -/
def kc_cl (cI cII cC : ClassId) : Nat → ClassId := fun t => if t = 0 then cI else if t = 1 then cII else cC
def kc_fl (ad : Nat → Nat) (σ : kw_S) (a : Nat) : Nat → List Value → List Value
  | _, [] => []
  | j, t :: ts => kw_fv ad σ a j t :: kc_fl ad σ a (j + 1) ts
theorem kc_fleq (ad : Nat → Nat) (σ : kw_S) (a : Nat) : ∀ (fs : List Value) (n : Nat), fs.mapIdx (fun j => kw_fv ad σ a (j + n)) = kc_fl ad σ a n fs
  | [], _ => rfl
  | t :: ts, n => by
    rw [List.mapIdx_cons]
    show _ = kw_fv ad σ a n t :: kc_fl ad σ a (n + 1) ts
    rw [← kc_fleq ad σ a ts (n + 1), Nat.zero_add]
    congr 2
    funext j
    rw [Nat.add_assoc, Nat.add_comm 1 n]
def kc_cell (G : kw_G) (σ : kw_S) (a : Nat) (k : kw_K1) : va_E := match k with
  | .inl (.inl n) => .inl (G.2.2 0, n, .inl (σ.1 a))
  | .inl (.inr (t, rs)) => .inl (G.2.2 t, rs.length, .inr (.inr (.inr (.inr (fun j => (rs[j]?).map G.1)))))
  | .inr (ci, fs) => .inr (ci, kc_fl G.1 σ a 0 fs)
theorem kc_celleq (G : kw_G) (σ : kw_S) (a : Nat) (k : kw_K1) : kw_cell G σ a k = kc_cell G σ a k := by
  rcases k with (n | ⟨t, rs⟩) | ⟨ci, fs⟩
  · rfl
  · rfl
  · show Sum.inr (ci, kw_fill G.1 σ a fs) = Sum.inr (ci, kc_fl G.1 σ a 0 fs)
    rw [← kc_fleq]
    rfl
def kc_W (G : kw_G) (σ : kw_S) : Nat → List kw_K1 → va_W
  | _, [] => []
  | a, k :: K => (G.1 a, kc_cell G σ a k) :: kc_W G σ (a + 1) K
theorem kc_Weq' (G : kw_G) (σ : kw_S) : ∀ (K : List kw_K1) (n : Nat), K.mapIdx (fun a k => (G.1 (a + n), kw_cell G σ (a + n) k)) = kc_W G σ n K
  | [], _ => rfl
  | k :: K, n => by
    rw [List.mapIdx_cons]
    show _ = (G.1 n, kc_cell G σ n k) :: kc_W G σ (n + 1) K
    rw [← kc_Weq' G σ K (n + 1), Nat.zero_add, kc_celleq]
    congr 2
    funext a k
    rw [Nat.add_assoc, Nat.add_comm 1 n]
theorem kc_Weq (G : kw_G) (K : List kw_K1) (σ : kw_S) : kw_W G K σ = kc_W G σ 0 K := by
  rw [← kc_Weq']
  rfl
def kc_lowV (n : Nat) (v : Value) : Bool := match v with
  | .ref b => decide (b < n)
  | _ => true
def kc_low (n : Nat) (k : kw_K1) : Bool := match k with
  | .inl (.inl _) => true
  | .inl (.inr (_, rs)) => rs.all (fun b => decide (b < n))
  | .inr (_, fs) => fs.all (kc_lowV n)
theorem kc_cellcong {n : Nat} {G G' : kw_G} {σ σ' : kw_S} {a : Nat} {k : kw_K1} (hk : kc_low n k = true) (hG : ∀ b, b < n → G.1 b = G'.1 b) (hG2 : G.2 = G'.2) (h1 : σ.1 a = σ'.1 a) (h2 : σ.2 a = σ'.2 a) : kw_cell G σ a k = kw_cell G' σ' a k := by
  rcases k with (m | ⟨t, rs⟩) | ⟨ci, fs⟩
  · show Sum.inl (G.2.2 0, m, _) = Sum.inl (G'.2.2 0, m, _)
    rw [hG2, h1]
  · have e : (fun j : Nat => (rs[j]?).map G.1) = fun j : Nat => (rs[j]?).map G'.1 := by
      funext j
      cases h : rs[j]? with
      | none => rfl
      | some b => exact congrArg some (hG b (of_decide_eq_true (List.all_eq_true.mp hk b (List.mem_of_getElem? h))))
    show Sum.inl (G.2.2 t, rs.length, _) = Sum.inl (G'.2.2 t, rs.length, _)
    rw [hG2, e]
  · have e : kw_fill G.1 σ a fs = kw_fill G'.1 σ' a fs := by
      apply List.ext_getElem?
      intro j
      rw [kw_fill_get, kw_fill_get]
      cases h : fs[j]? with
      | none => rfl
      | some v =>
        have hb := List.all_eq_true.mp hk v (List.mem_of_getElem? h)
        cases v with
        | ref b => exact congrArg (fun x => some (Value.ref x)) (hG b (of_decide_eq_true hb))
        | int _ => exact congrArg (fun x => some (Value.int (x j))) h1
        | long _ => exact congrArg (fun x => some (Value.long (x j))) h2
        | _ => rfl
    show Sum.inr (ci, _) = Sum.inr (ci, _)
    rw [e]
theorem kc_Wcong {n : Nat} {G G' : kw_G} {K : List kw_K1} {σ σ' : kw_S} (hK : ∀ k ∈ K, kc_low n k = true) (hl : K.length ≤ n) (hG : ∀ b, b < n → G.1 b = G'.1 b) (hG2 : G.2 = G'.2) (h1 : ∀ a, a < n → σ.1 a = σ'.1 a) (h2 : ∀ a, a < n → σ.2 a = σ'.2 a) : kw_W G K σ = kw_W G' K σ' := by
  apply List.ext_getElem?
  intro a
  rw [kw_W_get, kw_W_get]
  cases h : K[a]? with
  | none => rfl
  | some k =>
    have ha : a < n := Nat.lt_of_lt_of_le (List.getElem?_eq_some_iff.mp h).1 hl
    show some (G.1 a, kw_cell G σ a k) = some (G'.1 a, kw_cell G' σ' a k)
    rw [hG a ha, kc_cellcong (hK k (List.mem_of_getElem? h)) hG hG2 (h1 a ha) (h2 a ha)]
theorem kc_WJ (G : kw_G) (σ : kw_S) : kw_W G KJ σ = kw_W G KX σ ++ kw_W (kw_shG 61 G) KM (kw_sh 61 σ) := by
  apply List.ext_getElem?
  intro a
  have hl : (kw_W G KX σ).length = 61 := by simp [kw_W, kw_KXl]
  by_cases ha : a < 61
  · rw [List.getElem?_append_left (by rw [hl]; exact ha), kw_W_get, kw_KJX ha, ← kw_W_get]
  · rw [List.getElem?_append_right (by rw [hl]; omega), hl]
    obtain ⟨b, rfl⟩ : ∃ b, a = 61 + b := ⟨a - 61, by omega⟩
    rw [show 61 + b - 61 = b by omega]
    cases h : (kw_W (kw_shG 61 G) KM (kw_sh 61 σ))[b]? with
    | some q => exact kw_WM h
    | none =>
      rw [kw_W_get] at h ⊢
      rw [kw_KJM]
      cases h1 : KM[b]? with
      | none => rfl
      | some c => rw [h1] at h; cases h
theorem kc_KXlow : ∀ k ∈ KX, kc_low 61 k = true := by decide +kernel
theorem kc_KMlow : ∀ k ∈ KM, kc_low 23 k = true := by decide +kernel
theorem kc_last {D : va_G} {cl : List vw_C} {w : va_W} {c : Nat × va_E} {H : Heap} (h : va_P D cl (w ++ [c]) H) : va_P D cl [c] H := by
  refine h.by (fun k => w.length + k) (fun k q hk => ?_)
  rw [List.getElem?_append_right (by omega), show w.length + k - w.length = k by omega]
  exact hk
theorem kc_lastD {A : Nat → Prop} {w : va_W} {c : Nat × va_E} (h : va_D A (w ++ [c])) : va_D A [c] := by
  have e : ∀ k : Nat, (w ++ [c])[w.length + k]? = [c][k]? := fun k => by rw [List.getElem?_append_right (by omega), show w.length + k - w.length = k by omega]
  refine ⟨fun i j p q hi hj hpq => ?_, fun k q hk => h.2 (w.length + k) q (by rw [e]; exact hk)⟩
  have := h.1 (w.length + i) (w.length + j) p q (by rw [e]; exact hi) (by rw [e]; exact hj) hpq
  omega
theorem kc_rangeR (w : va_W) (c : Nat × va_E) : (List.range w.length).map (fun i => (w ++ [c])[i]?) = w.map some := by
  apply List.ext_getElem?
  intro k
  rw [List.getElem?_map, List.getElem?_map]
  by_cases hk : k < w.length
  · rw [List.getElem?_range hk]
    show some ((w ++ [c])[k]?) = _
    rw [List.getElem?_append_left hk, List.getElem?_eq_getElem hk]
    rfl
  · rw [List.getElem?_eq_none (by simp; omega), List.getElem?_eq_none (by omega)]
    rfl
theorem kc_joinL {A0 : Nat → Prop} {D : va_G} {cl : List vw_C} {w w1 : va_W} {c : Nat × va_E} {H H1 : Heap} (hl : w.length = 61) (hP : va_P D cl (w ++ [c]) H) (hD : va_D A0 (w ++ [c])) (hk : ∀ q : Nat, q < H.size → ¬ va_A [c] H.size q → H1[q]? = H[q]?) (hF : ∀ q, va_A [c] H.size q → A0 q) (hP1 : va_P D cl w1 H1) (hD1 : va_D (va_A [c] H.size) w1) : va_P D cl (w ++ w1) H1 ∧ va_D A0 (w ++ w1) :=
  va_join hP hD [61] (List.range 61) (by rw [← hl]; simp) (by rw [← hl]; exact kc_rangeR w c) (by decide +kernel) (by decide +kernel) hk hF hP1 hD1
theorem kc_freeL {A0 : Nat → Prop} {w : va_W} {c : Nat × va_E} {H0 H : Heap} {locs : List Loc} (hD : va_D A0 (w ++ [c])) (hS : va_S A0 H0 H locs) (hA : ∀ q, H0.size ≤ q → A0 q) : ∀ q, va_A [c] H.size q → A0 q :=
  va_free (wc := [c]) hD hS hA [w.length] (by simp)
end
