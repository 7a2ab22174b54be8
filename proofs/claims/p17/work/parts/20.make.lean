def mX0_init : kw_M := ((RX0, yX0_init, cX0_init, 1, none), [(0, .aload_n 0, 1), (1, .invokespecial 3, 3), (4, .aload_n 0, 1), (5, .bipush 64, 2), (7, .newarray .int, 2), (9, .putfield 9, 3), (12, .aload_n 0, 1), (13, .bipush 64, 2), (15, .newarray .int, 2), (17, .putfield 15, 3), (20, .return_, 1)])
set_option maxRecDepth 20000 in
theorem tX0_init : ∀ q ∈ mX0_init.2, decode mX0_init.1.2.2.1 q.1 = .ok q.2 := by decide +kernel
def mX1_init : kw_M := ((RX1, yX1_init, cX1_init, 1, none), [(0, .aload_n 0, 1), (1, .invokespecial 3, 3), (4, .aload_n 0, 1), (5, .bipush 6, 2), (7, .newarray .int, 2), (9, .putfield 9, 3), (12, .aload_n 0, 1), (13, .bipush 6, 2), (15, .newarray .int, 2), (17, .putfield 15, 3), (20, .aload_n 0, 1), (21, .bipush 6, 2), (23, .newarray .int, 2), (25, .putfield 18, 3), (28, .aload_n 0, 1), (29, .bipush 6, 2), (31, .newarray .int, 2), (33, .putfield 21, 3), (36, .aload_n 0, 1), (37, .bipush 8, 2), (39, .newarray .int, 2), (41, .putfield 24, 3), (44, .return_, 1)])
set_option maxRecDepth 20000 in
theorem tX1_init : ∀ q ∈ mX1_init.2, decode mX1_init.1.2.2.1 q.1 = .ok q.2 := by decide +kernel
def mX2_init : kw_M := ((RX2, yX2_init, cX2_init, 1, none), [(0, .aload_n 0, 1), (1, .invokespecial 3, 3), (4, .aload_n 0, 1), (5, .new 9, 3), (8, .dup, 1), (9, .invokespecial 11, 3), (12, .putfield 12, 3), (15, .return_, 1)])
set_option maxRecDepth 20000 in
theorem tX2_init : ∀ q ∈ mX2_init.2, decode mX2_init.1.2.2.1 q.1 = .ok q.2 := by decide +kernel
def mX3_init : kw_M := ((RX3, yX3_init, cX3_init, 3, none), [(0, .aload_n 0, 1), (1, .invokespecial 3, 3), (4, .aload_n 0, 1), (5, .iload_n 2, 1), (6, .putfield 9, 3), (9, .aload_n 0, 1), (10, .iload_n 1, 1), (11, .iload_n 2, 1), (12, .multianewarray 15 2, 4), (16, .putfield 17, 3), (19, .aload_n 0, 1), (20, .iload_n 1, 1), (21, .newarray .int, 2), (23, .putfield 20, 3), (26, .aload_n 0, 1), (27, .getfield 20, 3), (30, .iconst (-1), 1), (31, .invokestatic 24, 3), (34, .return_, 1)])
set_option maxRecDepth 20000 in
theorem tX3_init : ∀ q ∈ mX3_init.2, decode mX3_init.1.2.2.1 q.1 = .ok q.2 := by decide +kernel
def mX4_init : kw_M := ((RX4, yX4_init, cX4_init, 1, none), [(0, .aload_n 0, 1), (1, .invokespecial 3, 3), (4, .aload_n 0, 1), (5, .bipush 6, 2), (7, .newarray .int, 2), (9, .putfield 9, 3), (12, .aload_n 0, 1), (13, .lconst 1, 1), (14, .putfield 15, 3), (17, .return_, 1)])
set_option maxRecDepth 20000 in
theorem tX4_init : ∀ q ∈ mX4_init.2, decode mX4_init.1.2.2.1 q.1 = .ok q.2 := by decide +kernel
def mX5_init : kw_M := ((RX5, yX5_init, cX5_init, 1, none), [(0, .aload_n 0, 1), (1, .invokespecial 3, 3), (4, .aload_n 0, 1), (5, .new 9, 3), (8, .dup, 1), (9, .invokespecial 11, 3), (12, .putfield 12, 3), (15, .aload_n 0, 1), (16, .bipush 40, 2), (18, .newarray .int, 2), (20, .putfield 18, 3), (23, .aload_n 0, 1), (24, .bipush 6, 2), (26, .newarray .int, 2), (28, .putfield 22, 3), (31, .return_, 1)])
set_option maxRecDepth 20000 in
theorem tX5_init : ∀ q ∈ mX5_init.2, decode mX5_init.1.2.2.1 q.1 = .ok q.2 := by decide +kernel
def mX6_init : kw_M := ((RX6, yX6_init, cX6_init, 2, none), [(0, .aload_n 0, 1), (1, .invokespecial 3, 3), (4, .aload_n 0, 1), (5, .iconst 3, 1), (6, .newarray .int, 2), (8, .putfield 9, 3), (11, .aload_n 0, 1), (12, .iconst 3, 1), (13, .anewarray 15, 3), (16, .putfield 17, 3), (19, .aload_n 0, 1), (20, .iconst 4, 1), (21, .newarray .int, 2), (23, .putfield 21, 3), (26, .aload_n 0, 1), (27, .iconst 3, 1), (28, .newarray .int, 2), (30, .putfield 24, 3), (33, .iconst 0, 1), (34, .istore_n 1, 1), (35, .iload_n 1, 1), (36, .iconst 3, 1), (37, .if_icmp .ge 22, 3), (40, .aload_n 0, 1), (41, .getfield 17, 3), (44, .iload_n 1, 1), (45, .new 15, 3), (48, .dup, 1), (49, .invokespecial 27, 3), (52, .aastore, 1), (53, .iinc 1 1, 3), (56, .goto (-21), 3), (59, .return_, 1)])
set_option maxRecDepth 20000 in
theorem tX6_init : ∀ q ∈ mX6_init.2, decode mX6_init.1.2.2.1 q.1 = .ok q.2 := by decide +kernel
def mX7_init : kw_M := ((RX7, yX7_init, cX7_init, 1, none), [(0, .aload_n 0, 1), (1, .invokespecial 3, 3), (4, .aload_n 0, 1), (5, .new 9, 3), (8, .dup, 1), (9, .bipush 6, 2), (11, .bipush 40, 2), (13, .invokespecial 11, 3), (16, .putfield 14, 3), (19, .aload_n 0, 1), (20, .new 9, 3), (23, .dup, 1), (24, .iconst 4, 1), (25, .bipush 60, 2), (27, .invokespecial 11, 3), (30, .putfield 18, 3), (33, .aload_n 0, 1), (34, .new 21, 3), (37, .dup, 1), (38, .invokespecial 23, 3), (41, .putfield 24, 3), (44, .aload_n 0, 1), (45, .new 28, 3), (48, .dup, 1), (49, .invokespecial 30, 3), (52, .putfield 31, 3), (55, .aload_n 0, 1), (56, .new 9, 3), (59, .dup, 1), (60, .iconst 3, 1), (61, .bipush 40, 2), (63, .invokespecial 11, 3), (66, .putfield 35, 3), (69, .aload_n 0, 1), (70, .new 38, 3), (73, .dup, 1), (74, .invokespecial 40, 3), (77, .putfield 41, 3), (80, .aload_n 0, 1), (81, .new 45, 3), (84, .dup, 1), (85, .invokespecial 47, 3), (88, .putfield 48, 3), (91, .aload_n 0, 1), (92, .new 52, 3), (95, .dup, 1), (96, .invokespecial 54, 3), (99, .putfield 55, 3), (102, .aload_n 0, 1), (103, .bipush 6, 2), (105, .newarray .int, 2), (107, .putfield 59, 3), (110, .aload_n 0, 1), (111, .bipush 6, 2), (113, .newarray .int, 2), (115, .putfield 63, 3), (118, .aload_n 0, 1), (119, .bipush 6, 2), (121, .newarray .int, 2), (123, .putfield 66, 3), (126, .return_, 1)])
set_option maxRecDepth 20000 in
theorem tX7_init : ∀ q ∈ mX7_init.2, decode mX7_init.1.2.2.1 q.1 = .ok q.2 := by decide +kernel
def mX8_init : kw_M := ((RX8, yX8_init, cX8_init, 2, none), [(0, .aload_n 0, 1), (1, .invokespecial 1, 3), (4, .aload_n 0, 1), (5, .bipush 6, 2), (7, .newarray .int, 2), (9, .putfield 7, 3), (12, .aload_n 0, 1), (13, .lconst 1, 1), (14, .putfield 13, 3), (17, .aload_n 0, 1), (18, .bipush 6, 2), (20, .newarray .int, 2), (22, .putfield 17, 3), (25, .aload_n 0, 1), (26, .sipush 240, 3), (29, .newarray .int, 2), (31, .putfield 20, 3), (34, .aload_n 0, 1), (35, .bipush 40, 2), (37, .newarray .int, 2), (39, .putfield 23, 3), (42, .aload_n 0, 1), (43, .iconst 4, 1), (44, .newarray .int, 2), (46, .putfield 26, 3), (49, .aload_n 0, 1), (50, .sipush 240, 3), (53, .newarray .int, 2), (55, .putfield 29, 3), (58, .aload_n 0, 1), (59, .iconst 1, 1), (60, .putfield 32, 3), (63, .aload_n 0, 1), (64, .bipush 8, 2), (66, .newarray .int, 2), (68, .putfield 36, 3), (71, .aload_n 0, 1), (72, .bipush 6, 2), (74, .newarray .int, 2), (76, .putfield 39, 3), (79, .aload_n 0, 1), (80, .bipush 6, 2), (82, .newarray .int, 2), (84, .putfield 42, 3), (87, .aload_n 0, 1), (88, .bipush 6, 2), (90, .newarray .int, 2), (92, .putfield 45, 3), (95, .aload_n 0, 1), (96, .bipush 6, 2), (98, .newarray .int, 2), (100, .putfield 48, 3), (103, .aload_n 0, 1), (104, .bipush 8, 2), (106, .newarray .int, 2), (108, .putfield 51, 3), (111, .aload_n 0, 1), (112, .bipush 24, 2), (114, .newarray .int, 2), (116, .putfield 54, 3), (119, .aload_n 0, 1), (120, .bipush 6, 2), (122, .newarray .int, 2), (124, .putfield 57, 3), (127, .aload_n 0, 1), (128, .sipush 400, 3), (131, .newarray .int, 2), (133, .putfield 60, 3), (136, .aload_n 0, 1), (137, .iconst 3, 1), (138, .newarray .int, 2), (140, .putfield 63, 3), (143, .aload_n 0, 1), (144, .sipush 1233, 3), (147, .newarray .int, 2), (149, .putfield 66, 3), (152, .aload_n 0, 1), (153, .sipush 192, 3), (156, .newarray .int, 2), (158, .putfield 69, 3), (161, .aload_n 0, 1), (162, .sipush 192, 3), (165, .newarray .int, 2), (167, .putfield 72, 3), (170, .aload_n 0, 1), (171, .iconst 3, 1), (172, .newarray .int, 2), (174, .putfield 75, 3), (177, .aload_n 0, 1), (178, .bipush 64, 2), (180, .newarray .int, 2), (182, .putfield 78, 3), (185, .aload_n 0, 1), (186, .bipush 64, 2), (188, .newarray .int, 2), (190, .putfield 81, 3), (193, .iconst 0, 1), (194, .istore_n 1, 1), (195, .iload_n 1, 1), (196, .bipush 6, 2), (198, .if_icmp .ge 17, 3), (201, .aload_n 0, 1), (202, .getfield 17, 3), (205, .iload_n 1, 1), (206, .bipush (-9), 2), (208, .iastore, 1), (209, .iinc 1 1, 3), (212, .goto (-17), 3), (215, .iconst 0, 1), (216, .istore_n 1, 1), (217, .iload_n 1, 1), (218, .iconst 4, 1), (219, .if_icmp .ge 17, 3), (222, .aload_n 0, 1), (223, .getfield 26, 3), (226, .iload_n 1, 1), (227, .bipush (-9), 2), (229, .iastore, 1), (230, .iinc 1 1, 3), (233, .goto (-16), 3), (236, .return_, 1)])
set_option maxRecDepth 20000 in
theorem tX8_init : ∀ q ∈ mX8_init.2, decode mX8_init.1.2.2.1 q.1 = .ok q.2 := by decide +kernel
theorem kcL_7 : Cond.classLink RL 7 RX7 ∈ kw_ws := kz_1 (List.mem_of_getElem? (i := 14) (by decide +kernel)) rfl
theorem wKX7 : Cond.instantiable RX7 11 ∈ kw_ws := kz_1 (List.mem_of_getElem? (i := 15) (by decide +kernel)) rfl
theorem kmL_9 : Cond.methodLink RL 9 yX7_init ∈ kw_ws := kz_1 (List.mem_of_getElem? (i := 16) (by decide +kernel)) rfl
theorem wIX7_init : Cond.instanceMethod yX7_init ∈ kw_ws := kz_1 (List.mem_of_getElem? (i := 17) (by decide +kernel)) rfl
theorem wCX7_init : Cond.code yX7_init cX7_init 1 none ∈ kw_ws := kz_1 (List.mem_of_getElem? (i := 18) (by decide +kernel)) rfl
theorem kmX7_3 : Cond.methodLink RX7 3 objectInit ∈ kw_ws := kz_1 (List.mem_of_getElem? (i := 19) (by decide +kernel)) rfl
theorem wIObj : Cond.instanceMethod objectInit ∈ kw_ws := kz_1 (List.mem_of_getElem? (i := 20) (by decide +kernel)) rfl
theorem wCObj : Cond.code objectInit ⟨#[0xb1]⟩ 1 none ∈ kw_ws := kz_1 (List.mem_of_getElem? (i := 21) (by decide +kernel)) rfl
theorem kcX7_9 : Cond.classLink RX7 9 RX3 ∈ kw_ws := kz_1 (List.mem_of_getElem? (i := 22) (by decide +kernel)) rfl
theorem wKX3 : Cond.instantiable RX3 3 ∈ kw_ws := kz_1 (List.mem_of_getElem? (i := 23) (by decide +kernel)) rfl
theorem kmX7_11 : Cond.methodLink RX7 11 yX3_init ∈ kw_ws := kz_1 (List.mem_of_getElem? (i := 24) (by decide +kernel)) rfl
theorem wIX3_init : Cond.instanceMethod yX3_init ∈ kw_ws := kz_1 (List.mem_of_getElem? (i := 25) (by decide +kernel)) rfl
theorem wCX3_init : Cond.code yX3_init cX3_init 3 none ∈ kw_ws := kz_1 (List.mem_of_getElem? (i := 26) (by decide +kernel)) rfl
theorem kmX3_3 : Cond.methodLink RX3 3 objectInit ∈ kw_ws := kz_1 (List.mem_of_getElem? (i := 27) (by decide +kernel)) rfl
theorem kcX3_15 : Cond.classLink RX3 15 "[[I" ∈ kw_ws := kz_1 (List.mem_of_getElem? (i := 28) (by decide +kernel)) rfl
theorem wArr : Cond.arrayClass .int ∈ kw_ws := kz_1 (List.mem_of_getElem? (i := 44) (by decide +kernel)) rfl
theorem kcX7_21 : Cond.classLink RX7 21 RX2 ∈ kw_ws := kz_1 (List.mem_of_getElem? (i := 45) (by decide +kernel)) rfl
theorem wKX2 : Cond.instantiable RX2 2 ∈ kw_ws := kz_1 (List.mem_of_getElem? (i := 46) (by decide +kernel)) rfl
theorem wIX2_init : Cond.instanceMethod yX2_init ∈ kw_ws := kz_1 (List.mem_of_getElem? (i := 48) (by decide +kernel)) rfl
theorem wCX2_init : Cond.code yX2_init cX2_init 1 none ∈ kw_ws := kz_1 (List.mem_of_getElem? (i := 49) (by decide +kernel)) rfl
theorem kmX2_3 : Cond.methodLink RX2 3 objectInit ∈ kw_ws := kz_1 (List.mem_of_getElem? (i := 50) (by decide +kernel)) rfl
theorem kcX2_9 : Cond.classLink RX2 9 RX1 ∈ kw_ws := kz_1 (List.mem_of_getElem? (i := 51) (by decide +kernel)) rfl
theorem wKX1 : Cond.instantiable RX1 7 ∈ kw_ws := kz_1 (List.mem_of_getElem? (i := 52) (by decide +kernel)) rfl
theorem wIX1_init : Cond.instanceMethod yX1_init ∈ kw_ws := kz_1 (List.mem_of_getElem? (i := 54) (by decide +kernel)) rfl
theorem wCX1_init : Cond.code yX1_init cX1_init 1 none ∈ kw_ws := kz_1 (List.mem_of_getElem? (i := 55) (by decide +kernel)) rfl
theorem kmX1_3 : Cond.methodLink RX1 3 objectInit ∈ kw_ws := kz_1 (List.mem_of_getElem? (i := 56) (by decide +kernel)) rfl
theorem kcX7_28 : Cond.classLink RX7 28 RX5 ∈ kw_ws := kz_1 (List.mem_of_getElem? (i := 104) (by decide +kernel)) rfl
theorem wKX5 : Cond.instantiable RX5 8 ∈ kw_ws := kz_1 (List.mem_of_getElem? (i := 105) (by decide +kernel)) rfl
theorem wIX5_init : Cond.instanceMethod yX5_init ∈ kw_ws := kz_1 (List.mem_of_getElem? (i := 107) (by decide +kernel)) rfl
theorem wCX5_init : Cond.code yX5_init cX5_init 1 none ∈ kw_ws := kz_1 (List.mem_of_getElem? (i := 108) (by decide +kernel)) rfl
theorem kmX5_3 : Cond.methodLink RX5 3 objectInit ∈ kw_ws := kz_1 (List.mem_of_getElem? (i := 109) (by decide +kernel)) rfl
theorem kcX5_9 : Cond.classLink RX5 9 RX1 ∈ kw_ws := kz_1 (List.mem_of_getElem? (i := 110) (by decide +kernel)) rfl
theorem kcX7_38 : Cond.classLink RX7 38 RX0 ∈ kw_ws := kz_1 (List.mem_of_getElem? (i := 148) (by decide +kernel)) rfl
theorem wKX0 : Cond.instantiable RX0 4 ∈ kw_ws := kz_1 (List.mem_of_getElem? (i := 149) (by decide +kernel)) rfl
theorem wIX0_init : Cond.instanceMethod yX0_init ∈ kw_ws := kz_1 (List.mem_of_getElem? (i := 151) (by decide +kernel)) rfl
theorem wCX0_init : Cond.code yX0_init cX0_init 1 none ∈ kw_ws := kz_1 (List.mem_of_getElem? (i := 152) (by decide +kernel)) rfl
theorem kmX0_3 : Cond.methodLink RX0 3 objectInit ∈ kw_ws := kz_1 (List.mem_of_getElem? (i := 153) (by decide +kernel)) rfl
theorem kcX7_45 : Cond.classLink RX7 45 RX6 ∈ kw_ws := kz_1 (List.mem_of_getElem? (i := 170) (by decide +kernel)) rfl
theorem wKX6 : Cond.instantiable RX6 8 ∈ kw_ws := kz_1 (List.mem_of_getElem? (i := 171) (by decide +kernel)) rfl
theorem kmX7_47 : Cond.methodLink RX7 47 yX6_init ∈ kw_ws := kz_1 (List.mem_of_getElem? (i := 172) (by decide +kernel)) rfl
theorem wIX6_init : Cond.instanceMethod yX6_init ∈ kw_ws := kz_1 (List.mem_of_getElem? (i := 173) (by decide +kernel)) rfl
theorem wCX6_init : Cond.code yX6_init cX6_init 2 none ∈ kw_ws := kz_1 (List.mem_of_getElem? (i := 174) (by decide +kernel)) rfl
theorem kmX6_3 : Cond.methodLink RX6 3 objectInit ∈ kw_ws := kz_1 (List.mem_of_getElem? (i := 175) (by decide +kernel)) rfl
theorem kcX6_15 : Cond.classLink RX6 15 RX0 ∈ kw_ws := kz_1 (List.mem_of_getElem? (i := 176) (by decide +kernel)) rfl
theorem kcX7_52 : Cond.classLink RX7 52 RX4 ∈ kw_ws := kz_1 (List.mem_of_getElem? (i := 206) (by decide +kernel)) rfl
theorem wKX4 : Cond.instantiable RX4 5 ∈ kw_ws := kz_1 (List.mem_of_getElem? (i := 207) (by decide +kernel)) rfl
theorem wIX4_init : Cond.instanceMethod yX4_init ∈ kw_ws := kz_1 (List.mem_of_getElem? (i := 209) (by decide +kernel)) rfl
theorem wCX4_init : Cond.code yX4_init cX4_init 1 none ∈ kw_ws := kz_1 (List.mem_of_getElem? (i := 210) (by decide +kernel)) rfl
theorem kmX4_3 : Cond.methodLink RX4 3 objectInit ∈ kw_ws := kz_1 (List.mem_of_getElem? (i := 211) (by decide +kernel)) rfl
theorem kcL_10 : Cond.classLink RL 10 RX8 ∈ kw_ws := kz_4 (List.mem_of_getElem? (i := 37) (by decide +kernel)) rfl
theorem wKX8 : Cond.instantiable RX8 37 ∈ kw_ws := kz_4 (List.mem_of_getElem? (i := 38) (by decide +kernel)) rfl
theorem kmL_12 : Cond.methodLink RL 12 yX8_init ∈ kw_ws := kz_4 (List.mem_of_getElem? (i := 39) (by decide +kernel)) rfl
theorem wIX8_init : Cond.instanceMethod yX8_init ∈ kw_ws := kz_4 (List.mem_of_getElem? (i := 40) (by decide +kernel)) rfl
theorem wCX8_init : Cond.code yX8_init cX8_init 2 none ∈ kw_ws := kz_4 (List.mem_of_getElem? (i := 41) (by decide +kernel)) rfl
theorem kmX8_1 : Cond.methodLink RX8 1 objectInit ∈ kw_ws := kz_4 (List.mem_of_getElem? (i := 42) (by decide +kernel)) rfl
def kc_NM : List (String × Nat × MethodName) := [(RX7, 23, yX2_init), (RX2, 11, yX1_init), (RX7, 30, yX5_init), (RX5, 11, yX1_init), (RX7, 40, yX0_init), (RX6, 27, yX0_init), (RX7, 54, yX4_init)]
theorem kc_dec {bs : ByteArray} {tb : List (Nat × Instr × Nat)} (h : ∀ q ∈ tb, decode bs q.1 = .ok q.2) (i : Nat) {pc len : Nat} {ins : Instr} (hi : tb[i]? = some (pc, ins, len)) : decode bs pc = .ok (ins, len) := h (pc, ins, len) (List.mem_of_getElem? hi)
abbrev kc_tys (cI cII cC : ClassId) : List (ClassId × FieldType) := [(cI, .int), (cII, .array .int), (cC, .object "WashSails$Chart")]
theorem kc_same {D : va_G} {cl : List vw_C} {tys : List (ClassId × FieldType)} {s : State} (h : va_K D cl tys s) (i j : Nat) {c c' : ClassId} (hi : tys[i]? = some (c, .int)) (hj : tys[j]? = some (c', .int)) : c = c' := by
  have a : s.vm.findClass ("[" ++ FieldType.int.toString) = some c := (h.2 i _ hi).2
  have b : s.vm.findClass ("[" ++ FieldType.int.toString) = some c' := (h.2 j _ hj).2
  exact Option.some.inj (a.symm.trans b)
/-- what the tables say beside kw_ws: links of nest mates' constructors, arrays of arrays, arrays of charts -/
def kc_AOA (U : State) : Prop := (Cond.arrayOver (.array .int)).before #[] U = true
theorem kc_AOA.moved {u U : State} (h : u.vm.Alike U.vm) (hu : kc_AOA u) : kc_AOA U := by
  have h1 := Cond.arrayOver_setVmC (args := #[]) h (.array .int)
  have h2 : (Cond.arrayOver (.array .int)).before #[] (u.setVm U.vm) = true := h1.trans hu
  exact h2
def kc_St (U : State) : Prop := (∀ q ∈ kc_NM, va_Nw (.methodLinkNest q.1 q.2.1 q.2.2 "WashSails") U) ∧ va_AO "WashSails$Chart" U ∧ kc_AOA U
theorem kc_St.calling {U : State} (h : kc_St U) (g : JFrame) (mk : MethodId) (a : Array Value) : kc_St (U.calling g mk a) :=
  ⟨fun q hq => va_Nw.same (u := U) (U := U.calling g mk a) rfl rfl (h.1 q hq), va_AO.moved (u := U) (U := U.calling g mk a) (Vm.Alike.refl U.vm) h.2.1, kc_AOA.moved (u := U) (U := U.calling g mk a) (Vm.Alike.refl U.vm) h.2.2⟩
theorem kc_St.next {s U : State} (h : kc_St s) (hW : s.WarmedH U.vm) : kc_St U := ⟨fun q hq => va_Nw.warmM hW (h.1 q hq), h.2.1.moved hW.alike, h.2.2.moved hW.alike⟩
def kc_Pre (D : va_G) (cI cII cC : ClassId) (sz : Nat) (av : List Value) (ws : va_W) : Array Value → State → Prop :=
  va_Pc av (fun U => U.heap.size = sz ∧ va_P D vwCl ws U.heap ∧ va_K D vwCl (kc_tys cI cII cC) U ∧ va_D (fun _ => True) ws ∧ kc_St U)
theorem kc_blind {D : va_G} {cI cII cC : ClassId} {sz : Nat} {av : List Value} {ws : va_W} : FrameBlind (kc_Pre D cI cII cC sz av ws) := by
  intro a U g mk q
  obtain ⟨q0, q1, qP, qK, qD, qS⟩ := q
  exact ⟨q0, q1, qP, va_K.moved (u := U) (U := U.calling g mk a) (Vm.Alike.refl U.vm) qK, qD, qS.calling g mk a⟩
def kc_rm (d c n : Nat) : Room := { frames := d, cells := c, slots := n, locals := 60 * d }
