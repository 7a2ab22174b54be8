section
def kl_T0 : List (Nat × Instr × Nat) := [(0, .new 7, 3), (3, .dup, 1), (4, .invokespecial 9, 3), (7, .astore_n 1, 1), (8, .new 10, 3), (11, .dup, 1), (12, .invokespecial 12, 3), (15, .astore_n 2, 1), (16, .iconst 0, 1), (17, .istore_n 3, 1), (18, .iload_n 3, 1), (19, .aload_n 0, 1), (20, .arraylength, 1), (21, .bipush 6, 2), (23, .isub, 1), (24, .if_icmp .gt 1341, 3), (27, .aload_n 0, 1), (28, .iload_n 3, 1), (29, .iaload, 1), (30, .bipush 63, 2), (32, .iand, 1), (33, .tableswitch 1326 0 42 #[187, 220, 263, 296, 319, 382, 405, 438, 481, 504, 527, 560, 593, 616, 639, 662, 675, 698, 721, 744, 767, 790, 813, 826, 849, 872, 915, 938, 971, 1004, 1037, 1070, 1093, 1126, 1169, 1202, 1215, 1228, 1241, 1264, 1277, 1290, 1313], 187), (220, .aload_n 1, 1), (221, .aload_n 0, 1), (222, .iload_n 3, 1), (223, .iconst 1, 1), (224, .iadd, 1), (225, .iaload, 1), (226, .aload_n 0, 1), (227, .iload_n 3, 1), (228, .iconst 2, 1), (229, .iadd, 1), (230, .iaload, 1), (231, .invokevirtual 13, 3), (234, .pop, 1), (235, .aload_n 2, 1), (236, .aload_n 0, 1), (237, .iload_n 3, 1), (238, .iconst 1, 1), (239, .iadd, 1), (240, .iaload, 1), (241, .aload_n 0, 1), (242, .iload_n 3, 1), (243, .iconst 2, 1), (244, .iadd, 1), (245, .iaload, 1), (246, .invokevirtual 17, 3), (249, .pop, 1), (250, .goto 1109, 3), (253, .aload_n 1, 1), (254, .aload_n 0, 1), (255, .iload_n 3, 1), (256, .iconst 1, 1), (257, .iadd, 1), (258, .iaload, 1), (259, .aload_n 0, 1), (260, .iload_n 3, 1), (261, .iconst 2, 1), (262, .iadd, 1), (263, .iaload, 1)]
set_option maxRecDepth 100000 in
theorem kl_t0 : ∀ q ∈ kl_T0, decode code q.1 = .ok q.2 := kd_tab2 code 0 kl_T0 (by decide +kernel)
def kl_T1 : List (Nat × Instr × Nat) := [(264, .aload_n 0, 1), (265, .iload_n 3, 1), (266, .iconst 3, 1), (267, .iadd, 1), (268, .iaload, 1), (269, .invokevirtual 18, 3), (272, .pop, 1), (273, .aload_n 2, 1), (274, .aload_n 0, 1), (275, .iload_n 3, 1), (276, .iconst 1, 1), (277, .iadd, 1), (278, .iaload, 1), (279, .aload_n 0, 1), (280, .iload_n 3, 1), (281, .iconst 2, 1), (282, .iadd, 1), (283, .iaload, 1), (284, .aload_n 0, 1), (285, .iload_n 3, 1), (286, .iconst 3, 1), (287, .iadd, 1), (288, .iaload, 1), (289, .invokevirtual 22, 3), (292, .pop, 1), (293, .goto 1066, 3), (296, .aload_n 1, 1), (297, .aload_n 0, 1), (298, .iload_n 3, 1), (299, .iconst 1, 1), (300, .iadd, 1), (301, .iaload, 1), (302, .aload_n 0, 1), (303, .iload_n 3, 1), (304, .iconst 2, 1), (305, .iadd, 1), (306, .iaload, 1), (307, .invokevirtual 23, 3), (310, .pop, 1), (311, .aload_n 2, 1), (312, .aload_n 0, 1), (313, .iload_n 3, 1), (314, .iconst 1, 1), (315, .iadd, 1), (316, .iaload, 1), (317, .aload_n 0, 1), (318, .iload_n 3, 1), (319, .iconst 2, 1), (320, .iadd, 1), (321, .iaload, 1), (322, .invokevirtual 26, 3), (325, .pop, 1), (326, .goto 1033, 3), (329, .aload_n 1, 1), (330, .aload_n 0, 1), (331, .iload_n 3, 1), (332, .iconst 1, 1), (333, .iadd, 1), (334, .iaload, 1), (335, .invokevirtual 27, 3)]
set_option maxRecDepth 100000 in
theorem kl_t1 : ∀ q ∈ kl_T1, decode code q.1 = .ok q.2 := kd_tab2 code 264 kl_T1 (by decide +kernel)
def kl_T2 : List (Nat × Instr × Nat) := [(338, .pop, 1), (339, .aload_n 2, 1), (340, .aload_n 0, 1), (341, .iload_n 3, 1), (342, .iconst 1, 1), (343, .iadd, 1), (344, .iaload, 1), (345, .invokevirtual 31, 3), (348, .pop, 1), (349, .goto 1010, 3), (352, .aload_n 1, 1), (353, .aload_n 0, 1), (354, .iload_n 3, 1), (355, .iconst 1, 1), (356, .iadd, 1), (357, .iaload, 1), (358, .aload_n 0, 1), (359, .iload_n 3, 1), (360, .iconst 2, 1), (361, .iadd, 1), (362, .iaload, 1), (363, .aload_n 0, 1), (364, .iload_n 3, 1), (365, .iconst 3, 1), (366, .iadd, 1), (367, .iaload, 1), (368, .aload_n 0, 1), (369, .iload_n 3, 1), (370, .iconst 4, 1), (371, .iadd, 1), (372, .iaload, 1), (373, .aload_n 0, 1), (374, .iload_n 3, 1), (375, .iconst 5, 1), (376, .iadd, 1), (377, .iaload, 1), (378, .invokevirtual 32, 3), (381, .pop, 1), (382, .aload_n 2, 1), (383, .aload_n 0, 1), (384, .iload_n 3, 1), (385, .iconst 1, 1), (386, .iadd, 1), (387, .iaload, 1), (388, .aload_n 0, 1), (389, .iload_n 3, 1), (390, .iconst 2, 1), (391, .iadd, 1), (392, .iaload, 1), (393, .aload_n 0, 1), (394, .iload_n 3, 1), (395, .iconst 3, 1), (396, .iadd, 1), (397, .iaload, 1), (398, .aload_n 0, 1), (399, .iload_n 3, 1), (400, .iconst 4, 1), (401, .iadd, 1), (402, .iaload, 1), (403, .aload_n 0, 1)]
set_option maxRecDepth 100000 in
theorem kl_t2 : ∀ q ∈ kl_T2, decode code q.1 = .ok q.2 := kd_tab2 code 338 kl_T2 (by decide +kernel)
def kl_T3 : List (Nat × Instr × Nat) := [(404, .iload_n 3, 1), (405, .iconst 5, 1), (406, .iadd, 1), (407, .iaload, 1), (408, .invokevirtual 36, 3), (411, .pop, 1), (412, .goto 947, 3), (415, .aload_n 1, 1), (416, .aload_n 0, 1), (417, .iload_n 3, 1), (418, .iconst 1, 1), (419, .iadd, 1), (420, .iaload, 1), (421, .invokevirtual 37, 3), (424, .pop, 1), (425, .aload_n 2, 1), (426, .aload_n 0, 1), (427, .iload_n 3, 1), (428, .iconst 1, 1), (429, .iadd, 1), (430, .iaload, 1), (431, .invokevirtual 40, 3), (434, .pop, 1), (435, .goto 924, 3), (438, .aload_n 1, 1), (439, .aload_n 0, 1), (440, .iload_n 3, 1), (441, .iconst 1, 1), (442, .iadd, 1), (443, .iaload, 1), (444, .aload_n 0, 1), (445, .iload_n 3, 1), (446, .iconst 2, 1), (447, .iadd, 1), (448, .iaload, 1), (449, .invokevirtual 41, 3), (452, .pop, 1), (453, .aload_n 2, 1), (454, .aload_n 0, 1), (455, .iload_n 3, 1), (456, .iconst 1, 1), (457, .iadd, 1), (458, .iaload, 1), (459, .aload_n 0, 1), (460, .iload_n 3, 1), (461, .iconst 2, 1), (462, .iadd, 1), (463, .iaload, 1), (464, .invokevirtual 44, 3), (467, .pop, 1), (468, .goto 891, 3), (471, .aload_n 1, 1), (472, .aload_n 0, 1), (473, .iload_n 3, 1), (474, .iconst 1, 1), (475, .iadd, 1), (476, .iaload, 1), (477, .aload_n 0, 1), (478, .iload_n 3, 1), (479, .iconst 2, 1)]
set_option maxRecDepth 100000 in
theorem kl_t3 : ∀ q ∈ kl_T3, decode code q.1 = .ok q.2 := kd_tab2 code 404 kl_T3 (by decide +kernel)
def kl_T4 : List (Nat × Instr × Nat) := [(480, .iadd, 1), (481, .iaload, 1), (482, .aload_n 0, 1), (483, .iload_n 3, 1), (484, .iconst 3, 1), (485, .iadd, 1), (486, .iaload, 1), (487, .invokevirtual 45, 3), (490, .pop, 1), (491, .aload_n 2, 1), (492, .aload_n 0, 1), (493, .iload_n 3, 1), (494, .iconst 1, 1), (495, .iadd, 1), (496, .iaload, 1), (497, .aload_n 0, 1), (498, .iload_n 3, 1), (499, .iconst 2, 1), (500, .iadd, 1), (501, .iaload, 1), (502, .aload_n 0, 1), (503, .iload_n 3, 1), (504, .iconst 3, 1), (505, .iadd, 1), (506, .iaload, 1), (507, .invokevirtual 48, 3), (510, .pop, 1), (511, .goto 848, 3), (514, .aload_n 1, 1), (515, .aload_n 0, 1), (516, .iload_n 3, 1), (517, .iconst 1, 1), (518, .iadd, 1), (519, .iaload, 1), (520, .invokevirtual 49, 3), (523, .pop, 1), (524, .aload_n 2, 1), (525, .aload_n 0, 1), (526, .iload_n 3, 1), (527, .iconst 1, 1), (528, .iadd, 1), (529, .iaload, 1), (530, .invokevirtual 52, 3), (533, .pop, 1), (534, .goto 825, 3), (537, .aload_n 1, 1), (538, .aload_n 0, 1), (539, .iload_n 3, 1), (540, .iconst 1, 1), (541, .iadd, 1), (542, .iaload, 1), (543, .invokevirtual 53, 3), (546, .pop, 1), (547, .aload_n 2, 1), (548, .aload_n 0, 1), (549, .iload_n 3, 1), (550, .iconst 1, 1), (551, .iadd, 1), (552, .iaload, 1), (553, .invokevirtual 56, 3)]
set_option maxRecDepth 100000 in
theorem kl_t4 : ∀ q ∈ kl_T4, decode code q.1 = .ok q.2 := kd_tab2 code 480 kl_T4 (by decide +kernel)
def kl_T5 : List (Nat × Instr × Nat) := [(556, .pop, 1), (557, .goto 802, 3), (560, .aload_n 1, 1), (561, .aload_n 0, 1), (562, .iload_n 3, 1), (563, .iconst 1, 1), (564, .iadd, 1), (565, .iaload, 1), (566, .aload_n 0, 1), (567, .iload_n 3, 1), (568, .iconst 2, 1), (569, .iadd, 1), (570, .iaload, 1), (571, .invokevirtual 57, 3), (574, .pop, 1), (575, .aload_n 2, 1), (576, .aload_n 0, 1), (577, .iload_n 3, 1), (578, .iconst 1, 1), (579, .iadd, 1), (580, .iaload, 1), (581, .aload_n 0, 1), (582, .iload_n 3, 1), (583, .iconst 2, 1), (584, .iadd, 1), (585, .iaload, 1), (586, .invokevirtual 60, 3), (589, .pop, 1), (590, .goto 769, 3), (593, .aload_n 1, 1), (594, .aload_n 0, 1), (595, .iload_n 3, 1), (596, .iconst 1, 1), (597, .iadd, 1), (598, .iaload, 1), (599, .aload_n 0, 1), (600, .iload_n 3, 1), (601, .iconst 2, 1), (602, .iadd, 1), (603, .iaload, 1), (604, .invokevirtual 61, 3), (607, .pop, 1), (608, .aload_n 2, 1), (609, .aload_n 0, 1), (610, .iload_n 3, 1), (611, .iconst 1, 1), (612, .iadd, 1), (613, .iaload, 1), (614, .aload_n 0, 1), (615, .iload_n 3, 1), (616, .iconst 2, 1), (617, .iadd, 1), (618, .iaload, 1), (619, .invokevirtual 64, 3), (622, .pop, 1), (623, .goto 736, 3), (626, .aload_n 1, 1), (627, .aload_n 0, 1), (628, .iload_n 3, 1), (629, .iconst 1, 1)]
set_option maxRecDepth 100000 in
theorem kl_t5 : ∀ q ∈ kl_T5, decode code q.1 = .ok q.2 := kd_tab2 code 556 kl_T5 (by decide +kernel)
def kl_T6 : List (Nat × Instr × Nat) := [(630, .iadd, 1), (631, .iaload, 1), (632, .invokevirtual 65, 3), (635, .pop, 1), (636, .aload_n 2, 1), (637, .aload_n 0, 1), (638, .iload_n 3, 1), (639, .iconst 1, 1), (640, .iadd, 1), (641, .iaload, 1), (642, .invokevirtual 68, 3), (645, .pop, 1), (646, .goto 713, 3), (649, .aload_n 1, 1), (650, .aload_n 0, 1), (651, .iload_n 3, 1), (652, .iconst 1, 1), (653, .iadd, 1), (654, .iaload, 1), (655, .invokevirtual 69, 3), (658, .pop, 1), (659, .aload_n 2, 1), (660, .aload_n 0, 1), (661, .iload_n 3, 1), (662, .iconst 1, 1), (663, .iadd, 1), (664, .iaload, 1), (665, .invokevirtual 72, 3), (668, .pop, 1), (669, .goto 690, 3), (672, .aload_n 1, 1), (673, .aload_n 0, 1), (674, .iload_n 3, 1), (675, .iconst 1, 1), (676, .iadd, 1), (677, .iaload, 1), (678, .invokevirtual 73, 3), (681, .pop, 1), (682, .aload_n 2, 1), (683, .aload_n 0, 1), (684, .iload_n 3, 1), (685, .iconst 1, 1), (686, .iadd, 1), (687, .iaload, 1), (688, .invokevirtual 76, 3), (691, .pop, 1), (692, .goto 667, 3), (695, .aload_n 1, 1), (696, .invokevirtual 77, 3), (699, .pop, 1), (700, .aload_n 2, 1), (701, .invokevirtual 81, 3), (704, .pop, 1), (705, .goto 654, 3), (708, .aload_n 1, 1), (709, .aload_n 0, 1), (710, .iload_n 3, 1), (711, .iconst 1, 1), (712, .iadd, 1), (713, .iaload, 1)]
set_option maxRecDepth 100000 in
theorem kl_t6 : ∀ q ∈ kl_T6, decode code q.1 = .ok q.2 := kd_tab2 code 630 kl_T6 (by decide +kernel)
def kl_T7 : List (Nat × Instr × Nat) := [(714, .invokevirtual 82, 3), (717, .pop, 1), (718, .aload_n 2, 1), (719, .aload_n 0, 1), (720, .iload_n 3, 1), (721, .iconst 1, 1), (722, .iadd, 1), (723, .iaload, 1), (724, .invokevirtual 85, 3), (727, .pop, 1), (728, .goto 631, 3), (731, .aload_n 1, 1), (732, .aload_n 0, 1), (733, .iload_n 3, 1), (734, .iconst 1, 1), (735, .iadd, 1), (736, .iaload, 1), (737, .invokevirtual 86, 3), (740, .pop, 1), (741, .aload_n 2, 1), (742, .aload_n 0, 1), (743, .iload_n 3, 1), (744, .iconst 1, 1), (745, .iadd, 1), (746, .iaload, 1), (747, .invokevirtual 89, 3), (750, .pop, 1), (751, .goto 608, 3), (754, .aload_n 1, 1), (755, .aload_n 0, 1), (756, .iload_n 3, 1), (757, .iconst 1, 1), (758, .iadd, 1), (759, .iaload, 1), (760, .invokevirtual 90, 3), (763, .pop, 1), (764, .aload_n 2, 1), (765, .aload_n 0, 1), (766, .iload_n 3, 1), (767, .iconst 1, 1), (768, .iadd, 1), (769, .iaload, 1), (770, .invokevirtual 93, 3), (773, .pop, 1), (774, .goto 585, 3), (777, .aload_n 1, 1), (778, .aload_n 0, 1), (779, .iload_n 3, 1), (780, .iconst 1, 1), (781, .iadd, 1), (782, .iaload, 1), (783, .invokevirtual 94, 3), (786, .pop, 1), (787, .aload_n 2, 1), (788, .aload_n 0, 1), (789, .iload_n 3, 1), (790, .iconst 1, 1), (791, .iadd, 1), (792, .iaload, 1), (793, .invokevirtual 97, 3)]
set_option maxRecDepth 100000 in
theorem kl_t7 : ∀ q ∈ kl_T7, decode code q.1 = .ok q.2 := kd_tab2 code 714 kl_T7 (by decide +kernel)
def kl_T8 : List (Nat × Instr × Nat) := [(796, .pop, 1), (797, .goto 562, 3), (800, .aload_n 1, 1), (801, .aload_n 0, 1), (802, .iload_n 3, 1), (803, .iconst 1, 1), (804, .iadd, 1), (805, .iaload, 1), (806, .invokevirtual 98, 3), (809, .pop, 1), (810, .aload_n 2, 1), (811, .aload_n 0, 1), (812, .iload_n 3, 1), (813, .iconst 1, 1), (814, .iadd, 1), (815, .iaload, 1), (816, .invokevirtual 101, 3), (819, .pop, 1), (820, .goto 539, 3), (823, .aload_n 1, 1), (824, .aload_n 0, 1), (825, .iload_n 3, 1), (826, .iconst 1, 1), (827, .iadd, 1), (828, .iaload, 1), (829, .invokevirtual 102, 3), (832, .pop, 1), (833, .aload_n 2, 1), (834, .aload_n 0, 1), (835, .iload_n 3, 1), (836, .iconst 1, 1), (837, .iadd, 1), (838, .iaload, 1), (839, .invokevirtual 105, 3), (842, .pop, 1), (843, .goto 516, 3), (846, .aload_n 1, 1), (847, .invokevirtual 106, 3), (850, .pop, 1), (851, .aload_n 2, 1), (852, .invokevirtual 109, 3), (855, .pop, 1), (856, .goto 503, 3), (859, .aload_n 1, 1), (860, .aload_n 0, 1), (861, .iload_n 3, 1), (862, .iconst 1, 1), (863, .iadd, 1), (864, .iaload, 1), (865, .invokevirtual 110, 3), (868, .pop, 1), (869, .aload_n 2, 1), (870, .aload_n 0, 1), (871, .iload_n 3, 1), (872, .iconst 1, 1), (873, .iadd, 1), (874, .iaload, 1), (875, .invokevirtual 113, 3), (878, .pop, 1), (879, .goto 480, 3)]
set_option maxRecDepth 100000 in
theorem kl_t8 : ∀ q ∈ kl_T8, decode code q.1 = .ok q.2 := kd_tab2 code 796 kl_T8 (by decide +kernel)
def kl_T9 : List (Nat × Instr × Nat) := [(882, .aload_n 1, 1), (883, .aload_n 0, 1), (884, .iload_n 3, 1), (885, .iconst 1, 1), (886, .iadd, 1), (887, .iaload, 1), (888, .invokevirtual 114, 3), (891, .pop, 1), (892, .aload_n 2, 1), (893, .aload_n 0, 1), (894, .iload_n 3, 1), (895, .iconst 1, 1), (896, .iadd, 1), (897, .iaload, 1), (898, .invokevirtual 117, 3), (901, .pop, 1), (902, .goto 457, 3), (905, .aload_n 1, 1), (906, .aload_n 0, 1), (907, .iload_n 3, 1), (908, .iconst 1, 1), (909, .iadd, 1), (910, .iaload, 1), (911, .aload_n 0, 1), (912, .iload_n 3, 1), (913, .iconst 2, 1), (914, .iadd, 1), (915, .iaload, 1), (916, .aload_n 0, 1), (917, .iload_n 3, 1), (918, .iconst 3, 1), (919, .iadd, 1), (920, .iaload, 1), (921, .invokevirtual 118, 3), (924, .pop, 1), (925, .aload_n 2, 1), (926, .aload_n 0, 1), (927, .iload_n 3, 1), (928, .iconst 1, 1), (929, .iadd, 1), (930, .iaload, 1), (931, .aload_n 0, 1), (932, .iload_n 3, 1), (933, .iconst 2, 1), (934, .iadd, 1), (935, .iaload, 1), (936, .aload_n 0, 1), (937, .iload_n 3, 1), (938, .iconst 3, 1), (939, .iadd, 1), (940, .iaload, 1), (941, .invokevirtual 121, 3), (944, .pop, 1), (945, .goto 414, 3), (948, .aload_n 1, 1), (949, .aload_n 0, 1), (950, .iload_n 3, 1), (951, .iconst 1, 1), (952, .iadd, 1), (953, .iaload, 1)]
set_option maxRecDepth 100000 in
theorem kl_t9 : ∀ q ∈ kl_T9, decode code q.1 = .ok q.2 := kd_tab2 code 882 kl_T9 (by decide +kernel)
def kl_T10 : List (Nat × Instr × Nat) := [(954, .invokevirtual 122, 3), (957, .pop, 1), (958, .aload_n 2, 1), (959, .aload_n 0, 1), (960, .iload_n 3, 1), (961, .iconst 1, 1), (962, .iadd, 1), (963, .iaload, 1), (964, .invokevirtual 125, 3), (967, .pop, 1), (968, .goto 391, 3), (971, .aload_n 1, 1), (972, .aload_n 0, 1), (973, .iload_n 3, 1), (974, .iconst 1, 1), (975, .iadd, 1), (976, .iaload, 1), (977, .aload_n 0, 1), (978, .iload_n 3, 1), (979, .iconst 2, 1), (980, .iadd, 1), (981, .iaload, 1), (982, .invokevirtual 126, 3), (985, .pop, 1), (986, .aload_n 2, 1), (987, .aload_n 0, 1), (988, .iload_n 3, 1), (989, .iconst 1, 1), (990, .iadd, 1), (991, .iaload, 1), (992, .aload_n 0, 1), (993, .iload_n 3, 1), (994, .iconst 2, 1), (995, .iadd, 1), (996, .iaload, 1), (997, .invokevirtual 129, 3), (1000, .pop, 1), (1001, .goto 358, 3), (1004, .aload_n 1, 1), (1005, .aload_n 0, 1), (1006, .iload_n 3, 1), (1007, .iconst 1, 1), (1008, .iadd, 1), (1009, .iaload, 1), (1010, .aload_n 0, 1), (1011, .iload_n 3, 1), (1012, .iconst 2, 1), (1013, .iadd, 1), (1014, .iaload, 1), (1015, .invokevirtual 130, 3), (1018, .pop, 1), (1019, .aload_n 2, 1), (1020, .aload_n 0, 1), (1021, .iload_n 3, 1), (1022, .iconst 1, 1), (1023, .iadd, 1), (1024, .iaload, 1), (1025, .aload_n 0, 1), (1026, .iload_n 3, 1), (1027, .iconst 2, 1)]
set_option maxRecDepth 100000 in
theorem kl_t10 : ∀ q ∈ kl_T10, decode code q.1 = .ok q.2 := kd_tab2 code 954 kl_T10 (by decide +kernel)
def kl_T11 : List (Nat × Instr × Nat) := [(1028, .iadd, 1), (1029, .iaload, 1), (1030, .invokevirtual 133, 3), (1033, .pop, 1), (1034, .goto 325, 3), (1037, .aload_n 1, 1), (1038, .aload_n 0, 1), (1039, .iload_n 3, 1), (1040, .iconst 1, 1), (1041, .iadd, 1), (1042, .iaload, 1), (1043, .aload_n 0, 1), (1044, .iload_n 3, 1), (1045, .iconst 2, 1), (1046, .iadd, 1), (1047, .iaload, 1), (1048, .invokevirtual 134, 3), (1051, .pop, 1), (1052, .aload_n 2, 1), (1053, .aload_n 0, 1), (1054, .iload_n 3, 1), (1055, .iconst 1, 1), (1056, .iadd, 1), (1057, .iaload, 1), (1058, .aload_n 0, 1), (1059, .iload_n 3, 1), (1060, .iconst 2, 1), (1061, .iadd, 1), (1062, .iaload, 1), (1063, .invokevirtual 137, 3), (1066, .pop, 1), (1067, .goto 292, 3), (1070, .aload_n 1, 1), (1071, .aload_n 0, 1), (1072, .iload_n 3, 1), (1073, .iconst 1, 1), (1074, .iadd, 1), (1075, .iaload, 1), (1076, .aload_n 0, 1), (1077, .iload_n 3, 1), (1078, .iconst 2, 1), (1079, .iadd, 1), (1080, .iaload, 1), (1081, .invokevirtual 138, 3), (1084, .pop, 1), (1085, .aload_n 2, 1), (1086, .aload_n 0, 1), (1087, .iload_n 3, 1), (1088, .iconst 1, 1), (1089, .iadd, 1), (1090, .iaload, 1), (1091, .aload_n 0, 1), (1092, .iload_n 3, 1), (1093, .iconst 2, 1), (1094, .iadd, 1), (1095, .iaload, 1), (1096, .invokevirtual 141, 3), (1099, .pop, 1), (1100, .goto 259, 3), (1103, .aload_n 1, 1)]
set_option maxRecDepth 100000 in
theorem kl_t11 : ∀ q ∈ kl_T11, decode code q.1 = .ok q.2 := kd_tab2 code 1028 kl_T11 (by decide +kernel)
def kl_T12 : List (Nat × Instr × Nat) := [(1104, .aload_n 0, 1), (1105, .iload_n 3, 1), (1106, .iconst 1, 1), (1107, .iadd, 1), (1108, .iaload, 1), (1109, .invokevirtual 142, 3), (1112, .aload_n 2, 1), (1113, .aload_n 0, 1), (1114, .iload_n 3, 1), (1115, .iconst 1, 1), (1116, .iadd, 1), (1117, .iaload, 1), (1118, .invokevirtual 145, 3), (1121, .if_icmp .eq 238, 3), (1124, .iconst 0, 1), (1125, .ireturn, 1), (1126, .aload_n 1, 1), (1127, .aload_n 0, 1), (1128, .iload_n 3, 1), (1129, .iconst 1, 1), (1130, .iadd, 1), (1131, .iaload, 1), (1132, .aload_n 0, 1), (1133, .iload_n 3, 1), (1134, .iconst 2, 1), (1135, .iadd, 1), (1136, .iaload, 1), (1137, .invokevirtual 146, 3), (1140, .pop, 1), (1141, .aload_n 2, 1), (1142, .aload_n 0, 1), (1143, .iload_n 3, 1), (1144, .iconst 1, 1), (1145, .iadd, 1), (1146, .iaload, 1), (1147, .aload_n 0, 1), (1148, .iload_n 3, 1), (1149, .iconst 2, 1), (1150, .iadd, 1), (1151, .iaload, 1), (1152, .invokevirtual 149, 3), (1155, .pop, 1), (1156, .goto 203, 3), (1159, .aload_n 1, 1), (1160, .aload_n 0, 1), (1161, .iload_n 3, 1), (1162, .iconst 1, 1), (1163, .iadd, 1), (1164, .iaload, 1), (1165, .aload_n 0, 1), (1166, .iload_n 3, 1), (1167, .iconst 2, 1), (1168, .iadd, 1), (1169, .iaload, 1), (1170, .aload_n 0, 1), (1171, .iload_n 3, 1), (1172, .iconst 3, 1), (1173, .iadd, 1), (1174, .iaload, 1), (1175, .invokevirtual 150, 3)]
set_option maxRecDepth 100000 in
theorem kl_t12 : ∀ q ∈ kl_T12, decode code q.1 = .ok q.2 := kd_tab2 code 1104 kl_T12 (by decide +kernel)
def kl_T13 : List (Nat × Instr × Nat) := [(1178, .pop, 1), (1179, .aload_n 2, 1), (1180, .aload_n 0, 1), (1181, .iload_n 3, 1), (1182, .iconst 1, 1), (1183, .iadd, 1), (1184, .iaload, 1), (1185, .aload_n 0, 1), (1186, .iload_n 3, 1), (1187, .iconst 2, 1), (1188, .iadd, 1), (1189, .iaload, 1), (1190, .aload_n 0, 1), (1191, .iload_n 3, 1), (1192, .iconst 3, 1), (1193, .iadd, 1), (1194, .iaload, 1), (1195, .invokevirtual 153, 3), (1198, .pop, 1), (1199, .goto 160, 3), (1202, .aload_n 1, 1), (1203, .aload_n 0, 1), (1204, .iload_n 3, 1), (1205, .iconst 1, 1), (1206, .iadd, 1), (1207, .iaload, 1), (1208, .aload_n 0, 1), (1209, .iload_n 3, 1), (1210, .iconst 2, 1), (1211, .iadd, 1), (1212, .iaload, 1), (1213, .invokevirtual 154, 3), (1216, .pop, 1), (1217, .aload_n 2, 1), (1218, .aload_n 0, 1), (1219, .iload_n 3, 1), (1220, .iconst 1, 1), (1221, .iadd, 1), (1222, .iaload, 1), (1223, .aload_n 0, 1), (1224, .iload_n 3, 1), (1225, .iconst 2, 1), (1226, .iadd, 1), (1227, .iaload, 1), (1228, .invokevirtual 157, 3), (1231, .pop, 1), (1232, .goto 127, 3), (1235, .aload_n 1, 1), (1236, .invokevirtual 158, 3), (1239, .pop, 1), (1240, .aload_n 2, 1), (1241, .invokevirtual 161, 3), (1244, .pop, 1), (1245, .goto 114, 3), (1248, .aload_n 1, 1), (1249, .invokevirtual 162, 3), (1252, .pop2, 1), (1253, .aload_n 2, 1), (1254, .invokevirtual 166, 3), (1257, .pop2, 1)]
set_option maxRecDepth 100000 in
theorem kl_t13 : ∀ q ∈ kl_T13, decode code q.1 = .ok q.2 := kd_tab2 code 1178 kl_T13 (by decide +kernel)
def kl_T14 : List (Nat × Instr × Nat) := [(1258, .goto 101, 3), (1261, .aload_n 1, 1), (1262, .invokevirtual 167, 3), (1265, .pop2, 1), (1266, .aload_n 2, 1), (1267, .invokevirtual 170, 3), (1270, .pop2, 1), (1271, .goto 88, 3), (1274, .aload_n 1, 1), (1275, .aload_n 0, 1), (1276, .iload_n 3, 1), (1277, .iconst 1, 1), (1278, .iadd, 1), (1279, .iaload, 1), (1280, .invokevirtual 171, 3), (1283, .pop, 1), (1284, .aload_n 2, 1), (1285, .aload_n 0, 1), (1286, .iload_n 3, 1), (1287, .iconst 1, 1), (1288, .iadd, 1), (1289, .iaload, 1), (1290, .invokevirtual 174, 3), (1293, .pop, 1), (1294, .goto 65, 3), (1297, .aload_n 1, 1), (1298, .invokevirtual 175, 3), (1301, .pop, 1), (1302, .aload_n 2, 1), (1303, .invokevirtual 178, 3), (1306, .pop, 1), (1307, .goto 52, 3), (1310, .aload_n 1, 1), (1311, .invokevirtual 179, 3), (1314, .pop, 1), (1315, .aload_n 2, 1), (1316, .invokevirtual 182, 3), (1319, .pop, 1), (1320, .goto 39, 3), (1323, .aload_n 1, 1), (1324, .aload_n 0, 1), (1325, .iload_n 3, 1), (1326, .iconst 1, 1), (1327, .iadd, 1), (1328, .iaload, 1), (1329, .invokevirtual 183, 3), (1332, .pop, 1), (1333, .aload_n 2, 1), (1334, .aload_n 0, 1), (1335, .iload_n 3, 1), (1336, .iconst 1, 1), (1337, .iadd, 1), (1338, .iaload, 1), (1339, .invokevirtual 186, 3), (1342, .pop, 1), (1343, .goto 16, 3), (1346, .aload_n 1, 1), (1347, .invokevirtual 187, 3), (1350, .pop2, 1), (1351, .aload_n 2, 1)]
set_option maxRecDepth 100000 in
theorem kl_t14 : ∀ q ∈ kl_T14, decode code q.1 = .ok q.2 := kd_tab2 code 1258 kl_T14 (by decide +kernel)
def kl_T15 : List (Nat × Instr × Nat) := [(1352, .invokevirtual 190, 3), (1355, .pop2, 1), (1356, .goto 3, 3), (1359, .iinc 3 6, 3), (1362, .goto (-1344), 3), (1365, .iconst 1, 1), (1366, .ireturn, 1)]
set_option maxRecDepth 100000 in
theorem kl_t15 : ∀ q ∈ kl_T15, decode code q.1 = .ok q.2 := kd_tab2 code 1352 kl_T15 (by decide +kernel)
def kl_R15 : List (Nat × Instr × Nat) := kl_T15
def kl_R14 : List (Nat × Instr × Nat) := kl_T14 ++ kl_R15
def kl_R13 : List (Nat × Instr × Nat) := kl_T13 ++ kl_R14
def kl_R12 : List (Nat × Instr × Nat) := kl_T12 ++ kl_R13
def kl_R11 : List (Nat × Instr × Nat) := kl_T11 ++ kl_R12
def kl_R10 : List (Nat × Instr × Nat) := kl_T10 ++ kl_R11
def kl_R9 : List (Nat × Instr × Nat) := kl_T9 ++ kl_R10
def kl_R8 : List (Nat × Instr × Nat) := kl_T8 ++ kl_R9
def kl_R7 : List (Nat × Instr × Nat) := kl_T7 ++ kl_R8
def kl_R6 : List (Nat × Instr × Nat) := kl_T6 ++ kl_R7
def kl_R5 : List (Nat × Instr × Nat) := kl_T5 ++ kl_R6
def kl_R4 : List (Nat × Instr × Nat) := kl_T4 ++ kl_R5
def kl_R3 : List (Nat × Instr × Nat) := kl_T3 ++ kl_R4
def kl_R2 : List (Nat × Instr × Nat) := kl_T2 ++ kl_R3
def kl_R1 : List (Nat × Instr × Nat) := kl_T1 ++ kl_R2
def kl_R0 : List (Nat × Instr × Nat) := kl_T0 ++ kl_R1
def kl_T : List (Nat × Instr × Nat) := kl_R0
theorem kl_q15 : ∀ q ∈ kl_R15, decode code q.1 = .ok q.2 := kl_t15
theorem kl_q14 : ∀ q ∈ kl_R14, decode code q.1 = .ok q.2 := List.forall_mem_append.mpr ⟨kl_t14, kl_q15⟩
theorem kl_q13 : ∀ q ∈ kl_R13, decode code q.1 = .ok q.2 := List.forall_mem_append.mpr ⟨kl_t13, kl_q14⟩
theorem kl_q12 : ∀ q ∈ kl_R12, decode code q.1 = .ok q.2 := List.forall_mem_append.mpr ⟨kl_t12, kl_q13⟩
theorem kl_q11 : ∀ q ∈ kl_R11, decode code q.1 = .ok q.2 := List.forall_mem_append.mpr ⟨kl_t11, kl_q12⟩
theorem kl_q10 : ∀ q ∈ kl_R10, decode code q.1 = .ok q.2 := List.forall_mem_append.mpr ⟨kl_t10, kl_q11⟩
theorem kl_q9 : ∀ q ∈ kl_R9, decode code q.1 = .ok q.2 := List.forall_mem_append.mpr ⟨kl_t9, kl_q10⟩
theorem kl_q8 : ∀ q ∈ kl_R8, decode code q.1 = .ok q.2 := List.forall_mem_append.mpr ⟨kl_t8, kl_q9⟩
theorem kl_q7 : ∀ q ∈ kl_R7, decode code q.1 = .ok q.2 := List.forall_mem_append.mpr ⟨kl_t7, kl_q8⟩
theorem kl_q6 : ∀ q ∈ kl_R6, decode code q.1 = .ok q.2 := List.forall_mem_append.mpr ⟨kl_t6, kl_q7⟩
theorem kl_q5 : ∀ q ∈ kl_R5, decode code q.1 = .ok q.2 := List.forall_mem_append.mpr ⟨kl_t5, kl_q6⟩
theorem kl_q4 : ∀ q ∈ kl_R4, decode code q.1 = .ok q.2 := List.forall_mem_append.mpr ⟨kl_t4, kl_q5⟩
theorem kl_q3 : ∀ q ∈ kl_R3, decode code q.1 = .ok q.2 := List.forall_mem_append.mpr ⟨kl_t3, kl_q4⟩
theorem kl_q2 : ∀ q ∈ kl_R2, decode code q.1 = .ok q.2 := List.forall_mem_append.mpr ⟨kl_t2, kl_q3⟩
theorem kl_q1 : ∀ q ∈ kl_R1, decode code q.1 = .ok q.2 := List.forall_mem_append.mpr ⟨kl_t1, kl_q2⟩
theorem kl_q0 : ∀ q ∈ kl_R0, decode code q.1 = .ok q.2 := List.forall_mem_append.mpr ⟨kl_t0, kl_q1⟩
theorem kl_t : ∀ q ∈ kl_T, decode code q.1 = .ok q.2 := kl_q0
def mL_law : kw_M := ((RL, yL_law, cL_law, 4, some .boolean), kl_T)
theorem kl_al {A B : List (Nat × Instr × Nat)} {j : Nat} {q : Nat × Instr × Nat} (h : A[j]? = some q) : (A ++ B)[j]? = some q := by
  obtain ⟨hj, -⟩ := List.getElem?_eq_some_iff.mp h
  rw [List.getElem?_append_left hj]; exact h
theorem kl_ap {A B : List (Nat × Instr × Nat)} {n : Nat} (hA : A.length = n) {j : Nat} {q : Nat × Instr × Nat} (h : B[j]? = some q) : (A ++ B)[j + n]? = some q := by
  rw [List.getElem?_append_right (by omega), hA, Nat.add_sub_cancel]; exact h
theorem kl_r0 (j : Nat) (q : Nat × Instr × Nat) (h : kl_R0[j]? = some q) : mL_law.2[j]? = some q := h
theorem kl_r1 (j : Nat) (q : Nat × Instr × Nat) (h : kl_R1[j]? = some q) : mL_law.2[j + 60]? = some q := by
  have e := kl_r0 (j + 60) q (show (kl_T0 ++ kl_R1)[j + 60]? = some q from kl_ap (show kl_T0.length = 60 from rfl) h)
  rw [show j + 60 = j + 60 + 0 by omega]; exact e
theorem kl_r2 (j : Nat) (q : Nat × Instr × Nat) (h : kl_R2[j]? = some q) : mL_law.2[j + 120]? = some q := by
  have e := kl_r1 (j + 60) q (show (kl_T1 ++ kl_R2)[j + 60]? = some q from kl_ap (show kl_T1.length = 60 from rfl) h)
  rw [show j + 120 = j + 60 + 60 by omega]; exact e
theorem kl_r3 (j : Nat) (q : Nat × Instr × Nat) (h : kl_R3[j]? = some q) : mL_law.2[j + 180]? = some q := by
  have e := kl_r2 (j + 60) q (show (kl_T2 ++ kl_R3)[j + 60]? = some q from kl_ap (show kl_T2.length = 60 from rfl) h)
  rw [show j + 180 = j + 60 + 120 by omega]; exact e
theorem kl_r4 (j : Nat) (q : Nat × Instr × Nat) (h : kl_R4[j]? = some q) : mL_law.2[j + 240]? = some q := by
  have e := kl_r3 (j + 60) q (show (kl_T3 ++ kl_R4)[j + 60]? = some q from kl_ap (show kl_T3.length = 60 from rfl) h)
  rw [show j + 240 = j + 60 + 180 by omega]; exact e
theorem kl_r5 (j : Nat) (q : Nat × Instr × Nat) (h : kl_R5[j]? = some q) : mL_law.2[j + 300]? = some q := by
  have e := kl_r4 (j + 60) q (show (kl_T4 ++ kl_R5)[j + 60]? = some q from kl_ap (show kl_T4.length = 60 from rfl) h)
  rw [show j + 300 = j + 60 + 240 by omega]; exact e
theorem kl_r6 (j : Nat) (q : Nat × Instr × Nat) (h : kl_R6[j]? = some q) : mL_law.2[j + 360]? = some q := by
  have e := kl_r5 (j + 60) q (show (kl_T5 ++ kl_R6)[j + 60]? = some q from kl_ap (show kl_T5.length = 60 from rfl) h)
  rw [show j + 360 = j + 60 + 300 by omega]; exact e
theorem kl_r7 (j : Nat) (q : Nat × Instr × Nat) (h : kl_R7[j]? = some q) : mL_law.2[j + 420]? = some q := by
  have e := kl_r6 (j + 60) q (show (kl_T6 ++ kl_R7)[j + 60]? = some q from kl_ap (show kl_T6.length = 60 from rfl) h)
  rw [show j + 420 = j + 60 + 360 by omega]; exact e
theorem kl_r8 (j : Nat) (q : Nat × Instr × Nat) (h : kl_R8[j]? = some q) : mL_law.2[j + 480]? = some q := by
  have e := kl_r7 (j + 60) q (show (kl_T7 ++ kl_R8)[j + 60]? = some q from kl_ap (show kl_T7.length = 60 from rfl) h)
  rw [show j + 480 = j + 60 + 420 by omega]; exact e
theorem kl_r9 (j : Nat) (q : Nat × Instr × Nat) (h : kl_R9[j]? = some q) : mL_law.2[j + 540]? = some q := by
  have e := kl_r8 (j + 60) q (show (kl_T8 ++ kl_R9)[j + 60]? = some q from kl_ap (show kl_T8.length = 60 from rfl) h)
  rw [show j + 540 = j + 60 + 480 by omega]; exact e
theorem kl_r10 (j : Nat) (q : Nat × Instr × Nat) (h : kl_R10[j]? = some q) : mL_law.2[j + 600]? = some q := by
  have e := kl_r9 (j + 60) q (show (kl_T9 ++ kl_R10)[j + 60]? = some q from kl_ap (show kl_T9.length = 60 from rfl) h)
  rw [show j + 600 = j + 60 + 540 by omega]; exact e
theorem kl_r11 (j : Nat) (q : Nat × Instr × Nat) (h : kl_R11[j]? = some q) : mL_law.2[j + 660]? = some q := by
  have e := kl_r10 (j + 60) q (show (kl_T10 ++ kl_R11)[j + 60]? = some q from kl_ap (show kl_T10.length = 60 from rfl) h)
  rw [show j + 660 = j + 60 + 600 by omega]; exact e
theorem kl_r12 (j : Nat) (q : Nat × Instr × Nat) (h : kl_R12[j]? = some q) : mL_law.2[j + 720]? = some q := by
  have e := kl_r11 (j + 60) q (show (kl_T11 ++ kl_R12)[j + 60]? = some q from kl_ap (show kl_T11.length = 60 from rfl) h)
  rw [show j + 720 = j + 60 + 660 by omega]; exact e
theorem kl_r13 (j : Nat) (q : Nat × Instr × Nat) (h : kl_R13[j]? = some q) : mL_law.2[j + 780]? = some q := by
  have e := kl_r12 (j + 60) q (show (kl_T12 ++ kl_R13)[j + 60]? = some q from kl_ap (show kl_T12.length = 60 from rfl) h)
  rw [show j + 780 = j + 60 + 720 by omega]; exact e
theorem kl_r14 (j : Nat) (q : Nat × Instr × Nat) (h : kl_R14[j]? = some q) : mL_law.2[j + 840]? = some q := by
  have e := kl_r13 (j + 60) q (show (kl_T13 ++ kl_R14)[j + 60]? = some q from kl_ap (show kl_T13.length = 60 from rfl) h)
  rw [show j + 840 = j + 60 + 780 by omega]; exact e
theorem kl_r15 (j : Nat) (q : Nat × Instr × Nat) (h : kl_R15[j]? = some q) : mL_law.2[j + 900]? = some q := by
  have e := kl_r14 (j + 60) q (show (kl_T14 ++ kl_R15)[j + 60]? = some q from kl_ap (show kl_T14.length = 60 from rfl) h)
  rw [show j + 900 = j + 60 + 840 by omega]; exact e
theorem kl_a0 (j : Nat) {q : Nat × Instr × Nat} (h : kl_T0[j]? = some q) : mL_law.2[j + 0]? = some q := kl_r0 j q (show (kl_T0 ++ kl_R1)[j]? = some q from kl_al h)
theorem kl_a1 (j : Nat) {q : Nat × Instr × Nat} (h : kl_T1[j]? = some q) : mL_law.2[j + 60]? = some q := kl_r1 j q (show (kl_T1 ++ kl_R2)[j]? = some q from kl_al h)
theorem kl_a2 (j : Nat) {q : Nat × Instr × Nat} (h : kl_T2[j]? = some q) : mL_law.2[j + 120]? = some q := kl_r2 j q (show (kl_T2 ++ kl_R3)[j]? = some q from kl_al h)
theorem kl_a3 (j : Nat) {q : Nat × Instr × Nat} (h : kl_T3[j]? = some q) : mL_law.2[j + 180]? = some q := kl_r3 j q (show (kl_T3 ++ kl_R4)[j]? = some q from kl_al h)
theorem kl_a4 (j : Nat) {q : Nat × Instr × Nat} (h : kl_T4[j]? = some q) : mL_law.2[j + 240]? = some q := kl_r4 j q (show (kl_T4 ++ kl_R5)[j]? = some q from kl_al h)
theorem kl_a5 (j : Nat) {q : Nat × Instr × Nat} (h : kl_T5[j]? = some q) : mL_law.2[j + 300]? = some q := kl_r5 j q (show (kl_T5 ++ kl_R6)[j]? = some q from kl_al h)
theorem kl_a6 (j : Nat) {q : Nat × Instr × Nat} (h : kl_T6[j]? = some q) : mL_law.2[j + 360]? = some q := kl_r6 j q (show (kl_T6 ++ kl_R7)[j]? = some q from kl_al h)
theorem kl_a7 (j : Nat) {q : Nat × Instr × Nat} (h : kl_T7[j]? = some q) : mL_law.2[j + 420]? = some q := kl_r7 j q (show (kl_T7 ++ kl_R8)[j]? = some q from kl_al h)
theorem kl_a8 (j : Nat) {q : Nat × Instr × Nat} (h : kl_T8[j]? = some q) : mL_law.2[j + 480]? = some q := kl_r8 j q (show (kl_T8 ++ kl_R9)[j]? = some q from kl_al h)
theorem kl_a9 (j : Nat) {q : Nat × Instr × Nat} (h : kl_T9[j]? = some q) : mL_law.2[j + 540]? = some q := kl_r9 j q (show (kl_T9 ++ kl_R10)[j]? = some q from kl_al h)
theorem kl_a10 (j : Nat) {q : Nat × Instr × Nat} (h : kl_T10[j]? = some q) : mL_law.2[j + 600]? = some q := kl_r10 j q (show (kl_T10 ++ kl_R11)[j]? = some q from kl_al h)
theorem kl_a11 (j : Nat) {q : Nat × Instr × Nat} (h : kl_T11[j]? = some q) : mL_law.2[j + 660]? = some q := kl_r11 j q (show (kl_T11 ++ kl_R12)[j]? = some q from kl_al h)
theorem kl_a12 (j : Nat) {q : Nat × Instr × Nat} (h : kl_T12[j]? = some q) : mL_law.2[j + 720]? = some q := kl_r12 j q (show (kl_T12 ++ kl_R13)[j]? = some q from kl_al h)
theorem kl_a13 (j : Nat) {q : Nat × Instr × Nat} (h : kl_T13[j]? = some q) : mL_law.2[j + 780]? = some q := kl_r13 j q (show (kl_T13 ++ kl_R14)[j]? = some q from kl_al h)
theorem kl_a14 (j : Nat) {q : Nat × Instr × Nat} (h : kl_T14[j]? = some q) : mL_law.2[j + 840]? = some q := kl_r14 j q (show (kl_T14 ++ kl_R15)[j]? = some q from kl_al h)
theorem kl_a15 (j : Nat) {q : Nat × Instr × Nat} (h : kl_T15[j]? = some q) : mL_law.2[j + 900]? = some q := kl_r15 j q h
end
section
abbrev kl_P : Option Value → kw_S → Prop := fun v _ => v = some (.int 1)
theorem kl_hE {L : Nat} {xs : Nat → Int32} : ∀ q ∈ kw_E0, q ∈ ((1002, L, xs) :: kw_E0) := fun _ h => List.mem_cons_of_mem _ h
theorem kl_and63 (x z : Int32) (h : z = x &&& 63) : 0 ≤ z.toInt ∧ z.toInt ≤ 63 := by
  have h1 := vp_in_iff.mp (pk_andIn x (m := 63) 6 rfl (by decide))
  subst h
  have e : ((2 ^ 6 : Nat) : Int) = 64 := rfl
  omega
set_option maxRecDepth 100000 in
set_option maxHeartbeats 4000000 in
theorem kl_case0 (l : Launch) (L : Nat) (xs : Nat → Int32) (hL : L ≤ 384) (x3 : Int32) (h0 : 0 ≤ x3.toInt) (h1 : x3.toInt + 6 ≤ L) (σ : kw_S) (T : Int) (hX : kw_I bX σ) (hM : kw_I (bM T) (kw_sh 61 σ)) (hR : kr_R σ (kw_sh 61 σ)) (hT0 : 0 ≤ T) (hT1 : T ≤ 2000) (hnext : ∀ (S : kw_S) (T' : Int), kw_I bX S → kw_I (bM T') (kw_sh 61 S) → kr_R S (kw_sh 61 S) → 0 ≤ T' → T' ≤ T + 20 → kw_AW l 30 ((1002, L, xs) :: kw_E0) KJ mL_law kl_P 1359 [(3, .int x3), (2, .ref 61), (1, .ref 0), (0, .ref 1002)] [] S) : kw_AW l 30 ((1002, L, xs) :: kw_E0) KJ mL_law kl_P 220 [(3, .int x3), (2, .ref 61), (1, .ref 0), (0, .ref 1002)] [] σ := by
  have u1 : (x3 + 1).toInt = x3.toInt + 1 := by rw [kw_addI, show (1 : Int32).toInt = 1 from rfl]; omega
  have u2 : (x3 + 2).toInt = x3.toInt + 2 := by rw [kw_addI, show (2 : Int32).toInt = 2 from rfl]; omega
  have u3 : (x3 + 3).toInt = x3.toInt + 3 := by rw [kw_addI, show (3 : Int32).toInt = 3 from rfl]; omega
  have u4 : (x3 + 4).toInt = x3.toInt + 4 := by rw [kw_addI, show (4 : Int32).toInt = 4 from rfl]; omega
  have u5 : (x3 + 5).toInt = x3.toInt + 5 := by rw [kw_addI, show (5 : Int32).toInt = 5 from rfl]; omega
  refine kw_aload_n (pc := 220) (i := 22) (k := 2) (n := 1) (kl_a0 22 rfl) rfl rfl ?_
  refine kw_aload_n (pc := 221) (i := 23) (k := 3) (n := 0) (kl_a0 23 rfl) rfl rfl ?_
  refine kw_iload_n (pc := 222) (i := 24) (k := 0) (n := 3) (kl_a0 24 rfl) rfl rfl ?_
  refine kw_iconst (pc := 223) (i := 25) (v := 1) (kl_a0 25 rfl) rfl ?_
  refine kw_iadd (pc := 224) (i := 26) (kl_a0 26 rfl) (fun z1 e_z1 t_z1 => ?_)
  subst e_z1
  clear t_z1
  refine kw_tld (pc := 225) (i := 27) (k := 0) (n := L) (kl_a0 27 rfl) rfl (by omega) (by omega) (fun z2 e_z2 => ?_)
  subst e_z2
  refine kw_aload_n (pc := 226) (i := 28) (k := 3) (n := 0) (kl_a0 28 rfl) rfl rfl ?_
  refine kw_iload_n (pc := 227) (i := 29) (k := 0) (n := 3) (kl_a0 29 rfl) rfl rfl ?_
  refine kw_iconst (pc := 228) (i := 30) (v := 2) (kl_a0 30 rfl) rfl ?_
  refine kw_iadd (pc := 229) (i := 31) (kl_a0 31 rfl) (fun z3 e_z3 t_z3 => ?_)
  subst e_z3
  clear t_z3
  refine kw_tld (pc := 230) (i := 32) (k := 0) (n := L) (kl_a0 32 rfl) rfl (by omega) (by omega) (fun z4 e_z4 => ?_)
  subst e_z4
  refine kw_callX (pc := 231) (i := 33) (Y := mX7_row) (xs := [xs (x3 + 1).toNatClampNeg, xs (x3 + 2).toNatClampNeg]) (st := []) kl_hE (kl_a0 33 rfl) lvL_13 arX7_row (c_X7_row_0 l σ hX (xs (x3 + 1).toNatClampNeg) (xs (x3 + 2).toNatClampNeg) ) (by decide) (Nat.le_of_ble_eq_true rfl) rfl (fun v sX pX => ?_)
  obtain ⟨⟨IX, FX⟩, rX, rfl, f5, eX⟩ := pX
  show kw_AW l 30 ((1002, L, xs) :: kw_E0) KJ mL_law kl_P 234 [(3, .int x3), (2, .ref 61), (1, .ref 0), (0, .ref 1002)] [.int rX] (kw_mixX σ sX)
  refine kw_pop (pc := 234) (i := 34) (kl_a0 34 rfl) rfl ?_
  refine kw_aload_n (pc := 235) (i := 35) (k := 1) (n := 2) (kl_a0 35 rfl) rfl rfl ?_
  refine kw_aload_n (pc := 236) (i := 36) (k := 3) (n := 0) (kl_a0 36 rfl) rfl rfl ?_
  refine kw_iload_n (pc := 237) (i := 37) (k := 0) (n := 3) (kl_a0 37 rfl) rfl rfl ?_
  refine kw_iconst (pc := 238) (i := 38) (v := 1) (kl_a0 38 rfl) rfl ?_
  refine kw_iadd (pc := 239) (i := 39) (kl_a0 39 rfl) (fun z6 e_z6 t_z6 => ?_)
  subst e_z6
  clear t_z6
  refine kw_tld (pc := 240) (i := 40) (k := 0) (n := L) (kl_a0 40 rfl) rfl (by omega) (by omega) (fun z7 e_z7 => ?_)
  subst e_z7
  refine kw_aload_n (pc := 241) (i := 41) (k := 3) (n := 0) (kl_a0 41 rfl) rfl rfl ?_
  refine kw_iload_n (pc := 242) (i := 42) (k := 0) (n := 3) (kl_a0 42 rfl) rfl rfl ?_
  refine kw_iconst (pc := 243) (i := 43) (v := 2) (kl_a0 43 rfl) rfl ?_
  refine kw_iadd (pc := 244) (i := 44) (kl_a0 44 rfl) (fun z8 e_z8 t_z8 => ?_)
  subst e_z8
  clear t_z8
  refine kw_tld (pc := 245) (i := 45) (k := 0) (n := L) (kl_a0 45 rfl) rfl (by omega) (by omega) (fun z9 e_z9 => ?_)
  subst e_z9
  refine kw_callM (pc := 246) (i := 46) (Y := mX8_row) (xs := [xs (x3 + 1).toNatClampNeg, xs (x3 + 2).toNatClampNeg]) (st := []) kl_hE (kl_a0 46 rfl) lvL_17 arX8_row (c_X8_row_0 l T (by omega) (by omega) (kw_sh 61 (kw_mixX σ sX)) (by rw [kw_sh_mixX]; exact hM) (xs (x3 + 1).toNatClampNeg) (xs (x3 + 2).toNatClampNeg) ) (by decide) (Nat.le_of_ble_eq_true rfl) rfl (fun _ _ q => by obtain ⟨-, r, rfl, -⟩ := q; exact fun _ _ => rfl) (fun v sM pM => ?_)
  obtain ⟨⟨IM, FM⟩, rM, rfl, f10, eM⟩ := pM
  rw [kw_sh_mixX] at FM eM
  first | rw [kw_sh_mixX] at f10 | skip
  have AX : kw_I bX (kw_mixM (kw_mixX σ sX) sM) := kw_IX_mixM (kw_IX_mixX IX)
  have AM : kw_I (bM T) (kw_sh 61 (kw_mixM (kw_mixX σ sX) sM)) := by rw [kw_sh_mixM]; exact IM
  have Q := kr_R.fr hR FX FM (by decide) (by decide)
  have AR : kr_R (kw_mixM (kw_mixX σ sX) sM) (kw_sh 61 (kw_mixM (kw_mixX σ sX) sM)) := by rw [kw_sh_mixM]; exact ⟨(Q).1.mix, (Q).2.mix⟩
  generalize (kw_mixM (kw_mixX σ sX) sM) = J at AX AM AR ⊢
  show kw_AW l 30 ((1002, L, xs) :: kw_E0) KJ mL_law kl_P 249 [(3, .int x3), (2, .ref 61), (1, .ref 0), (0, .ref 1002)] [.int rM] J
  refine kw_pop (pc := 249) (i := 47) (kl_a0 47 rfl) rfl ?_
  refine kw_goto (pc := 250) (i := 48) (tgt := 1359) (kl_a0 48 rfl) rfl ?_
  exact hnext J T AX AM AR (by omega) (by omega)
set_option maxRecDepth 100000 in
set_option maxHeartbeats 4000000 in
theorem kl_case1 (l : Launch) (L : Nat) (xs : Nat → Int32) (hL : L ≤ 384) (x3 : Int32) (h0 : 0 ≤ x3.toInt) (h1 : x3.toInt + 6 ≤ L) (σ : kw_S) (T : Int) (hX : kw_I bX σ) (hM : kw_I (bM T) (kw_sh 61 σ)) (hR : kr_R σ (kw_sh 61 σ)) (hT0 : 0 ≤ T) (hT1 : T ≤ 2000) (hnext : ∀ (S : kw_S) (T' : Int), kw_I bX S → kw_I (bM T') (kw_sh 61 S) → kr_R S (kw_sh 61 S) → 0 ≤ T' → T' ≤ T + 20 → kw_AW l 30 ((1002, L, xs) :: kw_E0) KJ mL_law kl_P 1359 [(3, .int x3), (2, .ref 61), (1, .ref 0), (0, .ref 1002)] [] S) : kw_AW l 30 ((1002, L, xs) :: kw_E0) KJ mL_law kl_P 253 [(3, .int x3), (2, .ref 61), (1, .ref 0), (0, .ref 1002)] [] σ := by
  have u1 : (x3 + 1).toInt = x3.toInt + 1 := by rw [kw_addI, show (1 : Int32).toInt = 1 from rfl]; omega
  have u2 : (x3 + 2).toInt = x3.toInt + 2 := by rw [kw_addI, show (2 : Int32).toInt = 2 from rfl]; omega
  have u3 : (x3 + 3).toInt = x3.toInt + 3 := by rw [kw_addI, show (3 : Int32).toInt = 3 from rfl]; omega
  have u4 : (x3 + 4).toInt = x3.toInt + 4 := by rw [kw_addI, show (4 : Int32).toInt = 4 from rfl]; omega
  have u5 : (x3 + 5).toInt = x3.toInt + 5 := by rw [kw_addI, show (5 : Int32).toInt = 5 from rfl]; omega
  refine kw_aload_n (pc := 253) (i := 49) (k := 2) (n := 1) (kl_a0 49 rfl) rfl rfl ?_
  refine kw_aload_n (pc := 254) (i := 50) (k := 3) (n := 0) (kl_a0 50 rfl) rfl rfl ?_
  refine kw_iload_n (pc := 255) (i := 51) (k := 0) (n := 3) (kl_a0 51 rfl) rfl rfl ?_
  refine kw_iconst (pc := 256) (i := 52) (v := 1) (kl_a0 52 rfl) rfl ?_
  refine kw_iadd (pc := 257) (i := 53) (kl_a0 53 rfl) (fun z1 e_z1 t_z1 => ?_)
  subst e_z1
  clear t_z1
  refine kw_tld (pc := 258) (i := 54) (k := 0) (n := L) (kl_a0 54 rfl) rfl (by omega) (by omega) (fun z2 e_z2 => ?_)
  subst e_z2
  refine kw_aload_n (pc := 259) (i := 55) (k := 3) (n := 0) (kl_a0 55 rfl) rfl rfl ?_
  refine kw_iload_n (pc := 260) (i := 56) (k := 0) (n := 3) (kl_a0 56 rfl) rfl rfl ?_
  refine kw_iconst (pc := 261) (i := 57) (v := 2) (kl_a0 57 rfl) rfl ?_
  refine kw_iadd (pc := 262) (i := 58) (kl_a0 58 rfl) (fun z3 e_z3 t_z3 => ?_)
  subst e_z3
  clear t_z3
  refine kw_tld (pc := 263) (i := 59) (k := 0) (n := L) (kl_a0 59 rfl) rfl (by omega) (by omega) (fun z4 e_z4 => ?_)
  subst e_z4
  refine kw_aload_n (pc := 264) (i := 60) (k := 3) (n := 0) (kl_a1 0 rfl) rfl rfl ?_
  refine kw_iload_n (pc := 265) (i := 61) (k := 0) (n := 3) (kl_a1 1 rfl) rfl rfl ?_
  refine kw_iconst (pc := 266) (i := 62) (v := 3) (kl_a1 2 rfl) rfl ?_
  refine kw_iadd (pc := 267) (i := 63) (kl_a1 3 rfl) (fun z5 e_z5 t_z5 => ?_)
  subst e_z5
  clear t_z5
  refine kw_tld (pc := 268) (i := 64) (k := 0) (n := L) (kl_a1 4 rfl) rfl (by omega) (by omega) (fun z6 e_z6 => ?_)
  subst e_z6
  refine kw_callX (pc := 269) (i := 65) (Y := mX7_lay) (xs := [xs (x3 + 1).toNatClampNeg, xs (x3 + 2).toNatClampNeg, xs (x3 + 3).toNatClampNeg]) (st := []) kl_hE (kl_a1 5 rfl) lvL_18 arX7_lay (c_X7_lay_0 l σ hX (xs (x3 + 1).toNatClampNeg) (xs (x3 + 2).toNatClampNeg) (xs (x3 + 3).toNatClampNeg) ) (by decide) (Nat.le_of_ble_eq_true rfl) rfl (fun v sX pX => ?_)
  obtain ⟨⟨IX, FX⟩, rX, rfl, eX⟩ := pX
  show kw_AW l 30 ((1002, L, xs) :: kw_E0) KJ mL_law kl_P 272 [(3, .int x3), (2, .ref 61), (1, .ref 0), (0, .ref 1002)] [.int rX] (kw_mixX σ sX)
  refine kw_pop (pc := 272) (i := 66) (kl_a1 6 rfl) rfl ?_
  refine kw_aload_n (pc := 273) (i := 67) (k := 1) (n := 2) (kl_a1 7 rfl) rfl rfl ?_
  refine kw_aload_n (pc := 274) (i := 68) (k := 3) (n := 0) (kl_a1 8 rfl) rfl rfl ?_
  refine kw_iload_n (pc := 275) (i := 69) (k := 0) (n := 3) (kl_a1 9 rfl) rfl rfl ?_
  refine kw_iconst (pc := 276) (i := 70) (v := 1) (kl_a1 10 rfl) rfl ?_
  refine kw_iadd (pc := 277) (i := 71) (kl_a1 11 rfl) (fun z7 e_z7 t_z7 => ?_)
  subst e_z7
  clear t_z7
  refine kw_tld (pc := 278) (i := 72) (k := 0) (n := L) (kl_a1 12 rfl) rfl (by omega) (by omega) (fun z8 e_z8 => ?_)
  subst e_z8
  refine kw_aload_n (pc := 279) (i := 73) (k := 3) (n := 0) (kl_a1 13 rfl) rfl rfl ?_
  refine kw_iload_n (pc := 280) (i := 74) (k := 0) (n := 3) (kl_a1 14 rfl) rfl rfl ?_
  refine kw_iconst (pc := 281) (i := 75) (v := 2) (kl_a1 15 rfl) rfl ?_
  refine kw_iadd (pc := 282) (i := 76) (kl_a1 16 rfl) (fun z9 e_z9 t_z9 => ?_)
  subst e_z9
  clear t_z9
  refine kw_tld (pc := 283) (i := 77) (k := 0) (n := L) (kl_a1 17 rfl) rfl (by omega) (by omega) (fun z10 e_z10 => ?_)
  subst e_z10
  refine kw_aload_n (pc := 284) (i := 78) (k := 3) (n := 0) (kl_a1 18 rfl) rfl rfl ?_
  refine kw_iload_n (pc := 285) (i := 79) (k := 0) (n := 3) (kl_a1 19 rfl) rfl rfl ?_
  refine kw_iconst (pc := 286) (i := 80) (v := 3) (kl_a1 20 rfl) rfl ?_
  refine kw_iadd (pc := 287) (i := 81) (kl_a1 21 rfl) (fun z11 e_z11 t_z11 => ?_)
  subst e_z11
  clear t_z11
  refine kw_tld (pc := 288) (i := 82) (k := 0) (n := L) (kl_a1 22 rfl) rfl (by omega) (by omega) (fun z12 e_z12 => ?_)
  subst e_z12
  refine kw_callM (pc := 289) (i := 83) (Y := mX8_lay) (xs := [xs (x3 + 1).toNatClampNeg, xs (x3 + 2).toNatClampNeg, xs (x3 + 3).toNatClampNeg]) (st := []) kl_hE (kl_a1 23 rfl) lvL_22 arX8_lay (c_X8_lay_0 l T (by omega) (by omega) (kw_sh 61 (kw_mixX σ sX)) (by rw [kw_sh_mixX]; exact hM) (xs (x3 + 1).toNatClampNeg) (xs (x3 + 2).toNatClampNeg) (xs (x3 + 3).toNatClampNeg) ) (by decide) (Nat.le_of_ble_eq_true rfl) rfl (fun _ _ q => by obtain ⟨-, r, rfl, -⟩ := q; exact fun _ _ => rfl) (fun v sM pM => ?_)
  obtain ⟨⟨IM, FM⟩, rM, rfl, eM⟩ := pM
  rw [kw_sh_mixX] at FM eM
  have AX : kw_I bX (kw_mixM (kw_mixX σ sX) sM) := kw_IX_mixM (kw_IX_mixX IX)
  have AM : kw_I (bM T) (kw_sh 61 (kw_mixM (kw_mixX σ sX) sM)) := by rw [kw_sh_mixM]; exact IM
  have Q := kr_R.fr hR FX FM (by decide) (by decide)
  have AR : kr_R (kw_mixM (kw_mixX σ sX) sM) (kw_sh 61 (kw_mixM (kw_mixX σ sX) sM)) := by rw [kw_sh_mixM]; exact ⟨(Q).1.mix, (Q).2.mix⟩
  generalize (kw_mixM (kw_mixX σ sX) sM) = J at AX AM AR ⊢
  show kw_AW l 30 ((1002, L, xs) :: kw_E0) KJ mL_law kl_P 292 [(3, .int x3), (2, .ref 61), (1, .ref 0), (0, .ref 1002)] [.int rM] J
  refine kw_pop (pc := 292) (i := 84) (kl_a1 24 rfl) rfl ?_
  refine kw_goto (pc := 293) (i := 85) (tgt := 1359) (kl_a1 25 rfl) rfl ?_
  exact hnext J T AX AM AR (by omega) (by omega)
set_option maxRecDepth 100000 in
set_option maxHeartbeats 4000000 in
theorem kl_case2 (l : Launch) (L : Nat) (xs : Nat → Int32) (hL : L ≤ 384) (x3 : Int32) (h0 : 0 ≤ x3.toInt) (h1 : x3.toInt + 6 ≤ L) (σ : kw_S) (T : Int) (hX : kw_I bX σ) (hM : kw_I (bM T) (kw_sh 61 σ)) (hR : kr_R σ (kw_sh 61 σ)) (hT0 : 0 ≤ T) (hT1 : T ≤ 2000) (hnext : ∀ (S : kw_S) (T' : Int), kw_I bX S → kw_I (bM T') (kw_sh 61 S) → kr_R S (kw_sh 61 S) → 0 ≤ T' → T' ≤ T + 20 → kw_AW l 30 ((1002, L, xs) :: kw_E0) KJ mL_law kl_P 1359 [(3, .int x3), (2, .ref 61), (1, .ref 0), (0, .ref 1002)] [] S) : kw_AW l 30 ((1002, L, xs) :: kw_E0) KJ mL_law kl_P 296 [(3, .int x3), (2, .ref 61), (1, .ref 0), (0, .ref 1002)] [] σ := by
  have u1 : (x3 + 1).toInt = x3.toInt + 1 := by rw [kw_addI, show (1 : Int32).toInt = 1 from rfl]; omega
  have u2 : (x3 + 2).toInt = x3.toInt + 2 := by rw [kw_addI, show (2 : Int32).toInt = 2 from rfl]; omega
  have u3 : (x3 + 3).toInt = x3.toInt + 3 := by rw [kw_addI, show (3 : Int32).toInt = 3 from rfl]; omega
  have u4 : (x3 + 4).toInt = x3.toInt + 4 := by rw [kw_addI, show (4 : Int32).toInt = 4 from rfl]; omega
  have u5 : (x3 + 5).toInt = x3.toInt + 5 := by rw [kw_addI, show (5 : Int32).toInt = 5 from rfl]; omega
  refine kw_aload_n (pc := 296) (i := 86) (k := 2) (n := 1) (kl_a1 26 rfl) rfl rfl ?_
  refine kw_aload_n (pc := 297) (i := 87) (k := 3) (n := 0) (kl_a1 27 rfl) rfl rfl ?_
  refine kw_iload_n (pc := 298) (i := 88) (k := 0) (n := 3) (kl_a1 28 rfl) rfl rfl ?_
  refine kw_iconst (pc := 299) (i := 89) (v := 1) (kl_a1 29 rfl) rfl ?_
  refine kw_iadd (pc := 300) (i := 90) (kl_a1 30 rfl) (fun z1 e_z1 t_z1 => ?_)
  subst e_z1
  clear t_z1
  refine kw_tld (pc := 301) (i := 91) (k := 0) (n := L) (kl_a1 31 rfl) rfl (by omega) (by omega) (fun z2 e_z2 => ?_)
  subst e_z2
  refine kw_aload_n (pc := 302) (i := 92) (k := 3) (n := 0) (kl_a1 32 rfl) rfl rfl ?_
  refine kw_iload_n (pc := 303) (i := 93) (k := 0) (n := 3) (kl_a1 33 rfl) rfl rfl ?_
  refine kw_iconst (pc := 304) (i := 94) (v := 2) (kl_a1 34 rfl) rfl ?_
  refine kw_iadd (pc := 305) (i := 95) (kl_a1 35 rfl) (fun z3 e_z3 t_z3 => ?_)
  subst e_z3
  clear t_z3
  refine kw_tld (pc := 306) (i := 96) (k := 0) (n := L) (kl_a1 36 rfl) rfl (by omega) (by omega) (fun z4 e_z4 => ?_)
  subst e_z4
  refine kw_callX (pc := 307) (i := 97) (Y := mX7_at) (xs := [xs (x3 + 1).toNatClampNeg, xs (x3 + 2).toNatClampNeg]) (st := []) kl_hE (kl_a1 37 rfl) lvL_23 arX7_at (c_X7_at_0 l σ hX (xs (x3 + 1).toNatClampNeg) (xs (x3 + 2).toNatClampNeg) ) (by decide) (Nat.le_of_ble_eq_true rfl) rfl (fun v sX pX => ?_)
  obtain ⟨⟨IX, FX⟩, rX, rfl, eX⟩ := pX
  show kw_AW l 30 ((1002, L, xs) :: kw_E0) KJ mL_law kl_P 310 [(3, .int x3), (2, .ref 61), (1, .ref 0), (0, .ref 1002)] [.int rX] (kw_mixX σ sX)
  refine kw_pop (pc := 310) (i := 98) (kl_a1 38 rfl) rfl ?_
  refine kw_aload_n (pc := 311) (i := 99) (k := 1) (n := 2) (kl_a1 39 rfl) rfl rfl ?_
  refine kw_aload_n (pc := 312) (i := 100) (k := 3) (n := 0) (kl_a1 40 rfl) rfl rfl ?_
  refine kw_iload_n (pc := 313) (i := 101) (k := 0) (n := 3) (kl_a1 41 rfl) rfl rfl ?_
  refine kw_iconst (pc := 314) (i := 102) (v := 1) (kl_a1 42 rfl) rfl ?_
  refine kw_iadd (pc := 315) (i := 103) (kl_a1 43 rfl) (fun z5 e_z5 t_z5 => ?_)
  subst e_z5
  clear t_z5
  refine kw_tld (pc := 316) (i := 104) (k := 0) (n := L) (kl_a1 44 rfl) rfl (by omega) (by omega) (fun z6 e_z6 => ?_)
  subst e_z6
  refine kw_aload_n (pc := 317) (i := 105) (k := 3) (n := 0) (kl_a1 45 rfl) rfl rfl ?_
  refine kw_iload_n (pc := 318) (i := 106) (k := 0) (n := 3) (kl_a1 46 rfl) rfl rfl ?_
  refine kw_iconst (pc := 319) (i := 107) (v := 2) (kl_a1 47 rfl) rfl ?_
  refine kw_iadd (pc := 320) (i := 108) (kl_a1 48 rfl) (fun z7 e_z7 t_z7 => ?_)
  subst e_z7
  clear t_z7
  refine kw_tld (pc := 321) (i := 109) (k := 0) (n := L) (kl_a1 49 rfl) rfl (by omega) (by omega) (fun z8 e_z8 => ?_)
  subst e_z8
  refine kw_callM (pc := 322) (i := 110) (Y := mX8_at) (xs := [xs (x3 + 1).toNatClampNeg, xs (x3 + 2).toNatClampNeg]) (st := []) kl_hE (kl_a1 50 rfl) lvL_26 arX8_at (c_X8_at_0 l T (by omega) (by omega) (kw_sh 61 (kw_mixX σ sX)) (by rw [kw_sh_mixX]; exact hM) (xs (x3 + 1).toNatClampNeg) (xs (x3 + 2).toNatClampNeg) ) (by decide) (Nat.le_of_ble_eq_true rfl) rfl (fun _ _ q => by obtain ⟨-, r, rfl, -⟩ := q; exact fun _ _ => rfl) (fun v sM pM => ?_)
  obtain ⟨⟨IM, FM⟩, rM, rfl, f9, eM⟩ := pM
  rw [kw_sh_mixX] at FM eM
  first | rw [kw_sh_mixX] at f9 | skip
  have AX : kw_I bX (kw_mixM (kw_mixX σ sX) sM) := kw_IX_mixM (kw_IX_mixX IX)
  have AM : kw_I (bM T) (kw_sh 61 (kw_mixM (kw_mixX σ sX) sM)) := by rw [kw_sh_mixM]; exact IM
  have Q := kr_R.fr hR FX FM (by decide) (by decide)
  have AR : kr_R (kw_mixM (kw_mixX σ sX) sM) (kw_sh 61 (kw_mixM (kw_mixX σ sX) sM)) := by rw [kw_sh_mixM]; exact ⟨(Q).1.mix, (Q).2.mix⟩
  generalize (kw_mixM (kw_mixX σ sX) sM) = J at AX AM AR ⊢
  show kw_AW l 30 ((1002, L, xs) :: kw_E0) KJ mL_law kl_P 325 [(3, .int x3), (2, .ref 61), (1, .ref 0), (0, .ref 1002)] [.int rM] J
  refine kw_pop (pc := 325) (i := 111) (kl_a1 51 rfl) rfl ?_
  refine kw_goto (pc := 326) (i := 112) (tgt := 1359) (kl_a1 52 rfl) rfl ?_
  exact hnext J T AX AM AR (by omega) (by omega)
set_option maxRecDepth 100000 in
set_option maxHeartbeats 4000000 in
theorem kl_case3 (l : Launch) (L : Nat) (xs : Nat → Int32) (hL : L ≤ 384) (x3 : Int32) (h0 : 0 ≤ x3.toInt) (h1 : x3.toInt + 6 ≤ L) (σ : kw_S) (T : Int) (hX : kw_I bX σ) (hM : kw_I (bM T) (kw_sh 61 σ)) (hR : kr_R σ (kw_sh 61 σ)) (hT0 : 0 ≤ T) (hT1 : T ≤ 2000) (hnext : ∀ (S : kw_S) (T' : Int), kw_I bX S → kw_I (bM T') (kw_sh 61 S) → kr_R S (kw_sh 61 S) → 0 ≤ T' → T' ≤ T + 20 → kw_AW l 30 ((1002, L, xs) :: kw_E0) KJ mL_law kl_P 1359 [(3, .int x3), (2, .ref 61), (1, .ref 0), (0, .ref 1002)] [] S) : kw_AW l 30 ((1002, L, xs) :: kw_E0) KJ mL_law kl_P 329 [(3, .int x3), (2, .ref 61), (1, .ref 0), (0, .ref 1002)] [] σ := by
  have u1 : (x3 + 1).toInt = x3.toInt + 1 := by rw [kw_addI, show (1 : Int32).toInt = 1 from rfl]; omega
  have u2 : (x3 + 2).toInt = x3.toInt + 2 := by rw [kw_addI, show (2 : Int32).toInt = 2 from rfl]; omega
  have u3 : (x3 + 3).toInt = x3.toInt + 3 := by rw [kw_addI, show (3 : Int32).toInt = 3 from rfl]; omega
  have u4 : (x3 + 4).toInt = x3.toInt + 4 := by rw [kw_addI, show (4 : Int32).toInt = 4 from rfl]; omega
  have u5 : (x3 + 5).toInt = x3.toInt + 5 := by rw [kw_addI, show (5 : Int32).toInt = 5 from rfl]; omega
  refine kw_aload_n (pc := 329) (i := 113) (k := 2) (n := 1) (kl_a1 53 rfl) rfl rfl ?_
  refine kw_aload_n (pc := 330) (i := 114) (k := 3) (n := 0) (kl_a1 54 rfl) rfl rfl ?_
  refine kw_iload_n (pc := 331) (i := 115) (k := 0) (n := 3) (kl_a1 55 rfl) rfl rfl ?_
  refine kw_iconst (pc := 332) (i := 116) (v := 1) (kl_a1 56 rfl) rfl ?_
  refine kw_iadd (pc := 333) (i := 117) (kl_a1 57 rfl) (fun z1 e_z1 t_z1 => ?_)
  subst e_z1
  clear t_z1
  refine kw_tld (pc := 334) (i := 118) (k := 0) (n := L) (kl_a1 58 rfl) rfl (by omega) (by omega) (fun z2 e_z2 => ?_)
  subst e_z2
  refine kw_callX (pc := 335) (i := 119) (Y := mX7_tear) (xs := [xs (x3 + 1).toNatClampNeg]) (st := []) kl_hE (kl_a1 59 rfl) lvL_27 arX7_tear (c_X7_tear_0 l σ hX (xs (x3 + 1).toNatClampNeg) ) (by decide) (Nat.le_of_ble_eq_true rfl) rfl (fun v sX pX => ?_)
  obtain ⟨⟨IX, FX⟩, rX, rfl, eX⟩ := pX
  show kw_AW l 30 ((1002, L, xs) :: kw_E0) KJ mL_law kl_P 338 [(3, .int x3), (2, .ref 61), (1, .ref 0), (0, .ref 1002)] [.int rX] (kw_mixX σ sX)
  refine kw_pop (pc := 338) (i := 120) (kl_a2 0 rfl) rfl ?_
  refine kw_aload_n (pc := 339) (i := 121) (k := 1) (n := 2) (kl_a2 1 rfl) rfl rfl ?_
  refine kw_aload_n (pc := 340) (i := 122) (k := 3) (n := 0) (kl_a2 2 rfl) rfl rfl ?_
  refine kw_iload_n (pc := 341) (i := 123) (k := 0) (n := 3) (kl_a2 3 rfl) rfl rfl ?_
  refine kw_iconst (pc := 342) (i := 124) (v := 1) (kl_a2 4 rfl) rfl ?_
  refine kw_iadd (pc := 343) (i := 125) (kl_a2 5 rfl) (fun z3 e_z3 t_z3 => ?_)
  subst e_z3
  clear t_z3
  refine kw_tld (pc := 344) (i := 126) (k := 0) (n := L) (kl_a2 6 rfl) rfl (by omega) (by omega) (fun z4 e_z4 => ?_)
  subst e_z4
  refine kw_callM (pc := 345) (i := 127) (Y := mX8_tear) (xs := [xs (x3 + 1).toNatClampNeg]) (st := []) kl_hE (kl_a2 7 rfl) lvL_31 arX8_tear (c_X8_tear_0 l T (by omega) (by omega) (kw_sh 61 (kw_mixX σ sX)) (by rw [kw_sh_mixX]; exact hM) (xs (x3 + 1).toNatClampNeg) ) (by decide) (Nat.le_of_ble_eq_true rfl) rfl (fun _ _ q => by obtain ⟨-, r, rfl, -⟩ := q; exact fun _ _ => rfl) (fun v sM pM => ?_)
  obtain ⟨⟨IM, FM⟩, rM, rfl, eM⟩ := pM
  rw [kw_sh_mixX] at FM eM
  have AX : kw_I bX (kw_mixM (kw_mixX σ sX) sM) := kw_IX_mixM (kw_IX_mixX IX)
  have AM : kw_I (bM T) (kw_sh 61 (kw_mixM (kw_mixX σ sX) sM)) := by rw [kw_sh_mixM]; exact IM
  have Q := kr_R.fr hR FX FM (by decide) (by decide)
  have AR : kr_R (kw_mixM (kw_mixX σ sX) sM) (kw_sh 61 (kw_mixM (kw_mixX σ sX) sM)) := by rw [kw_sh_mixM]; exact ⟨(Q).1.mix, (Q).2.mix⟩
  generalize (kw_mixM (kw_mixX σ sX) sM) = J at AX AM AR ⊢
  show kw_AW l 30 ((1002, L, xs) :: kw_E0) KJ mL_law kl_P 348 [(3, .int x3), (2, .ref 61), (1, .ref 0), (0, .ref 1002)] [.int rM] J
  refine kw_pop (pc := 348) (i := 128) (kl_a2 8 rfl) rfl ?_
  refine kw_goto (pc := 349) (i := 129) (tgt := 1359) (kl_a2 9 rfl) rfl ?_
  exact hnext J T AX AM AR (by omega) (by omega)
set_option maxRecDepth 100000 in
set_option maxHeartbeats 4000000 in
theorem kl_case4 (l : Launch) (L : Nat) (xs : Nat → Int32) (hL : L ≤ 384) (x3 : Int32) (h0 : 0 ≤ x3.toInt) (h1 : x3.toInt + 6 ≤ L) (σ : kw_S) (T : Int) (hX : kw_I bX σ) (hM : kw_I (bM T) (kw_sh 61 σ)) (hR : kr_R σ (kw_sh 61 σ)) (hT0 : 0 ≤ T) (hT1 : T ≤ 2000) (hnext : ∀ (S : kw_S) (T' : Int), kw_I bX S → kw_I (bM T') (kw_sh 61 S) → kr_R S (kw_sh 61 S) → 0 ≤ T' → T' ≤ T + 20 → kw_AW l 30 ((1002, L, xs) :: kw_E0) KJ mL_law kl_P 1359 [(3, .int x3), (2, .ref 61), (1, .ref 0), (0, .ref 1002)] [] S) : kw_AW l 30 ((1002, L, xs) :: kw_E0) KJ mL_law kl_P 352 [(3, .int x3), (2, .ref 61), (1, .ref 0), (0, .ref 1002)] [] σ := by
  have u1 : (x3 + 1).toInt = x3.toInt + 1 := by rw [kw_addI, show (1 : Int32).toInt = 1 from rfl]; omega
  have u2 : (x3 + 2).toInt = x3.toInt + 2 := by rw [kw_addI, show (2 : Int32).toInt = 2 from rfl]; omega
  have u3 : (x3 + 3).toInt = x3.toInt + 3 := by rw [kw_addI, show (3 : Int32).toInt = 3 from rfl]; omega
  have u4 : (x3 + 4).toInt = x3.toInt + 4 := by rw [kw_addI, show (4 : Int32).toInt = 4 from rfl]; omega
  have u5 : (x3 + 5).toInt = x3.toInt + 5 := by rw [kw_addI, show (5 : Int32).toInt = 5 from rfl]; omega
  refine kw_aload_n (pc := 352) (i := 130) (k := 2) (n := 1) (kl_a2 10 rfl) rfl rfl ?_
  refine kw_aload_n (pc := 353) (i := 131) (k := 3) (n := 0) (kl_a2 11 rfl) rfl rfl ?_
  refine kw_iload_n (pc := 354) (i := 132) (k := 0) (n := 3) (kl_a2 12 rfl) rfl rfl ?_
  refine kw_iconst (pc := 355) (i := 133) (v := 1) (kl_a2 13 rfl) rfl ?_
  refine kw_iadd (pc := 356) (i := 134) (kl_a2 14 rfl) (fun z1 e_z1 t_z1 => ?_)
  subst e_z1
  clear t_z1
  refine kw_tld (pc := 357) (i := 135) (k := 0) (n := L) (kl_a2 15 rfl) rfl (by omega) (by omega) (fun z2 e_z2 => ?_)
  subst e_z2
  refine kw_aload_n (pc := 358) (i := 136) (k := 3) (n := 0) (kl_a2 16 rfl) rfl rfl ?_
  refine kw_iload_n (pc := 359) (i := 137) (k := 0) (n := 3) (kl_a2 17 rfl) rfl rfl ?_
  refine kw_iconst (pc := 360) (i := 138) (v := 2) (kl_a2 18 rfl) rfl ?_
  refine kw_iadd (pc := 361) (i := 139) (kl_a2 19 rfl) (fun z3 e_z3 t_z3 => ?_)
  subst e_z3
  clear t_z3
  refine kw_tld (pc := 362) (i := 140) (k := 0) (n := L) (kl_a2 20 rfl) rfl (by omega) (by omega) (fun z4 e_z4 => ?_)
  subst e_z4
  refine kw_aload_n (pc := 363) (i := 141) (k := 3) (n := 0) (kl_a2 21 rfl) rfl rfl ?_
  refine kw_iload_n (pc := 364) (i := 142) (k := 0) (n := 3) (kl_a2 22 rfl) rfl rfl ?_
  refine kw_iconst (pc := 365) (i := 143) (v := 3) (kl_a2 23 rfl) rfl ?_
  refine kw_iadd (pc := 366) (i := 144) (kl_a2 24 rfl) (fun z5 e_z5 t_z5 => ?_)
  subst e_z5
  clear t_z5
  refine kw_tld (pc := 367) (i := 145) (k := 0) (n := L) (kl_a2 25 rfl) rfl (by omega) (by omega) (fun z6 e_z6 => ?_)
  subst e_z6
  refine kw_aload_n (pc := 368) (i := 146) (k := 3) (n := 0) (kl_a2 26 rfl) rfl rfl ?_
  refine kw_iload_n (pc := 369) (i := 147) (k := 0) (n := 3) (kl_a2 27 rfl) rfl rfl ?_
  refine kw_iconst (pc := 370) (i := 148) (v := 4) (kl_a2 28 rfl) rfl ?_
  refine kw_iadd (pc := 371) (i := 149) (kl_a2 29 rfl) (fun z7 e_z7 t_z7 => ?_)
  subst e_z7
  clear t_z7
  refine kw_tld (pc := 372) (i := 150) (k := 0) (n := L) (kl_a2 30 rfl) rfl (by omega) (by omega) (fun z8 e_z8 => ?_)
  subst e_z8
  refine kw_aload_n (pc := 373) (i := 151) (k := 3) (n := 0) (kl_a2 31 rfl) rfl rfl ?_
  refine kw_iload_n (pc := 374) (i := 152) (k := 0) (n := 3) (kl_a2 32 rfl) rfl rfl ?_
  refine kw_iconst (pc := 375) (i := 153) (v := 5) (kl_a2 33 rfl) rfl ?_
  refine kw_iadd (pc := 376) (i := 154) (kl_a2 34 rfl) (fun z9 e_z9 t_z9 => ?_)
  subst e_z9
  clear t_z9
  refine kw_tld (pc := 377) (i := 155) (k := 0) (n := L) (kl_a2 35 rfl) rfl (by omega) (by omega) (fun z10 e_z10 => ?_)
  subst e_z10
  refine kw_callX (pc := 378) (i := 156) (Y := mX7_copy) (xs := [xs (x3 + 1).toNatClampNeg, xs (x3 + 2).toNatClampNeg, xs (x3 + 3).toNatClampNeg, xs (x3 + 4).toNatClampNeg, xs (x3 + 5).toNatClampNeg]) (st := []) kl_hE (kl_a2 36 rfl) lvL_32 arX7_copy (c_X7_copy_0 l σ hX (xs (x3 + 1).toNatClampNeg) (xs (x3 + 2).toNatClampNeg) (xs (x3 + 3).toNatClampNeg) (xs (x3 + 4).toNatClampNeg) (xs (x3 + 5).toNatClampNeg) ) (by decide) (Nat.le_of_ble_eq_true rfl) rfl (fun v sX pX => ?_)
  obtain ⟨⟨IX, FX⟩, rX, rfl, eX⟩ := pX
  show kw_AW l 30 ((1002, L, xs) :: kw_E0) KJ mL_law kl_P 381 [(3, .int x3), (2, .ref 61), (1, .ref 0), (0, .ref 1002)] [.int rX] (kw_mixX σ sX)
  refine kw_pop (pc := 381) (i := 157) (kl_a2 37 rfl) rfl ?_
  refine kw_aload_n (pc := 382) (i := 158) (k := 1) (n := 2) (kl_a2 38 rfl) rfl rfl ?_
  refine kw_aload_n (pc := 383) (i := 159) (k := 3) (n := 0) (kl_a2 39 rfl) rfl rfl ?_
  refine kw_iload_n (pc := 384) (i := 160) (k := 0) (n := 3) (kl_a2 40 rfl) rfl rfl ?_
  refine kw_iconst (pc := 385) (i := 161) (v := 1) (kl_a2 41 rfl) rfl ?_
  refine kw_iadd (pc := 386) (i := 162) (kl_a2 42 rfl) (fun z11 e_z11 t_z11 => ?_)
  subst e_z11
  clear t_z11
  refine kw_tld (pc := 387) (i := 163) (k := 0) (n := L) (kl_a2 43 rfl) rfl (by omega) (by omega) (fun z12 e_z12 => ?_)
  subst e_z12
  refine kw_aload_n (pc := 388) (i := 164) (k := 3) (n := 0) (kl_a2 44 rfl) rfl rfl ?_
  refine kw_iload_n (pc := 389) (i := 165) (k := 0) (n := 3) (kl_a2 45 rfl) rfl rfl ?_
  refine kw_iconst (pc := 390) (i := 166) (v := 2) (kl_a2 46 rfl) rfl ?_
  refine kw_iadd (pc := 391) (i := 167) (kl_a2 47 rfl) (fun z13 e_z13 t_z13 => ?_)
  subst e_z13
  clear t_z13
  refine kw_tld (pc := 392) (i := 168) (k := 0) (n := L) (kl_a2 48 rfl) rfl (by omega) (by omega) (fun z14 e_z14 => ?_)
  subst e_z14
  refine kw_aload_n (pc := 393) (i := 169) (k := 3) (n := 0) (kl_a2 49 rfl) rfl rfl ?_
  refine kw_iload_n (pc := 394) (i := 170) (k := 0) (n := 3) (kl_a2 50 rfl) rfl rfl ?_
  refine kw_iconst (pc := 395) (i := 171) (v := 3) (kl_a2 51 rfl) rfl ?_
  refine kw_iadd (pc := 396) (i := 172) (kl_a2 52 rfl) (fun z15 e_z15 t_z15 => ?_)
  subst e_z15
  clear t_z15
  refine kw_tld (pc := 397) (i := 173) (k := 0) (n := L) (kl_a2 53 rfl) rfl (by omega) (by omega) (fun z16 e_z16 => ?_)
  subst e_z16
  refine kw_aload_n (pc := 398) (i := 174) (k := 3) (n := 0) (kl_a2 54 rfl) rfl rfl ?_
  refine kw_iload_n (pc := 399) (i := 175) (k := 0) (n := 3) (kl_a2 55 rfl) rfl rfl ?_
  refine kw_iconst (pc := 400) (i := 176) (v := 4) (kl_a2 56 rfl) rfl ?_
  refine kw_iadd (pc := 401) (i := 177) (kl_a2 57 rfl) (fun z17 e_z17 t_z17 => ?_)
  subst e_z17
  clear t_z17
  refine kw_tld (pc := 402) (i := 178) (k := 0) (n := L) (kl_a2 58 rfl) rfl (by omega) (by omega) (fun z18 e_z18 => ?_)
  subst e_z18
  refine kw_aload_n (pc := 403) (i := 179) (k := 3) (n := 0) (kl_a2 59 rfl) rfl rfl ?_
  refine kw_iload_n (pc := 404) (i := 180) (k := 0) (n := 3) (kl_a3 0 rfl) rfl rfl ?_
  refine kw_iconst (pc := 405) (i := 181) (v := 5) (kl_a3 1 rfl) rfl ?_
  refine kw_iadd (pc := 406) (i := 182) (kl_a3 2 rfl) (fun z19 e_z19 t_z19 => ?_)
  subst e_z19
  clear t_z19
  refine kw_tld (pc := 407) (i := 183) (k := 0) (n := L) (kl_a3 3 rfl) rfl (by omega) (by omega) (fun z20 e_z20 => ?_)
  subst e_z20
  refine kw_callM (pc := 408) (i := 184) (Y := mX8_copy) (xs := [xs (x3 + 1).toNatClampNeg, xs (x3 + 2).toNatClampNeg, xs (x3 + 3).toNatClampNeg, xs (x3 + 4).toNatClampNeg, xs (x3 + 5).toNatClampNeg]) (st := []) kl_hE (kl_a3 4 rfl) lvL_36 arX8_copy (c_X8_copy_0 l T (by omega) (by omega) (kw_sh 61 (kw_mixX σ sX)) (by rw [kw_sh_mixX]; exact hM) (xs (x3 + 1).toNatClampNeg) (xs (x3 + 2).toNatClampNeg) (xs (x3 + 3).toNatClampNeg) (xs (x3 + 4).toNatClampNeg) (xs (x3 + 5).toNatClampNeg) ) (by decide) (Nat.le_of_ble_eq_true rfl) rfl (fun _ _ q => by obtain ⟨-, r, rfl, -⟩ := q; exact fun _ _ => rfl) (fun v sM pM => ?_)
  obtain ⟨⟨IM, FM⟩, rM, rfl, eM⟩ := pM
  rw [kw_sh_mixX] at FM eM
  have AX : kw_I bX (kw_mixM (kw_mixX σ sX) sM) := kw_IX_mixM (kw_IX_mixX IX)
  have AM : kw_I (bM T) (kw_sh 61 (kw_mixM (kw_mixX σ sX) sM)) := by rw [kw_sh_mixM]; exact IM
  have Q := kr_R.fr hR FX FM (by decide) (by decide)
  have AR : kr_R (kw_mixM (kw_mixX σ sX) sM) (kw_sh 61 (kw_mixM (kw_mixX σ sX) sM)) := by rw [kw_sh_mixM]; exact ⟨(Q).1.mix, (Q).2.mix⟩
  generalize (kw_mixM (kw_mixX σ sX) sM) = J at AX AM AR ⊢
  show kw_AW l 30 ((1002, L, xs) :: kw_E0) KJ mL_law kl_P 411 [(3, .int x3), (2, .ref 61), (1, .ref 0), (0, .ref 1002)] [.int rM] J
  refine kw_pop (pc := 411) (i := 185) (kl_a3 5 rfl) rfl ?_
  refine kw_goto (pc := 412) (i := 186) (tgt := 1359) (kl_a3 6 rfl) rfl ?_
  exact hnext J T AX AM AR (by omega) (by omega)
set_option maxRecDepth 100000 in
set_option maxHeartbeats 4000000 in
theorem kl_case5 (l : Launch) (L : Nat) (xs : Nat → Int32) (hL : L ≤ 384) (x3 : Int32) (h0 : 0 ≤ x3.toInt) (h1 : x3.toInt + 6 ≤ L) (σ : kw_S) (T : Int) (hX : kw_I bX σ) (hM : kw_I (bM T) (kw_sh 61 σ)) (hR : kr_R σ (kw_sh 61 σ)) (hT0 : 0 ≤ T) (hT1 : T ≤ 2000) (hnext : ∀ (S : kw_S) (T' : Int), kw_I bX S → kw_I (bM T') (kw_sh 61 S) → kr_R S (kw_sh 61 S) → 0 ≤ T' → T' ≤ T + 20 → kw_AW l 30 ((1002, L, xs) :: kw_E0) KJ mL_law kl_P 1359 [(3, .int x3), (2, .ref 61), (1, .ref 0), (0, .ref 1002)] [] S) : kw_AW l 30 ((1002, L, xs) :: kw_E0) KJ mL_law kl_P 415 [(3, .int x3), (2, .ref 61), (1, .ref 0), (0, .ref 1002)] [] σ := by
  have u1 : (x3 + 1).toInt = x3.toInt + 1 := by rw [kw_addI, show (1 : Int32).toInt = 1 from rfl]; omega
  have u2 : (x3 + 2).toInt = x3.toInt + 2 := by rw [kw_addI, show (2 : Int32).toInt = 2 from rfl]; omega
  have u3 : (x3 + 3).toInt = x3.toInt + 3 := by rw [kw_addI, show (3 : Int32).toInt = 3 from rfl]; omega
  have u4 : (x3 + 4).toInt = x3.toInt + 4 := by rw [kw_addI, show (4 : Int32).toInt = 4 from rfl]; omega
  have u5 : (x3 + 5).toInt = x3.toInt + 5 := by rw [kw_addI, show (5 : Int32).toInt = 5 from rfl]; omega
  refine kw_aload_n (pc := 415) (i := 187) (k := 2) (n := 1) (kl_a3 7 rfl) rfl rfl ?_
  refine kw_aload_n (pc := 416) (i := 188) (k := 3) (n := 0) (kl_a3 8 rfl) rfl rfl ?_
  refine kw_iload_n (pc := 417) (i := 189) (k := 0) (n := 3) (kl_a3 9 rfl) rfl rfl ?_
  refine kw_iconst (pc := 418) (i := 190) (v := 1) (kl_a3 10 rfl) rfl ?_
  refine kw_iadd (pc := 419) (i := 191) (kl_a3 11 rfl) (fun z1 e_z1 t_z1 => ?_)
  subst e_z1
  clear t_z1
  refine kw_tld (pc := 420) (i := 192) (k := 0) (n := L) (kl_a3 12 rfl) rfl (by omega) (by omega) (fun z2 e_z2 => ?_)
  subst e_z2
  refine kw_callX (pc := 421) (i := 193) (Y := mX7_mean) (xs := [xs (x3 + 1).toNatClampNeg]) (st := []) kl_hE (kl_a3 13 rfl) lvL_37 arX7_mean (c_X7_mean_0 l σ hX (xs (x3 + 1).toNatClampNeg) ) (by decide) (Nat.le_of_ble_eq_true rfl) rfl (fun v sX pX => ?_)
  obtain ⟨⟨IX, FX⟩, rX, rfl, eX⟩ := pX
  show kw_AW l 30 ((1002, L, xs) :: kw_E0) KJ mL_law kl_P 424 [(3, .int x3), (2, .ref 61), (1, .ref 0), (0, .ref 1002)] [.int rX] (kw_mixX σ sX)
  refine kw_pop (pc := 424) (i := 194) (kl_a3 14 rfl) rfl ?_
  refine kw_aload_n (pc := 425) (i := 195) (k := 1) (n := 2) (kl_a3 15 rfl) rfl rfl ?_
  refine kw_aload_n (pc := 426) (i := 196) (k := 3) (n := 0) (kl_a3 16 rfl) rfl rfl ?_
  refine kw_iload_n (pc := 427) (i := 197) (k := 0) (n := 3) (kl_a3 17 rfl) rfl rfl ?_
  refine kw_iconst (pc := 428) (i := 198) (v := 1) (kl_a3 18 rfl) rfl ?_
  refine kw_iadd (pc := 429) (i := 199) (kl_a3 19 rfl) (fun z3 e_z3 t_z3 => ?_)
  subst e_z3
  clear t_z3
  refine kw_tld (pc := 430) (i := 200) (k := 0) (n := L) (kl_a3 20 rfl) rfl (by omega) (by omega) (fun z4 e_z4 => ?_)
  subst e_z4
  refine kw_callM (pc := 431) (i := 201) (Y := mX8_mean) (xs := [xs (x3 + 1).toNatClampNeg]) (st := []) kl_hE (kl_a3 21 rfl) lvL_40 arX8_mean (c_X8_mean_0 l T (by omega) (by omega) (kw_sh 61 (kw_mixX σ sX)) (by rw [kw_sh_mixX]; exact hM) (xs (x3 + 1).toNatClampNeg) ) (by decide) (Nat.le_of_ble_eq_true rfl) rfl (fun _ _ q => by obtain ⟨-, r, rfl, -⟩ := q; exact fun _ _ => rfl) (fun v sM pM => ?_)
  obtain ⟨⟨IM, FM⟩, rM, rfl, eM⟩ := pM
  rw [kw_sh_mixX] at FM eM
  have AX : kw_I bX (kw_mixM (kw_mixX σ sX) sM) := kw_IX_mixM (kw_IX_mixX IX)
  have AM : kw_I (bM T) (kw_sh 61 (kw_mixM (kw_mixX σ sX) sM)) := by rw [kw_sh_mixM]; exact IM
  have Q := kr_R.fr hR FX FM (by decide) (by decide)
  have AR : kr_R (kw_mixM (kw_mixX σ sX) sM) (kw_sh 61 (kw_mixM (kw_mixX σ sX) sM)) := by rw [kw_sh_mixM]; exact ⟨(Q).1.mix, (Q).2.mix⟩
  generalize (kw_mixM (kw_mixX σ sX) sM) = J at AX AM AR ⊢
  show kw_AW l 30 ((1002, L, xs) :: kw_E0) KJ mL_law kl_P 434 [(3, .int x3), (2, .ref 61), (1, .ref 0), (0, .ref 1002)] [.int rM] J
  refine kw_pop (pc := 434) (i := 202) (kl_a3 22 rfl) rfl ?_
  refine kw_goto (pc := 435) (i := 203) (tgt := 1359) (kl_a3 23 rfl) rfl ?_
  exact hnext J T AX AM AR (by omega) (by omega)
set_option maxRecDepth 100000 in
set_option maxHeartbeats 4000000 in
theorem kl_case6 (l : Launch) (L : Nat) (xs : Nat → Int32) (hL : L ≤ 384) (x3 : Int32) (h0 : 0 ≤ x3.toInt) (h1 : x3.toInt + 6 ≤ L) (σ : kw_S) (T : Int) (hX : kw_I bX σ) (hM : kw_I (bM T) (kw_sh 61 σ)) (hR : kr_R σ (kw_sh 61 σ)) (hT0 : 0 ≤ T) (hT1 : T ≤ 2000) (hnext : ∀ (S : kw_S) (T' : Int), kw_I bX S → kw_I (bM T') (kw_sh 61 S) → kr_R S (kw_sh 61 S) → 0 ≤ T' → T' ≤ T + 20 → kw_AW l 30 ((1002, L, xs) :: kw_E0) KJ mL_law kl_P 1359 [(3, .int x3), (2, .ref 61), (1, .ref 0), (0, .ref 1002)] [] S) : kw_AW l 30 ((1002, L, xs) :: kw_E0) KJ mL_law kl_P 438 [(3, .int x3), (2, .ref 61), (1, .ref 0), (0, .ref 1002)] [] σ := by
  have u1 : (x3 + 1).toInt = x3.toInt + 1 := by rw [kw_addI, show (1 : Int32).toInt = 1 from rfl]; omega
  have u2 : (x3 + 2).toInt = x3.toInt + 2 := by rw [kw_addI, show (2 : Int32).toInt = 2 from rfl]; omega
  have u3 : (x3 + 3).toInt = x3.toInt + 3 := by rw [kw_addI, show (3 : Int32).toInt = 3 from rfl]; omega
  have u4 : (x3 + 4).toInt = x3.toInt + 4 := by rw [kw_addI, show (4 : Int32).toInt = 4 from rfl]; omega
  have u5 : (x3 + 5).toInt = x3.toInt + 5 := by rw [kw_addI, show (5 : Int32).toInt = 5 from rfl]; omega
  refine kw_aload_n (pc := 438) (i := 204) (k := 2) (n := 1) (kl_a3 24 rfl) rfl rfl ?_
  refine kw_aload_n (pc := 439) (i := 205) (k := 3) (n := 0) (kl_a3 25 rfl) rfl rfl ?_
  refine kw_iload_n (pc := 440) (i := 206) (k := 0) (n := 3) (kl_a3 26 rfl) rfl rfl ?_
  refine kw_iconst (pc := 441) (i := 207) (v := 1) (kl_a3 27 rfl) rfl ?_
  refine kw_iadd (pc := 442) (i := 208) (kl_a3 28 rfl) (fun z1 e_z1 t_z1 => ?_)
  subst e_z1
  clear t_z1
  refine kw_tld (pc := 443) (i := 209) (k := 0) (n := L) (kl_a3 29 rfl) rfl (by omega) (by omega) (fun z2 e_z2 => ?_)
  subst e_z2
  refine kw_aload_n (pc := 444) (i := 210) (k := 3) (n := 0) (kl_a3 30 rfl) rfl rfl ?_
  refine kw_iload_n (pc := 445) (i := 211) (k := 0) (n := 3) (kl_a3 31 rfl) rfl rfl ?_
  refine kw_iconst (pc := 446) (i := 212) (v := 2) (kl_a3 32 rfl) rfl ?_
  refine kw_iadd (pc := 447) (i := 213) (kl_a3 33 rfl) (fun z3 e_z3 t_z3 => ?_)
  subst e_z3
  clear t_z3
  refine kw_tld (pc := 448) (i := 214) (k := 0) (n := L) (kl_a3 34 rfl) rfl (by omega) (by omega) (fun z4 e_z4 => ?_)
  subst e_z4
  refine kw_callX (pc := 449) (i := 215) (Y := mX7_text) (xs := [xs (x3 + 1).toNatClampNeg, xs (x3 + 2).toNatClampNeg]) (st := []) kl_hE (kl_a3 35 rfl) lvL_41 arX7_text (c_X7_text_0 l σ hX (xs (x3 + 1).toNatClampNeg) (xs (x3 + 2).toNatClampNeg) ) (by decide) (Nat.le_of_ble_eq_true rfl) rfl (fun v sX pX => ?_)
  obtain ⟨⟨IX, FX⟩, rX, rfl, f5, eX⟩ := pX
  show kw_AW l 30 ((1002, L, xs) :: kw_E0) KJ mL_law kl_P 452 [(3, .int x3), (2, .ref 61), (1, .ref 0), (0, .ref 1002)] [.int rX] (kw_mixX σ sX)
  refine kw_pop (pc := 452) (i := 216) (kl_a3 36 rfl) rfl ?_
  refine kw_aload_n (pc := 453) (i := 217) (k := 1) (n := 2) (kl_a3 37 rfl) rfl rfl ?_
  refine kw_aload_n (pc := 454) (i := 218) (k := 3) (n := 0) (kl_a3 38 rfl) rfl rfl ?_
  refine kw_iload_n (pc := 455) (i := 219) (k := 0) (n := 3) (kl_a3 39 rfl) rfl rfl ?_
  refine kw_iconst (pc := 456) (i := 220) (v := 1) (kl_a3 40 rfl) rfl ?_
  refine kw_iadd (pc := 457) (i := 221) (kl_a3 41 rfl) (fun z6 e_z6 t_z6 => ?_)
  subst e_z6
  clear t_z6
  refine kw_tld (pc := 458) (i := 222) (k := 0) (n := L) (kl_a3 42 rfl) rfl (by omega) (by omega) (fun z7 e_z7 => ?_)
  subst e_z7
  refine kw_aload_n (pc := 459) (i := 223) (k := 3) (n := 0) (kl_a3 43 rfl) rfl rfl ?_
  refine kw_iload_n (pc := 460) (i := 224) (k := 0) (n := 3) (kl_a3 44 rfl) rfl rfl ?_
  refine kw_iconst (pc := 461) (i := 225) (v := 2) (kl_a3 45 rfl) rfl ?_
  refine kw_iadd (pc := 462) (i := 226) (kl_a3 46 rfl) (fun z8 e_z8 t_z8 => ?_)
  subst e_z8
  clear t_z8
  refine kw_tld (pc := 463) (i := 227) (k := 0) (n := L) (kl_a3 47 rfl) rfl (by omega) (by omega) (fun z9 e_z9 => ?_)
  subst e_z9
  refine kw_callM (pc := 464) (i := 228) (Y := mX8_text) (xs := [xs (x3 + 1).toNatClampNeg, xs (x3 + 2).toNatClampNeg]) (st := []) kl_hE (kl_a3 48 rfl) lvL_44 arX8_text (c_X8_text_0 l T (by omega) (by omega) (kw_sh 61 (kw_mixX σ sX)) (by rw [kw_sh_mixX]; exact hM) (xs (x3 + 1).toNatClampNeg) (xs (x3 + 2).toNatClampNeg) ) (by decide) (Nat.le_of_ble_eq_true rfl) rfl (fun _ _ q => by obtain ⟨-, r, rfl, -⟩ := q; exact fun _ _ => rfl) (fun v sM pM => ?_)
  obtain ⟨⟨IM, FM⟩, rM, rfl, f10, eM⟩ := pM
  rw [kw_sh_mixX] at FM eM
  first | rw [kw_sh_mixX] at f10 | skip
  have AX : kw_I bX (kw_mixM (kw_mixX σ sX) sM) := kw_IX_mixM (kw_IX_mixX IX)
  have AM : kw_I (bM T) (kw_sh 61 (kw_mixM (kw_mixX σ sX) sM)) := by rw [kw_sh_mixM]; exact IM
  have Q := (show kr_R sX sM ∧ rX = rM from ⟨⟨(kr_T_text hX hR.1 (xs (x3 + 1).toNatClampNeg) (xs (x3 + 2).toNatClampNeg) eX eM).1, hR.2.fr FX FM (by decide) (by decide)⟩, (kr_T_text hX hR.1 (xs (x3 + 1).toNatClampNeg) (xs (x3 + 2).toNatClampNeg) eX eM).2⟩)
  have AR : kr_R (kw_mixM (kw_mixX σ sX) sM) (kw_sh 61 (kw_mixM (kw_mixX σ sX) sM)) := by rw [kw_sh_mixM]; exact ⟨(Q.1).1.mix, (Q.1).2.mix⟩
  generalize (kw_mixM (kw_mixX σ sX) sM) = J at AX AM AR ⊢
  show kw_AW l 30 ((1002, L, xs) :: kw_E0) KJ mL_law kl_P 467 [(3, .int x3), (2, .ref 61), (1, .ref 0), (0, .ref 1002)] [.int rM] J
  refine kw_pop (pc := 467) (i := 229) (kl_a3 49 rfl) rfl ?_
  refine kw_goto (pc := 468) (i := 230) (tgt := 1359) (kl_a3 50 rfl) rfl ?_
  exact hnext J T AX AM AR (by omega) (by omega)
set_option maxRecDepth 100000 in
set_option maxHeartbeats 4000000 in
theorem kl_case7 (l : Launch) (L : Nat) (xs : Nat → Int32) (hL : L ≤ 384) (x3 : Int32) (h0 : 0 ≤ x3.toInt) (h1 : x3.toInt + 6 ≤ L) (σ : kw_S) (T : Int) (hX : kw_I bX σ) (hM : kw_I (bM T) (kw_sh 61 σ)) (hR : kr_R σ (kw_sh 61 σ)) (hT0 : 0 ≤ T) (hT1 : T ≤ 2000) (hnext : ∀ (S : kw_S) (T' : Int), kw_I bX S → kw_I (bM T') (kw_sh 61 S) → kr_R S (kw_sh 61 S) → 0 ≤ T' → T' ≤ T + 20 → kw_AW l 30 ((1002, L, xs) :: kw_E0) KJ mL_law kl_P 1359 [(3, .int x3), (2, .ref 61), (1, .ref 0), (0, .ref 1002)] [] S) : kw_AW l 30 ((1002, L, xs) :: kw_E0) KJ mL_law kl_P 471 [(3, .int x3), (2, .ref 61), (1, .ref 0), (0, .ref 1002)] [] σ := by
  have u1 : (x3 + 1).toInt = x3.toInt + 1 := by rw [kw_addI, show (1 : Int32).toInt = 1 from rfl]; omega
  have u2 : (x3 + 2).toInt = x3.toInt + 2 := by rw [kw_addI, show (2 : Int32).toInt = 2 from rfl]; omega
  have u3 : (x3 + 3).toInt = x3.toInt + 3 := by rw [kw_addI, show (3 : Int32).toInt = 3 from rfl]; omega
  have u4 : (x3 + 4).toInt = x3.toInt + 4 := by rw [kw_addI, show (4 : Int32).toInt = 4 from rfl]; omega
  have u5 : (x3 + 5).toInt = x3.toInt + 5 := by rw [kw_addI, show (5 : Int32).toInt = 5 from rfl]; omega
  refine kw_aload_n (pc := 471) (i := 231) (k := 2) (n := 1) (kl_a3 51 rfl) rfl rfl ?_
  refine kw_aload_n (pc := 472) (i := 232) (k := 3) (n := 0) (kl_a3 52 rfl) rfl rfl ?_
  refine kw_iload_n (pc := 473) (i := 233) (k := 0) (n := 3) (kl_a3 53 rfl) rfl rfl ?_
  refine kw_iconst (pc := 474) (i := 234) (v := 1) (kl_a3 54 rfl) rfl ?_
  refine kw_iadd (pc := 475) (i := 235) (kl_a3 55 rfl) (fun z1 e_z1 t_z1 => ?_)
  subst e_z1
  clear t_z1
  refine kw_tld (pc := 476) (i := 236) (k := 0) (n := L) (kl_a3 56 rfl) rfl (by omega) (by omega) (fun z2 e_z2 => ?_)
  subst e_z2
  refine kw_aload_n (pc := 477) (i := 237) (k := 3) (n := 0) (kl_a3 57 rfl) rfl rfl ?_
  refine kw_iload_n (pc := 478) (i := 238) (k := 0) (n := 3) (kl_a3 58 rfl) rfl rfl ?_
  refine kw_iconst (pc := 479) (i := 239) (v := 2) (kl_a3 59 rfl) rfl ?_
  refine kw_iadd (pc := 480) (i := 240) (kl_a4 0 rfl) (fun z3 e_z3 t_z3 => ?_)
  subst e_z3
  clear t_z3
  refine kw_tld (pc := 481) (i := 241) (k := 0) (n := L) (kl_a4 1 rfl) rfl (by omega) (by omega) (fun z4 e_z4 => ?_)
  subst e_z4
  refine kw_aload_n (pc := 482) (i := 242) (k := 3) (n := 0) (kl_a4 2 rfl) rfl rfl ?_
  refine kw_iload_n (pc := 483) (i := 243) (k := 0) (n := 3) (kl_a4 3 rfl) rfl rfl ?_
  refine kw_iconst (pc := 484) (i := 244) (v := 3) (kl_a4 4 rfl) rfl ?_
  refine kw_iadd (pc := 485) (i := 245) (kl_a4 5 rfl) (fun z5 e_z5 t_z5 => ?_)
  subst e_z5
  clear t_z5
  refine kw_tld (pc := 486) (i := 246) (k := 0) (n := L) (kl_a4 6 rfl) rfl (by omega) (by omega) (fun z6 e_z6 => ?_)
  subst e_z6
  refine kw_callX (pc := 487) (i := 247) (Y := mX7_put) (xs := [xs (x3 + 1).toNatClampNeg, xs (x3 + 2).toNatClampNeg, xs (x3 + 3).toNatClampNeg]) (st := []) kl_hE (kl_a4 7 rfl) lvL_45 arX7_put (c_X7_put_0 l σ hX (xs (x3 + 1).toNatClampNeg) (xs (x3 + 2).toNatClampNeg) (xs (x3 + 3).toNatClampNeg) ) (by decide) (Nat.le_of_ble_eq_true rfl) rfl (fun v sX pX => ?_)
  obtain ⟨⟨IX, FX⟩, rX, rfl, eX⟩ := pX
  show kw_AW l 30 ((1002, L, xs) :: kw_E0) KJ mL_law kl_P 490 [(3, .int x3), (2, .ref 61), (1, .ref 0), (0, .ref 1002)] [.int rX] (kw_mixX σ sX)
  refine kw_pop (pc := 490) (i := 248) (kl_a4 8 rfl) rfl ?_
  refine kw_aload_n (pc := 491) (i := 249) (k := 1) (n := 2) (kl_a4 9 rfl) rfl rfl ?_
  refine kw_aload_n (pc := 492) (i := 250) (k := 3) (n := 0) (kl_a4 10 rfl) rfl rfl ?_
  refine kw_iload_n (pc := 493) (i := 251) (k := 0) (n := 3) (kl_a4 11 rfl) rfl rfl ?_
  refine kw_iconst (pc := 494) (i := 252) (v := 1) (kl_a4 12 rfl) rfl ?_
  refine kw_iadd (pc := 495) (i := 253) (kl_a4 13 rfl) (fun z7 e_z7 t_z7 => ?_)
  subst e_z7
  clear t_z7
  refine kw_tld (pc := 496) (i := 254) (k := 0) (n := L) (kl_a4 14 rfl) rfl (by omega) (by omega) (fun z8 e_z8 => ?_)
  subst e_z8
  refine kw_aload_n (pc := 497) (i := 255) (k := 3) (n := 0) (kl_a4 15 rfl) rfl rfl ?_
  refine kw_iload_n (pc := 498) (i := 256) (k := 0) (n := 3) (kl_a4 16 rfl) rfl rfl ?_
  refine kw_iconst (pc := 499) (i := 257) (v := 2) (kl_a4 17 rfl) rfl ?_
  refine kw_iadd (pc := 500) (i := 258) (kl_a4 18 rfl) (fun z9 e_z9 t_z9 => ?_)
  subst e_z9
  clear t_z9
  refine kw_tld (pc := 501) (i := 259) (k := 0) (n := L) (kl_a4 19 rfl) rfl (by omega) (by omega) (fun z10 e_z10 => ?_)
  subst e_z10
  refine kw_aload_n (pc := 502) (i := 260) (k := 3) (n := 0) (kl_a4 20 rfl) rfl rfl ?_
  refine kw_iload_n (pc := 503) (i := 261) (k := 0) (n := 3) (kl_a4 21 rfl) rfl rfl ?_
  refine kw_iconst (pc := 504) (i := 262) (v := 3) (kl_a4 22 rfl) rfl ?_
  refine kw_iadd (pc := 505) (i := 263) (kl_a4 23 rfl) (fun z11 e_z11 t_z11 => ?_)
  subst e_z11
  clear t_z11
  refine kw_tld (pc := 506) (i := 264) (k := 0) (n := L) (kl_a4 24 rfl) rfl (by omega) (by omega) (fun z12 e_z12 => ?_)
  subst e_z12
  refine kw_callM (pc := 507) (i := 265) (Y := mX8_put) (xs := [xs (x3 + 1).toNatClampNeg, xs (x3 + 2).toNatClampNeg, xs (x3 + 3).toNatClampNeg]) (st := []) kl_hE (kl_a4 25 rfl) lvL_48 arX8_put (c_X8_put_0 l T (by omega) (by omega) (kw_sh 61 (kw_mixX σ sX)) (by rw [kw_sh_mixX]; exact hM) (xs (x3 + 1).toNatClampNeg) (xs (x3 + 2).toNatClampNeg) (xs (x3 + 3).toNatClampNeg) ) (by decide) (Nat.le_of_ble_eq_true rfl) rfl (fun _ _ q => by obtain ⟨-, r, rfl, -⟩ := q; exact fun _ _ => rfl) (fun v sM pM => ?_)
  obtain ⟨⟨IM, FM⟩, rM, rfl, eM⟩ := pM
  rw [kw_sh_mixX] at FM eM
  have AX : kw_I bX (kw_mixM (kw_mixX σ sX) sM) := kw_IX_mixM (kw_IX_mixX IX)
  have AM : kw_I (bM T) (kw_sh 61 (kw_mixM (kw_mixX σ sX) sM)) := by rw [kw_sh_mixM]; exact IM
  have Q := (show kr_R sX sM ∧ rX = rM from ⟨⟨(kr_T_put hX hM hR.1 (xs (x3 + 1).toNatClampNeg) (xs (x3 + 2).toNatClampNeg) (xs (x3 + 3).toNatClampNeg) eX eM).1, hR.2.fr FX FM (by decide) (by decide)⟩, (kr_T_put hX hM hR.1 (xs (x3 + 1).toNatClampNeg) (xs (x3 + 2).toNatClampNeg) (xs (x3 + 3).toNatClampNeg) eX eM).2⟩)
  have AR : kr_R (kw_mixM (kw_mixX σ sX) sM) (kw_sh 61 (kw_mixM (kw_mixX σ sX) sM)) := by rw [kw_sh_mixM]; exact ⟨(Q.1).1.mix, (Q.1).2.mix⟩
  generalize (kw_mixM (kw_mixX σ sX) sM) = J at AX AM AR ⊢
  show kw_AW l 30 ((1002, L, xs) :: kw_E0) KJ mL_law kl_P 510 [(3, .int x3), (2, .ref 61), (1, .ref 0), (0, .ref 1002)] [.int rM] J
  refine kw_pop (pc := 510) (i := 266) (kl_a4 26 rfl) rfl ?_
  refine kw_goto (pc := 511) (i := 267) (tgt := 1359) (kl_a4 27 rfl) rfl ?_
  exact hnext J T AX AM AR (by omega) (by omega)
set_option maxRecDepth 100000 in
set_option maxHeartbeats 4000000 in
theorem kl_case8 (l : Launch) (L : Nat) (xs : Nat → Int32) (hL : L ≤ 384) (x3 : Int32) (h0 : 0 ≤ x3.toInt) (h1 : x3.toInt + 6 ≤ L) (σ : kw_S) (T : Int) (hX : kw_I bX σ) (hM : kw_I (bM T) (kw_sh 61 σ)) (hR : kr_R σ (kw_sh 61 σ)) (hT0 : 0 ≤ T) (hT1 : T ≤ 2000) (hnext : ∀ (S : kw_S) (T' : Int), kw_I bX S → kw_I (bM T') (kw_sh 61 S) → kr_R S (kw_sh 61 S) → 0 ≤ T' → T' ≤ T + 20 → kw_AW l 30 ((1002, L, xs) :: kw_E0) KJ mL_law kl_P 1359 [(3, .int x3), (2, .ref 61), (1, .ref 0), (0, .ref 1002)] [] S) : kw_AW l 30 ((1002, L, xs) :: kw_E0) KJ mL_law kl_P 514 [(3, .int x3), (2, .ref 61), (1, .ref 0), (0, .ref 1002)] [] σ := by
  have u1 : (x3 + 1).toInt = x3.toInt + 1 := by rw [kw_addI, show (1 : Int32).toInt = 1 from rfl]; omega
  have u2 : (x3 + 2).toInt = x3.toInt + 2 := by rw [kw_addI, show (2 : Int32).toInt = 2 from rfl]; omega
  have u3 : (x3 + 3).toInt = x3.toInt + 3 := by rw [kw_addI, show (3 : Int32).toInt = 3 from rfl]; omega
  have u4 : (x3 + 4).toInt = x3.toInt + 4 := by rw [kw_addI, show (4 : Int32).toInt = 4 from rfl]; omega
  have u5 : (x3 + 5).toInt = x3.toInt + 5 := by rw [kw_addI, show (5 : Int32).toInt = 5 from rfl]; omega
  refine kw_aload_n (pc := 514) (i := 268) (k := 2) (n := 1) (kl_a4 28 rfl) rfl rfl ?_
  refine kw_aload_n (pc := 515) (i := 269) (k := 3) (n := 0) (kl_a4 29 rfl) rfl rfl ?_
  refine kw_iload_n (pc := 516) (i := 270) (k := 0) (n := 3) (kl_a4 30 rfl) rfl rfl ?_
  refine kw_iconst (pc := 517) (i := 271) (v := 1) (kl_a4 31 rfl) rfl ?_
  refine kw_iadd (pc := 518) (i := 272) (kl_a4 32 rfl) (fun z1 e_z1 t_z1 => ?_)
  subst e_z1
  clear t_z1
  refine kw_tld (pc := 519) (i := 273) (k := 0) (n := L) (kl_a4 33 rfl) rfl (by omega) (by omega) (fun z2 e_z2 => ?_)
  subst e_z2
  refine kw_callX (pc := 520) (i := 274) (Y := mX7_fault) (xs := [xs (x3 + 1).toNatClampNeg]) (st := []) kl_hE (kl_a4 34 rfl) lvL_49 arX7_fault (c_X7_fault_0 l σ hX (xs (x3 + 1).toNatClampNeg) ) (by decide) (Nat.le_of_ble_eq_true rfl) rfl (fun v sX pX => ?_)
  obtain ⟨⟨IX, FX⟩, rX, rfl, eX⟩ := pX
  show kw_AW l 30 ((1002, L, xs) :: kw_E0) KJ mL_law kl_P 523 [(3, .int x3), (2, .ref 61), (1, .ref 0), (0, .ref 1002)] [.int rX] (kw_mixX σ sX)
  refine kw_pop (pc := 523) (i := 275) (kl_a4 35 rfl) rfl ?_
  refine kw_aload_n (pc := 524) (i := 276) (k := 1) (n := 2) (kl_a4 36 rfl) rfl rfl ?_
  refine kw_aload_n (pc := 525) (i := 277) (k := 3) (n := 0) (kl_a4 37 rfl) rfl rfl ?_
  refine kw_iload_n (pc := 526) (i := 278) (k := 0) (n := 3) (kl_a4 38 rfl) rfl rfl ?_
  refine kw_iconst (pc := 527) (i := 279) (v := 1) (kl_a4 39 rfl) rfl ?_
  refine kw_iadd (pc := 528) (i := 280) (kl_a4 40 rfl) (fun z3 e_z3 t_z3 => ?_)
  subst e_z3
  clear t_z3
  refine kw_tld (pc := 529) (i := 281) (k := 0) (n := L) (kl_a4 41 rfl) rfl (by omega) (by omega) (fun z4 e_z4 => ?_)
  subst e_z4
  refine kw_callM (pc := 530) (i := 282) (Y := mX8_fault) (xs := [xs (x3 + 1).toNatClampNeg]) (st := []) kl_hE (kl_a4 42 rfl) lvL_52 arX8_fault (c_X8_fault_0 l T (by omega) (by omega) (kw_sh 61 (kw_mixX σ sX)) (by rw [kw_sh_mixX]; exact hM) (xs (x3 + 1).toNatClampNeg) ) (by decide) (Nat.le_of_ble_eq_true rfl) rfl (fun _ _ q => by obtain ⟨-, r, rfl, -⟩ := q; exact fun _ _ => rfl) (fun v sM pM => ?_)
  obtain ⟨⟨IM, FM⟩, rM, rfl, eM⟩ := pM
  rw [kw_sh_mixX] at FM eM
  have AX : kw_I bX (kw_mixM (kw_mixX σ sX) sM) := kw_IX_mixM (kw_IX_mixX IX)
  have AM : kw_I (bM T) (kw_sh 61 (kw_mixM (kw_mixX σ sX) sM)) := by rw [kw_sh_mixM]; exact IM
  have Q := (show kr_R sX sM ∧ rX = rM from ⟨kr_R.fr hR FX FM (by decide) (by decide), kr_fault hX hR.1 (xs (x3 + 1).toNatClampNeg) eX eM⟩)
  have AR : kr_R (kw_mixM (kw_mixX σ sX) sM) (kw_sh 61 (kw_mixM (kw_mixX σ sX) sM)) := by rw [kw_sh_mixM]; exact ⟨(Q.1).1.mix, (Q.1).2.mix⟩
  generalize (kw_mixM (kw_mixX σ sX) sM) = J at AX AM AR ⊢
  show kw_AW l 30 ((1002, L, xs) :: kw_E0) KJ mL_law kl_P 533 [(3, .int x3), (2, .ref 61), (1, .ref 0), (0, .ref 1002)] [.int rM] J
  refine kw_pop (pc := 533) (i := 283) (kl_a4 43 rfl) rfl ?_
  refine kw_goto (pc := 534) (i := 284) (tgt := 1359) (kl_a4 44 rfl) rfl ?_
  exact hnext J T AX AM AR (by omega) (by omega)
set_option maxRecDepth 100000 in
set_option maxHeartbeats 4000000 in
theorem kl_case9 (l : Launch) (L : Nat) (xs : Nat → Int32) (hL : L ≤ 384) (x3 : Int32) (h0 : 0 ≤ x3.toInt) (h1 : x3.toInt + 6 ≤ L) (σ : kw_S) (T : Int) (hX : kw_I bX σ) (hM : kw_I (bM T) (kw_sh 61 σ)) (hR : kr_R σ (kw_sh 61 σ)) (hT0 : 0 ≤ T) (hT1 : T ≤ 2000) (hnext : ∀ (S : kw_S) (T' : Int), kw_I bX S → kw_I (bM T') (kw_sh 61 S) → kr_R S (kw_sh 61 S) → 0 ≤ T' → T' ≤ T + 20 → kw_AW l 30 ((1002, L, xs) :: kw_E0) KJ mL_law kl_P 1359 [(3, .int x3), (2, .ref 61), (1, .ref 0), (0, .ref 1002)] [] S) : kw_AW l 30 ((1002, L, xs) :: kw_E0) KJ mL_law kl_P 537 [(3, .int x3), (2, .ref 61), (1, .ref 0), (0, .ref 1002)] [] σ := by
  have u1 : (x3 + 1).toInt = x3.toInt + 1 := by rw [kw_addI, show (1 : Int32).toInt = 1 from rfl]; omega
  have u2 : (x3 + 2).toInt = x3.toInt + 2 := by rw [kw_addI, show (2 : Int32).toInt = 2 from rfl]; omega
  have u3 : (x3 + 3).toInt = x3.toInt + 3 := by rw [kw_addI, show (3 : Int32).toInt = 3 from rfl]; omega
  have u4 : (x3 + 4).toInt = x3.toInt + 4 := by rw [kw_addI, show (4 : Int32).toInt = 4 from rfl]; omega
  have u5 : (x3 + 5).toInt = x3.toInt + 5 := by rw [kw_addI, show (5 : Int32).toInt = 5 from rfl]; omega
  refine kw_aload_n (pc := 537) (i := 285) (k := 2) (n := 1) (kl_a4 45 rfl) rfl rfl ?_
  refine kw_aload_n (pc := 538) (i := 286) (k := 3) (n := 0) (kl_a4 46 rfl) rfl rfl ?_
  refine kw_iload_n (pc := 539) (i := 287) (k := 0) (n := 3) (kl_a4 47 rfl) rfl rfl ?_
  refine kw_iconst (pc := 540) (i := 288) (v := 1) (kl_a4 48 rfl) rfl ?_
  refine kw_iadd (pc := 541) (i := 289) (kl_a4 49 rfl) (fun z1 e_z1 t_z1 => ?_)
  subst e_z1
  clear t_z1
  refine kw_tld (pc := 542) (i := 290) (k := 0) (n := L) (kl_a4 50 rfl) rfl (by omega) (by omega) (fun z2 e_z2 => ?_)
  subst e_z2
  refine kw_callX (pc := 543) (i := 291) (Y := mX7_town) (xs := [xs (x3 + 1).toNatClampNeg]) (st := []) kl_hE (kl_a4 51 rfl) lvL_53 arX7_town (c_X7_town_0 l σ hX (xs (x3 + 1).toNatClampNeg) ) (by decide) (Nat.le_of_ble_eq_true rfl) rfl (fun v sX pX => ?_)
  obtain ⟨⟨IX, FX⟩, rX, rfl, eX⟩ := pX
  show kw_AW l 30 ((1002, L, xs) :: kw_E0) KJ mL_law kl_P 546 [(3, .int x3), (2, .ref 61), (1, .ref 0), (0, .ref 1002)] [.int rX] (kw_mixX σ sX)
  refine kw_pop (pc := 546) (i := 292) (kl_a4 52 rfl) rfl ?_
  refine kw_aload_n (pc := 547) (i := 293) (k := 1) (n := 2) (kl_a4 53 rfl) rfl rfl ?_
  refine kw_aload_n (pc := 548) (i := 294) (k := 3) (n := 0) (kl_a4 54 rfl) rfl rfl ?_
  refine kw_iload_n (pc := 549) (i := 295) (k := 0) (n := 3) (kl_a4 55 rfl) rfl rfl ?_
  refine kw_iconst (pc := 550) (i := 296) (v := 1) (kl_a4 56 rfl) rfl ?_
  refine kw_iadd (pc := 551) (i := 297) (kl_a4 57 rfl) (fun z3 e_z3 t_z3 => ?_)
  subst e_z3
  clear t_z3
  refine kw_tld (pc := 552) (i := 298) (k := 0) (n := L) (kl_a4 58 rfl) rfl (by omega) (by omega) (fun z4 e_z4 => ?_)
  subst e_z4
  refine kw_callM (pc := 553) (i := 299) (Y := mX8_town) (xs := [xs (x3 + 1).toNatClampNeg]) (st := []) kl_hE (kl_a4 59 rfl) lvL_56 arX8_town (c_X8_town_0 l T (by omega) (by omega) (kw_sh 61 (kw_mixX σ sX)) (by rw [kw_sh_mixX]; exact hM) (xs (x3 + 1).toNatClampNeg) ) (by decide) (Nat.le_of_ble_eq_true rfl) rfl (fun _ _ q => by obtain ⟨-, r, rfl, -⟩ := q; exact fun _ _ => rfl) (fun v sM pM => ?_)
  obtain ⟨⟨IM, FM⟩, rM, rfl, eM⟩ := pM
  rw [kw_sh_mixX] at FM eM
  have AX : kw_I bX (kw_mixM (kw_mixX σ sX) sM) := kw_IX_mixM (kw_IX_mixX IX)
  have AM : kw_I (bM T) (kw_sh 61 (kw_mixM (kw_mixX σ sX) sM)) := by rw [kw_sh_mixM]; exact IM
  have Q := (show kr_R sX sM ∧ rX = rM from ⟨⟨hR.1.fr FX FM (by decide) (by decide), (kr_town hX hR.1 hR.2 (xs (x3 + 1).toNatClampNeg) eX eM).2.1⟩, (kr_town hX hR.1 hR.2 (xs (x3 + 1).toNatClampNeg) eX eM).1⟩)
  have AR : kr_R (kw_mixM (kw_mixX σ sX) sM) (kw_sh 61 (kw_mixM (kw_mixX σ sX) sM)) := by rw [kw_sh_mixM]; exact ⟨(Q.1).1.mix, (Q.1).2.mix⟩
  generalize (kw_mixM (kw_mixX σ sX) sM) = J at AX AM AR ⊢
  show kw_AW l 30 ((1002, L, xs) :: kw_E0) KJ mL_law kl_P 556 [(3, .int x3), (2, .ref 61), (1, .ref 0), (0, .ref 1002)] [.int rM] J
  refine kw_pop (pc := 556) (i := 300) (kl_a5 0 rfl) rfl ?_
  refine kw_goto (pc := 557) (i := 301) (tgt := 1359) (kl_a5 1 rfl) rfl ?_
  exact hnext J T AX AM AR (by omega) (by omega)
set_option maxRecDepth 100000 in
set_option maxHeartbeats 4000000 in
theorem kl_case10 (l : Launch) (L : Nat) (xs : Nat → Int32) (hL : L ≤ 384) (x3 : Int32) (h0 : 0 ≤ x3.toInt) (h1 : x3.toInt + 6 ≤ L) (σ : kw_S) (T : Int) (hX : kw_I bX σ) (hM : kw_I (bM T) (kw_sh 61 σ)) (hR : kr_R σ (kw_sh 61 σ)) (hT0 : 0 ≤ T) (hT1 : T ≤ 2000) (hnext : ∀ (S : kw_S) (T' : Int), kw_I bX S → kw_I (bM T') (kw_sh 61 S) → kr_R S (kw_sh 61 S) → 0 ≤ T' → T' ≤ T + 20 → kw_AW l 30 ((1002, L, xs) :: kw_E0) KJ mL_law kl_P 1359 [(3, .int x3), (2, .ref 61), (1, .ref 0), (0, .ref 1002)] [] S) : kw_AW l 30 ((1002, L, xs) :: kw_E0) KJ mL_law kl_P 560 [(3, .int x3), (2, .ref 61), (1, .ref 0), (0, .ref 1002)] [] σ := by
  have u1 : (x3 + 1).toInt = x3.toInt + 1 := by rw [kw_addI, show (1 : Int32).toInt = 1 from rfl]; omega
  have u2 : (x3 + 2).toInt = x3.toInt + 2 := by rw [kw_addI, show (2 : Int32).toInt = 2 from rfl]; omega
  have u3 : (x3 + 3).toInt = x3.toInt + 3 := by rw [kw_addI, show (3 : Int32).toInt = 3 from rfl]; omega
  have u4 : (x3 + 4).toInt = x3.toInt + 4 := by rw [kw_addI, show (4 : Int32).toInt = 4 from rfl]; omega
  have u5 : (x3 + 5).toInt = x3.toInt + 5 := by rw [kw_addI, show (5 : Int32).toInt = 5 from rfl]; omega
  refine kw_aload_n (pc := 560) (i := 302) (k := 2) (n := 1) (kl_a5 2 rfl) rfl rfl ?_
  refine kw_aload_n (pc := 561) (i := 303) (k := 3) (n := 0) (kl_a5 3 rfl) rfl rfl ?_
  refine kw_iload_n (pc := 562) (i := 304) (k := 0) (n := 3) (kl_a5 4 rfl) rfl rfl ?_
  refine kw_iconst (pc := 563) (i := 305) (v := 1) (kl_a5 5 rfl) rfl ?_
  refine kw_iadd (pc := 564) (i := 306) (kl_a5 6 rfl) (fun z1 e_z1 t_z1 => ?_)
  subst e_z1
  clear t_z1
  refine kw_tld (pc := 565) (i := 307) (k := 0) (n := L) (kl_a5 7 rfl) rfl (by omega) (by omega) (fun z2 e_z2 => ?_)
  subst e_z2
  refine kw_aload_n (pc := 566) (i := 308) (k := 3) (n := 0) (kl_a5 8 rfl) rfl rfl ?_
  refine kw_iload_n (pc := 567) (i := 309) (k := 0) (n := 3) (kl_a5 9 rfl) rfl rfl ?_
  refine kw_iconst (pc := 568) (i := 310) (v := 2) (kl_a5 10 rfl) rfl ?_
  refine kw_iadd (pc := 569) (i := 311) (kl_a5 11 rfl) (fun z3 e_z3 t_z3 => ?_)
  subst e_z3
  clear t_z3
  refine kw_tld (pc := 570) (i := 312) (k := 0) (n := L) (kl_a5 12 rfl) rfl (by omega) (by omega) (fun z4 e_z4 => ?_)
  subst e_z4
  refine kw_callX (pc := 571) (i := 313) (Y := mX7_line) (xs := [xs (x3 + 1).toNatClampNeg, xs (x3 + 2).toNatClampNeg]) (st := []) kl_hE (kl_a5 13 rfl) lvL_57 arX7_line (c_X7_line_0 l σ hX (xs (x3 + 1).toNatClampNeg) (xs (x3 + 2).toNatClampNeg) ) (by decide) (Nat.le_of_ble_eq_true rfl) rfl (fun v sX pX => ?_)
  obtain ⟨⟨IX, FX⟩, rX, rfl, eX⟩ := pX
  show kw_AW l 30 ((1002, L, xs) :: kw_E0) KJ mL_law kl_P 574 [(3, .int x3), (2, .ref 61), (1, .ref 0), (0, .ref 1002)] [.int rX] (kw_mixX σ sX)
  refine kw_pop (pc := 574) (i := 314) (kl_a5 14 rfl) rfl ?_
  refine kw_aload_n (pc := 575) (i := 315) (k := 1) (n := 2) (kl_a5 15 rfl) rfl rfl ?_
  refine kw_aload_n (pc := 576) (i := 316) (k := 3) (n := 0) (kl_a5 16 rfl) rfl rfl ?_
  refine kw_iload_n (pc := 577) (i := 317) (k := 0) (n := 3) (kl_a5 17 rfl) rfl rfl ?_
  refine kw_iconst (pc := 578) (i := 318) (v := 1) (kl_a5 18 rfl) rfl ?_
  refine kw_iadd (pc := 579) (i := 319) (kl_a5 19 rfl) (fun z5 e_z5 t_z5 => ?_)
  subst e_z5
  clear t_z5
  refine kw_tld (pc := 580) (i := 320) (k := 0) (n := L) (kl_a5 20 rfl) rfl (by omega) (by omega) (fun z6 e_z6 => ?_)
  subst e_z6
  refine kw_aload_n (pc := 581) (i := 321) (k := 3) (n := 0) (kl_a5 21 rfl) rfl rfl ?_
  refine kw_iload_n (pc := 582) (i := 322) (k := 0) (n := 3) (kl_a5 22 rfl) rfl rfl ?_
  refine kw_iconst (pc := 583) (i := 323) (v := 2) (kl_a5 23 rfl) rfl ?_
  refine kw_iadd (pc := 584) (i := 324) (kl_a5 24 rfl) (fun z7 e_z7 t_z7 => ?_)
  subst e_z7
  clear t_z7
  refine kw_tld (pc := 585) (i := 325) (k := 0) (n := L) (kl_a5 25 rfl) rfl (by omega) (by omega) (fun z8 e_z8 => ?_)
  subst e_z8
  refine kw_callM (pc := 586) (i := 326) (Y := mX8_line) (xs := [xs (x3 + 1).toNatClampNeg, xs (x3 + 2).toNatClampNeg]) (st := []) kl_hE (kl_a5 26 rfl) lvL_60 arX8_line (c_X8_line_0 l T (by omega) (by omega) (kw_sh 61 (kw_mixX σ sX)) (by rw [kw_sh_mixX]; exact hM) (xs (x3 + 1).toNatClampNeg) (xs (x3 + 2).toNatClampNeg) ) (by decide) (Nat.le_of_ble_eq_true rfl) rfl (fun _ _ q => by obtain ⟨-, r, rfl, -⟩ := q; exact fun _ _ => rfl) (fun v sM pM => ?_)
  obtain ⟨⟨IM, FM⟩, rM, rfl, eM⟩ := pM
  rw [kw_sh_mixX] at FM eM
  have AX : kw_I bX (kw_mixM (kw_mixX σ sX) sM) := kw_IX_mixM (kw_IX_mixX IX)
  have AM : kw_I (bM T) (kw_sh 61 (kw_mixM (kw_mixX σ sX) sM)) := by rw [kw_sh_mixM]; exact IM
  have Q := (show kr_R sX sM ∧ rX = rM from ⟨kr_R.fr hR FX FM (by decide) (by decide), kr_line hR.2 (xs (x3 + 1).toNatClampNeg) (xs (x3 + 2).toNatClampNeg) eX eM⟩)
  have AR : kr_R (kw_mixM (kw_mixX σ sX) sM) (kw_sh 61 (kw_mixM (kw_mixX σ sX) sM)) := by rw [kw_sh_mixM]; exact ⟨(Q.1).1.mix, (Q.1).2.mix⟩
  generalize (kw_mixM (kw_mixX σ sX) sM) = J at AX AM AR ⊢
  show kw_AW l 30 ((1002, L, xs) :: kw_E0) KJ mL_law kl_P 589 [(3, .int x3), (2, .ref 61), (1, .ref 0), (0, .ref 1002)] [.int rM] J
  refine kw_pop (pc := 589) (i := 327) (kl_a5 27 rfl) rfl ?_
  refine kw_goto (pc := 590) (i := 328) (tgt := 1359) (kl_a5 28 rfl) rfl ?_
  exact hnext J T AX AM AR (by omega) (by omega)
set_option maxRecDepth 100000 in
set_option maxHeartbeats 4000000 in
theorem kl_case11 (l : Launch) (L : Nat) (xs : Nat → Int32) (hL : L ≤ 384) (x3 : Int32) (h0 : 0 ≤ x3.toInt) (h1 : x3.toInt + 6 ≤ L) (σ : kw_S) (T : Int) (hX : kw_I bX σ) (hM : kw_I (bM T) (kw_sh 61 σ)) (hR : kr_R σ (kw_sh 61 σ)) (hT0 : 0 ≤ T) (hT1 : T ≤ 2000) (hnext : ∀ (S : kw_S) (T' : Int), kw_I bX S → kw_I (bM T') (kw_sh 61 S) → kr_R S (kw_sh 61 S) → 0 ≤ T' → T' ≤ T + 20 → kw_AW l 30 ((1002, L, xs) :: kw_E0) KJ mL_law kl_P 1359 [(3, .int x3), (2, .ref 61), (1, .ref 0), (0, .ref 1002)] [] S) : kw_AW l 30 ((1002, L, xs) :: kw_E0) KJ mL_law kl_P 593 [(3, .int x3), (2, .ref 61), (1, .ref 0), (0, .ref 1002)] [] σ := by
  have u1 : (x3 + 1).toInt = x3.toInt + 1 := by rw [kw_addI, show (1 : Int32).toInt = 1 from rfl]; omega
  have u2 : (x3 + 2).toInt = x3.toInt + 2 := by rw [kw_addI, show (2 : Int32).toInt = 2 from rfl]; omega
  have u3 : (x3 + 3).toInt = x3.toInt + 3 := by rw [kw_addI, show (3 : Int32).toInt = 3 from rfl]; omega
  have u4 : (x3 + 4).toInt = x3.toInt + 4 := by rw [kw_addI, show (4 : Int32).toInt = 4 from rfl]; omega
  have u5 : (x3 + 5).toInt = x3.toInt + 5 := by rw [kw_addI, show (5 : Int32).toInt = 5 from rfl]; omega
  refine kw_aload_n (pc := 593) (i := 329) (k := 2) (n := 1) (kl_a5 29 rfl) rfl rfl ?_
  refine kw_aload_n (pc := 594) (i := 330) (k := 3) (n := 0) (kl_a5 30 rfl) rfl rfl ?_
  refine kw_iload_n (pc := 595) (i := 331) (k := 0) (n := 3) (kl_a5 31 rfl) rfl rfl ?_
  refine kw_iconst (pc := 596) (i := 332) (v := 1) (kl_a5 32 rfl) rfl ?_
  refine kw_iadd (pc := 597) (i := 333) (kl_a5 33 rfl) (fun z1 e_z1 t_z1 => ?_)
  subst e_z1
  clear t_z1
  refine kw_tld (pc := 598) (i := 334) (k := 0) (n := L) (kl_a5 34 rfl) rfl (by omega) (by omega) (fun z2 e_z2 => ?_)
  subst e_z2
  refine kw_aload_n (pc := 599) (i := 335) (k := 3) (n := 0) (kl_a5 35 rfl) rfl rfl ?_
  refine kw_iload_n (pc := 600) (i := 336) (k := 0) (n := 3) (kl_a5 36 rfl) rfl rfl ?_
  refine kw_iconst (pc := 601) (i := 337) (v := 2) (kl_a5 37 rfl) rfl ?_
  refine kw_iadd (pc := 602) (i := 338) (kl_a5 38 rfl) (fun z3 e_z3 t_z3 => ?_)
  subst e_z3
  clear t_z3
  refine kw_tld (pc := 603) (i := 339) (k := 0) (n := L) (kl_a5 39 rfl) rfl (by omega) (by omega) (fun z4 e_z4 => ?_)
  subst e_z4
  refine kw_callX (pc := 604) (i := 340) (Y := mX7_mark) (xs := [xs (x3 + 1).toNatClampNeg, xs (x3 + 2).toNatClampNeg]) (st := []) kl_hE (kl_a5 40 rfl) lvL_61 arX7_mark (c_X7_mark_0 l σ hX (xs (x3 + 1).toNatClampNeg) (xs (x3 + 2).toNatClampNeg) ) (by decide) (Nat.le_of_ble_eq_true rfl) rfl (fun v sX pX => ?_)
  obtain ⟨⟨IX, FX⟩, rX, rfl, eX⟩ := pX
  show kw_AW l 30 ((1002, L, xs) :: kw_E0) KJ mL_law kl_P 607 [(3, .int x3), (2, .ref 61), (1, .ref 0), (0, .ref 1002)] [.int rX] (kw_mixX σ sX)
  refine kw_pop (pc := 607) (i := 341) (kl_a5 41 rfl) rfl ?_
  refine kw_aload_n (pc := 608) (i := 342) (k := 1) (n := 2) (kl_a5 42 rfl) rfl rfl ?_
  refine kw_aload_n (pc := 609) (i := 343) (k := 3) (n := 0) (kl_a5 43 rfl) rfl rfl ?_
  refine kw_iload_n (pc := 610) (i := 344) (k := 0) (n := 3) (kl_a5 44 rfl) rfl rfl ?_
  refine kw_iconst (pc := 611) (i := 345) (v := 1) (kl_a5 45 rfl) rfl ?_
  refine kw_iadd (pc := 612) (i := 346) (kl_a5 46 rfl) (fun z5 e_z5 t_z5 => ?_)
  subst e_z5
  clear t_z5
  refine kw_tld (pc := 613) (i := 347) (k := 0) (n := L) (kl_a5 47 rfl) rfl (by omega) (by omega) (fun z6 e_z6 => ?_)
  subst e_z6
  refine kw_aload_n (pc := 614) (i := 348) (k := 3) (n := 0) (kl_a5 48 rfl) rfl rfl ?_
  refine kw_iload_n (pc := 615) (i := 349) (k := 0) (n := 3) (kl_a5 49 rfl) rfl rfl ?_
  refine kw_iconst (pc := 616) (i := 350) (v := 2) (kl_a5 50 rfl) rfl ?_
  refine kw_iadd (pc := 617) (i := 351) (kl_a5 51 rfl) (fun z7 e_z7 t_z7 => ?_)
  subst e_z7
  clear t_z7
  refine kw_tld (pc := 618) (i := 352) (k := 0) (n := L) (kl_a5 52 rfl) rfl (by omega) (by omega) (fun z8 e_z8 => ?_)
  subst e_z8
  refine kw_callM (pc := 619) (i := 353) (Y := mX8_mark) (xs := [xs (x3 + 1).toNatClampNeg, xs (x3 + 2).toNatClampNeg]) (st := []) kl_hE (kl_a5 53 rfl) lvL_64 arX8_mark (c_X8_mark_0 l T (by omega) (by omega) (kw_sh 61 (kw_mixX σ sX)) (by rw [kw_sh_mixX]; exact hM) (xs (x3 + 1).toNatClampNeg) (xs (x3 + 2).toNatClampNeg) ) (by decide) (Nat.le_of_ble_eq_true rfl) rfl (fun _ _ q => by obtain ⟨-, r, rfl, -⟩ := q; exact fun _ _ => rfl) (fun v sM pM => ?_)
  obtain ⟨⟨IM, FM⟩, rM, rfl, eM⟩ := pM
  rw [kw_sh_mixX] at FM eM
  have AX : kw_I bX (kw_mixM (kw_mixX σ sX) sM) := kw_IX_mixM (kw_IX_mixX IX)
  have AM : kw_I (bM T) (kw_sh 61 (kw_mixM (kw_mixX σ sX) sM)) := by rw [kw_sh_mixM]; exact IM
  have Q := kr_R.fr hR FX FM (by decide) (by decide)
  have AR : kr_R (kw_mixM (kw_mixX σ sX) sM) (kw_sh 61 (kw_mixM (kw_mixX σ sX) sM)) := by rw [kw_sh_mixM]; exact ⟨(Q).1.mix, (Q).2.mix⟩
  generalize (kw_mixM (kw_mixX σ sX) sM) = J at AX AM AR ⊢
  show kw_AW l 30 ((1002, L, xs) :: kw_E0) KJ mL_law kl_P 622 [(3, .int x3), (2, .ref 61), (1, .ref 0), (0, .ref 1002)] [.int rM] J
  refine kw_pop (pc := 622) (i := 354) (kl_a5 54 rfl) rfl ?_
  refine kw_goto (pc := 623) (i := 355) (tgt := 1359) (kl_a5 55 rfl) rfl ?_
  exact hnext J T AX AM AR (by omega) (by omega)
set_option maxRecDepth 100000 in
set_option maxHeartbeats 4000000 in
theorem kl_case12 (l : Launch) (L : Nat) (xs : Nat → Int32) (hL : L ≤ 384) (x3 : Int32) (h0 : 0 ≤ x3.toInt) (h1 : x3.toInt + 6 ≤ L) (σ : kw_S) (T : Int) (hX : kw_I bX σ) (hM : kw_I (bM T) (kw_sh 61 σ)) (hR : kr_R σ (kw_sh 61 σ)) (hT0 : 0 ≤ T) (hT1 : T ≤ 2000) (hnext : ∀ (S : kw_S) (T' : Int), kw_I bX S → kw_I (bM T') (kw_sh 61 S) → kr_R S (kw_sh 61 S) → 0 ≤ T' → T' ≤ T + 20 → kw_AW l 30 ((1002, L, xs) :: kw_E0) KJ mL_law kl_P 1359 [(3, .int x3), (2, .ref 61), (1, .ref 0), (0, .ref 1002)] [] S) : kw_AW l 30 ((1002, L, xs) :: kw_E0) KJ mL_law kl_P 626 [(3, .int x3), (2, .ref 61), (1, .ref 0), (0, .ref 1002)] [] σ := by
  have u1 : (x3 + 1).toInt = x3.toInt + 1 := by rw [kw_addI, show (1 : Int32).toInt = 1 from rfl]; omega
  have u2 : (x3 + 2).toInt = x3.toInt + 2 := by rw [kw_addI, show (2 : Int32).toInt = 2 from rfl]; omega
  have u3 : (x3 + 3).toInt = x3.toInt + 3 := by rw [kw_addI, show (3 : Int32).toInt = 3 from rfl]; omega
  have u4 : (x3 + 4).toInt = x3.toInt + 4 := by rw [kw_addI, show (4 : Int32).toInt = 4 from rfl]; omega
  have u5 : (x3 + 5).toInt = x3.toInt + 5 := by rw [kw_addI, show (5 : Int32).toInt = 5 from rfl]; omega
  refine kw_aload_n (pc := 626) (i := 356) (k := 2) (n := 1) (kl_a5 56 rfl) rfl rfl ?_
  refine kw_aload_n (pc := 627) (i := 357) (k := 3) (n := 0) (kl_a5 57 rfl) rfl rfl ?_
  refine kw_iload_n (pc := 628) (i := 358) (k := 0) (n := 3) (kl_a5 58 rfl) rfl rfl ?_
  refine kw_iconst (pc := 629) (i := 359) (v := 1) (kl_a5 59 rfl) rfl ?_
  refine kw_iadd (pc := 630) (i := 360) (kl_a6 0 rfl) (fun z1 e_z1 t_z1 => ?_)
  subst e_z1
  clear t_z1
  refine kw_tld (pc := 631) (i := 361) (k := 0) (n := L) (kl_a6 1 rfl) rfl (by omega) (by omega) (fun z2 e_z2 => ?_)
  subst e_z2
  refine kw_callX (pc := 632) (i := 362) (Y := mX7_wind) (xs := [xs (x3 + 1).toNatClampNeg]) (st := []) kl_hE (kl_a6 2 rfl) lvL_65 arX7_wind (c_X7_wind_0 l σ hX (xs (x3 + 1).toNatClampNeg) ) (by decide) (Nat.le_of_ble_eq_true rfl) rfl (fun v sX pX => ?_)
  obtain ⟨gX, rX, rfl, eX⟩ := pX
  have IX : kw_I bX sX := by rw [gX]; exact hX
  have FX : kw_F [] σ sX := by rw [gX]; exact kw_F.rf
  show kw_AW l 30 ((1002, L, xs) :: kw_E0) KJ mL_law kl_P 635 [(3, .int x3), (2, .ref 61), (1, .ref 0), (0, .ref 1002)] [.int rX] (kw_mixX σ sX)
  refine kw_pop (pc := 635) (i := 363) (kl_a6 3 rfl) rfl ?_
  refine kw_aload_n (pc := 636) (i := 364) (k := 1) (n := 2) (kl_a6 4 rfl) rfl rfl ?_
  refine kw_aload_n (pc := 637) (i := 365) (k := 3) (n := 0) (kl_a6 5 rfl) rfl rfl ?_
  refine kw_iload_n (pc := 638) (i := 366) (k := 0) (n := 3) (kl_a6 6 rfl) rfl rfl ?_
  refine kw_iconst (pc := 639) (i := 367) (v := 1) (kl_a6 7 rfl) rfl ?_
  refine kw_iadd (pc := 640) (i := 368) (kl_a6 8 rfl) (fun z3 e_z3 t_z3 => ?_)
  subst e_z3
  clear t_z3
  refine kw_tld (pc := 641) (i := 369) (k := 0) (n := L) (kl_a6 9 rfl) rfl (by omega) (by omega) (fun z4 e_z4 => ?_)
  subst e_z4
  refine kw_callM (pc := 642) (i := 370) (Y := mX8_wind) (xs := [xs (x3 + 1).toNatClampNeg]) (st := []) kl_hE (kl_a6 10 rfl) lvL_68 arX8_wind (c_X8_wind_0 l T (by omega) (by omega) (kw_sh 61 (kw_mixX σ sX)) (by rw [kw_sh_mixX]; exact hM) (xs (x3 + 1).toNatClampNeg) ) (by decide) (Nat.le_of_ble_eq_true rfl) rfl (fun _ _ q => by obtain ⟨-, r, rfl, -⟩ := q; exact fun _ _ => rfl) (fun v sM pM => ?_)
  obtain ⟨gM, rM, rfl, eM⟩ := pM
  rw [kw_sh_mixX] at gM eM
  have IM : kw_I (bM T) sM := by rw [gM]; exact hM
  have FM : kw_FM [] (kw_sh 61 σ) sM := by rw [gM]; exact kw_FM.rf
  have AX : kw_I bX (kw_mixM (kw_mixX σ sX) sM) := kw_IX_mixM (kw_IX_mixX IX)
  have AM : kw_I (bM T) (kw_sh 61 (kw_mixM (kw_mixX σ sX) sM)) := by rw [kw_sh_mixM]; exact IM
  have Q := (show kr_R sX sM ∧ rX = rM from ⟨kr_R.fr hR FX FM (by decide) (by decide), kr_wind hR.2 (xs (x3 + 1).toNatClampNeg) eX eM⟩)
  have AR : kr_R (kw_mixM (kw_mixX σ sX) sM) (kw_sh 61 (kw_mixM (kw_mixX σ sX) sM)) := by rw [kw_sh_mixM]; exact ⟨(Q.1).1.mix, (Q.1).2.mix⟩
  generalize (kw_mixM (kw_mixX σ sX) sM) = J at AX AM AR ⊢
  show kw_AW l 30 ((1002, L, xs) :: kw_E0) KJ mL_law kl_P 645 [(3, .int x3), (2, .ref 61), (1, .ref 0), (0, .ref 1002)] [.int rM] J
  refine kw_pop (pc := 645) (i := 371) (kl_a6 11 rfl) rfl ?_
  refine kw_goto (pc := 646) (i := 372) (tgt := 1359) (kl_a6 12 rfl) rfl ?_
  exact hnext J T AX AM AR (by omega) (by omega)
set_option maxRecDepth 100000 in
set_option maxHeartbeats 4000000 in
theorem kl_case13 (l : Launch) (L : Nat) (xs : Nat → Int32) (hL : L ≤ 384) (x3 : Int32) (h0 : 0 ≤ x3.toInt) (h1 : x3.toInt + 6 ≤ L) (σ : kw_S) (T : Int) (hX : kw_I bX σ) (hM : kw_I (bM T) (kw_sh 61 σ)) (hR : kr_R σ (kw_sh 61 σ)) (hT0 : 0 ≤ T) (hT1 : T ≤ 2000) (hnext : ∀ (S : kw_S) (T' : Int), kw_I bX S → kw_I (bM T') (kw_sh 61 S) → kr_R S (kw_sh 61 S) → 0 ≤ T' → T' ≤ T + 20 → kw_AW l 30 ((1002, L, xs) :: kw_E0) KJ mL_law kl_P 1359 [(3, .int x3), (2, .ref 61), (1, .ref 0), (0, .ref 1002)] [] S) : kw_AW l 30 ((1002, L, xs) :: kw_E0) KJ mL_law kl_P 649 [(3, .int x3), (2, .ref 61), (1, .ref 0), (0, .ref 1002)] [] σ := by
  have u1 : (x3 + 1).toInt = x3.toInt + 1 := by rw [kw_addI, show (1 : Int32).toInt = 1 from rfl]; omega
  have u2 : (x3 + 2).toInt = x3.toInt + 2 := by rw [kw_addI, show (2 : Int32).toInt = 2 from rfl]; omega
  have u3 : (x3 + 3).toInt = x3.toInt + 3 := by rw [kw_addI, show (3 : Int32).toInt = 3 from rfl]; omega
  have u4 : (x3 + 4).toInt = x3.toInt + 4 := by rw [kw_addI, show (4 : Int32).toInt = 4 from rfl]; omega
  have u5 : (x3 + 5).toInt = x3.toInt + 5 := by rw [kw_addI, show (5 : Int32).toInt = 5 from rfl]; omega
  refine kw_aload_n (pc := 649) (i := 373) (k := 2) (n := 1) (kl_a6 13 rfl) rfl rfl ?_
  refine kw_aload_n (pc := 650) (i := 374) (k := 3) (n := 0) (kl_a6 14 rfl) rfl rfl ?_
  refine kw_iload_n (pc := 651) (i := 375) (k := 0) (n := 3) (kl_a6 15 rfl) rfl rfl ?_
  refine kw_iconst (pc := 652) (i := 376) (v := 1) (kl_a6 16 rfl) rfl ?_
  refine kw_iadd (pc := 653) (i := 377) (kl_a6 17 rfl) (fun z1 e_z1 t_z1 => ?_)
  subst e_z1
  clear t_z1
  refine kw_tld (pc := 654) (i := 378) (k := 0) (n := L) (kl_a6 18 rfl) rfl (by omega) (by omega) (fun z2 e_z2 => ?_)
  subst e_z2
  refine kw_callX (pc := 655) (i := 379) (Y := mX7_hang) (xs := [xs (x3 + 1).toNatClampNeg]) (st := []) kl_hE (kl_a6 19 rfl) lvL_69 arX7_hang (c_X7_hang_0 l σ hX (xs (x3 + 1).toNatClampNeg) ) (by decide) (Nat.le_of_ble_eq_true rfl) rfl (fun v sX pX => ?_)
  obtain ⟨⟨IX, FX⟩, rX, rfl, eX⟩ := pX
  show kw_AW l 30 ((1002, L, xs) :: kw_E0) KJ mL_law kl_P 658 [(3, .int x3), (2, .ref 61), (1, .ref 0), (0, .ref 1002)] [.int rX] (kw_mixX σ sX)
  refine kw_pop (pc := 658) (i := 380) (kl_a6 20 rfl) rfl ?_
  refine kw_aload_n (pc := 659) (i := 381) (k := 1) (n := 2) (kl_a6 21 rfl) rfl rfl ?_
  refine kw_aload_n (pc := 660) (i := 382) (k := 3) (n := 0) (kl_a6 22 rfl) rfl rfl ?_
  refine kw_iload_n (pc := 661) (i := 383) (k := 0) (n := 3) (kl_a6 23 rfl) rfl rfl ?_
  refine kw_iconst (pc := 662) (i := 384) (v := 1) (kl_a6 24 rfl) rfl ?_
  refine kw_iadd (pc := 663) (i := 385) (kl_a6 25 rfl) (fun z3 e_z3 t_z3 => ?_)
  subst e_z3
  clear t_z3
  refine kw_tld (pc := 664) (i := 386) (k := 0) (n := L) (kl_a6 26 rfl) rfl (by omega) (by omega) (fun z4 e_z4 => ?_)
  subst e_z4
  refine kw_callM (pc := 665) (i := 387) (Y := mX8_hang) (xs := [xs (x3 + 1).toNatClampNeg]) (st := []) kl_hE (kl_a6 27 rfl) lvL_72 arX8_hang (c_X8_hang_0 l T (by omega) (by omega) (kw_sh 61 (kw_mixX σ sX)) (by rw [kw_sh_mixX]; exact hM) (xs (x3 + 1).toNatClampNeg) ) (by decide) (Nat.le_of_ble_eq_true rfl) rfl (fun _ _ q => by obtain ⟨-, r, rfl, -⟩ := q; exact fun _ _ => rfl) (fun v sM pM => ?_)
  obtain ⟨⟨IM, FM⟩, rM, rfl, eM⟩ := pM
  rw [kw_sh_mixX] at FM eM
  have AX : kw_I bX (kw_mixM (kw_mixX σ sX) sM) := kw_IX_mixM (kw_IX_mixX IX)
  have AM : kw_I (bM T) (kw_sh 61 (kw_mixM (kw_mixX σ sX) sM)) := by rw [kw_sh_mixM]; exact IM
  have Q := kr_R.fr hR FX FM (by decide) (by decide)
  have AR : kr_R (kw_mixM (kw_mixX σ sX) sM) (kw_sh 61 (kw_mixM (kw_mixX σ sX) sM)) := by rw [kw_sh_mixM]; exact ⟨(Q).1.mix, (Q).2.mix⟩
  generalize (kw_mixM (kw_mixX σ sX) sM) = J at AX AM AR ⊢
  show kw_AW l 30 ((1002, L, xs) :: kw_E0) KJ mL_law kl_P 668 [(3, .int x3), (2, .ref 61), (1, .ref 0), (0, .ref 1002)] [.int rM] J
  refine kw_pop (pc := 668) (i := 388) (kl_a6 28 rfl) rfl ?_
  refine kw_goto (pc := 669) (i := 389) (tgt := 1359) (kl_a6 29 rfl) rfl ?_
  exact hnext J T AX AM AR (by omega) (by omega)
set_option maxRecDepth 100000 in
set_option maxHeartbeats 4000000 in
theorem kl_case14 (l : Launch) (L : Nat) (xs : Nat → Int32) (hL : L ≤ 384) (x3 : Int32) (h0 : 0 ≤ x3.toInt) (h1 : x3.toInt + 6 ≤ L) (σ : kw_S) (T : Int) (hX : kw_I bX σ) (hM : kw_I (bM T) (kw_sh 61 σ)) (hR : kr_R σ (kw_sh 61 σ)) (hT0 : 0 ≤ T) (hT1 : T ≤ 2000) (hnext : ∀ (S : kw_S) (T' : Int), kw_I bX S → kw_I (bM T') (kw_sh 61 S) → kr_R S (kw_sh 61 S) → 0 ≤ T' → T' ≤ T + 20 → kw_AW l 30 ((1002, L, xs) :: kw_E0) KJ mL_law kl_P 1359 [(3, .int x3), (2, .ref 61), (1, .ref 0), (0, .ref 1002)] [] S) : kw_AW l 30 ((1002, L, xs) :: kw_E0) KJ mL_law kl_P 672 [(3, .int x3), (2, .ref 61), (1, .ref 0), (0, .ref 1002)] [] σ := by
  have u1 : (x3 + 1).toInt = x3.toInt + 1 := by rw [kw_addI, show (1 : Int32).toInt = 1 from rfl]; omega
  have u2 : (x3 + 2).toInt = x3.toInt + 2 := by rw [kw_addI, show (2 : Int32).toInt = 2 from rfl]; omega
  have u3 : (x3 + 3).toInt = x3.toInt + 3 := by rw [kw_addI, show (3 : Int32).toInt = 3 from rfl]; omega
  have u4 : (x3 + 4).toInt = x3.toInt + 4 := by rw [kw_addI, show (4 : Int32).toInt = 4 from rfl]; omega
  have u5 : (x3 + 5).toInt = x3.toInt + 5 := by rw [kw_addI, show (5 : Int32).toInt = 5 from rfl]; omega
  refine kw_aload_n (pc := 672) (i := 390) (k := 2) (n := 1) (kl_a6 30 rfl) rfl rfl ?_
  refine kw_aload_n (pc := 673) (i := 391) (k := 3) (n := 0) (kl_a6 31 rfl) rfl rfl ?_
  refine kw_iload_n (pc := 674) (i := 392) (k := 0) (n := 3) (kl_a6 32 rfl) rfl rfl ?_
  refine kw_iconst (pc := 675) (i := 393) (v := 1) (kl_a6 33 rfl) rfl ?_
  refine kw_iadd (pc := 676) (i := 394) (kl_a6 34 rfl) (fun z1 e_z1 t_z1 => ?_)
  subst e_z1
  clear t_z1
  refine kw_tld (pc := 677) (i := 395) (k := 0) (n := L) (kl_a6 35 rfl) rfl (by omega) (by omega) (fun z2 e_z2 => ?_)
  subst e_z2
  refine kw_callX (pc := 678) (i := 396) (Y := mX7_take) (xs := [xs (x3 + 1).toNatClampNeg]) (st := []) kl_hE (kl_a6 36 rfl) lvL_73 arX7_take (c_X7_take_0 l σ hX (xs (x3 + 1).toNatClampNeg) ) (by decide) (Nat.le_of_ble_eq_true rfl) rfl (fun v sX pX => ?_)
  obtain ⟨⟨IX, FX⟩, rX, rfl, eX⟩ := pX
  show kw_AW l 30 ((1002, L, xs) :: kw_E0) KJ mL_law kl_P 681 [(3, .int x3), (2, .ref 61), (1, .ref 0), (0, .ref 1002)] [.int rX] (kw_mixX σ sX)
  refine kw_pop (pc := 681) (i := 397) (kl_a6 37 rfl) rfl ?_
  refine kw_aload_n (pc := 682) (i := 398) (k := 1) (n := 2) (kl_a6 38 rfl) rfl rfl ?_
  refine kw_aload_n (pc := 683) (i := 399) (k := 3) (n := 0) (kl_a6 39 rfl) rfl rfl ?_
  refine kw_iload_n (pc := 684) (i := 400) (k := 0) (n := 3) (kl_a6 40 rfl) rfl rfl ?_
  refine kw_iconst (pc := 685) (i := 401) (v := 1) (kl_a6 41 rfl) rfl ?_
  refine kw_iadd (pc := 686) (i := 402) (kl_a6 42 rfl) (fun z3 e_z3 t_z3 => ?_)
  subst e_z3
  clear t_z3
  refine kw_tld (pc := 687) (i := 403) (k := 0) (n := L) (kl_a6 43 rfl) rfl (by omega) (by omega) (fun z4 e_z4 => ?_)
  subst e_z4
  refine kw_callM (pc := 688) (i := 404) (Y := mX8_take) (xs := [xs (x3 + 1).toNatClampNeg]) (st := []) kl_hE (kl_a6 44 rfl) lvL_76 arX8_take (c_X8_take_0 l T (by omega) (by omega) (kw_sh 61 (kw_mixX σ sX)) (by rw [kw_sh_mixX]; exact hM) (xs (x3 + 1).toNatClampNeg) ) (by decide) (Nat.le_of_ble_eq_true rfl) rfl (fun _ _ q => by obtain ⟨-, r, rfl, -⟩ := q; exact fun _ _ => rfl) (fun v sM pM => ?_)
  obtain ⟨⟨IM, FM⟩, rM, rfl, eM⟩ := pM
  rw [kw_sh_mixX] at FM eM
  have AX : kw_I bX (kw_mixM (kw_mixX σ sX) sM) := kw_IX_mixM (kw_IX_mixX IX)
  have AM : kw_I (bM T) (kw_sh 61 (kw_mixM (kw_mixX σ sX) sM)) := by rw [kw_sh_mixM]; exact IM
  have Q := kr_R.fr hR FX FM (by decide) (by decide)
  have AR : kr_R (kw_mixM (kw_mixX σ sX) sM) (kw_sh 61 (kw_mixM (kw_mixX σ sX) sM)) := by rw [kw_sh_mixM]; exact ⟨(Q).1.mix, (Q).2.mix⟩
  generalize (kw_mixM (kw_mixX σ sX) sM) = J at AX AM AR ⊢
  show kw_AW l 30 ((1002, L, xs) :: kw_E0) KJ mL_law kl_P 691 [(3, .int x3), (2, .ref 61), (1, .ref 0), (0, .ref 1002)] [.int rM] J
  refine kw_pop (pc := 691) (i := 405) (kl_a6 45 rfl) rfl ?_
  refine kw_goto (pc := 692) (i := 406) (tgt := 1359) (kl_a6 46 rfl) rfl ?_
  exact hnext J T AX AM AR (by omega) (by omega)
set_option maxRecDepth 100000 in
set_option maxHeartbeats 4000000 in
theorem kl_case15 (l : Launch) (L : Nat) (xs : Nat → Int32) (hL : L ≤ 384) (x3 : Int32) (h0 : 0 ≤ x3.toInt) (h1 : x3.toInt + 6 ≤ L) (σ : kw_S) (T : Int) (hX : kw_I bX σ) (hM : kw_I (bM T) (kw_sh 61 σ)) (hR : kr_R σ (kw_sh 61 σ)) (hT0 : 0 ≤ T) (hT1 : T ≤ 2000) (hnext : ∀ (S : kw_S) (T' : Int), kw_I bX S → kw_I (bM T') (kw_sh 61 S) → kr_R S (kw_sh 61 S) → 0 ≤ T' → T' ≤ T + 20 → kw_AW l 30 ((1002, L, xs) :: kw_E0) KJ mL_law kl_P 1359 [(3, .int x3), (2, .ref 61), (1, .ref 0), (0, .ref 1002)] [] S) : kw_AW l 30 ((1002, L, xs) :: kw_E0) KJ mL_law kl_P 695 [(3, .int x3), (2, .ref 61), (1, .ref 0), (0, .ref 1002)] [] σ := by
  have u1 : (x3 + 1).toInt = x3.toInt + 1 := by rw [kw_addI, show (1 : Int32).toInt = 1 from rfl]; omega
  have u2 : (x3 + 2).toInt = x3.toInt + 2 := by rw [kw_addI, show (2 : Int32).toInt = 2 from rfl]; omega
  have u3 : (x3 + 3).toInt = x3.toInt + 3 := by rw [kw_addI, show (3 : Int32).toInt = 3 from rfl]; omega
  have u4 : (x3 + 4).toInt = x3.toInt + 4 := by rw [kw_addI, show (4 : Int32).toInt = 4 from rfl]; omega
  have u5 : (x3 + 5).toInt = x3.toInt + 5 := by rw [kw_addI, show (5 : Int32).toInt = 5 from rfl]; omega
  refine kw_aload_n (pc := 695) (i := 407) (k := 2) (n := 1) (kl_a6 47 rfl) rfl rfl ?_
  refine kw_callX (pc := 696) (i := 408) (Y := mX7_hour) (xs := []) (st := []) kl_hE (kl_a6 48 rfl) lvL_77 arX7_hour (c_X7_hour_0 l σ hX  ) (by decide) (Nat.le_of_ble_eq_true rfl) rfl (fun v sX pX => ?_)
  obtain ⟨⟨IX, FX⟩, rX, rfl, eX⟩ := pX
  show kw_AW l 30 ((1002, L, xs) :: kw_E0) KJ mL_law kl_P 699 [(3, .int x3), (2, .ref 61), (1, .ref 0), (0, .ref 1002)] [.int rX] (kw_mixX σ sX)
  refine kw_pop (pc := 699) (i := 409) (kl_a6 49 rfl) rfl ?_
  refine kw_aload_n (pc := 700) (i := 410) (k := 1) (n := 2) (kl_a6 50 rfl) rfl rfl ?_
  refine kw_callM (pc := 701) (i := 411) (Y := mX8_hour) (xs := []) (st := []) kl_hE (kl_a6 51 rfl) lvL_81 arX8_hour (c_X8_hour_0 l T (by omega) (by omega) (kw_sh 61 (kw_mixX σ sX)) (by rw [kw_sh_mixX]; exact hM)  (by omega)) (by decide) (Nat.le_of_ble_eq_true rfl) rfl (fun _ _ q => by obtain ⟨-, r, rfl, -⟩ := q; exact fun _ _ => rfl) (fun v sM pM => ?_)
  obtain ⟨⟨IM, FM⟩, rM, rfl, eM⟩ := pM
  rw [kw_sh_mixX] at FM eM
  have AX : kw_I bX (kw_mixM (kw_mixX σ sX) sM) := kw_IX_mixM (kw_IX_mixX IX)
  have AM : kw_I (bM (T + 1)) (kw_sh 61 (kw_mixM (kw_mixX σ sX) sM)) := by rw [kw_sh_mixM]; exact IM
  have Q := kr_R.fr hR FX FM (by decide) (by decide)
  have AR : kr_R (kw_mixM (kw_mixX σ sX) sM) (kw_sh 61 (kw_mixM (kw_mixX σ sX) sM)) := by rw [kw_sh_mixM]; exact ⟨(Q).1.mix, (Q).2.mix⟩
  generalize (kw_mixM (kw_mixX σ sX) sM) = J at AX AM AR ⊢
  show kw_AW l 30 ((1002, L, xs) :: kw_E0) KJ mL_law kl_P 704 [(3, .int x3), (2, .ref 61), (1, .ref 0), (0, .ref 1002)] [.int rM] J
  refine kw_pop (pc := 704) (i := 412) (kl_a6 52 rfl) rfl ?_
  refine kw_goto (pc := 705) (i := 413) (tgt := 1359) (kl_a6 53 rfl) rfl ?_
  exact hnext J (T + 1) AX AM AR (by omega) (by omega)
set_option maxRecDepth 100000 in
set_option maxHeartbeats 4000000 in
theorem kl_case16 (l : Launch) (L : Nat) (xs : Nat → Int32) (hL : L ≤ 384) (x3 : Int32) (h0 : 0 ≤ x3.toInt) (h1 : x3.toInt + 6 ≤ L) (σ : kw_S) (T : Int) (hX : kw_I bX σ) (hM : kw_I (bM T) (kw_sh 61 σ)) (hR : kr_R σ (kw_sh 61 σ)) (hT0 : 0 ≤ T) (hT1 : T ≤ 2000) (hnext : ∀ (S : kw_S) (T' : Int), kw_I bX S → kw_I (bM T') (kw_sh 61 S) → kr_R S (kw_sh 61 S) → 0 ≤ T' → T' ≤ T + 20 → kw_AW l 30 ((1002, L, xs) :: kw_E0) KJ mL_law kl_P 1359 [(3, .int x3), (2, .ref 61), (1, .ref 0), (0, .ref 1002)] [] S) : kw_AW l 30 ((1002, L, xs) :: kw_E0) KJ mL_law kl_P 708 [(3, .int x3), (2, .ref 61), (1, .ref 0), (0, .ref 1002)] [] σ := by
  have u1 : (x3 + 1).toInt = x3.toInt + 1 := by rw [kw_addI, show (1 : Int32).toInt = 1 from rfl]; omega
  have u2 : (x3 + 2).toInt = x3.toInt + 2 := by rw [kw_addI, show (2 : Int32).toInt = 2 from rfl]; omega
  have u3 : (x3 + 3).toInt = x3.toInt + 3 := by rw [kw_addI, show (3 : Int32).toInt = 3 from rfl]; omega
  have u4 : (x3 + 4).toInt = x3.toInt + 4 := by rw [kw_addI, show (4 : Int32).toInt = 4 from rfl]; omega
  have u5 : (x3 + 5).toInt = x3.toInt + 5 := by rw [kw_addI, show (5 : Int32).toInt = 5 from rfl]; omega
  refine kw_aload_n (pc := 708) (i := 414) (k := 2) (n := 1) (kl_a6 54 rfl) rfl rfl ?_
  refine kw_aload_n (pc := 709) (i := 415) (k := 3) (n := 0) (kl_a6 55 rfl) rfl rfl ?_
  refine kw_iload_n (pc := 710) (i := 416) (k := 0) (n := 3) (kl_a6 56 rfl) rfl rfl ?_
  refine kw_iconst (pc := 711) (i := 417) (v := 1) (kl_a6 57 rfl) rfl ?_
  refine kw_iadd (pc := 712) (i := 418) (kl_a6 58 rfl) (fun z1 e_z1 t_z1 => ?_)
  subst e_z1
  clear t_z1
  refine kw_tld (pc := 713) (i := 419) (k := 0) (n := L) (kl_a6 59 rfl) rfl (by omega) (by omega) (fun z2 e_z2 => ?_)
  subst e_z2
  refine kw_callX (pc := 714) (i := 420) (Y := mX7_undo) (xs := [xs (x3 + 1).toNatClampNeg]) (st := []) kl_hE (kl_a7 0 rfl) lvL_82 arX7_undo (c_X7_undo_0 l σ hX (xs (x3 + 1).toNatClampNeg) ) (by decide) (Nat.le_of_ble_eq_true rfl) rfl (fun v sX pX => ?_)
  obtain ⟨⟨IX, FX⟩, rX, rfl, eX⟩ := pX
  show kw_AW l 30 ((1002, L, xs) :: kw_E0) KJ mL_law kl_P 717 [(3, .int x3), (2, .ref 61), (1, .ref 0), (0, .ref 1002)] [.int rX] (kw_mixX σ sX)
  refine kw_pop (pc := 717) (i := 421) (kl_a7 1 rfl) rfl ?_
  refine kw_aload_n (pc := 718) (i := 422) (k := 1) (n := 2) (kl_a7 2 rfl) rfl rfl ?_
  refine kw_aload_n (pc := 719) (i := 423) (k := 3) (n := 0) (kl_a7 3 rfl) rfl rfl ?_
  refine kw_iload_n (pc := 720) (i := 424) (k := 0) (n := 3) (kl_a7 4 rfl) rfl rfl ?_
  refine kw_iconst (pc := 721) (i := 425) (v := 1) (kl_a7 5 rfl) rfl ?_
  refine kw_iadd (pc := 722) (i := 426) (kl_a7 6 rfl) (fun z3 e_z3 t_z3 => ?_)
  subst e_z3
  clear t_z3
  refine kw_tld (pc := 723) (i := 427) (k := 0) (n := L) (kl_a7 7 rfl) rfl (by omega) (by omega) (fun z4 e_z4 => ?_)
  subst e_z4
  refine kw_callM (pc := 724) (i := 428) (Y := mX8_undo) (xs := [xs (x3 + 1).toNatClampNeg]) (st := []) kl_hE (kl_a7 8 rfl) lvL_85 arX8_undo (c_X8_undo_0 l T (by omega) (by omega) (kw_sh 61 (kw_mixX σ sX)) (by rw [kw_sh_mixX]; exact hM) (xs (x3 + 1).toNatClampNeg) ) (by decide) (Nat.le_of_ble_eq_true rfl) rfl (fun _ _ q => by obtain ⟨-, r, rfl, -⟩ := q; exact fun _ _ => rfl) (fun v sM pM => ?_)
  obtain ⟨⟨IM, FM⟩, rM, rfl, eM⟩ := pM
  rw [kw_sh_mixX] at FM eM
  have AX : kw_I bX (kw_mixM (kw_mixX σ sX) sM) := kw_IX_mixM (kw_IX_mixX IX)
  have AM : kw_I (bM T) (kw_sh 61 (kw_mixM (kw_mixX σ sX) sM)) := by rw [kw_sh_mixM]; exact IM
  have Q := kr_R.fr hR FX FM (by decide) (by decide)
  have AR : kr_R (kw_mixM (kw_mixX σ sX) sM) (kw_sh 61 (kw_mixM (kw_mixX σ sX) sM)) := by rw [kw_sh_mixM]; exact ⟨(Q).1.mix, (Q).2.mix⟩
  generalize (kw_mixM (kw_mixX σ sX) sM) = J at AX AM AR ⊢
  show kw_AW l 30 ((1002, L, xs) :: kw_E0) KJ mL_law kl_P 727 [(3, .int x3), (2, .ref 61), (1, .ref 0), (0, .ref 1002)] [.int rM] J
  refine kw_pop (pc := 727) (i := 429) (kl_a7 9 rfl) rfl ?_
  refine kw_goto (pc := 728) (i := 430) (tgt := 1359) (kl_a7 10 rfl) rfl ?_
  exact hnext J T AX AM AR (by omega) (by omega)
set_option maxRecDepth 100000 in
set_option maxHeartbeats 4000000 in
theorem kl_case17 (l : Launch) (L : Nat) (xs : Nat → Int32) (hL : L ≤ 384) (x3 : Int32) (h0 : 0 ≤ x3.toInt) (h1 : x3.toInt + 6 ≤ L) (σ : kw_S) (T : Int) (hX : kw_I bX σ) (hM : kw_I (bM T) (kw_sh 61 σ)) (hR : kr_R σ (kw_sh 61 σ)) (hT0 : 0 ≤ T) (hT1 : T ≤ 2000) (hnext : ∀ (S : kw_S) (T' : Int), kw_I bX S → kw_I (bM T') (kw_sh 61 S) → kr_R S (kw_sh 61 S) → 0 ≤ T' → T' ≤ T + 20 → kw_AW l 30 ((1002, L, xs) :: kw_E0) KJ mL_law kl_P 1359 [(3, .int x3), (2, .ref 61), (1, .ref 0), (0, .ref 1002)] [] S) : kw_AW l 30 ((1002, L, xs) :: kw_E0) KJ mL_law kl_P 731 [(3, .int x3), (2, .ref 61), (1, .ref 0), (0, .ref 1002)] [] σ := by
  have u1 : (x3 + 1).toInt = x3.toInt + 1 := by rw [kw_addI, show (1 : Int32).toInt = 1 from rfl]; omega
  have u2 : (x3 + 2).toInt = x3.toInt + 2 := by rw [kw_addI, show (2 : Int32).toInt = 2 from rfl]; omega
  have u3 : (x3 + 3).toInt = x3.toInt + 3 := by rw [kw_addI, show (3 : Int32).toInt = 3 from rfl]; omega
  have u4 : (x3 + 4).toInt = x3.toInt + 4 := by rw [kw_addI, show (4 : Int32).toInt = 4 from rfl]; omega
  have u5 : (x3 + 5).toInt = x3.toInt + 5 := by rw [kw_addI, show (5 : Int32).toInt = 5 from rfl]; omega
  refine kw_aload_n (pc := 731) (i := 431) (k := 2) (n := 1) (kl_a7 11 rfl) rfl rfl ?_
  refine kw_aload_n (pc := 732) (i := 432) (k := 3) (n := 0) (kl_a7 12 rfl) rfl rfl ?_
  refine kw_iload_n (pc := 733) (i := 433) (k := 0) (n := 3) (kl_a7 13 rfl) rfl rfl ?_
  refine kw_iconst (pc := 734) (i := 434) (v := 1) (kl_a7 14 rfl) rfl ?_
  refine kw_iadd (pc := 735) (i := 435) (kl_a7 15 rfl) (fun z1 e_z1 t_z1 => ?_)
  subst e_z1
  clear t_z1
  refine kw_tld (pc := 736) (i := 436) (k := 0) (n := L) (kl_a7 16 rfl) rfl (by omega) (by omega) (fun z2 e_z2 => ?_)
  subst e_z2
  refine kw_callX (pc := 737) (i := 437) (Y := mX7_keep) (xs := [xs (x3 + 1).toNatClampNeg]) (st := []) kl_hE (kl_a7 17 rfl) lvL_86 arX7_keep (c_X7_keep_0 l σ hX (xs (x3 + 1).toNatClampNeg) ) (by decide) (Nat.le_of_ble_eq_true rfl) rfl (fun v sX pX => ?_)
  obtain ⟨⟨IX, FX⟩, rX, rfl, eX⟩ := pX
  show kw_AW l 30 ((1002, L, xs) :: kw_E0) KJ mL_law kl_P 740 [(3, .int x3), (2, .ref 61), (1, .ref 0), (0, .ref 1002)] [.int rX] (kw_mixX σ sX)
  refine kw_pop (pc := 740) (i := 438) (kl_a7 18 rfl) rfl ?_
  refine kw_aload_n (pc := 741) (i := 439) (k := 1) (n := 2) (kl_a7 19 rfl) rfl rfl ?_
  refine kw_aload_n (pc := 742) (i := 440) (k := 3) (n := 0) (kl_a7 20 rfl) rfl rfl ?_
  refine kw_iload_n (pc := 743) (i := 441) (k := 0) (n := 3) (kl_a7 21 rfl) rfl rfl ?_
  refine kw_iconst (pc := 744) (i := 442) (v := 1) (kl_a7 22 rfl) rfl ?_
  refine kw_iadd (pc := 745) (i := 443) (kl_a7 23 rfl) (fun z3 e_z3 t_z3 => ?_)
  subst e_z3
  clear t_z3
  refine kw_tld (pc := 746) (i := 444) (k := 0) (n := L) (kl_a7 24 rfl) rfl (by omega) (by omega) (fun z4 e_z4 => ?_)
  subst e_z4
  refine kw_callM (pc := 747) (i := 445) (Y := mX8_keep) (xs := [xs (x3 + 1).toNatClampNeg]) (st := []) kl_hE (kl_a7 25 rfl) lvL_89 arX8_keep (c_X8_keep_0 l T (by omega) (by omega) (kw_sh 61 (kw_mixX σ sX)) (by rw [kw_sh_mixX]; exact hM) (xs (x3 + 1).toNatClampNeg) ) (by decide) (Nat.le_of_ble_eq_true rfl) rfl (fun _ _ q => by obtain ⟨-, r, rfl, -⟩ := q; exact fun _ _ => rfl) (fun v sM pM => ?_)
  obtain ⟨⟨IM, FM⟩, rM, rfl, eM⟩ := pM
  rw [kw_sh_mixX] at FM eM
  have AX : kw_I bX (kw_mixM (kw_mixX σ sX) sM) := kw_IX_mixM (kw_IX_mixX IX)
  have AM : kw_I (bM T) (kw_sh 61 (kw_mixM (kw_mixX σ sX) sM)) := by rw [kw_sh_mixM]; exact IM
  have Q := kr_R.fr hR FX FM (by decide) (by decide)
  have AR : kr_R (kw_mixM (kw_mixX σ sX) sM) (kw_sh 61 (kw_mixM (kw_mixX σ sX) sM)) := by rw [kw_sh_mixM]; exact ⟨(Q).1.mix, (Q).2.mix⟩
  generalize (kw_mixM (kw_mixX σ sX) sM) = J at AX AM AR ⊢
  show kw_AW l 30 ((1002, L, xs) :: kw_E0) KJ mL_law kl_P 750 [(3, .int x3), (2, .ref 61), (1, .ref 0), (0, .ref 1002)] [.int rM] J
  refine kw_pop (pc := 750) (i := 446) (kl_a7 26 rfl) rfl ?_
  refine kw_goto (pc := 751) (i := 447) (tgt := 1359) (kl_a7 27 rfl) rfl ?_
  exact hnext J T AX AM AR (by omega) (by omega)
set_option maxRecDepth 100000 in
set_option maxHeartbeats 4000000 in
theorem kl_case18 (l : Launch) (L : Nat) (xs : Nat → Int32) (hL : L ≤ 384) (x3 : Int32) (h0 : 0 ≤ x3.toInt) (h1 : x3.toInt + 6 ≤ L) (σ : kw_S) (T : Int) (hX : kw_I bX σ) (hM : kw_I (bM T) (kw_sh 61 σ)) (hR : kr_R σ (kw_sh 61 σ)) (hT0 : 0 ≤ T) (hT1 : T ≤ 2000) (hnext : ∀ (S : kw_S) (T' : Int), kw_I bX S → kw_I (bM T') (kw_sh 61 S) → kr_R S (kw_sh 61 S) → 0 ≤ T' → T' ≤ T + 20 → kw_AW l 30 ((1002, L, xs) :: kw_E0) KJ mL_law kl_P 1359 [(3, .int x3), (2, .ref 61), (1, .ref 0), (0, .ref 1002)] [] S) : kw_AW l 30 ((1002, L, xs) :: kw_E0) KJ mL_law kl_P 754 [(3, .int x3), (2, .ref 61), (1, .ref 0), (0, .ref 1002)] [] σ := by
  have u1 : (x3 + 1).toInt = x3.toInt + 1 := by rw [kw_addI, show (1 : Int32).toInt = 1 from rfl]; omega
  have u2 : (x3 + 2).toInt = x3.toInt + 2 := by rw [kw_addI, show (2 : Int32).toInt = 2 from rfl]; omega
  have u3 : (x3 + 3).toInt = x3.toInt + 3 := by rw [kw_addI, show (3 : Int32).toInt = 3 from rfl]; omega
  have u4 : (x3 + 4).toInt = x3.toInt + 4 := by rw [kw_addI, show (4 : Int32).toInt = 4 from rfl]; omega
  have u5 : (x3 + 5).toInt = x3.toInt + 5 := by rw [kw_addI, show (5 : Int32).toInt = 5 from rfl]; omega
  refine kw_aload_n (pc := 754) (i := 448) (k := 2) (n := 1) (kl_a7 28 rfl) rfl rfl ?_
  refine kw_aload_n (pc := 755) (i := 449) (k := 3) (n := 0) (kl_a7 29 rfl) rfl rfl ?_
  refine kw_iload_n (pc := 756) (i := 450) (k := 0) (n := 3) (kl_a7 30 rfl) rfl rfl ?_
  refine kw_iconst (pc := 757) (i := 451) (v := 1) (kl_a7 31 rfl) rfl ?_
  refine kw_iadd (pc := 758) (i := 452) (kl_a7 32 rfl) (fun z1 e_z1 t_z1 => ?_)
  subst e_z1
  clear t_z1
  refine kw_tld (pc := 759) (i := 453) (k := 0) (n := L) (kl_a7 33 rfl) rfl (by omega) (by omega) (fun z2 e_z2 => ?_)
  subst e_z2
  refine kw_callX (pc := 760) (i := 454) (Y := mX7_on) (xs := [xs (x3 + 1).toNatClampNeg]) (st := []) kl_hE (kl_a7 34 rfl) lvL_90 arX7_on (c_X7_on_0 l σ hX (xs (x3 + 1).toNatClampNeg) ) (by decide) (Nat.le_of_ble_eq_true rfl) rfl (fun v sX pX => ?_)
  obtain ⟨⟨IX, FX⟩, rX, rfl, eX⟩ := pX
  show kw_AW l 30 ((1002, L, xs) :: kw_E0) KJ mL_law kl_P 763 [(3, .int x3), (2, .ref 61), (1, .ref 0), (0, .ref 1002)] [.int rX] (kw_mixX σ sX)
  refine kw_pop (pc := 763) (i := 455) (kl_a7 35 rfl) rfl ?_
  refine kw_aload_n (pc := 764) (i := 456) (k := 1) (n := 2) (kl_a7 36 rfl) rfl rfl ?_
  refine kw_aload_n (pc := 765) (i := 457) (k := 3) (n := 0) (kl_a7 37 rfl) rfl rfl ?_
  refine kw_iload_n (pc := 766) (i := 458) (k := 0) (n := 3) (kl_a7 38 rfl) rfl rfl ?_
  refine kw_iconst (pc := 767) (i := 459) (v := 1) (kl_a7 39 rfl) rfl ?_
  refine kw_iadd (pc := 768) (i := 460) (kl_a7 40 rfl) (fun z3 e_z3 t_z3 => ?_)
  subst e_z3
  clear t_z3
  refine kw_tld (pc := 769) (i := 461) (k := 0) (n := L) (kl_a7 41 rfl) rfl (by omega) (by omega) (fun z4 e_z4 => ?_)
  subst e_z4
  refine kw_callM (pc := 770) (i := 462) (Y := mX8_on) (xs := [xs (x3 + 1).toNatClampNeg]) (st := []) kl_hE (kl_a7 42 rfl) lvL_93 arX8_on (c_X8_on_0 l T (by omega) (by omega) (kw_sh 61 (kw_mixX σ sX)) (by rw [kw_sh_mixX]; exact hM) (xs (x3 + 1).toNatClampNeg) ) (by decide) (Nat.le_of_ble_eq_true rfl) rfl (fun _ _ q => by obtain ⟨-, r, rfl, -⟩ := q; exact fun _ _ => rfl) (fun v sM pM => ?_)
  obtain ⟨⟨IM, FM⟩, rM, rfl, eM⟩ := pM
  rw [kw_sh_mixX] at FM eM
  have AX : kw_I bX (kw_mixM (kw_mixX σ sX) sM) := kw_IX_mixM (kw_IX_mixX IX)
  have AM : kw_I (bM T) (kw_sh 61 (kw_mixM (kw_mixX σ sX) sM)) := by rw [kw_sh_mixM]; exact IM
  have Q := kr_R.fr hR FX FM (by decide) (by decide)
  have AR : kr_R (kw_mixM (kw_mixX σ sX) sM) (kw_sh 61 (kw_mixM (kw_mixX σ sX) sM)) := by rw [kw_sh_mixM]; exact ⟨(Q).1.mix, (Q).2.mix⟩
  generalize (kw_mixM (kw_mixX σ sX) sM) = J at AX AM AR ⊢
  show kw_AW l 30 ((1002, L, xs) :: kw_E0) KJ mL_law kl_P 773 [(3, .int x3), (2, .ref 61), (1, .ref 0), (0, .ref 1002)] [.int rM] J
  refine kw_pop (pc := 773) (i := 463) (kl_a7 43 rfl) rfl ?_
  refine kw_goto (pc := 774) (i := 464) (tgt := 1359) (kl_a7 44 rfl) rfl ?_
  exact hnext J T AX AM AR (by omega) (by omega)
set_option maxRecDepth 100000 in
set_option maxHeartbeats 4000000 in
theorem kl_case19 (l : Launch) (L : Nat) (xs : Nat → Int32) (hL : L ≤ 384) (x3 : Int32) (h0 : 0 ≤ x3.toInt) (h1 : x3.toInt + 6 ≤ L) (σ : kw_S) (T : Int) (hX : kw_I bX σ) (hM : kw_I (bM T) (kw_sh 61 σ)) (hR : kr_R σ (kw_sh 61 σ)) (hT0 : 0 ≤ T) (hT1 : T ≤ 2000) (hnext : ∀ (S : kw_S) (T' : Int), kw_I bX S → kw_I (bM T') (kw_sh 61 S) → kr_R S (kw_sh 61 S) → 0 ≤ T' → T' ≤ T + 20 → kw_AW l 30 ((1002, L, xs) :: kw_E0) KJ mL_law kl_P 1359 [(3, .int x3), (2, .ref 61), (1, .ref 0), (0, .ref 1002)] [] S) : kw_AW l 30 ((1002, L, xs) :: kw_E0) KJ mL_law kl_P 777 [(3, .int x3), (2, .ref 61), (1, .ref 0), (0, .ref 1002)] [] σ := by
  have u1 : (x3 + 1).toInt = x3.toInt + 1 := by rw [kw_addI, show (1 : Int32).toInt = 1 from rfl]; omega
  have u2 : (x3 + 2).toInt = x3.toInt + 2 := by rw [kw_addI, show (2 : Int32).toInt = 2 from rfl]; omega
  have u3 : (x3 + 3).toInt = x3.toInt + 3 := by rw [kw_addI, show (3 : Int32).toInt = 3 from rfl]; omega
  have u4 : (x3 + 4).toInt = x3.toInt + 4 := by rw [kw_addI, show (4 : Int32).toInt = 4 from rfl]; omega
  have u5 : (x3 + 5).toInt = x3.toInt + 5 := by rw [kw_addI, show (5 : Int32).toInt = 5 from rfl]; omega
  refine kw_aload_n (pc := 777) (i := 465) (k := 2) (n := 1) (kl_a7 45 rfl) rfl rfl ?_
  refine kw_aload_n (pc := 778) (i := 466) (k := 3) (n := 0) (kl_a7 46 rfl) rfl rfl ?_
  refine kw_iload_n (pc := 779) (i := 467) (k := 0) (n := 3) (kl_a7 47 rfl) rfl rfl ?_
  refine kw_iconst (pc := 780) (i := 468) (v := 1) (kl_a7 48 rfl) rfl ?_
  refine kw_iadd (pc := 781) (i := 469) (kl_a7 49 rfl) (fun z1 e_z1 t_z1 => ?_)
  subst e_z1
  clear t_z1
  refine kw_tld (pc := 782) (i := 470) (k := 0) (n := L) (kl_a7 50 rfl) rfl (by omega) (by omega) (fun z2 e_z2 => ?_)
  subst e_z2
  refine kw_callX (pc := 783) (i := 471) (Y := mX7_goes) (xs := [xs (x3 + 1).toNatClampNeg]) (st := []) kl_hE (kl_a7 51 rfl) lvL_94 arX7_goes (c_X7_goes_0 l σ hX (xs (x3 + 1).toNatClampNeg) ) (by decide) (Nat.le_of_ble_eq_true rfl) rfl (fun v sX pX => ?_)
  obtain ⟨⟨IX, FX⟩, rX, rfl, eX⟩ := pX
  show kw_AW l 30 ((1002, L, xs) :: kw_E0) KJ mL_law kl_P 786 [(3, .int x3), (2, .ref 61), (1, .ref 0), (0, .ref 1002)] [.int rX] (kw_mixX σ sX)
  refine kw_pop (pc := 786) (i := 472) (kl_a7 52 rfl) rfl ?_
  refine kw_aload_n (pc := 787) (i := 473) (k := 1) (n := 2) (kl_a7 53 rfl) rfl rfl ?_
  refine kw_aload_n (pc := 788) (i := 474) (k := 3) (n := 0) (kl_a7 54 rfl) rfl rfl ?_
  refine kw_iload_n (pc := 789) (i := 475) (k := 0) (n := 3) (kl_a7 55 rfl) rfl rfl ?_
  refine kw_iconst (pc := 790) (i := 476) (v := 1) (kl_a7 56 rfl) rfl ?_
  refine kw_iadd (pc := 791) (i := 477) (kl_a7 57 rfl) (fun z3 e_z3 t_z3 => ?_)
  subst e_z3
  clear t_z3
  refine kw_tld (pc := 792) (i := 478) (k := 0) (n := L) (kl_a7 58 rfl) rfl (by omega) (by omega) (fun z4 e_z4 => ?_)
  subst e_z4
  refine kw_callM (pc := 793) (i := 479) (Y := mX8_goes) (xs := [xs (x3 + 1).toNatClampNeg]) (st := []) kl_hE (kl_a7 59 rfl) lvL_97 arX8_goes (c_X8_goes_0 l T (by omega) (by omega) (kw_sh 61 (kw_mixX σ sX)) (by rw [kw_sh_mixX]; exact hM) (xs (x3 + 1).toNatClampNeg) ) (by decide) (Nat.le_of_ble_eq_true rfl) rfl (fun _ _ q => by obtain ⟨-, r, rfl, -⟩ := q; exact fun _ _ => rfl) (fun v sM pM => ?_)
  obtain ⟨⟨IM, FM⟩, rM, rfl, eM⟩ := pM
  rw [kw_sh_mixX] at FM eM
  have AX : kw_I bX (kw_mixM (kw_mixX σ sX) sM) := kw_IX_mixM (kw_IX_mixX IX)
  have AM : kw_I (bM T) (kw_sh 61 (kw_mixM (kw_mixX σ sX) sM)) := by rw [kw_sh_mixM]; exact IM
  have Q := (show kr_R sX sM ∧ rX = rM from ⟨kr_R.fr hR FX FM (by decide) (by decide), kr_goes hR.2 (xs (x3 + 1).toNatClampNeg) eX eM⟩)
  have AR : kr_R (kw_mixM (kw_mixX σ sX) sM) (kw_sh 61 (kw_mixM (kw_mixX σ sX) sM)) := by rw [kw_sh_mixM]; exact ⟨(Q.1).1.mix, (Q.1).2.mix⟩
  generalize (kw_mixM (kw_mixX σ sX) sM) = J at AX AM AR ⊢
  show kw_AW l 30 ((1002, L, xs) :: kw_E0) KJ mL_law kl_P 796 [(3, .int x3), (2, .ref 61), (1, .ref 0), (0, .ref 1002)] [.int rM] J
  refine kw_pop (pc := 796) (i := 480) (kl_a8 0 rfl) rfl ?_
  refine kw_goto (pc := 797) (i := 481) (tgt := 1359) (kl_a8 1 rfl) rfl ?_
  exact hnext J T AX AM AR (by omega) (by omega)
set_option maxRecDepth 100000 in
set_option maxHeartbeats 4000000 in
theorem kl_case20 (l : Launch) (L : Nat) (xs : Nat → Int32) (hL : L ≤ 384) (x3 : Int32) (h0 : 0 ≤ x3.toInt) (h1 : x3.toInt + 6 ≤ L) (σ : kw_S) (T : Int) (hX : kw_I bX σ) (hM : kw_I (bM T) (kw_sh 61 σ)) (hR : kr_R σ (kw_sh 61 σ)) (hT0 : 0 ≤ T) (hT1 : T ≤ 2000) (hnext : ∀ (S : kw_S) (T' : Int), kw_I bX S → kw_I (bM T') (kw_sh 61 S) → kr_R S (kw_sh 61 S) → 0 ≤ T' → T' ≤ T + 20 → kw_AW l 30 ((1002, L, xs) :: kw_E0) KJ mL_law kl_P 1359 [(3, .int x3), (2, .ref 61), (1, .ref 0), (0, .ref 1002)] [] S) : kw_AW l 30 ((1002, L, xs) :: kw_E0) KJ mL_law kl_P 800 [(3, .int x3), (2, .ref 61), (1, .ref 0), (0, .ref 1002)] [] σ := by
  have u1 : (x3 + 1).toInt = x3.toInt + 1 := by rw [kw_addI, show (1 : Int32).toInt = 1 from rfl]; omega
  have u2 : (x3 + 2).toInt = x3.toInt + 2 := by rw [kw_addI, show (2 : Int32).toInt = 2 from rfl]; omega
  have u3 : (x3 + 3).toInt = x3.toInt + 3 := by rw [kw_addI, show (3 : Int32).toInt = 3 from rfl]; omega
  have u4 : (x3 + 4).toInt = x3.toInt + 4 := by rw [kw_addI, show (4 : Int32).toInt = 4 from rfl]; omega
  have u5 : (x3 + 5).toInt = x3.toInt + 5 := by rw [kw_addI, show (5 : Int32).toInt = 5 from rfl]; omega
  refine kw_aload_n (pc := 800) (i := 482) (k := 2) (n := 1) (kl_a8 2 rfl) rfl rfl ?_
  refine kw_aload_n (pc := 801) (i := 483) (k := 3) (n := 0) (kl_a8 3 rfl) rfl rfl ?_
  refine kw_iload_n (pc := 802) (i := 484) (k := 0) (n := 3) (kl_a8 4 rfl) rfl rfl ?_
  refine kw_iconst (pc := 803) (i := 485) (v := 1) (kl_a8 5 rfl) rfl ?_
  refine kw_iadd (pc := 804) (i := 486) (kl_a8 6 rfl) (fun z1 e_z1 t_z1 => ?_)
  subst e_z1
  clear t_z1
  refine kw_tld (pc := 805) (i := 487) (k := 0) (n := L) (kl_a8 7 rfl) rfl (by omega) (by omega) (fun z2 e_z2 => ?_)
  subst e_z2
  refine kw_callX (pc := 806) (i := 488) (Y := mX7_even) (xs := [xs (x3 + 1).toNatClampNeg]) (st := []) kl_hE (kl_a8 8 rfl) lvL_98 arX7_even (c_X7_even_0 l σ hX (xs (x3 + 1).toNatClampNeg) ) (by decide) (Nat.le_of_ble_eq_true rfl) rfl (fun v sX pX => ?_)
  obtain ⟨⟨IX, FX⟩, rX, rfl, f3, eX⟩ := pX
  show kw_AW l 30 ((1002, L, xs) :: kw_E0) KJ mL_law kl_P 809 [(3, .int x3), (2, .ref 61), (1, .ref 0), (0, .ref 1002)] [.int rX] (kw_mixX σ sX)
  refine kw_pop (pc := 809) (i := 489) (kl_a8 9 rfl) rfl ?_
  refine kw_aload_n (pc := 810) (i := 490) (k := 1) (n := 2) (kl_a8 10 rfl) rfl rfl ?_
  refine kw_aload_n (pc := 811) (i := 491) (k := 3) (n := 0) (kl_a8 11 rfl) rfl rfl ?_
  refine kw_iload_n (pc := 812) (i := 492) (k := 0) (n := 3) (kl_a8 12 rfl) rfl rfl ?_
  refine kw_iconst (pc := 813) (i := 493) (v := 1) (kl_a8 13 rfl) rfl ?_
  refine kw_iadd (pc := 814) (i := 494) (kl_a8 14 rfl) (fun z4 e_z4 t_z4 => ?_)
  subst e_z4
  clear t_z4
  refine kw_tld (pc := 815) (i := 495) (k := 0) (n := L) (kl_a8 15 rfl) rfl (by omega) (by omega) (fun z5 e_z5 => ?_)
  subst e_z5
  refine kw_callM (pc := 816) (i := 496) (Y := mX8_even) (xs := [xs (x3 + 1).toNatClampNeg]) (st := []) kl_hE (kl_a8 16 rfl) lvL_101 arX8_even (c_X8_even_0 l T (by omega) (by omega) (kw_sh 61 (kw_mixX σ sX)) (by rw [kw_sh_mixX]; exact hM) (xs (x3 + 1).toNatClampNeg) ) (by decide) (Nat.le_of_ble_eq_true rfl) rfl (fun _ _ q => by obtain ⟨-, r, rfl, -⟩ := q; exact fun _ _ => rfl) (fun v sM pM => ?_)
  obtain ⟨⟨IM, FM⟩, rM, rfl, f6, eM⟩ := pM
  rw [kw_sh_mixX] at FM eM
  first | rw [kw_sh_mixX] at f6 | skip
  have AX : kw_I bX (kw_mixM (kw_mixX σ sX) sM) := kw_IX_mixM (kw_IX_mixX IX)
  have AM : kw_I (bM T) (kw_sh 61 (kw_mixM (kw_mixX σ sX) sM)) := by rw [kw_sh_mixM]; exact IM
  have Q := kr_R.fr hR FX FM (by decide) (by decide)
  have AR : kr_R (kw_mixM (kw_mixX σ sX) sM) (kw_sh 61 (kw_mixM (kw_mixX σ sX) sM)) := by rw [kw_sh_mixM]; exact ⟨(Q).1.mix, (Q).2.mix⟩
  generalize (kw_mixM (kw_mixX σ sX) sM) = J at AX AM AR ⊢
  show kw_AW l 30 ((1002, L, xs) :: kw_E0) KJ mL_law kl_P 819 [(3, .int x3), (2, .ref 61), (1, .ref 0), (0, .ref 1002)] [.int rM] J
  refine kw_pop (pc := 819) (i := 497) (kl_a8 17 rfl) rfl ?_
  refine kw_goto (pc := 820) (i := 498) (tgt := 1359) (kl_a8 18 rfl) rfl ?_
  exact hnext J T AX AM AR (by omega) (by omega)
set_option maxRecDepth 100000 in
set_option maxHeartbeats 4000000 in
theorem kl_case21 (l : Launch) (L : Nat) (xs : Nat → Int32) (hL : L ≤ 384) (x3 : Int32) (h0 : 0 ≤ x3.toInt) (h1 : x3.toInt + 6 ≤ L) (σ : kw_S) (T : Int) (hX : kw_I bX σ) (hM : kw_I (bM T) (kw_sh 61 σ)) (hR : kr_R σ (kw_sh 61 σ)) (hT0 : 0 ≤ T) (hT1 : T ≤ 2000) (hnext : ∀ (S : kw_S) (T' : Int), kw_I bX S → kw_I (bM T') (kw_sh 61 S) → kr_R S (kw_sh 61 S) → 0 ≤ T' → T' ≤ T + 20 → kw_AW l 30 ((1002, L, xs) :: kw_E0) KJ mL_law kl_P 1359 [(3, .int x3), (2, .ref 61), (1, .ref 0), (0, .ref 1002)] [] S) : kw_AW l 30 ((1002, L, xs) :: kw_E0) KJ mL_law kl_P 823 [(3, .int x3), (2, .ref 61), (1, .ref 0), (0, .ref 1002)] [] σ := by
  have u1 : (x3 + 1).toInt = x3.toInt + 1 := by rw [kw_addI, show (1 : Int32).toInt = 1 from rfl]; omega
  have u2 : (x3 + 2).toInt = x3.toInt + 2 := by rw [kw_addI, show (2 : Int32).toInt = 2 from rfl]; omega
  have u3 : (x3 + 3).toInt = x3.toInt + 3 := by rw [kw_addI, show (3 : Int32).toInt = 3 from rfl]; omega
  have u4 : (x3 + 4).toInt = x3.toInt + 4 := by rw [kw_addI, show (4 : Int32).toInt = 4 from rfl]; omega
  have u5 : (x3 + 5).toInt = x3.toInt + 5 := by rw [kw_addI, show (5 : Int32).toInt = 5 from rfl]; omega
  refine kw_aload_n (pc := 823) (i := 499) (k := 2) (n := 1) (kl_a8 19 rfl) rfl rfl ?_
  refine kw_aload_n (pc := 824) (i := 500) (k := 3) (n := 0) (kl_a8 20 rfl) rfl rfl ?_
  refine kw_iload_n (pc := 825) (i := 501) (k := 0) (n := 3) (kl_a8 21 rfl) rfl rfl ?_
  refine kw_iconst (pc := 826) (i := 502) (v := 1) (kl_a8 22 rfl) rfl ?_
  refine kw_iadd (pc := 827) (i := 503) (kl_a8 23 rfl) (fun z1 e_z1 t_z1 => ?_)
  subst e_z1
  clear t_z1
  refine kw_tld (pc := 828) (i := 504) (k := 0) (n := L) (kl_a8 24 rfl) rfl (by omega) (by omega) (fun z2 e_z2 => ?_)
  subst e_z2
  refine kw_callX (pc := 829) (i := 505) (Y := mX7_fast) (xs := [xs (x3 + 1).toNatClampNeg]) (st := []) kl_hE (kl_a8 25 rfl) lvL_102 arX7_fast (c_X7_fast_0 l σ hX (xs (x3 + 1).toNatClampNeg) ) (by decide) (Nat.le_of_ble_eq_true rfl) rfl (fun v sX pX => ?_)
  obtain ⟨⟨IX, FX⟩, rX, rfl, eX⟩ := pX
  show kw_AW l 30 ((1002, L, xs) :: kw_E0) KJ mL_law kl_P 832 [(3, .int x3), (2, .ref 61), (1, .ref 0), (0, .ref 1002)] [.int rX] (kw_mixX σ sX)
  refine kw_pop (pc := 832) (i := 506) (kl_a8 26 rfl) rfl ?_
  refine kw_aload_n (pc := 833) (i := 507) (k := 1) (n := 2) (kl_a8 27 rfl) rfl rfl ?_
  refine kw_aload_n (pc := 834) (i := 508) (k := 3) (n := 0) (kl_a8 28 rfl) rfl rfl ?_
  refine kw_iload_n (pc := 835) (i := 509) (k := 0) (n := 3) (kl_a8 29 rfl) rfl rfl ?_
  refine kw_iconst (pc := 836) (i := 510) (v := 1) (kl_a8 30 rfl) rfl ?_
  refine kw_iadd (pc := 837) (i := 511) (kl_a8 31 rfl) (fun z3 e_z3 t_z3 => ?_)
  subst e_z3
  clear t_z3
  refine kw_tld (pc := 838) (i := 512) (k := 0) (n := L) (kl_a8 32 rfl) rfl (by omega) (by omega) (fun z4 e_z4 => ?_)
  subst e_z4
  refine kw_callM (pc := 839) (i := 513) (Y := mX8_fast) (xs := [xs (x3 + 1).toNatClampNeg]) (st := []) kl_hE (kl_a8 33 rfl) lvL_105 arX8_fast (c_X8_fast_0 l T (by omega) (by omega) (kw_sh 61 (kw_mixX σ sX)) (by rw [kw_sh_mixX]; exact hM) (xs (x3 + 1).toNatClampNeg) ) (by decide) (Nat.le_of_ble_eq_true rfl) rfl (fun _ _ q => by obtain ⟨-, r, rfl, -⟩ := q; exact fun _ _ => rfl) (fun v sM pM => ?_)
  obtain ⟨⟨IM, FM⟩, rM, rfl, eM⟩ := pM
  rw [kw_sh_mixX] at FM eM
  have AX : kw_I bX (kw_mixM (kw_mixX σ sX) sM) := kw_IX_mixM (kw_IX_mixX IX)
  have AM : kw_I (bM T) (kw_sh 61 (kw_mixM (kw_mixX σ sX) sM)) := by rw [kw_sh_mixM]; exact IM
  have Q := kr_R.fr hR FX FM (by decide) (by decide)
  have AR : kr_R (kw_mixM (kw_mixX σ sX) sM) (kw_sh 61 (kw_mixM (kw_mixX σ sX) sM)) := by rw [kw_sh_mixM]; exact ⟨(Q).1.mix, (Q).2.mix⟩
  generalize (kw_mixM (kw_mixX σ sX) sM) = J at AX AM AR ⊢
  show kw_AW l 30 ((1002, L, xs) :: kw_E0) KJ mL_law kl_P 842 [(3, .int x3), (2, .ref 61), (1, .ref 0), (0, .ref 1002)] [.int rM] J
  refine kw_pop (pc := 842) (i := 514) (kl_a8 34 rfl) rfl ?_
  refine kw_goto (pc := 843) (i := 515) (tgt := 1359) (kl_a8 35 rfl) rfl ?_
  exact hnext J T AX AM AR (by omega) (by omega)
end
section
set_option maxRecDepth 100000 in
set_option maxHeartbeats 4000000 in
theorem kl_case22 (l : Launch) (L : Nat) (xs : Nat → Int32) (hL : L ≤ 384) (x3 : Int32) (h0 : 0 ≤ x3.toInt) (h1 : x3.toInt + 6 ≤ L) (σ : kw_S) (T : Int) (hX : kw_I bX σ) (hM : kw_I (bM T) (kw_sh 61 σ)) (hR : kr_R σ (kw_sh 61 σ)) (hT0 : 0 ≤ T) (hT1 : T ≤ 2000) (hnext : ∀ (S : kw_S) (T' : Int), kw_I bX S → kw_I (bM T') (kw_sh 61 S) → kr_R S (kw_sh 61 S) → 0 ≤ T' → T' ≤ T + 20 → kw_AW l 30 ((1002, L, xs) :: kw_E0) KJ mL_law kl_P 1359 [(3, .int x3), (2, .ref 61), (1, .ref 0), (0, .ref 1002)] [] S) : kw_AW l 30 ((1002, L, xs) :: kw_E0) KJ mL_law kl_P 846 [(3, .int x3), (2, .ref 61), (1, .ref 0), (0, .ref 1002)] [] σ := by
  have u1 : (x3 + 1).toInt = x3.toInt + 1 := by rw [kw_addI, show (1 : Int32).toInt = 1 from rfl]; omega
  have u2 : (x3 + 2).toInt = x3.toInt + 2 := by rw [kw_addI, show (2 : Int32).toInt = 2 from rfl]; omega
  have u3 : (x3 + 3).toInt = x3.toInt + 3 := by rw [kw_addI, show (3 : Int32).toInt = 3 from rfl]; omega
  have u4 : (x3 + 4).toInt = x3.toInt + 4 := by rw [kw_addI, show (4 : Int32).toInt = 4 from rfl]; omega
  have u5 : (x3 + 5).toInt = x3.toInt + 5 := by rw [kw_addI, show (5 : Int32).toInt = 5 from rfl]; omega
  refine kw_aload_n (pc := 846) (i := 516) (k := 2) (n := 1) (kl_a8 36 rfl) rfl rfl ?_
  refine kw_callX (pc := 847) (i := 517) (Y := mX7_wet) (xs := []) (st := []) kl_hE (kl_a8 37 rfl) lvL_106 arX7_wet (c_X7_wet_0 l σ hX  ) (by decide) (Nat.le_of_ble_eq_true rfl) rfl (fun v sX pX => ?_)
  obtain ⟨⟨IX, FX⟩, rX, rfl, eX⟩ := pX
  show kw_AW l 30 ((1002, L, xs) :: kw_E0) KJ mL_law kl_P 850 [(3, .int x3), (2, .ref 61), (1, .ref 0), (0, .ref 1002)] [.int rX] (kw_mixX σ sX)
  refine kw_pop (pc := 850) (i := 518) (kl_a8 38 rfl) rfl ?_
  refine kw_aload_n (pc := 851) (i := 519) (k := 1) (n := 2) (kl_a8 39 rfl) rfl rfl ?_
  refine kw_callM (pc := 852) (i := 520) (Y := mX8_wet) (xs := []) (st := []) kl_hE (kl_a8 40 rfl) lvL_109 arX8_wet (c_X8_wet_0 l T (by omega) (by omega) (kw_sh 61 (kw_mixX σ sX)) (by rw [kw_sh_mixX]; exact hM)  ) (by decide) (Nat.le_of_ble_eq_true rfl) rfl (fun _ _ q => by obtain ⟨-, r, rfl, -⟩ := q; exact fun _ _ => rfl) (fun v sM pM => ?_)
  obtain ⟨⟨IM, FM⟩, rM, rfl, eM⟩ := pM
  rw [kw_sh_mixX] at FM eM
  have AX : kw_I bX (kw_mixM (kw_mixX σ sX) sM) := kw_IX_mixM (kw_IX_mixX IX)
  have AM : kw_I (bM T) (kw_sh 61 (kw_mixM (kw_mixX σ sX) sM)) := by rw [kw_sh_mixM]; exact IM
  have Q := kr_R.fr hR FX FM (by decide) (by decide)
  have AR : kr_R (kw_mixM (kw_mixX σ sX) sM) (kw_sh 61 (kw_mixM (kw_mixX σ sX) sM)) := by rw [kw_sh_mixM]; exact ⟨(Q).1.mix, (Q).2.mix⟩
  generalize (kw_mixM (kw_mixX σ sX) sM) = J at AX AM AR ⊢
  show kw_AW l 30 ((1002, L, xs) :: kw_E0) KJ mL_law kl_P 855 [(3, .int x3), (2, .ref 61), (1, .ref 0), (0, .ref 1002)] [.int rM] J
  refine kw_pop (pc := 855) (i := 521) (kl_a8 41 rfl) rfl ?_
  refine kw_goto (pc := 856) (i := 522) (tgt := 1359) (kl_a8 42 rfl) rfl ?_
  exact hnext J T AX AM AR (by omega) (by omega)
set_option maxRecDepth 100000 in
set_option maxHeartbeats 4000000 in
theorem kl_case23 (l : Launch) (L : Nat) (xs : Nat → Int32) (hL : L ≤ 384) (x3 : Int32) (h0 : 0 ≤ x3.toInt) (h1 : x3.toInt + 6 ≤ L) (σ : kw_S) (T : Int) (hX : kw_I bX σ) (hM : kw_I (bM T) (kw_sh 61 σ)) (hR : kr_R σ (kw_sh 61 σ)) (hT0 : 0 ≤ T) (hT1 : T ≤ 2000) (hnext : ∀ (S : kw_S) (T' : Int), kw_I bX S → kw_I (bM T') (kw_sh 61 S) → kr_R S (kw_sh 61 S) → 0 ≤ T' → T' ≤ T + 20 → kw_AW l 30 ((1002, L, xs) :: kw_E0) KJ mL_law kl_P 1359 [(3, .int x3), (2, .ref 61), (1, .ref 0), (0, .ref 1002)] [] S) : kw_AW l 30 ((1002, L, xs) :: kw_E0) KJ mL_law kl_P 859 [(3, .int x3), (2, .ref 61), (1, .ref 0), (0, .ref 1002)] [] σ := by
  have u1 : (x3 + 1).toInt = x3.toInt + 1 := by rw [kw_addI, show (1 : Int32).toInt = 1 from rfl]; omega
  have u2 : (x3 + 2).toInt = x3.toInt + 2 := by rw [kw_addI, show (2 : Int32).toInt = 2 from rfl]; omega
  have u3 : (x3 + 3).toInt = x3.toInt + 3 := by rw [kw_addI, show (3 : Int32).toInt = 3 from rfl]; omega
  have u4 : (x3 + 4).toInt = x3.toInt + 4 := by rw [kw_addI, show (4 : Int32).toInt = 4 from rfl]; omega
  have u5 : (x3 + 5).toInt = x3.toInt + 5 := by rw [kw_addI, show (5 : Int32).toInt = 5 from rfl]; omega
  refine kw_aload_n (pc := 859) (i := 523) (k := 2) (n := 1) (kl_a8 43 rfl) rfl rfl ?_
  refine kw_aload_n (pc := 860) (i := 524) (k := 3) (n := 0) (kl_a8 44 rfl) rfl rfl ?_
  refine kw_iload_n (pc := 861) (i := 525) (k := 0) (n := 3) (kl_a8 45 rfl) rfl rfl ?_
  refine kw_iconst (pc := 862) (i := 526) (v := 1) (kl_a8 46 rfl) rfl ?_
  refine kw_iadd (pc := 863) (i := 527) (kl_a8 47 rfl) (fun z1 e_z1 t_z1 => ?_)
  subst e_z1
  clear t_z1
  refine kw_tld (pc := 864) (i := 528) (k := 0) (n := L) (kl_a8 48 rfl) rfl (by omega) (by omega) (fun z2 e_z2 => ?_)
  subst e_z2
  refine kw_callX (pc := 865) (i := 529) (Y := mX7_sail) (xs := [xs (x3 + 1).toNatClampNeg]) (st := []) kl_hE (kl_a8 49 rfl) lvL_110 arX7_sail (c_X7_sail_0 l σ hX (xs (x3 + 1).toNatClampNeg) ) (by decide) (Nat.le_of_ble_eq_true rfl) rfl (fun v sX pX => ?_)
  obtain ⟨⟨IX, FX⟩, rX, rfl, eX⟩ := pX
  show kw_AW l 30 ((1002, L, xs) :: kw_E0) KJ mL_law kl_P 868 [(3, .int x3), (2, .ref 61), (1, .ref 0), (0, .ref 1002)] [.int rX] (kw_mixX σ sX)
  refine kw_pop (pc := 868) (i := 530) (kl_a8 50 rfl) rfl ?_
  refine kw_aload_n (pc := 869) (i := 531) (k := 1) (n := 2) (kl_a8 51 rfl) rfl rfl ?_
  refine kw_aload_n (pc := 870) (i := 532) (k := 3) (n := 0) (kl_a8 52 rfl) rfl rfl ?_
  refine kw_iload_n (pc := 871) (i := 533) (k := 0) (n := 3) (kl_a8 53 rfl) rfl rfl ?_
  refine kw_iconst (pc := 872) (i := 534) (v := 1) (kl_a8 54 rfl) rfl ?_
  refine kw_iadd (pc := 873) (i := 535) (kl_a8 55 rfl) (fun z3 e_z3 t_z3 => ?_)
  subst e_z3
  clear t_z3
  refine kw_tld (pc := 874) (i := 536) (k := 0) (n := L) (kl_a8 56 rfl) rfl (by omega) (by omega) (fun z4 e_z4 => ?_)
  subst e_z4
  refine kw_callM (pc := 875) (i := 537) (Y := mX8_sail) (xs := [xs (x3 + 1).toNatClampNeg]) (st := []) kl_hE (kl_a8 57 rfl) lvL_113 arX8_sail (c_X8_sail_0 l T (by omega) (by omega) (kw_sh 61 (kw_mixX σ sX)) (by rw [kw_sh_mixX]; exact hM) (xs (x3 + 1).toNatClampNeg) ) (by decide) (Nat.le_of_ble_eq_true rfl) rfl (fun _ _ q => by obtain ⟨-, r, rfl, -⟩ := q; exact fun _ _ => rfl) (fun v sM pM => ?_)
  obtain ⟨⟨IM, FM⟩, rM, rfl, eM⟩ := pM
  rw [kw_sh_mixX] at FM eM
  have AX : kw_I bX (kw_mixM (kw_mixX σ sX) sM) := kw_IX_mixM (kw_IX_mixX IX)
  have AM : kw_I (bM T) (kw_sh 61 (kw_mixM (kw_mixX σ sX) sM)) := by rw [kw_sh_mixM]; exact IM
  have Q := kr_R.fr hR FX FM (by decide) (by decide)
  have AR : kr_R (kw_mixM (kw_mixX σ sX) sM) (kw_sh 61 (kw_mixM (kw_mixX σ sX) sM)) := by rw [kw_sh_mixM]; exact ⟨(Q).1.mix, (Q).2.mix⟩
  generalize (kw_mixM (kw_mixX σ sX) sM) = J at AX AM AR ⊢
  show kw_AW l 30 ((1002, L, xs) :: kw_E0) KJ mL_law kl_P 878 [(3, .int x3), (2, .ref 61), (1, .ref 0), (0, .ref 1002)] [.int rM] J
  refine kw_pop (pc := 878) (i := 538) (kl_a8 58 rfl) rfl ?_
  refine kw_goto (pc := 879) (i := 539) (tgt := 1359) (kl_a8 59 rfl) rfl ?_
  exact hnext J T AX AM AR (by omega) (by omega)
set_option maxRecDepth 100000 in
set_option maxHeartbeats 4000000 in
theorem kl_case24 (l : Launch) (L : Nat) (xs : Nat → Int32) (hL : L ≤ 384) (x3 : Int32) (h0 : 0 ≤ x3.toInt) (h1 : x3.toInt + 6 ≤ L) (σ : kw_S) (T : Int) (hX : kw_I bX σ) (hM : kw_I (bM T) (kw_sh 61 σ)) (hR : kr_R σ (kw_sh 61 σ)) (hT0 : 0 ≤ T) (hT1 : T ≤ 2000) (hnext : ∀ (S : kw_S) (T' : Int), kw_I bX S → kw_I (bM T') (kw_sh 61 S) → kr_R S (kw_sh 61 S) → 0 ≤ T' → T' ≤ T + 20 → kw_AW l 30 ((1002, L, xs) :: kw_E0) KJ mL_law kl_P 1359 [(3, .int x3), (2, .ref 61), (1, .ref 0), (0, .ref 1002)] [] S) : kw_AW l 30 ((1002, L, xs) :: kw_E0) KJ mL_law kl_P 882 [(3, .int x3), (2, .ref 61), (1, .ref 0), (0, .ref 1002)] [] σ := by
  have u1 : (x3 + 1).toInt = x3.toInt + 1 := by rw [kw_addI, show (1 : Int32).toInt = 1 from rfl]; omega
  have u2 : (x3 + 2).toInt = x3.toInt + 2 := by rw [kw_addI, show (2 : Int32).toInt = 2 from rfl]; omega
  have u3 : (x3 + 3).toInt = x3.toInt + 3 := by rw [kw_addI, show (3 : Int32).toInt = 3 from rfl]; omega
  have u4 : (x3 + 4).toInt = x3.toInt + 4 := by rw [kw_addI, show (4 : Int32).toInt = 4 from rfl]; omega
  have u5 : (x3 + 5).toInt = x3.toInt + 5 := by rw [kw_addI, show (5 : Int32).toInt = 5 from rfl]; omega
  refine kw_aload_n (pc := 882) (i := 540) (k := 2) (n := 1) (kl_a9 0 rfl) rfl rfl ?_
  refine kw_aload_n (pc := 883) (i := 541) (k := 3) (n := 0) (kl_a9 1 rfl) rfl rfl ?_
  refine kw_iload_n (pc := 884) (i := 542) (k := 0) (n := 3) (kl_a9 2 rfl) rfl rfl ?_
  refine kw_iconst (pc := 885) (i := 543) (v := 1) (kl_a9 3 rfl) rfl ?_
  refine kw_iadd (pc := 886) (i := 544) (kl_a9 4 rfl) (fun z1 e_z1 t_z1 => ?_)
  subst e_z1
  clear t_z1
  refine kw_tld (pc := 887) (i := 545) (k := 0) (n := L) (kl_a9 5 rfl) rfl (by omega) (by omega) (fun z2 e_z2 => ?_)
  subst e_z2
  refine kw_callX (pc := 888) (i := 546) (Y := mX7_dry) (xs := [xs (x3 + 1).toNatClampNeg]) (st := []) kl_hE (kl_a9 6 rfl) lvL_114 arX7_dry (c_X7_dry_0 l σ hX (xs (x3 + 1).toNatClampNeg) ) (by decide) (Nat.le_of_ble_eq_true rfl) rfl (fun v sX pX => ?_)
  obtain ⟨⟨IX, FX⟩, rX, rfl, eX⟩ := pX
  show kw_AW l 30 ((1002, L, xs) :: kw_E0) KJ mL_law kl_P 891 [(3, .int x3), (2, .ref 61), (1, .ref 0), (0, .ref 1002)] [.int rX] (kw_mixX σ sX)
  refine kw_pop (pc := 891) (i := 547) (kl_a9 7 rfl) rfl ?_
  refine kw_aload_n (pc := 892) (i := 548) (k := 1) (n := 2) (kl_a9 8 rfl) rfl rfl ?_
  refine kw_aload_n (pc := 893) (i := 549) (k := 3) (n := 0) (kl_a9 9 rfl) rfl rfl ?_
  refine kw_iload_n (pc := 894) (i := 550) (k := 0) (n := 3) (kl_a9 10 rfl) rfl rfl ?_
  refine kw_iconst (pc := 895) (i := 551) (v := 1) (kl_a9 11 rfl) rfl ?_
  refine kw_iadd (pc := 896) (i := 552) (kl_a9 12 rfl) (fun z3 e_z3 t_z3 => ?_)
  subst e_z3
  clear t_z3
  refine kw_tld (pc := 897) (i := 553) (k := 0) (n := L) (kl_a9 13 rfl) rfl (by omega) (by omega) (fun z4 e_z4 => ?_)
  subst e_z4
  refine kw_callM (pc := 898) (i := 554) (Y := mX8_dry) (xs := [xs (x3 + 1).toNatClampNeg]) (st := []) kl_hE (kl_a9 14 rfl) lvL_117 arX8_dry (c_X8_dry_0 l T (by omega) (by omega) (kw_sh 61 (kw_mixX σ sX)) (by rw [kw_sh_mixX]; exact hM) (xs (x3 + 1).toNatClampNeg) ) (by decide) (Nat.le_of_ble_eq_true rfl) rfl (fun _ _ q => by obtain ⟨-, r, rfl, -⟩ := q; exact fun _ _ => rfl) (fun v sM pM => ?_)
  obtain ⟨⟨IM, FM⟩, rM, rfl, eM⟩ := pM
  rw [kw_sh_mixX] at FM eM
  have AX : kw_I bX (kw_mixM (kw_mixX σ sX) sM) := kw_IX_mixM (kw_IX_mixX IX)
  have AM : kw_I (bM T) (kw_sh 61 (kw_mixM (kw_mixX σ sX) sM)) := by rw [kw_sh_mixM]; exact IM
  have Q := kr_R.fr hR FX FM (by decide) (by decide)
  have AR : kr_R (kw_mixM (kw_mixX σ sX) sM) (kw_sh 61 (kw_mixM (kw_mixX σ sX) sM)) := by rw [kw_sh_mixM]; exact ⟨(Q).1.mix, (Q).2.mix⟩
  generalize (kw_mixM (kw_mixX σ sX) sM) = J at AX AM AR ⊢
  show kw_AW l 30 ((1002, L, xs) :: kw_E0) KJ mL_law kl_P 901 [(3, .int x3), (2, .ref 61), (1, .ref 0), (0, .ref 1002)] [.int rM] J
  refine kw_pop (pc := 901) (i := 555) (kl_a9 15 rfl) rfl ?_
  refine kw_goto (pc := 902) (i := 556) (tgt := 1359) (kl_a9 16 rfl) rfl ?_
  exact hnext J T AX AM AR (by omega) (by omega)
set_option maxRecDepth 100000 in
set_option maxHeartbeats 4000000 in
theorem kl_case25 (l : Launch) (L : Nat) (xs : Nat → Int32) (hL : L ≤ 384) (x3 : Int32) (h0 : 0 ≤ x3.toInt) (h1 : x3.toInt + 6 ≤ L) (σ : kw_S) (T : Int) (hX : kw_I bX σ) (hM : kw_I (bM T) (kw_sh 61 σ)) (hR : kr_R σ (kw_sh 61 σ)) (hT0 : 0 ≤ T) (hT1 : T ≤ 2000) (hnext : ∀ (S : kw_S) (T' : Int), kw_I bX S → kw_I (bM T') (kw_sh 61 S) → kr_R S (kw_sh 61 S) → 0 ≤ T' → T' ≤ T + 20 → kw_AW l 30 ((1002, L, xs) :: kw_E0) KJ mL_law kl_P 1359 [(3, .int x3), (2, .ref 61), (1, .ref 0), (0, .ref 1002)] [] S) : kw_AW l 30 ((1002, L, xs) :: kw_E0) KJ mL_law kl_P 905 [(3, .int x3), (2, .ref 61), (1, .ref 0), (0, .ref 1002)] [] σ := by
  have u1 : (x3 + 1).toInt = x3.toInt + 1 := by rw [kw_addI, show (1 : Int32).toInt = 1 from rfl]; omega
  have u2 : (x3 + 2).toInt = x3.toInt + 2 := by rw [kw_addI, show (2 : Int32).toInt = 2 from rfl]; omega
  have u3 : (x3 + 3).toInt = x3.toInt + 3 := by rw [kw_addI, show (3 : Int32).toInt = 3 from rfl]; omega
  have u4 : (x3 + 4).toInt = x3.toInt + 4 := by rw [kw_addI, show (4 : Int32).toInt = 4 from rfl]; omega
  have u5 : (x3 + 5).toInt = x3.toInt + 5 := by rw [kw_addI, show (5 : Int32).toInt = 5 from rfl]; omega
  refine kw_aload_n (pc := 905) (i := 557) (k := 2) (n := 1) (kl_a9 17 rfl) rfl rfl ?_
  refine kw_aload_n (pc := 906) (i := 558) (k := 3) (n := 0) (kl_a9 18 rfl) rfl rfl ?_
  refine kw_iload_n (pc := 907) (i := 559) (k := 0) (n := 3) (kl_a9 19 rfl) rfl rfl ?_
  refine kw_iconst (pc := 908) (i := 560) (v := 1) (kl_a9 20 rfl) rfl ?_
  refine kw_iadd (pc := 909) (i := 561) (kl_a9 21 rfl) (fun z1 e_z1 t_z1 => ?_)
  subst e_z1
  clear t_z1
  refine kw_tld (pc := 910) (i := 562) (k := 0) (n := L) (kl_a9 22 rfl) rfl (by omega) (by omega) (fun z2 e_z2 => ?_)
  subst e_z2
  refine kw_aload_n (pc := 911) (i := 563) (k := 3) (n := 0) (kl_a9 23 rfl) rfl rfl ?_
  refine kw_iload_n (pc := 912) (i := 564) (k := 0) (n := 3) (kl_a9 24 rfl) rfl rfl ?_
  refine kw_iconst (pc := 913) (i := 565) (v := 2) (kl_a9 25 rfl) rfl ?_
  refine kw_iadd (pc := 914) (i := 566) (kl_a9 26 rfl) (fun z3 e_z3 t_z3 => ?_)
  subst e_z3
  clear t_z3
  refine kw_tld (pc := 915) (i := 567) (k := 0) (n := L) (kl_a9 27 rfl) rfl (by omega) (by omega) (fun z4 e_z4 => ?_)
  subst e_z4
  refine kw_aload_n (pc := 916) (i := 568) (k := 3) (n := 0) (kl_a9 28 rfl) rfl rfl ?_
  refine kw_iload_n (pc := 917) (i := 569) (k := 0) (n := 3) (kl_a9 29 rfl) rfl rfl ?_
  refine kw_iconst (pc := 918) (i := 570) (v := 3) (kl_a9 30 rfl) rfl ?_
  refine kw_iadd (pc := 919) (i := 571) (kl_a9 31 rfl) (fun z5 e_z5 t_z5 => ?_)
  subst e_z5
  clear t_z5
  refine kw_tld (pc := 920) (i := 572) (k := 0) (n := L) (kl_a9 32 rfl) rfl (by omega) (by omega) (fun z6 e_z6 => ?_)
  subst e_z6
  refine kw_callX (pc := 921) (i := 573) (Y := mX7_far) (xs := [xs (x3 + 1).toNatClampNeg, xs (x3 + 2).toNatClampNeg, xs (x3 + 3).toNatClampNeg]) (st := []) kl_hE (kl_a9 33 rfl) lvL_118 arX7_far (c_X7_far_0 l σ hX (xs (x3 + 1).toNatClampNeg) (xs (x3 + 2).toNatClampNeg) (xs (x3 + 3).toNatClampNeg) ) (by decide) (Nat.le_of_ble_eq_true rfl) rfl (fun v sX pX => ?_)
  obtain ⟨⟨IX, FX⟩, rX, rfl, eX⟩ := pX
  show kw_AW l 30 ((1002, L, xs) :: kw_E0) KJ mL_law kl_P 924 [(3, .int x3), (2, .ref 61), (1, .ref 0), (0, .ref 1002)] [.int rX] (kw_mixX σ sX)
  refine kw_pop (pc := 924) (i := 574) (kl_a9 34 rfl) rfl ?_
  refine kw_aload_n (pc := 925) (i := 575) (k := 1) (n := 2) (kl_a9 35 rfl) rfl rfl ?_
  refine kw_aload_n (pc := 926) (i := 576) (k := 3) (n := 0) (kl_a9 36 rfl) rfl rfl ?_
  refine kw_iload_n (pc := 927) (i := 577) (k := 0) (n := 3) (kl_a9 37 rfl) rfl rfl ?_
  refine kw_iconst (pc := 928) (i := 578) (v := 1) (kl_a9 38 rfl) rfl ?_
  refine kw_iadd (pc := 929) (i := 579) (kl_a9 39 rfl) (fun z7 e_z7 t_z7 => ?_)
  subst e_z7
  clear t_z7
  refine kw_tld (pc := 930) (i := 580) (k := 0) (n := L) (kl_a9 40 rfl) rfl (by omega) (by omega) (fun z8 e_z8 => ?_)
  subst e_z8
  refine kw_aload_n (pc := 931) (i := 581) (k := 3) (n := 0) (kl_a9 41 rfl) rfl rfl ?_
  refine kw_iload_n (pc := 932) (i := 582) (k := 0) (n := 3) (kl_a9 42 rfl) rfl rfl ?_
  refine kw_iconst (pc := 933) (i := 583) (v := 2) (kl_a9 43 rfl) rfl ?_
  refine kw_iadd (pc := 934) (i := 584) (kl_a9 44 rfl) (fun z9 e_z9 t_z9 => ?_)
  subst e_z9
  clear t_z9
  refine kw_tld (pc := 935) (i := 585) (k := 0) (n := L) (kl_a9 45 rfl) rfl (by omega) (by omega) (fun z10 e_z10 => ?_)
  subst e_z10
  refine kw_aload_n (pc := 936) (i := 586) (k := 3) (n := 0) (kl_a9 46 rfl) rfl rfl ?_
  refine kw_iload_n (pc := 937) (i := 587) (k := 0) (n := 3) (kl_a9 47 rfl) rfl rfl ?_
  refine kw_iconst (pc := 938) (i := 588) (v := 3) (kl_a9 48 rfl) rfl ?_
  refine kw_iadd (pc := 939) (i := 589) (kl_a9 49 rfl) (fun z11 e_z11 t_z11 => ?_)
  subst e_z11
  clear t_z11
  refine kw_tld (pc := 940) (i := 590) (k := 0) (n := L) (kl_a9 50 rfl) rfl (by omega) (by omega) (fun z12 e_z12 => ?_)
  subst e_z12
  refine kw_callM (pc := 941) (i := 591) (Y := mX8_far) (xs := [xs (x3 + 1).toNatClampNeg, xs (x3 + 2).toNatClampNeg, xs (x3 + 3).toNatClampNeg]) (st := []) kl_hE (kl_a9 51 rfl) lvL_121 arX8_far (c_X8_far_0 l T (by omega) (by omega) (kw_sh 61 (kw_mixX σ sX)) (by rw [kw_sh_mixX]; exact hM) (xs (x3 + 1).toNatClampNeg) (xs (x3 + 2).toNatClampNeg) (xs (x3 + 3).toNatClampNeg) ) (by decide) (Nat.le_of_ble_eq_true rfl) rfl (fun _ _ q => by obtain ⟨-, r, rfl, -⟩ := q; exact fun _ _ => rfl) (fun v sM pM => ?_)
  obtain ⟨⟨IM, FM⟩, rM, rfl, eM⟩ := pM
  rw [kw_sh_mixX] at FM eM
  have AX : kw_I bX (kw_mixM (kw_mixX σ sX) sM) := kw_IX_mixM (kw_IX_mixX IX)
  have AM : kw_I (bM T) (kw_sh 61 (kw_mixM (kw_mixX σ sX) sM)) := by rw [kw_sh_mixM]; exact IM
  have Q := kr_R.fr hR FX FM (by decide) (by decide)
  have AR : kr_R (kw_mixM (kw_mixX σ sX) sM) (kw_sh 61 (kw_mixM (kw_mixX σ sX) sM)) := by rw [kw_sh_mixM]; exact ⟨(Q).1.mix, (Q).2.mix⟩
  generalize (kw_mixM (kw_mixX σ sX) sM) = J at AX AM AR ⊢
  show kw_AW l 30 ((1002, L, xs) :: kw_E0) KJ mL_law kl_P 944 [(3, .int x3), (2, .ref 61), (1, .ref 0), (0, .ref 1002)] [.int rM] J
  refine kw_pop (pc := 944) (i := 592) (kl_a9 52 rfl) rfl ?_
  refine kw_goto (pc := 945) (i := 593) (tgt := 1359) (kl_a9 53 rfl) rfl ?_
  exact hnext J T AX AM AR (by omega) (by omega)
set_option maxRecDepth 100000 in
set_option maxHeartbeats 4000000 in
theorem kl_case26 (l : Launch) (L : Nat) (xs : Nat → Int32) (hL : L ≤ 384) (x3 : Int32) (h0 : 0 ≤ x3.toInt) (h1 : x3.toInt + 6 ≤ L) (σ : kw_S) (T : Int) (hX : kw_I bX σ) (hM : kw_I (bM T) (kw_sh 61 σ)) (hR : kr_R σ (kw_sh 61 σ)) (hT0 : 0 ≤ T) (hT1 : T ≤ 2000) (hnext : ∀ (S : kw_S) (T' : Int), kw_I bX S → kw_I (bM T') (kw_sh 61 S) → kr_R S (kw_sh 61 S) → 0 ≤ T' → T' ≤ T + 20 → kw_AW l 30 ((1002, L, xs) :: kw_E0) KJ mL_law kl_P 1359 [(3, .int x3), (2, .ref 61), (1, .ref 0), (0, .ref 1002)] [] S) : kw_AW l 30 ((1002, L, xs) :: kw_E0) KJ mL_law kl_P 948 [(3, .int x3), (2, .ref 61), (1, .ref 0), (0, .ref 1002)] [] σ := by
  have u1 : (x3 + 1).toInt = x3.toInt + 1 := by rw [kw_addI, show (1 : Int32).toInt = 1 from rfl]; omega
  have u2 : (x3 + 2).toInt = x3.toInt + 2 := by rw [kw_addI, show (2 : Int32).toInt = 2 from rfl]; omega
  have u3 : (x3 + 3).toInt = x3.toInt + 3 := by rw [kw_addI, show (3 : Int32).toInt = 3 from rfl]; omega
  have u4 : (x3 + 4).toInt = x3.toInt + 4 := by rw [kw_addI, show (4 : Int32).toInt = 4 from rfl]; omega
  have u5 : (x3 + 5).toInt = x3.toInt + 5 := by rw [kw_addI, show (5 : Int32).toInt = 5 from rfl]; omega
  refine kw_aload_n (pc := 948) (i := 594) (k := 2) (n := 1) (kl_a9 54 rfl) rfl rfl ?_
  refine kw_aload_n (pc := 949) (i := 595) (k := 3) (n := 0) (kl_a9 55 rfl) rfl rfl ?_
  refine kw_iload_n (pc := 950) (i := 596) (k := 0) (n := 3) (kl_a9 56 rfl) rfl rfl ?_
  refine kw_iconst (pc := 951) (i := 597) (v := 1) (kl_a9 57 rfl) rfl ?_
  refine kw_iadd (pc := 952) (i := 598) (kl_a9 58 rfl) (fun z1 e_z1 t_z1 => ?_)
  subst e_z1
  clear t_z1
  refine kw_tld (pc := 953) (i := 599) (k := 0) (n := L) (kl_a9 59 rfl) rfl (by omega) (by omega) (fun z2 e_z2 => ?_)
  subst e_z2
  refine kw_callX (pc := 954) (i := 600) (Y := mX7_soon) (xs := [xs (x3 + 1).toNatClampNeg]) (st := []) kl_hE (kl_a10 0 rfl) lvL_122 arX7_soon (c_X7_soon_0 l σ hX (xs (x3 + 1).toNatClampNeg) ) (by decide) (Nat.le_of_ble_eq_true rfl) rfl (fun v sX pX => ?_)
  obtain ⟨gX, rX, rfl, eX⟩ := pX
  have IX : kw_I bX sX := by rw [gX]; exact hX
  have FX : kw_F [] σ sX := by rw [gX]; exact kw_F.rf
  show kw_AW l 30 ((1002, L, xs) :: kw_E0) KJ mL_law kl_P 957 [(3, .int x3), (2, .ref 61), (1, .ref 0), (0, .ref 1002)] [.int rX] (kw_mixX σ sX)
  refine kw_pop (pc := 957) (i := 601) (kl_a10 1 rfl) rfl ?_
  refine kw_aload_n (pc := 958) (i := 602) (k := 1) (n := 2) (kl_a10 2 rfl) rfl rfl ?_
  refine kw_aload_n (pc := 959) (i := 603) (k := 3) (n := 0) (kl_a10 3 rfl) rfl rfl ?_
  refine kw_iload_n (pc := 960) (i := 604) (k := 0) (n := 3) (kl_a10 4 rfl) rfl rfl ?_
  refine kw_iconst (pc := 961) (i := 605) (v := 1) (kl_a10 5 rfl) rfl ?_
  refine kw_iadd (pc := 962) (i := 606) (kl_a10 6 rfl) (fun z3 e_z3 t_z3 => ?_)
  subst e_z3
  clear t_z3
  refine kw_tld (pc := 963) (i := 607) (k := 0) (n := L) (kl_a10 7 rfl) rfl (by omega) (by omega) (fun z4 e_z4 => ?_)
  subst e_z4
  refine kw_callM (pc := 964) (i := 608) (Y := mX8_soon) (xs := [xs (x3 + 1).toNatClampNeg]) (st := []) kl_hE (kl_a10 8 rfl) lvL_125 arX8_soon (c_X8_soon_0 l T (by omega) (by omega) (kw_sh 61 (kw_mixX σ sX)) (by rw [kw_sh_mixX]; exact hM) (xs (x3 + 1).toNatClampNeg) ) (by decide) (Nat.le_of_ble_eq_true rfl) rfl (fun _ _ q => by obtain ⟨-, r, rfl, -⟩ := q; exact fun _ _ => rfl) (fun v sM pM => ?_)
  obtain ⟨⟨IM, FM⟩, rM, rfl, eM⟩ := pM
  rw [kw_sh_mixX] at FM eM
  have AX : kw_I bX (kw_mixM (kw_mixX σ sX) sM) := kw_IX_mixM (kw_IX_mixX IX)
  have AM : kw_I (bM T) (kw_sh 61 (kw_mixM (kw_mixX σ sX) sM)) := by rw [kw_sh_mixM]; exact IM
  have Q := kr_R.fr hR FX FM (by decide) (by decide)
  have AR : kr_R (kw_mixM (kw_mixX σ sX) sM) (kw_sh 61 (kw_mixM (kw_mixX σ sX) sM)) := by rw [kw_sh_mixM]; exact ⟨(Q).1.mix, (Q).2.mix⟩
  generalize (kw_mixM (kw_mixX σ sX) sM) = J at AX AM AR ⊢
  show kw_AW l 30 ((1002, L, xs) :: kw_E0) KJ mL_law kl_P 967 [(3, .int x3), (2, .ref 61), (1, .ref 0), (0, .ref 1002)] [.int rM] J
  refine kw_pop (pc := 967) (i := 609) (kl_a10 9 rfl) rfl ?_
  refine kw_goto (pc := 968) (i := 610) (tgt := 1359) (kl_a10 10 rfl) rfl ?_
  exact hnext J T AX AM AR (by omega) (by omega)
set_option maxRecDepth 100000 in
set_option maxHeartbeats 4000000 in
theorem kl_case27 (l : Launch) (L : Nat) (xs : Nat → Int32) (hL : L ≤ 384) (x3 : Int32) (h0 : 0 ≤ x3.toInt) (h1 : x3.toInt + 6 ≤ L) (σ : kw_S) (T : Int) (hX : kw_I bX σ) (hM : kw_I (bM T) (kw_sh 61 σ)) (hR : kr_R σ (kw_sh 61 σ)) (hT0 : 0 ≤ T) (hT1 : T ≤ 2000) (hnext : ∀ (S : kw_S) (T' : Int), kw_I bX S → kw_I (bM T') (kw_sh 61 S) → kr_R S (kw_sh 61 S) → 0 ≤ T' → T' ≤ T + 20 → kw_AW l 30 ((1002, L, xs) :: kw_E0) KJ mL_law kl_P 1359 [(3, .int x3), (2, .ref 61), (1, .ref 0), (0, .ref 1002)] [] S) : kw_AW l 30 ((1002, L, xs) :: kw_E0) KJ mL_law kl_P 971 [(3, .int x3), (2, .ref 61), (1, .ref 0), (0, .ref 1002)] [] σ := by
  have u1 : (x3 + 1).toInt = x3.toInt + 1 := by rw [kw_addI, show (1 : Int32).toInt = 1 from rfl]; omega
  have u2 : (x3 + 2).toInt = x3.toInt + 2 := by rw [kw_addI, show (2 : Int32).toInt = 2 from rfl]; omega
  have u3 : (x3 + 3).toInt = x3.toInt + 3 := by rw [kw_addI, show (3 : Int32).toInt = 3 from rfl]; omega
  have u4 : (x3 + 4).toInt = x3.toInt + 4 := by rw [kw_addI, show (4 : Int32).toInt = 4 from rfl]; omega
  have u5 : (x3 + 5).toInt = x3.toInt + 5 := by rw [kw_addI, show (5 : Int32).toInt = 5 from rfl]; omega
  refine kw_aload_n (pc := 971) (i := 611) (k := 2) (n := 1) (kl_a10 11 rfl) rfl rfl ?_
  refine kw_aload_n (pc := 972) (i := 612) (k := 3) (n := 0) (kl_a10 12 rfl) rfl rfl ?_
  refine kw_iload_n (pc := 973) (i := 613) (k := 0) (n := 3) (kl_a10 13 rfl) rfl rfl ?_
  refine kw_iconst (pc := 974) (i := 614) (v := 1) (kl_a10 14 rfl) rfl ?_
  refine kw_iadd (pc := 975) (i := 615) (kl_a10 15 rfl) (fun z1 e_z1 t_z1 => ?_)
  subst e_z1
  clear t_z1
  refine kw_tld (pc := 976) (i := 616) (k := 0) (n := L) (kl_a10 16 rfl) rfl (by omega) (by omega) (fun z2 e_z2 => ?_)
  subst e_z2
  refine kw_aload_n (pc := 977) (i := 617) (k := 3) (n := 0) (kl_a10 17 rfl) rfl rfl ?_
  refine kw_iload_n (pc := 978) (i := 618) (k := 0) (n := 3) (kl_a10 18 rfl) rfl rfl ?_
  refine kw_iconst (pc := 979) (i := 619) (v := 2) (kl_a10 19 rfl) rfl ?_
  refine kw_iadd (pc := 980) (i := 620) (kl_a10 20 rfl) (fun z3 e_z3 t_z3 => ?_)
  subst e_z3
  clear t_z3
  refine kw_tld (pc := 981) (i := 621) (k := 0) (n := L) (kl_a10 21 rfl) rfl (by omega) (by omega) (fun z4 e_z4 => ?_)
  subst e_z4
  refine kw_callX (pc := 982) (i := 622) (Y := mX7_least) (xs := [xs (x3 + 1).toNatClampNeg, xs (x3 + 2).toNatClampNeg]) (st := []) kl_hE (kl_a10 22 rfl) lvL_126 arX7_least (c_X7_least_0 l σ hX (xs (x3 + 1).toNatClampNeg) (xs (x3 + 2).toNatClampNeg) ) (by decide) (Nat.le_of_ble_eq_true rfl) rfl (fun v sX pX => ?_)
  obtain ⟨gX, rX, rfl, eX⟩ := pX
  have IX : kw_I bX sX := by rw [gX]; exact hX
  have FX : kw_F [] σ sX := by rw [gX]; exact kw_F.rf
  show kw_AW l 30 ((1002, L, xs) :: kw_E0) KJ mL_law kl_P 985 [(3, .int x3), (2, .ref 61), (1, .ref 0), (0, .ref 1002)] [.int rX] (kw_mixX σ sX)
  refine kw_pop (pc := 985) (i := 623) (kl_a10 23 rfl) rfl ?_
  refine kw_aload_n (pc := 986) (i := 624) (k := 1) (n := 2) (kl_a10 24 rfl) rfl rfl ?_
  refine kw_aload_n (pc := 987) (i := 625) (k := 3) (n := 0) (kl_a10 25 rfl) rfl rfl ?_
  refine kw_iload_n (pc := 988) (i := 626) (k := 0) (n := 3) (kl_a10 26 rfl) rfl rfl ?_
  refine kw_iconst (pc := 989) (i := 627) (v := 1) (kl_a10 27 rfl) rfl ?_
  refine kw_iadd (pc := 990) (i := 628) (kl_a10 28 rfl) (fun z5 e_z5 t_z5 => ?_)
  subst e_z5
  clear t_z5
  refine kw_tld (pc := 991) (i := 629) (k := 0) (n := L) (kl_a10 29 rfl) rfl (by omega) (by omega) (fun z6 e_z6 => ?_)
  subst e_z6
  refine kw_aload_n (pc := 992) (i := 630) (k := 3) (n := 0) (kl_a10 30 rfl) rfl rfl ?_
  refine kw_iload_n (pc := 993) (i := 631) (k := 0) (n := 3) (kl_a10 31 rfl) rfl rfl ?_
  refine kw_iconst (pc := 994) (i := 632) (v := 2) (kl_a10 32 rfl) rfl ?_
  refine kw_iadd (pc := 995) (i := 633) (kl_a10 33 rfl) (fun z7 e_z7 t_z7 => ?_)
  subst e_z7
  clear t_z7
  refine kw_tld (pc := 996) (i := 634) (k := 0) (n := L) (kl_a10 34 rfl) rfl (by omega) (by omega) (fun z8 e_z8 => ?_)
  subst e_z8
  refine kw_callM (pc := 997) (i := 635) (Y := mX8_least) (xs := [xs (x3 + 1).toNatClampNeg, xs (x3 + 2).toNatClampNeg]) (st := []) kl_hE (kl_a10 35 rfl) lvL_129 arX8_least (c_X8_least_0 l T (by omega) (by omega) (kw_sh 61 (kw_mixX σ sX)) (by rw [kw_sh_mixX]; exact hM) (xs (x3 + 1).toNatClampNeg) (xs (x3 + 2).toNatClampNeg) ) (by decide) (Nat.le_of_ble_eq_true rfl) rfl (fun _ _ q => by obtain ⟨-, r, rfl, -⟩ := q; exact fun _ _ => rfl) (fun v sM pM => ?_)
  obtain ⟨⟨IM, FM⟩, rM, rfl, eM⟩ := pM
  rw [kw_sh_mixX] at FM eM
  have AX : kw_I bX (kw_mixM (kw_mixX σ sX) sM) := kw_IX_mixM (kw_IX_mixX IX)
  have AM : kw_I (bM T) (kw_sh 61 (kw_mixM (kw_mixX σ sX) sM)) := by rw [kw_sh_mixM]; exact IM
  have Q := kr_R.fr hR FX FM (by decide) (by decide)
  have AR : kr_R (kw_mixM (kw_mixX σ sX) sM) (kw_sh 61 (kw_mixM (kw_mixX σ sX) sM)) := by rw [kw_sh_mixM]; exact ⟨(Q).1.mix, (Q).2.mix⟩
  generalize (kw_mixM (kw_mixX σ sX) sM) = J at AX AM AR ⊢
  show kw_AW l 30 ((1002, L, xs) :: kw_E0) KJ mL_law kl_P 1000 [(3, .int x3), (2, .ref 61), (1, .ref 0), (0, .ref 1002)] [.int rM] J
  refine kw_pop (pc := 1000) (i := 636) (kl_a10 36 rfl) rfl ?_
  refine kw_goto (pc := 1001) (i := 637) (tgt := 1359) (kl_a10 37 rfl) rfl ?_
  exact hnext J T AX AM AR (by omega) (by omega)
set_option maxRecDepth 100000 in
set_option maxHeartbeats 4000000 in
theorem kl_case28 (l : Launch) (L : Nat) (xs : Nat → Int32) (hL : L ≤ 384) (x3 : Int32) (h0 : 0 ≤ x3.toInt) (h1 : x3.toInt + 6 ≤ L) (σ : kw_S) (T : Int) (hX : kw_I bX σ) (hM : kw_I (bM T) (kw_sh 61 σ)) (hR : kr_R σ (kw_sh 61 σ)) (hT0 : 0 ≤ T) (hT1 : T ≤ 2000) (hnext : ∀ (S : kw_S) (T' : Int), kw_I bX S → kw_I (bM T') (kw_sh 61 S) → kr_R S (kw_sh 61 S) → 0 ≤ T' → T' ≤ T + 20 → kw_AW l 30 ((1002, L, xs) :: kw_E0) KJ mL_law kl_P 1359 [(3, .int x3), (2, .ref 61), (1, .ref 0), (0, .ref 1002)] [] S) : kw_AW l 30 ((1002, L, xs) :: kw_E0) KJ mL_law kl_P 1004 [(3, .int x3), (2, .ref 61), (1, .ref 0), (0, .ref 1002)] [] σ := by
  have u1 : (x3 + 1).toInt = x3.toInt + 1 := by rw [kw_addI, show (1 : Int32).toInt = 1 from rfl]; omega
  have u2 : (x3 + 2).toInt = x3.toInt + 2 := by rw [kw_addI, show (2 : Int32).toInt = 2 from rfl]; omega
  have u3 : (x3 + 3).toInt = x3.toInt + 3 := by rw [kw_addI, show (3 : Int32).toInt = 3 from rfl]; omega
  have u4 : (x3 + 4).toInt = x3.toInt + 4 := by rw [kw_addI, show (4 : Int32).toInt = 4 from rfl]; omega
  have u5 : (x3 + 5).toInt = x3.toInt + 5 := by rw [kw_addI, show (5 : Int32).toInt = 5 from rfl]; omega
  refine kw_aload_n (pc := 1004) (i := 638) (k := 2) (n := 1) (kl_a10 38 rfl) rfl rfl ?_
  refine kw_aload_n (pc := 1005) (i := 639) (k := 3) (n := 0) (kl_a10 39 rfl) rfl rfl ?_
  refine kw_iload_n (pc := 1006) (i := 640) (k := 0) (n := 3) (kl_a10 40 rfl) rfl rfl ?_
  refine kw_iconst (pc := 1007) (i := 641) (v := 1) (kl_a10 41 rfl) rfl ?_
  refine kw_iadd (pc := 1008) (i := 642) (kl_a10 42 rfl) (fun z1 e_z1 t_z1 => ?_)
  subst e_z1
  clear t_z1
  refine kw_tld (pc := 1009) (i := 643) (k := 0) (n := L) (kl_a10 43 rfl) rfl (by omega) (by omega) (fun z2 e_z2 => ?_)
  subst e_z2
  refine kw_aload_n (pc := 1010) (i := 644) (k := 3) (n := 0) (kl_a10 44 rfl) rfl rfl ?_
  refine kw_iload_n (pc := 1011) (i := 645) (k := 0) (n := 3) (kl_a10 45 rfl) rfl rfl ?_
  refine kw_iconst (pc := 1012) (i := 646) (v := 2) (kl_a10 46 rfl) rfl ?_
  refine kw_iadd (pc := 1013) (i := 647) (kl_a10 47 rfl) (fun z3 e_z3 t_z3 => ?_)
  subst e_z3
  clear t_z3
  refine kw_tld (pc := 1014) (i := 648) (k := 0) (n := L) (kl_a10 48 rfl) rfl (by omega) (by omega) (fun z4 e_z4 => ?_)
  subst e_z4
  refine kw_callX (pc := 1015) (i := 649) (Y := mX7_ways) (xs := [xs (x3 + 1).toNatClampNeg, xs (x3 + 2).toNatClampNeg]) (st := []) kl_hE (kl_a10 49 rfl) lvL_130 arX7_ways (c_X7_ways_0 l σ hX (xs (x3 + 1).toNatClampNeg) (xs (x3 + 2).toNatClampNeg) ) (by decide) (Nat.le_of_ble_eq_true rfl) rfl (fun v sX pX => ?_)
  obtain ⟨⟨IX, FX⟩, rX, rfl, f5, eX⟩ := pX
  show kw_AW l 30 ((1002, L, xs) :: kw_E0) KJ mL_law kl_P 1018 [(3, .int x3), (2, .ref 61), (1, .ref 0), (0, .ref 1002)] [.int rX] (kw_mixX σ sX)
  refine kw_pop (pc := 1018) (i := 650) (kl_a10 50 rfl) rfl ?_
  refine kw_aload_n (pc := 1019) (i := 651) (k := 1) (n := 2) (kl_a10 51 rfl) rfl rfl ?_
  refine kw_aload_n (pc := 1020) (i := 652) (k := 3) (n := 0) (kl_a10 52 rfl) rfl rfl ?_
  refine kw_iload_n (pc := 1021) (i := 653) (k := 0) (n := 3) (kl_a10 53 rfl) rfl rfl ?_
  refine kw_iconst (pc := 1022) (i := 654) (v := 1) (kl_a10 54 rfl) rfl ?_
  refine kw_iadd (pc := 1023) (i := 655) (kl_a10 55 rfl) (fun z6 e_z6 t_z6 => ?_)
  subst e_z6
  clear t_z6
  refine kw_tld (pc := 1024) (i := 656) (k := 0) (n := L) (kl_a10 56 rfl) rfl (by omega) (by omega) (fun z7 e_z7 => ?_)
  subst e_z7
  refine kw_aload_n (pc := 1025) (i := 657) (k := 3) (n := 0) (kl_a10 57 rfl) rfl rfl ?_
  refine kw_iload_n (pc := 1026) (i := 658) (k := 0) (n := 3) (kl_a10 58 rfl) rfl rfl ?_
  refine kw_iconst (pc := 1027) (i := 659) (v := 2) (kl_a10 59 rfl) rfl ?_
  refine kw_iadd (pc := 1028) (i := 660) (kl_a11 0 rfl) (fun z8 e_z8 t_z8 => ?_)
  subst e_z8
  clear t_z8
  refine kw_tld (pc := 1029) (i := 661) (k := 0) (n := L) (kl_a11 1 rfl) rfl (by omega) (by omega) (fun z9 e_z9 => ?_)
  subst e_z9
  refine kw_callM (pc := 1030) (i := 662) (Y := mX8_ways) (xs := [xs (x3 + 1).toNatClampNeg, xs (x3 + 2).toNatClampNeg]) (st := []) kl_hE (kl_a11 2 rfl) lvL_133 arX8_ways (c_X8_ways_0 l T (by omega) (by omega) (kw_sh 61 (kw_mixX σ sX)) (by rw [kw_sh_mixX]; exact hM) (xs (x3 + 1).toNatClampNeg) (xs (x3 + 2).toNatClampNeg) ) (by decide) (Nat.le_of_ble_eq_true rfl) rfl (fun _ _ q => by obtain ⟨-, r, rfl, -⟩ := q; exact fun _ _ => rfl) (fun v sM pM => ?_)
  obtain ⟨⟨IM, FM⟩, rM, rfl, f10, eM⟩ := pM
  rw [kw_sh_mixX] at FM eM
  first | rw [kw_sh_mixX] at f10 | skip
  have AX : kw_I bX (kw_mixM (kw_mixX σ sX) sM) := kw_IX_mixM (kw_IX_mixX IX)
  have AM : kw_I (bM T) (kw_sh 61 (kw_mixM (kw_mixX σ sX) sM)) := by rw [kw_sh_mixM]; exact IM
  have Q := kr_R.fr hR FX FM (by decide) (by decide)
  have AR : kr_R (kw_mixM (kw_mixX σ sX) sM) (kw_sh 61 (kw_mixM (kw_mixX σ sX) sM)) := by rw [kw_sh_mixM]; exact ⟨(Q).1.mix, (Q).2.mix⟩
  generalize (kw_mixM (kw_mixX σ sX) sM) = J at AX AM AR ⊢
  show kw_AW l 30 ((1002, L, xs) :: kw_E0) KJ mL_law kl_P 1033 [(3, .int x3), (2, .ref 61), (1, .ref 0), (0, .ref 1002)] [.int rM] J
  refine kw_pop (pc := 1033) (i := 663) (kl_a11 3 rfl) rfl ?_
  refine kw_goto (pc := 1034) (i := 664) (tgt := 1359) (kl_a11 4 rfl) rfl ?_
  exact hnext J T AX AM AR (by omega) (by omega)
set_option maxRecDepth 100000 in
set_option maxHeartbeats 4000000 in
theorem kl_case29 (l : Launch) (L : Nat) (xs : Nat → Int32) (hL : L ≤ 384) (x3 : Int32) (h0 : 0 ≤ x3.toInt) (h1 : x3.toInt + 6 ≤ L) (σ : kw_S) (T : Int) (hX : kw_I bX σ) (hM : kw_I (bM T) (kw_sh 61 σ)) (hR : kr_R σ (kw_sh 61 σ)) (hT0 : 0 ≤ T) (hT1 : T ≤ 2000) (hnext : ∀ (S : kw_S) (T' : Int), kw_I bX S → kw_I (bM T') (kw_sh 61 S) → kr_R S (kw_sh 61 S) → 0 ≤ T' → T' ≤ T + 20 → kw_AW l 30 ((1002, L, xs) :: kw_E0) KJ mL_law kl_P 1359 [(3, .int x3), (2, .ref 61), (1, .ref 0), (0, .ref 1002)] [] S) : kw_AW l 30 ((1002, L, xs) :: kw_E0) KJ mL_law kl_P 1037 [(3, .int x3), (2, .ref 61), (1, .ref 0), (0, .ref 1002)] [] σ := by
  have u1 : (x3 + 1).toInt = x3.toInt + 1 := by rw [kw_addI, show (1 : Int32).toInt = 1 from rfl]; omega
  have u2 : (x3 + 2).toInt = x3.toInt + 2 := by rw [kw_addI, show (2 : Int32).toInt = 2 from rfl]; omega
  have u3 : (x3 + 3).toInt = x3.toInt + 3 := by rw [kw_addI, show (3 : Int32).toInt = 3 from rfl]; omega
  have u4 : (x3 + 4).toInt = x3.toInt + 4 := by rw [kw_addI, show (4 : Int32).toInt = 4 from rfl]; omega
  have u5 : (x3 + 5).toInt = x3.toInt + 5 := by rw [kw_addI, show (5 : Int32).toInt = 5 from rfl]; omega
  refine kw_aload_n (pc := 1037) (i := 665) (k := 2) (n := 1) (kl_a11 5 rfl) rfl rfl ?_
  refine kw_aload_n (pc := 1038) (i := 666) (k := 3) (n := 0) (kl_a11 6 rfl) rfl rfl ?_
  refine kw_iload_n (pc := 1039) (i := 667) (k := 0) (n := 3) (kl_a11 7 rfl) rfl rfl ?_
  refine kw_iconst (pc := 1040) (i := 668) (v := 1) (kl_a11 8 rfl) rfl ?_
  refine kw_iadd (pc := 1041) (i := 669) (kl_a11 9 rfl) (fun z1 e_z1 t_z1 => ?_)
  subst e_z1
  clear t_z1
  refine kw_tld (pc := 1042) (i := 670) (k := 0) (n := L) (kl_a11 10 rfl) rfl (by omega) (by omega) (fun z2 e_z2 => ?_)
  subst e_z2
  refine kw_aload_n (pc := 1043) (i := 671) (k := 3) (n := 0) (kl_a11 11 rfl) rfl rfl ?_
  refine kw_iload_n (pc := 1044) (i := 672) (k := 0) (n := 3) (kl_a11 12 rfl) rfl rfl ?_
  refine kw_iconst (pc := 1045) (i := 673) (v := 2) (kl_a11 13 rfl) rfl ?_
  refine kw_iadd (pc := 1046) (i := 674) (kl_a11 14 rfl) (fun z3 e_z3 t_z3 => ?_)
  subst e_z3
  clear t_z3
  refine kw_tld (pc := 1047) (i := 675) (k := 0) (n := L) (kl_a11 15 rfl) rfl (by omega) (by omega) (fun z4 e_z4 => ?_)
  subst e_z4
  refine kw_callX (pc := 1048) (i := 676) (Y := mX7_kinds) (xs := [xs (x3 + 1).toNatClampNeg, xs (x3 + 2).toNatClampNeg]) (st := []) kl_hE (kl_a11 16 rfl) lvL_134 arX7_kinds (c_X7_kinds_0 l σ hX (xs (x3 + 1).toNatClampNeg) (xs (x3 + 2).toNatClampNeg) ) (by decide) (Nat.le_of_ble_eq_true rfl) rfl (fun v sX pX => ?_)
  obtain ⟨⟨IX, FX⟩, rX, rfl, eX⟩ := pX
  show kw_AW l 30 ((1002, L, xs) :: kw_E0) KJ mL_law kl_P 1051 [(3, .int x3), (2, .ref 61), (1, .ref 0), (0, .ref 1002)] [.int rX] (kw_mixX σ sX)
  refine kw_pop (pc := 1051) (i := 677) (kl_a11 17 rfl) rfl ?_
  refine kw_aload_n (pc := 1052) (i := 678) (k := 1) (n := 2) (kl_a11 18 rfl) rfl rfl ?_
  refine kw_aload_n (pc := 1053) (i := 679) (k := 3) (n := 0) (kl_a11 19 rfl) rfl rfl ?_
  refine kw_iload_n (pc := 1054) (i := 680) (k := 0) (n := 3) (kl_a11 20 rfl) rfl rfl ?_
  refine kw_iconst (pc := 1055) (i := 681) (v := 1) (kl_a11 21 rfl) rfl ?_
  refine kw_iadd (pc := 1056) (i := 682) (kl_a11 22 rfl) (fun z5 e_z5 t_z5 => ?_)
  subst e_z5
  clear t_z5
  refine kw_tld (pc := 1057) (i := 683) (k := 0) (n := L) (kl_a11 23 rfl) rfl (by omega) (by omega) (fun z6 e_z6 => ?_)
  subst e_z6
  refine kw_aload_n (pc := 1058) (i := 684) (k := 3) (n := 0) (kl_a11 24 rfl) rfl rfl ?_
  refine kw_iload_n (pc := 1059) (i := 685) (k := 0) (n := 3) (kl_a11 25 rfl) rfl rfl ?_
  refine kw_iconst (pc := 1060) (i := 686) (v := 2) (kl_a11 26 rfl) rfl ?_
  refine kw_iadd (pc := 1061) (i := 687) (kl_a11 27 rfl) (fun z7 e_z7 t_z7 => ?_)
  subst e_z7
  clear t_z7
  refine kw_tld (pc := 1062) (i := 688) (k := 0) (n := L) (kl_a11 28 rfl) rfl (by omega) (by omega) (fun z8 e_z8 => ?_)
  subst e_z8
  refine kw_callM (pc := 1063) (i := 689) (Y := mX8_kinds) (xs := [xs (x3 + 1).toNatClampNeg, xs (x3 + 2).toNatClampNeg]) (st := []) kl_hE (kl_a11 29 rfl) lvL_137 arX8_kinds (c_X8_kinds_0 l T (by omega) (by omega) (kw_sh 61 (kw_mixX σ sX)) (by rw [kw_sh_mixX]; exact hM) (xs (x3 + 1).toNatClampNeg) (xs (x3 + 2).toNatClampNeg) ) (by decide) (Nat.le_of_ble_eq_true rfl) rfl (fun _ _ q => by obtain ⟨-, r, rfl, -⟩ := q; exact fun _ _ => rfl) (fun v sM pM => ?_)
  obtain ⟨⟨IM, FM⟩, rM, rfl, eM⟩ := pM
  rw [kw_sh_mixX] at FM eM
  have AX : kw_I bX (kw_mixM (kw_mixX σ sX) sM) := kw_IX_mixM (kw_IX_mixX IX)
  have AM : kw_I (bM T) (kw_sh 61 (kw_mixM (kw_mixX σ sX) sM)) := by rw [kw_sh_mixM]; exact IM
  have Q := kr_R.fr hR FX FM (by decide) (by decide)
  have AR : kr_R (kw_mixM (kw_mixX σ sX) sM) (kw_sh 61 (kw_mixM (kw_mixX σ sX) sM)) := by rw [kw_sh_mixM]; exact ⟨(Q).1.mix, (Q).2.mix⟩
  generalize (kw_mixM (kw_mixX σ sX) sM) = J at AX AM AR ⊢
  show kw_AW l 30 ((1002, L, xs) :: kw_E0) KJ mL_law kl_P 1066 [(3, .int x3), (2, .ref 61), (1, .ref 0), (0, .ref 1002)] [.int rM] J
  refine kw_pop (pc := 1066) (i := 690) (kl_a11 30 rfl) rfl ?_
  refine kw_goto (pc := 1067) (i := 691) (tgt := 1359) (kl_a11 31 rfl) rfl ?_
  exact hnext J T AX AM AR (by omega) (by omega)
set_option maxRecDepth 100000 in
set_option maxHeartbeats 4000000 in
theorem kl_case30 (l : Launch) (L : Nat) (xs : Nat → Int32) (hL : L ≤ 384) (x3 : Int32) (h0 : 0 ≤ x3.toInt) (h1 : x3.toInt + 6 ≤ L) (σ : kw_S) (T : Int) (hX : kw_I bX σ) (hM : kw_I (bM T) (kw_sh 61 σ)) (hR : kr_R σ (kw_sh 61 σ)) (hT0 : 0 ≤ T) (hT1 : T ≤ 2000) (hnext : ∀ (S : kw_S) (T' : Int), kw_I bX S → kw_I (bM T') (kw_sh 61 S) → kr_R S (kw_sh 61 S) → 0 ≤ T' → T' ≤ T + 20 → kw_AW l 30 ((1002, L, xs) :: kw_E0) KJ mL_law kl_P 1359 [(3, .int x3), (2, .ref 61), (1, .ref 0), (0, .ref 1002)] [] S) : kw_AW l 30 ((1002, L, xs) :: kw_E0) KJ mL_law kl_P 1070 [(3, .int x3), (2, .ref 61), (1, .ref 0), (0, .ref 1002)] [] σ := by
  have u1 : (x3 + 1).toInt = x3.toInt + 1 := by rw [kw_addI, show (1 : Int32).toInt = 1 from rfl]; omega
  have u2 : (x3 + 2).toInt = x3.toInt + 2 := by rw [kw_addI, show (2 : Int32).toInt = 2 from rfl]; omega
  have u3 : (x3 + 3).toInt = x3.toInt + 3 := by rw [kw_addI, show (3 : Int32).toInt = 3 from rfl]; omega
  have u4 : (x3 + 4).toInt = x3.toInt + 4 := by rw [kw_addI, show (4 : Int32).toInt = 4 from rfl]; omega
  have u5 : (x3 + 5).toInt = x3.toInt + 5 := by rw [kw_addI, show (5 : Int32).toInt = 5 from rfl]; omega
  refine kw_aload_n (pc := 1070) (i := 692) (k := 2) (n := 1) (kl_a11 32 rfl) rfl rfl ?_
  refine kw_aload_n (pc := 1071) (i := 693) (k := 3) (n := 0) (kl_a11 33 rfl) rfl rfl ?_
  refine kw_iload_n (pc := 1072) (i := 694) (k := 0) (n := 3) (kl_a11 34 rfl) rfl rfl ?_
  refine kw_iconst (pc := 1073) (i := 695) (v := 1) (kl_a11 35 rfl) rfl ?_
  refine kw_iadd (pc := 1074) (i := 696) (kl_a11 36 rfl) (fun z1 e_z1 t_z1 => ?_)
  subst e_z1
  clear t_z1
  refine kw_tld (pc := 1075) (i := 697) (k := 0) (n := L) (kl_a11 37 rfl) rfl (by omega) (by omega) (fun z2 e_z2 => ?_)
  subst e_z2
  refine kw_aload_n (pc := 1076) (i := 698) (k := 3) (n := 0) (kl_a11 38 rfl) rfl rfl ?_
  refine kw_iload_n (pc := 1077) (i := 699) (k := 0) (n := 3) (kl_a11 39 rfl) rfl rfl ?_
  refine kw_iconst (pc := 1078) (i := 700) (v := 2) (kl_a11 40 rfl) rfl ?_
  refine kw_iadd (pc := 1079) (i := 701) (kl_a11 41 rfl) (fun z3 e_z3 t_z3 => ?_)
  subst e_z3
  clear t_z3
  refine kw_tld (pc := 1080) (i := 702) (k := 0) (n := L) (kl_a11 42 rfl) rfl (by omega) (by omega) (fun z4 e_z4 => ?_)
  subst e_z4
  refine kw_callX (pc := 1081) (i := 703) (Y := mX7_areas) (xs := [xs (x3 + 1).toNatClampNeg, xs (x3 + 2).toNatClampNeg]) (st := []) kl_hE (kl_a11 43 rfl) lvL_138 arX7_areas (c_X7_areas_0 l σ hX (xs (x3 + 1).toNatClampNeg) (xs (x3 + 2).toNatClampNeg) ) (by decide) (Nat.le_of_ble_eq_true rfl) rfl (fun v sX pX => ?_)
  obtain ⟨⟨IX, FX⟩, rX, rfl, eX⟩ := pX
  show kw_AW l 30 ((1002, L, xs) :: kw_E0) KJ mL_law kl_P 1084 [(3, .int x3), (2, .ref 61), (1, .ref 0), (0, .ref 1002)] [.int rX] (kw_mixX σ sX)
  refine kw_pop (pc := 1084) (i := 704) (kl_a11 44 rfl) rfl ?_
  refine kw_aload_n (pc := 1085) (i := 705) (k := 1) (n := 2) (kl_a11 45 rfl) rfl rfl ?_
  refine kw_aload_n (pc := 1086) (i := 706) (k := 3) (n := 0) (kl_a11 46 rfl) rfl rfl ?_
  refine kw_iload_n (pc := 1087) (i := 707) (k := 0) (n := 3) (kl_a11 47 rfl) rfl rfl ?_
  refine kw_iconst (pc := 1088) (i := 708) (v := 1) (kl_a11 48 rfl) rfl ?_
  refine kw_iadd (pc := 1089) (i := 709) (kl_a11 49 rfl) (fun z5 e_z5 t_z5 => ?_)
  subst e_z5
  clear t_z5
  refine kw_tld (pc := 1090) (i := 710) (k := 0) (n := L) (kl_a11 50 rfl) rfl (by omega) (by omega) (fun z6 e_z6 => ?_)
  subst e_z6
  refine kw_aload_n (pc := 1091) (i := 711) (k := 3) (n := 0) (kl_a11 51 rfl) rfl rfl ?_
  refine kw_iload_n (pc := 1092) (i := 712) (k := 0) (n := 3) (kl_a11 52 rfl) rfl rfl ?_
  refine kw_iconst (pc := 1093) (i := 713) (v := 2) (kl_a11 53 rfl) rfl ?_
  refine kw_iadd (pc := 1094) (i := 714) (kl_a11 54 rfl) (fun z7 e_z7 t_z7 => ?_)
  subst e_z7
  clear t_z7
  refine kw_tld (pc := 1095) (i := 715) (k := 0) (n := L) (kl_a11 55 rfl) rfl (by omega) (by omega) (fun z8 e_z8 => ?_)
  subst e_z8
  refine kw_callM (pc := 1096) (i := 716) (Y := mX8_areas) (xs := [xs (x3 + 1).toNatClampNeg, xs (x3 + 2).toNatClampNeg]) (st := []) kl_hE (kl_a11 56 rfl) lvL_141 arX8_areas (c_X8_areas_0 l T (by omega) (by omega) (kw_sh 61 (kw_mixX σ sX)) (by rw [kw_sh_mixX]; exact hM) (xs (x3 + 1).toNatClampNeg) (xs (x3 + 2).toNatClampNeg) ) (by decide) (Nat.le_of_ble_eq_true rfl) rfl (fun _ _ q => by obtain ⟨-, r, rfl, -⟩ := q; exact fun _ _ => rfl) (fun v sM pM => ?_)
  obtain ⟨⟨IM, FM⟩, rM, rfl, eM⟩ := pM
  rw [kw_sh_mixX] at FM eM
  have AX : kw_I bX (kw_mixM (kw_mixX σ sX) sM) := kw_IX_mixM (kw_IX_mixX IX)
  have AM : kw_I (bM T) (kw_sh 61 (kw_mixM (kw_mixX σ sX) sM)) := by rw [kw_sh_mixM]; exact IM
  have Q := kr_R.fr hR FX FM (by decide) (by decide)
  have AR : kr_R (kw_mixM (kw_mixX σ sX) sM) (kw_sh 61 (kw_mixM (kw_mixX σ sX) sM)) := by rw [kw_sh_mixM]; exact ⟨(Q).1.mix, (Q).2.mix⟩
  generalize (kw_mixM (kw_mixX σ sX) sM) = J at AX AM AR ⊢
  show kw_AW l 30 ((1002, L, xs) :: kw_E0) KJ mL_law kl_P 1099 [(3, .int x3), (2, .ref 61), (1, .ref 0), (0, .ref 1002)] [.int rM] J
  refine kw_pop (pc := 1099) (i := 717) (kl_a11 57 rfl) rfl ?_
  refine kw_goto (pc := 1100) (i := 718) (tgt := 1359) (kl_a11 58 rfl) rfl ?_
  exact hnext J T AX AM AR (by omega) (by omega)
set_option maxRecDepth 100000 in
set_option maxHeartbeats 4000000 in
theorem kl_case31 (l : Launch) (L : Nat) (xs : Nat → Int32) (hL : L ≤ 384) (x3 : Int32) (h0 : 0 ≤ x3.toInt) (h1 : x3.toInt + 6 ≤ L) (σ : kw_S) (T : Int) (hX : kw_I bX σ) (hM : kw_I (bM T) (kw_sh 61 σ)) (hR : kr_R σ (kw_sh 61 σ)) (hT0 : 0 ≤ T) (hT1 : T ≤ 2000) (hnext : ∀ (S : kw_S) (T' : Int), kw_I bX S → kw_I (bM T') (kw_sh 61 S) → kr_R S (kw_sh 61 S) → 0 ≤ T' → T' ≤ T + 20 → kw_AW l 30 ((1002, L, xs) :: kw_E0) KJ mL_law kl_P 1359 [(3, .int x3), (2, .ref 61), (1, .ref 0), (0, .ref 1002)] [] S) : kw_AW l 30 ((1002, L, xs) :: kw_E0) KJ mL_law kl_P 1103 [(3, .int x3), (2, .ref 61), (1, .ref 0), (0, .ref 1002)] [] σ := by
  have u1 : (x3 + 1).toInt = x3.toInt + 1 := by rw [kw_addI, show (1 : Int32).toInt = 1 from rfl]; omega
  have u2 : (x3 + 2).toInt = x3.toInt + 2 := by rw [kw_addI, show (2 : Int32).toInt = 2 from rfl]; omega
  have u3 : (x3 + 3).toInt = x3.toInt + 3 := by rw [kw_addI, show (3 : Int32).toInt = 3 from rfl]; omega
  have u4 : (x3 + 4).toInt = x3.toInt + 4 := by rw [kw_addI, show (4 : Int32).toInt = 4 from rfl]; omega
  have u5 : (x3 + 5).toInt = x3.toInt + 5 := by rw [kw_addI, show (5 : Int32).toInt = 5 from rfl]; omega
  refine kw_aload_n (pc := 1103) (i := 719) (k := 2) (n := 1) (kl_a11 59 rfl) rfl rfl ?_
  refine kw_aload_n (pc := 1104) (i := 720) (k := 3) (n := 0) (kl_a12 0 rfl) rfl rfl ?_
  refine kw_iload_n (pc := 1105) (i := 721) (k := 0) (n := 3) (kl_a12 1 rfl) rfl rfl ?_
  refine kw_iconst (pc := 1106) (i := 722) (v := 1) (kl_a12 2 rfl) rfl ?_
  refine kw_iadd (pc := 1107) (i := 723) (kl_a12 3 rfl) (fun z1 e_z1 t_z1 => ?_)
  subst e_z1
  clear t_z1
  refine kw_tld (pc := 1108) (i := 724) (k := 0) (n := L) (kl_a12 4 rfl) rfl (by omega) (by omega) (fun z2 e_z2 => ?_)
  subst e_z2
  refine kw_callX (pc := 1109) (i := 725) (Y := mX7_rival) (xs := [xs (x3 + 1).toNatClampNeg]) (st := []) kl_hE (kl_a12 5 rfl) lvL_142 arX7_rival (c_X7_rival_0 l σ hX (xs (x3 + 1).toNatClampNeg) ) (by decide) (Nat.le_of_ble_eq_true rfl) rfl (fun v sX pX => ?_)
  obtain ⟨⟨IX, FX⟩, rX, rfl, f3, eX⟩ := pX
  show kw_AW l 30 ((1002, L, xs) :: kw_E0) KJ mL_law kl_P 1112 [(3, .int x3), (2, .ref 61), (1, .ref 0), (0, .ref 1002)] [.int rX] (kw_mixX σ sX)
  refine kw_aload_n (pc := 1112) (i := 726) (k := 1) (n := 2) (kl_a12 6 rfl) rfl rfl ?_
  refine kw_aload_n (pc := 1113) (i := 727) (k := 3) (n := 0) (kl_a12 7 rfl) rfl rfl ?_
  refine kw_iload_n (pc := 1114) (i := 728) (k := 0) (n := 3) (kl_a12 8 rfl) rfl rfl ?_
  refine kw_iconst (pc := 1115) (i := 729) (v := 1) (kl_a12 9 rfl) rfl ?_
  refine kw_iadd (pc := 1116) (i := 730) (kl_a12 10 rfl) (fun z4 e_z4 t_z4 => ?_)
  subst e_z4
  clear t_z4
  refine kw_tld (pc := 1117) (i := 731) (k := 0) (n := L) (kl_a12 11 rfl) rfl (by omega) (by omega) (fun z5 e_z5 => ?_)
  subst e_z5
  refine kw_callM (pc := 1118) (i := 732) (Y := mX8_rival) (xs := [xs (x3 + 1).toNatClampNeg]) (st := [.int rX]) kl_hE (kl_a12 12 rfl) lvL_145 arX8_rival (c_X8_rival_0 l T (by omega) (by omega) (kw_sh 61 (kw_mixX σ sX)) (by rw [kw_sh_mixX]; exact hM) (xs (x3 + 1).toNatClampNeg) ) (by decide) (Nat.le_of_ble_eq_true rfl) rfl (fun _ _ q => by obtain ⟨-, r, rfl, -⟩ := q; exact fun _ _ => rfl) (fun v sM pM => ?_)
  obtain ⟨⟨IM, FM⟩, rM, rfl, f6, eM⟩ := pM
  rw [kw_sh_mixX] at FM eM
  first | rw [kw_sh_mixX] at f6 | skip
  have AX : kw_I bX (kw_mixM (kw_mixX σ sX) sM) := kw_IX_mixM (kw_IX_mixX IX)
  have AM : kw_I (bM T) (kw_sh 61 (kw_mixM (kw_mixX σ sX) sM)) := by rw [kw_sh_mixM]; exact IM
  have Q := kr_R.fr hR FX FM (by decide) (by decide)
  have AR : kr_R (kw_mixM (kw_mixX σ sX) sM) (kw_sh 61 (kw_mixM (kw_mixX σ sX) sM)) := by rw [kw_sh_mixM]; exact ⟨(Q).1.mix, (Q).2.mix⟩
  generalize (kw_mixM (kw_mixX σ sX) sM) = J at AX AM AR ⊢
  show kw_AW l 30 ((1002, L, xs) :: kw_E0) KJ mL_law kl_P 1121 [(3, .int x3), (2, .ref 61), (1, .ref 0), (0, .ref 1002)] [.int rM, .int rX] J
  refine kw_icmp_eq (pc := 1121) (i := 733) (tgt := 1359) (kl_a12 13 rfl) rfl (fun _ => ?_) (fun c => ?_)
  · exact hnext J T AX AM AR (by omega) (by omega)
  · have hl := congrArg Int32.toInt hR.2.1; have hl2 := hR.2.2.1; exfalso; omega
set_option maxRecDepth 100000 in
set_option maxHeartbeats 4000000 in
theorem kl_case32 (l : Launch) (L : Nat) (xs : Nat → Int32) (hL : L ≤ 384) (x3 : Int32) (h0 : 0 ≤ x3.toInt) (h1 : x3.toInt + 6 ≤ L) (σ : kw_S) (T : Int) (hX : kw_I bX σ) (hM : kw_I (bM T) (kw_sh 61 σ)) (hR : kr_R σ (kw_sh 61 σ)) (hT0 : 0 ≤ T) (hT1 : T ≤ 2000) (hnext : ∀ (S : kw_S) (T' : Int), kw_I bX S → kw_I (bM T') (kw_sh 61 S) → kr_R S (kw_sh 61 S) → 0 ≤ T' → T' ≤ T + 20 → kw_AW l 30 ((1002, L, xs) :: kw_E0) KJ mL_law kl_P 1359 [(3, .int x3), (2, .ref 61), (1, .ref 0), (0, .ref 1002)] [] S) : kw_AW l 30 ((1002, L, xs) :: kw_E0) KJ mL_law kl_P 1126 [(3, .int x3), (2, .ref 61), (1, .ref 0), (0, .ref 1002)] [] σ := by
  have u1 : (x3 + 1).toInt = x3.toInt + 1 := by rw [kw_addI, show (1 : Int32).toInt = 1 from rfl]; omega
  have u2 : (x3 + 2).toInt = x3.toInt + 2 := by rw [kw_addI, show (2 : Int32).toInt = 2 from rfl]; omega
  have u3 : (x3 + 3).toInt = x3.toInt + 3 := by rw [kw_addI, show (3 : Int32).toInt = 3 from rfl]; omega
  have u4 : (x3 + 4).toInt = x3.toInt + 4 := by rw [kw_addI, show (4 : Int32).toInt = 4 from rfl]; omega
  have u5 : (x3 + 5).toInt = x3.toInt + 5 := by rw [kw_addI, show (5 : Int32).toInt = 5 from rfl]; omega
  refine kw_aload_n (pc := 1126) (i := 736) (k := 2) (n := 1) (kl_a12 16 rfl) rfl rfl ?_
  refine kw_aload_n (pc := 1127) (i := 737) (k := 3) (n := 0) (kl_a12 17 rfl) rfl rfl ?_
  refine kw_iload_n (pc := 1128) (i := 738) (k := 0) (n := 3) (kl_a12 18 rfl) rfl rfl ?_
  refine kw_iconst (pc := 1129) (i := 739) (v := 1) (kl_a12 19 rfl) rfl ?_
  refine kw_iadd (pc := 1130) (i := 740) (kl_a12 20 rfl) (fun z1 e_z1 t_z1 => ?_)
  subst e_z1
  clear t_z1
  refine kw_tld (pc := 1131) (i := 741) (k := 0) (n := L) (kl_a12 21 rfl) rfl (by omega) (by omega) (fun z2 e_z2 => ?_)
  subst e_z2
  refine kw_aload_n (pc := 1132) (i := 742) (k := 3) (n := 0) (kl_a12 22 rfl) rfl rfl ?_
  refine kw_iload_n (pc := 1133) (i := 743) (k := 0) (n := 3) (kl_a12 23 rfl) rfl rfl ?_
  refine kw_iconst (pc := 1134) (i := 744) (v := 2) (kl_a12 24 rfl) rfl ?_
  refine kw_iadd (pc := 1135) (i := 745) (kl_a12 25 rfl) (fun z3 e_z3 t_z3 => ?_)
  subst e_z3
  clear t_z3
  refine kw_tld (pc := 1136) (i := 746) (k := 0) (n := L) (kl_a12 26 rfl) rfl (by omega) (by omega) (fun z4 e_z4 => ?_)
  subst e_z4
  refine kw_callX (pc := 1137) (i := 747) (Y := mX7_mid) (xs := [xs (x3 + 1).toNatClampNeg, xs (x3 + 2).toNatClampNeg]) (st := []) kl_hE (kl_a12 27 rfl) lvL_146 arX7_mid (c_X7_mid_0 l σ hX (xs (x3 + 1).toNatClampNeg) (xs (x3 + 2).toNatClampNeg) ) (by decide) (Nat.le_of_ble_eq_true rfl) rfl (fun v sX pX => ?_)
  obtain ⟨⟨IX, FX⟩, rX, rfl, eX⟩ := pX
  show kw_AW l 30 ((1002, L, xs) :: kw_E0) KJ mL_law kl_P 1140 [(3, .int x3), (2, .ref 61), (1, .ref 0), (0, .ref 1002)] [.int rX] (kw_mixX σ sX)
  refine kw_pop (pc := 1140) (i := 748) (kl_a12 28 rfl) rfl ?_
  refine kw_aload_n (pc := 1141) (i := 749) (k := 1) (n := 2) (kl_a12 29 rfl) rfl rfl ?_
  refine kw_aload_n (pc := 1142) (i := 750) (k := 3) (n := 0) (kl_a12 30 rfl) rfl rfl ?_
  refine kw_iload_n (pc := 1143) (i := 751) (k := 0) (n := 3) (kl_a12 31 rfl) rfl rfl ?_
  refine kw_iconst (pc := 1144) (i := 752) (v := 1) (kl_a12 32 rfl) rfl ?_
  refine kw_iadd (pc := 1145) (i := 753) (kl_a12 33 rfl) (fun z5 e_z5 t_z5 => ?_)
  subst e_z5
  clear t_z5
  refine kw_tld (pc := 1146) (i := 754) (k := 0) (n := L) (kl_a12 34 rfl) rfl (by omega) (by omega) (fun z6 e_z6 => ?_)
  subst e_z6
  refine kw_aload_n (pc := 1147) (i := 755) (k := 3) (n := 0) (kl_a12 35 rfl) rfl rfl ?_
  refine kw_iload_n (pc := 1148) (i := 756) (k := 0) (n := 3) (kl_a12 36 rfl) rfl rfl ?_
  refine kw_iconst (pc := 1149) (i := 757) (v := 2) (kl_a12 37 rfl) rfl ?_
  refine kw_iadd (pc := 1150) (i := 758) (kl_a12 38 rfl) (fun z7 e_z7 t_z7 => ?_)
  subst e_z7
  clear t_z7
  refine kw_tld (pc := 1151) (i := 759) (k := 0) (n := L) (kl_a12 39 rfl) rfl (by omega) (by omega) (fun z8 e_z8 => ?_)
  subst e_z8
  refine kw_callM (pc := 1152) (i := 760) (Y := mX8_mid) (xs := [xs (x3 + 1).toNatClampNeg, xs (x3 + 2).toNatClampNeg]) (st := []) kl_hE (kl_a12 40 rfl) lvL_149 arX8_mid (c_X8_mid_0 l T (by omega) (by omega) (kw_sh 61 (kw_mixX σ sX)) (by rw [kw_sh_mixX]; exact hM) (xs (x3 + 1).toNatClampNeg) (xs (x3 + 2).toNatClampNeg) ) (by decide) (Nat.le_of_ble_eq_true rfl) rfl (fun _ _ q => by obtain ⟨-, r, rfl, -⟩ := q; exact fun _ _ => rfl) (fun v sM pM => ?_)
  obtain ⟨⟨IM, FM⟩, rM, rfl, eM⟩ := pM
  rw [kw_sh_mixX] at FM eM
  have AX : kw_I bX (kw_mixM (kw_mixX σ sX) sM) := kw_IX_mixM (kw_IX_mixX IX)
  have AM : kw_I (bM T) (kw_sh 61 (kw_mixM (kw_mixX σ sX) sM)) := by rw [kw_sh_mixM]; exact IM
  have Q := kr_R.fr hR FX FM (by decide) (by decide)
  have AR : kr_R (kw_mixM (kw_mixX σ sX) sM) (kw_sh 61 (kw_mixM (kw_mixX σ sX) sM)) := by rw [kw_sh_mixM]; exact ⟨(Q).1.mix, (Q).2.mix⟩
  generalize (kw_mixM (kw_mixX σ sX) sM) = J at AX AM AR ⊢
  show kw_AW l 30 ((1002, L, xs) :: kw_E0) KJ mL_law kl_P 1155 [(3, .int x3), (2, .ref 61), (1, .ref 0), (0, .ref 1002)] [.int rM] J
  refine kw_pop (pc := 1155) (i := 761) (kl_a12 41 rfl) rfl ?_
  refine kw_goto (pc := 1156) (i := 762) (tgt := 1359) (kl_a12 42 rfl) rfl ?_
  exact hnext J T AX AM AR (by omega) (by omega)
set_option maxRecDepth 100000 in
set_option maxHeartbeats 4000000 in
theorem kl_case33 (l : Launch) (L : Nat) (xs : Nat → Int32) (hL : L ≤ 384) (x3 : Int32) (h0 : 0 ≤ x3.toInt) (h1 : x3.toInt + 6 ≤ L) (σ : kw_S) (T : Int) (hX : kw_I bX σ) (hM : kw_I (bM T) (kw_sh 61 σ)) (hR : kr_R σ (kw_sh 61 σ)) (hT0 : 0 ≤ T) (hT1 : T ≤ 2000) (hnext : ∀ (S : kw_S) (T' : Int), kw_I bX S → kw_I (bM T') (kw_sh 61 S) → kr_R S (kw_sh 61 S) → 0 ≤ T' → T' ≤ T + 20 → kw_AW l 30 ((1002, L, xs) :: kw_E0) KJ mL_law kl_P 1359 [(3, .int x3), (2, .ref 61), (1, .ref 0), (0, .ref 1002)] [] S) : kw_AW l 30 ((1002, L, xs) :: kw_E0) KJ mL_law kl_P 1159 [(3, .int x3), (2, .ref 61), (1, .ref 0), (0, .ref 1002)] [] σ := by
  have u1 : (x3 + 1).toInt = x3.toInt + 1 := by rw [kw_addI, show (1 : Int32).toInt = 1 from rfl]; omega
  have u2 : (x3 + 2).toInt = x3.toInt + 2 := by rw [kw_addI, show (2 : Int32).toInt = 2 from rfl]; omega
  have u3 : (x3 + 3).toInt = x3.toInt + 3 := by rw [kw_addI, show (3 : Int32).toInt = 3 from rfl]; omega
  have u4 : (x3 + 4).toInt = x3.toInt + 4 := by rw [kw_addI, show (4 : Int32).toInt = 4 from rfl]; omega
  have u5 : (x3 + 5).toInt = x3.toInt + 5 := by rw [kw_addI, show (5 : Int32).toInt = 5 from rfl]; omega
  refine kw_aload_n (pc := 1159) (i := 763) (k := 2) (n := 1) (kl_a12 43 rfl) rfl rfl ?_
  refine kw_aload_n (pc := 1160) (i := 764) (k := 3) (n := 0) (kl_a12 44 rfl) rfl rfl ?_
  refine kw_iload_n (pc := 1161) (i := 765) (k := 0) (n := 3) (kl_a12 45 rfl) rfl rfl ?_
  refine kw_iconst (pc := 1162) (i := 766) (v := 1) (kl_a12 46 rfl) rfl ?_
  refine kw_iadd (pc := 1163) (i := 767) (kl_a12 47 rfl) (fun z1 e_z1 t_z1 => ?_)
  subst e_z1
  clear t_z1
  refine kw_tld (pc := 1164) (i := 768) (k := 0) (n := L) (kl_a12 48 rfl) rfl (by omega) (by omega) (fun z2 e_z2 => ?_)
  subst e_z2
  refine kw_aload_n (pc := 1165) (i := 769) (k := 3) (n := 0) (kl_a12 49 rfl) rfl rfl ?_
  refine kw_iload_n (pc := 1166) (i := 770) (k := 0) (n := 3) (kl_a12 50 rfl) rfl rfl ?_
  refine kw_iconst (pc := 1167) (i := 771) (v := 2) (kl_a12 51 rfl) rfl ?_
  refine kw_iadd (pc := 1168) (i := 772) (kl_a12 52 rfl) (fun z3 e_z3 t_z3 => ?_)
  subst e_z3
  clear t_z3
  refine kw_tld (pc := 1169) (i := 773) (k := 0) (n := L) (kl_a12 53 rfl) rfl (by omega) (by omega) (fun z4 e_z4 => ?_)
  subst e_z4
  refine kw_aload_n (pc := 1170) (i := 774) (k := 3) (n := 0) (kl_a12 54 rfl) rfl rfl ?_
  refine kw_iload_n (pc := 1171) (i := 775) (k := 0) (n := 3) (kl_a12 55 rfl) rfl rfl ?_
  refine kw_iconst (pc := 1172) (i := 776) (v := 3) (kl_a12 56 rfl) rfl ?_
  refine kw_iadd (pc := 1173) (i := 777) (kl_a12 57 rfl) (fun z5 e_z5 t_z5 => ?_)
  subst e_z5
  clear t_z5
  refine kw_tld (pc := 1174) (i := 778) (k := 0) (n := L) (kl_a12 58 rfl) rfl (by omega) (by omega) (fun z6 e_z6 => ?_)
  subst e_z6
  refine kw_callX (pc := 1175) (i := 779) (Y := mX7_odds) (xs := [xs (x3 + 1).toNatClampNeg, xs (x3 + 2).toNatClampNeg, xs (x3 + 3).toNatClampNeg]) (st := []) kl_hE (kl_a12 59 rfl) lvL_150 arX7_odds (c_X7_odds_0 l σ hX (xs (x3 + 1).toNatClampNeg) (xs (x3 + 2).toNatClampNeg) (xs (x3 + 3).toNatClampNeg) ) (by decide) (Nat.le_of_ble_eq_true rfl) rfl (fun v sX pX => ?_)
  obtain ⟨⟨IX, FX⟩, rX, rfl, eX⟩ := pX
  show kw_AW l 30 ((1002, L, xs) :: kw_E0) KJ mL_law kl_P 1178 [(3, .int x3), (2, .ref 61), (1, .ref 0), (0, .ref 1002)] [.int rX] (kw_mixX σ sX)
  refine kw_pop (pc := 1178) (i := 780) (kl_a13 0 rfl) rfl ?_
  refine kw_aload_n (pc := 1179) (i := 781) (k := 1) (n := 2) (kl_a13 1 rfl) rfl rfl ?_
  refine kw_aload_n (pc := 1180) (i := 782) (k := 3) (n := 0) (kl_a13 2 rfl) rfl rfl ?_
  refine kw_iload_n (pc := 1181) (i := 783) (k := 0) (n := 3) (kl_a13 3 rfl) rfl rfl ?_
  refine kw_iconst (pc := 1182) (i := 784) (v := 1) (kl_a13 4 rfl) rfl ?_
  refine kw_iadd (pc := 1183) (i := 785) (kl_a13 5 rfl) (fun z7 e_z7 t_z7 => ?_)
  subst e_z7
  clear t_z7
  refine kw_tld (pc := 1184) (i := 786) (k := 0) (n := L) (kl_a13 6 rfl) rfl (by omega) (by omega) (fun z8 e_z8 => ?_)
  subst e_z8
  refine kw_aload_n (pc := 1185) (i := 787) (k := 3) (n := 0) (kl_a13 7 rfl) rfl rfl ?_
  refine kw_iload_n (pc := 1186) (i := 788) (k := 0) (n := 3) (kl_a13 8 rfl) rfl rfl ?_
  refine kw_iconst (pc := 1187) (i := 789) (v := 2) (kl_a13 9 rfl) rfl ?_
  refine kw_iadd (pc := 1188) (i := 790) (kl_a13 10 rfl) (fun z9 e_z9 t_z9 => ?_)
  subst e_z9
  clear t_z9
  refine kw_tld (pc := 1189) (i := 791) (k := 0) (n := L) (kl_a13 11 rfl) rfl (by omega) (by omega) (fun z10 e_z10 => ?_)
  subst e_z10
  refine kw_aload_n (pc := 1190) (i := 792) (k := 3) (n := 0) (kl_a13 12 rfl) rfl rfl ?_
  refine kw_iload_n (pc := 1191) (i := 793) (k := 0) (n := 3) (kl_a13 13 rfl) rfl rfl ?_
  refine kw_iconst (pc := 1192) (i := 794) (v := 3) (kl_a13 14 rfl) rfl ?_
  refine kw_iadd (pc := 1193) (i := 795) (kl_a13 15 rfl) (fun z11 e_z11 t_z11 => ?_)
  subst e_z11
  clear t_z11
  refine kw_tld (pc := 1194) (i := 796) (k := 0) (n := L) (kl_a13 16 rfl) rfl (by omega) (by omega) (fun z12 e_z12 => ?_)
  subst e_z12
  refine kw_callM (pc := 1195) (i := 797) (Y := mX8_odds) (xs := [xs (x3 + 1).toNatClampNeg, xs (x3 + 2).toNatClampNeg, xs (x3 + 3).toNatClampNeg]) (st := []) kl_hE (kl_a13 17 rfl) lvL_153 arX8_odds (c_X8_odds_0 l T (by omega) (by omega) (kw_sh 61 (kw_mixX σ sX)) (by rw [kw_sh_mixX]; exact hM) (xs (x3 + 1).toNatClampNeg) (xs (x3 + 2).toNatClampNeg) (xs (x3 + 3).toNatClampNeg) ) (by decide) (Nat.le_of_ble_eq_true rfl) rfl (fun _ _ q => by obtain ⟨-, r, rfl, -⟩ := q; exact fun _ _ => rfl) (fun v sM pM => ?_)
  obtain ⟨⟨IM, FM⟩, rM, rfl, eM⟩ := pM
  rw [kw_sh_mixX] at FM eM
  have AX : kw_I bX (kw_mixM (kw_mixX σ sX) sM) := kw_IX_mixM (kw_IX_mixX IX)
  have AM : kw_I (bM T) (kw_sh 61 (kw_mixM (kw_mixX σ sX) sM)) := by rw [kw_sh_mixM]; exact IM
  have Q := kr_R.fr hR FX FM (by decide) (by decide)
  have AR : kr_R (kw_mixM (kw_mixX σ sX) sM) (kw_sh 61 (kw_mixM (kw_mixX σ sX) sM)) := by rw [kw_sh_mixM]; exact ⟨(Q).1.mix, (Q).2.mix⟩
  generalize (kw_mixM (kw_mixX σ sX) sM) = J at AX AM AR ⊢
  show kw_AW l 30 ((1002, L, xs) :: kw_E0) KJ mL_law kl_P 1198 [(3, .int x3), (2, .ref 61), (1, .ref 0), (0, .ref 1002)] [.int rM] J
  refine kw_pop (pc := 1198) (i := 798) (kl_a13 18 rfl) rfl ?_
  refine kw_goto (pc := 1199) (i := 799) (tgt := 1359) (kl_a13 19 rfl) rfl ?_
  exact hnext J T AX AM AR (by omega) (by omega)
set_option maxRecDepth 100000 in
set_option maxHeartbeats 4000000 in
theorem kl_case34 (l : Launch) (L : Nat) (xs : Nat → Int32) (hL : L ≤ 384) (x3 : Int32) (h0 : 0 ≤ x3.toInt) (h1 : x3.toInt + 6 ≤ L) (σ : kw_S) (T : Int) (hX : kw_I bX σ) (hM : kw_I (bM T) (kw_sh 61 σ)) (hR : kr_R σ (kw_sh 61 σ)) (hT0 : 0 ≤ T) (hT1 : T ≤ 2000) (hnext : ∀ (S : kw_S) (T' : Int), kw_I bX S → kw_I (bM T') (kw_sh 61 S) → kr_R S (kw_sh 61 S) → 0 ≤ T' → T' ≤ T + 20 → kw_AW l 30 ((1002, L, xs) :: kw_E0) KJ mL_law kl_P 1359 [(3, .int x3), (2, .ref 61), (1, .ref 0), (0, .ref 1002)] [] S) : kw_AW l 30 ((1002, L, xs) :: kw_E0) KJ mL_law kl_P 1202 [(3, .int x3), (2, .ref 61), (1, .ref 0), (0, .ref 1002)] [] σ := by
  have u1 : (x3 + 1).toInt = x3.toInt + 1 := by rw [kw_addI, show (1 : Int32).toInt = 1 from rfl]; omega
  have u2 : (x3 + 2).toInt = x3.toInt + 2 := by rw [kw_addI, show (2 : Int32).toInt = 2 from rfl]; omega
  have u3 : (x3 + 3).toInt = x3.toInt + 3 := by rw [kw_addI, show (3 : Int32).toInt = 3 from rfl]; omega
  have u4 : (x3 + 4).toInt = x3.toInt + 4 := by rw [kw_addI, show (4 : Int32).toInt = 4 from rfl]; omega
  have u5 : (x3 + 5).toInt = x3.toInt + 5 := by rw [kw_addI, show (5 : Int32).toInt = 5 from rfl]; omega
  refine kw_aload_n (pc := 1202) (i := 800) (k := 2) (n := 1) (kl_a13 20 rfl) rfl rfl ?_
  refine kw_aload_n (pc := 1203) (i := 801) (k := 3) (n := 0) (kl_a13 21 rfl) rfl rfl ?_
  refine kw_iload_n (pc := 1204) (i := 802) (k := 0) (n := 3) (kl_a13 22 rfl) rfl rfl ?_
  refine kw_iconst (pc := 1205) (i := 803) (v := 1) (kl_a13 23 rfl) rfl ?_
  refine kw_iadd (pc := 1206) (i := 804) (kl_a13 24 rfl) (fun z1 e_z1 t_z1 => ?_)
  subst e_z1
  clear t_z1
  refine kw_tld (pc := 1207) (i := 805) (k := 0) (n := L) (kl_a13 25 rfl) rfl (by omega) (by omega) (fun z2 e_z2 => ?_)
  subst e_z2
  refine kw_aload_n (pc := 1208) (i := 806) (k := 3) (n := 0) (kl_a13 26 rfl) rfl rfl ?_
  refine kw_iload_n (pc := 1209) (i := 807) (k := 0) (n := 3) (kl_a13 27 rfl) rfl rfl ?_
  refine kw_iconst (pc := 1210) (i := 808) (v := 2) (kl_a13 28 rfl) rfl ?_
  refine kw_iadd (pc := 1211) (i := 809) (kl_a13 29 rfl) (fun z3 e_z3 t_z3 => ?_)
  subst e_z3
  clear t_z3
  refine kw_tld (pc := 1212) (i := 810) (k := 0) (n := L) (kl_a13 30 rfl) rfl (by omega) (by omega) (fun z4 e_z4 => ?_)
  subst e_z4
  refine kw_callX (pc := 1213) (i := 811) (Y := mX7_lots) (xs := [xs (x3 + 1).toNatClampNeg, xs (x3 + 2).toNatClampNeg]) (st := []) kl_hE (kl_a13 31 rfl) lvL_154 arX7_lots (c_X7_lots_0 l σ hX (xs (x3 + 1).toNatClampNeg) (xs (x3 + 2).toNatClampNeg) ) (by decide) (Nat.le_of_ble_eq_true rfl) rfl (fun v sX pX => ?_)
  obtain ⟨⟨IX, FX⟩, rX, rfl, eX⟩ := pX
  show kw_AW l 30 ((1002, L, xs) :: kw_E0) KJ mL_law kl_P 1216 [(3, .int x3), (2, .ref 61), (1, .ref 0), (0, .ref 1002)] [.int rX] (kw_mixX σ sX)
  refine kw_pop (pc := 1216) (i := 812) (kl_a13 32 rfl) rfl ?_
  refine kw_aload_n (pc := 1217) (i := 813) (k := 1) (n := 2) (kl_a13 33 rfl) rfl rfl ?_
  refine kw_aload_n (pc := 1218) (i := 814) (k := 3) (n := 0) (kl_a13 34 rfl) rfl rfl ?_
  refine kw_iload_n (pc := 1219) (i := 815) (k := 0) (n := 3) (kl_a13 35 rfl) rfl rfl ?_
  refine kw_iconst (pc := 1220) (i := 816) (v := 1) (kl_a13 36 rfl) rfl ?_
  refine kw_iadd (pc := 1221) (i := 817) (kl_a13 37 rfl) (fun z5 e_z5 t_z5 => ?_)
  subst e_z5
  clear t_z5
  refine kw_tld (pc := 1222) (i := 818) (k := 0) (n := L) (kl_a13 38 rfl) rfl (by omega) (by omega) (fun z6 e_z6 => ?_)
  subst e_z6
  refine kw_aload_n (pc := 1223) (i := 819) (k := 3) (n := 0) (kl_a13 39 rfl) rfl rfl ?_
  refine kw_iload_n (pc := 1224) (i := 820) (k := 0) (n := 3) (kl_a13 40 rfl) rfl rfl ?_
  refine kw_iconst (pc := 1225) (i := 821) (v := 2) (kl_a13 41 rfl) rfl ?_
  refine kw_iadd (pc := 1226) (i := 822) (kl_a13 42 rfl) (fun z7 e_z7 t_z7 => ?_)
  subst e_z7
  clear t_z7
  refine kw_tld (pc := 1227) (i := 823) (k := 0) (n := L) (kl_a13 43 rfl) rfl (by omega) (by omega) (fun z8 e_z8 => ?_)
  subst e_z8
  refine kw_callM (pc := 1228) (i := 824) (Y := mX8_lots) (xs := [xs (x3 + 1).toNatClampNeg, xs (x3 + 2).toNatClampNeg]) (st := []) kl_hE (kl_a13 44 rfl) lvL_157 arX8_lots (c_X8_lots_0 l T (by omega) (by omega) (kw_sh 61 (kw_mixX σ sX)) (by rw [kw_sh_mixX]; exact hM) (xs (x3 + 1).toNatClampNeg) (xs (x3 + 2).toNatClampNeg) (by omega)) (by decide) (Nat.le_of_ble_eq_true rfl) rfl (fun _ _ q => by obtain ⟨-, r, rfl, -⟩ := q; exact fun _ _ => rfl) (fun v sM pM => ?_)
  obtain ⟨⟨IM, FM⟩, rM, rfl, eM⟩ := pM
  rw [kw_sh_mixX] at FM eM
  have AX : kw_I bX (kw_mixM (kw_mixX σ sX) sM) := kw_IX_mixM (kw_IX_mixX IX)
  have AM : kw_I (bM (T + 20)) (kw_sh 61 (kw_mixM (kw_mixX σ sX) sM)) := by rw [kw_sh_mixM]; exact IM
  have Q := kr_R.fr hR FX FM (by decide) (by decide)
  have AR : kr_R (kw_mixM (kw_mixX σ sX) sM) (kw_sh 61 (kw_mixM (kw_mixX σ sX) sM)) := by rw [kw_sh_mixM]; exact ⟨(Q).1.mix, (Q).2.mix⟩
  generalize (kw_mixM (kw_mixX σ sX) sM) = J at AX AM AR ⊢
  show kw_AW l 30 ((1002, L, xs) :: kw_E0) KJ mL_law kl_P 1231 [(3, .int x3), (2, .ref 61), (1, .ref 0), (0, .ref 1002)] [.int rM] J
  refine kw_pop (pc := 1231) (i := 825) (kl_a13 45 rfl) rfl ?_
  refine kw_goto (pc := 1232) (i := 826) (tgt := 1359) (kl_a13 46 rfl) rfl ?_
  exact hnext J (T + 20) AX AM AR (by omega) (by omega)
set_option maxRecDepth 100000 in
set_option maxHeartbeats 4000000 in
theorem kl_case35 (l : Launch) (L : Nat) (xs : Nat → Int32) (hL : L ≤ 384) (x3 : Int32) (h0 : 0 ≤ x3.toInt) (h1 : x3.toInt + 6 ≤ L) (σ : kw_S) (T : Int) (hX : kw_I bX σ) (hM : kw_I (bM T) (kw_sh 61 σ)) (hR : kr_R σ (kw_sh 61 σ)) (hT0 : 0 ≤ T) (hT1 : T ≤ 2000) (hnext : ∀ (S : kw_S) (T' : Int), kw_I bX S → kw_I (bM T') (kw_sh 61 S) → kr_R S (kw_sh 61 S) → 0 ≤ T' → T' ≤ T + 20 → kw_AW l 30 ((1002, L, xs) :: kw_E0) KJ mL_law kl_P 1359 [(3, .int x3), (2, .ref 61), (1, .ref 0), (0, .ref 1002)] [] S) : kw_AW l 30 ((1002, L, xs) :: kw_E0) KJ mL_law kl_P 1235 [(3, .int x3), (2, .ref 61), (1, .ref 0), (0, .ref 1002)] [] σ := by
  have u1 : (x3 + 1).toInt = x3.toInt + 1 := by rw [kw_addI, show (1 : Int32).toInt = 1 from rfl]; omega
  have u2 : (x3 + 2).toInt = x3.toInt + 2 := by rw [kw_addI, show (2 : Int32).toInt = 2 from rfl]; omega
  have u3 : (x3 + 3).toInt = x3.toInt + 3 := by rw [kw_addI, show (3 : Int32).toInt = 3 from rfl]; omega
  have u4 : (x3 + 4).toInt = x3.toInt + 4 := by rw [kw_addI, show (4 : Int32).toInt = 4 from rfl]; omega
  have u5 : (x3 + 5).toInt = x3.toInt + 5 := by rw [kw_addI, show (5 : Int32).toInt = 5 from rfl]; omega
  refine kw_aload_n (pc := 1235) (i := 827) (k := 2) (n := 1) (kl_a13 47 rfl) rfl rfl ?_
  refine kw_callX (pc := 1236) (i := 828) (Y := mX7_asked) (xs := []) (st := []) kl_hE (kl_a13 48 rfl) lvL_158 arX7_asked (c_X7_asked_0 l σ hX  ) (by decide) (Nat.le_of_ble_eq_true rfl) rfl (fun v sX pX => ?_)
  obtain ⟨gX, rX, rfl, eX⟩ := pX
  have IX : kw_I bX sX := by rw [gX]; exact hX
  have FX : kw_F [] σ sX := by rw [gX]; exact kw_F.rf
  show kw_AW l 30 ((1002, L, xs) :: kw_E0) KJ mL_law kl_P 1239 [(3, .int x3), (2, .ref 61), (1, .ref 0), (0, .ref 1002)] [.int rX] (kw_mixX σ sX)
  refine kw_pop (pc := 1239) (i := 829) (kl_a13 49 rfl) rfl ?_
  refine kw_aload_n (pc := 1240) (i := 830) (k := 1) (n := 2) (kl_a13 50 rfl) rfl rfl ?_
  refine kw_callM (pc := 1241) (i := 831) (Y := mX8_asked) (xs := []) (st := []) kl_hE (kl_a13 51 rfl) lvL_161 arX8_asked (c_X8_asked_0 l T (by omega) (by omega) (kw_sh 61 (kw_mixX σ sX)) (by rw [kw_sh_mixX]; exact hM)  ) (by decide) (Nat.le_of_ble_eq_true rfl) rfl (fun _ _ q => by obtain ⟨-, r, rfl, -⟩ := q; exact fun _ _ => rfl) (fun v sM pM => ?_)
  obtain ⟨gM, rM, rfl, eM⟩ := pM
  rw [kw_sh_mixX] at gM eM
  have IM : kw_I (bM T) sM := by rw [gM]; exact hM
  have FM : kw_FM [] (kw_sh 61 σ) sM := by rw [gM]; exact kw_FM.rf
  have AX : kw_I bX (kw_mixM (kw_mixX σ sX) sM) := kw_IX_mixM (kw_IX_mixX IX)
  have AM : kw_I (bM T) (kw_sh 61 (kw_mixM (kw_mixX σ sX) sM)) := by rw [kw_sh_mixM]; exact IM
  have Q := kr_R.fr hR FX FM (by decide) (by decide)
  have AR : kr_R (kw_mixM (kw_mixX σ sX) sM) (kw_sh 61 (kw_mixM (kw_mixX σ sX) sM)) := by rw [kw_sh_mixM]; exact ⟨(Q).1.mix, (Q).2.mix⟩
  generalize (kw_mixM (kw_mixX σ sX) sM) = J at AX AM AR ⊢
  show kw_AW l 30 ((1002, L, xs) :: kw_E0) KJ mL_law kl_P 1244 [(3, .int x3), (2, .ref 61), (1, .ref 0), (0, .ref 1002)] [.int rM] J
  refine kw_pop (pc := 1244) (i := 832) (kl_a13 52 rfl) rfl ?_
  refine kw_goto (pc := 1245) (i := 833) (tgt := 1359) (kl_a13 53 rfl) rfl ?_
  exact hnext J T AX AM AR (by omega) (by omega)
set_option maxRecDepth 100000 in
set_option maxHeartbeats 4000000 in
theorem kl_case36 (l : Launch) (L : Nat) (xs : Nat → Int32) (hL : L ≤ 384) (x3 : Int32) (h0 : 0 ≤ x3.toInt) (h1 : x3.toInt + 6 ≤ L) (σ : kw_S) (T : Int) (hX : kw_I bX σ) (hM : kw_I (bM T) (kw_sh 61 σ)) (hR : kr_R σ (kw_sh 61 σ)) (hT0 : 0 ≤ T) (hT1 : T ≤ 2000) (hnext : ∀ (S : kw_S) (T' : Int), kw_I bX S → kw_I (bM T') (kw_sh 61 S) → kr_R S (kw_sh 61 S) → 0 ≤ T' → T' ≤ T + 20 → kw_AW l 30 ((1002, L, xs) :: kw_E0) KJ mL_law kl_P 1359 [(3, .int x3), (2, .ref 61), (1, .ref 0), (0, .ref 1002)] [] S) : kw_AW l 30 ((1002, L, xs) :: kw_E0) KJ mL_law kl_P 1248 [(3, .int x3), (2, .ref 61), (1, .ref 0), (0, .ref 1002)] [] σ := by
  have u1 : (x3 + 1).toInt = x3.toInt + 1 := by rw [kw_addI, show (1 : Int32).toInt = 1 from rfl]; omega
  have u2 : (x3 + 2).toInt = x3.toInt + 2 := by rw [kw_addI, show (2 : Int32).toInt = 2 from rfl]; omega
  have u3 : (x3 + 3).toInt = x3.toInt + 3 := by rw [kw_addI, show (3 : Int32).toInt = 3 from rfl]; omega
  have u4 : (x3 + 4).toInt = x3.toInt + 4 := by rw [kw_addI, show (4 : Int32).toInt = 4 from rfl]; omega
  have u5 : (x3 + 5).toInt = x3.toInt + 5 := by rw [kw_addI, show (5 : Int32).toInt = 5 from rfl]; omega
  refine kw_aload_n (pc := 1248) (i := 834) (k := 2) (n := 1) (kl_a13 54 rfl) rfl rfl ?_
  refine kw_callX (pc := 1249) (i := 835) (Y := mX7_upper) (xs := []) (st := []) kl_hE (kl_a13 55 rfl) lvL_162 arX7_upper (c_X7_upper_0 l σ hX  ) (by decide) (Nat.le_of_ble_eq_true rfl) rfl (fun v sX pX => ?_)
  obtain ⟨gX, rX, rfl, eX⟩ := pX
  have IX : kw_I bX sX := by rw [gX]; exact hX
  have FX : kw_F [] σ sX := by rw [gX]; exact kw_F.rf
  show kw_AW l 30 ((1002, L, xs) :: kw_E0) KJ mL_law kl_P 1252 [(3, .int x3), (2, .ref 61), (1, .ref 0), (0, .ref 1002)] [.long rX] (kw_mixX σ sX)
  refine kw_pop2 (pc := 1252) (i := 836) (kl_a13 56 rfl) rfl ?_
  refine kw_aload_n (pc := 1253) (i := 837) (k := 1) (n := 2) (kl_a13 57 rfl) rfl rfl ?_
  refine kw_callM (pc := 1254) (i := 838) (Y := mX8_upper) (xs := []) (st := []) kl_hE (kl_a13 58 rfl) lvL_166 arX8_upper (c_X8_upper_0 l T (by omega) (by omega) (kw_sh 61 (kw_mixX σ sX)) (by rw [kw_sh_mixX]; exact hM)  ) (by decide) (Nat.le_of_ble_eq_true rfl) rfl (fun _ _ q => by obtain ⟨-, r, rfl, -⟩ := q; exact fun _ _ => rfl) (fun v sM pM => ?_)
  obtain ⟨gM, rM, rfl, eM⟩ := pM
  rw [kw_sh_mixX] at gM eM
  have IM : kw_I (bM T) sM := by rw [gM]; exact hM
  have FM : kw_FM [] (kw_sh 61 σ) sM := by rw [gM]; exact kw_FM.rf
  have AX : kw_I bX (kw_mixM (kw_mixX σ sX) sM) := kw_IX_mixM (kw_IX_mixX IX)
  have AM : kw_I (bM T) (kw_sh 61 (kw_mixM (kw_mixX σ sX) sM)) := by rw [kw_sh_mixM]; exact IM
  have Q := kr_R.fr hR FX FM (by decide) (by decide)
  have AR : kr_R (kw_mixM (kw_mixX σ sX) sM) (kw_sh 61 (kw_mixM (kw_mixX σ sX) sM)) := by rw [kw_sh_mixM]; exact ⟨(Q).1.mix, (Q).2.mix⟩
  generalize (kw_mixM (kw_mixX σ sX) sM) = J at AX AM AR ⊢
  show kw_AW l 30 ((1002, L, xs) :: kw_E0) KJ mL_law kl_P 1257 [(3, .int x3), (2, .ref 61), (1, .ref 0), (0, .ref 1002)] [.long rM] J
  refine kw_pop2 (pc := 1257) (i := 839) (kl_a13 59 rfl) rfl ?_
  refine kw_goto (pc := 1258) (i := 840) (tgt := 1359) (kl_a14 0 rfl) rfl ?_
  exact hnext J T AX AM AR (by omega) (by omega)
set_option maxRecDepth 100000 in
set_option maxHeartbeats 4000000 in
theorem kl_case37 (l : Launch) (L : Nat) (xs : Nat → Int32) (hL : L ≤ 384) (x3 : Int32) (h0 : 0 ≤ x3.toInt) (h1 : x3.toInt + 6 ≤ L) (σ : kw_S) (T : Int) (hX : kw_I bX σ) (hM : kw_I (bM T) (kw_sh 61 σ)) (hR : kr_R σ (kw_sh 61 σ)) (hT0 : 0 ≤ T) (hT1 : T ≤ 2000) (hnext : ∀ (S : kw_S) (T' : Int), kw_I bX S → kw_I (bM T') (kw_sh 61 S) → kr_R S (kw_sh 61 S) → 0 ≤ T' → T' ≤ T + 20 → kw_AW l 30 ((1002, L, xs) :: kw_E0) KJ mL_law kl_P 1359 [(3, .int x3), (2, .ref 61), (1, .ref 0), (0, .ref 1002)] [] S) : kw_AW l 30 ((1002, L, xs) :: kw_E0) KJ mL_law kl_P 1261 [(3, .int x3), (2, .ref 61), (1, .ref 0), (0, .ref 1002)] [] σ := by
  have u1 : (x3 + 1).toInt = x3.toInt + 1 := by rw [kw_addI, show (1 : Int32).toInt = 1 from rfl]; omega
  have u2 : (x3 + 2).toInt = x3.toInt + 2 := by rw [kw_addI, show (2 : Int32).toInt = 2 from rfl]; omega
  have u3 : (x3 + 3).toInt = x3.toInt + 3 := by rw [kw_addI, show (3 : Int32).toInt = 3 from rfl]; omega
  have u4 : (x3 + 4).toInt = x3.toInt + 4 := by rw [kw_addI, show (4 : Int32).toInt = 4 from rfl]; omega
  have u5 : (x3 + 5).toInt = x3.toInt + 5 := by rw [kw_addI, show (5 : Int32).toInt = 5 from rfl]; omega
  refine kw_aload_n (pc := 1261) (i := 841) (k := 2) (n := 1) (kl_a14 1 rfl) rfl rfl ?_
  refine kw_callX (pc := 1262) (i := 842) (Y := mX7_lower) (xs := []) (st := []) kl_hE (kl_a14 2 rfl) lvL_167 arX7_lower (c_X7_lower_0 l σ hX  ) (by decide) (Nat.le_of_ble_eq_true rfl) rfl (fun v sX pX => ?_)
  obtain ⟨gX, rX, rfl, eX⟩ := pX
  have IX : kw_I bX sX := by rw [gX]; exact hX
  have FX : kw_F [] σ sX := by rw [gX]; exact kw_F.rf
  show kw_AW l 30 ((1002, L, xs) :: kw_E0) KJ mL_law kl_P 1265 [(3, .int x3), (2, .ref 61), (1, .ref 0), (0, .ref 1002)] [.long rX] (kw_mixX σ sX)
  refine kw_pop2 (pc := 1265) (i := 843) (kl_a14 3 rfl) rfl ?_
  refine kw_aload_n (pc := 1266) (i := 844) (k := 1) (n := 2) (kl_a14 4 rfl) rfl rfl ?_
  refine kw_callM (pc := 1267) (i := 845) (Y := mX8_lower) (xs := []) (st := []) kl_hE (kl_a14 5 rfl) lvL_170 arX8_lower (c_X8_lower_0 l T (by omega) (by omega) (kw_sh 61 (kw_mixX σ sX)) (by rw [kw_sh_mixX]; exact hM)  ) (by decide) (Nat.le_of_ble_eq_true rfl) rfl (fun _ _ q => by obtain ⟨-, r, rfl, -⟩ := q; exact fun _ _ => rfl) (fun v sM pM => ?_)
  obtain ⟨gM, rM, rfl, eM⟩ := pM
  rw [kw_sh_mixX] at gM eM
  have IM : kw_I (bM T) sM := by rw [gM]; exact hM
  have FM : kw_FM [] (kw_sh 61 σ) sM := by rw [gM]; exact kw_FM.rf
  have AX : kw_I bX (kw_mixM (kw_mixX σ sX) sM) := kw_IX_mixM (kw_IX_mixX IX)
  have AM : kw_I (bM T) (kw_sh 61 (kw_mixM (kw_mixX σ sX) sM)) := by rw [kw_sh_mixM]; exact IM
  have Q := kr_R.fr hR FX FM (by decide) (by decide)
  have AR : kr_R (kw_mixM (kw_mixX σ sX) sM) (kw_sh 61 (kw_mixM (kw_mixX σ sX) sM)) := by rw [kw_sh_mixM]; exact ⟨(Q).1.mix, (Q).2.mix⟩
  generalize (kw_mixM (kw_mixX σ sX) sM) = J at AX AM AR ⊢
  show kw_AW l 30 ((1002, L, xs) :: kw_E0) KJ mL_law kl_P 1270 [(3, .int x3), (2, .ref 61), (1, .ref 0), (0, .ref 1002)] [.long rM] J
  refine kw_pop2 (pc := 1270) (i := 846) (kl_a14 6 rfl) rfl ?_
  refine kw_goto (pc := 1271) (i := 847) (tgt := 1359) (kl_a14 7 rfl) rfl ?_
  exact hnext J T AX AM AR (by omega) (by omega)
set_option maxRecDepth 100000 in
set_option maxHeartbeats 4000000 in
theorem kl_case38 (l : Launch) (L : Nat) (xs : Nat → Int32) (hL : L ≤ 384) (x3 : Int32) (h0 : 0 ≤ x3.toInt) (h1 : x3.toInt + 6 ≤ L) (σ : kw_S) (T : Int) (hX : kw_I bX σ) (hM : kw_I (bM T) (kw_sh 61 σ)) (hR : kr_R σ (kw_sh 61 σ)) (hT0 : 0 ≤ T) (hT1 : T ≤ 2000) (hnext : ∀ (S : kw_S) (T' : Int), kw_I bX S → kw_I (bM T') (kw_sh 61 S) → kr_R S (kw_sh 61 S) → 0 ≤ T' → T' ≤ T + 20 → kw_AW l 30 ((1002, L, xs) :: kw_E0) KJ mL_law kl_P 1359 [(3, .int x3), (2, .ref 61), (1, .ref 0), (0, .ref 1002)] [] S) : kw_AW l 30 ((1002, L, xs) :: kw_E0) KJ mL_law kl_P 1274 [(3, .int x3), (2, .ref 61), (1, .ref 0), (0, .ref 1002)] [] σ := by
  have u1 : (x3 + 1).toInt = x3.toInt + 1 := by rw [kw_addI, show (1 : Int32).toInt = 1 from rfl]; omega
  have u2 : (x3 + 2).toInt = x3.toInt + 2 := by rw [kw_addI, show (2 : Int32).toInt = 2 from rfl]; omega
  have u3 : (x3 + 3).toInt = x3.toInt + 3 := by rw [kw_addI, show (3 : Int32).toInt = 3 from rfl]; omega
  have u4 : (x3 + 4).toInt = x3.toInt + 4 := by rw [kw_addI, show (4 : Int32).toInt = 4 from rfl]; omega
  have u5 : (x3 + 5).toInt = x3.toInt + 5 := by rw [kw_addI, show (5 : Int32).toInt = 5 from rfl]; omega
  refine kw_aload_n (pc := 1274) (i := 848) (k := 2) (n := 1) (kl_a14 8 rfl) rfl rfl ?_
  refine kw_aload_n (pc := 1275) (i := 849) (k := 3) (n := 0) (kl_a14 9 rfl) rfl rfl ?_
  refine kw_iload_n (pc := 1276) (i := 850) (k := 0) (n := 3) (kl_a14 10 rfl) rfl rfl ?_
  refine kw_iconst (pc := 1277) (i := 851) (v := 1) (kl_a14 11 rfl) rfl ?_
  refine kw_iadd (pc := 1278) (i := 852) (kl_a14 12 rfl) (fun z1 e_z1 t_z1 => ?_)
  subst e_z1
  clear t_z1
  refine kw_tld (pc := 1279) (i := 853) (k := 0) (n := L) (kl_a14 13 rfl) rfl (by omega) (by omega) (fun z2 e_z2 => ?_)
  subst e_z2
  refine kw_callX (pc := 1280) (i := 854) (Y := mX7_count) (xs := [xs (x3 + 1).toNatClampNeg]) (st := []) kl_hE (kl_a14 14 rfl) lvL_171 arX7_count (c_X7_count_0 l σ hX (xs (x3 + 1).toNatClampNeg) ) (by decide) (Nat.le_of_ble_eq_true rfl) rfl (fun v sX pX => ?_)
  obtain ⟨gX, rX, rfl, eX⟩ := pX
  have IX : kw_I bX sX := by rw [gX]; exact hX
  have FX : kw_F [] σ sX := by rw [gX]; exact kw_F.rf
  show kw_AW l 30 ((1002, L, xs) :: kw_E0) KJ mL_law kl_P 1283 [(3, .int x3), (2, .ref 61), (1, .ref 0), (0, .ref 1002)] [.int rX] (kw_mixX σ sX)
  refine kw_pop (pc := 1283) (i := 855) (kl_a14 15 rfl) rfl ?_
  refine kw_aload_n (pc := 1284) (i := 856) (k := 1) (n := 2) (kl_a14 16 rfl) rfl rfl ?_
  refine kw_aload_n (pc := 1285) (i := 857) (k := 3) (n := 0) (kl_a14 17 rfl) rfl rfl ?_
  refine kw_iload_n (pc := 1286) (i := 858) (k := 0) (n := 3) (kl_a14 18 rfl) rfl rfl ?_
  refine kw_iconst (pc := 1287) (i := 859) (v := 1) (kl_a14 19 rfl) rfl ?_
  refine kw_iadd (pc := 1288) (i := 860) (kl_a14 20 rfl) (fun z3 e_z3 t_z3 => ?_)
  subst e_z3
  clear t_z3
  refine kw_tld (pc := 1289) (i := 861) (k := 0) (n := L) (kl_a14 21 rfl) rfl (by omega) (by omega) (fun z4 e_z4 => ?_)
  subst e_z4
  refine kw_callM (pc := 1290) (i := 862) (Y := mX8_count) (xs := [xs (x3 + 1).toNatClampNeg]) (st := []) kl_hE (kl_a14 22 rfl) lvL_174 arX8_count (c_X8_count_0 l T (by omega) (by omega) (kw_sh 61 (kw_mixX σ sX)) (by rw [kw_sh_mixX]; exact hM) (xs (x3 + 1).toNatClampNeg) ) (by decide) (Nat.le_of_ble_eq_true rfl) rfl (fun _ _ q => by obtain ⟨-, r, rfl, -⟩ := q; exact fun _ _ => rfl) (fun v sM pM => ?_)
  obtain ⟨gM, rM, rfl, eM⟩ := pM
  rw [kw_sh_mixX] at gM eM
  have IM : kw_I (bM T) sM := by rw [gM]; exact hM
  have FM : kw_FM [] (kw_sh 61 σ) sM := by rw [gM]; exact kw_FM.rf
  have AX : kw_I bX (kw_mixM (kw_mixX σ sX) sM) := kw_IX_mixM (kw_IX_mixX IX)
  have AM : kw_I (bM T) (kw_sh 61 (kw_mixM (kw_mixX σ sX) sM)) := by rw [kw_sh_mixM]; exact IM
  have Q := kr_R.fr hR FX FM (by decide) (by decide)
  have AR : kr_R (kw_mixM (kw_mixX σ sX) sM) (kw_sh 61 (kw_mixM (kw_mixX σ sX) sM)) := by rw [kw_sh_mixM]; exact ⟨(Q).1.mix, (Q).2.mix⟩
  generalize (kw_mixM (kw_mixX σ sX) sM) = J at AX AM AR ⊢
  show kw_AW l 30 ((1002, L, xs) :: kw_E0) KJ mL_law kl_P 1293 [(3, .int x3), (2, .ref 61), (1, .ref 0), (0, .ref 1002)] [.int rM] J
  refine kw_pop (pc := 1293) (i := 863) (kl_a14 23 rfl) rfl ?_
  refine kw_goto (pc := 1294) (i := 864) (tgt := 1359) (kl_a14 24 rfl) rfl ?_
  exact hnext J T AX AM AR (by omega) (by omega)
set_option maxRecDepth 100000 in
set_option maxHeartbeats 4000000 in
theorem kl_case39 (l : Launch) (L : Nat) (xs : Nat → Int32) (hL : L ≤ 384) (x3 : Int32) (h0 : 0 ≤ x3.toInt) (h1 : x3.toInt + 6 ≤ L) (σ : kw_S) (T : Int) (hX : kw_I bX σ) (hM : kw_I (bM T) (kw_sh 61 σ)) (hR : kr_R σ (kw_sh 61 σ)) (hT0 : 0 ≤ T) (hT1 : T ≤ 2000) (hnext : ∀ (S : kw_S) (T' : Int), kw_I bX S → kw_I (bM T') (kw_sh 61 S) → kr_R S (kw_sh 61 S) → 0 ≤ T' → T' ≤ T + 20 → kw_AW l 30 ((1002, L, xs) :: kw_E0) KJ mL_law kl_P 1359 [(3, .int x3), (2, .ref 61), (1, .ref 0), (0, .ref 1002)] [] S) : kw_AW l 30 ((1002, L, xs) :: kw_E0) KJ mL_law kl_P 1297 [(3, .int x3), (2, .ref 61), (1, .ref 0), (0, .ref 1002)] [] σ := by
  have u1 : (x3 + 1).toInt = x3.toInt + 1 := by rw [kw_addI, show (1 : Int32).toInt = 1 from rfl]; omega
  have u2 : (x3 + 2).toInt = x3.toInt + 2 := by rw [kw_addI, show (2 : Int32).toInt = 2 from rfl]; omega
  have u3 : (x3 + 3).toInt = x3.toInt + 3 := by rw [kw_addI, show (3 : Int32).toInt = 3 from rfl]; omega
  have u4 : (x3 + 4).toInt = x3.toInt + 4 := by rw [kw_addI, show (4 : Int32).toInt = 4 from rfl]; omega
  have u5 : (x3 + 5).toInt = x3.toInt + 5 := by rw [kw_addI, show (5 : Int32).toInt = 5 from rfl]; omega
  refine kw_aload_n (pc := 1297) (i := 865) (k := 2) (n := 1) (kl_a14 25 rfl) rfl rfl ?_
  refine kw_callX (pc := 1298) (i := 866) (Y := mX7_miles) (xs := []) (st := []) kl_hE (kl_a14 26 rfl) lvL_175 arX7_miles (c_X7_miles_0 l σ hX  ) (by decide) (Nat.le_of_ble_eq_true rfl) rfl (fun v sX pX => ?_)
  obtain ⟨⟨IX, FX⟩, rX, rfl, eX⟩ := pX
  show kw_AW l 30 ((1002, L, xs) :: kw_E0) KJ mL_law kl_P 1301 [(3, .int x3), (2, .ref 61), (1, .ref 0), (0, .ref 1002)] [.int rX] (kw_mixX σ sX)
  refine kw_pop (pc := 1301) (i := 867) (kl_a14 27 rfl) rfl ?_
  refine kw_aload_n (pc := 1302) (i := 868) (k := 1) (n := 2) (kl_a14 28 rfl) rfl rfl ?_
  refine kw_callM (pc := 1303) (i := 869) (Y := mX8_miles) (xs := []) (st := []) kl_hE (kl_a14 29 rfl) lvL_178 arX8_miles (c_X8_miles_0 l T (by omega) (by omega) (kw_sh 61 (kw_mixX σ sX)) (by rw [kw_sh_mixX]; exact hM)  ) (by decide) (Nat.le_of_ble_eq_true rfl) rfl (fun _ _ q => by obtain ⟨-, r, rfl, -⟩ := q; exact fun _ _ => rfl) (fun v sM pM => ?_)
  obtain ⟨⟨IM, FM⟩, rM, rfl, eM⟩ := pM
  rw [kw_sh_mixX] at FM eM
  have AX : kw_I bX (kw_mixM (kw_mixX σ sX) sM) := kw_IX_mixM (kw_IX_mixX IX)
  have AM : kw_I (bM T) (kw_sh 61 (kw_mixM (kw_mixX σ sX) sM)) := by rw [kw_sh_mixM]; exact IM
  have Q := kr_R.fr hR FX FM (by decide) (by decide)
  have AR : kr_R (kw_mixM (kw_mixX σ sX) sM) (kw_sh 61 (kw_mixM (kw_mixX σ sX) sM)) := by rw [kw_sh_mixM]; exact ⟨(Q).1.mix, (Q).2.mix⟩
  generalize (kw_mixM (kw_mixX σ sX) sM) = J at AX AM AR ⊢
  show kw_AW l 30 ((1002, L, xs) :: kw_E0) KJ mL_law kl_P 1306 [(3, .int x3), (2, .ref 61), (1, .ref 0), (0, .ref 1002)] [.int rM] J
  refine kw_pop (pc := 1306) (i := 870) (kl_a14 30 rfl) rfl ?_
  refine kw_goto (pc := 1307) (i := 871) (tgt := 1359) (kl_a14 31 rfl) rfl ?_
  exact hnext J T AX AM AR (by omega) (by omega)
set_option maxRecDepth 100000 in
set_option maxHeartbeats 4000000 in
theorem kl_case40 (l : Launch) (L : Nat) (xs : Nat → Int32) (hL : L ≤ 384) (x3 : Int32) (h0 : 0 ≤ x3.toInt) (h1 : x3.toInt + 6 ≤ L) (σ : kw_S) (T : Int) (hX : kw_I bX σ) (hM : kw_I (bM T) (kw_sh 61 σ)) (hR : kr_R σ (kw_sh 61 σ)) (hT0 : 0 ≤ T) (hT1 : T ≤ 2000) (hnext : ∀ (S : kw_S) (T' : Int), kw_I bX S → kw_I (bM T') (kw_sh 61 S) → kr_R S (kw_sh 61 S) → 0 ≤ T' → T' ≤ T + 20 → kw_AW l 30 ((1002, L, xs) :: kw_E0) KJ mL_law kl_P 1359 [(3, .int x3), (2, .ref 61), (1, .ref 0), (0, .ref 1002)] [] S) : kw_AW l 30 ((1002, L, xs) :: kw_E0) KJ mL_law kl_P 1310 [(3, .int x3), (2, .ref 61), (1, .ref 0), (0, .ref 1002)] [] σ := by
  have u1 : (x3 + 1).toInt = x3.toInt + 1 := by rw [kw_addI, show (1 : Int32).toInt = 1 from rfl]; omega
  have u2 : (x3 + 2).toInt = x3.toInt + 2 := by rw [kw_addI, show (2 : Int32).toInt = 2 from rfl]; omega
  have u3 : (x3 + 3).toInt = x3.toInt + 3 := by rw [kw_addI, show (3 : Int32).toInt = 3 from rfl]; omega
  have u4 : (x3 + 4).toInt = x3.toInt + 4 := by rw [kw_addI, show (4 : Int32).toInt = 4 from rfl]; omega
  have u5 : (x3 + 5).toInt = x3.toInt + 5 := by rw [kw_addI, show (5 : Int32).toInt = 5 from rfl]; omega
  refine kw_aload_n (pc := 1310) (i := 872) (k := 2) (n := 1) (kl_a14 32 rfl) rfl rfl ?_
  refine kw_callX (pc := 1311) (i := 873) (Y := mX7_finding) (xs := []) (st := []) kl_hE (kl_a14 33 rfl) lvL_179 arX7_finding (c_X7_finding_0 l σ hX  ) (by decide) (Nat.le_of_ble_eq_true rfl) rfl (fun v sX pX => ?_)
  obtain ⟨gX, rX, rfl, eX⟩ := pX
  have IX : kw_I bX sX := by rw [gX]; exact hX
  have FX : kw_F [] σ sX := by rw [gX]; exact kw_F.rf
  show kw_AW l 30 ((1002, L, xs) :: kw_E0) KJ mL_law kl_P 1314 [(3, .int x3), (2, .ref 61), (1, .ref 0), (0, .ref 1002)] [.int rX] (kw_mixX σ sX)
  refine kw_pop (pc := 1314) (i := 874) (kl_a14 34 rfl) rfl ?_
  refine kw_aload_n (pc := 1315) (i := 875) (k := 1) (n := 2) (kl_a14 35 rfl) rfl rfl ?_
  refine kw_callM (pc := 1316) (i := 876) (Y := mX8_finding) (xs := []) (st := []) kl_hE (kl_a14 36 rfl) lvL_182 arX8_finding (c_X8_finding_0 l T (by omega) (by omega) (kw_sh 61 (kw_mixX σ sX)) (by rw [kw_sh_mixX]; exact hM)  ) (by decide) (Nat.le_of_ble_eq_true rfl) rfl (fun _ _ q => by obtain ⟨-, r, rfl, -⟩ := q; exact fun _ _ => rfl) (fun v sM pM => ?_)
  obtain ⟨gM, rM, rfl, eM⟩ := pM
  rw [kw_sh_mixX] at gM eM
  have IM : kw_I (bM T) sM := by rw [gM]; exact hM
  have FM : kw_FM [] (kw_sh 61 σ) sM := by rw [gM]; exact kw_FM.rf
  have AX : kw_I bX (kw_mixM (kw_mixX σ sX) sM) := kw_IX_mixM (kw_IX_mixX IX)
  have AM : kw_I (bM T) (kw_sh 61 (kw_mixM (kw_mixX σ sX) sM)) := by rw [kw_sh_mixM]; exact IM
  have Q := kr_R.fr hR FX FM (by decide) (by decide)
  have AR : kr_R (kw_mixM (kw_mixX σ sX) sM) (kw_sh 61 (kw_mixM (kw_mixX σ sX) sM)) := by rw [kw_sh_mixM]; exact ⟨(Q).1.mix, (Q).2.mix⟩
  generalize (kw_mixM (kw_mixX σ sX) sM) = J at AX AM AR ⊢
  show kw_AW l 30 ((1002, L, xs) :: kw_E0) KJ mL_law kl_P 1319 [(3, .int x3), (2, .ref 61), (1, .ref 0), (0, .ref 1002)] [.int rM] J
  refine kw_pop (pc := 1319) (i := 877) (kl_a14 37 rfl) rfl ?_
  refine kw_goto (pc := 1320) (i := 878) (tgt := 1359) (kl_a14 38 rfl) rfl ?_
  exact hnext J T AX AM AR (by omega) (by omega)
set_option maxRecDepth 100000 in
set_option maxHeartbeats 4000000 in
theorem kl_case41 (l : Launch) (L : Nat) (xs : Nat → Int32) (hL : L ≤ 384) (x3 : Int32) (h0 : 0 ≤ x3.toInt) (h1 : x3.toInt + 6 ≤ L) (σ : kw_S) (T : Int) (hX : kw_I bX σ) (hM : kw_I (bM T) (kw_sh 61 σ)) (hR : kr_R σ (kw_sh 61 σ)) (hT0 : 0 ≤ T) (hT1 : T ≤ 2000) (hnext : ∀ (S : kw_S) (T' : Int), kw_I bX S → kw_I (bM T') (kw_sh 61 S) → kr_R S (kw_sh 61 S) → 0 ≤ T' → T' ≤ T + 20 → kw_AW l 30 ((1002, L, xs) :: kw_E0) KJ mL_law kl_P 1359 [(3, .int x3), (2, .ref 61), (1, .ref 0), (0, .ref 1002)] [] S) : kw_AW l 30 ((1002, L, xs) :: kw_E0) KJ mL_law kl_P 1323 [(3, .int x3), (2, .ref 61), (1, .ref 0), (0, .ref 1002)] [] σ := by
  have u1 : (x3 + 1).toInt = x3.toInt + 1 := by rw [kw_addI, show (1 : Int32).toInt = 1 from rfl]; omega
  have u2 : (x3 + 2).toInt = x3.toInt + 2 := by rw [kw_addI, show (2 : Int32).toInt = 2 from rfl]; omega
  have u3 : (x3 + 3).toInt = x3.toInt + 3 := by rw [kw_addI, show (3 : Int32).toInt = 3 from rfl]; omega
  have u4 : (x3 + 4).toInt = x3.toInt + 4 := by rw [kw_addI, show (4 : Int32).toInt = 4 from rfl]; omega
  have u5 : (x3 + 5).toInt = x3.toInt + 5 := by rw [kw_addI, show (5 : Int32).toInt = 5 from rfl]; omega
  refine kw_aload_n (pc := 1323) (i := 879) (k := 2) (n := 1) (kl_a14 39 rfl) rfl rfl ?_
  refine kw_aload_n (pc := 1324) (i := 880) (k := 3) (n := 0) (kl_a14 40 rfl) rfl rfl ?_
  refine kw_iload_n (pc := 1325) (i := 881) (k := 0) (n := 3) (kl_a14 41 rfl) rfl rfl ?_
  refine kw_iconst (pc := 1326) (i := 882) (v := 1) (kl_a14 42 rfl) rfl ?_
  refine kw_iadd (pc := 1327) (i := 883) (kl_a14 43 rfl) (fun z1 e_z1 t_z1 => ?_)
  subst e_z1
  clear t_z1
  refine kw_tld (pc := 1328) (i := 884) (k := 0) (n := L) (kl_a14 44 rfl) rfl (by omega) (by omega) (fun z2 e_z2 => ?_)
  subst e_z2
  refine kw_callX (pc := 1329) (i := 885) (Y := mX7_findings) (xs := [xs (x3 + 1).toNatClampNeg]) (st := []) kl_hE (kl_a14 45 rfl) lvL_183 arX7_findings (c_X7_findings_0 l σ hX (xs (x3 + 1).toNatClampNeg) ) (by decide) (Nat.le_of_ble_eq_true rfl) rfl (fun v sX pX => ?_)
  obtain ⟨gX, rX, rfl, eX⟩ := pX
  have IX : kw_I bX sX := by rw [gX]; exact hX
  have FX : kw_F [] σ sX := by rw [gX]; exact kw_F.rf
  show kw_AW l 30 ((1002, L, xs) :: kw_E0) KJ mL_law kl_P 1332 [(3, .int x3), (2, .ref 61), (1, .ref 0), (0, .ref 1002)] [.int rX] (kw_mixX σ sX)
  refine kw_pop (pc := 1332) (i := 886) (kl_a14 46 rfl) rfl ?_
  refine kw_aload_n (pc := 1333) (i := 887) (k := 1) (n := 2) (kl_a14 47 rfl) rfl rfl ?_
  refine kw_aload_n (pc := 1334) (i := 888) (k := 3) (n := 0) (kl_a14 48 rfl) rfl rfl ?_
  refine kw_iload_n (pc := 1335) (i := 889) (k := 0) (n := 3) (kl_a14 49 rfl) rfl rfl ?_
  refine kw_iconst (pc := 1336) (i := 890) (v := 1) (kl_a14 50 rfl) rfl ?_
  refine kw_iadd (pc := 1337) (i := 891) (kl_a14 51 rfl) (fun z3 e_z3 t_z3 => ?_)
  subst e_z3
  clear t_z3
  refine kw_tld (pc := 1338) (i := 892) (k := 0) (n := L) (kl_a14 52 rfl) rfl (by omega) (by omega) (fun z4 e_z4 => ?_)
  subst e_z4
  refine kw_callM (pc := 1339) (i := 893) (Y := mX8_findings) (xs := [xs (x3 + 1).toNatClampNeg]) (st := []) kl_hE (kl_a14 53 rfl) lvL_186 arX8_findings (c_X8_findings_0 l T (by omega) (by omega) (kw_sh 61 (kw_mixX σ sX)) (by rw [kw_sh_mixX]; exact hM) (xs (x3 + 1).toNatClampNeg) ) (by decide) (Nat.le_of_ble_eq_true rfl) rfl (fun _ _ q => by obtain ⟨-, r, rfl, -⟩ := q; exact fun _ _ => rfl) (fun v sM pM => ?_)
  obtain ⟨gM, rM, rfl, eM⟩ := pM
  rw [kw_sh_mixX] at gM eM
  have IM : kw_I (bM T) sM := by rw [gM]; exact hM
  have FM : kw_FM [] (kw_sh 61 σ) sM := by rw [gM]; exact kw_FM.rf
  have AX : kw_I bX (kw_mixM (kw_mixX σ sX) sM) := kw_IX_mixM (kw_IX_mixX IX)
  have AM : kw_I (bM T) (kw_sh 61 (kw_mixM (kw_mixX σ sX) sM)) := by rw [kw_sh_mixM]; exact IM
  have Q := kr_R.fr hR FX FM (by decide) (by decide)
  have AR : kr_R (kw_mixM (kw_mixX σ sX) sM) (kw_sh 61 (kw_mixM (kw_mixX σ sX) sM)) := by rw [kw_sh_mixM]; exact ⟨(Q).1.mix, (Q).2.mix⟩
  generalize (kw_mixM (kw_mixX σ sX) sM) = J at AX AM AR ⊢
  show kw_AW l 30 ((1002, L, xs) :: kw_E0) KJ mL_law kl_P 1342 [(3, .int x3), (2, .ref 61), (1, .ref 0), (0, .ref 1002)] [.int rM] J
  refine kw_pop (pc := 1342) (i := 894) (kl_a14 54 rfl) rfl ?_
  refine kw_goto (pc := 1343) (i := 895) (tgt := 1359) (kl_a14 55 rfl) rfl ?_
  exact hnext J T AX AM AR (by omega) (by omega)
set_option maxRecDepth 100000 in
set_option maxHeartbeats 4000000 in
theorem kl_case42 (l : Launch) (L : Nat) (xs : Nat → Int32) (hL : L ≤ 384) (x3 : Int32) (h0 : 0 ≤ x3.toInt) (h1 : x3.toInt + 6 ≤ L) (σ : kw_S) (T : Int) (hX : kw_I bX σ) (hM : kw_I (bM T) (kw_sh 61 σ)) (hR : kr_R σ (kw_sh 61 σ)) (hT0 : 0 ≤ T) (hT1 : T ≤ 2000) (hnext : ∀ (S : kw_S) (T' : Int), kw_I bX S → kw_I (bM T') (kw_sh 61 S) → kr_R S (kw_sh 61 S) → 0 ≤ T' → T' ≤ T + 20 → kw_AW l 30 ((1002, L, xs) :: kw_E0) KJ mL_law kl_P 1359 [(3, .int x3), (2, .ref 61), (1, .ref 0), (0, .ref 1002)] [] S) : kw_AW l 30 ((1002, L, xs) :: kw_E0) KJ mL_law kl_P 1346 [(3, .int x3), (2, .ref 61), (1, .ref 0), (0, .ref 1002)] [] σ := by
  have u1 : (x3 + 1).toInt = x3.toInt + 1 := by rw [kw_addI, show (1 : Int32).toInt = 1 from rfl]; omega
  have u2 : (x3 + 2).toInt = x3.toInt + 2 := by rw [kw_addI, show (2 : Int32).toInt = 2 from rfl]; omega
  have u3 : (x3 + 3).toInt = x3.toInt + 3 := by rw [kw_addI, show (3 : Int32).toInt = 3 from rfl]; omega
  have u4 : (x3 + 4).toInt = x3.toInt + 4 := by rw [kw_addI, show (4 : Int32).toInt = 4 from rfl]; omega
  have u5 : (x3 + 5).toInt = x3.toInt + 5 := by rw [kw_addI, show (5 : Int32).toInt = 5 from rfl]; omega
  refine kw_aload_n (pc := 1346) (i := 896) (k := 2) (n := 1) (kl_a14 56 rfl) rfl rfl ?_
  refine kw_callX (pc := 1347) (i := 897) (Y := mX7_digest) (xs := []) (st := []) kl_hE (kl_a14 57 rfl) lvL_187 arX7_digest (c_X7_digest_0 l σ hX  ) (by decide) (Nat.le_of_ble_eq_true rfl) rfl (fun v sX pX => ?_)
  obtain ⟨gX, rX, rfl, eX⟩ := pX
  have IX : kw_I bX sX := by rw [gX]; exact hX
  have FX : kw_F [] σ sX := by rw [gX]; exact kw_F.rf
  show kw_AW l 30 ((1002, L, xs) :: kw_E0) KJ mL_law kl_P 1350 [(3, .int x3), (2, .ref 61), (1, .ref 0), (0, .ref 1002)] [.long rX] (kw_mixX σ sX)
  refine kw_pop2 (pc := 1350) (i := 898) (kl_a14 58 rfl) rfl ?_
  refine kw_aload_n (pc := 1351) (i := 899) (k := 1) (n := 2) (kl_a14 59 rfl) rfl rfl ?_
  refine kw_callM (pc := 1352) (i := 900) (Y := mX8_digest) (xs := []) (st := []) kl_hE (kl_a15 0 rfl) lvL_190 arX8_digest (c_X8_digest_0 l T (by omega) (by omega) (kw_sh 61 (kw_mixX σ sX)) (by rw [kw_sh_mixX]; exact hM)  ) (by decide) (Nat.le_of_ble_eq_true rfl) rfl (fun _ _ q => by obtain ⟨-, r, rfl, -⟩ := q; exact fun _ _ => rfl) (fun v sM pM => ?_)
  obtain ⟨⟨IM, FM⟩, rM, rfl, eM⟩ := pM
  rw [kw_sh_mixX] at FM eM
  have AX : kw_I bX (kw_mixM (kw_mixX σ sX) sM) := kw_IX_mixM (kw_IX_mixX IX)
  have AM : kw_I (bM T) (kw_sh 61 (kw_mixM (kw_mixX σ sX) sM)) := by rw [kw_sh_mixM]; exact IM
  have Q := kr_R.fr hR FX FM (by decide) (by decide)
  have AR : kr_R (kw_mixM (kw_mixX σ sX) sM) (kw_sh 61 (kw_mixM (kw_mixX σ sX) sM)) := by rw [kw_sh_mixM]; exact ⟨(Q).1.mix, (Q).2.mix⟩
  generalize (kw_mixM (kw_mixX σ sX) sM) = J at AX AM AR ⊢
  show kw_AW l 30 ((1002, L, xs) :: kw_E0) KJ mL_law kl_P 1355 [(3, .int x3), (2, .ref 61), (1, .ref 0), (0, .ref 1002)] [.long rM] J
  refine kw_pop2 (pc := 1355) (i := 901) (kl_a15 1 rfl) rfl ?_
  refine kw_goto (pc := 1356) (i := 902) (tgt := 1359) (kl_a15 2 rfl) rfl ?_
  exact hnext J T AX AM AR (by omega) (by omega)
end
section
set_option maxRecDepth 100000 in
set_option maxHeartbeats 4000000 in
theorem kl_loop (l : Launch) (L : Nat) (xs : Nat → Int32) (hL : L ≤ 384) : ∀ (n : Nat) (x3 : Int32) (σ : kw_S) (T : Int), kw_I bX σ → kw_I (bM T) (kw_sh 61 σ) → kr_R σ (kw_sh 61 σ) → 0 ≤ T → 0 ≤ x3.toInt → x3.toInt ≤ 400 → 3 * T ≤ 10 * x3.toInt → (500 - x3.toInt).toNat < n → kw_AW l 30 ((1002, L, xs) :: kw_E0) KJ mL_law kl_P 18 [(3, .int x3), (2, .ref 61), (1, .ref 0), (0, .ref 1002)] [] σ := by
  intro n
  induction n with
  | zero => intro x3 σ T _ _ _ _ _ _ _ hm; exact absurd hm (Nat.not_lt_zero _)
  | succ n ih =>
    intro x3 σ T hX hM hR hT0 h0 h400 hT hm
    have hLt : (Int32.ofNat L).toInt = (L : Int) := nI_toInt (by omega)
    have q6 : (6 : Int32).toInt = 6 := rfl
    refine kw_iload_n (pc := 18) (i := 10) (k := 0) (n := 3) rfl rfl rfl ?_
    refine kw_aload_n (pc := 19) (i := 11) (k := 3) (n := 0) rfl rfl rfl ?_
    refine kw_tlen (pc := 20) (i := 12) (k := 0) (n := L) (v := Int32.ofNat L) rfl rfl rfl ?_
    refine kw_bipush (pc := 21) (i := 13) (v := 6) rfl rfl ?_
    refine kw_isub (pc := 23) (i := 14) rfl (fun z e_z t_z => ?_)
    refine kw_icmp_gt (pc := 24) (i := 15) (tgt := 1365) rfl rfl (fun c => ?_) (fun c => ?_)
    · refine kw_iconst (pc := 1365) (i := 905) (v := 1) rfl rfl ?_
      exact kw_ireturn (pc := 1366) (i := 906) (ty := .boolean) rfl rfl rfl rfl
    · have h1 : x3.toInt + 6 ≤ L := by omega
      have hnext : ∀ (S : kw_S) (T' : Int), kw_I bX S → kw_I (bM T') (kw_sh 61 S) → kr_R S (kw_sh 61 S) → 0 ≤ T' → T' ≤ T + 20 → kw_AW l 30 ((1002, L, xs) :: kw_E0) KJ mL_law kl_P 1359 [(3, .int x3), (2, .ref 61), (1, .ref 0), (0, .ref 1002)] [] S := by
        intro S T' a1 a2 ar a3 a4
        refine kw_iinc' (pc := 1359) (i := 903) (k := 0) (fun z => [(3, .int z), (2, .ref 61), (1, .ref 0), (0, .ref 1002)]) rfl rfl (by decide) rfl (fun _ => rfl) (fun z5 e_z5 t_z5 => ?_)
        refine kw_goto (pc := 1362) (i := 904) (tgt := 18) rfl rfl ?_
        exact ih z5 S T' a1 a2 ar a3 (by omega) (by omega) (by omega) (by omega)
      refine kw_aload_n (pc := 27) (i := 16) (k := 3) (n := 0) rfl rfl rfl ?_
      refine kw_iload_n (pc := 28) (i := 17) (k := 0) (n := 3) rfl rfl rfl ?_
      refine kw_tld (pc := 29) (i := 18) (k := 0) (n := L) rfl rfl (by omega) (by omega) (fun v e_v => ?_)
      refine kw_bipush (pc := 30) (i := 19) (v := 63) rfl rfl ?_
      refine kw_iand (pc := 32) (i := 20) rfl (fun w e_w => ?_)
      have hw := kl_and63 v w e_w
      have hT1 : T ≤ 2000 := by omega
      by_cases g0 : w.toInt = 0
      · refine kw_tableIn (pc := 33) (i := 21) (k := 0) (tgt := 220) rfl (by omega) (by decide) rfl rfl ?_
        exact kl_case0 l L xs hL x3 h0 h1 σ T hX hM hR hT0 hT1 hnext
      by_cases g1 : w.toInt = 1
      · refine kw_tableIn (pc := 33) (i := 21) (k := 1) (tgt := 253) rfl (by omega) (by decide) rfl rfl ?_
        exact kl_case1 l L xs hL x3 h0 h1 σ T hX hM hR hT0 hT1 hnext
      by_cases g2 : w.toInt = 2
      · refine kw_tableIn (pc := 33) (i := 21) (k := 2) (tgt := 296) rfl (by omega) (by decide) rfl rfl ?_
        exact kl_case2 l L xs hL x3 h0 h1 σ T hX hM hR hT0 hT1 hnext
      by_cases g3 : w.toInt = 3
      · refine kw_tableIn (pc := 33) (i := 21) (k := 3) (tgt := 329) rfl (by omega) (by decide) rfl rfl ?_
        exact kl_case3 l L xs hL x3 h0 h1 σ T hX hM hR hT0 hT1 hnext
      by_cases g4 : w.toInt = 4
      · refine kw_tableIn (pc := 33) (i := 21) (k := 4) (tgt := 352) rfl (by omega) (by decide) rfl rfl ?_
        exact kl_case4 l L xs hL x3 h0 h1 σ T hX hM hR hT0 hT1 hnext
      by_cases g5 : w.toInt = 5
      · refine kw_tableIn (pc := 33) (i := 21) (k := 5) (tgt := 415) rfl (by omega) (by decide) rfl rfl ?_
        exact kl_case5 l L xs hL x3 h0 h1 σ T hX hM hR hT0 hT1 hnext
      by_cases g6 : w.toInt = 6
      · refine kw_tableIn (pc := 33) (i := 21) (k := 6) (tgt := 438) rfl (by omega) (by decide) rfl rfl ?_
        exact kl_case6 l L xs hL x3 h0 h1 σ T hX hM hR hT0 hT1 hnext
      by_cases g7 : w.toInt = 7
      · refine kw_tableIn (pc := 33) (i := 21) (k := 7) (tgt := 471) rfl (by omega) (by decide) rfl rfl ?_
        exact kl_case7 l L xs hL x3 h0 h1 σ T hX hM hR hT0 hT1 hnext
      by_cases g8 : w.toInt = 8
      · refine kw_tableIn (pc := 33) (i := 21) (k := 8) (tgt := 514) rfl (by omega) (by decide) rfl rfl ?_
        exact kl_case8 l L xs hL x3 h0 h1 σ T hX hM hR hT0 hT1 hnext
      by_cases g9 : w.toInt = 9
      · refine kw_tableIn (pc := 33) (i := 21) (k := 9) (tgt := 537) rfl (by omega) (by decide) rfl rfl ?_
        exact kl_case9 l L xs hL x3 h0 h1 σ T hX hM hR hT0 hT1 hnext
      by_cases g10 : w.toInt = 10
      · refine kw_tableIn (pc := 33) (i := 21) (k := 10) (tgt := 560) rfl (by omega) (by decide) rfl rfl ?_
        exact kl_case10 l L xs hL x3 h0 h1 σ T hX hM hR hT0 hT1 hnext
      by_cases g11 : w.toInt = 11
      · refine kw_tableIn (pc := 33) (i := 21) (k := 11) (tgt := 593) rfl (by omega) (by decide) rfl rfl ?_
        exact kl_case11 l L xs hL x3 h0 h1 σ T hX hM hR hT0 hT1 hnext
      by_cases g12 : w.toInt = 12
      · refine kw_tableIn (pc := 33) (i := 21) (k := 12) (tgt := 626) rfl (by omega) (by decide) rfl rfl ?_
        exact kl_case12 l L xs hL x3 h0 h1 σ T hX hM hR hT0 hT1 hnext
      by_cases g13 : w.toInt = 13
      · refine kw_tableIn (pc := 33) (i := 21) (k := 13) (tgt := 649) rfl (by omega) (by decide) rfl rfl ?_
        exact kl_case13 l L xs hL x3 h0 h1 σ T hX hM hR hT0 hT1 hnext
      by_cases g14 : w.toInt = 14
      · refine kw_tableIn (pc := 33) (i := 21) (k := 14) (tgt := 672) rfl (by omega) (by decide) rfl rfl ?_
        exact kl_case14 l L xs hL x3 h0 h1 σ T hX hM hR hT0 hT1 hnext
      by_cases g15 : w.toInt = 15
      · refine kw_tableIn (pc := 33) (i := 21) (k := 15) (tgt := 695) rfl (by omega) (by decide) rfl rfl ?_
        exact kl_case15 l L xs hL x3 h0 h1 σ T hX hM hR hT0 hT1 hnext
      by_cases g16 : w.toInt = 16
      · refine kw_tableIn (pc := 33) (i := 21) (k := 16) (tgt := 708) rfl (by omega) (by decide) rfl rfl ?_
        exact kl_case16 l L xs hL x3 h0 h1 σ T hX hM hR hT0 hT1 hnext
      by_cases g17 : w.toInt = 17
      · refine kw_tableIn (pc := 33) (i := 21) (k := 17) (tgt := 731) rfl (by omega) (by decide) rfl rfl ?_
        exact kl_case17 l L xs hL x3 h0 h1 σ T hX hM hR hT0 hT1 hnext
      by_cases g18 : w.toInt = 18
      · refine kw_tableIn (pc := 33) (i := 21) (k := 18) (tgt := 754) rfl (by omega) (by decide) rfl rfl ?_
        exact kl_case18 l L xs hL x3 h0 h1 σ T hX hM hR hT0 hT1 hnext
      by_cases g19 : w.toInt = 19
      · refine kw_tableIn (pc := 33) (i := 21) (k := 19) (tgt := 777) rfl (by omega) (by decide) rfl rfl ?_
        exact kl_case19 l L xs hL x3 h0 h1 σ T hX hM hR hT0 hT1 hnext
      by_cases g20 : w.toInt = 20
      · refine kw_tableIn (pc := 33) (i := 21) (k := 20) (tgt := 800) rfl (by omega) (by decide) rfl rfl ?_
        exact kl_case20 l L xs hL x3 h0 h1 σ T hX hM hR hT0 hT1 hnext
      by_cases g21 : w.toInt = 21
      · refine kw_tableIn (pc := 33) (i := 21) (k := 21) (tgt := 823) rfl (by omega) (by decide) rfl rfl ?_
        exact kl_case21 l L xs hL x3 h0 h1 σ T hX hM hR hT0 hT1 hnext
      by_cases g22 : w.toInt = 22
      · refine kw_tableIn (pc := 33) (i := 21) (k := 22) (tgt := 846) rfl (by omega) (by decide) rfl rfl ?_
        exact kl_case22 l L xs hL x3 h0 h1 σ T hX hM hR hT0 hT1 hnext
      by_cases g23 : w.toInt = 23
      · refine kw_tableIn (pc := 33) (i := 21) (k := 23) (tgt := 859) rfl (by omega) (by decide) rfl rfl ?_
        exact kl_case23 l L xs hL x3 h0 h1 σ T hX hM hR hT0 hT1 hnext
      by_cases g24 : w.toInt = 24
      · refine kw_tableIn (pc := 33) (i := 21) (k := 24) (tgt := 882) rfl (by omega) (by decide) rfl rfl ?_
        exact kl_case24 l L xs hL x3 h0 h1 σ T hX hM hR hT0 hT1 hnext
      by_cases g25 : w.toInt = 25
      · refine kw_tableIn (pc := 33) (i := 21) (k := 25) (tgt := 905) rfl (by omega) (by decide) rfl rfl ?_
        exact kl_case25 l L xs hL x3 h0 h1 σ T hX hM hR hT0 hT1 hnext
      by_cases g26 : w.toInt = 26
      · refine kw_tableIn (pc := 33) (i := 21) (k := 26) (tgt := 948) rfl (by omega) (by decide) rfl rfl ?_
        exact kl_case26 l L xs hL x3 h0 h1 σ T hX hM hR hT0 hT1 hnext
      by_cases g27 : w.toInt = 27
      · refine kw_tableIn (pc := 33) (i := 21) (k := 27) (tgt := 971) rfl (by omega) (by decide) rfl rfl ?_
        exact kl_case27 l L xs hL x3 h0 h1 σ T hX hM hR hT0 hT1 hnext
      by_cases g28 : w.toInt = 28
      · refine kw_tableIn (pc := 33) (i := 21) (k := 28) (tgt := 1004) rfl (by omega) (by decide) rfl rfl ?_
        exact kl_case28 l L xs hL x3 h0 h1 σ T hX hM hR hT0 hT1 hnext
      by_cases g29 : w.toInt = 29
      · refine kw_tableIn (pc := 33) (i := 21) (k := 29) (tgt := 1037) rfl (by omega) (by decide) rfl rfl ?_
        exact kl_case29 l L xs hL x3 h0 h1 σ T hX hM hR hT0 hT1 hnext
      by_cases g30 : w.toInt = 30
      · refine kw_tableIn (pc := 33) (i := 21) (k := 30) (tgt := 1070) rfl (by omega) (by decide) rfl rfl ?_
        exact kl_case30 l L xs hL x3 h0 h1 σ T hX hM hR hT0 hT1 hnext
      by_cases g31 : w.toInt = 31
      · refine kw_tableIn (pc := 33) (i := 21) (k := 31) (tgt := 1103) rfl (by omega) (by decide) rfl rfl ?_
        exact kl_case31 l L xs hL x3 h0 h1 σ T hX hM hR hT0 hT1 hnext
      by_cases g32 : w.toInt = 32
      · refine kw_tableIn (pc := 33) (i := 21) (k := 32) (tgt := 1126) rfl (by omega) (by decide) rfl rfl ?_
        exact kl_case32 l L xs hL x3 h0 h1 σ T hX hM hR hT0 hT1 hnext
      by_cases g33 : w.toInt = 33
      · refine kw_tableIn (pc := 33) (i := 21) (k := 33) (tgt := 1159) rfl (by omega) (by decide) rfl rfl ?_
        exact kl_case33 l L xs hL x3 h0 h1 σ T hX hM hR hT0 hT1 hnext
      by_cases g34 : w.toInt = 34
      · refine kw_tableIn (pc := 33) (i := 21) (k := 34) (tgt := 1202) rfl (by omega) (by decide) rfl rfl ?_
        exact kl_case34 l L xs hL x3 h0 h1 σ T hX hM hR hT0 hT1 hnext
      by_cases g35 : w.toInt = 35
      · refine kw_tableIn (pc := 33) (i := 21) (k := 35) (tgt := 1235) rfl (by omega) (by decide) rfl rfl ?_
        exact kl_case35 l L xs hL x3 h0 h1 σ T hX hM hR hT0 hT1 hnext
      by_cases g36 : w.toInt = 36
      · refine kw_tableIn (pc := 33) (i := 21) (k := 36) (tgt := 1248) rfl (by omega) (by decide) rfl rfl ?_
        exact kl_case36 l L xs hL x3 h0 h1 σ T hX hM hR hT0 hT1 hnext
      by_cases g37 : w.toInt = 37
      · refine kw_tableIn (pc := 33) (i := 21) (k := 37) (tgt := 1261) rfl (by omega) (by decide) rfl rfl ?_
        exact kl_case37 l L xs hL x3 h0 h1 σ T hX hM hR hT0 hT1 hnext
      by_cases g38 : w.toInt = 38
      · refine kw_tableIn (pc := 33) (i := 21) (k := 38) (tgt := 1274) rfl (by omega) (by decide) rfl rfl ?_
        exact kl_case38 l L xs hL x3 h0 h1 σ T hX hM hR hT0 hT1 hnext
      by_cases g39 : w.toInt = 39
      · refine kw_tableIn (pc := 33) (i := 21) (k := 39) (tgt := 1297) rfl (by omega) (by decide) rfl rfl ?_
        exact kl_case39 l L xs hL x3 h0 h1 σ T hX hM hR hT0 hT1 hnext
      by_cases g40 : w.toInt = 40
      · refine kw_tableIn (pc := 33) (i := 21) (k := 40) (tgt := 1310) rfl (by omega) (by decide) rfl rfl ?_
        exact kl_case40 l L xs hL x3 h0 h1 σ T hX hM hR hT0 hT1 hnext
      by_cases g41 : w.toInt = 41
      · refine kw_tableIn (pc := 33) (i := 21) (k := 41) (tgt := 1323) rfl (by omega) (by decide) rfl rfl ?_
        exact kl_case41 l L xs hL x3 h0 h1 σ T hX hM hR hT0 hT1 hnext
      by_cases g42 : w.toInt = 42
      · refine kw_tableIn (pc := 33) (i := 21) (k := 42) (tgt := 1346) rfl (by omega) (by decide) rfl rfl ?_
        exact kl_case42 l L xs hL x3 h0 h1 σ T hX hM hR hT0 hT1 hnext
      refine kw_tableOut (pc := 33) (i := 21) (tgt := 1359) rfl (by omega) rfl ?_
      exact hnext σ T hX hM hR hT0 (by omega)
end
