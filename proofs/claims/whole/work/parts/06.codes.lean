/-! PRINTED by wip/whole/gen/mk05.py: the code words -/
noncomputable def mi_w (k : Nat) : Cond := match mi_hh k with
  | [] => .code (mi_nm k) (mi_cd k) (mi_hd k).2.1 (mi_rt k)
  | hh => .codeWith (mi_nm k) (mi_cd k) (mi_hd k).2.1 (mi_rt k) hh
def mi_WK_0 : List (Nat × Unit) := [(0, ()), (1, ()), (2, ()), (3, ()), (4, ()), (5, ()), (6, ()), (7, ()), (8, ()), (9, ())]
set_option maxRecDepth 100000 in
theorem mi_WK_0_ok : ∀ e ∈ mi_WK_0, (fun (e : Nat × Unit) => mi_w e.1) e ∈ lw_tbl := mi_in _ (fun (e : Nat × Unit) => mi_w e.1) [282, 183, 1044, 700, 696, 704, 714, 416, 957, 962] rfl
def mi_WK_1 : List (Nat × Unit) := [(10, ()), (11, ()), (12, ()), (13, ()), (14, ()), (15, ()), (16, ()), (17, ()), (18, ()), (19, ())]
set_option maxRecDepth 100000 in
theorem mi_WK_1_ok : ∀ e ∈ mi_WK_1, (fun (e : Nat × Unit) => mi_w e.1) e ∈ lw_tbl := mi_in _ (fun (e : Nat × Unit) => mi_w e.1) [953, 336, 787, 792, 797, 1166, 1177, 801, 805, 809] rfl
def mi_WK_2 : List (Nat × Unit) := [(20, ()), (21, ()), (22, ()), (23, ()), (24, ()), (25, ()), (26, ()), (27, ()), (28, ()), (29, ())]
set_option maxRecDepth 100000 in
theorem mi_WK_2_ok : ∀ e ∈ mi_WK_2, (fun (e : Nat × Unit) => mi_w e.1) e ∈ lw_tbl := mi_in _ (fun (e : Nat × Unit) => mi_w e.1) [906, 850, 854, 858, 872, 862, 977, 981, 984, 1018] rfl
def mi_WK_3 : List (Nat × Unit) := [(30, ()), (31, ()), (32, ()), (33, ()), (34, ()), (35, ()), (36, ()), (37, ()), (38, ()), (39, ())]
set_option maxRecDepth 100000 in
theorem mi_WK_3_ok : ∀ e ∈ mi_WK_3, (fun (e : Nat × Unit) => mi_w e.1) e ∈ lw_tbl := mi_in _ (fun (e : Nat × Unit) => mi_w e.1) [304, 728, 733, 736, 740, 747, 1148, 876, 880, 638] rfl
def mi_WK_4 : List (Nat × Unit) := [(40, ()), (41, ()), (42, ()), (43, ()), (44, ()), (45, ()), (46, ()), (47, ()), (48, ()), (49, ())]
set_option maxRecDepth 100000 in
theorem mi_WK_4_ok : ∀ e ∈ mi_WK_4, (fun (e : Nat × Unit) => mi_w e.1) e ∈ lw_tbl := mi_in _ (fun (e : Nat × Unit) => mi_w e.1) [761, 783, 765, 779, 774, 261, 623, 1036, 368, 817] rfl
def mi_WK_5 : List (Nat × Unit) := [(50, ()), (51, ()), (52, ()), (53, ()), (54, ()), (55, ()), (56, ()), (57, ()), (58, ()), (59, ())]
set_option maxRecDepth 100000 in
theorem mi_WK_5_ok : ∀ e ∈ mi_WK_5, (fun (e : Nat × Unit) => mi_w e.1) e ∈ lw_tbl := mi_in _ (fun (e : Nat × Unit) => mi_w e.1) [822, 826, 830, 837, 842, 846, 914, 922, 926, 930] rfl
def mi_WK_6 : List (Nat × Unit) := [(60, ()), (61, ()), (62, ()), (63, ()), (64, ()), (65, ()), (66, ()), (67, ()), (68, ()), (69, ())]
set_option maxRecDepth 100000 in
theorem mi_WK_6_ok : ∀ e ∈ mi_WK_6, (fun (e : Nat × Unit) => mi_w e.1) e ∈ lw_tbl := mi_in _ (fun (e : Nat × Unit) => mi_w e.1) [934, 943, 233, 485, 489, 495, 585, 591, 601, 608] rfl
def mi_WK_7 : List (Nat × Unit) := [(70, ()), (71, ()), (72, ()), (73, ()), (74, ()), (75, ()), (76, ()), (77, ()), (78, ()), (79, ())]
set_option maxRecDepth 100000 in
theorem mi_WK_7_ok : ∀ e ∈ mi_WK_7, (fun (e : Nat × Unit) => mi_w e.1) e ∈ lw_tbl := mi_in _ (fun (e : Nat × Unit) => mi_w e.1) [570, 574, 499, 514, 566, 506, 577, 509, 611, 396] rfl
def mi_WK_8 : List (Nat × Unit) := [(80, ()), (81, ()), (82, ()), (83, ()), (84, ()), (85, ()), (86, ()), (87, ()), (88, ()), (89, ())]
set_option maxRecDepth 100000 in
theorem mi_WK_8_ok : ∀ e ∈ mi_WK_8, (fun (e : Nat × Unit) => mi_w e.1) e ∈ lw_tbl := mi_in _ (fun (e : Nat × Unit) => mi_w e.1) [996, 1000, 1004, 134, 627, 581, 659, 652, 684, 668] rfl
def mi_WK_9 : List (Nat × Unit) := [(90, ()), (91, ()), (92, ()), (93, ()), (94, ()), (95, ()), (96, ()), (97, ()), (98, ()), (99, ())]
set_option maxRecDepth 100000 in
theorem mi_WK_9_ok : ∀ e ∈ mi_WK_9, (fun (e : Nat × Unit) => mi_w e.1) e ∈ lw_tbl := mi_in _ (fun (e : Nat × Unit) => mi_w e.1) [751, 1008, 218, 472, 476, 503, 126, 468, 481, 643] rfl
def mi_WK_10 : List (Nat × Unit) := [(100, ()), (101, ()), (102, ()), (103, ()), (104, ()), (105, ()), (106, ()), (107, ()), (108, ()), (109, ())]
set_option maxRecDepth 100000 in
theorem mi_WK_10_ok : ∀ e ∈ mi_WK_10, (fun (e : Nat × Unit) => mi_w e.1) e ∈ lw_tbl := mi_in _ (fun (e : Nat × Unit) => mi_w e.1) [648, 664, 679, 688, 692, 710, 1061, 1137, 1144, 719] rfl
def mi_WK_11 : List (Nat × Unit) := [(110, ()), (111, ()), (112, ()), (113, ()), (114, ()), (115, ()), (116, ()), (117, ()), (118, ()), (119, ())]
set_option maxRecDepth 100000 in
theorem mi_WK_11_ok : ∀ e ∈ mi_WK_11, (fun (e : Nat × Unit) => mi_w e.1) e ∈ lw_tbl := mi_in _ (fun (e : Nat × Unit) => mi_w e.1) [884, 889, 894, 1155, 1162, 898, 902, 910, 918, 938] rfl
def mi_WK_12 : List (Nat × Unit) := [(120, ()), (121, ()), (122, ()), (123, ()), (124, ()), (125, ()), (126, ()), (127, ()), (128, ()), (129, ())]
set_option maxRecDepth 100000 in
theorem mi_WK_12_ok : ∀ e ∈ mi_WK_12, (fun (e : Nat × Unit) => mi_w e.1) e ∈ lw_tbl := mi_in _ (fun (e : Nat × Unit) => mi_w e.1) [1173, 949, 967, 973, 988, 1187, 1194, 992, 1014, 1023] rfl
def mi_WK_13 : List (Nat × Unit) := [(130, ()), (131, ()), (132, ()), (133, ()), (134, ()), (135, ()), (136, ()), (137, ()), (138, ()), (139, ())]
set_option maxRecDepth 100000 in
theorem mi_WK_13_ok : ∀ e ∈ mi_WK_13, (fun (e : Nat × Unit) => mi_w e.1) e ∈ lw_tbl := mi_in _ (fun (e : Nat × Unit) => mi_w e.1) [1032, 1040, 1049, 1053, 671, 655, 614, 743, 1065, 619] rfl
def mi_WK_14 : List (Nat × Unit) := [(140, ()), (141, ()), (142, ()), (143, ()), (144, ()), (145, ()), (146, ()), (147, ()), (148, ()), (149, ())]
set_option maxRecDepth 100000 in
theorem mi_WK_14_ok : ∀ e ∈ mi_WK_14, (fun (e : Nat × Unit) => mi_w e.1) e ∈ lw_tbl := mi_in _ (fun (e : Nat × Unit) => mi_w e.1) [634, 724, 1027, 1198, 1313, 1203, 1208, 1212, 1366, 1298] rfl
def mi_WK_15 : List (Nat × Unit) := [(150, ()), (151, ()), (152, ()), (153, ()), (154, ()), (155, ()), (156, ()), (157, ()), (158, ()), (159, ())]
set_option maxRecDepth 100000 in
theorem mi_WK_15_ok : ∀ e ∈ mi_WK_15, (fun (e : Nat × Unit) => mi_w e.1) e ∈ lw_tbl := mi_in _ (fun (e : Nat × Unit) => mi_w e.1) [1382, 1378, 1362, 1386, 1302, 1306, 1321, 1324, 1317, 1344] rfl
def mi_WK_16 : List (Nat × Unit) := [(160, ()), (161, ()), (162, ()), (163, ()), (164, ()), (165, ()), (166, ()), (167, ()), (168, ()), (169, ())]
set_option maxRecDepth 100000 in
theorem mi_WK_16_ok : ∀ e ∈ mi_WK_16, (fun (e : Nat × Unit) => mi_w e.1) e ∈ lw_tbl := mi_in _ (fun (e : Nat × Unit) => mi_w e.1) [1328, 1340, 1336, 1332, 1359, 1356, 1352, 1348, 1310, 1370] rfl
def mi_WK_17 : List (Nat × Unit) := [(170, ()), (171, ()), (172, ()), (173, ()), (174, ()), (175, ()), (176, ()), (177, ()), (178, ()), (179, ())]
set_option maxRecDepth 100000 in
theorem mi_WK_17_ok : ∀ e ∈ mi_WK_17, (fun (e : Nat × Unit) => mi_w e.1) e ∈ lw_tbl := mi_in _ (fun (e : Nat × Unit) => mi_w e.1) [1374, 1394, 1390, 1398, 1402, 1418, 1414, 1410, 1406, 1428] rfl
def mi_WK_18 : List (Nat × Unit) := [(180, ()), (181, ()), (182, ()), (183, ()), (184, ()), (185, ()), (186, ()), (187, ()), (188, ()), (189, ())]
set_option maxRecDepth 100000 in
theorem mi_WK_18_ok : ∀ e ∈ mi_WK_18, (fun (e : Nat × Unit) => mi_w e.1) e ∈ lw_tbl := mi_in _ (fun (e : Nat × Unit) => mi_w e.1) [1432, 1424, 1436, 1448, 1444, 1459, 1456, 1440, 1452, 1467] rfl
def mi_WK_19 : List (Nat × Unit) := [(190, ()), (191, ()), (192, ()), (193, ()), (194, ()), (195, ()), (196, ()), (197, ()), (198, ()), (199, ())]
set_option maxRecDepth 100000 in
theorem mi_WK_19_ok : ∀ e ∈ mi_WK_19, (fun (e : Nat × Unit) => mi_w e.1) e ∈ lw_tbl := mi_in _ (fun (e : Nat × Unit) => mi_w e.1) [1463, 1482, 1479, 1475, 1471, 1493, 1496, 1508, 1504, 1500] rfl
def mi_WK_20 : List (Nat × Unit) := [(200, ()), (201, ()), (202, ()), (203, ()), (204, ()), (205, ()), (206, ()), (207, ()), (208, ()), (209, ())]
set_option maxRecDepth 100000 in
theorem mi_WK_20_ok : ∀ e ∈ mi_WK_20, (fun (e : Nat × Unit) => mi_w e.1) e ∈ lw_tbl := mi_in _ (fun (e : Nat × Unit) => mi_w e.1) [1490, 1516, 1486, 1512, 1528, 1532, 1524, 1551, 1548, 1544] rfl
def mi_WK_21 : List (Nat × Unit) := [(210, ()), (211, ()), (212, ()), (213, ()), (214, ()), (215, ()), (216, ()), (217, ()), (218, ()), (219, ())]
set_option maxRecDepth 100000 in
theorem mi_WK_21_ok : ∀ e ∈ mi_WK_21, (fun (e : Nat × Unit) => mi_w e.1) e ∈ lw_tbl := mi_in _ (fun (e : Nat × Unit) => mi_w e.1) [1563, 1559, 1555, 1571, 1567, 1520, 1536, 1540, 1575, 1579] rfl
def mi_WK_22 : List (Nat × Unit) := [(220, ()), (221, ()), (222, ()), (223, ()), (224, ()), (225, ()), (226, ()), (227, ()), (228, ()), (229, ())]
set_option maxRecDepth 100000 in
theorem mi_WK_22_ok : ∀ e ∈ mi_WK_22, (fun (e : Nat × Unit) => mi_w e.1) e ∈ lw_tbl := mi_in _ (fun (e : Nat × Unit) => mi_w e.1) [1587, 1583, 1595, 1599, 1591, 1615, 1611, 1619, 1607, 1603] rfl
def mi_WK_23 : List (Nat × Unit) := [(230, ()), (231, ()), (232, ()), (233, ()), (234, ()), (235, ()), (236, ()), (237, ()), (238, ()), (239, ())]
set_option maxRecDepth 100000 in
theorem mi_WK_23_ok : ∀ e ∈ mi_WK_23, (fun (e : Nat × Unit) => mi_w e.1) e ∈ lw_tbl := mi_in _ (fun (e : Nat × Unit) => mi_w e.1) [1623, 1627, 1636, 1632, 1640, 1652, 1648, 1644, 1656, 1668] rfl
def mi_WK_24 : List (Nat × Unit) := [(240, ()), (241, ()), (242, ()), (243, ()), (244, ()), (245, ()), (246, ()), (247, ()), (248, ()), (249, ())]
set_option maxRecDepth 100000 in
theorem mi_WK_24_ok : ∀ e ∈ mi_WK_24, (fun (e : Nat × Unit) => mi_w e.1) e ∈ lw_tbl := mi_in _ (fun (e : Nat × Unit) => mi_w e.1) [1664, 1660, 1676, 1672, 1680, 1684, 1688, 1692, 1056, 1133] rfl
def mi_WK_25 : List (Nat × Unit) := [(250, ()), (251, ()), (252, ()), (253, ()), (254, ()), (255, ()), (257, ()), (258, ()), (259, ()), (260, ())]
set_option maxRecDepth 100000 in
theorem mi_WK_25_ok : ∀ e ∈ mi_WK_25, (fun (e : Nat × Unit) => mi_w e.1) e ∈ lw_tbl := mi_in _ (fun (e : Nat × Unit) => mi_w e.1) [1140, 1151, 1158, 1169, 1183, 1190, 754, 813, 1180, 867] rfl
def mi_WK_26 : List (Nat × Unit) := [(261, ())]
set_option maxRecDepth 100000 in
theorem mi_WK_26_ok : ∀ e ∈ mi_WK_26, (fun (e : Nat × Unit) => mi_w e.1) e ∈ lw_tbl := mi_in _ (fun (e : Nat × Unit) => mi_w e.1) [630] rfl
def mi_WK : List (Nat × Unit) := mi_WK_0 ++ mi_WK_1 ++ mi_WK_2 ++ mi_WK_3 ++ mi_WK_4 ++ mi_WK_5 ++ mi_WK_6 ++ mi_WK_7 ++ mi_WK_8 ++ mi_WK_9 ++ mi_WK_10 ++ mi_WK_11 ++ mi_WK_12 ++ mi_WK_13 ++ mi_WK_14 ++ mi_WK_15 ++ mi_WK_16 ++ mi_WK_17 ++ mi_WK_18 ++ mi_WK_19 ++ mi_WK_20 ++ mi_WK_21 ++ mi_WK_22 ++ mi_WK_23 ++ mi_WK_24 ++ mi_WK_25 ++ mi_WK_26
theorem mi_WK_ok : ∀ e ∈ mi_WK, (fun (e : Nat × Unit) => mi_w e.1) e ∈ lw_tbl := fun e h => (List.mem_append.mp h).elim (fun h => (List.mem_append.mp h).elim (fun h => (List.mem_append.mp h).elim (fun h => (List.mem_append.mp h).elim (fun h => (List.mem_append.mp h).elim (fun h => (List.mem_append.mp h).elim (fun h => (List.mem_append.mp h).elim (fun h => (List.mem_append.mp h).elim (fun h => (List.mem_append.mp h).elim (fun h => (List.mem_append.mp h).elim (fun h => (List.mem_append.mp h).elim (fun h => (List.mem_append.mp h).elim (fun h => (List.mem_append.mp h).elim (fun h => (List.mem_append.mp h).elim (fun h => (List.mem_append.mp h).elim (fun h => (List.mem_append.mp h).elim (fun h => (List.mem_append.mp h).elim (fun h => (List.mem_append.mp h).elim (fun h => (List.mem_append.mp h).elim (fun h => (List.mem_append.mp h).elim (fun h => (List.mem_append.mp h).elim (fun h => (List.mem_append.mp h).elim (fun h => (List.mem_append.mp h).elim (fun h => (List.mem_append.mp h).elim (fun h => (List.mem_append.mp h).elim (fun h => (List.mem_append.mp h).elim (fun h => mi_WK_0_ok e h) (fun h => mi_WK_1_ok e h)) (fun h => mi_WK_2_ok e h)) (fun h => mi_WK_3_ok e h)) (fun h => mi_WK_4_ok e h)) (fun h => mi_WK_5_ok e h)) (fun h => mi_WK_6_ok e h)) (fun h => mi_WK_7_ok e h)) (fun h => mi_WK_8_ok e h)) (fun h => mi_WK_9_ok e h)) (fun h => mi_WK_10_ok e h)) (fun h => mi_WK_11_ok e h)) (fun h => mi_WK_12_ok e h)) (fun h => mi_WK_13_ok e h)) (fun h => mi_WK_14_ok e h)) (fun h => mi_WK_15_ok e h)) (fun h => mi_WK_16_ok e h)) (fun h => mi_WK_17_ok e h)) (fun h => mi_WK_18_ok e h)) (fun h => mi_WK_19_ok e h)) (fun h => mi_WK_20_ok e h)) (fun h => mi_WK_21_ok e h)) (fun h => mi_WK_22_ok e h)) (fun h => mi_WK_23_ok e h)) (fun h => mi_WK_24_ok e h)) (fun h => mi_WK_25_ok e h)) (fun h => mi_WK_26_ok e h)
