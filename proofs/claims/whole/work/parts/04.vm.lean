def zq_fp0 : List (Nat × Nat × Nat × Nat) := [(9, 0, 2, 380), (15, 0, 3, 383), (18, 0, 4, 385), (21, 0, 5, 389), (24, 0, 6, 392), (27, 0, 7, 394), (31, 0, 8, 396), (34, 0, 9, 398), (37, 0, 10, 400), (40, 0, 11, 402), (43, 0, 12, 404), (46, 0, 13, 406), (50, 0, 14, 407), (53, 0, 15, 408), (56, 0, 16, 409), (62, 0, 17, 410), (66, 0, 0, 368), (69, 0, 1, 374), (72, 0, 18, 411), (84, 5, 2, 151), (98, 5, 3, 154), (102, 21, 0, 589), (114, 21, 1, 652), (139, 21, 14, 708), (145, 21, 16, 716), (148, 21, 17, 718), (155, 5, 5, 162), (158, 21, 7, 714), (165, 5, 4, 159), (179, 21, 2, 625), (182, 21, 3, 638), (196, 21, 4, 658), (199, 21, 5, 660), (202, 21, 6, 662)]
def zq_fp1 : List (Nat × Nat × Nat × Nat) := [(9, 1, 0, 348), (15, 1, 1, 349), (18, 1, 2, 350), (21, 1, 3, 351), (24, 1, 4, 352), (27, 1, 5, 353), (46, 5, 3, 156), (52, 21, 9, 700), (57, 21, 10, 702), (84, 5, 2, 153), (87, 21, 8, 690), (94, 5, 4, 160)]
def zq_fp2 : List (Nat × Nat × Nat × Nat) := [(9, 2, 0, 232), (15, 2, 1, 234), (18, 2, 2, 236), (21, 2, 3, 238), (25, 2, 4, 240)]
def zq_fp3 : List (Nat × Nat × Nat × Nat) := [(9, 3, 1, 328), (15, 3, 0, 327), (27, 0, 1, 378), (45, 0, 0, 372), (48, 4, 0, 198), (53, 4, 5, 210)]
def zq_fp4 : List (Nat × Nat × Nat × Nat) := [(9, 4, 0, 196), (15, 4, 1, 200), (18, 0, 0, 369), (24, 0, 1, 376), (31, 0, 12, 405), (36, 4, 2, 202), (39, 0, 3, 384), (42, 4, 3, 205), (45, 4, 4, 207), (48, 4, 5, 209), (64, 0, 2, 381), (71, 0, 4, 387), (86, 0, 5, 390)]
def zq_fp5 : List (Nat × Nat × Nat × Nat) := [(9, 5, 0, 147), (17, 5, 1, 149), (21, 5, 8, 166), (24, 5, 9, 167), (38, 5, 7, 165), (41, 5, 6, 164), (45, 5, 2, 152), (48, 5, 3, 155), (52, 5, 4, 157), (64, 20, 0, 1895), (67, 20, 1, 1896), (70, 20, 2, 1897), (84, 5, 5, 163)]
def zq_fp6 : List (Nat × Nat × Nat × Nat) := [(9, 6, 0, 304), (15, 6, 1, 306), (18, 6, 2, 307), (21, 6, 3, 308), (24, 6, 4, 309), (27, 0, 1, 375), (47, 4, 0, 197), (57, 0, 0, 371)]
def zq_fp7 : List (Nat × Nat × Nat × Nat) := [(9, 7, 1, 459), (15, 7, 2, 460), (18, 7, 3, 461), (21, 7, 4, 462), (24, 7, 0, 457), (33, 5, 2, 150), (77, 5, 5, 161), (87, 5, 4, 158), (128, 4, 2, 203)]
def zq_fp8 : List (Nat × Nat × Nat × Nat) := [(9, 8, 3, 265), (15, 8, 4, 267), (18, 8, 7, 271), (21, 8, 8, 272), (24, 8, 9, 273), (27, 8, 10, 274), (30, 8, 0, 259), (34, 8, 1, 261), (38, 8, 2, 263), (42, 8, 5, 269), (45, 8, 6, 270), (52, 0, 0, 370), (57, 0, 1, 377), (76, 0, 4, 386)]
def zq_fp9 : List (Nat × Nat × Nat × Nat) := [(10, 9, 0, 484), (19, 9, 1, 485), (23, 9, 2, 486), (29, 9, 3, 487), (36, 9, 4, 488), (43, 9, 5, 489), (50, 9, 6, 490), (54, 9, 7, 491), (58, 9, 8, 492), (61, 9, 9, 493), (65, 9, 10, 494), (72, 9, 11, 495), (76, 9, 12, 496), (82, 9, 13, 497), (86, 9, 14, 498), (97, 5, 1, 148), (108, 7, 0, 458), (109, 8, 0, 260), (113, 9, 15, 499), (116, 9, 17, 501), (126, 0, 7, 395), (133, 0, 8, 397), (136, 0, 9, 399), (139, 4, 0, 199), (149, 0, 10, 401), (152, 0, 11, 403), (155, 4, 1, 201), (194, 4, 2, 204), (205, 9, 16, 500), (216, 4, 3, 206), (219, 4, 4, 208), (222, 0, 0, 373), (228, 8, 1, 262), (231, 8, 3, 266), (234, 8, 2, 264), (246, 8, 4, 268), (252, 6, 0, 305), (255, 0, 1, 379), (269, 2, 4, 241), (272, 2, 1, 235), (279, 2, 2, 237), (291, 0, 2, 382), (294, 2, 3, 239), (297, 2, 0, 233), (322, 0, 6, 393), (325, 0, 5, 391), (335, 4, 5, 211), (356, 0, 4, 388)]
def zq_fp10 : List (Nat × Nat × Nat × Nat) := [(1, 10, 0, 1302), (11, 10, 2, 1304), (14, 10, 1, 1303), (24, 10, 4, 1306), (27, 10, 5, 1307), (30, 10, 6, 1308), (106, 10, 9, 1311), (109, 10, 10, 1312), (112, 10, 11, 1313), (115, 10, 12, 1314), (118, 10, 14, 1316), (121, 10, 15, 1317), (124, 10, 16, 1318), (127, 10, 17, 1319), (130, 10, 22, 1324), (133, 10, 23, 1325), (136, 10, 24, 1326), (139, 10, 25, 1327), (142, 10, 27, 1329), (146, 10, 28, 1330), (149, 10, 29, 1331), (152, 10, 31, 1333), (155, 10, 35, 1337), (158, 10, 36, 1338), (161, 10, 37, 1339), (164, 10, 38, 1340), (167, 10, 39, 1341), (170, 10, 43, 1345), (184, 10, 3, 1305), (203, 10, 7, 1309), (206, 10, 8, 1310), (231, 10, 19, 1321), (234, 10, 18, 1320), (252, 10, 13, 1315), (255, 10, 20, 1322), (284, 10, 21, 1323), (328, 10, 26, 1328), (374, 10, 30, 1332), (421, 10, 32, 1334), (424, 10, 34, 1336), (427, 10, 33, 1335), (463, 10, 40, 1342), (493, 10, 41, 1343), (496, 10, 42, 1344)]
def zq_fp11 : List (Nat × Nat × Nat × Nat) := []
def zq_fp12 : List (Nat × Nat × Nat × Nat) := []
def zq_fp13 : List (Nat × Nat × Nat × Nat) := []
def zq_fps : List (List (Nat × Nat × Nat × Nat)) := [zq_fp0, zq_fp1, zq_fp2, zq_fp3, zq_fp4, zq_fp5, zq_fp6, zq_fp7, zq_fp8, zq_fp9, zq_fp10, zq_fp11, zq_fp12, zq_fp13]
def zq_pp0 : List (Nat × Nat × Nat × Nat) := [(3, 1002, 341, 0), (75, 18, 560, 0), (78, 17, 556, 0), (79, 19, 565, 0), (87, 24, 585, 0), (91, 49, 720, 0), (94, 57, 758, 0), (107, 25, 591, 0), (110, 37, 644, 0), (117, 39, 654, 0), (120, 32, 664, 0), (124, 26, 595, 0), (128, 20, 599, 0), (131, 40, 665, 0), (135, 47, 704, 0), (142, 48, 710, 0), (151, 34, 631, 0), (161, 33, 627, 0), (169, 27, 600, 0), (172, 31, 615, 0), (185, 36, 640, 0), (188, 28, 604, 0), (192, 29, 608, 0), (205, 30, 611, 0), (209, 50, 724, 0), (213, 56, 754, 0), (216, 51, 728, 0), (219, 52, 733, 0), (230, 53, 738, 0), (234, 69, 817, 0), (237, 66, 821, 0), (240, 68, 813, 0), (243, 67, 844, 0), (247, 75, 845, 0), (250, 1000, 849, 0), (255, 91, 921, 0), (61, 8, 344, 1), (175, 11, 624, 1), (223, 55, 745, 1), (226, 12, 737, 1)]
def zq_pp1 : List (Nat × Nat × Nat × Nat) := [(3, 1002, 347, 0), (39, 41, 669, 0), (43, 42, 673, 0), (60, 20, 698, 0), (63, 46, 694, 0), (67, 43, 677, 0), (70, 38, 692, 0), (74, 44, 681, 0), (77, 45, 685, 0), (80, 32, 689, 0), (90, 26, 693, 0), (98, 37, 699, 0), (101, 54, 742, 0), (31, 11, 564, 1), (35, 12, 732, 1)]
def zq_pp2 : List (Nat × Nat × Nat × Nat) := [(3, 1002, 231, 0), (28, 12, 1089, 1), (32, 11, 1143, 1)]
def zq_pp3 : List (Nat × Nat × Nat × Nat) := [(3, 1002, 326, 0), (37, 81, 872, 0), (33, 11, 871, 1), (41, 12, 880, 1)]
def zq_pp4 : List (Nat × Nat × Nat × Nat) := [(3, 1002, 195, 0), (52, 69, 889, 0), (60, 71, 891, 0), (67, 74, 916, 0), (74, 90, 917, 0), (78, 88, 924, 0), (82, 92, 925, 0), (27, 11, 478, 1), (32, 12, 481, 1), (56, 35, 890, 1)]
def zq_pp5 : List (Nat × Nat × Nat × Nat) := [(3, 1002, 146, 0), (27, 20, 569, 0), (30, 21, 573, 0), (34, 22, 577, 0), (56, 23, 580, 0), (73, 38, 648, 0), (77, 26, 623, 0), (81, 32, 619, 0), (87, 35, 635, 1)]
def zq_pp6 : List (Nat × Nat × Nat × Nat) := [(3, 1002, 303, 0), (37, 71, 1022, 0), (43, 113, 1023, 0), (50, 114, 1027, 0), (60, 115, 1031, 0), (64, 120, 1051, 0), (69, 75, 1057, 0), (72, 1000, 1058, 0), (77, 119, 1067, 0), (81, 123, 1068, 0), (33, 11, 1021, 1), (53, 12, 1030, 1)]
def zq_pp7 : List (Nat × Nat × Nat × Nat) := [(3, 1002, 456, 0), (28, 19, 774, 0), (36, 61, 775, 0), (40, 57, 799, 0), (44, 32, 779, 0), (48, 26, 780, 0), (56, 20, 782, 0), (59, 62, 783, 0), (63, 37, 798, 0), (67, 63, 787, 0), (70, 34, 796, 0), (74, 31, 797, 0), (80, 64, 791, 0), (83, 28, 794, 0), (91, 30, 795, 0), (97, 96, 941, 0), (105, 79, 946, 0), (111, 80, 947, 0), (115, 83, 948, 0), (121, 84, 949, 0), (125, 86, 950, 0), (131, 89, 951, 0), (52, 11, 781, 1), (101, 12, 945, 1)]
def zq_pp8 : List (Nat × Nat × Nat × Nat) := [(3, 1002, 258, 0), (60, 100, 965, 0), (64, 101, 969, 0), (68, 74, 973, 0), (79, 90, 975, 0), (91, 108, 1001, 0), (95, 109, 1005, 0), (99, 110, 1009, 0), (103, 92, 1012, 0), (48, 11, 964, 1), (72, 12, 974, 1), (85, 107, 997, 1)]
def zq_pp9 : List (Nat × Nat × Nat × Nat) := [(1, 1002, 138, 0), (89, 10, 474, 0), (93, 14, 543, 0), (101, 16, 552, 0), (105, 58, 762, 0), (119, 60, 770, 0), (122, 66, 804, 0), (129, 12, 808, 0), (142, 67, 809, 0), (146, 69, 826, 0), (158, 71, 827, 0), (162, 68, 835, 0), (166, 74, 840, 0), (169, 35, 854, 0), (173, 77, 855, 0), (176, 79, 863, 0), (180, 80, 867, 0), (184, 83, 885, 0), (188, 84, 892, 0), (191, 86, 900, 0), (197, 88, 908, 0), (201, 89, 912, 0), (208, 78, 859, 0), (212, 95, 937, 0), (225, 99, 960, 0), (238, 103, 980, 0), (242, 106, 993, 0), (249, 112, 1017, 0), (258, 118, 1043, 0), (261, 119, 1047, 0), (265, 122, 1063, 0), (275, 11, 1076, 0), (282, 126, 1081, 0), (286, 128, 1090, 0), (300, 133, 1112, 0), (304, 135, 1122, 0), (307, 136, 1126, 0), (313, 90, 1116, 0), (316, 143, 1221, 0), (319, 81, 1134, 0), (328, 139, 1139, 0), (331, 141, 1148, 0), (338, 1001, 748, 0), (343, 127, 1085, 0), (346, 107, 1094, 0), (350, 129, 1095, 0), (359, 92, 1117, 0), (362, 1000, 751, 0), (9, 1, 143, 1), (18, 2, 192, 1), (28, 3, 228, 1), (35, 4, 255, 1), (42, 5, 300, 1), (49, 6, 323, 1), (71, 7, 338, 1), (81, 9, 453, 1)]
def zq_pp10 : List (Nat × Nat × Nat × Nat) := [(7, 146, 1232, 0), (18, 1002, 1241, 0), (173, 148, 1278, 0), (177, 149, 1282, 0), (180, 156, 1444, 0), (189, 157, 1448, 0), (193, 158, 1451, 0), (200, 159, 1456, 0), (209, 181, 1542, 0), (212, 162, 1467, 0), (215, 160, 1459, 0), (218, 170, 1499, 0), (221, 169, 1495, 0), (224, 171, 1503, 0), (228, 165, 1479, 0), (237, 164, 1475, 0), (241, 166, 1483, 0), (245, 173, 1511, 0), (249, 155, 1440, 0), (258, 161, 1463, 0), (261, 174, 1514, 0), (264, 175, 1518, 0), (267, 184, 1554, 0), (270, 163, 1471, 0), (273, 167, 1487, 0), (276, 168, 1491, 0), (280, 172, 1507, 0), (287, 176, 1522, 0), (290, 182, 1546, 0), (294, 186, 1562, 0), (297, 177, 1526, 0), (300, 178, 1530, 0), (303, 183, 1550, 0), (306, 179, 1534, 0), (309, 180, 1538, 0), (312, 195, 1598, 0), (315, 151, 1290, 0), (319, 152, 1294, 0), (322, 153, 1298, 0), (325, 150, 1286, 0), (331, 206, 1641, 0), (335, 193, 1590, 0), (338, 192, 1586, 0), (341, 194, 1594, 0), (344, 191, 1582, 0), (347, 196, 1601, 0), (350, 190, 1578, 0), (353, 189, 1574, 0), (356, 203, 1629, 0), (359, 188, 1570, 0), (362, 198, 1609, 0), (365, 199, 1613, 0), (368, 202, 1625, 0), (371, 215, 1681, 0), (386, 208, 1649, 0), (389, 205, 1637, 0), (392, 207, 1645, 0), (395, 210, 1661, 0), (399, 211, 1665, 0), (403, 214, 1677, 0), (406, 216, 1685, 0), (409, 218, 1693, 0), (412, 219, 1697, 0), (415, 217, 1689, 0), (418, 222, 1709, 0), (430, 227, 1729, 0), (433, 228, 1733, 0), (436, 226, 1725, 0), (439, 225, 1721, 0), (444, 232, 1750, 0), (448, 233, 1754, 0), (451, 237, 1769, 0), (454, 236, 1765, 0), (457, 238, 1773, 0), (460, 235, 1761, 0), (466, 243, 1793, 0), (469, 241, 1785, 0), (472, 242, 1789, 0), (475, 245, 1801, 0), (478, 246, 1804, 0), (482, 251, 1823, 0), (486, 249, 1815, 0), (489, 250, 1819, 0), (499, 256, 1843, 0), (502, 255, 1839, 0), (505, 259, 1855, 0), (508, 258, 1851, 0), (511, 261, 1863, 0)]
def zq_pp11 : List (Nat × Nat × Nat × Nat) := [(7, 142, 1156, 0), (15, 0, 135, 0), (18, 147, 1238, 0), (21, 13, 539, 0), (25, 145, 1228, 0), (26, 15, 548, 0), (30, 154, 1436, 0), (31, 59, 766, 0), (34, 185, 1558, 0), (35, 65, 800, 0), (39, 187, 1566, 0), (40, 70, 822, 0), (43, 197, 1605, 0), (44, 72, 831, 0), (47, 200, 1617, 0), (48, 73, 836, 0), (51, 201, 1621, 0), (52, 76, 850, 0), (56, 204, 1633, 0), (57, 82, 881, 0), (61, 209, 1657, 0), (62, 85, 896, 0), (65, 212, 1669, 0), (66, 87, 904, 0), (70, 213, 1673, 0), (71, 93, 929, 0), (75, 220, 1701, 0), (76, 94, 933, 0), (79, 221, 1705, 0), (80, 97, 952, 0), (83, 223, 1713, 0), (84, 98, 956, 0), (87, 224, 1717, 0), (88, 102, 976, 0), (91, 229, 1737, 0), (92, 104, 985, 0), (95, 230, 1742, 0), (96, 105, 989, 0), (99, 231, 1746, 0), (100, 111, 1013, 0), (103, 234, 1757, 0), (104, 116, 1035, 0), (107, 239, 1777, 0), (108, 117, 1039, 0), (111, 240, 1781, 0), (112, 121, 1059, 0), (115, 244, 1797, 0), (116, 124, 1072, 0), (120, 247, 1807, 0), (121, 125, 1077, 0), (124, 248, 1811, 0), (125, 130, 1099, 0), (128, 252, 1826, 0), (129, 131, 1104, 0), (132, 253, 1831, 0), (133, 132, 1108, 0), (136, 254, 1835, 0), (137, 134, 1118, 0), (140, 257, 1847, 0), (141, 1003, 1152, 0), (146, 260, 1859, 0), (147, 144, 1224, 0), (150, 137, 1130, 0), (153, 262, 1867, 0), (154, 138, 1135, 0), (158, 263, 1871, 0), (159, 140, 1144, 0), (162, 264, 1875, 0)]
def zq_pp12 : List (Nat × Nat × Nat × Nat) := []
def zq_pp13 : List (Nat × Nat × Nat × Nat) := []
def zq_pps : List (List (Nat × Nat × Nat × Nat)) := [zq_pp0, zq_pp1, zq_pp2, zq_pp3, zq_pp4, zq_pp5, zq_pp6, zq_pp7, zq_pp8, zq_pp9, zq_pp10, zq_pp11, zq_pp12, zq_pp13]
def zq_np0 : List (Nat × Nat × Nat × Nat × Nat) := [(59, 1, 342, 343, 122)]
def zq_np1 : List (Nat × Nat × Nat × Nat × Nat) := []
def zq_np2 : List (Nat × Nat × Nat × Nat × Nat) := []
def zq_np3 : List (Nat × Nat × Nat × Nat × Nat) := []
def zq_np4 : List (Nat × Nat × Nat × Nat × Nat) := []
def zq_np5 : List (Nat × Nat × Nat × Nat × Nat) := []
def zq_np6 : List (Nat × Nat × Nat × Nat × Nat) := []
def zq_np7 : List (Nat × Nat × Nat × Nat × Nat) := []
def zq_np8 : List (Nat × Nat × Nat × Nat × Nat) := []
def zq_np9 : List (Nat × Nat × Nat × Nat × Nat) := [(7, 5, 141, 142, 115), (16, 4, 190, 191, 116), (26, 2, 226, 227, 117), (33, 8, 253, 254, 118), (40, 6, 298, 299, 119), (47, 3, 321, 322, 120), (69, 0, 336, 337, 121), (79, 7, 451, 452, 123)]
def zq_np10 : List (Nat × Nat × Nat × Nat × Nat) := []
def zq_np11 : List (Nat × Nat × Nat × Nat × Nat) := [(8, 9, 133, 134, 114), (16, 10, 1237, 1235, 124)]
def zq_np12 : List (Nat × Nat × Nat × Nat × Nat) := []
def zq_np13 : List (Nat × Nat × Nat × Nat × Nat) := []
def zq_nps : List (List (Nat × Nat × Nat × Nat × Nat)) := [zq_np0, zq_np1, zq_np2, zq_np3, zq_np4, zq_np5, zq_np6, zq_np7, zq_np8, zq_np9, zq_np10, zq_np11, zq_np12, zq_np13]
def zq_jp0 : List (Nat × Int64 × Nat) := []
def zq_ip0 : List (Nat × Int32 × Nat) := []
def zq_jp1 : List (Nat × Int64 × Nat) := []
def zq_ip1 : List (Nat × Int32 × Nat) := []
def zq_jp2 : List (Nat × Int64 × Nat) := []
def zq_ip2 : List (Nat × Int32 × Nat) := []
def zq_jp3 : List (Nat × Int64 × Nat) := [(19, 1103515245, 876), (21, 12345, 877), (23, 2147483648, 878), (25, 65536, 879)]
def zq_ip3 : List (Nat × Int32 × Nat) := []
def zq_jp4 : List (Nat × Int64 × Nat) := []
def zq_ip4 : List (Nat × Int32 × Nat) := []
def zq_jp5 : List (Nat × Int64 × Nat) := [(15, 255, 547)]
def zq_ip5 : List (Nat × Int32 × Nat) := []
def zq_jp6 : List (Nat × Int64 × Nat) := [(85, 1000, 1071)]
def zq_ip6 : List (Nat × Int32 × Nat) := []
def zq_jp7 : List (Nat × Int64 × Nat) := []
def zq_ip7 : List (Nat × Int32 × Nat) := []
def zq_jp8 : List (Nat × Int64 × Nat) := [(83, 1000, 984), (89, -1, 1000)]
def zq_ip8 : List (Nat × Int32 × Nat) := []
def zq_jp9 : List (Nat × Int64 × Nat) := [(354, 1000000, 1098)]
def zq_ip9 : List (Nat × Int32 × Nat) := [(290, 1000000, 1103)]
def zq_jp10 : List (Nat × Int64 × Nat) := [(34, 831706, 1242), (36, 1604747591, 1243), (38, 40072202, 1244), (40, 17848, 1245), (42, 4662264, 1246), (44, 31840, 1247), (46, 6395136, 1248), (48, 12177793, 1249), (50, 57, 1250), (52, 1402138699, 1251), (54, 45076385548, 1252), (56, 412258, 1253), (58, 36179019, 1254), (60, 43890888, 1255), (62, 375310, 1256), (64, 227314, 1257), (66, 969708, 1258), (68, 29029848, 1259), (70, 43366239, 1260), (72, 426207, 1261), (74, 839908, 1262), (76, 47317195, 1263), (78, 325028, 1264), (80, 15778433, 1265), (82, 687687, 1266), (84, 8774, 1267), (86, 19741, 1268), (88, 1891, 1269), (90, 573, 1270), (92, 8777609350, 1271), (94, 35882198, 1272), (96, 628412, 1273), (98, 570026, 1274), (100, 789229, 1275), (102, 3053484035, 1276), (104, 1176028, 1277), (187, 37, 1447), (196, 10, 1454), (198, 48, 1455), (378, 1103515245, 1653), (380, 12345, 1654), (382, 2147483648, 1655), (384, 65536, 1656), (442, 1000, 1741)]
def zq_ip10 : List (Nat × Int32 × Nat) := [(492, 1000000, 1830)]
def zq_jp11 : List (Nat × Int64 × Nat) := [(19, 4294967295, 1879)]
def zq_ip11 : List (Nat × Int32 × Nat) := []
def zq_jp12 : List (Nat × Int64 × Nat) := []
def zq_ip12 : List (Nat × Int32 × Nat) := []
def zq_jp13 : List (Nat × Int64 × Nat) := []
def zq_ip13 : List (Nat × Int32 × Nat) := [(265, 1431655765, 1054), (266, 858993459, 1055), (267, 252645135, 1056)]
def zq_jps : List (List (Nat × Int64 × Nat)) := [zq_jp0, zq_jp1, zq_jp2, zq_jp3, zq_jp4, zq_jp5, zq_jp6, zq_jp7, zq_jp8, zq_jp9, zq_jp10, zq_jp11, zq_jp12, zq_jp13]
def zq_ips : List (List (Nat × Int32 × Nat)) := [zq_ip0, zq_ip1, zq_ip2, zq_ip3, zq_ip4, zq_ip5, zq_ip6, zq_ip7, zq_ip8, zq_ip9, zq_ip10, zq_ip11, zq_ip12, zq_ip13]
def zq_wN : List String := ["POST", "MAN", "WEIGHS", "UNDER", "BRAVE", "WIT", "COINS", "AT", "NOT", "AND", "OR", "SKILL", "WORTH", "GOES", "FRONT", "THEIRS", "QUARTER", "HEED", "DRAW", "SELL", "ORDER", "WEEKS", "HOLD", "PUSH", "YIELD", "FOOT", "HORSE", "MULE", "FOE", "COURAGE", "SENSE", "LOAD", "KIND", "OURS", "AGAINST", "WHAT"]
def zq_wC : List Int64 := [326396, 9518, 332864551, 11438892, 1418504, 17030, 1896526, 47, 10631, 1111, 423, 10320789, 12532058, 148870, 3554273, 291335149, 6888375828, 161248, 91904, 377958, 8328978, 12325519, 168727, 330758, 13467145, 129458, 4560413, 271517, 4784, 1389010550, 10206518, 247162, 223456, 311059, 488582165, 458588]
def zq_wU : List Int32 := [0, 0, 0, 0, 0, 0, 0, 0, 0, 0, 0, 1, 1, 1, 1, 1, 1, 1, 2, 2, 2, 2, 3, 3, 3, 4, 4, 4, 4, 5, 5, 5, 5, 6, 6, 6]
def zq_wW : List Int32 := [0, 0, 0, 0, 0, 0, 0, 0, 0, 0, 0, 0, 1, 2, 3, 4, 5, 6, 0, 1, 2, 3, 0, 1, 2, 0, 1, 2, 3, 0, 1, 2, 3, 0, 1, 2]
theorem zq_fpk : ∀ o, o < 14 → ∀ e ∈ zq_fps.getD o [], (if e.2.1 < 11 then decide (e.2.2.1 < zq_N e.2.1) && zq_has e.2.2.2 (.fieldLink (zq_R o) e.1 (zq_R e.2.1) (zq_Tf e.2.1 e.2.2.1).2.1 (zq_Tf e.2.1 e.2.2.1).2.2.1) && decide ((zq_Tf e.2.1 e.2.2.1).1 = zq_R e.2.1) else if e.2.1 = 20 then (match e.2.2.1 with | 0 => zq_has e.2.2.2 (.fieldLink (zq_R o) e.1 "RaffleArmy$Word" "code" "J") | 1 => zq_has e.2.2.2 (.fieldLink (zq_R o) e.1 "RaffleArmy$Word" "use" "I") | 2 => zq_has e.2.2.2 (.fieldLink (zq_R o) e.1 "RaffleArmy$Word" "which" "I") | _ => false) else if e.2.1 = 21 then decide (e.2.2.1 < 36) && zq_has e.2.2.2 (.fieldLink (zq_R o) e.1 "RaffleArmy$Word" (zq_wN.getD e.2.2.1 "") "LRaffleArmy$Word;") else false) = true := by decide +kernel
theorem zq_npk : ∀ o, o < 14 → ∀ e ∈ zq_nps.getD o [], (decide (e.2.1 < 11) && zq_has e.2.2.1 (.classLink (zq_R o) e.1 (zq_R e.2.1)) && zq_has e.2.2.2.1 (.instantiable (zq_R e.2.1) (zq_N e.2.1)) && zq_has e.2.2.2.2 (.initialized (zq_R e.2.1))) = true := by decide +kernel
theorem zq_jpk : ∀ o, o < 14 → ∀ e ∈ zq_jps.getD o [], zq_has e.2.2 (.constantLong (zq_R o) e.1 e.2.1) = true := by decide +kernel
theorem zq_ipk : ∀ o, o < 14 → ∀ e ∈ zq_ips.getD o [], zq_has e.2.2 (.constant (zq_R o) e.1 e.2.1) = true := by decide +kernel
def zq_y (k : Nat) : MethodName := (zq_MT.getD k zq_m0).1
def zq_spl (k : Nat) : MethodName := if k = 1000 then ⟨"java/lang/Math", "max", "(II)I"⟩ else if k = 1001 then ⟨"java/lang/Math", "min", "(II)I"⟩ else if k = 1002 then ⟨"java/lang/Object", "<init>", "()V"⟩ else if k = 1003 then ⟨"RaffleArmyLaw", "rests", "(LRaffleArmy;III[J)I"⟩ else zq_y k
theorem zq_ppk : ∀ o, o < 14 → ∀ e ∈ zq_pps.getD o [], (if e.2.2.2 = 0 then zq_has e.2.2.1 (.methodLink (zq_R o) e.1 (zq_spl e.2.1)) else decide (lw_tbl[e.2.2.1]? = some (.methodLinkNest (zq_R o) e.1 (zq_spl e.2.1) "RaffleArmy")) && decide (e.2.1 < 1000)) = true := by decide +kernel

/-! the small machine: a store of numbers and references by the number of an object and a place, kinds of objects in a list -/
abbrev zS : Type := (Nat → Nat → Int32) × (Nat → Nat → Int64) × (Nat → Nat → Option Nat)
abbrev zK : Type := Nat × Nat
abbrev zH : Type := List zK × zS
abbrev zC : Type := Nat × List (Option Value) × List Value × zH
/-- the script: its length and one more (0: there is none), its ints -/
abbrev zX : Type := Nat × (Nat → Int32)
def zq_kd (h : zH) (o : Nat) : Option zK := if 64 ≤ o then h.1[o - 64]? else none
def zq_sI (s : zS) (o k : Nat) (v : Int32) : zS := (fun a b => if a = o then (if b = k then v else s.1 a b) else s.1 a b, s.2.1, s.2.2)
def zq_sL (s : zS) (o k : Nat) (v : Int64) : zS := (s.1, fun a b => if a = o then (if b = k then v else s.2.1 a b) else s.2.1 a b, s.2.2)
def zq_sR (s : zS) (o k : Nat) (v : Option Nat) : zS := (s.1, s.2.1, fun a b => if a = o then (if b = k then v else s.2.2 a b) else s.2.2 a b)
def zq_z0 (s : zS) (o : Nat) : zS := (fun a b => if a = o then 0 else s.1 a b, fun a b => if a = o then 0 else s.2.1 a b, fun a b => if a = o then none else s.2.2 a b)
def zq_tag (ty : FieldType) : Nat := match ty with
  | .int => 0 | .boolean => 0 | .char => 0 | .long => 1 | _ => 2
def zq_fv (t : Nat) (s : zS) (o k : Nat) : Value := match t with
  | 0 => .int (s.1 o k) | 1 => .long (s.2.1 o k) | _ => va_rf (s.2.2 o k)
def zq_ic (n : Int) : Int32 := match n with
  | .ofNat k => Int32.ofNat k | .negSucc k => -(Int32.ofNat (k + 1))
def zq_r8 (n : Int) : Bool := match n with
  | .ofNat k => Nat.ble k 127 | .negSucc k => Nat.ble k 127
def zq_r16 (n : Int) : Bool := match n with
  | .ofNat k => Nat.ble k 32767 | .negSucc k => Nat.ble k 32767
def zq_ld (lv : List (Option Value)) (i : Nat) : Option Value := match lv[i]? with
  | some (some v) => some v | _ => none
def zq_clr (lv : List (Option Value)) (i : Nat) : List (Option Value) := match lv[i]? with
  | some (some _) => lv
  | _ => match i with
    | 0 => lv
    | j + 1 => match lv[j]? with
      | some (some (.long _)) => lv.set j none
      | some (some (.double _)) => lv.set j none
      | _ => lv
def zq_s1 (lv : List (Option Value)) (i : Nat) (v : Value) : Option (List (Option Value)) := if i < lv.length then some ((zq_clr lv i).set i (some v)) else none
def zq_s2 (lv : List (Option Value)) (i : Nat) (v : Value) : Option (List (Option Value)) := if i + 1 < lv.length then some (((zq_clr lv i).set i (some v)).set (i + 1) none) else none
def zq_tg (pc : Nat) (off : Int) : Option Nat := match (pc : Int) + off with
  | .ofNat t => some t | .negSucc _ => none
def zq_inb (i : Int32) (n : Nat) : Prop := ¬ (i < 0 ∨ n ≤ i.toNatClampNeg)
/-- constants, loads -/
def zq_g1 (o : Nat) (ins : Instr) (pc : Nat) (lv : List (Option Value)) (st : List Value) (h : zH) : Option zC := match ins with
  | .iconst n => some (pc + 1, lv, .int (zq_ic n) :: st, h)
  | .bipush n => if zq_r8 n = true then some (pc + 2, lv, .int (zq_ic n) :: st, h) else none
  | .sipush n => if zq_r16 n = true then some (pc + 3, lv, .int (zq_ic n) :: st, h) else none
  | .lconst n => some (pc + 1, lv, .long (Int64.ofNat n.val) :: st, h)
  | .aconst_null => some (pc + 1, lv, .null :: st, h)
  | .ldc2_w i => match (zq_jps.getD o []).lookup i with
    | some e => some (pc + 3, lv, .long e.1 :: st, h) | none => none
  | .ldc_w i => match (zq_ips.getD o []).lookup i with
    | some e => some (pc + 3, lv, .int e.1 :: st, h) | none => none
  | .iload i => match zq_ld lv i with
    | some (.int x) => some (pc + 2, lv, .int x :: st, h) | _ => none
  | .iload_n i => match zq_ld lv i.val with
    | some (.int x) => some (pc + 1, lv, .int x :: st, h) | _ => none
  | .lload i => match zq_ld lv i with
    | some (.long x) => some (pc + 2, lv, .long x :: st, h) | _ => none
  | .lload_n i => match zq_ld lv i.val with
    | some (.long x) => some (pc + 1, lv, .long x :: st, h) | _ => none
  | _ => none
def zq_g2 (ins : Instr) (pc : Nat) (lv : List (Option Value)) (st : List Value) (h : zH) : Option zC := match ins with
  | .aload i => match zq_ld lv i with
    | some (.ref x) => some (pc + 2, lv, .ref x :: st, h) | some .null => some (pc + 2, lv, .null :: st, h) | _ => none
  | .aload_n i => match zq_ld lv i.val with
    | some (.ref x) => some (pc + 1, lv, .ref x :: st, h) | some .null => some (pc + 1, lv, .null :: st, h) | _ => none
  | .istore i => match st with
    | .int x :: r => (zq_s1 lv i (.int x)).map (fun l => (pc + 2, l, r, h)) | _ => none
  | .istore_n i => match st with
    | .int x :: r => (zq_s1 lv i.val (.int x)).map (fun l => (pc + 1, l, r, h)) | _ => none
  | .lstore i => match st with
    | .long x :: r => (zq_s2 lv i (.long x)).map (fun l => (pc + 2, l, r, h)) | _ => none
  | .lstore_n i => match st with
    | .long x :: r => (zq_s2 lv i.val (.long x)).map (fun l => (pc + 1, l, r, h)) | _ => none
  | .astore i => match st with
    | .ref x :: r => (zq_s1 lv i (.ref x)).map (fun l => (pc + 2, l, r, h)) | .null :: r => (zq_s1 lv i .null).map (fun l => (pc + 2, l, r, h)) | _ => none
  | .astore_n i => match st with
    | .ref x :: r => (zq_s1 lv i.val (.ref x)).map (fun l => (pc + 1, l, r, h)) | .null :: r => (zq_s1 lv i.val .null).map (fun l => (pc + 1, l, r, h)) | _ => none
  | .iinc i n => match zq_ld lv i with
    | some (.int x) => (zq_s1 lv i (.int (x + zq_ic n))).map (fun l => (pc + 3, l, st, h)) | _ => none
  | _ => none
/-- numbers -/
def zq_g3 (ins : Instr) (pc : Nat) (lv : List (Option Value)) (st : List Value) (h : zH) : Option zC := match ins with
  | .iadd => match st with | .int y :: .int x :: r => some (pc + 1, lv, .int (x + y) :: r, h) | _ => none
  | .isub => match st with | .int y :: .int x :: r => some (pc + 1, lv, .int (x - y) :: r, h) | _ => none
  | .imul => match st with | .int y :: .int x :: r => some (pc + 1, lv, .int (x * y) :: r, h) | _ => none
  | .iand => match st with | .int y :: .int x :: r => some (pc + 1, lv, .int (x &&& y) :: r, h) | _ => none
  | .ior => match st with | .int y :: .int x :: r => some (pc + 1, lv, .int (x ||| y) :: r, h) | _ => none
  | .ixor => match st with | .int y :: .int x :: r => some (pc + 1, lv, .int (x ^^^ y) :: r, h) | _ => none
  | .idiv => match st with | .int y :: .int x :: r => if y = 0 then none else some (pc + 1, lv, .int (x / y) :: r, h) | _ => none
  | .irem => match st with | .int y :: .int x :: r => if y = 0 then none else some (pc + 1, lv, .int (x - x / y * y) :: r, h) | _ => none
  | .ineg => match st with | .int x :: r => some (pc + 1, lv, .int (-x) :: r, h) | _ => none
  | .ishl => match st with | .int y :: .int x :: r => some (pc + 1, lv, .int (x <<< (y &&& 31)) :: r, h) | _ => none
  | .ishr => match st with | .int y :: .int x :: r => some (pc + 1, lv, .int (x >>> (y &&& 31)) :: r, h) | _ => none
  | _ => none
def zq_g4 (ins : Instr) (pc : Nat) (lv : List (Option Value)) (st : List Value) (h : zH) : Option zC := match ins with
  | .ladd => match st with | .long y :: .long x :: r => some (pc + 1, lv, .long (x + y) :: r, h) | _ => none
  | .lsub => match st with | .long y :: .long x :: r => some (pc + 1, lv, .long (x - y) :: r, h) | _ => none
  | .lmul => match st with | .long y :: .long x :: r => some (pc + 1, lv, .long (x * y) :: r, h) | _ => none
  | .land => match st with | .long y :: .long x :: r => some (pc + 1, lv, .long (x &&& y) :: r, h) | _ => none
  | .lor => match st with | .long y :: .long x :: r => some (pc + 1, lv, .long (x ||| y) :: r, h) | _ => none
  | .ldiv => match st with | .long y :: .long x :: r => if y = 0 then none else some (pc + 1, lv, .long (x / y) :: r, h) | _ => none
  | .lrem => match st with | .long y :: .long x :: r => if y = 0 then none else some (pc + 1, lv, .long (x - x / y * y) :: r, h) | _ => none
  | .lshl => match st with | .int y :: .long x :: r => some (pc + 1, lv, .long (x <<< (y.toInt64 &&& 63)) :: r, h) | _ => none
  | .lshr => match st with | .int y :: .long x :: r => some (pc + 1, lv, .long (x >>> (y.toInt64 &&& 63)) :: r, h) | _ => none
  | .lcmp => match st with | .long y :: .long x :: r => some (pc + 1, lv, .int (lg_cmp x y) :: r, h) | _ => none
  | _ => none
def zq_rok (v : Value) : Bool := match v with
  | .null => true | .ref i => decide (i < 38 ∨ 64 ≤ i) | _ => false
def zq_g5 (ins : Instr) (pc : Nat) (lv : List (Option Value)) (st : List Value) (h : zH) : Option zC := match ins with
  | .i2l => match st with | .int x :: r => some (pc + 1, lv, .long x.toInt64 :: r, h) | _ => none
  | .l2i => match st with | .long x :: r => some (pc + 1, lv, .int x.toInt32 :: r, h) | _ => none
  | .i2c => match st with | .int x :: r => some (pc + 1, lv, .int (x.toUInt32 % 65536).toInt32 :: r, h) | _ => none
  | .iushr => match st with | .int y :: .int x :: r => some (pc + 1, lv, .int (x.toUInt32 >>> (y.toUInt32 &&& Int32.toUInt32 31)).toInt32 :: r, h) | _ => none
  | .dup => match st with | .int x :: r => some (pc + 1, lv, .int x :: .int x :: r, h) | .ref x :: r => some (pc + 1, lv, .ref x :: .ref x :: r, h) | _ => none
  | .dup2 => match st with | .int x :: .ref y :: r => some (pc + 1, lv, .int x :: .ref y :: .int x :: .ref y :: r, h) | _ => none
  | .goto off => (zq_tg pc off).map (fun t => (t, lv, st, h))
  | .ifnull off => match st with
    | .null :: r => (zq_tg pc off).map (fun t => (t, lv, r, h)) | .ref _ :: r => some (pc + 3, lv, r, h) | _ => none
  | .if_acmp .eq off => match st with
    | y :: x :: r => if zq_rok x = true ∧ zq_rok y = true then (zq_tg pc off).map (fun t => (if x = y then t else pc + 3, lv, r, h)) else none | _ => none
  | .if_acmp .ne off => match st with
    | y :: x :: r => if zq_rok x = true ∧ zq_rok y = true then (zq_tg pc off).map (fun t => (if x = y then pc + 3 else t, lv, r, h)) else none | _ => none
  | _ => none
/-- branches -/
def zq_g6 (ins : Instr) (pc : Nat) (lv : List (Option Value)) (st : List Value) (h : zH) : Option zC := match ins with
  | .ifCond .eq off => match st with | .int x :: r => (zq_tg pc off).map (fun t => (if x = 0 then t else pc + 3, lv, r, h)) | _ => none
  | .ifCond .ne off => match st with | .int x :: r => (zq_tg pc off).map (fun t => (if x = 0 then pc + 3 else t, lv, r, h)) | _ => none
  | .ifCond .lt off => match st with | .int x :: r => (zq_tg pc off).map (fun t => (if x < 0 then t else pc + 3, lv, r, h)) | _ => none
  | .ifCond .ge off => match st with | .int x :: r => (zq_tg pc off).map (fun t => (if 0 ≤ x then t else pc + 3, lv, r, h)) | _ => none
  | .ifCond .gt off => match st with | .int x :: r => (zq_tg pc off).map (fun t => (if 0 < x then t else pc + 3, lv, r, h)) | _ => none
  | .ifCond .le off => match st with | .int x :: r => (zq_tg pc off).map (fun t => (if x ≤ 0 then t else pc + 3, lv, r, h)) | _ => none
  | .if_icmp .eq off => match st with | .int y :: .int x :: r => (zq_tg pc off).map (fun t => (if x = y then t else pc + 3, lv, r, h)) | _ => none
  | .if_icmp .ne off => match st with | .int y :: .int x :: r => (zq_tg pc off).map (fun t => (if x = y then pc + 3 else t, lv, r, h)) | _ => none
  | .if_icmp .lt off => match st with | .int y :: .int x :: r => (zq_tg pc off).map (fun t => (if x < y then t else pc + 3, lv, r, h)) | _ => none
  | .if_icmp .ge off => match st with | .int y :: .int x :: r => (zq_tg pc off).map (fun t => (if y ≤ x then t else pc + 3, lv, r, h)) | _ => none
  | .if_icmp .gt off => match st with | .int y :: .int x :: r => (zq_tg pc off).map (fun t => (if y < x then t else pc + 3, lv, r, h)) | _ => none
  | .if_icmp .le off => match st with | .int y :: .int x :: r => (zq_tg pc off).map (fun t => (if x ≤ y then t else pc + 3, lv, r, h)) | _ => none
  | .tableswitch dflt lo hi offs => match st with
    | .int x :: r => if x.toInt < lo ∨ hi < x.toInt then (zq_tg pc dflt).map (fun t => (t, lv, r, h)) else (match offs[(x.toInt - lo).toNat]? with | some off => (zq_tg pc off).map (fun t => (t, lv, r, h)) | none => none) | _ => none
  | _ => none
/-- may this value go into a field or out of a method of this type -/
def zq_fit (ty : FieldType) (x : Int32) : Bool := match ty with
  | .int => true
  | .boolean => decide (x = 0 ∨ x = 1)
  | .char => decide (0 ≤ x ∧ x ≤ 65535)
  | _ => false
/-- fields -/
def zq_gf (h : zH) (ci o k : Nat) : Option Value := if zq_kd h o = some (0, ci) then some (zq_fv (zq_tag (zq_ty ci k)) h.2 o k) else none
def zq_pf (h : zH) (ci o k : Nat) (v : Value) : Option zH := if zq_kd h o = some (0, ci) then (match zq_tag (zq_ty ci k), v with
  | 0, .int x => if zq_fit (zq_ty ci k) x = true then some (h.1, zq_sI h.2 o k x) else none
  | 1, .long x => some (h.1, zq_sL h.2 o k x)
  | 2, .ref x => some (h.1, zq_sR h.2 o k (some x))
  | 2, .null => some (h.1, zq_sR h.2 o k none)
  | _, _ => none) else none
def zq_g7 (o : Nat) (ini : Bool) (ins : Instr) (pc : Nat) (lv : List (Option Value)) (st : List Value) (h : zH) : Option zC := match ins with
  | .getfield i => match (zq_fps.getD o []).lookup i with
    | some e => (match st with
      | .ref a :: r => if e.1 < 11 then (zq_gf h e.1 a e.2.1).map (fun v => (pc + 3, lv, v :: r, h))
        else if e.1 = 20 ∧ a < 36 then (match e.2.1 with
          | 0 => some (pc + 3, lv, .long (zq_wC.getD a 0) :: r, h)
          | 1 => some (pc + 3, lv, .int (zq_wU.getD a 0) :: r, h)
          | 2 => some (pc + 3, lv, .int (zq_wW.getD a 0) :: r, h)
          | _ => none) else none
      | _ => none)
    | none => none
  | .putfield i => match (zq_fps.getD o []).lookup i with
    | some e => (match st with
      | v :: .ref a :: r => if e.1 < 11 ∧ ((zq_Tf e.1 e.2.1).2.2.2 = false ∨ (ini = true ∧ e.1 = o)) then (zq_pf h e.1 a e.2.1 v).map (fun h' => (pc + 3, lv, r, h')) else none
      | _ => none)
    | none => none
  | .getstatic i => if o = 5 ∧ i = 60 then some (pc + 3, lv, .ref 36 :: st, h) else match (zq_fps.getD o []).lookup i with
    | some e => if e.1 = 21 then some (pc + 3, lv, .ref e.2.1 :: st, h) else none
    | none => none
  | _ => none
/-- arrays -/
def zq_rdI (sc : zX) (h : zH) (a : Nat) (i : Int32) : Option Int32 := if a = 37 then (if i < 0 ∨ sc.1 ≤ i.toNatClampNeg + 1 then none else some (sc.2 i.toNatClampNeg)) else match zq_kd h a with
  | some (1, n) => if i < 0 ∨ n ≤ i.toNatClampNeg then none else some (h.2.1 a i.toNatClampNeg) | _ => none
def zq_rdX (t : Nat) (h : zH) (a : Nat) (i : Int32) : Option Int32 := match zq_kd h a with
  | some (t', n) => if t' = t then (if i < 0 ∨ n ≤ i.toNatClampNeg then none else some (h.2.1 a i.toNatClampNeg)) else none | _ => none
def zq_rdL (h : zH) (a : Nat) (i : Int32) : Option Int64 := match zq_kd h a with
  | some (2, n) => if i < 0 ∨ n ≤ i.toNatClampNeg then none else some (h.2.2.1 a i.toNatClampNeg) | _ => none
def zq_rdR (h : zH) (a : Nat) (i : Int32) : Option (Option Nat) := if a = 36 then (if i < 0 ∨ 36 ≤ i.toNatClampNeg then none else some (some i.toNatClampNeg)) else match zq_kd h a with
  | some (t, n) => if t = 5 ∨ t = 6 then (if i < 0 ∨ n ≤ i.toNatClampNeg then none else some (h.2.2.2 a i.toNatClampNeg)) else none | _ => none
def zq_len (sc : zX) (h : zH) (a : Nat) : Option Int32 := if a = 37 then (if sc.1 = 0 then none else some (Int32.ofNat (sc.1 - 1))) else if a = 36 then some 36 else match zq_kd h a with
  | some (t + 1, n) => if t < 6 then some (Int32.ofNat n) else none | _ => none
def zq_wrX (t : Nat) (h : zH) (a : Nat) (i x : Int32) : Option zH := match zq_kd h a with
  | some (t', n) => if t' = t then (if i < 0 ∨ n ≤ i.toNatClampNeg then none else some (h.1, zq_sI h.2 a i.toNatClampNeg x)) else none | _ => none
def zq_wrL (h : zH) (a : Nat) (i : Int32) (x : Int64) : Option zH := match zq_kd h a with
  | some (2, n) => if i < 0 ∨ n ≤ i.toNatClampNeg then none else some (h.1, zq_sL h.2 a i.toNatClampNeg x) | _ => none
def zq_wrR (h : zH) (a : Nat) (i : Int32) (x : Nat) : Option zH := match zq_kd h a, zq_kd h x with
  | some (t, n), some (0, c) => if (t = 5 ∧ c = 4) ∨ (t = 6 ∧ c = 2) then (if i < 0 ∨ n ≤ i.toNatClampNeg then none else some (h.1, zq_sR h.2 a i.toNatClampNeg (some x))) else none | _, _ => none
def zq_g8 (sc : zX) (ins : Instr) (pc : Nat) (lv : List (Option Value)) (st : List Value) (h : zH) : Option zC := match ins with
  | .iaload => match st with | .int i :: .ref a :: r => (zq_rdI sc h a i).map (fun v => (pc + 1, lv, .int v :: r, h)) | _ => none
  | .caload => match st with | .int i :: .ref a :: r => (zq_rdX 3 h a i).map (fun v => (pc + 1, lv, .int v :: r, h)) | _ => none
  | .baload => match st with | .int i :: .ref a :: r => (zq_rdX 4 h a i).map (fun v => (pc + 1, lv, .int v :: r, h)) | _ => none
  | .laload => match st with | .int i :: .ref a :: r => (zq_rdL h a i).map (fun v => (pc + 1, lv, .long v :: r, h)) | _ => none
  | .aaload => match st with | .int i :: .ref a :: r => (zq_rdR h a i).map (fun v => (pc + 1, lv, va_rf v :: r, h)) | _ => none
  | .arraylength => match st with | .ref a :: r => (zq_len sc h a).map (fun v => (pc + 1, lv, .int v :: r, h)) | _ => none
  | .iastore => match st with | .int x :: .int i :: .ref a :: r => (zq_wrX 1 h a i x).map (fun h' => (pc + 1, lv, r, h')) | _ => none
  | .castore => match st with | .int x :: .int i :: .ref a :: r => (zq_wrX 3 h a i (vp_nar .char x)).map (fun h' => (pc + 1, lv, r, h')) | _ => none
  | .bastore => match st with | .int x :: .int i :: .ref a :: r => (zq_wrX 4 h a i (vp_nar .boolean x)).map (fun h' => (pc + 1, lv, r, h')) | _ => none
  | .lastore => match st with | .long x :: .int i :: .ref a :: r => (zq_wrL h a i x).map (fun h' => (pc + 1, lv, r, h')) | _ => none
  | .aastore => match st with | .ref x :: .int i :: .ref a :: r => (zq_wrR h a i x).map (fun h' => (pc + 1, lv, r, h')) | _ => none
  | _ => none
/-- what is made -/
def zq_mk (h : zH) (kd : zK) : zH := (h.1 ++ [kd], zq_z0 h.2 (64 + h.1.length))
def zq_at (ty : ArrayType) : Option Nat := match ty with
  | .int => some 1 | .long => some 2 | .char => some 3 | .boolean => some 4 | _ => none
def zq_g9 (al : Bool) (o : Nat) (ins : Instr) (pc : Nat) (lv : List (Option Value)) (st : List Value) (h : zH) : Option zC := match ins with
  | .new i => if al = true then (match (zq_nps.getD o []).lookup i with
    | some e => some (pc + 3, lv, .ref (64 + h.1.length) :: st, zq_mk h (0, e.1)) | none => none) else none
  | .newarray ty => if al = true then (match zq_at ty, st with
    | some t, .int n :: r => if n < 0 ∨ 100000 < n.toNatClampNeg then none else some (pc + 2, lv, .ref (64 + h.1.length) :: r, zq_mk h (t, n.toNatClampNeg)) | _, _ => none) else none
  | .anewarray i => if al = true then (match (zq_nps.getD o []).lookup i, st with
    | some e, .int n :: r => if n < 0 ∨ 100000 < n.toNatClampNeg then none else if e.1 = 4 then some (pc + 3, lv, .ref (64 + h.1.length) :: r, zq_mk h (5, n.toNatClampNeg)) else if e.1 = 2 then some (pc + 3, lv, .ref (64 + h.1.length) :: r, zq_mk h (6, n.toNatClampNeg)) else none | _, _ => none) else none
  | _ => none
def zq_cat (st : List Value) : Nat := (st.map fun v => v.category).sum
/-- the three methods that are taken as one step: max, min, Object's constructor -/
def zq_ga (d o : Nat) (ins : Instr) (pc : Nat) (lv : List (Option Value)) (st : List Value) (h : zH) : Option zC := if d = 0 then none else match ins with
  | .invokestatic i => match (zq_pps.getD o []).lookup i with
    | some e => if e.1 = 1000 then (match st with | .int y :: .int x :: r => if zq_cat r ≤ 8 then some (pc + 3, lv, .int (if x < y then y else x) :: r, h) else none | _ => none)
      else if e.1 = 1001 then (match st with | .int y :: .int x :: r => if zq_cat r ≤ 8 then some (pc + 3, lv, .int (if y < x then y else x) :: r, h) else none | _ => none) else none
    | none => none
  | .invokespecial i => match (zq_pps.getD o []).lookup i with
    | some e => if e.1 = 1002 then (match st with | .ref _ :: r => if zq_cat r ≤ 8 then some (pc + 3, lv, r, h) else none | _ => none) else none
    | none => none
  | _ => none
def zq_stp (sc : zX) (al : Bool) (d o : Nat) (ini : Bool) (ins : Instr) (pc : Nat) (lv : List (Option Value)) (st : List Value) (h : zH) : Option zC := match ins with
  | .iconst _ | .bipush _ | .sipush _ | .lconst _ | .aconst_null | .ldc2_w _ | .ldc_w _ | .iload _ | .iload_n _ | .lload _ | .lload_n _ => zq_g1 o ins pc lv st h
  | .aload _ | .aload_n _ | .istore _ | .istore_n _ | .lstore _ | .lstore_n _ | .astore _ | .astore_n _ | .iinc _ _ => zq_g2 ins pc lv st h
  | .iadd | .isub | .imul | .iand | .ior | .ixor | .idiv | .irem | .ineg | .ishl | .ishr => zq_g3 ins pc lv st h
  | .ladd | .lsub | .lmul | .land | .lor | .ldiv | .lrem | .lshl | .lshr | .lcmp => zq_g4 ins pc lv st h
  | .i2l | .l2i | .i2c | .iushr | .dup | .dup2 | .goto _ | .ifnull _ | .if_acmp _ _ => zq_g5 ins pc lv st h
  | .ifCond _ _ | .if_icmp _ _ | .tableswitch _ _ _ _ => zq_g6 ins pc lv st h
  | .getfield _ | .putfield _ | .getstatic _ => zq_g7 o ini ins pc lv st h
  | .iaload | .caload | .baload | .laload | .aaload | .arraylength | .iastore | .castore | .bastore | .lastore | .aastore => zq_g8 sc ins pc lv st h
  | .new _ | .newarray _ | .anewarray _ => zq_g9 al o ins pc lv st h
  | .invokestatic _ | .invokespecial _ => zq_ga d o ins pc lv st h
  | _ => none
/-- the end of a method -/
def zq_ret (rt : Option FieldType) (ins : Instr) (st : List Value) : Option (Option Value) := match ins, rt, st with
  | .ireturn, some ty, [.int v] => if zq_fit ty v = true then some (some (.int v)) else none
  | .lreturn, some .long, [.long v] => some (some (.long v))
  | .areturn, some (.object _), [.ref v] => some (some (.ref v))
  | .areturn, some (.object _), [.null] => some (some .null)
  | .return_, none, [] => some none
  | _, _, _ => none
def zq_sls : List Value → List (Option Value)
  | [] => []
  | .long x :: r => some (.long x) :: none :: zq_sls r
  | .double x :: r => some (.double x) :: none :: zq_sls r
  | v :: r => some v :: zq_sls r
def zq_rcv (st : List Value) (n : Nat) (h : zH) (ci : Nat) : Bool := match st[n - 1]? with
  | some (.ref a) => decide (zq_kd h a = some (0, ci)) | _ => false
/-- a call: which method, its arguments, what stays on the stack -/
def zq_cal (o : Nat) (ins : Instr) (st : List Value) (h : zH) : Option (Nat × List Value × List Value) :=
  match (match ins with | .invokestatic i => some (i, 0) | .invokevirtual i => some (i, 1) | .invokespecial i => some (i, 2) | _ => none) with
  | none => none
  | some (i, kd) => match (zq_pps.getD o []).lookup i with
    | none => none
    | some e => match zq_MT[e.1]? with
      | none => none
      | some q => if q.2.2.2.2.2.2 = kd ∧ q.2.2.2.2.2.1 ≤ st.length ∧ zq_cat (st.drop q.2.2.2.2.2.1) ≤ 8 ∧ (zq_sls (st.take q.2.2.2.2.2.1).reverse).length ≤ q.2.2.1 ∧ (kd = 0 ∨ zq_rcv st q.2.2.2.2.2.1 h q.2.2.2.2.1 = true) then some (e.1, (st.take q.2.2.2.2.2.1).reverse, st.drop q.2.2.2.2.2.1) else none
def zq_ent (maxL : Nat) (as : List Value) : List (Option Value) := zq_sls as ++ List.replicate (maxL - (zq_sls as).length) none
def zq_own (k : Nat) : Nat := if k = 265 then 11 else (zq_MT.getD k zq_m0).2.2.2.2.1
def zq_maxL (k : Nat) : Nat := (zq_MT.getD k zq_m0).2.2.1
def zq_rt (k : Nat) : Option FieldType := if k = 265 then none else (zq_MT.getD k zq_m0).2.2.2.1
def zq_ini (k : Nat) : Bool := decide ((zq_MT.getD k zq_m0).2.2.2.2.2.2 = 2)
def zq_run (sc : zX) (al : Bool) : Nat → Nat → Nat → Nat → List (Option Value) → List Value → zH → Option (Option Value × zH)
  | 0, _, _, _, _, _, _ => none
  | n + 1, d, k, pc, lv, st, h => match zq_code k pc with
    | none => none
    | some (ins, _) => match zq_stp sc al d (zq_own k) (zq_ini k) ins pc lv st h with
      | some c => zq_run sc al n d k c.1 c.2.1 c.2.2.1 c.2.2.2
      | none => match zq_ret (zq_rt k) ins st with
        | some v => some (v, h)
        | none => match zq_cal (zq_own k) ins st h with
          | none => none
          | some (k', as, rest) => match d with
            | 0 => none
            | d' + 1 => match zq_run sc al n d' k' 0 (zq_ent (zq_maxL k') as) [] h with
              | none => none
              | some (v, h') => zq_run sc al n (d' + 1) k (pc + 3) lv (v.toList ++ rest) h'
