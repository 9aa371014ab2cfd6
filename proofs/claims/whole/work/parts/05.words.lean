/-! THE WORDS: by tables, and by their places among lw_tbl -/
def zgw1 : List Jvm.Cond := zfl.map (fun e => .fieldLink (zR e.1) e.2.1 (zT e.2.2).1 (zT e.2.2).2.1 (zT e.2.2).2.2.1)
def zgw2 : List Jvm.Cond := zmv.map (fun e => .methodLink (zR e.1) e.2.1 (zname e.2.2))
def zgw3 : List Jvm.Cond := zms.map (fun e => .methodLink (zR e.1) e.2.1 (zname e.2.2))
def zvm : List Nat := [0, 1, 2, 3, 4, 6, 7, 8, 9, 10, 11, 12, 13, 14, 15, 16, 17, 18, 19, 20, 21, 22, 23, 24, 25, 26, 27, 28, 29, 30, 31, 32, 33, 34, 35, 36, 37, 38, 39, 40, 41, 42, 43, 44, 45, 46, 47, 48, 49, 50, 51, 52, 54, 55, 56, 57, 59, 60, 61, 62, 63, 64, 65, 66, 68, 69, 70, 71, 72, 73, 74, 75, 76, 77, 78, 79, 80, 81, 82, 83, 84, 85, 86, 87, 88, 89, 90, 91, 92, 93, 94, 95, 96, 97, 98, 99, 100, 101, 102, 103, 104, 105, 106, 107, 108, 109, 110, 111, 112, 113, 114, 115, 116, 117, 118, 119, 120, 121, 122, 123, 124, 125, 126, 127, 128, 129, 130, 131, 132, 136, 137, 138, 139, 140, 141, 142, 143, 144, 145, 146, 147, 148, 149, 152, 153, 154, 155, 156, 157, 158, 159, 160, 162, 163, 164, 165, 166, 167, 168, 169, 170, 171, 172, 173, 176, 177, 178, 179, 180, 181, 182, 183, 184, 185, 186, 187, 188, 189, 190, 191, 192, 193, 194, 195, 196, 197, 198, 200, 201, 203, 204, 205, 206, 207, 208, 209, 210, 211, 212, 213, 214, 215, 216, 217, 218, 219, 220, 221, 222, 223, 224, 225, 226, 227, 228, 230, 231, 232, 233, 234, 236, 237, 238, 239, 240, 241, 242, 243, 244, 245, 246, 247, 248, 249, 250]
def zsm : List Nat := [5, 53, 58, 67, 133, 134, 135, 150, 151, 161, 174, 175, 199, 202, 229, 235, 251, 252, 253]
def zgw4 : List Jvm.Cond := zvm.map (fun k => .instanceMethod (zname k))
def zgw5 : List Jvm.Cond := zvm.map (fun k => .selects (zname k).cls (zname k) (zname k))
def zgw6 : List Jvm.Cond := zsm.map (fun k => .static (zname k))
def zvs_0 : List Nat := [0, 1, 2, 3, 4, 6, 7, 8, 9, 10, 11, 12]
def zgw7_0 : List Jvm.Cond := zvs_0.map (fun k => .code (zname k) (zcode k) (zml k) (zret k))
def zvs_1 : List Nat := [13, 14, 15, 16, 17, 18, 19, 20, 21, 22, 23, 24]
def zgw7_1 : List Jvm.Cond := zvs_1.map (fun k => .code (zname k) (zcode k) (zml k) (zret k))
def zvs_2 : List Nat := [25, 26, 27, 28, 29, 30, 31, 32, 33, 34, 35, 36]
def zgw7_2 : List Jvm.Cond := zvs_2.map (fun k => .code (zname k) (zcode k) (zml k) (zret k))
def zvs_3 : List Nat := [37, 38, 39, 40, 41, 42, 43, 44, 45, 46, 47, 48]
def zgw7_3 : List Jvm.Cond := zvs_3.map (fun k => .code (zname k) (zcode k) (zml k) (zret k))
def zvs_4 : List Nat := [49, 50, 51, 52, 54, 55, 56, 57, 59, 60, 61, 62]
def zgw7_4 : List Jvm.Cond := zvs_4.map (fun k => .code (zname k) (zcode k) (zml k) (zret k))
def zvs_5 : List Nat := [63, 64, 65, 66, 68, 69, 70, 71, 72, 73, 74, 75]
def zgw7_5 : List Jvm.Cond := zvs_5.map (fun k => .code (zname k) (zcode k) (zml k) (zret k))
def zvs_6 : List Nat := [76, 77, 78, 79, 80, 81, 82, 83, 84, 85, 86, 87]
def zgw7_6 : List Jvm.Cond := zvs_6.map (fun k => .code (zname k) (zcode k) (zml k) (zret k))
def zvs_7 : List Nat := [88, 89, 90, 91, 92, 93, 94, 95, 96, 97, 98, 99]
def zgw7_7 : List Jvm.Cond := zvs_7.map (fun k => .code (zname k) (zcode k) (zml k) (zret k))
def zvs_8 : List Nat := [100, 101, 102, 103, 104, 105, 106, 107, 108, 109, 110, 111]
def zgw7_8 : List Jvm.Cond := zvs_8.map (fun k => .code (zname k) (zcode k) (zml k) (zret k))
def zvs_9 : List Nat := [112, 113, 114, 115, 116, 117, 118, 119, 120, 121, 122, 123]
def zgw7_9 : List Jvm.Cond := zvs_9.map (fun k => .code (zname k) (zcode k) (zml k) (zret k))
def zvs_10 : List Nat := [124, 125, 126, 127, 128, 129, 130, 131, 132, 136, 137, 138]
def zgw7_10 : List Jvm.Cond := zvs_10.map (fun k => .code (zname k) (zcode k) (zml k) (zret k))
def zvs_11 : List Nat := [139, 140, 141, 142, 143, 144, 145, 146, 147, 148, 149, 152]
def zgw7_11 : List Jvm.Cond := zvs_11.map (fun k => .code (zname k) (zcode k) (zml k) (zret k))
def zvs_12 : List Nat := [153, 154, 155, 156, 157, 158, 159, 160, 162, 163, 164, 165]
def zgw7_12 : List Jvm.Cond := zvs_12.map (fun k => .code (zname k) (zcode k) (zml k) (zret k))
def zvs_13 : List Nat := [166, 167, 168, 169, 170, 171, 172, 173, 176, 177, 178, 179]
def zgw7_13 : List Jvm.Cond := zvs_13.map (fun k => .code (zname k) (zcode k) (zml k) (zret k))
def zvs_14 : List Nat := [180, 181, 182, 183, 184, 185, 186, 187, 188, 189, 190, 191]
def zgw7_14 : List Jvm.Cond := zvs_14.map (fun k => .code (zname k) (zcode k) (zml k) (zret k))
def zvs_15 : List Nat := [192, 193, 194, 195, 196, 197, 198, 200, 201, 203, 204, 205]
def zgw7_15 : List Jvm.Cond := zvs_15.map (fun k => .code (zname k) (zcode k) (zml k) (zret k))
def zvs_16 : List Nat := [206, 207, 208, 209, 210, 211, 212, 213, 214, 215, 216, 217]
def zgw7_16 : List Jvm.Cond := zvs_16.map (fun k => .code (zname k) (zcode k) (zml k) (zret k))
def zvs_17 : List Nat := [218, 219, 220, 221, 222, 223, 224, 225, 226, 227, 228, 230]
def zgw7_17 : List Jvm.Cond := zvs_17.map (fun k => .code (zname k) (zcode k) (zml k) (zret k))
def zvs_18 : List Nat := [231, 232, 233, 234, 236, 237, 238, 239, 240, 241, 242, 243]
def zgw7_18 : List Jvm.Cond := zvs_18.map (fun k => .code (zname k) (zcode k) (zml k) (zret k))
def zvs_19 : List Nat := [244, 245, 246, 247, 248, 249, 250, 5, 53, 58, 67, 133]
def zgw7_19 : List Jvm.Cond := zvs_19.map (fun k => .code (zname k) (zcode k) (zml k) (zret k))
def zvs_20 : List Nat := [134, 135, 150, 151, 161, 174, 175, 199, 202, 229, 235, 251]
def zgw7_20 : List Jvm.Cond := zvs_20.map (fun k => .code (zname k) (zcode k) (zml k) (zret k))
def zvs_21 : List Nat := [252, 253]
def zgw7_21 : List Jvm.Cond := zvs_21.map (fun k => .code (zname k) (zcode k) (zml k) (zret k))
def zgw7 : List Jvm.Cond := zgw7_0 ++ (zgw7_1 ++ (zgw7_2 ++ (zgw7_3 ++ (zgw7_4 ++ (zgw7_5 ++ (zgw7_6 ++ (zgw7_7 ++ (zgw7_8 ++ (zgw7_9 ++ (zgw7_10 ++ (zgw7_11 ++ (zgw7_12 ++ (zgw7_13 ++ (zgw7_14 ++ (zgw7_15 ++ (zgw7_16 ++ (zgw7_17 ++ (zgw7_18 ++ (zgw7_19 ++ (zgw7_20 ++ (zgw7_21)))))))))))))))))))))
theorem zvs_in : zvm ++ zsm = zvs_0 ++ (zvs_1 ++ (zvs_2 ++ (zvs_3 ++ (zvs_4 ++ (zvs_5 ++ (zvs_6 ++ (zvs_7 ++ (zvs_8 ++ (zvs_9 ++ (zvs_10 ++ (zvs_11 ++ (zvs_12 ++ (zvs_13 ++ (zvs_14 ++ (zvs_15 ++ (zvs_16 ++ (zvs_17 ++ (zvs_18 ++ (zvs_19 ++ (zvs_20 ++ (zvs_21))))))))))))))))))))) := by decide +kernel
def zgw8 : List Jvm.Cond := (List.range 17).map (fun c => .initialized (zR c))
def zgw9 : List Jvm.Cond := (List.range 13).flatMap (fun c => u_ws (zCl c).1 (zCl c).2.1 (zCl c).2.2)
def zgwa : List Jvm.Cond := zcn.map (fun e => .constant (zR e.1) e.2.1 (Int32.ofInt e.2.2)) ++ zlc.map (fun e => .constantLong (zR e.1) e.2.1 (zLc e.2.2))
def zgwc : List Jvm.Cond := zmx.map (fun e => .methodLink (zR e.1) e.2 Lib.Math.max.name) ++ (zmn.map (fun e => .methodLink (zR e.1) e.2 Lib.Math.min.name) ++ [.static Lib.Math.max.name, .static Lib.Math.min.name, .initialized "java/lang/Math", .code Lib.Math.max.name Lib.Math.max.code 2 (some .int), .code Lib.Math.min.name Lib.Math.min.code 2 (some .int)])
def zgwb : List Jvm.Cond := zmc.map (fun e => .methodLink (zR e.1) e.2 arraycopyName) ++ [.native arraycopyName, .static arraycopyName, .initialized "java/lang/System", .fieldLink RX2 104 "LentFiddles$Lendings" "PLACE_WEIGHTS" "[J"]
set_option maxRecDepth 100000 in
theorem zgw1_in : GoodIn lw_tbl zgw1 := goodIn_r zgw1 [362, 364, 366, 367, 368, 369, 174, 171, 167, 219, 221, 222, 223, 224, 226, 227, 228, 230, 390, 391, 392, 393, 394, 396, 397, 398, 399, 400, 401, 140, 106, 130, 94, 137, 159, 162, 165, 169, 173, 176, 198, 200, 201, 202, 432, 433, 434, 435, 436, 177, 166, 170, 160, 163, 327, 329, 333, 335, 337, 339, 100, 103, 129, 132, 134, 136, 139, 305, 307, 308, 310, 258, 260, 262, 264, 266, 268, 269, 270, 271, 272, 274, 97, 91, 93, 96, 105, 448, 449, 450, 451, 452, 453, 454, 455, 456, 457, 458, 459, 460, 138, 133, 92, 95, 98, 101, 164, 178, 199, 203, 220, 225, 259, 265, 131, 161, 395, 135, 168, 172, 175, 141, 311, 107, 229, 231, 263, 273, 261, 267, 104, 328, 330, 332, 334, 336, 338, 340, 365, 363, 306, 309, 1134, 1135, 1136, 1138, 1139, 1140, 1141, 1142, 1143, 1144, 1145, 1146, 1147, 1148, 1149, 1151, 1152, 1153, 1154, 1155, 1157, 1158, 1159, 1162, 1164, 1165, 1166, 1168, 1169, 1170, 1171, 1177, 1178, 1179, 1180, 1181, 1185, 1186, 1188, 1192, 1193, 1131, 1133, 1137, 1150, 1156, 1167, 1176, 1161, 1160, 1163, 1172, 1173, 1174, 1175, 1182, 1183, 1184, 1187, 1189, 1190, 1191, 1132] (by decide +kernel) (by decide +kernel)
set_option maxRecDepth 100000 in
theorem zgw2_in : GoodIn lw_tbl zgw2 := goodIn_r zgw2 [1027, 1034, 1038, 1042, 873, 839, 843, 848, 869, 877, 881, 889, 893, 564, 575, 601, 580, 593, 597, 584, 617, 628, 621, 674, 777, 794, 811, 815, 992, 1009, 536, 655, 922, 926, 930, 956, 960, 496, 504, 512, 516, 528, 551, 552, 560, 568, 605, 613, 636, 670, 682, 691, 695, 703, 715, 731, 740, 744, 752, 756, 765, 773, 644, 651, 662, 785, 790, 798, 827, 835, 852, 860, 865, 885, 719, 901, 909, 917, 939, 952, 965, 969, 988, 1005, 1014, 640, 1022, 1055, 1068, 1080, 1092, 1088, 1100, 1104, 666, 532, 723, 1084, 1337, 1341, 1357, 1353, 1380, 1376, 1400, 1396, 1404, 1388, 1392, 1426, 1446, 1442, 1422, 1430, 1434, 1415, 1438, 1462, 1470, 1486, 1482, 1494, 1507, 1523, 1557, 1553, 1545, 1549, 1541, 1561, 1573, 1577, 1601, 1597, 1605, 1593, 1630, 1643, 1658, 1666, 1673, 1697, 1705, 488, 1322, 500, 1329, 508, 1333, 520, 1345, 524, 1349, 540, 1361, 547, 1368, 556, 1372, 609, 1384, 632, 1408, 678, 1450, 686, 1454, 699, 1466, 707, 1474, 711, 1478, 727, 1490, 735, 1498, 748, 1503, 761, 1511, 769, 1515, 781, 1519, 823, 1530, 831, 1537, 856, 1565, 861, 1569, 897, 1581, 905, 1585, 913, 1589, 935, 1609, 943, 1613, 948, 1618, 961, 1622, 974, 1626, 979, 1634, 983, 1638, 1001, 1650, 1010, 1654, 1018, 1662, 1047, 1677, 1051, 1681, 1060, 1685, 1064, 1689, 1072, 1693, 1076, 1701, 1096, 1709, 1108, 1713, 1112, 1717, 1116, 1721, 1120, 1725] (by decide +kernel) (by decide +kernel)
set_option maxRecDepth 100000 in
theorem zgw3_in : GoodIn lw_tbl zgw3 := goodIn_r zgw3 [1026, 1031, 847, 565, 572, 789, 802, 808, 998, 1059, 921, 492, 544, 648, 1069, 1326, 1365, 1419, 1412, 1458, 1527, 1534, 1647, 1670] (by decide +kernel) (by decide +kernel)
set_option maxRecDepth 100000 in
theorem zgw4_in : GoodIn lw_tbl zgw4 := goodIn_r zgw4 [1023, 1028, 1035, 1039, 1043, 724, 828, 874, 878, 844, 836, 840, 849, 853, 866, 870, 882, 886, 890, 894, 561, 602, 606, 569, 576, 581, 594, 598, 585, 614, 618, 629, 622, 667, 675, 671, 683, 704, 696, 692, 732, 766, 745, 741, 753, 757, 774, 778, 786, 791, 795, 799, 812, 816, 989, 993, 1006, 1015, 513, 505, 537, 533, 645, 1056, 656, 652, 966, 970, 910, 902, 720, 918, 923, 927, 931, 940, 953, 957, 517, 497, 489, 501, 509, 521, 525, 541, 548, 557, 610, 633, 679, 687, 700, 708, 712, 728, 736, 749, 762, 770, 782, 824, 832, 857, 862, 898, 906, 914, 936, 944, 949, 962, 975, 980, 984, 1002, 1011, 1019, 1048, 1052, 1061, 1065, 1073, 1077, 1097, 1109, 1113, 1117, 1121, 664, 642, 638, 530, 554, 717, 1086, 1090, 1082, 1094, 1106, 1102, 1428, 1699, 1343, 1339, 1323, 1330, 1334, 1346, 1359, 1355, 1350, 1362, 1369, 1382, 1378, 1373, 1390, 1402, 1406, 1398, 1394, 1385, 1424, 1432, 1436, 1448, 1444, 1440, 1417, 1409, 1451, 1472, 1464, 1455, 1467, 1475, 1488, 1484, 1479, 1496, 1491, 1499, 1509, 1504, 1512, 1516, 1525, 1520, 1531, 1559, 1555, 1547, 1551, 1543, 1563, 1538, 1566, 1575, 1579, 1570, 1582, 1586, 1603, 1599, 1607, 1595, 1590, 1610, 1614, 1619, 1623, 1632, 1627, 1635, 1645, 1660, 1639, 1651, 1655, 1668, 1675, 1663, 1678, 1682, 1686, 1690, 1694, 1707, 1702, 1710, 1714, 1718, 1722, 1726] (by decide +kernel) (by decide +kernel)
set_option maxRecDepth 100000 in
theorem zgw5_in : GoodIn lw_tbl zgw5 := goodIn_r zgw5 [1024, 1029, 1036, 1040, 1044, 725, 829, 875, 879, 845, 837, 841, 850, 854, 867, 871, 883, 887, 891, 895, 562, 603, 607, 570, 577, 582, 595, 599, 586, 615, 619, 630, 623, 668, 676, 672, 684, 705, 697, 693, 733, 767, 746, 742, 754, 758, 775, 779, 787, 792, 796, 800, 813, 817, 990, 994, 1007, 1016, 514, 506, 538, 534, 646, 1057, 657, 653, 967, 971, 911, 903, 721, 919, 924, 928, 932, 941, 954, 958, 518, 498, 490, 502, 510, 522, 526, 542, 549, 558, 611, 634, 680, 688, 701, 709, 713, 729, 737, 750, 763, 771, 783, 825, 833, 858, 863, 899, 907, 915, 937, 945, 950, 963, 976, 981, 985, 1003, 1012, 1020, 1049, 1053, 1062, 1066, 1074, 1078, 1098, 1110, 1114, 1118, 1122, 4, 3, 2, 0, 1, 5, 7, 8, 6, 9, 11, 10, 25, 55, 13, 12, 1324, 1331, 1335, 1347, 15, 14, 1351, 1363, 1370, 17, 16, 1374, 18, 21, 22, 20, 19, 1386, 24, 26, 27, 30, 29, 28, 23, 1410, 1452, 32, 31, 1456, 1468, 1476, 34, 33, 1480, 35, 1492, 1500, 36, 1505, 1513, 1517, 37, 1521, 1532, 42, 41, 39, 40, 38, 43, 1539, 1567, 44, 45, 1571, 1583, 1587, 48, 47, 49, 46, 1591, 1611, 1615, 1620, 1624, 50, 1628, 1636, 51, 52, 1640, 1652, 1656, 53, 54, 1664, 1679, 1683, 1687, 1691, 1695, 56, 1703, 1711, 1715, 1719, 1723, 1727] (by decide +kernel) (by decide +kernel)
set_option maxRecDepth 100000 in
theorem zgw6_in : GoodIn lw_tbl zgw6 := goodIn_r zgw6 [1032, 809, 999, 1070, 493, 649, 545, 1327, 1459, 1366, 1413, 1420, 1528, 1535, 1648, 1671, 803, 573, 566] (by decide +kernel) (by decide +kernel)
set_option maxRecDepth 100000 in
theorem zgw7_0_in : GoodIn lw_tbl zgw7_0 := goodIn_r zgw7_0 [1025, 1030, 1037, 1041, 1045, 726, 830, 876, 880, 846, 838, 842] (by decide +kernel) (by decide +kernel)
set_option maxRecDepth 100000 in
theorem zgw7_1_in : GoodIn lw_tbl zgw7_1 := goodIn_r zgw7_1 [851, 855, 868, 872, 884, 888, 892, 896, 563, 604, 608, 571] (by decide +kernel) (by decide +kernel)
set_option maxRecDepth 100000 in
theorem zgw7_2_in : GoodIn lw_tbl zgw7_2 := goodIn_r zgw7_2 [578, 583, 596, 600, 587, 616, 620, 631, 624, 669, 677, 673] (by decide +kernel) (by decide +kernel)
set_option maxRecDepth 100000 in
theorem zgw7_3_in : GoodIn lw_tbl zgw7_3 := goodIn_r zgw7_3 [685, 706, 698, 694, 734, 768, 747, 743, 755, 759, 776, 780] (by decide +kernel) (by decide +kernel)
set_option maxRecDepth 100000 in
theorem zgw7_4_in : GoodIn lw_tbl zgw7_4 := goodIn_r zgw7_4 [788, 793, 797, 801, 814, 818, 991, 995, 1008, 1017, 515, 507] (by decide +kernel) (by decide +kernel)
set_option maxRecDepth 100000 in
theorem zgw7_5_in : GoodIn lw_tbl zgw7_5 := goodIn_r zgw7_5 [539, 535, 647, 1058, 658, 654, 968, 972, 912, 904, 722, 920] (by decide +kernel) (by decide +kernel)
set_option maxRecDepth 100000 in
theorem zgw7_6_in : GoodIn lw_tbl zgw7_6 := goodIn_r zgw7_6 [925, 929, 933, 942, 955, 959, 519, 499, 491, 503, 511, 523] (by decide +kernel) (by decide +kernel)
set_option maxRecDepth 100000 in
theorem zgw7_7_in : GoodIn lw_tbl zgw7_7 := goodIn_r zgw7_7 [527, 543, 550, 559, 612, 635, 681, 689, 702, 710, 714, 730] (by decide +kernel) (by decide +kernel)
set_option maxRecDepth 100000 in
theorem zgw7_8_in : GoodIn lw_tbl zgw7_8 := goodIn_r zgw7_8 [738, 751, 764, 772, 784, 826, 834, 859, 864, 900, 908, 916] (by decide +kernel) (by decide +kernel)
set_option maxRecDepth 100000 in
theorem zgw7_9_in : GoodIn lw_tbl zgw7_9 := goodIn_r zgw7_9 [938, 946, 951, 964, 977, 982, 986, 1004, 1013, 1021, 1050, 1054] (by decide +kernel) (by decide +kernel)
set_option maxRecDepth 100000 in
theorem zgw7_10_in : GoodIn lw_tbl zgw7_10 := goodIn_r zgw7_10 [1063, 1067, 1075, 1079, 1099, 1111, 1115, 1119, 1123, 665, 643, 639] (by decide +kernel) (by decide +kernel)
set_option maxRecDepth 100000 in
theorem zgw7_11_in : GoodIn lw_tbl zgw7_11 := goodIn_r zgw7_11 [531, 555, 718, 1087, 1091, 1083, 1095, 1107, 1103, 1429, 1700, 1344] (by decide +kernel) (by decide +kernel)
set_option maxRecDepth 100000 in
theorem zgw7_12_in : GoodIn lw_tbl zgw7_12 := goodIn_r zgw7_12 [1340, 1325, 1332, 1336, 1348, 1360, 1356, 1352, 1364, 1371, 1383, 1379] (by decide +kernel) (by decide +kernel)
set_option maxRecDepth 100000 in
theorem zgw7_13_in : GoodIn lw_tbl zgw7_13 := goodIn_r zgw7_13 [1375, 1391, 1403, 1407, 1399, 1395, 1387, 1425, 1433, 1437, 1449, 1445] (by decide +kernel) (by decide +kernel)
set_option maxRecDepth 100000 in
theorem zgw7_14_in : GoodIn lw_tbl zgw7_14 := goodIn_r zgw7_14 [1441, 1418, 1411, 1453, 1473, 1465, 1457, 1469, 1477, 1489, 1485, 1481] (by decide +kernel) (by decide +kernel)
set_option maxRecDepth 100000 in
theorem zgw7_15_in : GoodIn lw_tbl zgw7_15 := goodIn_r zgw7_15 [1497, 1493, 1501, 1510, 1506, 1514, 1518, 1526, 1522, 1533, 1560, 1556] (by decide +kernel) (by decide +kernel)
set_option maxRecDepth 100000 in
theorem zgw7_16_in : GoodIn lw_tbl zgw7_16 := goodIn_r zgw7_16 [1548, 1552, 1544, 1564, 1540, 1568, 1576, 1580, 1572, 1584, 1588, 1604] (by decide +kernel) (by decide +kernel)
set_option maxRecDepth 100000 in
theorem zgw7_17_in : GoodIn lw_tbl zgw7_17 := goodIn_r zgw7_17 [1600, 1608, 1596, 1592, 1612, 1616, 1621, 1625, 1633, 1629, 1637, 1646] (by decide +kernel) (by decide +kernel)
set_option maxRecDepth 100000 in
theorem zgw7_18_in : GoodIn lw_tbl zgw7_18 := goodIn_r zgw7_18 [1661, 1641, 1653, 1657, 1669, 1676, 1665, 1680, 1684, 1688, 1692, 1696] (by decide +kernel) (by decide +kernel)
set_option maxRecDepth 100000 in
theorem zgw7_19_in : GoodIn lw_tbl zgw7_19 := goodIn_r zgw7_19 [1708, 1704, 1712, 1716, 1720, 1724, 1728, 1033, 810, 1000, 1071, 494] (by decide +kernel) (by decide +kernel)
set_option maxRecDepth 100000 in
theorem zgw7_20_in : GoodIn lw_tbl zgw7_20 := goodIn_r zgw7_20 [650, 546, 1328, 1460, 1367, 1414, 1421, 1529, 1536, 1649, 1672, 804] (by decide +kernel) (by decide +kernel)
set_option maxRecDepth 100000 in
theorem zgw7_21_in : GoodIn lw_tbl zgw7_21 := goodIn_r zgw7_21 [574, 567] (by decide +kernel) (by decide +kernel)
theorem zgw7_in : GoodIn lw_tbl zgw7 := goodIn_app zgw7_0_in (goodIn_app zgw7_1_in (goodIn_app zgw7_2_in (goodIn_app zgw7_3_in (goodIn_app zgw7_4_in (goodIn_app zgw7_5_in (goodIn_app zgw7_6_in (goodIn_app zgw7_7_in (goodIn_app zgw7_8_in (goodIn_app zgw7_9_in (goodIn_app zgw7_10_in (goodIn_app zgw7_11_in (goodIn_app zgw7_12_in (goodIn_app zgw7_13_in (goodIn_app zgw7_14_in (goodIn_app zgw7_15_in (goodIn_app zgw7_16_in (goodIn_app zgw7_17_in (goodIn_app zgw7_18_in (goodIn_app zgw7_19_in (goodIn_app zgw7_20_in zgw7_21_in))))))))))))))))))))
set_option maxRecDepth 100000 in
theorem zgw8_in : GoodIn lw_tbl zgw8 := goodIn_r zgw8 [67, 63, 68, 61, 62, 69, 66, 60, 65, 64, 59, 58, 70, 57, 74, 72, 71] (by decide +kernel) (by decide +kernel)
set_option maxRecDepth 100000 in
theorem zgw9_in : GoodIn lw_tbl zgw9 := goodIn_r zgw9 [370, 372, 374, 376, 378, 380, 232, 234, 236, 238, 240, 242, 244, 246, 248, 402, 404, 406, 408, 410, 412, 414, 416, 418, 420, 422, 179, 181, 183, 185, 187, 189, 204, 206, 208, 210, 437, 439, 441, 443, 445, 341, 343, 345, 347, 349, 351, 353, 142, 144, 146, 148, 150, 312, 314, 316, 318, 275, 277, 279, 281, 283, 285, 287, 289, 291, 293, 295, 108, 110, 112, 114, 116, 118, 461, 463, 465, 467, 469, 471, 473, 475, 477, 479, 481, 483, 485, 1194, 1196, 1198, 1200, 1202, 1204, 1206, 1208, 1210, 1212, 1214, 1216, 1218, 1220, 1222, 1224, 1226, 1228, 1230, 1232, 1234, 1236, 1238, 1240, 1242, 1244, 1246, 1248, 1250, 1252, 1254, 1256, 1258, 1260, 1262, 1264, 1266, 1268, 1270, 1272, 1274, 1276, 1278, 1280, 1282, 1284, 1286, 1288, 1290, 1292, 1294, 1296, 1298, 1300, 1302, 1304, 1306, 1308, 1310, 1312, 1314, 1316, 1318] (by decide +kernel) (by decide +kernel)
set_option maxRecDepth 100000 in
theorem zgwa_in : GoodIn lw_tbl zgwa := goodIn_r zgwa [495, 690, 739, 947, 1130, 1461, 1502, 1617, 805, 806, 807, 987, 579, 590, 591, 592, 1642] (by decide +kernel) (by decide +kernel)
set_option maxRecDepth 100000 in
theorem zgwb_in : GoodIn lw_tbl zgwb := goodIn_r zgwb [1046, 659, 978, 661, 660, 73, 588] (by decide +kernel) (by decide +kernel)
set_option maxRecDepth 100000 in
theorem zgwc_in : GoodIn lw_tbl zgwc := goodIn_r zgwc [625, 760, 819, 997, 973, 934, 820, 996, 626, 821, 72, 627, 822] (by decide +kernel) (by decide +kernel)
def zgw : List Jvm.Cond := zgw1 ++ (zgw2 ++ (zgw3 ++ (zgw4 ++ (zgw5 ++ (zgw6 ++ (zgw7 ++ (zgw8 ++ (zgw9 ++ (zgwa ++ (zgwb ++ zgwc))))))))))
theorem zgw_in : GoodIn lw_tbl zgw := goodIn_app zgw1_in (goodIn_app zgw2_in (goodIn_app zgw3_in (goodIn_app zgw4_in (goodIn_app zgw5_in (goodIn_app zgw6_in (goodIn_app zgw7_in (goodIn_app zgw8_in (goodIn_app zgw9_in (goodIn_app zgwa_in (goodIn_app zgwb_in zgwc_in))))))))))
set_option maxRecDepth 100000 in
theorem zmv_ok : ∀ e ∈ zmv, e.2.2 ∈ zvm ∧ e.1 < 17 ∧ zown e.2.2 < 13 := by decide +kernel
set_option maxRecDepth 100000 in
theorem zms_ok : ∀ e ∈ zms, e.2.2 ∈ zsm ∧ e.1 < 17 ∧ zown e.2.2 < 17 := by decide +kernel
set_option maxRecDepth 100000 in
theorem zfl_ok : ∀ e ∈ zfl, e.2.2 / 64 < 13 ∧ e.2.2 % 64 < (zCl (e.2.2 / 64)).2.2 := by decide +kernel
/-- what each method of the table keeps to -/
def zmOK (k : Nat) : Bool := plainName (zname k).cls && decide ((zname k).cls ≠ "java/lang/invoke/MethodHandle") && decide ((zname k).cls ≠ "java/lang/invoke/VarHandle") && decide ((parseMethodDescriptor (zname k).desc).map (fun d => d.parameters.length) = some (znp k)) && decide ((zname k).cls = zR (zown k)) && decide (zml k ≤ 16)
set_option maxRecDepth 100000 in
theorem zmOK_a : ∀ k ∈ zvm ++ zsm, (plainName (zname k).cls) = true := by decide +kernel
set_option maxRecDepth 100000 in
theorem zmOK_b : ∀ k ∈ zvm ++ zsm, (decide ((zname k).cls ≠ "java/lang/invoke/MethodHandle")) = true := by decide +kernel
set_option maxRecDepth 100000 in
theorem zmOK_c : ∀ k ∈ zvm ++ zsm, (decide ((zname k).cls ≠ "java/lang/invoke/VarHandle")) = true := by decide +kernel
set_option maxRecDepth 100000 in
theorem zmOK_d : ∀ k ∈ zvm ++ zsm, (decide ((parseMethodDescriptor (zname k).desc).map (fun d => d.parameters.length) = some (znp k))) = true := by decide +kernel
set_option maxRecDepth 100000 in
theorem zmOK_e : ∀ k ∈ zvm ++ zsm, (decide ((zname k).cls = zR (zown k))) = true := by decide +kernel
set_option maxRecDepth 100000 in
theorem zmOK_f : ∀ k ∈ zvm ++ zsm, (decide (zml k ≤ 16)) = true := by decide +kernel
theorem zmOK_all : ∀ k ∈ zvm ++ zsm, zmOK k = true := fun k h => by
  unfold zmOK
  rw [zmOK_a k h, zmOK_b k h, zmOK_c k h, zmOK_d k h, zmOK_e k h, zmOK_f k h]
  rfl
set_option maxRecDepth 100000 in
theorem zown_lt : ∀ k ∈ zvm ++ zsm, zown k < 17 := by decide +kernel
theorem zgw7_eq : zgw7 = (zvm ++ zsm).map (fun k => .code (zname k) (zcode k) (zml k) (zret k)) := by
  rw [zvs_in]
  simp only [List.map_append]
  rfl
theorem zCl_R : ∀ c, c < 13 → (zCl c).1 = zR c := by decide +kernel
theorem zNf_Cl : ∀ c, c < 13 → zNf c = (zCl c).2.2 := by decide +kernel
theorem zCl_at : ∀ c, c < 13 → vwCl[c]? = some (zCl c) := fun c h => by
  rcases (show c = 0 ∨ c = 1 ∨ c = 2 ∨ c = 3 ∨ c = 4 ∨ c = 5 ∨ c = 6 ∨ c = 7 ∨ c = 8 ∨ c = 9 ∨ c = 10 ∨ c = 11 ∨ c = 12 by omega) with rfl | rfl | rfl | rfl | rfl | rfl | rfl | rfl | rfl | rfl | rfl | rfl | rfl <;> rfl
