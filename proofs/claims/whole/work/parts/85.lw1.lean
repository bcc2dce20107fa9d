set_option maxRecDepth 20000 in
theorem wl_in1 : GoodIn lw_tbl wsL_law0_r1 := goodIn_r _ [93, 94, 61, 1242, 1243, 71, 1687, 95, 96, 97, 98, 99, 100, 101, 102, 62, 247, 126, 127, 63, 248, 159, 160, 64] (by decide +kernel) (by decide +kernel)
set_option maxRecDepth 20000 in
theorem wl_in2 : GoodIn lw_tbl wsL_law0_r2 := goodIn_r _ [249, 186, 187, 66, 250, 202, 203, 69, 251, 252, 253, 254, 185, 255, 228, 229, 70, 256, 257, 258, 259, 260, 104, 105] (by decide +kernel) (by decide +kernel)
set_option maxRecDepth 20000 in
theorem wl_in3 : GoodIn lw_tbl wsL_law0_r3 := goodIn_r _ [106, 125, 107, 108, 110, 112, 113, 129, 130, 131, 161, 162, 163, 164, 168, 170, 172, 174, 165, 166, 65, 167, 189, 190] (by decide +kernel) (by decide +kernel)
set_option maxRecDepth 20000 in
theorem wl_in4 : GoodIn lw_tbl wsL_law0_r4 := goodIn_r _ [191, 192, 193, 194, 204, 205, 206, 214, 216, 207, 208, 68, 209, 218, 210, 211, 67, 212, 213, 231, 232, 233, 234, 236] (by decide +kernel) (by decide +kernel)
set_option maxRecDepth 20000 in
theorem wl_in5 : GoodIn lw_tbl wsL_law0_r5 := goodIn_r _ [237, 238, 1244, 1245, 1246, 1247, 1250, 1251, 1252, 1253, 1255, 1256, 1257, 1258, 1259, 1260, 1261, 1263, 1264, 1265, 1266, 1267, 1268, 1269] (by decide +kernel) (by decide +kernel)
set_option maxRecDepth 20000 in
theorem wl_in6 : GoodIn lw_tbl wsL_law0_r6 := goodIn_r _ [1270, 1271, 1272, 1273, 1275, 1276, 1277, 1278, 1279, 1280, 1281, 1282, 1283, 1284, 1285, 1286, 1289, 1290, 1291, 1456, 1292, 1293, 1294, 1295] (by decide +kernel) (by decide +kernel)
set_option maxRecDepth 20000 in
theorem wl_in7 : GoodIn lw_tbl wsL_law0_r7 := goodIn_r _ [1296, 1297, 1298, 1299, 1302, 1303, 1304, 1306, 1307, 1308, 1312, 1313, 1314, 1315, 1316, 290, 291, 292, 293, 294, 295, 296, 297, 298] (by decide +kernel) (by decide +kernel)
set_option maxRecDepth 20000 in
theorem wl_in8 : GoodIn lw_tbl wsL_law0_r8 := goodIn_r _ [299, 300, 301, 302, 1461, 1462, 1463, 1464, 1248, 1309, 1465, 1467, 31, 1468, 303, 304, 305, 306, 307, 308, 309, 310, 1469, 1470] (by decide +kernel) (by decide +kernel)
set_option maxRecDepth 20000 in
theorem wl_in9 : GoodIn lw_tbl wsL_law0_r9 := goodIn_r _ [1471, 1472, 433, 434, 60, 435, 436, 437, 438, 439, 440, 441, 442, 447, 75, 520, 76, 536, 77, 443, 444, 445, 392, 393] (by decide +kernel) (by decide +kernel)
set_option maxRecDepth 20000 in
theorem wl_in10 : GoodIn lw_tbl wsL_law0_r10 := goodIn_r _ [516, 517, 518, 519, 354, 356, 2, 357, 1473, 1474, 1475, 1476, 1249, 1477, 1478, 1479, 1457, 1458, 1459, 1460, 552, 553, 554, 555] (by decide +kernel) (by decide +kernel)
set_option maxRecDepth 20000 in
theorem wl_in11 : GoodIn lw_tbl wsL_law0_r11 := goodIn_r _ [556, 557, 558, 1480, 1481, 1482, 1483, 560, 561, 562, 563, 564, 565, 566, 567, 573, 78, 571, 432, 589, 79, 568, 569, 570] (by decide +kernel) (by decide +kernel)
set_option maxRecDepth 20000 in
theorem wl_in12 : GoodIn lw_tbl wsL_law0_r12 := goodIn_r _ [327, 328, 329, 330, 217, 590, 591, 592, 593, 603, 604, 594, 596, 600, 598, 599, 620, 621, 622, 623, 219, 220, 624, 626] (by decide +kernel) (by decide +kernel)
set_option maxRecDepth 20000 in
theorem wl_in13 : GoodIn lw_tbl wsL_law0_r13 := goodIn_r _ [9, 627, 628, 630, 10, 631, 632, 634, 11, 635, 678, 377, 81, 378, 679, 636, 637, 80, 638, 639, 640, 641, 642, 643] (by decide +kernel) (by decide +kernel)
set_option maxRecDepth 20000 in
theorem wl_in14 : GoodIn lw_tbl wsL_law0_r14 := goodIn_r _ [644, 645, 646, 647, 1709, 648, 667, 668, 669, 670, 671, 673, 674, 374, 375, 675, 677, 676, 82, 1484, 1485, 1486, 1487, 1488] (by decide +kernel) (by decide +kernel)
set_option maxRecDepth 20000 in
theorem wl_in15 : GoodIn lw_tbl wsL_law0_r15 := goodIn_r _ [1254, 680, 681, 682, 683, 684, 685, 686, 382, 692, 83, 687, 688, 689, 693, 694, 695, 696, 706, 708, 709, 711, 713, 697] (by decide +kernel) (by decide +kernel)
set_option maxRecDepth 20000 in
theorem wl_in16 : GoodIn lw_tbl wsL_law0_r16 := goodIn_r _ [698, 704, 699, 701, 702, 703, 1489, 1490, 1491, 1492, 1274, 740, 741, 742, 743, 744, 745, 746, 414, 747, 749, 12, 750, 382] (by decide +kernel) (by decide +kernel)
set_option maxRecDepth 20000 in
theorem wl_in17 : GoodIn lw_tbl wsL_law0_r17 := goodIn_r _ [331, 332, 333, 334, 335, 336, 84, 337, 338, 339, 85, 340, 341, 342, 343, 344, 1493, 1494, 1495, 1496, 1497, 1499, 32, 1500] (by decide +kernel) (by decide +kernel)
set_option maxRecDepth 20000 in
theorem wl_in18 : GoodIn lw_tbl wsL_law0_r18 := goodIn_r _ [753, 754, 755, 756, 757, 758, 759, 761, 763, 13, 764, 423, 432, 765, 367, 368, 369, 370, 371, 372, 373, 376, 766, 380] (by decide +kernel) (by decide +kernel)
set_option maxRecDepth 20000 in
theorem wl_in19 : GoodIn lw_tbl wsL_law0_r19 := goodIn_r _ [381, 767, 768, 769, 86, 770, 847, 846, 852, 771, 773, 14, 774, 775, 776, 777, 778, 779, 781, 15, 782, 404, 783, 785] (by decide +kernel) (by decide +kernel)
set_option maxRecDepth 20000 in
theorem wl_in20 : GoodIn lw_tbl wsL_law0_r20 := goodIn_r _ [16, 786, 345, 788, 790, 17, 791, 792, 399, 400, 401, 402, 403, 793, 795, 18, 796, 798, 799, 800, 801, 849, 850, 802] (by decide +kernel) (by decide +kernel)
set_option maxRecDepth 20000 in
theorem wl_in21 : GoodIn lw_tbl wsL_law0_r21 := goodIn_r _ [803, 804, 805, 806, 808, 19, 809, 423, 824, 810, 811, 812, 813, 814, 815, 816, 817, 818, 819, 820, 821, 822, 823, 825] (by decide +kernel) (by decide +kernel)
set_option maxRecDepth 20000 in
theorem wl_in22 : GoodIn lw_tbl wsL_law0_r22 := goodIn_r _ [826, 827, 828, 834, 835, 837, 840, 843, 845, 829, 830, 831, 832, 833, 877, 878, 879, 880, 1501, 1502, 1503, 1504, 1505, 1507] (by decide +kernel) (by decide +kernel)
set_option maxRecDepth 20000 in
theorem wl_in23 : GoodIn lw_tbl wsL_law0_r23 := goodIn_r _ [33, 1508, 1262, 1509, 1510, 1511, 1512, 1514, 34, 1515, 1516, 1518, 35, 1519, 1520, 1521, 1522, 1523, 1525, 36, 1526, 1527, 1528, 1529] (by decide +kernel) (by decide +kernel)
set_option maxRecDepth 20000 in
theorem wl_in24 : GoodIn lw_tbl wsL_law0_r24 := goodIn_r _ [881, 882, 883, 884, 885, 886, 887, 345, 1022, 90, 888, 889, 890, 891, 133, 892, 894, 20, 895, 136, 138, 140, 143, 145] (by decide +kernel) (by decide +kernel)
set_option maxRecDepth 20000 in
theorem wl_in25 : GoodIn lw_tbl wsL_law0_r25 := goodIn_r _ [896, 897, 898, 899, 900, 901, 902, 903, 904, 905, 906, 907, 908, 909, 910, 912, 21, 913, 915, 916, 917, 918, 919, 920] (by decide +kernel) (by decide +kernel)
set_option maxRecDepth 20000 in
theorem wl_in26 : GoodIn lw_tbl wsL_law0_r26 := goodIn_r _ [921, 87, 922, 1717, 923, 924, 925, 926, 927, 1718, 929, 930, 931, 932, 933, 934, 935, 936, 937, 938, 88, 939, 940, 941] (by decide +kernel) (by decide +kernel)
set_option maxRecDepth 20000 in
theorem wl_in27 : GoodIn lw_tbl wsL_law0_r27 := goodIn_r _ [942, 943, 945, 946, 947, 89, 948, 949, 950, 951, 952, 953, 954, 955, 956, 957, 958, 959, 961, 963, 965, 967, 22, 968] (by decide +kernel) (by decide +kernel)
set_option maxRecDepth 20000 in
theorem wl_in28 : GoodIn lw_tbl wsL_law0_r28 := goodIn_r _ [969, 970, 971, 972, 973, 974, 975, 976, 977, 978, 979, 981, 983, 985, 23, 986, 988, 990, 24, 991, 993, 995, 25, 996] (by decide +kernel) (by decide +kernel)
set_option maxRecDepth 20000 in
theorem wl_in29 : GoodIn lw_tbl wsL_law0_r29 := goodIn_r _ [998, 999, 1000, 1001, 1002, 1003, 1004, 1005, 1006, 1008, 26, 1009, 1012, 1014, 27, 1015, 1016, 1017, 1018, 1019, 1032, 1027, 1029, 1041] (by decide +kernel) (by decide +kernel)
set_option maxRecDepth 20000 in
theorem wl_in30 : GoodIn lw_tbl wsL_law0_r30 := goodIn_r _ [1038, 1023, 1024, 1025, 1026, 1031, 1034, 1036, 1040, 1042, 1044, 1069, 1070, 1071, 1072, 1073, 1530, 1531, 1532, 1533, 1288, 1287, 1534, 1536] (by decide +kernel) (by decide +kernel)
set_option maxRecDepth 20000 in
theorem wl_in31 : GoodIn lw_tbl wsL_law0_r31 := goodIn_r _ [37, 1537, 1310, 1311, 1538, 1540, 38, 1541, 1542, 1544, 39, 1545, 1546, 1548, 40, 1549, 1550, 1566, 1567, 1568, 1569, 1551, 1553, 41] (by decide +kernel) (by decide +kernel)
set_option maxRecDepth 20000 in
theorem wl_in32 : GoodIn lw_tbl wsL_law0_r32 := goodIn_r _ [1554, 1555, 1557, 42, 1558, 1559, 1561, 43, 1562, 1563, 1564, 1565, 1570, 1572, 44, 1573, 1574, 1576, 45, 1577, 1578, 1579, 1580, 1581] (by decide +kernel) (by decide +kernel)
set_option maxRecDepth 20000 in
theorem wl_in33 : GoodIn lw_tbl wsL_law0_r33 := goodIn_r _ [1583, 46, 1584, 1074, 1075, 1076, 1077, 1078, 1079, 1080, 1081, 1082, 1083, 1084, 1085, 1086, 1087, 1088, 1090, 28, 1091, 1092, 1094, 29] (by decide +kernel) (by decide +kernel)
set_option maxRecDepth 20000 in
theorem wl_in34 : GoodIn lw_tbl wsL_law0_r34 := goodIn_r _ [1095, 1097, 1099, 1100, 1101, 1102, 1103, 1104, 1106, 1107, 1109, 30, 1110, 1111, 1112, 1113, 1114, 1115, 1116, 1117, 1118, 1119, 1585, 1586] (by decide +kernel) (by decide +kernel)
set_option maxRecDepth 20000 in
theorem wl_in35 : GoodIn lw_tbl wsL_law0_r35 := goodIn_r _ [1587, 1588, 1301, 1300, 1589, 1591, 47, 1592, 1593, 1595, 48, 1596, 1597, 1598, 311, 312, 313, 314, 1599, 1600, 1601, 1602, 1120, 1121] (by decide +kernel) (by decide +kernel)
set_option maxRecDepth 20000 in
theorem wl_in36 : GoodIn lw_tbl wsL_law0_r36 := goodIn_r _ [1122, 1123, 1124, 1125, 1126, 1128, 1129, 1130, 1131, 1132, 1133, 1134, 1135, 1136, 1137, 1138, 1139, 1140, 383, 385, 4, 386, 387, 388] (by decide +kernel) (by decide +kernel)
set_option maxRecDepth 20000 in
theorem wl_in37 : GoodIn lw_tbl wsL_law0_r37 := goodIn_r _ [389, 390, 1141, 1142, 1143, 1144, 1145, 1146, 1147, 1148, 1149, 395, 396, 397, 1603, 1604, 1605, 1606, 1305, 1607, 1609, 49, 1610, 1611] (by decide +kernel) (by decide +kernel)
set_option maxRecDepth 20000 in
theorem wl_in38 : GoodIn lw_tbl wsL_law0_r38 := goodIn_r _ [1613, 50, 1614, 1615, 1617, 51, 1618, 1619, 1621, 52, 1622, 1623, 1625, 53, 1626, 315, 316, 317, 318, 319, 320, 321, 322, 1627] (by decide +kernel) (by decide +kernel)
set_option maxRecDepth 20000 in
theorem wl_in39 : GoodIn lw_tbl wsL_law0_r39 := goodIn_r _ [1628, 1629, 1630, 1150, 1151, 1152, 1153, 1154, 1155, 1156, 350, 352, 1, 353, 358, 359, 360, 361, 362, 364, 3, 365, 366, 379] (by decide +kernel) (by decide +kernel)
set_option maxRecDepth 20000 in
theorem wl_in40 : GoodIn lw_tbl wsL_law0_r40 := goodIn_r _ [1631, 1632, 1633, 1634, 1635, 1637, 54, 1638, 323, 324, 325, 326, 346, 348, 0, 349, 394, 405, 406, 407, 408, 409, 91, 410] (by decide +kernel) (by decide +kernel)
set_option maxRecDepth 20000 in
theorem wl_in41 : GoodIn lw_tbl wsL_law0_r41 := goodIn_r _ [411, 412, 413, 1639, 1640, 1641, 1642, 1643, 1645, 55, 1646, 1157, 1158, 1159, 1160, 1161, 1162, 1163, 1165, 1166, 1167, 1168, 1647, 1648] (by decide +kernel) (by decide +kernel)
set_option maxRecDepth 20000 in
theorem wl_in42 : GoodIn lw_tbl wsL_law0_r42 := goodIn_r _ [1649, 1650, 1651, 1653, 56, 1654, 1655, 1657, 57, 1658, 1171, 1172, 1173, 1174, 1175, 1176, 1177, 1178, 1180, 1181, 1182, 1183, 1184, 92] (by decide +kernel) (by decide +kernel)
set_option maxRecDepth 20000 in
theorem wl_in43 : GoodIn lw_tbl wsL_law0_r43 := goodIn_r _ [1659, 1660, 1661, 1662, 1663, 1665, 58, 1666, 1200, 1201, 1202, 1203, 1204, 1205, 1206, 1207, 1208, 1209, 1210, 1211, 1667, 1668, 1669, 1670] (by decide +kernel) (by decide +kernel)
set_option maxRecDepth 20000 in
theorem wl_in44 : GoodIn lw_tbl wsL_law0_r44 := goodIn_r _ [1214, 1215, 1216, 1217, 1218, 1219, 1220, 1221, 1222, 1223, 1224, 1225, 1671, 1672, 1673, 1674, 1228, 1229, 1230, 1231, 1232, 1233, 1234, 1235] (by decide +kernel) (by decide +kernel)
set_option maxRecDepth 20000 in
theorem wl_in45 : GoodIn lw_tbl wsL_law0_r45 := goodIn_r _ [1236, 1237, 1238, 1239, 1675, 1676, 1677, 1678, 415, 416, 417, 418, 419, 421, 5, 422, 424, 426, 6, 427, 428, 430, 7, 431] (by decide +kernel) (by decide +kernel)
set_option maxRecDepth 20000 in
theorem wl_in46 : GoodIn lw_tbl wsL_law0_r46 := goodIn_r _ [1679, 1680, 1681, 1682, 1683, 1685, 59, 1686] (by decide +kernel) (by decide +kernel)
set_option maxRecDepth 20000 in
theorem wl_wsX90 : ∀ w ∈ wsX90, w ∈ lw_tbl := fun w h => (goodIn_r wsX90 [261, 263, 265, 267, 269, 271, 273, 275, 277, 279, 281, 283, 285, 287] (by decide +kernel) (by decide +kernel) w h).1
set_option maxRecDepth 20000 in
theorem wl_wsX100 : ∀ w ∈ wsX100, w ∈ lw_tbl := fun w h => (goodIn_r wsX100 [1317, 1319, 1321, 1323, 1325, 1327, 1329, 1331, 1333, 1335, 1337, 1339, 1341, 1343, 1345, 1347, 1349, 1351, 1353, 1355, 1357, 1359, 1361, 1363, 1365, 1367, 1369, 1371, 1373, 1375, 1377, 1379, 1381, 1383, 1385, 1387, 1389, 1391, 1393, 1395, 1397, 1399, 1401, 1403, 1405, 1407, 1409, 1411, 1413, 1415, 1417, 1419, 1421, 1423, 1425, 1427, 1429, 1431, 1433, 1435, 1437, 1439, 1441, 1443, 1445, 1447, 1449, 1451, 1453] (by decide +kernel) (by decide +kernel) w h).1
set_option maxRecDepth 20000 in
theorem wl_wsX70 : ∀ w ∈ wsX70, w ∈ lw_tbl := fun w h => (goodIn_r wsX70 [114, 116, 118, 120, 122] (by decide +kernel) (by decide +kernel) w h).1
set_option maxRecDepth 20000 in
theorem wl_wsX20 : ∀ w ∈ wsX20, w ∈ lw_tbl := fun w h => (goodIn_r wsX20 [146, 148, 150, 152, 154, 156] (by decide +kernel) (by decide +kernel) w h).1
set_option maxRecDepth 20000 in
theorem wl_wsX50 : ∀ w ∈ wsX50, w ∈ lw_tbl := fun w h => (goodIn_r wsX50 [176, 178, 180, 182] (by decide +kernel) (by decide +kernel) w h).1
set_option maxRecDepth 20000 in
theorem wl_wsX00 : ∀ w ∈ wsX00, w ∈ lw_tbl := fun w h => (goodIn_r wsX00 [195, 197, 199] (by decide +kernel) (by decide +kernel) w h).1
set_option maxRecDepth 20000 in
theorem wl_wsJx4a65c0 : ∀ w ∈ wsJx4a65c0, w ∈ lw_tbl := fun w h => (goodIn_r wsJx4a65c0 [225, 221, 223] (by decide +kernel) (by decide +kernel) w h).1
set_option maxRecDepth 20000 in
theorem wl_wsX80 : ∀ w ∈ wsX80, w ∈ lw_tbl := fun w h => (goodIn_r wsX80 [240, 242, 244] (by decide +kernel) (by decide +kernel) w h).1
set_option maxRecDepth 20000 in
theorem wl_wsX30 : ∀ w ∈ wsX30, w ∈ lw_tbl := fun w h => (goodIn_r wsX30 [605, 607, 609, 611, 613, 615, 617] (by decide +kernel) (by decide +kernel) w h).1
set_option maxRecDepth 20000 in
theorem wl_wsX40 : ∀ w ∈ wsX40, w ∈ lw_tbl := fun w h => (goodIn_r wsX40 [715, 717, 719, 721, 723, 725, 727, 729, 731, 733, 735, 737] (by decide +kernel) (by decide +kernel) w h).1
set_option maxRecDepth 20000 in
theorem wl_wsX60 : ∀ w ∈ wsX60, w ∈ lw_tbl := fun w h => (goodIn_r wsX60 [854, 856, 858, 860, 862, 864, 866, 868, 870, 872, 874] (by decide +kernel) (by decide +kernel) w h).1
set_option maxRecDepth 20000 in
theorem wl_wsX10 : ∀ w ∈ wsX10, w ∈ lw_tbl := fun w h => (goodIn_r wsX10 [1046, 1048, 1050, 1052, 1054, 1056, 1058, 1060, 1062, 1064, 1066] (by decide +kernel) (by decide +kernel) w h).1
theorem wl_in0 : ∀ w ∈ wsL_law0, w ∈ lw_tbl := (List.forall_mem_append.mpr ⟨(List.forall_mem_append.mpr ⟨(List.forall_mem_append.mpr ⟨(List.forall_mem_append.mpr ⟨(List.forall_mem_append.mpr ⟨(List.forall_mem_append.mpr ⟨(List.forall_mem_append.mpr ⟨(List.forall_mem_append.mpr ⟨(List.forall_mem_append.mpr ⟨(List.forall_mem_append.mpr ⟨(List.forall_mem_append.mpr ⟨(List.forall_mem_append.mpr ⟨(List.forall_mem_append.mpr ⟨(List.forall_mem_append.mpr ⟨fun w h => (wl_in1 w h).1, (List.forall_mem_append.mpr ⟨fun w h => (wl_in2 w h).1, (List.forall_mem_append.mpr ⟨fun w h => (wl_in3 w h).1, (List.forall_mem_append.mpr ⟨fun w h => (wl_in4 w h).1, (List.forall_mem_append.mpr ⟨fun w h => (wl_in5 w h).1, (List.forall_mem_append.mpr ⟨fun w h => (wl_in6 w h).1, (List.forall_mem_append.mpr ⟨fun w h => (wl_in7 w h).1, (List.forall_mem_append.mpr ⟨fun w h => (wl_in8 w h).1, (List.forall_mem_append.mpr ⟨fun w h => (wl_in9 w h).1, (List.forall_mem_append.mpr ⟨fun w h => (wl_in10 w h).1, (List.forall_mem_append.mpr ⟨fun w h => (wl_in11 w h).1, (List.forall_mem_append.mpr ⟨fun w h => (wl_in12 w h).1, (List.forall_mem_append.mpr ⟨fun w h => (wl_in13 w h).1, (List.forall_mem_append.mpr ⟨fun w h => (wl_in14 w h).1, (List.forall_mem_append.mpr ⟨fun w h => (wl_in15 w h).1, (List.forall_mem_append.mpr ⟨fun w h => (wl_in16 w h).1, (List.forall_mem_append.mpr ⟨fun w h => (wl_in17 w h).1, (List.forall_mem_append.mpr ⟨fun w h => (wl_in18 w h).1, (List.forall_mem_append.mpr ⟨fun w h => (wl_in19 w h).1, (List.forall_mem_append.mpr ⟨fun w h => (wl_in20 w h).1, (List.forall_mem_append.mpr ⟨fun w h => (wl_in21 w h).1, (List.forall_mem_append.mpr ⟨fun w h => (wl_in22 w h).1, (List.forall_mem_append.mpr ⟨fun w h => (wl_in23 w h).1, (List.forall_mem_append.mpr ⟨fun w h => (wl_in24 w h).1, (List.forall_mem_append.mpr ⟨fun w h => (wl_in25 w h).1, (List.forall_mem_append.mpr ⟨fun w h => (wl_in26 w h).1, (List.forall_mem_append.mpr ⟨fun w h => (wl_in27 w h).1, (List.forall_mem_append.mpr ⟨fun w h => (wl_in28 w h).1, (List.forall_mem_append.mpr ⟨fun w h => (wl_in29 w h).1, (List.forall_mem_append.mpr ⟨fun w h => (wl_in30 w h).1, (List.forall_mem_append.mpr ⟨fun w h => (wl_in31 w h).1, (List.forall_mem_append.mpr ⟨fun w h => (wl_in32 w h).1, (List.forall_mem_append.mpr ⟨fun w h => (wl_in33 w h).1, (List.forall_mem_append.mpr ⟨fun w h => (wl_in34 w h).1, (List.forall_mem_append.mpr ⟨fun w h => (wl_in35 w h).1, (List.forall_mem_append.mpr ⟨fun w h => (wl_in36 w h).1, (List.forall_mem_append.mpr ⟨fun w h => (wl_in37 w h).1, (List.forall_mem_append.mpr ⟨fun w h => (wl_in38 w h).1, (List.forall_mem_append.mpr ⟨fun w h => (wl_in39 w h).1, (List.forall_mem_append.mpr ⟨fun w h => (wl_in40 w h).1, (List.forall_mem_append.mpr ⟨fun w h => (wl_in41 w h).1, (List.forall_mem_append.mpr ⟨fun w h => (wl_in42 w h).1, (List.forall_mem_append.mpr ⟨fun w h => (wl_in43 w h).1, (List.forall_mem_append.mpr ⟨fun w h => (wl_in44 w h).1, (List.forall_mem_append.mpr ⟨fun w h => (wl_in45 w h).1, (fun w h => (wl_in46 w h).1)⟩)⟩)⟩)⟩)⟩)⟩)⟩)⟩)⟩)⟩)⟩)⟩)⟩)⟩)⟩)⟩)⟩)⟩)⟩)⟩)⟩)⟩)⟩)⟩)⟩)⟩)⟩)⟩)⟩)⟩)⟩)⟩)⟩)⟩)⟩)⟩)⟩)⟩)⟩)⟩)⟩)⟩)⟩)⟩)⟩), wl_wsX90⟩), wl_wsX100⟩), wl_wsX70⟩), wl_wsX20⟩), wl_wsX50⟩), wl_wsX00⟩), wl_wsJx4a65c0⟩), wl_wsX80⟩), wl_wsX30⟩), wl_wsX40⟩), wl_wsX60⟩), wl_wsX10⟩), fun _ h => absurd h List.not_mem_nil⟩)
