set_option maxRecDepth 20000 in
theorem wl_in1 : GoodIn lw_tbl wsL_law0_r1 := goodIn_r _ [93, 94, 61, 1228, 1229, 71, 1673, 95, 96, 97, 98, 99, 100, 101, 102, 62, 247, 126, 127, 63, 248, 159, 160, 64] (by decide +kernel) (by decide +kernel)
set_option maxRecDepth 20000 in
theorem wl_in2 : GoodIn lw_tbl wsL_law0_r2 := goodIn_r _ [249, 186, 187, 66, 250, 202, 203, 69, 251, 252, 253, 254, 185, 255, 228, 229, 70, 256, 257, 258, 259, 260, 104, 105] (by decide +kernel) (by decide +kernel)
set_option maxRecDepth 20000 in
theorem wl_in3 : GoodIn lw_tbl wsL_law0_r3 := goodIn_r _ [106, 125, 107, 108, 110, 112, 113, 129, 130, 131, 161, 162, 163, 164, 168, 170, 172, 174, 165, 166, 65, 167, 189, 190] (by decide +kernel) (by decide +kernel)
set_option maxRecDepth 20000 in
theorem wl_in4 : GoodIn lw_tbl wsL_law0_r4 := goodIn_r _ [191, 192, 193, 194, 204, 205, 206, 214, 216, 207, 208, 68, 209, 218, 210, 211, 67, 212, 213, 231, 232, 233, 234, 236] (by decide +kernel) (by decide +kernel)
set_option maxRecDepth 20000 in
theorem wl_in5 : GoodIn lw_tbl wsL_law0_r5 := goodIn_r _ [237, 238, 1230, 1231, 1232, 1233, 1236, 1237, 1238, 1239, 1241, 1242, 1243, 1244, 1245, 1246, 1247, 1249, 1250, 1251, 1252, 1253, 1254, 1255] (by decide +kernel) (by decide +kernel)
set_option maxRecDepth 20000 in
theorem wl_in6 : GoodIn lw_tbl wsL_law0_r6 := goodIn_r _ [1256, 1257, 1258, 1259, 1261, 1262, 1263, 1264, 1265, 1266, 1267, 1268, 1269, 1270, 1271, 1272, 1275, 1276, 1277, 1442, 1278, 1279, 1280, 1281] (by decide +kernel) (by decide +kernel)
set_option maxRecDepth 20000 in
theorem wl_in7 : GoodIn lw_tbl wsL_law0_r7 := goodIn_r _ [1282, 1283, 1284, 1285, 1288, 1289, 1290, 1292, 1293, 1294, 1298, 1299, 1300, 1301, 1302, 290, 291, 292, 293, 294, 295, 296, 297, 298] (by decide +kernel) (by decide +kernel)
set_option maxRecDepth 20000 in
theorem wl_in8 : GoodIn lw_tbl wsL_law0_r8 := goodIn_r _ [299, 300, 301, 302, 1447, 1448, 1449, 1450, 1234, 1295, 1451, 1453, 31, 1454, 303, 304, 305, 306, 307, 308, 309, 310, 1455, 1456] (by decide +kernel) (by decide +kernel)
set_option maxRecDepth 20000 in
theorem wl_in9 : GoodIn lw_tbl wsL_law0_r9 := goodIn_r _ [1457, 1458, 425, 426, 60, 427, 428, 429, 430, 431, 432, 433, 434, 439, 75, 512, 76, 528, 77, 435, 436, 437, 382, 383] (by decide +kernel) (by decide +kernel)
set_option maxRecDepth 20000 in
theorem wl_in10 : GoodIn lw_tbl wsL_law0_r10 := goodIn_r _ [508, 509, 510, 511, 354, 356, 2, 357, 1459, 1460, 1461, 1462, 1235, 1463, 1464, 1465, 1443, 1444, 1445, 1446, 544, 545, 546, 547] (by decide +kernel) (by decide +kernel)
set_option maxRecDepth 20000 in
theorem wl_in11 : GoodIn lw_tbl wsL_law0_r11 := goodIn_r _ [548, 549, 550, 1466, 1467, 1468, 1469, 552, 553, 554, 555, 556, 557, 558, 559, 565, 78, 563, 424, 581, 79, 560, 561, 562] (by decide +kernel) (by decide +kernel)
set_option maxRecDepth 20000 in
theorem wl_in12 : GoodIn lw_tbl wsL_law0_r12 := goodIn_r _ [327, 328, 329, 330, 217, 582, 583, 584, 585, 595, 596, 586, 588, 592, 590, 591, 612, 613, 614, 615, 219, 220, 616, 618] (by decide +kernel) (by decide +kernel)
set_option maxRecDepth 20000 in
theorem wl_in13 : GoodIn lw_tbl wsL_law0_r13 := goodIn_r _ [9, 619, 620, 622, 10, 623, 624, 626, 11, 627, 670, 395, 81, 396, 671, 628, 629, 80, 630, 631, 632, 633, 634, 635] (by decide +kernel) (by decide +kernel)
set_option maxRecDepth 20000 in
theorem wl_in14 : GoodIn lw_tbl wsL_law0_r14 := goodIn_r _ [636, 637, 638, 639, 1695, 640, 659, 660, 661, 662, 663, 665, 666, 367, 368, 667, 669, 668, 82, 1470, 1471, 1472, 1473, 1474] (by decide +kernel) (by decide +kernel)
set_option maxRecDepth 20000 in
theorem wl_in15 : GoodIn lw_tbl wsL_law0_r15 := goodIn_r _ [1240, 672, 673, 674, 675, 676, 677, 678, 372, 684, 83, 679, 680, 681, 685, 686, 687, 688, 698, 700, 701, 703, 705, 689] (by decide +kernel) (by decide +kernel)
set_option maxRecDepth 20000 in
theorem wl_in16 : GoodIn lw_tbl wsL_law0_r16 := goodIn_r _ [690, 696, 691, 693, 694, 695, 1475, 1476, 1477, 1478, 1260, 732, 733, 734, 735, 736, 737, 738, 406, 739, 741, 12, 742, 372] (by decide +kernel) (by decide +kernel)
set_option maxRecDepth 20000 in
theorem wl_in17 : GoodIn lw_tbl wsL_law0_r17 := goodIn_r _ [331, 332, 333, 334, 335, 336, 84, 337, 338, 339, 85, 340, 341, 342, 343, 344, 1479, 1480, 1481, 1482, 1483, 1485, 32, 1486] (by decide +kernel) (by decide +kernel)
set_option maxRecDepth 20000 in
theorem wl_in18 : GoodIn lw_tbl wsL_law0_r18 := goodIn_r _ [745, 746, 747, 748, 749, 750, 751, 753, 755, 13, 756, 415, 757, 370, 371, 758, 759, 760, 86, 761, 829, 828, 834, 762] (by decide +kernel) (by decide +kernel)
set_option maxRecDepth 20000 in
theorem wl_in19 : GoodIn lw_tbl wsL_law0_r19 := goodIn_r _ [764, 14, 765, 766, 767, 768, 769, 770, 772, 15, 773, 394, 774, 776, 16, 777, 345, 779, 781, 17, 782, 783, 389, 390] (by decide +kernel) (by decide +kernel)
set_option maxRecDepth 20000 in
theorem wl_in20 : GoodIn lw_tbl wsL_law0_r20 := goodIn_r _ [391, 392, 393, 784, 785, 786, 787, 831, 832, 788, 789, 790, 791, 792, 794, 18, 795, 424, 415, 806, 796, 797, 798, 799] (by decide +kernel) (by decide +kernel)
set_option maxRecDepth 20000 in
theorem wl_in21 : GoodIn lw_tbl wsL_law0_r21 := goodIn_r _ [800, 801, 802, 803, 804, 805, 807, 808, 809, 810, 816, 817, 819, 822, 825, 827, 811, 812, 813, 814, 815, 859, 860, 861] (by decide +kernel) (by decide +kernel)
set_option maxRecDepth 20000 in
theorem wl_in22 : GoodIn lw_tbl wsL_law0_r22 := goodIn_r _ [862, 1487, 1488, 1489, 1490, 1491, 1493, 33, 1494, 1248, 1495, 1496, 1497, 1498, 1500, 34, 1501, 1502, 1504, 35, 1505, 1506, 1507, 1508] (by decide +kernel) (by decide +kernel)
set_option maxRecDepth 20000 in
theorem wl_in23 : GoodIn lw_tbl wsL_law0_r23 := goodIn_r _ [1509, 1511, 36, 1512, 1513, 1514, 1515, 863, 864, 865, 866, 867, 868, 869, 345, 1004, 90, 870, 871, 872, 873, 133, 874, 876] (by decide +kernel) (by decide +kernel)
set_option maxRecDepth 20000 in
theorem wl_in24 : GoodIn lw_tbl wsL_law0_r24 := goodIn_r _ [19, 877, 136, 138, 140, 143, 145, 878, 879, 880, 881, 882, 883, 884, 885, 886, 887, 888, 889, 890, 891, 892, 894, 20] (by decide +kernel) (by decide +kernel)
set_option maxRecDepth 20000 in
theorem wl_in25 : GoodIn lw_tbl wsL_law0_r25 := goodIn_r _ [895, 897, 898, 899, 900, 901, 902, 903, 87, 904, 1703, 905, 906, 907, 908, 909, 1704, 911, 912, 913, 914, 915, 916, 917] (by decide +kernel) (by decide +kernel)
set_option maxRecDepth 20000 in
theorem wl_in26 : GoodIn lw_tbl wsL_law0_r26 := goodIn_r _ [918, 919, 920, 88, 921, 922, 923, 924, 925, 927, 928, 929, 89, 930, 931, 932, 933, 934, 935, 936, 937, 938, 939, 940] (by decide +kernel) (by decide +kernel)
set_option maxRecDepth 20000 in
theorem wl_in27 : GoodIn lw_tbl wsL_law0_r27 := goodIn_r _ [941, 943, 945, 947, 949, 21, 950, 951, 952, 953, 954, 955, 956, 957, 958, 959, 960, 961, 963, 965, 967, 22, 968, 970] (by decide +kernel) (by decide +kernel)
set_option maxRecDepth 20000 in
theorem wl_in28 : GoodIn lw_tbl wsL_law0_r28 := goodIn_r _ [972, 23, 973, 975, 977, 24, 978, 980, 981, 982, 983, 984, 985, 986, 987, 988, 990, 25, 991, 994, 996, 26, 997, 998] (by decide +kernel) (by decide +kernel)
set_option maxRecDepth 20000 in
theorem wl_in29 : GoodIn lw_tbl wsL_law0_r29 := goodIn_r _ [999, 1000, 1001, 1014, 1009, 1011, 1023, 1020, 1005, 1006, 1007, 1008, 1013, 1016, 1018, 1022, 1024, 1026, 1051, 1052, 1053, 1054, 1055, 1516] (by decide +kernel) (by decide +kernel)
set_option maxRecDepth 20000 in
theorem wl_in30 : GoodIn lw_tbl wsL_law0_r30 := goodIn_r _ [1517, 1518, 1519, 1274, 1273, 1520, 1522, 37, 1523, 1296, 1297, 1524, 1526, 38, 1527, 1528, 1530, 39, 1531, 1532, 1534, 40, 1535, 1536] (by decide +kernel) (by decide +kernel)
set_option maxRecDepth 20000 in
theorem wl_in31 : GoodIn lw_tbl wsL_law0_r31 := goodIn_r _ [1552, 1553, 1554, 1555, 1537, 1539, 41, 1540, 1541, 1543, 42, 1544, 1545, 1547, 43, 1548, 1549, 1550, 1551, 1556, 1558, 44, 1559, 1560] (by decide +kernel) (by decide +kernel)
set_option maxRecDepth 20000 in
theorem wl_in32 : GoodIn lw_tbl wsL_law0_r32 := goodIn_r _ [1562, 45, 1563, 1564, 1565, 1566, 1567, 1569, 46, 1570, 1056, 1057, 1058, 1059, 1060, 1061, 1062, 1063, 1064, 1065, 1066, 1067, 1068, 1069] (by decide +kernel) (by decide +kernel)
set_option maxRecDepth 20000 in
theorem wl_in33 : GoodIn lw_tbl wsL_law0_r33 := goodIn_r _ [1070, 1072, 27, 1073, 1074, 1076, 28, 1077, 1079, 1081, 1082, 1083, 1084, 1086, 29, 1087, 1088, 1089, 1090, 1091, 1092, 1571, 1572, 1573] (by decide +kernel) (by decide +kernel)
set_option maxRecDepth 20000 in
theorem wl_in34 : GoodIn lw_tbl wsL_law0_r34 := goodIn_r _ [1574, 1287, 1286, 1575, 1577, 47, 1578, 1579, 1581, 48, 1582, 1583, 1584, 311, 312, 313, 314, 1585, 1586, 1587, 1588, 1093, 1094, 1095] (by decide +kernel) (by decide +kernel)
set_option maxRecDepth 20000 in
theorem wl_in35 : GoodIn lw_tbl wsL_law0_r35 := goodIn_r _ [1096, 1097, 1098, 1099, 1101, 1102, 1103, 1104, 1105, 1106, 1107, 1108, 1109, 1110, 1111, 1112, 1113, 1114, 1115, 1117, 1118, 1119, 1120, 1121] (by decide +kernel) (by decide +kernel)
set_option maxRecDepth 20000 in
theorem wl_in36 : GoodIn lw_tbl wsL_law0_r36 := goodIn_r _ [373, 375, 4, 376, 377, 378, 379, 380, 1122, 1123, 1124, 1125, 1126, 1127, 1128, 1129, 1130, 385, 386, 387, 1589, 1590, 1591, 1592] (by decide +kernel) (by decide +kernel)
set_option maxRecDepth 20000 in
theorem wl_in37 : GoodIn lw_tbl wsL_law0_r37 := goodIn_r _ [1291, 1593, 1595, 49, 1596, 1597, 1599, 50, 1600, 1601, 1603, 51, 1604, 1605, 1607, 52, 1608, 1609, 1611, 53, 1612, 315, 316, 317] (by decide +kernel) (by decide +kernel)
set_option maxRecDepth 20000 in
theorem wl_in38 : GoodIn lw_tbl wsL_law0_r38 := goodIn_r _ [318, 319, 320, 321, 322, 1613, 1614, 1615, 1616, 1131, 1132, 1133, 1134, 1135, 1136, 1137, 350, 352, 1, 353, 358, 359, 360, 361] (by decide +kernel) (by decide +kernel)
set_option maxRecDepth 20000 in
theorem wl_in39 : GoodIn lw_tbl wsL_law0_r39 := goodIn_r _ [362, 364, 3, 365, 366, 369, 1617, 1618, 1619, 1620, 1621, 1623, 54, 1624, 323, 324, 325, 326, 346, 348, 0, 349, 384, 397] (by decide +kernel) (by decide +kernel)
set_option maxRecDepth 20000 in
theorem wl_in40 : GoodIn lw_tbl wsL_law0_r40 := goodIn_r _ [398, 399, 400, 401, 91, 402, 403, 404, 405, 1625, 1626, 1627, 1628, 1629, 1631, 55, 1632, 1138, 1139, 1140, 1141, 1142, 1143, 1144] (by decide +kernel) (by decide +kernel)
set_option maxRecDepth 20000 in
theorem wl_in41 : GoodIn lw_tbl wsL_law0_r41 := goodIn_r _ [1145, 1147, 30, 1148, 1151, 1152, 1153, 1154, 1633, 1634, 1635, 1636, 1637, 1639, 56, 1640, 1641, 1643, 57, 1644, 1157, 1158, 1159, 1160] (by decide +kernel) (by decide +kernel)
set_option maxRecDepth 20000 in
theorem wl_in42 : GoodIn lw_tbl wsL_law0_r42 := goodIn_r _ [1161, 1162, 1163, 1164, 1166, 1167, 1168, 1169, 1170, 92, 1645, 1646, 1647, 1648, 1649, 1651, 58, 1652, 1186, 1187, 1188, 1189, 1190, 1191] (by decide +kernel) (by decide +kernel)
set_option maxRecDepth 20000 in
theorem wl_in43 : GoodIn lw_tbl wsL_law0_r43 := goodIn_r _ [1192, 1193, 1194, 1195, 1196, 1197, 1653, 1654, 1655, 1656, 1200, 1201, 1202, 1203, 1204, 1205, 1206, 1207, 1208, 1209, 1210, 1211, 1657, 1658] (by decide +kernel) (by decide +kernel)
set_option maxRecDepth 20000 in
theorem wl_in44 : GoodIn lw_tbl wsL_law0_r44 := goodIn_r _ [1659, 1660, 1214, 1215, 1216, 1217, 1218, 1219, 1220, 1221, 1222, 1223, 1224, 1225, 1661, 1662, 1663, 1664, 407, 408, 409, 410, 411, 413] (by decide +kernel) (by decide +kernel)
set_option maxRecDepth 20000 in
theorem wl_in45 : GoodIn lw_tbl wsL_law0_r45 := goodIn_r _ [5, 414, 416, 418, 6, 419, 420, 422, 7, 423, 1665, 1666, 1667, 1668, 1669, 1671, 59, 1672] (by decide +kernel) (by decide +kernel)
set_option maxRecDepth 20000 in
theorem wl_wsX90 : ∀ w ∈ wsX90, w ∈ lw_tbl := fun w h => (goodIn_r wsX90 [261, 263, 265, 267, 269, 271, 273, 275, 277, 279, 281, 283, 285, 287] (by decide +kernel) (by decide +kernel) w h).1
set_option maxRecDepth 20000 in
theorem wl_wsX100 : ∀ w ∈ wsX100, w ∈ lw_tbl := fun w h => (goodIn_r wsX100 [1303, 1305, 1307, 1309, 1311, 1313, 1315, 1317, 1319, 1321, 1323, 1325, 1327, 1329, 1331, 1333, 1335, 1337, 1339, 1341, 1343, 1345, 1347, 1349, 1351, 1353, 1355, 1357, 1359, 1361, 1363, 1365, 1367, 1369, 1371, 1373, 1375, 1377, 1379, 1381, 1383, 1385, 1387, 1389, 1391, 1393, 1395, 1397, 1399, 1401, 1403, 1405, 1407, 1409, 1411, 1413, 1415, 1417, 1419, 1421, 1423, 1425, 1427, 1429, 1431, 1433, 1435, 1437, 1439] (by decide +kernel) (by decide +kernel) w h).1
set_option maxRecDepth 20000 in
theorem wl_wsX70 : ∀ w ∈ wsX70, w ∈ lw_tbl := fun w h => (goodIn_r wsX70 [114, 116, 118, 120, 122] (by decide +kernel) (by decide +kernel) w h).1
set_option maxRecDepth 20000 in
theorem wl_wsX20 : ∀ w ∈ wsX20, w ∈ lw_tbl := fun w h => (goodIn_r wsX20 [146, 148, 150, 152, 154, 156] (by decide +kernel) (by decide +kernel) w h).1
set_option maxRecDepth 20000 in
theorem wl_wsX50 : ∀ w ∈ wsX50, w ∈ lw_tbl := fun w h => (goodIn_r wsX50 [176, 178, 180, 182] (by decide +kernel) (by decide +kernel) w h).1
set_option maxRecDepth 20000 in
theorem wl_wsX00 : ∀ w ∈ wsX00, w ∈ lw_tbl := fun w h => (goodIn_r wsX00 [195, 197, 199] (by decide +kernel) (by decide +kernel) w h).1
set_option maxRecDepth 20000 in
theorem wl_wsJx4a65c0 : ∀ w ∈ wsJx4a65c0, w ∈ lw_tbl := fun w h => (goodIn_r wsJx4a65c0 [225, 221, 223] (by decide +kernel) (by decide +kernel) w h).1
set_option maxRecDepth 20000 in
theorem wl_wsX80 : ∀ w ∈ wsX80, w ∈ lw_tbl := fun w h => (goodIn_r wsX80 [240, 242, 244] (by decide +kernel) (by decide +kernel) w h).1
set_option maxRecDepth 20000 in
theorem wl_wsX30 : ∀ w ∈ wsX30, w ∈ lw_tbl := fun w h => (goodIn_r wsX30 [597, 599, 601, 603, 605, 607, 609] (by decide +kernel) (by decide +kernel) w h).1
set_option maxRecDepth 20000 in
theorem wl_wsX40 : ∀ w ∈ wsX40, w ∈ lw_tbl := fun w h => (goodIn_r wsX40 [707, 709, 711, 713, 715, 717, 719, 721, 723, 725, 727, 729] (by decide +kernel) (by decide +kernel) w h).1
set_option maxRecDepth 20000 in
theorem wl_wsX60 : ∀ w ∈ wsX60, w ∈ lw_tbl := fun w h => (goodIn_r wsX60 [836, 838, 840, 842, 844, 846, 848, 850, 852, 854, 856] (by decide +kernel) (by decide +kernel) w h).1
set_option maxRecDepth 20000 in
theorem wl_wsX10 : ∀ w ∈ wsX10, w ∈ lw_tbl := fun w h => (goodIn_r wsX10 [1028, 1030, 1032, 1034, 1036, 1038, 1040, 1042, 1044, 1046, 1048] (by decide +kernel) (by decide +kernel) w h).1
theorem wl_in0 : ∀ w ∈ wsL_law0, w ∈ lw_tbl := (List.forall_mem_append.mpr ⟨(List.forall_mem_append.mpr ⟨(List.forall_mem_append.mpr ⟨(List.forall_mem_append.mpr ⟨(List.forall_mem_append.mpr ⟨(List.forall_mem_append.mpr ⟨(List.forall_mem_append.mpr ⟨(List.forall_mem_append.mpr ⟨(List.forall_mem_append.mpr ⟨(List.forall_mem_append.mpr ⟨(List.forall_mem_append.mpr ⟨(List.forall_mem_append.mpr ⟨(List.forall_mem_append.mpr ⟨(List.forall_mem_append.mpr ⟨fun w h => (wl_in1 w h).1, (List.forall_mem_append.mpr ⟨fun w h => (wl_in2 w h).1, (List.forall_mem_append.mpr ⟨fun w h => (wl_in3 w h).1, (List.forall_mem_append.mpr ⟨fun w h => (wl_in4 w h).1, (List.forall_mem_append.mpr ⟨fun w h => (wl_in5 w h).1, (List.forall_mem_append.mpr ⟨fun w h => (wl_in6 w h).1, (List.forall_mem_append.mpr ⟨fun w h => (wl_in7 w h).1, (List.forall_mem_append.mpr ⟨fun w h => (wl_in8 w h).1, (List.forall_mem_append.mpr ⟨fun w h => (wl_in9 w h).1, (List.forall_mem_append.mpr ⟨fun w h => (wl_in10 w h).1, (List.forall_mem_append.mpr ⟨fun w h => (wl_in11 w h).1, (List.forall_mem_append.mpr ⟨fun w h => (wl_in12 w h).1, (List.forall_mem_append.mpr ⟨fun w h => (wl_in13 w h).1, (List.forall_mem_append.mpr ⟨fun w h => (wl_in14 w h).1, (List.forall_mem_append.mpr ⟨fun w h => (wl_in15 w h).1, (List.forall_mem_append.mpr ⟨fun w h => (wl_in16 w h).1, (List.forall_mem_append.mpr ⟨fun w h => (wl_in17 w h).1, (List.forall_mem_append.mpr ⟨fun w h => (wl_in18 w h).1, (List.forall_mem_append.mpr ⟨fun w h => (wl_in19 w h).1, (List.forall_mem_append.mpr ⟨fun w h => (wl_in20 w h).1, (List.forall_mem_append.mpr ⟨fun w h => (wl_in21 w h).1, (List.forall_mem_append.mpr ⟨fun w h => (wl_in22 w h).1, (List.forall_mem_append.mpr ⟨fun w h => (wl_in23 w h).1, (List.forall_mem_append.mpr ⟨fun w h => (wl_in24 w h).1, (List.forall_mem_append.mpr ⟨fun w h => (wl_in25 w h).1, (List.forall_mem_append.mpr ⟨fun w h => (wl_in26 w h).1, (List.forall_mem_append.mpr ⟨fun w h => (wl_in27 w h).1, (List.forall_mem_append.mpr ⟨fun w h => (wl_in28 w h).1, (List.forall_mem_append.mpr ⟨fun w h => (wl_in29 w h).1, (List.forall_mem_append.mpr ⟨fun w h => (wl_in30 w h).1, (List.forall_mem_append.mpr ⟨fun w h => (wl_in31 w h).1, (List.forall_mem_append.mpr ⟨fun w h => (wl_in32 w h).1, (List.forall_mem_append.mpr ⟨fun w h => (wl_in33 w h).1, (List.forall_mem_append.mpr ⟨fun w h => (wl_in34 w h).1, (List.forall_mem_append.mpr ⟨fun w h => (wl_in35 w h).1, (List.forall_mem_append.mpr ⟨fun w h => (wl_in36 w h).1, (List.forall_mem_append.mpr ⟨fun w h => (wl_in37 w h).1, (List.forall_mem_append.mpr ⟨fun w h => (wl_in38 w h).1, (List.forall_mem_append.mpr ⟨fun w h => (wl_in39 w h).1, (List.forall_mem_append.mpr ⟨fun w h => (wl_in40 w h).1, (List.forall_mem_append.mpr ⟨fun w h => (wl_in41 w h).1, (List.forall_mem_append.mpr ⟨fun w h => (wl_in42 w h).1, (List.forall_mem_append.mpr ⟨fun w h => (wl_in43 w h).1, (List.forall_mem_append.mpr ⟨fun w h => (wl_in44 w h).1, (fun w h => (wl_in45 w h).1)⟩)⟩)⟩)⟩)⟩)⟩)⟩)⟩)⟩)⟩)⟩)⟩)⟩)⟩)⟩)⟩)⟩)⟩)⟩)⟩)⟩)⟩)⟩)⟩)⟩)⟩)⟩)⟩)⟩)⟩)⟩)⟩)⟩)⟩)⟩)⟩)⟩)⟩)⟩)⟩)⟩)⟩)⟩)⟩), wl_wsX90⟩), wl_wsX100⟩), wl_wsX70⟩), wl_wsX20⟩), wl_wsX50⟩), wl_wsX00⟩), wl_wsJx4a65c0⟩), wl_wsX80⟩), wl_wsX30⟩), wl_wsX40⟩), wl_wsX60⟩), wl_wsX10⟩), fun _ h => absurd h List.not_mem_nil⟩)
