/-! the law's entry: words by their places -/
theorem en_in {T : List Cond} (ws : List Cond) (ps : List Nat) (hp : ws = ps.filterMap (fun i => T[i]?)) : ∀ w ∈ ws, w ∈ T := by
  intro w hw
  rw [hp] at hw
  obtain ⟨i, -, hi⟩ := List.mem_filterMap.mp hw
  exact List.mem_of_getElem? hi
set_option maxRecDepth 20000 in
theorem en_u0 : ∀ w ∈ u_ws RJx4a65c TJx4a65c 3, w ∈ lw_tbl := en_in _ [225, 221, 223] (by decide +kernel)
set_option maxRecDepth 20000 in
theorem en_u1 : ∀ w ∈ u_ws RX0 TX0 3, w ∈ lw_tbl := en_in _ [195, 197, 199] (by decide +kernel)
set_option maxRecDepth 20000 in
theorem en_u2 : ∀ w ∈ u_ws RX1 TX1 11, w ∈ lw_tbl := en_in _ [1046, 1048, 1050, 1052, 1054, 1056, 1058, 1060, 1062, 1064, 1066] (by decide +kernel)
set_option maxRecDepth 20000 in
theorem en_u3 : ∀ w ∈ u_ws RX2 TX2 6, w ∈ lw_tbl := en_in _ [146, 148, 150, 152, 154, 156] (by decide +kernel)
set_option maxRecDepth 20000 in
theorem en_u4 : ∀ w ∈ u_ws RX3 TX3 7, w ∈ lw_tbl := en_in _ [605, 607, 609, 611, 613, 615, 617] (by decide +kernel)
set_option maxRecDepth 20000 in
theorem en_u5 : ∀ w ∈ u_ws RX4 TX4 12, w ∈ lw_tbl := en_in _ [715, 717, 719, 721, 723, 725, 727, 729, 731, 733, 735, 737] (by decide +kernel)
set_option maxRecDepth 20000 in
theorem en_u6 : ∀ w ∈ u_ws RX5 TX5 4, w ∈ lw_tbl := en_in _ [176, 178, 180, 182] (by decide +kernel)
set_option maxRecDepth 20000 in
theorem en_u7 : ∀ w ∈ u_ws RX6 TX6 11, w ∈ lw_tbl := en_in _ [854, 856, 858, 860, 862, 864, 866, 868, 870, 872, 874] (by decide +kernel)
set_option maxRecDepth 20000 in
theorem en_u8 : ∀ w ∈ u_ws RX7 TX7 5, w ∈ lw_tbl := en_in _ [114, 116, 118, 120, 122] (by decide +kernel)
set_option maxRecDepth 20000 in
theorem en_u9 : ∀ w ∈ u_ws RX8 TX8 3, w ∈ lw_tbl := en_in _ [240, 242, 244] (by decide +kernel)
set_option maxRecDepth 20000 in
theorem en_u10 : ∀ w ∈ u_ws RX9 TX9 14, w ∈ lw_tbl := en_in _ [261, 263, 265, 267, 269, 271, 273, 275, 277, 279, 281, 283, 285, 287] (by decide +kernel)
set_option maxRecDepth 20000 in
theorem en_u11 : ∀ w ∈ u_ws RX10 TX10 69, w ∈ lw_tbl := en_in _ [1317, 1319, 1321, 1323, 1325, 1327, 1329, 1331, 1333, 1335, 1337, 1339, 1341, 1343, 1345, 1347, 1349, 1351, 1353, 1355, 1357, 1359, 1361, 1363, 1365, 1367, 1369, 1371, 1373, 1375, 1377, 1379, 1381, 1383, 1385, 1387, 1389, 1391, 1393, 1395, 1397, 1399, 1401, 1403, 1405, 1407, 1409, 1411, 1413, 1415, 1417, 1419, 1421, 1423, 1425, 1427, 1429, 1431, 1433, 1435, 1437, 1439, 1441, 1443, 1445, 1447, 1449, 1451, 1453] (by decide +kernel)
set_option maxRecDepth 20000 in
theorem en_nf : ∀ w ∈ kNf.map (fun q => Cond.fieldLinkNest q.1 q.2.1 q.2.2.1 q.2.2.2.1 q.2.2.2.2 "SwarmLine"), w ∈ lw_tbl := en_in _ [109, 111, 132, 134, 135, 137, 139, 141, 142, 144, 169, 171, 173, 175, 239, 595, 597, 601, 602, 700, 705, 707, 710, 712, 714, 836, 838, 839, 841, 842, 844, 848, 851, 853, 1028, 1030, 1033, 1035, 1037, 1039, 1043, 1045] (by decide +kernel)
set_option maxRecDepth 20000 in
theorem en_nm : ∀ w ∈ kNm.map (fun q => Cond.methodLinkNest q.1 q.2.1 q.2.2 "SwarmLine"), w ∈ lw_tbl := en_in _ [103, 128, 188, 230, 391, 398, 446, 980, 1020, 1105, 1169, 1170] (by decide +kernel)
set_option maxRecDepth 20000 in
theorem en_nc : ∀ w ∈ kNc.map (fun q => Cond.castable q.1 q.2), w ∈ lw_tbl := en_in _ [1701, 1702, 1703, 1704, 449, 522, 538, 575, 1186] (by decide +kernel)
set_option maxRecDepth 20000 in
theorem en_nd : ∀ w ∈ kNd.map (fun q => Cond.declares q), w ∈ lw_tbl := en_in _ [451, 453, 455] (by decide +kernel)
set_option maxRecDepth 20000 in
theorem en_st : ∀ w ∈ kStr.map (fun q => Cond.stringRef q.1 q.2.1 q.2.2), w ∈ lw_tbl := en_in _ [490, 529, 545, 559, 572, 582, 690, 691, 751, 752, 760, 787, 914, 982, 987, 992, 997, 1010, 1011, 1021, 1096, 1098, 1127, 797, 1164, 1179, 1193, 1212, 1226, 1240] (by decide +kernel)
def en_one : List Cond := [.instantiable RJx4a65c 3, .instantiable RX0 3, .instantiable RX1 11, .instantiable RX2 6, .instantiable RX3 7, .instantiable RX4 12, .instantiable RX5 4, .instantiable RX6 11, .instantiable RX7 5, .instantiable RX8 3, .instantiable RX9 14, .instantiable RX10 69, .arrayClass .int, .arrayClass .boolean, .arrayClass .byte, .arrayClass .long, .arrayOver (.object "java/lang/Object"), .arrayOver (.array .int), .laysStatic "java/util/ArrayList" "DEFAULTCAPACITY_EMPTY_ELEMENTDATA" "[Ljava/lang/Object;", .laysStatic "java/lang/Throwable" "UNASSIGNED_STACK" "[Ljava/lang/StackTraceElement;", .laysStatic "java/lang/Throwable" "SUPPRESSED_SENTINEL" "Ljava/util/List;", .laysStatic "java/lang/String" "COMPACT_STRINGS" "Z", .laysStatic "jdk/internal/util/Preconditions" "SIOOBE_FORMATTER" "Ljava/util/function/BiFunction;", .initialized "java/util/ArrayList", .initialized "java/lang/Throwable", .initialized "java/lang/String", .initialized "jdk/internal/util/Preconditions", .initialized "SwarmLine", .initialized "SwarmLineModel", .declares ⟨"java/lang/Object", "getClass", "()Ljava/lang/Class;"⟩, .classLink RL 8 RX9, .classLink RL 72 RX10, .methodLink RL 71 yX9_init, .methodLink RL 74 yX10_init, .instanceMethod yX9_init, .instanceMethod yX10_init]
set_option maxRecDepth 20000 in
theorem en_ones : ∀ w ∈ en_one, w ∈ lw_tbl := en_in _ [203, 187, 1022, 127, 589, 692, 160, 824, 102, 229, 94, 1243, 185, 1456, 125, 1687, 672, 235, 215, 474, 476, 928, 944, 69, 72, 87, 85, 61, 71, 1710, 93, 1242, 95, 1244, 96, 1245] (by decide +kernel)
abbrev en_fl : List Cond := flatC (Jvm.Cond.and given_1 narrow_1)
def en_tm (i : Nat) : Term := match kStr[i]? with
  | some q => .string q.1 q.2.1
  | none => .arg 0
def en_va (i : Nat) : Term := .field (en_tm i) "java/lang/String" "value" "[B"
def en_sws (i : Nat) : List Cond := [.exactly (en_tm i) "java/lang/String", .eq (.field (en_tm i) "java/lang/String" "coder" "B") (.int 0), .arrayOf (en_va i) .byte, .eq (.length (en_va i)) (.int (Int32.ofNat (kLen.getD i 0)))] ++ (List.range (kLen.getD i 0)).map (fun j => .eq (.elem (en_va i) (.int (Int32.ofNat j))) (.int ((kByt.getD i []).getD j 0)))
set_option maxRecDepth 20000 in
theorem en_s0 : ∀ w ∈ en_sws 0, w ∈ en_fl := en_in _ [96, 97, 98, 99, 100, 101, 102, 103, 104, 105, 106, 107, 108, 109, 110] (by decide +kernel)
set_option maxRecDepth 20000 in
theorem en_s1 : ∀ w ∈ en_sws 1, w ∈ en_fl := en_in _ [111, 112, 113, 114, 115, 116, 117, 118, 119, 120, 121, 122, 123, 124, 125, 126, 127, 128, 129, 130, 131, 132, 133, 134, 135] (by decide +kernel)
set_option maxRecDepth 20000 in
theorem en_s2 : ∀ w ∈ en_sws 2, w ∈ en_fl := en_in _ [136, 137, 138, 139, 140, 141, 142, 143, 144, 145, 146, 147, 148, 149, 150, 151, 152, 153, 154, 155, 156] (by decide +kernel)
set_option maxRecDepth 20000 in
theorem en_s3 : ∀ w ∈ en_sws 3, w ∈ en_fl := en_in _ [157, 158, 159, 160, 161, 162, 163, 164, 165, 166, 167, 168, 169, 170, 171, 172, 173, 174, 175, 176, 177, 178, 179, 180, 181] (by decide +kernel)
set_option maxRecDepth 20000 in
theorem en_s4 : ∀ w ∈ en_sws 4, w ∈ en_fl := en_in _ [182, 183, 184, 185, 186, 187, 188, 189, 190, 191, 192, 193, 194, 195, 196, 197, 198, 199, 200, 201, 202, 203, 204] (by decide +kernel)
set_option maxRecDepth 20000 in
theorem en_s5 : ∀ w ∈ en_sws 5, w ∈ en_fl := en_in _ [205, 206, 207, 208, 209, 210, 211, 212, 213, 214, 215, 216, 217, 218, 219, 220, 221, 222] (by decide +kernel)
set_option maxRecDepth 20000 in
theorem en_s6 : ∀ w ∈ en_sws 6, w ∈ en_fl := en_in _ [223, 224, 225, 226, 227, 228, 229, 230, 231, 232, 233, 234, 235, 236, 237, 238, 239, 240, 241, 242, 243, 244, 245, 246, 247] (by decide +kernel)
set_option maxRecDepth 20000 in
theorem en_s7 : ∀ w ∈ en_sws 7, w ∈ en_fl := en_in _ [248, 249, 250, 251, 252, 253, 254, 255, 256, 257, 258, 259, 260, 261, 262, 263, 264, 265, 266, 267] (by decide +kernel)
set_option maxRecDepth 20000 in
theorem en_s8 : ∀ w ∈ en_sws 8, w ∈ en_fl := en_in _ [268, 269, 270, 271, 272, 273, 274, 275, 276, 277, 278, 279, 280, 281, 282, 283, 284, 285] (by decide +kernel)
set_option maxRecDepth 20000 in
theorem en_s9 : ∀ w ∈ en_sws 9, w ∈ en_fl := en_in _ [286, 287, 288, 289, 290, 291, 292, 293, 294, 295, 296, 297, 298, 299, 300, 301, 302, 303, 304, 305, 306, 307, 308, 309, 310, 311, 312] (by decide +kernel)
set_option maxRecDepth 20000 in
theorem en_s10 : ∀ w ∈ en_sws 10, w ∈ en_fl := en_in _ [313, 314, 315, 316, 317, 318, 319, 320, 321, 322, 323, 324, 325, 326, 327, 328, 329, 330, 331, 332, 333, 334, 335, 336, 337, 338, 339] (by decide +kernel)
set_option maxRecDepth 20000 in
theorem en_s11 : ∀ w ∈ en_sws 11, w ∈ en_fl := en_in _ [340, 341, 342, 343, 344, 345, 346, 347, 348, 349, 350, 351, 352, 353, 354, 355] (by decide +kernel)
set_option maxRecDepth 20000 in
theorem en_s12 : ∀ w ∈ en_sws 12, w ∈ en_fl := en_in _ [373, 374, 375, 376, 377, 378] (by decide +kernel)
set_option maxRecDepth 20000 in
theorem en_s13 : ∀ w ∈ en_sws 13, w ∈ en_fl := en_in _ [379, 380, 381, 382, 383, 384, 385, 386] (by decide +kernel)
set_option maxRecDepth 20000 in
theorem en_s14 : ∀ w ∈ en_sws 14, w ∈ en_fl := en_in _ [387, 388, 389, 390, 391, 392, 393, 394, 395] (by decide +kernel)
set_option maxRecDepth 20000 in
theorem en_s15 : ∀ w ∈ en_sws 15, w ∈ en_fl := en_in _ [396, 397, 398, 399, 400, 401, 402, 403] (by decide +kernel)
set_option maxRecDepth 20000 in
theorem en_s16 : ∀ w ∈ en_sws 16, w ∈ en_fl := en_in _ [404, 405, 406, 407, 408, 409, 410, 411, 412] (by decide +kernel)
set_option maxRecDepth 20000 in
theorem en_s17 : ∀ w ∈ en_sws 17, w ∈ en_fl := en_in _ [413, 414, 415, 416, 417, 418, 419, 420, 421, 422, 423, 424, 425, 426, 427, 428, 429, 430, 431, 432, 433] (by decide +kernel)
set_option maxRecDepth 20000 in
theorem en_s18 : ∀ w ∈ en_sws 18, w ∈ en_fl := en_in _ [434, 435, 436, 437, 438, 439, 440, 441, 442, 443, 444, 445, 446, 447, 448, 449, 450, 451] (by decide +kernel)
set_option maxRecDepth 20000 in
theorem en_s19 : ∀ w ∈ en_sws 19, w ∈ en_fl := en_in _ [452, 453, 454, 455, 456, 457, 458, 459, 460, 461, 462, 463, 464, 465, 466, 467, 468, 469] (by decide +kernel)
set_option maxRecDepth 20000 in
theorem en_s20 : ∀ w ∈ en_sws 20, w ∈ en_fl := en_in _ [470, 471, 472, 473, 474, 475, 476, 477] (by decide +kernel)
set_option maxRecDepth 20000 in
theorem en_s21 : ∀ w ∈ en_sws 21, w ∈ en_fl := en_in _ [478, 479, 480, 481, 482, 483] (by decide +kernel)
set_option maxRecDepth 20000 in
theorem en_s22 : ∀ w ∈ en_sws 22, w ∈ en_fl := en_in _ [484, 485, 486, 487, 488, 489, 490, 491, 492, 493, 494, 495, 496, 497, 498, 499, 500, 501, 502, 503, 504, 505, 506, 507] (by decide +kernel)
set_option maxRecDepth 20000 in
theorem en_s23 : ∀ w ∈ en_sws 23, w ∈ en_fl := en_in _ [356, 357, 358, 359, 360, 361, 362, 363, 364, 365, 366, 367, 368, 369, 370, 371, 372] (by decide +kernel)
set_option maxRecDepth 20000 in
theorem en_s24 : ∀ w ∈ en_sws 24, w ∈ en_fl := en_in _ [508, 509, 510, 511, 512, 513, 514, 515, 516, 517, 518, 519, 520, 521, 522, 523, 524, 525, 526, 527, 528, 529, 530, 531] (by decide +kernel)
set_option maxRecDepth 20000 in
theorem en_s25 : ∀ w ∈ en_sws 25, w ∈ en_fl := en_in _ [532, 533, 534, 535, 536, 537, 538, 539, 540, 541, 542, 543, 544, 545, 546, 547] (by decide +kernel)
set_option maxRecDepth 20000 in
theorem en_s26 : ∀ w ∈ en_sws 26, w ∈ en_fl := en_in _ [548, 549, 550, 551, 552, 553, 554, 555, 556, 557, 558, 559, 560, 561, 562, 563, 564, 565, 566, 567, 568, 569, 570, 571, 572, 573, 574, 575, 576, 577, 578, 579, 580, 581] (by decide +kernel)
set_option maxRecDepth 20000 in
theorem en_s27 : ∀ w ∈ en_sws 27, w ∈ en_fl := en_in _ [582, 583, 584, 585, 586, 587, 588, 589, 590, 591, 592, 593, 594, 595, 596, 597, 598, 599, 600, 601, 602, 603, 604, 605, 606, 607, 608, 609, 610, 611, 612, 613, 614, 615, 616] (by decide +kernel)
set_option maxRecDepth 20000 in
theorem en_s28 : ∀ w ∈ en_sws 28, w ∈ en_fl := en_in _ [617, 618, 619, 620, 621, 622, 623, 624, 625, 626, 627, 628, 629, 630, 631, 632, 633, 634, 635, 636, 637, 638, 639, 640, 641, 642, 643, 644, 645, 646, 647, 648, 649, 650, 651, 652] (by decide +kernel)
set_option maxRecDepth 20000 in
theorem en_s29 : ∀ w ∈ en_sws 29, w ∈ en_fl := en_in _ [653, 654, 655, 656, 657, 658, 659, 660, 661, 662, 663, 664, 665, 666, 667, 668, 669, 670, 671, 672, 673, 674, 675, 676, 677, 678, 679, 680, 681, 682, 683, 684, 685, 686] (by decide +kernel)
theorem en_sw (i : Nat) (hi : i < 30) : ∀ w ∈ en_sws i, w ∈ en_fl := match i, hi with
  | 0, _ => en_s0
  | 1, _ => en_s1
  | 2, _ => en_s2
  | 3, _ => en_s3
  | 4, _ => en_s4
  | 5, _ => en_s5
  | 6, _ => en_s6
  | 7, _ => en_s7
  | 8, _ => en_s8
  | 9, _ => en_s9
  | 10, _ => en_s10
  | 11, _ => en_s11
  | 12, _ => en_s12
  | 13, _ => en_s13
  | 14, _ => en_s14
  | 15, _ => en_s15
  | 16, _ => en_s16
  | 17, _ => en_s17
  | 18, _ => en_s18
  | 19, _ => en_s19
  | 20, _ => en_s20
  | 21, _ => en_s21
  | 22, _ => en_s22
  | 23, _ => en_s23
  | 24, _ => en_s24
  | 25, _ => en_s25
  | 26, _ => en_s26
  | 27, _ => en_s27
  | 28, _ => en_s28
  | 29, _ => en_s29
  | n + 30, h => absurd h (by omega)
def en_two : List Cond := [.isRef (.static "java/util/ArrayList" "DEFAULTCAPACITY_EMPTY_ELEMENTDATA" "[Ljava/lang/Object;"), .arrayOf (.static "java/util/ArrayList" "DEFAULTCAPACITY_EMPTY_ELEMENTDATA" "[Ljava/lang/Object;") (.object "java/lang/Object"), .eq (.length (.static "java/util/ArrayList" "DEFAULTCAPACITY_EMPTY_ELEMENTDATA" "[Ljava/lang/Object;")) (.int 0), .isRef (.static "java/lang/Throwable" "UNASSIGNED_STACK" "[Ljava/lang/StackTraceElement;"), .isRef (.static "java/lang/Throwable" "SUPPRESSED_SENTINEL" "Ljava/util/List;"), .isRef (.static "jdk/internal/util/Preconditions" "SIOOBE_FORMATTER" "Ljava/util/function/BiFunction;"), .eq (.static "java/lang/String" "COMPACT_STRINGS" "Z") (.int 1), .isRef (.mirror "[Ljava/lang/Object;")]
set_option maxRecDepth 20000 in
theorem en_twos : ∀ w ∈ en_two, w ∈ en_fl := en_in _ [4, 5, 7, 8, 9, 11, 10, 95] (by decide +kernel)
def en_cs : List (String × String) := [("java/lang/IndexOutOfBoundsException", "java/lang/IllegalArgumentException"), ("java/lang/IndexOutOfBoundsException", "java/lang/IllegalStateException"), ("java/lang/IndexOutOfBoundsException", "java/lang/UnsupportedOperationException"), ("java/lang/IndexOutOfBoundsException", "java/util/NoSuchElementException"), ("java/lang/IllegalArgumentException", "java/lang/IndexOutOfBoundsException"), ("java/lang/IllegalArgumentException", "java/lang/IllegalStateException"), ("java/lang/IllegalArgumentException", "java/lang/UnsupportedOperationException"), ("java/lang/IllegalArgumentException", "java/util/NoSuchElementException"), ("java/lang/IllegalStateException", "java/lang/IndexOutOfBoundsException"), ("java/lang/IllegalStateException", "java/lang/IllegalArgumentException"), ("java/lang/IllegalStateException", "java/lang/UnsupportedOperationException"), ("java/lang/IllegalStateException", "java/util/NoSuchElementException"), ("java/lang/UnsupportedOperationException", "java/lang/IndexOutOfBoundsException"), ("java/lang/UnsupportedOperationException", "java/lang/IllegalArgumentException"), ("java/lang/UnsupportedOperationException", "java/lang/IllegalStateException"), ("java/lang/UnsupportedOperationException", "java/util/NoSuchElementException"), ("java/util/NoSuchElementException", "java/lang/IndexOutOfBoundsException"), ("java/util/NoSuchElementException", "java/lang/IllegalArgumentException"), ("java/util/NoSuchElementException", "java/lang/IllegalStateException"), ("java/util/NoSuchElementException", "java/lang/UnsupportedOperationException")]
set_option maxRecDepth 20000 in
theorem en_css : ∀ w ∈ en_cs.map (fun q => Cond.not (.castable q.1 q.2)), w ∈ en_fl := en_in _ [39, 55, 71, 87, 23, 56, 72, 88, 24, 40, 73, 89, 25, 41, 57, 90, 30, 46, 62, 78] (by decide +kernel)
