theorem dX9_rota_24 : decode cX9_rota 24 = .ok (.iload_n 1, 1) := by decide +kernel
theorem dX9_rota_25 : decode cX9_rota 25 = .ok (.ifCond .ne 13, 3) := by decide +kernel
theorem dX9_rota_28 : decode cX9_rota 28 = .ok (.new 108, 3) := by decide +kernel
theorem dX9_rota_31 : decode cX9_rota 31 = .ok (.dup, 1) := by decide +kernel
theorem dX9_rota_32 : decode cX9_rota 32 = .ok (.ldc 200, 2) := by decide +kernel
theorem dX9_rota_34 : decode cX9_rota 34 = .ok (.invokespecial 112, 3) := by decide +kernel
theorem dX9_rota_37 : decode cX9_rota 37 = .ok (.athrow, 1) := by decide +kernel
theorem dX9_rota_38 : decode cX9_rota 38 = .ok (.aload_n 0, 1) := by decide +kernel
theorem dX9_rota_39 : decode cX9_rota 39 = .ok (.getfield 60, 3) := by decide +kernel
theorem dX9_rota_42 : decode cX9_rota 42 = .ok (.astore_n 2, 1) := by decide +kernel
theorem dX9_rota_43 : decode cX9_rota 43 = .ok (.aload_n 0, 1) := by decide +kernel
theorem dX9_rota_44 : decode cX9_rota 44 = .ok (.aload_n 0, 1) := by decide +kernel
theorem dX9_rota_45 : decode cX9_rota 45 = .ok (.getfield 64, 3) := by decide +kernel
theorem dX9_rota_48 : decode cX9_rota 48 = .ok (.putfield 60, 3) := by decide +kernel
theorem dX9_rota_51 : decode cX9_rota 51 = .ok (.aload_n 0, 1) := by decide +kernel
theorem dX9_rota_52 : decode cX9_rota 52 = .ok (.aload_n 2, 1) := by decide +kernel
theorem dX9_rota_53 : decode cX9_rota 53 = .ok (.putfield 64, 3) := by decide +kernel
theorem dX9_rota_56 : decode cX9_rota 56 = .ok (.aload_n 0, 1) := by decide +kernel
theorem dX9_rota_57 : decode cX9_rota 57 = .ok (.getfield 60, 3) := by decide +kernel
theorem dX9_rota_60 : decode cX9_rota 60 = .ok (.getfield 229, 3) := by decide +kernel
theorem dX9_rota_63 : decode cX9_rota 63 = .ok (.ireturn, 1) := by decide +kernel
theorem dX9_fault_0 : decode cX9_fault 0 = .ok (.aload_n 0, 1) := by decide +kernel
theorem dX9_fault_1 : decode cX9_fault 1 = .ok (.getfield 74, 3) := by decide +kernel
theorem dX9_fault_4 : decode cX9_fault 4 = .ok (.ireturn, 1) := by decide +kernel
set_option maxRecDepth 20000 in
theorem ggX9_send_X9_caseNumbered : GoodIn wsX9_send wsX9_caseNumbered := goodIn_ca (goodIn_r _ [9, 10, 11, 12, 13, 14, 15, 16, 17, 18, 19, 20, 21, 22, 23, 24, 25, 26, 27, 28, 29, 30, 31, 32, 33, 34, 35, 36, 123, 124, 125, 126, 127, 128, 129, 130, 131, 132, 133, 134, 135, 136, 137, 138, 139] (by decide +kernel) (by decide +kernel)) (goodIn_sub (fun _ h => List.mem_cons_of_mem _ (List.mem_append_right _ h)) (by decide +kernel))
set_option maxRecDepth 20000 in
theorem gX9_send_X9_caseNumbered : GoodIn wsX9_send (wsV RX9 220 RX9 yX9_caseNumbered wsX9_caseNumbered) := goodIn_app (goodIn_of _ (by decide +kernel)) ggX9_send_X9_caseNumbered
set_option maxRecDepth 20000 in
theorem ggX9_send_X0_clear : GoodIn wsX9_send wsX0_clear := goodIn_r _ [41, 42, 140, 141, 142] (by decide +kernel) (by decide +kernel)
set_option maxRecDepth 20000 in
theorem gX9_send_X0_clear : GoodIn wsX9_send (wsV RX9 237 RX0 yX0_clear wsX0_clear) := goodIn_app (goodIn_of _ (by decide +kernel)) ggX9_send_X0_clear
set_option maxRecDepth 20000 in
theorem ggX9_send_X9_districtOf : GoodIn wsX9_send wsX9_districtOf := goodIn_r _ [45] (by decide +kernel) (by decide +kernel)
set_option maxRecDepth 20000 in
theorem gX9_send_X9_districtOf : GoodIn wsX9_send (va_wsS RX9 242 yX9_districtOf wsX9_districtOf) := goodIn_app (goodIn_of _ (by decide +kernel)) ggX9_send_X9_districtOf
set_option maxRecDepth 20000 in
theorem ggX9_send_X8_lineFor : GoodIn wsX9_send wsX8_lineFor := goodIn_r _ [50, 51, 52, 53, 49, 54, 55, 56, 8, 57, 143, 144, 145] (by decide +kernel) (by decide +kernel)
set_option maxRecDepth 20000 in
theorem gX9_send_X8_lineFor : GoodIn wsX9_send (wsV RX9 245 RX8 yX8_lineFor wsX8_lineFor) := goodIn_app (goodIn_of _ (by decide +kernel)) ggX9_send_X8_lineFor
set_option maxRecDepth 20000 in
theorem ggX9_send_X8_sizeOf : GoodIn wsX9_send wsX8_sizeOf := goodIn_r _ [54, 55, 56, 8, 57, 143, 144, 145] (by decide +kernel) (by decide +kernel)
set_option maxRecDepth 20000 in
theorem gX9_send_X8_sizeOf : GoodIn wsX9_send (wsV RX9 249 RX8 yX8_sizeOf wsX8_sizeOf) := goodIn_app (goodIn_of _ (by decide +kernel)) ggX9_send_X8_sizeOf
set_option maxRecDepth 20000 in
theorem ggX9_send_X8_keeperAt : GoodIn wsX9_send wsX8_keeperAt := goodIn_r _ [62, 63, 51, 52, 53, 49, 54, 55, 56, 8, 57, 143, 144, 145] (by decide +kernel) (by decide +kernel)
set_option maxRecDepth 20000 in
theorem gX9_send_X8_keeperAt : GoodIn wsX9_send (wsV RX9 252 RX8 yX8_keeperAt wsX8_keeperAt) := goodIn_app (goodIn_of _ (by decide +kernel)) ggX9_send_X8_keeperAt
set_option maxRecDepth 20000 in
theorem ggX9_send_X9_keeperNumbered : GoodIn wsX9_send wsX9_keeperNumbered := goodIn_ca (goodIn_r _ [67, 10, 11, 68, 69, 14, 15, 16, 17, 18, 19, 20, 21, 22, 23, 24, 25, 26, 27, 28, 29, 30, 31, 32, 33, 34, 35, 36, 123, 124, 125, 126, 127, 128, 129, 130, 131, 132, 133, 134, 135, 136, 137, 138, 139] (by decide +kernel) (by decide +kernel)) (goodIn_sub (fun _ h => List.mem_cons_of_mem _ (List.mem_append_right _ h)) (by decide +kernel))
set_option maxRecDepth 20000 in
theorem gX9_send_X9_keeperNumbered : GoodIn wsX9_send (wsV RX9 172 RX9 yX9_keeperNumbered wsX9_keeperNumbered) := goodIn_app (goodIn_of _ (by decide +kernel)) ggX9_send_X9_keeperNumbered
set_option maxRecDepth 20000 in
theorem ggX9_send_X9_whatIsAgainst : GoodIn wsX9_send wsX9_whatIsAgainst := goodIn_r _ [73, 74, 75, 76, 77, 78, 79, 80, 81, 56, 8, 57, 123, 124, 125, 126, 127, 128, 129, 130, 131, 132, 133, 134, 135, 136, 146, 147, 148, 149, 150, 151, 152, 153, 154, 155, 156, 157, 112, 113, 114, 115, 116, 117, 118, 119, 120, 121, 122] (by decide +kernel) (by decide +kernel)
set_option maxRecDepth 20000 in
theorem gX9_send_X9_whatIsAgainst : GoodIn wsX9_send (wsV RX9 255 RX9 yX9_whatIsAgainst wsX9_whatIsAgainst) := goodIn_app (goodIn_of _ (by decide +kernel)) ggX9_send_X9_whatIsAgainst
set_option maxRecDepth 20000 in
theorem ggX9_send_X0_add : GoodIn wsX9_send wsX0_add := goodIn_r _ [85, 42, 86, 87, 140, 141, 142] (by decide +kernel) (by decide +kernel)
set_option maxRecDepth 20000 in
theorem gX9_send_X0_add : GoodIn wsX9_send (wsV RX9 259 RX0 yX0_add wsX0_add) := goodIn_app (goodIn_of _ (by decide +kernel)) ggX9_send_X0_add
set_option maxRecDepth 20000 in
theorem ggX9_send_X4_setOut : GoodIn wsX9_send wsX4_setOut := goodIn_r _ [91, 92, 93, 94, 95, 96, 97, 98, 78, 99, 100, 101, 102, 103, 8, 104, 105, 106, 107, 108, 109, 110, 111, 146, 147, 148, 149, 150, 151, 152, 153, 154, 155, 156, 157] (by decide +kernel) (by decide +kernel)
set_option maxRecDepth 20000 in
theorem gX9_send_X4_setOut : GoodIn wsX9_send (wsV RX9 261 RX4 yX4_setOut wsX4_setOut) := goodIn_app (goodIn_of _ (by decide +kernel)) ggX9_send_X4_setOut
theorem dX9_send_0 : decode cX9_send 0 = .ok (.aload_n 0, 1) := by decide +kernel
theorem dX9_send_1 : decode cX9_send 1 = .ok (.iload_n 1, 1) := by decide +kernel
theorem dX9_send_2 : decode cX9_send 2 = .ok (.invokevirtual 220, 3) := by decide +kernel
theorem dX9_send_5 : decode cX9_send 5 = .ok (.astore_n 2, 1) := by decide +kernel
theorem dX9_send_6 : decode cX9_send 6 = .ok (.aload_n 2, 1) := by decide +kernel
theorem dX9_send_7 : decode cX9_send 7 = .ok (.getfield 232, 3) := by decide +kernel
theorem dX9_send_10 : decode cX9_send 10 = .ok (.ifCond .eq 13, 3) := by decide +kernel
theorem dX9_send_13 : decode cX9_send 13 = .ok (.new 117, 3) := by decide +kernel
theorem dX9_send_16 : decode cX9_send 16 = .ok (.dup, 1) := by decide +kernel
theorem dX9_send_17 : decode cX9_send 17 = .ok (.ldc 235, 2) := by decide +kernel
theorem dX9_send_19 : decode cX9_send 19 = .ok (.invokespecial 121, 3) := by decide +kernel
theorem dX9_send_22 : decode cX9_send 22 = .ok (.athrow, 1) := by decide +kernel
theorem dX9_send_23 : decode cX9_send 23 = .ok (.aload_n 0, 1) := by decide +kernel
theorem dX9_send_24 : decode cX9_send 24 = .ok (.getfield 33, 3) := by decide +kernel
theorem dX9_send_27 : decode cX9_send 27 = .ok (.invokevirtual 237, 3) := by decide +kernel
theorem dX9_send_30 : decode cX9_send 30 = .ok (.aload_n 0, 1) := by decide +kernel
theorem dX9_send_31 : decode cX9_send 31 = .ok (.getfield 60, 3) := by decide +kernel
theorem dX9_send_34 : decode cX9_send 34 = .ok (.aload_n 2, 1) := by decide +kernel
theorem dX9_send_35 : decode cX9_send 35 = .ok (.getfield 240, 3) := by decide +kernel
theorem dX9_send_38 : decode cX9_send 38 = .ok (.aload_n 2, 1) := by decide +kernel
theorem dX9_send_39 : decode cX9_send 39 = .ok (.getfield 241, 3) := by decide +kernel
theorem dX9_send_42 : decode cX9_send 42 = .ok (.invokestatic 242, 3) := by decide +kernel
theorem dX9_send_45 : decode cX9_send 45 = .ok (.invokevirtual 245, 3) := by decide +kernel
theorem dX9_send_48 : decode cX9_send 48 = .ok (.istore_n 3, 1) := by decide +kernel
theorem dX9_send_49 : decode cX9_send 49 = .ok (.iconst 0, 1) := by decide +kernel
theorem dX9_send_50 : decode cX9_send 50 = .ok (.istore 4, 2) := by decide +kernel
theorem dX9_send_52 : decode cX9_send 52 = .ok (.iload 4, 2) := by decide +kernel
theorem dX9_send_54 : decode cX9_send 54 = .ok (.aload_n 0, 1) := by decide +kernel
theorem dX9_send_55 : decode cX9_send 55 = .ok (.getfield 60, 3) := by decide +kernel
theorem dX9_send_58 : decode cX9_send 58 = .ok (.iload_n 3, 1) := by decide +kernel
theorem dX9_send_59 : decode cX9_send 59 = .ok (.invokevirtual 249, 3) := by decide +kernel
theorem dX9_send_62 : decode cX9_send 62 = .ok (.if_icmp .ge 82, 3) := by decide +kernel
theorem dX9_send_65 : decode cX9_send 65 = .ok (.aload_n 0, 1) := by decide +kernel
theorem dX9_send_66 : decode cX9_send 66 = .ok (.getfield 60, 3) := by decide +kernel
theorem dX9_send_69 : decode cX9_send 69 = .ok (.iload_n 3, 1) := by decide +kernel
theorem dX9_send_70 : decode cX9_send 70 = .ok (.iload 4, 2) := by decide +kernel
theorem dX9_send_72 : decode cX9_send 72 = .ok (.invokevirtual 252, 3) := by decide +kernel
theorem dX9_send_75 : decode cX9_send 75 = .ok (.istore 5, 2) := by decide +kernel
theorem dX9_send_77 : decode cX9_send 77 = .ok (.aload_n 0, 1) := by decide +kernel
theorem dX9_send_78 : decode cX9_send 78 = .ok (.iload 5, 2) := by decide +kernel
theorem dX9_send_80 : decode cX9_send 80 = .ok (.invokevirtual 172, 3) := by decide +kernel
theorem dX9_send_83 : decode cX9_send 83 = .ok (.astore 6, 2) := by decide +kernel
theorem dX9_send_85 : decode cX9_send 85 = .ok (.aload_n 0, 1) := by decide +kernel
theorem dX9_send_86 : decode cX9_send 86 = .ok (.aload 6, 2) := by decide +kernel
theorem dX9_send_88 : decode cX9_send 88 = .ok (.aload_n 2, 1) := by decide +kernel
theorem dX9_send_89 : decode cX9_send 89 = .ok (.invokevirtual 255, 3) := by decide +kernel
theorem dX9_send_92 : decode cX9_send 92 = .ok (.istore 7, 2) := by decide +kernel
theorem dX9_send_94 : decode cX9_send 94 = .ok (.aload_n 0, 1) := by decide +kernel
theorem dX9_send_95 : decode cX9_send 95 = .ok (.getfield 33, 3) := by decide +kernel
theorem dX9_send_98 : decode cX9_send 98 = .ok (.iload 5, 2) := by decide +kernel
theorem dX9_send_100 : decode cX9_send 100 = .ok (.iload 7, 2) := by decide +kernel
theorem dX9_send_102 : decode cX9_send 102 = .ok (.invokevirtual 259, 3) := by decide +kernel
theorem dX9_send_105 : decode cX9_send 105 = .ok (.iload 7, 2) := by decide +kernel
theorem dX9_send_107 : decode cX9_send 107 = .ok (.ifCond .ne 31, 3) := by decide +kernel
theorem dX9_send_110 : decode cX9_send 110 = .ok (.aload 6, 2) := by decide +kernel
theorem dX9_send_112 : decode cX9_send 112 = .ok (.iload_n 1, 1) := by decide +kernel
theorem dX9_send_113 : decode cX9_send 113 = .ok (.aload_n 2, 1) := by decide +kernel
theorem dX9_send_114 : decode cX9_send 114 = .ok (.getfield 240, 3) := by decide +kernel
theorem dX9_send_117 : decode cX9_send 117 = .ok (.aload_n 2, 1) := by decide +kernel
theorem dX9_send_118 : decode cX9_send 118 = .ok (.getfield 241, 3) := by decide +kernel
theorem dX9_send_121 : decode cX9_send 121 = .ok (.invokevirtual 261, 3) := by decide +kernel
theorem dX9_send_124 : decode cX9_send 124 = .ok (.aload_n 2, 1) := by decide +kernel
theorem dX9_send_125 : decode cX9_send 125 = .ok (.iconst 1, 1) := by decide +kernel
theorem dX9_send_126 : decode cX9_send 126 = .ok (.putfield 232, 3) := by decide +kernel
theorem dX9_send_129 : decode cX9_send 129 = .ok (.aload_n 2, 1) := by decide +kernel
theorem dX9_send_130 : decode cX9_send 130 = .ok (.iload 5, 2) := by decide +kernel
theorem dX9_send_132 : decode cX9_send 132 = .ok (.putfield 265, 3) := by decide +kernel
theorem dX9_send_135 : decode cX9_send 135 = .ok (.iload 5, 2) := by decide +kernel
theorem dX9_send_137 : decode cX9_send 137 = .ok (.ireturn, 1) := by decide +kernel
theorem dX9_send_138 : decode cX9_send 138 = .ok (.iinc 4 1, 3) := by decide +kernel
theorem dX9_send_141 : decode cX9_send 141 = .ok (.goto (-89), 3) := by decide +kernel
theorem dX9_send_144 : decode cX9_send 144 = .ok (.iconst (-1), 1) := by decide +kernel
theorem dX9_send_145 : decode cX9_send 145 = .ok (.ireturn, 1) := by decide +kernel
set_option maxRecDepth 20000 in
theorem ggX9_asked_X0_told : GoodIn wsX9_asked wsX0_told := goodIn_r _ [6, 7, 8, 9, 24, 25, 26] (by decide +kernel) (by decide +kernel)
set_option maxRecDepth 20000 in
theorem gX9_asked_X0_told : GoodIn wsX9_asked (wsV RX9 268 RX0 yX0_told wsX0_told) := goodIn_app (goodIn_of _ (by decide +kernel)) ggX9_asked_X0_told
theorem dX9_asked_0 : decode cX9_asked 0 = .ok (.aload_n 0, 1) := by decide +kernel
theorem dX9_asked_1 : decode cX9_asked 1 = .ok (.getfield 33, 3) := by decide +kernel
theorem dX9_asked_4 : decode cX9_asked 4 = .ok (.iload_n 1, 1) := by decide +kernel
theorem dX9_asked_5 : decode cX9_asked 5 = .ok (.iload_n 2, 1) := by decide +kernel
theorem dX9_asked_6 : decode cX9_asked 6 = .ok (.invokevirtual 268, 3) := by decide +kernel
theorem dX9_asked_9 : decode cX9_asked 9 = .ok (.ireturn, 1) := by decide +kernel
set_option maxRecDepth 20000 in
theorem ggX9_left_X9_caseNumbered : GoodIn wsX9_left wsX9_caseNumbered := goodIn_ca (goodIn_r _ [5, 6, 7, 8, 9, 10, 11, 12, 13, 14, 15, 16, 17, 18, 19, 20, 21, 22, 23, 24, 25, 26, 27, 28, 29, 30, 31, 32, 72, 73, 74, 75, 76, 77, 78, 79, 80, 81, 82, 83, 84, 85, 86, 87, 88] (by decide +kernel) (by decide +kernel)) (goodIn_sub (fun _ h => List.mem_cons_of_mem _ (List.mem_append_right _ h)) (by decide +kernel))
set_option maxRecDepth 20000 in
theorem gX9_left_X9_caseNumbered : GoodIn wsX9_left (wsV RX9 220 RX9 yX9_caseNumbered wsX9_caseNumbered) := goodIn_app (goodIn_of _ (by decide +kernel)) ggX9_left_X9_caseNumbered
set_option maxRecDepth 20000 in
theorem ggX9_left_X9_hourGone : GoodIn wsX9_left wsX9_hourGone := goodIn_r _ [36, 37, 38, 39, 40, 4, 41, 42, 43, 44, 45, 46, 47, 48, 49, 50, 51, 52, 53, 54, 55, 56, 57, 58, 59, 60, 61, 62, 63, 64, 65, 66, 67, 68, 69, 70, 71, 89, 90, 91, 92, 93, 94, 95, 96, 97, 98, 99, 72, 73, 74, 75, 76, 77, 78, 79, 80, 81, 82, 83, 84, 85, 100, 101, 102, 103] (by decide +kernel) (by decide +kernel)
set_option maxRecDepth 20000 in
theorem gX9_left_X9_hourGone : GoodIn wsX9_left (wsV RX9 271 RX9 yX9_hourGone wsX9_hourGone) := goodIn_app (goodIn_of _ (by decide +kernel)) ggX9_left_X9_hourGone
theorem dX9_left_0 : decode cX9_left 0 = .ok (.aload_n 0, 1) := by decide +kernel
theorem dX9_left_1 : decode cX9_left 1 = .ok (.aload_n 0, 1) := by decide +kernel
theorem dX9_left_2 : decode cX9_left 2 = .ok (.iload_n 1, 1) := by decide +kernel
theorem dX9_left_3 : decode cX9_left 3 = .ok (.invokevirtual 220, 3) := by decide +kernel
theorem dX9_left_6 : decode cX9_left 6 = .ok (.iload_n 2, 1) := by decide +kernel
theorem dX9_left_7 : decode cX9_left 7 = .ok (.invokevirtual 271, 3) := by decide +kernel
theorem dX9_left_10 : decode cX9_left 10 = .ok (.ireturn, 1) := by decide +kernel
set_option maxRecDepth 20000 in
theorem ggX9_most_Jx4a65c_size_8abf5 : GoodIn wsX9_most wsJx4a65c_size_8abf5 := goodIn_r _ [8, 9, 135, 136, 137] (by decide +kernel) (by decide +kernel)
set_option maxRecDepth 20000 in
theorem gX9_most_Jx4a65c_size_8abf5 : GoodIn wsX9_most (wsV RX9 143 RJx4a65c yJx4a65c_size_8abf5 wsJx4a65c_size_8abf5) := goodIn_app (goodIn_of _ (by decide +kernel)) ggX9_most_Jx4a65c_size_8abf5
set_option maxRecDepth 20000 in
theorem ggX9_most_Jx4a65c_get_915e3 : GoodIn wsX9_most wsJx4a65c_get_915e3 := goodIn_r _ [13, 9, 14, 15, 16, 17, 18, 19, 20, 21, 22, 23, 24, 7, 25, 26, 135, 136, 137] (by decide +kernel) (by decide +kernel)
set_option maxRecDepth 20000 in
theorem gX9_most_Jx4a65c_get_915e3 : GoodIn wsX9_most (wsV RX9 275 RJx4a65c yJx4a65c_get_915e3 wsJx4a65c_get_915e3) := goodIn_app (goodIn_of _ (by decide +kernel)) ggX9_most_Jx4a65c_get_915e3
set_option maxRecDepth 20000 in
theorem ggX9_most_X9_keepersWhoCouldGo : GoodIn wsX9_most wsX9_keepersWhoCouldGo := goodIn_r _ [31, 32, 33, 34, 35, 36, 37, 30, 38, 39, 40, 41, 42, 43, 44, 45, 46, 47, 48, 49, 50, 51, 52, 53, 54, 55, 56, 57, 58, 59, 60, 61, 62, 63, 64, 65, 66, 67, 68, 69, 70, 71, 72, 4, 5, 6, 7, 8, 9, 10, 11, 12, 13, 14, 15, 16, 17, 18, 19, 20, 21, 22, 23, 24, 25, 26, 73, 74, 75, 76, 77, 78, 79, 80, 81, 82, 83, 84, 85, 86, 87, 88, 89, 90, 91, 92, 93, 94, 95, 96, 97, 98, 110, 111, 112, 113, 114, 115, 116, 117, 118, 119, 120, 121, 122, 123, 124, 125, 126, 127, 128, 129, 130, 131, 132, 133, 134, 138, 139, 140, 141, 135, 136, 137, 142, 143, 144, 145, 146, 147, 148, 149, 150, 151, 152, 153] (by decide +kernel) (by decide +kernel)
set_option maxRecDepth 20000 in
theorem gX9_most_X9_keepersWhoCouldGo : GoodIn wsX9_most (wsV RX9 279 RX9 yX9_keepersWhoCouldGo wsX9_keepersWhoCouldGo) := goodIn_app (goodIn_of _ (by decide +kernel)) ggX9_most_X9_keepersWhoCouldGo
set_option maxRecDepth 20000 in
theorem ggX9_most_X9_greatestMatching : GoodIn wsX9_most wsX9_greatestMatching := goodIn_r _ [101, 102, 64, 65, 66, 103, 104, 105, 106, 107, 108, 109] (by decide +kernel) (by decide +kernel)
set_option maxRecDepth 20000 in
theorem gX9_most_X9_greatestMatching : GoodIn wsX9_most (va_wsS RX9 283 yX9_greatestMatching wsX9_greatestMatching) := goodIn_app (goodIn_of _ (by decide +kernel)) ggX9_most_X9_greatestMatching
theorem dX9_most_0 : decode cX9_most 0 = .ok (.iconst 0, 1) := by decide +kernel
theorem dX9_most_1 : decode cX9_most 1 = .ok (.istore_n 1, 1) := by decide +kernel
theorem dX9_most_2 : decode cX9_most 2 = .ok (.iconst 0, 1) := by decide +kernel
theorem dX9_most_3 : decode cX9_most 3 = .ok (.istore_n 2, 1) := by decide +kernel
theorem dX9_most_4 : decode cX9_most 4 = .ok (.iload_n 2, 1) := by decide +kernel
theorem dX9_most_5 : decode cX9_most 5 = .ok (.aload_n 0, 1) := by decide +kernel
theorem dX9_most_6 : decode cX9_most 6 = .ok (.getfield 50, 3) := by decide +kernel
theorem dX9_most_9 : decode cX9_most 9 = .ok (.invokevirtual 143, 3) := by decide +kernel
theorem dX9_most_12 : decode cX9_most 12 = .ok (.if_icmp .ge 56, 3) := by decide +kernel
theorem dX9_most_15 : decode cX9_most 15 = .ok (.iload_n 1, 1) := by decide +kernel
theorem dX9_most_16 : decode cX9_most 16 = .ok (.bipush 8, 2) := by decide +kernel
theorem dX9_most_18 : decode cX9_most 18 = .ok (.if_icmp .ge 50, 3) := by decide +kernel
theorem dX9_most_21 : decode cX9_most 21 = .ok (.aload_n 0, 1) := by decide +kernel
theorem dX9_most_22 : decode cX9_most 22 = .ok (.getfield 50, 3) := by decide +kernel
theorem dX9_most_25 : decode cX9_most 25 = .ok (.iload_n 2, 1) := by decide +kernel
theorem dX9_most_26 : decode cX9_most 26 = .ok (.invokevirtual 275, 3) := by decide +kernel
theorem dX9_most_29 : decode cX9_most 29 = .ok (.checkcast 209, 3) := by decide +kernel
theorem dX9_most_32 : decode cX9_most 32 = .ok (.getfield 232, 3) := by decide +kernel
theorem dX9_most_35 : decode cX9_most 35 = .ok (.ifCond .ne 27, 3) := by decide +kernel
theorem dX9_most_38 : decode cX9_most 38 = .ok (.aload_n 0, 1) := by decide +kernel
theorem dX9_most_39 : decode cX9_most 39 = .ok (.getfield 53, 3) := by decide +kernel
theorem dX9_most_42 : decode cX9_most 42 = .ok (.iload_n 1, 1) := by decide +kernel
theorem dX9_most_43 : decode cX9_most 43 = .ok (.aload_n 0, 1) := by decide +kernel
theorem dX9_most_44 : decode cX9_most 44 = .ok (.aload_n 0, 1) := by decide +kernel
theorem dX9_most_45 : decode cX9_most 45 = .ok (.getfield 50, 3) := by decide +kernel
theorem dX9_most_48 : decode cX9_most 48 = .ok (.iload_n 2, 1) := by decide +kernel
theorem dX9_most_49 : decode cX9_most 49 = .ok (.invokevirtual 275, 3) := by decide +kernel
theorem dX9_most_52 : decode cX9_most 52 = .ok (.checkcast 209, 3) := by decide +kernel
theorem dX9_most_55 : decode cX9_most 55 = .ok (.invokevirtual 279, 3) := by decide +kernel
theorem dX9_most_58 : decode cX9_most 58 = .ok (.iastore, 1) := by decide +kernel
theorem dX9_most_59 : decode cX9_most 59 = .ok (.iinc 1 1, 3) := by decide +kernel
theorem dX9_most_62 : decode cX9_most 62 = .ok (.iinc 2 1, 3) := by decide +kernel
theorem dX9_most_65 : decode cX9_most 65 = .ok (.goto (-61), 3) := by decide +kernel
theorem dX9_most_68 : decode cX9_most 68 = .ok (.aload_n 0, 1) := by decide +kernel
theorem dX9_most_69 : decode cX9_most 69 = .ok (.getfield 53, 3) := by decide +kernel
theorem dX9_most_72 : decode cX9_most 72 = .ok (.iload_n 1, 1) := by decide +kernel
theorem dX9_most_73 : decode cX9_most 73 = .ok (.invokestatic 283, 3) := by decide +kernel
theorem dX9_most_76 : decode cX9_most 76 = .ok (.ireturn, 1) := by decide +kernel
set_option maxRecDepth 20000 in
theorem ggX9_origin_X9_swarmNumbered : GoodIn wsX9_origin wsX9_swarmNumbered := goodIn_ca (goodIn_r _ [9, 10, 11, 12, 13, 14, 15, 16, 17, 18, 19, 20, 21, 22, 23, 24, 25, 26, 27, 28, 29, 30, 31, 32, 33, 34, 35, 36, 85, 86, 87, 88, 89, 90, 91, 92, 93, 94, 95, 96, 97, 98, 99, 100, 101] (by decide +kernel) (by decide +kernel)) (goodIn_sub (fun _ h => List.mem_cons_of_mem _ (List.mem_append_right _ h)) (by decide +kernel))
set_option maxRecDepth 20000 in
theorem gX9_origin_X9_swarmNumbered : GoodIn wsX9_origin (wsV RX9 287 RX9 yX9_swarmNumbered wsX9_swarmNumbered) := goodIn_app (goodIn_of _ (by decide +kernel)) ggX9_origin_X9_swarmNumbered
set_option maxRecDepth 20000 in
theorem ggX9_origin_X9_caseNumbered : GoodIn wsX9_origin wsX9_caseNumbered := goodIn_ca (goodIn_r _ [40, 10, 11, 41, 42, 14, 15, 16, 17, 18, 19, 20, 21, 22, 23, 24, 25, 26, 27, 28, 29, 30, 31, 32, 33, 34, 35, 36, 85, 86, 87, 88, 89, 90, 91, 92, 93, 94, 95, 96, 97, 98, 99, 100, 101] (by decide +kernel) (by decide +kernel)) (goodIn_sub (fun _ h => List.mem_cons_of_mem _ (List.mem_append_right _ h)) (by decide +kernel))
set_option maxRecDepth 20000 in
theorem gX9_origin_X9_caseNumbered : GoodIn wsX9_origin (wsV RX9 220 RX9 yX9_caseNumbered wsX9_caseNumbered) := goodIn_app (goodIn_of _ (by decide +kernel)) ggX9_origin_X9_caseNumbered
set_option maxRecDepth 20000 in
theorem ggX9_origin_Jx4a65c_size_8abf5 : GoodIn wsX9_origin wsJx4a65c_size_8abf5 := goodIn_r _ [18, 19, 99, 100, 101] (by decide +kernel) (by decide +kernel)
set_option maxRecDepth 20000 in
theorem gX9_origin_Jx4a65c_size_8abf5 : GoodIn wsX9_origin (wsV RX9 143 RJx4a65c yJx4a65c_size_8abf5 wsJx4a65c_size_8abf5) := goodIn_app (goodIn_of _ (by decide +kernel)) ggX9_origin_Jx4a65c_size_8abf5
set_option maxRecDepth 20000 in
theorem ggX9_origin_Jx4a65c_get_915e3 : GoodIn wsX9_origin wsJx4a65c_get_915e3 := goodIn_r _ [23, 19, 24, 25, 26, 27, 28, 29, 30, 31, 32, 33, 34, 17, 35, 36, 99, 100, 101] (by decide +kernel) (by decide +kernel)
set_option maxRecDepth 20000 in
theorem gX9_origin_Jx4a65c_get_915e3 : GoodIn wsX9_origin (wsV RX9 275 RJx4a65c yJx4a65c_get_915e3 wsJx4a65c_get_915e3) := goodIn_app (goodIn_of _ (by decide +kernel)) ggX9_origin_Jx4a65c_get_915e3
set_option maxRecDepth 20000 in
theorem ggX9_origin_X3_agreesWith : GoodIn wsX9_origin wsX3_agreesWith := goodIn_r _ [47, 48, 49, 50, 51, 52, 8, 53, 54, 55, 56, 57, 58, 59, 60, 61, 62, 102, 103, 104, 105, 106, 107, 108, 63, 64, 65, 66, 67, 68, 69, 70, 71, 72, 73] (by decide +kernel) (by decide +kernel)
set_option maxRecDepth 20000 in
theorem gX9_origin_X3_agreesWith : GoodIn wsX9_origin (wsV RX9 302 RX3 yX3_agreesWith wsX3_agreesWith) := goodIn_app (goodIn_of _ (by decide +kernel)) ggX9_origin_X3_agreesWith
theorem dX9_origin_0 : decode cX9_origin 0 = .ok (.aload_n 0, 1) := by decide +kernel
theorem dX9_origin_1 : decode cX9_origin 1 = .ok (.iload_n 1, 1) := by decide +kernel
theorem dX9_origin_2 : decode cX9_origin 2 = .ok (.invokevirtual 287, 3) := by decide +kernel
theorem dX9_origin_5 : decode cX9_origin 5 = .ok (.astore_n 2, 1) := by decide +kernel
theorem dX9_origin_6 : decode cX9_origin 6 = .ok (.aload_n 2, 1) := by decide +kernel
theorem dX9_origin_7 : decode cX9_origin 7 = .ok (.getfield 291, 3) := by decide +kernel
theorem dX9_origin_10 : decode cX9_origin 10 = .ok (.iconst 1, 1) := by decide +kernel
theorem dX9_origin_11 : decode cX9_origin 11 = .ok (.if_icmp .eq 14, 3) := by decide +kernel
theorem dX9_origin_14 : decode cX9_origin 14 = .ok (.new 117, 3) := by decide +kernel
theorem dX9_origin_17 : decode cX9_origin 17 = .ok (.dup, 1) := by decide +kernel
theorem dX9_origin_18 : decode cX9_origin 18 = .ok (.ldc_w 294, 3) := by decide +kernel
theorem dX9_origin_21 : decode cX9_origin 21 = .ok (.invokespecial 121, 3) := by decide +kernel
theorem dX9_origin_24 : decode cX9_origin 24 = .ok (.athrow, 1) := by decide +kernel
theorem dX9_origin_25 : decode cX9_origin 25 = .ok (.aload_n 0, 1) := by decide +kernel
theorem dX9_origin_26 : decode cX9_origin 26 = .ok (.aload_n 2, 1) := by decide +kernel
theorem dX9_origin_27 : decode cX9_origin 27 = .ok (.getfield 296, 3) := by decide +kernel
theorem dX9_origin_30 : decode cX9_origin 30 = .ok (.invokevirtual 220, 3) := by decide +kernel
theorem dX9_origin_33 : decode cX9_origin 33 = .ok (.getfield 299, 3) := by decide +kernel
theorem dX9_origin_36 : decode cX9_origin 36 = .ok (.istore_n 3, 1) := by decide +kernel
theorem dX9_origin_37 : decode cX9_origin 37 = .ok (.iconst (-1), 1) := by decide +kernel
theorem dX9_origin_38 : decode cX9_origin 38 = .ok (.istore 4, 2) := by decide +kernel
theorem dX9_origin_40 : decode cX9_origin 40 = .ok (.iconst 0, 1) := by decide +kernel
theorem dX9_origin_41 : decode cX9_origin 41 = .ok (.istore 5, 2) := by decide +kernel
theorem dX9_origin_43 : decode cX9_origin 43 = .ok (.iload 5, 2) := by decide +kernel
theorem dX9_origin_45 : decode cX9_origin 45 = .ok (.aload_n 0, 1) := by decide +kernel
theorem dX9_origin_46 : decode cX9_origin 46 = .ok (.getfield 40, 3) := by decide +kernel
theorem dX9_origin_49 : decode cX9_origin 49 = .ok (.invokevirtual 143, 3) := by decide +kernel
theorem dX9_origin_52 : decode cX9_origin 52 = .ok (.if_icmp .ge 41, 3) := by decide +kernel
theorem dX9_origin_55 : decode cX9_origin 55 = .ok (.aload_n 0, 1) := by decide +kernel
theorem dX9_origin_56 : decode cX9_origin 56 = .ok (.getfield 40, 3) := by decide +kernel
theorem dX9_origin_59 : decode cX9_origin 59 = .ok (.iload 5, 2) := by decide +kernel
theorem dX9_origin_61 : decode cX9_origin 61 = .ok (.invokevirtual 275, 3) := by decide +kernel
theorem dX9_origin_64 : decode cX9_origin 64 = .ok (.checkcast 151, 3) := by decide +kernel
theorem dX9_origin_67 : decode cX9_origin 67 = .ok (.aload_n 2, 1) := by decide +kernel
theorem dX9_origin_68 : decode cX9_origin 68 = .ok (.iload_n 3, 1) := by decide +kernel
theorem dX9_origin_69 : decode cX9_origin 69 = .ok (.invokevirtual 302, 3) := by decide +kernel
theorem dX9_origin_72 : decode cX9_origin 72 = .ok (.ifCond .eq 15, 3) := by decide +kernel
theorem dX9_origin_75 : decode cX9_origin 75 = .ok (.iload 4, 2) := by decide +kernel
theorem dX9_origin_77 : decode cX9_origin 77 = .ok (.iconst (-1), 1) := by decide +kernel
theorem dX9_origin_78 : decode cX9_origin 78 = .ok (.if_icmp .eq 5, 3) := by decide +kernel
theorem dX9_origin_81 : decode cX9_origin 81 = .ok (.iconst (-1), 1) := by decide +kernel
theorem dX9_origin_82 : decode cX9_origin 82 = .ok (.ireturn, 1) := by decide +kernel
theorem dX9_origin_83 : decode cX9_origin 83 = .ok (.iload 5, 2) := by decide +kernel
theorem dX9_origin_85 : decode cX9_origin 85 = .ok (.istore 4, 2) := by decide +kernel
theorem dX9_origin_87 : decode cX9_origin 87 = .ok (.iinc 5 1, 3) := by decide +kernel
theorem dX9_origin_90 : decode cX9_origin 90 = .ok (.goto (-47), 3) := by decide +kernel
theorem dX9_origin_93 : decode cX9_origin 93 = .ok (.iload 4, 2) := by decide +kernel
theorem dX9_origin_95 : decode cX9_origin 95 = .ok (.ireturn, 1) := by decide +kernel
set_option maxRecDepth 20000 in
theorem ggX9_look_Jx4a65c_size_8abf5 : GoodIn wsX9_look wsJx4a65c_size_8abf5 := goodIn_r _ [9, 10, 54, 55, 56] (by decide +kernel) (by decide +kernel)
set_option maxRecDepth 20000 in
theorem gX9_look_Jx4a65c_size_8abf5 : GoodIn wsX9_look (wsV RX9 143 RJx4a65c yJx4a65c_size_8abf5 wsJx4a65c_size_8abf5) := goodIn_app (goodIn_of _ (by decide +kernel)) ggX9_look_Jx4a65c_size_8abf5
set_option maxRecDepth 20000 in
theorem ggX9_look_Jx4a65c_get_915e3 : GoodIn wsX9_look wsJx4a65c_get_915e3 := goodIn_r _ [14, 10, 15, 16, 17, 18, 19, 20, 21, 22, 23, 24, 25, 8, 26, 27, 54, 55, 56] (by decide +kernel) (by decide +kernel)
set_option maxRecDepth 20000 in
theorem gX9_look_Jx4a65c_get_915e3 : GoodIn wsX9_look (wsV RX9 275 RJx4a65c yJx4a65c_get_915e3 wsJx4a65c_get_915e3) := goodIn_app (goodIn_of _ (by decide +kernel)) ggX9_look_Jx4a65c_get_915e3
set_option maxRecDepth 20000 in
theorem ggX9_look_X3_told : GoodIn wsX9_look wsX3_told := goodIn_ca (goodIn_r _ [32, 33, 34, 35, 36, 37, 38, 39, 57, 58, 59, 60, 61, 62, 63] (by decide +kernel) (by decide +kernel)) (goodIn_sub (fun _ h => List.mem_cons_of_mem _ (List.mem_append_right _ h)) (by decide +kernel))
set_option maxRecDepth 20000 in
theorem gX9_look_X3_told : GoodIn wsX9_look (wsV RX9 308 RX3 yX3_told wsX3_told) := goodIn_app (goodIn_of _ (by decide +kernel)) ggX9_look_X3_told
theorem dX9_look_0 : decode cX9_look 0 = .ok (.iload_n 1, 1) := by decide +kernel
theorem dX9_look_1 : decode cX9_look 1 = .ok (.ifCond .lt 14, 3) := by decide +kernel
theorem dX9_look_4 : decode cX9_look 4 = .ok (.iload_n 1, 1) := by decide +kernel
theorem dX9_look_5 : decode cX9_look 5 = .ok (.aload_n 0, 1) := by decide +kernel
theorem dX9_look_6 : decode cX9_look 6 = .ok (.getfield 40, 3) := by decide +kernel
theorem dX9_look_9 : decode cX9_look 9 = .ok (.invokevirtual 143, 3) := by decide +kernel
theorem dX9_look_12 : decode cX9_look 12 = .ok (.if_icmp .lt 14, 3) := by decide +kernel
theorem dX9_look_15 : decode cX9_look 15 = .ok (.new 94, 3) := by decide +kernel
theorem dX9_look_18 : decode cX9_look 18 = .ok (.dup, 1) := by decide +kernel
theorem dX9_look_19 : decode cX9_look 19 = .ok (.ldc_w 306, 3) := by decide +kernel
theorem dX9_look_22 : decode cX9_look 22 = .ok (.invokespecial 98, 3) := by decide +kernel
theorem dX9_look_25 : decode cX9_look 25 = .ok (.athrow, 1) := by decide +kernel
theorem dX9_look_26 : decode cX9_look 26 = .ok (.aload_n 0, 1) := by decide +kernel
theorem dX9_look_27 : decode cX9_look 27 = .ok (.getfield 40, 3) := by decide +kernel
theorem dX9_look_30 : decode cX9_look 30 = .ok (.iload_n 1, 1) := by decide +kernel
theorem dX9_look_31 : decode cX9_look 31 = .ok (.invokevirtual 275, 3) := by decide +kernel
theorem dX9_look_34 : decode cX9_look 34 = .ok (.checkcast 151, 3) := by decide +kernel
theorem dX9_look_37 : decode cX9_look 37 = .ok (.iload_n 2, 1) := by decide +kernel
theorem dX9_look_38 : decode cX9_look 38 = .ok (.invokevirtual 308, 3) := by decide +kernel
theorem dX9_look_41 : decode cX9_look 41 = .ok (.ireturn, 1) := by decide +kernel
set_option maxRecDepth 20000 in
theorem ggX9_swarm_X9_swarmNumbered : GoodIn wsX9_swarm wsX9_swarmNumbered := goodIn_ca (goodIn_r _ [5, 6, 7, 8, 9, 10, 11, 12, 13, 14, 15, 16, 17, 18, 19, 20, 21, 22, 23, 24, 25, 26, 27, 28, 29, 30, 31, 32, 50, 51, 52, 53, 54, 55, 56, 57, 58, 59, 60, 61, 62, 63, 64, 65, 66] (by decide +kernel) (by decide +kernel)) (goodIn_sub (fun _ h => List.mem_cons_of_mem _ (List.mem_append_left _ (List.mem_append_right _ h))) (by decide +kernel))
set_option maxRecDepth 20000 in
theorem gX9_swarm_X9_swarmNumbered : GoodIn wsX9_swarm (wsV RX9 287 RX9 yX9_swarmNumbered wsX9_swarmNumbered) := goodIn_app (goodIn_of _ (by decide +kernel)) ggX9_swarm_X9_swarmNumbered
set_option maxRecDepth 20000 in
theorem ggX9_swarm_X6_told : GoodIn wsX9_swarm wsX6_told := goodIn_ca (goodIn_r _ [37, 38, 39, 40, 41, 42, 43, 44, 45, 46, 47, 48, 49, 67, 68, 69, 70, 71, 72, 73, 74, 75, 76, 77] (by decide +kernel) (by decide +kernel)) (goodIn_sub (fun _ h => List.mem_cons_of_mem _ (List.mem_append_right _ h)) (by decide +kernel))
set_option maxRecDepth 20000 in
theorem gX9_swarm_X6_told : GoodIn wsX9_swarm (wsV RX9 310 RX6 yX6_told wsX6_told) := goodIn_app (goodIn_of _ (by decide +kernel)) ggX9_swarm_X6_told
theorem dX9_swarm_0 : decode cX9_swarm 0 = .ok (.aload_n 0, 1) := by decide +kernel
theorem dX9_swarm_1 : decode cX9_swarm 1 = .ok (.iload_n 1, 1) := by decide +kernel
theorem dX9_swarm_2 : decode cX9_swarm 2 = .ok (.invokevirtual 287, 3) := by decide +kernel
theorem dX9_swarm_5 : decode cX9_swarm 5 = .ok (.iload_n 2, 1) := by decide +kernel
theorem dX9_swarm_6 : decode cX9_swarm 6 = .ok (.invokevirtual 310, 3) := by decide +kernel
theorem dX9_swarm_9 : decode cX9_swarm 9 = .ok (.ireturn, 1) := by decide +kernel
set_option maxRecDepth 20000 in
theorem ggX9_crew_X9_keeperNumbered : GoodIn wsX9_crew wsX9_keeperNumbered := goodIn_ca (goodIn_r _ [5, 6, 7, 8, 9, 10, 11, 12, 13, 14, 15, 16, 17, 18, 19, 20, 21, 22, 23, 24, 25, 26, 27, 28, 29, 30, 31, 32, 45, 46, 47, 48, 49, 50, 51, 52, 53, 54, 55, 56, 57, 58, 59, 60, 61] (by decide +kernel) (by decide +kernel)) (goodIn_sub (fun _ h => List.mem_cons_of_mem _ (List.mem_append_left _ (List.mem_append_right _ h))) (by decide +kernel))
set_option maxRecDepth 20000 in
theorem gX9_crew_X9_keeperNumbered : GoodIn wsX9_crew (wsV RX9 172 RX9 yX9_keeperNumbered wsX9_keeperNumbered) := goodIn_app (goodIn_of _ (by decide +kernel)) ggX9_crew_X9_keeperNumbered
set_option maxRecDepth 20000 in
theorem ggX9_crew_X4_told : GoodIn wsX9_crew wsX4_told := goodIn_ca (goodIn_r _ [37, 38, 39, 40, 41, 42, 43, 44, 62, 63, 64, 65, 66, 67, 68, 69, 70, 71, 72, 73] (by decide +kernel) (by decide +kernel)) (goodIn_sub (fun _ h => List.mem_cons_of_mem _ (List.mem_append_right _ h)) (by decide +kernel))
set_option maxRecDepth 20000 in
theorem gX9_crew_X4_told : GoodIn wsX9_crew (wsV RX9 311 RX4 yX4_told wsX4_told) := goodIn_app (goodIn_of _ (by decide +kernel)) ggX9_crew_X4_told
theorem dX9_crew_0 : decode cX9_crew 0 = .ok (.aload_n 0, 1) := by decide +kernel
theorem dX9_crew_1 : decode cX9_crew 1 = .ok (.iload_n 1, 1) := by decide +kernel
theorem dX9_crew_2 : decode cX9_crew 2 = .ok (.invokevirtual 172, 3) := by decide +kernel
theorem dX9_crew_5 : decode cX9_crew 5 = .ok (.iload_n 2, 1) := by decide +kernel
theorem dX9_crew_6 : decode cX9_crew 6 = .ok (.invokevirtual 311, 3) := by decide +kernel
theorem dX9_crew_9 : decode cX9_crew 9 = .ok (.ireturn, 1) := by decide +kernel
set_option maxRecDepth 20000 in
theorem ggX9_matter_X9_caseNumbered : GoodIn wsX9_matter wsX9_caseNumbered := goodIn_ca (goodIn_r _ [5, 6, 7, 8, 9, 10, 11, 12, 13, 14, 15, 16, 17, 18, 19, 20, 21, 22, 23, 24, 25, 26, 27, 28, 29, 30, 31, 32, 50, 51, 52, 53, 54, 55, 56, 57, 58, 59, 60, 61, 62, 63, 64, 65, 66] (by decide +kernel) (by decide +kernel)) (goodIn_sub (fun _ h => List.mem_cons_of_mem _ (List.mem_append_left _ (List.mem_append_right _ h))) (by decide +kernel))
set_option maxRecDepth 20000 in
theorem gX9_matter_X9_caseNumbered : GoodIn wsX9_matter (wsV RX9 220 RX9 yX9_caseNumbered wsX9_caseNumbered) := goodIn_app (goodIn_of _ (by decide +kernel)) ggX9_matter_X9_caseNumbered
set_option maxRecDepth 20000 in
theorem ggX9_matter_X1_told : GoodIn wsX9_matter wsX1_told := goodIn_ca (goodIn_r _ [37, 38, 39, 40, 41, 42, 43, 44, 45, 46, 47, 48, 49, 67, 68, 69, 70, 71, 72, 73, 74, 75, 76, 77] (by decide +kernel) (by decide +kernel)) (goodIn_sub (fun _ h => List.mem_cons_of_mem _ (List.mem_append_right _ h)) (by decide +kernel))
set_option maxRecDepth 20000 in
theorem gX9_matter_X1_told : GoodIn wsX9_matter (wsV RX9 312 RX1 yX1_told wsX1_told) := goodIn_app (goodIn_of _ (by decide +kernel)) ggX9_matter_X1_told
theorem dX9_matter_0 : decode cX9_matter 0 = .ok (.aload_n 0, 1) := by decide +kernel
theorem dX9_matter_1 : decode cX9_matter 1 = .ok (.iload_n 1, 1) := by decide +kernel
theorem dX9_matter_2 : decode cX9_matter 2 = .ok (.invokevirtual 220, 3) := by decide +kernel
theorem dX9_matter_5 : decode cX9_matter 5 = .ok (.iload_n 2, 1) := by decide +kernel
theorem dX9_matter_6 : decode cX9_matter 6 = .ok (.invokevirtual 312, 3) := by decide +kernel
theorem dX9_matter_9 : decode cX9_matter 9 = .ok (.ireturn, 1) := by decide +kernel
set_option maxRecDepth 20000 in
theorem ggX9_count_Jx4a65c_size_8abf5 : GoodIn wsX9_count wsJx4a65c_size_8abf5 := goodIn_r _ [12, 13, 64, 65, 66] (by decide +kernel) (by decide +kernel)
set_option maxRecDepth 20000 in
theorem gX9_count_Jx4a65c_size_8abf5 : GoodIn wsX9_count (wsV RX9 143 RJx4a65c yJx4a65c_size_8abf5 wsJx4a65c_size_8abf5) := goodIn_app (goodIn_of _ (by decide +kernel)) ggX9_count_Jx4a65c_size_8abf5
set_option maxRecDepth 20000 in
theorem ggX9_count_X9_swarmsThatAre : GoodIn wsX9_count wsX9_swarmsThatAre := goodIn_r _ [18, 3, 19, 8, 9, 10, 11, 12, 13, 20, 21, 22, 23, 24, 25, 26, 27, 28, 29, 30, 31, 32, 33, 34, 35, 36, 47, 48, 49, 50, 51, 52, 53, 54, 55, 56, 57, 58, 59, 60, 67, 68, 69, 70, 71, 72, 73, 74, 75, 76, 77, 64, 65, 66] (by decide +kernel) (by decide +kernel)
set_option maxRecDepth 20000 in
theorem gX9_count_X9_swarmsThatAre : GoodIn wsX9_count (wsV RX9 313 RX9 yX9_swarmsThatAre wsX9_swarmsThatAre) := goodIn_app (goodIn_of _ (by decide +kernel)) ggX9_count_X9_swarmsThatAre
set_option maxRecDepth 20000 in
theorem ggX9_count_X9_openCases : GoodIn wsX9_count wsX9_openCases := goodIn_r _ [40, 5, 41, 8, 9, 10, 11, 12, 13, 20, 21, 22, 23, 24, 25, 26, 27, 28, 29, 30, 31, 32, 33, 34, 35, 36, 47, 48, 49, 50, 51, 52, 53, 54, 55, 56, 57, 58, 59, 60, 78, 79, 80, 81, 82, 83, 84, 85, 86, 87, 88, 64, 65, 66] (by decide +kernel) (by decide +kernel)
set_option maxRecDepth 20000 in
theorem gX9_count_X9_openCases : GoodIn wsX9_count (wsV RX9 316 RX9 yX9_openCases wsX9_openCases) := goodIn_app (goodIn_of _ (by decide +kernel)) ggX9_count_X9_openCases
set_option maxRecDepth 20000 in
theorem ggX9_count_X9_allBees : GoodIn wsX9_count wsX9_allBees := goodIn_r _ [45, 2, 46, 3, 19, 8, 9, 10, 11, 12, 13, 20, 21, 22, 23, 24, 25, 26, 27, 28, 29, 30, 31, 32, 33, 34, 35, 36, 47, 48, 49, 50, 51, 52, 53, 54, 55, 56, 57, 58, 59, 60, 89, 90, 91, 92, 93, 94, 95, 67, 68, 69, 70, 71, 72, 73, 74, 75, 76, 77, 64, 65, 66] (by decide +kernel) (by decide +kernel)
set_option maxRecDepth 20000 in
theorem gX9_count_X9_allBees : GoodIn wsX9_count (wsV RX9 319 RX9 yX9_allBees wsX9_allBees) := goodIn_app (goodIn_of _ (by decide +kernel)) ggX9_count_X9_allBees
theorem dX9_count_0 : decode cX9_count 0 = .ok (.iload_n 1, 1) := by decide +kernel
theorem dX9_count_1 : decode cX9_count 1 = .ok (.tableswitch 141 0 11 #[63, 68, 76, 84, 92, 100, 105, 113, 119, 125, 131, 136], 63) := by decide +kernel
theorem dX9_count_64 : decode cX9_count 64 = .ok (.aload_n 0, 1) := by decide +kernel
theorem dX9_count_65 : decode cX9_count 65 = .ok (.getfield 71, 3) := by decide +kernel
theorem dX9_count_68 : decode cX9_count 68 = .ok (.ireturn, 1) := by decide +kernel
theorem dX9_count_69 : decode cX9_count 69 = .ok (.aload_n 0, 1) := by decide +kernel
theorem dX9_count_70 : decode cX9_count 70 = .ok (.getfield 40, 3) := by decide +kernel
theorem dX9_count_73 : decode cX9_count 73 = .ok (.invokevirtual 143, 3) := by decide +kernel
theorem dX9_count_76 : decode cX9_count 76 = .ok (.ireturn, 1) := by decide +kernel
theorem dX9_count_77 : decode cX9_count 77 = .ok (.aload_n 0, 1) := by decide +kernel
theorem dX9_count_78 : decode cX9_count 78 = .ok (.getfield 44, 3) := by decide +kernel
theorem dX9_count_81 : decode cX9_count 81 = .ok (.invokevirtual 143, 3) := by decide +kernel
theorem dX9_count_84 : decode cX9_count 84 = .ok (.ireturn, 1) := by decide +kernel
theorem dX9_count_85 : decode cX9_count 85 = .ok (.aload_n 0, 1) := by decide +kernel
theorem dX9_count_86 : decode cX9_count 86 = .ok (.getfield 47, 3) := by decide +kernel
theorem dX9_count_89 : decode cX9_count 89 = .ok (.invokevirtual 143, 3) := by decide +kernel
theorem dX9_count_92 : decode cX9_count 92 = .ok (.ireturn, 1) := by decide +kernel
theorem dX9_count_93 : decode cX9_count 93 = .ok (.aload_n 0, 1) := by decide +kernel
theorem dX9_count_94 : decode cX9_count 94 = .ok (.getfield 50, 3) := by decide +kernel
theorem dX9_count_97 : decode cX9_count 97 = .ok (.invokevirtual 143, 3) := by decide +kernel
theorem dX9_count_100 : decode cX9_count 100 = .ok (.ireturn, 1) := by decide +kernel
theorem dX9_count_101 : decode cX9_count 101 = .ok (.aload_n 0, 1) := by decide +kernel
theorem dX9_count_102 : decode cX9_count 102 = .ok (.getfield 67, 3) := by decide +kernel
theorem dX9_count_105 : decode cX9_count 105 = .ok (.ireturn, 1) := by decide +kernel
theorem dX9_count_106 : decode cX9_count 106 = .ok (.aload_n 0, 1) := by decide +kernel
theorem dX9_count_107 : decode cX9_count 107 = .ok (.getfield 60, 3) := by decide +kernel
theorem dX9_count_110 : decode cX9_count 110 = .ok (.getfield 229, 3) := by decide +kernel
theorem dX9_count_113 : decode cX9_count 113 = .ok (.ireturn, 1) := by decide +kernel
theorem dX9_count_114 : decode cX9_count 114 = .ok (.aload_n 0, 1) := by decide +kernel
theorem dX9_count_115 : decode cX9_count 115 = .ok (.iconst 0, 1) := by decide +kernel
theorem dX9_count_116 : decode cX9_count 116 = .ok (.invokevirtual 313, 3) := by decide +kernel
theorem dX9_count_119 : decode cX9_count 119 = .ok (.ireturn, 1) := by decide +kernel
theorem dX9_count_120 : decode cX9_count 120 = .ok (.aload_n 0, 1) := by decide +kernel
theorem dX9_count_121 : decode cX9_count 121 = .ok (.iconst 1, 1) := by decide +kernel
theorem dX9_count_122 : decode cX9_count 122 = .ok (.invokevirtual 313, 3) := by decide +kernel
theorem dX9_count_125 : decode cX9_count 125 = .ok (.ireturn, 1) := by decide +kernel
theorem dX9_count_126 : decode cX9_count 126 = .ok (.aload_n 0, 1) := by decide +kernel
theorem dX9_count_127 : decode cX9_count 127 = .ok (.iconst 2, 1) := by decide +kernel
theorem dX9_count_128 : decode cX9_count 128 = .ok (.invokevirtual 313, 3) := by decide +kernel
theorem dX9_count_131 : decode cX9_count 131 = .ok (.ireturn, 1) := by decide +kernel
theorem dX9_count_132 : decode cX9_count 132 = .ok (.aload_n 0, 1) := by decide +kernel
theorem dX9_count_133 : decode cX9_count 133 = .ok (.invokevirtual 316, 3) := by decide +kernel
theorem dX9_count_136 : decode cX9_count 136 = .ok (.ireturn, 1) := by decide +kernel
theorem dX9_count_137 : decode cX9_count 137 = .ok (.aload_n 0, 1) := by decide +kernel
theorem dX9_count_138 : decode cX9_count 138 = .ok (.invokevirtual 319, 3) := by decide +kernel
theorem dX9_count_141 : decode cX9_count 141 = .ok (.ireturn, 1) := by decide +kernel
theorem dX9_count_142 : decode cX9_count 142 = .ok (.iconst (-1), 1) := by decide +kernel
theorem dX9_count_143 : decode cX9_count 143 = .ok (.ireturn, 1) := by decide +kernel
set_option maxRecDepth 20000 in
theorem ggX9_swarmNumbered_Jx4a65c_size_8abf5 : GoodIn wsX9_swarmNumbered wsJx4a65c_size_8abf5 := goodIn_r _ [9, 10, 42, 43, 44] (by decide +kernel) (by decide +kernel)
set_option maxRecDepth 20000 in
theorem gX9_swarmNumbered_Jx4a65c_size_8abf5 : GoodIn wsX9_swarmNumbered (wsV RX9 143 RJx4a65c yJx4a65c_size_8abf5 wsJx4a65c_size_8abf5) := goodIn_app (goodIn_of _ (by decide +kernel)) ggX9_swarmNumbered_Jx4a65c_size_8abf5
set_option maxRecDepth 20000 in
theorem ggX9_swarmNumbered_Jx4a65c_get_915e3 : GoodIn wsX9_swarmNumbered wsJx4a65c_get_915e3 := goodIn_r _ [14, 10, 15, 16, 17, 18, 19, 20, 21, 22, 23, 24, 25, 8, 26, 27, 42, 43, 44] (by decide +kernel) (by decide +kernel)
set_option maxRecDepth 20000 in
theorem gX9_swarmNumbered_Jx4a65c_get_915e3 : GoodIn wsX9_swarmNumbered (wsV RX9 275 RJx4a65c yJx4a65c_get_915e3 wsJx4a65c_get_915e3) := goodIn_app (goodIn_of _ (by decide +kernel)) ggX9_swarmNumbered_Jx4a65c_get_915e3
theorem dX9_swarmNumbered_0 : decode cX9_swarmNumbered 0 = .ok (.iload_n 1, 1) := by decide +kernel
theorem dX9_swarmNumbered_1 : decode cX9_swarmNumbered 1 = .ok (.ifCond .lt 14, 3) := by decide +kernel
theorem dX9_swarmNumbered_4 : decode cX9_swarmNumbered 4 = .ok (.iload_n 1, 1) := by decide +kernel
theorem dX9_swarmNumbered_5 : decode cX9_swarmNumbered 5 = .ok (.aload_n 0, 1) := by decide +kernel
theorem dX9_swarmNumbered_6 : decode cX9_swarmNumbered 6 = .ok (.getfield 44, 3) := by decide +kernel
theorem dX9_swarmNumbered_9 : decode cX9_swarmNumbered 9 = .ok (.invokevirtual 143, 3) := by decide +kernel
theorem dX9_swarmNumbered_12 : decode cX9_swarmNumbered 12 = .ok (.if_icmp .lt 14, 3) := by decide +kernel
theorem dX9_swarmNumbered_15 : decode cX9_swarmNumbered 15 = .ok (.new 94, 3) := by decide +kernel
theorem dX9_swarmNumbered_18 : decode cX9_swarmNumbered 18 = .ok (.dup, 1) := by decide +kernel
theorem dX9_swarmNumbered_19 : decode cX9_swarmNumbered 19 = .ok (.ldc_w 322, 3) := by decide +kernel
theorem dX9_swarmNumbered_22 : decode cX9_swarmNumbered 22 = .ok (.invokespecial 98, 3) := by decide +kernel
theorem dX9_swarmNumbered_25 : decode cX9_swarmNumbered 25 = .ok (.athrow, 1) := by decide +kernel
theorem dX9_swarmNumbered_26 : decode cX9_swarmNumbered 26 = .ok (.aload_n 0, 1) := by decide +kernel
theorem dX9_swarmNumbered_27 : decode cX9_swarmNumbered 27 = .ok (.getfield 44, 3) := by decide +kernel
theorem dX9_swarmNumbered_30 : decode cX9_swarmNumbered 30 = .ok (.iload_n 1, 1) := by decide +kernel
theorem dX9_swarmNumbered_31 : decode cX9_swarmNumbered 31 = .ok (.invokevirtual 275, 3) := by decide +kernel
theorem dX9_swarmNumbered_34 : decode cX9_swarmNumbered 34 = .ok (.checkcast 292, 3) := by decide +kernel
theorem dX9_swarmNumbered_37 : decode cX9_swarmNumbered 37 = .ok (.areturn, 1) := by decide +kernel
set_option maxRecDepth 20000 in
theorem ggX9_keeperNumbered_Jx4a65c_size_8abf5 : GoodIn wsX9_keeperNumbered wsJx4a65c_size_8abf5 := goodIn_r _ [9, 10, 42, 43, 44] (by decide +kernel) (by decide +kernel)
set_option maxRecDepth 20000 in
theorem gX9_keeperNumbered_Jx4a65c_size_8abf5 : GoodIn wsX9_keeperNumbered (wsV RX9 143 RJx4a65c yJx4a65c_size_8abf5 wsJx4a65c_size_8abf5) := goodIn_app (goodIn_of _ (by decide +kernel)) ggX9_keeperNumbered_Jx4a65c_size_8abf5
set_option maxRecDepth 20000 in
theorem ggX9_keeperNumbered_Jx4a65c_get_915e3 : GoodIn wsX9_keeperNumbered wsJx4a65c_get_915e3 := goodIn_r _ [14, 10, 15, 16, 17, 18, 19, 20, 21, 22, 23, 24, 25, 8, 26, 27, 42, 43, 44] (by decide +kernel) (by decide +kernel)
set_option maxRecDepth 20000 in
theorem gX9_keeperNumbered_Jx4a65c_get_915e3 : GoodIn wsX9_keeperNumbered (wsV RX9 275 RJx4a65c yJx4a65c_get_915e3 wsJx4a65c_get_915e3) := goodIn_app (goodIn_of _ (by decide +kernel)) ggX9_keeperNumbered_Jx4a65c_get_915e3
theorem dX9_keeperNumbered_0 : decode cX9_keeperNumbered 0 = .ok (.iload_n 1, 1) := by decide +kernel
theorem dX9_keeperNumbered_1 : decode cX9_keeperNumbered 1 = .ok (.ifCond .lt 14, 3) := by decide +kernel
theorem dX9_keeperNumbered_4 : decode cX9_keeperNumbered 4 = .ok (.iload_n 1, 1) := by decide +kernel
theorem dX9_keeperNumbered_5 : decode cX9_keeperNumbered 5 = .ok (.aload_n 0, 1) := by decide +kernel
theorem dX9_keeperNumbered_6 : decode cX9_keeperNumbered 6 = .ok (.getfield 47, 3) := by decide +kernel
theorem dX9_keeperNumbered_9 : decode cX9_keeperNumbered 9 = .ok (.invokevirtual 143, 3) := by decide +kernel
theorem dX9_keeperNumbered_12 : decode cX9_keeperNumbered 12 = .ok (.if_icmp .lt 14, 3) := by decide +kernel
theorem dX9_keeperNumbered_15 : decode cX9_keeperNumbered 15 = .ok (.new 94, 3) := by decide +kernel
theorem dX9_keeperNumbered_18 : decode cX9_keeperNumbered 18 = .ok (.dup, 1) := by decide +kernel
theorem dX9_keeperNumbered_19 : decode cX9_keeperNumbered 19 = .ok (.ldc_w 324, 3) := by decide +kernel
theorem dX9_keeperNumbered_22 : decode cX9_keeperNumbered 22 = .ok (.invokespecial 98, 3) := by decide +kernel
theorem dX9_keeperNumbered_25 : decode cX9_keeperNumbered 25 = .ok (.athrow, 1) := by decide +kernel
theorem dX9_keeperNumbered_26 : decode cX9_keeperNumbered 26 = .ok (.aload_n 0, 1) := by decide +kernel
theorem dX9_keeperNumbered_27 : decode cX9_keeperNumbered 27 = .ok (.getfield 47, 3) := by decide +kernel
theorem dX9_keeperNumbered_30 : decode cX9_keeperNumbered 30 = .ok (.iload_n 1, 1) := by decide +kernel
theorem dX9_keeperNumbered_31 : decode cX9_keeperNumbered 31 = .ok (.invokevirtual 275, 3) := by decide +kernel
theorem dX9_keeperNumbered_34 : decode cX9_keeperNumbered 34 = .ok (.checkcast 167, 3) := by decide +kernel
theorem dX9_keeperNumbered_37 : decode cX9_keeperNumbered 37 = .ok (.areturn, 1) := by decide +kernel
set_option maxRecDepth 20000 in
theorem ggX9_caseNumbered_Jx4a65c_size_8abf5 : GoodIn wsX9_caseNumbered wsJx4a65c_size_8abf5 := goodIn_r _ [9, 10, 42, 43, 44] (by decide +kernel) (by decide +kernel)
set_option maxRecDepth 20000 in
theorem gX9_caseNumbered_Jx4a65c_size_8abf5 : GoodIn wsX9_caseNumbered (wsV RX9 143 RJx4a65c yJx4a65c_size_8abf5 wsJx4a65c_size_8abf5) := goodIn_app (goodIn_of _ (by decide +kernel)) ggX9_caseNumbered_Jx4a65c_size_8abf5
set_option maxRecDepth 20000 in
theorem ggX9_caseNumbered_Jx4a65c_get_915e3 : GoodIn wsX9_caseNumbered wsJx4a65c_get_915e3 := goodIn_r _ [14, 10, 15, 16, 17, 18, 19, 20, 21, 22, 23, 24, 25, 8, 26, 27, 42, 43, 44] (by decide +kernel) (by decide +kernel)
set_option maxRecDepth 20000 in
theorem gX9_caseNumbered_Jx4a65c_get_915e3 : GoodIn wsX9_caseNumbered (wsV RX9 275 RJx4a65c yJx4a65c_get_915e3 wsJx4a65c_get_915e3) := goodIn_app (goodIn_of _ (by decide +kernel)) ggX9_caseNumbered_Jx4a65c_get_915e3
theorem dX9_caseNumbered_0 : decode cX9_caseNumbered 0 = .ok (.iload_n 1, 1) := by decide +kernel
theorem dX9_caseNumbered_1 : decode cX9_caseNumbered 1 = .ok (.ifCond .lt 14, 3) := by decide +kernel
theorem dX9_caseNumbered_4 : decode cX9_caseNumbered 4 = .ok (.iload_n 1, 1) := by decide +kernel
theorem dX9_caseNumbered_5 : decode cX9_caseNumbered 5 = .ok (.aload_n 0, 1) := by decide +kernel
theorem dX9_caseNumbered_6 : decode cX9_caseNumbered 6 = .ok (.getfield 50, 3) := by decide +kernel
theorem dX9_caseNumbered_9 : decode cX9_caseNumbered 9 = .ok (.invokevirtual 143, 3) := by decide +kernel
theorem dX9_caseNumbered_12 : decode cX9_caseNumbered 12 = .ok (.if_icmp .lt 14, 3) := by decide +kernel
theorem dX9_caseNumbered_15 : decode cX9_caseNumbered 15 = .ok (.new 94, 3) := by decide +kernel
theorem dX9_caseNumbered_18 : decode cX9_caseNumbered 18 = .ok (.dup, 1) := by decide +kernel
theorem dX9_caseNumbered_19 : decode cX9_caseNumbered 19 = .ok (.ldc_w 326, 3) := by decide +kernel
theorem dX9_caseNumbered_22 : decode cX9_caseNumbered 22 = .ok (.invokespecial 98, 3) := by decide +kernel
theorem dX9_caseNumbered_25 : decode cX9_caseNumbered 25 = .ok (.athrow, 1) := by decide +kernel
theorem dX9_caseNumbered_26 : decode cX9_caseNumbered 26 = .ok (.aload_n 0, 1) := by decide +kernel
theorem dX9_caseNumbered_27 : decode cX9_caseNumbered 27 = .ok (.getfield 50, 3) := by decide +kernel
theorem dX9_caseNumbered_30 : decode cX9_caseNumbered 30 = .ok (.iload_n 1, 1) := by decide +kernel
theorem dX9_caseNumbered_31 : decode cX9_caseNumbered 31 = .ok (.invokevirtual 275, 3) := by decide +kernel
theorem dX9_caseNumbered_34 : decode cX9_caseNumbered 34 = .ok (.checkcast 209, 3) := by decide +kernel
theorem dX9_caseNumbered_37 : decode cX9_caseNumbered 37 = .ok (.areturn, 1) := by decide +kernel
theorem dX9_today_0 : decode cX9_today 0 = .ok (.aload_n 0, 1) := by decide +kernel
theorem dX9_today_1 : decode cX9_today 1 = .ok (.getfield 71, 3) := by decide +kernel
theorem dX9_today_4 : decode cX9_today 4 = .ok (.bipush 24, 2) := by decide +kernel
theorem dX9_today_6 : decode cX9_today 6 = .ok (.idiv, 1) := by decide +kernel
theorem dX9_today_7 : decode cX9_today 7 = .ok (.ireturn, 1) := by decide +kernel
set_option maxRecDepth 20000 in
theorem ggX9_passHour_X9_today : GoodIn wsX9_passHour wsX9_today := goodIn_r _ [13, 1, 209, 210, 211, 212, 213, 214, 215, 216, 217, 218, 219, 220, 221, 222] (by decide +kernel) (by decide +kernel)
set_option maxRecDepth 20000 in
theorem gX9_passHour_X9_today : GoodIn wsX9_passHour (wsV RX9 113 RX9 yX9_today wsX9_today) := goodIn_app (goodIn_of _ (by decide +kernel)) ggX9_passHour_X9_today
set_option maxRecDepth 20000 in
theorem ggX9_passHour_X5_warmthOf : GoodIn wsX9_passHour wsX5_warmthOf := goodIn_r _ [18, 19, 20, 21, 17, 22, 23, 24, 25, 26, 27, 28, 29, 223, 224, 225, 226] (by decide +kernel) (by decide +kernel)
set_option maxRecDepth 20000 in
theorem gX9_passHour_X5_warmthOf : GoodIn wsX9_passHour (wsV RX9 328 RX5 yX5_warmthOf wsX5_warmthOf) := goodIn_app (goodIn_of _ (by decide +kernel)) ggX9_passHour_X5_warmthOf
set_option maxRecDepth 20000 in
theorem ggX9_passHour_X5_lossAt : GoodIn wsX9_passHour wsX5_lossAt := goodIn_r _ [32] (by decide +kernel) (by decide +kernel)
set_option maxRecDepth 20000 in
theorem gX9_passHour_X5_lossAt : GoodIn wsX9_passHour (va_wsS RX9 331 yX5_lossAt wsX5_lossAt) := goodIn_app (goodIn_of _ (by decide +kernel)) ggX9_passHour_X5_lossAt
set_option maxRecDepth 20000 in
theorem ggX9_passHour_Jx4a65c_size_8abf5 : GoodIn wsX9_passHour wsJx4a65c_size_8abf5 := goodIn_r _ [37, 38, 227, 228, 229] (by decide +kernel) (by decide +kernel)
set_option maxRecDepth 20000 in
theorem gX9_passHour_Jx4a65c_size_8abf5 : GoodIn wsX9_passHour (wsV RX9 143 RJx4a65c yJx4a65c_size_8abf5 wsJx4a65c_size_8abf5) := goodIn_app (goodIn_of _ (by decide +kernel)) ggX9_passHour_Jx4a65c_size_8abf5
set_option maxRecDepth 20000 in
theorem ggX9_passHour_Jx4a65c_get_915e3 : GoodIn wsX9_passHour wsJx4a65c_get_915e3 := goodIn_r _ [42, 38, 43, 44, 45, 46, 47, 48, 49, 50, 51, 52, 53, 36, 54, 55, 227, 228, 229] (by decide +kernel) (by decide +kernel)
set_option maxRecDepth 20000 in
theorem gX9_passHour_Jx4a65c_get_915e3 : GoodIn wsX9_passHour (wsV RX9 275 RJx4a65c yJx4a65c_get_915e3 wsJx4a65c_get_915e3) := goodIn_app (goodIn_of _ (by decide +kernel)) ggX9_passHour_Jx4a65c_get_915e3
set_option maxRecDepth 20000 in
theorem ggX9_passHour_X6_losePatience : GoodIn wsX9_passHour wsX6_losePatience := goodIn_r _ [60, 61, 62, 63, 230, 231, 232, 233, 234, 235, 236, 237, 238, 239, 240] (by decide +kernel) (by decide +kernel)
set_option maxRecDepth 20000 in
theorem gX9_passHour_X6_losePatience : GoodIn wsX9_passHour (wsV RX9 334 RX6 yX6_losePatience wsX6_losePatience) := goodIn_app (goodIn_of _ (by decide +kernel)) ggX9_passHour_X6_losePatience
set_option maxRecDepth 20000 in
theorem ggX9_passHour_X9_moveKeeper : GoodIn wsX9_passHour wsX9_moveKeeper := goodIn_ca (goodIn_r _ [67, 68, 69, 70, 71, 72, 73, 74, 75, 76, 77, 12, 78, 79, 28, 25, 29, 1, 80, 81, 82, 83, 84, 85, 86, 87, 33, 34, 35, 36, 37, 38, 39, 40, 41, 42, 43, 44, 45, 46, 47, 48, 49, 50, 51, 52, 53, 54, 55, 88, 89, 90, 91, 3, 4, 92, 93, 94, 95, 96, 97, 98, 99, 100, 101, 102, 103, 104, 59, 105, 61, 106, 107, 63, 108, 109, 110, 111, 112, 113, 241, 242, 243, 244, 245, 246, 247, 248, 249, 250, 251, 252, 253, 254, 255, 256, 257, 258, 259, 260, 261, 262, 263, 230, 231, 232, 233, 234, 235, 236, 237, 238, 239, 240, 209, 210, 211, 212, 213, 214, 215, 216, 217, 218, 219, 220, 221, 222, 227, 228, 229] (by decide +kernel) (by decide +kernel)) (goodIn_sub (fun _ h => List.mem_cons_of_mem _ (List.mem_append_right _ h)) (by decide +kernel))
set_option maxRecDepth 20000 in
theorem gX9_passHour_X9_moveKeeper : GoodIn wsX9_passHour (wsV RX9 337 RX9 yX9_moveKeeper wsX9_moveKeeper) := goodIn_app (goodIn_of _ (by decide +kernel)) ggX9_passHour_X9_moveKeeper
set_option maxRecDepth 20000 in
theorem ggX9_passHour_X9_passNoon : GoodIn wsX9_passHour wsX9_passNoon := goodIn_r _ [117, 2, 3, 118, 119, 59, 1, 9, 10, 11, 12, 13, 120, 121, 122, 17, 123, 124, 20, 21, 22, 23, 24, 25, 26, 27, 28, 29, 14, 15, 16, 18, 19, 125, 126, 127, 128, 129, 130, 131, 132, 133, 134, 135, 136, 137, 138, 33, 34, 35, 36, 37, 38, 139, 140, 141, 142, 143, 144, 62, 61, 106, 107, 63, 145, 146, 147, 148, 149, 150, 151, 152, 153, 154, 155, 156, 157, 158, 159, 160, 161, 55, 162, 163, 164, 165, 166, 167, 168, 169, 170, 171, 172, 173, 174, 175, 176, 177, 178, 179, 180, 181, 182, 183, 184, 185, 186, 187, 188, 189, 190, 191, 192, 193, 194, 195, 196, 197, 198, 199, 200, 201, 202, 203, 204, 205, 206, 207, 208, 209, 210, 211, 212, 213, 214, 215, 216, 217, 218, 219, 220, 221, 222, 230, 231, 232, 233, 234, 235, 236, 237, 238, 239, 240, 223, 224, 225, 226, 264, 265, 266, 267, 268, 269, 270, 227, 228, 229] (by decide +kernel) (by decide +kernel)
set_option maxRecDepth 20000 in
theorem gX9_passHour_X9_passNoon : GoodIn wsX9_passHour (wsV RX9 341 RX9 yX9_passNoon wsX9_passNoon) := goodIn_app (goodIn_of _ (by decide +kernel)) ggX9_passHour_X9_passNoon
theorem dX9_passHour_0 : decode cX9_passHour 0 = .ok (.aload_n 0, 1) := by decide +kernel
theorem dX9_passHour_1 : decode cX9_passHour 1 = .ok (.dup, 1) := by decide +kernel
theorem dX9_passHour_2 : decode cX9_passHour 2 = .ok (.getfield 71, 3) := by decide +kernel
theorem dX9_passHour_5 : decode cX9_passHour 5 = .ok (.iconst 1, 1) := by decide +kernel
theorem dX9_passHour_6 : decode cX9_passHour 6 = .ok (.iadd, 1) := by decide +kernel
theorem dX9_passHour_7 : decode cX9_passHour 7 = .ok (.putfield 71, 3) := by decide +kernel
theorem dX9_passHour_10 : decode cX9_passHour 10 = .ok (.aload_n 0, 1) := by decide +kernel
theorem dX9_passHour_11 : decode cX9_passHour 11 = .ok (.getfield 26, 3) := by decide +kernel
theorem dX9_passHour_14 : decode cX9_passHour 14 = .ok (.aload_n 0, 1) := by decide +kernel
theorem dX9_passHour_15 : decode cX9_passHour 15 = .ok (.invokevirtual 113, 3) := by decide +kernel
theorem dX9_passHour_18 : decode cX9_passHour 18 = .ok (.invokevirtual 328, 3) := by decide +kernel
theorem dX9_passHour_21 : decode cX9_passHour 21 = .ok (.invokestatic 331, 3) := by decide +kernel
theorem dX9_passHour_24 : decode cX9_passHour 24 = .ok (.istore_n 1, 1) := by decide +kernel
theorem dX9_passHour_25 : decode cX9_passHour 25 = .ok (.iconst 0, 1) := by decide +kernel
theorem dX9_passHour_26 : decode cX9_passHour 26 = .ok (.istore_n 2, 1) := by decide +kernel
theorem dX9_passHour_27 : decode cX9_passHour 27 = .ok (.iload_n 2, 1) := by decide +kernel
theorem dX9_passHour_28 : decode cX9_passHour 28 = .ok (.aload_n 0, 1) := by decide +kernel
theorem dX9_passHour_29 : decode cX9_passHour 29 = .ok (.getfield 44, 3) := by decide +kernel
theorem dX9_passHour_32 : decode cX9_passHour 32 = .ok (.invokevirtual 143, 3) := by decide +kernel
theorem dX9_passHour_35 : decode cX9_passHour 35 = .ok (.if_icmp .ge 28, 3) := by decide +kernel
theorem dX9_passHour_38 : decode cX9_passHour 38 = .ok (.aload_n 0, 1) := by decide +kernel
theorem dX9_passHour_39 : decode cX9_passHour 39 = .ok (.getfield 44, 3) := by decide +kernel
theorem dX9_passHour_42 : decode cX9_passHour 42 = .ok (.iload_n 2, 1) := by decide +kernel
theorem dX9_passHour_43 : decode cX9_passHour 43 = .ok (.invokevirtual 275, 3) := by decide +kernel
theorem dX9_passHour_46 : decode cX9_passHour 46 = .ok (.checkcast 292, 3) := by decide +kernel
theorem dX9_passHour_49 : decode cX9_passHour 49 = .ok (.iload_n 1, 1) := by decide +kernel
theorem dX9_passHour_50 : decode cX9_passHour 50 = .ok (.aload_n 0, 1) := by decide +kernel
theorem dX9_passHour_51 : decode cX9_passHour 51 = .ok (.getfield 71, 3) := by decide +kernel
theorem dX9_passHour_54 : decode cX9_passHour 54 = .ok (.invokevirtual 334, 3) := by decide +kernel
theorem dX9_passHour_57 : decode cX9_passHour 57 = .ok (.iinc 2 1, 3) := by decide +kernel
theorem dX9_passHour_60 : decode cX9_passHour 60 = .ok (.goto (-33), 3) := by decide +kernel
theorem dX9_passHour_63 : decode cX9_passHour 63 = .ok (.iconst 0, 1) := by decide +kernel
theorem dX9_passHour_64 : decode cX9_passHour 64 = .ok (.istore_n 2, 1) := by decide +kernel
theorem dX9_passHour_65 : decode cX9_passHour 65 = .ok (.iload_n 2, 1) := by decide +kernel
theorem dX9_passHour_66 : decode cX9_passHour 66 = .ok (.aload_n 0, 1) := by decide +kernel
theorem dX9_passHour_67 : decode cX9_passHour 67 = .ok (.getfield 47, 3) := by decide +kernel
theorem dX9_passHour_70 : decode cX9_passHour 70 = .ok (.invokevirtual 143, 3) := by decide +kernel
theorem dX9_passHour_73 : decode cX9_passHour 73 = .ok (.if_icmp .ge 25, 3) := by decide +kernel
theorem dX9_passHour_76 : decode cX9_passHour 76 = .ok (.aload_n 0, 1) := by decide +kernel
theorem dX9_passHour_77 : decode cX9_passHour 77 = .ok (.iload_n 2, 1) := by decide +kernel
theorem dX9_passHour_78 : decode cX9_passHour 78 = .ok (.aload_n 0, 1) := by decide +kernel
theorem dX9_passHour_79 : decode cX9_passHour 79 = .ok (.getfield 47, 3) := by decide +kernel
theorem dX9_passHour_82 : decode cX9_passHour 82 = .ok (.iload_n 2, 1) := by decide +kernel
theorem dX9_passHour_83 : decode cX9_passHour 83 = .ok (.invokevirtual 275, 3) := by decide +kernel
theorem dX9_passHour_86 : decode cX9_passHour 86 = .ok (.checkcast 167, 3) := by decide +kernel
theorem dX9_passHour_89 : decode cX9_passHour 89 = .ok (.invokevirtual 337, 3) := by decide +kernel
theorem dX9_passHour_92 : decode cX9_passHour 92 = .ok (.iinc 2 1, 3) := by decide +kernel
theorem dX9_passHour_95 : decode cX9_passHour 95 = .ok (.goto (-30), 3) := by decide +kernel
theorem dX9_passHour_98 : decode cX9_passHour 98 = .ok (.aload_n 0, 1) := by decide +kernel
theorem dX9_passHour_99 : decode cX9_passHour 99 = .ok (.getfield 71, 3) := by decide +kernel
theorem dX9_passHour_102 : decode cX9_passHour 102 = .ok (.bipush 24, 2) := by decide +kernel
theorem dX9_passHour_104 : decode cX9_passHour 104 = .ok (.irem, 1) := by decide +kernel
theorem dX9_passHour_105 : decode cX9_passHour 105 = .ok (.bipush 12, 2) := by decide +kernel
theorem dX9_passHour_107 : decode cX9_passHour 107 = .ok (.if_icmp .ne 38, 3) := by decide +kernel
theorem dX9_passHour_110 : decode cX9_passHour 110 = .ok (.iconst 0, 1) := by decide +kernel
theorem dX9_passHour_111 : decode cX9_passHour 111 = .ok (.istore_n 2, 1) := by decide +kernel
theorem dX9_passHour_112 : decode cX9_passHour 112 = .ok (.iload_n 2, 1) := by decide +kernel
theorem dX9_passHour_113 : decode cX9_passHour 113 = .ok (.aload_n 0, 1) := by decide +kernel
theorem dX9_passHour_114 : decode cX9_passHour 114 = .ok (.getfield 40, 3) := by decide +kernel
theorem dX9_passHour_117 : decode cX9_passHour 117 = .ok (.invokevirtual 143, 3) := by decide +kernel
theorem dX9_passHour_120 : decode cX9_passHour 120 = .ok (.if_icmp .ge 25, 3) := by decide +kernel
theorem dX9_passHour_123 : decode cX9_passHour 123 = .ok (.aload_n 0, 1) := by decide +kernel
theorem dX9_passHour_124 : decode cX9_passHour 124 = .ok (.iload_n 2, 1) := by decide +kernel
theorem dX9_passHour_125 : decode cX9_passHour 125 = .ok (.aload_n 0, 1) := by decide +kernel
theorem dX9_passHour_126 : decode cX9_passHour 126 = .ok (.getfield 40, 3) := by decide +kernel
theorem dX9_passHour_129 : decode cX9_passHour 129 = .ok (.iload_n 2, 1) := by decide +kernel
theorem dX9_passHour_130 : decode cX9_passHour 130 = .ok (.invokevirtual 275, 3) := by decide +kernel
theorem dX9_passHour_133 : decode cX9_passHour 133 = .ok (.checkcast 151, 3) := by decide +kernel
theorem dX9_passHour_136 : decode cX9_passHour 136 = .ok (.invokevirtual 341, 3) := by decide +kernel
theorem dX9_passHour_139 : decode cX9_passHour 139 = .ok (.iinc 2 1, 3) := by decide +kernel
theorem dX9_passHour_142 : decode cX9_passHour 142 = .ok (.goto (-30), 3) := by decide +kernel
theorem dX9_passHour_145 : decode cX9_passHour 145 = .ok (.return_, 1) := by decide +kernel
set_option maxRecDepth 20000 in
theorem ggX9_moveKeeper_X4_comeHome : GoodIn wsX9_moveKeeper wsX4_comeHome := goodIn_r _ [5, 6, 7, 80, 81, 82, 83, 84, 85, 86, 87, 88, 89, 90, 91] (by decide +kernel) (by decide +kernel)
set_option maxRecDepth 20000 in
theorem gX9_moveKeeper_X4_comeHome : GoodIn wsX9_moveKeeper (wsV RX9 349 RX4 yX4_comeHome wsX4_comeHome) := goodIn_app (goodIn_of _ (by decide +kernel)) ggX9_moveKeeper_X4_comeHome
set_option maxRecDepth 20000 in
theorem ggX9_moveKeeper_X9_workAtCase : GoodIn wsX9_moveKeeper wsX9_workAtCase := goodIn_ca (goodIn_r _ [12, 13, 14, 15, 16, 17, 18, 19, 20, 11, 21, 22, 23, 24, 25, 26, 27, 28, 29, 30, 31, 32, 33, 34, 35, 36, 37, 38, 39, 40, 41, 42, 43, 44, 45, 46, 47, 48, 49, 50, 51, 52, 53, 54, 55, 56, 57, 58, 59, 60, 61, 62, 63, 64, 65, 66, 67, 68, 69, 70, 71, 72, 73, 80, 81, 82, 83, 84, 85, 86, 87, 88, 89, 90, 91, 92, 93, 94, 95, 96, 97, 98, 99, 100, 101, 102, 103, 104, 105, 106, 107, 108, 109, 110, 111, 112, 113, 114, 115, 116, 117, 118, 119, 120, 121, 122, 123, 124, 125, 126, 127, 128, 129, 130] (by decide +kernel) (by decide +kernel)) (goodIn_sub (fun _ h => List.mem_cons_of_mem _ (List.mem_append_right _ h)) (by decide +kernel))
set_option maxRecDepth 20000 in
theorem gX9_moveKeeper_X9_workAtCase : GoodIn wsX9_moveKeeper (wsV RX9 352 RX9 yX9_workAtCase wsX9_workAtCase) := goodIn_app (goodIn_of _ (by decide +kernel)) ggX9_moveKeeper_X9_workAtCase
set_option maxRecDepth 20000 in
theorem ggX9_moveKeeper_X4_turnBack : GoodIn wsX9_moveKeeper wsX4_turnBack := goodIn_r _ [77, 6, 78, 79, 80, 81, 82, 83, 84, 85, 86, 87, 88, 89, 90, 91] (by decide +kernel) (by decide +kernel)
set_option maxRecDepth 20000 in
theorem gX9_moveKeeper_X4_turnBack : GoodIn wsX9_moveKeeper (wsV RX9 355 RX4 yX4_turnBack wsX4_turnBack) := goodIn_app (goodIn_of _ (by decide +kernel)) ggX9_moveKeeper_X4_turnBack
theorem dX9_moveKeeper_0 : decode cX9_moveKeeper 0 = .ok (.aload_n 2, 1) := by decide +kernel
theorem dX9_moveKeeper_1 : decode cX9_moveKeeper 1 = .ok (.getfield 345, 3) := by decide +kernel
theorem dX9_moveKeeper_4 : decode cX9_moveKeeper 4 = .ok (.ifCond .ne 4, 3) := by decide +kernel
theorem dX9_moveKeeper_7 : decode cX9_moveKeeper 7 = .ok (.return_, 1) := by decide +kernel
theorem dX9_moveKeeper_8 : decode cX9_moveKeeper 8 = .ok (.aload_n 2, 1) := by decide +kernel
theorem dX9_moveKeeper_9 : decode cX9_moveKeeper 9 = .ok (.dup, 1) := by decide +kernel
theorem dX9_moveKeeper_10 : decode cX9_moveKeeper 10 = .ok (.getfield 346, 3) := by decide +kernel
theorem dX9_moveKeeper_13 : decode cX9_moveKeeper 13 = .ok (.iconst 1, 1) := by decide +kernel
theorem dX9_moveKeeper_14 : decode cX9_moveKeeper 14 = .ok (.isub, 1) := by decide +kernel
theorem dX9_moveKeeper_15 : decode cX9_moveKeeper 15 = .ok (.putfield 346, 3) := by decide +kernel
theorem dX9_moveKeeper_18 : decode cX9_moveKeeper 18 = .ok (.aload_n 2, 1) := by decide +kernel
theorem dX9_moveKeeper_19 : decode cX9_moveKeeper 19 = .ok (.getfield 346, 3) := by decide +kernel
theorem dX9_moveKeeper_22 : decode cX9_moveKeeper 22 = .ok (.ifCond .le 4, 3) := by decide +kernel
theorem dX9_moveKeeper_25 : decode cX9_moveKeeper 25 = .ok (.return_, 1) := by decide +kernel
theorem dX9_moveKeeper_26 : decode cX9_moveKeeper 26 = .ok (.aload_n 2, 1) := by decide +kernel
theorem dX9_moveKeeper_27 : decode cX9_moveKeeper 27 = .ok (.getfield 345, 3) := by decide +kernel
theorem dX9_moveKeeper_30 : decode cX9_moveKeeper 30 = .ok (.iconst 2, 1) := by decide +kernel
theorem dX9_moveKeeper_31 : decode cX9_moveKeeper 31 = .ok (.if_icmp .ne 10, 3) := by decide +kernel
theorem dX9_moveKeeper_34 : decode cX9_moveKeeper 34 = .ok (.aload_n 2, 1) := by decide +kernel
theorem dX9_moveKeeper_35 : decode cX9_moveKeeper 35 = .ok (.invokevirtual 349, 3) := by decide +kernel
theorem dX9_moveKeeper_38 : decode cX9_moveKeeper 38 = .ok (.goto 13, 3) := by decide +kernel
theorem dX9_moveKeeper_41 : decode cX9_moveKeeper 41 = .ok (.aload_n 0, 1) := by decide +kernel
theorem dX9_moveKeeper_42 : decode cX9_moveKeeper 42 = .ok (.iload_n 1, 1) := by decide +kernel
theorem dX9_moveKeeper_43 : decode cX9_moveKeeper 43 = .ok (.aload_n 2, 1) := by decide +kernel
theorem dX9_moveKeeper_44 : decode cX9_moveKeeper 44 = .ok (.invokevirtual 352, 3) := by decide +kernel
theorem dX9_moveKeeper_47 : decode cX9_moveKeeper 47 = .ok (.aload_n 2, 1) := by decide +kernel
theorem dX9_moveKeeper_48 : decode cX9_moveKeeper 48 = .ok (.invokevirtual 355, 3) := by decide +kernel
theorem dX9_moveKeeper_51 : decode cX9_moveKeeper 51 = .ok (.return_, 1) := by decide +kernel
set_option maxRecDepth 20000 in
theorem ggX9_workAtCase_X9_caseNumbered : GoodIn wsX9_workAtCase wsX9_caseNumbered := goodIn_ca (goodIn_r _ [10, 11, 12, 13, 14, 15, 16, 17, 18, 19, 20, 21, 22, 23, 24, 25, 26, 27, 28, 29, 30, 31, 32, 33, 34, 35, 36, 37, 97, 98, 99, 100, 101, 102, 103, 104, 105, 106, 107, 108, 109, 110, 111, 112, 113] (by decide +kernel) (by decide +kernel)) (goodIn_sub (fun _ h => List.mem_cons_of_mem _ (List.mem_append_right _ h)) (by decide +kernel))
set_option maxRecDepth 20000 in
theorem gX9_workAtCase_X9_caseNumbered : GoodIn wsX9_workAtCase (wsV RX9 220 RX9 yX9_caseNumbered wsX9_caseNumbered) := goodIn_app (goodIn_of _ (by decide +kernel)) ggX9_workAtCase_X9_caseNumbered
set_option maxRecDepth 20000 in
theorem ggX9_workAtCase_X9_nearestSwarm : GoodIn wsX9_workAtCase wsX9_nearestSwarm := goodIn_r _ [41, 42, 43, 15, 16, 17, 18, 19, 20, 21, 22, 23, 24, 25, 26, 27, 28, 29, 30, 31, 32, 33, 34, 35, 36, 37, 44, 45, 9, 46, 47, 48, 3, 49, 1, 2, 4, 97, 98, 99, 100, 101, 102, 103, 104, 105, 106, 107, 108, 109, 110, 86, 87, 88, 89, 90, 91, 92, 93, 94, 95, 96, 111, 112, 113] (by decide +kernel) (by decide +kernel)
set_option maxRecDepth 20000 in
theorem gX9_workAtCase_X9_nearestSwarm : GoodIn wsX9_workAtCase (wsV RX9 359 RX9 yX9_nearestSwarm wsX9_nearestSwarm) := goodIn_app (goodIn_of _ (by decide +kernel)) ggX9_workAtCase_X9_nearestSwarm
set_option maxRecDepth 20000 in
theorem ggX9_workAtCase_X9_swarmNumbered : GoodIn wsX9_workAtCase wsX9_swarmNumbered := goodIn_ca (goodIn_r _ [53, 11, 12, 42, 43, 15, 16, 17, 18, 19, 20, 21, 22, 23, 24, 25, 26, 27, 28, 29, 30, 31, 32, 33, 34, 35, 36, 37, 97, 98, 99, 100, 101, 102, 103, 104, 105, 106, 107, 108, 109, 110, 111, 112, 113] (by decide +kernel) (by decide +kernel)) (goodIn_sub (fun _ h => List.mem_cons_of_mem _ (List.mem_append_right _ h)) (by decide +kernel))
set_option maxRecDepth 20000 in
theorem gX9_workAtCase_X9_swarmNumbered : GoodIn wsX9_workAtCase (wsV RX9 287 RX9 yX9_swarmNumbered wsX9_swarmNumbered) := goodIn_app (goodIn_of _ (by decide +kernel)) ggX9_workAtCase_X9_swarmNumbered
set_option maxRecDepth 20000 in
theorem ggX9_workAtCase_X6_isHadBy : GoodIn wsX9_workAtCase wsX6_isHadBy := goodIn_r _ [58, 59, 60, 61, 62, 86, 87, 88, 89, 90, 91, 92, 93, 94, 95, 96] (by decide +kernel) (by decide +kernel)
set_option maxRecDepth 20000 in
theorem gX9_workAtCase_X6_isHadBy : GoodIn wsX9_workAtCase (wsV RX9 374 RX6 yX6_isHadBy wsX6_isHadBy) := goodIn_app (goodIn_of _ (by decide +kernel)) ggX9_workAtCase_X6_isHadBy
theorem dX9_workAtCase_0 : decode cX9_workAtCase 0 = .ok (.aload_n 0, 1) := by decide +kernel
theorem dX9_workAtCase_1 : decode cX9_workAtCase 1 = .ok (.aload_n 2, 1) := by decide +kernel
theorem dX9_workAtCase_2 : decode cX9_workAtCase 2 = .ok (.getfield 358, 3) := by decide +kernel
theorem dX9_workAtCase_5 : decode cX9_workAtCase 5 = .ok (.invokevirtual 220, 3) := by decide +kernel
theorem dX9_workAtCase_8 : decode cX9_workAtCase 8 = .ok (.astore_n 3, 1) := by decide +kernel
theorem dX9_workAtCase_9 : decode cX9_workAtCase 9 = .ok (.aload_n 0, 1) := by decide +kernel
theorem dX9_workAtCase_10 : decode cX9_workAtCase 10 = .ok (.aload_n 3, 1) := by decide +kernel
theorem dX9_workAtCase_11 : decode cX9_workAtCase 11 = .ok (.getfield 240, 3) := by decide +kernel
theorem dX9_workAtCase_14 : decode cX9_workAtCase 14 = .ok (.aload_n 3, 1) := by decide +kernel
theorem dX9_workAtCase_15 : decode cX9_workAtCase 15 = .ok (.getfield 241, 3) := by decide +kernel
theorem dX9_workAtCase_18 : decode cX9_workAtCase 18 = .ok (.invokevirtual 359, 3) := by decide +kernel
theorem dX9_workAtCase_21 : decode cX9_workAtCase 21 = .ok (.istore 4, 2) := by decide +kernel
theorem dX9_workAtCase_23 : decode cX9_workAtCase 23 = .ok (.iload 4, 2) := by decide +kernel
theorem dX9_workAtCase_25 : decode cX9_workAtCase 25 = .ok (.iconst (-1), 1) := by decide +kernel
theorem dX9_workAtCase_26 : decode cX9_workAtCase 26 = .ok (.if_icmp .ne 9, 3) := by decide +kernel
theorem dX9_workAtCase_29 : decode cX9_workAtCase 29 = .ok (.aload_n 3, 1) := by decide +kernel
theorem dX9_workAtCase_30 : decode cX9_workAtCase 30 = .ok (.iconst 3, 1) := by decide +kernel
theorem dX9_workAtCase_31 : decode cX9_workAtCase 31 = .ok (.putfield 232, 3) := by decide +kernel
theorem dX9_workAtCase_34 : decode cX9_workAtCase 34 = .ok (.return_, 1) := by decide +kernel
theorem dX9_workAtCase_35 : decode cX9_workAtCase 35 = .ok (.aload_n 0, 1) := by decide +kernel
theorem dX9_workAtCase_36 : decode cX9_workAtCase 36 = .ok (.iload 4, 2) := by decide +kernel
theorem dX9_workAtCase_38 : decode cX9_workAtCase 38 = .ok (.invokevirtual 287, 3) := by decide +kernel
theorem dX9_workAtCase_41 : decode cX9_workAtCase 41 = .ok (.astore 5, 2) := by decide +kernel
theorem dX9_workAtCase_43 : decode cX9_workAtCase 43 = .ok (.aload 5, 2) := by decide +kernel
theorem dX9_workAtCase_45 : decode cX9_workAtCase 45 = .ok (.getfield 362, 3) := by decide +kernel
theorem dX9_workAtCase_48 : decode cX9_workAtCase 48 = .ok (.aload_n 2, 1) := by decide +kernel
theorem dX9_workAtCase_49 : decode cX9_workAtCase 49 = .ok (.getfield 365, 3) := by decide +kernel
theorem dX9_workAtCase_52 : decode cX9_workAtCase 52 = .ok (.if_icmp .le 25, 3) := by decide +kernel
theorem dX9_workAtCase_55 : decode cX9_workAtCase 55 = .ok (.aload_n 3, 1) := by decide +kernel
theorem dX9_workAtCase_56 : decode cX9_workAtCase 56 = .ok (.iconst 0, 1) := by decide +kernel
theorem dX9_workAtCase_57 : decode cX9_workAtCase 57 = .ok (.putfield 232, 3) := by decide +kernel
theorem dX9_workAtCase_60 : decode cX9_workAtCase 60 = .ok (.aload_n 3, 1) := by decide +kernel
theorem dX9_workAtCase_61 : decode cX9_workAtCase 61 = .ok (.aload_n 3, 1) := by decide +kernel
theorem dX9_workAtCase_62 : decode cX9_workAtCase 62 = .ok (.getfield 368, 3) := by decide +kernel
theorem dX9_workAtCase_65 : decode cX9_workAtCase 65 = .ok (.aload 5, 2) := by decide +kernel
theorem dX9_workAtCase_67 : decode cX9_workAtCase 67 = .ok (.getfield 362, 3) := by decide +kernel
theorem dX9_workAtCase_70 : decode cX9_workAtCase 70 = .ok (.invokestatic 371, 3) := by decide +kernel
theorem dX9_workAtCase_73 : decode cX9_workAtCase 73 = .ok (.putfield 368, 3) := by decide +kernel
theorem dX9_workAtCase_76 : decode cX9_workAtCase 76 = .ok (.return_, 1) := by decide +kernel
theorem dX9_workAtCase_77 : decode cX9_workAtCase 77 = .ok (.aload 5, 2) := by decide +kernel
theorem dX9_workAtCase_79 : decode cX9_workAtCase 79 = .ok (.iload_n 1, 1) := by decide +kernel
theorem dX9_workAtCase_80 : decode cX9_workAtCase 80 = .ok (.aload_n 2, 1) := by decide +kernel
theorem dX9_workAtCase_81 : decode cX9_workAtCase 81 = .ok (.getfield 358, 3) := by decide +kernel
theorem dX9_workAtCase_84 : decode cX9_workAtCase 84 = .ok (.aload_n 0, 1) := by decide +kernel
theorem dX9_workAtCase_85 : decode cX9_workAtCase 85 = .ok (.getfield 71, 3) := by decide +kernel
theorem dX9_workAtCase_88 : decode cX9_workAtCase 88 = .ok (.invokevirtual 374, 3) := by decide +kernel
theorem dX9_workAtCase_91 : decode cX9_workAtCase 91 = .ok (.aload_n 2, 1) := by decide +kernel
theorem dX9_workAtCase_92 : decode cX9_workAtCase 92 = .ok (.dup, 1) := by decide +kernel
theorem dX9_workAtCase_93 : decode cX9_workAtCase 93 = .ok (.getfield 178, 3) := by decide +kernel
theorem dX9_workAtCase_96 : decode cX9_workAtCase 96 = .ok (.iconst 1, 1) := by decide +kernel
theorem dX9_workAtCase_97 : decode cX9_workAtCase 97 = .ok (.isub, 1) := by decide +kernel
theorem dX9_workAtCase_98 : decode cX9_workAtCase 98 = .ok (.putfield 178, 3) := by decide +kernel
theorem dX9_workAtCase_101 : decode cX9_workAtCase 101 = .ok (.aload_n 2, 1) := by decide +kernel
theorem dX9_workAtCase_102 : decode cX9_workAtCase 102 = .ok (.dup, 1) := by decide +kernel
theorem dX9_workAtCase_103 : decode cX9_workAtCase 103 = .ok (.getfield 377, 3) := by decide +kernel
theorem dX9_workAtCase_106 : decode cX9_workAtCase 106 = .ok (.iconst 1, 1) := by decide +kernel
theorem dX9_workAtCase_107 : decode cX9_workAtCase 107 = .ok (.iadd, 1) := by decide +kernel
theorem dX9_workAtCase_108 : decode cX9_workAtCase 108 = .ok (.putfield 377, 3) := by decide +kernel
theorem dX9_workAtCase_111 : decode cX9_workAtCase 111 = .ok (.aload_n 3, 1) := by decide +kernel
theorem dX9_workAtCase_112 : decode cX9_workAtCase 112 = .ok (.iconst 2, 1) := by decide +kernel
theorem dX9_workAtCase_113 : decode cX9_workAtCase 113 = .ok (.putfield 232, 3) := by decide +kernel
theorem dX9_workAtCase_116 : decode cX9_workAtCase 116 = .ok (.aload_n 3, 1) := by decide +kernel
theorem dX9_workAtCase_117 : decode cX9_workAtCase 117 = .ok (.iload 4, 2) := by decide +kernel
theorem dX9_workAtCase_119 : decode cX9_workAtCase 119 = .ok (.putfield 380, 3) := by decide +kernel
theorem dX9_workAtCase_122 : decode cX9_workAtCase 122 = .ok (.return_, 1) := by decide +kernel
set_option maxRecDepth 20000 in
theorem ggX9_nearestSwarm_Jx4a65c_size_8abf5 : GoodIn wsX9_nearestSwarm wsJx4a65c_size_8abf5 := goodIn_r _ [7, 8, 62, 63, 64] (by decide +kernel) (by decide +kernel)
set_option maxRecDepth 20000 in
theorem gX9_nearestSwarm_Jx4a65c_size_8abf5 : GoodIn wsX9_nearestSwarm (wsV RX9 143 RJx4a65c yJx4a65c_size_8abf5 wsJx4a65c_size_8abf5) := goodIn_app (goodIn_of _ (by decide +kernel)) ggX9_nearestSwarm_Jx4a65c_size_8abf5
set_option maxRecDepth 20000 in
theorem ggX9_nearestSwarm_Jx4a65c_get_915e3 : GoodIn wsX9_nearestSwarm wsJx4a65c_get_915e3 := goodIn_r _ [12, 8, 13, 14, 15, 16, 17, 18, 19, 20, 21, 22, 23, 6, 24, 25, 62, 63, 64] (by decide +kernel) (by decide +kernel)
set_option maxRecDepth 20000 in
theorem gX9_nearestSwarm_Jx4a65c_get_915e3 : GoodIn wsX9_nearestSwarm (wsV RX9 275 RJx4a65c yJx4a65c_get_915e3 wsJx4a65c_get_915e3) := goodIn_app (goodIn_of _ (by decide +kernel)) ggX9_nearestSwarm_Jx4a65c_get_915e3
set_option maxRecDepth 20000 in
theorem ggX9_nearestSwarm_X9_stepsBetween : GoodIn wsX9_nearestSwarm wsX9_stepsBetween := goodIn_r _ [29, 30, 31, 32, 33, 34, 35, 36] (by decide +kernel) (by decide +kernel)
set_option maxRecDepth 20000 in
theorem gX9_nearestSwarm_X9_stepsBetween : GoodIn wsX9_nearestSwarm (va_wsS RX9 385 yX9_stepsBetween wsX9_stepsBetween) := goodIn_app (goodIn_of _ (by decide +kernel)) ggX9_nearestSwarm_X9_stepsBetween
theorem dX9_nearestSwarm_0 : decode cX9_nearestSwarm 0 = .ok (.iconst (-1), 1) := by decide +kernel
theorem dX9_nearestSwarm_1 : decode cX9_nearestSwarm 1 = .ok (.istore_n 3, 1) := by decide +kernel
theorem dX9_nearestSwarm_2 : decode cX9_nearestSwarm 2 = .ok (.iconst 2, 1) := by decide +kernel
theorem dX9_nearestSwarm_3 : decode cX9_nearestSwarm 3 = .ok (.istore 4, 2) := by decide +kernel
theorem dX9_nearestSwarm_5 : decode cX9_nearestSwarm 5 = .ok (.iconst 0, 1) := by decide +kernel
theorem dX9_nearestSwarm_6 : decode cX9_nearestSwarm 6 = .ok (.istore 5, 2) := by decide +kernel
theorem dX9_nearestSwarm_8 : decode cX9_nearestSwarm 8 = .ok (.iload 5, 2) := by decide +kernel
theorem dX9_nearestSwarm_10 : decode cX9_nearestSwarm 10 = .ok (.aload_n 0, 1) := by decide +kernel
theorem dX9_nearestSwarm_11 : decode cX9_nearestSwarm 11 = .ok (.getfield 44, 3) := by decide +kernel
theorem dX9_nearestSwarm_14 : decode cX9_nearestSwarm 14 = .ok (.invokevirtual 143, 3) := by decide +kernel
theorem dX9_nearestSwarm_17 : decode cX9_nearestSwarm 17 = .ok (.if_icmp .ge 62, 3) := by decide +kernel
theorem dX9_nearestSwarm_20 : decode cX9_nearestSwarm 20 = .ok (.aload_n 0, 1) := by decide +kernel
theorem dX9_nearestSwarm_21 : decode cX9_nearestSwarm 21 = .ok (.getfield 44, 3) := by decide +kernel
theorem dX9_nearestSwarm_24 : decode cX9_nearestSwarm 24 = .ok (.iload 5, 2) := by decide +kernel
theorem dX9_nearestSwarm_26 : decode cX9_nearestSwarm 26 = .ok (.invokevirtual 275, 3) := by decide +kernel
theorem dX9_nearestSwarm_29 : decode cX9_nearestSwarm 29 = .ok (.checkcast 292, 3) := by decide +kernel
theorem dX9_nearestSwarm_32 : decode cX9_nearestSwarm 32 = .ok (.astore 6, 2) := by decide +kernel
theorem dX9_nearestSwarm_34 : decode cX9_nearestSwarm 34 = .ok (.aload 6, 2) := by decide +kernel
theorem dX9_nearestSwarm_36 : decode cX9_nearestSwarm 36 = .ok (.getfield 383, 3) := by decide +kernel
theorem dX9_nearestSwarm_39 : decode cX9_nearestSwarm 39 = .ok (.aload 6, 2) := by decide +kernel
theorem dX9_nearestSwarm_41 : decode cX9_nearestSwarm 41 = .ok (.getfield 384, 3) := by decide +kernel
theorem dX9_nearestSwarm_44 : decode cX9_nearestSwarm 44 = .ok (.iload_n 1, 1) := by decide +kernel
theorem dX9_nearestSwarm_45 : decode cX9_nearestSwarm 45 = .ok (.iload_n 2, 1) := by decide +kernel
theorem dX9_nearestSwarm_46 : decode cX9_nearestSwarm 46 = .ok (.invokestatic 385, 3) := by decide +kernel
theorem dX9_nearestSwarm_49 : decode cX9_nearestSwarm 49 = .ok (.istore 7, 2) := by decide +kernel
theorem dX9_nearestSwarm_51 : decode cX9_nearestSwarm 51 = .ok (.aload 6, 2) := by decide +kernel
theorem dX9_nearestSwarm_53 : decode cX9_nearestSwarm 53 = .ok (.getfield 291, 3) := by decide +kernel
theorem dX9_nearestSwarm_56 : decode cX9_nearestSwarm 56 = .ok (.ifCond .ne 17, 3) := by decide +kernel
theorem dX9_nearestSwarm_59 : decode cX9_nearestSwarm 59 = .ok (.iload 7, 2) := by decide +kernel
theorem dX9_nearestSwarm_61 : decode cX9_nearestSwarm 61 = .ok (.iload 4, 2) := by decide +kernel
theorem dX9_nearestSwarm_63 : decode cX9_nearestSwarm 63 = .ok (.if_icmp .ge 10, 3) := by decide +kernel
theorem dX9_nearestSwarm_66 : decode cX9_nearestSwarm 66 = .ok (.iload 5, 2) := by decide +kernel
theorem dX9_nearestSwarm_68 : decode cX9_nearestSwarm 68 = .ok (.istore_n 3, 1) := by decide +kernel
theorem dX9_nearestSwarm_69 : decode cX9_nearestSwarm 69 = .ok (.iload 7, 2) := by decide +kernel
theorem dX9_nearestSwarm_71 : decode cX9_nearestSwarm 71 = .ok (.istore 4, 2) := by decide +kernel
theorem dX9_nearestSwarm_73 : decode cX9_nearestSwarm 73 = .ok (.iinc 5 1, 3) := by decide +kernel
theorem dX9_nearestSwarm_76 : decode cX9_nearestSwarm 76 = .ok (.goto (-68), 3) := by decide +kernel
theorem dX9_nearestSwarm_79 : decode cX9_nearestSwarm 79 = .ok (.iload_n 3, 1) := by decide +kernel
theorem dX9_nearestSwarm_80 : decode cX9_nearestSwarm 80 = .ok (.ireturn, 1) := by decide +kernel
set_option maxRecDepth 20000 in
theorem ggX9_passNoon_X9_today : GoodIn wsX9_passNoon wsX9_today := goodIn_r _ [11, 6, 129, 130, 131, 132, 133, 134, 135, 136, 137, 138, 139, 140, 141, 142] (by decide +kernel) (by decide +kernel)
set_option maxRecDepth 20000 in
theorem gX9_passNoon_X9_today : GoodIn wsX9_passNoon (wsV RX9 113 RX9 yX9_today wsX9_today) := goodIn_app (goodIn_of _ (by decide +kernel)) ggX9_passNoon_X9_today
set_option maxRecDepth 20000 in
theorem ggX9_passNoon_X5_bloomOf : GoodIn wsX9_passNoon wsX5_bloomOf := goodIn_r _ [16, 17, 18, 19, 15, 20, 21, 22, 23, 24, 25, 26, 27, 154, 155, 156, 157] (by decide +kernel) (by decide +kernel)
set_option maxRecDepth 20000 in
theorem gX9_passNoon_X5_bloomOf : GoodIn wsX9_passNoon (wsV RX9 389 RX5 yX5_bloomOf wsX5_bloomOf) := goodIn_app (goodIn_of _ (by decide +kernel)) ggX9_passNoon_X5_bloomOf
set_option maxRecDepth 20000 in
theorem ggX9_passNoon_X5_warmthOf : GoodIn wsX9_passNoon wsX5_warmthOf := goodIn_r _ [31, 32, 18, 19, 15, 20, 21, 22, 23, 24, 25, 26, 27, 154, 155, 156, 157] (by decide +kernel) (by decide +kernel)
set_option maxRecDepth 20000 in
theorem gX9_passNoon_X5_warmthOf : GoodIn wsX9_passNoon (wsV RX9 328 RX5 yX5_warmthOf wsX5_warmthOf) := goodIn_app (goodIn_of _ (by decide +kernel)) ggX9_passNoon_X5_warmthOf
set_option maxRecDepth 20000 in
theorem ggX9_passNoon_X3_grow : GoodIn wsX9_passNoon wsX3_grow := goodIn_r _ [37, 38, 39, 40, 22, 23, 24, 41, 158, 159, 160, 161, 162, 163, 164] (by decide +kernel) (by decide +kernel)
set_option maxRecDepth 20000 in
theorem gX9_passNoon_X3_grow : GoodIn wsX9_passNoon (wsV RX9 392 RX3 yX3_grow wsX3_grow) := goodIn_app (goodIn_of _ (by decide +kernel)) ggX9_passNoon_X3_grow
set_option maxRecDepth 20000 in
theorem ggX9_passNoon_X3_isRipe : GoodIn wsX9_passNoon wsX3_isRipe := goodIn_r _ [45, 38, 46, 41, 158, 159, 160, 161, 162, 163, 164] (by decide +kernel) (by decide +kernel)
set_option maxRecDepth 20000 in
theorem gX9_passNoon_X3_isRipe : GoodIn wsX9_passNoon (wsV RX9 395 RX3 yX3_isRipe wsX3_isRipe) := goodIn_app (goodIn_of _ (by decide +kernel)) ggX9_passNoon_X3_isRipe
set_option maxRecDepth 20000 in
theorem ggX9_passNoon_Jx4a65c_size_8abf5 : GoodIn wsX9_passNoon wsJx4a65c_size_8abf5 := goodIn_r _ [51, 52, 165, 166, 167] (by decide +kernel) (by decide +kernel)
set_option maxRecDepth 20000 in
theorem gX9_passNoon_Jx4a65c_size_8abf5 : GoodIn wsX9_passNoon (wsV RX9 143 RJx4a65c yJx4a65c_size_8abf5 wsJx4a65c_size_8abf5) := goodIn_app (goodIn_of _ (by decide +kernel)) ggX9_passNoon_Jx4a65c_size_8abf5
set_option maxRecDepth 20000 in
theorem ggX9_passNoon_X6_init : GoodIn wsX9_passNoon wsX6_init := goodIn_r _ [55, 56, 57, 58, 59, 60, 61, 62, 63, 64, 65, 66, 67, 68, 69, 70, 71, 5, 72, 73, 22, 23, 24, 74, 26, 27, 143, 144, 145, 146, 147, 148, 149, 150, 151, 152, 153, 158, 159, 160, 161, 162, 163, 164] (by decide +kernel) (by decide +kernel)
set_option maxRecDepth 20000 in
theorem gX9_passNoon_X6_init : GoodIn wsX9_passNoon (wsX6_init) := ggX9_passNoon_X6_init
set_option maxRecDepth 20000 in
theorem ggX9_passNoon_Jx4a65c_add_9ea2d : GoodIn wsX9_passNoon wsJx4a65c_add_9ea2d := goodIn_r _ [78, 79, 80, 81, 52, 82, 83, 84, 50, 85, 86, 87, 88, 89, 90, 91, 92, 93, 94, 95, 26, 23, 27, 96, 97, 98, 99, 100, 101, 102, 103, 104, 105, 106, 107, 108, 109, 110, 111, 112, 113, 114, 115, 116, 117, 118, 119, 22, 24, 120, 121, 122, 123, 165, 166, 167] (by decide +kernel) (by decide +kernel)
set_option maxRecDepth 20000 in
theorem gX9_passNoon_Jx4a65c_add_9ea2d : GoodIn wsX9_passNoon (wsV RX9 156 RJx4a65c yJx4a65c_add_9ea2d wsJx4a65c_add_9ea2d) := goodIn_app (goodIn_of _ (by decide +kernel)) ggX9_passNoon_Jx4a65c_add_9ea2d
set_option maxRecDepth 20000 in
theorem ggX9_passNoon_X3_loseHalf : GoodIn wsX9_passNoon wsX3_loseHalf := goodIn_r _ [127, 38, 41, 128, 158, 159, 160, 161, 162, 163, 164] (by decide +kernel) (by decide +kernel)
set_option maxRecDepth 20000 in
theorem gX9_passNoon_X3_loseHalf : GoodIn wsX9_passNoon (wsV RX9 402 RX3 yX3_loseHalf wsX3_loseHalf) := goodIn_app (goodIn_of _ (by decide +kernel)) ggX9_passNoon_X3_loseHalf
theorem dX9_passNoon_0 : decode cX9_passNoon 0 = .ok (.aload_n 0, 1) := by decide +kernel
theorem dX9_passNoon_1 : decode cX9_passNoon 1 = .ok (.invokevirtual 113, 3) := by decide +kernel
theorem dX9_passNoon_4 : decode cX9_passNoon 4 = .ok (.istore_n 3, 1) := by decide +kernel
theorem dX9_passNoon_5 : decode cX9_passNoon 5 = .ok (.aload_n 2, 1) := by decide +kernel
theorem dX9_passNoon_6 : decode cX9_passNoon 6 = .ok (.aload_n 0, 1) := by decide +kernel
theorem dX9_passNoon_7 : decode cX9_passNoon 7 = .ok (.getfield 26, 3) := by decide +kernel
theorem dX9_passNoon_10 : decode cX9_passNoon 10 = .ok (.iload_n 3, 1) := by decide +kernel
theorem dX9_passNoon_11 : decode cX9_passNoon 11 = .ok (.invokevirtual 389, 3) := by decide +kernel
theorem dX9_passNoon_14 : decode cX9_passNoon 14 = .ok (.aload_n 0, 1) := by decide +kernel
theorem dX9_passNoon_15 : decode cX9_passNoon 15 = .ok (.getfield 26, 3) := by decide +kernel
theorem dX9_passNoon_18 : decode cX9_passNoon 18 = .ok (.iload_n 3, 1) := by decide +kernel
theorem dX9_passNoon_19 : decode cX9_passNoon 19 = .ok (.invokevirtual 328, 3) := by decide +kernel
theorem dX9_passNoon_22 : decode cX9_passNoon 22 = .ok (.invokevirtual 392, 3) := by decide +kernel
theorem dX9_passNoon_25 : decode cX9_passNoon 25 = .ok (.aload_n 2, 1) := by decide +kernel
theorem dX9_passNoon_26 : decode cX9_passNoon 26 = .ok (.invokevirtual 395, 3) := by decide +kernel
theorem dX9_passNoon_29 : decode cX9_passNoon 29 = .ok (.ifCond .eq 44, 3) := by decide +kernel
theorem dX9_passNoon_32 : decode cX9_passNoon 32 = .ok (.aload_n 0, 1) := by decide +kernel
theorem dX9_passNoon_33 : decode cX9_passNoon 33 = .ok (.getfield 44, 3) := by decide +kernel
theorem dX9_passNoon_36 : decode cX9_passNoon 36 = .ok (.invokevirtual 143, 3) := by decide +kernel
theorem dX9_passNoon_39 : decode cX9_passNoon 39 = .ok (.bipush 60, 2) := by decide +kernel
theorem dX9_passNoon_41 : decode cX9_passNoon 41 = .ok (.if_icmp .ge 32, 3) := by decide +kernel
theorem dX9_passNoon_44 : decode cX9_passNoon 44 = .ok (.aload_n 0, 1) := by decide +kernel
theorem dX9_passNoon_45 : decode cX9_passNoon 45 = .ok (.getfield 44, 3) := by decide +kernel
theorem dX9_passNoon_48 : decode cX9_passNoon 48 = .ok (.new 292, 3) := by decide +kernel
theorem dX9_passNoon_51 : decode cX9_passNoon 51 = .ok (.dup, 1) := by decide +kernel
theorem dX9_passNoon_52 : decode cX9_passNoon 52 = .ok (.iload_n 1, 1) := by decide +kernel
theorem dX9_passNoon_53 : decode cX9_passNoon 53 = .ok (.aload_n 2, 1) := by decide +kernel
theorem dX9_passNoon_54 : decode cX9_passNoon 54 = .ok (.aload_n 0, 1) := by decide +kernel
theorem dX9_passNoon_55 : decode cX9_passNoon 55 = .ok (.getfield 71, 3) := by decide +kernel
theorem dX9_passNoon_58 : decode cX9_passNoon 58 = .ok (.invokespecial 399, 3) := by decide +kernel
theorem dX9_passNoon_61 : decode cX9_passNoon 61 = .ok (.invokevirtual 156, 3) := by decide +kernel
theorem dX9_passNoon_64 : decode cX9_passNoon 64 = .ok (.pop, 1) := by decide +kernel
theorem dX9_passNoon_65 : decode cX9_passNoon 65 = .ok (.aload_n 2, 1) := by decide +kernel
theorem dX9_passNoon_66 : decode cX9_passNoon 66 = .ok (.aload_n 0, 1) := by decide +kernel
theorem dX9_passNoon_67 : decode cX9_passNoon 67 = .ok (.getfield 71, 3) := by decide +kernel
theorem dX9_passNoon_70 : decode cX9_passNoon 70 = .ok (.invokevirtual 402, 3) := by decide +kernel
theorem dX9_passNoon_73 : decode cX9_passNoon 73 = .ok (.return_, 1) := by decide +kernel
set_option maxRecDepth 20000 in
theorem ggX9_closeText_X7_cutTo : GoodIn wsX9_closeText wsX7_cutTo := goodIn_r _ [7, 8, 23, 24, 25, 26, 27] (by decide +kernel) (by decide +kernel)
set_option maxRecDepth 20000 in
theorem gX9_closeText_X7_cutTo : GoodIn wsX9_closeText (wsV RX9 88 RX7 yX7_cutTo wsX7_cutTo) := goodIn_app (goodIn_of _ (by decide +kernel)) ggX9_closeText_X7_cutTo
theorem dX9_closeText_0 : decode cX9_closeText 0 = .ok (.aload_n 0, 1) := by decide +kernel
theorem dX9_closeText_1 : decode cX9_closeText 1 = .ok (.iload_n 1, 1) := by decide +kernel
theorem dX9_closeText_2 : decode cX9_closeText 2 = .ok (.ifCond .eq 7, 3) := by decide +kernel
theorem dX9_closeText_5 : decode cX9_closeText 5 = .ok (.iconst (-1), 1) := by decide +kernel
theorem dX9_closeText_6 : decode cX9_closeText 6 = .ok (.goto 10, 3) := by decide +kernel
theorem dX9_closeText_9 : decode cX9_closeText 9 = .ok (.aload_n 0, 1) := by decide +kernel
theorem dX9_closeText_10 : decode cX9_closeText 10 = .ok (.getfield 10, 3) := by decide +kernel
theorem dX9_closeText_13 : decode cX9_closeText 13 = .ok (.getfield 405, 3) := by decide +kernel
theorem dX9_closeText_16 : decode cX9_closeText 16 = .ok (.putfield 74, 3) := by decide +kernel
theorem dX9_closeText_19 : decode cX9_closeText 19 = .ok (.aload_n 0, 1) := by decide +kernel
theorem dX9_closeText_20 : decode cX9_closeText 20 = .ok (.getfield 10, 3) := by decide +kernel
theorem dX9_closeText_23 : decode cX9_closeText 23 = .ok (.iconst 0, 1) := by decide +kernel
theorem dX9_closeText_24 : decode cX9_closeText 24 = .ok (.invokevirtual 88, 3) := by decide +kernel
theorem dX9_closeText_27 : decode cX9_closeText 27 = .ok (.pop, 1) := by decide +kernel
theorem dX9_closeText_28 : decode cX9_closeText 28 = .ok (.return_, 1) := by decide +kernel
set_option maxRecDepth 20000 in
theorem ggX9_firstCaseAlike_Jx4a65c_size_8abf5 : GoodIn wsX9_firstCaseAlike wsJx4a65c_size_8abf5 := goodIn_r _ [9, 10, 62, 63, 64] (by decide +kernel) (by decide +kernel)
set_option maxRecDepth 20000 in
theorem gX9_firstCaseAlike_Jx4a65c_size_8abf5 : GoodIn wsX9_firstCaseAlike (wsV RX9 143 RJx4a65c yJx4a65c_size_8abf5 wsJx4a65c_size_8abf5) := goodIn_app (goodIn_of _ (by decide +kernel)) ggX9_firstCaseAlike_Jx4a65c_size_8abf5
set_option maxRecDepth 20000 in
theorem ggX9_firstCaseAlike_Jx4a65c_get_915e3 : GoodIn wsX9_firstCaseAlike wsJx4a65c_get_915e3 := goodIn_r _ [14, 10, 15, 16, 17, 18, 19, 20, 21, 22, 23, 24, 25, 8, 26, 27, 62, 63, 64] (by decide +kernel) (by decide +kernel)
set_option maxRecDepth 20000 in
theorem gX9_firstCaseAlike_Jx4a65c_get_915e3 : GoodIn wsX9_firstCaseAlike (wsV RX9 275 RJx4a65c yJx4a65c_get_915e3 wsJx4a65c_get_915e3) := goodIn_app (goodIn_of _ (by decide +kernel)) ggX9_firstCaseAlike_Jx4a65c_get_915e3
set_option maxRecDepth 20000 in
theorem ggX9_firstCaseAlike_X1_isAlike : GoodIn wsX9_firstCaseAlike wsX1_isAlike := goodIn_r _ [32, 33, 34, 35, 36, 37, 38, 39, 40, 41, 42, 43, 44, 45, 46, 47, 65, 66, 67, 68, 69, 70, 71, 72, 73, 74, 75, 76, 77, 78, 79, 80, 81] (by decide +kernel) (by decide +kernel)
set_option maxRecDepth 20000 in
theorem gX9_firstCaseAlike_X1_isAlike : GoodIn wsX9_firstCaseAlike (wsV RX9 408 RX1 yX1_isAlike wsX1_isAlike) := goodIn_app (goodIn_of _ (by decide +kernel)) ggX9_firstCaseAlike_X1_isAlike
theorem dX9_firstCaseAlike_0 : decode cX9_firstCaseAlike 0 = .ok (.iconst 0, 1) := by decide +kernel
theorem dX9_firstCaseAlike_1 : decode cX9_firstCaseAlike 1 = .ok (.istore_n 1, 1) := by decide +kernel
theorem dX9_firstCaseAlike_2 : decode cX9_firstCaseAlike 2 = .ok (.iload_n 1, 1) := by decide +kernel
theorem dX9_firstCaseAlike_3 : decode cX9_firstCaseAlike 3 = .ok (.aload_n 0, 1) := by decide +kernel
theorem dX9_firstCaseAlike_4 : decode cX9_firstCaseAlike 4 = .ok (.getfield 50, 3) := by decide +kernel
theorem dX9_firstCaseAlike_7 : decode cX9_firstCaseAlike 7 = .ok (.invokevirtual 143, 3) := by decide +kernel
theorem dX9_firstCaseAlike_10 : decode cX9_firstCaseAlike 10 = .ok (.if_icmp .ge 36, 3) := by decide +kernel
theorem dX9_firstCaseAlike_13 : decode cX9_firstCaseAlike 13 = .ok (.aload_n 0, 1) := by decide +kernel
theorem dX9_firstCaseAlike_14 : decode cX9_firstCaseAlike 14 = .ok (.getfield 50, 3) := by decide +kernel
theorem dX9_firstCaseAlike_17 : decode cX9_firstCaseAlike 17 = .ok (.iload_n 1, 1) := by decide +kernel
theorem dX9_firstCaseAlike_18 : decode cX9_firstCaseAlike 18 = .ok (.invokevirtual 275, 3) := by decide +kernel
theorem dX9_firstCaseAlike_21 : decode cX9_firstCaseAlike 21 = .ok (.checkcast 209, 3) := by decide +kernel
theorem dX9_firstCaseAlike_24 : decode cX9_firstCaseAlike 24 = .ok (.aload_n 0, 1) := by decide +kernel
theorem dX9_firstCaseAlike_25 : decode cX9_firstCaseAlike 25 = .ok (.getfield 19, 3) := by decide +kernel
theorem dX9_firstCaseAlike_28 : decode cX9_firstCaseAlike 28 = .ok (.aload_n 0, 1) := by decide +kernel
theorem dX9_firstCaseAlike_29 : decode cX9_firstCaseAlike 29 = .ok (.getfield 71, 3) := by decide +kernel
theorem dX9_firstCaseAlike_32 : decode cX9_firstCaseAlike 32 = .ok (.invokevirtual 408, 3) := by decide +kernel
theorem dX9_firstCaseAlike_35 : decode cX9_firstCaseAlike 35 = .ok (.ifCond .eq 5, 3) := by decide +kernel
theorem dX9_firstCaseAlike_38 : decode cX9_firstCaseAlike 38 = .ok (.iload_n 1, 1) := by decide +kernel
theorem dX9_firstCaseAlike_39 : decode cX9_firstCaseAlike 39 = .ok (.ireturn, 1) := by decide +kernel
theorem dX9_firstCaseAlike_40 : decode cX9_firstCaseAlike 40 = .ok (.iinc 1 1, 3) := by decide +kernel
theorem dX9_firstCaseAlike_43 : decode cX9_firstCaseAlike 43 = .ok (.goto (-41), 3) := by decide +kernel
theorem dX9_firstCaseAlike_46 : decode cX9_firstCaseAlike 46 = .ok (.iconst (-1), 1) := by decide +kernel
theorem dX9_firstCaseAlike_47 : decode cX9_firstCaseAlike 47 = .ok (.ireturn, 1) := by decide +kernel
set_option maxRecDepth 20000 in
theorem ggX9_whatIsAgainst_X4_isOnDuty : GoodIn wsX9_whatIsAgainst wsX4_isOnDuty := goodIn_r _ [6, 7, 8, 9, 10, 11, 26, 27, 28, 29, 30, 31, 32, 33, 34, 35, 36, 37] (by decide +kernel) (by decide +kernel)
set_option maxRecDepth 20000 in
theorem gX9_whatIsAgainst_X4_isOnDuty : GoodIn wsX9_whatIsAgainst (wsV RX9 412 RX4 yX4_isOnDuty wsX4_isOnDuty) := goodIn_app (goodIn_of _ (by decide +kernel)) ggX9_whatIsAgainst_X4_isOnDuty
theorem dX9_whatIsAgainst_0 : decode cX9_whatIsAgainst 0 = .ok (.aload_n 1, 1) := by decide +kernel
theorem dX9_whatIsAgainst_1 : decode cX9_whatIsAgainst 1 = .ok (.aload_n 0, 1) := by decide +kernel
theorem dX9_whatIsAgainst_2 : decode cX9_whatIsAgainst 2 = .ok (.getfield 71, 3) := by decide +kernel
theorem dX9_whatIsAgainst_5 : decode cX9_whatIsAgainst 5 = .ok (.bipush 24, 2) := by decide +kernel
theorem dX9_whatIsAgainst_7 : decode cX9_whatIsAgainst 7 = .ok (.irem, 1) := by decide +kernel
theorem dX9_whatIsAgainst_8 : decode cX9_whatIsAgainst 8 = .ok (.invokevirtual 412, 3) := by decide +kernel
theorem dX9_whatIsAgainst_11 : decode cX9_whatIsAgainst 11 = .ok (.ifCond .ne 5, 3) := by decide +kernel
theorem dX9_whatIsAgainst_14 : decode cX9_whatIsAgainst 14 = .ok (.iconst 1, 1) := by decide +kernel
theorem dX9_whatIsAgainst_15 : decode cX9_whatIsAgainst 15 = .ok (.ireturn, 1) := by decide +kernel
theorem dX9_whatIsAgainst_16 : decode cX9_whatIsAgainst 16 = .ok (.aload_n 1, 1) := by decide +kernel
theorem dX9_whatIsAgainst_17 : decode cX9_whatIsAgainst 17 = .ok (.getfield 345, 3) := by decide +kernel
theorem dX9_whatIsAgainst_20 : decode cX9_whatIsAgainst 20 = .ok (.ifCond .eq 5, 3) := by decide +kernel
theorem dX9_whatIsAgainst_23 : decode cX9_whatIsAgainst 23 = .ok (.iconst 2, 1) := by decide +kernel
theorem dX9_whatIsAgainst_24 : decode cX9_whatIsAgainst 24 = .ok (.ireturn, 1) := by decide +kernel
theorem dX9_whatIsAgainst_25 : decode cX9_whatIsAgainst 25 = .ok (.aload_n 1, 1) := by decide +kernel
theorem dX9_whatIsAgainst_26 : decode cX9_whatIsAgainst 26 = .ok (.getfield 178, 3) := by decide +kernel
theorem dX9_whatIsAgainst_29 : decode cX9_whatIsAgainst 29 = .ok (.iconst 1, 1) := by decide +kernel
theorem dX9_whatIsAgainst_30 : decode cX9_whatIsAgainst 30 = .ok (.if_icmp .ge 5, 3) := by decide +kernel
theorem dX9_whatIsAgainst_33 : decode cX9_whatIsAgainst 33 = .ok (.iconst 3, 1) := by decide +kernel
theorem dX9_whatIsAgainst_34 : decode cX9_whatIsAgainst 34 = .ok (.ireturn, 1) := by decide +kernel
theorem dX9_whatIsAgainst_35 : decode cX9_whatIsAgainst 35 = .ok (.aload_n 1, 1) := by decide +kernel
theorem dX9_whatIsAgainst_36 : decode cX9_whatIsAgainst 36 = .ok (.getfield 365, 3) := by decide +kernel
theorem dX9_whatIsAgainst_39 : decode cX9_whatIsAgainst 39 = .ok (.aload_n 2, 1) := by decide +kernel
theorem dX9_whatIsAgainst_40 : decode cX9_whatIsAgainst 40 = .ok (.getfield 368, 3) := by decide +kernel
theorem dX9_whatIsAgainst_43 : decode cX9_whatIsAgainst 43 = .ok (.if_icmp .ge 7, 3) := by decide +kernel
theorem dX9_whatIsAgainst_46 : decode cX9_whatIsAgainst 46 = .ok (.iconst 4, 1) := by decide +kernel
theorem dX9_whatIsAgainst_47 : decode cX9_whatIsAgainst 47 = .ok (.goto 4, 3) := by decide +kernel
theorem dX9_whatIsAgainst_50 : decode cX9_whatIsAgainst 50 = .ok (.iconst 0, 1) := by decide +kernel
theorem dX9_whatIsAgainst_51 : decode cX9_whatIsAgainst 51 = .ok (.ireturn, 1) := by decide +kernel
set_option maxRecDepth 20000 in
theorem ggX9_hourGone_X9_today : GoodIn wsX9_hourGone wsX9_today := goodIn_r _ [6, 7, 48, 49, 50, 51, 52, 53, 54, 55, 56, 57, 58, 59, 60, 61] (by decide +kernel) (by decide +kernel)
set_option maxRecDepth 20000 in
theorem gX9_hourGone_X9_today : GoodIn wsX9_hourGone (wsV RX9 113 RX9 yX9_today wsX9_today) := goodIn_app (goodIn_of _ (by decide +kernel)) ggX9_hourGone_X9_today
set_option maxRecDepth 20000 in
theorem ggX9_hourGone_X5_hourGone : GoodIn wsX9_hourGone wsX5_hourGone := goodIn_r _ [12, 13, 14, 15, 11, 16, 17, 18, 19, 20, 21, 22, 23, 24, 25, 26, 27, 28, 29, 30, 31, 32, 33, 34, 35, 36, 62, 63, 64, 65] (by decide +kernel) (by decide +kernel)
set_option maxRecDepth 20000 in
theorem gX9_hourGone_X5_hourGone : GoodIn wsX9_hourGone (wsV RX9 418 RX5 yX5_hourGone wsX5_hourGone) := goodIn_app (goodIn_of _ (by decide +kernel)) ggX9_hourGone_X5_hourGone
theorem dX9_hourGone_0 : decode cX9_hourGone 0 = .ok (.aload_n 1, 1) := by decide +kernel
theorem dX9_hourGone_1 : decode cX9_hourGone 1 = .ok (.getfield 415, 3) := by decide +kernel
theorem dX9_hourGone_4 : decode cX9_hourGone 4 = .ok (.iconst (-1), 1) := by decide +kernel
theorem dX9_hourGone_5 : decode cX9_hourGone 5 = .ok (.if_icmp .ne 7, 3) := by decide +kernel
theorem dX9_hourGone_8 : decode cX9_hourGone 8 = .ok (.iconst (-1), 1) := by decide +kernel
theorem dX9_hourGone_9 : decode cX9_hourGone 9 = .ok (.goto 19, 3) := by decide +kernel
theorem dX9_hourGone_12 : decode cX9_hourGone 12 = .ok (.aload_n 0, 1) := by decide +kernel
theorem dX9_hourGone_13 : decode cX9_hourGone 13 = .ok (.getfield 26, 3) := by decide +kernel
theorem dX9_hourGone_16 : decode cX9_hourGone 16 = .ok (.aload_n 1, 1) := by decide +kernel
theorem dX9_hourGone_17 : decode cX9_hourGone 17 = .ok (.getfield 415, 3) := by decide +kernel
theorem dX9_hourGone_20 : decode cX9_hourGone 20 = .ok (.aload_n 0, 1) := by decide +kernel
theorem dX9_hourGone_21 : decode cX9_hourGone 21 = .ok (.invokevirtual 113, 3) := by decide +kernel
theorem dX9_hourGone_24 : decode cX9_hourGone 24 = .ok (.iload_n 2, 1) := by decide +kernel
theorem dX9_hourGone_25 : decode cX9_hourGone 25 = .ok (.invokevirtual 418, 3) := by decide +kernel
theorem dX9_hourGone_28 : decode cX9_hourGone 28 = .ok (.ireturn, 1) := by decide +kernel
set_option maxRecDepth 20000 in
theorem ggX9_keepersWhoCouldGo_X9_hourGone : GoodIn wsX9_keepersWhoCouldGo wsX9_hourGone := goodIn_r _ [8, 9, 10, 11, 12, 7, 13, 3, 14, 15, 16, 17, 18, 19, 20, 21, 22, 23, 24, 25, 26, 27, 28, 29, 30, 31, 32, 33, 34, 35, 36, 37, 38, 39, 40, 41, 42, 106, 107, 108, 109, 110, 111, 112, 113, 114, 115, 116, 92, 93, 94, 95, 96, 97, 98, 99, 100, 101, 102, 103, 104, 105, 117, 118, 119, 120] (by decide +kernel) (by decide +kernel)
set_option maxRecDepth 20000 in
theorem gX9_keepersWhoCouldGo_X9_hourGone : GoodIn wsX9_keepersWhoCouldGo (wsV RX9 271 RX9 yX9_hourGone wsX9_hourGone) := goodIn_app (goodIn_of _ (by decide +kernel)) ggX9_keepersWhoCouldGo_X9_hourGone
set_option maxRecDepth 20000 in
theorem ggX9_keepersWhoCouldGo_Jx4a65c_size_8abf5 : GoodIn wsX9_keepersWhoCouldGo wsJx4a65c_size_8abf5 := goodIn_r _ [47, 48, 121, 122, 123] (by decide +kernel) (by decide +kernel)
set_option maxRecDepth 20000 in
theorem gX9_keepersWhoCouldGo_Jx4a65c_size_8abf5 : GoodIn wsX9_keepersWhoCouldGo (wsV RX9 143 RJx4a65c yJx4a65c_size_8abf5 wsJx4a65c_size_8abf5) := goodIn_app (goodIn_of _ (by decide +kernel)) ggX9_keepersWhoCouldGo_Jx4a65c_size_8abf5
set_option maxRecDepth 20000 in
theorem ggX9_keepersWhoCouldGo_Jx4a65c_get_915e3 : GoodIn wsX9_keepersWhoCouldGo wsJx4a65c_get_915e3 := goodIn_r _ [52, 48, 53, 54, 55, 56, 57, 58, 59, 60, 61, 62, 63, 46, 64, 65, 121, 122, 123] (by decide +kernel) (by decide +kernel)
set_option maxRecDepth 20000 in
theorem gX9_keepersWhoCouldGo_Jx4a65c_get_915e3 : GoodIn wsX9_keepersWhoCouldGo (wsV RX9 275 RJx4a65c yJx4a65c_get_915e3 wsJx4a65c_get_915e3) := goodIn_app (goodIn_of _ (by decide +kernel)) ggX9_keepersWhoCouldGo_Jx4a65c_get_915e3
set_option maxRecDepth 20000 in
theorem ggX9_keepersWhoCouldGo_X9_whatIsAgainst : GoodIn wsX9_keepersWhoCouldGo wsX9_whatIsAgainst := goodIn_r _ [69, 3, 70, 71, 72, 73, 74, 75, 76, 77, 7, 78, 92, 93, 94, 95, 96, 97, 98, 99, 100, 101, 102, 103, 104, 105, 124, 125, 126, 127, 128, 129, 130, 131, 132, 133, 134, 135, 106, 107, 108, 109, 110, 111, 112, 113, 114, 115, 116] (by decide +kernel) (by decide +kernel)
set_option maxRecDepth 20000 in
theorem gX9_keepersWhoCouldGo_X9_whatIsAgainst : GoodIn wsX9_keepersWhoCouldGo (wsV RX9 255 RX9 yX9_whatIsAgainst wsX9_whatIsAgainst) := goodIn_app (goodIn_of _ (by decide +kernel)) ggX9_keepersWhoCouldGo_X9_whatIsAgainst
set_option maxRecDepth 20000 in
theorem ggX9_keepersWhoCouldGo_X4_hoursTo : GoodIn wsX9_keepersWhoCouldGo wsX4_hoursTo := goodIn_r _ [82, 83, 84, 85, 86, 7, 87, 88, 89, 35, 90, 91, 38, 39, 124, 125, 126, 127, 128, 129, 130, 131, 132, 133, 134, 135] (by decide +kernel) (by decide +kernel)
set_option maxRecDepth 20000 in
theorem gX9_keepersWhoCouldGo_X4_hoursTo : GoodIn wsX9_keepersWhoCouldGo (wsV RX9 421 RX4 yX4_hoursTo wsX4_hoursTo) := goodIn_app (goodIn_of _ (by decide +kernel)) ggX9_keepersWhoCouldGo_X4_hoursTo
theorem dX9_keepersWhoCouldGo_0 : decode cX9_keepersWhoCouldGo 0 = .ok (.aload_n 0, 1) := by decide +kernel
theorem dX9_keepersWhoCouldGo_1 : decode cX9_keepersWhoCouldGo 1 = .ok (.aload_n 1, 1) := by decide +kernel
theorem dX9_keepersWhoCouldGo_2 : decode cX9_keepersWhoCouldGo 2 = .ok (.iconst 1, 1) := by decide +kernel
theorem dX9_keepersWhoCouldGo_3 : decode cX9_keepersWhoCouldGo 3 = .ok (.invokevirtual 271, 3) := by decide +kernel
theorem dX9_keepersWhoCouldGo_6 : decode cX9_keepersWhoCouldGo 6 = .ok (.istore_n 2, 1) := by decide +kernel
theorem dX9_keepersWhoCouldGo_7 : decode cX9_keepersWhoCouldGo 7 = .ok (.iconst 0, 1) := by decide +kernel
theorem dX9_keepersWhoCouldGo_8 : decode cX9_keepersWhoCouldGo 8 = .ok (.istore_n 3, 1) := by decide +kernel
theorem dX9_keepersWhoCouldGo_9 : decode cX9_keepersWhoCouldGo 9 = .ok (.iconst 0, 1) := by decide +kernel
theorem dX9_keepersWhoCouldGo_10 : decode cX9_keepersWhoCouldGo 10 = .ok (.istore 4, 2) := by decide +kernel
theorem dX9_keepersWhoCouldGo_12 : decode cX9_keepersWhoCouldGo 12 = .ok (.iload 4, 2) := by decide +kernel
theorem dX9_keepersWhoCouldGo_14 : decode cX9_keepersWhoCouldGo 14 = .ok (.aload_n 0, 1) := by decide +kernel
theorem dX9_keepersWhoCouldGo_15 : decode cX9_keepersWhoCouldGo 15 = .ok (.getfield 47, 3) := by decide +kernel
theorem dX9_keepersWhoCouldGo_18 : decode cX9_keepersWhoCouldGo 18 = .ok (.invokevirtual 143, 3) := by decide +kernel
theorem dX9_keepersWhoCouldGo_21 : decode cX9_keepersWhoCouldGo 21 = .ok (.if_icmp .ge 67, 3) := by decide +kernel
theorem dX9_keepersWhoCouldGo_24 : decode cX9_keepersWhoCouldGo 24 = .ok (.aload_n 0, 1) := by decide +kernel
theorem dX9_keepersWhoCouldGo_25 : decode cX9_keepersWhoCouldGo 25 = .ok (.getfield 47, 3) := by decide +kernel
theorem dX9_keepersWhoCouldGo_28 : decode cX9_keepersWhoCouldGo 28 = .ok (.iload 4, 2) := by decide +kernel
theorem dX9_keepersWhoCouldGo_30 : decode cX9_keepersWhoCouldGo 30 = .ok (.invokevirtual 275, 3) := by decide +kernel
theorem dX9_keepersWhoCouldGo_33 : decode cX9_keepersWhoCouldGo 33 = .ok (.checkcast 167, 3) := by decide +kernel
theorem dX9_keepersWhoCouldGo_36 : decode cX9_keepersWhoCouldGo 36 = .ok (.astore 5, 2) := by decide +kernel
theorem dX9_keepersWhoCouldGo_38 : decode cX9_keepersWhoCouldGo 38 = .ok (.aload_n 0, 1) := by decide +kernel
theorem dX9_keepersWhoCouldGo_39 : decode cX9_keepersWhoCouldGo 39 = .ok (.aload 5, 2) := by decide +kernel
theorem dX9_keepersWhoCouldGo_41 : decode cX9_keepersWhoCouldGo 41 = .ok (.aload_n 1, 1) := by decide +kernel
theorem dX9_keepersWhoCouldGo_42 : decode cX9_keepersWhoCouldGo 42 = .ok (.invokevirtual 255, 3) := by decide +kernel
theorem dX9_keepersWhoCouldGo_45 : decode cX9_keepersWhoCouldGo 45 = .ok (.ifCond .ne 37, 3) := by decide +kernel
theorem dX9_keepersWhoCouldGo_48 : decode cX9_keepersWhoCouldGo 48 = .ok (.iload_n 2, 1) := by decide +kernel
theorem dX9_keepersWhoCouldGo_49 : decode cX9_keepersWhoCouldGo 49 = .ok (.iconst (-1), 1) := by decide +kernel
theorem dX9_keepersWhoCouldGo_50 : decode cX9_keepersWhoCouldGo 50 = .ok (.if_icmp .eq 25, 3) := by decide +kernel
theorem dX9_keepersWhoCouldGo_53 : decode cX9_keepersWhoCouldGo 53 = .ok (.aload_n 0, 1) := by decide +kernel
theorem dX9_keepersWhoCouldGo_54 : decode cX9_keepersWhoCouldGo 54 = .ok (.getfield 71, 3) := by decide +kernel
theorem dX9_keepersWhoCouldGo_57 : decode cX9_keepersWhoCouldGo 57 = .ok (.aload 5, 2) := by decide +kernel
theorem dX9_keepersWhoCouldGo_59 : decode cX9_keepersWhoCouldGo 59 = .ok (.aload_n 1, 1) := by decide +kernel
theorem dX9_keepersWhoCouldGo_60 : decode cX9_keepersWhoCouldGo 60 = .ok (.getfield 240, 3) := by decide +kernel
theorem dX9_keepersWhoCouldGo_63 : decode cX9_keepersWhoCouldGo 63 = .ok (.aload_n 1, 1) := by decide +kernel
theorem dX9_keepersWhoCouldGo_64 : decode cX9_keepersWhoCouldGo 64 = .ok (.getfield 241, 3) := by decide +kernel
theorem dX9_keepersWhoCouldGo_67 : decode cX9_keepersWhoCouldGo 67 = .ok (.invokevirtual 421, 3) := by decide +kernel
theorem dX9_keepersWhoCouldGo_70 : decode cX9_keepersWhoCouldGo 70 = .ok (.iadd, 1) := by decide +kernel
theorem dX9_keepersWhoCouldGo_71 : decode cX9_keepersWhoCouldGo 71 = .ok (.iload_n 2, 1) := by decide +kernel
theorem dX9_keepersWhoCouldGo_72 : decode cX9_keepersWhoCouldGo 72 = .ok (.if_icmp .ge 10, 3) := by decide +kernel
theorem dX9_keepersWhoCouldGo_75 : decode cX9_keepersWhoCouldGo 75 = .ok (.iload_n 3, 1) := by decide +kernel
theorem dX9_keepersWhoCouldGo_76 : decode cX9_keepersWhoCouldGo 76 = .ok (.iconst 1, 1) := by decide +kernel
theorem dX9_keepersWhoCouldGo_77 : decode cX9_keepersWhoCouldGo 77 = .ok (.iload 4, 2) := by decide +kernel
theorem dX9_keepersWhoCouldGo_79 : decode cX9_keepersWhoCouldGo 79 = .ok (.ishl, 1) := by decide +kernel
theorem dX9_keepersWhoCouldGo_80 : decode cX9_keepersWhoCouldGo 80 = .ok (.ior, 1) := by decide +kernel
theorem dX9_keepersWhoCouldGo_81 : decode cX9_keepersWhoCouldGo 81 = .ok (.istore_n 3, 1) := by decide +kernel
theorem dX9_keepersWhoCouldGo_82 : decode cX9_keepersWhoCouldGo 82 = .ok (.iinc 4 1, 3) := by decide +kernel
theorem dX9_keepersWhoCouldGo_85 : decode cX9_keepersWhoCouldGo 85 = .ok (.goto (-73), 3) := by decide +kernel
theorem dX9_keepersWhoCouldGo_88 : decode cX9_keepersWhoCouldGo 88 = .ok (.iload_n 3, 1) := by decide +kernel
theorem dX9_keepersWhoCouldGo_89 : decode cX9_keepersWhoCouldGo 89 = .ok (.ireturn, 1) := by decide +kernel
set_option maxRecDepth 20000 in
theorem ggX9_greatestMatching_J6_bitCount_0f7a4 : GoodIn wsX9_greatestMatching wsJ6_bitCount_0f7a4 := goodIn_r _ [8, 9, 10, 11] (by decide +kernel) (by decide +kernel)
set_option maxRecDepth 20000 in
theorem gX9_greatestMatching_J6_bitCount_0f7a4 : GoodIn wsX9_greatestMatching (va_wsS RX9 424 yJ6_bitCount_0f7a4 wsJ6_bitCount_0f7a4) := goodIn_app (goodIn_of _ (by decide +kernel)) ggX9_greatestMatching_J6_bitCount_0f7a4
theorem dX9_greatestMatching_0 : decode cX9_greatestMatching 0 = .ok (.iload_n 1, 1) := by decide +kernel
theorem dX9_greatestMatching_1 : decode cX9_greatestMatching 1 = .ok (.istore_n 2, 1) := by decide +kernel
theorem dX9_greatestMatching_2 : decode cX9_greatestMatching 2 = .ok (.iconst 0, 1) := by decide +kernel
theorem dX9_greatestMatching_3 : decode cX9_greatestMatching 3 = .ok (.istore_n 3, 1) := by decide +kernel
theorem dX9_greatestMatching_4 : decode cX9_greatestMatching 4 = .ok (.iload_n 3, 1) := by decide +kernel
theorem dX9_greatestMatching_5 : decode cX9_greatestMatching 5 = .ok (.iconst 1, 1) := by decide +kernel
theorem dX9_greatestMatching_6 : decode cX9_greatestMatching 6 = .ok (.iload_n 1, 1) := by decide +kernel
theorem dX9_greatestMatching_7 : decode cX9_greatestMatching 7 = .ok (.ishl, 1) := by decide +kernel
theorem dX9_greatestMatching_8 : decode cX9_greatestMatching 8 = .ok (.if_icmp .ge 72, 3) := by decide +kernel
theorem dX9_greatestMatching_11 : decode cX9_greatestMatching 11 = .ok (.iload_n 1, 1) := by decide +kernel
theorem dX9_greatestMatching_12 : decode cX9_greatestMatching 12 = .ok (.istore 4, 2) := by decide +kernel
theorem dX9_greatestMatching_14 : decode cX9_greatestMatching 14 = .ok (.iconst 0, 1) := by decide +kernel
theorem dX9_greatestMatching_15 : decode cX9_greatestMatching 15 = .ok (.istore 5, 2) := by decide +kernel
theorem dX9_greatestMatching_17 : decode cX9_greatestMatching 17 = .ok (.iconst 0, 1) := by decide +kernel
theorem dX9_greatestMatching_18 : decode cX9_greatestMatching 18 = .ok (.istore 6, 2) := by decide +kernel
theorem dX9_greatestMatching_20 : decode cX9_greatestMatching 20 = .ok (.iload 6, 2) := by decide +kernel
theorem dX9_greatestMatching_22 : decode cX9_greatestMatching 22 = .ok (.iload_n 1, 1) := by decide +kernel
theorem dX9_greatestMatching_23 : decode cX9_greatestMatching 23 = .ok (.if_icmp .ge 38, 3) := by decide +kernel
theorem dX9_greatestMatching_26 : decode cX9_greatestMatching 26 = .ok (.iload 6, 2) := by decide +kernel
theorem dX9_greatestMatching_28 : decode cX9_greatestMatching 28 = .ok (.aload_n 0, 1) := by decide +kernel
theorem dX9_greatestMatching_29 : decode cX9_greatestMatching 29 = .ok (.arraylength, 1) := by decide +kernel
theorem dX9_greatestMatching_30 : decode cX9_greatestMatching 30 = .ok (.if_icmp .ge 31, 3) := by decide +kernel
theorem dX9_greatestMatching_33 : decode cX9_greatestMatching 33 = .ok (.iload_n 3, 1) := by decide +kernel
theorem dX9_greatestMatching_34 : decode cX9_greatestMatching 34 = .ok (.iload 6, 2) := by decide +kernel
theorem dX9_greatestMatching_36 : decode cX9_greatestMatching 36 = .ok (.ishr, 1) := by decide +kernel
theorem dX9_greatestMatching_37 : decode cX9_greatestMatching 37 = .ok (.iconst 1, 1) := by decide +kernel
theorem dX9_greatestMatching_38 : decode cX9_greatestMatching 38 = .ok (.iand, 1) := by decide +kernel
theorem dX9_greatestMatching_39 : decode cX9_greatestMatching 39 = .ok (.iconst 1, 1) := by decide +kernel
theorem dX9_greatestMatching_40 : decode cX9_greatestMatching 40 = .ok (.if_icmp .ne 15, 3) := by decide +kernel
theorem dX9_greatestMatching_43 : decode cX9_greatestMatching 43 = .ok (.iinc 4 (-1), 3) := by decide +kernel
theorem dX9_greatestMatching_46 : decode cX9_greatestMatching 46 = .ok (.iload 5, 2) := by decide +kernel
theorem dX9_greatestMatching_48 : decode cX9_greatestMatching 48 = .ok (.aload_n 0, 1) := by decide +kernel
theorem dX9_greatestMatching_49 : decode cX9_greatestMatching 49 = .ok (.iload 6, 2) := by decide +kernel
theorem dX9_greatestMatching_51 : decode cX9_greatestMatching 51 = .ok (.iaload, 1) := by decide +kernel
theorem dX9_greatestMatching_52 : decode cX9_greatestMatching 52 = .ok (.ior, 1) := by decide +kernel
theorem dX9_greatestMatching_53 : decode cX9_greatestMatching 53 = .ok (.istore 5, 2) := by decide +kernel
theorem dX9_greatestMatching_55 : decode cX9_greatestMatching 55 = .ok (.iinc 6 1, 3) := by decide +kernel
theorem dX9_greatestMatching_58 : decode cX9_greatestMatching 58 = .ok (.goto (-38), 3) := by decide +kernel
theorem dX9_greatestMatching_61 : decode cX9_greatestMatching 61 = .ok (.iload_n 2, 1) := by decide +kernel
theorem dX9_greatestMatching_62 : decode cX9_greatestMatching 62 = .ok (.iload 4, 2) := by decide +kernel
theorem dX9_greatestMatching_64 : decode cX9_greatestMatching 64 = .ok (.iload 5, 2) := by decide +kernel
theorem dX9_greatestMatching_66 : decode cX9_greatestMatching 66 = .ok (.invokestatic 424, 3) := by decide +kernel
theorem dX9_greatestMatching_69 : decode cX9_greatestMatching 69 = .ok (.iadd, 1) := by decide +kernel
theorem dX9_greatestMatching_70 : decode cX9_greatestMatching 70 = .ok (.invokestatic 181, 3) := by decide +kernel
theorem dX9_greatestMatching_73 : decode cX9_greatestMatching 73 = .ok (.istore_n 2, 1) := by decide +kernel
theorem dX9_greatestMatching_74 : decode cX9_greatestMatching 74 = .ok (.iinc 3 1, 3) := by decide +kernel
theorem dX9_greatestMatching_77 : decode cX9_greatestMatching 77 = .ok (.goto (-73), 3) := by decide +kernel
theorem dX9_greatestMatching_80 : decode cX9_greatestMatching 80 = .ok (.iload_n 2, 1) := by decide +kernel
theorem dX9_greatestMatching_81 : decode cX9_greatestMatching 81 = .ok (.ireturn, 1) := by decide +kernel
set_option maxRecDepth 20000 in
theorem ggX9_swarmsThatAre_Jx4a65c_size_8abf5 : GoodIn wsX9_swarmsThatAre wsJx4a65c_size_8abf5 := goodIn_r _ [7, 8, 51, 52, 53] (by decide +kernel) (by decide +kernel)
set_option maxRecDepth 20000 in
theorem gX9_swarmsThatAre_Jx4a65c_size_8abf5 : GoodIn wsX9_swarmsThatAre (wsV RX9 143 RJx4a65c yJx4a65c_size_8abf5 wsJx4a65c_size_8abf5) := goodIn_app (goodIn_of _ (by decide +kernel)) ggX9_swarmsThatAre_Jx4a65c_size_8abf5
set_option maxRecDepth 20000 in
theorem ggX9_swarmsThatAre_Jx4a65c_get_915e3 : GoodIn wsX9_swarmsThatAre wsJx4a65c_get_915e3 := goodIn_r _ [12, 8, 13, 14, 15, 16, 17, 18, 19, 20, 21, 22, 23, 6, 24, 25, 51, 52, 53] (by decide +kernel) (by decide +kernel)
set_option maxRecDepth 20000 in
theorem gX9_swarmsThatAre_Jx4a65c_get_915e3 : GoodIn wsX9_swarmsThatAre (wsV RX9 275 RJx4a65c yJx4a65c_get_915e3 wsJx4a65c_get_915e3) := goodIn_app (goodIn_of _ (by decide +kernel)) ggX9_swarmsThatAre_Jx4a65c_get_915e3
theorem dX9_swarmsThatAre_0 : decode cX9_swarmsThatAre 0 = .ok (.iconst 0, 1) := by decide +kernel
theorem dX9_swarmsThatAre_1 : decode cX9_swarmsThatAre 1 = .ok (.istore_n 2, 1) := by decide +kernel
theorem dX9_swarmsThatAre_2 : decode cX9_swarmsThatAre 2 = .ok (.iconst 0, 1) := by decide +kernel
theorem dX9_swarmsThatAre_3 : decode cX9_swarmsThatAre 3 = .ok (.istore_n 3, 1) := by decide +kernel
theorem dX9_swarmsThatAre_4 : decode cX9_swarmsThatAre 4 = .ok (.iload_n 3, 1) := by decide +kernel
theorem dX9_swarmsThatAre_5 : decode cX9_swarmsThatAre 5 = .ok (.aload_n 0, 1) := by decide +kernel
theorem dX9_swarmsThatAre_6 : decode cX9_swarmsThatAre 6 = .ok (.getfield 44, 3) := by decide +kernel
theorem dX9_swarmsThatAre_9 : decode cX9_swarmsThatAre 9 = .ok (.invokevirtual 143, 3) := by decide +kernel
theorem dX9_swarmsThatAre_12 : decode cX9_swarmsThatAre 12 = .ok (.if_icmp .ge 30, 3) := by decide +kernel
theorem dX9_swarmsThatAre_15 : decode cX9_swarmsThatAre 15 = .ok (.aload_n 0, 1) := by decide +kernel
theorem dX9_swarmsThatAre_16 : decode cX9_swarmsThatAre 16 = .ok (.getfield 44, 3) := by decide +kernel
theorem dX9_swarmsThatAre_19 : decode cX9_swarmsThatAre 19 = .ok (.iload_n 3, 1) := by decide +kernel
theorem dX9_swarmsThatAre_20 : decode cX9_swarmsThatAre 20 = .ok (.invokevirtual 275, 3) := by decide +kernel
theorem dX9_swarmsThatAre_23 : decode cX9_swarmsThatAre 23 = .ok (.checkcast 292, 3) := by decide +kernel
theorem dX9_swarmsThatAre_26 : decode cX9_swarmsThatAre 26 = .ok (.getfield 291, 3) := by decide +kernel
theorem dX9_swarmsThatAre_29 : decode cX9_swarmsThatAre 29 = .ok (.iload_n 1, 1) := by decide +kernel
theorem dX9_swarmsThatAre_30 : decode cX9_swarmsThatAre 30 = .ok (.if_icmp .ne 6, 3) := by decide +kernel
theorem dX9_swarmsThatAre_33 : decode cX9_swarmsThatAre 33 = .ok (.iinc 2 1, 3) := by decide +kernel
theorem dX9_swarmsThatAre_36 : decode cX9_swarmsThatAre 36 = .ok (.iinc 3 1, 3) := by decide +kernel
theorem dX9_swarmsThatAre_39 : decode cX9_swarmsThatAre 39 = .ok (.goto (-35), 3) := by decide +kernel
theorem dX9_swarmsThatAre_42 : decode cX9_swarmsThatAre 42 = .ok (.iload_n 2, 1) := by decide +kernel
theorem dX9_swarmsThatAre_43 : decode cX9_swarmsThatAre 43 = .ok (.ireturn, 1) := by decide +kernel
set_option maxRecDepth 20000 in
theorem ggX9_openCases_Jx4a65c_size_8abf5 : GoodIn wsX9_openCases wsJx4a65c_size_8abf5 := goodIn_r _ [7, 8, 51, 52, 53] (by decide +kernel) (by decide +kernel)
set_option maxRecDepth 20000 in
theorem gX9_openCases_Jx4a65c_size_8abf5 : GoodIn wsX9_openCases (wsV RX9 143 RJx4a65c yJx4a65c_size_8abf5 wsJx4a65c_size_8abf5) := goodIn_app (goodIn_of _ (by decide +kernel)) ggX9_openCases_Jx4a65c_size_8abf5
set_option maxRecDepth 20000 in
theorem ggX9_openCases_Jx4a65c_get_915e3 : GoodIn wsX9_openCases wsJx4a65c_get_915e3 := goodIn_r _ [12, 8, 13, 14, 15, 16, 17, 18, 19, 20, 21, 22, 23, 6, 24, 25, 51, 52, 53] (by decide +kernel) (by decide +kernel)
set_option maxRecDepth 20000 in
theorem gX9_openCases_Jx4a65c_get_915e3 : GoodIn wsX9_openCases (wsV RX9 275 RJx4a65c yJx4a65c_get_915e3 wsJx4a65c_get_915e3) := goodIn_app (goodIn_of _ (by decide +kernel)) ggX9_openCases_Jx4a65c_get_915e3
theorem dX9_openCases_0 : decode cX9_openCases 0 = .ok (.iconst 0, 1) := by decide +kernel
theorem dX9_openCases_1 : decode cX9_openCases 1 = .ok (.istore_n 1, 1) := by decide +kernel
theorem dX9_openCases_2 : decode cX9_openCases 2 = .ok (.iconst 0, 1) := by decide +kernel
theorem dX9_openCases_3 : decode cX9_openCases 3 = .ok (.istore_n 2, 1) := by decide +kernel
theorem dX9_openCases_4 : decode cX9_openCases 4 = .ok (.iload_n 2, 1) := by decide +kernel
theorem dX9_openCases_5 : decode cX9_openCases 5 = .ok (.aload_n 0, 1) := by decide +kernel
theorem dX9_openCases_6 : decode cX9_openCases 6 = .ok (.getfield 50, 3) := by decide +kernel
theorem dX9_openCases_9 : decode cX9_openCases 9 = .ok (.invokevirtual 143, 3) := by decide +kernel
theorem dX9_openCases_12 : decode cX9_openCases 12 = .ok (.if_icmp .ge 29, 3) := by decide +kernel
theorem dX9_openCases_15 : decode cX9_openCases 15 = .ok (.aload_n 0, 1) := by decide +kernel
theorem dX9_openCases_16 : decode cX9_openCases 16 = .ok (.getfield 50, 3) := by decide +kernel
theorem dX9_openCases_19 : decode cX9_openCases 19 = .ok (.iload_n 2, 1) := by decide +kernel
theorem dX9_openCases_20 : decode cX9_openCases 20 = .ok (.invokevirtual 275, 3) := by decide +kernel
theorem dX9_openCases_23 : decode cX9_openCases 23 = .ok (.checkcast 209, 3) := by decide +kernel
theorem dX9_openCases_26 : decode cX9_openCases 26 = .ok (.getfield 232, 3) := by decide +kernel
theorem dX9_openCases_29 : decode cX9_openCases 29 = .ok (.ifCond .ne 6, 3) := by decide +kernel
theorem dX9_openCases_32 : decode cX9_openCases 32 = .ok (.iinc 1 1, 3) := by decide +kernel
theorem dX9_openCases_35 : decode cX9_openCases 35 = .ok (.iinc 2 1, 3) := by decide +kernel
theorem dX9_openCases_38 : decode cX9_openCases 38 = .ok (.goto (-34), 3) := by decide +kernel
theorem dX9_openCases_41 : decode cX9_openCases 41 = .ok (.iload_n 1, 1) := by decide +kernel
theorem dX9_openCases_42 : decode cX9_openCases 42 = .ok (.ireturn, 1) := by decide +kernel
set_option maxRecDepth 20000 in
theorem ggX9_allBees_Jx4a65c_size_8abf5 : GoodIn wsX9_allBees wsJx4a65c_size_8abf5 := goodIn_r _ [9, 10, 60, 61, 62] (by decide +kernel) (by decide +kernel)
set_option maxRecDepth 20000 in
theorem gX9_allBees_Jx4a65c_size_8abf5 : GoodIn wsX9_allBees (wsV RX9 143 RJx4a65c yJx4a65c_size_8abf5 wsJx4a65c_size_8abf5) := goodIn_app (goodIn_of _ (by decide +kernel)) ggX9_allBees_Jx4a65c_size_8abf5
set_option maxRecDepth 20000 in
theorem ggX9_allBees_Jx4a65c_get_915e3 : GoodIn wsX9_allBees wsJx4a65c_get_915e3 := goodIn_r _ [14, 10, 15, 16, 17, 18, 19, 20, 21, 22, 23, 24, 25, 8, 26, 27, 60, 61, 62] (by decide +kernel) (by decide +kernel)
set_option maxRecDepth 20000 in
theorem gX9_allBees_Jx4a65c_get_915e3 : GoodIn wsX9_allBees (wsV RX9 275 RJx4a65c yJx4a65c_get_915e3 wsJx4a65c_get_915e3) := goodIn_app (goodIn_of _ (by decide +kernel)) ggX9_allBees_Jx4a65c_get_915e3
theorem dX9_allBees_0 : decode cX9_allBees 0 = .ok (.iconst 0, 1) := by decide +kernel
theorem dX9_allBees_1 : decode cX9_allBees 1 = .ok (.istore_n 1, 1) := by decide +kernel
theorem dX9_allBees_2 : decode cX9_allBees 2 = .ok (.iconst 0, 1) := by decide +kernel
theorem dX9_allBees_3 : decode cX9_allBees 3 = .ok (.istore_n 2, 1) := by decide +kernel
theorem dX9_allBees_4 : decode cX9_allBees 4 = .ok (.iload_n 2, 1) := by decide +kernel
theorem dX9_allBees_5 : decode cX9_allBees 5 = .ok (.aload_n 0, 1) := by decide +kernel
theorem dX9_allBees_6 : decode cX9_allBees 6 = .ok (.getfield 40, 3) := by decide +kernel
theorem dX9_allBees_9 : decode cX9_allBees 9 = .ok (.invokevirtual 143, 3) := by decide +kernel
theorem dX9_allBees_12 : decode cX9_allBees 12 = .ok (.if_icmp .ge 26, 3) := by decide +kernel
theorem dX9_allBees_15 : decode cX9_allBees 15 = .ok (.iload_n 1, 1) := by decide +kernel
theorem dX9_allBees_16 : decode cX9_allBees 16 = .ok (.aload_n 0, 1) := by decide +kernel
theorem dX9_allBees_17 : decode cX9_allBees 17 = .ok (.getfield 40, 3) := by decide +kernel
theorem dX9_allBees_20 : decode cX9_allBees 20 = .ok (.iload_n 2, 1) := by decide +kernel
theorem dX9_allBees_21 : decode cX9_allBees 21 = .ok (.invokevirtual 275, 3) := by decide +kernel
theorem dX9_allBees_24 : decode cX9_allBees 24 = .ok (.checkcast 151, 3) := by decide +kernel
theorem dX9_allBees_27 : decode cX9_allBees 27 = .ok (.getfield 429, 3) := by decide +kernel
theorem dX9_allBees_30 : decode cX9_allBees 30 = .ok (.iadd, 1) := by decide +kernel
theorem dX9_allBees_31 : decode cX9_allBees 31 = .ok (.istore_n 1, 1) := by decide +kernel
theorem dX9_allBees_32 : decode cX9_allBees 32 = .ok (.iinc 2 1, 3) := by decide +kernel
theorem dX9_allBees_35 : decode cX9_allBees 35 = .ok (.goto (-31), 3) := by decide +kernel
theorem dX9_allBees_38 : decode cX9_allBees 38 = .ok (.iconst 0, 1) := by decide +kernel
theorem dX9_allBees_39 : decode cX9_allBees 39 = .ok (.istore_n 2, 1) := by decide +kernel
theorem dX9_allBees_40 : decode cX9_allBees 40 = .ok (.iload_n 2, 1) := by decide +kernel
theorem dX9_allBees_41 : decode cX9_allBees 41 = .ok (.aload_n 0, 1) := by decide +kernel
theorem dX9_allBees_42 : decode cX9_allBees 42 = .ok (.getfield 44, 3) := by decide +kernel
theorem dX9_allBees_45 : decode cX9_allBees 45 = .ok (.invokevirtual 143, 3) := by decide +kernel
theorem dX9_allBees_48 : decode cX9_allBees 48 = .ok (.if_icmp .ge 44, 3) := by decide +kernel
theorem dX9_allBees_51 : decode cX9_allBees 51 = .ok (.aload_n 0, 1) := by decide +kernel
theorem dX9_allBees_52 : decode cX9_allBees 52 = .ok (.getfield 44, 3) := by decide +kernel
theorem dX9_allBees_55 : decode cX9_allBees 55 = .ok (.iload_n 2, 1) := by decide +kernel
theorem dX9_allBees_56 : decode cX9_allBees 56 = .ok (.invokevirtual 275, 3) := by decide +kernel
theorem dX9_allBees_59 : decode cX9_allBees 59 = .ok (.checkcast 292, 3) := by decide +kernel
theorem dX9_allBees_62 : decode cX9_allBees 62 = .ok (.getfield 291, 3) := by decide +kernel
theorem dX9_allBees_65 : decode cX9_allBees 65 = .ok (.iconst 2, 1) := by decide +kernel
theorem dX9_allBees_66 : decode cX9_allBees 66 = .ok (.if_icmp .eq 20, 3) := by decide +kernel
theorem dX9_allBees_69 : decode cX9_allBees 69 = .ok (.iload_n 1, 1) := by decide +kernel
theorem dX9_allBees_70 : decode cX9_allBees 70 = .ok (.aload_n 0, 1) := by decide +kernel
theorem dX9_allBees_71 : decode cX9_allBees 71 = .ok (.getfield 44, 3) := by decide +kernel
theorem dX9_allBees_74 : decode cX9_allBees 74 = .ok (.iload_n 2, 1) := by decide +kernel
theorem dX9_allBees_75 : decode cX9_allBees 75 = .ok (.invokevirtual 275, 3) := by decide +kernel
theorem dX9_allBees_78 : decode cX9_allBees 78 = .ok (.checkcast 292, 3) := by decide +kernel
theorem dX9_allBees_81 : decode cX9_allBees 81 = .ok (.getfield 432, 3) := by decide +kernel
theorem dX9_allBees_84 : decode cX9_allBees 84 = .ok (.iadd, 1) := by decide +kernel
theorem dX9_allBees_85 : decode cX9_allBees 85 = .ok (.istore_n 1, 1) := by decide +kernel
theorem dX9_allBees_86 : decode cX9_allBees 86 = .ok (.iinc 2 1, 3) := by decide +kernel
theorem dX9_allBees_89 : decode cX9_allBees 89 = .ok (.goto (-49), 3) := by decide +kernel
theorem dX9_allBees_92 : decode cX9_allBees 92 = .ok (.iload_n 1, 1) := by decide +kernel
theorem dX9_allBees_93 : decode cX9_allBees 93 = .ok (.ireturn, 1) := by decide +kernel
theorem dX9_isWithin_0 : decode cX9_isWithin 0 = .ok (.iload_n 0, 1) := by decide +kernel
theorem dX9_isWithin_1 : decode cX9_isWithin 1 = .ok (.iload_n 1, 1) := by decide +kernel
theorem dX9_isWithin_2 : decode cX9_isWithin 2 = .ok (.if_icmp .lt 12, 3) := by decide +kernel
theorem dX9_isWithin_5 : decode cX9_isWithin 5 = .ok (.iload_n 0, 1) := by decide +kernel
theorem dX9_isWithin_6 : decode cX9_isWithin 6 = .ok (.iload_n 2, 1) := by decide +kernel
theorem dX9_isWithin_7 : decode cX9_isWithin 7 = .ok (.if_icmp .gt 7, 3) := by decide +kernel
theorem dX9_isWithin_10 : decode cX9_isWithin 10 = .ok (.iconst 1, 1) := by decide +kernel
theorem dX9_isWithin_11 : decode cX9_isWithin 11 = .ok (.goto 4, 3) := by decide +kernel
theorem dX9_isWithin_14 : decode cX9_isWithin 14 = .ok (.iconst 0, 1) := by decide +kernel
theorem dX9_isWithin_15 : decode cX9_isWithin 15 = .ok (.ireturn, 1) := by decide +kernel
set_option maxRecDepth 20000 in
theorem ggX9_isPlace_X9_isWithin : GoodIn wsX9_isPlace wsX9_isWithin := goodIn_r _ [4] (by decide +kernel) (by decide +kernel)
set_option maxRecDepth 20000 in
theorem gX9_isPlace_X9_isWithin : GoodIn wsX9_isPlace (va_wsS RX9 104 yX9_isWithin wsX9_isWithin) := goodIn_app (goodIn_of _ (by decide +kernel)) ggX9_isPlace_X9_isWithin
theorem dX9_isPlace_0 : decode cX9_isPlace 0 = .ok (.iload_n 0, 1) := by decide +kernel
theorem dX9_isPlace_1 : decode cX9_isPlace 1 = .ok (.iconst 0, 1) := by decide +kernel
theorem dX9_isPlace_2 : decode cX9_isPlace 2 = .ok (.bipush 19, 2) := by decide +kernel
theorem dX9_isPlace_4 : decode cX9_isPlace 4 = .ok (.invokestatic 104, 3) := by decide +kernel
theorem dX9_isPlace_7 : decode cX9_isPlace 7 = .ok (.ifCond .eq 17, 3) := by decide +kernel
theorem dX9_isPlace_10 : decode cX9_isPlace 10 = .ok (.iload_n 1, 1) := by decide +kernel
theorem dX9_isPlace_11 : decode cX9_isPlace 11 = .ok (.iconst 0, 1) := by decide +kernel
theorem dX9_isPlace_12 : decode cX9_isPlace 12 = .ok (.bipush 19, 2) := by decide +kernel
theorem dX9_isPlace_14 : decode cX9_isPlace 14 = .ok (.invokestatic 104, 3) := by decide +kernel
theorem dX9_isPlace_17 : decode cX9_isPlace 17 = .ok (.ifCond .eq 7, 3) := by decide +kernel
theorem dX9_isPlace_20 : decode cX9_isPlace 20 = .ok (.iconst 1, 1) := by decide +kernel
theorem dX9_isPlace_21 : decode cX9_isPlace 21 = .ok (.goto 4, 3) := by decide +kernel
theorem dX9_isPlace_24 : decode cX9_isPlace 24 = .ok (.iconst 0, 1) := by decide +kernel
theorem dX9_isPlace_25 : decode cX9_isPlace 25 = .ok (.ireturn, 1) := by decide +kernel
set_option maxRecDepth 20000 in
theorem ggX9_isHourOfDay_X9_isWithin : GoodIn wsX9_isHourOfDay wsX9_isWithin := goodIn_r _ [4] (by decide +kernel) (by decide +kernel)
set_option maxRecDepth 20000 in
theorem gX9_isHourOfDay_X9_isWithin : GoodIn wsX9_isHourOfDay (va_wsS RX9 104 yX9_isWithin wsX9_isWithin) := goodIn_app (goodIn_of _ (by decide +kernel)) ggX9_isHourOfDay_X9_isWithin
theorem dX9_isHourOfDay_0 : decode cX9_isHourOfDay 0 = .ok (.iload_n 0, 1) := by decide +kernel
theorem dX9_isHourOfDay_1 : decode cX9_isHourOfDay 1 = .ok (.iconst 0, 1) := by decide +kernel
theorem dX9_isHourOfDay_2 : decode cX9_isHourOfDay 2 = .ok (.bipush 23, 2) := by decide +kernel
theorem dX9_isHourOfDay_4 : decode cX9_isHourOfDay 4 = .ok (.invokestatic 104, 3) := by decide +kernel
theorem dX9_isHourOfDay_7 : decode cX9_isHourOfDay 7 = .ok (.ireturn, 1) := by decide +kernel
theorem dX9_districtOf_0 : decode cX9_districtOf 0 = .ok (.iload_n 1, 1) := by decide +kernel
theorem dX9_districtOf_1 : decode cX9_districtOf 1 = .ok (.iconst 5, 1) := by decide +kernel
theorem dX9_districtOf_2 : decode cX9_districtOf 2 = .ok (.idiv, 1) := by decide +kernel
theorem dX9_districtOf_3 : decode cX9_districtOf 3 = .ok (.iconst 4, 1) := by decide +kernel
theorem dX9_districtOf_4 : decode cX9_districtOf 4 = .ok (.imul, 1) := by decide +kernel
theorem dX9_districtOf_5 : decode cX9_districtOf 5 = .ok (.iload_n 0, 1) := by decide +kernel
theorem dX9_districtOf_6 : decode cX9_districtOf 6 = .ok (.iconst 5, 1) := by decide +kernel
theorem dX9_districtOf_7 : decode cX9_districtOf 7 = .ok (.idiv, 1) := by decide +kernel
theorem dX9_districtOf_8 : decode cX9_districtOf 8 = .ok (.iadd, 1) := by decide +kernel
theorem dX9_districtOf_9 : decode cX9_districtOf 9 = .ok (.ireturn, 1) := by decide +kernel
theorem dX9_stepsBetween_0 : decode cX9_stepsBetween 0 = .ok (.iload_n 0, 1) := by decide +kernel
theorem dX9_stepsBetween_1 : decode cX9_stepsBetween 1 = .ok (.iload_n 2, 1) := by decide +kernel
theorem dX9_stepsBetween_2 : decode cX9_stepsBetween 2 = .ok (.isub, 1) := by decide +kernel
theorem dX9_stepsBetween_3 : decode cX9_stepsBetween 3 = .ok (.invokestatic 433, 3) := by decide +kernel
theorem dX9_stepsBetween_6 : decode cX9_stepsBetween 6 = .ok (.iload_n 1, 1) := by decide +kernel
theorem dX9_stepsBetween_7 : decode cX9_stepsBetween 7 = .ok (.iload_n 3, 1) := by decide +kernel
theorem dX9_stepsBetween_8 : decode cX9_stepsBetween 8 = .ok (.isub, 1) := by decide +kernel
theorem dX9_stepsBetween_9 : decode cX9_stepsBetween 9 = .ok (.invokestatic 433, 3) := by decide +kernel
theorem dX9_stepsBetween_12 : decode cX9_stepsBetween 12 = .ok (.invokestatic 371, 3) := by decide +kernel
theorem dX9_stepsBetween_15 : decode cX9_stepsBetween 15 = .ok (.ireturn, 1) := by decide +kernel
theorem dJ6_bitCount_0f7a4_0 : decode cJ6_bitCount_0f7a4 0 = .ok (.iload_n 0, 1) := by decide +kernel
theorem dJ6_bitCount_0f7a4_1 : decode cJ6_bitCount_0f7a4 1 = .ok (.iload_n 0, 1) := by decide +kernel
theorem dJ6_bitCount_0f7a4_2 : decode cJ6_bitCount_0f7a4 2 = .ok (.iconst 1, 1) := by decide +kernel
theorem dJ6_bitCount_0f7a4_3 : decode cJ6_bitCount_0f7a4 3 = .ok (.iushr, 1) := by decide +kernel
theorem dJ6_bitCount_0f7a4_4 : decode cJ6_bitCount_0f7a4 4 = .ok (.ldc_w 265, 3) := by decide +kernel
theorem dJ6_bitCount_0f7a4_7 : decode cJ6_bitCount_0f7a4 7 = .ok (.iand, 1) := by decide +kernel
theorem dJ6_bitCount_0f7a4_8 : decode cJ6_bitCount_0f7a4 8 = .ok (.isub, 1) := by decide +kernel
theorem dJ6_bitCount_0f7a4_9 : decode cJ6_bitCount_0f7a4 9 = .ok (.istore_n 0, 1) := by decide +kernel
theorem dJ6_bitCount_0f7a4_10 : decode cJ6_bitCount_0f7a4 10 = .ok (.iload_n 0, 1) := by decide +kernel
theorem dJ6_bitCount_0f7a4_11 : decode cJ6_bitCount_0f7a4 11 = .ok (.ldc_w 266, 3) := by decide +kernel
theorem dJ6_bitCount_0f7a4_14 : decode cJ6_bitCount_0f7a4 14 = .ok (.iand, 1) := by decide +kernel
theorem dJ6_bitCount_0f7a4_15 : decode cJ6_bitCount_0f7a4 15 = .ok (.iload_n 0, 1) := by decide +kernel
theorem dJ6_bitCount_0f7a4_16 : decode cJ6_bitCount_0f7a4 16 = .ok (.iconst 2, 1) := by decide +kernel
theorem dJ6_bitCount_0f7a4_17 : decode cJ6_bitCount_0f7a4 17 = .ok (.iushr, 1) := by decide +kernel
theorem dJ6_bitCount_0f7a4_18 : decode cJ6_bitCount_0f7a4 18 = .ok (.ldc_w 266, 3) := by decide +kernel
theorem dJ6_bitCount_0f7a4_21 : decode cJ6_bitCount_0f7a4 21 = .ok (.iand, 1) := by decide +kernel
theorem dJ6_bitCount_0f7a4_22 : decode cJ6_bitCount_0f7a4 22 = .ok (.iadd, 1) := by decide +kernel
theorem dJ6_bitCount_0f7a4_23 : decode cJ6_bitCount_0f7a4 23 = .ok (.istore_n 0, 1) := by decide +kernel
theorem dJ6_bitCount_0f7a4_24 : decode cJ6_bitCount_0f7a4 24 = .ok (.iload_n 0, 1) := by decide +kernel
theorem dJ6_bitCount_0f7a4_25 : decode cJ6_bitCount_0f7a4 25 = .ok (.iload_n 0, 1) := by decide +kernel
theorem dJ6_bitCount_0f7a4_26 : decode cJ6_bitCount_0f7a4 26 = .ok (.iconst 4, 1) := by decide +kernel
theorem dJ6_bitCount_0f7a4_27 : decode cJ6_bitCount_0f7a4 27 = .ok (.iushr, 1) := by decide +kernel
theorem dJ6_bitCount_0f7a4_28 : decode cJ6_bitCount_0f7a4 28 = .ok (.iadd, 1) := by decide +kernel
theorem dJ6_bitCount_0f7a4_29 : decode cJ6_bitCount_0f7a4 29 = .ok (.ldc_w 267, 3) := by decide +kernel
theorem dJ6_bitCount_0f7a4_32 : decode cJ6_bitCount_0f7a4 32 = .ok (.iand, 1) := by decide +kernel
theorem dJ6_bitCount_0f7a4_33 : decode cJ6_bitCount_0f7a4 33 = .ok (.istore_n 0, 1) := by decide +kernel
theorem dJ6_bitCount_0f7a4_34 : decode cJ6_bitCount_0f7a4 34 = .ok (.iload_n 0, 1) := by decide +kernel
theorem dJ6_bitCount_0f7a4_35 : decode cJ6_bitCount_0f7a4 35 = .ok (.iload_n 0, 1) := by decide +kernel
theorem dJ6_bitCount_0f7a4_36 : decode cJ6_bitCount_0f7a4 36 = .ok (.bipush 8, 2) := by decide +kernel
theorem dJ6_bitCount_0f7a4_38 : decode cJ6_bitCount_0f7a4 38 = .ok (.iushr, 1) := by decide +kernel
theorem dJ6_bitCount_0f7a4_39 : decode cJ6_bitCount_0f7a4 39 = .ok (.iadd, 1) := by decide +kernel
theorem dJ6_bitCount_0f7a4_40 : decode cJ6_bitCount_0f7a4 40 = .ok (.istore_n 0, 1) := by decide +kernel
theorem dJ6_bitCount_0f7a4_41 : decode cJ6_bitCount_0f7a4 41 = .ok (.iload_n 0, 1) := by decide +kernel
theorem dJ6_bitCount_0f7a4_42 : decode cJ6_bitCount_0f7a4 42 = .ok (.iload_n 0, 1) := by decide +kernel
theorem dJ6_bitCount_0f7a4_43 : decode cJ6_bitCount_0f7a4 43 = .ok (.bipush 16, 2) := by decide +kernel
theorem dJ6_bitCount_0f7a4_45 : decode cJ6_bitCount_0f7a4 45 = .ok (.iushr, 1) := by decide +kernel
theorem dJ6_bitCount_0f7a4_46 : decode cJ6_bitCount_0f7a4 46 = .ok (.iadd, 1) := by decide +kernel
theorem dJ6_bitCount_0f7a4_47 : decode cJ6_bitCount_0f7a4 47 = .ok (.istore_n 0, 1) := by decide +kernel
theorem dJ6_bitCount_0f7a4_48 : decode cJ6_bitCount_0f7a4 48 = .ok (.iload_n 0, 1) := by decide +kernel
theorem dJ6_bitCount_0f7a4_49 : decode cJ6_bitCount_0f7a4 49 = .ok (.bipush 63, 2) := by decide +kernel
theorem dJ6_bitCount_0f7a4_51 : decode cJ6_bitCount_0f7a4 51 = .ok (.iand, 1) := by decide +kernel
theorem dJ6_bitCount_0f7a4_52 : decode cJ6_bitCount_0f7a4 52 = .ok (.ireturn, 1) := by decide +kernel
theorem dJ9_abs_0f7a4_0 : decode cJ9_abs_0f7a4 0 = .ok (.iload_n 0, 1) := by decide +kernel
theorem dJ9_abs_0f7a4_1 : decode cJ9_abs_0f7a4 1 = .ok (.ifCond .ge 8, 3) := by decide +kernel
theorem dJ9_abs_0f7a4_4 : decode cJ9_abs_0f7a4 4 = .ok (.iload_n 0, 1) := by decide +kernel
theorem dJ9_abs_0f7a4_5 : decode cJ9_abs_0f7a4 5 = .ok (.ineg, 1) := by decide +kernel
theorem dJ9_abs_0f7a4_6 : decode cJ9_abs_0f7a4 6 = .ok (.goto 4, 3) := by decide +kernel
theorem dJ9_abs_0f7a4_9 : decode cJ9_abs_0f7a4 9 = .ok (.iload_n 0, 1) := by decide +kernel
theorem dJ9_abs_0f7a4_10 : decode cJ9_abs_0f7a4 10 = .ok (.ireturn, 1) := by decide +kernel
theorem dJ9_max_7cf53_0 : decode cJ9_max_7cf53 0 = .ok (.iload_n 0, 1) := by decide +kernel
theorem dJ9_max_7cf53_1 : decode cJ9_max_7cf53 1 = .ok (.iload_n 1, 1) := by decide +kernel
theorem dJ9_max_7cf53_2 : decode cJ9_max_7cf53 2 = .ok (.if_icmp .lt 7, 3) := by decide +kernel
theorem dJ9_max_7cf53_5 : decode cJ9_max_7cf53 5 = .ok (.iload_n 0, 1) := by decide +kernel
theorem dJ9_max_7cf53_6 : decode cJ9_max_7cf53 6 = .ok (.goto 4, 3) := by decide +kernel
theorem dJ9_max_7cf53_9 : decode cJ9_max_7cf53 9 = .ok (.iload_n 1, 1) := by decide +kernel
theorem dJ9_max_7cf53_10 : decode cJ9_max_7cf53 10 = .ok (.ireturn, 1) := by decide +kernel
theorem dJ9_min_7cf53_0 : decode cJ9_min_7cf53 0 = .ok (.iload_n 0, 1) := by decide +kernel
theorem dJ9_min_7cf53_1 : decode cJ9_min_7cf53 1 = .ok (.iload_n 1, 1) := by decide +kernel
theorem dJ9_min_7cf53_2 : decode cJ9_min_7cf53 2 = .ok (.if_icmp .gt 7, 3) := by decide +kernel
theorem dJ9_min_7cf53_5 : decode cJ9_min_7cf53 5 = .ok (.iload_n 0, 1) := by decide +kernel
theorem dJ9_min_7cf53_6 : decode cJ9_min_7cf53 6 = .ok (.goto 4, 3) := by decide +kernel
theorem dJ9_min_7cf53_9 : decode cJ9_min_7cf53 9 = .ok (.iload_n 1, 1) := by decide +kernel
theorem dJ9_min_7cf53_10 : decode cJ9_min_7cf53 10 = .ok (.ireturn, 1) := by decide +kernel
set_option maxRecDepth 20000 in
theorem ggJ0_length_8abf5_J0_coder_7d493 : GoodIn wsJ0_length_8abf5 wsJ0_coder_7d493 := goodIn_r _ [6, 7, 8] (by decide +kernel) (by decide +kernel)
set_option maxRecDepth 20000 in
theorem gJ0_length_8abf5_J0_coder_7d493 : GoodIn wsJ0_length_8abf5 (wsV RJ0 335 RJ0 yJ0_coder_7d493 wsJ0_coder_7d493) := goodIn_app (goodIn_of _ (by decide +kernel)) ggJ0_length_8abf5_J0_coder_7d493
theorem dJ0_length_8abf5_0 : decode cJ0_length_8abf5 0 = .ok (.aload_n 0, 1) := by decide +kernel
theorem dJ0_length_8abf5_1 : decode cJ0_length_8abf5 1 = .ok (.getfield 9, 3) := by decide +kernel
theorem dJ0_length_8abf5_4 : decode cJ0_length_8abf5 4 = .ok (.arraylength, 1) := by decide +kernel
theorem dJ0_length_8abf5_5 : decode cJ0_length_8abf5 5 = .ok (.aload_n 0, 1) := by decide +kernel
theorem dJ0_length_8abf5_6 : decode cJ0_length_8abf5 6 = .ok (.invokevirtual 335, 3) := by decide +kernel
theorem dJ0_length_8abf5_9 : decode cJ0_length_8abf5 9 = .ok (.ishr, 1) := by decide +kernel
theorem dJ0_length_8abf5_10 : decode cJ0_length_8abf5 10 = .ok (.ireturn, 1) := by decide +kernel
set_option maxRecDepth 20000 in
theorem ggJ0_charAt_5068e_J0_isLatin1_aae02 : GoodIn wsJ0_charAt_5068e wsJ0_isLatin1_aae02 := goodIn_r _ [6, 7, 8] (by decide +kernel) (by decide +kernel)
set_option maxRecDepth 20000 in
theorem gJ0_charAt_5068e_J0_isLatin1_aae02 : GoodIn wsJ0_charAt_5068e (wsV RJ0 492 RJ0 yJ0_isLatin1_aae02 wsJ0_isLatin1_aae02) := goodIn_app (goodIn_of _ (by decide +kernel)) ggJ0_charAt_5068e_J0_isLatin1_aae02
set_option maxRecDepth 20000 in
theorem ggJ0_charAt_5068e_J1_charAt_3b067 : GoodIn wsJ0_charAt_5068e wsJ1_charAt_3b067 := goodIn_r _ [12, 13, 14, 5, 15, 16, 17, 18, 19, 20] (by decide +kernel) (by decide +kernel)
set_option maxRecDepth 20000 in
theorem gJ0_charAt_5068e_J1_charAt_3b067 : GoodIn wsJ0_charAt_5068e (va_wsS RJ0 495 yJ1_charAt_3b067 wsJ1_charAt_3b067) := goodIn_app (goodIn_of _ (by decide +kernel)) ggJ0_charAt_5068e_J1_charAt_3b067
set_option maxRecDepth 20000 in
theorem ggJ0_charAt_5068e_J2_charAt_3b067 : GoodIn wsJ0_charAt_5068e wsJ2_charAt_3b067 := goodIn_r _ [24, 25, 26, 23, 27, 28, 29, 30, 31, 14, 5, 15, 16, 17, 18, 19, 20, 32, 33, 34, 35, 36, 37] (by decide +kernel) (by decide +kernel)
set_option maxRecDepth 20000 in
theorem gJ0_charAt_5068e_J2_charAt_3b067 : GoodIn wsJ0_charAt_5068e (va_wsS RJ0 498 yJ2_charAt_3b067 wsJ2_charAt_3b067) := goodIn_app (goodIn_of _ (by decide +kernel)) ggJ0_charAt_5068e_J2_charAt_3b067
theorem dJ0_charAt_5068e_0 : decode cJ0_charAt_5068e 0 = .ok (.aload_n 0, 1) := by decide +kernel
theorem dJ0_charAt_5068e_1 : decode cJ0_charAt_5068e 1 = .ok (.invokevirtual 492, 3) := by decide +kernel
theorem dJ0_charAt_5068e_4 : decode cJ0_charAt_5068e 4 = .ok (.ifCond .eq 12, 3) := by decide +kernel
theorem dJ0_charAt_5068e_7 : decode cJ0_charAt_5068e 7 = .ok (.aload_n 0, 1) := by decide +kernel
theorem dJ0_charAt_5068e_8 : decode cJ0_charAt_5068e 8 = .ok (.getfield 9, 3) := by decide +kernel
theorem dJ0_charAt_5068e_11 : decode cJ0_charAt_5068e 11 = .ok (.iload_n 1, 1) := by decide +kernel
theorem dJ0_charAt_5068e_12 : decode cJ0_charAt_5068e 12 = .ok (.invokestatic 495, 3) := by decide +kernel
theorem dJ0_charAt_5068e_15 : decode cJ0_charAt_5068e 15 = .ok (.ireturn, 1) := by decide +kernel
theorem dJ0_charAt_5068e_16 : decode cJ0_charAt_5068e 16 = .ok (.aload_n 0, 1) := by decide +kernel
theorem dJ0_charAt_5068e_17 : decode cJ0_charAt_5068e 17 = .ok (.getfield 9, 3) := by decide +kernel
theorem dJ0_charAt_5068e_20 : decode cJ0_charAt_5068e 20 = .ok (.iload_n 1, 1) := by decide +kernel
theorem dJ0_charAt_5068e_21 : decode cJ0_charAt_5068e 21 = .ok (.invokestatic 498, 3) := by decide +kernel
theorem dJ0_charAt_5068e_24 : decode cJ0_charAt_5068e 24 = .ok (.ireturn, 1) := by decide +kernel
theorem dJ0_coder_7d493_0 : decode cJ0_coder_7d493 0 = .ok (.getstatic 38, 3) := by decide +kernel
theorem dJ0_coder_7d493_3 : decode cJ0_coder_7d493 3 = .ok (.ifCond .eq 10, 3) := by decide +kernel
theorem dJ0_coder_7d493_6 : decode cJ0_coder_7d493 6 = .ok (.aload_n 0, 1) := by decide +kernel
theorem dJ0_coder_7d493_7 : decode cJ0_coder_7d493 7 = .ok (.getfield 15, 3) := by decide +kernel
theorem dJ0_coder_7d493_10 : decode cJ0_coder_7d493 10 = .ok (.goto 4, 3) := by decide +kernel
theorem dJ0_coder_7d493_13 : decode cJ0_coder_7d493 13 = .ok (.iconst 1, 1) := by decide +kernel
theorem dJ0_coder_7d493_14 : decode cJ0_coder_7d493 14 = .ok (.ireturn, 1) := by decide +kernel
theorem dJ0_isLatin1_aae02_0 : decode cJ0_isLatin1_aae02 0 = .ok (.getstatic 38, 3) := by decide +kernel
theorem dJ0_isLatin1_aae02_3 : decode cJ0_isLatin1_aae02 3 = .ok (.ifCond .eq 14, 3) := by decide +kernel
theorem dJ0_isLatin1_aae02_6 : decode cJ0_isLatin1_aae02 6 = .ok (.aload_n 0, 1) := by decide +kernel
theorem dJ0_isLatin1_aae02_7 : decode cJ0_isLatin1_aae02 7 = .ok (.getfield 15, 3) := by decide +kernel
theorem dJ0_isLatin1_aae02_10 : decode cJ0_isLatin1_aae02 10 = .ok (.ifCond .ne 7, 3) := by decide +kernel
theorem dJ0_isLatin1_aae02_13 : decode cJ0_isLatin1_aae02 13 = .ok (.iconst 1, 1) := by decide +kernel
theorem dJ0_isLatin1_aae02_14 : decode cJ0_isLatin1_aae02 14 = .ok (.goto 4, 3) := by decide +kernel
theorem dJ0_isLatin1_aae02_17 : decode cJ0_isLatin1_aae02 17 = .ok (.iconst 0, 1) := by decide +kernel
theorem dJ0_isLatin1_aae02_18 : decode cJ0_isLatin1_aae02 18 = .ok (.ireturn, 1) := by decide +kernel
set_option maxRecDepth 20000 in
theorem ggJ0_checkIndex_df160_J3_checkIndex_8e157 : GoodIn wsJ0_checkIndex_df160 wsJ3_checkIndex_8e157 := goodIn_r _ [5] (by decide +kernel) (by decide +kernel)
set_option maxRecDepth 20000 in
theorem gJ0_checkIndex_df160_J3_checkIndex_8e157 : GoodIn wsJ0_checkIndex_df160 (va_wsS RJ0 1059 yJ3_checkIndex_8e157 wsJ3_checkIndex_8e157) := goodIn_app (goodIn_of _ (by decide +kernel)) ggJ0_checkIndex_df160_J3_checkIndex_8e157
theorem dJ0_checkIndex_df160_0 : decode cJ0_checkIndex_df160 0 = .ok (.iload_n 0, 1) := by decide +kernel
theorem dJ0_checkIndex_df160_1 : decode cJ0_checkIndex_df160 1 = .ok (.iload_n 1, 1) := by decide +kernel
theorem dJ0_checkIndex_df160_2 : decode cJ0_checkIndex_df160 2 = .ok (.getstatic 1053, 3) := by decide +kernel
theorem dJ0_checkIndex_df160_5 : decode cJ0_checkIndex_df160 5 = .ok (.invokestatic 1059, 3) := by decide +kernel
theorem dJ0_checkIndex_df160_8 : decode cJ0_checkIndex_df160 8 = .ok (.pop, 1) := by decide +kernel
theorem dJ0_checkIndex_df160_9 : decode cJ0_checkIndex_df160 9 = .ok (.return_, 1) := by decide +kernel
set_option maxRecDepth 20000 in
theorem ggJ1_charAt_3b067_J0_checkIndex_df160 : GoodIn wsJ1_charAt_3b067 wsJ0_checkIndex_df160 := goodIn_r _ [4, 5, 6, 7, 8, 9] (by decide +kernel) (by decide +kernel)
set_option maxRecDepth 20000 in
theorem gJ1_charAt_3b067_J0_checkIndex_df160 : GoodIn wsJ1_charAt_3b067 (va_wsS RJ1 9 yJ0_checkIndex_df160 wsJ0_checkIndex_df160) := goodIn_app (goodIn_of _ (by decide +kernel)) ggJ1_charAt_3b067_J0_checkIndex_df160
theorem dJ1_charAt_3b067_0 : decode cJ1_charAt_3b067 0 = .ok (.iload_n 1, 1) := by decide +kernel
theorem dJ1_charAt_3b067_1 : decode cJ1_charAt_3b067 1 = .ok (.aload_n 0, 1) := by decide +kernel
theorem dJ1_charAt_3b067_2 : decode cJ1_charAt_3b067 2 = .ok (.arraylength, 1) := by decide +kernel
theorem dJ1_charAt_3b067_3 : decode cJ1_charAt_3b067 3 = .ok (.invokestatic 9, 3) := by decide +kernel
theorem dJ1_charAt_3b067_6 : decode cJ1_charAt_3b067 6 = .ok (.aload_n 0, 1) := by decide +kernel
theorem dJ1_charAt_3b067_7 : decode cJ1_charAt_3b067 7 = .ok (.iload_n 1, 1) := by decide +kernel
theorem dJ1_charAt_3b067_8 : decode cJ1_charAt_3b067 8 = .ok (.baload, 1) := by decide +kernel
theorem dJ1_charAt_3b067_9 : decode cJ1_charAt_3b067 9 = .ok (.sipush 255, 3) := by decide +kernel
theorem dJ1_charAt_3b067_12 : decode cJ1_charAt_3b067 12 = .ok (.iand, 1) := by decide +kernel
theorem dJ1_charAt_3b067_13 : decode cJ1_charAt_3b067 13 = .ok (.i2c, 1) := by decide +kernel
theorem dJ1_charAt_3b067_14 : decode cJ1_charAt_3b067 14 = .ok (.ireturn, 1) := by decide +kernel
set_option maxRecDepth 20000 in
theorem ggJ2_getChar_3b067_J2_length_9d52b : GoodIn wsJ2_getChar_3b067 wsJ2_length_9d52b := goodIn_r _ [7] (by decide +kernel) (by decide +kernel)
set_option maxRecDepth 20000 in
theorem gJ2_getChar_3b067_J2_length_9d52b : GoodIn wsJ2_getChar_3b067 (va_wsS RJ2 48 yJ2_length_9d52b wsJ2_length_9d52b) := goodIn_app (goodIn_of _ (by decide +kernel)) ggJ2_getChar_3b067_J2_length_9d52b
theorem dJ2_getChar_3b067_0 : decode cJ2_getChar_3b067 0 = .ok (.getstatic 44, 3) := by decide +kernel
theorem dJ2_getChar_3b067_3 : decode cJ2_getChar_3b067 3 = .ok (.ifCond .ne 25, 3) := by decide +kernel
theorem dJ2_getChar_3b067_6 : decode cJ2_getChar_3b067 6 = .ok (.iload_n 1, 1) := by decide +kernel
theorem dJ2_getChar_3b067_7 : decode cJ2_getChar_3b067 7 = .ok (.ifCond .lt 11, 3) := by decide +kernel
theorem dJ2_getChar_3b067_10 : decode cJ2_getChar_3b067 10 = .ok (.iload_n 1, 1) := by decide +kernel
theorem dJ2_getChar_3b067_11 : decode cJ2_getChar_3b067 11 = .ok (.aload_n 0, 1) := by decide +kernel
theorem dJ2_getChar_3b067_12 : decode cJ2_getChar_3b067 12 = .ok (.invokestatic 48, 3) := by decide +kernel
theorem dJ2_getChar_3b067_15 : decode cJ2_getChar_3b067 15 = .ok (.if_icmp .lt 13, 3) := by decide +kernel
theorem dJ2_getChar_3b067_18 : decode cJ2_getChar_3b067 18 = .ok (.new 52, 3) := by decide +kernel
theorem dJ2_getChar_3b067_21 : decode cJ2_getChar_3b067 21 = .ok (.dup, 1) := by decide +kernel
theorem dJ2_getChar_3b067_22 : decode cJ2_getChar_3b067 22 = .ok (.ldc 54, 2) := by decide +kernel
theorem dJ2_getChar_3b067_24 : decode cJ2_getChar_3b067 24 = .ok (.invokespecial 56, 3) := by decide +kernel
theorem dJ2_getChar_3b067_27 : decode cJ2_getChar_3b067 27 = .ok (.athrow, 1) := by decide +kernel
theorem dJ2_getChar_3b067_28 : decode cJ2_getChar_3b067 28 = .ok (.iload_n 1, 1) := by decide +kernel
theorem dJ2_getChar_3b067_29 : decode cJ2_getChar_3b067 29 = .ok (.iconst 1, 1) := by decide +kernel
theorem dJ2_getChar_3b067_30 : decode cJ2_getChar_3b067 30 = .ok (.ishl, 1) := by decide +kernel
theorem dJ2_getChar_3b067_31 : decode cJ2_getChar_3b067 31 = .ok (.istore_n 1, 1) := by decide +kernel
theorem dJ2_getChar_3b067_32 : decode cJ2_getChar_3b067 32 = .ok (.aload_n 0, 1) := by decide +kernel
theorem dJ2_getChar_3b067_33 : decode cJ2_getChar_3b067 33 = .ok (.iload_n 1, 1) := by decide +kernel
theorem dJ2_getChar_3b067_34 : decode cJ2_getChar_3b067 34 = .ok (.iinc 1 1, 3) := by decide +kernel
theorem dJ2_getChar_3b067_37 : decode cJ2_getChar_3b067 37 = .ok (.baload, 1) := by decide +kernel
theorem dJ2_getChar_3b067_38 : decode cJ2_getChar_3b067 38 = .ok (.sipush 255, 3) := by decide +kernel
theorem dJ2_getChar_3b067_41 : decode cJ2_getChar_3b067 41 = .ok (.iand, 1) := by decide +kernel
theorem dJ2_getChar_3b067_42 : decode cJ2_getChar_3b067 42 = .ok (.getstatic 59, 3) := by decide +kernel
theorem dJ2_getChar_3b067_45 : decode cJ2_getChar_3b067 45 = .ok (.ishl, 1) := by decide +kernel
theorem dJ2_getChar_3b067_46 : decode cJ2_getChar_3b067 46 = .ok (.aload_n 0, 1) := by decide +kernel
theorem dJ2_getChar_3b067_47 : decode cJ2_getChar_3b067 47 = .ok (.iload_n 1, 1) := by decide +kernel
theorem dJ2_getChar_3b067_48 : decode cJ2_getChar_3b067 48 = .ok (.baload, 1) := by decide +kernel
theorem dJ2_getChar_3b067_49 : decode cJ2_getChar_3b067 49 = .ok (.sipush 255, 3) := by decide +kernel
theorem dJ2_getChar_3b067_52 : decode cJ2_getChar_3b067 52 = .ok (.iand, 1) := by decide +kernel
theorem dJ2_getChar_3b067_53 : decode cJ2_getChar_3b067 53 = .ok (.getstatic 63, 3) := by decide +kernel
theorem dJ2_getChar_3b067_56 : decode cJ2_getChar_3b067 56 = .ok (.ishl, 1) := by decide +kernel
theorem dJ2_getChar_3b067_57 : decode cJ2_getChar_3b067 57 = .ok (.ior, 1) := by decide +kernel
theorem dJ2_getChar_3b067_58 : decode cJ2_getChar_3b067 58 = .ok (.i2c, 1) := by decide +kernel
theorem dJ2_getChar_3b067_59 : decode cJ2_getChar_3b067 59 = .ok (.ireturn, 1) := by decide +kernel
theorem dJ2_length_9d52b_0 : decode cJ2_length_9d52b 0 = .ok (.aload_n 0, 1) := by decide +kernel
theorem dJ2_length_9d52b_1 : decode cJ2_length_9d52b 1 = .ok (.arraylength, 1) := by decide +kernel
theorem dJ2_length_9d52b_2 : decode cJ2_length_9d52b 2 = .ok (.iconst 1, 1) := by decide +kernel
theorem dJ2_length_9d52b_3 : decode cJ2_length_9d52b 3 = .ok (.ishr, 1) := by decide +kernel
theorem dJ2_length_9d52b_4 : decode cJ2_length_9d52b 4 = .ok (.ireturn, 1) := by decide +kernel
set_option maxRecDepth 20000 in
theorem ggJ2_charAt_3b067_J2_checkIndex_2214a : GoodIn wsJ2_charAt_3b067 wsJ2_checkIndex_2214a := goodIn_r _ [4, 5, 6, 3, 7, 8, 9, 10, 11, 12, 13, 14, 15, 16] (by decide +kernel) (by decide +kernel)
set_option maxRecDepth 20000 in
theorem gJ2_charAt_3b067_J2_checkIndex_2214a : GoodIn wsJ2_charAt_3b067 (va_wsS RJ2 67 yJ2_checkIndex_2214a wsJ2_checkIndex_2214a) := goodIn_app (goodIn_of _ (by decide +kernel)) ggJ2_charAt_3b067_J2_checkIndex_2214a
set_option maxRecDepth 20000 in
theorem ggJ2_charAt_3b067_J2_getChar_3b067 : GoodIn wsJ2_charAt_3b067 wsJ2_getChar_3b067 := goodIn_r _ [19, 20, 21, 22, 5, 6, 3, 7] (by decide +kernel) (by decide +kernel)
set_option maxRecDepth 20000 in
theorem gJ2_charAt_3b067_J2_getChar_3b067 : GoodIn wsJ2_charAt_3b067 (va_wsS RJ2 71 yJ2_getChar_3b067 wsJ2_getChar_3b067) := goodIn_app (goodIn_of _ (by decide +kernel)) ggJ2_charAt_3b067_J2_getChar_3b067
theorem dJ2_charAt_3b067_0 : decode cJ2_charAt_3b067 0 = .ok (.iload_n 1, 1) := by decide +kernel
theorem dJ2_charAt_3b067_1 : decode cJ2_charAt_3b067 1 = .ok (.aload_n 0, 1) := by decide +kernel
theorem dJ2_charAt_3b067_2 : decode cJ2_charAt_3b067 2 = .ok (.invokestatic 67, 3) := by decide +kernel
theorem dJ2_charAt_3b067_5 : decode cJ2_charAt_3b067 5 = .ok (.aload_n 0, 1) := by decide +kernel
theorem dJ2_charAt_3b067_6 : decode cJ2_charAt_3b067 6 = .ok (.iload_n 1, 1) := by decide +kernel
theorem dJ2_charAt_3b067_7 : decode cJ2_charAt_3b067 7 = .ok (.invokestatic 71, 3) := by decide +kernel
theorem dJ2_charAt_3b067_10 : decode cJ2_charAt_3b067 10 = .ok (.ireturn, 1) := by decide +kernel
set_option maxRecDepth 20000 in
theorem ggJ2_checkIndex_2214a_J2_length_9d52b : GoodIn wsJ2_checkIndex_2214a wsJ2_length_9d52b := goodIn_r _ [4] (by decide +kernel) (by decide +kernel)
set_option maxRecDepth 20000 in
theorem gJ2_checkIndex_2214a_J2_length_9d52b : GoodIn wsJ2_checkIndex_2214a (va_wsS RJ2 48 yJ2_length_9d52b wsJ2_length_9d52b) := goodIn_app (goodIn_of _ (by decide +kernel)) ggJ2_checkIndex_2214a_J2_length_9d52b
set_option maxRecDepth 20000 in
theorem ggJ2_checkIndex_2214a_J0_checkIndex_df160 : GoodIn wsJ2_checkIndex_2214a wsJ0_checkIndex_df160 := goodIn_r _ [8, 9, 10, 11, 12, 13] (by decide +kernel) (by decide +kernel)
set_option maxRecDepth 20000 in
theorem gJ2_checkIndex_2214a_J0_checkIndex_df160 : GoodIn wsJ2_checkIndex_2214a (va_wsS RJ2 414 yJ0_checkIndex_df160 wsJ0_checkIndex_df160) := goodIn_app (goodIn_of _ (by decide +kernel)) ggJ2_checkIndex_2214a_J0_checkIndex_df160
theorem dJ2_checkIndex_2214a_0 : decode cJ2_checkIndex_2214a 0 = .ok (.iload_n 0, 1) := by decide +kernel
theorem dJ2_checkIndex_2214a_1 : decode cJ2_checkIndex_2214a 1 = .ok (.aload_n 1, 1) := by decide +kernel
theorem dJ2_checkIndex_2214a_2 : decode cJ2_checkIndex_2214a 2 = .ok (.invokestatic 48, 3) := by decide +kernel
theorem dJ2_checkIndex_2214a_5 : decode cJ2_checkIndex_2214a 5 = .ok (.invokestatic 414, 3) := by decide +kernel
theorem dJ2_checkIndex_2214a_8 : decode cJ2_checkIndex_2214a 8 = .ok (.return_, 1) := by decide +kernel
theorem dJxa1e45_init_da8c8_0 : decode cJxa1e45_init_da8c8 0 = .ok (.aload_n 0, 1) := by decide +kernel
theorem dJxa1e45_init_da8c8_1 : decode cJxa1e45_init_da8c8 1 = .ok (.invokespecial 1, 3) := by decide +kernel
theorem dJxa1e45_init_da8c8_4 : decode cJxa1e45_init_da8c8 4 = .ok (.return_, 1) := by decide +kernel
set_option maxRecDepth 20000 in
theorem ggJxc12de_init_da8c8_Jxa1e45_init_da8c8 : GoodIn wsJxc12de_init_da8c8 wsJxa1e45_init_da8c8 := goodIn_r _ [5, 6, 7, 8] (by decide +kernel) (by decide +kernel)
set_option maxRecDepth 20000 in
theorem gJxc12de_init_da8c8_Jxa1e45_init_da8c8 : GoodIn wsJxc12de_init_da8c8 (wsJxa1e45_init_da8c8) := ggJxc12de_init_da8c8_Jxa1e45_init_da8c8
theorem dJxc12de_init_da8c8_0 : decode cJxc12de_init_da8c8 0 = .ok (.aload_n 0, 1) := by decide +kernel
theorem dJxc12de_init_da8c8_1 : decode cJxc12de_init_da8c8 1 = .ok (.invokespecial 1, 3) := by decide +kernel
theorem dJxc12de_init_da8c8_4 : decode cJxc12de_init_da8c8 4 = .ok (.aload_n 0, 1) := by decide +kernel
theorem dJxc12de_init_da8c8_5 : decode cJxc12de_init_da8c8 5 = .ok (.iconst 0, 1) := by decide +kernel
theorem dJxc12de_init_da8c8_6 : decode cJxc12de_init_da8c8 6 = .ok (.putfield 7, 3) := by decide +kernel
theorem dJxc12de_init_da8c8_9 : decode cJxc12de_init_da8c8 9 = .ok (.return_, 1) := by decide +kernel
set_option maxRecDepth 20000 in
theorem ggJx4a65c_init_da8c8_Jxc12de_init_da8c8 : GoodIn wsJx4a65c_init_da8c8 wsJxc12de_init_da8c8 := goodIn_r _ [6, 7, 8, 9, 10, 11, 12, 13, 14, 15, 16, 17] (by decide +kernel) (by decide +kernel)
set_option maxRecDepth 20000 in
theorem gJx4a65c_init_da8c8_Jxc12de_init_da8c8 : GoodIn wsJx4a65c_init_da8c8 (wsJxc12de_init_da8c8) := ggJx4a65c_init_da8c8_Jxc12de_init_da8c8
theorem dJx4a65c_init_da8c8_0 : decode cJx4a65c_init_da8c8 0 = .ok (.aload_n 0, 1) := by decide +kernel
theorem dJx4a65c_init_da8c8_1 : decode cJx4a65c_init_da8c8 1 = .ok (.invokespecial 1, 3) := by decide +kernel
theorem dJx4a65c_init_da8c8_4 : decode cJx4a65c_init_da8c8 4 = .ok (.aload_n 0, 1) := by decide +kernel
theorem dJx4a65c_init_da8c8_5 : decode cJx4a65c_init_da8c8 5 = .ok (.getstatic 39, 3) := by decide +kernel
theorem dJx4a65c_init_da8c8_8 : decode cJx4a65c_init_da8c8 8 = .ok (.putfield 9, 3) := by decide +kernel
theorem dJx4a65c_init_da8c8_11 : decode cJx4a65c_init_da8c8 11 = .ok (.return_, 1) := by decide +kernel
set_option maxRecDepth 20000 in
theorem ggJx4a65c_grow_92f84_J8_newLength_cabcc : GoodIn wsJx4a65c_grow_92f84 wsJ8_newLength_cabcc := goodIn_r _ [11, 12, 4, 5, 6, 13, 14, 15, 10, 16] (by decide +kernel) (by decide +kernel)
set_option maxRecDepth 20000 in
theorem gJx4a65c_grow_92f84_J8_newLength_cabcc : GoodIn wsJx4a65c_grow_92f84 (va_wsS RJx4a65c 73 yJ8_newLength_cabcc wsJ8_newLength_cabcc) := goodIn_app (goodIn_of _ (by decide +kernel)) ggJx4a65c_grow_92f84_J8_newLength_cabcc
set_option maxRecDepth 20000 in
theorem ggJx4a65c_grow_92f84_J7_copyOf_1904c : GoodIn wsJx4a65c_grow_92f84 wsJ7_copyOf_1904c := goodIn_r _ [20, 21, 22, 23, 24, 25, 26, 19, 27, 28, 29, 30, 31, 5, 32, 33, 34, 35, 36] (by decide +kernel) (by decide +kernel)
set_option maxRecDepth 20000 in
theorem gJx4a65c_grow_92f84_J7_copyOf_1904c : GoodIn wsJx4a65c_grow_92f84 (va_wsS RJx4a65c 66 yJ7_copyOf_1904c wsJ7_copyOf_1904c) := goodIn_app (goodIn_of _ (by decide +kernel)) ggJx4a65c_grow_92f84_J7_copyOf_1904c
theorem dJx4a65c_grow_92f84_0 : decode cJx4a65c_grow_92f84 0 = .ok (.aload_n 0, 1) := by decide +kernel
theorem dJx4a65c_grow_92f84_1 : decode cJx4a65c_grow_92f84 1 = .ok (.getfield 9, 3) := by decide +kernel
theorem dJx4a65c_grow_92f84_4 : decode cJx4a65c_grow_92f84 4 = .ok (.arraylength, 1) := by decide +kernel
theorem dJx4a65c_grow_92f84_5 : decode cJx4a65c_grow_92f84 5 = .ok (.istore_n 2, 1) := by decide +kernel
theorem dJx4a65c_grow_92f84_6 : decode cJx4a65c_grow_92f84 6 = .ok (.iload_n 2, 1) := by decide +kernel
theorem dJx4a65c_grow_92f84_7 : decode cJx4a65c_grow_92f84 7 = .ok (.ifCond .gt 13, 3) := by decide +kernel
theorem dJx4a65c_grow_92f84_10 : decode cJx4a65c_grow_92f84 10 = .ok (.aload_n 0, 1) := by decide +kernel
theorem dJx4a65c_grow_92f84_11 : decode cJx4a65c_grow_92f84 11 = .ok (.getfield 9, 3) := by decide +kernel
theorem dJx4a65c_grow_92f84_14 : decode cJx4a65c_grow_92f84 14 = .ok (.getstatic 39, 3) := by decide +kernel
theorem dJx4a65c_grow_92f84_17 : decode cJx4a65c_grow_92f84 17 = .ok (.if_acmp .eq 28, 3) := by decide +kernel
theorem dJx4a65c_grow_92f84_20 : decode cJx4a65c_grow_92f84 20 = .ok (.iload_n 2, 1) := by decide +kernel
theorem dJx4a65c_grow_92f84_21 : decode cJx4a65c_grow_92f84 21 = .ok (.iload_n 1, 1) := by decide +kernel
theorem dJx4a65c_grow_92f84_22 : decode cJx4a65c_grow_92f84 22 = .ok (.iload_n 2, 1) := by decide +kernel
theorem dJx4a65c_grow_92f84_23 : decode cJx4a65c_grow_92f84 23 = .ok (.isub, 1) := by decide +kernel
theorem dJx4a65c_grow_92f84_24 : decode cJx4a65c_grow_92f84 24 = .ok (.iload_n 2, 1) := by decide +kernel
theorem dJx4a65c_grow_92f84_25 : decode cJx4a65c_grow_92f84 25 = .ok (.iconst 1, 1) := by decide +kernel
theorem dJx4a65c_grow_92f84_26 : decode cJx4a65c_grow_92f84 26 = .ok (.ishr, 1) := by decide +kernel
theorem dJx4a65c_grow_92f84_27 : decode cJx4a65c_grow_92f84 27 = .ok (.invokestatic 73, 3) := by decide +kernel
theorem dJx4a65c_grow_92f84_30 : decode cJx4a65c_grow_92f84 30 = .ok (.istore_n 3, 1) := by decide +kernel
theorem dJx4a65c_grow_92f84_31 : decode cJx4a65c_grow_92f84 31 = .ok (.aload_n 0, 1) := by decide +kernel
theorem dJx4a65c_grow_92f84_32 : decode cJx4a65c_grow_92f84 32 = .ok (.aload_n 0, 1) := by decide +kernel
theorem dJx4a65c_grow_92f84_33 : decode cJx4a65c_grow_92f84 33 = .ok (.getfield 9, 3) := by decide +kernel
theorem dJx4a65c_grow_92f84_36 : decode cJx4a65c_grow_92f84 36 = .ok (.iload_n 3, 1) := by decide +kernel
theorem dJx4a65c_grow_92f84_37 : decode cJx4a65c_grow_92f84 37 = .ok (.invokestatic 66, 3) := by decide +kernel
theorem dJx4a65c_grow_92f84_40 : decode cJx4a65c_grow_92f84 40 = .ok (.dup_x1, 1) := by decide +kernel
theorem dJx4a65c_grow_92f84_41 : decode cJx4a65c_grow_92f84 41 = .ok (.putfield 9, 3) := by decide +kernel
theorem dJx4a65c_grow_92f84_44 : decode cJx4a65c_grow_92f84 44 = .ok (.areturn, 1) := by decide +kernel
theorem dJx4a65c_grow_92f84_45 : decode cJx4a65c_grow_92f84 45 = .ok (.aload_n 0, 1) := by decide +kernel
theorem dJx4a65c_grow_92f84_46 : decode cJx4a65c_grow_92f84 46 = .ok (.bipush 10, 2) := by decide +kernel
theorem dJx4a65c_grow_92f84_48 : decode cJx4a65c_grow_92f84 48 = .ok (.iload_n 1, 1) := by decide +kernel
theorem dJx4a65c_grow_92f84_49 : decode cJx4a65c_grow_92f84 49 = .ok (.invokestatic 79, 3) := by decide +kernel
theorem dJx4a65c_grow_92f84_52 : decode cJx4a65c_grow_92f84 52 = .ok (.anewarray 7, 3) := by decide +kernel
theorem dJx4a65c_grow_92f84_55 : decode cJx4a65c_grow_92f84 55 = .ok (.dup_x1, 1) := by decide +kernel
theorem dJx4a65c_grow_92f84_56 : decode cJx4a65c_grow_92f84 56 = .ok (.putfield 9, 3) := by decide +kernel
theorem dJx4a65c_grow_92f84_59 : decode cJx4a65c_grow_92f84 59 = .ok (.areturn, 1) := by decide +kernel
set_option maxRecDepth 20000 in
theorem ggJx4a65c_grow_d5877_Jx4a65c_grow_92f84 : GoodIn wsJx4a65c_grow_d5877 wsJx4a65c_grow_92f84 := goodIn_r _ [6, 7, 8, 9, 10, 11, 12, 13, 14, 15, 16, 17, 18, 19, 20, 21, 22, 23, 24, 25, 26, 27, 28, 29, 30, 31, 32, 33, 34, 35, 36, 37, 38, 39, 40, 41, 42, 43, 44, 45] (by decide +kernel) (by decide +kernel)
set_option maxRecDepth 20000 in
theorem gJx4a65c_grow_d5877_Jx4a65c_grow_92f84 : GoodIn wsJx4a65c_grow_d5877 (wsV RJx4a65c 69 RJx4a65c yJx4a65c_grow_92f84 wsJx4a65c_grow_92f84) := goodIn_app (goodIn_of _ (by decide +kernel)) ggJx4a65c_grow_d5877_Jx4a65c_grow_92f84
theorem dJx4a65c_grow_d5877_0 : decode cJx4a65c_grow_d5877 0 = .ok (.aload_n 0, 1) := by decide +kernel
theorem dJx4a65c_grow_d5877_1 : decode cJx4a65c_grow_d5877 1 = .ok (.aload_n 0, 1) := by decide +kernel
theorem dJx4a65c_grow_d5877_2 : decode cJx4a65c_grow_d5877 2 = .ok (.getfield 48, 3) := by decide +kernel
theorem dJx4a65c_grow_d5877_5 : decode cJx4a65c_grow_d5877 5 = .ok (.iconst 1, 1) := by decide +kernel
theorem dJx4a65c_grow_d5877_6 : decode cJx4a65c_grow_d5877 6 = .ok (.iadd, 1) := by decide +kernel
theorem dJx4a65c_grow_d5877_7 : decode cJx4a65c_grow_d5877 7 = .ok (.invokevirtual 69, 3) := by decide +kernel
theorem dJx4a65c_grow_d5877_10 : decode cJx4a65c_grow_d5877 10 = .ok (.areturn, 1) := by decide +kernel
theorem dJx4a65c_size_8abf5_0 : decode cJx4a65c_size_8abf5 0 = .ok (.aload_n 0, 1) := by decide +kernel
theorem dJx4a65c_size_8abf5_1 : decode cJx4a65c_size_8abf5 1 = .ok (.getfield 48, 3) := by decide +kernel
theorem dJx4a65c_size_8abf5_4 : decode cJx4a65c_size_8abf5 4 = .ok (.ireturn, 1) := by decide +kernel
theorem dJx4a65c_elementData_915e3_0 : decode cJx4a65c_elementData_915e3 0 = .ok (.aload_n 0, 1) := by decide +kernel
theorem dJx4a65c_elementData_915e3_1 : decode cJx4a65c_elementData_915e3 1 = .ok (.getfield 9, 3) := by decide +kernel
theorem dJx4a65c_elementData_915e3_4 : decode cJx4a65c_elementData_915e3 4 = .ok (.iload_n 1, 1) := by decide +kernel
theorem dJx4a65c_elementData_915e3_5 : decode cJx4a65c_elementData_915e3 5 = .ok (.aaload, 1) := by decide +kernel
theorem dJx4a65c_elementData_915e3_6 : decode cJx4a65c_elementData_915e3 6 = .ok (.areturn, 1) := by decide +kernel
set_option maxRecDepth 20000 in
theorem ggJx4a65c_get_915e3_J15_checkIndex_7cf53 : GoodIn wsJx4a65c_get_915e3 wsJ15_checkIndex_7cf53 := goodIn_r _ [5, 6, 7, 8, 9] (by decide +kernel) (by decide +kernel)
set_option maxRecDepth 20000 in
theorem gJx4a65c_get_915e3_J15_checkIndex_7cf53 : GoodIn wsJx4a65c_get_915e3 (va_wsS RJx4a65c 118 yJ15_checkIndex_7cf53 wsJ15_checkIndex_7cf53) := goodIn_app (goodIn_of _ (by decide +kernel)) ggJx4a65c_get_915e3_J15_checkIndex_7cf53
set_option maxRecDepth 20000 in
theorem ggJx4a65c_get_915e3_Jx4a65c_elementData_915e3 : GoodIn wsJx4a65c_get_915e3 wsJx4a65c_elementData_915e3 := goodIn_r _ [14, 15, 16, 17, 18] (by decide +kernel) (by decide +kernel)
set_option maxRecDepth 20000 in
theorem gJx4a65c_get_915e3_Jx4a65c_elementData_915e3 : GoodIn wsJx4a65c_get_915e3 (wsV RJx4a65c 123 RJx4a65c yJx4a65c_elementData_915e3 wsJx4a65c_elementData_915e3) := goodIn_app (goodIn_of _ (by decide +kernel)) ggJx4a65c_get_915e3_Jx4a65c_elementData_915e3
theorem dJx4a65c_get_915e3_0 : decode cJx4a65c_get_915e3 0 = .ok (.iload_n 1, 1) := by decide +kernel
theorem dJx4a65c_get_915e3_1 : decode cJx4a65c_get_915e3 1 = .ok (.aload_n 0, 1) := by decide +kernel
theorem dJx4a65c_get_915e3_2 : decode cJx4a65c_get_915e3 2 = .ok (.getfield 48, 3) := by decide +kernel
theorem dJx4a65c_get_915e3_5 : decode cJx4a65c_get_915e3 5 = .ok (.invokestatic 118, 3) := by decide +kernel
theorem dJx4a65c_get_915e3_8 : decode cJx4a65c_get_915e3 8 = .ok (.pop, 1) := by decide +kernel
theorem dJx4a65c_get_915e3_9 : decode cJx4a65c_get_915e3 9 = .ok (.aload_n 0, 1) := by decide +kernel
theorem dJx4a65c_get_915e3_10 : decode cJx4a65c_get_915e3 10 = .ok (.iload_n 1, 1) := by decide +kernel
theorem dJx4a65c_get_915e3_11 : decode cJx4a65c_get_915e3 11 = .ok (.invokevirtual 123, 3) := by decide +kernel
theorem dJx4a65c_get_915e3_14 : decode cJx4a65c_get_915e3 14 = .ok (.areturn, 1) := by decide +kernel
set_option maxRecDepth 20000 in
theorem ggJx4a65c_add_72be8_Jx4a65c_grow_d5877 : GoodIn wsJx4a65c_add_72be8 wsJx4a65c_grow_d5877 := goodIn_r _ [6, 1, 7, 8, 9, 5, 10, 11, 12, 13, 14, 15, 16, 17, 18, 19, 20, 21, 22, 23, 24, 25, 26, 27, 28, 29, 30, 31, 32, 33, 34, 35, 36, 37, 38, 39, 40, 41, 42, 43, 44, 45, 46, 47, 48, 49] (by decide +kernel) (by decide +kernel)
set_option maxRecDepth 20000 in
theorem gJx4a65c_add_72be8_Jx4a65c_grow_d5877 : GoodIn wsJx4a65c_add_72be8 (wsV RJx4a65c 129 RJx4a65c yJx4a65c_grow_d5877 wsJx4a65c_grow_d5877) := goodIn_app (goodIn_of _ (by decide +kernel)) ggJx4a65c_add_72be8_Jx4a65c_grow_d5877
theorem dJx4a65c_add_72be8_0 : decode cJx4a65c_add_72be8 0 = .ok (.iload_n 3, 1) := by decide +kernel
theorem dJx4a65c_add_72be8_1 : decode cJx4a65c_add_72be8 1 = .ok (.aload_n 2, 1) := by decide +kernel
theorem dJx4a65c_add_72be8_2 : decode cJx4a65c_add_72be8 2 = .ok (.arraylength, 1) := by decide +kernel
theorem dJx4a65c_add_72be8_3 : decode cJx4a65c_add_72be8 3 = .ok (.if_icmp .ne 8, 3) := by decide +kernel
theorem dJx4a65c_add_72be8_6 : decode cJx4a65c_add_72be8 6 = .ok (.aload_n 0, 1) := by decide +kernel
theorem dJx4a65c_add_72be8_7 : decode cJx4a65c_add_72be8 7 = .ok (.invokevirtual 129, 3) := by decide +kernel
theorem dJx4a65c_add_72be8_10 : decode cJx4a65c_add_72be8 10 = .ok (.astore_n 2, 1) := by decide +kernel
theorem dJx4a65c_add_72be8_11 : decode cJx4a65c_add_72be8 11 = .ok (.aload_n 2, 1) := by decide +kernel
theorem dJx4a65c_add_72be8_12 : decode cJx4a65c_add_72be8 12 = .ok (.iload_n 3, 1) := by decide +kernel
theorem dJx4a65c_add_72be8_13 : decode cJx4a65c_add_72be8 13 = .ok (.aload_n 1, 1) := by decide +kernel
theorem dJx4a65c_add_72be8_14 : decode cJx4a65c_add_72be8 14 = .ok (.aastore, 1) := by decide +kernel
theorem dJx4a65c_add_72be8_15 : decode cJx4a65c_add_72be8 15 = .ok (.aload_n 0, 1) := by decide +kernel
theorem dJx4a65c_add_72be8_16 : decode cJx4a65c_add_72be8 16 = .ok (.iload_n 3, 1) := by decide +kernel
theorem dJx4a65c_add_72be8_17 : decode cJx4a65c_add_72be8 17 = .ok (.iconst 1, 1) := by decide +kernel
theorem dJx4a65c_add_72be8_18 : decode cJx4a65c_add_72be8 18 = .ok (.iadd, 1) := by decide +kernel
theorem dJx4a65c_add_72be8_19 : decode cJx4a65c_add_72be8 19 = .ok (.putfield 48, 3) := by decide +kernel
theorem dJx4a65c_add_72be8_22 : decode cJx4a65c_add_72be8 22 = .ok (.return_, 1) := by decide +kernel
set_option maxRecDepth 20000 in
theorem ggJx4a65c_add_9ea2d_Jx4a65c_add_72be8 : GoodIn wsJx4a65c_add_9ea2d wsJx4a65c_add_72be8 := goodIn_r _ [9, 4, 10, 11, 12, 8, 13, 14, 15, 16, 17, 3, 18, 19, 20, 21, 22, 23, 24, 25, 26, 27, 28, 29, 30, 31, 32, 33, 34, 35, 36, 37, 38, 39, 40, 41, 42, 43, 44, 45, 46, 47, 48, 49, 50, 51, 52, 53, 54, 55] (by decide +kernel) (by decide +kernel)
set_option maxRecDepth 20000 in
theorem gJx4a65c_add_9ea2d_Jx4a65c_add_72be8 : GoodIn wsJx4a65c_add_9ea2d (wsV RJx4a65c 131 RJx4a65c yJx4a65c_add_72be8 wsJx4a65c_add_72be8) := goodIn_app (goodIn_of _ (by decide +kernel)) ggJx4a65c_add_9ea2d_Jx4a65c_add_72be8
theorem dJx4a65c_add_9ea2d_0 : decode cJx4a65c_add_9ea2d 0 = .ok (.aload_n 0, 1) := by decide +kernel
theorem dJx4a65c_add_9ea2d_1 : decode cJx4a65c_add_9ea2d 1 = .ok (.dup, 1) := by decide +kernel
theorem dJx4a65c_add_9ea2d_2 : decode cJx4a65c_add_9ea2d 2 = .ok (.getfield 63, 3) := by decide +kernel
theorem dJx4a65c_add_9ea2d_5 : decode cJx4a65c_add_9ea2d 5 = .ok (.iconst 1, 1) := by decide +kernel
theorem dJx4a65c_add_9ea2d_6 : decode cJx4a65c_add_9ea2d 6 = .ok (.iadd, 1) := by decide +kernel
theorem dJx4a65c_add_9ea2d_7 : decode cJx4a65c_add_9ea2d 7 = .ok (.putfield 63, 3) := by decide +kernel
theorem dJx4a65c_add_9ea2d_10 : decode cJx4a65c_add_9ea2d 10 = .ok (.aload_n 0, 1) := by decide +kernel
theorem dJx4a65c_add_9ea2d_11 : decode cJx4a65c_add_9ea2d 11 = .ok (.aload_n 1, 1) := by decide +kernel
theorem dJx4a65c_add_9ea2d_12 : decode cJx4a65c_add_9ea2d 12 = .ok (.aload_n 0, 1) := by decide +kernel
theorem dJx4a65c_add_9ea2d_13 : decode cJx4a65c_add_9ea2d 13 = .ok (.getfield 9, 3) := by decide +kernel
theorem dJx4a65c_add_9ea2d_16 : decode cJx4a65c_add_9ea2d 16 = .ok (.aload_n 0, 1) := by decide +kernel
theorem dJx4a65c_add_9ea2d_17 : decode cJx4a65c_add_9ea2d 17 = .ok (.getfield 48, 3) := by decide +kernel
theorem dJx4a65c_add_9ea2d_20 : decode cJx4a65c_add_9ea2d 20 = .ok (.invokevirtual 131, 3) := by decide +kernel
theorem dJx4a65c_add_9ea2d_23 : decode cJx4a65c_add_9ea2d 23 = .ok (.iconst 1, 1) := by decide +kernel
theorem dJx4a65c_add_9ea2d_24 : decode cJx4a65c_add_9ea2d 24 = .ok (.ireturn, 1) := by decide +kernel
theorem dJ7_fill_53178_0 : decode cJ7_fill_53178 0 = .ok (.iconst 0, 1) := by decide +kernel
theorem dJ7_fill_53178_1 : decode cJ7_fill_53178 1 = .ok (.istore_n 2, 1) := by decide +kernel
theorem dJ7_fill_53178_2 : decode cJ7_fill_53178 2 = .ok (.aload_n 0, 1) := by decide +kernel
theorem dJ7_fill_53178_3 : decode cJ7_fill_53178 3 = .ok (.arraylength, 1) := by decide +kernel
theorem dJ7_fill_53178_4 : decode cJ7_fill_53178 4 = .ok (.istore_n 3, 1) := by decide +kernel
theorem dJ7_fill_53178_5 : decode cJ7_fill_53178 5 = .ok (.iload_n 2, 1) := by decide +kernel
theorem dJ7_fill_53178_6 : decode cJ7_fill_53178 6 = .ok (.iload_n 3, 1) := by decide +kernel
theorem dJ7_fill_53178_7 : decode cJ7_fill_53178 7 = .ok (.if_icmp .ge 13, 3) := by decide +kernel
theorem dJ7_fill_53178_10 : decode cJ7_fill_53178 10 = .ok (.aload_n 0, 1) := by decide +kernel
theorem dJ7_fill_53178_11 : decode cJ7_fill_53178 11 = .ok (.iload_n 2, 1) := by decide +kernel
theorem dJ7_fill_53178_12 : decode cJ7_fill_53178 12 = .ok (.iload_n 1, 1) := by decide +kernel
theorem dJ7_fill_53178_13 : decode cJ7_fill_53178 13 = .ok (.iastore, 1) := by decide +kernel
theorem dJ7_fill_53178_14 : decode cJ7_fill_53178 14 = .ok (.iinc 2 1, 3) := by decide +kernel
theorem dJ7_fill_53178_17 : decode cJ7_fill_53178 17 = .ok (.goto (-12), 3) := by decide +kernel
theorem dJ7_fill_53178_20 : decode cJ7_fill_53178 20 = .ok (.return_, 1) := by decide +kernel
set_option maxRecDepth 20000 in
theorem ggJ7_copyOf_1904c_J7_copyOf_6403c : GoodIn wsJ7_copyOf_1904c wsJ7_copyOf_6403c := goodIn_r _ [8, 9, 10, 11, 12, 13, 14, 15, 16, 17, 18] (by decide +kernel) (by decide +kernel)
set_option maxRecDepth 20000 in
theorem gJ7_copyOf_1904c_J7_copyOf_6403c : GoodIn wsJ7_copyOf_1904c (va_wsS RJ7 300 yJ7_copyOf_6403c wsJ7_copyOf_6403c) := goodIn_app (goodIn_of _ (by decide +kernel)) ggJ7_copyOf_1904c_J7_copyOf_6403c
theorem dJ7_copyOf_1904c_0 : decode cJ7_copyOf_1904c 0 = .ok (.aload_n 0, 1) := by decide +kernel
theorem dJ7_copyOf_1904c_1 : decode cJ7_copyOf_1904c 1 = .ok (.iload_n 1, 1) := by decide +kernel
theorem dJ7_copyOf_1904c_2 : decode cJ7_copyOf_1904c 2 = .ok (.aload_n 0, 1) := by decide +kernel
theorem dJ7_copyOf_1904c_3 : decode cJ7_copyOf_1904c 3 = .ok (.invokevirtual 86, 3) := by decide +kernel
theorem dJ7_copyOf_1904c_6 : decode cJ7_copyOf_1904c 6 = .ok (.invokestatic 300, 3) := by decide +kernel
theorem dJ7_copyOf_1904c_9 : decode cJ7_copyOf_1904c 9 = .ok (.areturn, 1) := by decide +kernel
theorem dJ7_copyOf_6403c_0 : decode cJ7_copyOf_6403c 0 = .ok (.aload_n 2, 1) := by decide +kernel
theorem dJ7_copyOf_6403c_1 : decode cJ7_copyOf_6403c 1 = .ok (.ldc 110, 2) := by decide +kernel
theorem dJ7_copyOf_6403c_3 : decode cJ7_copyOf_6403c 3 = .ok (.if_acmp .ne 10, 3) := by decide +kernel
theorem dJ7_copyOf_6403c_6 : decode cJ7_copyOf_6403c 6 = .ok (.iload_n 1, 1) := by decide +kernel
theorem dJ7_copyOf_6403c_7 : decode cJ7_copyOf_6403c 7 = .ok (.anewarray 2, 3) := by decide +kernel
theorem dJ7_copyOf_6403c_10 : decode cJ7_copyOf_6403c 10 = .ok (.goto 14, 3) := by decide +kernel
theorem dJ7_copyOf_6403c_13 : decode cJ7_copyOf_6403c 13 = .ok (.aload_n 2, 1) := by decide +kernel
theorem dJ7_copyOf_6403c_14 : decode cJ7_copyOf_6403c 14 = .ok (.invokevirtual 90, 3) := by decide +kernel
theorem dJ7_copyOf_6403c_17 : decode cJ7_copyOf_6403c 17 = .ok (.iload_n 1, 1) := by decide +kernel
theorem dJ7_copyOf_6403c_18 : decode cJ7_copyOf_6403c 18 = .ok (.invokestatic 95, 3) := by decide +kernel
theorem dJ7_copyOf_6403c_21 : decode cJ7_copyOf_6403c 21 = .ok (.checkcast 110, 3) := by decide +kernel
theorem dJ7_copyOf_6403c_24 : decode cJ7_copyOf_6403c 24 = .ok (.astore_n 3, 1) := by decide +kernel
theorem dJ7_copyOf_6403c_25 : decode cJ7_copyOf_6403c 25 = .ok (.aload_n 0, 1) := by decide +kernel
theorem dJ7_copyOf_6403c_26 : decode cJ7_copyOf_6403c 26 = .ok (.iconst 0, 1) := by decide +kernel
theorem dJ7_copyOf_6403c_27 : decode cJ7_copyOf_6403c 27 = .ok (.aload_n 3, 1) := by decide +kernel
theorem dJ7_copyOf_6403c_28 : decode cJ7_copyOf_6403c 28 = .ok (.iconst 0, 1) := by decide +kernel
theorem dJ7_copyOf_6403c_29 : decode cJ7_copyOf_6403c 29 = .ok (.aload_n 0, 1) := by decide +kernel
theorem dJ7_copyOf_6403c_30 : decode cJ7_copyOf_6403c 30 = .ok (.arraylength, 1) := by decide +kernel
theorem dJ7_copyOf_6403c_31 : decode cJ7_copyOf_6403c 31 = .ok (.iload_n 1, 1) := by decide +kernel
theorem dJ7_copyOf_6403c_32 : decode cJ7_copyOf_6403c 32 = .ok (.invokestatic 304, 3) := by decide +kernel
theorem dJ7_copyOf_6403c_35 : decode cJ7_copyOf_6403c 35 = .ok (.invokestatic 150, 3) := by decide +kernel
theorem dJ7_copyOf_6403c_38 : decode cJ7_copyOf_6403c 38 = .ok (.aload_n 3, 1) := by decide +kernel
theorem dJ7_copyOf_6403c_39 : decode cJ7_copyOf_6403c 39 = .ok (.areturn, 1) := by decide +kernel
set_option maxRecDepth 20000 in
theorem ggJ15_checkIndex_7cf53_J3_checkIndex_8e157 : GoodIn wsJ15_checkIndex_7cf53 wsJ3_checkIndex_8e157 := goodIn_r _ [4] (by decide +kernel) (by decide +kernel)
set_option maxRecDepth 20000 in
theorem gJ15_checkIndex_7cf53_J3_checkIndex_8e157 : GoodIn wsJ15_checkIndex_7cf53 (va_wsS RJ15 105 yJ3_checkIndex_8e157 wsJ3_checkIndex_8e157) := goodIn_app (goodIn_of _ (by decide +kernel)) ggJ15_checkIndex_7cf53_J3_checkIndex_8e157
theorem dJ15_checkIndex_7cf53_0 : decode cJ15_checkIndex_7cf53 0 = .ok (.iload_n 0, 1) := by decide +kernel
theorem dJ15_checkIndex_7cf53_1 : decode cJ15_checkIndex_7cf53 1 = .ok (.iload_n 1, 1) := by decide +kernel
theorem dJ15_checkIndex_7cf53_2 : decode cJ15_checkIndex_7cf53 2 = .ok (.aconst_null, 1) := by decide +kernel
theorem dJ15_checkIndex_7cf53_3 : decode cJ15_checkIndex_7cf53 3 = .ok (.invokestatic 105, 3) := by decide +kernel
theorem dJ15_checkIndex_7cf53_6 : decode cJ15_checkIndex_7cf53 6 = .ok (.ireturn, 1) := by decide +kernel
set_option maxRecDepth 20000 in
theorem ggJ8_newLength_cabcc_J8_hugeLength_7cf53 : GoodIn wsJ8_newLength_cabcc wsJ8_hugeLength_7cf53 := goodIn_r _ [9, 5] (by decide +kernel) (by decide +kernel)
set_option maxRecDepth 20000 in
theorem gJ8_newLength_cabcc_J8_hugeLength_7cf53 : GoodIn wsJ8_newLength_cabcc (va_wsS RJ8 201 yJ8_hugeLength_7cf53 wsJ8_hugeLength_7cf53) := goodIn_app (goodIn_of _ (by decide +kernel)) ggJ8_newLength_cabcc_J8_hugeLength_7cf53
theorem dJ8_newLength_cabcc_0 : decode cJ8_newLength_cabcc 0 = .ok (.iload_n 0, 1) := by decide +kernel
theorem dJ8_newLength_cabcc_1 : decode cJ8_newLength_cabcc 1 = .ok (.iload_n 1, 1) := by decide +kernel
theorem dJ8_newLength_cabcc_2 : decode cJ8_newLength_cabcc 2 = .ok (.iload_n 2, 1) := by decide +kernel
theorem dJ8_newLength_cabcc_3 : decode cJ8_newLength_cabcc 3 = .ok (.invokestatic 194, 3) := by decide +kernel
theorem dJ8_newLength_cabcc_6 : decode cJ8_newLength_cabcc 6 = .ok (.iadd, 1) := by decide +kernel
theorem dJ8_newLength_cabcc_7 : decode cJ8_newLength_cabcc 7 = .ok (.istore_n 3, 1) := by decide +kernel
theorem dJ8_newLength_cabcc_8 : decode cJ8_newLength_cabcc 8 = .ok (.iconst 0, 1) := by decide +kernel
theorem dJ8_newLength_cabcc_9 : decode cJ8_newLength_cabcc 9 = .ok (.iload_n 3, 1) := by decide +kernel
theorem dJ8_newLength_cabcc_10 : decode cJ8_newLength_cabcc 10 = .ok (.if_icmp .ge 11, 3) := by decide +kernel
theorem dJ8_newLength_cabcc_13 : decode cJ8_newLength_cabcc 13 = .ok (.iload_n 3, 1) := by decide +kernel
theorem dJ8_newLength_cabcc_14 : decode cJ8_newLength_cabcc 14 = .ok (.ldc 200, 2) := by decide +kernel
theorem dJ8_newLength_cabcc_16 : decode cJ8_newLength_cabcc 16 = .ok (.if_icmp .gt 5, 3) := by decide +kernel
theorem dJ8_newLength_cabcc_19 : decode cJ8_newLength_cabcc 19 = .ok (.iload_n 3, 1) := by decide +kernel
theorem dJ8_newLength_cabcc_20 : decode cJ8_newLength_cabcc 20 = .ok (.ireturn, 1) := by decide +kernel
theorem dJ8_newLength_cabcc_21 : decode cJ8_newLength_cabcc 21 = .ok (.iload_n 0, 1) := by decide +kernel
theorem dJ8_newLength_cabcc_22 : decode cJ8_newLength_cabcc 22 = .ok (.iload_n 1, 1) := by decide +kernel
theorem dJ8_newLength_cabcc_23 : decode cJ8_newLength_cabcc 23 = .ok (.invokestatic 201, 3) := by decide +kernel
theorem dJ8_newLength_cabcc_26 : decode cJ8_newLength_cabcc 26 = .ok (.ireturn, 1) := by decide +kernel
theorem dJ8_hugeLength_7cf53_0 : decode cJ8_hugeLength_7cf53 0 = .ok (.iload_n 0, 1) := by decide +kernel
theorem dJ8_hugeLength_7cf53_1 : decode cJ8_hugeLength_7cf53 1 = .ok (.iload_n 1, 1) := by decide +kernel
theorem dJ8_hugeLength_7cf53_2 : decode cJ8_hugeLength_7cf53 2 = .ok (.iadd, 1) := by decide +kernel
theorem dJ8_hugeLength_7cf53_3 : decode cJ8_hugeLength_7cf53 3 = .ok (.istore_n 2, 1) := by decide +kernel
theorem dJ8_hugeLength_7cf53_4 : decode cJ8_hugeLength_7cf53 4 = .ok (.iload_n 2, 1) := by decide +kernel
theorem dJ8_hugeLength_7cf53_5 : decode cJ8_hugeLength_7cf53 5 = .ok (.ifCond .ge 44, 3) := by decide +kernel
theorem dJ8_hugeLength_7cf53_8 : decode cJ8_hugeLength_7cf53 8 = .ok (.new 204, 3) := by decide +kernel
theorem dJ8_hugeLength_7cf53_11 : decode cJ8_hugeLength_7cf53 11 = .ok (.dup, 1) := by decide +kernel
theorem dJ8_hugeLength_7cf53_12 : decode cJ8_hugeLength_7cf53 12 = .ok (.new 89, 3) := by decide +kernel
theorem dJ8_hugeLength_7cf53_15 : decode cJ8_hugeLength_7cf53 15 = .ok (.dup, 1) := by decide +kernel
theorem dJ8_hugeLength_7cf53_16 : decode cJ8_hugeLength_7cf53 16 = .ok (.invokespecial 91, 3) := by decide +kernel
theorem dJ8_hugeLength_7cf53_19 : decode cJ8_hugeLength_7cf53 19 = .ok (.ldc 206, 2) := by decide +kernel
theorem dJ8_hugeLength_7cf53_21 : decode cJ8_hugeLength_7cf53 21 = .ok (.invokevirtual 94, 3) := by decide +kernel
theorem dJ8_hugeLength_7cf53_24 : decode cJ8_hugeLength_7cf53 24 = .ok (.iload_n 0, 1) := by decide +kernel
theorem dJ8_hugeLength_7cf53_25 : decode cJ8_hugeLength_7cf53 25 = .ok (.invokevirtual 98, 3) := by decide +kernel
theorem dJ8_hugeLength_7cf53_28 : decode cJ8_hugeLength_7cf53 28 = .ok (.ldc 208, 2) := by decide +kernel
theorem dJ8_hugeLength_7cf53_30 : decode cJ8_hugeLength_7cf53 30 = .ok (.invokevirtual 94, 3) := by decide +kernel
theorem dJ8_hugeLength_7cf53_33 : decode cJ8_hugeLength_7cf53 33 = .ok (.iload_n 1, 1) := by decide +kernel
theorem dJ8_hugeLength_7cf53_34 : decode cJ8_hugeLength_7cf53 34 = .ok (.invokevirtual 98, 3) := by decide +kernel
theorem dJ8_hugeLength_7cf53_37 : decode cJ8_hugeLength_7cf53 37 = .ok (.ldc 210, 2) := by decide +kernel
theorem dJ8_hugeLength_7cf53_39 : decode cJ8_hugeLength_7cf53 39 = .ok (.invokevirtual 94, 3) := by decide +kernel
theorem dJ8_hugeLength_7cf53_42 : decode cJ8_hugeLength_7cf53 42 = .ok (.invokevirtual 101, 3) := by decide +kernel
theorem dJ8_hugeLength_7cf53_45 : decode cJ8_hugeLength_7cf53 45 = .ok (.invokespecial 212, 3) := by decide +kernel
theorem dJ8_hugeLength_7cf53_48 : decode cJ8_hugeLength_7cf53 48 = .ok (.athrow, 1) := by decide +kernel
theorem dJ8_hugeLength_7cf53_49 : decode cJ8_hugeLength_7cf53 49 = .ok (.iload_n 2, 1) := by decide +kernel
theorem dJ8_hugeLength_7cf53_50 : decode cJ8_hugeLength_7cf53 50 = .ok (.ldc 200, 2) := by decide +kernel
theorem dJ8_hugeLength_7cf53_52 : decode cJ8_hugeLength_7cf53 52 = .ok (.if_icmp .gt 6, 3) := by decide +kernel
theorem dJ8_hugeLength_7cf53_55 : decode cJ8_hugeLength_7cf53 55 = .ok (.ldc 200, 2) := by decide +kernel
theorem dJ8_hugeLength_7cf53_57 : decode cJ8_hugeLength_7cf53 57 = .ok (.ireturn, 1) := by decide +kernel
theorem dJ8_hugeLength_7cf53_58 : decode cJ8_hugeLength_7cf53 58 = .ok (.iload_n 2, 1) := by decide +kernel
theorem dJ8_hugeLength_7cf53_59 : decode cJ8_hugeLength_7cf53 59 = .ok (.ireturn, 1) := by decide +kernel
theorem dJ3_checkIndex_8e157_0 : decode cJ3_checkIndex_8e157 0 = .ok (.iload_n 0, 1) := by decide +kernel
theorem dJ3_checkIndex_8e157_1 : decode cJ3_checkIndex_8e157 1 = .ok (.ifCond .lt 8, 3) := by decide +kernel
theorem dJ3_checkIndex_8e157_4 : decode cJ3_checkIndex_8e157 4 = .ok (.iload_n 0, 1) := by decide +kernel
theorem dJ3_checkIndex_8e157_5 : decode cJ3_checkIndex_8e157 5 = .ok (.iload_n 1, 1) := by decide +kernel
theorem dJ3_checkIndex_8e157_6 : decode cJ3_checkIndex_8e157 6 = .ok (.if_icmp .lt 10, 3) := by decide +kernel
theorem dJ3_checkIndex_8e157_9 : decode cJ3_checkIndex_8e157 9 = .ok (.aload_n 2, 1) := by decide +kernel
theorem dJ3_checkIndex_8e157_10 : decode cJ3_checkIndex_8e157 10 = .ok (.iload_n 0, 1) := by decide +kernel
theorem dJ3_checkIndex_8e157_11 : decode cJ3_checkIndex_8e157 11 = .ok (.iload_n 1, 1) := by decide +kernel
theorem dJ3_checkIndex_8e157_12 : decode cJ3_checkIndex_8e157 12 = .ok (.invokestatic 95, 3) := by decide +kernel
theorem dJ3_checkIndex_8e157_15 : decode cJ3_checkIndex_8e157 15 = .ok (.athrow, 1) := by decide +kernel
theorem dJ3_checkIndex_8e157_16 : decode cJ3_checkIndex_8e157 16 = .ok (.iload_n 0, 1) := by decide +kernel
theorem dJ3_checkIndex_8e157_17 : decode cJ3_checkIndex_8e157 17 = .ok (.ireturn, 1) := by decide +kernel
