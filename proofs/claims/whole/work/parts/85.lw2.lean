set_option maxRecDepth 20000 in
theorem ggL_weather_X9_weather : GoodIn wsL_weather wsX9_weather := goodIn_ca (goodIn_ca (goodIn_ca (goodIn_r _ [8, 9, 10, 11, 12, 13, 14, 15, 16, 17, 18, 19, 20, 21, 7, 22, 23, 24, 25, 26, 27, 28, 29, 30, 31, 32, 33, 34, 35, 36, 37, 38, 39, 40, 41, 42, 43, 44, 45, 46, 47, 48] (by decide +kernel) (by decide +kernel)) (goodIn_sub (fun _ h => List.mem_cons_of_mem _ (List.mem_append_left _ (List.mem_append_left _ (List.mem_append_right _ h)))) (by decide +kernel))) (goodIn_sub (fun _ h => List.mem_cons_of_mem _ (List.mem_append_left _ (List.mem_append_right _ h))) (by decide +kernel))) (goodIn_sub (fun _ h => List.mem_cons_of_mem _ (List.mem_append_right _ h)) (by decide +kernel))
set_option maxRecDepth 20000 in
theorem gL_weather_X9_weather : GoodIn wsL_weather (wsV RL 7 RX9 yX9_weather wsX9_weather) := goodIn_app (goodIn_of _ (by decide +kernel)) ggL_weather_X9_weather
theorem dL_weather_0 : decode cL_weather 0 = .ok (.aload_n 0, 1) := by decide +kernel
theorem dL_weather_1 : decode cL_weather 1 = .ok (.iload_n 1, 1) := by decide +kernel
theorem dL_weather_2 : decode cL_weather 2 = .ok (.iload_n 2, 1) := by decide +kernel
theorem dL_weather_3 : decode cL_weather 3 = .ok (.iload_n 3, 1) := by decide +kernel
theorem dL_weather_4 : decode cL_weather 4 = .ok (.invokevirtual 7, 3) := by decide +kernel
theorem dL_weather_7 : decode cL_weather 7 = .ok (.goto 15, 3) := by decide +kernel
theorem dL_weather_10 : decode cL_weather 10 = .ok (.astore 4, 2) := by decide +kernel
theorem dL_weather_12 : decode cL_weather 12 = .ok (.iconst 1, 1) := by decide +kernel
theorem dL_weather_13 : decode cL_weather 13 = .ok (.ireturn, 1) := by decide +kernel
theorem dL_weather_14 : decode cL_weather 14 = .ok (.astore 4, 2) := by decide +kernel
theorem dL_weather_16 : decode cL_weather 16 = .ok (.iconst 2, 1) := by decide +kernel
theorem dL_weather_17 : decode cL_weather 17 = .ok (.ireturn, 1) := by decide +kernel
theorem dL_weather_18 : decode cL_weather 18 = .ok (.astore 4, 2) := by decide +kernel
theorem dL_weather_20 : decode cL_weather 20 = .ok (.iconst 3, 1) := by decide +kernel
theorem dL_weather_21 : decode cL_weather 21 = .ok (.ireturn, 1) := by decide +kernel
theorem dL_weather_22 : decode cL_weather 22 = .ok (.iconst 0, 1) := by decide +kernel
theorem dL_weather_23 : decode cL_weather 23 = .ok (.ireturn, 1) := by decide +kernel
set_option maxRecDepth 20000 in
theorem ggL_foretell_X9_foretell : GoodIn wsL_foretell wsX9_foretell := goodIn_ca (goodIn_ca (goodIn_r _ [7, 8, 9, 10, 11, 12, 13, 14, 15, 16, 17, 6, 18, 19, 20, 21, 22, 23, 24, 25, 26, 27, 28, 29, 30, 31, 32, 33, 34, 35, 36, 37, 38, 39] (by decide +kernel) (by decide +kernel)) (goodIn_sub (fun _ h => List.mem_cons_of_mem _ (List.mem_append_left _ (List.mem_append_right _ h))) (by decide +kernel))) (goodIn_sub (fun _ h => List.mem_cons_of_mem _ (List.mem_append_right _ h)) (by decide +kernel))
set_option maxRecDepth 20000 in
theorem gL_foretell_X9_foretell : GoodIn wsL_foretell (wsV RL 19 RX9 yX9_foretell wsX9_foretell) := goodIn_app (goodIn_of _ (by decide +kernel)) ggL_foretell_X9_foretell
theorem dL_foretell_0 : decode cL_foretell 0 = .ok (.aload_n 0, 1) := by decide +kernel
theorem dL_foretell_1 : decode cL_foretell 1 = .ok (.iload_n 1, 1) := by decide +kernel
theorem dL_foretell_2 : decode cL_foretell 2 = .ok (.iload_n 2, 1) := by decide +kernel
theorem dL_foretell_3 : decode cL_foretell 3 = .ok (.iload_n 3, 1) := by decide +kernel
theorem dL_foretell_4 : decode cL_foretell 4 = .ok (.invokevirtual 19, 3) := by decide +kernel
theorem dL_foretell_7 : decode cL_foretell 7 = .ok (.goto 11, 3) := by decide +kernel
theorem dL_foretell_10 : decode cL_foretell 10 = .ok (.astore 4, 2) := by decide +kernel
theorem dL_foretell_12 : decode cL_foretell 12 = .ok (.iconst 1, 1) := by decide +kernel
theorem dL_foretell_13 : decode cL_foretell 13 = .ok (.ireturn, 1) := by decide +kernel
theorem dL_foretell_14 : decode cL_foretell 14 = .ok (.astore 4, 2) := by decide +kernel
theorem dL_foretell_16 : decode cL_foretell 16 = .ok (.iconst 2, 1) := by decide +kernel
theorem dL_foretell_17 : decode cL_foretell 17 = .ok (.ireturn, 1) := by decide +kernel
theorem dL_foretell_18 : decode cL_foretell 18 = .ok (.iconst 0, 1) := by decide +kernel
theorem dL_foretell_19 : decode cL_foretell 19 = .ok (.ireturn, 1) := by decide +kernel
set_option maxRecDepth 20000 in
theorem ggL_hive_X9_hive : GoodIn wsL_hive wsX9_hive := goodIn_ca (goodIn_ca (goodIn_r _ [7, 8, 9, 10, 11, 12, 13, 14, 15, 16, 17, 18, 6, 19, 20, 21, 22, 23, 24, 25, 26, 27, 28, 29, 30, 31, 32, 33, 34, 35, 36, 37, 38, 39, 40, 41, 42, 43, 44, 45, 46, 47, 48, 49, 50, 51, 52, 53, 54, 55, 56, 57, 58, 59, 60, 61, 62, 63, 64, 65, 66, 67, 68, 69, 70, 71, 72, 73, 74, 75, 76, 77, 78, 79, 80, 81, 82, 83, 84, 85, 86, 87, 88, 89, 90, 91, 92, 93, 94, 95, 96, 97, 98, 99, 100, 101, 102, 103, 104, 105, 106, 107, 108, 109, 110, 111, 112, 113, 114, 115, 116, 117, 118, 119] (by decide +kernel) (by decide +kernel)) (goodIn_sub (fun _ h => List.mem_cons_of_mem _ (List.mem_append_left _ (List.mem_append_right _ h))) (by decide +kernel))) (goodIn_sub (fun _ h => List.mem_cons_of_mem _ (List.mem_append_right _ h)) (by decide +kernel))
set_option maxRecDepth 20000 in
theorem gL_hive_X9_hive : GoodIn wsL_hive (wsV RL 22 RX9 yX9_hive wsX9_hive) := goodIn_app (goodIn_of _ (by decide +kernel)) ggL_hive_X9_hive
theorem dL_hive_0 : decode cL_hive 0 = .ok (.aload 6, 2) := by decide +kernel
theorem dL_hive_2 : decode cL_hive 2 = .ok (.iconst 0, 1) := by decide +kernel
theorem dL_hive_3 : decode cL_hive 3 = .ok (.aload_n 0, 1) := by decide +kernel
theorem dL_hive_4 : decode cL_hive 4 = .ok (.iload_n 1, 1) := by decide +kernel
theorem dL_hive_5 : decode cL_hive 5 = .ok (.iload_n 2, 1) := by decide +kernel
theorem dL_hive_6 : decode cL_hive 6 = .ok (.iload_n 3, 1) := by decide +kernel
theorem dL_hive_7 : decode cL_hive 7 = .ok (.iload 4, 2) := by decide +kernel
theorem dL_hive_9 : decode cL_hive 9 = .ok (.iload 5, 2) := by decide +kernel
theorem dL_hive_11 : decode cL_hive 11 = .ok (.invokevirtual 22, 3) := by decide +kernel
theorem dL_hive_14 : decode cL_hive 14 = .ok (.i2l, 1) := by decide +kernel
theorem dL_hive_15 : decode cL_hive 15 = .ok (.lastore, 1) := by decide +kernel
theorem dL_hive_16 : decode cL_hive 16 = .ok (.goto 11, 3) := by decide +kernel
theorem dL_hive_19 : decode cL_hive 19 = .ok (.astore 7, 2) := by decide +kernel
theorem dL_hive_21 : decode cL_hive 21 = .ok (.iconst 1, 1) := by decide +kernel
theorem dL_hive_22 : decode cL_hive 22 = .ok (.ireturn, 1) := by decide +kernel
theorem dL_hive_23 : decode cL_hive 23 = .ok (.astore 7, 2) := by decide +kernel
theorem dL_hive_25 : decode cL_hive 25 = .ok (.iconst 2, 1) := by decide +kernel
theorem dL_hive_26 : decode cL_hive 26 = .ok (.ireturn, 1) := by decide +kernel
theorem dL_hive_27 : decode cL_hive 27 = .ok (.iconst 0, 1) := by decide +kernel
theorem dL_hive_28 : decode cL_hive 28 = .ok (.ireturn, 1) := by decide +kernel
set_option maxRecDepth 20000 in
theorem ggL_keeper_X9_keeper : GoodIn wsL_keeper wsX9_keeper := goodIn_ca (goodIn_ca (goodIn_r _ [7, 8, 9, 10, 11, 12, 13, 14, 15, 16, 17, 6, 18, 19, 20, 21, 22, 23, 24, 25, 26, 27, 28, 29, 30, 31, 32, 33, 34, 35, 36, 37, 38, 39, 40, 41, 42, 43, 44, 45, 46, 47, 48, 49, 50, 51, 52, 53, 54, 55, 56, 57, 58, 59, 60, 61, 62, 63, 64, 65, 66, 67, 68, 69, 70, 71, 72, 73, 74, 75, 76, 77, 78, 79, 80, 81, 82, 83, 84, 85, 86, 87, 88, 89, 90, 91, 92, 93, 94, 95, 96, 97, 98, 99, 100, 101, 102, 103, 104, 105, 106, 107, 108, 109, 110, 111, 112, 113, 114, 115, 116, 117, 118, 119, 120, 121, 122, 123, 124, 125, 126, 127, 128, 129, 130, 131] (by decide +kernel) (by decide +kernel)) (goodIn_sub (fun _ h => List.mem_cons_of_mem _ (List.mem_append_left _ (List.mem_append_right _ h))) (by decide +kernel))) (goodIn_sub (fun _ h => List.mem_cons_of_mem _ (List.mem_append_right _ h)) (by decide +kernel))
set_option maxRecDepth 20000 in
theorem gL_keeper_X9_keeper : GoodIn wsL_keeper (wsV RL 28 RX9 yX9_keeper wsX9_keeper) := goodIn_app (goodIn_of _ (by decide +kernel)) ggL_keeper_X9_keeper
theorem dL_keeper_0 : decode cL_keeper 0 = .ok (.aload 8, 2) := by decide +kernel
theorem dL_keeper_2 : decode cL_keeper 2 = .ok (.iconst 0, 1) := by decide +kernel
theorem dL_keeper_3 : decode cL_keeper 3 = .ok (.aload_n 0, 1) := by decide +kernel
theorem dL_keeper_4 : decode cL_keeper 4 = .ok (.iload_n 1, 1) := by decide +kernel
theorem dL_keeper_5 : decode cL_keeper 5 = .ok (.iload_n 2, 1) := by decide +kernel
theorem dL_keeper_6 : decode cL_keeper 6 = .ok (.iload_n 3, 1) := by decide +kernel
theorem dL_keeper_7 : decode cL_keeper 7 = .ok (.iload 4, 2) := by decide +kernel
theorem dL_keeper_9 : decode cL_keeper 9 = .ok (.iload 5, 2) := by decide +kernel
theorem dL_keeper_11 : decode cL_keeper 11 = .ok (.iload 6, 2) := by decide +kernel
theorem dL_keeper_13 : decode cL_keeper 13 = .ok (.iload 7, 2) := by decide +kernel
theorem dL_keeper_15 : decode cL_keeper 15 = .ok (.invokevirtual 28, 3) := by decide +kernel
theorem dL_keeper_18 : decode cL_keeper 18 = .ok (.i2l, 1) := by decide +kernel
theorem dL_keeper_19 : decode cL_keeper 19 = .ok (.lastore, 1) := by decide +kernel
theorem dL_keeper_20 : decode cL_keeper 20 = .ok (.goto 11, 3) := by decide +kernel
theorem dL_keeper_23 : decode cL_keeper 23 = .ok (.astore 9, 2) := by decide +kernel
theorem dL_keeper_25 : decode cL_keeper 25 = .ok (.iconst 1, 1) := by decide +kernel
theorem dL_keeper_26 : decode cL_keeper 26 = .ok (.ireturn, 1) := by decide +kernel
theorem dL_keeper_27 : decode cL_keeper 27 = .ok (.astore 9, 2) := by decide +kernel
theorem dL_keeper_29 : decode cL_keeper 29 = .ok (.iconst 2, 1) := by decide +kernel
theorem dL_keeper_30 : decode cL_keeper 30 = .ok (.ireturn, 1) := by decide +kernel
theorem dL_keeper_31 : decode cL_keeper 31 = .ok (.iconst 0, 1) := by decide +kernel
theorem dL_keeper_32 : decode cL_keeper 32 = .ok (.ireturn, 1) := by decide +kernel
set_option maxRecDepth 20000 in
theorem ggL_boxes_X9_boxes : GoodIn wsL_boxes wsX9_boxes := goodIn_ca (goodIn_ca (goodIn_r _ [7, 8, 9, 10, 11, 12, 13, 14, 15, 16, 6, 17, 18, 19, 20, 21, 22, 23, 24, 25, 26, 27, 28, 29, 30, 31, 32, 33, 34, 35, 36, 37, 38, 39, 40, 41, 42, 43, 44, 45, 46, 47, 48, 49, 50, 51, 52, 53, 54, 55, 56, 57, 58, 59, 60, 61, 62, 63, 64, 65, 66, 67, 68, 69, 70, 71, 72, 73, 74, 75, 76] (by decide +kernel) (by decide +kernel)) (goodIn_sub (fun _ h => List.mem_cons_of_mem _ (List.mem_append_left _ (List.mem_append_right _ h))) (by decide +kernel))) (goodIn_sub (fun _ h => List.mem_cons_of_mem _ (List.mem_append_right _ h)) (by decide +kernel))
set_option maxRecDepth 20000 in
theorem gL_boxes_X9_boxes : GoodIn wsL_boxes (wsV RL 32 RX9 yX9_boxes wsX9_boxes) := goodIn_app (goodIn_of _ (by decide +kernel)) ggL_boxes_X9_boxes
theorem dL_boxes_0 : decode cL_boxes 0 = .ok (.aload_n 3, 1) := by decide +kernel
theorem dL_boxes_1 : decode cL_boxes 1 = .ok (.iconst 0, 1) := by decide +kernel
theorem dL_boxes_2 : decode cL_boxes 2 = .ok (.aload_n 0, 1) := by decide +kernel
theorem dL_boxes_3 : decode cL_boxes 3 = .ok (.iload_n 1, 1) := by decide +kernel
theorem dL_boxes_4 : decode cL_boxes 4 = .ok (.iload_n 2, 1) := by decide +kernel
theorem dL_boxes_5 : decode cL_boxes 5 = .ok (.invokevirtual 32, 3) := by decide +kernel
theorem dL_boxes_8 : decode cL_boxes 8 = .ok (.i2l, 1) := by decide +kernel
theorem dL_boxes_9 : decode cL_boxes 9 = .ok (.lastore, 1) := by decide +kernel
theorem dL_boxes_10 : decode cL_boxes 10 = .ok (.goto 11, 3) := by decide +kernel
theorem dL_boxes_13 : decode cL_boxes 13 = .ok (.astore 4, 2) := by decide +kernel
theorem dL_boxes_15 : decode cL_boxes 15 = .ok (.iconst 1, 1) := by decide +kernel
theorem dL_boxes_16 : decode cL_boxes 16 = .ok (.ireturn, 1) := by decide +kernel
theorem dL_boxes_17 : decode cL_boxes 17 = .ok (.astore 4, 2) := by decide +kernel
theorem dL_boxes_19 : decode cL_boxes 19 = .ok (.iconst 2, 1) := by decide +kernel
theorem dL_boxes_20 : decode cL_boxes 20 = .ok (.ireturn, 1) := by decide +kernel
theorem dL_boxes_21 : decode cL_boxes 21 = .ok (.iconst 0, 1) := by decide +kernel
theorem dL_boxes_22 : decode cL_boxes 22 = .ok (.ireturn, 1) := by decide +kernel
set_option maxRecDepth 20000 in
theorem ggL_hours_X9_hours : GoodIn wsL_hours wsX9_hours := goodIn_ca (goodIn_ca (goodIn_r _ [6, 7, 8, 9, 10, 11, 5, 12, 13, 14, 15, 16, 17, 18, 19, 20, 21, 22, 23, 24, 25, 26, 27, 28, 29, 30, 31, 32, 33, 34, 35, 36, 37, 38, 39, 40, 41, 42, 43, 44, 45, 46, 47, 48, 49, 50, 51, 52, 53, 54, 55, 56, 57, 58, 59, 60, 61, 62, 63, 64, 65, 66, 67, 68, 69, 70, 71, 72, 73, 74, 75, 76, 77, 78, 79, 80, 81, 82, 83, 84, 85, 86, 87, 88, 89, 90, 91, 92, 93, 94, 95, 96, 97, 98, 99, 100, 101, 102, 103, 104, 105, 106, 107, 108, 109, 110, 111, 112, 113, 114, 115, 116, 117, 118, 119, 120, 121, 122, 123, 124, 125, 126, 127, 128, 129, 130, 131, 132, 133, 134, 135, 136, 137, 138, 139, 140, 141, 142, 143, 144, 145, 146, 147, 148, 149, 150, 151, 152, 153, 154, 155, 156, 157, 158, 159, 160, 161, 162, 163, 164, 165, 166, 167, 168, 169, 170, 171, 172, 173, 174, 175, 176, 177, 178, 179, 180, 181, 182, 183, 184, 185, 186, 187, 188, 189, 190, 191, 192, 193, 194, 195, 196, 197, 198, 199, 200, 201, 202, 203, 204, 205, 206, 207, 208, 209, 210, 211, 212, 213, 214, 215, 216, 217, 218, 219, 220, 221, 222, 223, 224, 225, 226, 227, 228, 229, 230, 231, 232, 233, 234, 235, 236, 237, 238, 239, 240, 241, 242, 243, 244, 245, 246, 247, 248, 249, 250, 251, 252, 253, 254, 255, 256, 257, 258, 259, 260, 261, 262, 263, 264, 265, 266, 267, 268, 269, 270, 271, 272, 273, 274, 275, 276, 277, 278, 279, 280, 281, 282, 283, 284] (by decide +kernel) (by decide +kernel)) (goodIn_sub (fun _ h => List.mem_cons_of_mem _ (List.mem_append_left _ (List.mem_append_right _ h))) (by decide +kernel))) (goodIn_sub (fun _ h => List.mem_cons_of_mem _ (List.mem_append_right _ h)) (by decide +kernel))
set_option maxRecDepth 20000 in
theorem gL_hours_X9_hours : GoodIn wsL_hours (wsV RL 36 RX9 yX9_hours wsX9_hours) := goodIn_app (goodIn_of _ (by decide +kernel)) ggL_hours_X9_hours
theorem dL_hours_0 : decode cL_hours 0 = .ok (.aload_n 2, 1) := by decide +kernel
theorem dL_hours_1 : decode cL_hours 1 = .ok (.iconst 0, 1) := by decide +kernel
theorem dL_hours_2 : decode cL_hours 2 = .ok (.aload_n 0, 1) := by decide +kernel
theorem dL_hours_3 : decode cL_hours 3 = .ok (.iload_n 1, 1) := by decide +kernel
theorem dL_hours_4 : decode cL_hours 4 = .ok (.invokevirtual 36, 3) := by decide +kernel
theorem dL_hours_7 : decode cL_hours 7 = .ok (.i2l, 1) := by decide +kernel
theorem dL_hours_8 : decode cL_hours 8 = .ok (.lastore, 1) := by decide +kernel
theorem dL_hours_9 : decode cL_hours 9 = .ok (.goto 6, 3) := by decide +kernel
theorem dL_hours_12 : decode cL_hours 12 = .ok (.astore_n 3, 1) := by decide +kernel
theorem dL_hours_13 : decode cL_hours 13 = .ok (.iconst 1, 1) := by decide +kernel
theorem dL_hours_14 : decode cL_hours 14 = .ok (.ireturn, 1) := by decide +kernel
theorem dL_hours_15 : decode cL_hours 15 = .ok (.iconst 0, 1) := by decide +kernel
theorem dL_hours_16 : decode cL_hours 16 = .ok (.ireturn, 1) := by decide +kernel
set_option maxRecDepth 20000 in
theorem ggL_call_X9_call : GoodIn wsL_call wsX9_call := goodIn_ca (goodIn_ca (goodIn_ca (goodIn_r _ [7, 8, 9, 10, 11, 12, 13, 14, 15, 16, 17, 18, 19, 20, 21, 22, 23, 24, 25, 26, 27, 28, 29, 30, 31, 32, 33, 34, 35, 36, 37, 38, 39, 40, 41, 42, 43, 44, 45, 46, 47, 48, 49, 50, 51, 52, 53, 54, 55, 56, 57, 58, 59, 60, 61, 62, 63, 64, 65, 66, 67, 68, 69, 70, 71, 72, 73, 74, 75, 76, 77, 78, 79, 80, 81, 82, 83, 84, 85, 86, 87, 88, 89, 90, 91, 92, 93, 94, 95, 96, 97, 98, 99, 100, 101, 102, 103, 104, 105, 106, 107, 108, 109, 110, 111, 112, 113, 114, 115, 116, 117, 118, 119, 120, 121, 122, 123, 124, 125, 126, 127, 6, 128, 129, 130, 131, 132, 133, 134, 135, 136, 137, 138, 139, 140, 141, 142, 143, 144, 145, 146, 147, 148, 149, 150, 151, 152, 153, 154, 155, 156, 157, 158, 159, 160, 161, 162, 163, 164, 165, 166, 167, 168, 169, 170, 171, 172, 173, 174, 175, 176, 177, 178, 179, 180, 181, 182, 183, 184, 185, 186, 187, 188, 189, 190, 191, 192, 193, 194, 195, 196, 197, 198, 199, 200, 201, 202, 203, 204, 205, 206, 207, 208, 209, 210, 211, 212, 213, 214, 215, 216, 217, 218, 219, 220, 221, 222, 223, 224, 225, 226, 227, 228, 229, 230, 231, 232, 233, 234, 235, 236, 237, 238, 239, 240, 241, 242, 243, 244, 245, 246, 247, 248, 249, 250, 251, 252, 253, 254, 255, 256, 257, 258, 259, 260, 261, 262, 263, 264, 265, 266, 267, 268, 269, 270, 271, 272, 273, 274, 275, 276, 277, 278, 279, 280, 281, 282, 283, 284, 285, 286, 287, 288, 289, 290, 291, 292, 293, 294, 295, 296, 297, 298, 299, 300, 301, 302, 303, 304, 305, 306, 307, 308, 309, 310, 311, 312, 313] (by decide +kernel) (by decide +kernel)) (goodIn_sub (fun _ h => List.mem_cons_of_mem _ (List.mem_append_left _ (List.mem_append_left _ (List.mem_append_right _ h)))) (by decide +kernel))) (goodIn_sub (fun _ h => List.mem_cons_of_mem _ (List.mem_append_left _ (List.mem_append_right _ h))) (by decide +kernel))) (goodIn_sub (fun _ h => List.mem_cons_of_mem _ (List.mem_append_right _ h)) (by decide +kernel))
set_option maxRecDepth 20000 in
theorem gL_call_X9_call : GoodIn wsL_call (wsV RL 40 RX9 yX9_call wsX9_call) := goodIn_app (goodIn_of _ (by decide +kernel)) ggL_call_X9_call
theorem dL_call_0 : decode cL_call 0 = .ok (.aload_n 1, 1) := by decide +kernel
theorem dL_call_1 : decode cL_call 1 = .ok (.iconst 0, 1) := by decide +kernel
theorem dL_call_2 : decode cL_call 2 = .ok (.aload_n 0, 1) := by decide +kernel
theorem dL_call_3 : decode cL_call 3 = .ok (.invokevirtual 40, 3) := by decide +kernel
theorem dL_call_6 : decode cL_call 6 = .ok (.i2l, 1) := by decide +kernel
theorem dL_call_7 : decode cL_call 7 = .ok (.lastore, 1) := by decide +kernel
theorem dL_call_8 : decode cL_call 8 = .ok (.goto 9, 3) := by decide +kernel
theorem dL_call_11 : decode cL_call 11 = .ok (.astore_n 2, 1) := by decide +kernel
theorem dL_call_12 : decode cL_call 12 = .ok (.iconst 1, 1) := by decide +kernel
theorem dL_call_13 : decode cL_call 13 = .ok (.ireturn, 1) := by decide +kernel
theorem dL_call_14 : decode cL_call 14 = .ok (.astore_n 2, 1) := by decide +kernel
theorem dL_call_15 : decode cL_call 15 = .ok (.iconst 2, 1) := by decide +kernel
theorem dL_call_16 : decode cL_call 16 = .ok (.ireturn, 1) := by decide +kernel
theorem dL_call_17 : decode cL_call 17 = .ok (.iconst 0, 1) := by decide +kernel
theorem dL_call_18 : decode cL_call 18 = .ok (.ireturn, 1) := by decide +kernel
set_option maxRecDepth 20000 in
theorem ggL_rota_X9_rota : GoodIn wsL_rota wsX9_rota := goodIn_ca (goodIn_r _ [6, 7, 8, 9, 10, 11, 12, 13, 14, 15, 16, 17, 18, 19, 20, 21, 22, 23, 24, 25, 26, 27, 28, 29, 30, 31, 32, 33, 34, 35, 36, 37, 38, 39, 40, 41, 42, 43, 44, 45, 46, 47, 48, 49, 50, 51, 52, 53, 54, 55, 56, 57, 58, 59, 60, 61, 62, 63, 64, 65, 66, 67, 68, 69, 70, 71, 72, 73, 74, 75, 76, 77, 78, 79, 80, 81, 82, 83, 84, 85, 86, 87, 88, 89, 90, 91, 92, 93, 94, 95, 96, 97, 98, 99, 100, 101, 102, 103, 104, 105, 106, 107, 108, 109, 110, 111, 112, 113, 114, 115, 116, 117, 118, 119, 120, 5, 121, 122, 123, 124, 125, 126, 127, 128, 129, 130, 131, 132, 133, 134, 135, 136, 137, 138, 139, 140, 141, 142, 143, 144, 145, 146, 147, 148, 149, 150, 151, 152, 153, 154, 155, 156, 157, 158, 159, 160, 161, 162, 163, 164, 165, 166, 167, 168, 169, 170, 171, 172, 173, 174, 175, 176, 177, 178, 179, 180] (by decide +kernel) (by decide +kernel)) (goodIn_sub (fun _ h => List.mem_cons_of_mem _ (List.mem_append_right _ h)) (by decide +kernel))
set_option maxRecDepth 20000 in
theorem gL_rota_X9_rota : GoodIn wsL_rota (wsV RL 44 RX9 yX9_rota wsX9_rota) := goodIn_app (goodIn_of _ (by decide +kernel)) ggL_rota_X9_rota
theorem dL_rota_0 : decode cL_rota 0 = .ok (.aload_n 1, 1) := by decide +kernel
theorem dL_rota_1 : decode cL_rota 1 = .ok (.iconst 0, 1) := by decide +kernel
theorem dL_rota_2 : decode cL_rota 2 = .ok (.aload_n 0, 1) := by decide +kernel
theorem dL_rota_3 : decode cL_rota 3 = .ok (.invokevirtual 44, 3) := by decide +kernel
theorem dL_rota_6 : decode cL_rota 6 = .ok (.i2l, 1) := by decide +kernel
theorem dL_rota_7 : decode cL_rota 7 = .ok (.lastore, 1) := by decide +kernel
theorem dL_rota_8 : decode cL_rota 8 = .ok (.goto 6, 3) := by decide +kernel
theorem dL_rota_11 : decode cL_rota 11 = .ok (.astore_n 2, 1) := by decide +kernel
theorem dL_rota_12 : decode cL_rota 12 = .ok (.iconst 1, 1) := by decide +kernel
theorem dL_rota_13 : decode cL_rota 13 = .ok (.ireturn, 1) := by decide +kernel
theorem dL_rota_14 : decode cL_rota 14 = .ok (.iconst 0, 1) := by decide +kernel
theorem dL_rota_15 : decode cL_rota 15 = .ok (.ireturn, 1) := by decide +kernel
set_option maxRecDepth 20000 in
theorem ggL_send_X9_send : GoodIn wsL_send wsX9_send := goodIn_ca (goodIn_ca (goodIn_r _ [7, 8, 9, 10, 11, 12, 13, 14, 6, 15, 16, 17, 18, 19, 20, 21, 22, 23, 24, 25, 26, 27, 28, 29, 30, 31, 32, 33, 34, 35, 36, 37, 38, 39, 40, 41, 42, 43, 44, 45, 46, 47, 48, 49, 50, 51, 52, 53, 54, 55, 56, 57, 58, 59, 60, 61, 62, 63, 64, 65, 66, 67, 68, 69, 70, 71, 72, 73, 74, 75, 76, 77, 78, 79, 80, 81, 82, 83, 84, 85, 86, 87, 88, 89, 90, 91, 92, 93, 94, 95, 96, 97, 98, 99, 100, 101, 102, 103, 104, 105, 106, 107, 108, 109, 110, 111, 112, 113, 114, 115, 116, 117, 118, 119, 120, 121, 122, 123, 124, 125, 126, 127, 128, 129, 130, 131, 132, 133, 134, 135, 136, 137, 138, 139, 140, 141, 142, 143, 144, 145, 146, 147, 148, 149, 150, 151, 152, 153, 154, 155, 156, 157, 158, 159, 160, 161, 162, 163] (by decide +kernel) (by decide +kernel)) (goodIn_sub (fun _ h => List.mem_cons_of_mem _ (List.mem_append_left _ (List.mem_append_right _ h))) (by decide +kernel))) (goodIn_sub (fun _ h => List.mem_cons_of_mem _ (List.mem_append_right _ h)) (by decide +kernel))
set_option maxRecDepth 20000 in
theorem gL_send_X9_send : GoodIn wsL_send (wsV RL 47 RX9 yX9_send wsX9_send) := goodIn_app (goodIn_of _ (by decide +kernel)) ggL_send_X9_send
theorem dL_send_0 : decode cL_send 0 = .ok (.aload_n 2, 1) := by decide +kernel
theorem dL_send_1 : decode cL_send 1 = .ok (.iconst 0, 1) := by decide +kernel
theorem dL_send_2 : decode cL_send 2 = .ok (.aload_n 0, 1) := by decide +kernel
theorem dL_send_3 : decode cL_send 3 = .ok (.iload_n 1, 1) := by decide +kernel
theorem dL_send_4 : decode cL_send 4 = .ok (.invokevirtual 47, 3) := by decide +kernel
theorem dL_send_7 : decode cL_send 7 = .ok (.i2l, 1) := by decide +kernel
theorem dL_send_8 : decode cL_send 8 = .ok (.lastore, 1) := by decide +kernel
theorem dL_send_9 : decode cL_send 9 = .ok (.goto 9, 3) := by decide +kernel
theorem dL_send_12 : decode cL_send 12 = .ok (.astore_n 3, 1) := by decide +kernel
theorem dL_send_13 : decode cL_send 13 = .ok (.iconst 1, 1) := by decide +kernel
theorem dL_send_14 : decode cL_send 14 = .ok (.ireturn, 1) := by decide +kernel
theorem dL_send_15 : decode cL_send 15 = .ok (.astore_n 3, 1) := by decide +kernel
theorem dL_send_16 : decode cL_send 16 = .ok (.iconst 2, 1) := by decide +kernel
theorem dL_send_17 : decode cL_send 17 = .ok (.ireturn, 1) := by decide +kernel
theorem dL_send_18 : decode cL_send 18 = .ok (.iconst 0, 1) := by decide +kernel
theorem dL_send_19 : decode cL_send 19 = .ok (.ireturn, 1) := by decide +kernel
set_option maxRecDepth 20000 in
theorem ggL_left_X9_left : GoodIn wsL_left wsX9_left := goodIn_ca (goodIn_r _ [6, 7, 8, 9, 5, 10, 11, 12, 13, 14, 15, 16, 17, 18, 19, 20, 21, 22, 23, 24, 25, 26, 27, 28, 29, 30, 31, 32, 33, 34, 35, 36, 37, 38, 39, 40, 41, 42, 43, 44, 45, 46, 47, 48, 49, 50, 51, 52, 53, 54, 55, 56, 57, 58, 59, 60, 61, 62, 63, 64, 65, 66, 67, 68, 69, 70, 71, 72, 73, 74, 75, 76, 77, 78, 79, 80, 81, 82, 83, 84, 85, 86, 87, 88, 89, 90, 91, 92, 93, 94, 95, 96, 97, 98, 99, 100, 101, 102, 103, 104, 105, 106, 107, 108] (by decide +kernel) (by decide +kernel)) (goodIn_sub (fun _ h => List.mem_cons_of_mem _ (List.mem_append_right _ h)) (by decide +kernel))
set_option maxRecDepth 20000 in
theorem gL_left_X9_left : GoodIn wsL_left (wsV RL 50 RX9 yX9_left wsX9_left) := goodIn_app (goodIn_of _ (by decide +kernel)) ggL_left_X9_left
theorem dL_left_0 : decode cL_left 0 = .ok (.aload_n 3, 1) := by decide +kernel
theorem dL_left_1 : decode cL_left 1 = .ok (.iconst 0, 1) := by decide +kernel
theorem dL_left_2 : decode cL_left 2 = .ok (.aload_n 0, 1) := by decide +kernel
theorem dL_left_3 : decode cL_left 3 = .ok (.iload_n 1, 1) := by decide +kernel
theorem dL_left_4 : decode cL_left 4 = .ok (.iload_n 2, 1) := by decide +kernel
theorem dL_left_5 : decode cL_left 5 = .ok (.invokevirtual 50, 3) := by decide +kernel
theorem dL_left_8 : decode cL_left 8 = .ok (.i2l, 1) := by decide +kernel
theorem dL_left_9 : decode cL_left 9 = .ok (.lastore, 1) := by decide +kernel
theorem dL_left_10 : decode cL_left 10 = .ok (.goto 7, 3) := by decide +kernel
theorem dL_left_13 : decode cL_left 13 = .ok (.astore 4, 2) := by decide +kernel
theorem dL_left_15 : decode cL_left 15 = .ok (.iconst 1, 1) := by decide +kernel
theorem dL_left_16 : decode cL_left 16 = .ok (.ireturn, 1) := by decide +kernel
theorem dL_left_17 : decode cL_left 17 = .ok (.iconst 0, 1) := by decide +kernel
theorem dL_left_18 : decode cL_left 18 = .ok (.ireturn, 1) := by decide +kernel
set_option maxRecDepth 20000 in
theorem ggL_origin_X9_origin : GoodIn wsL_origin wsX9_origin := goodIn_ca (goodIn_ca (goodIn_r _ [7, 8, 9, 10, 11, 12, 13, 14, 6, 15, 16, 17, 18, 19, 20, 21, 22, 23, 24, 25, 26, 27, 28, 29, 30, 31, 32, 33, 34, 35, 36, 37, 38, 39, 40, 41, 42, 43, 44, 45, 46, 47, 48, 49, 50, 51, 52, 53, 54, 55, 56, 57, 58, 59, 60, 61, 62, 63, 64, 65, 66, 67, 68, 69, 70, 71, 72, 73, 74, 75, 76, 77, 78, 79, 80, 81, 82, 83, 84, 85, 86, 87, 88, 89, 90, 91, 92, 93, 94, 95, 96, 97, 98, 99, 100, 101, 102, 103, 104, 105, 106, 107, 108, 109, 110, 111, 112, 113, 114] (by decide +kernel) (by decide +kernel)) (goodIn_sub (fun _ h => List.mem_cons_of_mem _ (List.mem_append_left _ (List.mem_append_right _ h))) (by decide +kernel))) (goodIn_sub (fun _ h => List.mem_cons_of_mem _ (List.mem_append_right _ h)) (by decide +kernel))
set_option maxRecDepth 20000 in
theorem gL_origin_X9_origin : GoodIn wsL_origin (wsV RL 54 RX9 yX9_origin wsX9_origin) := goodIn_app (goodIn_of _ (by decide +kernel)) ggL_origin_X9_origin
theorem dL_origin_0 : decode cL_origin 0 = .ok (.aload_n 2, 1) := by decide +kernel
theorem dL_origin_1 : decode cL_origin 1 = .ok (.iconst 0, 1) := by decide +kernel
theorem dL_origin_2 : decode cL_origin 2 = .ok (.aload_n 0, 1) := by decide +kernel
theorem dL_origin_3 : decode cL_origin 3 = .ok (.iload_n 1, 1) := by decide +kernel
theorem dL_origin_4 : decode cL_origin 4 = .ok (.invokevirtual 54, 3) := by decide +kernel
theorem dL_origin_7 : decode cL_origin 7 = .ok (.i2l, 1) := by decide +kernel
theorem dL_origin_8 : decode cL_origin 8 = .ok (.lastore, 1) := by decide +kernel
theorem dL_origin_9 : decode cL_origin 9 = .ok (.goto 9, 3) := by decide +kernel
theorem dL_origin_12 : decode cL_origin 12 = .ok (.astore_n 3, 1) := by decide +kernel
theorem dL_origin_13 : decode cL_origin 13 = .ok (.iconst 1, 1) := by decide +kernel
theorem dL_origin_14 : decode cL_origin 14 = .ok (.ireturn, 1) := by decide +kernel
theorem dL_origin_15 : decode cL_origin 15 = .ok (.astore_n 3, 1) := by decide +kernel
theorem dL_origin_16 : decode cL_origin 16 = .ok (.iconst 2, 1) := by decide +kernel
theorem dL_origin_17 : decode cL_origin 17 = .ok (.ireturn, 1) := by decide +kernel
theorem dL_origin_18 : decode cL_origin 18 = .ok (.iconst 0, 1) := by decide +kernel
theorem dL_origin_19 : decode cL_origin 19 = .ok (.ireturn, 1) := by decide +kernel
set_option maxRecDepth 20000 in
theorem ggL_look_X9_look : GoodIn wsL_look wqX9_look := goodIn_ca (goodIn_ca (goodIn_r _ [7, 8, 9, 10, 11, 12, 13, 14, 15, 16, 17, 18, 19, 20, 21, 22, 23, 24, 25, 26, 27, 28, 29, 30, 31, 32, 33, 34, 35, 36, 37, 38, 39, 40, 41, 42, 43, 44, 45, 46, 47, 48, 49, 50, 51, 52, 53, 54, 55, 56, 57, 58, 59, 60, 61, 62, 63, 64, 65, 66, 67, 68, 69, 70] (by decide +kernel) (by decide +kernel)) (goodIn_sub (fun _ h => List.mem_cons_of_mem _ (List.mem_append_left _ (List.mem_append_right _ h))) (by decide +kernel))) (goodIn_sub (fun _ h => List.mem_cons_of_mem _ (List.mem_append_right _ h)) (by decide +kernel))
set_option maxRecDepth 20000 in
theorem gL_look_X9_look : GoodIn wsL_look (wsV RL 57 RX9 yX9_look wqX9_look) := goodIn_app (goodIn_of _ (by decide +kernel)) ggL_look_X9_look
theorem dL_look_0 : decode cL_look 0 = .ok (.aload_n 3, 1) := by decide +kernel
theorem dL_look_1 : decode cL_look 1 = .ok (.iconst 0, 1) := by decide +kernel
theorem dL_look_2 : decode cL_look 2 = .ok (.aload_n 0, 1) := by decide +kernel
theorem dL_look_3 : decode cL_look 3 = .ok (.iload_n 1, 1) := by decide +kernel
theorem dL_look_4 : decode cL_look 4 = .ok (.iload_n 2, 1) := by decide +kernel
theorem dL_look_5 : decode cL_look 5 = .ok (.invokevirtual 57, 3) := by decide +kernel
theorem dL_look_8 : decode cL_look 8 = .ok (.i2l, 1) := by decide +kernel
theorem dL_look_9 : decode cL_look 9 = .ok (.lastore, 1) := by decide +kernel
theorem dL_look_10 : decode cL_look 10 = .ok (.goto 11, 3) := by decide +kernel
theorem dL_look_13 : decode cL_look 13 = .ok (.astore 4, 2) := by decide +kernel
theorem dL_look_15 : decode cL_look 15 = .ok (.iconst 1, 1) := by decide +kernel
theorem dL_look_16 : decode cL_look 16 = .ok (.ireturn, 1) := by decide +kernel
theorem dL_look_17 : decode cL_look 17 = .ok (.astore 4, 2) := by decide +kernel
theorem dL_look_19 : decode cL_look 19 = .ok (.iconst 2, 1) := by decide +kernel
theorem dL_look_20 : decode cL_look 20 = .ok (.ireturn, 1) := by decide +kernel
theorem dL_look_21 : decode cL_look 21 = .ok (.iconst 0, 1) := by decide +kernel
theorem dL_look_22 : decode cL_look 22 = .ok (.ireturn, 1) := by decide +kernel
set_option maxRecDepth 20000 in
theorem ggL_swarm_X9_swarm : GoodIn wsL_swarm wqX9_swarm := goodIn_ca (goodIn_ca (goodIn_r _ [7, 8, 9, 10, 6, 11, 12, 13, 14, 15, 16, 17, 18, 19, 20, 21, 22, 23, 24, 25, 26, 27, 28, 29, 30, 31, 32, 33, 34, 35, 36, 37, 38, 39, 40, 41, 42, 43, 44, 45, 46, 47, 48, 49, 50, 51, 52, 53, 54, 55, 56, 57, 58, 59, 60, 61, 62, 63, 64, 65, 66, 67, 68, 69, 70, 71, 72, 73, 74, 75, 76, 77, 78, 79, 80, 81, 82, 83] (by decide +kernel) (by decide +kernel)) (goodIn_sub (fun _ h => List.mem_cons_of_mem _ (List.mem_append_left _ (List.mem_append_right _ h))) (by decide +kernel))) (goodIn_sub (fun _ h => List.mem_cons_of_mem _ (List.mem_append_right _ h)) (by decide +kernel))
set_option maxRecDepth 20000 in
theorem gL_swarm_X9_swarm : GoodIn wsL_swarm (wsV RL 62 RX9 yX9_swarm wqX9_swarm) := goodIn_app (goodIn_of _ (by decide +kernel)) ggL_swarm_X9_swarm
theorem dL_swarm_0 : decode cL_swarm 0 = .ok (.aload_n 3, 1) := by decide +kernel
theorem dL_swarm_1 : decode cL_swarm 1 = .ok (.iconst 0, 1) := by decide +kernel
theorem dL_swarm_2 : decode cL_swarm 2 = .ok (.aload_n 0, 1) := by decide +kernel
theorem dL_swarm_3 : decode cL_swarm 3 = .ok (.iload_n 1, 1) := by decide +kernel
theorem dL_swarm_4 : decode cL_swarm 4 = .ok (.iload_n 2, 1) := by decide +kernel
theorem dL_swarm_5 : decode cL_swarm 5 = .ok (.invokevirtual 62, 3) := by decide +kernel
theorem dL_swarm_8 : decode cL_swarm 8 = .ok (.i2l, 1) := by decide +kernel
theorem dL_swarm_9 : decode cL_swarm 9 = .ok (.lastore, 1) := by decide +kernel
theorem dL_swarm_10 : decode cL_swarm 10 = .ok (.goto 11, 3) := by decide +kernel
theorem dL_swarm_13 : decode cL_swarm 13 = .ok (.astore 4, 2) := by decide +kernel
theorem dL_swarm_15 : decode cL_swarm 15 = .ok (.iconst 1, 1) := by decide +kernel
theorem dL_swarm_16 : decode cL_swarm 16 = .ok (.ireturn, 1) := by decide +kernel
theorem dL_swarm_17 : decode cL_swarm 17 = .ok (.astore 4, 2) := by decide +kernel
theorem dL_swarm_19 : decode cL_swarm 19 = .ok (.iconst 2, 1) := by decide +kernel
theorem dL_swarm_20 : decode cL_swarm 20 = .ok (.ireturn, 1) := by decide +kernel
theorem dL_swarm_21 : decode cL_swarm 21 = .ok (.iconst 0, 1) := by decide +kernel
theorem dL_swarm_22 : decode cL_swarm 22 = .ok (.ireturn, 1) := by decide +kernel
set_option maxRecDepth 20000 in
theorem ggL_crew_X9_crew : GoodIn wsL_crew wqX9_crew := goodIn_ca (goodIn_ca (goodIn_r _ [7, 8, 9, 10, 6, 11, 12, 13, 14, 15, 16, 17, 18, 19, 20, 21, 22, 23, 24, 25, 26, 27, 28, 29, 30, 31, 32, 33, 34, 35, 36, 37, 38, 39, 40, 41, 42, 43, 44, 45, 46, 47, 48, 49, 50, 51, 52, 53, 54, 55, 56, 57, 58, 59, 60, 61, 62, 63, 64, 65, 66, 67, 68, 69, 70, 71, 72, 73, 74, 75, 76, 77, 78, 79] (by decide +kernel) (by decide +kernel)) (goodIn_sub (fun _ h => List.mem_cons_of_mem _ (List.mem_append_left _ (List.mem_append_right _ h))) (by decide +kernel))) (goodIn_sub (fun _ h => List.mem_cons_of_mem _ (List.mem_append_right _ h)) (by decide +kernel))
set_option maxRecDepth 20000 in
theorem gL_crew_X9_crew : GoodIn wsL_crew (wsV RL 65 RX9 yX9_crew wqX9_crew) := goodIn_app (goodIn_of _ (by decide +kernel)) ggL_crew_X9_crew
theorem dL_crew_0 : decode cL_crew 0 = .ok (.aload_n 3, 1) := by decide +kernel
theorem dL_crew_1 : decode cL_crew 1 = .ok (.iconst 0, 1) := by decide +kernel
theorem dL_crew_2 : decode cL_crew 2 = .ok (.aload_n 0, 1) := by decide +kernel
theorem dL_crew_3 : decode cL_crew 3 = .ok (.iload_n 1, 1) := by decide +kernel
theorem dL_crew_4 : decode cL_crew 4 = .ok (.iload_n 2, 1) := by decide +kernel
theorem dL_crew_5 : decode cL_crew 5 = .ok (.invokevirtual 65, 3) := by decide +kernel
theorem dL_crew_8 : decode cL_crew 8 = .ok (.i2l, 1) := by decide +kernel
theorem dL_crew_9 : decode cL_crew 9 = .ok (.lastore, 1) := by decide +kernel
theorem dL_crew_10 : decode cL_crew 10 = .ok (.goto 11, 3) := by decide +kernel
theorem dL_crew_13 : decode cL_crew 13 = .ok (.astore 4, 2) := by decide +kernel
theorem dL_crew_15 : decode cL_crew 15 = .ok (.iconst 1, 1) := by decide +kernel
theorem dL_crew_16 : decode cL_crew 16 = .ok (.ireturn, 1) := by decide +kernel
theorem dL_crew_17 : decode cL_crew 17 = .ok (.astore 4, 2) := by decide +kernel
theorem dL_crew_19 : decode cL_crew 19 = .ok (.iconst 2, 1) := by decide +kernel
theorem dL_crew_20 : decode cL_crew 20 = .ok (.ireturn, 1) := by decide +kernel
theorem dL_crew_21 : decode cL_crew 21 = .ok (.iconst 0, 1) := by decide +kernel
theorem dL_crew_22 : decode cL_crew 22 = .ok (.ireturn, 1) := by decide +kernel
set_option maxRecDepth 20000 in
theorem ggL_matter_X9_matter : GoodIn wsL_matter wqX9_matter := goodIn_ca (goodIn_ca (goodIn_r _ [7, 8, 9, 10, 6, 11, 12, 13, 14, 15, 16, 17, 18, 19, 20, 21, 22, 23, 24, 25, 26, 27, 28, 29, 30, 31, 32, 33, 34, 35, 36, 37, 38, 39, 40, 41, 42, 43, 44, 45, 46, 47, 48, 49, 50, 51, 52, 53, 54, 55, 56, 57, 58, 59, 60, 61, 62, 63, 64, 65, 66, 67, 68, 69, 70, 71, 72, 73, 74, 75, 76, 77, 78, 79, 80, 81, 82, 83] (by decide +kernel) (by decide +kernel)) (goodIn_sub (fun _ h => List.mem_cons_of_mem _ (List.mem_append_left _ (List.mem_append_right _ h))) (by decide +kernel))) (goodIn_sub (fun _ h => List.mem_cons_of_mem _ (List.mem_append_right _ h)) (by decide +kernel))
set_option maxRecDepth 20000 in
theorem gL_matter_X9_matter : GoodIn wsL_matter (wsV RL 68 RX9 yX9_matter wqX9_matter) := goodIn_app (goodIn_of _ (by decide +kernel)) ggL_matter_X9_matter
theorem dL_matter_0 : decode cL_matter 0 = .ok (.aload_n 3, 1) := by decide +kernel
theorem dL_matter_1 : decode cL_matter 1 = .ok (.iconst 0, 1) := by decide +kernel
theorem dL_matter_2 : decode cL_matter 2 = .ok (.aload_n 0, 1) := by decide +kernel
theorem dL_matter_3 : decode cL_matter 3 = .ok (.iload_n 1, 1) := by decide +kernel
theorem dL_matter_4 : decode cL_matter 4 = .ok (.iload_n 2, 1) := by decide +kernel
theorem dL_matter_5 : decode cL_matter 5 = .ok (.invokevirtual 68, 3) := by decide +kernel
theorem dL_matter_8 : decode cL_matter 8 = .ok (.i2l, 1) := by decide +kernel
theorem dL_matter_9 : decode cL_matter 9 = .ok (.lastore, 1) := by decide +kernel
theorem dL_matter_10 : decode cL_matter 10 = .ok (.goto 11, 3) := by decide +kernel
theorem dL_matter_13 : decode cL_matter 13 = .ok (.astore 4, 2) := by decide +kernel
theorem dL_matter_15 : decode cL_matter 15 = .ok (.iconst 1, 1) := by decide +kernel
theorem dL_matter_16 : decode cL_matter 16 = .ok (.ireturn, 1) := by decide +kernel
theorem dL_matter_17 : decode cL_matter 17 = .ok (.astore 4, 2) := by decide +kernel
theorem dL_matter_19 : decode cL_matter 19 = .ok (.iconst 2, 1) := by decide +kernel
theorem dL_matter_20 : decode cL_matter 20 = .ok (.ireturn, 1) := by decide +kernel
theorem dL_matter_21 : decode cL_matter 21 = .ok (.iconst 0, 1) := by decide +kernel
theorem dL_matter_22 : decode cL_matter 22 = .ok (.ireturn, 1) := by decide +kernel
