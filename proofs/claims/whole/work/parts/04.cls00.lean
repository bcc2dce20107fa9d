theorem dX0_init_0 : decode cX0_init 0 = .ok (.aload_n 0, 1) := by decide +kernel
theorem dX0_init_1 : decode cX0_init 1 = .ok (.invokespecial 3, 3) := by decide +kernel
theorem dX0_init_4 : decode cX0_init 4 = .ok (.aload_n 0, 1) := by decide +kernel
theorem dX0_init_5 : decode cX0_init 5 = .ok (.bipush 12, 2) := by decide +kernel
theorem dX0_init_7 : decode cX0_init 7 = .ok (.newarray .int, 2) := by decide +kernel
theorem dX0_init_9 : decode cX0_init 9 = .ok (.putfield 9, 3) := by decide +kernel
theorem dX0_init_12 : decode cX0_init 12 = .ok (.aload_n 0, 1) := by decide +kernel
theorem dX0_init_13 : decode cX0_init 13 = .ok (.bipush 12, 2) := by decide +kernel
theorem dX0_init_15 : decode cX0_init 15 = .ok (.newarray .int, 2) := by decide +kernel
theorem dX0_init_17 : decode cX0_init 17 = .ok (.putfield 15, 3) := by decide +kernel
theorem dX0_init_20 : decode cX0_init 20 = .ok (.aload_n 0, 1) := by decide +kernel
theorem dX0_init_21 : decode cX0_init 21 = .ok (.iconst 0, 1) := by decide +kernel
theorem dX0_init_22 : decode cX0_init 22 = .ok (.putfield 18, 3) := by decide +kernel
theorem dX0_init_25 : decode cX0_init 25 = .ok (.return_, 1) := by decide +kernel
theorem dX0_clear_0 : decode cX0_clear 0 = .ok (.aload_n 0, 1) := by decide +kernel
theorem dX0_clear_1 : decode cX0_clear 1 = .ok (.iconst 0, 1) := by decide +kernel
theorem dX0_clear_2 : decode cX0_clear 2 = .ok (.putfield 18, 3) := by decide +kernel
theorem dX0_clear_5 : decode cX0_clear 5 = .ok (.return_, 1) := by decide +kernel
theorem dX0_add_0 : decode cX0_add 0 = .ok (.aload_n 0, 1) := by decide +kernel
theorem dX0_add_1 : decode cX0_add 1 = .ok (.getfield 18, 3) := by decide +kernel
theorem dX0_add_4 : decode cX0_add 4 = .ok (.bipush 12, 2) := by decide +kernel
theorem dX0_add_6 : decode cX0_add 6 = .ok (.if_icmp .ge 33, 3) := by decide +kernel
theorem dX0_add_9 : decode cX0_add 9 = .ok (.aload_n 0, 1) := by decide +kernel
theorem dX0_add_10 : decode cX0_add 10 = .ok (.getfield 9, 3) := by decide +kernel
theorem dX0_add_13 : decode cX0_add 13 = .ok (.aload_n 0, 1) := by decide +kernel
theorem dX0_add_14 : decode cX0_add 14 = .ok (.getfield 18, 3) := by decide +kernel
theorem dX0_add_17 : decode cX0_add 17 = .ok (.iload_n 1, 1) := by decide +kernel
theorem dX0_add_18 : decode cX0_add 18 = .ok (.iastore, 1) := by decide +kernel
theorem dX0_add_19 : decode cX0_add 19 = .ok (.aload_n 0, 1) := by decide +kernel
theorem dX0_add_20 : decode cX0_add 20 = .ok (.getfield 15, 3) := by decide +kernel
theorem dX0_add_23 : decode cX0_add 23 = .ok (.aload_n 0, 1) := by decide +kernel
theorem dX0_add_24 : decode cX0_add 24 = .ok (.getfield 18, 3) := by decide +kernel
theorem dX0_add_27 : decode cX0_add 27 = .ok (.iload_n 2, 1) := by decide +kernel
theorem dX0_add_28 : decode cX0_add 28 = .ok (.iastore, 1) := by decide +kernel
theorem dX0_add_29 : decode cX0_add 29 = .ok (.aload_n 0, 1) := by decide +kernel
theorem dX0_add_30 : decode cX0_add 30 = .ok (.dup, 1) := by decide +kernel
theorem dX0_add_31 : decode cX0_add 31 = .ok (.getfield 18, 3) := by decide +kernel
theorem dX0_add_34 : decode cX0_add 34 = .ok (.iconst 1, 1) := by decide +kernel
theorem dX0_add_35 : decode cX0_add 35 = .ok (.iadd, 1) := by decide +kernel
theorem dX0_add_36 : decode cX0_add 36 = .ok (.putfield 18, 3) := by decide +kernel
theorem dX0_add_39 : decode cX0_add 39 = .ok (.return_, 1) := by decide +kernel
theorem dX0_told_0 : decode cX0_told 0 = .ok (.iload_n 1, 1) := by decide +kernel
theorem dX0_told_1 : decode cX0_told 1 = .ok (.ifCond .lt 11, 3) := by decide +kernel
theorem dX0_told_4 : decode cX0_told 4 = .ok (.iload_n 1, 1) := by decide +kernel
theorem dX0_told_5 : decode cX0_told 5 = .ok (.aload_n 0, 1) := by decide +kernel
theorem dX0_told_6 : decode cX0_told 6 = .ok (.getfield 18, 3) := by decide +kernel
theorem dX0_told_9 : decode cX0_told 9 = .ok (.if_icmp .lt 5, 3) := by decide +kernel
theorem dX0_told_12 : decode cX0_told 12 = .ok (.iconst (-1), 1) := by decide +kernel
theorem dX0_told_13 : decode cX0_told 13 = .ok (.ireturn, 1) := by decide +kernel
theorem dX0_told_14 : decode cX0_told 14 = .ok (.iload_n 2, 1) := by decide +kernel
theorem dX0_told_15 : decode cX0_told 15 = .ok (.lookupswitch 39 #[(0, 25), (1, 32)], 25) := by decide +kernel
theorem dX0_told_40 : decode cX0_told 40 = .ok (.aload_n 0, 1) := by decide +kernel
theorem dX0_told_41 : decode cX0_told 41 = .ok (.getfield 9, 3) := by decide +kernel
theorem dX0_told_44 : decode cX0_told 44 = .ok (.iload_n 1, 1) := by decide +kernel
theorem dX0_told_45 : decode cX0_told 45 = .ok (.iaload, 1) := by decide +kernel
theorem dX0_told_46 : decode cX0_told 46 = .ok (.ireturn, 1) := by decide +kernel
theorem dX0_told_47 : decode cX0_told 47 = .ok (.aload_n 0, 1) := by decide +kernel
theorem dX0_told_48 : decode cX0_told 48 = .ok (.getfield 15, 3) := by decide +kernel
theorem dX0_told_51 : decode cX0_told 51 = .ok (.iload_n 1, 1) := by decide +kernel
theorem dX0_told_52 : decode cX0_told 52 = .ok (.iaload, 1) := by decide +kernel
theorem dX0_told_53 : decode cX0_told 53 = .ok (.ireturn, 1) := by decide +kernel
theorem dX0_told_54 : decode cX0_told 54 = .ok (.iconst (-1), 1) := by decide +kernel
theorem dX0_told_55 : decode cX0_told 55 = .ok (.ireturn, 1) := by decide +kernel
theorem dX1_init_0 : decode cX1_init 0 = .ok (.aload_n 0, 1) := by decide +kernel
theorem dX1_init_1 : decode cX1_init 1 = .ok (.invokespecial 3, 3) := by decide +kernel
theorem dX1_init_4 : decode cX1_init 4 = .ok (.aload_n 0, 1) := by decide +kernel
theorem dX1_init_5 : decode cX1_init 5 = .ok (.iconst 0, 1) := by decide +kernel
theorem dX1_init_6 : decode cX1_init 6 = .ok (.putfield 9, 3) := by decide +kernel
theorem dX1_init_9 : decode cX1_init 9 = .ok (.aload_n 0, 1) := by decide +kernel
theorem dX1_init_10 : decode cX1_init 10 = .ok (.iconst 0, 1) := by decide +kernel
theorem dX1_init_11 : decode cX1_init 11 = .ok (.putfield 15, 3) := by decide +kernel
theorem dX1_init_14 : decode cX1_init 14 = .ok (.aload_n 0, 1) := by decide +kernel
theorem dX1_init_15 : decode cX1_init 15 = .ok (.iconst 0, 1) := by decide +kernel
theorem dX1_init_16 : decode cX1_init 16 = .ok (.putfield 19, 3) := by decide +kernel
theorem dX1_init_19 : decode cX1_init 19 = .ok (.aload_n 0, 1) := by decide +kernel
theorem dX1_init_20 : decode cX1_init 20 = .ok (.iconst (-1), 1) := by decide +kernel
theorem dX1_init_21 : decode cX1_init 21 = .ok (.putfield 22, 3) := by decide +kernel
theorem dX1_init_24 : decode cX1_init 24 = .ok (.aload_n 0, 1) := by decide +kernel
theorem dX1_init_25 : decode cX1_init 25 = .ok (.iconst 0, 1) := by decide +kernel
theorem dX1_init_26 : decode cX1_init 26 = .ok (.putfield 25, 3) := by decide +kernel
theorem dX1_init_29 : decode cX1_init 29 = .ok (.aload_n 0, 1) := by decide +kernel
theorem dX1_init_30 : decode cX1_init 30 = .ok (.iconst 0, 1) := by decide +kernel
theorem dX1_init_31 : decode cX1_init 31 = .ok (.putfield 28, 3) := by decide +kernel
theorem dX1_init_34 : decode cX1_init 34 = .ok (.aload_n 0, 1) := by decide +kernel
theorem dX1_init_35 : decode cX1_init 35 = .ok (.iconst (-1), 1) := by decide +kernel
theorem dX1_init_36 : decode cX1_init 36 = .ok (.putfield 31, 3) := by decide +kernel
theorem dX1_init_39 : decode cX1_init 39 = .ok (.aload_n 0, 1) := by decide +kernel
theorem dX1_init_40 : decode cX1_init 40 = .ok (.iconst (-1), 1) := by decide +kernel
theorem dX1_init_41 : decode cX1_init 41 = .ok (.putfield 34, 3) := by decide +kernel
theorem dX1_init_44 : decode cX1_init 44 = .ok (.aload_n 0, 1) := by decide +kernel
theorem dX1_init_45 : decode cX1_init 45 = .ok (.iconst (-1), 1) := by decide +kernel
theorem dX1_init_46 : decode cX1_init 46 = .ok (.putfield 37, 3) := by decide +kernel
theorem dX1_init_49 : decode cX1_init 49 = .ok (.aload_n 0, 1) := by decide +kernel
theorem dX1_init_50 : decode cX1_init 50 = .ok (.iload_n 1, 1) := by decide +kernel
theorem dX1_init_51 : decode cX1_init 51 = .ok (.putfield 40, 3) := by decide +kernel
theorem dX1_init_54 : decode cX1_init 54 = .ok (.aload_n 0, 1) := by decide +kernel
theorem dX1_init_55 : decode cX1_init 55 = .ok (.iload_n 2, 1) := by decide +kernel
theorem dX1_init_56 : decode cX1_init 56 = .ok (.putfield 43, 3) := by decide +kernel
theorem dX1_init_59 : decode cX1_init 59 = .ok (.return_, 1) := by decide +kernel
set_option maxRecDepth 20000 in
theorem ggX1_isAlike_X9_stepsBetween : GoodIn wsX1_isAlike wsX9_stepsBetween := goodIn_r _ [8, 9, 10, 11, 12, 13, 14, 15] (by decide +kernel) (by decide +kernel)
set_option maxRecDepth 20000 in
theorem gX1_isAlike_X9_stepsBetween_n50 : GoodIn wsX1_isAlike (wsX9_stepsBetween) := ggX1_isAlike_X9_stepsBetween
theorem dX1_isAlike_0 : decode cX1_isAlike 0 = .ok (.aload_n 0, 1) := by decide +kernel
theorem dX1_isAlike_1 : decode cX1_isAlike 1 = .ok (.getfield 15, 3) := by decide +kernel
theorem dX1_isAlike_4 : decode cX1_isAlike 4 = .ok (.ifCond .eq 11, 3) := by decide +kernel
theorem dX1_isAlike_7 : decode cX1_isAlike 7 = .ok (.aload_n 0, 1) := by decide +kernel
theorem dX1_isAlike_8 : decode cX1_isAlike 8 = .ok (.getfield 15, 3) := by decide +kernel
theorem dX1_isAlike_11 : decode cX1_isAlike 11 = .ok (.iconst 1, 1) := by decide +kernel
theorem dX1_isAlike_12 : decode cX1_isAlike 12 = .ok (.if_icmp .ne 66, 3) := by decide +kernel
theorem dX1_isAlike_15 : decode cX1_isAlike 15 = .ok (.aload_n 0, 1) := by decide +kernel
theorem dX1_isAlike_16 : decode cX1_isAlike 16 = .ok (.getfield 40, 3) := by decide +kernel
theorem dX1_isAlike_19 : decode cX1_isAlike 19 = .ok (.aload_n 0, 1) := by decide +kernel
theorem dX1_isAlike_20 : decode cX1_isAlike 20 = .ok (.getfield 43, 3) := by decide +kernel
theorem dX1_isAlike_23 : decode cX1_isAlike 23 = .ok (.aload_n 1, 1) := by decide +kernel
theorem dX1_isAlike_24 : decode cX1_isAlike 24 = .ok (.getfield 46, 3) := by decide +kernel
theorem dX1_isAlike_27 : decode cX1_isAlike 27 = .ok (.aload_n 1, 1) := by decide +kernel
theorem dX1_isAlike_28 : decode cX1_isAlike 28 = .ok (.getfield 49, 3) := by decide +kernel
theorem dX1_isAlike_31 : decode cX1_isAlike 31 = .ok (.invokestatic 50, 3) := by decide +kernel
theorem dX1_isAlike_34 : decode cX1_isAlike 34 = .ok (.iconst 1, 1) := by decide +kernel
theorem dX1_isAlike_35 : decode cX1_isAlike 35 = .ok (.if_icmp .gt 43, 3) := by decide +kernel
theorem dX1_isAlike_38 : decode cX1_isAlike 38 = .ok (.iload_n 2, 1) := by decide +kernel
theorem dX1_isAlike_39 : decode cX1_isAlike 39 = .ok (.aload_n 0, 1) := by decide +kernel
theorem dX1_isAlike_40 : decode cX1_isAlike 40 = .ok (.getfield 31, 3) := by decide +kernel
theorem dX1_isAlike_43 : decode cX1_isAlike 43 = .ok (.isub, 1) := by decide +kernel
theorem dX1_isAlike_44 : decode cX1_isAlike 44 = .ok (.bipush 6, 2) := by decide +kernel
theorem dX1_isAlike_46 : decode cX1_isAlike 46 = .ok (.if_icmp .gt 32, 3) := by decide +kernel
theorem dX1_isAlike_49 : decode cX1_isAlike 49 = .ok (.aload_n 0, 1) := by decide +kernel
theorem dX1_isAlike_50 : decode cX1_isAlike 50 = .ok (.getfield 25, 3) := by decide +kernel
theorem dX1_isAlike_53 : decode cX1_isAlike 53 = .ok (.ifCond .eq 21, 3) := by decide +kernel
theorem dX1_isAlike_56 : decode cX1_isAlike 56 = .ok (.aload_n 1, 1) := by decide +kernel
theorem dX1_isAlike_57 : decode cX1_isAlike 57 = .ok (.getfield 54, 3) := by decide +kernel
theorem dX1_isAlike_60 : decode cX1_isAlike 60 = .ok (.ifCond .eq 14, 3) := by decide +kernel
theorem dX1_isAlike_63 : decode cX1_isAlike 63 = .ok (.aload_n 0, 1) := by decide +kernel
theorem dX1_isAlike_64 : decode cX1_isAlike 64 = .ok (.getfield 25, 3) := by decide +kernel
theorem dX1_isAlike_67 : decode cX1_isAlike 67 = .ok (.aload_n 1, 1) := by decide +kernel
theorem dX1_isAlike_68 : decode cX1_isAlike 68 = .ok (.getfield 54, 3) := by decide +kernel
theorem dX1_isAlike_71 : decode cX1_isAlike 71 = .ok (.if_icmp .ne 7, 3) := by decide +kernel
theorem dX1_isAlike_74 : decode cX1_isAlike 74 = .ok (.iconst 1, 1) := by decide +kernel
theorem dX1_isAlike_75 : decode cX1_isAlike 75 = .ok (.goto 4, 3) := by decide +kernel
theorem dX1_isAlike_78 : decode cX1_isAlike 78 = .ok (.iconst 0, 1) := by decide +kernel
theorem dX1_isAlike_79 : decode cX1_isAlike 79 = .ok (.ireturn, 1) := by decide +kernel
theorem dX1_melt_0 : decode cX1_melt 0 = .ok (.aload_n 1, 1) := by decide +kernel
theorem dX1_melt_1 : decode cX1_melt 1 = .ok (.getfield 55, 3) := by decide +kernel
theorem dX1_melt_4 : decode cX1_melt 4 = .ok (.ifCond .ne 31, 3) := by decide +kernel
theorem dX1_melt_7 : decode cX1_melt 7 = .ok (.aload_n 0, 1) := by decide +kernel
theorem dX1_melt_8 : decode cX1_melt 8 = .ok (.getfield 9, 3) := by decide +kernel
theorem dX1_melt_11 : decode cX1_melt 11 = .ok (.ifCond .ne 24, 3) := by decide +kernel
theorem dX1_melt_14 : decode cX1_melt 14 = .ok (.aload_n 0, 1) := by decide +kernel
theorem dX1_melt_15 : decode cX1_melt 15 = .ok (.aload_n 1, 1) := by decide +kernel
theorem dX1_melt_16 : decode cX1_melt 16 = .ok (.getfield 46, 3) := by decide +kernel
theorem dX1_melt_19 : decode cX1_melt 19 = .ok (.putfield 40, 3) := by decide +kernel
theorem dX1_melt_22 : decode cX1_melt 22 = .ok (.aload_n 0, 1) := by decide +kernel
theorem dX1_melt_23 : decode cX1_melt 23 = .ok (.aload_n 1, 1) := by decide +kernel
theorem dX1_melt_24 : decode cX1_melt 24 = .ok (.getfield 49, 3) := by decide +kernel
theorem dX1_melt_27 : decode cX1_melt 27 = .ok (.putfield 43, 3) := by decide +kernel
theorem dX1_melt_30 : decode cX1_melt 30 = .ok (.aload_n 0, 1) := by decide +kernel
theorem dX1_melt_31 : decode cX1_melt 31 = .ok (.iconst 1, 1) := by decide +kernel
theorem dX1_melt_32 : decode cX1_melt 32 = .ok (.putfield 9, 3) := by decide +kernel
theorem dX1_melt_35 : decode cX1_melt 35 = .ok (.aload_n 0, 1) := by decide +kernel
theorem dX1_melt_36 : decode cX1_melt 36 = .ok (.aload_n 0, 1) := by decide +kernel
theorem dX1_melt_37 : decode cX1_melt 37 = .ok (.getfield 19, 3) := by decide +kernel
theorem dX1_melt_40 : decode cX1_melt 40 = .ok (.aload_n 1, 1) := by decide +kernel
theorem dX1_melt_41 : decode cX1_melt 41 = .ok (.getfield 58, 3) := by decide +kernel
theorem dX1_melt_44 : decode cX1_melt 44 = .ok (.invokestatic 59, 3) := by decide +kernel
theorem dX1_melt_47 : decode cX1_melt 47 = .ok (.putfield 19, 3) := by decide +kernel
theorem dX1_melt_50 : decode cX1_melt 50 = .ok (.aload_n 1, 1) := by decide +kernel
theorem dX1_melt_51 : decode cX1_melt 51 = .ok (.getfield 65, 3) := by decide +kernel
theorem dX1_melt_54 : decode cX1_melt 54 = .ok (.iconst (-1), 1) := by decide +kernel
theorem dX1_melt_55 : decode cX1_melt 55 = .ok (.if_icmp .eq 30, 3) := by decide +kernel
theorem dX1_melt_58 : decode cX1_melt 58 = .ok (.aload_n 0, 1) := by decide +kernel
theorem dX1_melt_59 : decode cX1_melt 59 = .ok (.getfield 22, 3) := by decide +kernel
theorem dX1_melt_62 : decode cX1_melt 62 = .ok (.iconst (-1), 1) := by decide +kernel
theorem dX1_melt_63 : decode cX1_melt 63 = .ok (.if_icmp .eq 14, 3) := by decide +kernel
theorem dX1_melt_66 : decode cX1_melt 66 = .ok (.aload_n 1, 1) := by decide +kernel
theorem dX1_melt_67 : decode cX1_melt 67 = .ok (.getfield 65, 3) := by decide +kernel
theorem dX1_melt_70 : decode cX1_melt 70 = .ok (.aload_n 0, 1) := by decide +kernel
theorem dX1_melt_71 : decode cX1_melt 71 = .ok (.getfield 22, 3) := by decide +kernel
theorem dX1_melt_74 : decode cX1_melt 74 = .ok (.if_icmp .ge 11, 3) := by decide +kernel
theorem dX1_melt_77 : decode cX1_melt 77 = .ok (.aload_n 0, 1) := by decide +kernel
theorem dX1_melt_78 : decode cX1_melt 78 = .ok (.aload_n 1, 1) := by decide +kernel
theorem dX1_melt_79 : decode cX1_melt 79 = .ok (.getfield 65, 3) := by decide +kernel
theorem dX1_melt_82 : decode cX1_melt 82 = .ok (.putfield 22, 3) := by decide +kernel
theorem dX1_melt_85 : decode cX1_melt 85 = .ok (.aload_n 0, 1) := by decide +kernel
theorem dX1_melt_86 : decode cX1_melt 86 = .ok (.getfield 25, 3) := by decide +kernel
theorem dX1_melt_89 : decode cX1_melt 89 = .ok (.ifCond .ne 11, 3) := by decide +kernel
theorem dX1_melt_92 : decode cX1_melt 92 = .ok (.aload_n 0, 1) := by decide +kernel
theorem dX1_melt_93 : decode cX1_melt 93 = .ok (.aload_n 1, 1) := by decide +kernel
theorem dX1_melt_94 : decode cX1_melt 94 = .ok (.getfield 54, 3) := by decide +kernel
theorem dX1_melt_97 : decode cX1_melt 97 = .ok (.putfield 25, 3) := by decide +kernel
theorem dX1_melt_100 : decode cX1_melt 100 = .ok (.aload_n 0, 1) := by decide +kernel
theorem dX1_melt_101 : decode cX1_melt 101 = .ok (.dup, 1) := by decide +kernel
theorem dX1_melt_102 : decode cX1_melt 102 = .ok (.getfield 28, 3) := by decide +kernel
theorem dX1_melt_105 : decode cX1_melt 105 = .ok (.iconst 1, 1) := by decide +kernel
theorem dX1_melt_106 : decode cX1_melt 106 = .ok (.iadd, 1) := by decide +kernel
theorem dX1_melt_107 : decode cX1_melt 107 = .ok (.putfield 28, 3) := by decide +kernel
theorem dX1_melt_110 : decode cX1_melt 110 = .ok (.aload_n 0, 1) := by decide +kernel
theorem dX1_melt_111 : decode cX1_melt 111 = .ok (.iload_n 2, 1) := by decide +kernel
theorem dX1_melt_112 : decode cX1_melt 112 = .ok (.putfield 31, 3) := by decide +kernel
theorem dX1_melt_115 : decode cX1_melt 115 = .ok (.return_, 1) := by decide +kernel
theorem dX1_told_0 : decode cX1_told 0 = .ok (.iload_n 1, 1) := by decide +kernel
theorem dX1_told_1 : decode cX1_told 1 = .ok (.tableswitch 105 0 9 #[55, 60, 65, 70, 75, 80, 85, 90, 95, 100], 55) := by decide +kernel
theorem dX1_told_56 : decode cX1_told 56 = .ok (.aload_n 0, 1) := by decide +kernel
theorem dX1_told_57 : decode cX1_told 57 = .ok (.getfield 15, 3) := by decide +kernel
theorem dX1_told_60 : decode cX1_told 60 = .ok (.ireturn, 1) := by decide +kernel
theorem dX1_told_61 : decode cX1_told 61 = .ok (.aload_n 0, 1) := by decide +kernel
theorem dX1_told_62 : decode cX1_told 62 = .ok (.getfield 40, 3) := by decide +kernel
theorem dX1_told_65 : decode cX1_told 65 = .ok (.ireturn, 1) := by decide +kernel
theorem dX1_told_66 : decode cX1_told 66 = .ok (.aload_n 0, 1) := by decide +kernel
theorem dX1_told_67 : decode cX1_told 67 = .ok (.getfield 43, 3) := by decide +kernel
theorem dX1_told_70 : decode cX1_told 70 = .ok (.ireturn, 1) := by decide +kernel
theorem dX1_told_71 : decode cX1_told 71 = .ok (.aload_n 0, 1) := by decide +kernel
theorem dX1_told_72 : decode cX1_told 72 = .ok (.getfield 19, 3) := by decide +kernel
theorem dX1_told_75 : decode cX1_told 75 = .ok (.ireturn, 1) := by decide +kernel
theorem dX1_told_76 : decode cX1_told 76 = .ok (.aload_n 0, 1) := by decide +kernel
theorem dX1_told_77 : decode cX1_told 77 = .ok (.getfield 22, 3) := by decide +kernel
theorem dX1_told_80 : decode cX1_told 80 = .ok (.ireturn, 1) := by decide +kernel
theorem dX1_told_81 : decode cX1_told 81 = .ok (.aload_n 0, 1) := by decide +kernel
theorem dX1_told_82 : decode cX1_told 82 = .ok (.getfield 25, 3) := by decide +kernel
theorem dX1_told_85 : decode cX1_told 85 = .ok (.ireturn, 1) := by decide +kernel
theorem dX1_told_86 : decode cX1_told 86 = .ok (.aload_n 0, 1) := by decide +kernel
theorem dX1_told_87 : decode cX1_told 87 = .ok (.getfield 28, 3) := by decide +kernel
theorem dX1_told_90 : decode cX1_told 90 = .ok (.ireturn, 1) := by decide +kernel
theorem dX1_told_91 : decode cX1_told 91 = .ok (.aload_n 0, 1) := by decide +kernel
theorem dX1_told_92 : decode cX1_told 92 = .ok (.getfield 31, 3) := by decide +kernel
theorem dX1_told_95 : decode cX1_told 95 = .ok (.ireturn, 1) := by decide +kernel
theorem dX1_told_96 : decode cX1_told 96 = .ok (.aload_n 0, 1) := by decide +kernel
theorem dX1_told_97 : decode cX1_told 97 = .ok (.getfield 34, 3) := by decide +kernel
theorem dX1_told_100 : decode cX1_told 100 = .ok (.ireturn, 1) := by decide +kernel
theorem dX1_told_101 : decode cX1_told 101 = .ok (.aload_n 0, 1) := by decide +kernel
theorem dX1_told_102 : decode cX1_told 102 = .ok (.getfield 37, 3) := by decide +kernel
theorem dX1_told_105 : decode cX1_told 105 = .ok (.ireturn, 1) := by decide +kernel
theorem dX1_told_106 : decode cX1_told 106 = .ok (.new 66, 3) := by decide +kernel
theorem dX1_told_109 : decode cX1_told 109 = .ok (.dup, 1) := by decide +kernel
theorem dX1_told_110 : decode cX1_told 110 = .ok (.ldc 68, 2) := by decide +kernel
theorem dX1_told_112 : decode cX1_told 112 = .ok (.invokespecial 70, 3) := by decide +kernel
theorem dX1_told_115 : decode cX1_told 115 = .ok (.athrow, 1) := by decide +kernel
theorem dX2_init_0 : decode cX2_init 0 = .ok (.aload_n 0, 1) := by decide +kernel
theorem dX2_init_1 : decode cX2_init 1 = .ok (.invokespecial 3, 3) := by decide +kernel
theorem dX2_init_4 : decode cX2_init 4 = .ok (.return_, 1) := by decide +kernel
set_option maxRecDepth 20000 in
theorem ggX2_readFrom_X2_forget : GoodIn wsX2_readFrom wsX2_forget := goodIn_r _ [6, 1, 7, 8, 9, 10, 11, 128, 129, 130, 131, 132, 133] (by decide +kernel) (by decide +kernel)
set_option maxRecDepth 20000 in
theorem gX2_readFrom_X2_forget : GoodIn wsX2_readFrom (wsV RX2 9 RX2 yX2_forget wsX2_forget) := goodIn_app (goodIn_of _ (by decide +kernel)) ggX2_readFrom_X2_forget
set_option maxRecDepth 20000 in
theorem ggX2_readFrom_X7_rewind : GoodIn wsX2_readFrom wsX7_rewind := goodIn_r _ [16, 17, 134, 135, 136, 137, 138] (by decide +kernel) (by decide +kernel)
set_option maxRecDepth 20000 in
theorem gX2_readFrom_X7_rewind : GoodIn wsX2_readFrom (wsV RX2 14 RX7 yX7_rewind wsX7_rewind) := goodIn_app (goodIn_of _ (by decide +kernel)) ggX2_readFrom_X7_rewind
set_option maxRecDepth 20000 in
theorem ggX2_readFrom_X7_advance : GoodIn wsX2_readFrom wsX7_advance := goodIn_r _ [21, 17, 22, 23, 24, 25, 26, 27, 15, 28, 29, 30, 31, 134, 135, 136, 137, 138] (by decide +kernel) (by decide +kernel)
set_option maxRecDepth 20000 in
theorem gX2_readFrom_X7_advance : GoodIn wsX2_readFrom (wsV RX2 19 RX7 yX7_advance wsX7_advance) := goodIn_app (goodIn_of _ (by decide +kernel)) ggX2_readFrom_X7_advance
set_option maxRecDepth 20000 in
theorem ggX2_readFrom_X2_readFact : GoodIn wsX2_readFrom wsX2_readFact := goodIn_r _ [35, 1, 8, 9, 10, 11, 36, 37, 38, 15, 39, 25, 17, 24, 23, 40, 41, 42, 43, 44, 45, 46, 47, 48, 49, 50, 51, 52, 53, 54, 55, 56, 57, 58, 59, 60, 61, 62, 63, 64, 65, 66, 67, 68, 69, 70, 71, 72, 73, 74, 75, 76, 77, 78, 79, 80, 81, 82, 83, 84, 85, 86, 87, 88, 89, 90, 91, 5, 92, 7, 93, 94, 95, 18, 19, 20, 21, 22, 26, 27, 28, 29, 30, 31, 96, 97, 98, 99, 100, 101, 102, 103, 104, 105, 106, 107, 108, 109, 110, 111, 112, 113, 114, 115, 116, 117, 118, 119, 128, 129, 130, 131, 132, 133, 134, 135, 136, 137, 138] (by decide +kernel) (by decide +kernel)
set_option maxRecDepth 20000 in
theorem gX2_readFrom_X2_readFact : GoodIn wsX2_readFrom (wsV RX2 22 RX2 yX2_readFact wsX2_readFact) := goodIn_app (goodIn_of _ (by decide +kernel)) ggX2_readFrom_X2_readFact
set_option maxRecDepth 20000 in
theorem ggX2_readFrom_X7_isSign : GoodIn wsX2_readFrom wsX7_isSign := goodIn_r _ [123, 25, 23, 24, 134, 135, 136, 137, 138] (by decide +kernel) (by decide +kernel)
set_option maxRecDepth 20000 in
theorem gX2_readFrom_X7_isSign : GoodIn wsX2_readFrom (wsV RX2 26 RX7 yX7_isSign wsX7_isSign) := goodIn_app (goodIn_of _ (by decide +kernel)) ggX2_readFrom_X7_isSign
set_option maxRecDepth 20000 in
theorem ggX2_readFrom_X7_isAtEnd : GoodIn wsX2_readFrom wsX7_isAtEnd := goodIn_r _ [127, 25, 134, 135, 136, 137, 138] (by decide +kernel) (by decide +kernel)
set_option maxRecDepth 20000 in
theorem gX2_readFrom_X7_isAtEnd : GoodIn wsX2_readFrom (wsV RX2 30 RX7 yX7_isAtEnd wsX7_isAtEnd) := goodIn_app (goodIn_of _ (by decide +kernel)) ggX2_readFrom_X7_isAtEnd
theorem dX2_readFrom_0 : decode cX2_readFrom 0 = .ok (.aload_n 0, 1) := by decide +kernel
theorem dX2_readFrom_1 : decode cX2_readFrom 1 = .ok (.invokevirtual 9, 3) := by decide +kernel
theorem dX2_readFrom_4 : decode cX2_readFrom 4 = .ok (.aload_n 1, 1) := by decide +kernel
theorem dX2_readFrom_5 : decode cX2_readFrom 5 = .ok (.invokevirtual 14, 3) := by decide +kernel
theorem dX2_readFrom_8 : decode cX2_readFrom 8 = .ok (.iconst 0, 1) := by decide +kernel
theorem dX2_readFrom_9 : decode cX2_readFrom 9 = .ok (.istore_n 3, 1) := by decide +kernel
theorem dX2_readFrom_10 : decode cX2_readFrom 10 = .ok (.iload_n 3, 1) := by decide +kernel
theorem dX2_readFrom_11 : decode cX2_readFrom 11 = .ok (.iconst 5, 1) := by decide +kernel
theorem dX2_readFrom_12 : decode cX2_readFrom 12 = .ok (.if_icmp .ge 58, 3) := by decide +kernel
theorem dX2_readFrom_15 : decode cX2_readFrom 15 = .ok (.aload_n 1, 1) := by decide +kernel
theorem dX2_readFrom_16 : decode cX2_readFrom 16 = .ok (.invokevirtual 19, 3) := by decide +kernel
theorem dX2_readFrom_19 : decode cX2_readFrom 19 = .ok (.aload_n 0, 1) := by decide +kernel
theorem dX2_readFrom_20 : decode cX2_readFrom 20 = .ok (.aload_n 1, 1) := by decide +kernel
theorem dX2_readFrom_21 : decode cX2_readFrom 21 = .ok (.iload_n 2, 1) := by decide +kernel
theorem dX2_readFrom_22 : decode cX2_readFrom 22 = .ok (.invokevirtual 22, 3) := by decide +kernel
theorem dX2_readFrom_25 : decode cX2_readFrom 25 = .ok (.ifCond .ne 5, 3) := by decide +kernel
theorem dX2_readFrom_28 : decode cX2_readFrom 28 = .ok (.iconst 0, 1) := by decide +kernel
theorem dX2_readFrom_29 : decode cX2_readFrom 29 = .ok (.ireturn, 1) := by decide +kernel
theorem dX2_readFrom_30 : decode cX2_readFrom 30 = .ok (.aload_n 1, 1) := by decide +kernel
theorem dX2_readFrom_31 : decode cX2_readFrom 31 = .ok (.invokevirtual 19, 3) := by decide +kernel
theorem dX2_readFrom_34 : decode cX2_readFrom 34 = .ok (.aload_n 1, 1) := by decide +kernel
theorem dX2_readFrom_35 : decode cX2_readFrom 35 = .ok (.bipush 44, 2) := by decide +kernel
theorem dX2_readFrom_37 : decode cX2_readFrom 37 = .ok (.invokevirtual 26, 3) := by decide +kernel
theorem dX2_readFrom_40 : decode cX2_readFrom 40 = .ok (.ifCond .ne 24, 3) := by decide +kernel
theorem dX2_readFrom_43 : decode cX2_readFrom 43 = .ok (.aload_n 1, 1) := by decide +kernel
theorem dX2_readFrom_44 : decode cX2_readFrom 44 = .ok (.invokevirtual 30, 3) := by decide +kernel
theorem dX2_readFrom_47 : decode cX2_readFrom 47 = .ok (.ifCond .eq 15, 3) := by decide +kernel
theorem dX2_readFrom_50 : decode cX2_readFrom 50 = .ok (.aload_n 0, 1) := by decide +kernel
theorem dX2_readFrom_51 : decode cX2_readFrom 51 = .ok (.getfield 34, 3) := by decide +kernel
theorem dX2_readFrom_54 : decode cX2_readFrom 54 = .ok (.iconst (-1), 1) := by decide +kernel
theorem dX2_readFrom_55 : decode cX2_readFrom 55 = .ok (.if_icmp .eq 7, 3) := by decide +kernel
theorem dX2_readFrom_58 : decode cX2_readFrom 58 = .ok (.iconst 1, 1) := by decide +kernel
theorem dX2_readFrom_59 : decode cX2_readFrom 59 = .ok (.goto 4, 3) := by decide +kernel
theorem dX2_readFrom_62 : decode cX2_readFrom 62 = .ok (.iconst 0, 1) := by decide +kernel
theorem dX2_readFrom_63 : decode cX2_readFrom 63 = .ok (.ireturn, 1) := by decide +kernel
theorem dX2_readFrom_64 : decode cX2_readFrom 64 = .ok (.iinc 3 1, 3) := by decide +kernel
theorem dX2_readFrom_67 : decode cX2_readFrom 67 = .ok (.goto (-57), 3) := by decide +kernel
theorem dX2_readFrom_70 : decode cX2_readFrom 70 = .ok (.aload_n 1, 1) := by decide +kernel
theorem dX2_readFrom_71 : decode cX2_readFrom 71 = .ok (.invokevirtual 19, 3) := by decide +kernel
theorem dX2_readFrom_74 : decode cX2_readFrom 74 = .ok (.iconst 0, 1) := by decide +kernel
theorem dX2_readFrom_75 : decode cX2_readFrom 75 = .ok (.ireturn, 1) := by decide +kernel
theorem dX2_forget_0 : decode cX2_forget 0 = .ok (.aload_n 0, 1) := by decide +kernel
theorem dX2_forget_1 : decode cX2_forget 1 = .ok (.iconst (-1), 1) := by decide +kernel
theorem dX2_forget_2 : decode cX2_forget 2 = .ok (.putfield 34, 3) := by decide +kernel
theorem dX2_forget_5 : decode cX2_forget 5 = .ok (.aload_n 0, 1) := by decide +kernel
theorem dX2_forget_6 : decode cX2_forget 6 = .ok (.iconst (-1), 1) := by decide +kernel
theorem dX2_forget_7 : decode cX2_forget 7 = .ok (.putfield 38, 3) := by decide +kernel
theorem dX2_forget_10 : decode cX2_forget 10 = .ok (.aload_n 0, 1) := by decide +kernel
theorem dX2_forget_11 : decode cX2_forget 11 = .ok (.iconst 0, 1) := by decide +kernel
theorem dX2_forget_12 : decode cX2_forget 12 = .ok (.putfield 41, 3) := by decide +kernel
theorem dX2_forget_15 : decode cX2_forget 15 = .ok (.aload_n 0, 1) := by decide +kernel
theorem dX2_forget_16 : decode cX2_forget 16 = .ok (.iconst (-1), 1) := by decide +kernel
theorem dX2_forget_17 : decode cX2_forget 17 = .ok (.putfield 44, 3) := by decide +kernel
theorem dX2_forget_20 : decode cX2_forget 20 = .ok (.aload_n 0, 1) := by decide +kernel
theorem dX2_forget_21 : decode cX2_forget 21 = .ok (.iconst 0, 1) := by decide +kernel
theorem dX2_forget_22 : decode cX2_forget 22 = .ok (.putfield 47, 3) := by decide +kernel
theorem dX2_forget_25 : decode cX2_forget 25 = .ok (.aload_n 0, 1) := by decide +kernel
theorem dX2_forget_26 : decode cX2_forget 26 = .ok (.iconst 0, 1) := by decide +kernel
theorem dX2_forget_27 : decode cX2_forget 27 = .ok (.putfield 50, 3) := by decide +kernel
theorem dX2_forget_30 : decode cX2_forget 30 = .ok (.return_, 1) := by decide +kernel
set_option maxRecDepth 20000 in
theorem ggX2_readFact_X7_isWord : GoodIn wsX2_readFact wsX7_isWord := goodIn_r _ [10, 11, 12, 13, 14, 15, 16, 17, 18, 19, 20, 21, 22, 23, 24, 25, 26, 27, 28, 29, 30, 31, 32, 33, 34, 35, 36, 37, 38, 39, 40, 41, 42, 43, 44, 45, 46, 47, 48, 49, 50, 51, 52, 53, 54, 55, 56, 57, 58, 59, 60, 61, 62, 63, 114, 115, 116, 117, 118] (by decide +kernel) (by decide +kernel)
set_option maxRecDepth 20000 in
theorem gX2_readFact_X7_isWord : GoodIn wsX2_readFact (wsV RX2 56 RX7 yX7_isWord wsX7_isWord) := goodIn_app (goodIn_of _ (by decide +kernel)) ggX2_readFact_X7_isWord
set_option maxRecDepth 20000 in
theorem ggX2_readFact_X2_readPlace : GoodIn wsX2_readFact wsX2_readPlace := goodIn_r _ [68, 1, 69, 70, 71, 67, 72, 73, 74, 75, 9, 76, 12, 77, 14, 13, 11, 78, 79, 80, 81, 82, 83, 84, 85, 86, 87, 88, 89, 90, 91, 92, 93, 94, 95, 108, 109, 110, 111, 112, 113, 114, 115, 116, 117, 118] (by decide +kernel) (by decide +kernel)
set_option maxRecDepth 20000 in
theorem gX2_readFact_X2_readPlace : GoodIn wsX2_readFact (wsV RX2 60 RX2 yX2_readPlace wsX2_readPlace) := goodIn_app (goodIn_of _ (by decide +kernel)) ggX2_readFact_X2_readPlace
set_option maxRecDepth 20000 in
theorem ggX2_readFact_X2_readHigh : GoodIn wsX2_readFact wsX2_readHigh := goodIn_r _ [99, 2, 70, 71, 67, 72, 73, 74, 75, 9, 76, 12, 77, 14, 13, 11, 78, 79, 80, 81, 82, 83, 84, 85, 86, 87, 88, 89, 90, 91, 92, 93, 94, 95, 108, 109, 110, 111, 112, 113, 114, 115, 116, 117, 118] (by decide +kernel) (by decide +kernel)
set_option maxRecDepth 20000 in
theorem gX2_readFact_X2_readHigh : GoodIn wsX2_readFact (wsV RX2 65 RX2 yX2_readHigh wsX2_readHigh) := goodIn_app (goodIn_of _ (by decide +kernel)) ggX2_readFact_X2_readHigh
set_option maxRecDepth 20000 in
theorem ggX2_readFact_X2_readSince : GoodIn wsX2_readFact wsX2_readSince := goodIn_r _ [103, 3, 70, 71, 67, 72, 73, 74, 75, 9, 76, 12, 77, 14, 13, 11, 78, 79, 80, 81, 82, 83, 84, 85, 86, 87, 88, 89, 90, 91, 92, 93, 94, 95, 108, 109, 110, 111, 112, 113, 114, 115, 116, 117, 118] (by decide +kernel) (by decide +kernel)
set_option maxRecDepth 20000 in
theorem gX2_readFact_X2_readSince : GoodIn wsX2_readFact (wsV RX2 69 RX2 yX2_readSince wsX2_readSince) := goodIn_app (goodIn_of _ (by decide +kernel)) ggX2_readFact_X2_readSince
set_option maxRecDepth 20000 in
theorem ggX2_readFact_X2_readMark : GoodIn wsX2_readFact wsX2_readMark := goodIn_r _ [107, 4, 70, 71, 67, 72, 73, 74, 75, 9, 76, 12, 77, 14, 13, 11, 78, 79, 80, 81, 82, 83, 84, 85, 86, 87, 88, 89, 90, 91, 92, 93, 94, 95, 108, 109, 110, 111, 112, 113, 114, 115, 116, 117, 118] (by decide +kernel) (by decide +kernel)
set_option maxRecDepth 20000 in
theorem gX2_readFact_X2_readMark : GoodIn wsX2_readFact (wsV RX2 73 RX2 yX2_readMark wsX2_readMark) := goodIn_app (goodIn_of _ (by decide +kernel)) ggX2_readFact_X2_readMark
theorem dX2_readFact_0 : decode cX2_readFact 0 = .ok (.aload_n 1, 1) := by decide +kernel
theorem dX2_readFact_1 : decode cX2_readFact 1 = .ok (.ldc 54, 2) := by decide +kernel
theorem dX2_readFact_3 : decode cX2_readFact 3 = .ok (.invokevirtual 56, 3) := by decide +kernel
theorem dX2_readFact_6 : decode cX2_readFact 6 = .ok (.ifCond .eq 25, 3) := by decide +kernel
theorem dX2_readFact_9 : decode cX2_readFact 9 = .ok (.aload_n 0, 1) := by decide +kernel
theorem dX2_readFact_10 : decode cX2_readFact 10 = .ok (.getfield 34, 3) := by decide +kernel
theorem dX2_readFact_13 : decode cX2_readFact 13 = .ok (.iconst (-1), 1) := by decide +kernel
theorem dX2_readFact_14 : decode cX2_readFact 14 = .ok (.if_icmp .ne 15, 3) := by decide +kernel
theorem dX2_readFact_17 : decode cX2_readFact 17 = .ok (.aload_n 0, 1) := by decide +kernel
theorem dX2_readFact_18 : decode cX2_readFact 18 = .ok (.aload_n 1, 1) := by decide +kernel
theorem dX2_readFact_19 : decode cX2_readFact 19 = .ok (.invokevirtual 60, 3) := by decide +kernel
theorem dX2_readFact_22 : decode cX2_readFact 22 = .ok (.ifCond .eq 7, 3) := by decide +kernel
theorem dX2_readFact_25 : decode cX2_readFact 25 = .ok (.iconst 1, 1) := by decide +kernel
theorem dX2_readFact_26 : decode cX2_readFact 26 = .ok (.goto 4, 3) := by decide +kernel
theorem dX2_readFact_29 : decode cX2_readFact 29 = .ok (.iconst 0, 1) := by decide +kernel
theorem dX2_readFact_30 : decode cX2_readFact 30 = .ok (.ireturn, 1) := by decide +kernel
theorem dX2_readFact_31 : decode cX2_readFact 31 = .ok (.aload_n 1, 1) := by decide +kernel
theorem dX2_readFact_32 : decode cX2_readFact 32 = .ok (.ldc 64, 2) := by decide +kernel
theorem dX2_readFact_34 : decode cX2_readFact 34 = .ok (.invokevirtual 56, 3) := by decide +kernel
theorem dX2_readFact_37 : decode cX2_readFact 37 = .ok (.ifCond .eq 24, 3) := by decide +kernel
theorem dX2_readFact_40 : decode cX2_readFact 40 = .ok (.aload_n 0, 1) := by decide +kernel
theorem dX2_readFact_41 : decode cX2_readFact 41 = .ok (.getfield 41, 3) := by decide +kernel
theorem dX2_readFact_44 : decode cX2_readFact 44 = .ok (.ifCond .ne 15, 3) := by decide +kernel
theorem dX2_readFact_47 : decode cX2_readFact 47 = .ok (.aload_n 0, 1) := by decide +kernel
theorem dX2_readFact_48 : decode cX2_readFact 48 = .ok (.aload_n 1, 1) := by decide +kernel
theorem dX2_readFact_49 : decode cX2_readFact 49 = .ok (.invokevirtual 65, 3) := by decide +kernel
theorem dX2_readFact_52 : decode cX2_readFact 52 = .ok (.ifCond .eq 7, 3) := by decide +kernel
theorem dX2_readFact_55 : decode cX2_readFact 55 = .ok (.iconst 1, 1) := by decide +kernel
theorem dX2_readFact_56 : decode cX2_readFact 56 = .ok (.goto 4, 3) := by decide +kernel
theorem dX2_readFact_59 : decode cX2_readFact 59 = .ok (.iconst 0, 1) := by decide +kernel
theorem dX2_readFact_60 : decode cX2_readFact 60 = .ok (.ireturn, 1) := by decide +kernel
theorem dX2_readFact_61 : decode cX2_readFact 61 = .ok (.aload_n 1, 1) := by decide +kernel
theorem dX2_readFact_62 : decode cX2_readFact 62 = .ok (.ldc 68, 2) := by decide +kernel
theorem dX2_readFact_64 : decode cX2_readFact 64 = .ok (.invokevirtual 56, 3) := by decide +kernel
theorem dX2_readFact_67 : decode cX2_readFact 67 = .ok (.ifCond .eq 26, 3) := by decide +kernel
theorem dX2_readFact_70 : decode cX2_readFact 70 = .ok (.aload_n 0, 1) := by decide +kernel
theorem dX2_readFact_71 : decode cX2_readFact 71 = .ok (.getfield 44, 3) := by decide +kernel
theorem dX2_readFact_74 : decode cX2_readFact 74 = .ok (.iconst (-1), 1) := by decide +kernel
theorem dX2_readFact_75 : decode cX2_readFact 75 = .ok (.if_icmp .ne 16, 3) := by decide +kernel
theorem dX2_readFact_78 : decode cX2_readFact 78 = .ok (.aload_n 0, 1) := by decide +kernel
theorem dX2_readFact_79 : decode cX2_readFact 79 = .ok (.aload_n 1, 1) := by decide +kernel
theorem dX2_readFact_80 : decode cX2_readFact 80 = .ok (.iload_n 2, 1) := by decide +kernel
theorem dX2_readFact_81 : decode cX2_readFact 81 = .ok (.invokevirtual 69, 3) := by decide +kernel
theorem dX2_readFact_84 : decode cX2_readFact 84 = .ok (.ifCond .eq 7, 3) := by decide +kernel
theorem dX2_readFact_87 : decode cX2_readFact 87 = .ok (.iconst 1, 1) := by decide +kernel
theorem dX2_readFact_88 : decode cX2_readFact 88 = .ok (.goto 4, 3) := by decide +kernel
theorem dX2_readFact_91 : decode cX2_readFact 91 = .ok (.iconst 0, 1) := by decide +kernel
theorem dX2_readFact_92 : decode cX2_readFact 92 = .ok (.ireturn, 1) := by decide +kernel
theorem dX2_readFact_93 : decode cX2_readFact 93 = .ok (.aload_n 1, 1) := by decide +kernel
theorem dX2_readFact_94 : decode cX2_readFact 94 = .ok (.ldc 72, 2) := by decide +kernel
theorem dX2_readFact_96 : decode cX2_readFact 96 = .ok (.invokevirtual 56, 3) := by decide +kernel
theorem dX2_readFact_99 : decode cX2_readFact 99 = .ok (.ifCond .eq 24, 3) := by decide +kernel
theorem dX2_readFact_102 : decode cX2_readFact 102 = .ok (.aload_n 0, 1) := by decide +kernel
theorem dX2_readFact_103 : decode cX2_readFact 103 = .ok (.getfield 47, 3) := by decide +kernel
theorem dX2_readFact_106 : decode cX2_readFact 106 = .ok (.ifCond .ne 15, 3) := by decide +kernel
theorem dX2_readFact_109 : decode cX2_readFact 109 = .ok (.aload_n 0, 1) := by decide +kernel
theorem dX2_readFact_110 : decode cX2_readFact 110 = .ok (.aload_n 1, 1) := by decide +kernel
theorem dX2_readFact_111 : decode cX2_readFact 111 = .ok (.invokevirtual 73, 3) := by decide +kernel
theorem dX2_readFact_114 : decode cX2_readFact 114 = .ok (.ifCond .eq 7, 3) := by decide +kernel
theorem dX2_readFact_117 : decode cX2_readFact 117 = .ok (.iconst 1, 1) := by decide +kernel
theorem dX2_readFact_118 : decode cX2_readFact 118 = .ok (.goto 4, 3) := by decide +kernel
theorem dX2_readFact_121 : decode cX2_readFact 121 = .ok (.iconst 0, 1) := by decide +kernel
theorem dX2_readFact_122 : decode cX2_readFact 122 = .ok (.ireturn, 1) := by decide +kernel
theorem dX2_readFact_123 : decode cX2_readFact 123 = .ok (.aload_n 1, 1) := by decide +kernel
theorem dX2_readFact_124 : decode cX2_readFact 124 = .ok (.ldc 76, 2) := by decide +kernel
theorem dX2_readFact_126 : decode cX2_readFact 126 = .ok (.invokevirtual 56, 3) := by decide +kernel
theorem dX2_readFact_129 : decode cX2_readFact 129 = .ok (.ifCond .eq 14, 3) := by decide +kernel
theorem dX2_readFact_132 : decode cX2_readFact 132 = .ok (.aload_n 0, 1) := by decide +kernel
theorem dX2_readFact_133 : decode cX2_readFact 133 = .ok (.getfield 50, 3) := by decide +kernel
theorem dX2_readFact_136 : decode cX2_readFact 136 = .ok (.ifCond .ne 7, 3) := by decide +kernel
theorem dX2_readFact_139 : decode cX2_readFact 139 = .ok (.iconst 1, 1) := by decide +kernel
theorem dX2_readFact_140 : decode cX2_readFact 140 = .ok (.goto 4, 3) := by decide +kernel
theorem dX2_readFact_143 : decode cX2_readFact 143 = .ok (.iconst 0, 1) := by decide +kernel
theorem dX2_readFact_144 : decode cX2_readFact 144 = .ok (.istore_n 3, 1) := by decide +kernel
theorem dX2_readFact_145 : decode cX2_readFact 145 = .ok (.aload_n 0, 1) := by decide +kernel
theorem dX2_readFact_146 : decode cX2_readFact 146 = .ok (.aload_n 0, 1) := by decide +kernel
theorem dX2_readFact_147 : decode cX2_readFact 147 = .ok (.getfield 50, 3) := by decide +kernel
theorem dX2_readFact_150 : decode cX2_readFact 150 = .ok (.ifCond .ne 7, 3) := by decide +kernel
theorem dX2_readFact_153 : decode cX2_readFact 153 = .ok (.iload_n 3, 1) := by decide +kernel
theorem dX2_readFact_154 : decode cX2_readFact 154 = .ok (.ifCond .eq 7, 3) := by decide +kernel
theorem dX2_readFact_157 : decode cX2_readFact 157 = .ok (.iconst 1, 1) := by decide +kernel
theorem dX2_readFact_158 : decode cX2_readFact 158 = .ok (.goto 4, 3) := by decide +kernel
theorem dX2_readFact_161 : decode cX2_readFact 161 = .ok (.iconst 0, 1) := by decide +kernel
theorem dX2_readFact_162 : decode cX2_readFact 162 = .ok (.putfield 50, 3) := by decide +kernel
theorem dX2_readFact_165 : decode cX2_readFact 165 = .ok (.iload_n 3, 1) := by decide +kernel
theorem dX2_readFact_166 : decode cX2_readFact 166 = .ok (.ireturn, 1) := by decide +kernel
set_option maxRecDepth 20000 in
theorem ggX2_readPlace_X2_readNumber : GoodIn wsX2_readPlace wsX2_readNumber := goodIn_r _ [6, 7, 8, 9, 10, 11, 12, 13, 14, 15, 16, 17, 18, 19, 20, 21, 22, 23, 24, 25, 26, 27, 28, 29, 30, 31, 32, 33, 34, 41, 42, 43, 44, 45] (by decide +kernel) (by decide +kernel)
set_option maxRecDepth 20000 in
theorem gX2_readPlace_X2_readNumber : GoodIn wsX2_readPlace (va_wsS RX2 77 yX2_readNumber wsX2_readNumber) := goodIn_app (goodIn_of _ (by decide +kernel)) ggX2_readPlace_X2_readNumber
theorem dX2_readPlace_0 : decode cX2_readPlace 0 = .ok (.aload_n 0, 1) := by decide +kernel
theorem dX2_readPlace_1 : decode cX2_readPlace 1 = .ok (.aload_n 1, 1) := by decide +kernel
theorem dX2_readPlace_2 : decode cX2_readPlace 2 = .ok (.iconst 0, 1) := by decide +kernel
theorem dX2_readPlace_3 : decode cX2_readPlace 3 = .ok (.bipush 19, 2) := by decide +kernel
theorem dX2_readPlace_5 : decode cX2_readPlace 5 = .ok (.invokestatic 77, 3) := by decide +kernel
theorem dX2_readPlace_8 : decode cX2_readPlace 8 = .ok (.putfield 34, 3) := by decide +kernel
theorem dX2_readPlace_11 : decode cX2_readPlace 11 = .ok (.aload_n 0, 1) := by decide +kernel
theorem dX2_readPlace_12 : decode cX2_readPlace 12 = .ok (.getfield 34, 3) := by decide +kernel
theorem dX2_readPlace_15 : decode cX2_readPlace 15 = .ok (.iconst (-1), 1) := by decide +kernel
theorem dX2_readPlace_16 : decode cX2_readPlace 16 = .ok (.if_icmp .ne 5, 3) := by decide +kernel
theorem dX2_readPlace_19 : decode cX2_readPlace 19 = .ok (.iconst 0, 1) := by decide +kernel
theorem dX2_readPlace_20 : decode cX2_readPlace 20 = .ok (.ireturn, 1) := by decide +kernel
theorem dX2_readPlace_21 : decode cX2_readPlace 21 = .ok (.aload_n 0, 1) := by decide +kernel
theorem dX2_readPlace_22 : decode cX2_readPlace 22 = .ok (.aload_n 1, 1) := by decide +kernel
theorem dX2_readPlace_23 : decode cX2_readPlace 23 = .ok (.iconst 0, 1) := by decide +kernel
theorem dX2_readPlace_24 : decode cX2_readPlace 24 = .ok (.bipush 19, 2) := by decide +kernel
theorem dX2_readPlace_26 : decode cX2_readPlace 26 = .ok (.invokestatic 77, 3) := by decide +kernel
theorem dX2_readPlace_29 : decode cX2_readPlace 29 = .ok (.putfield 38, 3) := by decide +kernel
theorem dX2_readPlace_32 : decode cX2_readPlace 32 = .ok (.aload_n 0, 1) := by decide +kernel
theorem dX2_readPlace_33 : decode cX2_readPlace 33 = .ok (.getfield 38, 3) := by decide +kernel
theorem dX2_readPlace_36 : decode cX2_readPlace 36 = .ok (.iconst (-1), 1) := by decide +kernel
theorem dX2_readPlace_37 : decode cX2_readPlace 37 = .ok (.if_icmp .eq 7, 3) := by decide +kernel
theorem dX2_readPlace_40 : decode cX2_readPlace 40 = .ok (.iconst 1, 1) := by decide +kernel
theorem dX2_readPlace_41 : decode cX2_readPlace 41 = .ok (.goto 4, 3) := by decide +kernel
theorem dX2_readPlace_44 : decode cX2_readPlace 44 = .ok (.iconst 0, 1) := by decide +kernel
theorem dX2_readPlace_45 : decode cX2_readPlace 45 = .ok (.ireturn, 1) := by decide +kernel
set_option maxRecDepth 20000 in
theorem ggX2_readHigh_X2_readNumber : GoodIn wsX2_readHigh wsX2_readNumber := goodIn_r _ [5, 6, 7, 8, 9, 10, 11, 12, 13, 14, 15, 16, 17, 18, 19, 20, 21, 22, 23, 24, 25, 26, 27, 28, 29, 30, 31, 32, 33, 40, 41, 42, 43, 44] (by decide +kernel) (by decide +kernel)
set_option maxRecDepth 20000 in
theorem gX2_readHigh_X2_readNumber : GoodIn wsX2_readHigh (va_wsS RX2 77 yX2_readNumber wsX2_readNumber) := goodIn_app (goodIn_of _ (by decide +kernel)) ggX2_readHigh_X2_readNumber
theorem dX2_readHigh_0 : decode cX2_readHigh 0 = .ok (.aload_n 0, 1) := by decide +kernel
theorem dX2_readHigh_1 : decode cX2_readHigh 1 = .ok (.aload_n 1, 1) := by decide +kernel
theorem dX2_readHigh_2 : decode cX2_readHigh 2 = .ok (.iconst 1, 1) := by decide +kernel
theorem dX2_readHigh_3 : decode cX2_readHigh 3 = .ok (.bipush 9, 2) := by decide +kernel
theorem dX2_readHigh_5 : decode cX2_readHigh 5 = .ok (.invokestatic 77, 3) := by decide +kernel
theorem dX2_readHigh_8 : decode cX2_readHigh 8 = .ok (.putfield 41, 3) := by decide +kernel
theorem dX2_readHigh_11 : decode cX2_readHigh 11 = .ok (.aload_n 0, 1) := by decide +kernel
theorem dX2_readHigh_12 : decode cX2_readHigh 12 = .ok (.getfield 41, 3) := by decide +kernel
theorem dX2_readHigh_15 : decode cX2_readHigh 15 = .ok (.iconst (-1), 1) := by decide +kernel
theorem dX2_readHigh_16 : decode cX2_readHigh 16 = .ok (.if_icmp .eq 7, 3) := by decide +kernel
theorem dX2_readHigh_19 : decode cX2_readHigh 19 = .ok (.iconst 1, 1) := by decide +kernel
theorem dX2_readHigh_20 : decode cX2_readHigh 20 = .ok (.goto 4, 3) := by decide +kernel
theorem dX2_readHigh_23 : decode cX2_readHigh 23 = .ok (.iconst 0, 1) := by decide +kernel
theorem dX2_readHigh_24 : decode cX2_readHigh 24 = .ok (.ireturn, 1) := by decide +kernel
set_option maxRecDepth 20000 in
theorem ggX2_readSince_X2_readNumber : GoodIn wsX2_readSince wsX2_readNumber := goodIn_r _ [5, 6, 7, 8, 9, 10, 11, 12, 13, 14, 15, 16, 17, 18, 19, 20, 21, 22, 23, 24, 25, 26, 27, 28, 29, 30, 31, 32, 33, 40, 41, 42, 43, 44] (by decide +kernel) (by decide +kernel)
set_option maxRecDepth 20000 in
theorem gX2_readSince_X2_readNumber : GoodIn wsX2_readSince (va_wsS RX2 77 yX2_readNumber wsX2_readNumber) := goodIn_app (goodIn_of _ (by decide +kernel)) ggX2_readSince_X2_readNumber
theorem dX2_readSince_0 : decode cX2_readSince 0 = .ok (.aload_n 0, 1) := by decide +kernel
theorem dX2_readSince_1 : decode cX2_readSince 1 = .ok (.aload_n 1, 1) := by decide +kernel
theorem dX2_readSince_2 : decode cX2_readSince 2 = .ok (.iconst 0, 1) := by decide +kernel
theorem dX2_readSince_3 : decode cX2_readSince 3 = .ok (.iload_n 2, 1) := by decide +kernel
theorem dX2_readSince_4 : decode cX2_readSince 4 = .ok (.invokestatic 77, 3) := by decide +kernel
theorem dX2_readSince_7 : decode cX2_readSince 7 = .ok (.putfield 44, 3) := by decide +kernel
theorem dX2_readSince_10 : decode cX2_readSince 10 = .ok (.aload_n 0, 1) := by decide +kernel
theorem dX2_readSince_11 : decode cX2_readSince 11 = .ok (.getfield 44, 3) := by decide +kernel
theorem dX2_readSince_14 : decode cX2_readSince 14 = .ok (.iconst (-1), 1) := by decide +kernel
theorem dX2_readSince_15 : decode cX2_readSince 15 = .ok (.if_icmp .eq 7, 3) := by decide +kernel
theorem dX2_readSince_18 : decode cX2_readSince 18 = .ok (.iconst 1, 1) := by decide +kernel
theorem dX2_readSince_19 : decode cX2_readSince 19 = .ok (.goto 4, 3) := by decide +kernel
theorem dX2_readSince_22 : decode cX2_readSince 22 = .ok (.iconst 0, 1) := by decide +kernel
theorem dX2_readSince_23 : decode cX2_readSince 23 = .ok (.ireturn, 1) := by decide +kernel
set_option maxRecDepth 20000 in
theorem ggX2_readMark_X2_readNumber : GoodIn wsX2_readMark wsX2_readNumber := goodIn_r _ [5, 6, 7, 8, 9, 10, 11, 12, 13, 14, 15, 16, 17, 18, 19, 20, 21, 22, 23, 24, 25, 26, 27, 28, 29, 30, 31, 32, 33, 40, 41, 42, 43, 44] (by decide +kernel) (by decide +kernel)
set_option maxRecDepth 20000 in
theorem gX2_readMark_X2_readNumber : GoodIn wsX2_readMark (va_wsS RX2 77 yX2_readNumber wsX2_readNumber) := goodIn_app (goodIn_of _ (by decide +kernel)) ggX2_readMark_X2_readNumber
theorem dX2_readMark_0 : decode cX2_readMark 0 = .ok (.aload_n 0, 1) := by decide +kernel
theorem dX2_readMark_1 : decode cX2_readMark 1 = .ok (.aload_n 1, 1) := by decide +kernel
theorem dX2_readMark_2 : decode cX2_readMark 2 = .ok (.iconst 1, 1) := by decide +kernel
theorem dX2_readMark_3 : decode cX2_readMark 3 = .ok (.bipush 7, 2) := by decide +kernel
theorem dX2_readMark_5 : decode cX2_readMark 5 = .ok (.invokestatic 77, 3) := by decide +kernel
theorem dX2_readMark_8 : decode cX2_readMark 8 = .ok (.putfield 47, 3) := by decide +kernel
theorem dX2_readMark_11 : decode cX2_readMark 11 = .ok (.aload_n 0, 1) := by decide +kernel
theorem dX2_readMark_12 : decode cX2_readMark 12 = .ok (.getfield 47, 3) := by decide +kernel
theorem dX2_readMark_15 : decode cX2_readMark 15 = .ok (.iconst (-1), 1) := by decide +kernel
theorem dX2_readMark_16 : decode cX2_readMark 16 = .ok (.if_icmp .eq 7, 3) := by decide +kernel
theorem dX2_readMark_19 : decode cX2_readMark 19 = .ok (.iconst 1, 1) := by decide +kernel
theorem dX2_readMark_20 : decode cX2_readMark 20 = .ok (.goto 4, 3) := by decide +kernel
theorem dX2_readMark_23 : decode cX2_readMark 23 = .ok (.iconst 0, 1) := by decide +kernel
theorem dX2_readMark_24 : decode cX2_readMark 24 = .ok (.ireturn, 1) := by decide +kernel
set_option maxRecDepth 20000 in
theorem ggX2_readNumber_X7_advance : GoodIn wsX2_readNumber wsX7_advance := goodIn_r _ [5, 6, 7, 8, 9, 10, 11, 12, 4, 13, 14, 15, 16, 29, 30, 31, 32, 33] (by decide +kernel) (by decide +kernel)
set_option maxRecDepth 20000 in
theorem gX2_readNumber_X7_advance : GoodIn wsX2_readNumber (wsV RX2 19 RX7 yX7_advance wsX7_advance) := goodIn_app (goodIn_of _ (by decide +kernel)) ggX2_readNumber_X7_advance
set_option maxRecDepth 20000 in
theorem ggX2_readNumber_X7_isNumberWithin : GoodIn wsX2_readNumber wsX7_isNumberWithin := goodIn_r _ [20, 21, 22, 23, 4, 24, 10, 6, 9, 8, 25, 26, 27, 29, 30, 31, 32, 33] (by decide +kernel) (by decide +kernel)
set_option maxRecDepth 20000 in
theorem gX2_readNumber_X7_isNumberWithin : GoodIn wsX2_readNumber (wsV RX2 81 RX7 yX7_isNumberWithin wsX7_isNumberWithin) := goodIn_app (goodIn_of _ (by decide +kernel)) ggX2_readNumber_X7_isNumberWithin
set_option maxRecDepth 20000 in
theorem ggX2_readNumber_X7_value : GoodIn wsX2_readNumber wsX7_value := goodIn_r _ [24, 10, 6, 9, 8, 29, 30, 31, 32, 33] (by decide +kernel) (by decide +kernel)
set_option maxRecDepth 20000 in
theorem gX2_readNumber_X7_value : GoodIn wsX2_readNumber (wsV RX2 85 RX7 yX7_value wsX7_value) := goodIn_app (goodIn_of _ (by decide +kernel)) ggX2_readNumber_X7_value
theorem dX2_readNumber_0 : decode cX2_readNumber 0 = .ok (.aload_n 0, 1) := by decide +kernel
theorem dX2_readNumber_1 : decode cX2_readNumber 1 = .ok (.invokevirtual 19, 3) := by decide +kernel
theorem dX2_readNumber_4 : decode cX2_readNumber 4 = .ok (.aload_n 0, 1) := by decide +kernel
theorem dX2_readNumber_5 : decode cX2_readNumber 5 = .ok (.iload_n 1, 1) := by decide +kernel
theorem dX2_readNumber_6 : decode cX2_readNumber 6 = .ok (.iload_n 2, 1) := by decide +kernel
theorem dX2_readNumber_7 : decode cX2_readNumber 7 = .ok (.invokevirtual 81, 3) := by decide +kernel
theorem dX2_readNumber_10 : decode cX2_readNumber 10 = .ok (.ifCond .eq 10, 3) := by decide +kernel
theorem dX2_readNumber_13 : decode cX2_readNumber 13 = .ok (.aload_n 0, 1) := by decide +kernel
theorem dX2_readNumber_14 : decode cX2_readNumber 14 = .ok (.invokevirtual 85, 3) := by decide +kernel
theorem dX2_readNumber_17 : decode cX2_readNumber 17 = .ok (.goto 4, 3) := by decide +kernel
theorem dX2_readNumber_20 : decode cX2_readNumber 20 = .ok (.iconst (-1), 1) := by decide +kernel
theorem dX2_readNumber_21 : decode cX2_readNumber 21 = .ok (.ireturn, 1) := by decide +kernel
theorem dX3_init_0 : decode cX3_init 0 = .ok (.aload_n 0, 1) := by decide +kernel
theorem dX3_init_1 : decode cX3_init 1 = .ok (.invokespecial 3, 3) := by decide +kernel
theorem dX3_init_4 : decode cX3_init 4 = .ok (.aload_n 0, 1) := by decide +kernel
theorem dX3_init_5 : decode cX3_init 5 = .ok (.iconst 0, 1) := by decide +kernel
theorem dX3_init_6 : decode cX3_init 6 = .ok (.putfield 9, 3) := by decide +kernel
theorem dX3_init_9 : decode cX3_init 9 = .ok (.aload_n 0, 1) := by decide +kernel
theorem dX3_init_10 : decode cX3_init 10 = .ok (.iconst (-1), 1) := by decide +kernel
theorem dX3_init_11 : decode cX3_init 11 = .ok (.putfield 15, 3) := by decide +kernel
theorem dX3_init_14 : decode cX3_init 14 = .ok (.aload_n 0, 1) := by decide +kernel
theorem dX3_init_15 : decode cX3_init 15 = .ok (.iload_n 1, 1) := by decide +kernel
theorem dX3_init_16 : decode cX3_init 16 = .ok (.putfield 18, 3) := by decide +kernel
theorem dX3_init_19 : decode cX3_init 19 = .ok (.aload_n 0, 1) := by decide +kernel
theorem dX3_init_20 : decode cX3_init 20 = .ok (.iload_n 2, 1) := by decide +kernel
theorem dX3_init_21 : decode cX3_init 21 = .ok (.putfield 21, 3) := by decide +kernel
theorem dX3_init_24 : decode cX3_init 24 = .ok (.aload_n 0, 1) := by decide +kernel
theorem dX3_init_25 : decode cX3_init 25 = .ok (.iload_n 3, 1) := by decide +kernel
theorem dX3_init_26 : decode cX3_init 26 = .ok (.putfield 24, 3) := by decide +kernel
theorem dX3_init_29 : decode cX3_init 29 = .ok (.aload_n 0, 1) := by decide +kernel
theorem dX3_init_30 : decode cX3_init 30 = .ok (.iload 4, 2) := by decide +kernel
theorem dX3_init_32 : decode cX3_init 32 = .ok (.putfield 27, 3) := by decide +kernel
theorem dX3_init_35 : decode cX3_init 35 = .ok (.aload_n 0, 1) := by decide +kernel
theorem dX3_init_36 : decode cX3_init 36 = .ok (.iload 5, 2) := by decide +kernel
theorem dX3_init_38 : decode cX3_init 38 = .ok (.putfield 30, 3) := by decide +kernel
theorem dX3_init_41 : decode cX3_init 41 = .ok (.return_, 1) := by decide +kernel
theorem dX3_grow_0 : decode cX3_grow 0 = .ok (.aload_n 0, 1) := by decide +kernel
theorem dX3_grow_1 : decode cX3_grow 1 = .ok (.aload_n 0, 1) := by decide +kernel
theorem dX3_grow_2 : decode cX3_grow 2 = .ok (.getfield 24, 3) := by decide +kernel
theorem dX3_grow_5 : decode cX3_grow 5 = .ok (.aload_n 0, 1) := by decide +kernel
theorem dX3_grow_6 : decode cX3_grow 6 = .ok (.getfield 24, 3) := by decide +kernel
theorem dX3_grow_9 : decode cX3_grow 9 = .ok (.iload_n 1, 1) := by decide +kernel
theorem dX3_grow_10 : decode cX3_grow 10 = .ok (.imul, 1) := by decide +kernel
theorem dX3_grow_11 : decode cX3_grow 11 = .ok (.sipush 1000, 3) := by decide +kernel
theorem dX3_grow_14 : decode cX3_grow 14 = .ok (.idiv, 1) := by decide +kernel
theorem dX3_grow_15 : decode cX3_grow 15 = .ok (.iadd, 1) := by decide +kernel
theorem dX3_grow_16 : decode cX3_grow 16 = .ok (.ldc 33, 2) := by decide +kernel
theorem dX3_grow_18 : decode cX3_grow 18 = .ok (.invokestatic 34, 3) := by decide +kernel
theorem dX3_grow_21 : decode cX3_grow 21 = .ok (.putfield 24, 3) := by decide +kernel
theorem dX3_grow_24 : decode cX3_grow 24 = .ok (.aload_n 0, 1) := by decide +kernel
theorem dX3_grow_25 : decode cX3_grow 25 = .ok (.iload_n 2, 1) := by decide +kernel
theorem dX3_grow_26 : decode cX3_grow 26 = .ok (.bipush 18, 2) := by decide +kernel
theorem dX3_grow_28 : decode cX3_grow 28 = .ok (.if_icmp .lt 12, 3) := by decide +kernel
theorem dX3_grow_31 : decode cX3_grow 31 = .ok (.aload_n 0, 1) := by decide +kernel
theorem dX3_grow_32 : decode cX3_grow 32 = .ok (.getfield 9, 3) := by decide +kernel
theorem dX3_grow_35 : decode cX3_grow 35 = .ok (.iconst 1, 1) := by decide +kernel
theorem dX3_grow_36 : decode cX3_grow 36 = .ok (.iadd, 1) := by decide +kernel
theorem dX3_grow_37 : decode cX3_grow 37 = .ok (.goto 4, 3) := by decide +kernel
theorem dX3_grow_40 : decode cX3_grow 40 = .ok (.iconst 0, 1) := by decide +kernel
theorem dX3_grow_41 : decode cX3_grow 41 = .ok (.putfield 9, 3) := by decide +kernel
theorem dX3_grow_44 : decode cX3_grow 44 = .ok (.return_, 1) := by decide +kernel
theorem dX3_isRipe_0 : decode cX3_isRipe 0 = .ok (.aload_n 0, 1) := by decide +kernel
theorem dX3_isRipe_1 : decode cX3_isRipe 1 = .ok (.getfield 24, 3) := by decide +kernel
theorem dX3_isRipe_4 : decode cX3_isRipe 4 = .ok (.aload_n 0, 1) := by decide +kernel
theorem dX3_isRipe_5 : decode cX3_isRipe 5 = .ok (.getfield 27, 3) := by decide +kernel
theorem dX3_isRipe_8 : decode cX3_isRipe 8 = .ok (.if_icmp .le 15, 3) := by decide +kernel
theorem dX3_isRipe_11 : decode cX3_isRipe 11 = .ok (.aload_n 0, 1) := by decide +kernel
theorem dX3_isRipe_12 : decode cX3_isRipe 12 = .ok (.getfield 9, 3) := by decide +kernel
theorem dX3_isRipe_15 : decode cX3_isRipe 15 = .ok (.iconst 3, 1) := by decide +kernel
theorem dX3_isRipe_16 : decode cX3_isRipe 16 = .ok (.if_icmp .lt 7, 3) := by decide +kernel
theorem dX3_isRipe_19 : decode cX3_isRipe 19 = .ok (.iconst 1, 1) := by decide +kernel
theorem dX3_isRipe_20 : decode cX3_isRipe 20 = .ok (.goto 4, 3) := by decide +kernel
theorem dX3_isRipe_23 : decode cX3_isRipe 23 = .ok (.iconst 0, 1) := by decide +kernel
theorem dX3_isRipe_24 : decode cX3_isRipe 24 = .ok (.ireturn, 1) := by decide +kernel
theorem dX3_loseHalf_0 : decode cX3_loseHalf 0 = .ok (.aload_n 0, 1) := by decide +kernel
theorem dX3_loseHalf_1 : decode cX3_loseHalf 1 = .ok (.dup, 1) := by decide +kernel
theorem dX3_loseHalf_2 : decode cX3_loseHalf 2 = .ok (.getfield 24, 3) := by decide +kernel
theorem dX3_loseHalf_5 : decode cX3_loseHalf 5 = .ok (.aload_n 0, 1) := by decide +kernel
theorem dX3_loseHalf_6 : decode cX3_loseHalf 6 = .ok (.getfield 24, 3) := by decide +kernel
theorem dX3_loseHalf_9 : decode cX3_loseHalf 9 = .ok (.iconst 2, 1) := by decide +kernel
theorem dX3_loseHalf_10 : decode cX3_loseHalf 10 = .ok (.idiv, 1) := by decide +kernel
theorem dX3_loseHalf_11 : decode cX3_loseHalf 11 = .ok (.isub, 1) := by decide +kernel
theorem dX3_loseHalf_12 : decode cX3_loseHalf 12 = .ok (.putfield 24, 3) := by decide +kernel
theorem dX3_loseHalf_15 : decode cX3_loseHalf 15 = .ok (.aload_n 0, 1) := by decide +kernel
theorem dX3_loseHalf_16 : decode cX3_loseHalf 16 = .ok (.iconst 0, 1) := by decide +kernel
theorem dX3_loseHalf_17 : decode cX3_loseHalf 17 = .ok (.putfield 9, 3) := by decide +kernel
theorem dX3_loseHalf_20 : decode cX3_loseHalf 20 = .ok (.aload_n 0, 1) := by decide +kernel
theorem dX3_loseHalf_21 : decode cX3_loseHalf 21 = .ok (.iload_n 1, 1) := by decide +kernel
theorem dX3_loseHalf_22 : decode cX3_loseHalf 22 = .ok (.putfield 15, 3) := by decide +kernel
theorem dX3_loseHalf_25 : decode cX3_loseHalf 25 = .ok (.return_, 1) := by decide +kernel
set_option maxRecDepth 20000 in
theorem ggX3_agreesWith_X9_isWithin : GoodIn wsX3_agreesWith wsX9_isWithin := goodIn_r _ [7] (by decide +kernel) (by decide +kernel)
set_option maxRecDepth 20000 in
theorem gX3_agreesWith_X9_isWithin_n47 : GoodIn wsX3_agreesWith (wsX9_isWithin) := ggX3_agreesWith_X9_isWithin
set_option maxRecDepth 20000 in
theorem ggX3_agreesWith_X9_stepsBetween : GoodIn wsX3_agreesWith wsX9_stepsBetween := goodIn_r _ [9, 10, 11, 12, 13, 14, 15, 16] (by decide +kernel) (by decide +kernel)
set_option maxRecDepth 20000 in
theorem gX3_agreesWith_X9_stepsBetween_n53 : GoodIn wsX3_agreesWith (wsX9_stepsBetween) := ggX3_agreesWith_X9_stepsBetween
theorem dX3_agreesWith_0 : decode cX3_agreesWith 0 = .ok (.aload_n 0, 1) := by decide +kernel
theorem dX3_agreesWith_1 : decode cX3_agreesWith 1 = .ok (.getfield 15, 3) := by decide +kernel
theorem dX3_agreesWith_4 : decode cX3_agreesWith 4 = .ok (.iconst (-1), 1) := by decide +kernel
theorem dX3_agreesWith_5 : decode cX3_agreesWith 5 = .ok (.if_icmp .eq 60, 3) := by decide +kernel
theorem dX3_agreesWith_8 : decode cX3_agreesWith 8 = .ok (.aload_n 1, 1) := by decide +kernel
theorem dX3_agreesWith_9 : decode cX3_agreesWith 9 = .ok (.getfield 42, 3) := by decide +kernel
theorem dX3_agreesWith_12 : decode cX3_agreesWith 12 = .ok (.aload_n 0, 1) := by decide +kernel
theorem dX3_agreesWith_13 : decode cX3_agreesWith 13 = .ok (.getfield 15, 3) := by decide +kernel
theorem dX3_agreesWith_16 : decode cX3_agreesWith 16 = .ok (.isub, 1) := by decide +kernel
theorem dX3_agreesWith_17 : decode cX3_agreesWith 17 = .ok (.iconst 0, 1) := by decide +kernel
theorem dX3_agreesWith_18 : decode cX3_agreesWith 18 = .ok (.bipush 60, 2) := by decide +kernel
theorem dX3_agreesWith_20 : decode cX3_agreesWith 20 = .ok (.invokestatic 47, 3) := by decide +kernel
theorem dX3_agreesWith_23 : decode cX3_agreesWith 23 = .ok (.ifCond .eq 42, 3) := by decide +kernel
theorem dX3_agreesWith_26 : decode cX3_agreesWith 26 = .ok (.aload_n 0, 1) := by decide +kernel
theorem dX3_agreesWith_27 : decode cX3_agreesWith 27 = .ok (.getfield 18, 3) := by decide +kernel
theorem dX3_agreesWith_30 : decode cX3_agreesWith 30 = .ok (.aload_n 0, 1) := by decide +kernel
theorem dX3_agreesWith_31 : decode cX3_agreesWith 31 = .ok (.getfield 21, 3) := by decide +kernel
theorem dX3_agreesWith_34 : decode cX3_agreesWith 34 = .ok (.aload_n 1, 1) := by decide +kernel
theorem dX3_agreesWith_35 : decode cX3_agreesWith 35 = .ok (.getfield 51, 3) := by decide +kernel
theorem dX3_agreesWith_38 : decode cX3_agreesWith 38 = .ok (.aload_n 1, 1) := by decide +kernel
theorem dX3_agreesWith_39 : decode cX3_agreesWith 39 = .ok (.getfield 52, 3) := by decide +kernel
theorem dX3_agreesWith_42 : decode cX3_agreesWith 42 = .ok (.invokestatic 53, 3) := by decide +kernel
theorem dX3_agreesWith_45 : decode cX3_agreesWith 45 = .ok (.iconst 3, 1) := by decide +kernel
theorem dX3_agreesWith_46 : decode cX3_agreesWith 46 = .ok (.if_icmp .gt 19, 3) := by decide +kernel
theorem dX3_agreesWith_49 : decode cX3_agreesWith 49 = .ok (.iload_n 2, 1) := by decide +kernel
theorem dX3_agreesWith_50 : decode cX3_agreesWith 50 = .ok (.ifCond .eq 11, 3) := by decide +kernel
theorem dX3_agreesWith_53 : decode cX3_agreesWith 53 = .ok (.iload_n 2, 1) := by decide +kernel
theorem dX3_agreesWith_54 : decode cX3_agreesWith 54 = .ok (.aload_n 0, 1) := by decide +kernel
theorem dX3_agreesWith_55 : decode cX3_agreesWith 55 = .ok (.getfield 30, 3) := by decide +kernel
theorem dX3_agreesWith_58 : decode cX3_agreesWith 58 = .ok (.if_icmp .ne 7, 3) := by decide +kernel
theorem dX3_agreesWith_61 : decode cX3_agreesWith 61 = .ok (.iconst 1, 1) := by decide +kernel
theorem dX3_agreesWith_62 : decode cX3_agreesWith 62 = .ok (.goto 4, 3) := by decide +kernel
theorem dX3_agreesWith_65 : decode cX3_agreesWith 65 = .ok (.iconst 0, 1) := by decide +kernel
theorem dX3_agreesWith_66 : decode cX3_agreesWith 66 = .ok (.ireturn, 1) := by decide +kernel
theorem dX3_told_0 : decode cX3_told 0 = .ok (.iload_n 1, 1) := by decide +kernel
theorem dX3_told_1 : decode cX3_told 1 = .ok (.tableswitch 60 0 4 #[35, 40, 45, 50, 55], 35) := by decide +kernel
theorem dX3_told_36 : decode cX3_told 36 = .ok (.aload_n 0, 1) := by decide +kernel
theorem dX3_told_37 : decode cX3_told 37 = .ok (.getfield 24, 3) := by decide +kernel
theorem dX3_told_40 : decode cX3_told 40 = .ok (.ireturn, 1) := by decide +kernel
theorem dX3_told_41 : decode cX3_told 41 = .ok (.aload_n 0, 1) := by decide +kernel
theorem dX3_told_42 : decode cX3_told 42 = .ok (.getfield 27, 3) := by decide +kernel
theorem dX3_told_45 : decode cX3_told 45 = .ok (.ireturn, 1) := by decide +kernel
theorem dX3_told_46 : decode cX3_told 46 = .ok (.aload_n 0, 1) := by decide +kernel
theorem dX3_told_47 : decode cX3_told 47 = .ok (.getfield 30, 3) := by decide +kernel
theorem dX3_told_50 : decode cX3_told 50 = .ok (.ireturn, 1) := by decide +kernel
theorem dX3_told_51 : decode cX3_told 51 = .ok (.aload_n 0, 1) := by decide +kernel
theorem dX3_told_52 : decode cX3_told 52 = .ok (.getfield 9, 3) := by decide +kernel
theorem dX3_told_55 : decode cX3_told 55 = .ok (.ireturn, 1) := by decide +kernel
theorem dX3_told_56 : decode cX3_told 56 = .ok (.aload_n 0, 1) := by decide +kernel
theorem dX3_told_57 : decode cX3_told 57 = .ok (.getfield 15, 3) := by decide +kernel
theorem dX3_told_60 : decode cX3_told 60 = .ok (.ireturn, 1) := by decide +kernel
theorem dX3_told_61 : decode cX3_told 61 = .ok (.new 57, 3) := by decide +kernel
theorem dX3_told_64 : decode cX3_told 64 = .ok (.dup, 1) := by decide +kernel
theorem dX3_told_65 : decode cX3_told 65 = .ok (.ldc 59, 2) := by decide +kernel
theorem dX3_told_67 : decode cX3_told 67 = .ok (.invokespecial 61, 3) := by decide +kernel
theorem dX3_told_70 : decode cX3_told 70 = .ok (.athrow, 1) := by decide +kernel
theorem dX4_init_0 : decode cX4_init 0 = .ok (.aload_n 0, 1) := by decide +kernel
theorem dX4_init_1 : decode cX4_init 1 = .ok (.invokespecial 3, 3) := by decide +kernel
theorem dX4_init_4 : decode cX4_init 4 = .ok (.aload_n 0, 1) := by decide +kernel
theorem dX4_init_5 : decode cX4_init 5 = .ok (.iconst 0, 1) := by decide +kernel
theorem dX4_init_6 : decode cX4_init 6 = .ok (.putfield 9, 3) := by decide +kernel
theorem dX4_init_9 : decode cX4_init 9 = .ok (.aload_n 0, 1) := by decide +kernel
theorem dX4_init_10 : decode cX4_init 10 = .ok (.iconst 0, 1) := by decide +kernel
theorem dX4_init_11 : decode cX4_init 11 = .ok (.putfield 15, 3) := by decide +kernel
theorem dX4_init_14 : decode cX4_init 14 = .ok (.aload_n 0, 1) := by decide +kernel
theorem dX4_init_15 : decode cX4_init 15 = .ok (.iconst 0, 1) := by decide +kernel
theorem dX4_init_16 : decode cX4_init 16 = .ok (.putfield 18, 3) := by decide +kernel
theorem dX4_init_19 : decode cX4_init 19 = .ok (.aload_n 0, 1) := by decide +kernel
theorem dX4_init_20 : decode cX4_init 20 = .ok (.iconst (-1), 1) := by decide +kernel
theorem dX4_init_21 : decode cX4_init 21 = .ok (.putfield 21, 3) := by decide +kernel
theorem dX4_init_24 : decode cX4_init 24 = .ok (.aload_n 0, 1) := by decide +kernel
theorem dX4_init_25 : decode cX4_init 25 = .ok (.iconst 0, 1) := by decide +kernel
theorem dX4_init_26 : decode cX4_init 26 = .ok (.putfield 24, 3) := by decide +kernel
theorem dX4_init_29 : decode cX4_init 29 = .ok (.aload_n 0, 1) := by decide +kernel
theorem dX4_init_30 : decode cX4_init 30 = .ok (.iload_n 1, 1) := by decide +kernel
theorem dX4_init_31 : decode cX4_init 31 = .ok (.putfield 27, 3) := by decide +kernel
theorem dX4_init_34 : decode cX4_init 34 = .ok (.aload_n 0, 1) := by decide +kernel
theorem dX4_init_35 : decode cX4_init 35 = .ok (.iload_n 2, 1) := by decide +kernel
theorem dX4_init_36 : decode cX4_init 36 = .ok (.putfield 30, 3) := by decide +kernel
theorem dX4_init_39 : decode cX4_init 39 = .ok (.aload_n 0, 1) := by decide +kernel
theorem dX4_init_40 : decode cX4_init 40 = .ok (.iload_n 3, 1) := by decide +kernel
theorem dX4_init_41 : decode cX4_init 41 = .ok (.putfield 33, 3) := by decide +kernel
theorem dX4_init_44 : decode cX4_init 44 = .ok (.aload_n 0, 1) := by decide +kernel
theorem dX4_init_45 : decode cX4_init 45 = .ok (.iload 4, 2) := by decide +kernel
theorem dX4_init_47 : decode cX4_init 47 = .ok (.putfield 36, 3) := by decide +kernel
theorem dX4_init_50 : decode cX4_init 50 = .ok (.aload_n 0, 1) := by decide +kernel
theorem dX4_init_51 : decode cX4_init 51 = .ok (.iload 5, 2) := by decide +kernel
theorem dX4_init_53 : decode cX4_init 53 = .ok (.putfield 39, 3) := by decide +kernel
theorem dX4_init_56 : decode cX4_init 56 = .ok (.aload_n 0, 1) := by decide +kernel
theorem dX4_init_57 : decode cX4_init 57 = .ok (.iload 6, 2) := by decide +kernel
theorem dX4_init_59 : decode cX4_init 59 = .ok (.putfield 42, 3) := by decide +kernel
theorem dX4_init_62 : decode cX4_init 62 = .ok (.aload_n 0, 1) := by decide +kernel
theorem dX4_init_63 : decode cX4_init 63 = .ok (.iload 7, 2) := by decide +kernel
theorem dX4_init_65 : decode cX4_init 65 = .ok (.putfield 45, 3) := by decide +kernel
theorem dX4_init_68 : decode cX4_init 68 = .ok (.return_, 1) := by decide +kernel
set_option maxRecDepth 20000 in
theorem ggX4_isOnDuty_X9_isWithin : GoodIn wsX4_isOnDuty wsX9_isWithin := goodIn_r _ [5] (by decide +kernel) (by decide +kernel)
set_option maxRecDepth 20000 in
theorem gX4_isOnDuty_X9_isWithin_n48 : GoodIn wsX4_isOnDuty (wsX9_isWithin) := ggX4_isOnDuty_X9_isWithin
theorem dX4_isOnDuty_0 : decode cX4_isOnDuty 0 = .ok (.aload_n 0, 1) := by decide +kernel
theorem dX4_isOnDuty_1 : decode cX4_isOnDuty 1 = .ok (.getfield 42, 3) := by decide +kernel
theorem dX4_isOnDuty_4 : decode cX4_isOnDuty 4 = .ok (.aload_n 0, 1) := by decide +kernel
theorem dX4_isOnDuty_5 : decode cX4_isOnDuty 5 = .ok (.getfield 45, 3) := by decide +kernel
theorem dX4_isOnDuty_8 : decode cX4_isOnDuty 8 = .ok (.if_icmp .gt 16, 3) := by decide +kernel
theorem dX4_isOnDuty_11 : decode cX4_isOnDuty 11 = .ok (.iload_n 1, 1) := by decide +kernel
theorem dX4_isOnDuty_12 : decode cX4_isOnDuty 12 = .ok (.aload_n 0, 1) := by decide +kernel
theorem dX4_isOnDuty_13 : decode cX4_isOnDuty 13 = .ok (.getfield 42, 3) := by decide +kernel
theorem dX4_isOnDuty_16 : decode cX4_isOnDuty 16 = .ok (.aload_n 0, 1) := by decide +kernel
theorem dX4_isOnDuty_17 : decode cX4_isOnDuty 17 = .ok (.getfield 45, 3) := by decide +kernel
theorem dX4_isOnDuty_20 : decode cX4_isOnDuty 20 = .ok (.invokestatic 48, 3) := by decide +kernel
theorem dX4_isOnDuty_23 : decode cX4_isOnDuty 23 = .ok (.ireturn, 1) := by decide +kernel
theorem dX4_isOnDuty_24 : decode cX4_isOnDuty 24 = .ok (.iload_n 1, 1) := by decide +kernel
theorem dX4_isOnDuty_25 : decode cX4_isOnDuty 25 = .ok (.aload_n 0, 1) := by decide +kernel
theorem dX4_isOnDuty_26 : decode cX4_isOnDuty 26 = .ok (.getfield 42, 3) := by decide +kernel
theorem dX4_isOnDuty_29 : decode cX4_isOnDuty 29 = .ok (.if_icmp .ge 11, 3) := by decide +kernel
theorem dX4_isOnDuty_32 : decode cX4_isOnDuty 32 = .ok (.iload_n 1, 1) := by decide +kernel
theorem dX4_isOnDuty_33 : decode cX4_isOnDuty 33 = .ok (.aload_n 0, 1) := by decide +kernel
theorem dX4_isOnDuty_34 : decode cX4_isOnDuty 34 = .ok (.getfield 45, 3) := by decide +kernel
theorem dX4_isOnDuty_37 : decode cX4_isOnDuty 37 = .ok (.if_icmp .gt 7, 3) := by decide +kernel
theorem dX4_isOnDuty_40 : decode cX4_isOnDuty 40 = .ok (.iconst 1, 1) := by decide +kernel
theorem dX4_isOnDuty_41 : decode cX4_isOnDuty 41 = .ok (.goto 4, 3) := by decide +kernel
theorem dX4_isOnDuty_44 : decode cX4_isOnDuty 44 = .ok (.iconst 0, 1) := by decide +kernel
theorem dX4_isOnDuty_45 : decode cX4_isOnDuty 45 = .ok (.ireturn, 1) := by decide +kernel
set_option maxRecDepth 20000 in
theorem ggX4_hoursTo_X9_stepsBetween : GoodIn wsX4_hoursTo wsX9_stepsBetween := goodIn_r _ [6, 7, 8, 9, 10, 11, 12, 13] (by decide +kernel) (by decide +kernel)
set_option maxRecDepth 20000 in
theorem gX4_hoursTo_X9_stepsBetween_n52 : GoodIn wsX4_hoursTo (wsX9_stepsBetween) := ggX4_hoursTo_X9_stepsBetween
theorem dX4_hoursTo_0 : decode cX4_hoursTo 0 = .ok (.aload_n 0, 1) := by decide +kernel
theorem dX4_hoursTo_1 : decode cX4_hoursTo 1 = .ok (.getfield 27, 3) := by decide +kernel
theorem dX4_hoursTo_4 : decode cX4_hoursTo 4 = .ok (.aload_n 0, 1) := by decide +kernel
theorem dX4_hoursTo_5 : decode cX4_hoursTo 5 = .ok (.getfield 30, 3) := by decide +kernel
theorem dX4_hoursTo_8 : decode cX4_hoursTo 8 = .ok (.iload_n 1, 1) := by decide +kernel
theorem dX4_hoursTo_9 : decode cX4_hoursTo 9 = .ok (.iload_n 2, 1) := by decide +kernel
theorem dX4_hoursTo_10 : decode cX4_hoursTo 10 = .ok (.invokestatic 52, 3) := by decide +kernel
theorem dX4_hoursTo_13 : decode cX4_hoursTo 13 = .ok (.istore_n 3, 1) := by decide +kernel
theorem dX4_hoursTo_14 : decode cX4_hoursTo 14 = .ok (.iconst 1, 1) := by decide +kernel
theorem dX4_hoursTo_15 : decode cX4_hoursTo 15 = .ok (.istore 4, 2) := by decide +kernel
theorem dX4_hoursTo_17 : decode cX4_hoursTo 17 = .ok (.iload 4, 2) := by decide +kernel
theorem dX4_hoursTo_19 : decode cX4_hoursTo 19 = .ok (.iload_n 3, 1) := by decide +kernel
theorem dX4_hoursTo_20 : decode cX4_hoursTo 20 = .ok (.if_icmp .ge 20, 3) := by decide +kernel
theorem dX4_hoursTo_23 : decode cX4_hoursTo 23 = .ok (.iload 4, 2) := by decide +kernel
theorem dX4_hoursTo_25 : decode cX4_hoursTo 25 = .ok (.aload_n 0, 1) := by decide +kernel
theorem dX4_hoursTo_26 : decode cX4_hoursTo 26 = .ok (.getfield 39, 3) := by decide +kernel
theorem dX4_hoursTo_29 : decode cX4_hoursTo 29 = .ok (.imul, 1) := by decide +kernel
theorem dX4_hoursTo_30 : decode cX4_hoursTo 30 = .ok (.iload_n 3, 1) := by decide +kernel
theorem dX4_hoursTo_31 : decode cX4_hoursTo 31 = .ok (.if_icmp .ge 9, 3) := by decide +kernel
theorem dX4_hoursTo_34 : decode cX4_hoursTo 34 = .ok (.iinc 4 1, 3) := by decide +kernel
theorem dX4_hoursTo_37 : decode cX4_hoursTo 37 = .ok (.goto (-20), 3) := by decide +kernel
theorem dX4_hoursTo_40 : decode cX4_hoursTo 40 = .ok (.iload 4, 2) := by decide +kernel
theorem dX4_hoursTo_42 : decode cX4_hoursTo 42 = .ok (.ireturn, 1) := by decide +kernel
set_option maxRecDepth 20000 in
theorem ggX4_setOut_X4_hoursTo : GoodIn wsX4_setOut wsX4_hoursTo := goodIn_r _ [9, 10, 11, 12, 13, 14, 15, 16, 17, 18, 19, 20, 21, 22, 23, 24, 25, 26, 27, 28, 29, 30, 31, 32, 33, 34] (by decide +kernel) (by decide +kernel)
set_option maxRecDepth 20000 in
theorem gX4_setOut_X4_hoursTo : GoodIn wsX4_setOut (wsV RX4 56 RX4 yX4_hoursTo wsX4_hoursTo) := goodIn_app (goodIn_of _ (by decide +kernel)) ggX4_setOut_X4_hoursTo
theorem dX4_setOut_0 : decode cX4_setOut 0 = .ok (.aload_n 0, 1) := by decide +kernel
theorem dX4_setOut_1 : decode cX4_setOut 1 = .ok (.iconst 1, 1) := by decide +kernel
theorem dX4_setOut_2 : decode cX4_setOut 2 = .ok (.putfield 9, 3) := by decide +kernel
theorem dX4_setOut_5 : decode cX4_setOut 5 = .ok (.aload_n 0, 1) := by decide +kernel
theorem dX4_setOut_6 : decode cX4_setOut 6 = .ok (.iload_n 1, 1) := by decide +kernel
theorem dX4_setOut_7 : decode cX4_setOut 7 = .ok (.putfield 21, 3) := by decide +kernel
theorem dX4_setOut_10 : decode cX4_setOut 10 = .ok (.aload_n 0, 1) := by decide +kernel
theorem dX4_setOut_11 : decode cX4_setOut 11 = .ok (.aload_n 0, 1) := by decide +kernel
theorem dX4_setOut_12 : decode cX4_setOut 12 = .ok (.iload_n 2, 1) := by decide +kernel
theorem dX4_setOut_13 : decode cX4_setOut 13 = .ok (.iload_n 3, 1) := by decide +kernel
theorem dX4_setOut_14 : decode cX4_setOut 14 = .ok (.invokevirtual 56, 3) := by decide +kernel
theorem dX4_setOut_17 : decode cX4_setOut 17 = .ok (.putfield 15, 3) := by decide +kernel
theorem dX4_setOut_20 : decode cX4_setOut 20 = .ok (.aload_n 0, 1) := by decide +kernel
theorem dX4_setOut_21 : decode cX4_setOut 21 = .ok (.aload_n 0, 1) := by decide +kernel
theorem dX4_setOut_22 : decode cX4_setOut 22 = .ok (.getfield 15, 3) := by decide +kernel
theorem dX4_setOut_25 : decode cX4_setOut 25 = .ok (.putfield 18, 3) := by decide +kernel
theorem dX4_setOut_28 : decode cX4_setOut 28 = .ok (.return_, 1) := by decide +kernel
theorem dX4_turnBack_0 : decode cX4_turnBack 0 = .ok (.aload_n 0, 1) := by decide +kernel
theorem dX4_turnBack_1 : decode cX4_turnBack 1 = .ok (.iconst 2, 1) := by decide +kernel
theorem dX4_turnBack_2 : decode cX4_turnBack 2 = .ok (.putfield 9, 3) := by decide +kernel
theorem dX4_turnBack_5 : decode cX4_turnBack 5 = .ok (.aload_n 0, 1) := by decide +kernel
theorem dX4_turnBack_6 : decode cX4_turnBack 6 = .ok (.aload_n 0, 1) := by decide +kernel
theorem dX4_turnBack_7 : decode cX4_turnBack 7 = .ok (.getfield 15, 3) := by decide +kernel
theorem dX4_turnBack_10 : decode cX4_turnBack 10 = .ok (.putfield 18, 3) := by decide +kernel
theorem dX4_turnBack_13 : decode cX4_turnBack 13 = .ok (.return_, 1) := by decide +kernel
theorem dX4_comeHome_0 : decode cX4_comeHome 0 = .ok (.aload_n 0, 1) := by decide +kernel
theorem dX4_comeHome_1 : decode cX4_comeHome 1 = .ok (.iconst 0, 1) := by decide +kernel
theorem dX4_comeHome_2 : decode cX4_comeHome 2 = .ok (.putfield 9, 3) := by decide +kernel
theorem dX4_comeHome_5 : decode cX4_comeHome 5 = .ok (.aload_n 0, 1) := by decide +kernel
theorem dX4_comeHome_6 : decode cX4_comeHome 6 = .ok (.iconst (-1), 1) := by decide +kernel
theorem dX4_comeHome_7 : decode cX4_comeHome 7 = .ok (.putfield 21, 3) := by decide +kernel
theorem dX4_comeHome_10 : decode cX4_comeHome 10 = .ok (.return_, 1) := by decide +kernel
theorem dX4_told_0 : decode cX4_told 0 = .ok (.iload_n 1, 1) := by decide +kernel
theorem dX4_told_1 : decode cX4_told 1 = .ok (.tableswitch 60 0 4 #[35, 40, 45, 50, 55], 35) := by decide +kernel
theorem dX4_told_36 : decode cX4_told 36 = .ok (.aload_n 0, 1) := by decide +kernel
theorem dX4_told_37 : decode cX4_told 37 = .ok (.getfield 9, 3) := by decide +kernel
theorem dX4_told_40 : decode cX4_told 40 = .ok (.ireturn, 1) := by decide +kernel
theorem dX4_told_41 : decode cX4_told 41 = .ok (.aload_n 0, 1) := by decide +kernel
theorem dX4_told_42 : decode cX4_told 42 = .ok (.getfield 33, 3) := by decide +kernel
theorem dX4_told_45 : decode cX4_told 45 = .ok (.ireturn, 1) := by decide +kernel
theorem dX4_told_46 : decode cX4_told 46 = .ok (.aload_n 0, 1) := by decide +kernel
theorem dX4_told_47 : decode cX4_told 47 = .ok (.getfield 18, 3) := by decide +kernel
theorem dX4_told_50 : decode cX4_told 50 = .ok (.ireturn, 1) := by decide +kernel
theorem dX4_told_51 : decode cX4_told 51 = .ok (.aload_n 0, 1) := by decide +kernel
theorem dX4_told_52 : decode cX4_told 52 = .ok (.getfield 21, 3) := by decide +kernel
theorem dX4_told_55 : decode cX4_told 55 = .ok (.ireturn, 1) := by decide +kernel
theorem dX4_told_56 : decode cX4_told 56 = .ok (.aload_n 0, 1) := by decide +kernel
theorem dX4_told_57 : decode cX4_told 57 = .ok (.getfield 24, 3) := by decide +kernel
theorem dX4_told_60 : decode cX4_told 60 = .ok (.ireturn, 1) := by decide +kernel
theorem dX4_told_61 : decode cX4_told 61 = .ok (.new 60, 3) := by decide +kernel
theorem dX4_told_64 : decode cX4_told 64 = .ok (.dup, 1) := by decide +kernel
theorem dX4_told_65 : decode cX4_told 65 = .ok (.ldc 62, 2) := by decide +kernel
theorem dX4_told_67 : decode cX4_told 67 = .ok (.invokespecial 64, 3) := by decide +kernel
theorem dX4_told_70 : decode cX4_told 70 = .ok (.athrow, 1) := by decide +kernel
set_option maxRecDepth 20000 in
theorem ggX5_init_J7_fill_53178 : GoodIn wsX5_init wsJ7_fill_53178 := goodIn_r _ [12] (by decide +kernel) (by decide +kernel)
set_option maxRecDepth 20000 in
theorem gX5_init_J7_fill_53178 : GoodIn wsX5_init (va_wsS RX5 24 yJ7_fill_53178 wsJ7_fill_53178) := goodIn_app (goodIn_of _ (by decide +kernel)) ggX5_init_J7_fill_53178
theorem dX5_init_0 : decode cX5_init 0 = .ok (.aload_n 0, 1) := by decide +kernel
theorem dX5_init_1 : decode cX5_init 1 = .ok (.invokespecial 3, 3) := by decide +kernel
theorem dX5_init_4 : decode cX5_init 4 = .ok (.aload_n 0, 1) := by decide +kernel
theorem dX5_init_5 : decode cX5_init 5 = .ok (.bipush 31, 2) := by decide +kernel
theorem dX5_init_7 : decode cX5_init 7 = .ok (.newarray .int, 2) := by decide +kernel
theorem dX5_init_9 : decode cX5_init 9 = .ok (.putfield 11, 3) := by decide +kernel
theorem dX5_init_12 : decode cX5_init 12 = .ok (.aload_n 0, 1) := by decide +kernel
theorem dX5_init_13 : decode cX5_init 13 = .ok (.bipush 31, 2) := by decide +kernel
theorem dX5_init_15 : decode cX5_init 15 = .ok (.newarray .int, 2) := by decide +kernel
theorem dX5_init_17 : decode cX5_init 17 = .ok (.putfield 15, 3) := by decide +kernel
theorem dX5_init_20 : decode cX5_init 20 = .ok (.aload_n 0, 1) := by decide +kernel
theorem dX5_init_21 : decode cX5_init 21 = .ok (.bipush 31, 2) := by decide +kernel
theorem dX5_init_23 : decode cX5_init 23 = .ok (.newarray .int, 2) := by decide +kernel
theorem dX5_init_25 : decode cX5_init 25 = .ok (.putfield 18, 3) := by decide +kernel
theorem dX5_init_28 : decode cX5_init 28 = .ok (.aload_n 0, 1) := by decide +kernel
theorem dX5_init_29 : decode cX5_init 29 = .ok (.bipush 31, 2) := by decide +kernel
theorem dX5_init_31 : decode cX5_init 31 = .ok (.newarray .int, 2) := by decide +kernel
theorem dX5_init_33 : decode cX5_init 33 = .ok (.putfield 21, 3) := by decide +kernel
theorem dX5_init_36 : decode cX5_init 36 = .ok (.aload_n 0, 1) := by decide +kernel
theorem dX5_init_37 : decode cX5_init 37 = .ok (.getfield 11, 3) := by decide +kernel
theorem dX5_init_40 : decode cX5_init 40 = .ok (.bipush 15, 2) := by decide +kernel
theorem dX5_init_42 : decode cX5_init 42 = .ok (.invokestatic 24, 3) := by decide +kernel
theorem dX5_init_45 : decode cX5_init 45 = .ok (.aload_n 0, 1) := by decide +kernel
theorem dX5_init_46 : decode cX5_init 46 = .ok (.getfield 15, 3) := by decide +kernel
theorem dX5_init_49 : decode cX5_init 49 = .ok (.bipush 50, 2) := by decide +kernel
theorem dX5_init_51 : decode cX5_init 51 = .ok (.invokestatic 24, 3) := by decide +kernel
theorem dX5_init_54 : decode cX5_init 54 = .ok (.aload_n 0, 1) := by decide +kernel
theorem dX5_init_55 : decode cX5_init 55 = .ok (.getfield 18, 3) := by decide +kernel
theorem dX5_init_58 : decode cX5_init 58 = .ok (.bipush (-20), 2) := by decide +kernel
theorem dX5_init_60 : decode cX5_init 60 = .ok (.invokestatic 24, 3) := by decide +kernel
theorem dX5_init_63 : decode cX5_init 63 = .ok (.aload_n 0, 1) := by decide +kernel
theorem dX5_init_64 : decode cX5_init 64 = .ok (.getfield 21, 3) := by decide +kernel
theorem dX5_init_67 : decode cX5_init 67 = .ok (.bipush 40, 2) := by decide +kernel
theorem dX5_init_69 : decode cX5_init 69 = .ok (.invokestatic 24, 3) := by decide +kernel
theorem dX5_init_72 : decode cX5_init 72 = .ok (.return_, 1) := by decide +kernel
set_option maxRecDepth 20000 in
theorem ggX5_isDay_X9_isWithin : GoodIn wsX5_isDay wsX9_isWithin := goodIn_r _ [3] (by decide +kernel) (by decide +kernel)
set_option maxRecDepth 20000 in
theorem gX5_isDay_X9_isWithin_n30 : GoodIn wsX5_isDay (wsX9_isWithin) := ggX5_isDay_X9_isWithin
theorem dX5_isDay_0 : decode cX5_isDay 0 = .ok (.iload_n 0, 1) := by decide +kernel
theorem dX5_isDay_1 : decode cX5_isDay 1 = .ok (.iconst 0, 1) := by decide +kernel
theorem dX5_isDay_2 : decode cX5_isDay 2 = .ok (.bipush 30, 2) := by decide +kernel
theorem dX5_isDay_4 : decode cX5_isDay 4 = .ok (.invokestatic 30, 3) := by decide +kernel
theorem dX5_isDay_7 : decode cX5_isDay 7 = .ok (.ireturn, 1) := by decide +kernel
set_option maxRecDepth 20000 in
theorem ggX5_isWarmth_X9_isWithin : GoodIn wsX5_isWarmth wsX9_isWithin := goodIn_r _ [3] (by decide +kernel) (by decide +kernel)
set_option maxRecDepth 20000 in
theorem gX5_isWarmth_X9_isWithin_n30 : GoodIn wsX5_isWarmth (wsX9_isWithin) := ggX5_isWarmth_X9_isWithin
theorem dX5_isWarmth_0 : decode cX5_isWarmth 0 = .ok (.iload_n 0, 1) := by decide +kernel
theorem dX5_isWarmth_1 : decode cX5_isWarmth 1 = .ok (.bipush (-20), 2) := by decide +kernel
theorem dX5_isWarmth_3 : decode cX5_isWarmth 3 = .ok (.bipush 40, 2) := by decide +kernel
theorem dX5_isWarmth_5 : decode cX5_isWarmth 5 = .ok (.invokestatic 30, 3) := by decide +kernel
theorem dX5_isWarmth_8 : decode cX5_isWarmth 8 = .ok (.ireturn, 1) := by decide +kernel
theorem dX5_lossAt_0 : decode cX5_lossAt 0 = .ok (.iload_n 0, 1) := by decide +kernel
theorem dX5_lossAt_1 : decode cX5_lossAt 1 = .ok (.bipush 25, 2) := by decide +kernel
theorem dX5_lossAt_3 : decode cX5_lossAt 3 = .ok (.if_icmp .lt 5, 3) := by decide +kernel
theorem dX5_lossAt_6 : decode cX5_lossAt 6 = .ok (.iconst 3, 1) := by decide +kernel
theorem dX5_lossAt_7 : decode cX5_lossAt 7 = .ok (.ireturn, 1) := by decide +kernel
theorem dX5_lossAt_8 : decode cX5_lossAt 8 = .ok (.iload_n 0, 1) := by decide +kernel
theorem dX5_lossAt_9 : decode cX5_lossAt 9 = .ok (.bipush 18, 2) := by decide +kernel
theorem dX5_lossAt_11 : decode cX5_lossAt 11 = .ok (.if_icmp .lt 7, 3) := by decide +kernel
theorem dX5_lossAt_14 : decode cX5_lossAt 14 = .ok (.iconst 2, 1) := by decide +kernel
theorem dX5_lossAt_15 : decode cX5_lossAt 15 = .ok (.goto 4, 3) := by decide +kernel
theorem dX5_lossAt_18 : decode cX5_lossAt 18 = .ok (.iconst 1, 1) := by decide +kernel
theorem dX5_lossAt_19 : decode cX5_lossAt 19 = .ok (.ireturn, 1) := by decide +kernel
set_option maxRecDepth 20000 in
theorem ggX5_hourGone_X5_reckonedWarmth : GoodIn wsX5_hourGone wsX5_reckonedWarmth := goodIn_r _ [5, 6, 7, 8, 9, 10, 4, 11, 12, 13, 14, 15, 16, 17, 18, 19, 20, 21, 22, 26, 27, 28, 29] (by decide +kernel) (by decide +kernel)
set_option maxRecDepth 20000 in
theorem gX5_hourGone_X5_reckonedWarmth : GoodIn wsX5_hourGone (wsV RX5 34 RX5 yX5_reckonedWarmth wsX5_reckonedWarmth) := goodIn_app (goodIn_of _ (by decide +kernel)) ggX5_hourGone_X5_reckonedWarmth
set_option maxRecDepth 20000 in
theorem ggX5_hourGone_X5_lossAt : GoodIn wsX5_hourGone wsX5_lossAt := goodIn_r _ [25] (by decide +kernel) (by decide +kernel)
set_option maxRecDepth 20000 in
theorem gX5_hourGone_X5_lossAt : GoodIn wsX5_hourGone (va_wsS RX5 38 yX5_lossAt wsX5_lossAt) := goodIn_app (goodIn_of _ (by decide +kernel)) ggX5_hourGone_X5_lossAt
theorem dX5_hourGone_0 : decode cX5_hourGone 0 = .ok (.bipush 60, 2) := by decide +kernel
theorem dX5_hourGone_2 : decode cX5_hourGone 2 = .ok (.istore 4, 2) := by decide +kernel
theorem dX5_hourGone_4 : decode cX5_hourGone 4 = .ok (.iload_n 1, 1) := by decide +kernel
theorem dX5_hourGone_5 : decode cX5_hourGone 5 = .ok (.istore 5, 2) := by decide +kernel
theorem dX5_hourGone_7 : decode cX5_hourGone 7 = .ok (.iload 4, 2) := by decide +kernel
theorem dX5_hourGone_9 : decode cX5_hourGone 9 = .ok (.ifCond .le 37, 3) := by decide +kernel
theorem dX5_hourGone_12 : decode cX5_hourGone 12 = .ok (.iload 5, 2) := by decide +kernel
theorem dX5_hourGone_14 : decode cX5_hourGone 14 = .ok (.iload_n 1, 1) := by decide +kernel
theorem dX5_hourGone_15 : decode cX5_hourGone 15 = .ok (.bipush 60, 2) := by decide +kernel
theorem dX5_hourGone_17 : decode cX5_hourGone 17 = .ok (.iadd, 1) := by decide +kernel
theorem dX5_hourGone_18 : decode cX5_hourGone 18 = .ok (.if_icmp .ge 28, 3) := by decide +kernel
theorem dX5_hourGone_21 : decode cX5_hourGone 21 = .ok (.iinc 5 1, 3) := by decide +kernel
theorem dX5_hourGone_24 : decode cX5_hourGone 24 = .ok (.iload 4, 2) := by decide +kernel
theorem dX5_hourGone_26 : decode cX5_hourGone 26 = .ok (.aload_n 0, 1) := by decide +kernel
theorem dX5_hourGone_27 : decode cX5_hourGone 27 = .ok (.iload 5, 2) := by decide +kernel
theorem dX5_hourGone_29 : decode cX5_hourGone 29 = .ok (.bipush 24, 2) := by decide +kernel
theorem dX5_hourGone_31 : decode cX5_hourGone 31 = .ok (.idiv, 1) := by decide +kernel
theorem dX5_hourGone_32 : decode cX5_hourGone 32 = .ok (.iload_n 2, 1) := by decide +kernel
theorem dX5_hourGone_33 : decode cX5_hourGone 33 = .ok (.iload_n 3, 1) := by decide +kernel
theorem dX5_hourGone_34 : decode cX5_hourGone 34 = .ok (.invokevirtual 34, 3) := by decide +kernel
theorem dX5_hourGone_37 : decode cX5_hourGone 37 = .ok (.invokestatic 38, 3) := by decide +kernel
theorem dX5_hourGone_40 : decode cX5_hourGone 40 = .ok (.isub, 1) := by decide +kernel
theorem dX5_hourGone_41 : decode cX5_hourGone 41 = .ok (.istore 4, 2) := by decide +kernel
theorem dX5_hourGone_43 : decode cX5_hourGone 43 = .ok (.goto (-36), 3) := by decide +kernel
theorem dX5_hourGone_46 : decode cX5_hourGone 46 = .ok (.iload 5, 2) := by decide +kernel
theorem dX5_hourGone_48 : decode cX5_hourGone 48 = .ok (.ireturn, 1) := by decide +kernel
set_option maxRecDepth 20000 in
theorem ggX5_warmthOf_X5_held : GoodIn wsX5_warmthOf wsX5_held := goodIn_r _ [5, 6, 7, 8, 9, 10, 11, 12] (by decide +kernel) (by decide +kernel)
set_option maxRecDepth 20000 in
theorem gX5_warmthOf_X5_held : GoodIn wsX5_warmthOf (va_wsS RX5 42 yX5_held wsX5_held) := goodIn_app (goodIn_of _ (by decide +kernel)) ggX5_warmthOf_X5_held
theorem dX5_warmthOf_0 : decode cX5_warmthOf 0 = .ok (.aload_n 0, 1) := by decide +kernel
theorem dX5_warmthOf_1 : decode cX5_warmthOf 1 = .ok (.getfield 11, 3) := by decide +kernel
theorem dX5_warmthOf_4 : decode cX5_warmthOf 4 = .ok (.iload_n 1, 1) := by decide +kernel
theorem dX5_warmthOf_5 : decode cX5_warmthOf 5 = .ok (.invokestatic 42, 3) := by decide +kernel
theorem dX5_warmthOf_8 : decode cX5_warmthOf 8 = .ok (.iaload, 1) := by decide +kernel
theorem dX5_warmthOf_9 : decode cX5_warmthOf 9 = .ok (.ireturn, 1) := by decide +kernel
set_option maxRecDepth 20000 in
theorem ggX5_bloomOf_X5_held : GoodIn wsX5_bloomOf wsX5_held := goodIn_r _ [5, 6, 7, 8, 9, 10, 11, 12] (by decide +kernel) (by decide +kernel)
set_option maxRecDepth 20000 in
theorem gX5_bloomOf_X5_held : GoodIn wsX5_bloomOf (va_wsS RX5 42 yX5_held wsX5_held) := goodIn_app (goodIn_of _ (by decide +kernel)) ggX5_bloomOf_X5_held
theorem dX5_bloomOf_0 : decode cX5_bloomOf 0 = .ok (.aload_n 0, 1) := by decide +kernel
theorem dX5_bloomOf_1 : decode cX5_bloomOf 1 = .ok (.getfield 15, 3) := by decide +kernel
theorem dX5_bloomOf_4 : decode cX5_bloomOf 4 = .ok (.iload_n 1, 1) := by decide +kernel
theorem dX5_bloomOf_5 : decode cX5_bloomOf 5 = .ok (.invokestatic 42, 3) := by decide +kernel
theorem dX5_bloomOf_8 : decode cX5_bloomOf 8 = .ok (.iaload, 1) := by decide +kernel
theorem dX5_bloomOf_9 : decode cX5_bloomOf 9 = .ok (.ireturn, 1) := by decide +kernel
set_option maxRecDepth 20000 in
theorem ggX5_reckonedWarmth_X5_warmthOf : GoodIn wsX5_reckonedWarmth wsX5_warmthOf := goodIn_r _ [7, 8, 9, 10, 6, 11, 12, 13, 14, 15, 16, 17, 18, 19, 20, 21, 22] (by decide +kernel) (by decide +kernel)
set_option maxRecDepth 20000 in
theorem gX5_reckonedWarmth_X5_warmthOf : GoodIn wsX5_reckonedWarmth (wsV RX5 45 RX5 yX5_warmthOf wsX5_warmthOf) := goodIn_app (goodIn_of _ (by decide +kernel)) ggX5_reckonedWarmth_X5_warmthOf
set_option maxRecDepth 20000 in
theorem ggX5_reckonedWarmth_X5_held : GoodIn wsX5_reckonedWarmth wsX5_held := goodIn_r _ [11, 12, 13, 14, 15, 16, 17, 18] (by decide +kernel) (by decide +kernel)
set_option maxRecDepth 20000 in
theorem gX5_reckonedWarmth_X5_held : GoodIn wsX5_reckonedWarmth (va_wsS RX5 42 yX5_held wsX5_held) := goodIn_app (goodIn_of _ (by decide +kernel)) ggX5_reckonedWarmth_X5_held
theorem dX5_reckonedWarmth_0 : decode cX5_reckonedWarmth 0 = .ok (.iload_n 1, 1) := by decide +kernel
theorem dX5_reckonedWarmth_1 : decode cX5_reckonedWarmth 1 = .ok (.iload_n 2, 1) := by decide +kernel
theorem dX5_reckonedWarmth_2 : decode cX5_reckonedWarmth 2 = .ok (.if_icmp .gt 9, 3) := by decide +kernel
theorem dX5_reckonedWarmth_5 : decode cX5_reckonedWarmth 5 = .ok (.aload_n 0, 1) := by decide +kernel
theorem dX5_reckonedWarmth_6 : decode cX5_reckonedWarmth 6 = .ok (.iload_n 1, 1) := by decide +kernel
theorem dX5_reckonedWarmth_7 : decode cX5_reckonedWarmth 7 = .ok (.invokevirtual 45, 3) := by decide +kernel
theorem dX5_reckonedWarmth_10 : decode cX5_reckonedWarmth 10 = .ok (.ireturn, 1) := by decide +kernel
theorem dX5_reckonedWarmth_11 : decode cX5_reckonedWarmth 11 = .ok (.iload_n 3, 1) := by decide +kernel
theorem dX5_reckonedWarmth_12 : decode cX5_reckonedWarmth 12 = .ok (.ifCond .eq 15, 3) := by decide +kernel
theorem dX5_reckonedWarmth_15 : decode cX5_reckonedWarmth 15 = .ok (.aload_n 0, 1) := by decide +kernel
theorem dX5_reckonedWarmth_16 : decode cX5_reckonedWarmth 16 = .ok (.getfield 21, 3) := by decide +kernel
theorem dX5_reckonedWarmth_19 : decode cX5_reckonedWarmth 19 = .ok (.iload_n 1, 1) := by decide +kernel
theorem dX5_reckonedWarmth_20 : decode cX5_reckonedWarmth 20 = .ok (.invokestatic 42, 3) := by decide +kernel
theorem dX5_reckonedWarmth_23 : decode cX5_reckonedWarmth 23 = .ok (.iaload, 1) := by decide +kernel
theorem dX5_reckonedWarmth_24 : decode cX5_reckonedWarmth 24 = .ok (.goto 12, 3) := by decide +kernel
theorem dX5_reckonedWarmth_27 : decode cX5_reckonedWarmth 27 = .ok (.aload_n 0, 1) := by decide +kernel
theorem dX5_reckonedWarmth_28 : decode cX5_reckonedWarmth 28 = .ok (.getfield 18, 3) := by decide +kernel
theorem dX5_reckonedWarmth_31 : decode cX5_reckonedWarmth 31 = .ok (.iload_n 1, 1) := by decide +kernel
theorem dX5_reckonedWarmth_32 : decode cX5_reckonedWarmth 32 = .ok (.invokestatic 42, 3) := by decide +kernel
theorem dX5_reckonedWarmth_35 : decode cX5_reckonedWarmth 35 = .ok (.iaload, 1) := by decide +kernel
theorem dX5_reckonedWarmth_36 : decode cX5_reckonedWarmth 36 = .ok (.ireturn, 1) := by decide +kernel
theorem dX5_held_0 : decode cX5_held 0 = .ok (.iconst 0, 1) := by decide +kernel
theorem dX5_held_1 : decode cX5_held 1 = .ok (.iload_n 0, 1) := by decide +kernel
theorem dX5_held_2 : decode cX5_held 2 = .ok (.bipush 30, 2) := by decide +kernel
theorem dX5_held_4 : decode cX5_held 4 = .ok (.invokestatic 48, 3) := by decide +kernel
theorem dX5_held_7 : decode cX5_held 7 = .ok (.invokestatic 54, 3) := by decide +kernel
theorem dX5_held_10 : decode cX5_held 10 = .ok (.ireturn, 1) := by decide +kernel
set_option maxRecDepth 20000 in
theorem ggX6_init_X6_drifted : GoodIn wsX6_init wsX6_drifted := goodIn_r _ [18, 19, 20, 21, 22, 23, 24, 25] (by decide +kernel) (by decide +kernel)
set_option maxRecDepth 20000 in
theorem gX6_init_X6_drifted : GoodIn wsX6_init (va_wsS RX6 39 yX6_drifted wsX6_drifted) := goodIn_app (goodIn_of _ (by decide +kernel)) ggX6_init_X6_drifted
theorem dX6_init_0 : decode cX6_init 0 = .ok (.aload_n 0, 1) := by decide +kernel
theorem dX6_init_1 : decode cX6_init 1 = .ok (.invokespecial 3, 3) := by decide +kernel
theorem dX6_init_4 : decode cX6_init 4 = .ok (.aload_n 0, 1) := by decide +kernel
theorem dX6_init_5 : decode cX6_init 5 = .ok (.bipush 60, 2) := by decide +kernel
theorem dX6_init_7 : decode cX6_init 7 = .ok (.putfield 9, 3) := by decide +kernel
theorem dX6_init_10 : decode cX6_init 10 = .ok (.aload_n 0, 1) := by decide +kernel
theorem dX6_init_11 : decode cX6_init 11 = .ok (.iconst 0, 1) := by decide +kernel
theorem dX6_init_12 : decode cX6_init 12 = .ok (.putfield 15, 3) := by decide +kernel
theorem dX6_init_15 : decode cX6_init 15 = .ok (.aload_n 0, 1) := by decide +kernel
theorem dX6_init_16 : decode cX6_init 16 = .ok (.iconst (-1), 1) := by decide +kernel
theorem dX6_init_17 : decode cX6_init 17 = .ok (.putfield 18, 3) := by decide +kernel
theorem dX6_init_20 : decode cX6_init 20 = .ok (.aload_n 0, 1) := by decide +kernel
theorem dX6_init_21 : decode cX6_init 21 = .ok (.iconst (-1), 1) := by decide +kernel
theorem dX6_init_22 : decode cX6_init 22 = .ok (.putfield 21, 3) := by decide +kernel
theorem dX6_init_25 : decode cX6_init 25 = .ok (.aload_n 0, 1) := by decide +kernel
theorem dX6_init_26 : decode cX6_init 26 = .ok (.iconst (-1), 1) := by decide +kernel
theorem dX6_init_27 : decode cX6_init 27 = .ok (.putfield 24, 3) := by decide +kernel
theorem dX6_init_30 : decode cX6_init 30 = .ok (.iload_n 3, 1) := by decide +kernel
theorem dX6_init_31 : decode cX6_init 31 = .ok (.bipush 24, 2) := by decide +kernel
theorem dX6_init_33 : decode cX6_init 33 = .ok (.idiv, 1) := by decide +kernel
theorem dX6_init_34 : decode cX6_init 34 = .ok (.istore 4, 2) := by decide +kernel
theorem dX6_init_36 : decode cX6_init 36 = .ok (.aload_n 0, 1) := by decide +kernel
theorem dX6_init_37 : decode cX6_init 37 = .ok (.iload_n 1, 1) := by decide +kernel
theorem dX6_init_38 : decode cX6_init 38 = .ok (.putfield 27, 3) := by decide +kernel
theorem dX6_init_41 : decode cX6_init 41 = .ok (.aload_n 0, 1) := by decide +kernel
theorem dX6_init_42 : decode cX6_init 42 = .ok (.aload_n 2, 1) := by decide +kernel
theorem dX6_init_43 : decode cX6_init 43 = .ok (.getfield 30, 3) := by decide +kernel
theorem dX6_init_46 : decode cX6_init 46 = .ok (.iconst 2, 1) := by decide +kernel
theorem dX6_init_47 : decode cX6_init 47 = .ok (.idiv, 1) := by decide +kernel
theorem dX6_init_48 : decode cX6_init 48 = .ok (.putfield 35, 3) := by decide +kernel
theorem dX6_init_51 : decode cX6_init 51 = .ok (.aload_n 0, 1) := by decide +kernel
theorem dX6_init_52 : decode cX6_init 52 = .ok (.aload_n 2, 1) := by decide +kernel
theorem dX6_init_53 : decode cX6_init 53 = .ok (.getfield 36, 3) := by decide +kernel
theorem dX6_init_56 : decode cX6_init 56 = .ok (.aload_n 2, 1) := by decide +kernel
theorem dX6_init_57 : decode cX6_init 57 = .ok (.getfield 30, 3) := by decide +kernel
theorem dX6_init_60 : decode cX6_init 60 = .ok (.sipush 1000, 3) := by decide +kernel
theorem dX6_init_63 : decode cX6_init 63 = .ok (.idiv, 1) := by decide +kernel
theorem dX6_init_64 : decode cX6_init 64 = .ok (.iload 4, 2) := by decide +kernel
theorem dX6_init_66 : decode cX6_init 66 = .ok (.iadd, 1) := by decide +kernel
theorem dX6_init_67 : decode cX6_init 67 = .ok (.invokestatic 39, 3) := by decide +kernel
theorem dX6_init_70 : decode cX6_init 70 = .ok (.putfield 43, 3) := by decide +kernel
theorem dX6_init_73 : decode cX6_init 73 = .ok (.aload_n 0, 1) := by decide +kernel
theorem dX6_init_74 : decode cX6_init 74 = .ok (.aload_n 2, 1) := by decide +kernel
theorem dX6_init_75 : decode cX6_init 75 = .ok (.getfield 44, 3) := by decide +kernel
theorem dX6_init_78 : decode cX6_init 78 = .ok (.aload_n 2, 1) := by decide +kernel
theorem dX6_init_79 : decode cX6_init 79 = .ok (.getfield 30, 3) := by decide +kernel
theorem dX6_init_82 : decode cX6_init 82 = .ok (.bipush 100, 2) := by decide +kernel
theorem dX6_init_84 : decode cX6_init 84 = .ok (.idiv, 1) := by decide +kernel
theorem dX6_init_85 : decode cX6_init 85 = .ok (.iload 4, 2) := by decide +kernel
theorem dX6_init_87 : decode cX6_init 87 = .ok (.iadd, 1) := by decide +kernel
theorem dX6_init_88 : decode cX6_init 88 = .ok (.invokestatic 39, 3) := by decide +kernel
theorem dX6_init_91 : decode cX6_init 91 = .ok (.putfield 47, 3) := by decide +kernel
theorem dX6_init_94 : decode cX6_init 94 = .ok (.aload_n 0, 1) := by decide +kernel
theorem dX6_init_95 : decode cX6_init 95 = .ok (.aload_n 2, 1) := by decide +kernel
theorem dX6_init_96 : decode cX6_init 96 = .ok (.getfield 30, 3) := by decide +kernel
theorem dX6_init_99 : decode cX6_init 99 = .ok (.bipush 10, 2) := by decide +kernel
theorem dX6_init_101 : decode cX6_init 101 = .ok (.idiv, 1) := by decide +kernel
theorem dX6_init_102 : decode cX6_init 102 = .ok (.bipush 9, 2) := by decide +kernel
theorem dX6_init_104 : decode cX6_init 104 = .ok (.irem, 1) := by decide +kernel
theorem dX6_init_105 : decode cX6_init 105 = .ok (.iconst 1, 1) := by decide +kernel
theorem dX6_init_106 : decode cX6_init 106 = .ok (.iadd, 1) := by decide +kernel
theorem dX6_init_107 : decode cX6_init 107 = .ok (.putfield 48, 3) := by decide +kernel
theorem dX6_init_110 : decode cX6_init 110 = .ok (.aload_n 0, 1) := by decide +kernel
theorem dX6_init_111 : decode cX6_init 111 = .ok (.iload_n 3, 1) := by decide +kernel
theorem dX6_init_112 : decode cX6_init 112 = .ok (.putfield 51, 3) := by decide +kernel
theorem dX6_init_115 : decode cX6_init 115 = .ok (.return_, 1) := by decide +kernel
theorem dX6_drifted_0 : decode cX6_drifted 0 = .ok (.iconst 0, 1) := by decide +kernel
theorem dX6_drifted_1 : decode cX6_drifted 1 = .ok (.bipush 19, 2) := by decide +kernel
theorem dX6_drifted_3 : decode cX6_drifted 3 = .ok (.iload_n 0, 1) := by decide +kernel
theorem dX6_drifted_4 : decode cX6_drifted 4 = .ok (.iload_n 1, 1) := by decide +kernel
theorem dX6_drifted_5 : decode cX6_drifted 5 = .ok (.bipush 7, 2) := by decide +kernel
theorem dX6_drifted_7 : decode cX6_drifted 7 = .ok (.irem, 1) := by decide +kernel
theorem dX6_drifted_8 : decode cX6_drifted 8 = .ok (.iadd, 1) := by decide +kernel
theorem dX6_drifted_9 : decode cX6_drifted 9 = .ok (.iconst 3, 1) := by decide +kernel
theorem dX6_drifted_10 : decode cX6_drifted 10 = .ok (.isub, 1) := by decide +kernel
theorem dX6_drifted_11 : decode cX6_drifted 11 = .ok (.invokestatic 54, 3) := by decide +kernel
theorem dX6_drifted_14 : decode cX6_drifted 14 = .ok (.invokestatic 59, 3) := by decide +kernel
theorem dX6_drifted_17 : decode cX6_drifted 17 = .ok (.ireturn, 1) := by decide +kernel
theorem dX6_losePatience_0 : decode cX6_losePatience 0 = .ok (.aload_n 0, 1) := by decide +kernel
theorem dX6_losePatience_1 : decode cX6_losePatience 1 = .ok (.getfield 15, 3) := by decide +kernel
theorem dX6_losePatience_4 : decode cX6_losePatience 4 = .ok (.ifCond .eq 4, 3) := by decide +kernel
theorem dX6_losePatience_7 : decode cX6_losePatience 7 = .ok (.return_, 1) := by decide +kernel
theorem dX6_losePatience_8 : decode cX6_losePatience 8 = .ok (.aload_n 0, 1) := by decide +kernel
theorem dX6_losePatience_9 : decode cX6_losePatience 9 = .ok (.dup, 1) := by decide +kernel
theorem dX6_losePatience_10 : decode cX6_losePatience 10 = .ok (.getfield 9, 3) := by decide +kernel
theorem dX6_losePatience_13 : decode cX6_losePatience 13 = .ok (.iload_n 1, 1) := by decide +kernel
theorem dX6_losePatience_14 : decode cX6_losePatience 14 = .ok (.isub, 1) := by decide +kernel
theorem dX6_losePatience_15 : decode cX6_losePatience 15 = .ok (.putfield 9, 3) := by decide +kernel
theorem dX6_losePatience_18 : decode cX6_losePatience 18 = .ok (.aload_n 0, 1) := by decide +kernel
theorem dX6_losePatience_19 : decode cX6_losePatience 19 = .ok (.getfield 9, 3) := by decide +kernel
theorem dX6_losePatience_22 : decode cX6_losePatience 22 = .ok (.ifCond .gt 13, 3) := by decide +kernel
theorem dX6_losePatience_25 : decode cX6_losePatience 25 = .ok (.aload_n 0, 1) := by decide +kernel
theorem dX6_losePatience_26 : decode cX6_losePatience 26 = .ok (.iconst 2, 1) := by decide +kernel
theorem dX6_losePatience_27 : decode cX6_losePatience 27 = .ok (.putfield 15, 3) := by decide +kernel
theorem dX6_losePatience_30 : decode cX6_losePatience 30 = .ok (.aload_n 0, 1) := by decide +kernel
theorem dX6_losePatience_31 : decode cX6_losePatience 31 = .ok (.iload_n 2, 1) := by decide +kernel
theorem dX6_losePatience_32 : decode cX6_losePatience 32 = .ok (.putfield 24, 3) := by decide +kernel
theorem dX6_losePatience_35 : decode cX6_losePatience 35 = .ok (.return_, 1) := by decide +kernel
theorem dX6_isHadBy_0 : decode cX6_isHadBy 0 = .ok (.aload_n 0, 1) := by decide +kernel
theorem dX6_isHadBy_1 : decode cX6_isHadBy 1 = .ok (.iconst 1, 1) := by decide +kernel
theorem dX6_isHadBy_2 : decode cX6_isHadBy 2 = .ok (.putfield 15, 3) := by decide +kernel
theorem dX6_isHadBy_5 : decode cX6_isHadBy 5 = .ok (.aload_n 0, 1) := by decide +kernel
theorem dX6_isHadBy_6 : decode cX6_isHadBy 6 = .ok (.iload_n 1, 1) := by decide +kernel
theorem dX6_isHadBy_7 : decode cX6_isHadBy 7 = .ok (.putfield 18, 3) := by decide +kernel
theorem dX6_isHadBy_10 : decode cX6_isHadBy 10 = .ok (.aload_n 0, 1) := by decide +kernel
theorem dX6_isHadBy_11 : decode cX6_isHadBy 11 = .ok (.iload_n 2, 1) := by decide +kernel
theorem dX6_isHadBy_12 : decode cX6_isHadBy 12 = .ok (.putfield 21, 3) := by decide +kernel
theorem dX6_isHadBy_15 : decode cX6_isHadBy 15 = .ok (.aload_n 0, 1) := by decide +kernel
theorem dX6_isHadBy_16 : decode cX6_isHadBy 16 = .ok (.iload_n 3, 1) := by decide +kernel
theorem dX6_isHadBy_17 : decode cX6_isHadBy 17 = .ok (.putfield 24, 3) := by decide +kernel
theorem dX6_isHadBy_20 : decode cX6_isHadBy 20 = .ok (.return_, 1) := by decide +kernel
theorem dX6_told_0 : decode cX6_told 0 = .ok (.iload_n 1, 1) := by decide +kernel
theorem dX6_told_1 : decode cX6_told 1 = .ok (.tableswitch 105 0 9 #[55, 60, 65, 70, 75, 80, 85, 90, 95, 100], 55) := by decide +kernel
theorem dX6_told_56 : decode cX6_told 56 = .ok (.aload_n 0, 1) := by decide +kernel
theorem dX6_told_57 : decode cX6_told 57 = .ok (.getfield 15, 3) := by decide +kernel
theorem dX6_told_60 : decode cX6_told 60 = .ok (.ireturn, 1) := by decide +kernel
theorem dX6_told_61 : decode cX6_told 61 = .ok (.aload_n 0, 1) := by decide +kernel
theorem dX6_told_62 : decode cX6_told 62 = .ok (.getfield 27, 3) := by decide +kernel
theorem dX6_told_65 : decode cX6_told 65 = .ok (.ireturn, 1) := by decide +kernel
theorem dX6_told_66 : decode cX6_told 66 = .ok (.aload_n 0, 1) := by decide +kernel
theorem dX6_told_67 : decode cX6_told 67 = .ok (.getfield 35, 3) := by decide +kernel
theorem dX6_told_70 : decode cX6_told 70 = .ok (.ireturn, 1) := by decide +kernel
theorem dX6_told_71 : decode cX6_told 71 = .ok (.aload_n 0, 1) := by decide +kernel
theorem dX6_told_72 : decode cX6_told 72 = .ok (.getfield 43, 3) := by decide +kernel
theorem dX6_told_75 : decode cX6_told 75 = .ok (.ireturn, 1) := by decide +kernel
theorem dX6_told_76 : decode cX6_told 76 = .ok (.aload_n 0, 1) := by decide +kernel
theorem dX6_told_77 : decode cX6_told 77 = .ok (.getfield 47, 3) := by decide +kernel
theorem dX6_told_80 : decode cX6_told 80 = .ok (.ireturn, 1) := by decide +kernel
theorem dX6_told_81 : decode cX6_told 81 = .ok (.aload_n 0, 1) := by decide +kernel
theorem dX6_told_82 : decode cX6_told 82 = .ok (.getfield 48, 3) := by decide +kernel
theorem dX6_told_85 : decode cX6_told 85 = .ok (.ireturn, 1) := by decide +kernel
theorem dX6_told_86 : decode cX6_told 86 = .ok (.aload_n 0, 1) := by decide +kernel
theorem dX6_told_87 : decode cX6_told 87 = .ok (.getfield 51, 3) := by decide +kernel
theorem dX6_told_90 : decode cX6_told 90 = .ok (.ireturn, 1) := by decide +kernel
theorem dX6_told_91 : decode cX6_told 91 = .ok (.aload_n 0, 1) := by decide +kernel
theorem dX6_told_92 : decode cX6_told 92 = .ok (.getfield 9, 3) := by decide +kernel
theorem dX6_told_95 : decode cX6_told 95 = .ok (.ireturn, 1) := by decide +kernel
theorem dX6_told_96 : decode cX6_told 96 = .ok (.aload_n 0, 1) := by decide +kernel
theorem dX6_told_97 : decode cX6_told 97 = .ok (.getfield 18, 3) := by decide +kernel
theorem dX6_told_100 : decode cX6_told 100 = .ok (.ireturn, 1) := by decide +kernel
theorem dX6_told_101 : decode cX6_told 101 = .ok (.aload_n 0, 1) := by decide +kernel
theorem dX6_told_102 : decode cX6_told 102 = .ok (.getfield 24, 3) := by decide +kernel
theorem dX6_told_105 : decode cX6_told 105 = .ok (.ireturn, 1) := by decide +kernel
theorem dX6_told_106 : decode cX6_told 106 = .ok (.new 62, 3) := by decide +kernel
theorem dX6_told_109 : decode cX6_told 109 = .ok (.dup, 1) := by decide +kernel
theorem dX6_told_110 : decode cX6_told 110 = .ok (.ldc 64, 2) := by decide +kernel
theorem dX6_told_112 : decode cX6_told 112 = .ok (.invokespecial 66, 3) := by decide +kernel
theorem dX6_told_115 : decode cX6_told 115 = .ok (.athrow, 1) := by decide +kernel
theorem dX7_init_0 : decode cX7_init 0 = .ok (.aload_n 0, 1) := by decide +kernel
theorem dX7_init_1 : decode cX7_init 1 = .ok (.invokespecial 3, 3) := by decide +kernel
theorem dX7_init_4 : decode cX7_init 4 = .ok (.aload_n 0, 1) := by decide +kernel
theorem dX7_init_5 : decode cX7_init 5 = .ok (.sipush 400, 3) := by decide +kernel
theorem dX7_init_8 : decode cX7_init 8 = .ok (.newarray .byte, 2) := by decide +kernel
theorem dX7_init_10 : decode cX7_init 10 = .ok (.putfield 11, 3) := by decide +kernel
theorem dX7_init_13 : decode cX7_init 13 = .ok (.aload_n 0, 1) := by decide +kernel
theorem dX7_init_14 : decode cX7_init 14 = .ok (.iconst 0, 1) := by decide +kernel
theorem dX7_init_15 : decode cX7_init 15 = .ok (.putfield 15, 3) := by decide +kernel
theorem dX7_init_18 : decode cX7_init 18 = .ok (.aload_n 0, 1) := by decide +kernel
theorem dX7_init_19 : decode cX7_init 19 = .ok (.iconst 0, 1) := by decide +kernel
theorem dX7_init_20 : decode cX7_init 20 = .ok (.putfield 19, 3) := by decide +kernel
theorem dX7_init_23 : decode cX7_init 23 = .ok (.aload_n 0, 1) := by decide +kernel
theorem dX7_init_24 : decode cX7_init 24 = .ok (.iconst 0, 1) := by decide +kernel
theorem dX7_init_25 : decode cX7_init 25 = .ok (.putfield 22, 3) := by decide +kernel
theorem dX7_init_28 : decode cX7_init 28 = .ok (.aload_n 0, 1) := by decide +kernel
theorem dX7_init_29 : decode cX7_init 29 = .ok (.iconst 0, 1) := by decide +kernel
theorem dX7_init_30 : decode cX7_init 30 = .ok (.putfield 25, 3) := by decide +kernel
theorem dX7_init_33 : decode cX7_init 33 = .ok (.return_, 1) := by decide +kernel
theorem dX7_hasRoomFor_0 : decode cX7_hasRoomFor 0 = .ok (.aload_n 0, 1) := by decide +kernel
theorem dX7_hasRoomFor_1 : decode cX7_hasRoomFor 1 = .ok (.getfield 15, 3) := by decide +kernel
theorem dX7_hasRoomFor_4 : decode cX7_hasRoomFor 4 = .ok (.iload_n 1, 1) := by decide +kernel
theorem dX7_hasRoomFor_5 : decode cX7_hasRoomFor 5 = .ok (.iadd, 1) := by decide +kernel
theorem dX7_hasRoomFor_6 : decode cX7_hasRoomFor 6 = .ok (.sipush 400, 3) := by decide +kernel
theorem dX7_hasRoomFor_9 : decode cX7_hasRoomFor 9 = .ok (.if_icmp .gt 7, 3) := by decide +kernel
theorem dX7_hasRoomFor_12 : decode cX7_hasRoomFor 12 = .ok (.iconst 1, 1) := by decide +kernel
theorem dX7_hasRoomFor_13 : decode cX7_hasRoomFor 13 = .ok (.goto 4, 3) := by decide +kernel
theorem dX7_hasRoomFor_16 : decode cX7_hasRoomFor 16 = .ok (.iconst 0, 1) := by decide +kernel
theorem dX7_hasRoomFor_17 : decode cX7_hasRoomFor 17 = .ok (.ireturn, 1) := by decide +kernel
set_option maxRecDepth 20000 in
theorem ggX7_append_X7_hasRoomFor : GoodIn wsX7_append wsX7_hasRoomFor := goodIn_r _ [7, 2, 8, 9, 10, 11, 12] (by decide +kernel) (by decide +kernel)
set_option maxRecDepth 20000 in
theorem gX7_append_X7_hasRoomFor : GoodIn wsX7_append (wsV RX7 28 RX7 yX7_hasRoomFor wsX7_hasRoomFor) := goodIn_app (goodIn_of _ (by decide +kernel)) ggX7_append_X7_hasRoomFor
theorem dX7_append_0 : decode cX7_append 0 = .ok (.aload_n 0, 1) := by decide +kernel
theorem dX7_append_1 : decode cX7_append 1 = .ok (.iconst 4, 1) := by decide +kernel
theorem dX7_append_2 : decode cX7_append 2 = .ok (.invokevirtual 28, 3) := by decide +kernel
theorem dX7_append_5 : decode cX7_append 5 = .ok (.ifCond .ne 4, 3) := by decide +kernel
theorem dX7_append_8 : decode cX7_append 8 = .ok (.return_, 1) := by decide +kernel
theorem dX7_append_9 : decode cX7_append 9 = .ok (.bipush 24, 2) := by decide +kernel
theorem dX7_append_11 : decode cX7_append 11 = .ok (.istore_n 2, 1) := by decide +kernel
theorem dX7_append_12 : decode cX7_append 12 = .ok (.iload_n 2, 1) := by decide +kernel
theorem dX7_append_13 : decode cX7_append 13 = .ok (.ifCond .lt 32, 3) := by decide +kernel
theorem dX7_append_16 : decode cX7_append 16 = .ok (.aload_n 0, 1) := by decide +kernel
theorem dX7_append_17 : decode cX7_append 17 = .ok (.getfield 11, 3) := by decide +kernel
theorem dX7_append_20 : decode cX7_append 20 = .ok (.aload_n 0, 1) := by decide +kernel
theorem dX7_append_21 : decode cX7_append 21 = .ok (.getfield 15, 3) := by decide +kernel
theorem dX7_append_24 : decode cX7_append 24 = .ok (.iload_n 1, 1) := by decide +kernel
theorem dX7_append_25 : decode cX7_append 25 = .ok (.iload_n 2, 1) := by decide +kernel
theorem dX7_append_26 : decode cX7_append 26 = .ok (.ishr, 1) := by decide +kernel
theorem dX7_append_27 : decode cX7_append 27 = .ok (.i2b, 1) := by decide +kernel
theorem dX7_append_28 : decode cX7_append 28 = .ok (.bastore, 1) := by decide +kernel
theorem dX7_append_29 : decode cX7_append 29 = .ok (.aload_n 0, 1) := by decide +kernel
theorem dX7_append_30 : decode cX7_append 30 = .ok (.dup, 1) := by decide +kernel
theorem dX7_append_31 : decode cX7_append 31 = .ok (.getfield 15, 3) := by decide +kernel
theorem dX7_append_34 : decode cX7_append 34 = .ok (.iconst 1, 1) := by decide +kernel
theorem dX7_append_35 : decode cX7_append 35 = .ok (.iadd, 1) := by decide +kernel
theorem dX7_append_36 : decode cX7_append 36 = .ok (.putfield 15, 3) := by decide +kernel
theorem dX7_append_39 : decode cX7_append 39 = .ok (.iinc 2 (-8), 3) := by decide +kernel
theorem dX7_append_42 : decode cX7_append 42 = .ok (.goto (-30), 3) := by decide +kernel
theorem dX7_append_45 : decode cX7_append 45 = .ok (.return_, 1) := by decide +kernel
theorem dX7_cutTo_0 : decode cX7_cutTo 0 = .ok (.iload_n 1, 1) := by decide +kernel
theorem dX7_cutTo_1 : decode cX7_cutTo 1 = .ok (.ifCond .lt 11, 3) := by decide +kernel
theorem dX7_cutTo_4 : decode cX7_cutTo 4 = .ok (.iload_n 1, 1) := by decide +kernel
theorem dX7_cutTo_5 : decode cX7_cutTo 5 = .ok (.aload_n 0, 1) := by decide +kernel
theorem dX7_cutTo_6 : decode cX7_cutTo 6 = .ok (.getfield 15, 3) := by decide +kernel
theorem dX7_cutTo_9 : decode cX7_cutTo 9 = .ok (.if_icmp .le 5, 3) := by decide +kernel
theorem dX7_cutTo_12 : decode cX7_cutTo 12 = .ok (.iconst 0, 1) := by decide +kernel
theorem dX7_cutTo_13 : decode cX7_cutTo 13 = .ok (.ireturn, 1) := by decide +kernel
theorem dX7_cutTo_14 : decode cX7_cutTo 14 = .ok (.aload_n 0, 1) := by decide +kernel
theorem dX7_cutTo_15 : decode cX7_cutTo 15 = .ok (.iload_n 1, 1) := by decide +kernel
theorem dX7_cutTo_16 : decode cX7_cutTo 16 = .ok (.putfield 15, 3) := by decide +kernel
theorem dX7_cutTo_19 : decode cX7_cutTo 19 = .ok (.iconst 1, 1) := by decide +kernel
theorem dX7_cutTo_20 : decode cX7_cutTo 20 = .ok (.ireturn, 1) := by decide +kernel
theorem dX7_rewind_0 : decode cX7_rewind 0 = .ok (.aload_n 0, 1) := by decide +kernel
theorem dX7_rewind_1 : decode cX7_rewind 1 = .ok (.iconst 0, 1) := by decide +kernel
theorem dX7_rewind_2 : decode cX7_rewind 2 = .ok (.putfield 22, 3) := by decide +kernel
theorem dX7_rewind_5 : decode cX7_rewind 5 = .ok (.return_, 1) := by decide +kernel
set_option maxRecDepth 20000 in
theorem ggX7_advance_X7_isLetter : GoodIn wsX7_advance wsX7_isLetter := goodIn_r _ [9] (by decide +kernel) (by decide +kernel)
set_option maxRecDepth 20000 in
theorem gX7_advance_X7_isLetter : GoodIn wsX7_advance (va_wsS RX7 32 yX7_isLetter wsX7_isLetter) := goodIn_app (goodIn_of _ (by decide +kernel)) ggX7_advance_X7_isLetter
set_option maxRecDepth 20000 in
theorem ggX7_advance_X7_isDigit : GoodIn wsX7_advance wsX7_isDigit := goodIn_r _ [12] (by decide +kernel) (by decide +kernel)
set_option maxRecDepth 20000 in
theorem gX7_advance_X7_isDigit : GoodIn wsX7_advance (va_wsS RX7 36 yX7_isDigit wsX7_isDigit) := goodIn_app (goodIn_of _ (by decide +kernel)) ggX7_advance_X7_isDigit
theorem dX7_advance_0 : decode cX7_advance 0 = .ok (.aload_n 0, 1) := by decide +kernel
theorem dX7_advance_1 : decode cX7_advance 1 = .ok (.getfield 22, 3) := by decide +kernel
theorem dX7_advance_4 : decode cX7_advance 4 = .ok (.aload_n 0, 1) := by decide +kernel
theorem dX7_advance_5 : decode cX7_advance 5 = .ok (.getfield 15, 3) := by decide +kernel
theorem dX7_advance_8 : decode cX7_advance 8 = .ok (.if_icmp .ge 30, 3) := by decide +kernel
theorem dX7_advance_11 : decode cX7_advance 11 = .ok (.aload_n 0, 1) := by decide +kernel
theorem dX7_advance_12 : decode cX7_advance 12 = .ok (.getfield 11, 3) := by decide +kernel
theorem dX7_advance_15 : decode cX7_advance 15 = .ok (.aload_n 0, 1) := by decide +kernel
theorem dX7_advance_16 : decode cX7_advance 16 = .ok (.getfield 22, 3) := by decide +kernel
theorem dX7_advance_19 : decode cX7_advance 19 = .ok (.baload, 1) := by decide +kernel
theorem dX7_advance_20 : decode cX7_advance 20 = .ok (.bipush 32, 2) := by decide +kernel
theorem dX7_advance_22 : decode cX7_advance 22 = .ok (.if_icmp .ne 16, 3) := by decide +kernel
theorem dX7_advance_25 : decode cX7_advance 25 = .ok (.aload_n 0, 1) := by decide +kernel
theorem dX7_advance_26 : decode cX7_advance 26 = .ok (.dup, 1) := by decide +kernel
theorem dX7_advance_27 : decode cX7_advance 27 = .ok (.getfield 22, 3) := by decide +kernel
theorem dX7_advance_30 : decode cX7_advance 30 = .ok (.iconst 1, 1) := by decide +kernel
theorem dX7_advance_31 : decode cX7_advance 31 = .ok (.iadd, 1) := by decide +kernel
theorem dX7_advance_32 : decode cX7_advance 32 = .ok (.putfield 22, 3) := by decide +kernel
theorem dX7_advance_35 : decode cX7_advance 35 = .ok (.goto (-35), 3) := by decide +kernel
theorem dX7_advance_38 : decode cX7_advance 38 = .ok (.aload_n 0, 1) := by decide +kernel
theorem dX7_advance_39 : decode cX7_advance 39 = .ok (.aload_n 0, 1) := by decide +kernel
theorem dX7_advance_40 : decode cX7_advance 40 = .ok (.getfield 22, 3) := by decide +kernel
theorem dX7_advance_43 : decode cX7_advance 43 = .ok (.putfield 19, 3) := by decide +kernel
theorem dX7_advance_46 : decode cX7_advance 46 = .ok (.aload_n 0, 1) := by decide +kernel
theorem dX7_advance_47 : decode cX7_advance 47 = .ok (.getfield 19, 3) := by decide +kernel
theorem dX7_advance_50 : decode cX7_advance 50 = .ok (.aload_n 0, 1) := by decide +kernel
theorem dX7_advance_51 : decode cX7_advance 51 = .ok (.getfield 15, 3) := by decide +kernel
theorem dX7_advance_54 : decode cX7_advance 54 = .ok (.if_icmp .lt 11, 3) := by decide +kernel
theorem dX7_advance_57 : decode cX7_advance 57 = .ok (.aload_n 0, 1) := by decide +kernel
theorem dX7_advance_58 : decode cX7_advance 58 = .ok (.iconst 0, 1) := by decide +kernel
theorem dX7_advance_59 : decode cX7_advance 59 = .ok (.putfield 25, 3) := by decide +kernel
theorem dX7_advance_62 : decode cX7_advance 62 = .ok (.goto 136, 3) := by decide +kernel
theorem dX7_advance_65 : decode cX7_advance 65 = .ok (.aload_n 0, 1) := by decide +kernel
theorem dX7_advance_66 : decode cX7_advance 66 = .ok (.getfield 11, 3) := by decide +kernel
theorem dX7_advance_69 : decode cX7_advance 69 = .ok (.aload_n 0, 1) := by decide +kernel
theorem dX7_advance_70 : decode cX7_advance 70 = .ok (.getfield 19, 3) := by decide +kernel
theorem dX7_advance_73 : decode cX7_advance 73 = .ok (.baload, 1) := by decide +kernel
theorem dX7_advance_74 : decode cX7_advance 74 = .ok (.invokestatic 32, 3) := by decide +kernel
theorem dX7_advance_77 : decode cX7_advance 77 = .ok (.ifCond .eq 47, 3) := by decide +kernel
theorem dX7_advance_80 : decode cX7_advance 80 = .ok (.aload_n 0, 1) := by decide +kernel
theorem dX7_advance_81 : decode cX7_advance 81 = .ok (.iconst 1, 1) := by decide +kernel
theorem dX7_advance_82 : decode cX7_advance 82 = .ok (.putfield 25, 3) := by decide +kernel
theorem dX7_advance_85 : decode cX7_advance 85 = .ok (.aload_n 0, 1) := by decide +kernel
theorem dX7_advance_86 : decode cX7_advance 86 = .ok (.getfield 22, 3) := by decide +kernel
theorem dX7_advance_89 : decode cX7_advance 89 = .ok (.aload_n 0, 1) := by decide +kernel
theorem dX7_advance_90 : decode cX7_advance 90 = .ok (.getfield 15, 3) := by decide +kernel
theorem dX7_advance_93 : decode cX7_advance 93 = .ok (.if_icmp .ge 105, 3) := by decide +kernel
theorem dX7_advance_96 : decode cX7_advance 96 = .ok (.aload_n 0, 1) := by decide +kernel
theorem dX7_advance_97 : decode cX7_advance 97 = .ok (.getfield 11, 3) := by decide +kernel
theorem dX7_advance_100 : decode cX7_advance 100 = .ok (.aload_n 0, 1) := by decide +kernel
theorem dX7_advance_101 : decode cX7_advance 101 = .ok (.getfield 22, 3) := by decide +kernel
theorem dX7_advance_104 : decode cX7_advance 104 = .ok (.baload, 1) := by decide +kernel
theorem dX7_advance_105 : decode cX7_advance 105 = .ok (.invokestatic 32, 3) := by decide +kernel
theorem dX7_advance_108 : decode cX7_advance 108 = .ok (.ifCond .eq 90, 3) := by decide +kernel
theorem dX7_advance_111 : decode cX7_advance 111 = .ok (.aload_n 0, 1) := by decide +kernel
theorem dX7_advance_112 : decode cX7_advance 112 = .ok (.dup, 1) := by decide +kernel
theorem dX7_advance_113 : decode cX7_advance 113 = .ok (.getfield 22, 3) := by decide +kernel
theorem dX7_advance_116 : decode cX7_advance 116 = .ok (.iconst 1, 1) := by decide +kernel
theorem dX7_advance_117 : decode cX7_advance 117 = .ok (.iadd, 1) := by decide +kernel
theorem dX7_advance_118 : decode cX7_advance 118 = .ok (.putfield 22, 3) := by decide +kernel
theorem dX7_advance_121 : decode cX7_advance 121 = .ok (.goto (-36), 3) := by decide +kernel
theorem dX7_advance_124 : decode cX7_advance 124 = .ok (.aload_n 0, 1) := by decide +kernel
theorem dX7_advance_125 : decode cX7_advance 125 = .ok (.getfield 11, 3) := by decide +kernel
theorem dX7_advance_128 : decode cX7_advance 128 = .ok (.aload_n 0, 1) := by decide +kernel
theorem dX7_advance_129 : decode cX7_advance 129 = .ok (.getfield 19, 3) := by decide +kernel
theorem dX7_advance_132 : decode cX7_advance 132 = .ok (.baload, 1) := by decide +kernel
theorem dX7_advance_133 : decode cX7_advance 133 = .ok (.invokestatic 36, 3) := by decide +kernel
theorem dX7_advance_136 : decode cX7_advance 136 = .ok (.ifCond .eq 47, 3) := by decide +kernel
theorem dX7_advance_139 : decode cX7_advance 139 = .ok (.aload_n 0, 1) := by decide +kernel
theorem dX7_advance_140 : decode cX7_advance 140 = .ok (.iconst 2, 1) := by decide +kernel
theorem dX7_advance_141 : decode cX7_advance 141 = .ok (.putfield 25, 3) := by decide +kernel
theorem dX7_advance_144 : decode cX7_advance 144 = .ok (.aload_n 0, 1) := by decide +kernel
theorem dX7_advance_145 : decode cX7_advance 145 = .ok (.getfield 22, 3) := by decide +kernel
theorem dX7_advance_148 : decode cX7_advance 148 = .ok (.aload_n 0, 1) := by decide +kernel
theorem dX7_advance_149 : decode cX7_advance 149 = .ok (.getfield 15, 3) := by decide +kernel
theorem dX7_advance_152 : decode cX7_advance 152 = .ok (.if_icmp .ge 46, 3) := by decide +kernel
theorem dX7_advance_155 : decode cX7_advance 155 = .ok (.aload_n 0, 1) := by decide +kernel
theorem dX7_advance_156 : decode cX7_advance 156 = .ok (.getfield 11, 3) := by decide +kernel
theorem dX7_advance_159 : decode cX7_advance 159 = .ok (.aload_n 0, 1) := by decide +kernel
theorem dX7_advance_160 : decode cX7_advance 160 = .ok (.getfield 22, 3) := by decide +kernel
theorem dX7_advance_163 : decode cX7_advance 163 = .ok (.baload, 1) := by decide +kernel
theorem dX7_advance_164 : decode cX7_advance 164 = .ok (.invokestatic 36, 3) := by decide +kernel
theorem dX7_advance_167 : decode cX7_advance 167 = .ok (.ifCond .eq 31, 3) := by decide +kernel
theorem dX7_advance_170 : decode cX7_advance 170 = .ok (.aload_n 0, 1) := by decide +kernel
theorem dX7_advance_171 : decode cX7_advance 171 = .ok (.dup, 1) := by decide +kernel
theorem dX7_advance_172 : decode cX7_advance 172 = .ok (.getfield 22, 3) := by decide +kernel
theorem dX7_advance_175 : decode cX7_advance 175 = .ok (.iconst 1, 1) := by decide +kernel
theorem dX7_advance_176 : decode cX7_advance 176 = .ok (.iadd, 1) := by decide +kernel
theorem dX7_advance_177 : decode cX7_advance 177 = .ok (.putfield 22, 3) := by decide +kernel
theorem dX7_advance_180 : decode cX7_advance 180 = .ok (.goto (-36), 3) := by decide +kernel
theorem dX7_advance_183 : decode cX7_advance 183 = .ok (.aload_n 0, 1) := by decide +kernel
theorem dX7_advance_184 : decode cX7_advance 184 = .ok (.iconst 3, 1) := by decide +kernel
theorem dX7_advance_185 : decode cX7_advance 185 = .ok (.putfield 25, 3) := by decide +kernel
theorem dX7_advance_188 : decode cX7_advance 188 = .ok (.aload_n 0, 1) := by decide +kernel
theorem dX7_advance_189 : decode cX7_advance 189 = .ok (.dup, 1) := by decide +kernel
theorem dX7_advance_190 : decode cX7_advance 190 = .ok (.getfield 22, 3) := by decide +kernel
theorem dX7_advance_193 : decode cX7_advance 193 = .ok (.iconst 1, 1) := by decide +kernel
theorem dX7_advance_194 : decode cX7_advance 194 = .ok (.iadd, 1) := by decide +kernel
theorem dX7_advance_195 : decode cX7_advance 195 = .ok (.putfield 22, 3) := by decide +kernel
theorem dX7_advance_198 : decode cX7_advance 198 = .ok (.return_, 1) := by decide +kernel
theorem dX7_isAtEnd_0 : decode cX7_isAtEnd 0 = .ok (.aload_n 0, 1) := by decide +kernel
theorem dX7_isAtEnd_1 : decode cX7_isAtEnd 1 = .ok (.getfield 25, 3) := by decide +kernel
theorem dX7_isAtEnd_4 : decode cX7_isAtEnd 4 = .ok (.ifCond .ne 7, 3) := by decide +kernel
theorem dX7_isAtEnd_7 : decode cX7_isAtEnd 7 = .ok (.iconst 1, 1) := by decide +kernel
theorem dX7_isAtEnd_8 : decode cX7_isAtEnd 8 = .ok (.goto 4, 3) := by decide +kernel
theorem dX7_isAtEnd_11 : decode cX7_isAtEnd 11 = .ok (.iconst 0, 1) := by decide +kernel
theorem dX7_isAtEnd_12 : decode cX7_isAtEnd 12 = .ok (.ireturn, 1) := by decide +kernel
theorem dX7_isAtNumber_0 : decode cX7_isAtNumber 0 = .ok (.aload_n 0, 1) := by decide +kernel
theorem dX7_isAtNumber_1 : decode cX7_isAtNumber 1 = .ok (.getfield 25, 3) := by decide +kernel
theorem dX7_isAtNumber_4 : decode cX7_isAtNumber 4 = .ok (.iconst 2, 1) := by decide +kernel
theorem dX7_isAtNumber_5 : decode cX7_isAtNumber 5 = .ok (.if_icmp .ne 7, 3) := by decide +kernel
theorem dX7_isAtNumber_8 : decode cX7_isAtNumber 8 = .ok (.iconst 1, 1) := by decide +kernel
theorem dX7_isAtNumber_9 : decode cX7_isAtNumber 9 = .ok (.goto 4, 3) := by decide +kernel
theorem dX7_isAtNumber_12 : decode cX7_isAtNumber 12 = .ok (.iconst 0, 1) := by decide +kernel
theorem dX7_isAtNumber_13 : decode cX7_isAtNumber 13 = .ok (.ireturn, 1) := by decide +kernel
set_option maxRecDepth 20000 in
theorem ggX7_isNumberWithin_X7_value : GoodIn wsX7_isNumberWithin wsX7_value := goodIn_r _ [5, 6, 7, 8, 9, 13, 14, 15, 16, 17] (by decide +kernel) (by decide +kernel)
set_option maxRecDepth 20000 in
theorem gX7_isNumberWithin_X7_value : GoodIn wsX7_isNumberWithin (wsV RX7 39 RX7 yX7_value wsX7_value) := goodIn_app (goodIn_of _ (by decide +kernel)) ggX7_isNumberWithin_X7_value
set_option maxRecDepth 20000 in
theorem ggX7_isNumberWithin_X9_isWithin : GoodIn wsX7_isNumberWithin wsX9_isWithin := goodIn_r _ [12] (by decide +kernel) (by decide +kernel)
set_option maxRecDepth 20000 in
theorem gX7_isNumberWithin_X9_isWithin_n43 : GoodIn wsX7_isNumberWithin (wsX9_isWithin) := ggX7_isNumberWithin_X9_isWithin
theorem dX7_isNumberWithin_0 : decode cX7_isNumberWithin 0 = .ok (.aload_n 0, 1) := by decide +kernel
theorem dX7_isNumberWithin_1 : decode cX7_isNumberWithin 1 = .ok (.invokevirtual 39, 3) := by decide +kernel
theorem dX7_isNumberWithin_4 : decode cX7_isNumberWithin 4 = .ok (.istore_n 3, 1) := by decide +kernel
theorem dX7_isNumberWithin_5 : decode cX7_isNumberWithin 5 = .ok (.iload_n 3, 1) := by decide +kernel
theorem dX7_isNumberWithin_6 : decode cX7_isNumberWithin 6 = .ok (.iconst (-1), 1) := by decide +kernel
theorem dX7_isNumberWithin_7 : decode cX7_isNumberWithin 7 = .ok (.if_icmp .eq 16, 3) := by decide +kernel
theorem dX7_isNumberWithin_10 : decode cX7_isNumberWithin 10 = .ok (.iload_n 3, 1) := by decide +kernel
theorem dX7_isNumberWithin_11 : decode cX7_isNumberWithin 11 = .ok (.iload_n 1, 1) := by decide +kernel
theorem dX7_isNumberWithin_12 : decode cX7_isNumberWithin 12 = .ok (.iload_n 2, 1) := by decide +kernel
theorem dX7_isNumberWithin_13 : decode cX7_isNumberWithin 13 = .ok (.invokestatic 43, 3) := by decide +kernel
theorem dX7_isNumberWithin_16 : decode cX7_isNumberWithin 16 = .ok (.ifCond .eq 7, 3) := by decide +kernel
theorem dX7_isNumberWithin_19 : decode cX7_isNumberWithin 19 = .ok (.iconst 1, 1) := by decide +kernel
theorem dX7_isNumberWithin_20 : decode cX7_isNumberWithin 20 = .ok (.goto 4, 3) := by decide +kernel
theorem dX7_isNumberWithin_23 : decode cX7_isNumberWithin 23 = .ok (.iconst 0, 1) := by decide +kernel
theorem dX7_isNumberWithin_24 : decode cX7_isNumberWithin 24 = .ok (.ireturn, 1) := by decide +kernel
theorem dX7_value_0 : decode cX7_value 0 = .ok (.aload_n 0, 1) := by decide +kernel
theorem dX7_value_1 : decode cX7_value 1 = .ok (.getfield 25, 3) := by decide +kernel
theorem dX7_value_4 : decode cX7_value 4 = .ok (.iconst 2, 1) := by decide +kernel
theorem dX7_value_5 : decode cX7_value 5 = .ok (.if_icmp .ne 16, 3) := by decide +kernel
theorem dX7_value_8 : decode cX7_value 8 = .ok (.aload_n 0, 1) := by decide +kernel
theorem dX7_value_9 : decode cX7_value 9 = .ok (.getfield 22, 3) := by decide +kernel
theorem dX7_value_12 : decode cX7_value 12 = .ok (.aload_n 0, 1) := by decide +kernel
theorem dX7_value_13 : decode cX7_value 13 = .ok (.getfield 19, 3) := by decide +kernel
theorem dX7_value_16 : decode cX7_value 16 = .ok (.isub, 1) := by decide +kernel
theorem dX7_value_17 : decode cX7_value 17 = .ok (.iconst 3, 1) := by decide +kernel
theorem dX7_value_18 : decode cX7_value 18 = .ok (.if_icmp .le 5, 3) := by decide +kernel
theorem dX7_value_21 : decode cX7_value 21 = .ok (.iconst (-1), 1) := by decide +kernel
theorem dX7_value_22 : decode cX7_value 22 = .ok (.ireturn, 1) := by decide +kernel
theorem dX7_value_23 : decode cX7_value 23 = .ok (.iconst 0, 1) := by decide +kernel
theorem dX7_value_24 : decode cX7_value 24 = .ok (.istore_n 1, 1) := by decide +kernel
theorem dX7_value_25 : decode cX7_value 25 = .ok (.aload_n 0, 1) := by decide +kernel
theorem dX7_value_26 : decode cX7_value 26 = .ok (.getfield 19, 3) := by decide +kernel
theorem dX7_value_29 : decode cX7_value 29 = .ok (.istore_n 2, 1) := by decide +kernel
theorem dX7_value_30 : decode cX7_value 30 = .ok (.iload_n 2, 1) := by decide +kernel
theorem dX7_value_31 : decode cX7_value 31 = .ok (.aload_n 0, 1) := by decide +kernel
theorem dX7_value_32 : decode cX7_value 32 = .ok (.getfield 22, 3) := by decide +kernel
theorem dX7_value_35 : decode cX7_value 35 = .ok (.if_icmp .ge 24, 3) := by decide +kernel
theorem dX7_value_38 : decode cX7_value 38 = .ok (.iload_n 1, 1) := by decide +kernel
theorem dX7_value_39 : decode cX7_value 39 = .ok (.bipush 10, 2) := by decide +kernel
theorem dX7_value_41 : decode cX7_value 41 = .ok (.imul, 1) := by decide +kernel
theorem dX7_value_42 : decode cX7_value 42 = .ok (.aload_n 0, 1) := by decide +kernel
theorem dX7_value_43 : decode cX7_value 43 = .ok (.getfield 11, 3) := by decide +kernel
theorem dX7_value_46 : decode cX7_value 46 = .ok (.iload_n 2, 1) := by decide +kernel
theorem dX7_value_47 : decode cX7_value 47 = .ok (.baload, 1) := by decide +kernel
theorem dX7_value_48 : decode cX7_value 48 = .ok (.iadd, 1) := by decide +kernel
theorem dX7_value_49 : decode cX7_value 49 = .ok (.bipush 48, 2) := by decide +kernel
theorem dX7_value_51 : decode cX7_value 51 = .ok (.isub, 1) := by decide +kernel
theorem dX7_value_52 : decode cX7_value 52 = .ok (.istore_n 1, 1) := by decide +kernel
theorem dX7_value_53 : decode cX7_value 53 = .ok (.iinc 2 1, 3) := by decide +kernel
theorem dX7_value_56 : decode cX7_value 56 = .ok (.goto (-26), 3) := by decide +kernel
theorem dX7_value_59 : decode cX7_value 59 = .ok (.iload_n 1, 1) := by decide +kernel
theorem dX7_value_60 : decode cX7_value 60 = .ok (.ireturn, 1) := by decide +kernel
theorem dX7_isSign_0 : decode cX7_isSign 0 = .ok (.aload_n 0, 1) := by decide +kernel
theorem dX7_isSign_1 : decode cX7_isSign 1 = .ok (.getfield 25, 3) := by decide +kernel
theorem dX7_isSign_4 : decode cX7_isSign 4 = .ok (.iconst 3, 1) := by decide +kernel
theorem dX7_isSign_5 : decode cX7_isSign 5 = .ok (.if_icmp .ne 20, 3) := by decide +kernel
theorem dX7_isSign_8 : decode cX7_isSign 8 = .ok (.aload_n 0, 1) := by decide +kernel
theorem dX7_isSign_9 : decode cX7_isSign 9 = .ok (.getfield 11, 3) := by decide +kernel
theorem dX7_isSign_12 : decode cX7_isSign 12 = .ok (.aload_n 0, 1) := by decide +kernel
theorem dX7_isSign_13 : decode cX7_isSign 13 = .ok (.getfield 19, 3) := by decide +kernel
theorem dX7_isSign_16 : decode cX7_isSign 16 = .ok (.baload, 1) := by decide +kernel
theorem dX7_isSign_17 : decode cX7_isSign 17 = .ok (.iload_n 1, 1) := by decide +kernel
theorem dX7_isSign_18 : decode cX7_isSign 18 = .ok (.if_icmp .ne 7, 3) := by decide +kernel
theorem dX7_isSign_21 : decode cX7_isSign 21 = .ok (.iconst 1, 1) := by decide +kernel
theorem dX7_isSign_22 : decode cX7_isSign 22 = .ok (.goto 4, 3) := by decide +kernel
theorem dX7_isSign_25 : decode cX7_isSign 25 = .ok (.iconst 0, 1) := by decide +kernel
theorem dX7_isSign_26 : decode cX7_isSign 26 = .ok (.ireturn, 1) := by decide +kernel
set_option maxRecDepth 20000 in
theorem ggX7_isWord_J0_length_8abf5 : GoodIn wsX7_isWord wsJ0_length_8abf5 := goodIn_r _ [9, 10, 11, 12, 13, 8, 14, 15, 16] (by decide +kernel) (by decide +kernel)
set_option maxRecDepth 20000 in
theorem gX7_isWord_J0_length_8abf5 : GoodIn wsX7_isWord (wsV RX7 47 RJ0 yJ0_length_8abf5 wsJ0_length_8abf5) := goodIn_app (goodIn_of _ (by decide +kernel)) ggX7_isWord_J0_length_8abf5
set_option maxRecDepth 20000 in
theorem ggX7_isWord_J0_charAt_5068e : GoodIn wsX7_isWord wsJ0_charAt_5068e := goodIn_r _ [20, 10, 21, 22, 23, 8, 24, 15, 16, 25, 26, 27, 28, 29, 30, 31, 32, 33, 34, 35, 36, 37, 38, 39, 40, 41, 42, 43, 44, 45, 46, 47, 48, 49, 50, 51, 52, 53] (by decide +kernel) (by decide +kernel)
set_option maxRecDepth 20000 in
theorem gX7_isWord_J0_charAt_5068e : GoodIn wsX7_isWord (wsV RX7 51 RJ0 yJ0_charAt_5068e wsJ0_charAt_5068e) := goodIn_app (goodIn_of _ (by decide +kernel)) ggX7_isWord_J0_charAt_5068e
theorem dX7_isWord_0 : decode cX7_isWord 0 = .ok (.aload_n 0, 1) := by decide +kernel
theorem dX7_isWord_1 : decode cX7_isWord 1 = .ok (.getfield 25, 3) := by decide +kernel
theorem dX7_isWord_4 : decode cX7_isWord 4 = .ok (.iconst 1, 1) := by decide +kernel
theorem dX7_isWord_5 : decode cX7_isWord 5 = .ok (.if_icmp .ne 19, 3) := by decide +kernel
theorem dX7_isWord_8 : decode cX7_isWord 8 = .ok (.aload_n 0, 1) := by decide +kernel
theorem dX7_isWord_9 : decode cX7_isWord 9 = .ok (.getfield 22, 3) := by decide +kernel
theorem dX7_isWord_12 : decode cX7_isWord 12 = .ok (.aload_n 0, 1) := by decide +kernel
theorem dX7_isWord_13 : decode cX7_isWord 13 = .ok (.getfield 19, 3) := by decide +kernel
theorem dX7_isWord_16 : decode cX7_isWord 16 = .ok (.isub, 1) := by decide +kernel
theorem dX7_isWord_17 : decode cX7_isWord 17 = .ok (.aload_n 1, 1) := by decide +kernel
theorem dX7_isWord_18 : decode cX7_isWord 18 = .ok (.invokevirtual 47, 3) := by decide +kernel
theorem dX7_isWord_21 : decode cX7_isWord 21 = .ok (.if_icmp .eq 5, 3) := by decide +kernel
theorem dX7_isWord_24 : decode cX7_isWord 24 = .ok (.iconst 0, 1) := by decide +kernel
theorem dX7_isWord_25 : decode cX7_isWord 25 = .ok (.ireturn, 1) := by decide +kernel
theorem dX7_isWord_26 : decode cX7_isWord 26 = .ok (.iconst 0, 1) := by decide +kernel
theorem dX7_isWord_27 : decode cX7_isWord 27 = .ok (.istore_n 2, 1) := by decide +kernel
theorem dX7_isWord_28 : decode cX7_isWord 28 = .ok (.iload_n 2, 1) := by decide +kernel
theorem dX7_isWord_29 : decode cX7_isWord 29 = .ok (.aload_n 1, 1) := by decide +kernel
theorem dX7_isWord_30 : decode cX7_isWord 30 = .ok (.invokevirtual 47, 3) := by decide +kernel
theorem dX7_isWord_33 : decode cX7_isWord 33 = .ok (.if_icmp .ge 30, 3) := by decide +kernel
theorem dX7_isWord_36 : decode cX7_isWord 36 = .ok (.aload_n 0, 1) := by decide +kernel
theorem dX7_isWord_37 : decode cX7_isWord 37 = .ok (.getfield 11, 3) := by decide +kernel
theorem dX7_isWord_40 : decode cX7_isWord 40 = .ok (.aload_n 0, 1) := by decide +kernel
theorem dX7_isWord_41 : decode cX7_isWord 41 = .ok (.getfield 19, 3) := by decide +kernel
theorem dX7_isWord_44 : decode cX7_isWord 44 = .ok (.iload_n 2, 1) := by decide +kernel
theorem dX7_isWord_45 : decode cX7_isWord 45 = .ok (.iadd, 1) := by decide +kernel
theorem dX7_isWord_46 : decode cX7_isWord 46 = .ok (.baload, 1) := by decide +kernel
theorem dX7_isWord_47 : decode cX7_isWord 47 = .ok (.aload_n 1, 1) := by decide +kernel
theorem dX7_isWord_48 : decode cX7_isWord 48 = .ok (.iload_n 2, 1) := by decide +kernel
theorem dX7_isWord_49 : decode cX7_isWord 49 = .ok (.invokevirtual 51, 3) := by decide +kernel
theorem dX7_isWord_52 : decode cX7_isWord 52 = .ok (.if_icmp .eq 5, 3) := by decide +kernel
theorem dX7_isWord_55 : decode cX7_isWord 55 = .ok (.iconst 0, 1) := by decide +kernel
theorem dX7_isWord_56 : decode cX7_isWord 56 = .ok (.ireturn, 1) := by decide +kernel
theorem dX7_isWord_57 : decode cX7_isWord 57 = .ok (.iinc 2 1, 3) := by decide +kernel
theorem dX7_isWord_60 : decode cX7_isWord 60 = .ok (.goto (-32), 3) := by decide +kernel
theorem dX7_isWord_63 : decode cX7_isWord 63 = .ok (.iconst 1, 1) := by decide +kernel
theorem dX7_isWord_64 : decode cX7_isWord 64 = .ok (.ireturn, 1) := by decide +kernel
theorem dX7_isLetter_0 : decode cX7_isLetter 0 = .ok (.iload_n 0, 1) := by decide +kernel
theorem dX7_isLetter_1 : decode cX7_isLetter 1 = .ok (.bipush 97, 2) := by decide +kernel
theorem dX7_isLetter_3 : decode cX7_isLetter 3 = .ok (.if_icmp .lt 13, 3) := by decide +kernel
theorem dX7_isLetter_6 : decode cX7_isLetter 6 = .ok (.iload_n 0, 1) := by decide +kernel
theorem dX7_isLetter_7 : decode cX7_isLetter 7 = .ok (.bipush 122, 2) := by decide +kernel
theorem dX7_isLetter_9 : decode cX7_isLetter 9 = .ok (.if_icmp .gt 7, 3) := by decide +kernel
theorem dX7_isLetter_12 : decode cX7_isLetter 12 = .ok (.iconst 1, 1) := by decide +kernel
theorem dX7_isLetter_13 : decode cX7_isLetter 13 = .ok (.goto 4, 3) := by decide +kernel
theorem dX7_isLetter_16 : decode cX7_isLetter 16 = .ok (.iconst 0, 1) := by decide +kernel
theorem dX7_isLetter_17 : decode cX7_isLetter 17 = .ok (.ireturn, 1) := by decide +kernel
theorem dX7_isDigit_0 : decode cX7_isDigit 0 = .ok (.iload_n 0, 1) := by decide +kernel
theorem dX7_isDigit_1 : decode cX7_isDigit 1 = .ok (.bipush 48, 2) := by decide +kernel
theorem dX7_isDigit_3 : decode cX7_isDigit 3 = .ok (.if_icmp .lt 13, 3) := by decide +kernel
theorem dX7_isDigit_6 : decode cX7_isDigit 6 = .ok (.iload_n 0, 1) := by decide +kernel
theorem dX7_isDigit_7 : decode cX7_isDigit 7 = .ok (.bipush 57, 2) := by decide +kernel
theorem dX7_isDigit_9 : decode cX7_isDigit 9 = .ok (.if_icmp .gt 7, 3) := by decide +kernel
theorem dX7_isDigit_12 : decode cX7_isDigit 12 = .ok (.iconst 1, 1) := by decide +kernel
theorem dX7_isDigit_13 : decode cX7_isDigit 13 = .ok (.goto 4, 3) := by decide +kernel
theorem dX7_isDigit_16 : decode cX7_isDigit 16 = .ok (.iconst 0, 1) := by decide +kernel
theorem dX7_isDigit_17 : decode cX7_isDigit 17 = .ok (.ireturn, 1) := by decide +kernel
theorem dX8_init_0 : decode cX8_init 0 = .ok (.aload_n 0, 1) := by decide +kernel
theorem dX8_init_1 : decode cX8_init 1 = .ok (.invokespecial 3, 3) := by decide +kernel
theorem dX8_init_4 : decode cX8_init 4 = .ok (.aload_n 0, 1) := by decide +kernel
theorem dX8_init_5 : decode cX8_init 5 = .ok (.bipush 17, 2) := by decide +kernel
theorem dX8_init_7 : decode cX8_init 7 = .ok (.bipush 12, 2) := by decide +kernel
theorem dX8_init_9 : decode cX8_init 9 = .ok (.multianewarray 11 2, 4) := by decide +kernel
theorem dX8_init_13 : decode cX8_init 13 = .ok (.putfield 13, 3) := by decide +kernel
theorem dX8_init_16 : decode cX8_init 16 = .ok (.aload_n 0, 1) := by decide +kernel
theorem dX8_init_17 : decode cX8_init 17 = .ok (.bipush 17, 2) := by decide +kernel
theorem dX8_init_19 : decode cX8_init 19 = .ok (.newarray .int, 2) := by decide +kernel
theorem dX8_init_21 : decode cX8_init 21 = .ok (.putfield 16, 3) := by decide +kernel
theorem dX8_init_24 : decode cX8_init 24 = .ok (.aload_n 0, 1) := by decide +kernel
theorem dX8_init_25 : decode cX8_init 25 = .ok (.iconst 0, 1) := by decide +kernel
theorem dX8_init_26 : decode cX8_init 26 = .ok (.putfield 20, 3) := by decide +kernel
theorem dX8_init_29 : decode cX8_init 29 = .ok (.return_, 1) := by decide +kernel
set_option maxRecDepth 20000 in
theorem ggX8_lineFor_X8_sizeOf : GoodIn wsX8_lineFor wsX8_sizeOf := goodIn_r _ [5, 6, 7, 8, 9, 10, 11, 12] (by decide +kernel) (by decide +kernel)
set_option maxRecDepth 20000 in
theorem gX8_lineFor_X8_sizeOf : GoodIn wsX8_lineFor (wsV RX8 24 RX8 yX8_sizeOf wsX8_sizeOf) := goodIn_app (goodIn_of _ (by decide +kernel)) ggX8_lineFor_X8_sizeOf
theorem dX8_lineFor_0 : decode cX8_lineFor 0 = .ok (.aload_n 0, 1) := by decide +kernel
theorem dX8_lineFor_1 : decode cX8_lineFor 1 = .ok (.iload_n 1, 1) := by decide +kernel
theorem dX8_lineFor_2 : decode cX8_lineFor 2 = .ok (.invokevirtual 24, 3) := by decide +kernel
theorem dX8_lineFor_5 : decode cX8_lineFor 5 = .ok (.ifCond .le 7, 3) := by decide +kernel
theorem dX8_lineFor_8 : decode cX8_lineFor 8 = .ok (.iload_n 1, 1) := by decide +kernel
theorem dX8_lineFor_9 : decode cX8_lineFor 9 = .ok (.goto 5, 3) := by decide +kernel
theorem dX8_lineFor_12 : decode cX8_lineFor 12 = .ok (.bipush 16, 2) := by decide +kernel
theorem dX8_lineFor_14 : decode cX8_lineFor 14 = .ok (.ireturn, 1) := by decide +kernel
set_option maxRecDepth 20000 in
theorem ggX8_sizeOf_X9_isWithin : GoodIn wsX8_sizeOf wsX9_isWithin := goodIn_r _ [4] (by decide +kernel) (by decide +kernel)
set_option maxRecDepth 20000 in
theorem gX8_sizeOf_X9_isWithin_n28 : GoodIn wsX8_sizeOf (wsX9_isWithin) := ggX8_sizeOf_X9_isWithin
theorem dX8_sizeOf_0 : decode cX8_sizeOf 0 = .ok (.iload_n 1, 1) := by decide +kernel
theorem dX8_sizeOf_1 : decode cX8_sizeOf 1 = .ok (.iconst 0, 1) := by decide +kernel
theorem dX8_sizeOf_2 : decode cX8_sizeOf 2 = .ok (.bipush 16, 2) := by decide +kernel
theorem dX8_sizeOf_4 : decode cX8_sizeOf 4 = .ok (.invokestatic 28, 3) := by decide +kernel
theorem dX8_sizeOf_7 : decode cX8_sizeOf 7 = .ok (.ifCond .eq 12, 3) := by decide +kernel
theorem dX8_sizeOf_10 : decode cX8_sizeOf 10 = .ok (.aload_n 0, 1) := by decide +kernel
theorem dX8_sizeOf_11 : decode cX8_sizeOf 11 = .ok (.getfield 16, 3) := by decide +kernel
theorem dX8_sizeOf_14 : decode cX8_sizeOf 14 = .ok (.iload_n 1, 1) := by decide +kernel
theorem dX8_sizeOf_15 : decode cX8_sizeOf 15 = .ok (.iaload, 1) := by decide +kernel
theorem dX8_sizeOf_16 : decode cX8_sizeOf 16 = .ok (.goto 4, 3) := by decide +kernel
theorem dX8_sizeOf_19 : decode cX8_sizeOf 19 = .ok (.iconst 0, 1) := by decide +kernel
theorem dX8_sizeOf_20 : decode cX8_sizeOf 20 = .ok (.ireturn, 1) := by decide +kernel
set_option maxRecDepth 20000 in
theorem ggX8_keeperAt_X8_sizeOf : GoodIn wsX8_keeperAt wsX8_sizeOf := goodIn_r _ [6, 7, 8, 9, 10, 11, 12, 13] (by decide +kernel) (by decide +kernel)
set_option maxRecDepth 20000 in
theorem gX8_keeperAt_X8_sizeOf : GoodIn wsX8_keeperAt (wsV RX8 24 RX8 yX8_sizeOf wsX8_sizeOf) := goodIn_app (goodIn_of _ (by decide +kernel)) ggX8_keeperAt_X8_sizeOf
theorem dX8_keeperAt_0 : decode cX8_keeperAt 0 = .ok (.iload_n 2, 1) := by decide +kernel
theorem dX8_keeperAt_1 : decode cX8_keeperAt 1 = .ok (.ifCond .lt 23, 3) := by decide +kernel
theorem dX8_keeperAt_4 : decode cX8_keeperAt 4 = .ok (.iload_n 2, 1) := by decide +kernel
theorem dX8_keeperAt_5 : decode cX8_keeperAt 5 = .ok (.aload_n 0, 1) := by decide +kernel
theorem dX8_keeperAt_6 : decode cX8_keeperAt 6 = .ok (.iload_n 1, 1) := by decide +kernel
theorem dX8_keeperAt_7 : decode cX8_keeperAt 7 = .ok (.invokevirtual 24, 3) := by decide +kernel
theorem dX8_keeperAt_10 : decode cX8_keeperAt 10 = .ok (.if_icmp .ge 14, 3) := by decide +kernel
theorem dX8_keeperAt_13 : decode cX8_keeperAt 13 = .ok (.aload_n 0, 1) := by decide +kernel
theorem dX8_keeperAt_14 : decode cX8_keeperAt 14 = .ok (.getfield 13, 3) := by decide +kernel
theorem dX8_keeperAt_17 : decode cX8_keeperAt 17 = .ok (.iload_n 1, 1) := by decide +kernel
theorem dX8_keeperAt_18 : decode cX8_keeperAt 18 = .ok (.aaload, 1) := by decide +kernel
theorem dX8_keeperAt_19 : decode cX8_keeperAt 19 = .ok (.iload_n 2, 1) := by decide +kernel
theorem dX8_keeperAt_20 : decode cX8_keeperAt 20 = .ok (.iaload, 1) := by decide +kernel
theorem dX8_keeperAt_21 : decode cX8_keeperAt 21 = .ok (.goto 4, 3) := by decide +kernel
theorem dX8_keeperAt_24 : decode cX8_keeperAt 24 = .ok (.iconst (-1), 1) := by decide +kernel
theorem dX8_keeperAt_25 : decode cX8_keeperAt 25 = .ok (.ireturn, 1) := by decide +kernel
set_option maxRecDepth 20000 in
theorem ggX8_readFrom_J7_fill_53178 : GoodIn wsX8_readFrom wsJ7_fill_53178 := goodIn_r _ [6] (by decide +kernel) (by decide +kernel)
set_option maxRecDepth 20000 in
theorem gX8_readFrom_J7_fill_53178 : GoodIn wsX8_readFrom (va_wsS RX8 32 yJ7_fill_53178 wsJ7_fill_53178) := goodIn_app (goodIn_of _ (by decide +kernel)) ggX8_readFrom_J7_fill_53178
set_option maxRecDepth 20000 in
theorem ggX8_readFrom_X7_rewind : GoodIn wsX8_readFrom wsX7_rewind := goodIn_r _ [11, 12, 129, 130, 131, 132, 133] (by decide +kernel) (by decide +kernel)
set_option maxRecDepth 20000 in
theorem gX8_readFrom_X7_rewind : GoodIn wsX8_readFrom (wsV RX8 38 RX7 yX7_rewind wsX7_rewind) := goodIn_app (goodIn_of _ (by decide +kernel)) ggX8_readFrom_X7_rewind
set_option maxRecDepth 20000 in
theorem ggX8_readFrom_X7_advance : GoodIn wsX8_readFrom wsX7_advance := goodIn_r _ [16, 12, 17, 18, 19, 20, 21, 22, 10, 23, 24, 25, 26, 129, 130, 131, 132, 133] (by decide +kernel) (by decide +kernel)
set_option maxRecDepth 20000 in
theorem gX8_readFrom_X7_advance : GoodIn wsX8_readFrom (wsV RX8 43 RX7 yX7_advance wsX7_advance) := goodIn_app (goodIn_of _ (by decide +kernel)) ggX8_readFrom_X7_advance
set_option maxRecDepth 20000 in
theorem ggX8_readFrom_X8_readLine : GoodIn wsX8_readFrom wsX8_readLine := goodIn_r _ [31, 32, 1, 33, 34, 35, 30, 36, 37, 38, 39, 10, 40, 20, 12, 19, 18, 41, 42, 43, 44, 45, 46, 47, 48, 49, 50, 51, 52, 53, 54, 55, 56, 57, 58, 59, 60, 61, 62, 63, 64, 65, 66, 67, 68, 69, 70, 71, 72, 73, 74, 75, 76, 77, 78, 79, 80, 81, 82, 83, 84, 85, 86, 87, 88, 89, 13, 14, 15, 16, 17, 21, 22, 23, 24, 25, 26, 90, 91, 92, 93, 94, 95, 96, 97, 98, 99, 100, 101, 102, 103, 104, 105, 106, 107, 108, 109, 110, 111, 112, 113, 114, 115, 116, 117, 118, 119, 120, 121, 126, 127, 128, 129, 130, 131, 132, 133] (by decide +kernel) (by decide +kernel)
set_option maxRecDepth 20000 in
theorem gX8_readFrom_X8_readLine : GoodIn wsX8_readFrom (wsV RX8 46 RX8 yX8_readLine wsX8_readLine) := goodIn_app (goodIn_of _ (by decide +kernel)) ggX8_readFrom_X8_readLine
set_option maxRecDepth 20000 in
theorem ggX8_readFrom_X7_isSign : GoodIn wsX8_readFrom wsX7_isSign := goodIn_r _ [109, 20, 18, 19, 129, 130, 131, 132, 133] (by decide +kernel) (by decide +kernel)
set_option maxRecDepth 20000 in
theorem gX8_readFrom_X7_isSign : GoodIn wsX8_readFrom (wsV RX8 50 RX7 yX7_isSign wsX7_isSign) := goodIn_app (goodIn_of _ (by decide +kernel)) ggX8_readFrom_X7_isSign
set_option maxRecDepth 20000 in
theorem ggX8_readFrom_X7_isAtEnd : GoodIn wsX8_readFrom wsX7_isAtEnd := goodIn_r _ [125, 20, 129, 130, 131, 132, 133] (by decide +kernel) (by decide +kernel)
set_option maxRecDepth 20000 in
theorem gX8_readFrom_X7_isAtEnd : GoodIn wsX8_readFrom (wsV RX8 54 RX7 yX7_isAtEnd wsX7_isAtEnd) := goodIn_app (goodIn_of _ (by decide +kernel)) ggX8_readFrom_X7_isAtEnd
theorem dX8_readFrom_0 : decode cX8_readFrom 0 = .ok (.aload_n 0, 1) := by decide +kernel
theorem dX8_readFrom_1 : decode cX8_readFrom 1 = .ok (.getfield 16, 3) := by decide +kernel
theorem dX8_readFrom_4 : decode cX8_readFrom 4 = .ok (.iconst 0, 1) := by decide +kernel
theorem dX8_readFrom_5 : decode cX8_readFrom 5 = .ok (.invokestatic 32, 3) := by decide +kernel
theorem dX8_readFrom_8 : decode cX8_readFrom 8 = .ok (.aload_n 0, 1) := by decide +kernel
theorem dX8_readFrom_9 : decode cX8_readFrom 9 = .ok (.iconst 0, 1) := by decide +kernel
theorem dX8_readFrom_10 : decode cX8_readFrom 10 = .ok (.putfield 20, 3) := by decide +kernel
theorem dX8_readFrom_13 : decode cX8_readFrom 13 = .ok (.aload_n 1, 1) := by decide +kernel
theorem dX8_readFrom_14 : decode cX8_readFrom 14 = .ok (.invokevirtual 38, 3) := by decide +kernel
theorem dX8_readFrom_17 : decode cX8_readFrom 17 = .ok (.aload_n 0, 1) := by decide +kernel
theorem dX8_readFrom_18 : decode cX8_readFrom 18 = .ok (.getfield 20, 3) := by decide +kernel
theorem dX8_readFrom_21 : decode cX8_readFrom 21 = .ok (.bipush 10, 2) := by decide +kernel
theorem dX8_readFrom_23 : decode cX8_readFrom 23 = .ok (.if_icmp .ge 42, 3) := by decide +kernel
theorem dX8_readFrom_26 : decode cX8_readFrom 26 = .ok (.aload_n 1, 1) := by decide +kernel
theorem dX8_readFrom_27 : decode cX8_readFrom 27 = .ok (.invokevirtual 43, 3) := by decide +kernel
theorem dX8_readFrom_30 : decode cX8_readFrom 30 = .ok (.aload_n 0, 1) := by decide +kernel
theorem dX8_readFrom_31 : decode cX8_readFrom 31 = .ok (.aload_n 1, 1) := by decide +kernel
theorem dX8_readFrom_32 : decode cX8_readFrom 32 = .ok (.iload_n 2, 1) := by decide +kernel
theorem dX8_readFrom_33 : decode cX8_readFrom 33 = .ok (.invokevirtual 46, 3) := by decide +kernel
theorem dX8_readFrom_36 : decode cX8_readFrom 36 = .ok (.ifCond .ne 5, 3) := by decide +kernel
theorem dX8_readFrom_39 : decode cX8_readFrom 39 = .ok (.iconst 0, 1) := by decide +kernel
theorem dX8_readFrom_40 : decode cX8_readFrom 40 = .ok (.ireturn, 1) := by decide +kernel
theorem dX8_readFrom_41 : decode cX8_readFrom 41 = .ok (.aload_n 0, 1) := by decide +kernel
theorem dX8_readFrom_42 : decode cX8_readFrom 42 = .ok (.dup, 1) := by decide +kernel
theorem dX8_readFrom_43 : decode cX8_readFrom 43 = .ok (.getfield 20, 3) := by decide +kernel
theorem dX8_readFrom_46 : decode cX8_readFrom 46 = .ok (.iconst 1, 1) := by decide +kernel
theorem dX8_readFrom_47 : decode cX8_readFrom 47 = .ok (.iadd, 1) := by decide +kernel
theorem dX8_readFrom_48 : decode cX8_readFrom 48 = .ok (.putfield 20, 3) := by decide +kernel
theorem dX8_readFrom_51 : decode cX8_readFrom 51 = .ok (.aload_n 1, 1) := by decide +kernel
theorem dX8_readFrom_52 : decode cX8_readFrom 52 = .ok (.bipush 59, 2) := by decide +kernel
theorem dX8_readFrom_54 : decode cX8_readFrom 54 = .ok (.invokevirtual 50, 3) := by decide +kernel
theorem dX8_readFrom_57 : decode cX8_readFrom 57 = .ok (.ifCond .ne (-40), 3) := by decide +kernel
theorem dX8_readFrom_60 : decode cX8_readFrom 60 = .ok (.aload_n 1, 1) := by decide +kernel
theorem dX8_readFrom_61 : decode cX8_readFrom 61 = .ok (.invokevirtual 54, 3) := by decide +kernel
theorem dX8_readFrom_64 : decode cX8_readFrom 64 = .ok (.ireturn, 1) := by decide +kernel
theorem dX8_readFrom_65 : decode cX8_readFrom 65 = .ok (.aload_n 1, 1) := by decide +kernel
theorem dX8_readFrom_66 : decode cX8_readFrom 66 = .ok (.invokevirtual 43, 3) := by decide +kernel
theorem dX8_readFrom_69 : decode cX8_readFrom 69 = .ok (.iconst 0, 1) := by decide +kernel
theorem dX8_readFrom_70 : decode cX8_readFrom 70 = .ok (.ireturn, 1) := by decide +kernel
set_option maxRecDepth 20000 in
theorem ggX8_readLine_X8_readDistrict : GoodIn wsX8_readLine wsX8_readDistrict := goodIn_r _ [7, 8, 9, 10, 11, 12, 13, 14, 15, 16, 17, 18, 19, 20, 21, 22, 23, 24, 25, 26, 27, 28, 29, 30, 31, 32, 33, 34, 35, 36, 37, 38, 39, 40, 41, 42, 43, 44, 45, 46, 47, 48, 49, 50, 51, 52, 53, 54, 55, 56, 57, 58, 59, 60, 61, 62, 63, 64, 65, 66, 67, 68, 69, 70, 71, 72, 73, 74, 75, 76, 77, 78, 79, 80, 81, 82, 83, 84, 85, 86, 87, 88, 89, 90, 91, 6, 92, 2, 112, 113, 114, 115, 116, 109, 110, 111] (by decide +kernel) (by decide +kernel)
set_option maxRecDepth 20000 in
theorem gX8_readLine_X8_readDistrict : GoodIn wsX8_readLine (wsV RX8 58 RX8 yX8_readDistrict wsX8_readDistrict) := goodIn_app (goodIn_of _ (by decide +kernel)) ggX8_readLine_X8_readDistrict
set_option maxRecDepth 20000 in
theorem ggX8_readLine_X9_isWithin : GoodIn wsX8_readLine wsX9_isWithin := goodIn_r _ [87] (by decide +kernel) (by decide +kernel)
set_option maxRecDepth 20000 in
theorem gX8_readLine_X9_isWithin_n28 : GoodIn wsX8_readLine (wsX9_isWithin) := ggX8_readLine_X9_isWithin
set_option maxRecDepth 20000 in
theorem ggX8_readLine_X7_advance : GoodIn wsX8_readLine wsX7_advance := goodIn_r _ [69, 14, 70, 16, 15, 13, 71, 72, 11, 73, 74, 75, 76, 112, 113, 114, 115, 116] (by decide +kernel) (by decide +kernel)
set_option maxRecDepth 20000 in
theorem gX8_readLine_X7_advance : GoodIn wsX8_readLine (wsV RX8 43 RX7 yX7_advance wsX7_advance) := goodIn_app (goodIn_of _ (by decide +kernel)) ggX8_readLine_X7_advance
set_option maxRecDepth 20000 in
theorem ggX8_readLine_X7_isSign : GoodIn wsX8_readLine wsX7_isSign := goodIn_r _ [96, 13, 16, 15, 112, 113, 114, 115, 116] (by decide +kernel) (by decide +kernel)
set_option maxRecDepth 20000 in
theorem gX8_readLine_X7_isSign : GoodIn wsX8_readLine (wsV RX8 50 RX7 yX7_isSign wsX7_isSign) := goodIn_app (goodIn_of _ (by decide +kernel)) ggX8_readLine_X7_isSign
set_option maxRecDepth 20000 in
theorem ggX8_readLine_X7_isNumberWithin : GoodIn wsX8_readLine wsX7_isNumberWithin := goodIn_r _ [80, 81, 82, 83, 11, 84, 13, 14, 15, 16, 85, 86, 87, 112, 113, 114, 115, 116] (by decide +kernel) (by decide +kernel)
set_option maxRecDepth 20000 in
theorem gX8_readLine_X7_isNumberWithin : GoodIn wsX8_readLine (wsV RX8 62 RX7 yX7_isNumberWithin wsX7_isNumberWithin) := goodIn_app (goodIn_of _ (by decide +kernel)) ggX8_readLine_X7_isNumberWithin
set_option maxRecDepth 20000 in
theorem ggX8_readLine_X7_value : GoodIn wsX8_readLine wsX7_value := goodIn_r _ [84, 13, 14, 15, 16, 112, 113, 114, 115, 116] (by decide +kernel) (by decide +kernel)
set_option maxRecDepth 20000 in
theorem gX8_readLine_X7_value : GoodIn wsX8_readLine (wsV RX8 66 RX7 yX7_value wsX7_value) := goodIn_app (goodIn_of _ (by decide +kernel)) ggX8_readLine_X7_value
set_option maxRecDepth 20000 in
theorem ggX8_readLine_X8_holds : GoodIn wsX8_readLine wsX8_holds := goodIn_r _ [100, 89, 90, 91, 6, 92, 2, 85, 86, 87, 101, 102, 103, 104, 1, 109, 110, 111] (by decide +kernel) (by decide +kernel)
set_option maxRecDepth 20000 in
theorem gX8_readLine_X8_holds : GoodIn wsX8_readLine (wsV RX8 70 RX8 yX8_holds wsX8_holds) := goodIn_app (goodIn_of _ (by decide +kernel)) ggX8_readLine_X8_holds
set_option maxRecDepth 20000 in
theorem ggX8_readLine_X7_isAtNumber : GoodIn wsX8_readLine wsX7_isAtNumber := goodIn_r _ [108, 13, 112, 113, 114, 115, 116] (by decide +kernel) (by decide +kernel)
set_option maxRecDepth 20000 in
theorem gX8_readLine_X7_isAtNumber : GoodIn wsX8_readLine (wsV RX8 73 RX7 yX7_isAtNumber wsX7_isAtNumber) := goodIn_app (goodIn_of _ (by decide +kernel)) ggX8_readLine_X7_isAtNumber
theorem dX8_readLine_0 : decode cX8_readLine 0 = .ok (.aload_n 0, 1) := by decide +kernel
theorem dX8_readLine_1 : decode cX8_readLine 1 = .ok (.aload_n 1, 1) := by decide +kernel
theorem dX8_readLine_2 : decode cX8_readLine 2 = .ok (.invokevirtual 58, 3) := by decide +kernel
theorem dX8_readLine_5 : decode cX8_readLine 5 = .ok (.istore_n 3, 1) := by decide +kernel
theorem dX8_readLine_6 : decode cX8_readLine 6 = .ok (.iload_n 3, 1) := by decide +kernel
theorem dX8_readLine_7 : decode cX8_readLine 7 = .ok (.iconst 0, 1) := by decide +kernel
theorem dX8_readLine_8 : decode cX8_readLine 8 = .ok (.bipush 16, 2) := by decide +kernel
theorem dX8_readLine_10 : decode cX8_readLine 10 = .ok (.invokestatic 28, 3) := by decide +kernel
theorem dX8_readLine_13 : decode cX8_readLine 13 = .ok (.ifCond .ne 5, 3) := by decide +kernel
theorem dX8_readLine_16 : decode cX8_readLine 16 = .ok (.iconst 0, 1) := by decide +kernel
theorem dX8_readLine_17 : decode cX8_readLine 17 = .ok (.ireturn, 1) := by decide +kernel
theorem dX8_readLine_18 : decode cX8_readLine 18 = .ok (.aload_n 1, 1) := by decide +kernel
theorem dX8_readLine_19 : decode cX8_readLine 19 = .ok (.invokevirtual 43, 3) := by decide +kernel
theorem dX8_readLine_22 : decode cX8_readLine 22 = .ok (.aload_n 1, 1) := by decide +kernel
theorem dX8_readLine_23 : decode cX8_readLine 23 = .ok (.bipush 58, 2) := by decide +kernel
theorem dX8_readLine_25 : decode cX8_readLine 25 = .ok (.invokevirtual 50, 3) := by decide +kernel
theorem dX8_readLine_28 : decode cX8_readLine 28 = .ok (.ifCond .ne 5, 3) := by decide +kernel
theorem dX8_readLine_31 : decode cX8_readLine 31 = .ok (.iconst 0, 1) := by decide +kernel
theorem dX8_readLine_32 : decode cX8_readLine 32 = .ok (.ireturn, 1) := by decide +kernel
theorem dX8_readLine_33 : decode cX8_readLine 33 = .ok (.aload_n 1, 1) := by decide +kernel
theorem dX8_readLine_34 : decode cX8_readLine 34 = .ok (.invokevirtual 43, 3) := by decide +kernel
theorem dX8_readLine_37 : decode cX8_readLine 37 = .ok (.iconst 0, 1) := by decide +kernel
theorem dX8_readLine_38 : decode cX8_readLine 38 = .ok (.istore 4, 2) := by decide +kernel
theorem dX8_readLine_40 : decode cX8_readLine 40 = .ok (.iload 4, 2) := by decide +kernel
theorem dX8_readLine_42 : decode cX8_readLine 42 = .ok (.bipush 12, 2) := by decide +kernel
theorem dX8_readLine_44 : decode cX8_readLine 44 = .ok (.if_icmp .ge 70, 3) := by decide +kernel
theorem dX8_readLine_47 : decode cX8_readLine 47 = .ok (.aload_n 1, 1) := by decide +kernel
theorem dX8_readLine_48 : decode cX8_readLine 48 = .ok (.iconst 0, 1) := by decide +kernel
theorem dX8_readLine_49 : decode cX8_readLine 49 = .ok (.iload_n 2, 1) := by decide +kernel
theorem dX8_readLine_50 : decode cX8_readLine 50 = .ok (.iconst 1, 1) := by decide +kernel
theorem dX8_readLine_51 : decode cX8_readLine 51 = .ok (.isub, 1) := by decide +kernel
theorem dX8_readLine_52 : decode cX8_readLine 52 = .ok (.invokevirtual 62, 3) := by decide +kernel
theorem dX8_readLine_55 : decode cX8_readLine 55 = .ok (.ifCond .eq 15, 3) := by decide +kernel
theorem dX8_readLine_58 : decode cX8_readLine 58 = .ok (.aload_n 0, 1) := by decide +kernel
theorem dX8_readLine_59 : decode cX8_readLine 59 = .ok (.iload_n 3, 1) := by decide +kernel
theorem dX8_readLine_60 : decode cX8_readLine 60 = .ok (.aload_n 1, 1) := by decide +kernel
theorem dX8_readLine_61 : decode cX8_readLine 61 = .ok (.invokevirtual 66, 3) := by decide +kernel
theorem dX8_readLine_64 : decode cX8_readLine 64 = .ok (.invokevirtual 70, 3) := by decide +kernel
theorem dX8_readLine_67 : decode cX8_readLine 67 = .ok (.ifCond .eq 5, 3) := by decide +kernel
theorem dX8_readLine_70 : decode cX8_readLine 70 = .ok (.iconst 0, 1) := by decide +kernel
theorem dX8_readLine_71 : decode cX8_readLine 71 = .ok (.ireturn, 1) := by decide +kernel
theorem dX8_readLine_72 : decode cX8_readLine 72 = .ok (.aload_n 0, 1) := by decide +kernel
theorem dX8_readLine_73 : decode cX8_readLine 73 = .ok (.getfield 13, 3) := by decide +kernel
theorem dX8_readLine_76 : decode cX8_readLine 76 = .ok (.iload_n 3, 1) := by decide +kernel
theorem dX8_readLine_77 : decode cX8_readLine 77 = .ok (.aaload, 1) := by decide +kernel
theorem dX8_readLine_78 : decode cX8_readLine 78 = .ok (.iload 4, 2) := by decide +kernel
theorem dX8_readLine_80 : decode cX8_readLine 80 = .ok (.aload_n 1, 1) := by decide +kernel
theorem dX8_readLine_81 : decode cX8_readLine 81 = .ok (.invokevirtual 66, 3) := by decide +kernel
theorem dX8_readLine_84 : decode cX8_readLine 84 = .ok (.iastore, 1) := by decide +kernel
theorem dX8_readLine_85 : decode cX8_readLine 85 = .ok (.aload_n 0, 1) := by decide +kernel
theorem dX8_readLine_86 : decode cX8_readLine 86 = .ok (.getfield 16, 3) := by decide +kernel
theorem dX8_readLine_89 : decode cX8_readLine 89 = .ok (.iload_n 3, 1) := by decide +kernel
theorem dX8_readLine_90 : decode cX8_readLine 90 = .ok (.iload 4, 2) := by decide +kernel
theorem dX8_readLine_92 : decode cX8_readLine 92 = .ok (.iconst 1, 1) := by decide +kernel
theorem dX8_readLine_93 : decode cX8_readLine 93 = .ok (.iadd, 1) := by decide +kernel
theorem dX8_readLine_94 : decode cX8_readLine 94 = .ok (.iastore, 1) := by decide +kernel
theorem dX8_readLine_95 : decode cX8_readLine 95 = .ok (.aload_n 1, 1) := by decide +kernel
theorem dX8_readLine_96 : decode cX8_readLine 96 = .ok (.invokevirtual 43, 3) := by decide +kernel
theorem dX8_readLine_99 : decode cX8_readLine 99 = .ok (.aload_n 1, 1) := by decide +kernel
theorem dX8_readLine_100 : decode cX8_readLine 100 = .ok (.invokevirtual 73, 3) := by decide +kernel
theorem dX8_readLine_103 : decode cX8_readLine 103 = .ok (.ifCond .ne 5, 3) := by decide +kernel
theorem dX8_readLine_106 : decode cX8_readLine 106 = .ok (.iconst 1, 1) := by decide +kernel
theorem dX8_readLine_107 : decode cX8_readLine 107 = .ok (.ireturn, 1) := by decide +kernel
theorem dX8_readLine_108 : decode cX8_readLine 108 = .ok (.iinc 4 1, 3) := by decide +kernel
theorem dX8_readLine_111 : decode cX8_readLine 111 = .ok (.goto (-71), 3) := by decide +kernel
theorem dX8_readLine_114 : decode cX8_readLine 114 = .ok (.iconst 0, 1) := by decide +kernel
theorem dX8_readLine_115 : decode cX8_readLine 115 = .ok (.ireturn, 1) := by decide +kernel
set_option maxRecDepth 20000 in
theorem ggX8_readDistrict_X7_isWord : GoodIn wsX8_readDistrict wsX7_isWord := goodIn_r _ [5, 6, 7, 8, 9, 10, 11, 12, 13, 14, 15, 16, 17, 18, 19, 20, 21, 22, 23, 24, 25, 26, 27, 28, 29, 30, 31, 32, 33, 34, 35, 36, 37, 38, 39, 40, 41, 42, 43, 44, 45, 46, 47, 48, 49, 50, 51, 52, 53, 54, 55, 56, 57, 58, 88, 89, 90, 91, 92] (by decide +kernel) (by decide +kernel)
set_option maxRecDepth 20000 in
theorem gX8_readDistrict_X7_isWord : GoodIn wsX8_readDistrict (wsV RX8 78 RX7 yX7_isWord wsX7_isWord) := goodIn_app (goodIn_of _ (by decide +kernel)) ggX8_readDistrict_X7_isWord
set_option maxRecDepth 20000 in
theorem ggX8_readDistrict_X7_advance : GoodIn wsX8_readDistrict wsX7_advance := goodIn_r _ [62, 7, 63, 9, 8, 6, 64, 65, 4, 66, 67, 68, 69, 88, 89, 90, 91, 92] (by decide +kernel) (by decide +kernel)
set_option maxRecDepth 20000 in
theorem gX8_readDistrict_X7_advance : GoodIn wsX8_readDistrict (wsV RX8 43 RX7 yX7_advance wsX7_advance) := goodIn_app (goodIn_of _ (by decide +kernel)) ggX8_readDistrict_X7_advance
set_option maxRecDepth 20000 in
theorem ggX8_readDistrict_X7_isNumberWithin : GoodIn wsX8_readDistrict wsX7_isNumberWithin := goodIn_r _ [73, 74, 75, 76, 4, 77, 6, 7, 8, 9, 78, 79, 80, 88, 89, 90, 91, 92] (by decide +kernel) (by decide +kernel)
set_option maxRecDepth 20000 in
theorem gX8_readDistrict_X7_isNumberWithin : GoodIn wsX8_readDistrict (wsV RX8 62 RX7 yX7_isNumberWithin wsX7_isNumberWithin) := goodIn_app (goodIn_of _ (by decide +kernel)) ggX8_readDistrict_X7_isNumberWithin
set_option maxRecDepth 20000 in
theorem ggX8_readDistrict_X7_value : GoodIn wsX8_readDistrict wsX7_value := goodIn_r _ [77, 6, 7, 8, 9, 88, 89, 90, 91, 92] (by decide +kernel) (by decide +kernel)
set_option maxRecDepth 20000 in
theorem gX8_readDistrict_X7_value : GoodIn wsX8_readDistrict (wsV RX8 66 RX7 yX7_value wsX7_value) := goodIn_app (goodIn_of _ (by decide +kernel)) ggX8_readDistrict_X7_value
set_option maxRecDepth 20000 in
theorem ggX8_readDistrict_X8_sizeOf : GoodIn wsX8_readDistrict wsX8_sizeOf := goodIn_r _ [86, 87, 78, 79, 80, 93, 94, 95] (by decide +kernel) (by decide +kernel)
set_option maxRecDepth 20000 in
theorem gX8_readDistrict_X8_sizeOf : GoodIn wsX8_readDistrict (wsV RX8 24 RX8 yX8_sizeOf wsX8_sizeOf) := goodIn_app (goodIn_of _ (by decide +kernel)) ggX8_readDistrict_X8_sizeOf
theorem dX8_readDistrict_0 : decode cX8_readDistrict 0 = .ok (.bipush 16, 2) := by decide +kernel
theorem dX8_readDistrict_2 : decode cX8_readDistrict 2 = .ok (.istore_n 2, 1) := by decide +kernel
theorem dX8_readDistrict_3 : decode cX8_readDistrict 3 = .ok (.aload_n 1, 1) := by decide +kernel
theorem dX8_readDistrict_4 : decode cX8_readDistrict 4 = .ok (.ldc 76, 2) := by decide +kernel
theorem dX8_readDistrict_6 : decode cX8_readDistrict 6 = .ok (.invokevirtual 78, 3) := by decide +kernel
theorem dX8_readDistrict_9 : decode cX8_readDistrict 9 = .ok (.ifCond .ne 35, 3) := by decide +kernel
theorem dX8_readDistrict_12 : decode cX8_readDistrict 12 = .ok (.aload_n 1, 1) := by decide +kernel
theorem dX8_readDistrict_13 : decode cX8_readDistrict 13 = .ok (.ldc 82, 2) := by decide +kernel
theorem dX8_readDistrict_15 : decode cX8_readDistrict 15 = .ok (.invokevirtual 78, 3) := by decide +kernel
theorem dX8_readDistrict_18 : decode cX8_readDistrict 18 = .ok (.ifCond .ne 5, 3) := by decide +kernel
theorem dX8_readDistrict_21 : decode cX8_readDistrict 21 = .ok (.iconst (-1), 1) := by decide +kernel
theorem dX8_readDistrict_22 : decode cX8_readDistrict 22 = .ok (.ireturn, 1) := by decide +kernel
theorem dX8_readDistrict_23 : decode cX8_readDistrict 23 = .ok (.aload_n 1, 1) := by decide +kernel
theorem dX8_readDistrict_24 : decode cX8_readDistrict 24 = .ok (.invokevirtual 43, 3) := by decide +kernel
theorem dX8_readDistrict_27 : decode cX8_readDistrict 27 = .ok (.aload_n 1, 1) := by decide +kernel
theorem dX8_readDistrict_28 : decode cX8_readDistrict 28 = .ok (.iconst 0, 1) := by decide +kernel
theorem dX8_readDistrict_29 : decode cX8_readDistrict 29 = .ok (.bipush 15, 2) := by decide +kernel
theorem dX8_readDistrict_31 : decode cX8_readDistrict 31 = .ok (.invokevirtual 62, 3) := by decide +kernel
theorem dX8_readDistrict_34 : decode cX8_readDistrict 34 = .ok (.ifCond .ne 5, 3) := by decide +kernel
theorem dX8_readDistrict_37 : decode cX8_readDistrict 37 = .ok (.iconst (-1), 1) := by decide +kernel
theorem dX8_readDistrict_38 : decode cX8_readDistrict 38 = .ok (.ireturn, 1) := by decide +kernel
theorem dX8_readDistrict_39 : decode cX8_readDistrict 39 = .ok (.aload_n 1, 1) := by decide +kernel
theorem dX8_readDistrict_40 : decode cX8_readDistrict 40 = .ok (.invokevirtual 66, 3) := by decide +kernel
theorem dX8_readDistrict_43 : decode cX8_readDistrict 43 = .ok (.istore_n 2, 1) := by decide +kernel
theorem dX8_readDistrict_44 : decode cX8_readDistrict 44 = .ok (.aload_n 0, 1) := by decide +kernel
theorem dX8_readDistrict_45 : decode cX8_readDistrict 45 = .ok (.iload_n 2, 1) := by decide +kernel
theorem dX8_readDistrict_46 : decode cX8_readDistrict 46 = .ok (.invokevirtual 24, 3) := by decide +kernel
theorem dX8_readDistrict_49 : decode cX8_readDistrict 49 = .ok (.ifCond .ne 7, 3) := by decide +kernel
theorem dX8_readDistrict_52 : decode cX8_readDistrict 52 = .ok (.iload_n 2, 1) := by decide +kernel
theorem dX8_readDistrict_53 : decode cX8_readDistrict 53 = .ok (.goto 4, 3) := by decide +kernel
theorem dX8_readDistrict_56 : decode cX8_readDistrict 56 = .ok (.iconst (-1), 1) := by decide +kernel
theorem dX8_readDistrict_57 : decode cX8_readDistrict 57 = .ok (.ireturn, 1) := by decide +kernel
set_option maxRecDepth 20000 in
theorem ggX8_holds_X8_sizeOf : GoodIn wsX8_holds wsX8_sizeOf := goodIn_r _ [5, 6, 7, 8, 9, 15, 16, 17] (by decide +kernel) (by decide +kernel)
set_option maxRecDepth 20000 in
theorem gX8_holds_X8_sizeOf : GoodIn wsX8_holds (wsV RX8 24 RX8 yX8_sizeOf wsX8_sizeOf) := goodIn_app (goodIn_of _ (by decide +kernel)) ggX8_holds_X8_sizeOf
set_option maxRecDepth 20000 in
theorem ggX8_holds_X8_keeperAt : GoodIn wsX8_holds wsX8_keeperAt := goodIn_r _ [13, 14, 1, 2, 3, 4, 5, 6, 7, 8, 9, 15, 16, 17] (by decide +kernel) (by decide +kernel)
set_option maxRecDepth 20000 in
theorem gX8_holds_X8_keeperAt : GoodIn wsX8_holds (wsV RX8 84 RX8 yX8_keeperAt wsX8_keeperAt) := goodIn_app (goodIn_of _ (by decide +kernel)) ggX8_holds_X8_keeperAt
theorem dX8_holds_0 : decode cX8_holds 0 = .ok (.iconst 0, 1) := by decide +kernel
theorem dX8_holds_1 : decode cX8_holds 1 = .ok (.istore_n 3, 1) := by decide +kernel
theorem dX8_holds_2 : decode cX8_holds 2 = .ok (.iload_n 3, 1) := by decide +kernel
theorem dX8_holds_3 : decode cX8_holds 3 = .ok (.aload_n 0, 1) := by decide +kernel
theorem dX8_holds_4 : decode cX8_holds 4 = .ok (.iload_n 1, 1) := by decide +kernel
theorem dX8_holds_5 : decode cX8_holds 5 = .ok (.invokevirtual 24, 3) := by decide +kernel
theorem dX8_holds_8 : decode cX8_holds 8 = .ok (.if_icmp .ge 21, 3) := by decide +kernel
theorem dX8_holds_11 : decode cX8_holds 11 = .ok (.aload_n 0, 1) := by decide +kernel
theorem dX8_holds_12 : decode cX8_holds 12 = .ok (.iload_n 1, 1) := by decide +kernel
theorem dX8_holds_13 : decode cX8_holds 13 = .ok (.iload_n 3, 1) := by decide +kernel
theorem dX8_holds_14 : decode cX8_holds 14 = .ok (.invokevirtual 84, 3) := by decide +kernel
theorem dX8_holds_17 : decode cX8_holds 17 = .ok (.iload_n 2, 1) := by decide +kernel
theorem dX8_holds_18 : decode cX8_holds 18 = .ok (.if_icmp .ne 5, 3) := by decide +kernel
theorem dX8_holds_21 : decode cX8_holds 21 = .ok (.iconst 1, 1) := by decide +kernel
theorem dX8_holds_22 : decode cX8_holds 22 = .ok (.ireturn, 1) := by decide +kernel
theorem dX8_holds_23 : decode cX8_holds 23 = .ok (.iinc 3 1, 3) := by decide +kernel
theorem dX8_holds_26 : decode cX8_holds 26 = .ok (.goto (-24), 3) := by decide +kernel
theorem dX8_holds_29 : decode cX8_holds 29 = .ok (.iconst 0, 1) := by decide +kernel
theorem dX8_holds_30 : decode cX8_holds 30 = .ok (.ireturn, 1) := by decide +kernel
set_option maxRecDepth 20000 in
theorem ggX9_init_X7_init : GoodIn wsX9_init wsX7_init := goodIn_r _ [38, 39, 2, 3, 40, 41, 42, 43, 44, 45, 89, 90, 91, 92, 93] (by decide +kernel) (by decide +kernel)
set_option maxRecDepth 20000 in
theorem gX9_init_X7_init_n9 : GoodIn wsX9_init (wsX7_init) := ggX9_init_X7_init
set_option maxRecDepth 20000 in
theorem ggX9_init_X2_init : GoodIn wsX9_init wsX2_init := goodIn_r _ [47, 48, 2, 3] (by decide +kernel) (by decide +kernel)
set_option maxRecDepth 20000 in
theorem gX9_init_X2_init_n18 : GoodIn wsX9_init (wsX2_init) := ggX9_init_X2_init
set_option maxRecDepth 20000 in
theorem ggX9_init_X5_init : GoodIn wsX9_init wsX5_init := goodIn_r _ [51, 52, 2, 3, 27, 53, 54, 55, 56, 57, 58, 59, 60, 114, 115, 116, 117] (by decide +kernel) (by decide +kernel)
set_option maxRecDepth 20000 in
theorem gX9_init_X5_init : GoodIn wsX9_init (wsX5_init) := ggX9_init_X5_init
set_option maxRecDepth 20000 in
theorem ggX9_init_X0_init : GoodIn wsX9_init wsX0_init := goodIn_r _ [62, 63, 2, 3, 27, 64, 65, 66, 118, 119, 120] (by decide +kernel) (by decide +kernel)
set_option maxRecDepth 20000 in
theorem gX9_init_X0_init_n32 : GoodIn wsX9_init (wsX0_init) := ggX9_init_X0_init
set_option maxRecDepth 20000 in
theorem ggX9_init_Jx4a65c_init_da8c8 : GoodIn wsX9_init wsJx4a65c_init_da8c8 := goodIn_r _ [69, 70, 71, 72, 73, 74, 75, 76, 77, 78, 79, 80, 81, 2, 3, 121, 122, 123] (by decide +kernel) (by decide +kernel)
set_option maxRecDepth 20000 in
theorem gX9_init_Jx4a65c_init_da8c8 : GoodIn wsX9_init (wsJx4a65c_init_da8c8) := ggX9_init_Jx4a65c_init_da8c8
set_option maxRecDepth 20000 in
theorem ggX9_init_X8_init : GoodIn wsX9_init wsX8_init := goodIn_r _ [83, 84, 2, 3, 85, 27, 86, 87, 88, 124, 125, 126] (by decide +kernel) (by decide +kernel)
set_option maxRecDepth 20000 in
theorem gX9_init_X8_init_n59 : GoodIn wsX9_init (wsX8_init) := ggX9_init_X8_init
theorem dX9_init_0 : decode cX9_init 0 = .ok (.aload_n 0, 1) := by decide +kernel
theorem dX9_init_1 : decode cX9_init 1 = .ok (.invokespecial 1, 3) := by decide +kernel
theorem dX9_init_4 : decode cX9_init 4 = .ok (.aload_n 0, 1) := by decide +kernel
theorem dX9_init_5 : decode cX9_init 5 = .ok (.new 7, 3) := by decide +kernel
theorem dX9_init_8 : decode cX9_init 8 = .ok (.dup, 1) := by decide +kernel
theorem dX9_init_9 : decode cX9_init 9 = .ok (.invokespecial 9, 3) := by decide +kernel
theorem dX9_init_12 : decode cX9_init 12 = .ok (.putfield 10, 3) := by decide +kernel
theorem dX9_init_15 : decode cX9_init 15 = .ok (.aload_n 0, 1) := by decide +kernel
theorem dX9_init_16 : decode cX9_init 16 = .ok (.new 16, 3) := by decide +kernel
theorem dX9_init_19 : decode cX9_init 19 = .ok (.dup, 1) := by decide +kernel
theorem dX9_init_20 : decode cX9_init 20 = .ok (.invokespecial 18, 3) := by decide +kernel
theorem dX9_init_23 : decode cX9_init 23 = .ok (.putfield 19, 3) := by decide +kernel
theorem dX9_init_26 : decode cX9_init 26 = .ok (.aload_n 0, 1) := by decide +kernel
theorem dX9_init_27 : decode cX9_init 27 = .ok (.new 23, 3) := by decide +kernel
theorem dX9_init_30 : decode cX9_init 30 = .ok (.dup, 1) := by decide +kernel
theorem dX9_init_31 : decode cX9_init 31 = .ok (.invokespecial 25, 3) := by decide +kernel
theorem dX9_init_34 : decode cX9_init 34 = .ok (.putfield 26, 3) := by decide +kernel
theorem dX9_init_37 : decode cX9_init 37 = .ok (.aload_n 0, 1) := by decide +kernel
theorem dX9_init_38 : decode cX9_init 38 = .ok (.new 30, 3) := by decide +kernel
theorem dX9_init_41 : decode cX9_init 41 = .ok (.dup, 1) := by decide +kernel
theorem dX9_init_42 : decode cX9_init 42 = .ok (.invokespecial 32, 3) := by decide +kernel
theorem dX9_init_45 : decode cX9_init 45 = .ok (.putfield 33, 3) := by decide +kernel
theorem dX9_init_48 : decode cX9_init 48 = .ok (.aload_n 0, 1) := by decide +kernel
theorem dX9_init_49 : decode cX9_init 49 = .ok (.new 37, 3) := by decide +kernel
theorem dX9_init_52 : decode cX9_init 52 = .ok (.dup, 1) := by decide +kernel
theorem dX9_init_53 : decode cX9_init 53 = .ok (.invokespecial 39, 3) := by decide +kernel
theorem dX9_init_56 : decode cX9_init 56 = .ok (.putfield 40, 3) := by decide +kernel
theorem dX9_init_59 : decode cX9_init 59 = .ok (.aload_n 0, 1) := by decide +kernel
theorem dX9_init_60 : decode cX9_init 60 = .ok (.new 37, 3) := by decide +kernel
theorem dX9_init_63 : decode cX9_init 63 = .ok (.dup, 1) := by decide +kernel
theorem dX9_init_64 : decode cX9_init 64 = .ok (.invokespecial 39, 3) := by decide +kernel
theorem dX9_init_67 : decode cX9_init 67 = .ok (.putfield 44, 3) := by decide +kernel
theorem dX9_init_70 : decode cX9_init 70 = .ok (.aload_n 0, 1) := by decide +kernel
theorem dX9_init_71 : decode cX9_init 71 = .ok (.new 37, 3) := by decide +kernel
theorem dX9_init_74 : decode cX9_init 74 = .ok (.dup, 1) := by decide +kernel
theorem dX9_init_75 : decode cX9_init 75 = .ok (.invokespecial 39, 3) := by decide +kernel
theorem dX9_init_78 : decode cX9_init 78 = .ok (.putfield 47, 3) := by decide +kernel
theorem dX9_init_81 : decode cX9_init 81 = .ok (.aload_n 0, 1) := by decide +kernel
theorem dX9_init_82 : decode cX9_init 82 = .ok (.new 37, 3) := by decide +kernel
theorem dX9_init_85 : decode cX9_init 85 = .ok (.dup, 1) := by decide +kernel
theorem dX9_init_86 : decode cX9_init 86 = .ok (.invokespecial 39, 3) := by decide +kernel
theorem dX9_init_89 : decode cX9_init 89 = .ok (.putfield 50, 3) := by decide +kernel
theorem dX9_init_92 : decode cX9_init 92 = .ok (.aload_n 0, 1) := by decide +kernel
theorem dX9_init_93 : decode cX9_init 93 = .ok (.bipush 8, 2) := by decide +kernel
theorem dX9_init_95 : decode cX9_init 95 = .ok (.newarray .int, 2) := by decide +kernel
theorem dX9_init_97 : decode cX9_init 97 = .ok (.putfield 53, 3) := by decide +kernel
theorem dX9_init_100 : decode cX9_init 100 = .ok (.aload_n 0, 1) := by decide +kernel
theorem dX9_init_101 : decode cX9_init 101 = .ok (.new 57, 3) := by decide +kernel
theorem dX9_init_104 : decode cX9_init 104 = .ok (.dup, 1) := by decide +kernel
theorem dX9_init_105 : decode cX9_init 105 = .ok (.invokespecial 59, 3) := by decide +kernel
theorem dX9_init_108 : decode cX9_init 108 = .ok (.putfield 60, 3) := by decide +kernel
theorem dX9_init_111 : decode cX9_init 111 = .ok (.aload_n 0, 1) := by decide +kernel
theorem dX9_init_112 : decode cX9_init 112 = .ok (.new 57, 3) := by decide +kernel
theorem dX9_init_115 : decode cX9_init 115 = .ok (.dup, 1) := by decide +kernel
theorem dX9_init_116 : decode cX9_init 116 = .ok (.invokespecial 59, 3) := by decide +kernel
theorem dX9_init_119 : decode cX9_init 119 = .ok (.putfield 64, 3) := by decide +kernel
theorem dX9_init_122 : decode cX9_init 122 = .ok (.aload_n 0, 1) := by decide +kernel
theorem dX9_init_123 : decode cX9_init 123 = .ok (.iconst 0, 1) := by decide +kernel
theorem dX9_init_124 : decode cX9_init 124 = .ok (.putfield 67, 3) := by decide +kernel
theorem dX9_init_127 : decode cX9_init 127 = .ok (.aload_n 0, 1) := by decide +kernel
theorem dX9_init_128 : decode cX9_init 128 = .ok (.iconst 0, 1) := by decide +kernel
theorem dX9_init_129 : decode cX9_init 129 = .ok (.putfield 71, 3) := by decide +kernel
theorem dX9_init_132 : decode cX9_init 132 = .ok (.aload_n 0, 1) := by decide +kernel
theorem dX9_init_133 : decode cX9_init 133 = .ok (.iconst (-1), 1) := by decide +kernel
theorem dX9_init_134 : decode cX9_init 134 = .ok (.putfield 74, 3) := by decide +kernel
theorem dX9_init_137 : decode cX9_init 137 = .ok (.return_, 1) := by decide +kernel
set_option maxRecDepth 20000 in
theorem ggX9_feed_X7_hasRoomFor : GoodIn wsX9_feed wsX7_hasRoomFor := goodIn_r _ [6, 7, 28, 29, 30, 31, 32] (by decide +kernel) (by decide +kernel)
set_option maxRecDepth 20000 in
theorem gX9_feed_X7_hasRoomFor : GoodIn wsX9_feed (wsV RX9 77 RX7 yX7_hasRoomFor wsX7_hasRoomFor) := goodIn_app (goodIn_of _ (by decide +kernel)) ggX9_feed_X7_hasRoomFor
set_option maxRecDepth 20000 in
theorem ggX9_feed_X7_append : GoodIn wsX9_feed wsX7_append := goodIn_r _ [11, 12, 7, 13, 3, 4, 5, 6, 28, 29, 30, 31, 32] (by decide +kernel) (by decide +kernel)
set_option maxRecDepth 20000 in
theorem gX9_feed_X7_append : GoodIn wsX9_feed (wsV RX9 81 RX7 yX7_append wsX7_append) := goodIn_app (goodIn_of _ (by decide +kernel)) ggX9_feed_X7_append
theorem dX9_feed_0 : decode cX9_feed 0 = .ok (.aload_n 0, 1) := by decide +kernel
theorem dX9_feed_1 : decode cX9_feed 1 = .ok (.getfield 10, 3) := by decide +kernel
theorem dX9_feed_4 : decode cX9_feed 4 = .ok (.bipush 20, 2) := by decide +kernel
theorem dX9_feed_6 : decode cX9_feed 6 = .ok (.invokevirtual 77, 3) := by decide +kernel
theorem dX9_feed_9 : decode cX9_feed 9 = .ok (.ifCond .ne 5, 3) := by decide +kernel
theorem dX9_feed_12 : decode cX9_feed 12 = .ok (.iconst (-1), 1) := by decide +kernel
theorem dX9_feed_13 : decode cX9_feed 13 = .ok (.ireturn, 1) := by decide +kernel
theorem dX9_feed_14 : decode cX9_feed 14 = .ok (.aload_n 0, 1) := by decide +kernel
theorem dX9_feed_15 : decode cX9_feed 15 = .ok (.getfield 10, 3) := by decide +kernel
theorem dX9_feed_18 : decode cX9_feed 18 = .ok (.iload_n 1, 1) := by decide +kernel
theorem dX9_feed_19 : decode cX9_feed 19 = .ok (.invokevirtual 81, 3) := by decide +kernel
theorem dX9_feed_22 : decode cX9_feed 22 = .ok (.aload_n 0, 1) := by decide +kernel
theorem dX9_feed_23 : decode cX9_feed 23 = .ok (.getfield 10, 3) := by decide +kernel
theorem dX9_feed_26 : decode cX9_feed 26 = .ok (.iload_n 2, 1) := by decide +kernel
theorem dX9_feed_27 : decode cX9_feed 27 = .ok (.invokevirtual 81, 3) := by decide +kernel
theorem dX9_feed_30 : decode cX9_feed 30 = .ok (.aload_n 0, 1) := by decide +kernel
theorem dX9_feed_31 : decode cX9_feed 31 = .ok (.getfield 10, 3) := by decide +kernel
theorem dX9_feed_34 : decode cX9_feed 34 = .ok (.iload_n 3, 1) := by decide +kernel
theorem dX9_feed_35 : decode cX9_feed 35 = .ok (.invokevirtual 81, 3) := by decide +kernel
theorem dX9_feed_38 : decode cX9_feed 38 = .ok (.aload_n 0, 1) := by decide +kernel
theorem dX9_feed_39 : decode cX9_feed 39 = .ok (.getfield 10, 3) := by decide +kernel
theorem dX9_feed_42 : decode cX9_feed 42 = .ok (.iload 4, 2) := by decide +kernel
theorem dX9_feed_44 : decode cX9_feed 44 = .ok (.invokevirtual 81, 3) := by decide +kernel
theorem dX9_feed_47 : decode cX9_feed 47 = .ok (.aload_n 0, 1) := by decide +kernel
theorem dX9_feed_48 : decode cX9_feed 48 = .ok (.getfield 10, 3) := by decide +kernel
theorem dX9_feed_51 : decode cX9_feed 51 = .ok (.iload 5, 2) := by decide +kernel
theorem dX9_feed_53 : decode cX9_feed 53 = .ok (.invokevirtual 81, 3) := by decide +kernel
theorem dX9_feed_56 : decode cX9_feed 56 = .ok (.aload_n 0, 1) := by decide +kernel
theorem dX9_feed_57 : decode cX9_feed 57 = .ok (.getfield 10, 3) := by decide +kernel
theorem dX9_feed_60 : decode cX9_feed 60 = .ok (.getfield 85, 3) := by decide +kernel
theorem dX9_feed_63 : decode cX9_feed 63 = .ok (.ireturn, 1) := by decide +kernel
set_option maxRecDepth 20000 in
theorem ggX9_end_X7_cutTo : GoodIn wsX9_end wsX7_cutTo := goodIn_r _ [6, 7, 22, 23, 24, 25, 26] (by decide +kernel) (by decide +kernel)
set_option maxRecDepth 20000 in
theorem gX9_end_X7_cutTo : GoodIn wsX9_end (wsV RX9 88 RX7 yX7_cutTo wsX7_cutTo) := goodIn_app (goodIn_of _ (by decide +kernel)) ggX9_end_X7_cutTo
theorem dX9_end_0 : decode cX9_end 0 = .ok (.aload_n 0, 1) := by decide +kernel
theorem dX9_end_1 : decode cX9_end 1 = .ok (.getfield 10, 3) := by decide +kernel
theorem dX9_end_4 : decode cX9_end 4 = .ok (.iload_n 1, 1) := by decide +kernel
theorem dX9_end_5 : decode cX9_end 5 = .ok (.invokevirtual 88, 3) := by decide +kernel
theorem dX9_end_8 : decode cX9_end 8 = .ok (.ireturn, 1) := by decide +kernel
set_option maxRecDepth 20000 in
theorem ggX9_weather_X5_isDay : GoodIn wsX9_weather wsX5_isDay := goodIn_r _ [12, 13, 14, 15] (by decide +kernel) (by decide +kernel)
set_option maxRecDepth 20000 in
theorem gX9_weather_X5_isDay : GoodIn wsX9_weather (va_wsS RX9 91 yX5_isDay wsX5_isDay) := goodIn_app (goodIn_of _ (by decide +kernel)) ggX9_weather_X5_isDay
set_option maxRecDepth 20000 in
theorem ggX9_weather_X5_isWarmth : GoodIn wsX9_weather wsX5_isWarmth := goodIn_r _ [18, 13, 14, 15] (by decide +kernel) (by decide +kernel)
set_option maxRecDepth 20000 in
theorem gX9_weather_X5_isWarmth : GoodIn wsX9_weather (va_wsS RX9 101 yX5_isWarmth wsX5_isWarmth) := goodIn_app (goodIn_of _ (by decide +kernel)) ggX9_weather_X5_isWarmth
set_option maxRecDepth 20000 in
theorem ggX9_weather_X9_isWithin : GoodIn wsX9_weather wsX9_isWithin := goodIn_r _ [15] (by decide +kernel) (by decide +kernel)
set_option maxRecDepth 20000 in
theorem gX9_weather_X9_isWithin : GoodIn wsX9_weather (va_wsS RX9 104 yX9_isWithin wsX9_isWithin) := goodIn_app (goodIn_of _ (by decide +kernel)) ggX9_weather_X9_isWithin
set_option maxRecDepth 20000 in
theorem ggX9_weather_X9_today : GoodIn wsX9_weather wsX9_today := goodIn_r _ [23, 7, 24, 25, 26, 27, 28, 29, 30, 31, 32, 33, 34, 35, 36, 37] (by decide +kernel) (by decide +kernel)
set_option maxRecDepth 20000 in
theorem gX9_weather_X9_today : GoodIn wsX9_weather (wsV RX9 113 RX9 yX9_today wsX9_today) := goodIn_app (goodIn_of _ (by decide +kernel)) ggX9_weather_X9_today
theorem dX9_weather_0 : decode cX9_weather 0 = .ok (.iload_n 1, 1) := by decide +kernel
theorem dX9_weather_1 : decode cX9_weather 1 = .ok (.invokestatic 91, 3) := by decide +kernel
theorem dX9_weather_4 : decode cX9_weather 4 = .ok (.ifCond .ne 13, 3) := by decide +kernel
theorem dX9_weather_7 : decode cX9_weather 7 = .ok (.new 94, 3) := by decide +kernel
theorem dX9_weather_10 : decode cX9_weather 10 = .ok (.dup, 1) := by decide +kernel
theorem dX9_weather_11 : decode cX9_weather 11 = .ok (.ldc 96, 2) := by decide +kernel
theorem dX9_weather_13 : decode cX9_weather 13 = .ok (.invokespecial 98, 3) := by decide +kernel
theorem dX9_weather_16 : decode cX9_weather 16 = .ok (.athrow, 1) := by decide +kernel
theorem dX9_weather_17 : decode cX9_weather 17 = .ok (.iload_n 2, 1) := by decide +kernel
theorem dX9_weather_18 : decode cX9_weather 18 = .ok (.invokestatic 101, 3) := by decide +kernel
theorem dX9_weather_21 : decode cX9_weather 21 = .ok (.ifCond .eq 13, 3) := by decide +kernel
theorem dX9_weather_24 : decode cX9_weather 24 = .ok (.iload_n 3, 1) := by decide +kernel
theorem dX9_weather_25 : decode cX9_weather 25 = .ok (.iconst 0, 1) := by decide +kernel
theorem dX9_weather_26 : decode cX9_weather 26 = .ok (.bipush 100, 2) := by decide +kernel
theorem dX9_weather_28 : decode cX9_weather 28 = .ok (.invokestatic 104, 3) := by decide +kernel
theorem dX9_weather_31 : decode cX9_weather 31 = .ok (.ifCond .ne 13, 3) := by decide +kernel
theorem dX9_weather_34 : decode cX9_weather 34 = .ok (.new 108, 3) := by decide +kernel
theorem dX9_weather_37 : decode cX9_weather 37 = .ok (.dup, 1) := by decide +kernel
theorem dX9_weather_38 : decode cX9_weather 38 = .ok (.ldc 110, 2) := by decide +kernel
theorem dX9_weather_40 : decode cX9_weather 40 = .ok (.invokespecial 112, 3) := by decide +kernel
theorem dX9_weather_43 : decode cX9_weather 43 = .ok (.athrow, 1) := by decide +kernel
theorem dX9_weather_44 : decode cX9_weather 44 = .ok (.iload_n 1, 1) := by decide +kernel
theorem dX9_weather_45 : decode cX9_weather 45 = .ok (.aload_n 0, 1) := by decide +kernel
theorem dX9_weather_46 : decode cX9_weather 46 = .ok (.invokevirtual 113, 3) := by decide +kernel
theorem dX9_weather_49 : decode cX9_weather 49 = .ok (.if_icmp .gt 20, 3) := by decide +kernel
theorem dX9_weather_52 : decode cX9_weather 52 = .ok (.aload_n 0, 1) := by decide +kernel
theorem dX9_weather_53 : decode cX9_weather 53 = .ok (.getfield 71, 3) := by decide +kernel
theorem dX9_weather_56 : decode cX9_weather 56 = .ok (.ifCond .le 13, 3) := by decide +kernel
theorem dX9_weather_59 : decode cX9_weather 59 = .ok (.new 117, 3) := by decide +kernel
theorem dX9_weather_62 : decode cX9_weather 62 = .ok (.dup, 1) := by decide +kernel
theorem dX9_weather_63 : decode cX9_weather 63 = .ok (.ldc 119, 2) := by decide +kernel
theorem dX9_weather_65 : decode cX9_weather 65 = .ok (.invokespecial 121, 3) := by decide +kernel
theorem dX9_weather_68 : decode cX9_weather 68 = .ok (.athrow, 1) := by decide +kernel
theorem dX9_weather_69 : decode cX9_weather 69 = .ok (.aload_n 0, 1) := by decide +kernel
theorem dX9_weather_70 : decode cX9_weather 70 = .ok (.getfield 26, 3) := by decide +kernel
theorem dX9_weather_73 : decode cX9_weather 73 = .ok (.getfield 122, 3) := by decide +kernel
theorem dX9_weather_76 : decode cX9_weather 76 = .ok (.iload_n 1, 1) := by decide +kernel
theorem dX9_weather_77 : decode cX9_weather 77 = .ok (.iload_n 2, 1) := by decide +kernel
theorem dX9_weather_78 : decode cX9_weather 78 = .ok (.iastore, 1) := by decide +kernel
theorem dX9_weather_79 : decode cX9_weather 79 = .ok (.aload_n 0, 1) := by decide +kernel
theorem dX9_weather_80 : decode cX9_weather 80 = .ok (.getfield 26, 3) := by decide +kernel
theorem dX9_weather_83 : decode cX9_weather 83 = .ok (.getfield 125, 3) := by decide +kernel
theorem dX9_weather_86 : decode cX9_weather 86 = .ok (.iload_n 1, 1) := by decide +kernel
theorem dX9_weather_87 : decode cX9_weather 87 = .ok (.iload_n 3, 1) := by decide +kernel
theorem dX9_weather_88 : decode cX9_weather 88 = .ok (.iastore, 1) := by decide +kernel
theorem dX9_weather_89 : decode cX9_weather 89 = .ok (.return_, 1) := by decide +kernel
set_option maxRecDepth 20000 in
theorem ggX9_foretell_X5_isDay : GoodIn wsX9_foretell wsX5_isDay := goodIn_r _ [9, 10, 11, 12] (by decide +kernel) (by decide +kernel)
set_option maxRecDepth 20000 in
theorem gX9_foretell_X5_isDay : GoodIn wsX9_foretell (va_wsS RX9 91 yX5_isDay wsX5_isDay) := goodIn_app (goodIn_of _ (by decide +kernel)) ggX9_foretell_X5_isDay
set_option maxRecDepth 20000 in
theorem ggX9_foretell_X5_isWarmth : GoodIn wsX9_foretell wsX5_isWarmth := goodIn_r _ [15, 10, 11, 12] (by decide +kernel) (by decide +kernel)
set_option maxRecDepth 20000 in
theorem gX9_foretell_X5_isWarmth : GoodIn wsX9_foretell (va_wsS RX9 101 yX5_isWarmth wsX5_isWarmth) := goodIn_app (goodIn_of _ (by decide +kernel)) ggX9_foretell_X5_isWarmth
theorem dX9_foretell_0 : decode cX9_foretell 0 = .ok (.iload_n 1, 1) := by decide +kernel
theorem dX9_foretell_1 : decode cX9_foretell 1 = .ok (.invokestatic 91, 3) := by decide +kernel
theorem dX9_foretell_4 : decode cX9_foretell 4 = .ok (.ifCond .ne 13, 3) := by decide +kernel
theorem dX9_foretell_7 : decode cX9_foretell 7 = .ok (.new 94, 3) := by decide +kernel
theorem dX9_foretell_10 : decode cX9_foretell 10 = .ok (.dup, 1) := by decide +kernel
theorem dX9_foretell_11 : decode cX9_foretell 11 = .ok (.ldc 96, 2) := by decide +kernel
theorem dX9_foretell_13 : decode cX9_foretell 13 = .ok (.invokespecial 98, 3) := by decide +kernel
theorem dX9_foretell_16 : decode cX9_foretell 16 = .ok (.athrow, 1) := by decide +kernel
theorem dX9_foretell_17 : decode cX9_foretell 17 = .ok (.iload_n 2, 1) := by decide +kernel
theorem dX9_foretell_18 : decode cX9_foretell 18 = .ok (.invokestatic 101, 3) := by decide +kernel
theorem dX9_foretell_21 : decode cX9_foretell 21 = .ok (.ifCond .eq 15, 3) := by decide +kernel
theorem dX9_foretell_24 : decode cX9_foretell 24 = .ok (.iload_n 3, 1) := by decide +kernel
theorem dX9_foretell_25 : decode cX9_foretell 25 = .ok (.invokestatic 101, 3) := by decide +kernel
theorem dX9_foretell_28 : decode cX9_foretell 28 = .ok (.ifCond .eq 8, 3) := by decide +kernel
theorem dX9_foretell_31 : decode cX9_foretell 31 = .ok (.iload_n 2, 1) := by decide +kernel
theorem dX9_foretell_32 : decode cX9_foretell 32 = .ok (.iload_n 3, 1) := by decide +kernel
theorem dX9_foretell_33 : decode cX9_foretell 33 = .ok (.if_icmp .le 13, 3) := by decide +kernel
theorem dX9_foretell_36 : decode cX9_foretell 36 = .ok (.new 108, 3) := by decide +kernel
theorem dX9_foretell_39 : decode cX9_foretell 39 = .ok (.dup, 1) := by decide +kernel
theorem dX9_foretell_40 : decode cX9_foretell 40 = .ok (.ldc 128, 2) := by decide +kernel
theorem dX9_foretell_42 : decode cX9_foretell 42 = .ok (.invokespecial 112, 3) := by decide +kernel
theorem dX9_foretell_45 : decode cX9_foretell 45 = .ok (.athrow, 1) := by decide +kernel
theorem dX9_foretell_46 : decode cX9_foretell 46 = .ok (.aload_n 0, 1) := by decide +kernel
theorem dX9_foretell_47 : decode cX9_foretell 47 = .ok (.getfield 26, 3) := by decide +kernel
theorem dX9_foretell_50 : decode cX9_foretell 50 = .ok (.getfield 130, 3) := by decide +kernel
theorem dX9_foretell_53 : decode cX9_foretell 53 = .ok (.iload_n 1, 1) := by decide +kernel
theorem dX9_foretell_54 : decode cX9_foretell 54 = .ok (.iload_n 2, 1) := by decide +kernel
theorem dX9_foretell_55 : decode cX9_foretell 55 = .ok (.iastore, 1) := by decide +kernel
theorem dX9_foretell_56 : decode cX9_foretell 56 = .ok (.aload_n 0, 1) := by decide +kernel
theorem dX9_foretell_57 : decode cX9_foretell 57 = .ok (.getfield 26, 3) := by decide +kernel
theorem dX9_foretell_60 : decode cX9_foretell 60 = .ok (.getfield 133, 3) := by decide +kernel
theorem dX9_foretell_63 : decode cX9_foretell 63 = .ok (.iload_n 1, 1) := by decide +kernel
theorem dX9_foretell_64 : decode cX9_foretell 64 = .ok (.iload_n 3, 1) := by decide +kernel
theorem dX9_foretell_65 : decode cX9_foretell 65 = .ok (.iastore, 1) := by decide +kernel
theorem dX9_foretell_66 : decode cX9_foretell 66 = .ok (.return_, 1) := by decide +kernel
set_option maxRecDepth 20000 in
theorem ggX9_hive_X9_isPlace : GoodIn wsX9_hive wsX9_isPlace := goodIn_r _ [13, 14, 15, 12, 16] (by decide +kernel) (by decide +kernel)
set_option maxRecDepth 20000 in
theorem gX9_hive_X9_isPlace : GoodIn wsX9_hive (va_wsS RX9 136 yX9_isPlace wsX9_isPlace) := goodIn_app (goodIn_of _ (by decide +kernel)) ggX9_hive_X9_isPlace
set_option maxRecDepth 20000 in
theorem ggX9_hive_X9_isWithin : GoodIn wsX9_hive wsX9_isWithin := goodIn_r _ [16] (by decide +kernel) (by decide +kernel)
set_option maxRecDepth 20000 in
theorem gX9_hive_X9_isWithin : GoodIn wsX9_hive (va_wsS RX9 104 yX9_isWithin wsX9_isWithin) := goodIn_app (goodIn_of _ (by decide +kernel)) ggX9_hive_X9_isWithin
set_option maxRecDepth 20000 in
theorem ggX9_hive_Jx4a65c_size_8abf5 : GoodIn wsX9_hive wsJx4a65c_size_8abf5 := goodIn_r _ [21, 22, 111, 112, 113] (by decide +kernel) (by decide +kernel)
set_option maxRecDepth 20000 in
theorem gX9_hive_Jx4a65c_size_8abf5 : GoodIn wsX9_hive (wsV RX9 143 RJx4a65c yJx4a65c_size_8abf5 wsJx4a65c_size_8abf5) := goodIn_app (goodIn_of _ (by decide +kernel)) ggX9_hive_Jx4a65c_size_8abf5
set_option maxRecDepth 20000 in
theorem ggX9_hive_X3_init : GoodIn wsX9_hive wsX3_init := goodIn_r _ [25, 26, 27, 28, 29, 30, 31, 32, 33, 34, 35, 104, 105, 106, 107, 108, 109, 110] (by decide +kernel) (by decide +kernel)
set_option maxRecDepth 20000 in
theorem gX9_hive_X3_init : GoodIn wsX9_hive (wsX3_init) := ggX9_hive_X3_init
set_option maxRecDepth 20000 in
theorem ggX9_hive_Jx4a65c_add_9ea2d : GoodIn wsX9_hive wsJx4a65c_add_9ea2d := goodIn_r _ [39, 40, 41, 42, 22, 43, 44, 45, 20, 46, 47, 48, 49, 50, 51, 52, 53, 54, 55, 56, 57, 58, 59, 60, 61, 62, 63, 64, 65, 66, 67, 68, 69, 70, 71, 72, 73, 74, 75, 76, 77, 78, 79, 80, 81, 82, 83, 84, 85, 86, 87, 88, 89, 111, 112, 113] (by decide +kernel) (by decide +kernel)
set_option maxRecDepth 20000 in
theorem gX9_hive_Jx4a65c_add_9ea2d : GoodIn wsX9_hive (wsV RX9 156 RJx4a65c yJx4a65c_add_9ea2d wsJx4a65c_add_9ea2d) := goodIn_app (goodIn_of _ (by decide +kernel)) ggX9_hive_Jx4a65c_add_9ea2d
theorem dX9_hive_0 : decode cX9_hive 0 = .ok (.iload_n 1, 1) := by decide +kernel
theorem dX9_hive_1 : decode cX9_hive 1 = .ok (.iload_n 2, 1) := by decide +kernel
theorem dX9_hive_2 : decode cX9_hive 2 = .ok (.invokestatic 136, 3) := by decide +kernel
theorem dX9_hive_5 : decode cX9_hive 5 = .ok (.ifCond .eq 37, 3) := by decide +kernel
theorem dX9_hive_8 : decode cX9_hive 8 = .ok (.iload_n 3, 1) := by decide +kernel
theorem dX9_hive_9 : decode cX9_hive 9 = .ok (.iconst 0, 1) := by decide +kernel
theorem dX9_hive_10 : decode cX9_hive 10 = .ok (.ldc 140, 2) := by decide +kernel
theorem dX9_hive_12 : decode cX9_hive 12 = .ok (.invokestatic 104, 3) := by decide +kernel
theorem dX9_hive_15 : decode cX9_hive 15 = .ok (.ifCond .eq 27, 3) := by decide +kernel
theorem dX9_hive_18 : decode cX9_hive 18 = .ok (.iload 4, 2) := by decide +kernel
theorem dX9_hive_20 : decode cX9_hive 20 = .ok (.sipush 1000, 3) := by decide +kernel
theorem dX9_hive_23 : decode cX9_hive 23 = .ok (.ldc 140, 2) := by decide +kernel
theorem dX9_hive_25 : decode cX9_hive 25 = .ok (.invokestatic 104, 3) := by decide +kernel
theorem dX9_hive_28 : decode cX9_hive 28 = .ok (.ifCond .eq 14, 3) := by decide +kernel
theorem dX9_hive_31 : decode cX9_hive 31 = .ok (.iload 5, 2) := by decide +kernel
theorem dX9_hive_33 : decode cX9_hive 33 = .ok (.iconst 0, 1) := by decide +kernel
theorem dX9_hive_34 : decode cX9_hive 34 = .ok (.bipush 7, 2) := by decide +kernel
theorem dX9_hive_36 : decode cX9_hive 36 = .ok (.invokestatic 104, 3) := by decide +kernel
theorem dX9_hive_39 : decode cX9_hive 39 = .ok (.ifCond .ne 13, 3) := by decide +kernel
theorem dX9_hive_42 : decode cX9_hive 42 = .ok (.new 108, 3) := by decide +kernel
theorem dX9_hive_45 : decode cX9_hive 45 = .ok (.dup, 1) := by decide +kernel
theorem dX9_hive_46 : decode cX9_hive 46 = .ok (.ldc 141, 2) := by decide +kernel
theorem dX9_hive_48 : decode cX9_hive 48 = .ok (.invokespecial 112, 3) := by decide +kernel
theorem dX9_hive_51 : decode cX9_hive 51 = .ok (.athrow, 1) := by decide +kernel
theorem dX9_hive_52 : decode cX9_hive 52 = .ok (.aload_n 0, 1) := by decide +kernel
theorem dX9_hive_53 : decode cX9_hive 53 = .ok (.getfield 40, 3) := by decide +kernel
theorem dX9_hive_56 : decode cX9_hive 56 = .ok (.invokevirtual 143, 3) := by decide +kernel
theorem dX9_hive_59 : decode cX9_hive 59 = .ok (.bipush 20, 2) := by decide +kernel
theorem dX9_hive_61 : decode cX9_hive 61 = .ok (.if_icmp .lt 13, 3) := by decide +kernel
theorem dX9_hive_64 : decode cX9_hive 64 = .ok (.new 146, 3) := by decide +kernel
theorem dX9_hive_67 : decode cX9_hive 67 = .ok (.dup, 1) := by decide +kernel
theorem dX9_hive_68 : decode cX9_hive 68 = .ok (.ldc 148, 2) := by decide +kernel
theorem dX9_hive_70 : decode cX9_hive 70 = .ok (.invokespecial 150, 3) := by decide +kernel
theorem dX9_hive_73 : decode cX9_hive 73 = .ok (.athrow, 1) := by decide +kernel
theorem dX9_hive_74 : decode cX9_hive 74 = .ok (.aload_n 0, 1) := by decide +kernel
theorem dX9_hive_75 : decode cX9_hive 75 = .ok (.getfield 40, 3) := by decide +kernel
theorem dX9_hive_78 : decode cX9_hive 78 = .ok (.new 151, 3) := by decide +kernel
theorem dX9_hive_81 : decode cX9_hive 81 = .ok (.dup, 1) := by decide +kernel
theorem dX9_hive_82 : decode cX9_hive 82 = .ok (.iload_n 1, 1) := by decide +kernel
theorem dX9_hive_83 : decode cX9_hive 83 = .ok (.iload_n 2, 1) := by decide +kernel
theorem dX9_hive_84 : decode cX9_hive 84 = .ok (.iload_n 3, 1) := by decide +kernel
theorem dX9_hive_85 : decode cX9_hive 85 = .ok (.iload 4, 2) := by decide +kernel
theorem dX9_hive_87 : decode cX9_hive 87 = .ok (.iload 5, 2) := by decide +kernel
theorem dX9_hive_89 : decode cX9_hive 89 = .ok (.invokespecial 153, 3) := by decide +kernel
theorem dX9_hive_92 : decode cX9_hive 92 = .ok (.invokevirtual 156, 3) := by decide +kernel
theorem dX9_hive_95 : decode cX9_hive 95 = .ok (.pop, 1) := by decide +kernel
theorem dX9_hive_96 : decode cX9_hive 96 = .ok (.aload_n 0, 1) := by decide +kernel
theorem dX9_hive_97 : decode cX9_hive 97 = .ok (.getfield 40, 3) := by decide +kernel
theorem dX9_hive_100 : decode cX9_hive 100 = .ok (.invokevirtual 143, 3) := by decide +kernel
theorem dX9_hive_103 : decode cX9_hive 103 = .ok (.iconst 1, 1) := by decide +kernel
theorem dX9_hive_104 : decode cX9_hive 104 = .ok (.isub, 1) := by decide +kernel
theorem dX9_hive_105 : decode cX9_hive 105 = .ok (.ireturn, 1) := by decide +kernel
set_option maxRecDepth 20000 in
theorem ggX9_keeper_X9_isPlace : GoodIn wsX9_keeper wsX9_isPlace := goodIn_r _ [12, 13, 14, 11, 15] (by decide +kernel) (by decide +kernel)
set_option maxRecDepth 20000 in
theorem gX9_keeper_X9_isPlace : GoodIn wsX9_keeper (va_wsS RX9 136 yX9_isPlace wsX9_isPlace) := goodIn_app (goodIn_of _ (by decide +kernel)) ggX9_keeper_X9_isPlace
set_option maxRecDepth 20000 in
theorem ggX9_keeper_X9_isWithin : GoodIn wsX9_keeper wsX9_isWithin := goodIn_r _ [15] (by decide +kernel) (by decide +kernel)
set_option maxRecDepth 20000 in
theorem gX9_keeper_X9_isWithin : GoodIn wsX9_keeper (va_wsS RX9 104 yX9_isWithin wsX9_isWithin) := goodIn_app (goodIn_of _ (by decide +kernel)) ggX9_keeper_X9_isWithin
set_option maxRecDepth 20000 in
theorem ggX9_keeper_X9_isHourOfDay : GoodIn wsX9_keeper wsX9_isHourOfDay := goodIn_r _ [18, 13, 14, 11, 15] (by decide +kernel) (by decide +kernel)
set_option maxRecDepth 20000 in
theorem gX9_keeper_X9_isHourOfDay : GoodIn wsX9_keeper (va_wsS RX9 160 yX9_isHourOfDay wsX9_isHourOfDay) := goodIn_app (goodIn_of _ (by decide +kernel)) ggX9_keeper_X9_isHourOfDay
set_option maxRecDepth 20000 in
theorem ggX9_keeper_Jx4a65c_size_8abf5 : GoodIn wsX9_keeper wsJx4a65c_size_8abf5 := goodIn_r _ [23, 24, 123, 124, 125] (by decide +kernel) (by decide +kernel)
set_option maxRecDepth 20000 in
theorem gX9_keeper_Jx4a65c_size_8abf5 : GoodIn wsX9_keeper (wsV RX9 143 RJx4a65c yJx4a65c_size_8abf5 wsJx4a65c_size_8abf5) := goodIn_app (goodIn_of _ (by decide +kernel)) ggX9_keeper_Jx4a65c_size_8abf5
set_option maxRecDepth 20000 in
theorem ggX9_keeper_X4_init : GoodIn wsX9_keeper wsX4_init := goodIn_r _ [27, 28, 29, 30, 31, 32, 33, 34, 35, 36, 37, 38, 39, 40, 41, 42, 111, 112, 113, 114, 115, 116, 117, 118, 119, 120, 121, 122] (by decide +kernel) (by decide +kernel)
set_option maxRecDepth 20000 in
theorem gX9_keeper_X4_init : GoodIn wsX9_keeper (wsX4_init) := ggX9_keeper_X4_init
set_option maxRecDepth 20000 in
theorem ggX9_keeper_Jx4a65c_add_9ea2d : GoodIn wsX9_keeper wsJx4a65c_add_9ea2d := goodIn_r _ [46, 47, 48, 49, 24, 50, 51, 52, 22, 53, 54, 55, 56, 57, 58, 59, 60, 61, 62, 63, 64, 65, 66, 67, 68, 69, 70, 71, 72, 73, 74, 75, 76, 77, 78, 79, 80, 81, 82, 83, 84, 85, 86, 87, 88, 89, 90, 91, 92, 93, 94, 95, 96, 123, 124, 125] (by decide +kernel) (by decide +kernel)
set_option maxRecDepth 20000 in
theorem gX9_keeper_Jx4a65c_add_9ea2d : GoodIn wsX9_keeper (wsV RX9 156 RJx4a65c yJx4a65c_add_9ea2d wsJx4a65c_add_9ea2d) := goodIn_app (goodIn_of _ (by decide +kernel)) ggX9_keeper_Jx4a65c_add_9ea2d
theorem dX9_keeper_0 : decode cX9_keeper 0 = .ok (.iload_n 1, 1) := by decide +kernel
theorem dX9_keeper_1 : decode cX9_keeper 1 = .ok (.iload_n 2, 1) := by decide +kernel
theorem dX9_keeper_2 : decode cX9_keeper 2 = .ok (.invokestatic 136, 3) := by decide +kernel
theorem dX9_keeper_5 : decode cX9_keeper 5 = .ok (.ifCond .eq 51, 3) := by decide +kernel
theorem dX9_keeper_8 : decode cX9_keeper 8 = .ok (.iload_n 3, 1) := by decide +kernel
theorem dX9_keeper_9 : decode cX9_keeper 9 = .ok (.iconst 0, 1) := by decide +kernel
theorem dX9_keeper_10 : decode cX9_keeper 10 = .ok (.bipush 20, 2) := by decide +kernel
theorem dX9_keeper_12 : decode cX9_keeper 12 = .ok (.invokestatic 104, 3) := by decide +kernel
theorem dX9_keeper_15 : decode cX9_keeper 15 = .ok (.ifCond .eq 41, 3) := by decide +kernel
theorem dX9_keeper_18 : decode cX9_keeper 18 = .ok (.iload 4, 2) := by decide +kernel
theorem dX9_keeper_20 : decode cX9_keeper 20 = .ok (.iconst 0, 1) := by decide +kernel
theorem dX9_keeper_21 : decode cX9_keeper 21 = .ok (.bipush 9, 2) := by decide +kernel
theorem dX9_keeper_23 : decode cX9_keeper 23 = .ok (.invokestatic 104, 3) := by decide +kernel
theorem dX9_keeper_26 : decode cX9_keeper 26 = .ok (.ifCond .eq 30, 3) := by decide +kernel
theorem dX9_keeper_29 : decode cX9_keeper 29 = .ok (.iload 5, 2) := by decide +kernel
theorem dX9_keeper_31 : decode cX9_keeper 31 = .ok (.iconst 1, 1) := by decide +kernel
theorem dX9_keeper_32 : decode cX9_keeper 32 = .ok (.bipush 10, 2) := by decide +kernel
theorem dX9_keeper_34 : decode cX9_keeper 34 = .ok (.invokestatic 104, 3) := by decide +kernel
theorem dX9_keeper_37 : decode cX9_keeper 37 = .ok (.ifCond .eq 19, 3) := by decide +kernel
theorem dX9_keeper_40 : decode cX9_keeper 40 = .ok (.iload 6, 2) := by decide +kernel
theorem dX9_keeper_42 : decode cX9_keeper 42 = .ok (.invokestatic 160, 3) := by decide +kernel
theorem dX9_keeper_45 : decode cX9_keeper 45 = .ok (.ifCond .eq 11, 3) := by decide +kernel
theorem dX9_keeper_48 : decode cX9_keeper 48 = .ok (.iload 7, 2) := by decide +kernel
theorem dX9_keeper_50 : decode cX9_keeper 50 = .ok (.invokestatic 160, 3) := by decide +kernel
theorem dX9_keeper_53 : decode cX9_keeper 53 = .ok (.ifCond .ne 13, 3) := by decide +kernel
theorem dX9_keeper_56 : decode cX9_keeper 56 = .ok (.new 108, 3) := by decide +kernel
theorem dX9_keeper_59 : decode cX9_keeper 59 = .ok (.dup, 1) := by decide +kernel
theorem dX9_keeper_60 : decode cX9_keeper 60 = .ok (.ldc 163, 2) := by decide +kernel
theorem dX9_keeper_62 : decode cX9_keeper 62 = .ok (.invokespecial 112, 3) := by decide +kernel
theorem dX9_keeper_65 : decode cX9_keeper 65 = .ok (.athrow, 1) := by decide +kernel
theorem dX9_keeper_66 : decode cX9_keeper 66 = .ok (.aload_n 0, 1) := by decide +kernel
theorem dX9_keeper_67 : decode cX9_keeper 67 = .ok (.getfield 47, 3) := by decide +kernel
theorem dX9_keeper_70 : decode cX9_keeper 70 = .ok (.invokevirtual 143, 3) := by decide +kernel
theorem dX9_keeper_73 : decode cX9_keeper 73 = .ok (.bipush 12, 2) := by decide +kernel
theorem dX9_keeper_75 : decode cX9_keeper 75 = .ok (.if_icmp .lt 13, 3) := by decide +kernel
theorem dX9_keeper_78 : decode cX9_keeper 78 = .ok (.new 146, 3) := by decide +kernel
theorem dX9_keeper_81 : decode cX9_keeper 81 = .ok (.dup, 1) := by decide +kernel
theorem dX9_keeper_82 : decode cX9_keeper 82 = .ok (.ldc 165, 2) := by decide +kernel
theorem dX9_keeper_84 : decode cX9_keeper 84 = .ok (.invokespecial 150, 3) := by decide +kernel
theorem dX9_keeper_87 : decode cX9_keeper 87 = .ok (.athrow, 1) := by decide +kernel
theorem dX9_keeper_88 : decode cX9_keeper 88 = .ok (.aload_n 0, 1) := by decide +kernel
theorem dX9_keeper_89 : decode cX9_keeper 89 = .ok (.getfield 47, 3) := by decide +kernel
theorem dX9_keeper_92 : decode cX9_keeper 92 = .ok (.new 167, 3) := by decide +kernel
theorem dX9_keeper_95 : decode cX9_keeper 95 = .ok (.dup, 1) := by decide +kernel
theorem dX9_keeper_96 : decode cX9_keeper 96 = .ok (.iload_n 1, 1) := by decide +kernel
theorem dX9_keeper_97 : decode cX9_keeper 97 = .ok (.iload_n 2, 1) := by decide +kernel
theorem dX9_keeper_98 : decode cX9_keeper 98 = .ok (.iload_n 3, 1) := by decide +kernel
theorem dX9_keeper_99 : decode cX9_keeper 99 = .ok (.iload 4, 2) := by decide +kernel
theorem dX9_keeper_101 : decode cX9_keeper 101 = .ok (.iload 5, 2) := by decide +kernel
theorem dX9_keeper_103 : decode cX9_keeper 103 = .ok (.iload 6, 2) := by decide +kernel
theorem dX9_keeper_105 : decode cX9_keeper 105 = .ok (.iload 7, 2) := by decide +kernel
theorem dX9_keeper_107 : decode cX9_keeper 107 = .ok (.invokespecial 169, 3) := by decide +kernel
theorem dX9_keeper_110 : decode cX9_keeper 110 = .ok (.invokevirtual 156, 3) := by decide +kernel
theorem dX9_keeper_113 : decode cX9_keeper 113 = .ok (.pop, 1) := by decide +kernel
theorem dX9_keeper_114 : decode cX9_keeper 114 = .ok (.aload_n 0, 1) := by decide +kernel
theorem dX9_keeper_115 : decode cX9_keeper 115 = .ok (.getfield 47, 3) := by decide +kernel
theorem dX9_keeper_118 : decode cX9_keeper 118 = .ok (.invokevirtual 143, 3) := by decide +kernel
theorem dX9_keeper_121 : decode cX9_keeper 121 = .ok (.iconst 1, 1) := by decide +kernel
theorem dX9_keeper_122 : decode cX9_keeper 122 = .ok (.isub, 1) := by decide +kernel
theorem dX9_keeper_123 : decode cX9_keeper 123 = .ok (.ireturn, 1) := by decide +kernel
set_option maxRecDepth 20000 in
theorem ggX9_boxes_X9_keeperNumbered : GoodIn wsX9_boxes wsX9_keeperNumbered := goodIn_ca (goodIn_r _ [11, 12, 13, 14, 15, 16, 17, 18, 19, 20, 21, 22, 23, 24, 25, 26, 27, 28, 29, 30, 31, 32, 33, 34, 35, 36, 37, 38, 54, 55, 56, 57, 58, 59, 60, 61, 62, 63, 64, 65, 66, 67, 68, 69, 70] (by decide +kernel) (by decide +kernel)) (goodIn_sub (fun _ h => List.mem_cons_of_mem _ (List.mem_append_right _ h)) (by decide +kernel))
set_option maxRecDepth 20000 in
theorem gX9_boxes_X9_keeperNumbered : GoodIn wsX9_boxes (wsV RX9 172 RX9 yX9_keeperNumbered wsX9_keeperNumbered) := goodIn_app (goodIn_of _ (by decide +kernel)) ggX9_boxes_X9_keeperNumbered
set_option maxRecDepth 20000 in
theorem ggX9_boxes_X9_isWithin : GoodIn wsX9_boxes wsX9_isWithin := goodIn_r _ [41] (by decide +kernel) (by decide +kernel)
set_option maxRecDepth 20000 in
theorem gX9_boxes_X9_isWithin : GoodIn wsX9_boxes (va_wsS RX9 104 yX9_isWithin wsX9_isWithin) := goodIn_app (goodIn_of _ (by decide +kernel)) ggX9_boxes_X9_isWithin
theorem dX9_boxes_0 : decode cX9_boxes 0 = .ok (.aload_n 0, 1) := by decide +kernel
theorem dX9_boxes_1 : decode cX9_boxes 1 = .ok (.iload_n 1, 1) := by decide +kernel
theorem dX9_boxes_2 : decode cX9_boxes 2 = .ok (.invokevirtual 172, 3) := by decide +kernel
theorem dX9_boxes_5 : decode cX9_boxes 5 = .ok (.astore_n 3, 1) := by decide +kernel
theorem dX9_boxes_6 : decode cX9_boxes 6 = .ok (.iload_n 2, 1) := by decide +kernel
theorem dX9_boxes_7 : decode cX9_boxes 7 = .ok (.iconst 0, 1) := by decide +kernel
theorem dX9_boxes_8 : decode cX9_boxes 8 = .ok (.bipush 20, 2) := by decide +kernel
theorem dX9_boxes_10 : decode cX9_boxes 10 = .ok (.invokestatic 104, 3) := by decide +kernel
theorem dX9_boxes_13 : decode cX9_boxes 13 = .ok (.ifCond .ne 13, 3) := by decide +kernel
theorem dX9_boxes_16 : decode cX9_boxes 16 = .ok (.new 108, 3) := by decide +kernel
theorem dX9_boxes_19 : decode cX9_boxes 19 = .ok (.dup, 1) := by decide +kernel
theorem dX9_boxes_20 : decode cX9_boxes 20 = .ok (.ldc 176, 2) := by decide +kernel
theorem dX9_boxes_22 : decode cX9_boxes 22 = .ok (.invokespecial 112, 3) := by decide +kernel
theorem dX9_boxes_25 : decode cX9_boxes 25 = .ok (.athrow, 1) := by decide +kernel
theorem dX9_boxes_26 : decode cX9_boxes 26 = .ok (.aload_n 3, 1) := by decide +kernel
theorem dX9_boxes_27 : decode cX9_boxes 27 = .ok (.aload_n 3, 1) := by decide +kernel
theorem dX9_boxes_28 : decode cX9_boxes 28 = .ok (.getfield 178, 3) := by decide +kernel
theorem dX9_boxes_31 : decode cX9_boxes 31 = .ok (.iload_n 2, 1) := by decide +kernel
theorem dX9_boxes_32 : decode cX9_boxes 32 = .ok (.iadd, 1) := by decide +kernel
theorem dX9_boxes_33 : decode cX9_boxes 33 = .ok (.bipush 20, 2) := by decide +kernel
theorem dX9_boxes_35 : decode cX9_boxes 35 = .ok (.invokestatic 181, 3) := by decide +kernel
theorem dX9_boxes_38 : decode cX9_boxes 38 = .ok (.putfield 178, 3) := by decide +kernel
theorem dX9_boxes_41 : decode cX9_boxes 41 = .ok (.aload_n 3, 1) := by decide +kernel
theorem dX9_boxes_42 : decode cX9_boxes 42 = .ok (.getfield 178, 3) := by decide +kernel
theorem dX9_boxes_45 : decode cX9_boxes 45 = .ok (.ireturn, 1) := by decide +kernel
set_option maxRecDepth 20000 in
theorem ggX9_hours_X9_isWithin : GoodIn wsX9_hours wsX9_isWithin := goodIn_r _ [7] (by decide +kernel) (by decide +kernel)
set_option maxRecDepth 20000 in
theorem gX9_hours_X9_isWithin : GoodIn wsX9_hours (va_wsS RX9 104 yX9_isWithin wsX9_isWithin) := goodIn_app (goodIn_of _ (by decide +kernel)) ggX9_hours_X9_isWithin
set_option maxRecDepth 20000 in
theorem ggX9_hours_X9_passHour : GoodIn wsX9_hours wsX9_passHour := goodIn_ca (goodIn_r _ [11, 3, 12, 13, 14, 15, 16, 17, 18, 19, 20, 21, 6, 22, 23, 24, 25, 26, 27, 28, 29, 30, 31, 32, 33, 34, 35, 36, 37, 38, 39, 40, 41, 42, 43, 44, 45, 46, 47, 48, 49, 50, 51, 52, 53, 54, 55, 56, 57, 58, 59, 60, 61, 62, 63, 64, 65, 66, 67, 68, 69, 70, 71, 72, 73, 74, 75, 76, 77, 78, 79, 80, 81, 82, 83, 84, 85, 86, 87, 88, 89, 90, 91, 92, 93, 94, 95, 96, 97, 98, 99, 100, 101, 102, 103, 104, 105, 106, 107, 108, 109, 110, 111, 112, 113, 114, 115, 116, 117, 118, 119, 120, 121, 122, 123, 124, 125, 126, 127, 128, 129, 130, 131, 132, 133, 134, 135, 136, 137, 138, 139, 140, 141, 142, 143, 144, 145, 146, 147, 148, 149, 150, 151, 152, 153, 154, 155, 156, 157, 158, 159, 160, 161, 162, 163, 164, 165, 166, 167, 168, 169, 170, 171, 172, 173, 174, 175, 176, 177, 178, 179, 180, 181, 182, 183, 184, 185, 186, 187, 188, 189, 190, 191, 192, 193, 194, 195, 196, 197, 198, 199, 200, 201, 202, 203, 204, 205, 206, 207, 208, 209, 210, 211, 212, 213, 214, 215, 216, 217, 218, 219, 220, 221, 222, 223, 224, 225, 226, 227, 228, 229, 230, 231, 232, 233, 234, 235, 236, 237, 238, 239, 240, 241, 242, 243, 244, 245, 246, 247, 248, 249, 250, 251, 252, 253, 254, 255, 256, 257, 258, 259, 260, 261, 262, 263, 264, 265, 266, 267, 268, 269, 270, 271, 272, 273, 274, 275, 276, 277, 278, 279] (by decide +kernel) (by decide +kernel)) (goodIn_sub (fun _ h => List.mem_cons_of_mem _ (List.mem_append_right _ h)) (by decide +kernel))
set_option maxRecDepth 20000 in
theorem gX9_hours_X9_passHour : GoodIn wsX9_hours (wsV RX9 189 RX9 yX9_passHour wsX9_passHour) := goodIn_app (goodIn_of _ (by decide +kernel)) ggX9_hours_X9_passHour
theorem dX9_hours_0 : decode cX9_hours 0 = .ok (.iload_n 1, 1) := by decide +kernel
theorem dX9_hours_1 : decode cX9_hours 1 = .ok (.iconst 0, 1) := by decide +kernel
theorem dX9_hours_2 : decode cX9_hours 2 = .ok (.bipush 100, 2) := by decide +kernel
theorem dX9_hours_4 : decode cX9_hours 4 = .ok (.invokestatic 104, 3) := by decide +kernel
theorem dX9_hours_7 : decode cX9_hours 7 = .ok (.ifCond .ne 13, 3) := by decide +kernel
theorem dX9_hours_10 : decode cX9_hours 10 = .ok (.new 108, 3) := by decide +kernel
theorem dX9_hours_13 : decode cX9_hours 13 = .ok (.dup, 1) := by decide +kernel
theorem dX9_hours_14 : decode cX9_hours 14 = .ok (.ldc 187, 2) := by decide +kernel
theorem dX9_hours_16 : decode cX9_hours 16 = .ok (.invokespecial 112, 3) := by decide +kernel
theorem dX9_hours_19 : decode cX9_hours 19 = .ok (.athrow, 1) := by decide +kernel
theorem dX9_hours_20 : decode cX9_hours 20 = .ok (.iconst 0, 1) := by decide +kernel
theorem dX9_hours_21 : decode cX9_hours 21 = .ok (.istore_n 2, 1) := by decide +kernel
theorem dX9_hours_22 : decode cX9_hours 22 = .ok (.iload_n 2, 1) := by decide +kernel
theorem dX9_hours_23 : decode cX9_hours 23 = .ok (.iload_n 1, 1) := by decide +kernel
theorem dX9_hours_24 : decode cX9_hours 24 = .ok (.if_icmp .ge 23, 3) := by decide +kernel
theorem dX9_hours_27 : decode cX9_hours 27 = .ok (.aload_n 0, 1) := by decide +kernel
theorem dX9_hours_28 : decode cX9_hours 28 = .ok (.getfield 71, 3) := by decide +kernel
theorem dX9_hours_31 : decode cX9_hours 31 = .ok (.sipush 743, 3) := by decide +kernel
theorem dX9_hours_34 : decode cX9_hours 34 = .ok (.if_icmp .ge 13, 3) := by decide +kernel
theorem dX9_hours_37 : decode cX9_hours 37 = .ok (.aload_n 0, 1) := by decide +kernel
theorem dX9_hours_38 : decode cX9_hours 38 = .ok (.invokevirtual 189, 3) := by decide +kernel
theorem dX9_hours_41 : decode cX9_hours 41 = .ok (.iinc 2 1, 3) := by decide +kernel
theorem dX9_hours_44 : decode cX9_hours 44 = .ok (.goto (-22), 3) := by decide +kernel
theorem dX9_hours_47 : decode cX9_hours 47 = .ok (.aload_n 0, 1) := by decide +kernel
theorem dX9_hours_48 : decode cX9_hours 48 = .ok (.getfield 71, 3) := by decide +kernel
theorem dX9_hours_51 : decode cX9_hours 51 = .ok (.ireturn, 1) := by decide +kernel
set_option maxRecDepth 20000 in
theorem ggX9_call_X2_readFrom : GoodIn wsX9_call wsX2_readFrom := goodIn_r _ [17, 18, 19, 20, 21, 16, 22, 23, 24, 25, 26, 27, 28, 29, 30, 31, 32, 33, 34, 35, 36, 37, 38, 39, 40, 41, 42, 43, 44, 45, 46, 47, 48, 49, 50, 51, 52, 53, 54, 55, 56, 57, 58, 59, 60, 61, 62, 63, 64, 65, 66, 67, 68, 69, 70, 71, 72, 73, 74, 75, 76, 77, 78, 79, 80, 81, 82, 83, 84, 85, 86, 87, 88, 89, 90, 91, 92, 93, 94, 95, 96, 97, 98, 99, 100, 101, 102, 103, 104, 105, 106, 107, 108, 109, 110, 111, 112, 113, 114, 115, 116, 117, 118, 119, 120, 121, 122, 123, 124, 125, 126, 127, 128, 129, 130, 131, 132, 133, 134, 135, 136, 137, 138, 139, 140, 141, 142, 143, 294, 295, 296, 297, 298, 299, 300, 301, 302, 303, 304] (by decide +kernel) (by decide +kernel)
set_option maxRecDepth 20000 in
theorem gX9_call_X2_readFrom : GoodIn wsX9_call (wsV RX9 192 RX2 yX2_readFrom wsX2_readFrom) := goodIn_app (goodIn_of _ (by decide +kernel)) ggX9_call_X2_readFrom
set_option maxRecDepth 20000 in
theorem ggX9_call_X9_closeText : GoodIn wsX9_call wsX9_closeText := goodIn_r _ [147, 6, 148, 149, 150, 151, 31, 152, 38, 269, 270, 271, 272, 273, 274, 275, 276, 277, 278, 279, 280, 281, 282, 300, 301, 302, 303, 304] (by decide +kernel) (by decide +kernel)
set_option maxRecDepth 20000 in
theorem gX9_call_X9_closeText : GoodIn wsX9_call (wsV RX9 196 RX9 yX9_closeText wsX9_closeText) := goodIn_app (goodIn_of _ (by decide +kernel)) ggX9_call_X9_closeText
set_option maxRecDepth 20000 in
theorem ggX9_call_X9_firstCaseAlike : GoodIn wsX9_call wsX9_firstCaseAlike := goodIn_r _ [156, 9, 157, 5, 7, 158, 159, 160, 161, 162, 163, 164, 165, 166, 167, 168, 169, 170, 171, 172, 85, 86, 87, 173, 174, 175, 176, 177, 178, 179, 180, 12, 181, 182, 183, 184, 185, 186, 187, 121, 188, 189, 190, 191, 192, 193, 194, 195, 269, 270, 271, 272, 273, 274, 275, 276, 277, 278, 279, 280, 281, 282, 305, 306, 307, 283, 284, 285, 286, 287, 288, 289, 290, 291, 292, 293, 294, 295, 296, 297, 298, 299] (by decide +kernel) (by decide +kernel)
set_option maxRecDepth 20000 in
theorem gX9_call_X9_firstCaseAlike : GoodIn wsX9_call (wsV RX9 204 RX9 yX9_firstCaseAlike wsX9_firstCaseAlike) := goodIn_app (goodIn_of _ (by decide +kernel)) ggX9_call_X9_firstCaseAlike
set_option maxRecDepth 20000 in
theorem ggX9_call_Jx4a65c_size_8abf5 : GoodIn wsX9_call wsJx4a65c_size_8abf5 := goodIn_r _ [162, 163, 305, 306, 307] (by decide +kernel) (by decide +kernel)
set_option maxRecDepth 20000 in
theorem gX9_call_Jx4a65c_size_8abf5 : GoodIn wsX9_call (wsV RX9 143 RJx4a65c yJx4a65c_size_8abf5 wsJx4a65c_size_8abf5) := goodIn_app (goodIn_of _ (by decide +kernel)) ggX9_call_Jx4a65c_size_8abf5
set_option maxRecDepth 20000 in
theorem ggX9_call_X1_init : GoodIn wsX9_call wsX1_init := goodIn_r _ [198, 199, 200, 201, 202, 182, 203, 204, 186, 205, 185, 206, 207, 183, 184, 283, 284, 285, 286, 287, 288, 289, 290, 291, 292, 293] (by decide +kernel) (by decide +kernel)
set_option maxRecDepth 20000 in
theorem gX9_call_X1_init : GoodIn wsX9_call (wsX1_init) := ggX9_call_X1_init
set_option maxRecDepth 20000 in
theorem ggX9_call_Jx4a65c_add_9ea2d : GoodIn wsX9_call wsJx4a65c_add_9ea2d := goodIn_r _ [211, 212, 213, 177, 163, 214, 215, 216, 161, 217, 218, 219, 220, 221, 222, 223, 224, 225, 226, 227, 194, 191, 195, 228, 229, 230, 231, 232, 233, 234, 235, 236, 237, 238, 239, 240, 241, 242, 243, 244, 245, 246, 247, 248, 249, 250, 251, 252, 253, 254, 255, 256, 257, 305, 306, 307] (by decide +kernel) (by decide +kernel)
set_option maxRecDepth 20000 in
theorem gX9_call_Jx4a65c_add_9ea2d : GoodIn wsX9_call (wsV RX9 156 RJx4a65c yJx4a65c_add_9ea2d wsJx4a65c_add_9ea2d) := goodIn_app (goodIn_of _ (by decide +kernel)) ggX9_call_Jx4a65c_add_9ea2d
set_option maxRecDepth 20000 in
theorem ggX9_call_X9_caseNumbered : GoodIn wsX9_call wsX9_caseNumbered := goodIn_ca (goodIn_r _ [261, 262, 263, 9, 157, 158, 159, 160, 161, 162, 163, 164, 165, 166, 167, 168, 169, 170, 171, 172, 85, 86, 87, 173, 174, 175, 176, 177, 269, 270, 271, 272, 273, 274, 275, 276, 277, 278, 279, 280, 281, 282, 305, 306, 307] (by decide +kernel) (by decide +kernel)) (goodIn_sub (fun _ h => List.mem_cons_of_mem _ (List.mem_append_right _ h)) (by decide +kernel))
set_option maxRecDepth 20000 in
theorem gX9_call_X9_caseNumbered : GoodIn wsX9_call (wsV RX9 220 RX9 yX9_caseNumbered wsX9_caseNumbered) := goodIn_app (goodIn_of _ (by decide +kernel)) ggX9_call_X9_caseNumbered
set_option maxRecDepth 20000 in
theorem ggX9_call_X1_melt : GoodIn wsX9_call wsX1_melt := goodIn_r _ [267, 202, 183, 184, 203, 268, 194, 191, 195, 204, 186, 205, 185, 294, 295, 296, 297, 298, 299, 283, 284, 285, 286, 287, 288, 289, 290, 291, 292, 293] (by decide +kernel) (by decide +kernel)
set_option maxRecDepth 20000 in
theorem gX9_call_X1_melt : GoodIn wsX9_call (wsV RX9 224 RX1 yX1_melt wsX1_melt) := goodIn_app (goodIn_of _ (by decide +kernel)) ggX9_call_X1_melt
theorem dX9_call_0 : decode cX9_call 0 = .ok (.aload_n 0, 1) := by decide +kernel
theorem dX9_call_1 : decode cX9_call 1 = .ok (.getfield 19, 3) := by decide +kernel
theorem dX9_call_4 : decode cX9_call 4 = .ok (.aload_n 0, 1) := by decide +kernel
theorem dX9_call_5 : decode cX9_call 5 = .ok (.getfield 10, 3) := by decide +kernel
theorem dX9_call_8 : decode cX9_call 8 = .ok (.aload_n 0, 1) := by decide +kernel
theorem dX9_call_9 : decode cX9_call 9 = .ok (.getfield 71, 3) := by decide +kernel
theorem dX9_call_12 : decode cX9_call 12 = .ok (.invokevirtual 192, 3) := by decide +kernel
theorem dX9_call_15 : decode cX9_call 15 = .ok (.istore_n 1, 1) := by decide +kernel
theorem dX9_call_16 : decode cX9_call 16 = .ok (.aload_n 0, 1) := by decide +kernel
theorem dX9_call_17 : decode cX9_call 17 = .ok (.iload_n 1, 1) := by decide +kernel
theorem dX9_call_18 : decode cX9_call 18 = .ok (.invokevirtual 196, 3) := by decide +kernel
theorem dX9_call_21 : decode cX9_call 21 = .ok (.iload_n 1, 1) := by decide +kernel
theorem dX9_call_22 : decode cX9_call 22 = .ok (.ifCond .ne 13, 3) := by decide +kernel
theorem dX9_call_25 : decode cX9_call 25 = .ok (.new 108, 3) := by decide +kernel
theorem dX9_call_28 : decode cX9_call 28 = .ok (.dup, 1) := by decide +kernel
theorem dX9_call_29 : decode cX9_call 29 = .ok (.ldc 200, 2) := by decide +kernel
theorem dX9_call_31 : decode cX9_call 31 = .ok (.invokespecial 112, 3) := by decide +kernel
theorem dX9_call_34 : decode cX9_call 34 = .ok (.athrow, 1) := by decide +kernel
theorem dX9_call_35 : decode cX9_call 35 = .ok (.aload_n 0, 1) := by decide +kernel
theorem dX9_call_36 : decode cX9_call 36 = .ok (.getfield 67, 3) := by decide +kernel
theorem dX9_call_39 : decode cX9_call 39 = .ok (.sipush 200, 3) := by decide +kernel
theorem dX9_call_42 : decode cX9_call 42 = .ok (.if_icmp .lt 13, 3) := by decide +kernel
theorem dX9_call_45 : decode cX9_call 45 = .ok (.new 146, 3) := by decide +kernel
theorem dX9_call_48 : decode cX9_call 48 = .ok (.dup, 1) := by decide +kernel
theorem dX9_call_49 : decode cX9_call 49 = .ok (.ldc 202, 2) := by decide +kernel
theorem dX9_call_51 : decode cX9_call 51 = .ok (.invokespecial 150, 3) := by decide +kernel
theorem dX9_call_54 : decode cX9_call 54 = .ok (.athrow, 1) := by decide +kernel
theorem dX9_call_55 : decode cX9_call 55 = .ok (.aload_n 0, 1) := by decide +kernel
theorem dX9_call_56 : decode cX9_call 56 = .ok (.invokevirtual 204, 3) := by decide +kernel
theorem dX9_call_59 : decode cX9_call 59 = .ok (.istore_n 2, 1) := by decide +kernel
theorem dX9_call_60 : decode cX9_call 60 = .ok (.iload_n 2, 1) := by decide +kernel
theorem dX9_call_61 : decode cX9_call 61 = .ok (.iconst (-1), 1) := by decide +kernel
theorem dX9_call_62 : decode cX9_call 62 = .ok (.if_icmp .ne 62, 3) := by decide +kernel
theorem dX9_call_65 : decode cX9_call 65 = .ok (.aload_n 0, 1) := by decide +kernel
theorem dX9_call_66 : decode cX9_call 66 = .ok (.getfield 50, 3) := by decide +kernel
theorem dX9_call_69 : decode cX9_call 69 = .ok (.invokevirtual 143, 3) := by decide +kernel
theorem dX9_call_72 : decode cX9_call 72 = .ok (.bipush 60, 2) := by decide +kernel
theorem dX9_call_74 : decode cX9_call 74 = .ok (.if_icmp .lt 13, 3) := by decide +kernel
theorem dX9_call_77 : decode cX9_call 77 = .ok (.new 146, 3) := by decide +kernel
theorem dX9_call_80 : decode cX9_call 80 = .ok (.dup, 1) := by decide +kernel
theorem dX9_call_81 : decode cX9_call 81 = .ok (.ldc 207, 2) := by decide +kernel
theorem dX9_call_83 : decode cX9_call 83 = .ok (.invokespecial 150, 3) := by decide +kernel
theorem dX9_call_86 : decode cX9_call 86 = .ok (.athrow, 1) := by decide +kernel
theorem dX9_call_87 : decode cX9_call 87 = .ok (.aload_n 0, 1) := by decide +kernel
theorem dX9_call_88 : decode cX9_call 88 = .ok (.getfield 50, 3) := by decide +kernel
theorem dX9_call_91 : decode cX9_call 91 = .ok (.invokevirtual 143, 3) := by decide +kernel
theorem dX9_call_94 : decode cX9_call 94 = .ok (.istore_n 2, 1) := by decide +kernel
theorem dX9_call_95 : decode cX9_call 95 = .ok (.aload_n 0, 1) := by decide +kernel
theorem dX9_call_96 : decode cX9_call 96 = .ok (.getfield 50, 3) := by decide +kernel
theorem dX9_call_99 : decode cX9_call 99 = .ok (.new 209, 3) := by decide +kernel
theorem dX9_call_102 : decode cX9_call 102 = .ok (.dup, 1) := by decide +kernel
theorem dX9_call_103 : decode cX9_call 103 = .ok (.aload_n 0, 1) := by decide +kernel
theorem dX9_call_104 : decode cX9_call 104 = .ok (.getfield 19, 3) := by decide +kernel
theorem dX9_call_107 : decode cX9_call 107 = .ok (.getfield 211, 3) := by decide +kernel
theorem dX9_call_110 : decode cX9_call 110 = .ok (.aload_n 0, 1) := by decide +kernel
theorem dX9_call_111 : decode cX9_call 111 = .ok (.getfield 19, 3) := by decide +kernel
theorem dX9_call_114 : decode cX9_call 114 = .ok (.getfield 214, 3) := by decide +kernel
theorem dX9_call_117 : decode cX9_call 117 = .ok (.invokespecial 217, 3) := by decide +kernel
theorem dX9_call_120 : decode cX9_call 120 = .ok (.invokevirtual 156, 3) := by decide +kernel
theorem dX9_call_123 : decode cX9_call 123 = .ok (.pop, 1) := by decide +kernel
theorem dX9_call_124 : decode cX9_call 124 = .ok (.aload_n 0, 1) := by decide +kernel
theorem dX9_call_125 : decode cX9_call 125 = .ok (.iload_n 2, 1) := by decide +kernel
theorem dX9_call_126 : decode cX9_call 126 = .ok (.invokevirtual 220, 3) := by decide +kernel
theorem dX9_call_129 : decode cX9_call 129 = .ok (.aload_n 0, 1) := by decide +kernel
theorem dX9_call_130 : decode cX9_call 130 = .ok (.getfield 19, 3) := by decide +kernel
theorem dX9_call_133 : decode cX9_call 133 = .ok (.aload_n 0, 1) := by decide +kernel
theorem dX9_call_134 : decode cX9_call 134 = .ok (.getfield 71, 3) := by decide +kernel
theorem dX9_call_137 : decode cX9_call 137 = .ok (.invokevirtual 224, 3) := by decide +kernel
theorem dX9_call_140 : decode cX9_call 140 = .ok (.aload_n 0, 1) := by decide +kernel
theorem dX9_call_141 : decode cX9_call 141 = .ok (.dup, 1) := by decide +kernel
theorem dX9_call_142 : decode cX9_call 142 = .ok (.getfield 67, 3) := by decide +kernel
theorem dX9_call_145 : decode cX9_call 145 = .ok (.iconst 1, 1) := by decide +kernel
theorem dX9_call_146 : decode cX9_call 146 = .ok (.iadd, 1) := by decide +kernel
theorem dX9_call_147 : decode cX9_call 147 = .ok (.putfield 67, 3) := by decide +kernel
theorem dX9_call_150 : decode cX9_call 150 = .ok (.iload_n 2, 1) := by decide +kernel
theorem dX9_call_151 : decode cX9_call 151 = .ok (.ireturn, 1) := by decide +kernel
set_option maxRecDepth 20000 in
theorem ggX9_rota_Jx4a65c_size_8abf5 : GoodIn wsX9_rota wsJx4a65c_size_8abf5 := goodIn_r _ [11, 12, 168, 169, 170] (by decide +kernel) (by decide +kernel)
set_option maxRecDepth 20000 in
theorem gX9_rota_Jx4a65c_size_8abf5 : GoodIn wsX9_rota (wsV RX9 143 RJx4a65c yJx4a65c_size_8abf5 wsJx4a65c_size_8abf5) := goodIn_app (goodIn_of _ (by decide +kernel)) ggX9_rota_Jx4a65c_size_8abf5
set_option maxRecDepth 20000 in
theorem ggX9_rota_X8_readFrom : GoodIn wsX9_rota wsX8_readFrom := goodIn_r _ [17, 18, 19, 20, 21, 22, 23, 24, 25, 26, 27, 28, 29, 30, 31, 32, 33, 34, 35, 36, 37, 38, 39, 40, 41, 42, 43, 44, 45, 46, 16, 47, 48, 49, 50, 51, 52, 53, 54, 55, 56, 57, 58, 59, 60, 61, 62, 63, 64, 65, 66, 67, 68, 69, 70, 71, 72, 73, 74, 75, 76, 77, 78, 79, 80, 81, 82, 83, 84, 85, 86, 87, 88, 89, 90, 91, 92, 93, 94, 95, 96, 97, 98, 99, 100, 101, 102, 103, 104, 105, 106, 107, 108, 109, 110, 111, 112, 113, 114, 115, 116, 117, 118, 119, 120, 121, 122, 123, 124, 125, 126, 127, 128, 129, 130, 131, 132, 133, 134, 135, 136, 137, 138, 139, 140, 141, 165, 166, 167, 171, 172, 173, 174, 175] (by decide +kernel) (by decide +kernel)
set_option maxRecDepth 20000 in
theorem gX9_rota_X8_readFrom : GoodIn wsX9_rota (wsV RX9 228 RX8 yX8_readFrom wsX8_readFrom) := goodIn_app (goodIn_of _ (by decide +kernel)) ggX9_rota_X8_readFrom
set_option maxRecDepth 20000 in
theorem ggX9_rota_X9_closeText : GoodIn wsX9_rota wsX9_closeText := goodIn_r _ [145, 4, 146, 147, 148, 149, 27, 150, 34, 151, 152, 153, 154, 155, 156, 157, 158, 159, 160, 161, 162, 163, 164, 171, 172, 173, 174, 175] (by decide +kernel) (by decide +kernel)
set_option maxRecDepth 20000 in
theorem gX9_rota_X9_closeText : GoodIn wsX9_rota (wsV RX9 196 RX9 yX9_closeText wsX9_closeText) := goodIn_app (goodIn_of _ (by decide +kernel)) ggX9_rota_X9_closeText
theorem dX9_rota_0 : decode cX9_rota 0 = .ok (.aload_n 0, 1) := by decide +kernel
theorem dX9_rota_1 : decode cX9_rota 1 = .ok (.getfield 64, 3) := by decide +kernel
theorem dX9_rota_4 : decode cX9_rota 4 = .ok (.aload_n 0, 1) := by decide +kernel
theorem dX9_rota_5 : decode cX9_rota 5 = .ok (.getfield 10, 3) := by decide +kernel
theorem dX9_rota_8 : decode cX9_rota 8 = .ok (.aload_n 0, 1) := by decide +kernel
theorem dX9_rota_9 : decode cX9_rota 9 = .ok (.getfield 47, 3) := by decide +kernel
theorem dX9_rota_12 : decode cX9_rota 12 = .ok (.invokevirtual 143, 3) := by decide +kernel
theorem dX9_rota_15 : decode cX9_rota 15 = .ok (.invokevirtual 228, 3) := by decide +kernel
theorem dX9_rota_18 : decode cX9_rota 18 = .ok (.istore_n 1, 1) := by decide +kernel
theorem dX9_rota_19 : decode cX9_rota 19 = .ok (.aload_n 0, 1) := by decide +kernel
theorem dX9_rota_20 : decode cX9_rota 20 = .ok (.iload_n 1, 1) := by decide +kernel
theorem dX9_rota_21 : decode cX9_rota 21 = .ok (.invokevirtual 196, 3) := by decide +kernel
