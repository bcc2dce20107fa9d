theorem dX10_readTurns_60 : decode cX10_readTurns 60 = .ok (.aload_n 0, 1) := by decide +kernel
theorem dX10_readTurns_61 : decode cX10_readTurns 61 = .ok (.invokevirtual 247, 3) := by decide +kernel
theorem dX10_readTurns_64 : decode cX10_readTurns 64 = .ok (.bipush 59, 2) := by decide +kernel
theorem dX10_readTurns_66 : decode cX10_readTurns 66 = .ok (.if_icmp .ne 7, 3) := by decide +kernel
theorem dX10_readTurns_69 : decode cX10_readTurns 69 = .ok (.iconst 1, 1) := by decide +kernel
theorem dX10_readTurns_70 : decode cX10_readTurns 70 = .ok (.goto 4, 3) := by decide +kernel
theorem dX10_readTurns_73 : decode cX10_readTurns 73 = .ok (.iconst 0, 1) := by decide +kernel
theorem dX10_readTurns_74 : decode cX10_readTurns 74 = .ok (.istore_n 1, 1) := by decide +kernel
theorem dX10_readTurns_75 : decode cX10_readTurns 75 = .ok (.iload_n 1, 1) := by decide +kernel
theorem dX10_readTurns_76 : decode cX10_readTurns 76 = .ok (.ifCond .eq 13, 3) := by decide +kernel
theorem dX10_readTurns_79 : decode cX10_readTurns 79 = .ok (.aload_n 0, 1) := by decide +kernel
theorem dX10_readTurns_80 : decode cX10_readTurns 80 = .ok (.dup, 1) := by decide +kernel
theorem dX10_readTurns_81 : decode cX10_readTurns 81 = .ok (.getfield 238, 3) := by decide +kernel
theorem dX10_readTurns_84 : decode cX10_readTurns 84 = .ok (.iconst 1, 1) := by decide +kernel
theorem dX10_readTurns_85 : decode cX10_readTurns 85 = .ok (.iadd, 1) := by decide +kernel
theorem dX10_readTurns_86 : decode cX10_readTurns 86 = .ok (.putfield 238, 3) := by decide +kernel
theorem dX10_readTurns_89 : decode cX10_readTurns 89 = .ok (.goto (-82), 3) := by decide +kernel
theorem dX10_readTurns_92 : decode cX10_readTurns 92 = .ok (.aload_n 0, 1) := by decide +kernel
theorem dX10_readTurns_93 : decode cX10_readTurns 93 = .ok (.invokevirtual 247, 3) := by decide +kernel
theorem dX10_readTurns_96 : decode cX10_readTurns 96 = .ok (.iconst (-1), 1) := by decide +kernel
theorem dX10_readTurns_97 : decode cX10_readTurns 97 = .ok (.if_icmp .eq 14, 3) := by decide +kernel
theorem dX10_readTurns_100 : decode cX10_readTurns 100 = .ok (.aload_n 0, 1) := by decide +kernel
theorem dX10_readTurns_101 : decode cX10_readTurns 101 = .ok (.aload_n 0, 1) := by decide +kernel
theorem dX10_readTurns_102 : decode cX10_readTurns 102 = .ok (.getfield 238, 3) := by decide +kernel
theorem dX10_readTurns_105 : decode cX10_readTurns 105 = .ok (.invokevirtual 257, 3) := by decide +kernel
theorem dX10_readTurns_108 : decode cX10_readTurns 108 = .ok (.ifCond .eq 7, 3) := by decide +kernel
theorem dX10_readTurns_111 : decode cX10_readTurns 111 = .ok (.iconst 1, 1) := by decide +kernel
theorem dX10_readTurns_112 : decode cX10_readTurns 112 = .ok (.goto 4, 3) := by decide +kernel
theorem dX10_readTurns_115 : decode cX10_readTurns 115 = .ok (.iconst 0, 1) := by decide +kernel
theorem dX10_readTurns_116 : decode cX10_readTurns 116 = .ok (.ireturn, 1) := by decide +kernel
set_option maxRecDepth 20000 in
theorem ggX10_rota_X10_beginText : GoodIn wsX10_rota wsX10_beginText := goodIn_r _ [11, 12, 13, 14, 15, 55, 56, 57, 58, 59, 60, 61, 62, 63, 64, 65, 66, 67, 68, 69, 70, 71, 72, 73, 74, 75, 76, 77, 78, 79, 80, 81, 82, 83, 84, 85, 86, 87, 88, 89, 90, 91, 92, 93, 94, 95, 96, 97, 98, 99, 100, 101, 102, 103, 104, 105, 106, 107, 108, 109, 110, 111, 112, 113, 114, 115, 116, 117, 118, 119, 120, 121, 122, 123] (by decide +kernel) (by decide +kernel)
set_option maxRecDepth 20000 in
theorem gX10_rota_X10_beginText : GoodIn wsX10_rota (wsV RX10 284 RX10 yX10_beginText wsX10_beginText) := goodIn_app (goodIn_of _ (by decide +kernel)) ggX10_rota_X10_beginText
set_option maxRecDepth 20000 in
theorem ggX10_rota_X10_readTurns : GoodIn wsX10_rota wsX10_readTurns := goodIn_r _ [19, 2, 14, 20, 21, 22, 10, 23, 13, 24, 25, 26, 27, 28, 15, 29, 30, 31, 32, 33, 34, 35, 4, 5, 36, 6, 37, 38, 39, 40, 41, 42, 43, 44, 45, 46, 47, 48, 49, 50, 51, 52, 53, 54, 55, 56, 57, 58, 59, 60, 61, 62, 63, 64, 65, 66, 67, 68, 69, 70, 71, 72, 73, 74, 75, 76, 77, 78, 79, 80, 81, 82, 83, 84, 85, 86, 87, 88, 89, 90, 91, 92, 93, 94, 95, 96, 97, 98, 99, 100, 101, 102, 103, 104, 105, 106, 107, 108, 109, 110, 111, 112, 113, 114, 115, 116, 117, 118, 119, 120, 121, 122, 123] (by decide +kernel) (by decide +kernel)
set_option maxRecDepth 20000 in
theorem gX10_rota_X10_readTurns : GoodIn wsX10_rota (wsV RX10 306 RX10 yX10_readTurns wsX10_readTurns) := goodIn_app (goodIn_of _ (by decide +kernel)) ggX10_rota_X10_readTurns
theorem dX10_rota_0 : decode cX10_rota 0 = .ok (.aload_n 0, 1) := by decide +kernel
theorem dX10_rota_1 : decode cX10_rota 1 = .ok (.invokevirtual 284, 3) := by decide +kernel
theorem dX10_rota_4 : decode cX10_rota 4 = .ok (.aload_n 0, 1) := by decide +kernel
theorem dX10_rota_5 : decode cX10_rota 5 = .ok (.aload_n 0, 1) := by decide +kernel
theorem dX10_rota_6 : decode cX10_rota 6 = .ok (.invokevirtual 306, 3) := by decide +kernel
theorem dX10_rota_9 : decode cX10_rota 9 = .ok (.ifCond .eq 7, 3) := by decide +kernel
theorem dX10_rota_12 : decode cX10_rota 12 = .ok (.iconst 0, 1) := by decide +kernel
theorem dX10_rota_13 : decode cX10_rota 13 = .ok (.goto 4, 3) := by decide +kernel
theorem dX10_rota_16 : decode cX10_rota 16 = .ok (.iconst 1, 1) := by decide +kernel
theorem dX10_rota_17 : decode cX10_rota 17 = .ok (.putfield 180, 3) := by decide +kernel
theorem dX10_rota_20 : decode cX10_rota 20 = .ok (.aload_n 0, 1) := by decide +kernel
theorem dX10_rota_21 : decode cX10_rota 21 = .ok (.getfield 180, 3) := by decide +kernel
theorem dX10_rota_24 : decode cX10_rota 24 = .ok (.ifCond .le 5, 3) := by decide +kernel
theorem dX10_rota_27 : decode cX10_rota 27 = .ok (.iconst 0, 1) := by decide +kernel
theorem dX10_rota_28 : decode cX10_rota 28 = .ok (.ireturn, 1) := by decide +kernel
theorem dX10_rota_29 : decode cX10_rota 29 = .ok (.aload_n 0, 1) := by decide +kernel
theorem dX10_rota_30 : decode cX10_rota 30 = .ok (.aload_n 0, 1) := by decide +kernel
theorem dX10_rota_31 : decode cX10_rota 31 = .ok (.getfield 300, 3) := by decide +kernel
theorem dX10_rota_34 : decode cX10_rota 34 = .ok (.putfield 309, 3) := by decide +kernel
theorem dX10_rota_37 : decode cX10_rota 37 = .ok (.iconst 0, 1) := by decide +kernel
theorem dX10_rota_38 : decode cX10_rota 38 = .ok (.istore_n 1, 1) := by decide +kernel
theorem dX10_rota_39 : decode cX10_rota 39 = .ok (.iload_n 1, 1) := by decide +kernel
theorem dX10_rota_40 : decode cX10_rota 40 = .ok (.aload_n 0, 1) := by decide +kernel
theorem dX10_rota_41 : decode cX10_rota 41 = .ok (.getfield 309, 3) := by decide +kernel
theorem dX10_rota_44 : decode cX10_rota 44 = .ok (.if_icmp .ge 78, 3) := by decide +kernel
theorem dX10_rota_47 : decode cX10_rota 47 = .ok (.aload_n 0, 1) := by decide +kernel
theorem dX10_rota_48 : decode cX10_rota 48 = .ok (.getfield 146, 3) := by decide +kernel
theorem dX10_rota_51 : decode cX10_rota 51 = .ok (.iload_n 1, 1) := by decide +kernel
theorem dX10_rota_52 : decode cX10_rota 52 = .ok (.aload_n 0, 1) := by decide +kernel
theorem dX10_rota_53 : decode cX10_rota 53 = .ok (.getfield 146, 3) := by decide +kernel
theorem dX10_rota_56 : decode cX10_rota 56 = .ok (.bipush 10, 2) := by decide +kernel
theorem dX10_rota_58 : decode cX10_rota 58 = .ok (.iload_n 1, 1) := by decide +kernel
theorem dX10_rota_59 : decode cX10_rota 59 = .ok (.iadd, 1) := by decide +kernel
theorem dX10_rota_60 : decode cX10_rota 60 = .ok (.iaload, 1) := by decide +kernel
theorem dX10_rota_61 : decode cX10_rota 61 = .ok (.iastore, 1) := by decide +kernel
theorem dX10_rota_62 : decode cX10_rota 62 = .ok (.aload_n 0, 1) := by decide +kernel
theorem dX10_rota_63 : decode cX10_rota 63 = .ok (.getfield 149, 3) := by decide +kernel
theorem dX10_rota_66 : decode cX10_rota 66 = .ok (.iload_n 1, 1) := by decide +kernel
theorem dX10_rota_67 : decode cX10_rota 67 = .ok (.aload_n 0, 1) := by decide +kernel
theorem dX10_rota_68 : decode cX10_rota 68 = .ok (.getfield 149, 3) := by decide +kernel
theorem dX10_rota_71 : decode cX10_rota 71 = .ok (.bipush 10, 2) := by decide +kernel
theorem dX10_rota_73 : decode cX10_rota 73 = .ok (.iload_n 1, 1) := by decide +kernel
theorem dX10_rota_74 : decode cX10_rota 74 = .ok (.iadd, 1) := by decide +kernel
theorem dX10_rota_75 : decode cX10_rota 75 = .ok (.iaload, 1) := by decide +kernel
theorem dX10_rota_76 : decode cX10_rota 76 = .ok (.iastore, 1) := by decide +kernel
theorem dX10_rota_77 : decode cX10_rota 77 = .ok (.iconst 0, 1) := by decide +kernel
theorem dX10_rota_78 : decode cX10_rota 78 = .ok (.istore_n 2, 1) := by decide +kernel
theorem dX10_rota_79 : decode cX10_rota 79 = .ok (.iload_n 2, 1) := by decide +kernel
theorem dX10_rota_80 : decode cX10_rota 80 = .ok (.bipush 12, 2) := by decide +kernel
theorem dX10_rota_82 : decode cX10_rota 82 = .ok (.if_icmp .ge 34, 3) := by decide +kernel
theorem dX10_rota_85 : decode cX10_rota 85 = .ok (.aload_n 0, 1) := by decide +kernel
theorem dX10_rota_86 : decode cX10_rota 86 = .ok (.getfield 152, 3) := by decide +kernel
theorem dX10_rota_89 : decode cX10_rota 89 = .ok (.bipush 12, 2) := by decide +kernel
theorem dX10_rota_91 : decode cX10_rota 91 = .ok (.iload_n 1, 1) := by decide +kernel
theorem dX10_rota_92 : decode cX10_rota 92 = .ok (.imul, 1) := by decide +kernel
theorem dX10_rota_93 : decode cX10_rota 93 = .ok (.iload_n 2, 1) := by decide +kernel
theorem dX10_rota_94 : decode cX10_rota 94 = .ok (.iadd, 1) := by decide +kernel
theorem dX10_rota_95 : decode cX10_rota 95 = .ok (.aload_n 0, 1) := by decide +kernel
theorem dX10_rota_96 : decode cX10_rota 96 = .ok (.getfield 152, 3) := by decide +kernel
theorem dX10_rota_99 : decode cX10_rota 99 = .ok (.bipush 12, 2) := by decide +kernel
theorem dX10_rota_101 : decode cX10_rota 101 = .ok (.bipush 10, 2) := by decide +kernel
theorem dX10_rota_103 : decode cX10_rota 103 = .ok (.iload_n 1, 1) := by decide +kernel
theorem dX10_rota_104 : decode cX10_rota 104 = .ok (.iadd, 1) := by decide +kernel
theorem dX10_rota_105 : decode cX10_rota 105 = .ok (.imul, 1) := by decide +kernel
theorem dX10_rota_106 : decode cX10_rota 106 = .ok (.iload_n 2, 1) := by decide +kernel
theorem dX10_rota_107 : decode cX10_rota 107 = .ok (.iadd, 1) := by decide +kernel
theorem dX10_rota_108 : decode cX10_rota 108 = .ok (.iaload, 1) := by decide +kernel
theorem dX10_rota_109 : decode cX10_rota 109 = .ok (.iastore, 1) := by decide +kernel
theorem dX10_rota_110 : decode cX10_rota 110 = .ok (.iinc 2 1, 3) := by decide +kernel
theorem dX10_rota_113 : decode cX10_rota 113 = .ok (.goto (-34), 3) := by decide +kernel
theorem dX10_rota_116 : decode cX10_rota 116 = .ok (.iinc 1 1, 3) := by decide +kernel
theorem dX10_rota_119 : decode cX10_rota 119 = .ok (.goto (-80), 3) := by decide +kernel
theorem dX10_rota_122 : decode cX10_rota 122 = .ok (.aload_n 0, 1) := by decide +kernel
theorem dX10_rota_123 : decode cX10_rota 123 = .ok (.getfield 309, 3) := by decide +kernel
theorem dX10_rota_126 : decode cX10_rota 126 = .ok (.ireturn, 1) := by decide +kernel
theorem dX10_fault_0 : decode cX10_fault 0 = .ok (.aload_n 0, 1) := by decide +kernel
theorem dX10_fault_1 : decode cX10_fault 1 = .ok (.iconst 0, 1) := by decide +kernel
theorem dX10_fault_2 : decode cX10_fault 2 = .ok (.putfield 180, 3) := by decide +kernel
theorem dX10_fault_5 : decode cX10_fault 5 = .ok (.aload_n 0, 1) := by decide +kernel
theorem dX10_fault_6 : decode cX10_fault 6 = .ok (.getfield 164, 3) := by decide +kernel
theorem dX10_fault_9 : decode cX10_fault 9 = .ok (.ireturn, 1) := by decide +kernel
theorem dX10_lineOf_0 : decode cX10_lineOf 0 = .ok (.iconst (-1), 1) := by decide +kernel
theorem dX10_lineOf_1 : decode cX10_lineOf 1 = .ok (.istore_n 2, 1) := by decide +kernel
theorem dX10_lineOf_2 : decode cX10_lineOf 2 = .ok (.iconst 0, 1) := by decide +kernel
theorem dX10_lineOf_3 : decode cX10_lineOf 3 = .ok (.istore_n 3, 1) := by decide +kernel
theorem dX10_lineOf_4 : decode cX10_lineOf 4 = .ok (.iload_n 3, 1) := by decide +kernel
theorem dX10_lineOf_5 : decode cX10_lineOf 5 = .ok (.aload_n 0, 1) := by decide +kernel
theorem dX10_lineOf_6 : decode cX10_lineOf 6 = .ok (.getfield 309, 3) := by decide +kernel
theorem dX10_lineOf_9 : decode cX10_lineOf 9 = .ok (.if_icmp .ge 22, 3) := by decide +kernel
theorem dX10_lineOf_12 : decode cX10_lineOf 12 = .ok (.aload_n 0, 1) := by decide +kernel
theorem dX10_lineOf_13 : decode cX10_lineOf 13 = .ok (.getfield 146, 3) := by decide +kernel
theorem dX10_lineOf_16 : decode cX10_lineOf 16 = .ok (.iload_n 3, 1) := by decide +kernel
theorem dX10_lineOf_17 : decode cX10_lineOf 17 = .ok (.iaload, 1) := by decide +kernel
theorem dX10_lineOf_18 : decode cX10_lineOf 18 = .ok (.bipush 16, 2) := by decide +kernel
theorem dX10_lineOf_20 : decode cX10_lineOf 20 = .ok (.if_icmp .ne 5, 3) := by decide +kernel
theorem dX10_lineOf_23 : decode cX10_lineOf 23 = .ok (.iload_n 3, 1) := by decide +kernel
theorem dX10_lineOf_24 : decode cX10_lineOf 24 = .ok (.istore_n 2, 1) := by decide +kernel
theorem dX10_lineOf_25 : decode cX10_lineOf 25 = .ok (.iinc 3 1, 3) := by decide +kernel
theorem dX10_lineOf_28 : decode cX10_lineOf 28 = .ok (.goto (-24), 3) := by decide +kernel
theorem dX10_lineOf_31 : decode cX10_lineOf 31 = .ok (.iconst 0, 1) := by decide +kernel
theorem dX10_lineOf_32 : decode cX10_lineOf 32 = .ok (.istore_n 3, 1) := by decide +kernel
theorem dX10_lineOf_33 : decode cX10_lineOf 33 = .ok (.iload_n 3, 1) := by decide +kernel
theorem dX10_lineOf_34 : decode cX10_lineOf 34 = .ok (.aload_n 0, 1) := by decide +kernel
theorem dX10_lineOf_35 : decode cX10_lineOf 35 = .ok (.getfield 309, 3) := by decide +kernel
theorem dX10_lineOf_38 : decode cX10_lineOf 38 = .ok (.if_icmp .ge 21, 3) := by decide +kernel
theorem dX10_lineOf_41 : decode cX10_lineOf 41 = .ok (.aload_n 0, 1) := by decide +kernel
theorem dX10_lineOf_42 : decode cX10_lineOf 42 = .ok (.getfield 146, 3) := by decide +kernel
theorem dX10_lineOf_45 : decode cX10_lineOf 45 = .ok (.iload_n 3, 1) := by decide +kernel
theorem dX10_lineOf_46 : decode cX10_lineOf 46 = .ok (.iaload, 1) := by decide +kernel
theorem dX10_lineOf_47 : decode cX10_lineOf 47 = .ok (.iload_n 1, 1) := by decide +kernel
theorem dX10_lineOf_48 : decode cX10_lineOf 48 = .ok (.if_icmp .ne 5, 3) := by decide +kernel
theorem dX10_lineOf_51 : decode cX10_lineOf 51 = .ok (.iload_n 3, 1) := by decide +kernel
theorem dX10_lineOf_52 : decode cX10_lineOf 52 = .ok (.istore_n 2, 1) := by decide +kernel
theorem dX10_lineOf_53 : decode cX10_lineOf 53 = .ok (.iinc 3 1, 3) := by decide +kernel
theorem dX10_lineOf_56 : decode cX10_lineOf 56 = .ok (.goto (-23), 3) := by decide +kernel
theorem dX10_lineOf_59 : decode cX10_lineOf 59 = .ok (.iload_n 2, 1) := by decide +kernel
theorem dX10_lineOf_60 : decode cX10_lineOf 60 = .ok (.ireturn, 1) := by decide +kernel
theorem dX10_onDuty_0 : decode cX10_onDuty 0 = .ok (.aload_n 0, 1) := by decide +kernel
theorem dX10_onDuty_1 : decode cX10_onDuty 1 = .ok (.getfield 206, 3) := by decide +kernel
theorem dX10_onDuty_4 : decode cX10_onDuty 4 = .ok (.bipush 24, 2) := by decide +kernel
theorem dX10_onDuty_6 : decode cX10_onDuty 6 = .ok (.irem, 1) := by decide +kernel
theorem dX10_onDuty_7 : decode cX10_onDuty 7 = .ok (.istore_n 2, 1) := by decide +kernel
theorem dX10_onDuty_8 : decode cX10_onDuty 8 = .ok (.aload_n 0, 1) := by decide +kernel
theorem dX10_onDuty_9 : decode cX10_onDuty 9 = .ok (.getfield 91, 3) := by decide +kernel
theorem dX10_onDuty_12 : decode cX10_onDuty 12 = .ok (.iload_n 1, 1) := by decide +kernel
theorem dX10_onDuty_13 : decode cX10_onDuty 13 = .ok (.iaload, 1) := by decide +kernel
theorem dX10_onDuty_14 : decode cX10_onDuty 14 = .ok (.aload_n 0, 1) := by decide +kernel
theorem dX10_onDuty_15 : decode cX10_onDuty 15 = .ok (.getfield 94, 3) := by decide +kernel
theorem dX10_onDuty_18 : decode cX10_onDuty 18 = .ok (.iload_n 1, 1) := by decide +kernel
theorem dX10_onDuty_19 : decode cX10_onDuty 19 = .ok (.iaload, 1) := by decide +kernel
theorem dX10_onDuty_20 : decode cX10_onDuty 20 = .ok (.if_icmp .gt 31, 3) := by decide +kernel
theorem dX10_onDuty_23 : decode cX10_onDuty 23 = .ok (.iload_n 2, 1) := by decide +kernel
theorem dX10_onDuty_24 : decode cX10_onDuty 24 = .ok (.aload_n 0, 1) := by decide +kernel
theorem dX10_onDuty_25 : decode cX10_onDuty 25 = .ok (.getfield 91, 3) := by decide +kernel
theorem dX10_onDuty_28 : decode cX10_onDuty 28 = .ok (.iload_n 1, 1) := by decide +kernel
theorem dX10_onDuty_29 : decode cX10_onDuty 29 = .ok (.iaload, 1) := by decide +kernel
theorem dX10_onDuty_30 : decode cX10_onDuty 30 = .ok (.if_icmp .lt 17, 3) := by decide +kernel
theorem dX10_onDuty_33 : decode cX10_onDuty 33 = .ok (.iload_n 2, 1) := by decide +kernel
theorem dX10_onDuty_34 : decode cX10_onDuty 34 = .ok (.aload_n 0, 1) := by decide +kernel
theorem dX10_onDuty_35 : decode cX10_onDuty 35 = .ok (.getfield 94, 3) := by decide +kernel
theorem dX10_onDuty_38 : decode cX10_onDuty 38 = .ok (.iload_n 1, 1) := by decide +kernel
theorem dX10_onDuty_39 : decode cX10_onDuty 39 = .ok (.iaload, 1) := by decide +kernel
theorem dX10_onDuty_40 : decode cX10_onDuty 40 = .ok (.if_icmp .gt 7, 3) := by decide +kernel
theorem dX10_onDuty_43 : decode cX10_onDuty 43 = .ok (.iconst 1, 1) := by decide +kernel
theorem dX10_onDuty_44 : decode cX10_onDuty 44 = .ok (.goto 32, 3) := by decide +kernel
theorem dX10_onDuty_47 : decode cX10_onDuty 47 = .ok (.iconst 0, 1) := by decide +kernel
theorem dX10_onDuty_48 : decode cX10_onDuty 48 = .ok (.goto 28, 3) := by decide +kernel
theorem dX10_onDuty_51 : decode cX10_onDuty 51 = .ok (.iload_n 2, 1) := by decide +kernel
theorem dX10_onDuty_52 : decode cX10_onDuty 52 = .ok (.aload_n 0, 1) := by decide +kernel
theorem dX10_onDuty_53 : decode cX10_onDuty 53 = .ok (.getfield 91, 3) := by decide +kernel
theorem dX10_onDuty_56 : decode cX10_onDuty 56 = .ok (.iload_n 1, 1) := by decide +kernel
theorem dX10_onDuty_57 : decode cX10_onDuty 57 = .ok (.iaload, 1) := by decide +kernel
theorem dX10_onDuty_58 : decode cX10_onDuty 58 = .ok (.if_icmp .ge 13, 3) := by decide +kernel
theorem dX10_onDuty_61 : decode cX10_onDuty 61 = .ok (.iload_n 2, 1) := by decide +kernel
theorem dX10_onDuty_62 : decode cX10_onDuty 62 = .ok (.aload_n 0, 1) := by decide +kernel
theorem dX10_onDuty_63 : decode cX10_onDuty 63 = .ok (.getfield 94, 3) := by decide +kernel
theorem dX10_onDuty_66 : decode cX10_onDuty 66 = .ok (.iload_n 1, 1) := by decide +kernel
theorem dX10_onDuty_67 : decode cX10_onDuty 67 = .ok (.iaload, 1) := by decide +kernel
theorem dX10_onDuty_68 : decode cX10_onDuty 68 = .ok (.if_icmp .gt 7, 3) := by decide +kernel
theorem dX10_onDuty_71 : decode cX10_onDuty 71 = .ok (.iconst 1, 1) := by decide +kernel
theorem dX10_onDuty_72 : decode cX10_onDuty 72 = .ok (.goto 4, 3) := by decide +kernel
theorem dX10_onDuty_75 : decode cX10_onDuty 75 = .ok (.iconst 0, 1) := by decide +kernel
theorem dX10_onDuty_76 : decode cX10_onDuty 76 = .ok (.ireturn, 1) := by decide +kernel
set_option maxRecDepth 20000 in
theorem ggX10_against_X10_onDuty : GoodIn wsX10_against wsX10_onDuty := goodIn_r _ [9, 10, 11, 12, 13, 14, 15, 16, 17, 18, 19, 20, 21, 22, 23, 24, 25, 26, 27, 28, 29, 30, 31, 32, 33, 34, 35, 36, 37, 38, 39, 40, 41, 42, 43, 44, 45, 46, 47, 48, 49, 50, 51, 52, 53, 54, 55, 56, 57, 58, 59, 60, 61, 62, 63, 64, 65, 66, 67, 68, 69, 70, 71, 72, 73, 74, 75, 76, 77, 78, 79, 80, 81] (by decide +kernel) (by decide +kernel)
set_option maxRecDepth 20000 in
theorem gX10_against_X10_onDuty : GoodIn wsX10_against (wsV RX10 312 RX10 yX10_onDuty wsX10_onDuty) := goodIn_app (goodIn_of _ (by decide +kernel)) ggX10_against_X10_onDuty
theorem dX10_against_0 : decode cX10_against 0 = .ok (.aload_n 0, 1) := by decide +kernel
theorem dX10_against_1 : decode cX10_against 1 = .ok (.iload_n 1, 1) := by decide +kernel
theorem dX10_against_2 : decode cX10_against 2 = .ok (.invokevirtual 312, 3) := by decide +kernel
theorem dX10_against_5 : decode cX10_against 5 = .ok (.ifCond .ne 7, 3) := by decide +kernel
theorem dX10_against_8 : decode cX10_against 8 = .ok (.iconst 1, 1) := by decide +kernel
theorem dX10_against_9 : decode cX10_against 9 = .ok (.goto 49, 3) := by decide +kernel
theorem dX10_against_12 : decode cX10_against 12 = .ok (.aload_n 0, 1) := by decide +kernel
theorem dX10_against_13 : decode cX10_against 13 = .ok (.getfield 97, 3) := by decide +kernel
theorem dX10_against_16 : decode cX10_against 16 = .ok (.iload_n 1, 1) := by decide +kernel
theorem dX10_against_17 : decode cX10_against 17 = .ok (.iaload, 1) := by decide +kernel
theorem dX10_against_18 : decode cX10_against 18 = .ok (.ifCond .eq 7, 3) := by decide +kernel
theorem dX10_against_21 : decode cX10_against 21 = .ok (.iconst 2, 1) := by decide +kernel
theorem dX10_against_22 : decode cX10_against 22 = .ok (.goto 36, 3) := by decide +kernel
theorem dX10_against_25 : decode cX10_against 25 = .ok (.aload_n 0, 1) := by decide +kernel
theorem dX10_against_26 : decode cX10_against 26 = .ok (.getfield 82, 3) := by decide +kernel
theorem dX10_against_29 : decode cX10_against 29 = .ok (.iload_n 1, 1) := by decide +kernel
theorem dX10_against_30 : decode cX10_against 30 = .ok (.iaload, 1) := by decide +kernel
theorem dX10_against_31 : decode cX10_against 31 = .ok (.ifCond .ne 7, 3) := by decide +kernel
theorem dX10_against_34 : decode cX10_against 34 = .ok (.iconst 3, 1) := by decide +kernel
theorem dX10_against_35 : decode cX10_against 35 = .ok (.goto 23, 3) := by decide +kernel
theorem dX10_against_38 : decode cX10_against 38 = .ok (.aload_n 0, 1) := by decide +kernel
theorem dX10_against_39 : decode cX10_against 39 = .ok (.getfield 85, 3) := by decide +kernel
theorem dX10_against_42 : decode cX10_against 42 = .ok (.iload_n 1, 1) := by decide +kernel
theorem dX10_against_43 : decode cX10_against 43 = .ok (.iaload, 1) := by decide +kernel
theorem dX10_against_44 : decode cX10_against 44 = .ok (.aload_n 0, 1) := by decide +kernel
theorem dX10_against_45 : decode cX10_against 45 = .ok (.getfield 125, 3) := by decide +kernel
theorem dX10_against_48 : decode cX10_against 48 = .ok (.iload_n 2, 1) := by decide +kernel
theorem dX10_against_49 : decode cX10_against 49 = .ok (.iaload, 1) := by decide +kernel
theorem dX10_against_50 : decode cX10_against 50 = .ok (.if_icmp .ge 7, 3) := by decide +kernel
theorem dX10_against_53 : decode cX10_against 53 = .ok (.iconst 4, 1) := by decide +kernel
theorem dX10_against_54 : decode cX10_against 54 = .ok (.goto 4, 3) := by decide +kernel
theorem dX10_against_57 : decode cX10_against 57 = .ok (.iconst 0, 1) := by decide +kernel
theorem dX10_against_58 : decode cX10_against 58 = .ok (.ireturn, 1) := by decide +kernel
set_option maxRecDepth 20000 in
theorem ggX10_wayHours_X10_steps : GoodIn wsX10_wayHours wsX10_steps := goodIn_r _ [9] (by decide +kernel) (by decide +kernel)
set_option maxRecDepth 20000 in
theorem gX10_wayHours_X10_steps : GoodIn wsX10_wayHours (va_wsS RX10 231 yX10_steps wsX10_steps) := goodIn_app (goodIn_of _ (by decide +kernel)) ggX10_wayHours_X10_steps
theorem dX10_wayHours_0 : decode cX10_wayHours 0 = .ok (.aload_n 0, 1) := by decide +kernel
theorem dX10_wayHours_1 : decode cX10_wayHours 1 = .ok (.getfield 76, 3) := by decide +kernel
theorem dX10_wayHours_4 : decode cX10_wayHours 4 = .ok (.iload_n 1, 1) := by decide +kernel
theorem dX10_wayHours_5 : decode cX10_wayHours 5 = .ok (.iaload, 1) := by decide +kernel
theorem dX10_wayHours_6 : decode cX10_wayHours 6 = .ok (.aload_n 0, 1) := by decide +kernel
theorem dX10_wayHours_7 : decode cX10_wayHours 7 = .ok (.getfield 79, 3) := by decide +kernel
theorem dX10_wayHours_10 : decode cX10_wayHours 10 = .ok (.iload_n 1, 1) := by decide +kernel
theorem dX10_wayHours_11 : decode cX10_wayHours 11 = .ok (.iaload, 1) := by decide +kernel
theorem dX10_wayHours_12 : decode cX10_wayHours 12 = .ok (.aload_n 0, 1) := by decide +kernel
theorem dX10_wayHours_13 : decode cX10_wayHours 13 = .ok (.getfield 115, 3) := by decide +kernel
theorem dX10_wayHours_16 : decode cX10_wayHours 16 = .ok (.iload_n 2, 1) := by decide +kernel
theorem dX10_wayHours_17 : decode cX10_wayHours 17 = .ok (.iaload, 1) := by decide +kernel
theorem dX10_wayHours_18 : decode cX10_wayHours 18 = .ok (.aload_n 0, 1) := by decide +kernel
theorem dX10_wayHours_19 : decode cX10_wayHours 19 = .ok (.getfield 118, 3) := by decide +kernel
theorem dX10_wayHours_22 : decode cX10_wayHours 22 = .ok (.iload_n 2, 1) := by decide +kernel
theorem dX10_wayHours_23 : decode cX10_wayHours 23 = .ok (.iaload, 1) := by decide +kernel
theorem dX10_wayHours_24 : decode cX10_wayHours 24 = .ok (.invokestatic 231, 3) := by decide +kernel
theorem dX10_wayHours_27 : decode cX10_wayHours 27 = .ok (.istore_n 3, 1) := by decide +kernel
theorem dX10_wayHours_28 : decode cX10_wayHours 28 = .ok (.iload_n 3, 1) := by decide +kernel
theorem dX10_wayHours_29 : decode cX10_wayHours 29 = .ok (.aload_n 0, 1) := by decide +kernel
theorem dX10_wayHours_30 : decode cX10_wayHours 30 = .ok (.getfield 88, 3) := by decide +kernel
theorem dX10_wayHours_33 : decode cX10_wayHours 33 = .ok (.iload_n 1, 1) := by decide +kernel
theorem dX10_wayHours_34 : decode cX10_wayHours 34 = .ok (.iaload, 1) := by decide +kernel
theorem dX10_wayHours_35 : decode cX10_wayHours 35 = .ok (.idiv, 1) := by decide +kernel
theorem dX10_wayHours_36 : decode cX10_wayHours 36 = .ok (.iload_n 3, 1) := by decide +kernel
theorem dX10_wayHours_37 : decode cX10_wayHours 37 = .ok (.aload_n 0, 1) := by decide +kernel
theorem dX10_wayHours_38 : decode cX10_wayHours 38 = .ok (.getfield 88, 3) := by decide +kernel
theorem dX10_wayHours_41 : decode cX10_wayHours 41 = .ok (.iload_n 1, 1) := by decide +kernel
theorem dX10_wayHours_42 : decode cX10_wayHours 42 = .ok (.iaload, 1) := by decide +kernel
theorem dX10_wayHours_43 : decode cX10_wayHours 43 = .ok (.irem, 1) := by decide +kernel
theorem dX10_wayHours_44 : decode cX10_wayHours 44 = .ok (.ifCond .le 7, 3) := by decide +kernel
theorem dX10_wayHours_47 : decode cX10_wayHours 47 = .ok (.iconst 1, 1) := by decide +kernel
theorem dX10_wayHours_48 : decode cX10_wayHours 48 = .ok (.goto 4, 3) := by decide +kernel
theorem dX10_wayHours_51 : decode cX10_wayHours 51 = .ok (.iconst 0, 1) := by decide +kernel
theorem dX10_wayHours_52 : decode cX10_wayHours 52 = .ok (.iadd, 1) := by decide +kernel
theorem dX10_wayHours_53 : decode cX10_wayHours 53 = .ok (.istore 4, 2) := by decide +kernel
theorem dX10_wayHours_55 : decode cX10_wayHours 55 = .ok (.iload 4, 2) := by decide +kernel
theorem dX10_wayHours_57 : decode cX10_wayHours 57 = .ok (.iconst 1, 1) := by decide +kernel
theorem dX10_wayHours_58 : decode cX10_wayHours 58 = .ok (.if_icmp .ge 7, 3) := by decide +kernel
theorem dX10_wayHours_61 : decode cX10_wayHours 61 = .ok (.iconst 1, 1) := by decide +kernel
theorem dX10_wayHours_62 : decode cX10_wayHours 62 = .ok (.goto 5, 3) := by decide +kernel
theorem dX10_wayHours_65 : decode cX10_wayHours 65 = .ok (.iload 4, 2) := by decide +kernel
theorem dX10_wayHours_67 : decode cX10_wayHours 67 = .ok (.ireturn, 1) := by decide +kernel
set_option maxRecDepth 20000 in
theorem ggX10_send_X10_isCase : GoodIn wsX10_send wsX10_isCase := goodIn_r _ [19, 20, 51, 52, 53, 54, 55, 56, 57, 58, 59, 60, 61, 62, 63, 64, 65, 66, 67, 68, 69, 70, 71, 72, 73, 74, 75, 76, 77, 78, 79, 80, 81, 82, 83, 84, 85, 86, 87, 88, 89, 90, 91, 92, 93, 94, 95, 96, 97, 98, 99, 100, 101, 102, 103, 104, 105, 106, 107, 108, 109, 110, 111, 112, 113, 114, 115, 116, 117, 118, 119] (by decide +kernel) (by decide +kernel)
set_option maxRecDepth 20000 in
theorem gX10_send_X10_isCase : GoodIn wsX10_send (wsV RX10 315 RX10 yX10_isCase wsX10_isCase) := goodIn_app (goodIn_of _ (by decide +kernel)) ggX10_send_X10_isCase
set_option maxRecDepth 20000 in
theorem ggX10_send_X10_lineOf : GoodIn wsX10_send wsX10_lineOf := goodIn_r _ [24, 25, 26, 51, 52, 53, 54, 55, 56, 57, 58, 59, 60, 61, 62, 63, 64, 65, 66, 67, 68, 69, 70, 71, 72, 73, 74, 75, 76, 77, 78, 79, 80, 81, 82, 83, 84, 85, 86, 87, 88, 89, 90, 91, 92, 93, 94, 95, 96, 97, 98, 99, 100, 101, 102, 103, 104, 105, 106, 107, 108, 109, 110, 111, 112, 113, 114, 115, 116, 117, 118, 119] (by decide +kernel) (by decide +kernel)
set_option maxRecDepth 20000 in
theorem gX10_send_X10_lineOf : GoodIn wsX10_send (wsV RX10 321 RX10 yX10_lineOf wsX10_lineOf) := goodIn_app (goodIn_of _ (by decide +kernel)) ggX10_send_X10_lineOf
set_option maxRecDepth 20000 in
theorem ggX10_send_X10_against : GoodIn wsX10_send wsX10_against := goodIn_r _ [30, 10, 31, 32, 33, 34, 35, 36, 18, 37, 38, 39, 40, 51, 52, 53, 54, 55, 56, 57, 58, 59, 60, 61, 62, 63, 64, 65, 66, 67, 68, 69, 70, 71, 72, 73, 74, 75, 76, 77, 78, 79, 80, 81, 82, 83, 84, 85, 86, 87, 88, 89, 90, 91, 92, 93, 94, 95, 96, 97, 98, 99, 100, 101, 102, 103, 104, 105, 106, 107, 108, 109, 110, 111, 112, 113, 114, 115, 116, 117, 118, 119] (by decide +kernel) (by decide +kernel)
set_option maxRecDepth 20000 in
theorem gX10_send_X10_against : GoodIn wsX10_send (wsV RX10 324 RX10 yX10_against wsX10_against) := goodIn_app (goodIn_of _ (by decide +kernel)) ggX10_send_X10_against
set_option maxRecDepth 20000 in
theorem ggX10_send_X10_wayHours : GoodIn wsX10_send wsX10_wayHours := goodIn_r _ [44, 45, 46, 5, 4, 47, 48, 49, 18, 50, 51, 52, 53, 54, 55, 56, 57, 58, 59, 60, 61, 62, 63, 64, 65, 66, 67, 68, 69, 70, 71, 72, 73, 74, 75, 76, 77, 78, 79, 80, 81, 82, 83, 84, 85, 86, 87, 88, 89, 90, 91, 92, 93, 94, 95, 96, 97, 98, 99, 100, 101, 102, 103, 104, 105, 106, 107, 108, 109, 110, 111, 112, 113, 114, 115, 116, 117, 118, 119] (by decide +kernel) (by decide +kernel)
set_option maxRecDepth 20000 in
theorem gX10_send_X10_wayHours : GoodIn wsX10_send (wsV RX10 328 RX10 yX10_wayHours wsX10_wayHours) := goodIn_app (goodIn_of _ (by decide +kernel)) ggX10_send_X10_wayHours
theorem dX10_send_0 : decode cX10_send 0 = .ok (.aload_n 0, 1) := by decide +kernel
theorem dX10_send_1 : decode cX10_send 1 = .ok (.aload_n 0, 1) := by decide +kernel
theorem dX10_send_2 : decode cX10_send 2 = .ok (.iload_n 1, 1) := by decide +kernel
theorem dX10_send_3 : decode cX10_send 3 = .ok (.invokevirtual 315, 3) := by decide +kernel
theorem dX10_send_6 : decode cX10_send 6 = .ok (.ifCond .ne 7, 3) := by decide +kernel
theorem dX10_send_9 : decode cX10_send 9 = .ok (.iconst 1, 1) := by decide +kernel
theorem dX10_send_10 : decode cX10_send 10 = .ok (.goto 17, 3) := by decide +kernel
theorem dX10_send_13 : decode cX10_send 13 = .ok (.aload_n 0, 1) := by decide +kernel
theorem dX10_send_14 : decode cX10_send 14 = .ok (.getfield 112, 3) := by decide +kernel
theorem dX10_send_17 : decode cX10_send 17 = .ok (.iload_n 1, 1) := by decide +kernel
theorem dX10_send_18 : decode cX10_send 18 = .ok (.iaload, 1) := by decide +kernel
theorem dX10_send_19 : decode cX10_send 19 = .ok (.ifCond .eq 7, 3) := by decide +kernel
theorem dX10_send_22 : decode cX10_send 22 = .ok (.iconst 2, 1) := by decide +kernel
theorem dX10_send_23 : decode cX10_send 23 = .ok (.goto 4, 3) := by decide +kernel
theorem dX10_send_26 : decode cX10_send 26 = .ok (.iconst 0, 1) := by decide +kernel
theorem dX10_send_27 : decode cX10_send 27 = .ok (.putfield 180, 3) := by decide +kernel
theorem dX10_send_30 : decode cX10_send 30 = .ok (.aload_n 0, 1) := by decide +kernel
theorem dX10_send_31 : decode cX10_send 31 = .ok (.getfield 180, 3) := by decide +kernel
theorem dX10_send_34 : decode cX10_send 34 = .ok (.ifCond .le 5, 3) := by decide +kernel
theorem dX10_send_37 : decode cX10_send 37 = .ok (.iconst 0, 1) := by decide +kernel
theorem dX10_send_38 : decode cX10_send 38 = .ok (.ireturn, 1) := by decide +kernel
theorem dX10_send_39 : decode cX10_send 39 = .ok (.aload_n 0, 1) := by decide +kernel
theorem dX10_send_40 : decode cX10_send 40 = .ok (.iconst 0, 1) := by decide +kernel
theorem dX10_send_41 : decode cX10_send 41 = .ok (.putfield 318, 3) := by decide +kernel
theorem dX10_send_44 : decode cX10_send 44 = .ok (.aload_n 0, 1) := by decide +kernel
theorem dX10_send_45 : decode cX10_send 45 = .ok (.aload_n 0, 1) := by decide +kernel
theorem dX10_send_46 : decode cX10_send 46 = .ok (.getfield 118, 3) := by decide +kernel
theorem dX10_send_49 : decode cX10_send 49 = .ok (.iload_n 1, 1) := by decide +kernel
theorem dX10_send_50 : decode cX10_send 50 = .ok (.iaload, 1) := by decide +kernel
theorem dX10_send_51 : decode cX10_send 51 = .ok (.iconst 5, 1) := by decide +kernel
theorem dX10_send_52 : decode cX10_send 52 = .ok (.idiv, 1) := by decide +kernel
theorem dX10_send_53 : decode cX10_send 53 = .ok (.iconst 4, 1) := by decide +kernel
theorem dX10_send_54 : decode cX10_send 54 = .ok (.imul, 1) := by decide +kernel
theorem dX10_send_55 : decode cX10_send 55 = .ok (.aload_n 0, 1) := by decide +kernel
theorem dX10_send_56 : decode cX10_send 56 = .ok (.getfield 115, 3) := by decide +kernel
theorem dX10_send_59 : decode cX10_send 59 = .ok (.iload_n 1, 1) := by decide +kernel
theorem dX10_send_60 : decode cX10_send 60 = .ok (.iaload, 1) := by decide +kernel
theorem dX10_send_61 : decode cX10_send 61 = .ok (.iconst 5, 1) := by decide +kernel
theorem dX10_send_62 : decode cX10_send 62 = .ok (.idiv, 1) := by decide +kernel
theorem dX10_send_63 : decode cX10_send 63 = .ok (.iadd, 1) := by decide +kernel
theorem dX10_send_64 : decode cX10_send 64 = .ok (.invokevirtual 321, 3) := by decide +kernel
theorem dX10_send_67 : decode cX10_send 67 = .ok (.istore_n 2, 1) := by decide +kernel
theorem dX10_send_68 : decode cX10_send 68 = .ok (.iconst 0, 1) := by decide +kernel
theorem dX10_send_69 : decode cX10_send 69 = .ok (.istore_n 3, 1) := by decide +kernel
theorem dX10_send_70 : decode cX10_send 70 = .ok (.iload_n 2, 1) := by decide +kernel
theorem dX10_send_71 : decode cX10_send 71 = .ok (.iconst (-1), 1) := by decide +kernel
theorem dX10_send_72 : decode cX10_send 72 = .ok (.if_icmp .eq 148, 3) := by decide +kernel
theorem dX10_send_75 : decode cX10_send 75 = .ok (.iload_n 3, 1) := by decide +kernel
theorem dX10_send_76 : decode cX10_send 76 = .ok (.aload_n 0, 1) := by decide +kernel
theorem dX10_send_77 : decode cX10_send 77 = .ok (.getfield 149, 3) := by decide +kernel
theorem dX10_send_80 : decode cX10_send 80 = .ok (.iload_n 2, 1) := by decide +kernel
theorem dX10_send_81 : decode cX10_send 81 = .ok (.iaload, 1) := by decide +kernel
theorem dX10_send_82 : decode cX10_send 82 = .ok (.if_icmp .ge 138, 3) := by decide +kernel
theorem dX10_send_85 : decode cX10_send 85 = .ok (.aload_n 0, 1) := by decide +kernel
theorem dX10_send_86 : decode cX10_send 86 = .ok (.getfield 152, 3) := by decide +kernel
theorem dX10_send_89 : decode cX10_send 89 = .ok (.bipush 12, 2) := by decide +kernel
theorem dX10_send_91 : decode cX10_send 91 = .ok (.iload_n 2, 1) := by decide +kernel
theorem dX10_send_92 : decode cX10_send 92 = .ok (.imul, 1) := by decide +kernel
theorem dX10_send_93 : decode cX10_send 93 = .ok (.iload_n 3, 1) := by decide +kernel
theorem dX10_send_94 : decode cX10_send 94 = .ok (.iadd, 1) := by decide +kernel
theorem dX10_send_95 : decode cX10_send 95 = .ok (.iaload, 1) := by decide +kernel
theorem dX10_send_96 : decode cX10_send 96 = .ok (.istore 4, 2) := by decide +kernel
theorem dX10_send_98 : decode cX10_send 98 = .ok (.aload_n 0, 1) := by decide +kernel
theorem dX10_send_99 : decode cX10_send 99 = .ok (.getfield 155, 3) := by decide +kernel
theorem dX10_send_102 : decode cX10_send 102 = .ok (.aload_n 0, 1) := by decide +kernel
theorem dX10_send_103 : decode cX10_send 103 = .ok (.getfield 318, 3) := by decide +kernel
theorem dX10_send_106 : decode cX10_send 106 = .ok (.iload 4, 2) := by decide +kernel
theorem dX10_send_108 : decode cX10_send 108 = .ok (.iastore, 1) := by decide +kernel
theorem dX10_send_109 : decode cX10_send 109 = .ok (.aload_n 0, 1) := by decide +kernel
theorem dX10_send_110 : decode cX10_send 110 = .ok (.getfield 158, 3) := by decide +kernel
theorem dX10_send_113 : decode cX10_send 113 = .ok (.aload_n 0, 1) := by decide +kernel
theorem dX10_send_114 : decode cX10_send 114 = .ok (.getfield 318, 3) := by decide +kernel
theorem dX10_send_117 : decode cX10_send 117 = .ok (.aload_n 0, 1) := by decide +kernel
theorem dX10_send_118 : decode cX10_send 118 = .ok (.iload 4, 2) := by decide +kernel
theorem dX10_send_120 : decode cX10_send 120 = .ok (.iload_n 1, 1) := by decide +kernel
theorem dX10_send_121 : decode cX10_send 121 = .ok (.invokevirtual 324, 3) := by decide +kernel
theorem dX10_send_124 : decode cX10_send 124 = .ok (.iastore, 1) := by decide +kernel
theorem dX10_send_125 : decode cX10_send 125 = .ok (.aload_n 0, 1) := by decide +kernel
theorem dX10_send_126 : decode cX10_send 126 = .ok (.dup, 1) := by decide +kernel
theorem dX10_send_127 : decode cX10_send 127 = .ok (.getfield 318, 3) := by decide +kernel
theorem dX10_send_130 : decode cX10_send 130 = .ok (.iconst 1, 1) := by decide +kernel
theorem dX10_send_131 : decode cX10_send 131 = .ok (.iadd, 1) := by decide +kernel
theorem dX10_send_132 : decode cX10_send 132 = .ok (.putfield 318, 3) := by decide +kernel
theorem dX10_send_135 : decode cX10_send 135 = .ok (.aload_n 0, 1) := by decide +kernel
theorem dX10_send_136 : decode cX10_send 136 = .ok (.getfield 158, 3) := by decide +kernel
theorem dX10_send_139 : decode cX10_send 139 = .ok (.aload_n 0, 1) := by decide +kernel
theorem dX10_send_140 : decode cX10_send 140 = .ok (.getfield 318, 3) := by decide +kernel
theorem dX10_send_143 : decode cX10_send 143 = .ok (.iconst 1, 1) := by decide +kernel
theorem dX10_send_144 : decode cX10_send 144 = .ok (.isub, 1) := by decide +kernel
theorem dX10_send_145 : decode cX10_send 145 = .ok (.iaload, 1) := by decide +kernel
theorem dX10_send_146 : decode cX10_send 146 = .ok (.ifCond .le 6, 3) := by decide +kernel
theorem dX10_send_149 : decode cX10_send 149 = .ok (.goto 65, 3) := by decide +kernel
theorem dX10_send_152 : decode cX10_send 152 = .ok (.aload_n 0, 1) := by decide +kernel
theorem dX10_send_153 : decode cX10_send 153 = .ok (.getfield 97, 3) := by decide +kernel
theorem dX10_send_156 : decode cX10_send 156 = .ok (.iload 4, 2) := by decide +kernel
theorem dX10_send_158 : decode cX10_send 158 = .ok (.iconst 1, 1) := by decide +kernel
theorem dX10_send_159 : decode cX10_send 159 = .ok (.iastore, 1) := by decide +kernel
theorem dX10_send_160 : decode cX10_send 160 = .ok (.aload_n 0, 1) := by decide +kernel
theorem dX10_send_161 : decode cX10_send 161 = .ok (.getfield 103, 3) := by decide +kernel
theorem dX10_send_164 : decode cX10_send 164 = .ok (.iload 4, 2) := by decide +kernel
theorem dX10_send_166 : decode cX10_send 166 = .ok (.aload_n 0, 1) := by decide +kernel
theorem dX10_send_167 : decode cX10_send 167 = .ok (.iload 4, 2) := by decide +kernel
theorem dX10_send_169 : decode cX10_send 169 = .ok (.iload_n 1, 1) := by decide +kernel
theorem dX10_send_170 : decode cX10_send 170 = .ok (.invokevirtual 328, 3) := by decide +kernel
theorem dX10_send_173 : decode cX10_send 173 = .ok (.iastore, 1) := by decide +kernel
theorem dX10_send_174 : decode cX10_send 174 = .ok (.aload_n 0, 1) := by decide +kernel
theorem dX10_send_175 : decode cX10_send 175 = .ok (.getfield 100, 3) := by decide +kernel
theorem dX10_send_178 : decode cX10_send 178 = .ok (.iload 4, 2) := by decide +kernel
theorem dX10_send_180 : decode cX10_send 180 = .ok (.aload_n 0, 1) := by decide +kernel
theorem dX10_send_181 : decode cX10_send 181 = .ok (.getfield 103, 3) := by decide +kernel
theorem dX10_send_184 : decode cX10_send 184 = .ok (.iload 4, 2) := by decide +kernel
theorem dX10_send_186 : decode cX10_send 186 = .ok (.iaload, 1) := by decide +kernel
theorem dX10_send_187 : decode cX10_send 187 = .ok (.iastore, 1) := by decide +kernel
theorem dX10_send_188 : decode cX10_send 188 = .ok (.aload_n 0, 1) := by decide +kernel
theorem dX10_send_189 : decode cX10_send 189 = .ok (.getfield 106, 3) := by decide +kernel
theorem dX10_send_192 : decode cX10_send 192 = .ok (.iload 4, 2) := by decide +kernel
theorem dX10_send_194 : decode cX10_send 194 = .ok (.iload_n 1, 1) := by decide +kernel
theorem dX10_send_195 : decode cX10_send 195 = .ok (.iastore, 1) := by decide +kernel
theorem dX10_send_196 : decode cX10_send 196 = .ok (.aload_n 0, 1) := by decide +kernel
theorem dX10_send_197 : decode cX10_send 197 = .ok (.getfield 112, 3) := by decide +kernel
theorem dX10_send_200 : decode cX10_send 200 = .ok (.iload_n 1, 1) := by decide +kernel
theorem dX10_send_201 : decode cX10_send 201 = .ok (.iconst 1, 1) := by decide +kernel
theorem dX10_send_202 : decode cX10_send 202 = .ok (.iastore, 1) := by decide +kernel
theorem dX10_send_203 : decode cX10_send 203 = .ok (.aload_n 0, 1) := by decide +kernel
theorem dX10_send_204 : decode cX10_send 204 = .ok (.getfield 140, 3) := by decide +kernel
theorem dX10_send_207 : decode cX10_send 207 = .ok (.iload_n 1, 1) := by decide +kernel
theorem dX10_send_208 : decode cX10_send 208 = .ok (.iload 4, 2) := by decide +kernel
theorem dX10_send_210 : decode cX10_send 210 = .ok (.iastore, 1) := by decide +kernel
theorem dX10_send_211 : decode cX10_send 211 = .ok (.iload 4, 2) := by decide +kernel
theorem dX10_send_213 : decode cX10_send 213 = .ok (.ireturn, 1) := by decide +kernel
theorem dX10_send_214 : decode cX10_send 214 = .ok (.iinc 3 1, 3) := by decide +kernel
theorem dX10_send_217 : decode cX10_send 217 = .ok (.goto (-147), 3) := by decide +kernel
theorem dX10_send_220 : decode cX10_send 220 = .ok (.iconst (-1), 1) := by decide +kernel
theorem dX10_send_221 : decode cX10_send 221 = .ok (.ireturn, 1) := by decide +kernel
theorem dX10_asked_0 : decode cX10_asked 0 = .ok (.aload_n 0, 1) := by decide +kernel
theorem dX10_asked_1 : decode cX10_asked 1 = .ok (.iconst 0, 1) := by decide +kernel
theorem dX10_asked_2 : decode cX10_asked 2 = .ok (.putfield 180, 3) := by decide +kernel
theorem dX10_asked_5 : decode cX10_asked 5 = .ok (.iload_n 1, 1) := by decide +kernel
theorem dX10_asked_6 : decode cX10_asked 6 = .ok (.ifCond .lt 11, 3) := by decide +kernel
theorem dX10_asked_9 : decode cX10_asked 9 = .ok (.iload_n 1, 1) := by decide +kernel
theorem dX10_asked_10 : decode cX10_asked 10 = .ok (.aload_n 0, 1) := by decide +kernel
theorem dX10_asked_11 : decode cX10_asked 11 = .ok (.getfield 318, 3) := by decide +kernel
theorem dX10_asked_14 : decode cX10_asked 14 = .ok (.if_icmp .lt 5, 3) := by decide +kernel
theorem dX10_asked_17 : decode cX10_asked 17 = .ok (.iconst (-1), 1) := by decide +kernel
theorem dX10_asked_18 : decode cX10_asked 18 = .ok (.ireturn, 1) := by decide +kernel
theorem dX10_asked_19 : decode cX10_asked 19 = .ok (.iload_n 2, 1) := by decide +kernel
theorem dX10_asked_20 : decode cX10_asked 20 = .ok (.ifCond .ne 12, 3) := by decide +kernel
theorem dX10_asked_23 : decode cX10_asked 23 = .ok (.aload_n 0, 1) := by decide +kernel
theorem dX10_asked_24 : decode cX10_asked 24 = .ok (.getfield 155, 3) := by decide +kernel
theorem dX10_asked_27 : decode cX10_asked 27 = .ok (.iload_n 1, 1) := by decide +kernel
theorem dX10_asked_28 : decode cX10_asked 28 = .ok (.iaload, 1) := by decide +kernel
theorem dX10_asked_29 : decode cX10_asked 29 = .ok (.goto 18, 3) := by decide +kernel
theorem dX10_asked_32 : decode cX10_asked 32 = .ok (.iload_n 2, 1) := by decide +kernel
theorem dX10_asked_33 : decode cX10_asked 33 = .ok (.iconst 1, 1) := by decide +kernel
theorem dX10_asked_34 : decode cX10_asked 34 = .ok (.if_icmp .ne 12, 3) := by decide +kernel
theorem dX10_asked_37 : decode cX10_asked 37 = .ok (.aload_n 0, 1) := by decide +kernel
theorem dX10_asked_38 : decode cX10_asked 38 = .ok (.getfield 158, 3) := by decide +kernel
theorem dX10_asked_41 : decode cX10_asked 41 = .ok (.iload_n 1, 1) := by decide +kernel
theorem dX10_asked_42 : decode cX10_asked 42 = .ok (.iaload, 1) := by decide +kernel
theorem dX10_asked_43 : decode cX10_asked 43 = .ok (.goto 4, 3) := by decide +kernel
theorem dX10_asked_46 : decode cX10_asked 46 = .ok (.iconst (-1), 1) := by decide +kernel
theorem dX10_asked_47 : decode cX10_asked 47 = .ok (.ireturn, 1) := by decide +kernel
set_option maxRecDepth 20000 in
theorem ggX10_goes_X10_taken : GoodIn wsX10_goes wsX10_taken := goodIn_r _ [8] (by decide +kernel) (by decide +kernel)
set_option maxRecDepth 20000 in
theorem gX10_goes_X10_taken : GoodIn wsX10_goes (va_wsS RX10 217 yX10_taken wsX10_taken) := goodIn_app (goodIn_of _ (by decide +kernel)) ggX10_goes_X10_taken
theorem dX10_goes_0 : decode cX10_goes 0 = .ok (.bipush 60, 2) := by decide +kernel
theorem dX10_goes_2 : decode cX10_goes 2 = .ok (.istore_n 3, 1) := by decide +kernel
theorem dX10_goes_3 : decode cX10_goes 3 = .ok (.iload_n 1, 1) := by decide +kernel
theorem dX10_goes_4 : decode cX10_goes 4 = .ok (.istore 4, 2) := by decide +kernel
theorem dX10_goes_6 : decode cX10_goes 6 = .ok (.iload_n 3, 1) := by decide +kernel
theorem dX10_goes_7 : decode cX10_goes 7 = .ok (.ifCond .le 83, 3) := by decide +kernel
theorem dX10_goes_10 : decode cX10_goes 10 = .ok (.iinc 4 1, 3) := by decide +kernel
theorem dX10_goes_13 : decode cX10_goes 13 = .ok (.iload 4, 2) := by decide +kernel
theorem dX10_goes_15 : decode cX10_goes 15 = .ok (.bipush 24, 2) := by decide +kernel
theorem dX10_goes_17 : decode cX10_goes 17 = .ok (.idiv, 1) := by decide +kernel
theorem dX10_goes_18 : decode cX10_goes 18 = .ok (.bipush 30, 2) := by decide +kernel
theorem dX10_goes_20 : decode cX10_goes 20 = .ok (.if_icmp .le 8, 3) := by decide +kernel
theorem dX10_goes_23 : decode cX10_goes 23 = .ok (.bipush 30, 2) := by decide +kernel
theorem dX10_goes_25 : decode cX10_goes 25 = .ok (.goto 8, 3) := by decide +kernel
theorem dX10_goes_28 : decode cX10_goes 28 = .ok (.iload 4, 2) := by decide +kernel
theorem dX10_goes_30 : decode cX10_goes 30 = .ok (.bipush 24, 2) := by decide +kernel
theorem dX10_goes_32 : decode cX10_goes 32 = .ok (.idiv, 1) := by decide +kernel
theorem dX10_goes_33 : decode cX10_goes 33 = .ok (.istore 5, 2) := by decide +kernel
theorem dX10_goes_35 : decode cX10_goes 35 = .ok (.iload_n 3, 1) := by decide +kernel
theorem dX10_goes_36 : decode cX10_goes 36 = .ok (.iload 4, 2) := by decide +kernel
theorem dX10_goes_38 : decode cX10_goes 38 = .ok (.bipush 24, 2) := by decide +kernel
theorem dX10_goes_40 : decode cX10_goes 40 = .ok (.idiv, 1) := by decide +kernel
theorem dX10_goes_41 : decode cX10_goes 41 = .ok (.aload_n 0, 1) := by decide +kernel
theorem dX10_goes_42 : decode cX10_goes 42 = .ok (.getfield 206, 3) := by decide +kernel
theorem dX10_goes_45 : decode cX10_goes 45 = .ok (.bipush 24, 2) := by decide +kernel
theorem dX10_goes_47 : decode cX10_goes 47 = .ok (.idiv, 1) := by decide +kernel
theorem dX10_goes_48 : decode cX10_goes 48 = .ok (.if_icmp .gt 13, 3) := by decide +kernel
theorem dX10_goes_51 : decode cX10_goes 51 = .ok (.aload_n 0, 1) := by decide +kernel
theorem dX10_goes_52 : decode cX10_goes 52 = .ok (.getfield 7, 3) := by decide +kernel
theorem dX10_goes_55 : decode cX10_goes 55 = .ok (.iload 5, 2) := by decide +kernel
theorem dX10_goes_57 : decode cX10_goes 57 = .ok (.iaload, 1) := by decide +kernel
theorem dX10_goes_58 : decode cX10_goes 58 = .ok (.goto 24, 3) := by decide +kernel
theorem dX10_goes_61 : decode cX10_goes 61 = .ok (.iload_n 2, 1) := by decide +kernel
theorem dX10_goes_62 : decode cX10_goes 62 = .ok (.ifCond .eq 13, 3) := by decide +kernel
theorem dX10_goes_65 : decode cX10_goes 65 = .ok (.aload_n 0, 1) := by decide +kernel
theorem dX10_goes_66 : decode cX10_goes 66 = .ok (.getfield 19, 3) := by decide +kernel
theorem dX10_goes_69 : decode cX10_goes 69 = .ok (.iload 5, 2) := by decide +kernel
theorem dX10_goes_71 : decode cX10_goes 71 = .ok (.iaload, 1) := by decide +kernel
theorem dX10_goes_72 : decode cX10_goes 72 = .ok (.goto 10, 3) := by decide +kernel
theorem dX10_goes_75 : decode cX10_goes 75 = .ok (.aload_n 0, 1) := by decide +kernel
theorem dX10_goes_76 : decode cX10_goes 76 = .ok (.getfield 16, 3) := by decide +kernel
theorem dX10_goes_79 : decode cX10_goes 79 = .ok (.iload 5, 2) := by decide +kernel
theorem dX10_goes_81 : decode cX10_goes 81 = .ok (.iaload, 1) := by decide +kernel
theorem dX10_goes_82 : decode cX10_goes 82 = .ok (.invokestatic 217, 3) := by decide +kernel
theorem dX10_goes_85 : decode cX10_goes 85 = .ok (.isub, 1) := by decide +kernel
theorem dX10_goes_86 : decode cX10_goes 86 = .ok (.istore_n 3, 1) := by decide +kernel
theorem dX10_goes_87 : decode cX10_goes 87 = .ok (.goto (-81), 3) := by decide +kernel
theorem dX10_goes_90 : decode cX10_goes 90 = .ok (.iload 4, 2) := by decide +kernel
theorem dX10_goes_92 : decode cX10_goes 92 = .ok (.ireturn, 1) := by decide +kernel
set_option maxRecDepth 20000 in
theorem ggX10_left_X10_isCase : GoodIn wsX10_left wsX10_isCase := goodIn_r _ [7, 8, 20, 21, 22, 23, 24, 25, 26, 27, 28, 29, 30, 31, 32, 33, 34, 35, 36, 37, 38, 39, 40, 41, 42, 43, 44, 45, 46, 47, 48, 49, 50, 51, 52, 53, 54, 55, 56, 57, 58, 59, 60, 61, 62, 63, 64, 65, 66, 67, 68, 69, 70, 71, 72, 73, 74, 75, 76, 77, 78, 79, 80, 81, 82, 83, 84, 85, 86, 87, 88] (by decide +kernel) (by decide +kernel)
set_option maxRecDepth 20000 in
theorem gX10_left_X10_isCase : GoodIn wsX10_left (wsV RX10 315 RX10 yX10_isCase wsX10_isCase) := goodIn_app (goodIn_of _ (by decide +kernel)) ggX10_left_X10_isCase
set_option maxRecDepth 20000 in
theorem ggX10_left_X10_goes : GoodIn wsX10_left wsX10_goes := goodIn_r _ [12, 13, 14, 15, 16, 17, 18, 6, 19, 20, 21, 22, 23, 24, 25, 26, 27, 28, 29, 30, 31, 32, 33, 34, 35, 36, 37, 38, 39, 40, 41, 42, 43, 44, 45, 46, 47, 48, 49, 50, 51, 52, 53, 54, 55, 56, 57, 58, 59, 60, 61, 62, 63, 64, 65, 66, 67, 68, 69, 70, 71, 72, 73, 74, 75, 76, 77, 78, 79, 80, 81, 82, 83, 84, 85, 86, 87, 88] (by decide +kernel) (by decide +kernel)
set_option maxRecDepth 20000 in
theorem gX10_left_X10_goes : GoodIn wsX10_left (wsV RX10 331 RX10 yX10_goes wsX10_goes) := goodIn_app (goodIn_of _ (by decide +kernel)) ggX10_left_X10_goes
theorem dX10_left_0 : decode cX10_left 0 = .ok (.aload_n 0, 1) := by decide +kernel
theorem dX10_left_1 : decode cX10_left 1 = .ok (.aload_n 0, 1) := by decide +kernel
theorem dX10_left_2 : decode cX10_left 2 = .ok (.iload_n 1, 1) := by decide +kernel
theorem dX10_left_3 : decode cX10_left 3 = .ok (.invokevirtual 315, 3) := by decide +kernel
theorem dX10_left_6 : decode cX10_left 6 = .ok (.ifCond .ne 7, 3) := by decide +kernel
theorem dX10_left_9 : decode cX10_left 9 = .ok (.iconst 1, 1) := by decide +kernel
theorem dX10_left_10 : decode cX10_left 10 = .ok (.goto 4, 3) := by decide +kernel
theorem dX10_left_13 : decode cX10_left 13 = .ok (.iconst 0, 1) := by decide +kernel
theorem dX10_left_14 : decode cX10_left 14 = .ok (.putfield 180, 3) := by decide +kernel
theorem dX10_left_17 : decode cX10_left 17 = .ok (.aload_n 0, 1) := by decide +kernel
theorem dX10_left_18 : decode cX10_left 18 = .ok (.getfield 180, 3) := by decide +kernel
theorem dX10_left_21 : decode cX10_left 21 = .ok (.ifCond .le 5, 3) := by decide +kernel
theorem dX10_left_24 : decode cX10_left 24 = .ok (.iconst 0, 1) := by decide +kernel
theorem dX10_left_25 : decode cX10_left 25 = .ok (.ireturn, 1) := by decide +kernel
theorem dX10_left_26 : decode cX10_left 26 = .ok (.aload_n 0, 1) := by decide +kernel
theorem dX10_left_27 : decode cX10_left 27 = .ok (.getfield 128, 3) := by decide +kernel
theorem dX10_left_30 : decode cX10_left 30 = .ok (.iload_n 1, 1) := by decide +kernel
theorem dX10_left_31 : decode cX10_left 31 = .ok (.iaload, 1) := by decide +kernel
theorem dX10_left_32 : decode cX10_left 32 = .ok (.iconst (-1), 1) := by decide +kernel
theorem dX10_left_33 : decode cX10_left 33 = .ok (.if_icmp .ne 7, 3) := by decide +kernel
theorem dX10_left_36 : decode cX10_left 36 = .ok (.iconst (-1), 1) := by decide +kernel
theorem dX10_left_37 : decode cX10_left 37 = .ok (.goto 14, 3) := by decide +kernel
theorem dX10_left_40 : decode cX10_left 40 = .ok (.aload_n 0, 1) := by decide +kernel
theorem dX10_left_41 : decode cX10_left 41 = .ok (.aload_n 0, 1) := by decide +kernel
theorem dX10_left_42 : decode cX10_left 42 = .ok (.getfield 128, 3) := by decide +kernel
theorem dX10_left_45 : decode cX10_left 45 = .ok (.iload_n 1, 1) := by decide +kernel
theorem dX10_left_46 : decode cX10_left 46 = .ok (.iaload, 1) := by decide +kernel
theorem dX10_left_47 : decode cX10_left 47 = .ok (.iload_n 2, 1) := by decide +kernel
theorem dX10_left_48 : decode cX10_left 48 = .ok (.invokevirtual 331, 3) := by decide +kernel
theorem dX10_left_51 : decode cX10_left 51 = .ok (.ireturn, 1) := by decide +kernel
set_option maxRecDepth 20000 in
theorem ggX10_could_X10_against : GoodIn wsX10_could wsX10_against := goodIn_r _ [7, 8, 9, 10, 11, 12, 13, 14, 6, 15, 2, 16, 17, 40, 41, 42, 43, 44, 45, 46, 47, 48, 49, 50, 51, 52, 53, 54, 55, 56, 57, 58, 59, 60, 61, 62, 63, 64, 65, 66, 67, 68, 69, 70, 71, 72, 73, 74, 75, 76, 77, 78, 79, 80, 81, 82, 83, 84, 85, 86, 87, 88, 89, 90, 91, 92, 93, 94, 95, 96, 97, 98, 99, 100, 101, 102, 103, 104, 105, 106, 107, 108] (by decide +kernel) (by decide +kernel)
set_option maxRecDepth 20000 in
theorem gX10_could_X10_against : GoodIn wsX10_could (wsV RX10 324 RX10 yX10_against wsX10_against) := goodIn_app (goodIn_of _ (by decide +kernel)) ggX10_could_X10_against
set_option maxRecDepth 20000 in
theorem ggX10_could_X10_wayHours : GoodIn wsX10_could wsX10_wayHours := goodIn_r _ [21, 22, 23, 24, 25, 26, 27, 28, 6, 29, 40, 41, 42, 43, 44, 45, 46, 47, 48, 49, 50, 51, 52, 53, 54, 55, 56, 57, 58, 59, 60, 61, 62, 63, 64, 65, 66, 67, 68, 69, 70, 71, 72, 73, 74, 75, 76, 77, 78, 79, 80, 81, 82, 83, 84, 85, 86, 87, 88, 89, 90, 91, 92, 93, 94, 95, 96, 97, 98, 99, 100, 101, 102, 103, 104, 105, 106, 107, 108] (by decide +kernel) (by decide +kernel)
set_option maxRecDepth 20000 in
theorem gX10_could_X10_wayHours : GoodIn wsX10_could (wsV RX10 328 RX10 yX10_wayHours wsX10_wayHours) := goodIn_app (goodIn_of _ (by decide +kernel)) ggX10_could_X10_wayHours
set_option maxRecDepth 20000 in
theorem ggX10_could_X10_goes : GoodIn wsX10_could wsX10_goes := goodIn_r _ [33, 2, 34, 35, 36, 37, 38, 6, 39, 40, 41, 42, 43, 44, 45, 46, 47, 48, 49, 50, 51, 52, 53, 54, 55, 56, 57, 58, 59, 60, 61, 62, 63, 64, 65, 66, 67, 68, 69, 70, 71, 72, 73, 74, 75, 76, 77, 78, 79, 80, 81, 82, 83, 84, 85, 86, 87, 88, 89, 90, 91, 92, 93, 94, 95, 96, 97, 98, 99, 100, 101, 102, 103, 104, 105, 106, 107, 108] (by decide +kernel) (by decide +kernel)
set_option maxRecDepth 20000 in
theorem gX10_could_X10_goes : GoodIn wsX10_could (wsV RX10 331 RX10 yX10_goes wsX10_goes) := goodIn_app (goodIn_of _ (by decide +kernel)) ggX10_could_X10_goes
theorem dX10_could_0 : decode cX10_could 0 = .ok (.aload_n 0, 1) := by decide +kernel
theorem dX10_could_1 : decode cX10_could 1 = .ok (.iload_n 1, 1) := by decide +kernel
theorem dX10_could_2 : decode cX10_could 2 = .ok (.iload_n 2, 1) := by decide +kernel
theorem dX10_could_3 : decode cX10_could 3 = .ok (.invokevirtual 324, 3) := by decide +kernel
theorem dX10_could_6 : decode cX10_could 6 = .ok (.ifCond .ne 42, 3) := by decide +kernel
theorem dX10_could_9 : decode cX10_could 9 = .ok (.aload_n 0, 1) := by decide +kernel
theorem dX10_could_10 : decode cX10_could 10 = .ok (.getfield 128, 3) := by decide +kernel
theorem dX10_could_13 : decode cX10_could 13 = .ok (.iload_n 2, 1) := by decide +kernel
theorem dX10_could_14 : decode cX10_could 14 = .ok (.iaload, 1) := by decide +kernel
theorem dX10_could_15 : decode cX10_could 15 = .ok (.iconst (-1), 1) := by decide +kernel
theorem dX10_could_16 : decode cX10_could 16 = .ok (.if_icmp .eq 28, 3) := by decide +kernel
theorem dX10_could_19 : decode cX10_could 19 = .ok (.aload_n 0, 1) := by decide +kernel
theorem dX10_could_20 : decode cX10_could 20 = .ok (.getfield 206, 3) := by decide +kernel
theorem dX10_could_23 : decode cX10_could 23 = .ok (.aload_n 0, 1) := by decide +kernel
theorem dX10_could_24 : decode cX10_could 24 = .ok (.iload_n 1, 1) := by decide +kernel
theorem dX10_could_25 : decode cX10_could 25 = .ok (.iload_n 2, 1) := by decide +kernel
theorem dX10_could_26 : decode cX10_could 26 = .ok (.invokevirtual 328, 3) := by decide +kernel
theorem dX10_could_29 : decode cX10_could 29 = .ok (.iadd, 1) := by decide +kernel
theorem dX10_could_30 : decode cX10_could 30 = .ok (.aload_n 0, 1) := by decide +kernel
theorem dX10_could_31 : decode cX10_could 31 = .ok (.aload_n 0, 1) := by decide +kernel
theorem dX10_could_32 : decode cX10_could 32 = .ok (.getfield 128, 3) := by decide +kernel
theorem dX10_could_35 : decode cX10_could 35 = .ok (.iload_n 2, 1) := by decide +kernel
theorem dX10_could_36 : decode cX10_could 36 = .ok (.iaload, 1) := by decide +kernel
theorem dX10_could_37 : decode cX10_could 37 = .ok (.iconst 1, 1) := by decide +kernel
theorem dX10_could_38 : decode cX10_could 38 = .ok (.invokevirtual 331, 3) := by decide +kernel
theorem dX10_could_41 : decode cX10_could 41 = .ok (.if_icmp .ge 7, 3) := by decide +kernel
theorem dX10_could_44 : decode cX10_could 44 = .ok (.iconst 1, 1) := by decide +kernel
theorem dX10_could_45 : decode cX10_could 45 = .ok (.goto 4, 3) := by decide +kernel
theorem dX10_could_48 : decode cX10_could 48 = .ok (.iconst 0, 1) := by decide +kernel
theorem dX10_could_49 : decode cX10_could 49 = .ok (.ireturn, 1) := by decide +kernel
set_option maxRecDepth 20000 in
theorem ggX10_most_X10_could : GoodIn wsX10_most wsX10_could := goodIn_r _ [11, 12, 13, 14, 15, 16, 10, 17, 18, 19, 20, 21, 22, 23, 24, 25, 26, 27, 28, 29, 30, 31, 32, 33, 34, 35, 36, 37, 38, 39, 40, 41, 42, 43, 44, 45, 46, 47, 48, 49, 50, 51, 52, 53, 54, 55, 56, 57, 58, 59, 60, 61, 62, 63, 64, 65, 66, 67, 68, 69, 70, 71, 72, 73, 74, 75, 76, 77, 78, 79, 80, 81, 82, 83, 84, 85, 86, 87, 88, 89, 90, 91, 92, 93, 94, 95, 96, 97, 98, 99, 100, 101, 102, 103, 104, 105, 106, 107, 108, 109, 110, 111, 112, 113, 114, 115, 116, 117, 118] (by decide +kernel) (by decide +kernel)
set_option maxRecDepth 20000 in
theorem gX10_most_X10_could : GoodIn wsX10_most (wsV RX10 335 RX10 yX10_could wsX10_could) := goodIn_app (goodIn_of _ (by decide +kernel)) ggX10_most_X10_could
theorem dX10_most_0 : decode cX10_most 0 = .ok (.aload_n 0, 1) := by decide +kernel
theorem dX10_most_1 : decode cX10_most 1 = .ok (.iconst 0, 1) := by decide +kernel
theorem dX10_most_2 : decode cX10_most 2 = .ok (.putfield 180, 3) := by decide +kernel
theorem dX10_most_5 : decode cX10_most 5 = .ok (.iconst 0, 1) := by decide +kernel
theorem dX10_most_6 : decode cX10_most 6 = .ok (.istore_n 1, 1) := by decide +kernel
theorem dX10_most_7 : decode cX10_most 7 = .ok (.iconst 0, 1) := by decide +kernel
theorem dX10_most_8 : decode cX10_most 8 = .ok (.istore_n 2, 1) := by decide +kernel
theorem dX10_most_9 : decode cX10_most 9 = .ok (.iload_n 2, 1) := by decide +kernel
theorem dX10_most_10 : decode cX10_most 10 = .ok (.aload_n 0, 1) := by decide +kernel
theorem dX10_most_11 : decode cX10_most 11 = .ok (.getfield 192, 3) := by decide +kernel
theorem dX10_most_14 : decode cX10_most 14 = .ok (.if_icmp .ge 37, 3) := by decide +kernel
theorem dX10_most_17 : decode cX10_most 17 = .ok (.iload_n 1, 1) := by decide +kernel
theorem dX10_most_18 : decode cX10_most 18 = .ok (.bipush 8, 2) := by decide +kernel
theorem dX10_most_20 : decode cX10_most 20 = .ok (.if_icmp .ge 31, 3) := by decide +kernel
theorem dX10_most_23 : decode cX10_most 23 = .ok (.aload_n 0, 1) := by decide +kernel
theorem dX10_most_24 : decode cX10_most 24 = .ok (.getfield 112, 3) := by decide +kernel
theorem dX10_most_27 : decode cX10_most 27 = .ok (.iload_n 2, 1) := by decide +kernel
theorem dX10_most_28 : decode cX10_most 28 = .ok (.iaload, 1) := by decide +kernel
theorem dX10_most_29 : decode cX10_most 29 = .ok (.ifCond .eq 6, 3) := by decide +kernel
theorem dX10_most_32 : decode cX10_most 32 = .ok (.goto 13, 3) := by decide +kernel
theorem dX10_most_35 : decode cX10_most 35 = .ok (.aload_n 0, 1) := by decide +kernel
theorem dX10_most_36 : decode cX10_most 36 = .ok (.getfield 177, 3) := by decide +kernel
theorem dX10_most_39 : decode cX10_most 39 = .ok (.iload_n 1, 1) := by decide +kernel
theorem dX10_most_40 : decode cX10_most 40 = .ok (.iload_n 2, 1) := by decide +kernel
theorem dX10_most_41 : decode cX10_most 41 = .ok (.iastore, 1) := by decide +kernel
theorem dX10_most_42 : decode cX10_most 42 = .ok (.iinc 1 1, 3) := by decide +kernel
theorem dX10_most_45 : decode cX10_most 45 = .ok (.iinc 2 1, 3) := by decide +kernel
theorem dX10_most_48 : decode cX10_most 48 = .ok (.goto (-39), 3) := by decide +kernel
theorem dX10_most_51 : decode cX10_most 51 = .ok (.iconst 1, 1) := by decide +kernel
theorem dX10_most_52 : decode cX10_most 52 = .ok (.aload_n 0, 1) := by decide +kernel
theorem dX10_most_53 : decode cX10_most 53 = .ok (.getfield 189, 3) := by decide +kernel
theorem dX10_most_56 : decode cX10_most 56 = .ok (.ishl, 1) := by decide +kernel
theorem dX10_most_57 : decode cX10_most 57 = .ok (.istore_n 2, 1) := by decide +kernel
theorem dX10_most_58 : decode cX10_most 58 = .ok (.iconst 0, 1) := by decide +kernel
theorem dX10_most_59 : decode cX10_most 59 = .ok (.istore_n 3, 1) := by decide +kernel
theorem dX10_most_60 : decode cX10_most 60 = .ok (.iload_n 3, 1) := by decide +kernel
theorem dX10_most_61 : decode cX10_most 61 = .ok (.iload_n 2, 1) := by decide +kernel
theorem dX10_most_62 : decode cX10_most 62 = .ok (.if_icmp .ge 24, 3) := by decide +kernel
theorem dX10_most_65 : decode cX10_most 65 = .ok (.aload_n 0, 1) := by decide +kernel
theorem dX10_most_66 : decode cX10_most 66 = .ok (.getfield 174, 3) := by decide +kernel
theorem dX10_most_69 : decode cX10_most 69 = .ok (.iload_n 3, 1) := by decide +kernel
theorem dX10_most_70 : decode cX10_most 70 = .ok (.iload_n 3, 1) := by decide +kernel
theorem dX10_most_71 : decode cX10_most 71 = .ok (.ifCond .ne 7, 3) := by decide +kernel
theorem dX10_most_74 : decode cX10_most 74 = .ok (.iconst 0, 1) := by decide +kernel
theorem dX10_most_75 : decode cX10_most 75 = .ok (.goto 4, 3) := by decide +kernel
theorem dX10_most_78 : decode cX10_most 78 = .ok (.iconst (-1), 1) := by decide +kernel
theorem dX10_most_79 : decode cX10_most 79 = .ok (.iastore, 1) := by decide +kernel
theorem dX10_most_80 : decode cX10_most 80 = .ok (.iinc 3 1, 3) := by decide +kernel
theorem dX10_most_83 : decode cX10_most 83 = .ok (.goto (-23), 3) := by decide +kernel
theorem dX10_most_86 : decode cX10_most 86 = .ok (.iconst 0, 1) := by decide +kernel
theorem dX10_most_87 : decode cX10_most 87 = .ok (.istore_n 3, 1) := by decide +kernel
theorem dX10_most_88 : decode cX10_most 88 = .ok (.iload_n 3, 1) := by decide +kernel
theorem dX10_most_89 : decode cX10_most 89 = .ok (.iload_n 1, 1) := by decide +kernel
theorem dX10_most_90 : decode cX10_most 90 = .ok (.if_icmp .ge 176, 3) := by decide +kernel
theorem dX10_most_93 : decode cX10_most 93 = .ok (.iconst 0, 1) := by decide +kernel
theorem dX10_most_94 : decode cX10_most 94 = .ok (.istore 4, 2) := by decide +kernel
theorem dX10_most_96 : decode cX10_most 96 = .ok (.iconst 0, 1) := by decide +kernel
theorem dX10_most_97 : decode cX10_most 97 = .ok (.istore 5, 2) := by decide +kernel
theorem dX10_most_99 : decode cX10_most 99 = .ok (.iload 5, 2) := by decide +kernel
theorem dX10_most_101 : decode cX10_most 101 = .ok (.aload_n 0, 1) := by decide +kernel
theorem dX10_most_102 : decode cX10_most 102 = .ok (.getfield 189, 3) := by decide +kernel
theorem dX10_most_105 : decode cX10_most 105 = .ok (.if_icmp .ge 37, 3) := by decide +kernel
theorem dX10_most_108 : decode cX10_most 108 = .ok (.iload 4, 2) := by decide +kernel
theorem dX10_most_110 : decode cX10_most 110 = .ok (.aload_n 0, 1) := by decide +kernel
theorem dX10_most_111 : decode cX10_most 111 = .ok (.iload 5, 2) := by decide +kernel
theorem dX10_most_113 : decode cX10_most 113 = .ok (.aload_n 0, 1) := by decide +kernel
theorem dX10_most_114 : decode cX10_most 114 = .ok (.getfield 177, 3) := by decide +kernel
theorem dX10_most_117 : decode cX10_most 117 = .ok (.iload_n 3, 1) := by decide +kernel
theorem dX10_most_118 : decode cX10_most 118 = .ok (.iaload, 1) := by decide +kernel
theorem dX10_most_119 : decode cX10_most 119 = .ok (.invokevirtual 335, 3) := by decide +kernel
theorem dX10_most_122 : decode cX10_most 122 = .ok (.ifCond .eq 10, 3) := by decide +kernel
theorem dX10_most_125 : decode cX10_most 125 = .ok (.iconst 1, 1) := by decide +kernel
theorem dX10_most_126 : decode cX10_most 126 = .ok (.iload 5, 2) := by decide +kernel
theorem dX10_most_128 : decode cX10_most 128 = .ok (.ishl, 1) := by decide +kernel
theorem dX10_most_129 : decode cX10_most 129 = .ok (.goto 4, 3) := by decide +kernel
theorem dX10_most_132 : decode cX10_most 132 = .ok (.iconst 0, 1) := by decide +kernel
theorem dX10_most_133 : decode cX10_most 133 = .ok (.ior, 1) := by decide +kernel
theorem dX10_most_134 : decode cX10_most 134 = .ok (.istore 4, 2) := by decide +kernel
theorem dX10_most_136 : decode cX10_most 136 = .ok (.iinc 5 1, 3) := by decide +kernel
theorem dX10_most_139 : decode cX10_most 139 = .ok (.goto (-40), 3) := by decide +kernel
theorem dX10_most_142 : decode cX10_most 142 = .ok (.iload_n 2, 1) := by decide +kernel
theorem dX10_most_143 : decode cX10_most 143 = .ok (.iconst 1, 1) := by decide +kernel
theorem dX10_most_144 : decode cX10_most 144 = .ok (.isub, 1) := by decide +kernel
theorem dX10_most_145 : decode cX10_most 145 = .ok (.istore 5, 2) := by decide +kernel
theorem dX10_most_147 : decode cX10_most 147 = .ok (.iload 5, 2) := by decide +kernel
theorem dX10_most_149 : decode cX10_most 149 = .ok (.ifCond .le 111, 3) := by decide +kernel
theorem dX10_most_152 : decode cX10_most 152 = .ok (.iconst 0, 1) := by decide +kernel
theorem dX10_most_153 : decode cX10_most 153 = .ok (.istore 6, 2) := by decide +kernel
theorem dX10_most_155 : decode cX10_most 155 = .ok (.iload 6, 2) := by decide +kernel
theorem dX10_most_157 : decode cX10_most 157 = .ok (.aload_n 0, 1) := by decide +kernel
theorem dX10_most_158 : decode cX10_most 158 = .ok (.getfield 189, 3) := by decide +kernel
theorem dX10_most_161 : decode cX10_most 161 = .ok (.if_icmp .ge 93, 3) := by decide +kernel
theorem dX10_most_164 : decode cX10_most 164 = .ok (.iload 5, 2) := by decide +kernel
theorem dX10_most_166 : decode cX10_most 166 = .ok (.iload 6, 2) := by decide +kernel
theorem dX10_most_168 : decode cX10_most 168 = .ok (.ishr, 1) := by decide +kernel
theorem dX10_most_169 : decode cX10_most 169 = .ok (.iconst 1, 1) := by decide +kernel
theorem dX10_most_170 : decode cX10_most 170 = .ok (.iand, 1) := by decide +kernel
theorem dX10_most_171 : decode cX10_most 171 = .ok (.ifCond .eq 77, 3) := by decide +kernel
theorem dX10_most_174 : decode cX10_most 174 = .ok (.iload 4, 2) := by decide +kernel
theorem dX10_most_176 : decode cX10_most 176 = .ok (.iload 6, 2) := by decide +kernel
theorem dX10_most_178 : decode cX10_most 178 = .ok (.ishr, 1) := by decide +kernel
theorem dX10_most_179 : decode cX10_most 179 = .ok (.iconst 1, 1) := by decide +kernel
theorem dX10_most_180 : decode cX10_most 180 = .ok (.iand, 1) := by decide +kernel
theorem dX10_most_181 : decode cX10_most 181 = .ok (.ifCond .eq 67, 3) := by decide +kernel
theorem dX10_most_184 : decode cX10_most 184 = .ok (.aload_n 0, 1) := by decide +kernel
theorem dX10_most_185 : decode cX10_most 185 = .ok (.getfield 174, 3) := by decide +kernel
theorem dX10_most_188 : decode cX10_most 188 = .ok (.iload 5, 2) := by decide +kernel
theorem dX10_most_190 : decode cX10_most 190 = .ok (.iconst 1, 1) := by decide +kernel
theorem dX10_most_191 : decode cX10_most 191 = .ok (.iload 6, 2) := by decide +kernel
theorem dX10_most_193 : decode cX10_most 193 = .ok (.ishl, 1) := by decide +kernel
theorem dX10_most_194 : decode cX10_most 194 = .ok (.ixor, 1) := by decide +kernel
theorem dX10_most_195 : decode cX10_most 195 = .ok (.iaload, 1) := by decide +kernel
theorem dX10_most_196 : decode cX10_most 196 = .ok (.iconst (-1), 1) := by decide +kernel
theorem dX10_most_197 : decode cX10_most 197 = .ok (.if_icmp .ne 6, 3) := by decide +kernel
theorem dX10_most_200 : decode cX10_most 200 = .ok (.goto 48, 3) := by decide +kernel
theorem dX10_most_203 : decode cX10_most 203 = .ok (.aload_n 0, 1) := by decide +kernel
theorem dX10_most_204 : decode cX10_most 204 = .ok (.getfield 174, 3) := by decide +kernel
theorem dX10_most_207 : decode cX10_most 207 = .ok (.iload 5, 2) := by decide +kernel
theorem dX10_most_209 : decode cX10_most 209 = .ok (.iconst 1, 1) := by decide +kernel
theorem dX10_most_210 : decode cX10_most 210 = .ok (.iload 6, 2) := by decide +kernel
theorem dX10_most_212 : decode cX10_most 212 = .ok (.ishl, 1) := by decide +kernel
theorem dX10_most_213 : decode cX10_most 213 = .ok (.ixor, 1) := by decide +kernel
theorem dX10_most_214 : decode cX10_most 214 = .ok (.iaload, 1) := by decide +kernel
theorem dX10_most_215 : decode cX10_most 215 = .ok (.iconst 1, 1) := by decide +kernel
theorem dX10_most_216 : decode cX10_most 216 = .ok (.iadd, 1) := by decide +kernel
theorem dX10_most_217 : decode cX10_most 217 = .ok (.aload_n 0, 1) := by decide +kernel
theorem dX10_most_218 : decode cX10_most 218 = .ok (.getfield 174, 3) := by decide +kernel
theorem dX10_most_221 : decode cX10_most 221 = .ok (.iload 5, 2) := by decide +kernel
theorem dX10_most_223 : decode cX10_most 223 = .ok (.iaload, 1) := by decide +kernel
theorem dX10_most_224 : decode cX10_most 224 = .ok (.if_icmp .le 24, 3) := by decide +kernel
theorem dX10_most_227 : decode cX10_most 227 = .ok (.aload_n 0, 1) := by decide +kernel
theorem dX10_most_228 : decode cX10_most 228 = .ok (.getfield 174, 3) := by decide +kernel
theorem dX10_most_231 : decode cX10_most 231 = .ok (.iload 5, 2) := by decide +kernel
theorem dX10_most_233 : decode cX10_most 233 = .ok (.aload_n 0, 1) := by decide +kernel
theorem dX10_most_234 : decode cX10_most 234 = .ok (.getfield 174, 3) := by decide +kernel
theorem dX10_most_237 : decode cX10_most 237 = .ok (.iload 5, 2) := by decide +kernel
theorem dX10_most_239 : decode cX10_most 239 = .ok (.iconst 1, 1) := by decide +kernel
theorem dX10_most_240 : decode cX10_most 240 = .ok (.iload 6, 2) := by decide +kernel
theorem dX10_most_242 : decode cX10_most 242 = .ok (.ishl, 1) := by decide +kernel
theorem dX10_most_243 : decode cX10_most 243 = .ok (.ixor, 1) := by decide +kernel
theorem dX10_most_244 : decode cX10_most 244 = .ok (.iaload, 1) := by decide +kernel
theorem dX10_most_245 : decode cX10_most 245 = .ok (.iconst 1, 1) := by decide +kernel
theorem dX10_most_246 : decode cX10_most 246 = .ok (.iadd, 1) := by decide +kernel
theorem dX10_most_247 : decode cX10_most 247 = .ok (.iastore, 1) := by decide +kernel
theorem dX10_most_248 : decode cX10_most 248 = .ok (.iinc 6 1, 3) := by decide +kernel
theorem dX10_most_251 : decode cX10_most 251 = .ok (.goto (-96), 3) := by decide +kernel
theorem dX10_most_254 : decode cX10_most 254 = .ok (.iinc 5 (-1), 3) := by decide +kernel
theorem dX10_most_257 : decode cX10_most 257 = .ok (.goto (-110), 3) := by decide +kernel
theorem dX10_most_260 : decode cX10_most 260 = .ok (.iinc 3 1, 3) := by decide +kernel
theorem dX10_most_263 : decode cX10_most 263 = .ok (.goto (-175), 3) := by decide +kernel
theorem dX10_most_266 : decode cX10_most 266 = .ok (.iconst 0, 1) := by decide +kernel
theorem dX10_most_267 : decode cX10_most 267 = .ok (.istore_n 3, 1) := by decide +kernel
theorem dX10_most_268 : decode cX10_most 268 = .ok (.iconst 0, 1) := by decide +kernel
theorem dX10_most_269 : decode cX10_most 269 = .ok (.istore 4, 2) := by decide +kernel
theorem dX10_most_271 : decode cX10_most 271 = .ok (.iload 4, 2) := by decide +kernel
theorem dX10_most_273 : decode cX10_most 273 = .ok (.iload_n 2, 1) := by decide +kernel
theorem dX10_most_274 : decode cX10_most 274 = .ok (.if_icmp .ge 28, 3) := by decide +kernel
theorem dX10_most_277 : decode cX10_most 277 = .ok (.aload_n 0, 1) := by decide +kernel
theorem dX10_most_278 : decode cX10_most 278 = .ok (.getfield 174, 3) := by decide +kernel
theorem dX10_most_281 : decode cX10_most 281 = .ok (.iload 4, 2) := by decide +kernel
theorem dX10_most_283 : decode cX10_most 283 = .ok (.iaload, 1) := by decide +kernel
theorem dX10_most_284 : decode cX10_most 284 = .ok (.iload_n 3, 1) := by decide +kernel
theorem dX10_most_285 : decode cX10_most 285 = .ok (.if_icmp .le 11, 3) := by decide +kernel
theorem dX10_most_288 : decode cX10_most 288 = .ok (.aload_n 0, 1) := by decide +kernel
theorem dX10_most_289 : decode cX10_most 289 = .ok (.getfield 174, 3) := by decide +kernel
theorem dX10_most_292 : decode cX10_most 292 = .ok (.iload 4, 2) := by decide +kernel
theorem dX10_most_294 : decode cX10_most 294 = .ok (.iaload, 1) := by decide +kernel
theorem dX10_most_295 : decode cX10_most 295 = .ok (.istore_n 3, 1) := by decide +kernel
theorem dX10_most_296 : decode cX10_most 296 = .ok (.iinc 4 1, 3) := by decide +kernel
theorem dX10_most_299 : decode cX10_most 299 = .ok (.goto (-28), 3) := by decide +kernel
theorem dX10_most_302 : decode cX10_most 302 = .ok (.iload_n 3, 1) := by decide +kernel
theorem dX10_most_303 : decode cX10_most 303 = .ok (.ireturn, 1) := by decide +kernel
set_option maxRecDepth 20000 in
theorem ggX10_agrees_X10_steps : GoodIn wsX10_agrees wsX10_steps := goodIn_r _ [13] (by decide +kernel) (by decide +kernel)
set_option maxRecDepth 20000 in
theorem gX10_agrees_X10_steps : GoodIn wsX10_agrees (va_wsS RX10 231 yX10_steps wsX10_steps) := goodIn_app (goodIn_of _ (by decide +kernel)) ggX10_agrees_X10_steps
theorem dX10_agrees_0 : decode cX10_agrees 0 = .ok (.aload_n 0, 1) := by decide +kernel
theorem dX10_agrees_1 : decode cX10_agrees 1 = .ok (.getfield 131, 3) := by decide +kernel
theorem dX10_agrees_4 : decode cX10_agrees 4 = .ok (.aload_n 0, 1) := by decide +kernel
theorem dX10_agrees_5 : decode cX10_agrees 5 = .ok (.getfield 73, 3) := by decide +kernel
theorem dX10_agrees_8 : decode cX10_agrees 8 = .ok (.iload_n 2, 1) := by decide +kernel
theorem dX10_agrees_9 : decode cX10_agrees 9 = .ok (.iaload, 1) := by decide +kernel
theorem dX10_agrees_10 : decode cX10_agrees 10 = .ok (.iaload, 1) := by decide +kernel
theorem dX10_agrees_11 : decode cX10_agrees 11 = .ok (.istore_n 3, 1) := by decide +kernel
theorem dX10_agrees_12 : decode cX10_agrees 12 = .ok (.aload_n 0, 1) := by decide +kernel
theorem dX10_agrees_13 : decode cX10_agrees 13 = .ok (.getfield 40, 3) := by decide +kernel
theorem dX10_agrees_16 : decode cX10_agrees 16 = .ok (.iload_n 1, 1) := by decide +kernel
theorem dX10_agrees_17 : decode cX10_agrees 17 = .ok (.iaload, 1) := by decide +kernel
theorem dX10_agrees_18 : decode cX10_agrees 18 = .ok (.iconst (-1), 1) := by decide +kernel
theorem dX10_agrees_19 : decode cX10_agrees 19 = .ok (.if_icmp .eq 36, 3) := by decide +kernel
theorem dX10_agrees_22 : decode cX10_agrees 22 = .ok (.aload_n 0, 1) := by decide +kernel
theorem dX10_agrees_23 : decode cX10_agrees 23 = .ok (.getfield 40, 3) := by decide +kernel
theorem dX10_agrees_26 : decode cX10_agrees 26 = .ok (.iload_n 1, 1) := by decide +kernel
theorem dX10_agrees_27 : decode cX10_agrees 27 = .ok (.iaload, 1) := by decide +kernel
theorem dX10_agrees_28 : decode cX10_agrees 28 = .ok (.aload_n 0, 1) := by decide +kernel
theorem dX10_agrees_29 : decode cX10_agrees 29 = .ok (.getfield 70, 3) := by decide +kernel
theorem dX10_agrees_32 : decode cX10_agrees 32 = .ok (.iload_n 2, 1) := by decide +kernel
theorem dX10_agrees_33 : decode cX10_agrees 33 = .ok (.iaload, 1) := by decide +kernel
theorem dX10_agrees_34 : decode cX10_agrees 34 = .ok (.if_icmp .gt 21, 3) := by decide +kernel
theorem dX10_agrees_37 : decode cX10_agrees 37 = .ok (.aload_n 0, 1) := by decide +kernel
theorem dX10_agrees_38 : decode cX10_agrees 38 = .ok (.getfield 70, 3) := by decide +kernel
theorem dX10_agrees_41 : decode cX10_agrees 41 = .ok (.iload_n 2, 1) := by decide +kernel
theorem dX10_agrees_42 : decode cX10_agrees 42 = .ok (.iaload, 1) := by decide +kernel
theorem dX10_agrees_43 : decode cX10_agrees 43 = .ok (.aload_n 0, 1) := by decide +kernel
theorem dX10_agrees_44 : decode cX10_agrees 44 = .ok (.getfield 40, 3) := by decide +kernel
theorem dX10_agrees_47 : decode cX10_agrees 47 = .ok (.iload_n 1, 1) := by decide +kernel
theorem dX10_agrees_48 : decode cX10_agrees 48 = .ok (.iaload, 1) := by decide +kernel
theorem dX10_agrees_49 : decode cX10_agrees 49 = .ok (.isub, 1) := by decide +kernel
theorem dX10_agrees_50 : decode cX10_agrees 50 = .ok (.bipush 60, 2) := by decide +kernel
theorem dX10_agrees_52 : decode cX10_agrees 52 = .ok (.if_icmp .le 5, 3) := by decide +kernel
theorem dX10_agrees_55 : decode cX10_agrees 55 = .ok (.iconst 0, 1) := by decide +kernel
theorem dX10_agrees_56 : decode cX10_agrees 56 = .ok (.ireturn, 1) := by decide +kernel
theorem dX10_agrees_57 : decode cX10_agrees 57 = .ok (.aload_n 0, 1) := by decide +kernel
theorem dX10_agrees_58 : decode cX10_agrees 58 = .ok (.getfield 22, 3) := by decide +kernel
theorem dX10_agrees_61 : decode cX10_agrees 61 = .ok (.iload_n 1, 1) := by decide +kernel
theorem dX10_agrees_62 : decode cX10_agrees 62 = .ok (.iaload, 1) := by decide +kernel
theorem dX10_agrees_63 : decode cX10_agrees 63 = .ok (.aload_n 0, 1) := by decide +kernel
theorem dX10_agrees_64 : decode cX10_agrees 64 = .ok (.getfield 25, 3) := by decide +kernel
theorem dX10_agrees_67 : decode cX10_agrees 67 = .ok (.iload_n 1, 1) := by decide +kernel
theorem dX10_agrees_68 : decode cX10_agrees 68 = .ok (.iaload, 1) := by decide +kernel
theorem dX10_agrees_69 : decode cX10_agrees 69 = .ok (.aload_n 0, 1) := by decide +kernel
theorem dX10_agrees_70 : decode cX10_agrees 70 = .ok (.getfield 52, 3) := by decide +kernel
theorem dX10_agrees_73 : decode cX10_agrees 73 = .ok (.iload_n 2, 1) := by decide +kernel
theorem dX10_agrees_74 : decode cX10_agrees 74 = .ok (.iaload, 1) := by decide +kernel
theorem dX10_agrees_75 : decode cX10_agrees 75 = .ok (.aload_n 0, 1) := by decide +kernel
theorem dX10_agrees_76 : decode cX10_agrees 76 = .ok (.getfield 55, 3) := by decide +kernel
theorem dX10_agrees_79 : decode cX10_agrees 79 = .ok (.iload_n 2, 1) := by decide +kernel
theorem dX10_agrees_80 : decode cX10_agrees 80 = .ok (.iaload, 1) := by decide +kernel
theorem dX10_agrees_81 : decode cX10_agrees 81 = .ok (.invokestatic 231, 3) := by decide +kernel
theorem dX10_agrees_84 : decode cX10_agrees 84 = .ok (.iconst 3, 1) := by decide +kernel
theorem dX10_agrees_85 : decode cX10_agrees 85 = .ok (.if_icmp .gt 21, 3) := by decide +kernel
theorem dX10_agrees_88 : decode cX10_agrees 88 = .ok (.iload_n 3, 1) := by decide +kernel
theorem dX10_agrees_89 : decode cX10_agrees 89 = .ok (.ifCond .eq 13, 3) := by decide +kernel
theorem dX10_agrees_92 : decode cX10_agrees 92 = .ok (.iload_n 3, 1) := by decide +kernel
theorem dX10_agrees_93 : decode cX10_agrees 93 = .ok (.aload_n 0, 1) := by decide +kernel
theorem dX10_agrees_94 : decode cX10_agrees 94 = .ok (.getfield 34, 3) := by decide +kernel
theorem dX10_agrees_97 : decode cX10_agrees 97 = .ok (.iload_n 1, 1) := by decide +kernel
theorem dX10_agrees_98 : decode cX10_agrees 98 = .ok (.iaload, 1) := by decide +kernel
theorem dX10_agrees_99 : decode cX10_agrees 99 = .ok (.if_icmp .ne 7, 3) := by decide +kernel
theorem dX10_agrees_102 : decode cX10_agrees 102 = .ok (.iconst 1, 1) := by decide +kernel
theorem dX10_agrees_103 : decode cX10_agrees 103 = .ok (.goto 4, 3) := by decide +kernel
theorem dX10_agrees_106 : decode cX10_agrees 106 = .ok (.iconst 0, 1) := by decide +kernel
theorem dX10_agrees_107 : decode cX10_agrees 107 = .ok (.ireturn, 1) := by decide +kernel
set_option maxRecDepth 20000 in
theorem ggX10_origin_X10_isSwarm : GoodIn wsX10_origin wsX10_isSwarm := goodIn_r _ [8, 9, 26, 27, 28, 29, 30, 31, 32, 33, 34, 35, 36, 37, 38, 39, 40, 41, 42, 43, 44, 45, 46, 47, 48, 49, 50, 51, 52, 53, 54, 55, 56, 57, 58, 59, 60, 61, 62, 63, 64, 65, 66, 67, 68, 69, 70, 71, 72, 73, 74, 75, 76, 77, 78, 79, 80, 81, 82, 83, 84, 85, 86, 87, 88, 89, 90, 91, 92, 93, 94] (by decide +kernel) (by decide +kernel)
set_option maxRecDepth 20000 in
theorem gX10_origin_X10_isSwarm : GoodIn wsX10_origin (wsV RX10 339 RX10 yX10_isSwarm wsX10_isSwarm) := goodIn_app (goodIn_of _ (by decide +kernel)) ggX10_origin_X10_isSwarm
set_option maxRecDepth 20000 in
theorem ggX10_origin_X10_agrees : GoodIn wsX10_origin wsX10_agrees := goodIn_r _ [13, 14, 15, 16, 17, 18, 19, 20, 21, 22, 23, 24, 7, 25, 26, 27, 28, 29, 30, 31, 32, 33, 34, 35, 36, 37, 38, 39, 40, 41, 42, 43, 44, 45, 46, 47, 48, 49, 50, 51, 52, 53, 54, 55, 56, 57, 58, 59, 60, 61, 62, 63, 64, 65, 66, 67, 68, 69, 70, 71, 72, 73, 74, 75, 76, 77, 78, 79, 80, 81, 82, 83, 84, 85, 86, 87, 88, 89, 90, 91, 92, 93, 94] (by decide +kernel) (by decide +kernel)
set_option maxRecDepth 20000 in
theorem gX10_origin_X10_agrees : GoodIn wsX10_origin (wsV RX10 342 RX10 yX10_agrees wsX10_agrees) := goodIn_app (goodIn_of _ (by decide +kernel)) ggX10_origin_X10_agrees
theorem dX10_origin_0 : decode cX10_origin 0 = .ok (.aload_n 0, 1) := by decide +kernel
theorem dX10_origin_1 : decode cX10_origin 1 = .ok (.aload_n 0, 1) := by decide +kernel
theorem dX10_origin_2 : decode cX10_origin 2 = .ok (.iload_n 1, 1) := by decide +kernel
theorem dX10_origin_3 : decode cX10_origin 3 = .ok (.invokevirtual 339, 3) := by decide +kernel
theorem dX10_origin_6 : decode cX10_origin 6 = .ok (.ifCond .ne 7, 3) := by decide +kernel
theorem dX10_origin_9 : decode cX10_origin 9 = .ok (.iconst 1, 1) := by decide +kernel
theorem dX10_origin_10 : decode cX10_origin 10 = .ok (.goto 18, 3) := by decide +kernel
theorem dX10_origin_13 : decode cX10_origin 13 = .ok (.aload_n 0, 1) := by decide +kernel
theorem dX10_origin_14 : decode cX10_origin 14 = .ok (.getfield 43, 3) := by decide +kernel
theorem dX10_origin_17 : decode cX10_origin 17 = .ok (.iload_n 1, 1) := by decide +kernel
theorem dX10_origin_18 : decode cX10_origin 18 = .ok (.iaload, 1) := by decide +kernel
theorem dX10_origin_19 : decode cX10_origin 19 = .ok (.iconst 1, 1) := by decide +kernel
theorem dX10_origin_20 : decode cX10_origin 20 = .ok (.if_icmp .eq 7, 3) := by decide +kernel
theorem dX10_origin_23 : decode cX10_origin 23 = .ok (.iconst 2, 1) := by decide +kernel
theorem dX10_origin_24 : decode cX10_origin 24 = .ok (.goto 4, 3) := by decide +kernel
theorem dX10_origin_27 : decode cX10_origin 27 = .ok (.iconst 0, 1) := by decide +kernel
theorem dX10_origin_28 : decode cX10_origin 28 = .ok (.putfield 180, 3) := by decide +kernel
theorem dX10_origin_31 : decode cX10_origin 31 = .ok (.aload_n 0, 1) := by decide +kernel
theorem dX10_origin_32 : decode cX10_origin 32 = .ok (.getfield 180, 3) := by decide +kernel
theorem dX10_origin_35 : decode cX10_origin 35 = .ok (.ifCond .le 5, 3) := by decide +kernel
theorem dX10_origin_38 : decode cX10_origin 38 = .ok (.iconst 0, 1) := by decide +kernel
theorem dX10_origin_39 : decode cX10_origin 39 = .ok (.ireturn, 1) := by decide +kernel
theorem dX10_origin_40 : decode cX10_origin 40 = .ok (.iconst (-1), 1) := by decide +kernel
theorem dX10_origin_41 : decode cX10_origin 41 = .ok (.istore_n 2, 1) := by decide +kernel
theorem dX10_origin_42 : decode cX10_origin 42 = .ok (.iconst 0, 1) := by decide +kernel
theorem dX10_origin_43 : decode cX10_origin 43 = .ok (.istore_n 3, 1) := by decide +kernel
theorem dX10_origin_44 : decode cX10_origin 44 = .ok (.iconst 0, 1) := by decide +kernel
theorem dX10_origin_45 : decode cX10_origin 45 = .ok (.istore 4, 2) := by decide +kernel
theorem dX10_origin_47 : decode cX10_origin 47 = .ok (.iload 4, 2) := by decide +kernel
theorem dX10_origin_49 : decode cX10_origin 49 = .ok (.aload_n 0, 1) := by decide +kernel
theorem dX10_origin_50 : decode cX10_origin 50 = .ok (.getfield 183, 3) := by decide +kernel
theorem dX10_origin_53 : decode cX10_origin 53 = .ok (.if_icmp .ge 28, 3) := by decide +kernel
theorem dX10_origin_56 : decode cX10_origin 56 = .ok (.aload_n 0, 1) := by decide +kernel
theorem dX10_origin_57 : decode cX10_origin 57 = .ok (.iload 4, 2) := by decide +kernel
theorem dX10_origin_59 : decode cX10_origin 59 = .ok (.iload_n 1, 1) := by decide +kernel
theorem dX10_origin_60 : decode cX10_origin 60 = .ok (.invokevirtual 342, 3) := by decide +kernel
theorem dX10_origin_63 : decode cX10_origin 63 = .ok (.ifCond .ne 6, 3) := by decide +kernel
theorem dX10_origin_66 : decode cX10_origin 66 = .ok (.goto 9, 3) := by decide +kernel
theorem dX10_origin_69 : decode cX10_origin 69 = .ok (.iload 4, 2) := by decide +kernel
theorem dX10_origin_71 : decode cX10_origin 71 = .ok (.istore_n 2, 1) := by decide +kernel
theorem dX10_origin_72 : decode cX10_origin 72 = .ok (.iinc 3 1, 3) := by decide +kernel
theorem dX10_origin_75 : decode cX10_origin 75 = .ok (.iinc 4 1, 3) := by decide +kernel
theorem dX10_origin_78 : decode cX10_origin 78 = .ok (.goto (-31), 3) := by decide +kernel
theorem dX10_origin_81 : decode cX10_origin 81 = .ok (.iload_n 3, 1) := by decide +kernel
theorem dX10_origin_82 : decode cX10_origin 82 = .ok (.iconst 1, 1) := by decide +kernel
theorem dX10_origin_83 : decode cX10_origin 83 = .ok (.if_icmp .ne 7, 3) := by decide +kernel
theorem dX10_origin_86 : decode cX10_origin 86 = .ok (.iload_n 2, 1) := by decide +kernel
theorem dX10_origin_87 : decode cX10_origin 87 = .ok (.goto 4, 3) := by decide +kernel
theorem dX10_origin_90 : decode cX10_origin 90 = .ok (.iconst (-1), 1) := by decide +kernel
theorem dX10_origin_91 : decode cX10_origin 91 = .ok (.ireturn, 1) := by decide +kernel
set_option maxRecDepth 20000 in
theorem ggX10_look_X10_isHive : GoodIn wsX10_look wsX10_isHive := goodIn_r _ [11, 12, 16, 17, 18, 19, 20, 21, 22, 23, 24, 25, 26, 27, 28, 29, 30, 31, 32, 33, 34, 35, 36, 37, 38, 39, 40, 41, 42, 43, 44, 45, 46, 47, 48, 49, 50, 51, 52, 53, 54, 55, 56, 57, 58, 59, 60, 61, 62, 63, 64, 65, 66, 67, 68, 69, 70, 71, 72, 73, 74, 75, 76, 77, 78, 79, 80, 81, 82, 83, 84] (by decide +kernel) (by decide +kernel)
set_option maxRecDepth 20000 in
theorem gX10_look_X10_isHive : GoodIn wsX10_look (wsV RX10 345 RX10 yX10_isHive wsX10_isHive) := goodIn_app (goodIn_of _ (by decide +kernel)) ggX10_look_X10_isHive
set_option maxRecDepth 20000 in
theorem ggX10_look_X10_isIn : GoodIn wsX10_look wsX10_isIn := goodIn_r _ [15] (by decide +kernel) (by decide +kernel)
set_option maxRecDepth 20000 in
theorem gX10_look_X10_isIn : GoodIn wsX10_look (va_wsS RX10 202 yX10_isIn wsX10_isIn) := goodIn_app (goodIn_of _ (by decide +kernel)) ggX10_look_X10_isIn
theorem dX10_look_0 : decode cX10_look 0 = .ok (.aload_n 0, 1) := by decide +kernel
theorem dX10_look_1 : decode cX10_look 1 = .ok (.aload_n 0, 1) := by decide +kernel
theorem dX10_look_2 : decode cX10_look 2 = .ok (.iload_n 1, 1) := by decide +kernel
theorem dX10_look_3 : decode cX10_look 3 = .ok (.invokevirtual 345, 3) := by decide +kernel
theorem dX10_look_6 : decode cX10_look 6 = .ok (.ifCond .ne 7, 3) := by decide +kernel
theorem dX10_look_9 : decode cX10_look 9 = .ok (.iconst 1, 1) := by decide +kernel
theorem dX10_look_10 : decode cX10_look 10 = .ok (.goto 17, 3) := by decide +kernel
theorem dX10_look_13 : decode cX10_look 13 = .ok (.iload_n 2, 1) := by decide +kernel
theorem dX10_look_14 : decode cX10_look 14 = .ok (.iconst 0, 1) := by decide +kernel
theorem dX10_look_15 : decode cX10_look 15 = .ok (.iconst 4, 1) := by decide +kernel
theorem dX10_look_16 : decode cX10_look 16 = .ok (.invokestatic 202, 3) := by decide +kernel
theorem dX10_look_19 : decode cX10_look 19 = .ok (.ifCond .ne 7, 3) := by decide +kernel
theorem dX10_look_22 : decode cX10_look 22 = .ok (.iconst 2, 1) := by decide +kernel
theorem dX10_look_23 : decode cX10_look 23 = .ok (.goto 4, 3) := by decide +kernel
theorem dX10_look_26 : decode cX10_look 26 = .ok (.iconst 0, 1) := by decide +kernel
theorem dX10_look_27 : decode cX10_look 27 = .ok (.putfield 180, 3) := by decide +kernel
theorem dX10_look_30 : decode cX10_look 30 = .ok (.aload_n 0, 1) := by decide +kernel
theorem dX10_look_31 : decode cX10_look 31 = .ok (.getfield 180, 3) := by decide +kernel
theorem dX10_look_34 : decode cX10_look 34 = .ok (.ifCond .le 5, 3) := by decide +kernel
theorem dX10_look_37 : decode cX10_look 37 = .ok (.iconst 0, 1) := by decide +kernel
theorem dX10_look_38 : decode cX10_look 38 = .ok (.ireturn, 1) := by decide +kernel
theorem dX10_look_39 : decode cX10_look 39 = .ok (.iload_n 2, 1) := by decide +kernel
theorem dX10_look_40 : decode cX10_look 40 = .ok (.ifCond .ne 12, 3) := by decide +kernel
theorem dX10_look_43 : decode cX10_look 43 = .ok (.aload_n 0, 1) := by decide +kernel
theorem dX10_look_44 : decode cX10_look 44 = .ok (.getfield 28, 3) := by decide +kernel
theorem dX10_look_47 : decode cX10_look 47 = .ok (.iload_n 1, 1) := by decide +kernel
theorem dX10_look_48 : decode cX10_look 48 = .ok (.iaload, 1) := by decide +kernel
theorem dX10_look_49 : decode cX10_look 49 = .ok (.goto 51, 3) := by decide +kernel
theorem dX10_look_52 : decode cX10_look 52 = .ok (.iload_n 2, 1) := by decide +kernel
theorem dX10_look_53 : decode cX10_look 53 = .ok (.iconst 1, 1) := by decide +kernel
theorem dX10_look_54 : decode cX10_look 54 = .ok (.if_icmp .ne 12, 3) := by decide +kernel
theorem dX10_look_57 : decode cX10_look 57 = .ok (.aload_n 0, 1) := by decide +kernel
theorem dX10_look_58 : decode cX10_look 58 = .ok (.getfield 31, 3) := by decide +kernel
theorem dX10_look_61 : decode cX10_look 61 = .ok (.iload_n 1, 1) := by decide +kernel
theorem dX10_look_62 : decode cX10_look 62 = .ok (.iaload, 1) := by decide +kernel
theorem dX10_look_63 : decode cX10_look 63 = .ok (.goto 37, 3) := by decide +kernel
theorem dX10_look_66 : decode cX10_look 66 = .ok (.iload_n 2, 1) := by decide +kernel
theorem dX10_look_67 : decode cX10_look 67 = .ok (.iconst 2, 1) := by decide +kernel
theorem dX10_look_68 : decode cX10_look 68 = .ok (.if_icmp .ne 12, 3) := by decide +kernel
theorem dX10_look_71 : decode cX10_look 71 = .ok (.aload_n 0, 1) := by decide +kernel
theorem dX10_look_72 : decode cX10_look 72 = .ok (.getfield 34, 3) := by decide +kernel
theorem dX10_look_75 : decode cX10_look 75 = .ok (.iload_n 1, 1) := by decide +kernel
theorem dX10_look_76 : decode cX10_look 76 = .ok (.iaload, 1) := by decide +kernel
theorem dX10_look_77 : decode cX10_look 77 = .ok (.goto 23, 3) := by decide +kernel
theorem dX10_look_80 : decode cX10_look 80 = .ok (.iload_n 2, 1) := by decide +kernel
theorem dX10_look_81 : decode cX10_look 81 = .ok (.iconst 3, 1) := by decide +kernel
theorem dX10_look_82 : decode cX10_look 82 = .ok (.if_icmp .ne 12, 3) := by decide +kernel
theorem dX10_look_85 : decode cX10_look 85 = .ok (.aload_n 0, 1) := by decide +kernel
theorem dX10_look_86 : decode cX10_look 86 = .ok (.getfield 37, 3) := by decide +kernel
theorem dX10_look_89 : decode cX10_look 89 = .ok (.iload_n 1, 1) := by decide +kernel
theorem dX10_look_90 : decode cX10_look 90 = .ok (.iaload, 1) := by decide +kernel
theorem dX10_look_91 : decode cX10_look 91 = .ok (.goto 9, 3) := by decide +kernel
theorem dX10_look_94 : decode cX10_look 94 = .ok (.aload_n 0, 1) := by decide +kernel
theorem dX10_look_95 : decode cX10_look 95 = .ok (.getfield 40, 3) := by decide +kernel
theorem dX10_look_98 : decode cX10_look 98 = .ok (.iload_n 1, 1) := by decide +kernel
theorem dX10_look_99 : decode cX10_look 99 = .ok (.iaload, 1) := by decide +kernel
theorem dX10_look_100 : decode cX10_look 100 = .ok (.ireturn, 1) := by decide +kernel
set_option maxRecDepth 20000 in
theorem ggX10_swarm_X10_isSwarm : GoodIn wsX10_swarm wsX10_isSwarm := goodIn_r _ [16, 17, 21, 22, 23, 24, 25, 26, 27, 28, 29, 30, 31, 32, 33, 34, 35, 36, 37, 38, 39, 40, 41, 42, 43, 44, 45, 46, 47, 48, 49, 50, 51, 52, 53, 54, 55, 56, 57, 58, 59, 60, 61, 62, 63, 64, 65, 66, 67, 68, 69, 70, 71, 72, 73, 74, 75, 76, 77, 78, 79, 80, 81, 82, 83, 84, 85, 86, 87, 88, 89] (by decide +kernel) (by decide +kernel)
set_option maxRecDepth 20000 in
theorem gX10_swarm_X10_isSwarm : GoodIn wsX10_swarm (wsV RX10 339 RX10 yX10_isSwarm wsX10_isSwarm) := goodIn_app (goodIn_of _ (by decide +kernel)) ggX10_swarm_X10_isSwarm
set_option maxRecDepth 20000 in
theorem ggX10_swarm_X10_isIn : GoodIn wsX10_swarm wsX10_isIn := goodIn_r _ [20] (by decide +kernel) (by decide +kernel)
set_option maxRecDepth 20000 in
theorem gX10_swarm_X10_isIn : GoodIn wsX10_swarm (va_wsS RX10 202 yX10_isIn wsX10_isIn) := goodIn_app (goodIn_of _ (by decide +kernel)) ggX10_swarm_X10_isIn
theorem dX10_swarm_0 : decode cX10_swarm 0 = .ok (.aload_n 0, 1) := by decide +kernel
theorem dX10_swarm_1 : decode cX10_swarm 1 = .ok (.aload_n 0, 1) := by decide +kernel
theorem dX10_swarm_2 : decode cX10_swarm 2 = .ok (.iload_n 1, 1) := by decide +kernel
theorem dX10_swarm_3 : decode cX10_swarm 3 = .ok (.invokevirtual 339, 3) := by decide +kernel
theorem dX10_swarm_6 : decode cX10_swarm 6 = .ok (.ifCond .ne 7, 3) := by decide +kernel
theorem dX10_swarm_9 : decode cX10_swarm 9 = .ok (.iconst 1, 1) := by decide +kernel
theorem dX10_swarm_10 : decode cX10_swarm 10 = .ok (.goto 18, 3) := by decide +kernel
theorem dX10_swarm_13 : decode cX10_swarm 13 = .ok (.iload_n 2, 1) := by decide +kernel
theorem dX10_swarm_14 : decode cX10_swarm 14 = .ok (.iconst 0, 1) := by decide +kernel
theorem dX10_swarm_15 : decode cX10_swarm 15 = .ok (.bipush 9, 2) := by decide +kernel
theorem dX10_swarm_17 : decode cX10_swarm 17 = .ok (.invokestatic 202, 3) := by decide +kernel
theorem dX10_swarm_20 : decode cX10_swarm 20 = .ok (.ifCond .ne 7, 3) := by decide +kernel
theorem dX10_swarm_23 : decode cX10_swarm 23 = .ok (.iconst 2, 1) := by decide +kernel
theorem dX10_swarm_24 : decode cX10_swarm 24 = .ok (.goto 4, 3) := by decide +kernel
theorem dX10_swarm_27 : decode cX10_swarm 27 = .ok (.iconst 0, 1) := by decide +kernel
theorem dX10_swarm_28 : decode cX10_swarm 28 = .ok (.putfield 180, 3) := by decide +kernel
theorem dX10_swarm_31 : decode cX10_swarm 31 = .ok (.aload_n 0, 1) := by decide +kernel
theorem dX10_swarm_32 : decode cX10_swarm 32 = .ok (.getfield 180, 3) := by decide +kernel
theorem dX10_swarm_35 : decode cX10_swarm 35 = .ok (.ifCond .le 5, 3) := by decide +kernel
theorem dX10_swarm_38 : decode cX10_swarm 38 = .ok (.iconst 0, 1) := by decide +kernel
theorem dX10_swarm_39 : decode cX10_swarm 39 = .ok (.ireturn, 1) := by decide +kernel
theorem dX10_swarm_40 : decode cX10_swarm 40 = .ok (.iload_n 2, 1) := by decide +kernel
theorem dX10_swarm_41 : decode cX10_swarm 41 = .ok (.tableswitch 114 0 8 #[51, 58, 65, 72, 79, 86, 93, 100, 107], 51) := by decide +kernel
theorem dX10_swarm_92 : decode cX10_swarm 92 = .ok (.aload_n 0, 1) := by decide +kernel
theorem dX10_swarm_93 : decode cX10_swarm 93 = .ok (.getfield 43, 3) := by decide +kernel
theorem dX10_swarm_96 : decode cX10_swarm 96 = .ok (.iload_n 1, 1) := by decide +kernel
theorem dX10_swarm_97 : decode cX10_swarm 97 = .ok (.iaload, 1) := by decide +kernel
theorem dX10_swarm_98 : decode cX10_swarm 98 = .ok (.ireturn, 1) := by decide +kernel
theorem dX10_swarm_99 : decode cX10_swarm 99 = .ok (.aload_n 0, 1) := by decide +kernel
theorem dX10_swarm_100 : decode cX10_swarm 100 = .ok (.getfield 46, 3) := by decide +kernel
theorem dX10_swarm_103 : decode cX10_swarm 103 = .ok (.iload_n 1, 1) := by decide +kernel
theorem dX10_swarm_104 : decode cX10_swarm 104 = .ok (.iaload, 1) := by decide +kernel
theorem dX10_swarm_105 : decode cX10_swarm 105 = .ok (.ireturn, 1) := by decide +kernel
theorem dX10_swarm_106 : decode cX10_swarm 106 = .ok (.aload_n 0, 1) := by decide +kernel
theorem dX10_swarm_107 : decode cX10_swarm 107 = .ok (.getfield 49, 3) := by decide +kernel
theorem dX10_swarm_110 : decode cX10_swarm 110 = .ok (.iload_n 1, 1) := by decide +kernel
theorem dX10_swarm_111 : decode cX10_swarm 111 = .ok (.iaload, 1) := by decide +kernel
theorem dX10_swarm_112 : decode cX10_swarm 112 = .ok (.ireturn, 1) := by decide +kernel
theorem dX10_swarm_113 : decode cX10_swarm 113 = .ok (.aload_n 0, 1) := by decide +kernel
theorem dX10_swarm_114 : decode cX10_swarm 114 = .ok (.getfield 52, 3) := by decide +kernel
theorem dX10_swarm_117 : decode cX10_swarm 117 = .ok (.iload_n 1, 1) := by decide +kernel
theorem dX10_swarm_118 : decode cX10_swarm 118 = .ok (.iaload, 1) := by decide +kernel
theorem dX10_swarm_119 : decode cX10_swarm 119 = .ok (.ireturn, 1) := by decide +kernel
theorem dX10_swarm_120 : decode cX10_swarm 120 = .ok (.aload_n 0, 1) := by decide +kernel
theorem dX10_swarm_121 : decode cX10_swarm 121 = .ok (.getfield 55, 3) := by decide +kernel
theorem dX10_swarm_124 : decode cX10_swarm 124 = .ok (.iload_n 1, 1) := by decide +kernel
theorem dX10_swarm_125 : decode cX10_swarm 125 = .ok (.iaload, 1) := by decide +kernel
theorem dX10_swarm_126 : decode cX10_swarm 126 = .ok (.ireturn, 1) := by decide +kernel
theorem dX10_swarm_127 : decode cX10_swarm 127 = .ok (.aload_n 0, 1) := by decide +kernel
theorem dX10_swarm_128 : decode cX10_swarm 128 = .ok (.getfield 58, 3) := by decide +kernel
theorem dX10_swarm_131 : decode cX10_swarm 131 = .ok (.iload_n 1, 1) := by decide +kernel
theorem dX10_swarm_132 : decode cX10_swarm 132 = .ok (.iaload, 1) := by decide +kernel
theorem dX10_swarm_133 : decode cX10_swarm 133 = .ok (.ireturn, 1) := by decide +kernel
theorem dX10_swarm_134 : decode cX10_swarm 134 = .ok (.aload_n 0, 1) := by decide +kernel
theorem dX10_swarm_135 : decode cX10_swarm 135 = .ok (.getfield 61, 3) := by decide +kernel
theorem dX10_swarm_138 : decode cX10_swarm 138 = .ok (.iload_n 1, 1) := by decide +kernel
theorem dX10_swarm_139 : decode cX10_swarm 139 = .ok (.iaload, 1) := by decide +kernel
theorem dX10_swarm_140 : decode cX10_swarm 140 = .ok (.ireturn, 1) := by decide +kernel
theorem dX10_swarm_141 : decode cX10_swarm 141 = .ok (.aload_n 0, 1) := by decide +kernel
theorem dX10_swarm_142 : decode cX10_swarm 142 = .ok (.getfield 64, 3) := by decide +kernel
theorem dX10_swarm_145 : decode cX10_swarm 145 = .ok (.iload_n 1, 1) := by decide +kernel
theorem dX10_swarm_146 : decode cX10_swarm 146 = .ok (.iaload, 1) := by decide +kernel
theorem dX10_swarm_147 : decode cX10_swarm 147 = .ok (.ireturn, 1) := by decide +kernel
theorem dX10_swarm_148 : decode cX10_swarm 148 = .ok (.aload_n 0, 1) := by decide +kernel
theorem dX10_swarm_149 : decode cX10_swarm 149 = .ok (.getfield 67, 3) := by decide +kernel
theorem dX10_swarm_152 : decode cX10_swarm 152 = .ok (.iload_n 1, 1) := by decide +kernel
theorem dX10_swarm_153 : decode cX10_swarm 153 = .ok (.iaload, 1) := by decide +kernel
theorem dX10_swarm_154 : decode cX10_swarm 154 = .ok (.ireturn, 1) := by decide +kernel
theorem dX10_swarm_155 : decode cX10_swarm 155 = .ok (.aload_n 0, 1) := by decide +kernel
theorem dX10_swarm_156 : decode cX10_swarm 156 = .ok (.getfield 70, 3) := by decide +kernel
theorem dX10_swarm_159 : decode cX10_swarm 159 = .ok (.iload_n 1, 1) := by decide +kernel
theorem dX10_swarm_160 : decode cX10_swarm 160 = .ok (.iaload, 1) := by decide +kernel
theorem dX10_swarm_161 : decode cX10_swarm 161 = .ok (.ireturn, 1) := by decide +kernel
set_option maxRecDepth 20000 in
theorem ggX10_crew_X10_isKeeper : GoodIn wsX10_crew wsX10_isKeeper := goodIn_r _ [11, 12, 16, 17, 18, 19, 20, 21, 22, 23, 24, 25, 26, 27, 28, 29, 30, 31, 32, 33, 34, 35, 36, 37, 38, 39, 40, 41, 42, 43, 44, 45, 46, 47, 48, 49, 50, 51, 52, 53, 54, 55, 56, 57, 58, 59, 60, 61, 62, 63, 64, 65, 66, 67, 68, 69, 70, 71, 72, 73, 74, 75, 76, 77, 78, 79, 80, 81, 82, 83, 84] (by decide +kernel) (by decide +kernel)
set_option maxRecDepth 20000 in
theorem gX10_crew_X10_isKeeper : GoodIn wsX10_crew (wsV RX10 210 RX10 yX10_isKeeper wsX10_isKeeper) := goodIn_app (goodIn_of _ (by decide +kernel)) ggX10_crew_X10_isKeeper
set_option maxRecDepth 20000 in
theorem ggX10_crew_X10_isIn : GoodIn wsX10_crew wsX10_isIn := goodIn_r _ [15] (by decide +kernel) (by decide +kernel)
set_option maxRecDepth 20000 in
theorem gX10_crew_X10_isIn : GoodIn wsX10_crew (va_wsS RX10 202 yX10_isIn wsX10_isIn) := goodIn_app (goodIn_of _ (by decide +kernel)) ggX10_crew_X10_isIn
theorem dX10_crew_0 : decode cX10_crew 0 = .ok (.aload_n 0, 1) := by decide +kernel
theorem dX10_crew_1 : decode cX10_crew 1 = .ok (.aload_n 0, 1) := by decide +kernel
theorem dX10_crew_2 : decode cX10_crew 2 = .ok (.iload_n 1, 1) := by decide +kernel
theorem dX10_crew_3 : decode cX10_crew 3 = .ok (.invokevirtual 210, 3) := by decide +kernel
theorem dX10_crew_6 : decode cX10_crew 6 = .ok (.ifCond .ne 7, 3) := by decide +kernel
theorem dX10_crew_9 : decode cX10_crew 9 = .ok (.iconst 1, 1) := by decide +kernel
theorem dX10_crew_10 : decode cX10_crew 10 = .ok (.goto 17, 3) := by decide +kernel
theorem dX10_crew_13 : decode cX10_crew 13 = .ok (.iload_n 2, 1) := by decide +kernel
theorem dX10_crew_14 : decode cX10_crew 14 = .ok (.iconst 0, 1) := by decide +kernel
theorem dX10_crew_15 : decode cX10_crew 15 = .ok (.iconst 4, 1) := by decide +kernel
theorem dX10_crew_16 : decode cX10_crew 16 = .ok (.invokestatic 202, 3) := by decide +kernel
theorem dX10_crew_19 : decode cX10_crew 19 = .ok (.ifCond .ne 7, 3) := by decide +kernel
theorem dX10_crew_22 : decode cX10_crew 22 = .ok (.iconst 2, 1) := by decide +kernel
theorem dX10_crew_23 : decode cX10_crew 23 = .ok (.goto 4, 3) := by decide +kernel
theorem dX10_crew_26 : decode cX10_crew 26 = .ok (.iconst 0, 1) := by decide +kernel
theorem dX10_crew_27 : decode cX10_crew 27 = .ok (.putfield 180, 3) := by decide +kernel
theorem dX10_crew_30 : decode cX10_crew 30 = .ok (.aload_n 0, 1) := by decide +kernel
theorem dX10_crew_31 : decode cX10_crew 31 = .ok (.getfield 180, 3) := by decide +kernel
theorem dX10_crew_34 : decode cX10_crew 34 = .ok (.ifCond .le 5, 3) := by decide +kernel
theorem dX10_crew_37 : decode cX10_crew 37 = .ok (.iconst 0, 1) := by decide +kernel
theorem dX10_crew_38 : decode cX10_crew 38 = .ok (.ireturn, 1) := by decide +kernel
theorem dX10_crew_39 : decode cX10_crew 39 = .ok (.iload_n 2, 1) := by decide +kernel
theorem dX10_crew_40 : decode cX10_crew 40 = .ok (.ifCond .ne 12, 3) := by decide +kernel
theorem dX10_crew_43 : decode cX10_crew 43 = .ok (.aload_n 0, 1) := by decide +kernel
theorem dX10_crew_44 : decode cX10_crew 44 = .ok (.getfield 97, 3) := by decide +kernel
theorem dX10_crew_47 : decode cX10_crew 47 = .ok (.iload_n 1, 1) := by decide +kernel
theorem dX10_crew_48 : decode cX10_crew 48 = .ok (.iaload, 1) := by decide +kernel
theorem dX10_crew_49 : decode cX10_crew 49 = .ok (.goto 51, 3) := by decide +kernel
theorem dX10_crew_52 : decode cX10_crew 52 = .ok (.iload_n 2, 1) := by decide +kernel
theorem dX10_crew_53 : decode cX10_crew 53 = .ok (.iconst 1, 1) := by decide +kernel
theorem dX10_crew_54 : decode cX10_crew 54 = .ok (.if_icmp .ne 12, 3) := by decide +kernel
theorem dX10_crew_57 : decode cX10_crew 57 = .ok (.aload_n 0, 1) := by decide +kernel
theorem dX10_crew_58 : decode cX10_crew 58 = .ok (.getfield 82, 3) := by decide +kernel
theorem dX10_crew_61 : decode cX10_crew 61 = .ok (.iload_n 1, 1) := by decide +kernel
theorem dX10_crew_62 : decode cX10_crew 62 = .ok (.iaload, 1) := by decide +kernel
theorem dX10_crew_63 : decode cX10_crew 63 = .ok (.goto 37, 3) := by decide +kernel
theorem dX10_crew_66 : decode cX10_crew 66 = .ok (.iload_n 2, 1) := by decide +kernel
theorem dX10_crew_67 : decode cX10_crew 67 = .ok (.iconst 2, 1) := by decide +kernel
theorem dX10_crew_68 : decode cX10_crew 68 = .ok (.if_icmp .ne 12, 3) := by decide +kernel
theorem dX10_crew_71 : decode cX10_crew 71 = .ok (.aload_n 0, 1) := by decide +kernel
theorem dX10_crew_72 : decode cX10_crew 72 = .ok (.getfield 100, 3) := by decide +kernel
theorem dX10_crew_75 : decode cX10_crew 75 = .ok (.iload_n 1, 1) := by decide +kernel
theorem dX10_crew_76 : decode cX10_crew 76 = .ok (.iaload, 1) := by decide +kernel
theorem dX10_crew_77 : decode cX10_crew 77 = .ok (.goto 23, 3) := by decide +kernel
theorem dX10_crew_80 : decode cX10_crew 80 = .ok (.iload_n 2, 1) := by decide +kernel
theorem dX10_crew_81 : decode cX10_crew 81 = .ok (.iconst 3, 1) := by decide +kernel
theorem dX10_crew_82 : decode cX10_crew 82 = .ok (.if_icmp .ne 12, 3) := by decide +kernel
theorem dX10_crew_85 : decode cX10_crew 85 = .ok (.aload_n 0, 1) := by decide +kernel
theorem dX10_crew_86 : decode cX10_crew 86 = .ok (.getfield 106, 3) := by decide +kernel
theorem dX10_crew_89 : decode cX10_crew 89 = .ok (.iload_n 1, 1) := by decide +kernel
theorem dX10_crew_90 : decode cX10_crew 90 = .ok (.iaload, 1) := by decide +kernel
theorem dX10_crew_91 : decode cX10_crew 91 = .ok (.goto 9, 3) := by decide +kernel
theorem dX10_crew_94 : decode cX10_crew 94 = .ok (.aload_n 0, 1) := by decide +kernel
theorem dX10_crew_95 : decode cX10_crew 95 = .ok (.getfield 109, 3) := by decide +kernel
theorem dX10_crew_98 : decode cX10_crew 98 = .ok (.iload_n 1, 1) := by decide +kernel
theorem dX10_crew_99 : decode cX10_crew 99 = .ok (.iaload, 1) := by decide +kernel
theorem dX10_crew_100 : decode cX10_crew 100 = .ok (.ireturn, 1) := by decide +kernel
set_option maxRecDepth 20000 in
theorem ggX10_matter_X10_isCase : GoodIn wsX10_matter wsX10_isCase := goodIn_r _ [16, 17, 21, 22, 23, 24, 25, 26, 27, 28, 29, 30, 31, 32, 33, 34, 35, 36, 37, 38, 39, 40, 41, 42, 43, 44, 45, 46, 47, 48, 49, 50, 51, 52, 53, 54, 55, 56, 57, 58, 59, 60, 61, 62, 63, 64, 65, 66, 67, 68, 69, 70, 71, 72, 73, 74, 75, 76, 77, 78, 79, 80, 81, 82, 83, 84, 85, 86, 87, 88, 89] (by decide +kernel) (by decide +kernel)
set_option maxRecDepth 20000 in
theorem gX10_matter_X10_isCase : GoodIn wsX10_matter (wsV RX10 315 RX10 yX10_isCase wsX10_isCase) := goodIn_app (goodIn_of _ (by decide +kernel)) ggX10_matter_X10_isCase
set_option maxRecDepth 20000 in
theorem ggX10_matter_X10_isIn : GoodIn wsX10_matter wsX10_isIn := goodIn_r _ [20] (by decide +kernel) (by decide +kernel)
set_option maxRecDepth 20000 in
theorem gX10_matter_X10_isIn : GoodIn wsX10_matter (va_wsS RX10 202 yX10_isIn wsX10_isIn) := goodIn_app (goodIn_of _ (by decide +kernel)) ggX10_matter_X10_isIn
theorem dX10_matter_0 : decode cX10_matter 0 = .ok (.aload_n 0, 1) := by decide +kernel
theorem dX10_matter_1 : decode cX10_matter 1 = .ok (.aload_n 0, 1) := by decide +kernel
theorem dX10_matter_2 : decode cX10_matter 2 = .ok (.iload_n 1, 1) := by decide +kernel
theorem dX10_matter_3 : decode cX10_matter 3 = .ok (.invokevirtual 315, 3) := by decide +kernel
theorem dX10_matter_6 : decode cX10_matter 6 = .ok (.ifCond .ne 7, 3) := by decide +kernel
theorem dX10_matter_9 : decode cX10_matter 9 = .ok (.iconst 1, 1) := by decide +kernel
theorem dX10_matter_10 : decode cX10_matter 10 = .ok (.goto 18, 3) := by decide +kernel
theorem dX10_matter_13 : decode cX10_matter 13 = .ok (.iload_n 2, 1) := by decide +kernel
theorem dX10_matter_14 : decode cX10_matter 14 = .ok (.iconst 0, 1) := by decide +kernel
theorem dX10_matter_15 : decode cX10_matter 15 = .ok (.bipush 9, 2) := by decide +kernel
theorem dX10_matter_17 : decode cX10_matter 17 = .ok (.invokestatic 202, 3) := by decide +kernel
theorem dX10_matter_20 : decode cX10_matter 20 = .ok (.ifCond .ne 7, 3) := by decide +kernel
theorem dX10_matter_23 : decode cX10_matter 23 = .ok (.iconst 2, 1) := by decide +kernel
theorem dX10_matter_24 : decode cX10_matter 24 = .ok (.goto 4, 3) := by decide +kernel
theorem dX10_matter_27 : decode cX10_matter 27 = .ok (.iconst 0, 1) := by decide +kernel
theorem dX10_matter_28 : decode cX10_matter 28 = .ok (.putfield 180, 3) := by decide +kernel
theorem dX10_matter_31 : decode cX10_matter 31 = .ok (.aload_n 0, 1) := by decide +kernel
theorem dX10_matter_32 : decode cX10_matter 32 = .ok (.getfield 180, 3) := by decide +kernel
theorem dX10_matter_35 : decode cX10_matter 35 = .ok (.ifCond .le 5, 3) := by decide +kernel
theorem dX10_matter_38 : decode cX10_matter 38 = .ok (.iconst 0, 1) := by decide +kernel
theorem dX10_matter_39 : decode cX10_matter 39 = .ok (.ireturn, 1) := by decide +kernel
theorem dX10_matter_40 : decode cX10_matter 40 = .ok (.iload_n 2, 1) := by decide +kernel
theorem dX10_matter_41 : decode cX10_matter 41 = .ok (.tableswitch 114 0 8 #[51, 58, 65, 72, 79, 86, 93, 100, 107], 51) := by decide +kernel
theorem dX10_matter_92 : decode cX10_matter 92 = .ok (.aload_n 0, 1) := by decide +kernel
theorem dX10_matter_93 : decode cX10_matter 93 = .ok (.getfield 112, 3) := by decide +kernel
theorem dX10_matter_96 : decode cX10_matter 96 = .ok (.iload_n 1, 1) := by decide +kernel
theorem dX10_matter_97 : decode cX10_matter 97 = .ok (.iaload, 1) := by decide +kernel
theorem dX10_matter_98 : decode cX10_matter 98 = .ok (.ireturn, 1) := by decide +kernel
theorem dX10_matter_99 : decode cX10_matter 99 = .ok (.aload_n 0, 1) := by decide +kernel
theorem dX10_matter_100 : decode cX10_matter 100 = .ok (.getfield 115, 3) := by decide +kernel
theorem dX10_matter_103 : decode cX10_matter 103 = .ok (.iload_n 1, 1) := by decide +kernel
theorem dX10_matter_104 : decode cX10_matter 104 = .ok (.iaload, 1) := by decide +kernel
theorem dX10_matter_105 : decode cX10_matter 105 = .ok (.ireturn, 1) := by decide +kernel
theorem dX10_matter_106 : decode cX10_matter 106 = .ok (.aload_n 0, 1) := by decide +kernel
theorem dX10_matter_107 : decode cX10_matter 107 = .ok (.getfield 118, 3) := by decide +kernel
theorem dX10_matter_110 : decode cX10_matter 110 = .ok (.iload_n 1, 1) := by decide +kernel
theorem dX10_matter_111 : decode cX10_matter 111 = .ok (.iaload, 1) := by decide +kernel
theorem dX10_matter_112 : decode cX10_matter 112 = .ok (.ireturn, 1) := by decide +kernel
theorem dX10_matter_113 : decode cX10_matter 113 = .ok (.aload_n 0, 1) := by decide +kernel
theorem dX10_matter_114 : decode cX10_matter 114 = .ok (.getfield 125, 3) := by decide +kernel
theorem dX10_matter_117 : decode cX10_matter 117 = .ok (.iload_n 1, 1) := by decide +kernel
theorem dX10_matter_118 : decode cX10_matter 118 = .ok (.iaload, 1) := by decide +kernel
theorem dX10_matter_119 : decode cX10_matter 119 = .ok (.ireturn, 1) := by decide +kernel
theorem dX10_matter_120 : decode cX10_matter 120 = .ok (.aload_n 0, 1) := by decide +kernel
theorem dX10_matter_121 : decode cX10_matter 121 = .ok (.getfield 128, 3) := by decide +kernel
theorem dX10_matter_124 : decode cX10_matter 124 = .ok (.iload_n 1, 1) := by decide +kernel
theorem dX10_matter_125 : decode cX10_matter 125 = .ok (.iaload, 1) := by decide +kernel
theorem dX10_matter_126 : decode cX10_matter 126 = .ok (.ireturn, 1) := by decide +kernel
theorem dX10_matter_127 : decode cX10_matter 127 = .ok (.aload_n 0, 1) := by decide +kernel
theorem dX10_matter_128 : decode cX10_matter 128 = .ok (.getfield 131, 3) := by decide +kernel
theorem dX10_matter_131 : decode cX10_matter 131 = .ok (.iload_n 1, 1) := by decide +kernel
theorem dX10_matter_132 : decode cX10_matter 132 = .ok (.iaload, 1) := by decide +kernel
theorem dX10_matter_133 : decode cX10_matter 133 = .ok (.ireturn, 1) := by decide +kernel
theorem dX10_matter_134 : decode cX10_matter 134 = .ok (.aload_n 0, 1) := by decide +kernel
theorem dX10_matter_135 : decode cX10_matter 135 = .ok (.getfield 134, 3) := by decide +kernel
theorem dX10_matter_138 : decode cX10_matter 138 = .ok (.iload_n 1, 1) := by decide +kernel
theorem dX10_matter_139 : decode cX10_matter 139 = .ok (.iaload, 1) := by decide +kernel
theorem dX10_matter_140 : decode cX10_matter 140 = .ok (.ireturn, 1) := by decide +kernel
theorem dX10_matter_141 : decode cX10_matter 141 = .ok (.aload_n 0, 1) := by decide +kernel
theorem dX10_matter_142 : decode cX10_matter 142 = .ok (.getfield 137, 3) := by decide +kernel
theorem dX10_matter_145 : decode cX10_matter 145 = .ok (.iload_n 1, 1) := by decide +kernel
theorem dX10_matter_146 : decode cX10_matter 146 = .ok (.iaload, 1) := by decide +kernel
theorem dX10_matter_147 : decode cX10_matter 147 = .ok (.ireturn, 1) := by decide +kernel
theorem dX10_matter_148 : decode cX10_matter 148 = .ok (.aload_n 0, 1) := by decide +kernel
theorem dX10_matter_149 : decode cX10_matter 149 = .ok (.getfield 140, 3) := by decide +kernel
theorem dX10_matter_152 : decode cX10_matter 152 = .ok (.iload_n 1, 1) := by decide +kernel
theorem dX10_matter_153 : decode cX10_matter 153 = .ok (.iaload, 1) := by decide +kernel
theorem dX10_matter_154 : decode cX10_matter 154 = .ok (.ireturn, 1) := by decide +kernel
theorem dX10_matter_155 : decode cX10_matter 155 = .ok (.aload_n 0, 1) := by decide +kernel
theorem dX10_matter_156 : decode cX10_matter 156 = .ok (.getfield 143, 3) := by decide +kernel
theorem dX10_matter_159 : decode cX10_matter 159 = .ok (.iload_n 1, 1) := by decide +kernel
theorem dX10_matter_160 : decode cX10_matter 160 = .ok (.iaload, 1) := by decide +kernel
theorem dX10_matter_161 : decode cX10_matter 161 = .ok (.ireturn, 1) := by decide +kernel
theorem dX10_inState_0 : decode cX10_inState 0 = .ok (.iconst 0, 1) := by decide +kernel
theorem dX10_inState_1 : decode cX10_inState 1 = .ok (.istore_n 2, 1) := by decide +kernel
theorem dX10_inState_2 : decode cX10_inState 2 = .ok (.iconst 0, 1) := by decide +kernel
theorem dX10_inState_3 : decode cX10_inState 3 = .ok (.istore_n 3, 1) := by decide +kernel
theorem dX10_inState_4 : decode cX10_inState 4 = .ok (.iload_n 3, 1) := by decide +kernel
theorem dX10_inState_5 : decode cX10_inState 5 = .ok (.aload_n 0, 1) := by decide +kernel
theorem dX10_inState_6 : decode cX10_inState 6 = .ok (.getfield 186, 3) := by decide +kernel
theorem dX10_inState_9 : decode cX10_inState 9 = .ok (.if_icmp .ge 27, 3) := by decide +kernel
theorem dX10_inState_12 : decode cX10_inState 12 = .ok (.iload_n 2, 1) := by decide +kernel
theorem dX10_inState_13 : decode cX10_inState 13 = .ok (.aload_n 0, 1) := by decide +kernel
theorem dX10_inState_14 : decode cX10_inState 14 = .ok (.getfield 43, 3) := by decide +kernel
theorem dX10_inState_17 : decode cX10_inState 17 = .ok (.iload_n 3, 1) := by decide +kernel
theorem dX10_inState_18 : decode cX10_inState 18 = .ok (.iaload, 1) := by decide +kernel
theorem dX10_inState_19 : decode cX10_inState 19 = .ok (.iload_n 1, 1) := by decide +kernel
theorem dX10_inState_20 : decode cX10_inState 20 = .ok (.if_icmp .ne 7, 3) := by decide +kernel
theorem dX10_inState_23 : decode cX10_inState 23 = .ok (.iconst 1, 1) := by decide +kernel
theorem dX10_inState_24 : decode cX10_inState 24 = .ok (.goto 4, 3) := by decide +kernel
theorem dX10_inState_27 : decode cX10_inState 27 = .ok (.iconst 0, 1) := by decide +kernel
theorem dX10_inState_28 : decode cX10_inState 28 = .ok (.iadd, 1) := by decide +kernel
theorem dX10_inState_29 : decode cX10_inState 29 = .ok (.istore_n 2, 1) := by decide +kernel
theorem dX10_inState_30 : decode cX10_inState 30 = .ok (.iinc 3 1, 3) := by decide +kernel
theorem dX10_inState_33 : decode cX10_inState 33 = .ok (.goto (-29), 3) := by decide +kernel
theorem dX10_inState_36 : decode cX10_inState 36 = .ok (.iload_n 2, 1) := by decide +kernel
theorem dX10_inState_37 : decode cX10_inState 37 = .ok (.ireturn, 1) := by decide +kernel
set_option maxRecDepth 20000 in
theorem ggX10_count_X10_inState : GoodIn wsX10_count wsX10_inState := goodIn_r _ [17, 6, 7, 18, 19, 20, 21, 22, 23, 24, 25, 26, 27, 28, 29, 30, 31, 32, 33, 34, 35, 36, 37, 38, 39, 40, 41, 42, 43, 44, 45, 46, 47, 48, 49, 50, 51, 52, 53, 54, 55, 56, 57, 58, 59, 60, 61, 62, 63, 64, 65, 66, 67, 68, 69, 70, 71, 72, 73, 74, 75, 76, 77, 78, 79, 80, 81, 82, 83, 84, 85, 86] (by decide +kernel) (by decide +kernel)
set_option maxRecDepth 20000 in
theorem gX10_count_X10_inState : GoodIn wsX10_count (wsV RX10 348 RX10 yX10_inState wsX10_inState) := goodIn_app (goodIn_of _ (by decide +kernel)) ggX10_count_X10_inState
theorem dX10_count_0 : decode cX10_count 0 = .ok (.aload_n 0, 1) := by decide +kernel
theorem dX10_count_1 : decode cX10_count 1 = .ok (.iconst 0, 1) := by decide +kernel
theorem dX10_count_2 : decode cX10_count 2 = .ok (.putfield 180, 3) := by decide +kernel
theorem dX10_count_5 : decode cX10_count 5 = .ok (.iconst 0, 1) := by decide +kernel
theorem dX10_count_6 : decode cX10_count 6 = .ok (.istore_n 2, 1) := by decide +kernel
theorem dX10_count_7 : decode cX10_count 7 = .ok (.iconst 0, 1) := by decide +kernel
theorem dX10_count_8 : decode cX10_count 8 = .ok (.istore_n 3, 1) := by decide +kernel
theorem dX10_count_9 : decode cX10_count 9 = .ok (.iconst 0, 1) := by decide +kernel
theorem dX10_count_10 : decode cX10_count 10 = .ok (.istore 4, 2) := by decide +kernel
theorem dX10_count_12 : decode cX10_count 12 = .ok (.iload 4, 2) := by decide +kernel
theorem dX10_count_14 : decode cX10_count 14 = .ok (.aload_n 0, 1) := by decide +kernel
theorem dX10_count_15 : decode cX10_count 15 = .ok (.getfield 192, 3) := by decide +kernel
theorem dX10_count_18 : decode cX10_count 18 = .ok (.if_icmp .ge 27, 3) := by decide +kernel
theorem dX10_count_21 : decode cX10_count 21 = .ok (.iload_n 2, 1) := by decide +kernel
theorem dX10_count_22 : decode cX10_count 22 = .ok (.aload_n 0, 1) := by decide +kernel
theorem dX10_count_23 : decode cX10_count 23 = .ok (.getfield 112, 3) := by decide +kernel
theorem dX10_count_26 : decode cX10_count 26 = .ok (.iload 4, 2) := by decide +kernel
theorem dX10_count_28 : decode cX10_count 28 = .ok (.iaload, 1) := by decide +kernel
theorem dX10_count_29 : decode cX10_count 29 = .ok (.ifCond .ne 7, 3) := by decide +kernel
theorem dX10_count_32 : decode cX10_count 32 = .ok (.iconst 1, 1) := by decide +kernel
theorem dX10_count_33 : decode cX10_count 33 = .ok (.goto 4, 3) := by decide +kernel
theorem dX10_count_36 : decode cX10_count 36 = .ok (.iconst 0, 1) := by decide +kernel
theorem dX10_count_37 : decode cX10_count 37 = .ok (.iadd, 1) := by decide +kernel
theorem dX10_count_38 : decode cX10_count 38 = .ok (.istore_n 2, 1) := by decide +kernel
theorem dX10_count_39 : decode cX10_count 39 = .ok (.iinc 4 1, 3) := by decide +kernel
theorem dX10_count_42 : decode cX10_count 42 = .ok (.goto (-30), 3) := by decide +kernel
theorem dX10_count_45 : decode cX10_count 45 = .ok (.iconst 0, 1) := by decide +kernel
theorem dX10_count_46 : decode cX10_count 46 = .ok (.istore 4, 2) := by decide +kernel
theorem dX10_count_48 : decode cX10_count 48 = .ok (.iload 4, 2) := by decide +kernel
theorem dX10_count_50 : decode cX10_count 50 = .ok (.aload_n 0, 1) := by decide +kernel
theorem dX10_count_51 : decode cX10_count 51 = .ok (.getfield 183, 3) := by decide +kernel
theorem dX10_count_54 : decode cX10_count 54 = .ok (.if_icmp .ge 19, 3) := by decide +kernel
theorem dX10_count_57 : decode cX10_count 57 = .ok (.iload_n 3, 1) := by decide +kernel
theorem dX10_count_58 : decode cX10_count 58 = .ok (.aload_n 0, 1) := by decide +kernel
theorem dX10_count_59 : decode cX10_count 59 = .ok (.getfield 28, 3) := by decide +kernel
theorem dX10_count_62 : decode cX10_count 62 = .ok (.iload 4, 2) := by decide +kernel
theorem dX10_count_64 : decode cX10_count 64 = .ok (.iaload, 1) := by decide +kernel
theorem dX10_count_65 : decode cX10_count 65 = .ok (.iadd, 1) := by decide +kernel
theorem dX10_count_66 : decode cX10_count 66 = .ok (.istore_n 3, 1) := by decide +kernel
theorem dX10_count_67 : decode cX10_count 67 = .ok (.iinc 4 1, 3) := by decide +kernel
theorem dX10_count_70 : decode cX10_count 70 = .ok (.goto (-22), 3) := by decide +kernel
theorem dX10_count_73 : decode cX10_count 73 = .ok (.iconst 0, 1) := by decide +kernel
theorem dX10_count_74 : decode cX10_count 74 = .ok (.istore 4, 2) := by decide +kernel
theorem dX10_count_76 : decode cX10_count 76 = .ok (.iload 4, 2) := by decide +kernel
theorem dX10_count_78 : decode cX10_count 78 = .ok (.aload_n 0, 1) := by decide +kernel
theorem dX10_count_79 : decode cX10_count 79 = .ok (.getfield 186, 3) := by decide +kernel
theorem dX10_count_82 : decode cX10_count 82 = .ok (.if_icmp .ge 34, 3) := by decide +kernel
theorem dX10_count_85 : decode cX10_count 85 = .ok (.iload_n 3, 1) := by decide +kernel
theorem dX10_count_86 : decode cX10_count 86 = .ok (.aload_n 0, 1) := by decide +kernel
theorem dX10_count_87 : decode cX10_count 87 = .ok (.getfield 43, 3) := by decide +kernel
theorem dX10_count_90 : decode cX10_count 90 = .ok (.iload 4, 2) := by decide +kernel
theorem dX10_count_92 : decode cX10_count 92 = .ok (.iaload, 1) := by decide +kernel
theorem dX10_count_93 : decode cX10_count 93 = .ok (.iconst 2, 1) := by decide +kernel
theorem dX10_count_94 : decode cX10_count 94 = .ok (.if_icmp .ge 13, 3) := by decide +kernel
theorem dX10_count_97 : decode cX10_count 97 = .ok (.aload_n 0, 1) := by decide +kernel
theorem dX10_count_98 : decode cX10_count 98 = .ok (.getfield 49, 3) := by decide +kernel
theorem dX10_count_101 : decode cX10_count 101 = .ok (.iload 4, 2) := by decide +kernel
theorem dX10_count_103 : decode cX10_count 103 = .ok (.iaload, 1) := by decide +kernel
theorem dX10_count_104 : decode cX10_count 104 = .ok (.goto 4, 3) := by decide +kernel
theorem dX10_count_107 : decode cX10_count 107 = .ok (.iconst 0, 1) := by decide +kernel
theorem dX10_count_108 : decode cX10_count 108 = .ok (.iadd, 1) := by decide +kernel
theorem dX10_count_109 : decode cX10_count 109 = .ok (.istore_n 3, 1) := by decide +kernel
theorem dX10_count_110 : decode cX10_count 110 = .ok (.iinc 4 1, 3) := by decide +kernel
theorem dX10_count_113 : decode cX10_count 113 = .ok (.goto (-37), 3) := by decide +kernel
theorem dX10_count_116 : decode cX10_count 116 = .ok (.iload_n 1, 1) := by decide +kernel
theorem dX10_count_117 : decode cX10_count 117 = .ok (.tableswitch 120 0 11 #[63, 68, 73, 78, 83, 88, 93, 98, 104, 110, 116, 118], 63) := by decide +kernel
theorem dX10_count_180 : decode cX10_count 180 = .ok (.aload_n 0, 1) := by decide +kernel
theorem dX10_count_181 : decode cX10_count 181 = .ok (.getfield 206, 3) := by decide +kernel
theorem dX10_count_184 : decode cX10_count 184 = .ok (.ireturn, 1) := by decide +kernel
theorem dX10_count_185 : decode cX10_count 185 = .ok (.aload_n 0, 1) := by decide +kernel
theorem dX10_count_186 : decode cX10_count 186 = .ok (.getfield 183, 3) := by decide +kernel
theorem dX10_count_189 : decode cX10_count 189 = .ok (.ireturn, 1) := by decide +kernel
theorem dX10_count_190 : decode cX10_count 190 = .ok (.aload_n 0, 1) := by decide +kernel
theorem dX10_count_191 : decode cX10_count 191 = .ok (.getfield 186, 3) := by decide +kernel
theorem dX10_count_194 : decode cX10_count 194 = .ok (.ireturn, 1) := by decide +kernel
theorem dX10_count_195 : decode cX10_count 195 = .ok (.aload_n 0, 1) := by decide +kernel
theorem dX10_count_196 : decode cX10_count 196 = .ok (.getfield 189, 3) := by decide +kernel
theorem dX10_count_199 : decode cX10_count 199 = .ok (.ireturn, 1) := by decide +kernel
theorem dX10_count_200 : decode cX10_count 200 = .ok (.aload_n 0, 1) := by decide +kernel
theorem dX10_count_201 : decode cX10_count 201 = .ok (.getfield 192, 3) := by decide +kernel
theorem dX10_count_204 : decode cX10_count 204 = .ok (.ireturn, 1) := by decide +kernel
theorem dX10_count_205 : decode cX10_count 205 = .ok (.aload_n 0, 1) := by decide +kernel
theorem dX10_count_206 : decode cX10_count 206 = .ok (.getfield 293, 3) := by decide +kernel
theorem dX10_count_209 : decode cX10_count 209 = .ok (.ireturn, 1) := by decide +kernel
theorem dX10_count_210 : decode cX10_count 210 = .ok (.aload_n 0, 1) := by decide +kernel
theorem dX10_count_211 : decode cX10_count 211 = .ok (.getfield 309, 3) := by decide +kernel
theorem dX10_count_214 : decode cX10_count 214 = .ok (.ireturn, 1) := by decide +kernel
theorem dX10_count_215 : decode cX10_count 215 = .ok (.aload_n 0, 1) := by decide +kernel
theorem dX10_count_216 : decode cX10_count 216 = .ok (.iconst 0, 1) := by decide +kernel
theorem dX10_count_217 : decode cX10_count 217 = .ok (.invokevirtual 348, 3) := by decide +kernel
theorem dX10_count_220 : decode cX10_count 220 = .ok (.ireturn, 1) := by decide +kernel
theorem dX10_count_221 : decode cX10_count 221 = .ok (.aload_n 0, 1) := by decide +kernel
theorem dX10_count_222 : decode cX10_count 222 = .ok (.iconst 1, 1) := by decide +kernel
theorem dX10_count_223 : decode cX10_count 223 = .ok (.invokevirtual 348, 3) := by decide +kernel
theorem dX10_count_226 : decode cX10_count 226 = .ok (.ireturn, 1) := by decide +kernel
theorem dX10_count_227 : decode cX10_count 227 = .ok (.aload_n 0, 1) := by decide +kernel
theorem dX10_count_228 : decode cX10_count 228 = .ok (.iconst 2, 1) := by decide +kernel
theorem dX10_count_229 : decode cX10_count 229 = .ok (.invokevirtual 348, 3) := by decide +kernel
theorem dX10_count_232 : decode cX10_count 232 = .ok (.ireturn, 1) := by decide +kernel
theorem dX10_count_233 : decode cX10_count 233 = .ok (.iload_n 2, 1) := by decide +kernel
theorem dX10_count_234 : decode cX10_count 234 = .ok (.ireturn, 1) := by decide +kernel
theorem dX10_count_235 : decode cX10_count 235 = .ok (.iload_n 3, 1) := by decide +kernel
theorem dX10_count_236 : decode cX10_count 236 = .ok (.ireturn, 1) := by decide +kernel
theorem dX10_count_237 : decode cX10_count 237 = .ok (.iconst (-1), 1) := by decide +kernel
theorem dX10_count_238 : decode cX10_count 238 = .ok (.ireturn, 1) := by decide +kernel
