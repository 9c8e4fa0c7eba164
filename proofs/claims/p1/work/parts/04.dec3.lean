theorem dX4_readQuery_6 : decode cX4_readQuery 6 = .ok (.iload_n 1, 1) := by decide +kernel
theorem dX4_readQuery_7 : decode cX4_readQuery 7 = .ok (.sipush 600, 3) := by decide +kernel
theorem dX4_readQuery_10 : decode cX4_readQuery 10 = .ok (.if_icmp .ge 37, 3) := by decide +kernel
theorem dX4_readQuery_13 : decode cX4_readQuery 13 = .ok (.aload_n 0, 1) := by decide +kernel
theorem dX4_readQuery_14 : decode cX4_readQuery 14 = .ok (.getfield 11, 3) := by decide +kernel
theorem dX4_readQuery_17 : decode cX4_readQuery 17 = .ok (.sipush 258, 3) := by decide +kernel
theorem dX4_readQuery_20 : decode cX4_readQuery 20 = .ok (.if_icmp .ne 27, 3) := by decide +kernel
theorem dX4_readQuery_47 : decode cX4_readQuery 47 = .ok (.return_, 1) := by decide +kernel
theorem dX4_readAll_0 : decode cX4_readAll 0 = .ok (.aload_n 0, 1) := by decide +kernel
theorem dX4_readAll_1 : decode cX4_readAll 1 = .ok (.invokevirtual 112, 3) := by decide +kernel
theorem dX4_readAll_4 : decode cX4_readAll 4 = .ok (.ifCond .eq 13, 3) := by decide +kernel
theorem dX4_readAll_17 : decode cX4_readAll 17 = .ok (.iconst 0, 1) := by decide +kernel
theorem dX4_readAll_18 : decode cX4_readAll 18 = .ok (.istore_n 1, 1) := by decide +kernel
theorem dX4_readAll_19 : decode cX4_readAll 19 = .ok (.iload_n 1, 1) := by decide +kernel
theorem dX4_readAll_20 : decode cX4_readAll 20 = .ok (.sipush 600, 3) := by decide +kernel
theorem dX4_readAll_23 : decode cX4_readAll 23 = .ok (.if_icmp .ge 52, 3) := by decide +kernel
theorem dX4_readAll_26 : decode cX4_readAll 26 = .ok (.aload_n 0, 1) := by decide +kernel
theorem dX4_readAll_27 : decode cX4_readAll 27 = .ok (.invokevirtual 119, 3) := by decide +kernel
theorem dX4_readAll_30 : decode cX4_readAll 30 = .ok (.ifCond .eq 45, 3) := by decide +kernel
theorem dX4_readAll_75 : decode cX4_readAll 75 = .ok (.return_, 1) := by decide +kernel
theorem dX4_readNots_0 : decode cX4_readNots 0 = .ok (.iconst 0, 1) := by decide +kernel
theorem dX4_readNots_1 : decode cX4_readNots 1 = .ok (.istore_n 1, 1) := by decide +kernel
theorem dX4_readNots_2 : decode cX4_readNots 2 = .ok (.iconst 0, 1) := by decide +kernel
theorem dX4_readNots_3 : decode cX4_readNots 3 = .ok (.istore_n 2, 1) := by decide +kernel
theorem dX4_readNots_4 : decode cX4_readNots 4 = .ok (.iload_n 2, 1) := by decide +kernel
theorem dX4_readNots_5 : decode cX4_readNots 5 = .ok (.bipush 40, 2) := by decide +kernel
theorem dX4_readNots_7 : decode cX4_readNots 7 = .ok (.if_icmp .gt 48, 3) := by decide +kernel
theorem dX4_readNots_10 : decode cX4_readNots 10 = .ok (.aload_n 0, 1) := by decide +kernel
theorem dX4_readNots_11 : decode cX4_readNots 11 = .ok (.getfield 11, 3) := by decide +kernel
theorem dX4_readNots_14 : decode cX4_readNots 14 = .ok (.sipush 260, 3) := by decide +kernel
theorem dX4_readNots_17 : decode cX4_readNots 17 = .ok (.if_icmp .ne 38, 3) := by decide +kernel
theorem dX4_readNots_55 : decode cX4_readNots 55 = .ok (.aload_n 0, 1) := by decide +kernel
theorem dX4_readNots_56 : decode cX4_readNots 56 = .ok (.dup, 1) := by decide +kernel
theorem dX4_readNots_57 : decode cX4_readNots 57 = .ok (.getfield 31, 3) := by decide +kernel
theorem dX4_readNots_60 : decode cX4_readNots 60 = .ok (.iload_n 1, 1) := by decide +kernel
theorem dX4_readNots_61 : decode cX4_readNots 61 = .ok (.ifCond .eq 7, 3) := by decide +kernel
theorem dX4_readNots_68 : decode cX4_readNots 68 = .ok (.iconst 0, 1) := by decide +kernel
theorem dX4_readNots_69 : decode cX4_readNots 69 = .ok (.iadd, 1) := by decide +kernel
theorem dX4_readNots_70 : decode cX4_readNots 70 = .ok (.putfield 31, 3) := by decide +kernel
theorem dX4_readNots_73 : decode cX4_readNots 73 = .ok (.aload_n 0, 1) := by decide +kernel
theorem dX4_readNots_74 : decode cX4_readNots 74 = .ok (.invokevirtual 122, 3) := by decide +kernel
theorem dX4_readNots_77 : decode cX4_readNots 77 = .ok (.aload_n 0, 1) := by decide +kernel
theorem dX4_readNots_78 : decode cX4_readNots 78 = .ok (.dup, 1) := by decide +kernel
theorem dX4_readNots_79 : decode cX4_readNots 79 = .ok (.getfield 31, 3) := by decide +kernel
theorem dX4_readNots_82 : decode cX4_readNots 82 = .ok (.iload_n 1, 1) := by decide +kernel
theorem dX4_readNots_83 : decode cX4_readNots 83 = .ok (.ifCond .eq 7, 3) := by decide +kernel
theorem dX4_readNots_90 : decode cX4_readNots 90 = .ok (.iconst 0, 1) := by decide +kernel
theorem dX4_readNots_91 : decode cX4_readNots 91 = .ok (.isub, 1) := by decide +kernel
theorem dX4_readNots_92 : decode cX4_readNots 92 = .ok (.putfield 31, 3) := by decide +kernel
theorem dX4_readNots_95 : decode cX4_readNots 95 = .ok (.iload_n 1, 1) := by decide +kernel
theorem dX4_readNots_96 : decode cX4_readNots 96 = .ok (.ireturn, 1) := by decide +kernel
theorem dX4_readNear_0 : decode cX4_readNear 0 = .ok (.aload_n 0, 1) := by decide +kernel
theorem dX4_readNear_1 : decode cX4_readNear 1 = .ok (.invokevirtual 125, 3) := by decide +kernel
theorem dX4_readNear_4 : decode cX4_readNear 4 = .ok (.istore_n 1, 1) := by decide +kernel
theorem dX4_readNear_5 : decode cX4_readNear 5 = .ok (.aload_n 0, 1) := by decide +kernel
theorem dX4_readNear_6 : decode cX4_readNear 6 = .ok (.getfield 11, 3) := by decide +kernel
theorem dX4_readNear_9 : decode cX4_readNear 9 = .ok (.sipush 261, 3) := by decide +kernel
theorem dX4_readNear_12 : decode cX4_readNear 12 = .ok (.if_icmp .eq 4, 3) := by decide +kernel
theorem dX4_readNear_15 : decode cX4_readNear 15 = .ok (.return_, 1) := by decide +kernel
theorem dX4_readUnit_0 : decode cX4_readUnit 0 = .ok (.iconst 3, 1) := by decide +kernel
theorem dX4_readUnit_1 : decode cX4_readUnit 1 = .ok (.istore_n 1, 1) := by decide +kernel
theorem dX4_readUnit_2 : decode cX4_readUnit 2 = .ok (.iconst (-1), 1) := by decide +kernel
theorem dX4_readUnit_3 : decode cX4_readUnit 3 = .ok (.istore_n 2, 1) := by decide +kernel
theorem dX4_readUnit_4 : decode cX4_readUnit 4 = .ok (.iconst 0, 1) := by decide +kernel
theorem dX4_readUnit_5 : decode cX4_readUnit 5 = .ok (.istore_n 3, 1) := by decide +kernel
theorem dX4_readUnit_6 : decode cX4_readUnit 6 = .ok (.iconst 0, 1) := by decide +kernel
theorem dX4_readUnit_7 : decode cX4_readUnit 7 = .ok (.istore 4, 2) := by decide +kernel
theorem dX4_readUnit_9 : decode cX4_readUnit 9 = .ok (.iconst 0, 1) := by decide +kernel
theorem dX4_readUnit_10 : decode cX4_readUnit 10 = .ok (.istore 5, 2) := by decide +kernel
theorem dX4_readUnit_12 : decode cX4_readUnit 12 = .ok (.iload 5, 2) := by decide +kernel
theorem dX4_readUnit_14 : decode cX4_readUnit 14 = .ok (.bipush 12, 2) := by decide +kernel
theorem dX4_readUnit_16 : decode cX4_readUnit 16 = .ok (.if_icmp .gt 95, 3) := by decide +kernel
theorem dX4_readUnit_19 : decode cX4_readUnit 19 = .ok (.aload_n 0, 1) := by decide +kernel
theorem dX4_readUnit_20 : decode cX4_readUnit 20 = .ok (.getfield 11, 3) := by decide +kernel
theorem dX4_readUnit_23 : decode cX4_readUnit 23 = .ok (.sipush 262, 3) := by decide +kernel
theorem dX4_readUnit_26 : decode cX4_readUnit 26 = .ok (.if_icmp .eq 13, 3) := by decide +kernel
theorem dX4_readUnit_29 : decode cX4_readUnit 29 = .ok (.aload_n 0, 1) := by decide +kernel
theorem dX4_readUnit_30 : decode cX4_readUnit 30 = .ok (.getfield 11, 3) := by decide +kernel
theorem dX4_readUnit_33 : decode cX4_readUnit 33 = .ok (.sipush 263, 3) := by decide +kernel
theorem dX4_readUnit_36 : decode cX4_readUnit 36 = .ok (.if_icmp .ne 75, 3) := by decide +kernel
theorem dX4_readUnit_111 : decode cX4_readUnit 111 = .ok (.aload_n 0, 1) := by decide +kernel
theorem dX4_readUnit_112 : decode cX4_readUnit 112 = .ok (.iload_n 1, 1) := by decide +kernel
theorem dX4_readUnit_113 : decode cX4_readUnit 113 = .ok (.invokevirtual 135, 3) := by decide +kernel
theorem dX4_readUnit_116 : decode cX4_readUnit 116 = .ok (.istore 5, 2) := by decide +kernel
theorem dX4_readUnit_118 : decode cX4_readUnit 118 = .ok (.iload 4, 2) := by decide +kernel
theorem dX4_readUnit_120 : decode cX4_readUnit 120 = .ok (.ifCond .le 14, 3) := by decide +kernel
theorem dX4_readUnit_134 : decode cX4_readUnit 134 = .ok (.iconst 0, 1) := by decide +kernel
theorem dX4_readUnit_135 : decode cX4_readUnit 135 = .ok (.istore 6, 2) := by decide +kernel
theorem dX4_readUnit_137 : decode cX4_readUnit 137 = .ok (.iload 6, 2) := by decide +kernel
theorem dX4_readUnit_139 : decode cX4_readUnit 139 = .ok (.iload 4, 2) := by decide +kernel
theorem dX4_readUnit_141 : decode cX4_readUnit 141 = .ok (.if_icmp .ge 33, 3) := by decide +kernel
theorem dX4_readUnit_174 : decode cX4_readUnit 174 = .ok (.iload 5, 2) := by decide +kernel
theorem dX4_readUnit_176 : decode cX4_readUnit 176 = .ok (.ireturn, 1) := by decide +kernel
theorem dX4_readBare_0 : decode cX4_readBare 0 = .ok (.aload_n 0, 1) := by decide +kernel
theorem dX4_readBare_1 : decode cX4_readBare 1 = .ok (.getfield 11, 3) := by decide +kernel
theorem dX4_readBare_4 : decode cX4_readBare 4 = .ok (.lookupswitch 70 #[(34, 56), (40, 44), (91, 50), (257, 63)], 44) := by decide +kernel
theorem dX4_readBare_74 : decode cX4_readBare 74 = .ok (.aload_n 0, 1) := by decide +kernel
theorem dX4_readBare_75 : decode cX4_readBare 75 = .ok (.iconst 1, 1) := by decide +kernel
theorem dX4_readBare_76 : decode cX4_readBare 76 = .ok (.aload_n 0, 1) := by decide +kernel
theorem dX4_readBare_77 : decode cX4_readBare 77 = .ok (.getfield 15, 3) := by decide +kernel
theorem dX4_readBare_80 : decode cX4_readBare 80 = .ok (.invokevirtual 66, 3) := by decide +kernel
theorem dX4_readBare_83 : decode cX4_readBare 83 = .ok (.iconst 0, 1) := by decide +kernel
theorem dX4_readBare_84 : decode cX4_readBare 84 = .ok (.ireturn, 1) := by decide +kernel
theorem dX4_fail_0 : decode cX4_fail 0 = .ok (.aload_n 0, 1) := by decide +kernel
theorem dX4_fail_1 : decode cX4_fail 1 = .ok (.getfield 21, 3) := by decide +kernel
theorem dX4_fail_4 : decode cX4_fail 4 = .ok (.ifCond .ne 16, 3) := by decide +kernel
theorem dX4_fail_7 : decode cX4_fail 7 = .ok (.aload_n 0, 1) := by decide +kernel
theorem dX4_fail_8 : decode cX4_fail 8 = .ok (.sipush 1000, 3) := by decide +kernel
theorem dX4_fail_11 : decode cX4_fail 11 = .ok (.iload_n 1, 1) := by decide +kernel
theorem dX4_fail_12 : decode cX4_fail 12 = .ok (.imul, 1) := by decide +kernel
theorem dX4_fail_13 : decode cX4_fail 13 = .ok (.iload_n 2, 1) := by decide +kernel
theorem dX4_fail_14 : decode cX4_fail 14 = .ok (.iadd, 1) := by decide +kernel
theorem dX4_fail_15 : decode cX4_fail 15 = .ok (.iconst 1, 1) := by decide +kernel
theorem dX4_fail_16 : decode cX4_fail 16 = .ok (.iadd, 1) := by decide +kernel
theorem dX4_fail_17 : decode cX4_fail 17 = .ok (.putfield 21, 3) := by decide +kernel
theorem dX4_fail_20 : decode cX4_fail 20 = .ok (.aload_n 0, 1) := by decide +kernel
theorem dX4_fail_21 : decode cX4_fail 21 = .ok (.sipush 265, 3) := by decide +kernel
theorem dX4_fail_24 : decode cX4_fail 24 = .ok (.putfield 11, 3) := by decide +kernel
theorem dX4_fail_27 : decode cX4_fail 27 = .ok (.return_, 1) := by decide +kernel
theorem dX4_goesOn_0 : decode cX4_goesOn 0 = .ok (.aload_n 0, 1) := by decide +kernel
theorem dX4_goesOn_1 : decode cX4_goesOn 1 = .ok (.getfield 11, 3) := by decide +kernel
theorem dX4_goesOn_4 : decode cX4_goesOn 4 = .ok (.lookupswitch 78 #[(34, 76), (40, 76), (91, 76), (257, 76), (259, 76), (260, 76), (262, 76), (263, 76)], 76) := by decide +kernel
theorem dX4_goesOn_82 : decode cX4_goesOn 82 = .ok (.iconst 0, 1) := by decide +kernel
theorem dX4_goesOn_83 : decode cX4_goesOn 83 = .ok (.ireturn, 1) := by decide +kernel
theorem dX1_find_0 : decode cX1_find 0 = .ok (.aload_n 0, 1) := by decide +kernel
theorem dX1_find_1 : decode cX1_find 1 = .ok (.iconst 0, 1) := by decide +kernel
theorem dX1_find_2 : decode cX1_find 2 = .ok (.putfield 54, 3) := by decide +kernel
theorem dX1_find_5 : decode cX1_find 5 = .ok (.aload_n 0, 1) := by decide +kernel
theorem dX1_find_6 : decode cX1_find 6 = .ok (.invokevirtual 79, 3) := by decide +kernel
theorem dX1_find_9 : decode cX1_find 9 = .ok (.iconst 0, 1) := by decide +kernel
theorem dX1_find_10 : decode cX1_find 10 = .ok (.istore_n 1, 1) := by decide +kernel
theorem dX1_find_11 : decode cX1_find 11 = .ok (.aload_n 0, 1) := by decide +kernel
theorem dX1_find_12 : decode cX1_find 12 = .ok (.getfield 66, 3) := by decide +kernel
theorem dX1_find_15 : decode cX1_find 15 = .ok (.invokevirtual 82, 3) := by decide +kernel
theorem dX1_find_18 : decode cX1_find 18 = .ok (.ifCond .le 56, 3) := by decide +kernel
theorem dX1_find_74 : decode cX1_find 74 = .ok (.iconst 0, 1) := by decide +kernel
theorem dX1_find_75 : decode cX1_find 75 = .ok (.istore_n 1, 1) := by decide +kernel
theorem dX1_find_76 : decode cX1_find 76 = .ok (.iload_n 1, 1) := by decide +kernel
theorem dX1_find_77 : decode cX1_find 77 = .ok (.aload_n 0, 1) := by decide +kernel
theorem dX1_find_78 : decode cX1_find 78 = .ok (.getfield 54, 3) := by decide +kernel
theorem dX1_find_81 : decode cX1_find 81 = .ok (.if_icmp .ge 30, 3) := by decide +kernel
theorem dX1_find_111 : decode cX1_find 111 = .ok (.return_, 1) := by decide +kernel
theorem dX1_prepare_0 : decode cX1_prepare 0 = .ok (.aload_n 0, 1) := by decide +kernel
theorem dX1_prepare_1 : decode cX1_prepare 1 = .ok (.getfield 75, 3) := by decide +kernel
theorem dX1_prepare_4 : decode cX1_prepare 4 = .ok (.invokevirtual 118, 3) := by decide +kernel
theorem dX1_prepare_7 : decode cX1_prepare 7 = .ok (.aload_n 0, 1) := by decide +kernel
theorem dX1_prepare_8 : decode cX1_prepare 8 = .ok (.getfield 51, 3) := by decide +kernel
theorem dX1_prepare_11 : decode cX1_prepare 11 = .ok (.arraylength, 1) := by decide +kernel
theorem dX1_prepare_12 : decode cX1_prepare 12 = .ok (.aload_n 0, 1) := by decide +kernel
theorem dX1_prepare_13 : decode cX1_prepare 13 = .ok (.getfield 66, 3) := by decide +kernel
theorem dX1_prepare_16 : decode cX1_prepare 16 = .ok (.invokevirtual 121, 3) := by decide +kernel
theorem dX1_prepare_19 : decode cX1_prepare 19 = .ok (.bipush 120, 2) := by decide +kernel
theorem dX1_prepare_21 : decode cX1_prepare 21 = .ok (.imul, 1) := by decide +kernel
theorem dX1_prepare_22 : decode cX1_prepare 22 = .ok (.if_icmp .ge 28, 3) := by decide +kernel
theorem dX1_prepare_50 : decode cX1_prepare 50 = .ok (.iconst 0, 1) := by decide +kernel
theorem dX1_prepare_51 : decode cX1_prepare 51 = .ok (.istore_n 1, 1) := by decide +kernel
theorem dX1_prepare_52 : decode cX1_prepare 52 = .ok (.iload_n 1, 1) := by decide +kernel
theorem dX1_prepare_53 : decode cX1_prepare 53 = .ok (.aload_n 0, 1) := by decide +kernel
theorem dX1_prepare_54 : decode cX1_prepare 54 = .ok (.getfield 66, 3) := by decide +kernel
theorem dX1_prepare_57 : decode cX1_prepare 57 = .ok (.invokevirtual 121, 3) := by decide +kernel
theorem dX1_prepare_60 : decode cX1_prepare 60 = .ok (.if_icmp .ge 38, 3) := by decide +kernel
theorem dX1_prepare_98 : decode cX1_prepare 98 = .ok (.return_, 1) := by decide +kernel
theorem dX3_open_0 : decode cX3_open 0 = .ok (.iconst 0, 1) := by decide +kernel
theorem dX3_open_1 : decode cX3_open 1 = .ok (.istore_n 1, 1) := by decide +kernel
theorem dX3_open_2 : decode cX3_open 2 = .ok (.iload_n 1, 1) := by decide +kernel
theorem dX3_open_3 : decode cX3_open 3 = .ok (.aload_n 0, 1) := by decide +kernel
theorem dX3_open_4 : decode cX3_open 4 = .ok (.getfield 31, 3) := by decide +kernel
theorem dX3_open_7 : decode cX3_open 7 = .ok (.if_icmp .ge 21, 3) := by decide +kernel
theorem dX3_open_28 : decode cX3_open 28 = .ok (.aload_n 0, 1) := by decide +kernel
theorem dX3_open_29 : decode cX3_open 29 = .ok (.iconst 0, 1) := by decide +kernel
theorem dX3_open_30 : decode cX3_open 30 = .ok (.putfield 31, 3) := by decide +kernel
theorem dX3_open_33 : decode cX3_open 33 = .ok (.iconst 0, 1) := by decide +kernel
theorem dX3_open_34 : decode cX3_open 34 = .ok (.istore_n 1, 1) := by decide +kernel
theorem dX3_open_35 : decode cX3_open 35 = .ok (.iload_n 1, 1) := by decide +kernel
theorem dX3_open_36 : decode cX3_open 36 = .ok (.aload_n 0, 1) := by decide +kernel
theorem dX3_open_37 : decode cX3_open 37 = .ok (.getfield 46, 3) := by decide +kernel
theorem dX3_open_40 : decode cX3_open 40 = .ok (.invokevirtual 56, 3) := by decide +kernel
theorem dX3_open_43 : decode cX3_open 43 = .ok (.if_icmp .ge 71, 3) := by decide +kernel
theorem dX3_open_114 : decode cX3_open 114 = .ok (.return_, 1) := by decide +kernel
theorem dX7_leaves_0 : decode cX7_leaves 0 = .ok (.aload_n 0, 1) := by decide +kernel
theorem dX7_leaves_1 : decode cX7_leaves 1 = .ok (.getfield 34, 3) := by decide +kernel
theorem dX7_leaves_4 : decode cX7_leaves 4 = .ok (.ireturn, 1) := by decide +kernel
theorem dX7_length_0 : decode cX7_length 0 = .ok (.aload_n 0, 1) := by decide +kernel
theorem dX7_length_1 : decode cX7_length 1 = .ok (.getfield 41, 3) := by decide +kernel
theorem dX7_length_4 : decode cX7_length 4 = .ok (.ireturn, 1) := by decide +kernel
theorem dX13_search_0 : decode cX13_search 0 = .ok (.aload_n 0, 1) := by decide +kernel
theorem dX13_search_1 : decode cX13_search 1 = .ok (.iconst 0, 1) := by decide +kernel
theorem dX13_search_2 : decode cX13_search 2 = .ok (.putfield 170, 3) := by decide +kernel
theorem dX13_search_5 : decode cX13_search 5 = .ok (.aload_n 0, 1) := by decide +kernel
theorem dX13_search_6 : decode cX13_search 6 = .ok (.aload_n 0, 1) := by decide +kernel
theorem dX13_search_7 : decode cX13_search 7 = .ok (.getfield 173, 3) := by decide +kernel
theorem dX13_search_10 : decode cX13_search 10 = .ok (.putfield 340, 3) := by decide +kernel
theorem dX13_search_13 : decode cX13_search 13 = .ok (.aload_n 0, 1) := by decide +kernel
theorem dX13_search_14 : decode cX13_search 14 = .ok (.iconst 0, 1) := by decide +kernel
theorem dX13_search_15 : decode cX13_search 15 = .ok (.putfield 173, 3) := by decide +kernel
theorem dX13_search_18 : decode cX13_search 18 = .ok (.aload_n 0, 1) := by decide +kernel
theorem dX13_search_19 : decode cX13_search 19 = .ok (.iconst 0, 1) := by decide +kernel
theorem dX13_search_20 : decode cX13_search 20 = .ok (.putfield 343, 3) := by decide +kernel
theorem dX13_search_23 : decode cX13_search 23 = .ok (.aload_n 0, 1) := by decide +kernel
theorem dX13_search_24 : decode cX13_search 24 = .ok (.iconst 0, 1) := by decide +kernel
theorem dX13_search_25 : decode cX13_search 25 = .ok (.putfield 374, 3) := by decide +kernel
theorem dX13_search_28 : decode cX13_search 28 = .ok (.aload_n 0, 1) := by decide +kernel
theorem dX13_search_29 : decode cX13_search 29 = .ok (.iconst 0, 1) := by decide +kernel
theorem dX13_search_30 : decode cX13_search 30 = .ok (.putfield 439, 3) := by decide +kernel
theorem dX13_search_33 : decode cX13_search 33 = .ok (.aload_n 0, 1) := by decide +kernel
theorem dX13_search_34 : decode cX13_search 34 = .ok (.iconst 0, 1) := by decide +kernel
theorem dX13_search_35 : decode cX13_search 35 = .ok (.putfield 442, 3) := by decide +kernel
theorem dX13_search_38 : decode cX13_search 38 = .ok (.aload_n 0, 1) := by decide +kernel
theorem dX13_search_39 : decode cX13_search 39 = .ok (.iconst 0, 1) := by decide +kernel
theorem dX13_search_40 : decode cX13_search 40 = .ok (.putfield 454, 3) := by decide +kernel
theorem dX13_search_43 : decode cX13_search 43 = .ok (.aload_n 0, 1) := by decide +kernel
theorem dX13_search_44 : decode cX13_search 44 = .ok (.iconst 0, 1) := by decide +kernel
theorem dX13_search_45 : decode cX13_search 45 = .ok (.putfield 377, 3) := by decide +kernel
theorem dX13_search_48 : decode cX13_search 48 = .ok (.aload_n 0, 1) := by decide +kernel
theorem dX13_search_49 : decode cX13_search 49 = .ok (.iconst 0, 1) := by decide +kernel
theorem dX13_search_50 : decode cX13_search 50 = .ok (.putfield 424, 3) := by decide +kernel
theorem dX13_search_53 : decode cX13_search 53 = .ok (.aload_n 0, 1) := by decide +kernel
theorem dX13_search_54 : decode cX13_search 54 = .ok (.iconst 0, 1) := by decide +kernel
theorem dX13_search_55 : decode cX13_search 55 = .ok (.putfield 418, 3) := by decide +kernel
theorem dX13_search_58 : decode cX13_search 58 = .ok (.aload_n 0, 1) := by decide +kernel
theorem dX13_search_59 : decode cX13_search 59 = .ok (.iconst 0, 1) := by decide +kernel
theorem dX13_search_60 : decode cX13_search 60 = .ok (.putfield 509, 3) := by decide +kernel
theorem dX13_search_63 : decode cX13_search 63 = .ok (.aload_n 0, 1) := by decide +kernel
theorem dX13_search_64 : decode cX13_search 64 = .ok (.invokevirtual 383, 3) := by decide +kernel
theorem dX13_search_67 : decode cX13_search 67 = .ok (.aload_n 0, 1) := by decide +kernel
theorem dX13_search_68 : decode cX13_search 68 = .ok (.invokevirtual 427, 3) := by decide +kernel
theorem dX13_search_92 : decode cX13_search 92 = .ok (.astore_n 2, 1) := by decide +kernel
theorem dX13_search_93 : decode cX13_search 93 = .ok (.aload_n 0, 1) := by decide +kernel
theorem dX13_search_94 : decode cX13_search 94 = .ok (.iconst 0, 1) := by decide +kernel
theorem dX13_search_95 : decode cX13_search 95 = .ok (.putfield 377, 3) := by decide +kernel
theorem dX13_search_98 : decode cX13_search 98 = .ok (.sipush 1000, 3) := by decide +kernel
theorem dX13_search_101 : decode cX13_search 101 = .ok (.aload_n 0, 1) := by decide +kernel
theorem dX13_search_102 : decode cX13_search 102 = .ok (.getfield 334, 3) := by decide +kernel
theorem dX13_search_105 : decode cX13_search 105 = .ok (.imul, 1) := by decide +kernel
theorem dX13_search_106 : decode cX13_search 106 = .ok (.aload_n 0, 1) := by decide +kernel
theorem dX13_search_107 : decode cX13_search 107 = .ok (.getfield 337, 3) := by decide +kernel
theorem dX13_search_110 : decode cX13_search 110 = .ok (.iadd, 1) := by decide +kernel
theorem dX13_search_111 : decode cX13_search 111 = .ok (.iconst 1, 1) := by decide +kernel
theorem dX13_search_112 : decode cX13_search 112 = .ok (.iadd, 1) := by decide +kernel
theorem dX13_search_113 : decode cX13_search 113 = .ok (.ineg, 1) := by decide +kernel
theorem dX13_search_114 : decode cX13_search 114 = .ok (.ireturn, 1) := by decide +kernel
theorem dX13_look1_0 : decode cX13_look1 0 = .ok (.aload_n 0, 1) := by decide +kernel
theorem dX13_look1_1 : decode cX13_look1 1 = .ok (.getfield 343, 3) := by decide +kernel
theorem dX13_look1_4 : decode cX13_look1 4 = .ok (.aload_n 0, 1) := by decide +kernel
theorem dX13_look1_5 : decode cX13_look1 5 = .ok (.getfield 340, 3) := by decide +kernel
theorem dX13_look1_8 : decode cX13_look1 8 = .ok (.if_icmp .ge 32, 3) := by decide +kernel
theorem dX13_look1_40 : decode cX13_look1 40 = .ok (.aload_n 0, 1) := by decide +kernel
theorem dX13_look1_41 : decode cX13_look1 41 = .ok (.aload_n 0, 1) := by decide +kernel
theorem dX13_look1_42 : decode cX13_look1 42 = .ok (.getfield 343, 3) := by decide +kernel
theorem dX13_look1_45 : decode cX13_look1 45 = .ok (.putfield 349, 3) := by decide +kernel
theorem dX13_look1_48 : decode cX13_look1 48 = .ok (.aload_n 0, 1) := by decide +kernel
theorem dX13_look1_49 : decode cX13_look1 49 = .ok (.getfield 349, 3) := by decide +kernel
theorem dX13_look1_52 : decode cX13_look1 52 = .ok (.aload_n 0, 1) := by decide +kernel
theorem dX13_look1_53 : decode cX13_look1 53 = .ok (.getfield 340, 3) := by decide +kernel
theorem dX13_look1_56 : decode cX13_look1 56 = .ok (.if_icmp .ne 11, 3) := by decide +kernel
theorem dX13_look1_59 : decode cX13_look1 59 = .ok (.aload_n 0, 1) := by decide +kernel
theorem dX13_look1_60 : decode cX13_look1 60 = .ok (.iconst 0, 1) := by decide +kernel
theorem dX13_look1_61 : decode cX13_look1 61 = .ok (.putfield 352, 3) := by decide +kernel
theorem dX13_look1_64 : decode cX13_look1 64 = .ok (.goto 104, 3) := by decide +kernel
theorem dX13_look1_168 : decode cX13_look1 168 = .ok (.return_, 1) := by decide +kernel
theorem dX13_query_0 : decode cX13_query 0 = .ok (.aload_n 0, 1) := by decide +kernel
theorem dX13_query_1 : decode cX13_query 1 = .ok (.invokevirtual 380, 3) := by decide +kernel
theorem dX13_all_0 : decode cX13_all 0 = .ok (.aload_n 0, 1) := by decide +kernel
theorem dX13_all_1 : decode cX13_all 1 = .ok (.invokevirtual 390, 3) := by decide +kernel
theorem dX13_nots_0 : decode cX13_nots 0 = .ok (.iconst 0, 1) := by decide +kernel
theorem dX13_nots_1 : decode cX13_nots 1 = .ok (.istore_n 1, 1) := by decide +kernel
theorem dX13_nots_2 : decode cX13_nots 2 = .ok (.aload_n 0, 1) := by decide +kernel
theorem dX13_nots_3 : decode cX13_nots 3 = .ok (.invokevirtual 399, 3) := by decide +kernel
theorem dX13_nots_6 : decode cX13_nots 6 = .ok (.ifCond .eq 29, 3) := by decide +kernel
theorem dX13_nots_35 : decode cX13_nots 35 = .ok (.aload_n 0, 1) := by decide +kernel
theorem dX13_nots_36 : decode cX13_nots 36 = .ok (.invokevirtual 406, 3) := by decide +kernel
theorem dX13_isNot_0 : decode cX13_isNot 0 = .ok (.aload_n 0, 1) := by decide +kernel
theorem dX13_isNot_1 : decode cX13_isNot 1 = .ok (.bipush 110, 2) := by decide +kernel
theorem dX13_isNot_3 : decode cX13_isNot 3 = .ok (.bipush 111, 2) := by decide +kernel
theorem dX13_isNot_5 : decode cX13_isNot 5 = .ok (.bipush 116, 2) := by decide +kernel
theorem dX13_isNot_7 : decode cX13_isNot 7 = .ok (.iconst 0, 1) := by decide +kernel
theorem dX13_isNot_8 : decode cX13_isNot 8 = .ok (.iconst 0, 1) := by decide +kernel
theorem dX13_isNot_9 : decode cX13_isNot 9 = .ok (.invokevirtual 358, 3) := by decide +kernel
theorem dX13_isNot_12 : decode cX13_isNot 12 = .ok (.ireturn, 1) := by decide +kernel
theorem dX13_isRun_0 : decode cX13_isRun 0 = .ok (.aload_n 0, 1) := by decide +kernel
theorem dX13_isRun_1 : decode cX13_isRun 1 = .ok (.getfield 352, 3) := by decide +kernel
theorem dX13_isRun_4 : decode cX13_isRun 4 = .ok (.iconst 1, 1) := by decide +kernel
theorem dX13_isRun_5 : decode cX13_isRun 5 = .ok (.if_icmp .eq 5, 3) := by decide +kernel
theorem dX13_isRun_8 : decode cX13_isRun 8 = .ok (.iconst 0, 1) := by decide +kernel
theorem dX13_isRun_9 : decode cX13_isRun 9 = .ok (.ireturn, 1) := by decide +kernel
theorem dX13_near_0 : decode cX13_near 0 = .ok (.aload_n 0, 1) := by decide +kernel
theorem dX13_near_1 : decode cX13_near 1 = .ok (.invokevirtual 409, 3) := by decide +kernel
theorem dX13_unit_0 : decode cX13_unit 0 = .ok (.iconst 0, 1) := by decide +kernel
theorem dX13_unit_1 : decode cX13_unit 1 = .ok (.istore_n 1, 1) := by decide +kernel
theorem dX13_unit_2 : decode cX13_unit 2 = .ok (.aload_n 0, 1) := by decide +kernel
theorem dX13_unit_3 : decode cX13_unit 3 = .ok (.getfield 352, 3) := by decide +kernel
theorem dX13_unit_6 : decode cX13_unit 6 = .ok (.iconst 1, 1) := by decide +kernel
theorem dX13_unit_7 : decode cX13_unit 7 = .ok (.if_icmp .ne 86, 3) := by decide +kernel
theorem dX13_unit_93 : decode cX13_unit 93 = .ok (.aload_n 0, 1) := by decide +kernel
theorem dX13_unit_94 : decode cX13_unit 94 = .ok (.dup, 1) := by decide +kernel
theorem dX13_unit_95 : decode cX13_unit 95 = .ok (.getfield 418, 3) := by decide +kernel
theorem dX13_unit_98 : decode cX13_unit 98 = .ok (.iload_n 1, 1) := by decide +kernel
theorem dX13_unit_99 : decode cX13_unit 99 = .ok (.iadd, 1) := by decide +kernel
theorem dX13_unit_100 : decode cX13_unit 100 = .ok (.putfield 418, 3) := by decide +kernel
theorem dX13_unit_103 : decode cX13_unit 103 = .ok (.aload_n 0, 1) := by decide +kernel
theorem dX13_unit_104 : decode cX13_unit 104 = .ok (.invokevirtual 421, 3) := by decide +kernel
theorem dX13_bare_0 : decode cX13_bare 0 = .ok (.aload_n 0, 1) := by decide +kernel
theorem dX13_bare_1 : decode cX13_bare 1 = .ok (.bipush 40, 2) := by decide +kernel
theorem dX13_bare_3 : decode cX13_bare 3 = .ok (.invokevirtual 371, 3) := by decide +kernel
theorem dX13_bare_6 : decode cX13_bare 6 = .ok (.ifCond .eq 83, 3) := by decide +kernel
theorem dX13_bare_89 : decode cX13_bare 89 = .ok (.aload_n 0, 1) := by decide +kernel
theorem dX13_bare_90 : decode cX13_bare 90 = .ok (.bipush 91, 2) := by decide +kernel
theorem dX13_bare_92 : decode cX13_bare 92 = .ok (.invokevirtual 371, 3) := by decide +kernel
theorem dX13_bare_95 : decode cX13_bare 95 = .ok (.ifCond .eq 8, 3) := by decide +kernel
theorem dX13_bare_103 : decode cX13_bare 103 = .ok (.aload_n 0, 1) := by decide +kernel
theorem dX13_bare_104 : decode cX13_bare 104 = .ok (.bipush 34, 2) := by decide +kernel
theorem dX13_bare_106 : decode cX13_bare 106 = .ok (.invokevirtual 371, 3) := by decide +kernel
theorem dX13_bare_109 : decode cX13_bare 109 = .ok (.ifCond .eq 8, 3) := by decide +kernel
theorem dX13_bare_117 : decode cX13_bare 117 = .ok (.aload_n 0, 1) := by decide +kernel
theorem dX13_bare_118 : decode cX13_bare 118 = .ok (.getfield 352, 3) := by decide +kernel
theorem dX13_bare_121 : decode cX13_bare 121 = .ok (.iconst 1, 1) := by decide +kernel
theorem dX13_bare_122 : decode cX13_bare 122 = .ok (.if_icmp .ne 17, 3) := by decide +kernel
theorem dX13_bare_139 : decode cX13_bare 139 = .ok (.aload_n 0, 1) := by decide +kernel
theorem dX13_bare_140 : decode cX13_bare 140 = .ok (.iconst 1, 1) := by decide +kernel
theorem dX13_bare_141 : decode cX13_bare 141 = .ok (.aload_n 0, 1) := by decide +kernel
theorem dX13_bare_142 : decode cX13_bare 142 = .ok (.getfield 349, 3) := by decide +kernel
theorem dX13_bare_145 : decode cX13_bare 145 = .ok (.invokevirtual 402, 3) := by decide +kernel
theorem dX13_bare_148 : decode cX13_bare 148 = .ok (.athrow, 1) := by decide +kernel
theorem dX13_isSign_0 : decode cX13_isSign 0 = .ok (.aload_n 0, 1) := by decide +kernel
theorem dX13_isSign_1 : decode cX13_isSign 1 = .ok (.getfield 352, 3) := by decide +kernel
theorem dX13_isSign_4 : decode cX13_isSign 4 = .ok (.iconst 2, 1) := by decide +kernel
theorem dX13_isSign_5 : decode cX13_isSign 5 = .ok (.if_icmp .ne 20, 3) := by decide +kernel
theorem dX13_isSign_25 : decode cX13_isSign 25 = .ok (.iconst 0, 1) := by decide +kernel
theorem dX13_isSign_26 : decode cX13_isSign 26 = .ok (.ireturn, 1) := by decide +kernel
theorem dX13_wrong_0 : decode cX13_wrong 0 = .ok (.aload_n 0, 1) := by decide +kernel
theorem dX13_wrong_1 : decode cX13_wrong 1 = .ok (.iload_n 1, 1) := by decide +kernel
theorem dX13_wrong_2 : decode cX13_wrong 2 = .ok (.putfield 334, 3) := by decide +kernel
theorem dX13_wrong_5 : decode cX13_wrong 5 = .ok (.aload_n 0, 1) := by decide +kernel
theorem dX13_wrong_6 : decode cX13_wrong 6 = .ok (.iload_n 2, 1) := by decide +kernel
theorem dX13_wrong_7 : decode cX13_wrong 7 = .ok (.putfield 337, 3) := by decide +kernel
theorem dX13_wrong_10 : decode cX13_wrong 10 = .ok (.aload_n 0, 1) := by decide +kernel
theorem dX13_wrong_11 : decode cX13_wrong 11 = .ok (.getfield 85, 3) := by decide +kernel
theorem dX13_wrong_14 : decode cX13_wrong 14 = .ok (.areturn, 1) := by decide +kernel
theorem dL_hit_0 : decode cL_hit 0 = .ok (.aload_n 2, 1) := by decide +kernel
theorem dL_hit_1 : decode cL_hit 1 = .ok (.iconst 0, 1) := by decide +kernel
theorem dL_hit_2 : decode cL_hit 2 = .ok (.aload_n 0, 1) := by decide +kernel
theorem dL_hit_3 : decode cL_hit 3 = .ok (.iload_n 1, 1) := by decide +kernel
theorem dL_hit_4 : decode cL_hit 4 = .ok (.invokevirtual 22, 3) := by decide +kernel
theorem dL_hit_7 : decode cL_hit 7 = .ok (.i2l, 1) := by decide +kernel
theorem dL_hit_8 : decode cL_hit 8 = .ok (.lastore, 1) := by decide +kernel
theorem dL_hit_9 : decode cL_hit 9 = .ok (.goto 6, 3) := by decide +kernel
theorem dL_hit_12 : decode cL_hit 12 = .ok (.astore_n 3, 1) := by decide +kernel
theorem dL_hit_13 : decode cL_hit 13 = .ok (.iconst 1, 1) := by decide +kernel
theorem dL_hit_14 : decode cL_hit 14 = .ok (.ireturn, 1) := by decide +kernel
theorem dL_hit_15 : decode cL_hit 15 = .ok (.iconst 0, 1) := by decide +kernel
theorem dL_hit_16 : decode cL_hit 16 = .ok (.ireturn, 1) := by decide +kernel
theorem dX11_hit_0 : decode cX11_hit 0 = .ok (.iload_n 1, 1) := by decide +kernel
theorem dX11_hit_1 : decode cX11_hit 1 = .ok (.ifCond .ge 13, 3) := by decide +kernel
theorem dX11_hit_4 : decode cX11_hit 4 = .ok (.new 182, 3) := by decide +kernel
theorem dX11_hit_7 : decode cX11_hit 7 = .ok (.dup, 1) := by decide +kernel
theorem dX11_hit_8 : decode cX11_hit 8 = .ok (.ldc 251, 2) := by decide +kernel
theorem dX11_hit_10 : decode cX11_hit 10 = .ok (.invokespecial 186, 3) := by decide +kernel
theorem dX11_hit_13 : decode cX11_hit 13 = .ok (.athrow, 1) := by decide +kernel
theorem dX11_hit_14 : decode cX11_hit 14 = .ok (.aload_n 0, 1) := by decide +kernel
theorem dX11_hit_15 : decode cX11_hit 15 = .ok (.getfield 81, 3) := by decide +kernel
theorem dX11_hit_18 : decode cX11_hit 18 = .ok (.iload_n 1, 1) := by decide +kernel
theorem dX11_hit_19 : decode cX11_hit 19 = .ok (.invokevirtual 253, 3) := by decide +kernel
theorem dX11_hit_22 : decode cX11_hit 22 = .ok (.ireturn, 1) := by decide +kernel
theorem dX13_hit_0 : decode cX13_hit 0 = .ok (.aload_n 0, 1) := by decide +kernel
theorem dX13_hit_1 : decode cX13_hit 1 = .ok (.iconst 0, 1) := by decide +kernel
theorem dX13_hit_2 : decode cX13_hit 2 = .ok (.putfield 170, 3) := by decide +kernel
theorem dX13_hit_5 : decode cX13_hit 5 = .ok (.iload_n 1, 1) := by decide +kernel
theorem dX13_hit_6 : decode cX13_hit 6 = .ok (.ifCond .ge 8, 3) := by decide +kernel
theorem dX13_hit_9 : decode cX13_hit 9 = .ok (.aload_n 0, 1) := by decide +kernel
theorem dX13_hit_10 : decode cX13_hit 10 = .ok (.invokevirtual 279, 3) := by decide +kernel
theorem dX13_hit_13 : decode cX13_hit 13 = .ok (.ireturn, 1) := by decide +kernel
theorem dX13_hit_14 : decode cX13_hit 14 = .ok (.iload_n 1, 1) := by decide +kernel
theorem dX13_hit_15 : decode cX13_hit 15 = .ok (.aload_n 0, 1) := by decide +kernel
theorem dX13_hit_16 : decode cX13_hit 16 = .ok (.getfield 509, 3) := by decide +kernel
theorem dX13_hit_19 : decode cX13_hit 19 = .ok (.if_icmp .ge 12, 3) := by decide +kernel
theorem dX13_hit_31 : decode cX13_hit 31 = .ok (.iconst (-1), 1) := by decide +kernel
theorem dX13_hit_32 : decode cX13_hit 32 = .ok (.ireturn, 1) := by decide +kernel
theorem dX1_numberAt_0 : decode cX1_numberAt 0 = .ok (.iload_n 1, 1) := by decide +kernel
theorem dX1_numberAt_1 : decode cX1_numberAt 1 = .ok (.ifCond .lt 20, 3) := by decide +kernel
theorem dX1_numberAt_4 : decode cX1_numberAt 4 = .ok (.iload_n 1, 1) := by decide +kernel
theorem dX1_numberAt_5 : decode cX1_numberAt 5 = .ok (.aload_n 0, 1) := by decide +kernel
theorem dX1_numberAt_6 : decode cX1_numberAt 6 = .ok (.getfield 54, 3) := by decide +kernel
theorem dX1_numberAt_9 : decode cX1_numberAt 9 = .ok (.if_icmp .ge 12, 3) := by decide +kernel
theorem dX1_numberAt_21 : decode cX1_numberAt 21 = .ok (.iconst (-1), 1) := by decide +kernel
theorem dX1_numberAt_22 : decode cX1_numberAt 22 = .ok (.ireturn, 1) := by decide +kernel
theorem dL_rank_0 : decode cL_rank 0 = .ok (.aload_n 3, 1) := by decide +kernel
theorem dL_rank_1 : decode cL_rank 1 = .ok (.iconst 0, 1) := by decide +kernel
theorem dL_rank_2 : decode cL_rank 2 = .ok (.aload_n 0, 1) := by decide +kernel
theorem dL_rank_3 : decode cL_rank 3 = .ok (.iload_n 1, 1) := by decide +kernel
theorem dL_rank_4 : decode cL_rank 4 = .ok (.iload_n 2, 1) := by decide +kernel
theorem dL_rank_5 : decode cL_rank 5 = .ok (.invokevirtual 25, 3) := by decide +kernel
theorem dL_rank_13 : decode cL_rank 13 = .ok (.astore 4, 2) := by decide +kernel
theorem dL_rank_15 : decode cL_rank 15 = .ok (.iconst 1, 1) := by decide +kernel
theorem dL_rank_16 : decode cL_rank 16 = .ok (.ireturn, 1) := by decide +kernel
theorem dX11_rank_0 : decode cX11_rank 0 = .ok (.iload_n 1, 1) := by decide +kernel
theorem dX11_rank_1 : decode cX11_rank 1 = .ok (.ifCond .lt 14, 3) := by decide +kernel
theorem dX11_rank_4 : decode cX11_rank 4 = .ok (.iload_n 1, 1) := by decide +kernel
theorem dX11_rank_5 : decode cX11_rank 5 = .ok (.aload_n 0, 1) := by decide +kernel
theorem dX11_rank_6 : decode cX11_rank 6 = .ok (.getfield 81, 3) := by decide +kernel
theorem dX11_rank_9 : decode cX11_rank 9 = .ok (.invokevirtual 248, 3) := by decide +kernel
theorem dX11_rank_12 : decode cX11_rank 12 = .ok (.if_icmp .lt 14, 3) := by decide +kernel
theorem dX11_rank_15 : decode cX11_rank 15 = .ok (.new 182, 3) := by decide +kernel
theorem dX11_rank_18 : decode cX11_rank 18 = .ok (.dup, 1) := by decide +kernel
theorem dX11_rank_19 : decode cX11_rank 19 = .ok (.ldc_w 256, 3) := by decide +kernel
theorem dX11_rank_22 : decode cX11_rank 22 = .ok (.invokespecial 186, 3) := by decide +kernel
theorem dX11_rank_25 : decode cX11_rank 25 = .ok (.athrow, 1) := by decide +kernel
theorem dX13_rank_0 : decode cX13_rank 0 = .ok (.aload_n 0, 1) := by decide +kernel
theorem dX13_rank_1 : decode cX13_rank 1 = .ok (.iconst 0, 1) := by decide +kernel
theorem dX13_rank_2 : decode cX13_rank 2 = .ok (.putfield 170, 3) := by decide +kernel
theorem dX13_rank_5 : decode cX13_rank 5 = .ok (.iload_n 1, 1) := by decide +kernel
theorem dX13_rank_6 : decode cX13_rank 6 = .ok (.ifCond .lt 11, 3) := by decide +kernel
theorem dX13_rank_9 : decode cX13_rank 9 = .ok (.iload_n 1, 1) := by decide +kernel
theorem dX13_rank_10 : decode cX13_rank 10 = .ok (.aload_n 0, 1) := by decide +kernel
theorem dX13_rank_11 : decode cX13_rank 11 = .ok (.getfield 509, 3) := by decide +kernel
theorem dX13_rank_14 : decode cX13_rank 14 = .ok (.if_icmp .lt 8, 3) := by decide +kernel
theorem dX13_rank_17 : decode cX13_rank 17 = .ok (.aload_n 0, 1) := by decide +kernel
theorem dX13_rank_18 : decode cX13_rank 18 = .ok (.invokevirtual 279, 3) := by decide +kernel
theorem dX13_rank_21 : decode cX13_rank 21 = .ok (.ireturn, 1) := by decide +kernel
theorem dX1_found_0 : decode cX1_found 0 = .ok (.aload_n 0, 1) := by decide +kernel
theorem dX1_found_1 : decode cX1_found 1 = .ok (.getfield 54, 3) := by decide +kernel
theorem dX1_found_4 : decode cX1_found 4 = .ok (.ireturn, 1) := by decide +kernel
theorem dL_code_0 : decode cL_code 0 = .ok (.aload_n 2, 1) := by decide +kernel
theorem dL_code_1 : decode cL_code 1 = .ok (.iconst 0, 1) := by decide +kernel
theorem dL_code_2 : decode cL_code 2 = .ok (.aload_n 0, 1) := by decide +kernel
theorem dL_code_3 : decode cL_code 3 = .ok (.iload_n 1, 1) := by decide +kernel
theorem dL_code_4 : decode cL_code 4 = .ok (.invokevirtual 28, 3) := by decide +kernel
theorem dL_code_7 : decode cL_code 7 = .ok (.i2l, 1) := by decide +kernel
theorem dL_code_8 : decode cL_code 8 = .ok (.lastore, 1) := by decide +kernel
theorem dL_code_9 : decode cL_code 9 = .ok (.goto 6, 3) := by decide +kernel
theorem dL_code_12 : decode cL_code 12 = .ok (.astore_n 3, 1) := by decide +kernel
theorem dL_code_13 : decode cL_code 13 = .ok (.iconst 1, 1) := by decide +kernel
theorem dL_code_14 : decode cL_code 14 = .ok (.ireturn, 1) := by decide +kernel
theorem dL_code_15 : decode cL_code 15 = .ok (.iconst 0, 1) := by decide +kernel
theorem dL_code_16 : decode cL_code 16 = .ok (.ireturn, 1) := by decide +kernel
theorem dX11_code_0 : decode cX11_code 0 = .ok (.iload_n 1, 1) := by decide +kernel
theorem dX11_code_1 : decode cX11_code 1 = .ok (.ifCond .ge 14, 3) := by decide +kernel
theorem dX11_code_4 : decode cX11_code 4 = .ok (.new 182, 3) := by decide +kernel
theorem dX11_code_7 : decode cX11_code 7 = .ok (.dup, 1) := by decide +kernel
theorem dX11_code_8 : decode cX11_code 8 = .ok (.ldc_w 267, 3) := by decide +kernel
theorem dX11_code_11 : decode cX11_code 11 = .ok (.invokespecial 186, 3) := by decide +kernel
theorem dX11_code_14 : decode cX11_code 14 = .ok (.athrow, 1) := by decide +kernel
theorem dX11_code_15 : decode cX11_code 15 = .ok (.aload_n 0, 1) := by decide +kernel
theorem dX11_code_16 : decode cX11_code 16 = .ok (.getfield 63, 3) := by decide +kernel
theorem dX11_code_19 : decode cX11_code 19 = .ok (.iload_n 1, 1) := by decide +kernel
theorem dX11_code_20 : decode cX11_code 20 = .ok (.invokevirtual 269, 3) := by decide +kernel
theorem dX11_code_23 : decode cX11_code 23 = .ok (.ireturn, 1) := by decide +kernel
theorem dX13_code_0 : decode cX13_code 0 = .ok (.aload_n 0, 1) := by decide +kernel
theorem dX13_code_1 : decode cX13_code 1 = .ok (.iconst 0, 1) := by decide +kernel
theorem dX13_code_2 : decode cX13_code 2 = .ok (.putfield 170, 3) := by decide +kernel
theorem dX13_code_5 : decode cX13_code 5 = .ok (.iload_n 1, 1) := by decide +kernel
theorem dX13_code_6 : decode cX13_code 6 = .ok (.ifCond .ge 8, 3) := by decide +kernel
theorem dX13_code_9 : decode cX13_code 9 = .ok (.aload_n 0, 1) := by decide +kernel
theorem dX13_code_10 : decode cX13_code 10 = .ok (.invokevirtual 279, 3) := by decide +kernel
theorem dX13_code_13 : decode cX13_code 13 = .ok (.ireturn, 1) := by decide +kernel
theorem dX13_code_14 : decode cX13_code 14 = .ok (.iload_n 1, 1) := by decide +kernel
theorem dX13_code_15 : decode cX13_code 15 = .ok (.aload_n 0, 1) := by decide +kernel
theorem dX13_code_16 : decode cX13_code 16 = .ok (.getfield 377, 3) := by decide +kernel
theorem dX13_code_19 : decode cX13_code 19 = .ok (.if_icmp .ge 12, 3) := by decide +kernel
theorem dX13_code_31 : decode cX13_code 31 = .ok (.iconst (-1), 1) := by decide +kernel
theorem dX13_code_32 : decode cX13_code 32 = .ok (.ireturn, 1) := by decide +kernel
theorem dX7_stepAt_0 : decode cX7_stepAt 0 = .ok (.iload_n 1, 1) := by decide +kernel
theorem dX7_stepAt_1 : decode cX7_stepAt 1 = .ok (.ifCond .lt 20, 3) := by decide +kernel
theorem dX7_stepAt_4 : decode cX7_stepAt 4 = .ok (.iload_n 1, 1) := by decide +kernel
theorem dX7_stepAt_5 : decode cX7_stepAt 5 = .ok (.aload_n 0, 1) := by decide +kernel
theorem dX7_stepAt_6 : decode cX7_stepAt 6 = .ok (.getfield 41, 3) := by decide +kernel
theorem dX7_stepAt_9 : decode cX7_stepAt 9 = .ok (.if_icmp .ge 12, 3) := by decide +kernel
theorem dX7_stepAt_21 : decode cX7_stepAt 21 = .ok (.iconst (-1), 1) := by decide +kernel
theorem dX7_stepAt_22 : decode cX7_stepAt 22 = .ok (.ireturn, 1) := by decide +kernel
theorem dX11_deepest_0 : decode cX11_deepest 0 = .ok (.aload_n 0, 1) := by decide +kernel
theorem dX11_deepest_1 : decode cX11_deepest 1 = .ok (.getfield 63, 3) := by decide +kernel
theorem dX11_deepest_4 : decode cX11_deepest 4 = .ok (.invokevirtual 272, 3) := by decide +kernel
theorem dX11_deepest_7 : decode cX11_deepest 7 = .ok (.ireturn, 1) := by decide +kernel
theorem dX7_deepestStack_0 : decode cX7_deepestStack 0 = .ok (.aload_n 0, 1) := by decide +kernel
theorem dX7_deepestStack_1 : decode cX7_deepestStack 1 = .ok (.getfield 47, 3) := by decide +kernel
theorem dX7_deepestStack_4 : decode cX7_deepestStack 4 = .ok (.ireturn, 1) := by decide +kernel
theorem dX13_deepest_0 : decode cX13_deepest 0 = .ok (.aload_n 0, 1) := by decide +kernel
theorem dX13_deepest_1 : decode cX13_deepest 1 = .ok (.iconst 0, 1) := by decide +kernel
theorem dX13_deepest_2 : decode cX13_deepest 2 = .ok (.putfield 170, 3) := by decide +kernel
theorem dX13_deepest_5 : decode cX13_deepest 5 = .ok (.iconst 0, 1) := by decide +kernel
theorem dX13_deepest_6 : decode cX13_deepest 6 = .ok (.istore_n 1, 1) := by decide +kernel
theorem dX13_deepest_7 : decode cX13_deepest 7 = .ok (.iconst 0, 1) := by decide +kernel
theorem dX13_deepest_8 : decode cX13_deepest 8 = .ok (.istore_n 2, 1) := by decide +kernel
theorem dX13_deepest_9 : decode cX13_deepest 9 = .ok (.iconst 0, 1) := by decide +kernel
theorem dX13_deepest_10 : decode cX13_deepest 10 = .ok (.istore_n 3, 1) := by decide +kernel
theorem dX13_deepest_11 : decode cX13_deepest 11 = .ok (.iload_n 3, 1) := by decide +kernel
theorem dX13_deepest_12 : decode cX13_deepest 12 = .ok (.aload_n 0, 1) := by decide +kernel
theorem dX13_deepest_13 : decode cX13_deepest 13 = .ok (.getfield 377, 3) := by decide +kernel
theorem dX13_deepest_16 : decode cX13_deepest 16 = .ok (.if_icmp .ge 69, 3) := by decide +kernel
theorem dX13_deepest_85 : decode cX13_deepest 85 = .ok (.iload_n 1, 1) := by decide +kernel
theorem dX13_deepest_86 : decode cX13_deepest 86 = .ok (.ireturn, 1) := by decide +kernel
theorem dX11_nearest_0 : decode cX11_nearest 0 = .ok (.aload_n 0, 1) := by decide +kernel
theorem dX11_nearest_1 : decode cX11_nearest 1 = .ok (.getfield 12, 3) := by decide +kernel
theorem dX11_nearest_4 : decode cX11_nearest 4 = .ok (.invokevirtual 165, 3) := by decide +kernel
theorem dX11_nearest_7 : decode cX11_nearest 7 = .ok (.lstore_n 1, 1) := by decide +kernel
theorem dX11_nearest_8 : decode cX11_nearest 8 = .ok (.aload_n 0, 1) := by decide +kernel
theorem dX11_nearest_9 : decode cX11_nearest 9 = .ok (.getfield 12, 3) := by decide +kernel
theorem dX11_nearest_12 : decode cX11_nearest 12 = .ok (.invokevirtual 118, 3) := by decide +kernel
theorem dX11_nearest_15 : decode cX11_nearest 15 = .ok (.lconst 0, 1) := by decide +kernel
theorem dX11_nearest_16 : decode cX11_nearest 16 = .ok (.lstore_n 3, 1) := by decide +kernel
theorem dX11_nearest_17 : decode cX11_nearest 17 = .ok (.iconst 3, 1) := by decide +kernel
theorem dX11_nearest_18 : decode cX11_nearest 18 = .ok (.istore 5, 2) := by decide +kernel
theorem dX11_nearest_20 : decode cX11_nearest 20 = .ok (.iconst 0, 1) := by decide +kernel
theorem dX11_nearest_21 : decode cX11_nearest 21 = .ok (.istore 6, 2) := by decide +kernel
theorem dX11_nearest_23 : decode cX11_nearest 23 = .ok (.iconst 0, 1) := by decide +kernel
theorem dX11_nearest_24 : decode cX11_nearest 24 = .ok (.istore 7, 2) := by decide +kernel
theorem dX11_nearest_26 : decode cX11_nearest 26 = .ok (.lload_n 1, 1) := by decide +kernel
theorem dX11_nearest_27 : decode cX11_nearest 27 = .ok (.lconst 0, 1) := by decide +kernel
theorem dX11_nearest_28 : decode cX11_nearest 28 = .ok (.lcmp, 1) := by decide +kernel
theorem dX11_nearest_29 : decode cX11_nearest 29 = .ok (.ifCond .eq 120, 3) := by decide +kernel
theorem dX11_nearest_149 : decode cX11_nearest 149 = .ok (.lload_n 3, 1) := by decide +kernel
theorem dX11_nearest_150 : decode cX11_nearest 150 = .ok (.lconst 0, 1) := by decide +kernel
theorem dX11_nearest_151 : decode cX11_nearest 151 = .ok (.lcmp, 1) := by decide +kernel
theorem dX11_nearest_152 : decode cX11_nearest 152 = .ok (.ifCond .ne 5, 3) := by decide +kernel
theorem dX11_nearest_155 : decode cX11_nearest 155 = .ok (.iconst (-1), 1) := by decide +kernel
theorem dX11_nearest_156 : decode cX11_nearest 156 = .ok (.ireturn, 1) := by decide +kernel
theorem dX13_nearest_0 : decode cX13_nearest 0 = .ok (.aload_n 0, 1) := by decide +kernel
theorem dX13_nearest_1 : decode cX13_nearest 1 = .ok (.iconst 0, 1) := by decide +kernel
theorem dX13_nearest_2 : decode cX13_nearest 2 = .ok (.putfield 170, 3) := by decide +kernel
theorem dX13_nearest_5 : decode cX13_nearest 5 = .ok (.aload_n 0, 1) := by decide +kernel
theorem dX13_nearest_6 : decode cX13_nearest 6 = .ok (.invokevirtual 275, 3) := by decide +kernel
theorem dX13_nearest_9 : decode cX13_nearest 9 = .ok (.ifCond .ne 5, 3) := by decide +kernel
theorem dX13_nearest_12 : decode cX13_nearest 12 = .ok (.iconst (-1), 1) := by decide +kernel
theorem dX13_nearest_13 : decode cX13_nearest 13 = .ok (.ireturn, 1) := by decide +kernel
theorem dL_like_0 : decode cL_like 0 = .ok (.aload_n 2, 1) := by decide +kernel
theorem dL_like_1 : decode cL_like 1 = .ok (.iconst 0, 1) := by decide +kernel
theorem dL_like_2 : decode cL_like 2 = .ok (.aload_n 0, 1) := by decide +kernel
theorem dL_like_3 : decode cL_like 3 = .ok (.iload_n 1, 1) := by decide +kernel
theorem dL_like_4 : decode cL_like 4 = .ok (.invokevirtual 31, 3) := by decide +kernel
theorem dL_like_12 : decode cL_like 12 = .ok (.astore_n 3, 1) := by decide +kernel
theorem dL_like_13 : decode cL_like 13 = .ok (.iconst 1, 1) := by decide +kernel
theorem dL_like_14 : decode cL_like 14 = .ok (.ireturn, 1) := by decide +kernel
theorem dX11_like_0 : decode cX11_like 0 = .ok (.aload_n 0, 1) := by decide +kernel
theorem dX11_like_1 : decode cX11_like 1 = .ok (.getfield 31, 3) := by decide +kernel
theorem dX11_like_4 : decode cX11_like 4 = .ok (.iload_n 1, 1) := by decide +kernel
theorem dX11_like_5 : decode cX11_like 5 = .ok (.invokevirtual 189, 3) := by decide +kernel
theorem dX11_like_8 : decode cX11_like 8 = .ok (.ifCond .ne 14, 3) := by decide +kernel
theorem dX11_like_11 : decode cX11_like 11 = .ok (.new 182, 3) := by decide +kernel
theorem dX11_like_14 : decode cX11_like 14 = .ok (.dup, 1) := by decide +kernel
theorem dX11_like_15 : decode cX11_like 15 = .ok (.ldc_w 284, 3) := by decide +kernel
theorem dX11_like_18 : decode cX11_like 18 = .ok (.invokespecial 186, 3) := by decide +kernel
theorem dX11_like_21 : decode cX11_like 21 = .ok (.athrow, 1) := by decide +kernel
theorem dX13_like_0 : decode cX13_like 0 = .ok (.aload_n 0, 1) := by decide +kernel
theorem dX13_like_1 : decode cX13_like 1 = .ok (.iconst 0, 1) := by decide +kernel
theorem dX13_like_2 : decode cX13_like 2 = .ok (.putfield 170, 3) := by decide +kernel
theorem dX13_like_5 : decode cX13_like 5 = .ok (.aload_n 0, 1) := by decide +kernel
theorem dX13_like_6 : decode cX13_like 6 = .ok (.iload_n 1, 1) := by decide +kernel
theorem dX13_like_7 : decode cX13_like 7 = .ok (.invokevirtual 263, 3) := by decide +kernel
theorem dX13_like_10 : decode cX13_like 10 = .ok (.ifCond .ne 8, 3) := by decide +kernel
theorem dX13_like_13 : decode cX13_like 13 = .ok (.aload_n 0, 1) := by decide +kernel
theorem dX13_like_14 : decode cX13_like 14 = .ok (.invokevirtual 279, 3) := by decide +kernel
theorem dX13_like_17 : decode cX13_like 17 = .ok (.ireturn, 1) := by decide +kernel
