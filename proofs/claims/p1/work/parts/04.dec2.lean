theorem dX13_measure_163 : decode cX13_measure 163 = .ok (.if_icmp .ge 58, 3) := by decide +kernel
theorem dX13_measure_221 : decode cX13_measure 221 = .ok (.iinc 1 1, 3) := by decide +kernel
theorem dX13_measure_224 : decode cX13_measure 224 = .ok (.goto (-192), 3) := by decide +kernel
theorem dX13_measure_227 : decode cX13_measure 227 = .ok (.return_, 1) := by decide +kernel
theorem dX13_countUnlike_0 : decode cX13_countUnlike 0 = .ok (.aload_n 0, 1) := by decide +kernel
theorem dX13_countUnlike_1 : decode cX13_countUnlike 1 = .ok (.iload_n 1, 1) := by decide +kernel
theorem dX13_countUnlike_2 : decode cX13_countUnlike 2 = .ok (.aload_n 0, 1) := by decide +kernel
theorem dX13_countUnlike_3 : decode cX13_countUnlike 3 = .ok (.getfield 76, 3) := by decide +kernel
theorem dX13_countUnlike_6 : decode cX13_countUnlike 6 = .ok (.invokevirtual 256, 3) := by decide +kernel
theorem dX13_countUnlike_9 : decode cX13_countUnlike 9 = .ok (.iconst 0, 1) := by decide +kernel
theorem dX13_countUnlike_10 : decode cX13_countUnlike 10 = .ok (.istore_n 2, 1) := by decide +kernel
theorem dX13_countUnlike_11 : decode cX13_countUnlike 11 = .ok (.iconst 0, 1) := by decide +kernel
theorem dX13_countUnlike_12 : decode cX13_countUnlike 12 = .ok (.istore_n 3, 1) := by decide +kernel
theorem dX13_countUnlike_13 : decode cX13_countUnlike 13 = .ok (.iload_n 3, 1) := by decide +kernel
theorem dX13_countUnlike_14 : decode cX13_countUnlike 14 = .ok (.aload_n 0, 1) := by decide +kernel
theorem dX13_countUnlike_15 : decode cX13_countUnlike 15 = .ok (.getfield 208, 3) := by decide +kernel
theorem dX13_countUnlike_18 : decode cX13_countUnlike 18 = .ok (.if_icmp .ge 26, 3) := by decide +kernel
theorem dX13_countUnlike_44 : decode cX13_countUnlike 44 = .ok (.iload_n 2, 1) := by decide +kernel
theorem dX13_countUnlike_45 : decode cX13_countUnlike 45 = .ok (.ireturn, 1) := by decide +kernel
theorem dX13_tally_0 : decode cX13_tally 0 = .ok (.iconst 0, 1) := by decide +kernel
theorem dX13_tally_1 : decode cX13_tally 1 = .ok (.istore_n 3, 1) := by decide +kernel
theorem dX13_tally_2 : decode cX13_tally 2 = .ok (.iload_n 3, 1) := by decide +kernel
theorem dX13_tally_3 : decode cX13_tally 3 = .ok (.aload_n 0, 1) := by decide +kernel
theorem dX13_tally_4 : decode cX13_tally 4 = .ok (.getfield 208, 3) := by decide +kernel
theorem dX13_tally_7 : decode cX13_tally 7 = .ok (.if_icmp .ge 13, 3) := by decide +kernel
theorem dX13_tally_20 : decode cX13_tally 20 = .ok (.iconst 0, 1) := by decide +kernel
theorem dX13_tally_21 : decode cX13_tally 21 = .ok (.istore_n 3, 1) := by decide +kernel
theorem dX13_tally_22 : decode cX13_tally 22 = .ok (.iload_n 3, 1) := by decide +kernel
theorem dX13_tally_23 : decode cX13_tally 23 = .ok (.aload_n 0, 1) := by decide +kernel
theorem dX13_tally_24 : decode cX13_tally 24 = .ok (.getfield 41, 3) := by decide +kernel
theorem dX13_tally_27 : decode cX13_tally 27 = .ok (.iload_n 1, 1) := by decide +kernel
theorem dX13_tally_28 : decode cX13_tally 28 = .ok (.iaload, 1) := by decide +kernel
theorem dX13_tally_29 : decode cX13_tally 29 = .ok (.if_icmp .ge 44, 3) := by decide +kernel
theorem dX13_tally_73 : decode cX13_tally 73 = .ok (.sipush 512, 3) := by decide +kernel
theorem dX13_tally_76 : decode cX13_tally 76 = .ok (.istore_n 3, 1) := by decide +kernel
theorem dX13_tally_77 : decode cX13_tally 77 = .ok (.iload_n 3, 1) := by decide +kernel
theorem dX13_tally_78 : decode cX13_tally 78 = .ok (.sipush 512, 3) := by decide +kernel
theorem dX13_tally_81 : decode cX13_tally 81 = .ok (.aload_n 0, 1) := by decide +kernel
theorem dX13_tally_82 : decode cX13_tally 82 = .ok (.getfield 44, 3) := by decide +kernel
theorem dX13_tally_85 : decode cX13_tally 85 = .ok (.iload_n 1, 1) := by decide +kernel
theorem dX13_tally_86 : decode cX13_tally 86 = .ok (.iaload, 1) := by decide +kernel
theorem dX13_tally_87 : decode cX13_tally 87 = .ok (.iadd, 1) := by decide +kernel
theorem dX13_tally_88 : decode cX13_tally 88 = .ok (.if_icmp .ge 44, 3) := by decide +kernel
theorem dX13_tally_132 : decode cX13_tally 132 = .ok (.return_, 1) := by decide +kernel
theorem dX11_remove_0 : decode cX11_remove 0 = .ok (.aload_n 0, 1) := by decide +kernel
theorem dX11_remove_1 : decode cX11_remove 1 = .ok (.getfield 31, 3) := by decide +kernel
theorem dX11_remove_4 : decode cX11_remove 4 = .ok (.iload_n 1, 1) := by decide +kernel
theorem dX11_remove_5 : decode cX11_remove 5 = .ok (.invokevirtual 138, 3) := by decide +kernel
theorem dX11_remove_8 : decode cX11_remove 8 = .ok (.ireturn, 1) := by decide +kernel
theorem dX0_takeOff_0 : decode cX0_takeOff 0 = .ok (.aload_n 0, 1) := by decide +kernel
theorem dX0_takeOff_1 : decode cX0_takeOff 1 = .ok (.iload_n 1, 1) := by decide +kernel
theorem dX0_takeOff_2 : decode cX0_takeOff 2 = .ok (.invokevirtual 36, 3) := by decide +kernel
theorem dX0_takeOff_5 : decode cX0_takeOff 5 = .ok (.ifCond .ne 5, 3) := by decide +kernel
theorem dX0_takeOff_8 : decode cX0_takeOff 8 = .ok (.iconst 0, 1) := by decide +kernel
theorem dX0_takeOff_9 : decode cX0_takeOff 9 = .ok (.ireturn, 1) := by decide +kernel
theorem dX0_isOn_0 : decode cX0_isOn 0 = .ok (.aload_n 0, 1) := by decide +kernel
theorem dX0_isOn_1 : decode cX0_isOn 1 = .ok (.iload_n 1, 1) := by decide +kernel
theorem dX0_isOn_2 : decode cX0_isOn 2 = .ok (.invokevirtual 32, 3) := by decide +kernel
theorem dX0_isOn_5 : decode cX0_isOn 5 = .ok (.ifCond .eq 16, 3) := by decide +kernel
theorem dX0_isOn_21 : decode cX0_isOn 21 = .ok (.iconst 0, 1) := by decide +kernel
theorem dX0_isOn_22 : decode cX0_isOn 22 = .ok (.ireturn, 1) := by decide +kernel
theorem dX0_came_0 : decode cX0_came 0 = .ok (.iload_n 1, 1) := by decide +kernel
theorem dX0_came_1 : decode cX0_came 1 = .ok (.ifCond .lt 15, 3) := by decide +kernel
theorem dX0_came_4 : decode cX0_came 4 = .ok (.iload_n 1, 1) := by decide +kernel
theorem dX0_came_5 : decode cX0_came 5 = .ok (.aload_n 0, 1) := by decide +kernel
theorem dX0_came_6 : decode cX0_came 6 = .ok (.getfield 25, 3) := by decide +kernel
theorem dX0_came_9 : decode cX0_came 9 = .ok (.if_icmp .ge 7, 3) := by decide +kernel
theorem dX0_came_16 : decode cX0_came 16 = .ok (.iconst 0, 1) := by decide +kernel
theorem dX0_came_17 : decode cX0_came 17 = .ok (.ireturn, 1) := by decide +kernel
theorem dX13_remove_0 : decode cX13_remove 0 = .ok (.aload_n 0, 1) := by decide +kernel
theorem dX13_remove_1 : decode cX13_remove 1 = .ok (.iconst 0, 1) := by decide +kernel
theorem dX13_remove_2 : decode cX13_remove 2 = .ok (.putfield 170, 3) := by decide +kernel
theorem dX13_remove_5 : decode cX13_remove 5 = .ok (.aload_n 0, 1) := by decide +kernel
theorem dX13_remove_6 : decode cX13_remove 6 = .ok (.iload_n 1, 1) := by decide +kernel
theorem dX13_remove_7 : decode cX13_remove 7 = .ok (.invokevirtual 263, 3) := by decide +kernel
theorem dX13_remove_10 : decode cX13_remove 10 = .ok (.ifCond .ne 5, 3) := by decide +kernel
theorem dX13_remove_13 : decode cX13_remove 13 = .ok (.iconst 0, 1) := by decide +kernel
theorem dX13_remove_14 : decode cX13_remove 14 = .ok (.ireturn, 1) := by decide +kernel
theorem dX13_stands_0 : decode cX13_stands 0 = .ok (.aload_n 0, 1) := by decide +kernel
theorem dX13_stands_1 : decode cX13_stands 1 = .ok (.iload_n 1, 1) := by decide +kernel
theorem dX13_stands_2 : decode cX13_stands 2 = .ok (.invokevirtual 260, 3) := by decide +kernel
theorem dX13_stands_5 : decode cX13_stands 5 = .ok (.ifCond .eq 16, 3) := by decide +kernel
theorem dX13_stands_21 : decode cX13_stands 21 = .ok (.iconst 0, 1) := by decide +kernel
theorem dX13_stands_22 : decode cX13_stands 22 = .ok (.ireturn, 1) := by decide +kernel
theorem dX13_isThere_0 : decode cX13_isThere 0 = .ok (.iload_n 1, 1) := by decide +kernel
theorem dX13_isThere_1 : decode cX13_isThere 1 = .ok (.ifCond .lt 15, 3) := by decide +kernel
theorem dX13_isThere_4 : decode cX13_isThere 4 = .ok (.iload_n 1, 1) := by decide +kernel
theorem dX13_isThere_5 : decode cX13_isThere 5 = .ok (.aload_n 0, 1) := by decide +kernel
theorem dX13_isThere_6 : decode cX13_isThere 6 = .ok (.getfield 222, 3) := by decide +kernel
theorem dX13_isThere_9 : decode cX13_isThere 9 = .ok (.if_icmp .ge 7, 3) := by decide +kernel
theorem dX13_isThere_16 : decode cX13_isThere 16 = .ok (.iconst 0, 1) := by decide +kernel
theorem dX13_isThere_17 : decode cX13_isThere 17 = .ok (.ireturn, 1) := by decide +kernel
theorem dX11_mark_0 : decode cX11_mark 0 = .ok (.aload_n 0, 1) := by decide +kernel
theorem dX11_mark_1 : decode cX11_mark 1 = .ok (.getfield 31, 3) := by decide +kernel
theorem dX11_mark_4 : decode cX11_mark 4 = .ok (.iload_n 1, 1) := by decide +kernel
theorem dX11_mark_5 : decode cX11_mark 5 = .ok (.iload_n 2, 1) := by decide +kernel
theorem dX11_mark_6 : decode cX11_mark 6 = .ok (.invokevirtual 141, 3) := by decide +kernel
theorem dX11_mark_9 : decode cX11_mark 9 = .ok (.ireturn, 1) := by decide +kernel
theorem dX0_setMark_0 : decode cX0_setMark 0 = .ok (.aload_n 0, 1) := by decide +kernel
theorem dX0_setMark_1 : decode cX0_setMark 1 = .ok (.iload_n 1, 1) := by decide +kernel
theorem dX0_setMark_2 : decode cX0_setMark 2 = .ok (.invokevirtual 36, 3) := by decide +kernel
theorem dX0_setMark_5 : decode cX0_setMark 5 = .ok (.ifCond .ne 5, 3) := by decide +kernel
theorem dX0_setMark_8 : decode cX0_setMark 8 = .ok (.iconst 0, 1) := by decide +kernel
theorem dX0_setMark_9 : decode cX0_setMark 9 = .ok (.ireturn, 1) := by decide +kernel
theorem dX13_mark_0 : decode cX13_mark 0 = .ok (.aload_n 0, 1) := by decide +kernel
theorem dX13_mark_1 : decode cX13_mark 1 = .ok (.iconst 0, 1) := by decide +kernel
theorem dX13_mark_2 : decode cX13_mark 2 = .ok (.putfield 170, 3) := by decide +kernel
theorem dX13_mark_5 : decode cX13_mark 5 = .ok (.aload_n 0, 1) := by decide +kernel
theorem dX13_mark_6 : decode cX13_mark 6 = .ok (.iload_n 1, 1) := by decide +kernel
theorem dX13_mark_7 : decode cX13_mark 7 = .ok (.invokevirtual 263, 3) := by decide +kernel
theorem dX13_mark_10 : decode cX13_mark 10 = .ok (.ifCond .ne 5, 3) := by decide +kernel
theorem dX13_mark_13 : decode cX13_mark 13 = .ok (.iconst 0, 1) := by decide +kernel
theorem dX13_mark_14 : decode cX13_mark 14 = .ok (.ireturn, 1) := by decide +kernel
theorem dX11_tidy_0 : decode cX11_tidy 0 = .ok (.aload_n 0, 1) := by decide +kernel
theorem dX11_tidy_1 : decode cX11_tidy 1 = .ok (.getfield 85, 3) := by decide +kernel
theorem dX11_tidy_4 : decode cX11_tidy 4 = .ok (.ifnonnull 14, 3) := by decide +kernel
theorem dX11_tidy_7 : decode cX11_tidy 7 = .ok (.aload_n 0, 1) := by decide +kernel
theorem dX11_tidy_8 : decode cX11_tidy 8 = .ok (.new 35, 3) := by decide +kernel
theorem dX11_tidy_11 : decode cX11_tidy 11 = .ok (.dup, 1) := by decide +kernel
theorem dX11_tidy_12 : decode cX11_tidy 12 = .ok (.invokespecial 37, 3) := by decide +kernel
theorem dX11_tidy_15 : decode cX11_tidy 15 = .ok (.putfield 85, 3) := by decide +kernel
theorem dX11_tidy_18 : decode cX11_tidy 18 = .ok (.aload_n 0, 1) := by decide +kernel
theorem dX11_tidy_19 : decode cX11_tidy 19 = .ok (.getfield 38, 3) := by decide +kernel
theorem dX11_tidy_22 : decode cX11_tidy 22 = .ok (.invokevirtual 145, 3) := by decide +kernel
theorem dX11_tidy_25 : decode cX11_tidy 25 = .ok (.istore_n 1, 1) := by decide +kernel
theorem dX11_tidy_26 : decode cX11_tidy 26 = .ok (.aload_n 0, 1) := by decide +kernel
theorem dX11_tidy_27 : decode cX11_tidy 27 = .ok (.getfield 85, 3) := by decide +kernel
theorem dX11_tidy_30 : decode cX11_tidy 30 = .ok (.invokevirtual 148, 3) := by decide +kernel
theorem dX11_tidy_33 : decode cX11_tidy 33 = .ok (.iconst 0, 1) := by decide +kernel
theorem dX11_tidy_34 : decode cX11_tidy 34 = .ok (.istore_n 2, 1) := by decide +kernel
theorem dX11_tidy_35 : decode cX11_tidy 35 = .ok (.iconst 0, 1) := by decide +kernel
theorem dX11_tidy_36 : decode cX11_tidy 36 = .ok (.istore_n 3, 1) := by decide +kernel
theorem dX11_tidy_37 : decode cX11_tidy 37 = .ok (.iload_n 3, 1) := by decide +kernel
theorem dX11_tidy_38 : decode cX11_tidy 38 = .ok (.aload_n 0, 1) := by decide +kernel
theorem dX11_tidy_39 : decode cX11_tidy 39 = .ok (.getfield 21, 3) := by decide +kernel
theorem dX11_tidy_42 : decode cX11_tidy 42 = .ok (.invokevirtual 109, 3) := by decide +kernel
theorem dX11_tidy_45 : decode cX11_tidy 45 = .ok (.if_icmp .ge 50, 3) := by decide +kernel
theorem dX11_tidy_95 : decode cX11_tidy 95 = .ok (.aload_n 0, 1) := by decide +kernel
theorem dX11_tidy_96 : decode cX11_tidy 96 = .ok (.getfield 21, 3) := by decide +kernel
theorem dX11_tidy_99 : decode cX11_tidy 99 = .ok (.invokevirtual 159, 3) := by decide +kernel
theorem dX11_tidy_102 : decode cX11_tidy 102 = .ok (.aload_n 0, 1) := by decide +kernel
theorem dX11_tidy_103 : decode cX11_tidy 103 = .ok (.getfield 38, 3) := by decide +kernel
theorem dX11_tidy_106 : decode cX11_tidy 106 = .ok (.aload_n 0, 1) := by decide +kernel
theorem dX11_tidy_107 : decode cX11_tidy 107 = .ok (.getfield 85, 3) := by decide +kernel
theorem dX11_tidy_110 : decode cX11_tidy 110 = .ok (.invokevirtual 162, 3) := by decide +kernel
theorem dX11_tidy_113 : decode cX11_tidy 113 = .ok (.iload_n 1, 1) := by decide +kernel
theorem dX11_tidy_114 : decode cX11_tidy 114 = .ok (.aload_n 0, 1) := by decide +kernel
theorem dX11_tidy_115 : decode cX11_tidy 115 = .ok (.getfield 38, 3) := by decide +kernel
theorem dX11_tidy_118 : decode cX11_tidy 118 = .ok (.invokevirtual 145, 3) := by decide +kernel
theorem dX11_tidy_121 : decode cX11_tidy 121 = .ok (.isub, 1) := by decide +kernel
theorem dX11_tidy_122 : decode cX11_tidy 122 = .ok (.ireturn, 1) := by decide +kernel
theorem dX6_clear_0 : decode cX6_clear 0 = .ok (.aload_n 0, 1) := by decide +kernel
theorem dX6_clear_1 : decode cX6_clear 1 = .ok (.getfield 11, 3) := by decide +kernel
theorem dX6_clear_4 : decode cX6_clear 4 = .ok (.iconst 0, 1) := by decide +kernel
theorem dX6_clear_5 : decode cX6_clear 5 = .ok (.invokestatic 76, 3) := by decide +kernel
theorem dX6_clear_8 : decode cX6_clear 8 = .ok (.aload_n 0, 1) := by decide +kernel
theorem dX6_clear_9 : decode cX6_clear 9 = .ok (.getfield 27, 3) := by decide +kernel
theorem dX6_clear_12 : decode cX6_clear 12 = .ok (.iconst 0, 1) := by decide +kernel
theorem dX6_clear_13 : decode cX6_clear 13 = .ok (.invokestatic 76, 3) := by decide +kernel
theorem dX6_clear_16 : decode cX6_clear 16 = .ok (.aload_n 0, 1) := by decide +kernel
theorem dX6_clear_17 : decode cX6_clear 17 = .ok (.getfield 30, 3) := by decide +kernel
theorem dX6_clear_20 : decode cX6_clear 20 = .ok (.iconst 0, 1) := by decide +kernel
theorem dX6_clear_21 : decode cX6_clear 21 = .ok (.invokestatic 76, 3) := by decide +kernel
theorem dX6_clear_24 : decode cX6_clear 24 = .ok (.aload_n 0, 1) := by decide +kernel
theorem dX6_clear_25 : decode cX6_clear 25 = .ok (.getfield 33, 3) := by decide +kernel
theorem dX6_clear_28 : decode cX6_clear 28 = .ok (.iconst 0, 1) := by decide +kernel
theorem dX6_clear_29 : decode cX6_clear 29 = .ok (.invokestatic 76, 3) := by decide +kernel
theorem dX6_clear_32 : decode cX6_clear 32 = .ok (.aload_n 0, 1) := by decide +kernel
theorem dX6_clear_33 : decode cX6_clear 33 = .ok (.iconst 0, 1) := by decide +kernel
theorem dX6_clear_34 : decode cX6_clear 34 = .ok (.putfield 36, 3) := by decide +kernel
theorem dX6_clear_37 : decode cX6_clear 37 = .ok (.aload_n 0, 1) := by decide +kernel
theorem dX6_clear_38 : decode cX6_clear 38 = .ok (.iconst 0, 1) := by decide +kernel
theorem dX6_clear_39 : decode cX6_clear 39 = .ok (.putfield 40, 3) := by decide +kernel
theorem dX6_clear_42 : decode cX6_clear 42 = .ok (.aload_n 0, 1) := by decide +kernel
theorem dX6_clear_43 : decode cX6_clear 43 = .ok (.iconst 0, 1) := by decide +kernel
theorem dX6_clear_44 : decode cX6_clear 44 = .ok (.putfield 43, 3) := by decide +kernel
theorem dX6_clear_47 : decode cX6_clear 47 = .ok (.aload_n 0, 1) := by decide +kernel
theorem dX6_clear_48 : decode cX6_clear 48 = .ok (.iconst 0, 1) := by decide +kernel
theorem dX6_clear_49 : decode cX6_clear 49 = .ok (.putfield 46, 3) := by decide +kernel
theorem dX6_clear_52 : decode cX6_clear 52 = .ok (.return_, 1) := by decide +kernel
theorem dX10_closeRanks_0 : decode cX10_closeRanks 0 = .ok (.iconst 0, 1) := by decide +kernel
theorem dX10_closeRanks_1 : decode cX10_closeRanks 1 = .ok (.istore_n 1, 1) := by decide +kernel
theorem dX10_closeRanks_2 : decode cX10_closeRanks 2 = .ok (.iconst 0, 1) := by decide +kernel
theorem dX10_closeRanks_3 : decode cX10_closeRanks 3 = .ok (.istore_n 2, 1) := by decide +kernel
theorem dX10_closeRanks_4 : decode cX10_closeRanks 4 = .ok (.iload_n 2, 1) := by decide +kernel
theorem dX10_closeRanks_5 : decode cX10_closeRanks 5 = .ok (.aload_n 0, 1) := by decide +kernel
theorem dX10_closeRanks_6 : decode cX10_closeRanks 6 = .ok (.getfield 22, 3) := by decide +kernel
theorem dX10_closeRanks_9 : decode cX10_closeRanks 9 = .ok (.if_icmp .ge 29, 3) := by decide +kernel
theorem dX10_closeRanks_38 : decode cX10_closeRanks 38 = .ok (.iconst 0, 1) := by decide +kernel
theorem dX10_closeRanks_39 : decode cX10_closeRanks 39 = .ok (.istore_n 2, 1) := by decide +kernel
theorem dX10_closeRanks_40 : decode cX10_closeRanks 40 = .ok (.iconst 0, 1) := by decide +kernel
theorem dX10_closeRanks_41 : decode cX10_closeRanks 41 = .ok (.istore_n 3, 1) := by decide +kernel
theorem dX10_closeRanks_42 : decode cX10_closeRanks 42 = .ok (.iload_n 3, 1) := by decide +kernel
theorem dX10_closeRanks_43 : decode cX10_closeRanks 43 = .ok (.aload_n 0, 1) := by decide +kernel
theorem dX10_closeRanks_44 : decode cX10_closeRanks 44 = .ok (.getfield 22, 3) := by decide +kernel
theorem dX10_closeRanks_47 : decode cX10_closeRanks 47 = .ok (.if_icmp .ge 51, 3) := by decide +kernel
theorem dX10_closeRanks_98 : decode cX10_closeRanks 98 = .ok (.aload_n 0, 1) := by decide +kernel
theorem dX10_closeRanks_99 : decode cX10_closeRanks 99 = .ok (.getfield 36, 3) := by decide +kernel
theorem dX10_closeRanks_102 : decode cX10_closeRanks 102 = .ok (.iconst 0, 1) := by decide +kernel
theorem dX10_closeRanks_103 : decode cX10_closeRanks 103 = .ok (.invokestatic 65, 3) := by decide +kernel
theorem dX10_closeRanks_106 : decode cX10_closeRanks 106 = .ok (.aload_n 0, 1) := by decide +kernel
theorem dX10_closeRanks_107 : decode cX10_closeRanks 107 = .ok (.iload_n 1, 1) := by decide +kernel
theorem dX10_closeRanks_108 : decode cX10_closeRanks 108 = .ok (.putfield 22, 3) := by decide +kernel
theorem dX10_closeRanks_111 : decode cX10_closeRanks 111 = .ok (.return_, 1) := by decide +kernel
theorem dX6_copyFrom_0 : decode cX6_copyFrom 0 = .ok (.aload_n 1, 1) := by decide +kernel
theorem dX6_copyFrom_1 : decode cX6_copyFrom 1 = .ok (.getfield 11, 3) := by decide +kernel
theorem dX6_copyFrom_4 : decode cX6_copyFrom 4 = .ok (.iconst 0, 1) := by decide +kernel
theorem dX6_copyFrom_5 : decode cX6_copyFrom 5 = .ok (.aload_n 0, 1) := by decide +kernel
theorem dX6_copyFrom_6 : decode cX6_copyFrom 6 = .ok (.getfield 11, 3) := by decide +kernel
theorem dX6_copyFrom_9 : decode cX6_copyFrom 9 = .ok (.iconst 0, 1) := by decide +kernel
theorem dX6_copyFrom_10 : decode cX6_copyFrom 10 = .ok (.aload_n 0, 1) := by decide +kernel
theorem dX6_copyFrom_11 : decode cX6_copyFrom 11 = .ok (.getfield 11, 3) := by decide +kernel
theorem dX6_copyFrom_14 : decode cX6_copyFrom 14 = .ok (.arraylength, 1) := by decide +kernel
theorem dX6_copyFrom_15 : decode cX6_copyFrom 15 = .ok (.invokestatic 82, 3) := by decide +kernel
theorem dX6_copyFrom_18 : decode cX6_copyFrom 18 = .ok (.aload_n 1, 1) := by decide +kernel
theorem dX6_copyFrom_19 : decode cX6_copyFrom 19 = .ok (.getfield 15, 3) := by decide +kernel
theorem dX6_copyFrom_22 : decode cX6_copyFrom 22 = .ok (.iconst 0, 1) := by decide +kernel
theorem dX6_copyFrom_23 : decode cX6_copyFrom 23 = .ok (.aload_n 0, 1) := by decide +kernel
theorem dX6_copyFrom_24 : decode cX6_copyFrom 24 = .ok (.getfield 15, 3) := by decide +kernel
theorem dX6_copyFrom_27 : decode cX6_copyFrom 27 = .ok (.iconst 0, 1) := by decide +kernel
theorem dX6_copyFrom_28 : decode cX6_copyFrom 28 = .ok (.sipush 833, 3) := by decide +kernel
theorem dX6_copyFrom_31 : decode cX6_copyFrom 31 = .ok (.invokestatic 82, 3) := by decide +kernel
theorem dX6_copyFrom_34 : decode cX6_copyFrom 34 = .ok (.aload_n 1, 1) := by decide +kernel
theorem dX6_copyFrom_35 : decode cX6_copyFrom 35 = .ok (.getfield 18, 3) := by decide +kernel
theorem dX6_copyFrom_38 : decode cX6_copyFrom 38 = .ok (.iconst 0, 1) := by decide +kernel
theorem dX6_copyFrom_39 : decode cX6_copyFrom 39 = .ok (.aload_n 0, 1) := by decide +kernel
theorem dX6_copyFrom_40 : decode cX6_copyFrom 40 = .ok (.getfield 18, 3) := by decide +kernel
theorem dX6_copyFrom_43 : decode cX6_copyFrom 43 = .ok (.iconst 0, 1) := by decide +kernel
theorem dX6_copyFrom_44 : decode cX6_copyFrom 44 = .ok (.sipush 833, 3) := by decide +kernel
theorem dX6_copyFrom_47 : decode cX6_copyFrom 47 = .ok (.invokestatic 82, 3) := by decide +kernel
theorem dX6_copyFrom_50 : decode cX6_copyFrom 50 = .ok (.aload_n 1, 1) := by decide +kernel
theorem dX6_copyFrom_51 : decode cX6_copyFrom 51 = .ok (.getfield 21, 3) := by decide +kernel
theorem dX6_copyFrom_54 : decode cX6_copyFrom 54 = .ok (.iconst 0, 1) := by decide +kernel
theorem dX6_copyFrom_55 : decode cX6_copyFrom 55 = .ok (.aload_n 0, 1) := by decide +kernel
theorem dX6_copyFrom_56 : decode cX6_copyFrom 56 = .ok (.getfield 21, 3) := by decide +kernel
theorem dX6_copyFrom_59 : decode cX6_copyFrom 59 = .ok (.iconst 0, 1) := by decide +kernel
theorem dX6_copyFrom_60 : decode cX6_copyFrom 60 = .ok (.sipush 400, 3) := by decide +kernel
theorem dX6_copyFrom_63 : decode cX6_copyFrom 63 = .ok (.invokestatic 82, 3) := by decide +kernel
theorem dX6_copyFrom_66 : decode cX6_copyFrom 66 = .ok (.aload_n 1, 1) := by decide +kernel
theorem dX6_copyFrom_67 : decode cX6_copyFrom 67 = .ok (.getfield 24, 3) := by decide +kernel
theorem dX6_copyFrom_70 : decode cX6_copyFrom 70 = .ok (.iconst 0, 1) := by decide +kernel
theorem dX6_copyFrom_71 : decode cX6_copyFrom 71 = .ok (.aload_n 0, 1) := by decide +kernel
theorem dX6_copyFrom_72 : decode cX6_copyFrom 72 = .ok (.getfield 24, 3) := by decide +kernel
theorem dX6_copyFrom_75 : decode cX6_copyFrom 75 = .ok (.iconst 0, 1) := by decide +kernel
theorem dX6_copyFrom_76 : decode cX6_copyFrom 76 = .ok (.sipush 400, 3) := by decide +kernel
theorem dX6_copyFrom_79 : decode cX6_copyFrom 79 = .ok (.invokestatic 82, 3) := by decide +kernel
theorem dX6_copyFrom_82 : decode cX6_copyFrom 82 = .ok (.aload_n 1, 1) := by decide +kernel
theorem dX6_copyFrom_83 : decode cX6_copyFrom 83 = .ok (.getfield 27, 3) := by decide +kernel
theorem dX6_copyFrom_86 : decode cX6_copyFrom 86 = .ok (.iconst 0, 1) := by decide +kernel
theorem dX6_copyFrom_87 : decode cX6_copyFrom 87 = .ok (.aload_n 0, 1) := by decide +kernel
theorem dX6_copyFrom_88 : decode cX6_copyFrom 88 = .ok (.getfield 27, 3) := by decide +kernel
theorem dX6_copyFrom_91 : decode cX6_copyFrom 91 = .ok (.iconst 0, 1) := by decide +kernel
theorem dX6_copyFrom_92 : decode cX6_copyFrom 92 = .ok (.sipush 400, 3) := by decide +kernel
theorem dX6_copyFrom_95 : decode cX6_copyFrom 95 = .ok (.invokestatic 82, 3) := by decide +kernel
theorem dX6_copyFrom_98 : decode cX6_copyFrom 98 = .ok (.aload_n 1, 1) := by decide +kernel
theorem dX6_copyFrom_99 : decode cX6_copyFrom 99 = .ok (.getfield 30, 3) := by decide +kernel
theorem dX6_copyFrom_102 : decode cX6_copyFrom 102 = .ok (.iconst 0, 1) := by decide +kernel
theorem dX6_copyFrom_103 : decode cX6_copyFrom 103 = .ok (.aload_n 0, 1) := by decide +kernel
theorem dX6_copyFrom_104 : decode cX6_copyFrom 104 = .ok (.getfield 30, 3) := by decide +kernel
theorem dX6_copyFrom_107 : decode cX6_copyFrom 107 = .ok (.iconst 0, 1) := by decide +kernel
theorem dX6_copyFrom_108 : decode cX6_copyFrom 108 = .ok (.sipush 400, 3) := by decide +kernel
theorem dX6_copyFrom_111 : decode cX6_copyFrom 111 = .ok (.invokestatic 82, 3) := by decide +kernel
theorem dX6_copyFrom_114 : decode cX6_copyFrom 114 = .ok (.aload_n 1, 1) := by decide +kernel
theorem dX6_copyFrom_115 : decode cX6_copyFrom 115 = .ok (.getfield 33, 3) := by decide +kernel
theorem dX6_copyFrom_118 : decode cX6_copyFrom 118 = .ok (.iconst 0, 1) := by decide +kernel
theorem dX6_copyFrom_119 : decode cX6_copyFrom 119 = .ok (.aload_n 0, 1) := by decide +kernel
theorem dX6_copyFrom_120 : decode cX6_copyFrom 120 = .ok (.getfield 33, 3) := by decide +kernel
theorem dX6_copyFrom_123 : decode cX6_copyFrom 123 = .ok (.iconst 0, 1) := by decide +kernel
theorem dX6_copyFrom_124 : decode cX6_copyFrom 124 = .ok (.sipush 400, 3) := by decide +kernel
theorem dX6_copyFrom_127 : decode cX6_copyFrom 127 = .ok (.invokestatic 82, 3) := by decide +kernel
theorem dX6_copyFrom_130 : decode cX6_copyFrom 130 = .ok (.aload_n 0, 1) := by decide +kernel
theorem dX6_copyFrom_131 : decode cX6_copyFrom 131 = .ok (.aload_n 1, 1) := by decide +kernel
theorem dX6_copyFrom_132 : decode cX6_copyFrom 132 = .ok (.getfield 36, 3) := by decide +kernel
theorem dX6_copyFrom_135 : decode cX6_copyFrom 135 = .ok (.putfield 36, 3) := by decide +kernel
theorem dX6_copyFrom_138 : decode cX6_copyFrom 138 = .ok (.aload_n 0, 1) := by decide +kernel
theorem dX6_copyFrom_139 : decode cX6_copyFrom 139 = .ok (.aload_n 1, 1) := by decide +kernel
theorem dX6_copyFrom_140 : decode cX6_copyFrom 140 = .ok (.getfield 40, 3) := by decide +kernel
theorem dX6_copyFrom_143 : decode cX6_copyFrom 143 = .ok (.putfield 40, 3) := by decide +kernel
theorem dX6_copyFrom_146 : decode cX6_copyFrom 146 = .ok (.aload_n 0, 1) := by decide +kernel
theorem dX6_copyFrom_147 : decode cX6_copyFrom 147 = .ok (.aload_n 1, 1) := by decide +kernel
theorem dX6_copyFrom_148 : decode cX6_copyFrom 148 = .ok (.getfield 43, 3) := by decide +kernel
theorem dX6_copyFrom_151 : decode cX6_copyFrom 151 = .ok (.putfield 43, 3) := by decide +kernel
theorem dX6_copyFrom_154 : decode cX6_copyFrom 154 = .ok (.aload_n 0, 1) := by decide +kernel
theorem dX6_copyFrom_155 : decode cX6_copyFrom 155 = .ok (.aload_n 1, 1) := by decide +kernel
theorem dX6_copyFrom_156 : decode cX6_copyFrom 156 = .ok (.getfield 46, 3) := by decide +kernel
theorem dX6_copyFrom_159 : decode cX6_copyFrom 159 = .ok (.putfield 46, 3) := by decide +kernel
theorem dX6_copyFrom_162 : decode cX6_copyFrom 162 = .ok (.return_, 1) := by decide +kernel
theorem dX13_tidy_0 : decode cX13_tidy 0 = .ok (.aload_n 0, 1) := by decide +kernel
theorem dX13_tidy_1 : decode cX13_tidy 1 = .ok (.iconst 0, 1) := by decide +kernel
theorem dX13_tidy_2 : decode cX13_tidy 2 = .ok (.putfield 170, 3) := by decide +kernel
theorem dX13_tidy_5 : decode cX13_tidy 5 = .ok (.aload_n 0, 1) := by decide +kernel
theorem dX13_tidy_6 : decode cX13_tidy 6 = .ok (.invokevirtual 246, 3) := by decide +kernel
theorem dX13_tidy_9 : decode cX13_tidy 9 = .ok (.istore_n 1, 1) := by decide +kernel
theorem dX13_tidy_10 : decode cX13_tidy 10 = .ok (.iconst 0, 1) := by decide +kernel
theorem dX13_tidy_11 : decode cX13_tidy 11 = .ok (.istore_n 2, 1) := by decide +kernel
theorem dX13_tidy_12 : decode cX13_tidy 12 = .ok (.iload_n 2, 1) := by decide +kernel
theorem dX13_tidy_13 : decode cX13_tidy 13 = .ok (.aload_n 0, 1) := by decide +kernel
theorem dX13_tidy_14 : decode cX13_tidy 14 = .ok (.getfield 222, 3) := by decide +kernel
theorem dX13_tidy_17 : decode cX13_tidy 17 = .ok (.if_icmp .ge 65, 3) := by decide +kernel
theorem dX13_tidy_82 : decode cX13_tidy 82 = .ok (.iconst 0, 1) := by decide +kernel
theorem dX13_tidy_83 : decode cX13_tidy 83 = .ok (.istore_n 2, 1) := by decide +kernel
theorem dX13_tidy_84 : decode cX13_tidy 84 = .ok (.iload_n 2, 1) := by decide +kernel
theorem dX13_tidy_85 : decode cX13_tidy 85 = .ok (.aload_n 0, 1) := by decide +kernel
theorem dX13_tidy_86 : decode cX13_tidy 86 = .ok (.getfield 208, 3) := by decide +kernel
theorem dX13_tidy_89 : decode cX13_tidy 89 = .ok (.if_icmp .ge 16, 3) := by decide +kernel
theorem dX13_tidy_105 : decode cX13_tidy 105 = .ok (.iconst 0, 1) := by decide +kernel
theorem dX13_tidy_106 : decode cX13_tidy 106 = .ok (.istore_n 2, 1) := by decide +kernel
theorem dX13_tidy_107 : decode cX13_tidy 107 = .ok (.iload_n 2, 1) := by decide +kernel
theorem dX13_tidy_108 : decode cX13_tidy 108 = .ok (.sipush 1024, 3) := by decide +kernel
theorem dX13_tidy_111 : decode cX13_tidy 111 = .ok (.aload_n 0, 1) := by decide +kernel
theorem dX13_tidy_112 : decode cX13_tidy 112 = .ok (.getfield 222, 3) := by decide +kernel
theorem dX13_tidy_115 : decode cX13_tidy 115 = .ok (.imul, 1) := by decide +kernel
theorem dX13_tidy_116 : decode cX13_tidy 116 = .ok (.if_icmp .ge 35, 3) := by decide +kernel
theorem dX13_tidy_151 : decode cX13_tidy 151 = .ok (.iconst 0, 1) := by decide +kernel
theorem dX13_tidy_152 : decode cX13_tidy 152 = .ok (.istore_n 2, 1) := by decide +kernel
theorem dX13_tidy_153 : decode cX13_tidy 153 = .ok (.iload_n 2, 1) := by decide +kernel
theorem dX13_tidy_154 : decode cX13_tidy 154 = .ok (.aload_n 0, 1) := by decide +kernel
theorem dX13_tidy_155 : decode cX13_tidy 155 = .ok (.getfield 208, 3) := by decide +kernel
theorem dX13_tidy_158 : decode cX13_tidy 158 = .ok (.if_icmp .ge 26, 3) := by decide +kernel
theorem dX13_tidy_184 : decode cX13_tidy 184 = .ok (.iload_n 1, 1) := by decide +kernel
theorem dX13_tidy_185 : decode cX13_tidy 185 = .ok (.aload_n 0, 1) := by decide +kernel
theorem dX13_tidy_186 : decode cX13_tidy 186 = .ok (.invokevirtual 246, 3) := by decide +kernel
theorem dX13_tidy_189 : decode cX13_tidy 189 = .ok (.isub, 1) := by decide +kernel
theorem dX13_tidy_190 : decode cX13_tidy 190 = .ok (.ireturn, 1) := by decide +kernel
theorem dX11_stop_0 : decode cX11_stop 0 = .ok (.aload_n 0, 1) := by decide +kernel
theorem dX11_stop_1 : decode cX11_stop 1 = .ok (.getfield 12, 3) := by decide +kernel
theorem dX11_stop_4 : decode cX11_stop 4 = .ok (.invokevirtual 165, 3) := by decide +kernel
theorem dX11_stop_7 : decode cX11_stop 7 = .ok (.lstore_n 2, 1) := by decide +kernel
theorem dX11_stop_8 : decode cX11_stop 8 = .ok (.aload_n 0, 1) := by decide +kernel
theorem dX11_stop_9 : decode cX11_stop 9 = .ok (.getfield 12, 3) := by decide +kernel
theorem dX11_stop_12 : decode cX11_stop 12 = .ok (.invokevirtual 118, 3) := by decide +kernel
theorem dX11_stop_15 : decode cX11_stop 15 = .ok (.lload_n 2, 1) := by decide +kernel
theorem dX11_stop_16 : decode cX11_stop 16 = .ok (.lconst 0, 1) := by decide +kernel
theorem dX11_stop_17 : decode cX11_stop 17 = .ok (.lcmp, 1) := by decide +kernel
theorem dX11_stop_18 : decode cX11_stop 18 = .ok (.ifCond .ne 5, 3) := by decide +kernel
theorem dX11_stop_21 : decode cX11_stop 21 = .ok (.iconst (-1), 1) := by decide +kernel
theorem dX11_stop_22 : decode cX11_stop 22 = .ok (.ireturn, 1) := by decide +kernel
theorem dX9_firstWord_0 : decode cX9_firstWord 0 = .ok (.iconst 0, 1) := by decide +kernel
theorem dX9_firstWord_1 : decode cX9_firstWord 1 = .ok (.istore_n 1, 1) := by decide +kernel
theorem dX9_firstWord_2 : decode cX9_firstWord 2 = .ok (.iload_n 1, 1) := by decide +kernel
theorem dX9_firstWord_3 : decode cX9_firstWord 3 = .ok (.aload_n 0, 1) := by decide +kernel
theorem dX9_firstWord_4 : decode cX9_firstWord 4 = .ok (.getfield 18, 3) := by decide +kernel
theorem dX9_firstWord_7 : decode cX9_firstWord 7 = .ok (.if_icmp .ge 23, 3) := by decide +kernel
theorem dX9_firstWord_30 : decode cX9_firstWord 30 = .ok (.lconst 0, 1) := by decide +kernel
theorem dX9_firstWord_31 : decode cX9_firstWord 31 = .ok (.lreturn, 1) := by decide +kernel
theorem dX13_stop_0 : decode cX13_stop 0 = .ok (.aload_n 0, 1) := by decide +kernel
theorem dX13_stop_1 : decode cX13_stop 1 = .ok (.iconst 0, 1) := by decide +kernel
theorem dX13_stop_2 : decode cX13_stop 2 = .ok (.putfield 170, 3) := by decide +kernel
theorem dX13_stop_5 : decode cX13_stop 5 = .ok (.aload_n 0, 1) := by decide +kernel
theorem dX13_stop_6 : decode cX13_stop 6 = .ok (.invokevirtual 275, 3) := by decide +kernel
theorem dX13_stop_9 : decode cX13_stop 9 = .ok (.ifCond .ne 5, 3) := by decide +kernel
theorem dX13_stop_12 : decode cX13_stop 12 = .ok (.iconst (-1), 1) := by decide +kernel
theorem dX13_stop_13 : decode cX13_stop 13 = .ok (.ireturn, 1) := by decide +kernel
theorem dX13_takesToken_0 : decode cX13_takesToken 0 = .ok (.aload_n 0, 1) := by decide +kernel
theorem dX13_takesToken_1 : decode cX13_takesToken 1 = .ok (.getfield 173, 3) := by decide +kernel
theorem dX13_takesToken_4 : decode cX13_takesToken 4 = .ok (.istore_n 1, 1) := by decide +kernel
theorem dX13_takesToken_5 : decode cX13_takesToken 5 = .ok (.aload_n 0, 1) := by decide +kernel
theorem dX13_takesToken_6 : decode cX13_takesToken 6 = .ok (.iconst 0, 1) := by decide +kernel
theorem dX13_takesToken_7 : decode cX13_takesToken 7 = .ok (.putfield 173, 3) := by decide +kernel
theorem dX13_takesToken_10 : decode cX13_takesToken 10 = .ok (.aload_n 0, 1) := by decide +kernel
theorem dX13_takesToken_11 : decode cX13_takesToken 11 = .ok (.iconst 0, 1) := by decide +kernel
theorem dX13_takesToken_12 : decode cX13_takesToken 12 = .ok (.iload_n 1, 1) := by decide +kernel
theorem dX13_takesToken_13 : decode cX13_takesToken 13 = .ok (.invokevirtual 272, 3) := by decide +kernel
theorem dX13_takesToken_16 : decode cX13_takesToken 16 = .ok (.istore_n 2, 1) := by decide +kernel
theorem dX13_takesToken_17 : decode cX13_takesToken 17 = .ok (.iload_n 2, 1) := by decide +kernel
theorem dX13_takesToken_18 : decode cX13_takesToken 18 = .ok (.iload_n 1, 1) := by decide +kernel
theorem dX13_takesToken_19 : decode cX13_takesToken 19 = .ok (.if_icmp .ne 5, 3) := by decide +kernel
theorem dX13_takesToken_22 : decode cX13_takesToken 22 = .ok (.iconst 0, 1) := by decide +kernel
theorem dX13_takesToken_23 : decode cX13_takesToken 23 = .ok (.ireturn, 1) := by decide +kernel
theorem dX13_runFrom_0 : decode cX13_runFrom 0 = .ok (.iload_n 1, 1) := by decide +kernel
theorem dX13_runFrom_1 : decode cX13_runFrom 1 = .ok (.istore_n 3, 1) := by decide +kernel
theorem dX13_runFrom_2 : decode cX13_runFrom 2 = .ok (.iload_n 3, 1) := by decide +kernel
theorem dX13_runFrom_3 : decode cX13_runFrom 3 = .ok (.iload_n 2, 1) := by decide +kernel
theorem dX13_runFrom_4 : decode cX13_runFrom 4 = .ok (.if_icmp .ge 21, 3) := by decide +kernel
theorem dX13_runFrom_25 : decode cX13_runFrom 25 = .ok (.iload_n 3, 1) := by decide +kernel
theorem dX13_runFrom_26 : decode cX13_runFrom 26 = .ok (.ireturn, 1) := by decide +kernel
theorem dL_document_0 : decode cL_document 0 = .ok (.aload_n 3, 1) := by decide +kernel
theorem dL_document_1 : decode cL_document 1 = .ok (.iconst 0, 1) := by decide +kernel
theorem dL_document_2 : decode cL_document 2 = .ok (.aload_n 0, 1) := by decide +kernel
theorem dL_document_3 : decode cL_document 3 = .ok (.iload_n 1, 1) := by decide +kernel
theorem dL_document_4 : decode cL_document 4 = .ok (.iload_n 2, 1) := by decide +kernel
theorem dL_document_5 : decode cL_document 5 = .ok (.invokevirtual 7, 3) := by decide +kernel
theorem dL_document_13 : decode cL_document 13 = .ok (.astore 4, 2) := by decide +kernel
theorem dL_document_15 : decode cL_document 15 = .ok (.iconst 1, 1) := by decide +kernel
theorem dL_document_16 : decode cL_document 16 = .ok (.ireturn, 1) := by decide +kernel
theorem dX11_document_0 : decode cX11_document 0 = .ok (.aload_n 0, 1) := by decide +kernel
theorem dX11_document_1 : decode cX11_document 1 = .ok (.getfield 31, 3) := by decide +kernel
theorem dX11_document_4 : decode cX11_document 4 = .ok (.iload_n 1, 1) := by decide +kernel
theorem dX11_document_5 : decode cX11_document 5 = .ok (.invokevirtual 179, 3) := by decide +kernel
theorem dX11_document_8 : decode cX11_document 8 = .ok (.ifCond .ne 13, 3) := by decide +kernel
theorem dX11_document_11 : decode cX11_document 11 = .ok (.new 182, 3) := by decide +kernel
theorem dX11_document_14 : decode cX11_document 14 = .ok (.dup, 1) := by decide +kernel
theorem dX11_document_15 : decode cX11_document 15 = .ok (.ldc 184, 2) := by decide +kernel
theorem dX11_document_17 : decode cX11_document 17 = .ok (.invokespecial 186, 3) := by decide +kernel
theorem dX11_document_20 : decode cX11_document 20 = .ok (.athrow, 1) := by decide +kernel
theorem dX13_document_0 : decode cX13_document 0 = .ok (.aload_n 0, 1) := by decide +kernel
theorem dX13_document_1 : decode cX13_document 1 = .ok (.iconst 0, 1) := by decide +kernel
theorem dX13_document_2 : decode cX13_document 2 = .ok (.putfield 170, 3) := by decide +kernel
theorem dX13_document_5 : decode cX13_document 5 = .ok (.aload_n 0, 1) := by decide +kernel
theorem dX13_document_6 : decode cX13_document 6 = .ok (.iload_n 1, 1) := by decide +kernel
theorem dX13_document_7 : decode cX13_document 7 = .ok (.invokevirtual 260, 3) := by decide +kernel
theorem dX13_document_10 : decode cX13_document 10 = .ok (.ifCond .ne 8, 3) := by decide +kernel
theorem dX13_document_13 : decode cX13_document 13 = .ok (.aload_n 0, 1) := by decide +kernel
theorem dX13_document_14 : decode cX13_document 14 = .ok (.invokevirtual 279, 3) := by decide +kernel
theorem dX13_document_17 : decode cX13_document 17 = .ok (.ireturn, 1) := by decide +kernel
theorem dX13_refuse_0 : decode cX13_refuse 0 = .ok (.aload_n 0, 1) := by decide +kernel
theorem dX13_refuse_1 : decode cX13_refuse 1 = .ok (.iconst 1, 1) := by decide +kernel
theorem dX13_refuse_2 : decode cX13_refuse 2 = .ok (.putfield 170, 3) := by decide +kernel
theorem dX13_refuse_5 : decode cX13_refuse 5 = .ok (.iconst 0, 1) := by decide +kernel
theorem dX13_refuse_6 : decode cX13_refuse 6 = .ok (.ireturn, 1) := by decide +kernel
theorem dX13_thrown_0 : decode cX13_thrown 0 = .ok (.aload_n 0, 1) := by decide +kernel
theorem dX13_thrown_1 : decode cX13_thrown 1 = .ok (.getfield 170, 3) := by decide +kernel
theorem dX13_thrown_4 : decode cX13_thrown 4 = .ok (.ireturn, 1) := by decide +kernel
theorem dX11_look_0 : decode cX11_look 0 = .ok (.aload_n 0, 1) := by decide +kernel
theorem dX11_look_1 : decode cX11_look 1 = .ok (.aload_n 0, 1) := by decide +kernel
theorem dX11_look_2 : decode cX11_look 2 = .ok (.getfield 12, 3) := by decide +kernel
theorem dX11_look_5 : decode cX11_look 5 = .ok (.invokevirtual 165, 3) := by decide +kernel
theorem dX11_look_8 : decode cX11_look 8 = .ok (.putfield 90, 3) := by decide +kernel
theorem dX11_look_11 : decode cX11_look 11 = .ok (.aload_n 0, 1) := by decide +kernel
theorem dX11_look_12 : decode cX11_look 12 = .ok (.getfield 12, 3) := by decide +kernel
theorem dX11_look_15 : decode cX11_look 15 = .ok (.invokevirtual 118, 3) := by decide +kernel
theorem dX11_look_18 : decode cX11_look 18 = .ok (.aload_n 0, 1) := by decide +kernel
theorem dX11_look_19 : decode cX11_look 19 = .ok (.getfield 38, 3) := by decide +kernel
theorem dX11_look_22 : decode cX11_look 22 = .ok (.aload_n 0, 1) := by decide +kernel
theorem dX11_look_23 : decode cX11_look 23 = .ok (.getfield 21, 3) := by decide +kernel
theorem dX11_look_26 : decode cX11_look 26 = .ok (.aload_n 0, 1) := by decide +kernel
theorem dX11_look_27 : decode cX11_look 27 = .ok (.getfield 90, 3) := by decide +kernel
theorem dX11_look_30 : decode cX11_look 30 = .ok (.invokevirtual 201, 3) := by decide +kernel
theorem dX11_look_33 : decode cX11_look 33 = .ok (.invokevirtual 204, 3) := by decide +kernel
theorem dX11_look_36 : decode cX11_look 36 = .ok (.ireturn, 1) := by decide +kernel
theorem dX10_idOf_0 : decode cX10_idOf 0 = .ok (.aload_n 0, 1) := by decide +kernel
theorem dX10_idOf_1 : decode cX10_idOf 1 = .ok (.aload_n 0, 1) := by decide +kernel
theorem dX10_idOf_2 : decode cX10_idOf 2 = .ok (.lload_n 1, 1) := by decide +kernel
theorem dX10_idOf_3 : decode cX10_idOf 3 = .ok (.invokevirtual 45, 3) := by decide +kernel
theorem dX10_idOf_6 : decode cX10_idOf 6 = .ok (.invokevirtual 48, 3) := by decide +kernel
theorem dX10_idOf_9 : decode cX10_idOf 9 = .ok (.ireturn, 1) := by decide +kernel
theorem dX10_rankOf_0 : decode cX10_rankOf 0 = .ok (.aload_n 0, 1) := by decide +kernel
theorem dX10_rankOf_1 : decode cX10_rankOf 1 = .ok (.lload_n 1, 1) := by decide +kernel
theorem dX10_rankOf_2 : decode cX10_rankOf 2 = .ok (.invokevirtual 41, 3) := by decide +kernel
theorem dX10_rankOf_5 : decode cX10_rankOf 5 = .ok (.istore_n 3, 1) := by decide +kernel
theorem dX10_rankOf_6 : decode cX10_rankOf 6 = .ok (.iload_n 3, 1) := by decide +kernel
theorem dX10_rankOf_7 : decode cX10_rankOf 7 = .ok (.aload_n 0, 1) := by decide +kernel
theorem dX10_rankOf_8 : decode cX10_rankOf 8 = .ok (.getfield 22, 3) := by decide +kernel
theorem dX10_rankOf_11 : decode cX10_rankOf 11 = .ok (.if_icmp .ge 18, 3) := by decide +kernel
theorem dX10_rankOf_29 : decode cX10_rankOf 29 = .ok (.iconst (-1), 1) := by decide +kernel
theorem dX10_rankOf_30 : decode cX10_rankOf 30 = .ok (.ireturn, 1) := by decide +kernel
theorem dX10_rankAhead_0 : decode cX10_rankAhead 0 = .ok (.iconst 0, 1) := by decide +kernel
theorem dX10_rankAhead_1 : decode cX10_rankAhead 1 = .ok (.istore_n 3, 1) := by decide +kernel
theorem dX10_rankAhead_2 : decode cX10_rankAhead 2 = .ok (.aload_n 0, 1) := by decide +kernel
theorem dX10_rankAhead_3 : decode cX10_rankAhead 3 = .ok (.getfield 22, 3) := by decide +kernel
theorem dX10_rankAhead_6 : decode cX10_rankAhead 6 = .ok (.istore 4, 2) := by decide +kernel
theorem dX10_rankAhead_8 : decode cX10_rankAhead 8 = .ok (.iload_n 3, 1) := by decide +kernel
theorem dX10_rankAhead_9 : decode cX10_rankAhead 9 = .ok (.iload 4, 2) := by decide +kernel
theorem dX10_rankAhead_11 : decode cX10_rankAhead 11 = .ok (.if_icmp .ge 38, 3) := by decide +kernel
theorem dX10_rankAhead_49 : decode cX10_rankAhead 49 = .ok (.iload_n 3, 1) := by decide +kernel
theorem dX10_rankAhead_50 : decode cX10_rankAhead 50 = .ok (.ireturn, 1) := by decide +kernel
theorem dX10_idAt_0 : decode cX10_idAt 0 = .ok (.iload_n 1, 1) := by decide +kernel
theorem dX10_idAt_1 : decode cX10_idAt 1 = .ok (.ifCond .lt 20, 3) := by decide +kernel
theorem dX10_idAt_21 : decode cX10_idAt 21 = .ok (.iconst (-1), 1) := by decide +kernel
theorem dX10_idAt_22 : decode cX10_idAt 22 = .ok (.ireturn, 1) := by decide +kernel
theorem dX6_documentsOf_0 : decode cX6_documentsOf 0 = .ok (.iload_n 1, 1) := by decide +kernel
theorem dX6_documentsOf_1 : decode cX6_documentsOf 1 = .ok (.invokestatic 62, 3) := by decide +kernel
theorem dX6_documentsOf_4 : decode cX6_documentsOf 4 = .ok (.ifCond .eq 12, 3) := by decide +kernel
theorem dX6_documentsOf_16 : decode cX6_documentsOf 16 = .ok (.iconst 0, 1) := by decide +kernel
theorem dX6_documentsOf_17 : decode cX6_documentsOf 17 = .ok (.ireturn, 1) := by decide +kernel
theorem dX6_isId_0 : decode cX6_isId 0 = .ok (.iload_n 0, 1) := by decide +kernel
theorem dX6_isId_1 : decode cX6_isId 1 = .ok (.ifCond .lt 14, 3) := by decide +kernel
theorem dX6_isId_15 : decode cX6_isId 15 = .ok (.iconst 0, 1) := by decide +kernel
theorem dX6_isId_16 : decode cX6_isId 16 = .ok (.ireturn, 1) := by decide +kernel
theorem dX13_look_0 : decode cX13_look 0 = .ok (.aload_n 0, 1) := by decide +kernel
theorem dX13_look_1 : decode cX13_look 1 = .ok (.iconst 0, 1) := by decide +kernel
theorem dX13_look_2 : decode cX13_look 2 = .ok (.putfield 170, 3) := by decide +kernel
theorem dX13_look_5 : decode cX13_look 5 = .ok (.aload_n 0, 1) := by decide +kernel
theorem dX13_look_6 : decode cX13_look 6 = .ok (.invokevirtual 275, 3) := by decide +kernel
theorem dX13_look_9 : decode cX13_look 9 = .ok (.ifCond .ne 10, 3) := by decide +kernel
theorem dX13_look_12 : decode cX13_look 12 = .ok (.aload_n 0, 1) := by decide +kernel
theorem dX13_look_13 : decode cX13_look 13 = .ok (.iconst 0, 1) := by decide +kernel
theorem dX13_look_14 : decode cX13_look 14 = .ok (.putfield 56, 3) := by decide +kernel
theorem dX13_look_17 : decode cX13_look 17 = .ok (.iconst 0, 1) := by decide +kernel
theorem dX13_look_18 : decode cX13_look 18 = .ok (.ireturn, 1) := by decide +kernel
theorem dX11_posting_0 : decode cX11_posting 0 = .ok (.aload_n 0, 1) := by decide +kernel
theorem dX11_posting_1 : decode cX11_posting 1 = .ok (.getfield 90, 3) := by decide +kernel
theorem dX11_posting_4 : decode cX11_posting 4 = .ok (.ldc2_w 88, 3) := by decide +kernel
theorem dX11_posting_7 : decode cX11_posting 7 = .ok (.lcmp, 1) := by decide +kernel
theorem dX11_posting_8 : decode cX11_posting 8 = .ok (.ifCond .eq 12, 3) := by decide +kernel
theorem dX11_posting_20 : decode cX11_posting 20 = .ok (.iconst (-1), 1) := by decide +kernel
theorem dX11_posting_21 : decode cX11_posting 21 = .ok (.ireturn, 1) := by decide +kernel
theorem dX13_posting_0 : decode cX13_posting 0 = .ok (.aload_n 0, 1) := by decide +kernel
theorem dX13_posting_1 : decode cX13_posting 1 = .ok (.iconst 0, 1) := by decide +kernel
theorem dX13_posting_2 : decode cX13_posting 2 = .ok (.putfield 170, 3) := by decide +kernel
theorem dX13_posting_5 : decode cX13_posting 5 = .ok (.aload_n 0, 1) := by decide +kernel
theorem dX13_posting_6 : decode cX13_posting 6 = .ok (.getfield 56, 3) := by decide +kernel
theorem dX13_posting_9 : decode cX13_posting 9 = .ok (.iconst (-1), 1) := by decide +kernel
theorem dX13_posting_10 : decode cX13_posting 10 = .ok (.if_icmp .eq 12, 3) := by decide +kernel
theorem dX13_posting_22 : decode cX13_posting 22 = .ok (.iconst (-1), 1) := by decide +kernel
theorem dX13_posting_23 : decode cX13_posting 23 = .ok (.ireturn, 1) := by decide +kernel
theorem dL_bit_0 : decode cL_bit 0 = .ok (.aload_n 2, 1) := by decide +kernel
theorem dL_bit_1 : decode cL_bit 1 = .ok (.iconst 0, 1) := by decide +kernel
theorem dL_bit_2 : decode cL_bit 2 = .ok (.aload_n 0, 1) := by decide +kernel
theorem dL_bit_3 : decode cL_bit 3 = .ok (.iload_n 1, 1) := by decide +kernel
theorem dL_bit_4 : decode cL_bit 4 = .ok (.invokevirtual 15, 3) := by decide +kernel
theorem dL_bit_12 : decode cL_bit 12 = .ok (.astore_n 3, 1) := by decide +kernel
theorem dL_bit_13 : decode cL_bit 13 = .ok (.iconst 1, 1) := by decide +kernel
theorem dL_bit_14 : decode cL_bit 14 = .ok (.ireturn, 1) := by decide +kernel
theorem dX11_bit_0 : decode cX11_bit 0 = .ok (.aload_n 0, 1) := by decide +kernel
theorem dX11_bit_1 : decode cX11_bit 1 = .ok (.getfield 21, 3) := by decide +kernel
theorem dX11_bit_4 : decode cX11_bit 4 = .ok (.aload_n 0, 1) := by decide +kernel
theorem dX11_bit_5 : decode cX11_bit 5 = .ok (.getfield 90, 3) := by decide +kernel
theorem dX11_bit_8 : decode cX11_bit 8 = .ok (.invokevirtual 201, 3) := by decide +kernel
theorem dX11_bit_11 : decode cX11_bit 11 = .ok (.istore_n 2, 1) := by decide +kernel
theorem dX11_bit_12 : decode cX11_bit 12 = .ok (.iload_n 1, 1) := by decide +kernel
theorem dX11_bit_13 : decode cX11_bit 13 = .ok (.ifCond .lt 15, 3) := by decide +kernel
theorem dX11_bit_16 : decode cX11_bit 16 = .ok (.iload_n 1, 1) := by decide +kernel
theorem dX11_bit_17 : decode cX11_bit 17 = .ok (.aload_n 0, 1) := by decide +kernel
theorem dX11_bit_18 : decode cX11_bit 18 = .ok (.getfield 38, 3) := by decide +kernel
theorem dX11_bit_21 : decode cX11_bit 21 = .ok (.iload_n 2, 1) := by decide +kernel
theorem dX11_bit_22 : decode cX11_bit 22 = .ok (.invokevirtual 207, 3) := by decide +kernel
theorem dX11_bit_25 : decode cX11_bit 25 = .ok (.if_icmp .lt 13, 3) := by decide +kernel
theorem dX11_bit_28 : decode cX11_bit 28 = .ok (.new 182, 3) := by decide +kernel
theorem dX11_bit_31 : decode cX11_bit 31 = .ok (.dup, 1) := by decide +kernel
theorem dX11_bit_32 : decode cX11_bit 32 = .ok (.ldc 220, 2) := by decide +kernel
theorem dX11_bit_34 : decode cX11_bit 34 = .ok (.invokespecial 186, 3) := by decide +kernel
theorem dX11_bit_37 : decode cX11_bit 37 = .ok (.athrow, 1) := by decide +kernel
theorem dX13_bit_0 : decode cX13_bit 0 = .ok (.aload_n 0, 1) := by decide +kernel
theorem dX13_bit_1 : decode cX13_bit 1 = .ok (.iconst 0, 1) := by decide +kernel
theorem dX13_bit_2 : decode cX13_bit 2 = .ok (.putfield 170, 3) := by decide +kernel
theorem dX13_bit_5 : decode cX13_bit 5 = .ok (.aload_n 0, 1) := by decide +kernel
theorem dX13_bit_6 : decode cX13_bit 6 = .ok (.invokevirtual 309, 3) := by decide +kernel
theorem dX13_bit_9 : decode cX13_bit 9 = .ok (.istore_n 2, 1) := by decide +kernel
theorem dX13_bit_10 : decode cX13_bit 10 = .ok (.iload_n 2, 1) := by decide +kernel
theorem dX13_bit_11 : decode cX13_bit 11 = .ok (.iconst (-1), 1) := by decide +kernel
theorem dX13_bit_12 : decode cX13_bit 12 = .ok (.if_icmp .eq 17, 3) := by decide +kernel
theorem dX13_bit_29 : decode cX13_bit 29 = .ok (.aload_n 0, 1) := by decide +kernel
theorem dX13_bit_30 : decode cX13_bit 30 = .ok (.invokevirtual 279, 3) := by decide +kernel
theorem dX13_bit_33 : decode cX13_bit 33 = .ok (.ireturn, 1) := by decide +kernel
theorem dX13_lookedWord_0 : decode cX13_lookedWord 0 = .ok (.aload_n 0, 1) := by decide +kernel
theorem dX13_lookedWord_1 : decode cX13_lookedWord 1 = .ok (.getfield 56, 3) := by decide +kernel
theorem dX13_lookedWord_4 : decode cX13_lookedWord 4 = .ok (.ifCond .gt 5, 3) := by decide +kernel
theorem dX13_lookedWord_7 : decode cX13_lookedWord 7 = .ok (.iconst (-1), 1) := by decide +kernel
theorem dX13_lookedWord_8 : decode cX13_lookedWord 8 = .ok (.ireturn, 1) := by decide +kernel
theorem dX6_bitsOf_0 : decode cX6_bitsOf 0 = .ok (.iload_n 1, 1) := by decide +kernel
theorem dX6_bitsOf_1 : decode cX6_bitsOf 1 = .ok (.invokestatic 62, 3) := by decide +kernel
theorem dX6_bitsOf_4 : decode cX6_bitsOf 4 = .ok (.ifCond .eq 12, 3) := by decide +kernel
theorem dX6_bitsOf_16 : decode cX6_bitsOf 16 = .ok (.iconst 0, 1) := by decide +kernel
theorem dX6_bitsOf_17 : decode cX6_bitsOf 17 = .ok (.ireturn, 1) := by decide +kernel
theorem dX11_count_0 : decode cX11_count 0 = .ok (.iload_n 1, 1) := by decide +kernel
theorem dX11_count_1 : decode cX11_count 1 = .ok (.tableswitch 99 0 6 #[43, 51, 59, 67, 75, 83, 91], 43) := by decide +kernel
theorem dX11_count_44 : decode cX11_count 44 = .ok (.aload_n 0, 1) := by decide +kernel
theorem dX11_count_45 : decode cX11_count 45 = .ok (.getfield 31, 3) := by decide +kernel
theorem dX11_count_48 : decode cX11_count 48 = .ok (.invokevirtual 108, 3) := by decide +kernel
theorem dX11_count_51 : decode cX11_count 51 = .ok (.ireturn, 1) := by decide +kernel
theorem dX11_count_52 : decode cX11_count 52 = .ok (.aload_n 0, 1) := by decide +kernel
theorem dX11_count_53 : decode cX11_count 53 = .ok (.getfield 31, 3) := by decide +kernel
theorem dX11_count_56 : decode cX11_count 56 = .ok (.invokevirtual 226, 3) := by decide +kernel
theorem dX11_count_59 : decode cX11_count 59 = .ok (.ireturn, 1) := by decide +kernel
theorem dX11_count_60 : decode cX11_count 60 = .ok (.aload_n 0, 1) := by decide +kernel
theorem dX11_count_61 : decode cX11_count 61 = .ok (.getfield 21, 3) := by decide +kernel
theorem dX11_count_64 : decode cX11_count 64 = .ok (.invokevirtual 109, 3) := by decide +kernel
theorem dX11_count_67 : decode cX11_count 67 = .ok (.ireturn, 1) := by decide +kernel
theorem dX11_count_68 : decode cX11_count 68 = .ok (.aload_n 0, 1) := by decide +kernel
theorem dX11_count_69 : decode cX11_count 69 = .ok (.getfield 38, 3) := by decide +kernel
theorem dX11_count_72 : decode cX11_count 72 = .ok (.invokevirtual 145, 3) := by decide +kernel
theorem dX11_count_75 : decode cX11_count 75 = .ok (.ireturn, 1) := by decide +kernel
theorem dX11_count_76 : decode cX11_count 76 = .ok (.aload_n 0, 1) := by decide +kernel
theorem dX11_count_77 : decode cX11_count 77 = .ok (.getfield 38, 3) := by decide +kernel
theorem dX11_count_80 : decode cX11_count 80 = .ok (.invokevirtual 229, 3) := by decide +kernel
theorem dX11_count_83 : decode cX11_count 83 = .ok (.ireturn, 1) := by decide +kernel
theorem dX11_count_84 : decode cX11_count 84 = .ok (.aload_n 0, 1) := by decide +kernel
theorem dX11_count_85 : decode cX11_count 85 = .ok (.getfield 25, 3) := by decide +kernel
theorem dX11_count_88 : decode cX11_count 88 = .ok (.invokevirtual 109, 3) := by decide +kernel
theorem dX11_count_91 : decode cX11_count 91 = .ok (.ireturn, 1) := by decide +kernel
theorem dX11_count_92 : decode cX11_count 92 = .ok (.aload_n 0, 1) := by decide +kernel
theorem dX11_count_93 : decode cX11_count 93 = .ok (.getfield 12, 3) := by decide +kernel
theorem dX11_count_96 : decode cX11_count 96 = .ok (.invokevirtual 101, 3) := by decide +kernel
theorem dX11_count_99 : decode cX11_count 99 = .ok (.ireturn, 1) := by decide +kernel
theorem dX11_count_100 : decode cX11_count 100 = .ok (.iconst (-1), 1) := by decide +kernel
theorem dX11_count_101 : decode cX11_count 101 = .ok (.ireturn, 1) := by decide +kernel
theorem dX13_count_0 : decode cX13_count 0 = .ok (.aload_n 0, 1) := by decide +kernel
theorem dX13_count_1 : decode cX13_count 1 = .ok (.iconst 0, 1) := by decide +kernel
theorem dX13_count_2 : decode cX13_count 2 = .ok (.putfield 170, 3) := by decide +kernel
theorem dX13_count_5 : decode cX13_count 5 = .ok (.iload_n 1, 1) := by decide +kernel
theorem dX13_count_6 : decode cX13_count 6 = .ok (.tableswitch 77 0 6 #[42, 47, 52, 57, 62, 67, 72], 42) := by decide +kernel
theorem dX13_count_48 : decode cX13_count 48 = .ok (.aload_n 0, 1) := by decide +kernel
theorem dX13_count_49 : decode cX13_count 49 = .ok (.getfield 222, 3) := by decide +kernel
theorem dX13_count_52 : decode cX13_count 52 = .ok (.ireturn, 1) := by decide +kernel
theorem dX13_count_53 : decode cX13_count 53 = .ok (.aload_n 0, 1) := by decide +kernel
theorem dX13_count_54 : decode cX13_count 54 = .ok (.invokevirtual 325, 3) := by decide +kernel
theorem dX13_count_57 : decode cX13_count 57 = .ok (.ireturn, 1) := by decide +kernel
theorem dX13_count_58 : decode cX13_count 58 = .ok (.aload_n 0, 1) := by decide +kernel
theorem dX13_count_59 : decode cX13_count 59 = .ok (.getfield 208, 3) := by decide +kernel
theorem dX13_count_62 : decode cX13_count 62 = .ok (.ireturn, 1) := by decide +kernel
theorem dX13_count_63 : decode cX13_count 63 = .ok (.aload_n 0, 1) := by decide +kernel
theorem dX13_count_64 : decode cX13_count 64 = .ok (.invokevirtual 246, 3) := by decide +kernel
theorem dX13_count_67 : decode cX13_count 67 = .ok (.ireturn, 1) := by decide +kernel
theorem dX13_count_68 : decode cX13_count 68 = .ok (.aload_n 0, 1) := by decide +kernel
theorem dX13_count_69 : decode cX13_count 69 = .ok (.invokevirtual 328, 3) := by decide +kernel
theorem dX13_count_72 : decode cX13_count 72 = .ok (.ireturn, 1) := by decide +kernel
theorem dX13_count_73 : decode cX13_count 73 = .ok (.aload_n 0, 1) := by decide +kernel
theorem dX13_count_74 : decode cX13_count 74 = .ok (.getfield 215, 3) := by decide +kernel
theorem dX13_count_77 : decode cX13_count 77 = .ok (.ireturn, 1) := by decide +kernel
theorem dX13_count_78 : decode cX13_count 78 = .ok (.aload_n 0, 1) := by decide +kernel
theorem dX13_count_79 : decode cX13_count 79 = .ok (.getfield 173, 3) := by decide +kernel
theorem dX13_count_82 : decode cX13_count 82 = .ok (.ireturn, 1) := by decide +kernel
theorem dX13_count_83 : decode cX13_count 83 = .ok (.iconst (-1), 1) := by decide +kernel
theorem dX13_count_84 : decode cX13_count 84 = .ok (.ireturn, 1) := by decide +kernel
theorem dX0_onShelf_0 : decode cX0_onShelf 0 = .ok (.aload_n 0, 1) := by decide +kernel
theorem dX0_onShelf_1 : decode cX0_onShelf 1 = .ok (.getfield 29, 3) := by decide +kernel
theorem dX0_onShelf_4 : decode cX0_onShelf 4 = .ok (.ireturn, 1) := by decide +kernel
theorem dX13_standing_0 : decode cX13_standing 0 = .ok (.iconst 0, 1) := by decide +kernel
theorem dX13_standing_1 : decode cX13_standing 1 = .ok (.istore_n 1, 1) := by decide +kernel
theorem dX13_standing_2 : decode cX13_standing 2 = .ok (.iconst 0, 1) := by decide +kernel
theorem dX13_standing_3 : decode cX13_standing 3 = .ok (.istore_n 2, 1) := by decide +kernel
theorem dX13_standing_4 : decode cX13_standing 4 = .ok (.iload_n 2, 1) := by decide +kernel
theorem dX13_standing_5 : decode cX13_standing 5 = .ok (.aload_n 0, 1) := by decide +kernel
theorem dX13_standing_6 : decode cX13_standing 6 = .ok (.getfield 222, 3) := by decide +kernel
theorem dX13_standing_9 : decode cX13_standing 9 = .ok (.if_icmp .ge 26, 3) := by decide +kernel
theorem dX13_standing_35 : decode cX13_standing 35 = .ok (.iload_n 1, 1) := by decide +kernel
theorem dX13_standing_36 : decode cX13_standing 36 = .ok (.ireturn, 1) := by decide +kernel
theorem dX6_allBits_0 : decode cX6_allBits 0 = .ok (.aload_n 0, 1) := by decide +kernel
theorem dX6_allBits_1 : decode cX6_allBits 1 = .ok (.getfield 43, 3) := by decide +kernel
theorem dX6_allBits_4 : decode cX6_allBits 4 = .ok (.ireturn, 1) := by decide +kernel
theorem dX13_allBits_0 : decode cX13_allBits 0 = .ok (.aload_n 0, 1) := by decide +kernel
theorem dX13_allBits_1 : decode cX13_allBits 1 = .ok (.invokevirtual 297, 3) := by decide +kernel
theorem dX13_allBits_4 : decode cX13_allBits 4 = .ok (.iconst 0, 1) := by decide +kernel
theorem dX13_allBits_5 : decode cX13_allBits 5 = .ok (.istore_n 1, 1) := by decide +kernel
theorem dX13_allBits_6 : decode cX13_allBits 6 = .ok (.iconst 0, 1) := by decide +kernel
theorem dX13_allBits_7 : decode cX13_allBits 7 = .ok (.istore_n 2, 1) := by decide +kernel
theorem dX13_allBits_8 : decode cX13_allBits 8 = .ok (.iload_n 2, 1) := by decide +kernel
theorem dX13_allBits_9 : decode cX13_allBits 9 = .ok (.aload_n 0, 1) := by decide +kernel
theorem dX13_allBits_10 : decode cX13_allBits 10 = .ok (.getfield 208, 3) := by decide +kernel
theorem dX13_allBits_13 : decode cX13_allBits 13 = .ok (.if_icmp .ge 18, 3) := by decide +kernel
theorem dX13_allBits_31 : decode cX13_allBits 31 = .ok (.iload_n 1, 1) := by decide +kernel
theorem dX13_allBits_32 : decode cX13_allBits 32 = .ok (.ireturn, 1) := by decide +kernel
theorem dL_letter_0 : decode cL_letter 0 = .ok (.aload_n 3, 1) := by decide +kernel
theorem dL_letter_1 : decode cL_letter 1 = .ok (.iconst 0, 1) := by decide +kernel
theorem dL_letter_2 : decode cL_letter 2 = .ok (.aload_n 0, 1) := by decide +kernel
theorem dL_letter_3 : decode cL_letter 3 = .ok (.iload_n 1, 1) := by decide +kernel
theorem dL_letter_4 : decode cL_letter 4 = .ok (.iload_n 2, 1) := by decide +kernel
theorem dL_letter_5 : decode cL_letter 5 = .ok (.invokevirtual 19, 3) := by decide +kernel
theorem dL_letter_13 : decode cL_letter 13 = .ok (.astore 4, 2) := by decide +kernel
theorem dL_letter_15 : decode cL_letter 15 = .ok (.iconst 1, 1) := by decide +kernel
theorem dL_letter_16 : decode cL_letter 16 = .ok (.ireturn, 1) := by decide +kernel
theorem dX11_letter_0 : decode cX11_letter 0 = .ok (.iload_n 1, 1) := by decide +kernel
theorem dX11_letter_1 : decode cX11_letter 1 = .ok (.ifCond .lt 18, 3) := by decide +kernel
theorem dX11_letter_4 : decode cX11_letter 4 = .ok (.iload_n 1, 1) := by decide +kernel
theorem dX11_letter_5 : decode cX11_letter 5 = .ok (.aload_n 0, 1) := by decide +kernel
theorem dX11_letter_6 : decode cX11_letter 6 = .ok (.getfield 21, 3) := by decide +kernel
theorem dX11_letter_9 : decode cX11_letter 9 = .ok (.invokevirtual 109, 3) := by decide +kernel
theorem dX11_letter_12 : decode cX11_letter 12 = .ok (.if_icmp .ge 7, 3) := by decide +kernel
theorem dX11_letter_19 : decode cX11_letter 19 = .ok (.new 182, 3) := by decide +kernel
theorem dX11_letter_22 : decode cX11_letter 22 = .ok (.dup, 1) := by decide +kernel
theorem dX11_letter_23 : decode cX11_letter 23 = .ok (.ldc 232, 2) := by decide +kernel
theorem dX11_letter_25 : decode cX11_letter 25 = .ok (.invokespecial 186, 3) := by decide +kernel
theorem dX11_letter_28 : decode cX11_letter 28 = .ok (.athrow, 1) := by decide +kernel
theorem dX13_letter_0 : decode cX13_letter 0 = .ok (.aload_n 0, 1) := by decide +kernel
theorem dX13_letter_1 : decode cX13_letter 1 = .ok (.iconst 0, 1) := by decide +kernel
theorem dX13_letter_2 : decode cX13_letter 2 = .ok (.putfield 170, 3) := by decide +kernel
theorem dX13_letter_5 : decode cX13_letter 5 = .ok (.iload_n 1, 1) := by decide +kernel
theorem dX13_letter_6 : decode cX13_letter 6 = .ok (.ifCond .lt 15, 3) := by decide +kernel
theorem dX13_letter_9 : decode cX13_letter 9 = .ok (.iload_n 1, 1) := by decide +kernel
theorem dX13_letter_10 : decode cX13_letter 10 = .ok (.aload_n 0, 1) := by decide +kernel
theorem dX13_letter_11 : decode cX13_letter 11 = .ok (.getfield 208, 3) := by decide +kernel
theorem dX13_letter_14 : decode cX13_letter 14 = .ok (.if_icmp .ge 7, 3) := by decide +kernel
theorem dX13_letter_21 : decode cX13_letter 21 = .ok (.aload_n 0, 1) := by decide +kernel
theorem dX13_letter_22 : decode cX13_letter 22 = .ok (.invokevirtual 279, 3) := by decide +kernel
theorem dX13_letter_25 : decode cX13_letter 25 = .ok (.ireturn, 1) := by decide +kernel
theorem dX11_search_0 : decode cX11_search 0 = .ok (.aload_n 0, 1) := by decide +kernel
theorem dX11_search_1 : decode cX11_search 1 = .ok (.getfield 72, 3) := by decide +kernel
theorem dX11_search_4 : decode cX11_search 4 = .ok (.invokevirtual 242, 3) := by decide +kernel
theorem dX11_search_7 : decode cX11_search 7 = .ok (.istore_n 1, 1) := by decide +kernel
theorem dX11_search_8 : decode cX11_search 8 = .ok (.aload_n 0, 1) := by decide +kernel
theorem dX11_search_9 : decode cX11_search 9 = .ok (.getfield 12, 3) := by decide +kernel
theorem dX11_search_12 : decode cX11_search 12 = .ok (.invokevirtual 118, 3) := by decide +kernel
theorem dX11_search_15 : decode cX11_search 15 = .ok (.iload_n 1, 1) := by decide +kernel
theorem dX11_search_16 : decode cX11_search 16 = .ok (.ifCond .eq 10, 3) := by decide +kernel
theorem dX11_search_19 : decode cX11_search 19 = .ok (.aload_n 0, 1) := by decide +kernel
theorem dX11_search_20 : decode cX11_search 20 = .ok (.getfield 63, 3) := by decide +kernel
theorem dX11_search_23 : decode cX11_search 23 = .ok (.invokevirtual 244, 3) := by decide +kernel
theorem dX11_search_26 : decode cX11_search 26 = .ok (.aload_n 0, 1) := by decide +kernel
theorem dX11_search_27 : decode cX11_search 27 = .ok (.getfield 81, 3) := by decide +kernel
theorem dX11_search_30 : decode cX11_search 30 = .ok (.invokevirtual 245, 3) := by decide +kernel
theorem dX11_search_33 : decode cX11_search 33 = .ok (.iload_n 1, 1) := by decide +kernel
theorem dX11_search_34 : decode cX11_search 34 = .ok (.ifCond .eq 8, 3) := by decide +kernel
theorem dX11_search_37 : decode cX11_search 37 = .ok (.iload_n 1, 1) := by decide +kernel
theorem dX11_search_38 : decode cX11_search 38 = .ok (.ineg, 1) := by decide +kernel
theorem dX11_search_39 : decode cX11_search 39 = .ok (.goto 10, 3) := by decide +kernel
theorem dX11_search_49 : decode cX11_search 49 = .ok (.ireturn, 1) := by decide +kernel
theorem dX4_read_0 : decode cX4_read 0 = .ok (.aload_n 0, 1) := by decide +kernel
theorem dX4_read_1 : decode cX4_read 1 = .ok (.getfield 48, 3) := by decide +kernel
theorem dX4_read_4 : decode cX4_read 4 = .ok (.invokevirtual 52, 3) := by decide +kernel
theorem dX4_read_7 : decode cX4_read 7 = .ok (.aload_n 0, 1) := by decide +kernel
theorem dX4_read_8 : decode cX4_read 8 = .ok (.sipush 256, 3) := by decide +kernel
theorem dX4_read_11 : decode cX4_read 11 = .ok (.putfield 11, 3) := by decide +kernel
theorem dX4_read_14 : decode cX4_read 14 = .ok (.aload_n 0, 1) := by decide +kernel
theorem dX4_read_15 : decode cX4_read 15 = .ok (.iconst 0, 1) := by decide +kernel
theorem dX4_read_16 : decode cX4_read 16 = .ok (.putfield 18, 3) := by decide +kernel
theorem dX4_read_19 : decode cX4_read 19 = .ok (.aload_n 0, 1) := by decide +kernel
theorem dX4_read_20 : decode cX4_read 20 = .ok (.iconst 0, 1) := by decide +kernel
theorem dX4_read_21 : decode cX4_read 21 = .ok (.putfield 21, 3) := by decide +kernel
theorem dX4_read_24 : decode cX4_read 24 = .ok (.aload_n 0, 1) := by decide +kernel
theorem dX4_read_25 : decode cX4_read 25 = .ok (.iconst (-1), 1) := by decide +kernel
theorem dX4_read_26 : decode cX4_read 26 = .ok (.putfield 24, 3) := by decide +kernel
theorem dX4_read_29 : decode cX4_read 29 = .ok (.aload_n 0, 1) := by decide +kernel
theorem dX4_read_30 : decode cX4_read 30 = .ok (.iconst 0, 1) := by decide +kernel
theorem dX4_read_31 : decode cX4_read 31 = .ok (.putfield 31, 3) := by decide +kernel
theorem dX4_read_34 : decode cX4_read 34 = .ok (.aload_n 0, 1) := by decide +kernel
theorem dX4_read_35 : decode cX4_read 35 = .ok (.iconst 0, 1) := by decide +kernel
theorem dX4_read_36 : decode cX4_read 36 = .ok (.putfield 34, 3) := by decide +kernel
theorem dX4_read_39 : decode cX4_read 39 = .ok (.aload_n 0, 1) := by decide +kernel
theorem dX4_read_40 : decode cX4_read 40 = .ok (.invokevirtual 57, 3) := by decide +kernel
theorem dX4_read_43 : decode cX4_read 43 = .ok (.aload_n 0, 1) := by decide +kernel
theorem dX4_read_44 : decode cX4_read 44 = .ok (.invokevirtual 60, 3) := by decide +kernel
theorem dX4_read_47 : decode cX4_read 47 = .ok (.aload_n 0, 1) := by decide +kernel
theorem dX4_read_48 : decode cX4_read 48 = .ok (.getfield 11, 3) := by decide +kernel
theorem dX4_read_51 : decode cX4_read 51 = .ok (.sipush 256, 3) := by decide +kernel
theorem dX4_read_54 : decode cX4_read 54 = .ok (.if_icmp .ne 10, 3) := by decide +kernel
theorem dX4_read_64 : decode cX4_read 64 = .ok (.aload_n 0, 1) := by decide +kernel
theorem dX4_read_65 : decode cX4_read 65 = .ok (.iconst 1, 1) := by decide +kernel
theorem dX4_read_66 : decode cX4_read 66 = .ok (.aload_n 0, 1) := by decide +kernel
theorem dX4_read_67 : decode cX4_read 67 = .ok (.getfield 15, 3) := by decide +kernel
theorem dX4_read_70 : decode cX4_read 70 = .ok (.invokevirtual 66, 3) := by decide +kernel
theorem dX4_read_73 : decode cX4_read 73 = .ok (.aload_n 0, 1) := by decide +kernel
theorem dX4_read_74 : decode cX4_read 74 = .ok (.getfield 21, 3) := by decide +kernel
theorem dX4_read_77 : decode cX4_read 77 = .ok (.ireturn, 1) := by decide +kernel
theorem dX7_clear_0 : decode cX7_clear 0 = .ok (.aload_n 0, 1) := by decide +kernel
theorem dX7_clear_1 : decode cX7_clear 1 = .ok (.iconst 0, 1) := by decide +kernel
theorem dX7_clear_2 : decode cX7_clear 2 = .ok (.putfield 34, 3) := by decide +kernel
theorem dX7_clear_5 : decode cX7_clear 5 = .ok (.aload_n 0, 1) := by decide +kernel
theorem dX7_clear_6 : decode cX7_clear 6 = .ok (.iconst 0, 1) := by decide +kernel
theorem dX7_clear_7 : decode cX7_clear 7 = .ok (.putfield 38, 3) := by decide +kernel
theorem dX7_clear_10 : decode cX7_clear 10 = .ok (.aload_n 0, 1) := by decide +kernel
theorem dX7_clear_11 : decode cX7_clear 11 = .ok (.iconst 0, 1) := by decide +kernel
theorem dX7_clear_12 : decode cX7_clear 12 = .ok (.putfield 41, 3) := by decide +kernel
theorem dX7_clear_15 : decode cX7_clear 15 = .ok (.aload_n 0, 1) := by decide +kernel
theorem dX7_clear_16 : decode cX7_clear 16 = .ok (.iconst 0, 1) := by decide +kernel
theorem dX7_clear_17 : decode cX7_clear 17 = .ok (.putfield 44, 3) := by decide +kernel
theorem dX7_clear_20 : decode cX7_clear 20 = .ok (.aload_n 0, 1) := by decide +kernel
theorem dX7_clear_21 : decode cX7_clear 21 = .ok (.iconst 0, 1) := by decide +kernel
theorem dX7_clear_22 : decode cX7_clear 22 = .ok (.putfield 47, 3) := by decide +kernel
theorem dX7_clear_25 : decode cX7_clear 25 = .ok (.return_, 1) := by decide +kernel
theorem dX4_next_0 : decode cX4_next 0 = .ok (.aload_n 0, 1) := by decide +kernel
theorem dX4_next_1 : decode cX4_next 1 = .ok (.invokevirtual 63, 3) := by decide +kernel
theorem dX4_next_4 : decode cX4_next 4 = .ok (.aload_n 0, 1) := by decide +kernel
theorem dX4_next_5 : decode cX4_next 5 = .ok (.getfield 11, 3) := by decide +kernel
theorem dX4_next_8 : decode cX4_next 8 = .ok (.sipush 265, 3) := by decide +kernel
theorem dX4_next_11 : decode cX4_next 11 = .ok (.if_icmp .ne 4, 3) := by decide +kernel
theorem dX4_next_15 : decode cX4_next 15 = .ok (.aload_n 0, 1) := by decide +kernel
theorem dX4_next_16 : decode cX4_next 16 = .ok (.aload_n 0, 1) := by decide +kernel
theorem dX4_next_17 : decode cX4_next 17 = .ok (.getfield 37, 3) := by decide +kernel
theorem dX4_next_20 : decode cX4_next 20 = .ok (.aload_n 0, 1) := by decide +kernel
theorem dX4_next_21 : decode cX4_next 21 = .ok (.getfield 18, 3) := by decide +kernel
theorem dX4_next_24 : decode cX4_next 24 = .ok (.invokevirtual 70, 3) := by decide +kernel
theorem dX4_next_27 : decode cX4_next 27 = .ok (.putfield 15, 3) := by decide +kernel
theorem dX4_next_30 : decode cX4_next 30 = .ok (.aload_n 0, 1) := by decide +kernel
theorem dX4_next_31 : decode cX4_next 31 = .ok (.getfield 37, 3) := by decide +kernel
theorem dX4_next_34 : decode cX4_next 34 = .ok (.aload_n 0, 1) := by decide +kernel
theorem dX4_next_35 : decode cX4_next 35 = .ok (.getfield 15, 3) := by decide +kernel
theorem dX4_next_38 : decode cX4_next 38 = .ok (.invokevirtual 76, 3) := by decide +kernel
theorem dX4_next_41 : decode cX4_next 41 = .ok (.istore_n 1, 1) := by decide +kernel
theorem dX4_next_42 : decode cX4_next 42 = .ok (.aload_n 0, 1) := by decide +kernel
theorem dX4_next_43 : decode cX4_next 43 = .ok (.aload_n 0, 1) := by decide +kernel
theorem dX4_next_44 : decode cX4_next 44 = .ok (.getfield 15, 3) := by decide +kernel
theorem dX4_next_47 : decode cX4_next 47 = .ok (.iconst 1, 1) := by decide +kernel
theorem dX4_next_48 : decode cX4_next 48 = .ok (.iadd, 1) := by decide +kernel
theorem dX4_next_49 : decode cX4_next 49 = .ok (.putfield 18, 3) := by decide +kernel
theorem dX4_next_52 : decode cX4_next 52 = .ok (.iload_n 1, 1) := by decide +kernel
theorem dX4_next_53 : decode cX4_next 53 = .ok (.iconst (-1), 1) := by decide +kernel
theorem dX4_next_54 : decode cX4_next 54 = .ok (.if_icmp .ne 13, 3) := by decide +kernel
theorem dX4_next_57 : decode cX4_next 57 = .ok (.aload_n 0, 1) := by decide +kernel
theorem dX4_next_58 : decode cX4_next 58 = .ok (.sipush 256, 3) := by decide +kernel
theorem dX4_next_61 : decode cX4_next 61 = .ok (.putfield 11, 3) := by decide +kernel
theorem dX4_next_64 : decode cX4_next 64 = .ok (.goto 92, 3) := by decide +kernel
theorem dX4_next_156 : decode cX4_next 156 = .ok (.return_, 1) := by decide +kernel
theorem dX4_settleNear_0 : decode cX4_settleNear 0 = .ok (.aload_n 0, 1) := by decide +kernel
theorem dX4_settleNear_1 : decode cX4_settleNear 1 = .ok (.getfield 24, 3) := by decide +kernel
theorem dX4_settleNear_4 : decode cX4_settleNear 4 = .ok (.iconst (-1), 1) := by decide +kernel
theorem dX4_settleNear_5 : decode cX4_settleNear 5 = .ok (.if_icmp .eq 12, 3) := by decide +kernel
theorem dX4_settleNear_17 : decode cX4_settleNear 17 = .ok (.return_, 1) := by decide +kernel
theorem dX9_behindBlanks_0 : decode cX9_behindBlanks 0 = .ok (.iload_n 1, 1) := by decide +kernel
theorem dX9_behindBlanks_1 : decode cX9_behindBlanks 1 = .ok (.iconst 0, 1) := by decide +kernel
theorem dX9_behindBlanks_2 : decode cX9_behindBlanks 2 = .ok (.invokestatic 29, 3) := by decide +kernel
theorem dX9_behindBlanks_5 : decode cX9_behindBlanks 5 = .ok (.istore_n 2, 1) := by decide +kernel
theorem dX9_behindBlanks_6 : decode cX9_behindBlanks 6 = .ok (.iload_n 2, 1) := by decide +kernel
theorem dX9_behindBlanks_7 : decode cX9_behindBlanks 7 = .ok (.aload_n 0, 1) := by decide +kernel
theorem dX9_behindBlanks_8 : decode cX9_behindBlanks 8 = .ok (.getfield 18, 3) := by decide +kernel
theorem dX9_behindBlanks_11 : decode cX9_behindBlanks 11 = .ok (.if_icmp .ge 31, 3) := by decide +kernel
theorem dX9_behindBlanks_42 : decode cX9_behindBlanks 42 = .ok (.iload_n 2, 1) := by decide +kernel
theorem dX9_behindBlanks_43 : decode cX9_behindBlanks 43 = .ok (.ireturn, 1) := by decide +kernel
theorem dX9_at_0 : decode cX9_at 0 = .ok (.iload_n 1, 1) := by decide +kernel
theorem dX9_at_1 : decode cX9_at 1 = .ok (.ifCond .lt 24, 3) := by decide +kernel
theorem dX9_at_4 : decode cX9_at 4 = .ok (.iload_n 1, 1) := by decide +kernel
theorem dX9_at_5 : decode cX9_at 5 = .ok (.aload_n 0, 1) := by decide +kernel
theorem dX9_at_6 : decode cX9_at 6 = .ok (.getfield 18, 3) := by decide +kernel
theorem dX9_at_9 : decode cX9_at 9 = .ok (.if_icmp .ge 16, 3) := by decide +kernel
theorem dX9_at_25 : decode cX9_at 25 = .ok (.iconst (-1), 1) := by decide +kernel
theorem dX9_at_26 : decode cX9_at 26 = .ok (.ireturn, 1) := by decide +kernel
theorem dX4_readQuery_0 : decode cX4_readQuery 0 = .ok (.aload_n 0, 1) := by decide +kernel
theorem dX4_readQuery_1 : decode cX4_readQuery 1 = .ok (.invokevirtual 106, 3) := by decide +kernel
theorem dX4_readQuery_4 : decode cX4_readQuery 4 = .ok (.iconst 0, 1) := by decide +kernel
theorem dX4_readQuery_5 : decode cX4_readQuery 5 = .ok (.istore_n 1, 1) := by decide +kernel
