theorem dX13_hit_15 : decode cX13_hit 15 = .ok (.aload_n 0, 1) := by decide +kernel
theorem dX13_hit_16 : decode cX13_hit 16 = .ok (.getfield 509, 3) := by decide +kernel
theorem dX13_hit_19 : decode cX13_hit 19 = .ok (.if_icmp .ge 12, 3) := by decide +kernel
theorem dX13_hit_22 : decode cX13_hit 22 = .ok (.aload_n 0, 1) := by decide +kernel
theorem dX13_hit_23 : decode cX13_hit 23 = .ok (.getfield 149, 3) := by decide +kernel
theorem dX13_hit_26 : decode cX13_hit 26 = .ok (.iload_n 1, 1) := by decide +kernel
theorem dX13_hit_27 : decode cX13_hit 27 = .ok (.iaload, 1) := by decide +kernel
theorem dX13_hit_28 : decode cX13_hit 28 = .ok (.goto 4, 3) := by decide +kernel
theorem dX13_hit_31 : decode cX13_hit 31 = .ok (.iconst (-1), 1) := by decide +kernel
theorem dX13_hit_32 : decode cX13_hit 32 = .ok (.ireturn, 1) := by decide +kernel
theorem dX13_rank_0 : decode cX13_rank 0 = .ok (.aload_n 0, 1) := by decide +kernel
theorem dX13_rank_1 : decode cX13_rank 1 = .ok (.iconst 0, 1) := by decide +kernel
theorem dX13_rank_2 : decode cX13_rank 2 = .ok (.putfield 170, 3) := by decide +kernel
theorem dX13_rank_5 : decode cX13_rank 5 = .ok (.iload_n 1, 1) := by decide +kernel
theorem dX13_rank_6 : decode cX13_rank 6 = .ok (.ifCond .lt 11, 3) := by decide +kernel
theorem dX13_rank_9 : decode cX13_rank 9 = .ok (.iload_n 1, 1) := by decide +kernel
theorem dX13_rank_10 : decode cX13_rank 10 = .ok (.aload_n 0, 1) := by decide +kernel
theorem dX13_rank_11 : decode cX13_rank 11 = .ok (.getfield 509, 3) := by decide +kernel
theorem dX13_rank_14 : decode cX13_rank 14 = .ok (.if_icmp .lt 8, 3) := by decide +kernel
theorem dX13_rank_17 : decode cX13_rank 17 = .ok (.aload_n 0, 1) := by decide +kernel
theorem dX13_rank_18 : decode cX13_rank 18 = .ok (.invokevirtual 279, 3) := by decide +kernel
theorem dX13_rank_21 : decode cX13_rank 21 = .ok (.ireturn, 1) := by decide +kernel
theorem dX13_rank_22 : decode cX13_rank 22 = .ok (.iload_n 2, 1) := by decide +kernel
theorem dX13_rank_23 : decode cX13_rank 23 = .ok (.ifCond .ne 12, 3) := by decide +kernel
theorem dX13_rank_26 : decode cX13_rank 26 = .ok (.aload_n 0, 1) := by decide +kernel
theorem dX13_rank_27 : decode cX13_rank 27 = .ok (.getfield 152, 3) := by decide +kernel
theorem dX13_rank_30 : decode cX13_rank 30 = .ok (.iload_n 1, 1) := by decide +kernel
theorem dX13_rank_31 : decode cX13_rank 31 = .ok (.iaload, 1) := by decide +kernel
theorem dX13_rank_32 : decode cX13_rank 32 = .ok (.goto 32, 3) := by decide +kernel
theorem dX13_rank_35 : decode cX13_rank 35 = .ok (.iload_n 2, 1) := by decide +kernel
theorem dX13_rank_36 : decode cX13_rank 36 = .ok (.iconst 1, 1) := by decide +kernel
theorem dX13_rank_37 : decode cX13_rank 37 = .ok (.if_icmp .ne 12, 3) := by decide +kernel
theorem dX13_rank_40 : decode cX13_rank 40 = .ok (.aload_n 0, 1) := by decide +kernel
theorem dX13_rank_41 : decode cX13_rank 41 = .ok (.getfield 155, 3) := by decide +kernel
theorem dX13_rank_44 : decode cX13_rank 44 = .ok (.iload_n 1, 1) := by decide +kernel
theorem dX13_rank_45 : decode cX13_rank 45 = .ok (.iaload, 1) := by decide +kernel
theorem dX13_rank_46 : decode cX13_rank 46 = .ok (.goto 18, 3) := by decide +kernel
theorem dX13_rank_49 : decode cX13_rank 49 = .ok (.iload_n 2, 1) := by decide +kernel
theorem dX13_rank_50 : decode cX13_rank 50 = .ok (.iconst 2, 1) := by decide +kernel
theorem dX13_rank_51 : decode cX13_rank 51 = .ok (.if_icmp .ne 12, 3) := by decide +kernel
theorem dX13_rank_54 : decode cX13_rank 54 = .ok (.aload_n 0, 1) := by decide +kernel
theorem dX13_rank_55 : decode cX13_rank 55 = .ok (.getfield 158, 3) := by decide +kernel
theorem dX13_rank_58 : decode cX13_rank 58 = .ok (.iload_n 1, 1) := by decide +kernel
theorem dX13_rank_59 : decode cX13_rank 59 = .ok (.iaload, 1) := by decide +kernel
theorem dX13_rank_60 : decode cX13_rank 60 = .ok (.goto 4, 3) := by decide +kernel
theorem dX13_rank_63 : decode cX13_rank 63 = .ok (.iconst (-1), 1) := by decide +kernel
theorem dX13_rank_64 : decode cX13_rank 64 = .ok (.ireturn, 1) := by decide +kernel
theorem dX13_code_0 : decode cX13_code 0 = .ok (.aload_n 0, 1) := by decide +kernel
theorem dX13_code_1 : decode cX13_code 1 = .ok (.iconst 0, 1) := by decide +kernel
theorem dX13_code_2 : decode cX13_code 2 = .ok (.putfield 170, 3) := by decide +kernel
theorem dX13_code_5 : decode cX13_code 5 = .ok (.iload_n 1, 1) := by decide +kernel
theorem dX13_code_6 : decode cX13_code 6 = .ok (.ifCond .ge 8, 3) := by decide +kernel
theorem dX13_code_9 : decode cX13_code 9 = .ok (.aload_n 0, 1) := by decide +kernel
theorem dX13_code_10 : decode cX13_code 10 = .ok (.invokevirtual 279, 3) := by decide +kernel
theorem dX13_code_13 : decode cX13_code 13 = .ok (.ireturn, 1) := by decide +kernel
theorem dX13_code_14 : decode cX13_code 14 = .ok (.iload_n 1, 1) := by decide +kernel
theorem dX13_code_15 : decode cX13_code 15 = .ok (.aload_n 0, 1) := by decide +kernel
theorem dX13_code_16 : decode cX13_code 16 = .ok (.getfield 377, 3) := by decide +kernel
theorem dX13_code_19 : decode cX13_code 19 = .ok (.if_icmp .ge 12, 3) := by decide +kernel
theorem dX13_code_22 : decode cX13_code 22 = .ok (.aload_n 0, 1) := by decide +kernel
theorem dX13_code_23 : decode cX13_code 23 = .ok (.getfield 119, 3) := by decide +kernel
theorem dX13_code_26 : decode cX13_code 26 = .ok (.iload_n 1, 1) := by decide +kernel
theorem dX13_code_27 : decode cX13_code 27 = .ok (.iaload, 1) := by decide +kernel
theorem dX13_code_28 : decode cX13_code 28 = .ok (.goto 4, 3) := by decide +kernel
theorem dX13_code_31 : decode cX13_code 31 = .ok (.iconst (-1), 1) := by decide +kernel
theorem dX13_code_32 : decode cX13_code 32 = .ok (.ireturn, 1) := by decide +kernel
theorem dX13_deepest_0 : decode cX13_deepest 0 = .ok (.aload_n 0, 1) := by decide +kernel
theorem dX13_deepest_1 : decode cX13_deepest 1 = .ok (.iconst 0, 1) := by decide +kernel
theorem dX13_deepest_2 : decode cX13_deepest 2 = .ok (.putfield 170, 3) := by decide +kernel
theorem dX13_deepest_5 : decode cX13_deepest 5 = .ok (.iconst 0, 1) := by decide +kernel
theorem dX13_deepest_6 : decode cX13_deepest 6 = .ok (.istore_n 1, 1) := by decide +kernel
theorem dX13_deepest_7 : decode cX13_deepest 7 = .ok (.iconst 0, 1) := by decide +kernel
theorem dX13_deepest_8 : decode cX13_deepest 8 = .ok (.istore_n 2, 1) := by decide +kernel
theorem dX13_deepest_9 : decode cX13_deepest 9 = .ok (.iconst 0, 1) := by decide +kernel
theorem dX13_deepest_10 : decode cX13_deepest 10 = .ok (.istore_n 3, 1) := by decide +kernel
theorem dX13_deepest_11 : decode cX13_deepest 11 = .ok (.iload_n 3, 1) := by decide +kernel
theorem dX13_deepest_12 : decode cX13_deepest 12 = .ok (.aload_n 0, 1) := by decide +kernel
theorem dX13_deepest_13 : decode cX13_deepest 13 = .ok (.getfield 377, 3) := by decide +kernel
theorem dX13_deepest_16 : decode cX13_deepest 16 = .ok (.if_icmp .ge 69, 3) := by decide +kernel
theorem dX13_deepest_19 : decode cX13_deepest 19 = .ok (.aload_n 0, 1) := by decide +kernel
theorem dX13_deepest_20 : decode cX13_deepest 20 = .ok (.getfield 119, 3) := by decide +kernel
theorem dX13_deepest_23 : decode cX13_deepest 23 = .ok (.iload_n 3, 1) := by decide +kernel
theorem dX13_deepest_24 : decode cX13_deepest 24 = .ok (.iaload, 1) := by decide +kernel
theorem dX13_deepest_25 : decode cX13_deepest 25 = .ok (.sipush 1000, 3) := by decide +kernel
theorem dX13_deepest_28 : decode cX13_deepest 28 = .ok (.idiv, 1) := by decide +kernel
theorem dX13_deepest_29 : decode cX13_deepest 29 = .ok (.istore 4, 2) := by decide +kernel
theorem dX13_deepest_31 : decode cX13_deepest 31 = .ok (.iload 4, 2) := by decide +kernel
theorem dX13_deepest_33 : decode cX13_deepest 33 = .ok (.iconst 4, 1) := by decide +kernel
theorem dX13_deepest_34 : decode cX13_deepest 34 = .ok (.if_icmp .gt 9, 3) := by decide +kernel
theorem dX13_deepest_37 : decode cX13_deepest 37 = .ok (.iinc 2 1, 3) := by decide +kernel
theorem dX13_deepest_40 : decode cX13_deepest 40 = .ok (.goto 33, 3) := by decide +kernel
theorem dX13_deepest_43 : decode cX13_deepest 43 = .ok (.iload 4, 2) := by decide +kernel
theorem dX13_deepest_45 : decode cX13_deepest 45 = .ok (.iconst 5, 1) := by decide +kernel
theorem dX13_deepest_46 : decode cX13_deepest 46 = .ok (.if_icmp .eq 24, 3) := by decide +kernel
theorem dX13_deepest_49 : decode cX13_deepest 49 = .ok (.iload 4, 2) := by decide +kernel
theorem dX13_deepest_51 : decode cX13_deepest 51 = .ok (.bipush 8, 2) := by decide +kernel
theorem dX13_deepest_53 : decode cX13_deepest 53 = .ok (.if_icmp .eq 17, 3) := by decide +kernel
theorem dX13_deepest_56 : decode cX13_deepest 56 = .ok (.iload 4, 2) := by decide +kernel
theorem dX13_deepest_58 : decode cX13_deepest 58 = .ok (.bipush 9, 2) := by decide +kernel
theorem dX13_deepest_60 : decode cX13_deepest 60 = .ok (.if_icmp .eq 10, 3) := by decide +kernel
theorem dX13_deepest_63 : decode cX13_deepest 63 = .ok (.iload 4, 2) := by decide +kernel
theorem dX13_deepest_65 : decode cX13_deepest 65 = .ok (.bipush 11, 2) := by decide +kernel
theorem dX13_deepest_67 : decode cX13_deepest 67 = .ok (.if_icmp .ne 6, 3) := by decide +kernel
theorem dX13_deepest_70 : decode cX13_deepest 70 = .ok (.iinc 2 (-1), 3) := by decide +kernel
theorem dX13_deepest_73 : decode cX13_deepest 73 = .ok (.iload_n 1, 1) := by decide +kernel
theorem dX13_deepest_74 : decode cX13_deepest 74 = .ok (.iload_n 2, 1) := by decide +kernel
theorem dX13_deepest_75 : decode cX13_deepest 75 = .ok (.invokestatic 524, 3) := by decide +kernel
theorem dX13_deepest_78 : decode cX13_deepest 78 = .ok (.istore_n 1, 1) := by decide +kernel
theorem dX13_deepest_79 : decode cX13_deepest 79 = .ok (.iinc 3 1, 3) := by decide +kernel
theorem dX13_deepest_82 : decode cX13_deepest 82 = .ok (.goto (-71), 3) := by decide +kernel
theorem dX13_deepest_85 : decode cX13_deepest 85 = .ok (.iload_n 1, 1) := by decide +kernel
theorem dX13_deepest_86 : decode cX13_deepest 86 = .ok (.ireturn, 1) := by decide +kernel
theorem dX13_distance_0 : decode cX13_distance 0 = .ok (.iconst 0, 1) := by decide +kernel
theorem dX13_distance_1 : decode cX13_distance 1 = .ok (.istore_n 2, 1) := by decide +kernel
theorem dX13_distance_2 : decode cX13_distance 2 = .ok (.iload_n 2, 1) := by decide +kernel
theorem dX13_distance_3 : decode cX13_distance 3 = .ok (.aload_n 0, 1) := by decide +kernel
theorem dX13_distance_4 : decode cX13_distance 4 = .ok (.getfield 16, 3) := by decide +kernel
theorem dX13_distance_7 : decode cX13_distance 7 = .ok (.iload_n 1, 1) := by decide +kernel
theorem dX13_distance_8 : decode cX13_distance 8 = .ok (.iaload, 1) := by decide +kernel
theorem dX13_distance_9 : decode cX13_distance 9 = .ok (.if_icmp .gt 16, 3) := by decide +kernel
theorem dX13_distance_12 : decode cX13_distance 12 = .ok (.aload_n 0, 1) := by decide +kernel
theorem dX13_distance_13 : decode cX13_distance 13 = .ok (.getfield 161, 3) := by decide +kernel
theorem dX13_distance_16 : decode cX13_distance 16 = .ok (.iload_n 2, 1) := by decide +kernel
theorem dX13_distance_17 : decode cX13_distance 17 = .ok (.iload_n 2, 1) := by decide +kernel
theorem dX13_distance_18 : decode cX13_distance 18 = .ok (.iastore, 1) := by decide +kernel
theorem dX13_distance_19 : decode cX13_distance 19 = .ok (.iinc 2 1, 3) := by decide +kernel
theorem dX13_distance_22 : decode cX13_distance 22 = .ok (.goto (-20), 3) := by decide +kernel
theorem dX13_distance_25 : decode cX13_distance 25 = .ok (.iconst 1, 1) := by decide +kernel
theorem dX13_distance_26 : decode cX13_distance 26 = .ok (.istore_n 2, 1) := by decide +kernel
theorem dX13_distance_27 : decode cX13_distance 27 = .ok (.iload_n 2, 1) := by decide +kernel
theorem dX13_distance_28 : decode cX13_distance 28 = .ok (.aload_n 0, 1) := by decide +kernel
theorem dX13_distance_29 : decode cX13_distance 29 = .ok (.getfield 193, 3) := by decide +kernel
theorem dX13_distance_32 : decode cX13_distance 32 = .ok (.if_icmp .gt 118, 3) := by decide +kernel
theorem dX13_distance_35 : decode cX13_distance 35 = .ok (.aload_n 0, 1) := by decide +kernel
theorem dX13_distance_36 : decode cX13_distance 36 = .ok (.getfield 161, 3) := by decide +kernel
theorem dX13_distance_39 : decode cX13_distance 39 = .ok (.iconst 0, 1) := by decide +kernel
theorem dX13_distance_40 : decode cX13_distance 40 = .ok (.iaload, 1) := by decide +kernel
theorem dX13_distance_41 : decode cX13_distance 41 = .ok (.istore_n 3, 1) := by decide +kernel
theorem dX13_distance_42 : decode cX13_distance 42 = .ok (.aload_n 0, 1) := by decide +kernel
theorem dX13_distance_43 : decode cX13_distance 43 = .ok (.getfield 161, 3) := by decide +kernel
theorem dX13_distance_46 : decode cX13_distance 46 = .ok (.iconst 0, 1) := by decide +kernel
theorem dX13_distance_47 : decode cX13_distance 47 = .ok (.iload_n 2, 1) := by decide +kernel
theorem dX13_distance_48 : decode cX13_distance 48 = .ok (.iastore, 1) := by decide +kernel
theorem dX13_distance_49 : decode cX13_distance 49 = .ok (.iconst 1, 1) := by decide +kernel
theorem dX13_distance_50 : decode cX13_distance 50 = .ok (.istore 4, 2) := by decide +kernel
theorem dX13_distance_52 : decode cX13_distance 52 = .ok (.iload 4, 2) := by decide +kernel
theorem dX13_distance_54 : decode cX13_distance 54 = .ok (.aload_n 0, 1) := by decide +kernel
theorem dX13_distance_55 : decode cX13_distance 55 = .ok (.getfield 16, 3) := by decide +kernel
theorem dX13_distance_58 : decode cX13_distance 58 = .ok (.iload_n 1, 1) := by decide +kernel
theorem dX13_distance_59 : decode cX13_distance 59 = .ok (.iaload, 1) := by decide +kernel
theorem dX13_distance_60 : decode cX13_distance 60 = .ok (.if_icmp .gt 84, 3) := by decide +kernel
theorem dX13_distance_63 : decode cX13_distance 63 = .ok (.iload_n 3, 1) := by decide +kernel
theorem dX13_distance_64 : decode cX13_distance 64 = .ok (.aload_n 0, 1) := by decide +kernel
theorem dX13_distance_65 : decode cX13_distance 65 = .ok (.getfield 60, 3) := by decide +kernel
theorem dX13_distance_68 : decode cX13_distance 68 = .ok (.iload_n 2, 1) := by decide +kernel
theorem dX13_distance_69 : decode cX13_distance 69 = .ok (.iconst 1, 1) := by decide +kernel
theorem dX13_distance_70 : decode cX13_distance 70 = .ok (.isub, 1) := by decide +kernel
theorem dX13_distance_71 : decode cX13_distance 71 = .ok (.baload, 1) := by decide +kernel
theorem dX13_distance_72 : decode cX13_distance 72 = .ok (.aload_n 0, 1) := by decide +kernel
theorem dX13_distance_73 : decode cX13_distance 73 = .ok (.getfield 13, 3) := by decide +kernel
theorem dX13_distance_76 : decode cX13_distance 76 = .ok (.bipush 12, 2) := by decide +kernel
theorem dX13_distance_78 : decode cX13_distance 78 = .ok (.iload_n 1, 1) := by decide +kernel
theorem dX13_distance_79 : decode cX13_distance 79 = .ok (.imul, 1) := by decide +kernel
theorem dX13_distance_80 : decode cX13_distance 80 = .ok (.iload 4, 2) := by decide +kernel
theorem dX13_distance_82 : decode cX13_distance 82 = .ok (.iadd, 1) := by decide +kernel
theorem dX13_distance_83 : decode cX13_distance 83 = .ok (.iconst 1, 1) := by decide +kernel
theorem dX13_distance_84 : decode cX13_distance 84 = .ok (.isub, 1) := by decide +kernel
theorem dX13_distance_85 : decode cX13_distance 85 = .ok (.baload, 1) := by decide +kernel
theorem dX13_distance_86 : decode cX13_distance 86 = .ok (.if_icmp .ne 7, 3) := by decide +kernel
theorem dX13_distance_89 : decode cX13_distance 89 = .ok (.iconst 0, 1) := by decide +kernel
theorem dX13_distance_90 : decode cX13_distance 90 = .ok (.goto 4, 3) := by decide +kernel
theorem dX13_distance_93 : decode cX13_distance 93 = .ok (.iconst 1, 1) := by decide +kernel
theorem dX13_distance_94 : decode cX13_distance 94 = .ok (.iadd, 1) := by decide +kernel
theorem dX13_distance_95 : decode cX13_distance 95 = .ok (.istore 5, 2) := by decide +kernel
theorem dX13_distance_97 : decode cX13_distance 97 = .ok (.aload_n 0, 1) := by decide +kernel
theorem dX13_distance_98 : decode cX13_distance 98 = .ok (.getfield 161, 3) := by decide +kernel
theorem dX13_distance_101 : decode cX13_distance 101 = .ok (.iload 4, 2) := by decide +kernel
theorem dX13_distance_103 : decode cX13_distance 103 = .ok (.iaload, 1) := by decide +kernel
theorem dX13_distance_104 : decode cX13_distance 104 = .ok (.istore_n 3, 1) := by decide +kernel
theorem dX13_distance_105 : decode cX13_distance 105 = .ok (.aload_n 0, 1) := by decide +kernel
theorem dX13_distance_106 : decode cX13_distance 106 = .ok (.getfield 161, 3) := by decide +kernel
theorem dX13_distance_109 : decode cX13_distance 109 = .ok (.iload 4, 2) := by decide +kernel
theorem dX13_distance_111 : decode cX13_distance 111 = .ok (.iload 5, 2) := by decide +kernel
theorem dX13_distance_113 : decode cX13_distance 113 = .ok (.aload_n 0, 1) := by decide +kernel
theorem dX13_distance_114 : decode cX13_distance 114 = .ok (.getfield 161, 3) := by decide +kernel
theorem dX13_distance_117 : decode cX13_distance 117 = .ok (.iload 4, 2) := by decide +kernel
theorem dX13_distance_119 : decode cX13_distance 119 = .ok (.iaload, 1) := by decide +kernel
theorem dX13_distance_120 : decode cX13_distance 120 = .ok (.aload_n 0, 1) := by decide +kernel
theorem dX13_distance_121 : decode cX13_distance 121 = .ok (.getfield 161, 3) := by decide +kernel
theorem dX13_distance_124 : decode cX13_distance 124 = .ok (.iload 4, 2) := by decide +kernel
theorem dX13_distance_126 : decode cX13_distance 126 = .ok (.iconst 1, 1) := by decide +kernel
theorem dX13_distance_127 : decode cX13_distance 127 = .ok (.isub, 1) := by decide +kernel
theorem dX13_distance_128 : decode cX13_distance 128 = .ok (.iaload, 1) := by decide +kernel
theorem dX13_distance_129 : decode cX13_distance 129 = .ok (.invokestatic 241, 3) := by decide +kernel
theorem dX13_distance_132 : decode cX13_distance 132 = .ok (.iconst 1, 1) := by decide +kernel
theorem dX13_distance_133 : decode cX13_distance 133 = .ok (.iadd, 1) := by decide +kernel
theorem dX13_distance_134 : decode cX13_distance 134 = .ok (.invokestatic 241, 3) := by decide +kernel
theorem dX13_distance_137 : decode cX13_distance 137 = .ok (.iastore, 1) := by decide +kernel
theorem dX13_distance_138 : decode cX13_distance 138 = .ok (.iinc 4 1, 3) := by decide +kernel
theorem dX13_distance_141 : decode cX13_distance 141 = .ok (.goto (-89), 3) := by decide +kernel
theorem dX13_distance_144 : decode cX13_distance 144 = .ok (.iinc 2 1, 3) := by decide +kernel
theorem dX13_distance_147 : decode cX13_distance 147 = .ok (.goto (-120), 3) := by decide +kernel
theorem dX13_distance_150 : decode cX13_distance 150 = .ok (.aload_n 0, 1) := by decide +kernel
theorem dX13_distance_151 : decode cX13_distance 151 = .ok (.getfield 161, 3) := by decide +kernel
theorem dX13_distance_154 : decode cX13_distance 154 = .ok (.aload_n 0, 1) := by decide +kernel
theorem dX13_distance_155 : decode cX13_distance 155 = .ok (.getfield 16, 3) := by decide +kernel
theorem dX13_distance_158 : decode cX13_distance 158 = .ok (.iload_n 1, 1) := by decide +kernel
theorem dX13_distance_159 : decode cX13_distance 159 = .ok (.iaload, 1) := by decide +kernel
theorem dX13_distance_160 : decode cX13_distance 160 = .ok (.iaload, 1) := by decide +kernel
theorem dX13_distance_161 : decode cX13_distance 161 = .ok (.ireturn, 1) := by decide +kernel
theorem dX13_tally_0 : decode cX13_tally 0 = .ok (.iconst 0, 1) := by decide +kernel
theorem dX13_tally_1 : decode cX13_tally 1 = .ok (.istore_n 3, 1) := by decide +kernel
theorem dX13_tally_2 : decode cX13_tally 2 = .ok (.iload_n 3, 1) := by decide +kernel
theorem dX13_tally_3 : decode cX13_tally 3 = .ok (.aload_n 0, 1) := by decide +kernel
theorem dX13_tally_4 : decode cX13_tally 4 = .ok (.getfield 208, 3) := by decide +kernel
theorem dX13_tally_7 : decode cX13_tally 7 = .ok (.if_icmp .ge 13, 3) := by decide +kernel
theorem dX13_tally_10 : decode cX13_tally 10 = .ok (.aload_n 2, 1) := by decide +kernel
theorem dX13_tally_11 : decode cX13_tally 11 = .ok (.iload_n 3, 1) := by decide +kernel
theorem dX13_tally_12 : decode cX13_tally 12 = .ok (.iconst 0, 1) := by decide +kernel
theorem dX13_tally_13 : decode cX13_tally 13 = .ok (.iastore, 1) := by decide +kernel
theorem dX13_tally_14 : decode cX13_tally 14 = .ok (.iinc 3 1, 3) := by decide +kernel
theorem dX13_tally_17 : decode cX13_tally 17 = .ok (.goto (-15), 3) := by decide +kernel
theorem dX13_tally_20 : decode cX13_tally 20 = .ok (.iconst 0, 1) := by decide +kernel
theorem dX13_tally_21 : decode cX13_tally 21 = .ok (.istore_n 3, 1) := by decide +kernel
theorem dX13_tally_22 : decode cX13_tally 22 = .ok (.iload_n 3, 1) := by decide +kernel
theorem dX13_tally_23 : decode cX13_tally 23 = .ok (.aload_n 0, 1) := by decide +kernel
theorem dX13_tally_24 : decode cX13_tally 24 = .ok (.getfield 41, 3) := by decide +kernel
theorem dX13_tally_27 : decode cX13_tally 27 = .ok (.iload_n 1, 1) := by decide +kernel
theorem dX13_tally_28 : decode cX13_tally 28 = .ok (.iaload, 1) := by decide +kernel
theorem dX13_tally_29 : decode cX13_tally 29 = .ok (.if_icmp .ge 44, 3) := by decide +kernel
theorem dX13_tally_32 : decode cX13_tally 32 = .ok (.aload_n 0, 1) := by decide +kernel
theorem dX13_tally_33 : decode cX13_tally 33 = .ok (.getfield 21, 3) := by decide +kernel
theorem dX13_tally_36 : decode cX13_tally 36 = .ok (.sipush 1024, 3) := by decide +kernel
theorem dX13_tally_39 : decode cX13_tally 39 = .ok (.iload_n 1, 1) := by decide +kernel
theorem dX13_tally_40 : decode cX13_tally 40 = .ok (.imul, 1) := by decide +kernel
theorem dX13_tally_41 : decode cX13_tally 41 = .ok (.iload_n 3, 1) := by decide +kernel
theorem dX13_tally_42 : decode cX13_tally 42 = .ok (.iadd, 1) := by decide +kernel
theorem dX13_tally_43 : decode cX13_tally 43 = .ok (.saload, 1) := by decide +kernel
theorem dX13_tally_44 : decode cX13_tally 44 = .ok (.ifCond .le 23, 3) := by decide +kernel
theorem dX13_tally_47 : decode cX13_tally 47 = .ok (.aload_n 2, 1) := by decide +kernel
theorem dX13_tally_48 : decode cX13_tally 48 = .ok (.aload_n 0, 1) := by decide +kernel
theorem dX13_tally_49 : decode cX13_tally 49 = .ok (.getfield 21, 3) := by decide +kernel
theorem dX13_tally_52 : decode cX13_tally 52 = .ok (.sipush 1024, 3) := by decide +kernel
theorem dX13_tally_55 : decode cX13_tally 55 = .ok (.iload_n 1, 1) := by decide +kernel
theorem dX13_tally_56 : decode cX13_tally 56 = .ok (.imul, 1) := by decide +kernel
theorem dX13_tally_57 : decode cX13_tally 57 = .ok (.iload_n 3, 1) := by decide +kernel
theorem dX13_tally_58 : decode cX13_tally 58 = .ok (.iadd, 1) := by decide +kernel
theorem dX13_tally_59 : decode cX13_tally 59 = .ok (.saload, 1) := by decide +kernel
theorem dX13_tally_60 : decode cX13_tally 60 = .ok (.iconst 1, 1) := by decide +kernel
theorem dX13_tally_61 : decode cX13_tally 61 = .ok (.isub, 1) := by decide +kernel
theorem dX13_tally_62 : decode cX13_tally 62 = .ok (.dup2, 1) := by decide +kernel
theorem dX13_tally_63 : decode cX13_tally 63 = .ok (.iaload, 1) := by decide +kernel
theorem dX13_tally_64 : decode cX13_tally 64 = .ok (.iconst 1, 1) := by decide +kernel
theorem dX13_tally_65 : decode cX13_tally 65 = .ok (.iadd, 1) := by decide +kernel
theorem dX13_tally_66 : decode cX13_tally 66 = .ok (.iastore, 1) := by decide +kernel
theorem dX13_tally_67 : decode cX13_tally 67 = .ok (.iinc 3 1, 3) := by decide +kernel
theorem dX13_tally_70 : decode cX13_tally 70 = .ok (.goto (-48), 3) := by decide +kernel
theorem dX13_tally_73 : decode cX13_tally 73 = .ok (.sipush 512, 3) := by decide +kernel
theorem dX13_tally_76 : decode cX13_tally 76 = .ok (.istore_n 3, 1) := by decide +kernel
theorem dX13_tally_77 : decode cX13_tally 77 = .ok (.iload_n 3, 1) := by decide +kernel
theorem dX13_tally_78 : decode cX13_tally 78 = .ok (.sipush 512, 3) := by decide +kernel
theorem dX13_tally_81 : decode cX13_tally 81 = .ok (.aload_n 0, 1) := by decide +kernel
theorem dX13_tally_82 : decode cX13_tally 82 = .ok (.getfield 44, 3) := by decide +kernel
theorem dX13_tally_85 : decode cX13_tally 85 = .ok (.iload_n 1, 1) := by decide +kernel
theorem dX13_tally_86 : decode cX13_tally 86 = .ok (.iaload, 1) := by decide +kernel
theorem dX13_tally_87 : decode cX13_tally 87 = .ok (.iadd, 1) := by decide +kernel
theorem dX13_tally_88 : decode cX13_tally 88 = .ok (.if_icmp .ge 44, 3) := by decide +kernel
theorem dX13_tally_91 : decode cX13_tally 91 = .ok (.aload_n 0, 1) := by decide +kernel
theorem dX13_tally_92 : decode cX13_tally 92 = .ok (.getfield 21, 3) := by decide +kernel
theorem dX13_tally_95 : decode cX13_tally 95 = .ok (.sipush 1024, 3) := by decide +kernel
theorem dX13_tally_98 : decode cX13_tally 98 = .ok (.iload_n 1, 1) := by decide +kernel
theorem dX13_tally_99 : decode cX13_tally 99 = .ok (.imul, 1) := by decide +kernel
theorem dX13_tally_100 : decode cX13_tally 100 = .ok (.iload_n 3, 1) := by decide +kernel
theorem dX13_tally_101 : decode cX13_tally 101 = .ok (.iadd, 1) := by decide +kernel
theorem dX13_tally_102 : decode cX13_tally 102 = .ok (.saload, 1) := by decide +kernel
theorem dX13_tally_103 : decode cX13_tally 103 = .ok (.ifCond .le 23, 3) := by decide +kernel
theorem dX13_tally_106 : decode cX13_tally 106 = .ok (.aload_n 2, 1) := by decide +kernel
theorem dX13_tally_107 : decode cX13_tally 107 = .ok (.aload_n 0, 1) := by decide +kernel
theorem dX13_tally_108 : decode cX13_tally 108 = .ok (.getfield 21, 3) := by decide +kernel
theorem dX13_tally_111 : decode cX13_tally 111 = .ok (.sipush 1024, 3) := by decide +kernel
theorem dX13_tally_114 : decode cX13_tally 114 = .ok (.iload_n 1, 1) := by decide +kernel
theorem dX13_tally_115 : decode cX13_tally 115 = .ok (.imul, 1) := by decide +kernel
theorem dX13_tally_116 : decode cX13_tally 116 = .ok (.iload_n 3, 1) := by decide +kernel
theorem dX13_tally_117 : decode cX13_tally 117 = .ok (.iadd, 1) := by decide +kernel
theorem dX13_tally_118 : decode cX13_tally 118 = .ok (.saload, 1) := by decide +kernel
theorem dX13_tally_119 : decode cX13_tally 119 = .ok (.iconst 1, 1) := by decide +kernel
theorem dX13_tally_120 : decode cX13_tally 120 = .ok (.isub, 1) := by decide +kernel
theorem dX13_tally_121 : decode cX13_tally 121 = .ok (.dup2, 1) := by decide +kernel
theorem dX13_tally_122 : decode cX13_tally 122 = .ok (.iaload, 1) := by decide +kernel
theorem dX13_tally_123 : decode cX13_tally 123 = .ok (.iconst 1, 1) := by decide +kernel
theorem dX13_tally_124 : decode cX13_tally 124 = .ok (.iadd, 1) := by decide +kernel
theorem dX13_tally_125 : decode cX13_tally 125 = .ok (.iastore, 1) := by decide +kernel
theorem dX13_tally_126 : decode cX13_tally 126 = .ok (.iinc 3 1, 3) := by decide +kernel
theorem dX13_tally_129 : decode cX13_tally 129 = .ok (.goto (-52), 3) := by decide +kernel
theorem dX13_tally_132 : decode cX13_tally 132 = .ok (.return_, 1) := by decide +kernel
theorem dX13_hold_0 : decode cX13_hold 0 = .ok (.iconst 0, 1) := by decide +kernel
theorem dX13_hold_1 : decode cX13_hold 1 = .ok (.istore_n 1, 1) := by decide +kernel
theorem dX13_hold_2 : decode cX13_hold 2 = .ok (.iload_n 1, 1) := by decide +kernel
theorem dX13_hold_3 : decode cX13_hold 3 = .ok (.aload_n 0, 1) := by decide +kernel
theorem dX13_hold_4 : decode cX13_hold 4 = .ok (.getfield 208, 3) := by decide +kernel
theorem dX13_hold_7 : decode cX13_hold 7 = .ok (.if_icmp .ge 16, 3) := by decide +kernel
theorem dX13_hold_10 : decode cX13_hold 10 = .ok (.aload_n 0, 1) := by decide +kernel
theorem dX13_hold_11 : decode cX13_hold 11 = .ok (.getfield 164, 3) := by decide +kernel
theorem dX13_hold_14 : decode cX13_hold 14 = .ok (.iload_n 1, 1) := by decide +kernel
theorem dX13_hold_15 : decode cX13_hold 15 = .ok (.iconst 0, 1) := by decide +kernel
theorem dX13_hold_16 : decode cX13_hold 16 = .ok (.iastore, 1) := by decide +kernel
theorem dX13_hold_17 : decode cX13_hold 17 = .ok (.iinc 1 1, 3) := by decide +kernel
theorem dX13_hold_20 : decode cX13_hold 20 = .ok (.goto (-18), 3) := by decide +kernel
theorem dX13_hold_23 : decode cX13_hold 23 = .ok (.iconst 0, 1) := by decide +kernel
theorem dX13_hold_24 : decode cX13_hold 24 = .ok (.istore_n 1, 1) := by decide +kernel
theorem dX13_hold_25 : decode cX13_hold 25 = .ok (.iload_n 1, 1) := by decide +kernel
theorem dX13_hold_26 : decode cX13_hold 26 = .ok (.aload_n 0, 1) := by decide +kernel
theorem dX13_hold_27 : decode cX13_hold 27 = .ok (.getfield 222, 3) := by decide +kernel
theorem dX13_hold_30 : decode cX13_hold 30 = .ok (.if_icmp .ge 69, 3) := by decide +kernel
theorem dX13_hold_33 : decode cX13_hold 33 = .ok (.aload_n 0, 1) := by decide +kernel
theorem dX13_hold_34 : decode cX13_hold 34 = .ok (.getfield 25, 3) := by decide +kernel
theorem dX13_hold_37 : decode cX13_hold 37 = .ok (.iload_n 1, 1) := by decide +kernel
theorem dX13_hold_38 : decode cX13_hold 38 = .ok (.baload, 1) := by decide +kernel
theorem dX13_hold_39 : decode cX13_hold 39 = .ok (.ifCond .ne 6, 3) := by decide +kernel
theorem dX13_hold_42 : decode cX13_hold 42 = .ok (.goto 51, 3) := by decide +kernel
theorem dX13_hold_45 : decode cX13_hold 45 = .ok (.aload_n 0, 1) := by decide +kernel
theorem dX13_hold_46 : decode cX13_hold 46 = .ok (.iload_n 1, 1) := by decide +kernel
theorem dX13_hold_47 : decode cX13_hold 47 = .ok (.aload_n 0, 1) := by decide +kernel
theorem dX13_hold_48 : decode cX13_hold 48 = .ok (.getfield 76, 3) := by decide +kernel
theorem dX13_hold_51 : decode cX13_hold 51 = .ok (.invokevirtual 256, 3) := by decide +kernel
theorem dX13_hold_54 : decode cX13_hold 54 = .ok (.iconst 0, 1) := by decide +kernel
theorem dX13_hold_55 : decode cX13_hold 55 = .ok (.istore_n 2, 1) := by decide +kernel
theorem dX13_hold_56 : decode cX13_hold 56 = .ok (.iload_n 2, 1) := by decide +kernel
theorem dX13_hold_57 : decode cX13_hold 57 = .ok (.aload_n 0, 1) := by decide +kernel
theorem dX13_hold_58 : decode cX13_hold 58 = .ok (.getfield 208, 3) := by decide +kernel
theorem dX13_hold_61 : decode cX13_hold 61 = .ok (.if_icmp .ge 32, 3) := by decide +kernel
theorem dX13_hold_64 : decode cX13_hold 64 = .ok (.aload_n 0, 1) := by decide +kernel
theorem dX13_hold_65 : decode cX13_hold 65 = .ok (.getfield 164, 3) := by decide +kernel
theorem dX13_hold_68 : decode cX13_hold 68 = .ok (.iload_n 2, 1) := by decide +kernel
theorem dX13_hold_69 : decode cX13_hold 69 = .ok (.dup2, 1) := by decide +kernel
theorem dX13_hold_70 : decode cX13_hold 70 = .ok (.iaload, 1) := by decide +kernel
theorem dX13_hold_71 : decode cX13_hold 71 = .ok (.aload_n 0, 1) := by decide +kernel
theorem dX13_hold_72 : decode cX13_hold 72 = .ok (.getfield 76, 3) := by decide +kernel
theorem dX13_hold_75 : decode cX13_hold 75 = .ok (.iload_n 2, 1) := by decide +kernel
theorem dX13_hold_76 : decode cX13_hold 76 = .ok (.iaload, 1) := by decide +kernel
theorem dX13_hold_77 : decode cX13_hold 77 = .ok (.ifCond .le 7, 3) := by decide +kernel
theorem dX13_hold_80 : decode cX13_hold 80 = .ok (.iconst 1, 1) := by decide +kernel
theorem dX13_hold_81 : decode cX13_hold 81 = .ok (.goto 4, 3) := by decide +kernel
theorem dX13_hold_84 : decode cX13_hold 84 = .ok (.iconst 0, 1) := by decide +kernel
theorem dX13_hold_85 : decode cX13_hold 85 = .ok (.iadd, 1) := by decide +kernel
theorem dX13_hold_86 : decode cX13_hold 86 = .ok (.iastore, 1) := by decide +kernel
theorem dX13_hold_87 : decode cX13_hold 87 = .ok (.iinc 2 1, 3) := by decide +kernel
theorem dX13_hold_90 : decode cX13_hold 90 = .ok (.goto (-34), 3) := by decide +kernel
theorem dX13_hold_93 : decode cX13_hold 93 = .ok (.iinc 1 1, 3) := by decide +kernel
theorem dX13_hold_96 : decode cX13_hold 96 = .ok (.goto (-71), 3) := by decide +kernel
theorem dX13_hold_99 : decode cX13_hold 99 = .ok (.return_, 1) := by decide +kernel
theorem dX13_nearest_0 : decode cX13_nearest 0 = .ok (.aload_n 0, 1) := by decide +kernel
theorem dX13_nearest_1 : decode cX13_nearest 1 = .ok (.iconst 0, 1) := by decide +kernel
theorem dX13_nearest_2 : decode cX13_nearest 2 = .ok (.putfield 170, 3) := by decide +kernel
theorem dX13_nearest_5 : decode cX13_nearest 5 = .ok (.aload_n 0, 1) := by decide +kernel
theorem dX13_nearest_6 : decode cX13_nearest 6 = .ok (.invokevirtual 275, 3) := by decide +kernel
theorem dX13_nearest_9 : decode cX13_nearest 9 = .ok (.ifCond .ne 5, 3) := by decide +kernel
theorem dX13_nearest_12 : decode cX13_nearest 12 = .ok (.iconst (-1), 1) := by decide +kernel
theorem dX13_nearest_13 : decode cX13_nearest 13 = .ok (.ireturn, 1) := by decide +kernel
theorem dX13_nearest_14 : decode cX13_nearest 14 = .ok (.aload_n 0, 1) := by decide +kernel
theorem dX13_nearest_15 : decode cX13_nearest 15 = .ok (.invokevirtual 527, 3) := by decide +kernel
theorem dX13_nearest_18 : decode cX13_nearest 18 = .ok (.iconst (-1), 1) := by decide +kernel
theorem dX13_nearest_19 : decode cX13_nearest 19 = .ok (.istore_n 1, 1) := by decide +kernel
theorem dX13_nearest_20 : decode cX13_nearest 20 = .ok (.iconst 3, 1) := by decide +kernel
theorem dX13_nearest_21 : decode cX13_nearest 21 = .ok (.istore_n 2, 1) := by decide +kernel
theorem dX13_nearest_22 : decode cX13_nearest 22 = .ok (.iconst 0, 1) := by decide +kernel
theorem dX13_nearest_23 : decode cX13_nearest 23 = .ok (.istore_n 3, 1) := by decide +kernel
theorem dX13_nearest_24 : decode cX13_nearest 24 = .ok (.iload_n 3, 1) := by decide +kernel
theorem dX13_nearest_25 : decode cX13_nearest 25 = .ok (.aload_n 0, 1) := by decide +kernel
theorem dX13_nearest_26 : decode cX13_nearest 26 = .ok (.getfield 208, 3) := by decide +kernel
theorem dX13_nearest_29 : decode cX13_nearest 29 = .ok (.if_icmp .ge 89, 3) := by decide +kernel
theorem dX13_nearest_32 : decode cX13_nearest 32 = .ok (.aload_n 0, 1) := by decide +kernel
theorem dX13_nearest_33 : decode cX13_nearest 33 = .ok (.iload_n 3, 1) := by decide +kernel
theorem dX13_nearest_34 : decode cX13_nearest 34 = .ok (.invokevirtual 530, 3) := by decide +kernel
theorem dX13_nearest_37 : decode cX13_nearest 37 = .ok (.istore 4, 2) := by decide +kernel
theorem dX13_nearest_39 : decode cX13_nearest 39 = .ok (.iload 4, 2) := by decide +kernel
theorem dX13_nearest_41 : decode cX13_nearest 41 = .ok (.iconst 2, 1) := by decide +kernel
theorem dX13_nearest_42 : decode cX13_nearest 42 = .ok (.if_icmp .gt 70, 3) := by decide +kernel
theorem dX13_nearest_45 : decode cX13_nearest 45 = .ok (.iload 4, 2) := by decide +kernel
theorem dX13_nearest_47 : decode cX13_nearest 47 = .ok (.iload_n 2, 1) := by decide +kernel
theorem dX13_nearest_48 : decode cX13_nearest 48 = .ok (.if_icmp .le 6, 3) := by decide +kernel
theorem dX13_nearest_51 : decode cX13_nearest 51 = .ok (.goto 61, 3) := by decide +kernel
theorem dX13_nearest_54 : decode cX13_nearest 54 = .ok (.iload_n 1, 1) := by decide +kernel
theorem dX13_nearest_55 : decode cX13_nearest 55 = .ok (.iconst (-1), 1) := by decide +kernel
theorem dX13_nearest_56 : decode cX13_nearest 56 = .ok (.if_icmp .eq 51, 3) := by decide +kernel
theorem dX13_nearest_59 : decode cX13_nearest 59 = .ok (.iload 4, 2) := by decide +kernel
theorem dX13_nearest_61 : decode cX13_nearest 61 = .ok (.iload_n 2, 1) := by decide +kernel
theorem dX13_nearest_62 : decode cX13_nearest 62 = .ok (.if_icmp .ne 45, 3) := by decide +kernel
theorem dX13_nearest_65 : decode cX13_nearest 65 = .ok (.aload_n 0, 1) := by decide +kernel
theorem dX13_nearest_66 : decode cX13_nearest 66 = .ok (.getfield 164, 3) := by decide +kernel
theorem dX13_nearest_69 : decode cX13_nearest 69 = .ok (.iload_n 3, 1) := by decide +kernel
theorem dX13_nearest_70 : decode cX13_nearest 70 = .ok (.iaload, 1) := by decide +kernel
theorem dX13_nearest_71 : decode cX13_nearest 71 = .ok (.aload_n 0, 1) := by decide +kernel
theorem dX13_nearest_72 : decode cX13_nearest 72 = .ok (.getfield 164, 3) := by decide +kernel
theorem dX13_nearest_75 : decode cX13_nearest 75 = .ok (.iload_n 1, 1) := by decide +kernel
theorem dX13_nearest_76 : decode cX13_nearest 76 = .ok (.iaload, 1) := by decide +kernel
theorem dX13_nearest_77 : decode cX13_nearest 77 = .ok (.if_icmp .lt 35, 3) := by decide +kernel
theorem dX13_nearest_80 : decode cX13_nearest 80 = .ok (.aload_n 0, 1) := by decide +kernel
theorem dX13_nearest_81 : decode cX13_nearest 81 = .ok (.getfield 164, 3) := by decide +kernel
theorem dX13_nearest_84 : decode cX13_nearest 84 = .ok (.iload_n 3, 1) := by decide +kernel
theorem dX13_nearest_85 : decode cX13_nearest 85 = .ok (.iaload, 1) := by decide +kernel
theorem dX13_nearest_86 : decode cX13_nearest 86 = .ok (.aload_n 0, 1) := by decide +kernel
theorem dX13_nearest_87 : decode cX13_nearest 87 = .ok (.getfield 164, 3) := by decide +kernel
theorem dX13_nearest_90 : decode cX13_nearest 90 = .ok (.iload_n 1, 1) := by decide +kernel
theorem dX13_nearest_91 : decode cX13_nearest 91 = .ok (.iaload, 1) := by decide +kernel
theorem dX13_nearest_92 : decode cX13_nearest 92 = .ok (.if_icmp .ne 15, 3) := by decide +kernel
theorem dX13_nearest_95 : decode cX13_nearest 95 = .ok (.aload_n 0, 1) := by decide +kernel
theorem dX13_nearest_96 : decode cX13_nearest 96 = .ok (.iload_n 3, 1) := by decide +kernel
theorem dX13_nearest_97 : decode cX13_nearest 97 = .ok (.iload_n 1, 1) := by decide +kernel
theorem dX13_nearest_98 : decode cX13_nearest 98 = .ok (.invokevirtual 218, 3) := by decide +kernel
theorem dX13_nearest_101 : decode cX13_nearest 101 = .ok (.ifCond .le 6, 3) := by decide +kernel
theorem dX13_nearest_104 : decode cX13_nearest 104 = .ok (.goto 8, 3) := by decide +kernel
theorem dX13_nearest_107 : decode cX13_nearest 107 = .ok (.iload_n 3, 1) := by decide +kernel
theorem dX13_nearest_108 : decode cX13_nearest 108 = .ok (.istore_n 1, 1) := by decide +kernel
theorem dX13_nearest_109 : decode cX13_nearest 109 = .ok (.iload 4, 2) := by decide +kernel
theorem dX13_nearest_111 : decode cX13_nearest 111 = .ok (.istore_n 2, 1) := by decide +kernel
theorem dX13_nearest_112 : decode cX13_nearest 112 = .ok (.iinc 3 1, 3) := by decide +kernel
theorem dX13_nearest_115 : decode cX13_nearest 115 = .ok (.goto (-91), 3) := by decide +kernel
theorem dX13_nearest_118 : decode cX13_nearest 118 = .ok (.iload_n 1, 1) := by decide +kernel
theorem dX13_nearest_119 : decode cX13_nearest 119 = .ok (.iconst (-1), 1) := by decide +kernel
theorem dX13_nearest_120 : decode cX13_nearest 120 = .ok (.if_icmp .ne 5, 3) := by decide +kernel
theorem dX13_nearest_123 : decode cX13_nearest 123 = .ok (.iconst (-1), 1) := by decide +kernel
theorem dX13_nearest_124 : decode cX13_nearest 124 = .ok (.ireturn, 1) := by decide +kernel
theorem dX13_nearest_125 : decode cX13_nearest 125 = .ok (.aload_n 0, 1) := by decide +kernel
theorem dX13_nearest_126 : decode cX13_nearest 126 = .ok (.aload_n 0, 1) := by decide +kernel
theorem dX13_nearest_127 : decode cX13_nearest 127 = .ok (.getfield 16, 3) := by decide +kernel
theorem dX13_nearest_130 : decode cX13_nearest 130 = .ok (.iload_n 1, 1) := by decide +kernel
theorem dX13_nearest_131 : decode cX13_nearest 131 = .ok (.iaload, 1) := by decide +kernel
theorem dX13_nearest_132 : decode cX13_nearest 132 = .ok (.putfield 193, 3) := by decide +kernel
theorem dX13_nearest_135 : decode cX13_nearest 135 = .ok (.iconst 0, 1) := by decide +kernel
theorem dX13_nearest_136 : decode cX13_nearest 136 = .ok (.istore_n 3, 1) := by decide +kernel
theorem dX13_nearest_137 : decode cX13_nearest 137 = .ok (.iload_n 3, 1) := by decide +kernel
theorem dX13_nearest_138 : decode cX13_nearest 138 = .ok (.aload_n 0, 1) := by decide +kernel
theorem dX13_nearest_139 : decode cX13_nearest 139 = .ok (.getfield 193, 3) := by decide +kernel
theorem dX13_nearest_142 : decode cX13_nearest 142 = .ok (.if_icmp .ge 26, 3) := by decide +kernel
theorem dX13_nearest_145 : decode cX13_nearest 145 = .ok (.aload_n 0, 1) := by decide +kernel
theorem dX13_nearest_146 : decode cX13_nearest 146 = .ok (.getfield 60, 3) := by decide +kernel
theorem dX13_nearest_149 : decode cX13_nearest 149 = .ok (.iload_n 3, 1) := by decide +kernel
theorem dX13_nearest_150 : decode cX13_nearest 150 = .ok (.aload_n 0, 1) := by decide +kernel
theorem dX13_nearest_151 : decode cX13_nearest 151 = .ok (.getfield 13, 3) := by decide +kernel
theorem dX13_nearest_154 : decode cX13_nearest 154 = .ok (.bipush 12, 2) := by decide +kernel
theorem dX13_nearest_156 : decode cX13_nearest 156 = .ok (.iload_n 1, 1) := by decide +kernel
theorem dX13_nearest_157 : decode cX13_nearest 157 = .ok (.imul, 1) := by decide +kernel
theorem dX13_nearest_158 : decode cX13_nearest 158 = .ok (.iload_n 3, 1) := by decide +kernel
theorem dX13_nearest_159 : decode cX13_nearest 159 = .ok (.iadd, 1) := by decide +kernel
theorem dX13_nearest_160 : decode cX13_nearest 160 = .ok (.baload, 1) := by decide +kernel
theorem dX13_nearest_161 : decode cX13_nearest 161 = .ok (.bastore, 1) := by decide +kernel
theorem dX13_nearest_162 : decode cX13_nearest 162 = .ok (.iinc 3 1, 3) := by decide +kernel
theorem dX13_nearest_165 : decode cX13_nearest 165 = .ok (.goto (-28), 3) := by decide +kernel
theorem dX13_nearest_168 : decode cX13_nearest 168 = .ok (.aload_n 0, 1) := by decide +kernel
theorem dX13_nearest_169 : decode cX13_nearest 169 = .ok (.invokevirtual 303, 3) := by decide +kernel
theorem dX13_nearest_172 : decode cX13_nearest 172 = .ok (.iload_n 2, 1) := by decide +kernel
theorem dX13_nearest_173 : decode cX13_nearest 173 = .ok (.ireturn, 1) := by decide +kernel
theorem dX13_like_0 : decode cX13_like 0 = .ok (.aload_n 0, 1) := by decide +kernel
theorem dX13_like_1 : decode cX13_like 1 = .ok (.iconst 0, 1) := by decide +kernel
theorem dX13_like_2 : decode cX13_like 2 = .ok (.putfield 170, 3) := by decide +kernel
theorem dX13_like_5 : decode cX13_like 5 = .ok (.aload_n 0, 1) := by decide +kernel
theorem dX13_like_6 : decode cX13_like 6 = .ok (.iload_n 1, 1) := by decide +kernel
theorem dX13_like_7 : decode cX13_like 7 = .ok (.invokevirtual 263, 3) := by decide +kernel
theorem dX13_like_10 : decode cX13_like 10 = .ok (.ifCond .ne 8, 3) := by decide +kernel
theorem dX13_like_13 : decode cX13_like 13 = .ok (.aload_n 0, 1) := by decide +kernel
theorem dX13_like_14 : decode cX13_like 14 = .ok (.invokevirtual 279, 3) := by decide +kernel
theorem dX13_like_17 : decode cX13_like 17 = .ok (.ireturn, 1) := by decide +kernel
theorem dX13_like_18 : decode cX13_like 18 = .ok (.aload_n 0, 1) := by decide +kernel
theorem dX13_like_19 : decode cX13_like 19 = .ok (.invokevirtual 325, 3) := by decide +kernel
theorem dX13_like_22 : decode cX13_like 22 = .ok (.istore_n 2, 1) := by decide +kernel
theorem dX13_like_23 : decode cX13_like 23 = .ok (.aload_n 0, 1) := by decide +kernel
theorem dX13_like_24 : decode cX13_like 24 = .ok (.invokevirtual 527, 3) := by decide +kernel
theorem dX13_like_27 : decode cX13_like 27 = .ok (.aload_n 0, 1) := by decide +kernel
theorem dX13_like_28 : decode cX13_like 28 = .ok (.iload_n 1, 1) := by decide +kernel
theorem dX13_like_29 : decode cX13_like 29 = .ok (.aload_n 0, 1) := by decide +kernel
theorem dX13_like_30 : decode cX13_like 30 = .ok (.getfield 167, 3) := by decide +kernel
theorem dX13_like_33 : decode cX13_like 33 = .ok (.invokevirtual 256, 3) := by decide +kernel
theorem dX13_like_36 : decode cX13_like 36 = .ok (.iconst (-1), 1) := by decide +kernel
theorem dX13_like_37 : decode cX13_like 37 = .ok (.istore_n 3, 1) := by decide +kernel
theorem dX13_like_38 : decode cX13_like 38 = .ok (.iconst 0, 1) := by decide +kernel
theorem dX13_like_39 : decode cX13_like 39 = .ok (.istore 4, 2) := by decide +kernel
theorem dX13_like_41 : decode cX13_like 41 = .ok (.iconst 0, 1) := by decide +kernel
theorem dX13_like_42 : decode cX13_like 42 = .ok (.istore 5, 2) := by decide +kernel
theorem dX13_like_44 : decode cX13_like 44 = .ok (.iload 5, 2) := by decide +kernel
theorem dX13_like_46 : decode cX13_like 46 = .ok (.aload_n 0, 1) := by decide +kernel
theorem dX13_like_47 : decode cX13_like 47 = .ok (.getfield 222, 3) := by decide +kernel
theorem dX13_like_50 : decode cX13_like 50 = .ok (.if_icmp .ge 51, 3) := by decide +kernel
theorem dX13_like_53 : decode cX13_like 53 = .ok (.iload 5, 2) := by decide +kernel
theorem dX13_like_55 : decode cX13_like 55 = .ok (.iload_n 1, 1) := by decide +kernel
theorem dX13_like_56 : decode cX13_like 56 = .ok (.if_icmp .eq 39, 3) := by decide +kernel
theorem dX13_like_59 : decode cX13_like 59 = .ok (.aload_n 0, 1) := by decide +kernel
theorem dX13_like_60 : decode cX13_like 60 = .ok (.getfield 25, 3) := by decide +kernel
theorem dX13_like_63 : decode cX13_like 63 = .ok (.iload 5, 2) := by decide +kernel
theorem dX13_like_65 : decode cX13_like 65 = .ok (.baload, 1) := by decide +kernel
theorem dX13_like_66 : decode cX13_like 66 = .ok (.ifCond .ne 6, 3) := by decide +kernel
theorem dX13_like_69 : decode cX13_like 69 = .ok (.goto 26, 3) := by decide +kernel
theorem dX13_like_72 : decode cX13_like 72 = .ok (.aload_n 0, 1) := by decide +kernel
theorem dX13_like_73 : decode cX13_like 73 = .ok (.iload 5, 2) := by decide +kernel
theorem dX13_like_75 : decode cX13_like 75 = .ok (.iload_n 2, 1) := by decide +kernel
theorem dX13_like_76 : decode cX13_like 76 = .ok (.invokevirtual 533, 3) := by decide +kernel
theorem dX13_like_79 : decode cX13_like 79 = .ok (.istore 6, 2) := by decide +kernel
theorem dX13_like_81 : decode cX13_like 81 = .ok (.iload 6, 2) := by decide +kernel
theorem dX13_like_83 : decode cX13_like 83 = .ok (.iload 4, 2) := by decide +kernel
theorem dX13_like_85 : decode cX13_like 85 = .ok (.if_icmp .le 10, 3) := by decide +kernel
theorem dX13_like_88 : decode cX13_like 88 = .ok (.iload 6, 2) := by decide +kernel
theorem dX13_like_90 : decode cX13_like 90 = .ok (.istore 4, 2) := by decide +kernel
theorem dX13_like_92 : decode cX13_like 92 = .ok (.iload 5, 2) := by decide +kernel
theorem dX13_like_94 : decode cX13_like 94 = .ok (.istore_n 3, 1) := by decide +kernel
theorem dX13_like_95 : decode cX13_like 95 = .ok (.iinc 5 1, 3) := by decide +kernel
theorem dX13_like_98 : decode cX13_like 98 = .ok (.goto (-54), 3) := by decide +kernel
theorem dX13_like_101 : decode cX13_like 101 = .ok (.iload_n 3, 1) := by decide +kernel
theorem dX13_like_102 : decode cX13_like 102 = .ok (.ireturn, 1) := by decide +kernel
theorem dX13_alike_0 : decode cX13_alike 0 = .ok (.aload_n 0, 1) := by decide +kernel
theorem dX13_alike_1 : decode cX13_alike 1 = .ok (.iload_n 1, 1) := by decide +kernel
theorem dX13_alike_2 : decode cX13_alike 2 = .ok (.aload_n 0, 1) := by decide +kernel
theorem dX13_alike_3 : decode cX13_alike 3 = .ok (.getfield 76, 3) := by decide +kernel
theorem dX13_alike_6 : decode cX13_alike 6 = .ok (.invokevirtual 256, 3) := by decide +kernel
theorem dX13_alike_9 : decode cX13_alike 9 = .ok (.iconst 0, 1) := by decide +kernel
theorem dX13_alike_10 : decode cX13_alike 10 = .ok (.istore_n 3, 1) := by decide +kernel
theorem dX13_alike_11 : decode cX13_alike 11 = .ok (.iconst 0, 1) := by decide +kernel
theorem dX13_alike_12 : decode cX13_alike 12 = .ok (.istore 4, 2) := by decide +kernel
theorem dX13_alike_14 : decode cX13_alike 14 = .ok (.iload 4, 2) := by decide +kernel
theorem dX13_alike_16 : decode cX13_alike 16 = .ok (.aload_n 0, 1) := by decide +kernel
theorem dX13_alike_17 : decode cX13_alike 17 = .ok (.getfield 208, 3) := by decide +kernel
theorem dX13_alike_20 : decode cX13_alike 20 = .ok (.if_icmp .ge 65, 3) := by decide +kernel
theorem dX13_alike_23 : decode cX13_alike 23 = .ok (.aload_n 0, 1) := by decide +kernel
theorem dX13_alike_24 : decode cX13_alike 24 = .ok (.getfield 167, 3) := by decide +kernel
theorem dX13_alike_27 : decode cX13_alike 27 = .ok (.iload 4, 2) := by decide +kernel
theorem dX13_alike_29 : decode cX13_alike 29 = .ok (.iaload, 1) := by decide +kernel
theorem dX13_alike_30 : decode cX13_alike 30 = .ok (.ifCond .le 49, 3) := by decide +kernel
theorem dX13_alike_33 : decode cX13_alike 33 = .ok (.aload_n 0, 1) := by decide +kernel
theorem dX13_alike_34 : decode cX13_alike 34 = .ok (.getfield 76, 3) := by decide +kernel
theorem dX13_alike_37 : decode cX13_alike 37 = .ok (.iload 4, 2) := by decide +kernel
theorem dX13_alike_39 : decode cX13_alike 39 = .ok (.iaload, 1) := by decide +kernel
theorem dX13_alike_40 : decode cX13_alike 40 = .ok (.ifCond .le 39, 3) := by decide +kernel
theorem dX13_alike_43 : decode cX13_alike 43 = .ok (.iload_n 3, 1) := by decide +kernel
theorem dX13_alike_44 : decode cX13_alike 44 = .ok (.aload_n 0, 1) := by decide +kernel
theorem dX13_alike_45 : decode cX13_alike 45 = .ok (.getfield 167, 3) := by decide +kernel
theorem dX13_alike_48 : decode cX13_alike 48 = .ok (.iload 4, 2) := by decide +kernel
theorem dX13_alike_50 : decode cX13_alike 50 = .ok (.iaload, 1) := by decide +kernel
theorem dX13_alike_51 : decode cX13_alike 51 = .ok (.aload_n 0, 1) := by decide +kernel
theorem dX13_alike_52 : decode cX13_alike 52 = .ok (.getfield 76, 3) := by decide +kernel
theorem dX13_alike_55 : decode cX13_alike 55 = .ok (.iload 4, 2) := by decide +kernel
theorem dX13_alike_57 : decode cX13_alike 57 = .ok (.iaload, 1) := by decide +kernel
theorem dX13_alike_58 : decode cX13_alike 58 = .ok (.invokestatic 241, 3) := by decide +kernel
theorem dX13_alike_61 : decode cX13_alike 61 = .ok (.bipush 16, 2) := by decide +kernel
theorem dX13_alike_63 : decode cX13_alike 63 = .ok (.iload_n 2, 1) := by decide +kernel
theorem dX13_alike_64 : decode cX13_alike 64 = .ok (.imul, 1) := by decide +kernel
theorem dX13_alike_65 : decode cX13_alike 65 = .ok (.aload_n 0, 1) := by decide +kernel
theorem dX13_alike_66 : decode cX13_alike 66 = .ok (.getfield 164, 3) := by decide +kernel
theorem dX13_alike_69 : decode cX13_alike 69 = .ok (.iload 4, 2) := by decide +kernel
theorem dX13_alike_71 : decode cX13_alike 71 = .ok (.iaload, 1) := by decide +kernel
theorem dX13_alike_72 : decode cX13_alike 72 = .ok (.idiv, 1) := by decide +kernel
theorem dX13_alike_73 : decode cX13_alike 73 = .ok (.invokestatic 282, 3) := by decide +kernel
theorem dX13_alike_76 : decode cX13_alike 76 = .ok (.imul, 1) := by decide +kernel
theorem dX13_alike_77 : decode cX13_alike 77 = .ok (.iadd, 1) := by decide +kernel
theorem dX13_alike_78 : decode cX13_alike 78 = .ok (.istore_n 3, 1) := by decide +kernel
theorem dX13_alike_79 : decode cX13_alike 79 = .ok (.iinc 4 1, 3) := by decide +kernel
theorem dX13_alike_82 : decode cX13_alike 82 = .ok (.goto (-68), 3) := by decide +kernel
theorem dX13_alike_85 : decode cX13_alike 85 = .ok (.iload_n 3, 1) := by decide +kernel
theorem dX13_alike_86 : decode cX13_alike 86 = .ok (.ireturn, 1) := by decide +kernel
theorem dJ6_numberOfLeadingZeros_0f7a4_0 : decode cJ6_numberOfLeadingZeros_0f7a4 0 = .ok (.iload_n 0, 1) := by decide +kernel
theorem dJ6_numberOfLeadingZeros_0f7a4_1 : decode cJ6_numberOfLeadingZeros_0f7a4 1 = .ok (.ifCond .gt 14, 3) := by decide +kernel
theorem dJ6_numberOfLeadingZeros_0f7a4_4 : decode cJ6_numberOfLeadingZeros_0f7a4 4 = .ok (.iload_n 0, 1) := by decide +kernel
theorem dJ6_numberOfLeadingZeros_0f7a4_5 : decode cJ6_numberOfLeadingZeros_0f7a4 5 = .ok (.ifCond .ne 8, 3) := by decide +kernel
theorem dJ6_numberOfLeadingZeros_0f7a4_8 : decode cJ6_numberOfLeadingZeros_0f7a4 8 = .ok (.bipush 32, 2) := by decide +kernel
theorem dJ6_numberOfLeadingZeros_0f7a4_10 : decode cJ6_numberOfLeadingZeros_0f7a4 10 = .ok (.goto 4, 3) := by decide +kernel
theorem dJ6_numberOfLeadingZeros_0f7a4_13 : decode cJ6_numberOfLeadingZeros_0f7a4 13 = .ok (.iconst 0, 1) := by decide +kernel
theorem dJ6_numberOfLeadingZeros_0f7a4_14 : decode cJ6_numberOfLeadingZeros_0f7a4 14 = .ok (.ireturn, 1) := by decide +kernel
theorem dJ6_numberOfLeadingZeros_0f7a4_15 : decode cJ6_numberOfLeadingZeros_0f7a4 15 = .ok (.bipush 31, 2) := by decide +kernel
theorem dJ6_numberOfLeadingZeros_0f7a4_17 : decode cJ6_numberOfLeadingZeros_0f7a4 17 = .ok (.istore_n 1, 1) := by decide +kernel
theorem dJ6_numberOfLeadingZeros_0f7a4_18 : decode cJ6_numberOfLeadingZeros_0f7a4 18 = .ok (.iload_n 0, 1) := by decide +kernel
theorem dJ6_numberOfLeadingZeros_0f7a4_19 : decode cJ6_numberOfLeadingZeros_0f7a4 19 = .ok (.ldc_w 264, 3) := by decide +kernel
theorem dJ6_numberOfLeadingZeros_0f7a4_22 : decode cJ6_numberOfLeadingZeros_0f7a4 22 = .ok (.if_icmp .lt 11, 3) := by decide +kernel
theorem dJ6_numberOfLeadingZeros_0f7a4_25 : decode cJ6_numberOfLeadingZeros_0f7a4 25 = .ok (.iinc 1 (-16), 3) := by decide +kernel
theorem dJ6_numberOfLeadingZeros_0f7a4_28 : decode cJ6_numberOfLeadingZeros_0f7a4 28 = .ok (.iload_n 0, 1) := by decide +kernel
theorem dJ6_numberOfLeadingZeros_0f7a4_29 : decode cJ6_numberOfLeadingZeros_0f7a4 29 = .ok (.bipush 16, 2) := by decide +kernel
theorem dJ6_numberOfLeadingZeros_0f7a4_31 : decode cJ6_numberOfLeadingZeros_0f7a4 31 = .ok (.iushr, 1) := by decide +kernel
theorem dJ6_numberOfLeadingZeros_0f7a4_32 : decode cJ6_numberOfLeadingZeros_0f7a4 32 = .ok (.istore_n 0, 1) := by decide +kernel
theorem dJ6_numberOfLeadingZeros_0f7a4_33 : decode cJ6_numberOfLeadingZeros_0f7a4 33 = .ok (.iload_n 0, 1) := by decide +kernel
theorem dJ6_numberOfLeadingZeros_0f7a4_34 : decode cJ6_numberOfLeadingZeros_0f7a4 34 = .ok (.sipush 256, 3) := by decide +kernel
theorem dJ6_numberOfLeadingZeros_0f7a4_37 : decode cJ6_numberOfLeadingZeros_0f7a4 37 = .ok (.if_icmp .lt 11, 3) := by decide +kernel
theorem dJ6_numberOfLeadingZeros_0f7a4_40 : decode cJ6_numberOfLeadingZeros_0f7a4 40 = .ok (.iinc 1 (-8), 3) := by decide +kernel
theorem dJ6_numberOfLeadingZeros_0f7a4_43 : decode cJ6_numberOfLeadingZeros_0f7a4 43 = .ok (.iload_n 0, 1) := by decide +kernel
theorem dJ6_numberOfLeadingZeros_0f7a4_44 : decode cJ6_numberOfLeadingZeros_0f7a4 44 = .ok (.bipush 8, 2) := by decide +kernel
theorem dJ6_numberOfLeadingZeros_0f7a4_46 : decode cJ6_numberOfLeadingZeros_0f7a4 46 = .ok (.iushr, 1) := by decide +kernel
theorem dJ6_numberOfLeadingZeros_0f7a4_47 : decode cJ6_numberOfLeadingZeros_0f7a4 47 = .ok (.istore_n 0, 1) := by decide +kernel
theorem dJ6_numberOfLeadingZeros_0f7a4_48 : decode cJ6_numberOfLeadingZeros_0f7a4 48 = .ok (.iload_n 0, 1) := by decide +kernel
theorem dJ6_numberOfLeadingZeros_0f7a4_49 : decode cJ6_numberOfLeadingZeros_0f7a4 49 = .ok (.bipush 16, 2) := by decide +kernel
theorem dJ6_numberOfLeadingZeros_0f7a4_51 : decode cJ6_numberOfLeadingZeros_0f7a4 51 = .ok (.if_icmp .lt 10, 3) := by decide +kernel
theorem dJ6_numberOfLeadingZeros_0f7a4_54 : decode cJ6_numberOfLeadingZeros_0f7a4 54 = .ok (.iinc 1 (-4), 3) := by decide +kernel
theorem dJ6_numberOfLeadingZeros_0f7a4_57 : decode cJ6_numberOfLeadingZeros_0f7a4 57 = .ok (.iload_n 0, 1) := by decide +kernel
theorem dJ6_numberOfLeadingZeros_0f7a4_58 : decode cJ6_numberOfLeadingZeros_0f7a4 58 = .ok (.iconst 4, 1) := by decide +kernel
theorem dJ6_numberOfLeadingZeros_0f7a4_59 : decode cJ6_numberOfLeadingZeros_0f7a4 59 = .ok (.iushr, 1) := by decide +kernel
theorem dJ6_numberOfLeadingZeros_0f7a4_60 : decode cJ6_numberOfLeadingZeros_0f7a4 60 = .ok (.istore_n 0, 1) := by decide +kernel
theorem dJ6_numberOfLeadingZeros_0f7a4_61 : decode cJ6_numberOfLeadingZeros_0f7a4 61 = .ok (.iload_n 0, 1) := by decide +kernel
theorem dJ6_numberOfLeadingZeros_0f7a4_62 : decode cJ6_numberOfLeadingZeros_0f7a4 62 = .ok (.iconst 4, 1) := by decide +kernel
theorem dJ6_numberOfLeadingZeros_0f7a4_63 : decode cJ6_numberOfLeadingZeros_0f7a4 63 = .ok (.if_icmp .lt 10, 3) := by decide +kernel
theorem dJ6_numberOfLeadingZeros_0f7a4_66 : decode cJ6_numberOfLeadingZeros_0f7a4 66 = .ok (.iinc 1 (-2), 3) := by decide +kernel
theorem dJ6_numberOfLeadingZeros_0f7a4_69 : decode cJ6_numberOfLeadingZeros_0f7a4 69 = .ok (.iload_n 0, 1) := by decide +kernel
theorem dJ6_numberOfLeadingZeros_0f7a4_70 : decode cJ6_numberOfLeadingZeros_0f7a4 70 = .ok (.iconst 2, 1) := by decide +kernel
theorem dJ6_numberOfLeadingZeros_0f7a4_71 : decode cJ6_numberOfLeadingZeros_0f7a4 71 = .ok (.iushr, 1) := by decide +kernel
theorem dJ6_numberOfLeadingZeros_0f7a4_72 : decode cJ6_numberOfLeadingZeros_0f7a4 72 = .ok (.istore_n 0, 1) := by decide +kernel
theorem dJ6_numberOfLeadingZeros_0f7a4_73 : decode cJ6_numberOfLeadingZeros_0f7a4 73 = .ok (.iload_n 1, 1) := by decide +kernel
theorem dJ6_numberOfLeadingZeros_0f7a4_74 : decode cJ6_numberOfLeadingZeros_0f7a4 74 = .ok (.iload_n 0, 1) := by decide +kernel
theorem dJ6_numberOfLeadingZeros_0f7a4_75 : decode cJ6_numberOfLeadingZeros_0f7a4 75 = .ok (.iconst 1, 1) := by decide +kernel
theorem dJ6_numberOfLeadingZeros_0f7a4_76 : decode cJ6_numberOfLeadingZeros_0f7a4 76 = .ok (.iushr, 1) := by decide +kernel
theorem dJ6_numberOfLeadingZeros_0f7a4_77 : decode cJ6_numberOfLeadingZeros_0f7a4 77 = .ok (.isub, 1) := by decide +kernel
theorem dJ6_numberOfLeadingZeros_0f7a4_78 : decode cJ6_numberOfLeadingZeros_0f7a4 78 = .ok (.ireturn, 1) := by decide +kernel
theorem dJ6_numberOfTrailingZeros_0f7a4_0 : decode cJ6_numberOfTrailingZeros_0f7a4 0 = .ok (.iload_n 0, 1) := by decide +kernel
theorem dJ6_numberOfTrailingZeros_0f7a4_1 : decode cJ6_numberOfTrailingZeros_0f7a4 1 = .ok (.iconst (-1), 1) := by decide +kernel
theorem dJ6_numberOfTrailingZeros_0f7a4_2 : decode cJ6_numberOfTrailingZeros_0f7a4 2 = .ok (.ixor, 1) := by decide +kernel
theorem dJ6_numberOfTrailingZeros_0f7a4_3 : decode cJ6_numberOfTrailingZeros_0f7a4 3 = .ok (.iload_n 0, 1) := by decide +kernel
theorem dJ6_numberOfTrailingZeros_0f7a4_4 : decode cJ6_numberOfTrailingZeros_0f7a4 4 = .ok (.iconst 1, 1) := by decide +kernel
theorem dJ6_numberOfTrailingZeros_0f7a4_5 : decode cJ6_numberOfTrailingZeros_0f7a4 5 = .ok (.isub, 1) := by decide +kernel
theorem dJ6_numberOfTrailingZeros_0f7a4_6 : decode cJ6_numberOfTrailingZeros_0f7a4 6 = .ok (.iand, 1) := by decide +kernel
theorem dJ6_numberOfTrailingZeros_0f7a4_7 : decode cJ6_numberOfTrailingZeros_0f7a4 7 = .ok (.istore_n 0, 1) := by decide +kernel
theorem dJ6_numberOfTrailingZeros_0f7a4_8 : decode cJ6_numberOfTrailingZeros_0f7a4 8 = .ok (.iload_n 0, 1) := by decide +kernel
theorem dJ6_numberOfTrailingZeros_0f7a4_9 : decode cJ6_numberOfTrailingZeros_0f7a4 9 = .ok (.ifCond .gt 8, 3) := by decide +kernel
theorem dJ6_numberOfTrailingZeros_0f7a4_12 : decode cJ6_numberOfTrailingZeros_0f7a4 12 = .ok (.iload_n 0, 1) := by decide +kernel
theorem dJ6_numberOfTrailingZeros_0f7a4_13 : decode cJ6_numberOfTrailingZeros_0f7a4 13 = .ok (.bipush 32, 2) := by decide +kernel
theorem dJ6_numberOfTrailingZeros_0f7a4_15 : decode cJ6_numberOfTrailingZeros_0f7a4 15 = .ok (.iand, 1) := by decide +kernel
theorem dJ6_numberOfTrailingZeros_0f7a4_16 : decode cJ6_numberOfTrailingZeros_0f7a4 16 = .ok (.ireturn, 1) := by decide +kernel
theorem dJ6_numberOfTrailingZeros_0f7a4_17 : decode cJ6_numberOfTrailingZeros_0f7a4 17 = .ok (.iconst 1, 1) := by decide +kernel
theorem dJ6_numberOfTrailingZeros_0f7a4_18 : decode cJ6_numberOfTrailingZeros_0f7a4 18 = .ok (.istore_n 1, 1) := by decide +kernel
theorem dJ6_numberOfTrailingZeros_0f7a4_19 : decode cJ6_numberOfTrailingZeros_0f7a4 19 = .ok (.iload_n 0, 1) := by decide +kernel
theorem dJ6_numberOfTrailingZeros_0f7a4_20 : decode cJ6_numberOfTrailingZeros_0f7a4 20 = .ok (.ldc_w 264, 3) := by decide +kernel
theorem dJ6_numberOfTrailingZeros_0f7a4_23 : decode cJ6_numberOfTrailingZeros_0f7a4 23 = .ok (.if_icmp .le 11, 3) := by decide +kernel
theorem dJ6_numberOfTrailingZeros_0f7a4_26 : decode cJ6_numberOfTrailingZeros_0f7a4 26 = .ok (.iinc 1 16, 3) := by decide +kernel
theorem dJ6_numberOfTrailingZeros_0f7a4_29 : decode cJ6_numberOfTrailingZeros_0f7a4 29 = .ok (.iload_n 0, 1) := by decide +kernel
theorem dJ6_numberOfTrailingZeros_0f7a4_30 : decode cJ6_numberOfTrailingZeros_0f7a4 30 = .ok (.bipush 16, 2) := by decide +kernel
theorem dJ6_numberOfTrailingZeros_0f7a4_32 : decode cJ6_numberOfTrailingZeros_0f7a4 32 = .ok (.iushr, 1) := by decide +kernel
theorem dJ6_numberOfTrailingZeros_0f7a4_33 : decode cJ6_numberOfTrailingZeros_0f7a4 33 = .ok (.istore_n 0, 1) := by decide +kernel
theorem dJ6_numberOfTrailingZeros_0f7a4_34 : decode cJ6_numberOfTrailingZeros_0f7a4 34 = .ok (.iload_n 0, 1) := by decide +kernel
theorem dJ6_numberOfTrailingZeros_0f7a4_35 : decode cJ6_numberOfTrailingZeros_0f7a4 35 = .ok (.sipush 256, 3) := by decide +kernel
theorem dJ6_numberOfTrailingZeros_0f7a4_38 : decode cJ6_numberOfTrailingZeros_0f7a4 38 = .ok (.if_icmp .le 11, 3) := by decide +kernel
theorem dJ6_numberOfTrailingZeros_0f7a4_41 : decode cJ6_numberOfTrailingZeros_0f7a4 41 = .ok (.iinc 1 8, 3) := by decide +kernel
theorem dJ6_numberOfTrailingZeros_0f7a4_44 : decode cJ6_numberOfTrailingZeros_0f7a4 44 = .ok (.iload_n 0, 1) := by decide +kernel
theorem dJ6_numberOfTrailingZeros_0f7a4_45 : decode cJ6_numberOfTrailingZeros_0f7a4 45 = .ok (.bipush 8, 2) := by decide +kernel
theorem dJ6_numberOfTrailingZeros_0f7a4_47 : decode cJ6_numberOfTrailingZeros_0f7a4 47 = .ok (.iushr, 1) := by decide +kernel
theorem dJ6_numberOfTrailingZeros_0f7a4_48 : decode cJ6_numberOfTrailingZeros_0f7a4 48 = .ok (.istore_n 0, 1) := by decide +kernel
theorem dJ6_numberOfTrailingZeros_0f7a4_49 : decode cJ6_numberOfTrailingZeros_0f7a4 49 = .ok (.iload_n 0, 1) := by decide +kernel
theorem dJ6_numberOfTrailingZeros_0f7a4_50 : decode cJ6_numberOfTrailingZeros_0f7a4 50 = .ok (.bipush 16, 2) := by decide +kernel
theorem dJ6_numberOfTrailingZeros_0f7a4_52 : decode cJ6_numberOfTrailingZeros_0f7a4 52 = .ok (.if_icmp .le 10, 3) := by decide +kernel
theorem dJ6_numberOfTrailingZeros_0f7a4_55 : decode cJ6_numberOfTrailingZeros_0f7a4 55 = .ok (.iinc 1 4, 3) := by decide +kernel
theorem dJ6_numberOfTrailingZeros_0f7a4_58 : decode cJ6_numberOfTrailingZeros_0f7a4 58 = .ok (.iload_n 0, 1) := by decide +kernel
theorem dJ6_numberOfTrailingZeros_0f7a4_59 : decode cJ6_numberOfTrailingZeros_0f7a4 59 = .ok (.iconst 4, 1) := by decide +kernel
theorem dJ6_numberOfTrailingZeros_0f7a4_60 : decode cJ6_numberOfTrailingZeros_0f7a4 60 = .ok (.iushr, 1) := by decide +kernel
theorem dJ6_numberOfTrailingZeros_0f7a4_61 : decode cJ6_numberOfTrailingZeros_0f7a4 61 = .ok (.istore_n 0, 1) := by decide +kernel
theorem dJ6_numberOfTrailingZeros_0f7a4_62 : decode cJ6_numberOfTrailingZeros_0f7a4 62 = .ok (.iload_n 0, 1) := by decide +kernel
theorem dJ6_numberOfTrailingZeros_0f7a4_63 : decode cJ6_numberOfTrailingZeros_0f7a4 63 = .ok (.iconst 4, 1) := by decide +kernel
theorem dJ6_numberOfTrailingZeros_0f7a4_64 : decode cJ6_numberOfTrailingZeros_0f7a4 64 = .ok (.if_icmp .le 10, 3) := by decide +kernel
theorem dJ6_numberOfTrailingZeros_0f7a4_67 : decode cJ6_numberOfTrailingZeros_0f7a4 67 = .ok (.iinc 1 2, 3) := by decide +kernel
theorem dJ6_numberOfTrailingZeros_0f7a4_70 : decode cJ6_numberOfTrailingZeros_0f7a4 70 = .ok (.iload_n 0, 1) := by decide +kernel
theorem dJ6_numberOfTrailingZeros_0f7a4_71 : decode cJ6_numberOfTrailingZeros_0f7a4 71 = .ok (.iconst 2, 1) := by decide +kernel
theorem dJ6_numberOfTrailingZeros_0f7a4_72 : decode cJ6_numberOfTrailingZeros_0f7a4 72 = .ok (.iushr, 1) := by decide +kernel
theorem dJ6_numberOfTrailingZeros_0f7a4_73 : decode cJ6_numberOfTrailingZeros_0f7a4 73 = .ok (.istore_n 0, 1) := by decide +kernel
theorem dJ6_numberOfTrailingZeros_0f7a4_74 : decode cJ6_numberOfTrailingZeros_0f7a4 74 = .ok (.iload_n 1, 1) := by decide +kernel
theorem dJ6_numberOfTrailingZeros_0f7a4_75 : decode cJ6_numberOfTrailingZeros_0f7a4 75 = .ok (.iload_n 0, 1) := by decide +kernel
theorem dJ6_numberOfTrailingZeros_0f7a4_76 : decode cJ6_numberOfTrailingZeros_0f7a4 76 = .ok (.iconst 1, 1) := by decide +kernel
theorem dJ6_numberOfTrailingZeros_0f7a4_77 : decode cJ6_numberOfTrailingZeros_0f7a4 77 = .ok (.iushr, 1) := by decide +kernel
theorem dJ6_numberOfTrailingZeros_0f7a4_78 : decode cJ6_numberOfTrailingZeros_0f7a4 78 = .ok (.iadd, 1) := by decide +kernel
theorem dJ6_numberOfTrailingZeros_0f7a4_79 : decode cJ6_numberOfTrailingZeros_0f7a4 79 = .ok (.ireturn, 1) := by decide +kernel
theorem dJ6_bitCount_0f7a4_0 : decode cJ6_bitCount_0f7a4 0 = .ok (.iload_n 0, 1) := by decide +kernel
theorem dJ6_bitCount_0f7a4_1 : decode cJ6_bitCount_0f7a4 1 = .ok (.iload_n 0, 1) := by decide +kernel
theorem dJ6_bitCount_0f7a4_2 : decode cJ6_bitCount_0f7a4 2 = .ok (.iconst 1, 1) := by decide +kernel
theorem dJ6_bitCount_0f7a4_3 : decode cJ6_bitCount_0f7a4 3 = .ok (.iushr, 1) := by decide +kernel
theorem dJ6_bitCount_0f7a4_4 : decode cJ6_bitCount_0f7a4 4 = .ok (.ldc_w 265, 3) := by decide +kernel
theorem dJ6_bitCount_0f7a4_7 : decode cJ6_bitCount_0f7a4 7 = .ok (.iand, 1) := by decide +kernel
theorem dJ6_bitCount_0f7a4_8 : decode cJ6_bitCount_0f7a4 8 = .ok (.isub, 1) := by decide +kernel
theorem dJ6_bitCount_0f7a4_9 : decode cJ6_bitCount_0f7a4 9 = .ok (.istore_n 0, 1) := by decide +kernel
theorem dJ6_bitCount_0f7a4_10 : decode cJ6_bitCount_0f7a4 10 = .ok (.iload_n 0, 1) := by decide +kernel
theorem dJ6_bitCount_0f7a4_11 : decode cJ6_bitCount_0f7a4 11 = .ok (.ldc_w 266, 3) := by decide +kernel
theorem dJ6_bitCount_0f7a4_14 : decode cJ6_bitCount_0f7a4 14 = .ok (.iand, 1) := by decide +kernel
theorem dJ6_bitCount_0f7a4_15 : decode cJ6_bitCount_0f7a4 15 = .ok (.iload_n 0, 1) := by decide +kernel
theorem dJ6_bitCount_0f7a4_16 : decode cJ6_bitCount_0f7a4 16 = .ok (.iconst 2, 1) := by decide +kernel
theorem dJ6_bitCount_0f7a4_17 : decode cJ6_bitCount_0f7a4 17 = .ok (.iushr, 1) := by decide +kernel
theorem dJ6_bitCount_0f7a4_18 : decode cJ6_bitCount_0f7a4 18 = .ok (.ldc_w 266, 3) := by decide +kernel
theorem dJ6_bitCount_0f7a4_21 : decode cJ6_bitCount_0f7a4 21 = .ok (.iand, 1) := by decide +kernel
theorem dJ6_bitCount_0f7a4_22 : decode cJ6_bitCount_0f7a4 22 = .ok (.iadd, 1) := by decide +kernel
theorem dJ6_bitCount_0f7a4_23 : decode cJ6_bitCount_0f7a4 23 = .ok (.istore_n 0, 1) := by decide +kernel
theorem dJ6_bitCount_0f7a4_24 : decode cJ6_bitCount_0f7a4 24 = .ok (.iload_n 0, 1) := by decide +kernel
theorem dJ6_bitCount_0f7a4_25 : decode cJ6_bitCount_0f7a4 25 = .ok (.iload_n 0, 1) := by decide +kernel
theorem dJ6_bitCount_0f7a4_26 : decode cJ6_bitCount_0f7a4 26 = .ok (.iconst 4, 1) := by decide +kernel
theorem dJ6_bitCount_0f7a4_27 : decode cJ6_bitCount_0f7a4 27 = .ok (.iushr, 1) := by decide +kernel
theorem dJ6_bitCount_0f7a4_28 : decode cJ6_bitCount_0f7a4 28 = .ok (.iadd, 1) := by decide +kernel
theorem dJ6_bitCount_0f7a4_29 : decode cJ6_bitCount_0f7a4 29 = .ok (.ldc_w 267, 3) := by decide +kernel
theorem dJ6_bitCount_0f7a4_32 : decode cJ6_bitCount_0f7a4 32 = .ok (.iand, 1) := by decide +kernel
theorem dJ6_bitCount_0f7a4_33 : decode cJ6_bitCount_0f7a4 33 = .ok (.istore_n 0, 1) := by decide +kernel
theorem dJ6_bitCount_0f7a4_34 : decode cJ6_bitCount_0f7a4 34 = .ok (.iload_n 0, 1) := by decide +kernel
theorem dJ6_bitCount_0f7a4_35 : decode cJ6_bitCount_0f7a4 35 = .ok (.iload_n 0, 1) := by decide +kernel
theorem dJ6_bitCount_0f7a4_36 : decode cJ6_bitCount_0f7a4 36 = .ok (.bipush 8, 2) := by decide +kernel
theorem dJ6_bitCount_0f7a4_38 : decode cJ6_bitCount_0f7a4 38 = .ok (.iushr, 1) := by decide +kernel
theorem dJ6_bitCount_0f7a4_39 : decode cJ6_bitCount_0f7a4 39 = .ok (.iadd, 1) := by decide +kernel
theorem dJ6_bitCount_0f7a4_40 : decode cJ6_bitCount_0f7a4 40 = .ok (.istore_n 0, 1) := by decide +kernel
theorem dJ6_bitCount_0f7a4_41 : decode cJ6_bitCount_0f7a4 41 = .ok (.iload_n 0, 1) := by decide +kernel
theorem dJ6_bitCount_0f7a4_42 : decode cJ6_bitCount_0f7a4 42 = .ok (.iload_n 0, 1) := by decide +kernel
theorem dJ6_bitCount_0f7a4_43 : decode cJ6_bitCount_0f7a4 43 = .ok (.bipush 16, 2) := by decide +kernel
theorem dJ6_bitCount_0f7a4_45 : decode cJ6_bitCount_0f7a4 45 = .ok (.iushr, 1) := by decide +kernel
theorem dJ6_bitCount_0f7a4_46 : decode cJ6_bitCount_0f7a4 46 = .ok (.iadd, 1) := by decide +kernel
theorem dJ6_bitCount_0f7a4_47 : decode cJ6_bitCount_0f7a4 47 = .ok (.istore_n 0, 1) := by decide +kernel
theorem dJ6_bitCount_0f7a4_48 : decode cJ6_bitCount_0f7a4 48 = .ok (.iload_n 0, 1) := by decide +kernel
theorem dJ6_bitCount_0f7a4_49 : decode cJ6_bitCount_0f7a4 49 = .ok (.bipush 63, 2) := by decide +kernel
theorem dJ6_bitCount_0f7a4_51 : decode cJ6_bitCount_0f7a4 51 = .ok (.iand, 1) := by decide +kernel
theorem dJ6_bitCount_0f7a4_52 : decode cJ6_bitCount_0f7a4 52 = .ok (.ireturn, 1) := by decide +kernel
theorem dJ9_abs_0f7a4_0 : decode cJ9_abs_0f7a4 0 = .ok (.iload_n 0, 1) := by decide +kernel
theorem dJ9_abs_0f7a4_1 : decode cJ9_abs_0f7a4 1 = .ok (.ifCond .ge 8, 3) := by decide +kernel
theorem dJ9_abs_0f7a4_4 : decode cJ9_abs_0f7a4 4 = .ok (.iload_n 0, 1) := by decide +kernel
theorem dJ9_abs_0f7a4_5 : decode cJ9_abs_0f7a4 5 = .ok (.ineg, 1) := by decide +kernel
theorem dJ9_abs_0f7a4_6 : decode cJ9_abs_0f7a4 6 = .ok (.goto 4, 3) := by decide +kernel
theorem dJ9_abs_0f7a4_9 : decode cJ9_abs_0f7a4 9 = .ok (.iload_n 0, 1) := by decide +kernel
theorem dJ9_abs_0f7a4_10 : decode cJ9_abs_0f7a4 10 = .ok (.ireturn, 1) := by decide +kernel
theorem dJ9_max_7cf53_0 : decode cJ9_max_7cf53 0 = .ok (.iload_n 0, 1) := by decide +kernel
theorem dJ9_max_7cf53_1 : decode cJ9_max_7cf53 1 = .ok (.iload_n 1, 1) := by decide +kernel
theorem dJ9_max_7cf53_2 : decode cJ9_max_7cf53 2 = .ok (.if_icmp .lt 7, 3) := by decide +kernel
theorem dJ9_max_7cf53_5 : decode cJ9_max_7cf53 5 = .ok (.iload_n 0, 1) := by decide +kernel
theorem dJ9_max_7cf53_6 : decode cJ9_max_7cf53 6 = .ok (.goto 4, 3) := by decide +kernel
theorem dJ9_max_7cf53_9 : decode cJ9_max_7cf53 9 = .ok (.iload_n 1, 1) := by decide +kernel
theorem dJ9_max_7cf53_10 : decode cJ9_max_7cf53 10 = .ok (.ireturn, 1) := by decide +kernel
theorem dJ9_min_7cf53_0 : decode cJ9_min_7cf53 0 = .ok (.iload_n 0, 1) := by decide +kernel
theorem dJ9_min_7cf53_1 : decode cJ9_min_7cf53 1 = .ok (.iload_n 1, 1) := by decide +kernel
theorem dJ9_min_7cf53_2 : decode cJ9_min_7cf53 2 = .ok (.if_icmp .gt 7, 3) := by decide +kernel
theorem dJ9_min_7cf53_5 : decode cJ9_min_7cf53 5 = .ok (.iload_n 0, 1) := by decide +kernel
theorem dJ9_min_7cf53_6 : decode cJ9_min_7cf53 6 = .ok (.goto 4, 3) := by decide +kernel
theorem dJ9_min_7cf53_9 : decode cJ9_min_7cf53 9 = .ok (.iload_n 1, 1) := by decide +kernel
theorem dJ9_min_7cf53_10 : decode cJ9_min_7cf53 10 = .ok (.ireturn, 1) := by decide +kernel
theorem dJ0_length_8abf5_0 : decode cJ0_length_8abf5 0 = .ok (.aload_n 0, 1) := by decide +kernel
theorem dJ0_length_8abf5_1 : decode cJ0_length_8abf5 1 = .ok (.getfield 9, 3) := by decide +kernel
theorem dJ0_length_8abf5_4 : decode cJ0_length_8abf5 4 = .ok (.arraylength, 1) := by decide +kernel
theorem dJ0_length_8abf5_5 : decode cJ0_length_8abf5 5 = .ok (.aload_n 0, 1) := by decide +kernel
theorem dJ0_length_8abf5_6 : decode cJ0_length_8abf5 6 = .ok (.invokevirtual 335, 3) := by decide +kernel
theorem dJ0_length_8abf5_9 : decode cJ0_length_8abf5 9 = .ok (.ishr, 1) := by decide +kernel
theorem dJ0_length_8abf5_10 : decode cJ0_length_8abf5 10 = .ok (.ireturn, 1) := by decide +kernel
theorem dJ0_charAt_5068e_0 : decode cJ0_charAt_5068e 0 = .ok (.aload_n 0, 1) := by decide +kernel
theorem dJ0_charAt_5068e_1 : decode cJ0_charAt_5068e 1 = .ok (.invokevirtual 492, 3) := by decide +kernel
theorem dJ0_charAt_5068e_4 : decode cJ0_charAt_5068e 4 = .ok (.ifCond .eq 12, 3) := by decide +kernel
theorem dJ0_charAt_5068e_7 : decode cJ0_charAt_5068e 7 = .ok (.aload_n 0, 1) := by decide +kernel
theorem dJ0_charAt_5068e_8 : decode cJ0_charAt_5068e 8 = .ok (.getfield 9, 3) := by decide +kernel
theorem dJ0_charAt_5068e_11 : decode cJ0_charAt_5068e 11 = .ok (.iload_n 1, 1) := by decide +kernel
theorem dJ0_charAt_5068e_12 : decode cJ0_charAt_5068e 12 = .ok (.invokestatic 495, 3) := by decide +kernel
theorem dJ0_charAt_5068e_15 : decode cJ0_charAt_5068e 15 = .ok (.ireturn, 1) := by decide +kernel
theorem dJ0_charAt_5068e_16 : decode cJ0_charAt_5068e 16 = .ok (.aload_n 0, 1) := by decide +kernel
theorem dJ0_charAt_5068e_17 : decode cJ0_charAt_5068e 17 = .ok (.getfield 9, 3) := by decide +kernel
theorem dJ0_charAt_5068e_20 : decode cJ0_charAt_5068e 20 = .ok (.iload_n 1, 1) := by decide +kernel
theorem dJ0_charAt_5068e_21 : decode cJ0_charAt_5068e 21 = .ok (.invokestatic 498, 3) := by decide +kernel
theorem dJ0_charAt_5068e_24 : decode cJ0_charAt_5068e 24 = .ok (.ireturn, 1) := by decide +kernel
theorem dJ0_coder_7d493_0 : decode cJ0_coder_7d493 0 = .ok (.getstatic 38, 3) := by decide +kernel
theorem dJ0_coder_7d493_3 : decode cJ0_coder_7d493 3 = .ok (.ifCond .eq 10, 3) := by decide +kernel
theorem dJ0_coder_7d493_6 : decode cJ0_coder_7d493 6 = .ok (.aload_n 0, 1) := by decide +kernel
theorem dJ0_coder_7d493_7 : decode cJ0_coder_7d493 7 = .ok (.getfield 15, 3) := by decide +kernel
theorem dJ0_coder_7d493_10 : decode cJ0_coder_7d493 10 = .ok (.goto 4, 3) := by decide +kernel
theorem dJ0_coder_7d493_13 : decode cJ0_coder_7d493 13 = .ok (.iconst 1, 1) := by decide +kernel
theorem dJ0_coder_7d493_14 : decode cJ0_coder_7d493 14 = .ok (.ireturn, 1) := by decide +kernel
theorem dJ0_isLatin1_aae02_0 : decode cJ0_isLatin1_aae02 0 = .ok (.getstatic 38, 3) := by decide +kernel
theorem dJ0_isLatin1_aae02_3 : decode cJ0_isLatin1_aae02 3 = .ok (.ifCond .eq 14, 3) := by decide +kernel
theorem dJ0_isLatin1_aae02_6 : decode cJ0_isLatin1_aae02 6 = .ok (.aload_n 0, 1) := by decide +kernel
theorem dJ0_isLatin1_aae02_7 : decode cJ0_isLatin1_aae02 7 = .ok (.getfield 15, 3) := by decide +kernel
theorem dJ0_isLatin1_aae02_10 : decode cJ0_isLatin1_aae02 10 = .ok (.ifCond .ne 7, 3) := by decide +kernel
theorem dJ0_isLatin1_aae02_13 : decode cJ0_isLatin1_aae02 13 = .ok (.iconst 1, 1) := by decide +kernel
theorem dJ0_isLatin1_aae02_14 : decode cJ0_isLatin1_aae02 14 = .ok (.goto 4, 3) := by decide +kernel
theorem dJ0_isLatin1_aae02_17 : decode cJ0_isLatin1_aae02 17 = .ok (.iconst 0, 1) := by decide +kernel
theorem dJ0_isLatin1_aae02_18 : decode cJ0_isLatin1_aae02 18 = .ok (.ireturn, 1) := by decide +kernel
theorem dJ0_checkIndex_df160_0 : decode cJ0_checkIndex_df160 0 = .ok (.iload_n 0, 1) := by decide +kernel
theorem dJ0_checkIndex_df160_1 : decode cJ0_checkIndex_df160 1 = .ok (.iload_n 1, 1) := by decide +kernel
theorem dJ0_checkIndex_df160_2 : decode cJ0_checkIndex_df160 2 = .ok (.getstatic 1053, 3) := by decide +kernel
theorem dJ0_checkIndex_df160_5 : decode cJ0_checkIndex_df160 5 = .ok (.invokestatic 1059, 3) := by decide +kernel
theorem dJ0_checkIndex_df160_8 : decode cJ0_checkIndex_df160 8 = .ok (.pop, 1) := by decide +kernel
theorem dJ0_checkIndex_df160_9 : decode cJ0_checkIndex_df160 9 = .ok (.return_, 1) := by decide +kernel
theorem dJ1_charAt_3b067_0 : decode cJ1_charAt_3b067 0 = .ok (.iload_n 1, 1) := by decide +kernel
theorem dJ1_charAt_3b067_1 : decode cJ1_charAt_3b067 1 = .ok (.aload_n 0, 1) := by decide +kernel
theorem dJ1_charAt_3b067_2 : decode cJ1_charAt_3b067 2 = .ok (.arraylength, 1) := by decide +kernel
theorem dJ1_charAt_3b067_3 : decode cJ1_charAt_3b067 3 = .ok (.invokestatic 9, 3) := by decide +kernel
theorem dJ1_charAt_3b067_6 : decode cJ1_charAt_3b067 6 = .ok (.aload_n 0, 1) := by decide +kernel
theorem dJ1_charAt_3b067_7 : decode cJ1_charAt_3b067 7 = .ok (.iload_n 1, 1) := by decide +kernel
theorem dJ1_charAt_3b067_8 : decode cJ1_charAt_3b067 8 = .ok (.baload, 1) := by decide +kernel
theorem dJ1_charAt_3b067_9 : decode cJ1_charAt_3b067 9 = .ok (.sipush 255, 3) := by decide +kernel
theorem dJ1_charAt_3b067_12 : decode cJ1_charAt_3b067 12 = .ok (.iand, 1) := by decide +kernel
theorem dJ1_charAt_3b067_13 : decode cJ1_charAt_3b067 13 = .ok (.i2c, 1) := by decide +kernel
theorem dJ1_charAt_3b067_14 : decode cJ1_charAt_3b067 14 = .ok (.ireturn, 1) := by decide +kernel
theorem dJ2_getChar_3b067_0 : decode cJ2_getChar_3b067 0 = .ok (.getstatic 44, 3) := by decide +kernel
theorem dJ2_getChar_3b067_3 : decode cJ2_getChar_3b067 3 = .ok (.ifCond .ne 25, 3) := by decide +kernel
theorem dJ2_getChar_3b067_6 : decode cJ2_getChar_3b067 6 = .ok (.iload_n 1, 1) := by decide +kernel
theorem dJ2_getChar_3b067_7 : decode cJ2_getChar_3b067 7 = .ok (.ifCond .lt 11, 3) := by decide +kernel
theorem dJ2_getChar_3b067_10 : decode cJ2_getChar_3b067 10 = .ok (.iload_n 1, 1) := by decide +kernel
theorem dJ2_getChar_3b067_11 : decode cJ2_getChar_3b067 11 = .ok (.aload_n 0, 1) := by decide +kernel
theorem dJ2_getChar_3b067_12 : decode cJ2_getChar_3b067 12 = .ok (.invokestatic 48, 3) := by decide +kernel
theorem dJ2_getChar_3b067_15 : decode cJ2_getChar_3b067 15 = .ok (.if_icmp .lt 13, 3) := by decide +kernel
theorem dJ2_getChar_3b067_18 : decode cJ2_getChar_3b067 18 = .ok (.new 52, 3) := by decide +kernel
theorem dJ2_getChar_3b067_21 : decode cJ2_getChar_3b067 21 = .ok (.dup, 1) := by decide +kernel
theorem dJ2_getChar_3b067_22 : decode cJ2_getChar_3b067 22 = .ok (.ldc 54, 2) := by decide +kernel
theorem dJ2_getChar_3b067_24 : decode cJ2_getChar_3b067 24 = .ok (.invokespecial 56, 3) := by decide +kernel
theorem dJ2_getChar_3b067_27 : decode cJ2_getChar_3b067 27 = .ok (.athrow, 1) := by decide +kernel
theorem dJ2_getChar_3b067_28 : decode cJ2_getChar_3b067 28 = .ok (.iload_n 1, 1) := by decide +kernel
theorem dJ2_getChar_3b067_29 : decode cJ2_getChar_3b067 29 = .ok (.iconst 1, 1) := by decide +kernel
theorem dJ2_getChar_3b067_30 : decode cJ2_getChar_3b067 30 = .ok (.ishl, 1) := by decide +kernel
theorem dJ2_getChar_3b067_31 : decode cJ2_getChar_3b067 31 = .ok (.istore_n 1, 1) := by decide +kernel
theorem dJ2_getChar_3b067_32 : decode cJ2_getChar_3b067 32 = .ok (.aload_n 0, 1) := by decide +kernel
theorem dJ2_getChar_3b067_33 : decode cJ2_getChar_3b067 33 = .ok (.iload_n 1, 1) := by decide +kernel
theorem dJ2_getChar_3b067_34 : decode cJ2_getChar_3b067 34 = .ok (.iinc 1 1, 3) := by decide +kernel
theorem dJ2_getChar_3b067_37 : decode cJ2_getChar_3b067 37 = .ok (.baload, 1) := by decide +kernel
theorem dJ2_getChar_3b067_38 : decode cJ2_getChar_3b067 38 = .ok (.sipush 255, 3) := by decide +kernel
theorem dJ2_getChar_3b067_41 : decode cJ2_getChar_3b067 41 = .ok (.iand, 1) := by decide +kernel
theorem dJ2_getChar_3b067_42 : decode cJ2_getChar_3b067 42 = .ok (.getstatic 59, 3) := by decide +kernel
theorem dJ2_getChar_3b067_45 : decode cJ2_getChar_3b067 45 = .ok (.ishl, 1) := by decide +kernel
