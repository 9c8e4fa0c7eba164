theorem dX1_score_102 : decode cX1_score 102 = .ok (.goto (-98), 3) := by decide +kernel
theorem dX1_score_105 : decode cX1_score 105 = .ok (.iload_n 2, 1) := by decide +kernel
theorem dX1_score_106 : decode cX1_score 106 = .ok (.ireturn, 1) := by decide +kernel
theorem dX1_putInRank_0 : decode cX1_putInRank 0 = .ok (.iload_n 1, 1) := by decide +kernel
theorem dX1_putInRank_1 : decode cX1_putInRank 1 = .ok (.istore_n 2, 1) := by decide +kernel
theorem dX1_putInRank_2 : decode cX1_putInRank 2 = .ok (.iload_n 2, 1) := by decide +kernel
theorem dX1_putInRank_3 : decode cX1_putInRank 3 = .ok (.ifCond .le 45, 3) := by decide +kernel
theorem dX1_putInRank_6 : decode cX1_putInRank 6 = .ok (.aload_n 0, 1) := by decide +kernel
theorem dX1_putInRank_7 : decode cX1_putInRank 7 = .ok (.getfield 39, 3) := by decide +kernel
theorem dX1_putInRank_10 : decode cX1_putInRank 10 = .ok (.aload_n 0, 1) := by decide +kernel
theorem dX1_putInRank_11 : decode cX1_putInRank 11 = .ok (.getfield 42, 3) := by decide +kernel
theorem dX1_putInRank_14 : decode cX1_putInRank 14 = .ok (.iload_n 2, 1) := by decide +kernel
theorem dX1_putInRank_15 : decode cX1_putInRank 15 = .ok (.iconst 1, 1) := by decide +kernel
theorem dX1_putInRank_16 : decode cX1_putInRank 16 = .ok (.isub, 1) := by decide +kernel
theorem dX1_putInRank_17 : decode cX1_putInRank 17 = .ok (.iaload, 1) := by decide +kernel
theorem dX1_putInRank_18 : decode cX1_putInRank 18 = .ok (.iaload, 1) := by decide +kernel
theorem dX1_putInRank_19 : decode cX1_putInRank 19 = .ok (.aload_n 0, 1) := by decide +kernel
theorem dX1_putInRank_20 : decode cX1_putInRank 20 = .ok (.getfield 39, 3) := by decide +kernel
theorem dX1_putInRank_23 : decode cX1_putInRank 23 = .ok (.iload_n 1, 1) := by decide +kernel
theorem dX1_putInRank_24 : decode cX1_putInRank 24 = .ok (.iaload, 1) := by decide +kernel
theorem dX1_putInRank_25 : decode cX1_putInRank 25 = .ok (.if_icmp .ge 23, 3) := by decide +kernel
theorem dX1_putInRank_28 : decode cX1_putInRank 28 = .ok (.aload_n 0, 1) := by decide +kernel
theorem dX1_putInRank_29 : decode cX1_putInRank 29 = .ok (.getfield 42, 3) := by decide +kernel
theorem dX1_putInRank_32 : decode cX1_putInRank 32 = .ok (.iload_n 2, 1) := by decide +kernel
theorem dX1_putInRank_33 : decode cX1_putInRank 33 = .ok (.aload_n 0, 1) := by decide +kernel
theorem dX1_putInRank_34 : decode cX1_putInRank 34 = .ok (.getfield 42, 3) := by decide +kernel
theorem dX1_putInRank_37 : decode cX1_putInRank 37 = .ok (.iload_n 2, 1) := by decide +kernel
theorem dX1_putInRank_38 : decode cX1_putInRank 38 = .ok (.iconst 1, 1) := by decide +kernel
theorem dX1_putInRank_39 : decode cX1_putInRank 39 = .ok (.isub, 1) := by decide +kernel
theorem dX1_putInRank_40 : decode cX1_putInRank 40 = .ok (.iaload, 1) := by decide +kernel
theorem dX1_putInRank_41 : decode cX1_putInRank 41 = .ok (.iastore, 1) := by decide +kernel
theorem dX1_putInRank_42 : decode cX1_putInRank 42 = .ok (.iinc 2 (-1), 3) := by decide +kernel
theorem dX1_putInRank_45 : decode cX1_putInRank 45 = .ok (.goto (-43), 3) := by decide +kernel
theorem dX1_putInRank_48 : decode cX1_putInRank 48 = .ok (.aload_n 0, 1) := by decide +kernel
theorem dX1_putInRank_49 : decode cX1_putInRank 49 = .ok (.getfield 42, 3) := by decide +kernel
theorem dX1_putInRank_52 : decode cX1_putInRank 52 = .ok (.iload_n 2, 1) := by decide +kernel
theorem dX1_putInRank_53 : decode cX1_putInRank 53 = .ok (.iload_n 1, 1) := by decide +kernel
theorem dX1_putInRank_54 : decode cX1_putInRank 54 = .ok (.iastore, 1) := by decide +kernel
theorem dX1_putInRank_55 : decode cX1_putInRank 55 = .ok (.return_, 1) := by decide +kernel
theorem dX1_mostLike_0 : decode cX1_mostLike 0 = .ok (.aload_n 0, 1) := by decide +kernel
theorem dX1_mostLike_1 : decode cX1_mostLike 1 = .ok (.getfield 45, 3) := by decide +kernel
theorem dX1_mostLike_4 : decode cX1_mostLike 4 = .ok (.iconst 0, 1) := by decide +kernel
theorem dX1_mostLike_5 : decode cX1_mostLike 5 = .ok (.invokestatic 185, 3) := by decide +kernel
theorem dX1_mostLike_8 : decode cX1_mostLike 8 = .ok (.iconst 0, 1) := by decide +kernel
theorem dX1_mostLike_9 : decode cX1_mostLike 9 = .ok (.istore_n 3, 1) := by decide +kernel
theorem dX1_mostLike_10 : decode cX1_mostLike 10 = .ok (.iload_n 3, 1) := by decide +kernel
theorem dX1_mostLike_11 : decode cX1_mostLike 11 = .ok (.aload_n 0, 1) := by decide +kernel
theorem dX1_mostLike_12 : decode cX1_mostLike 12 = .ok (.getfield 62, 3) := by decide +kernel
theorem dX1_mostLike_15 : decode cX1_mostLike 15 = .ok (.invokevirtual 191, 3) := by decide +kernel
theorem dX1_mostLike_18 : decode cX1_mostLike 18 = .ok (.if_icmp .ge 27, 3) := by decide +kernel
theorem dX1_mostLike_21 : decode cX1_mostLike 21 = .ok (.aload_n 2, 1) := by decide +kernel
theorem dX1_mostLike_22 : decode cX1_mostLike 22 = .ok (.aload_n 0, 1) := by decide +kernel
theorem dX1_mostLike_23 : decode cX1_mostLike 23 = .ok (.getfield 62, 3) := by decide +kernel
theorem dX1_mostLike_26 : decode cX1_mostLike 26 = .ok (.iload_n 3, 1) := by decide +kernel
theorem dX1_mostLike_27 : decode cX1_mostLike 27 = .ok (.invokevirtual 194, 3) := by decide +kernel
theorem dX1_mostLike_30 : decode cX1_mostLike 30 = .ok (.invokevirtual 197, 3) := by decide +kernel
theorem dX1_mostLike_33 : decode cX1_mostLike 33 = .ok (.aload_n 0, 1) := by decide +kernel
theorem dX1_mostLike_34 : decode cX1_mostLike 34 = .ok (.iload_n 1, 1) := by decide +kernel
theorem dX1_mostLike_35 : decode cX1_mostLike 35 = .ok (.aload_n 2, 1) := by decide +kernel
theorem dX1_mostLike_36 : decode cX1_mostLike 36 = .ok (.invokevirtual 201, 3) := by decide +kernel
theorem dX1_mostLike_39 : decode cX1_mostLike 39 = .ok (.iinc 3 1, 3) := by decide +kernel
theorem dX1_mostLike_42 : decode cX1_mostLike 42 = .ok (.goto (-32), 3) := by decide +kernel
theorem dX1_mostLike_45 : decode cX1_mostLike 45 = .ok (.iconst (-1), 1) := by decide +kernel
theorem dX1_mostLike_46 : decode cX1_mostLike 46 = .ok (.istore_n 3, 1) := by decide +kernel
theorem dX1_mostLike_47 : decode cX1_mostLike 47 = .ok (.iconst 0, 1) := by decide +kernel
theorem dX1_mostLike_48 : decode cX1_mostLike 48 = .ok (.istore 4, 2) := by decide +kernel
theorem dX1_mostLike_50 : decode cX1_mostLike 50 = .ok (.iload 4, 2) := by decide +kernel
theorem dX1_mostLike_52 : decode cX1_mostLike 52 = .ok (.bipush 120, 2) := by decide +kernel
theorem dX1_mostLike_54 : decode cX1_mostLike 54 = .ok (.if_icmp .ge 37, 3) := by decide +kernel
theorem dX1_mostLike_57 : decode cX1_mostLike 57 = .ok (.aload_n 0, 1) := by decide +kernel
theorem dX1_mostLike_58 : decode cX1_mostLike 58 = .ok (.getfield 45, 3) := by decide +kernel
theorem dX1_mostLike_61 : decode cX1_mostLike 61 = .ok (.iload 4, 2) := by decide +kernel
theorem dX1_mostLike_63 : decode cX1_mostLike 63 = .ok (.iaload, 1) := by decide +kernel
theorem dX1_mostLike_64 : decode cX1_mostLike 64 = .ok (.iload_n 3, 1) := by decide +kernel
theorem dX1_mostLike_65 : decode cX1_mostLike 65 = .ok (.iconst (-1), 1) := by decide +kernel
theorem dX1_mostLike_66 : decode cX1_mostLike 66 = .ok (.if_icmp .ne 7, 3) := by decide +kernel
theorem dX1_mostLike_69 : decode cX1_mostLike 69 = .ok (.iconst 0, 1) := by decide +kernel
theorem dX1_mostLike_70 : decode cX1_mostLike 70 = .ok (.goto 9, 3) := by decide +kernel
theorem dX1_mostLike_73 : decode cX1_mostLike 73 = .ok (.aload_n 0, 1) := by decide +kernel
theorem dX1_mostLike_74 : decode cX1_mostLike 74 = .ok (.getfield 45, 3) := by decide +kernel
theorem dX1_mostLike_77 : decode cX1_mostLike 77 = .ok (.iload_n 3, 1) := by decide +kernel
theorem dX1_mostLike_78 : decode cX1_mostLike 78 = .ok (.iaload, 1) := by decide +kernel
theorem dX1_mostLike_79 : decode cX1_mostLike 79 = .ok (.if_icmp .le 6, 3) := by decide +kernel
theorem dX1_mostLike_82 : decode cX1_mostLike 82 = .ok (.iload 4, 2) := by decide +kernel
theorem dX1_mostLike_84 : decode cX1_mostLike 84 = .ok (.istore_n 3, 1) := by decide +kernel
theorem dX1_mostLike_85 : decode cX1_mostLike 85 = .ok (.iinc 4 1, 3) := by decide +kernel
theorem dX1_mostLike_88 : decode cX1_mostLike 88 = .ok (.goto (-38), 3) := by decide +kernel
theorem dX1_mostLike_91 : decode cX1_mostLike 91 = .ok (.iload_n 3, 1) := by decide +kernel
theorem dX1_mostLike_92 : decode cX1_mostLike 92 = .ok (.ireturn, 1) := by decide +kernel
theorem dX1_addAlike_0 : decode cX1_addAlike 0 = .ok (.aload_n 0, 1) := by decide +kernel
theorem dX1_addAlike_1 : decode cX1_addAlike 1 = .ok (.getfield 48, 3) := by decide +kernel
theorem dX1_addAlike_4 : decode cX1_addAlike 4 = .ok (.iconst 0, 1) := by decide +kernel
theorem dX1_addAlike_5 : decode cX1_addAlike 5 = .ok (.invokestatic 185, 3) := by decide +kernel
theorem dX1_addAlike_8 : decode cX1_addAlike 8 = .ok (.iconst 0, 1) := by decide +kernel
theorem dX1_addAlike_9 : decode cX1_addAlike 9 = .ok (.istore_n 3, 1) := by decide +kernel
theorem dX1_addAlike_10 : decode cX1_addAlike 10 = .ok (.iconst 0, 1) := by decide +kernel
theorem dX1_addAlike_11 : decode cX1_addAlike 11 = .ok (.istore 4, 2) := by decide +kernel
theorem dX1_addAlike_13 : decode cX1_addAlike 13 = .ok (.iload 4, 2) := by decide +kernel
theorem dX1_addAlike_15 : decode cX1_addAlike 15 = .ok (.bipush 120, 2) := by decide +kernel
theorem dX1_addAlike_17 : decode cX1_addAlike 17 = .ok (.if_icmp .ge 46, 3) := by decide +kernel
theorem dX1_addAlike_20 : decode cX1_addAlike 20 = .ok (.aload_n 2, 1) := by decide +kernel
theorem dX1_addAlike_21 : decode cX1_addAlike 21 = .ok (.invokevirtual 205, 3) := by decide +kernel
theorem dX1_addAlike_24 : decode cX1_addAlike 24 = .ok (.ifCond .eq 39, 3) := by decide +kernel
theorem dX1_addAlike_27 : decode cX1_addAlike 27 = .ok (.aload_n 0, 1) := by decide +kernel
theorem dX1_addAlike_28 : decode cX1_addAlike 28 = .ok (.getfield 58, 3) := by decide +kernel
theorem dX1_addAlike_31 : decode cX1_addAlike 31 = .ok (.aload_n 2, 1) := by decide +kernel
theorem dX1_addAlike_32 : decode cX1_addAlike 32 = .ok (.invokevirtual 208, 3) := by decide +kernel
theorem dX1_addAlike_35 : decode cX1_addAlike 35 = .ok (.invokevirtual 93, 3) := by decide +kernel
theorem dX1_addAlike_38 : decode cX1_addAlike 38 = .ok (.ifCond .eq 19, 3) := by decide +kernel
theorem dX1_addAlike_41 : decode cX1_addAlike 41 = .ok (.aload_n 0, 1) := by decide +kernel
theorem dX1_addAlike_42 : decode cX1_addAlike 42 = .ok (.getfield 48, 3) := by decide +kernel
theorem dX1_addAlike_45 : decode cX1_addAlike 45 = .ok (.aload_n 2, 1) := by decide +kernel
theorem dX1_addAlike_46 : decode cX1_addAlike 46 = .ok (.invokevirtual 208, 3) := by decide +kernel
theorem dX1_addAlike_49 : decode cX1_addAlike 49 = .ok (.aload_n 2, 1) := by decide +kernel
theorem dX1_addAlike_50 : decode cX1_addAlike 50 = .ok (.invokevirtual 211, 3) := by decide +kernel
theorem dX1_addAlike_53 : decode cX1_addAlike 53 = .ok (.iastore, 1) := by decide +kernel
theorem dX1_addAlike_54 : decode cX1_addAlike 54 = .ok (.iinc 3 1, 3) := by decide +kernel
theorem dX1_addAlike_57 : decode cX1_addAlike 57 = .ok (.iinc 4 1, 3) := by decide +kernel
theorem dX1_addAlike_60 : decode cX1_addAlike 60 = .ok (.goto (-47), 3) := by decide +kernel
theorem dX1_addAlike_63 : decode cX1_addAlike 63 = .ok (.aload_n 0, 1) := by decide +kernel
theorem dX1_addAlike_64 : decode cX1_addAlike 64 = .ok (.getfield 58, 3) := by decide +kernel
theorem dX1_addAlike_67 : decode cX1_addAlike 67 = .ok (.invokevirtual 178, 3) := by decide +kernel
theorem dX1_addAlike_70 : decode cX1_addAlike 70 = .ok (.iload_n 3, 1) := by decide +kernel
theorem dX1_addAlike_71 : decode cX1_addAlike 71 = .ok (.invokestatic 181, 3) := by decide +kernel
theorem dX1_addAlike_74 : decode cX1_addAlike 74 = .ok (.istore 4, 2) := by decide +kernel
theorem dX1_addAlike_76 : decode cX1_addAlike 76 = .ok (.iconst 0, 1) := by decide +kernel
theorem dX1_addAlike_77 : decode cX1_addAlike 77 = .ok (.istore 5, 2) := by decide +kernel
theorem dX1_addAlike_79 : decode cX1_addAlike 79 = .ok (.iload 5, 2) := by decide +kernel
theorem dX1_addAlike_81 : decode cX1_addAlike 81 = .ok (.aload_n 0, 1) := by decide +kernel
theorem dX1_addAlike_82 : decode cX1_addAlike 82 = .ok (.getfield 58, 3) := by decide +kernel
theorem dX1_addAlike_85 : decode cX1_addAlike 85 = .ok (.invokevirtual 88, 3) := by decide +kernel
theorem dX1_addAlike_88 : decode cX1_addAlike 88 = .ok (.if_icmp .ge 53, 3) := by decide +kernel
theorem dX1_addAlike_91 : decode cX1_addAlike 91 = .ok (.aload_n 0, 1) := by decide +kernel
theorem dX1_addAlike_92 : decode cX1_addAlike 92 = .ok (.getfield 48, 3) := by decide +kernel
theorem dX1_addAlike_95 : decode cX1_addAlike 95 = .ok (.iload_n 1, 1) := by decide +kernel
theorem dX1_addAlike_96 : decode cX1_addAlike 96 = .ok (.iaload, 1) := by decide +kernel
theorem dX1_addAlike_97 : decode cX1_addAlike 97 = .ok (.ifCond .le 44, 3) := by decide +kernel
theorem dX1_addAlike_100 : decode cX1_addAlike 100 = .ok (.iload 5, 2) := by decide +kernel
theorem dX1_addAlike_102 : decode cX1_addAlike 102 = .ok (.iload_n 1, 1) := by decide +kernel
theorem dX1_addAlike_103 : decode cX1_addAlike 103 = .ok (.if_icmp .eq 32, 3) := by decide +kernel
theorem dX1_addAlike_106 : decode cX1_addAlike 106 = .ok (.aload_n 0, 1) := by decide +kernel
theorem dX1_addAlike_107 : decode cX1_addAlike 107 = .ok (.getfield 45, 3) := by decide +kernel
theorem dX1_addAlike_110 : decode cX1_addAlike 110 = .ok (.iload 5, 2) := by decide +kernel
theorem dX1_addAlike_112 : decode cX1_addAlike 112 = .ok (.dup2, 1) := by decide +kernel
theorem dX1_addAlike_113 : decode cX1_addAlike 113 = .ok (.iaload, 1) := by decide +kernel
theorem dX1_addAlike_114 : decode cX1_addAlike 114 = .ok (.aload_n 0, 1) := by decide +kernel
theorem dX1_addAlike_115 : decode cX1_addAlike 115 = .ok (.getfield 48, 3) := by decide +kernel
theorem dX1_addAlike_118 : decode cX1_addAlike 118 = .ok (.iload 5, 2) := by decide +kernel
theorem dX1_addAlike_120 : decode cX1_addAlike 120 = .ok (.iaload, 1) := by decide +kernel
theorem dX1_addAlike_121 : decode cX1_addAlike 121 = .ok (.aload_n 0, 1) := by decide +kernel
theorem dX1_addAlike_122 : decode cX1_addAlike 122 = .ok (.getfield 48, 3) := by decide +kernel
theorem dX1_addAlike_125 : decode cX1_addAlike 125 = .ok (.iload_n 1, 1) := by decide +kernel
theorem dX1_addAlike_126 : decode cX1_addAlike 126 = .ok (.iaload, 1) := by decide +kernel
theorem dX1_addAlike_127 : decode cX1_addAlike 127 = .ok (.invokestatic 213, 3) := by decide +kernel
theorem dX1_addAlike_130 : decode cX1_addAlike 130 = .ok (.iload 4, 2) := by decide +kernel
theorem dX1_addAlike_132 : decode cX1_addAlike 132 = .ok (.imul, 1) := by decide +kernel
theorem dX1_addAlike_133 : decode cX1_addAlike 133 = .ok (.iadd, 1) := by decide +kernel
theorem dX1_addAlike_134 : decode cX1_addAlike 134 = .ok (.iastore, 1) := by decide +kernel
theorem dX1_addAlike_135 : decode cX1_addAlike 135 = .ok (.iinc 5 1, 3) := by decide +kernel
theorem dX1_addAlike_138 : decode cX1_addAlike 138 = .ok (.goto (-59), 3) := by decide +kernel
theorem dX1_addAlike_141 : decode cX1_addAlike 141 = .ok (.return_, 1) := by decide +kernel
theorem dX2_init_0 : decode cX2_init 0 = .ok (.aload_n 0, 1) := by decide +kernel
theorem dX2_init_1 : decode cX2_init 1 = .ok (.invokespecial 3, 3) := by decide +kernel
theorem dX2_init_4 : decode cX2_init 4 = .ok (.aload_n 0, 1) := by decide +kernel
theorem dX2_init_5 : decode cX2_init 5 = .ok (.sipush 300, 3) := by decide +kernel
theorem dX2_init_8 : decode cX2_init 8 = .ok (.newarray .int, 2) := by decide +kernel
theorem dX2_init_10 : decode cX2_init 10 = .ok (.putfield 9, 3) := by decide +kernel
theorem dX2_init_13 : decode cX2_init 13 = .ok (.aload_n 0, 1) := by decide +kernel
theorem dX2_init_14 : decode cX2_init 14 = .ok (.sipush 300, 3) := by decide +kernel
theorem dX2_init_17 : decode cX2_init 17 = .ok (.newarray .int, 2) := by decide +kernel
theorem dX2_init_19 : decode cX2_init 19 = .ok (.putfield 15, 3) := by decide +kernel
theorem dX2_init_22 : decode cX2_init 22 = .ok (.aload_n 0, 1) := by decide +kernel
theorem dX2_init_23 : decode cX2_init 23 = .ok (.sipush 300, 3) := by decide +kernel
theorem dX2_init_26 : decode cX2_init 26 = .ok (.newarray .int, 2) := by decide +kernel
theorem dX2_init_28 : decode cX2_init 28 = .ok (.putfield 18, 3) := by decide +kernel
theorem dX2_init_31 : decode cX2_init 31 = .ok (.aload_n 0, 1) := by decide +kernel
theorem dX2_init_32 : decode cX2_init 32 = .ok (.sipush 400, 3) := by decide +kernel
theorem dX2_init_35 : decode cX2_init 35 = .ok (.newarray .int, 2) := by decide +kernel
theorem dX2_init_37 : decode cX2_init 37 = .ok (.putfield 21, 3) := by decide +kernel
theorem dX2_init_40 : decode cX2_init 40 = .ok (.aload_n 0, 1) := by decide +kernel
theorem dX2_init_41 : decode cX2_init 41 = .ok (.sipush 400, 3) := by decide +kernel
theorem dX2_init_44 : decode cX2_init 44 = .ok (.newarray .int, 2) := by decide +kernel
theorem dX2_init_46 : decode cX2_init 46 = .ok (.putfield 24, 3) := by decide +kernel
theorem dX2_init_49 : decode cX2_init 49 = .ok (.aload_n 0, 1) := by decide +kernel
theorem dX2_init_50 : decode cX2_init 50 = .ok (.sipush 400, 3) := by decide +kernel
theorem dX2_init_53 : decode cX2_init 53 = .ok (.newarray .int, 2) := by decide +kernel
theorem dX2_init_55 : decode cX2_init 55 = .ok (.putfield 27, 3) := by decide +kernel
theorem dX2_init_58 : decode cX2_init 58 = .ok (.aload_n 0, 1) := by decide +kernel
theorem dX2_init_59 : decode cX2_init 59 = .ok (.iconst 0, 1) := by decide +kernel
theorem dX2_init_60 : decode cX2_init 60 = .ok (.putfield 30, 3) := by decide +kernel
theorem dX2_init_63 : decode cX2_init 63 = .ok (.aload_n 0, 1) := by decide +kernel
theorem dX2_init_64 : decode cX2_init 64 = .ok (.iconst 0, 1) := by decide +kernel
theorem dX2_init_65 : decode cX2_init 65 = .ok (.putfield 34, 3) := by decide +kernel
theorem dX2_init_68 : decode cX2_init 68 = .ok (.aload_n 0, 1) := by decide +kernel
theorem dX2_init_69 : decode cX2_init 69 = .ok (.aload_n 1, 1) := by decide +kernel
theorem dX2_init_70 : decode cX2_init 70 = .ok (.putfield 37, 3) := by decide +kernel
theorem dX2_init_73 : decode cX2_init 73 = .ok (.aload_n 0, 1) := by decide +kernel
theorem dX2_init_74 : decode cX2_init 74 = .ok (.aload_n 2, 1) := by decide +kernel
theorem dX2_init_75 : decode cX2_init 75 = .ok (.putfield 41, 3) := by decide +kernel
theorem dX2_init_78 : decode cX2_init 78 = .ok (.aload_n 0, 1) := by decide +kernel
theorem dX2_init_79 : decode cX2_init 79 = .ok (.aload_n 3, 1) := by decide +kernel
theorem dX2_init_80 : decode cX2_init 80 = .ok (.putfield 45, 3) := by decide +kernel
theorem dX2_init_83 : decode cX2_init 83 = .ok (.return_, 1) := by decide +kernel
theorem dX2_kept_0 : decode cX2_kept 0 = .ok (.aload_n 0, 1) := by decide +kernel
theorem dX2_kept_1 : decode cX2_kept 1 = .ok (.getfield 30, 3) := by decide +kernel
theorem dX2_kept_4 : decode cX2_kept 4 = .ok (.ireturn, 1) := by decide +kernel
theorem dX2_distinct_0 : decode cX2_distinct 0 = .ok (.aload_n 0, 1) := by decide +kernel
theorem dX2_distinct_1 : decode cX2_distinct 1 = .ok (.getfield 34, 3) := by decide +kernel
theorem dX2_distinct_4 : decode cX2_distinct 4 = .ok (.ireturn, 1) := by decide +kernel
theorem dX2_read_0 : decode cX2_read 0 = .ok (.aload_n 0, 1) := by decide +kernel
theorem dX2_read_1 : decode cX2_read 1 = .ok (.invokevirtual 48, 3) := by decide +kernel
theorem dX2_read_4 : decode cX2_read 4 = .ok (.iconst 0, 1) := by decide +kernel
theorem dX2_read_5 : decode cX2_read 5 = .ok (.istore_n 1, 1) := by decide +kernel
theorem dX2_read_6 : decode cX2_read 6 = .ok (.iconst 0, 1) := by decide +kernel
theorem dX2_read_7 : decode cX2_read 7 = .ok (.istore_n 2, 1) := by decide +kernel
theorem dX2_read_8 : decode cX2_read 8 = .ok (.iload_n 2, 1) := by decide +kernel
theorem dX2_read_9 : decode cX2_read 9 = .ok (.aload_n 0, 1) := by decide +kernel
theorem dX2_read_10 : decode cX2_read 10 = .ok (.getfield 37, 3) := by decide +kernel
theorem dX2_read_13 : decode cX2_read 13 = .ok (.invokevirtual 51, 3) := by decide +kernel
theorem dX2_read_16 : decode cX2_read 16 = .ok (.if_icmp .ge 68, 3) := by decide +kernel
theorem dX2_read_19 : decode cX2_read 19 = .ok (.iload_n 1, 1) := by decide +kernel
theorem dX2_read_20 : decode cX2_read 20 = .ok (.sipush 512, 3) := by decide +kernel
theorem dX2_read_23 : decode cX2_read 23 = .ok (.if_icmp .ge 23, 3) := by decide +kernel
theorem dX2_read_26 : decode cX2_read 26 = .ok (.aload_n 0, 1) := by decide +kernel
theorem dX2_read_27 : decode cX2_read 27 = .ok (.getfield 37, 3) := by decide +kernel
theorem dX2_read_30 : decode cX2_read 30 = .ok (.iload_n 2, 1) := by decide +kernel
theorem dX2_read_31 : decode cX2_read 31 = .ok (.invokevirtual 57, 3) := by decide +kernel
theorem dX2_read_34 : decode cX2_read 34 = .ok (.bipush 10, 2) := by decide +kernel
theorem dX2_read_36 : decode cX2_read 36 = .ok (.if_icmp .ne 10, 3) := by decide +kernel
theorem dX2_read_39 : decode cX2_read 39 = .ok (.sipush 512, 3) := by decide +kernel
theorem dX2_read_42 : decode cX2_read 42 = .ok (.istore_n 1, 1) := by decide +kernel
theorem dX2_read_43 : decode cX2_read 43 = .ok (.goto 35, 3) := by decide +kernel
theorem dX2_read_46 : decode cX2_read 46 = .ok (.aload_n 0, 1) := by decide +kernel
theorem dX2_read_47 : decode cX2_read 47 = .ok (.getfield 37, 3) := by decide +kernel
theorem dX2_read_50 : decode cX2_read 50 = .ok (.iload_n 2, 1) := by decide +kernel
theorem dX2_read_51 : decode cX2_read 51 = .ok (.invokevirtual 61, 3) := by decide +kernel
theorem dX2_read_54 : decode cX2_read 54 = .ok (.ifCond .eq 24, 3) := by decide +kernel
theorem dX2_read_57 : decode cX2_read 57 = .ok (.aload_n 0, 1) := by decide +kernel
theorem dX2_read_58 : decode cX2_read 58 = .ok (.aload_n 0, 1) := by decide +kernel
theorem dX2_read_59 : decode cX2_read 59 = .ok (.getfield 37, 3) := by decide +kernel
theorem dX2_read_62 : decode cX2_read 62 = .ok (.iload_n 2, 1) := by decide +kernel
theorem dX2_read_63 : decode cX2_read 63 = .ok (.invokevirtual 65, 3) := by decide +kernel
theorem dX2_read_66 : decode cX2_read 66 = .ok (.iload_n 1, 1) := by decide +kernel
theorem dX2_read_67 : decode cX2_read 67 = .ok (.invokevirtual 69, 3) := by decide +kernel
theorem dX2_read_70 : decode cX2_read 70 = .ok (.ifCond .ne 5, 3) := by decide +kernel
theorem dX2_read_73 : decode cX2_read 73 = .ok (.iconst 0, 1) := by decide +kernel
theorem dX2_read_74 : decode cX2_read 74 = .ok (.ireturn, 1) := by decide +kernel
theorem dX2_read_75 : decode cX2_read 75 = .ok (.iinc 1 1, 3) := by decide +kernel
theorem dX2_read_78 : decode cX2_read 78 = .ok (.iinc 2 1, 3) := by decide +kernel
theorem dX2_read_81 : decode cX2_read 81 = .ok (.goto (-73), 3) := by decide +kernel
theorem dX2_read_84 : decode cX2_read 84 = .ok (.iconst 1, 1) := by decide +kernel
theorem dX2_read_85 : decode cX2_read 85 = .ok (.ireturn, 1) := by decide +kernel
theorem dX2_clear_0 : decode cX2_clear 0 = .ok (.aload_n 0, 1) := by decide +kernel
theorem dX2_clear_1 : decode cX2_clear 1 = .ok (.getfield 27, 3) := by decide +kernel
theorem dX2_clear_4 : decode cX2_clear 4 = .ok (.iconst 0, 1) := by decide +kernel
theorem dX2_clear_5 : decode cX2_clear 5 = .ok (.invokestatic 73, 3) := by decide +kernel
theorem dX2_clear_8 : decode cX2_clear 8 = .ok (.aload_n 0, 1) := by decide +kernel
theorem dX2_clear_9 : decode cX2_clear 9 = .ok (.iconst 0, 1) := by decide +kernel
theorem dX2_clear_10 : decode cX2_clear 10 = .ok (.putfield 30, 3) := by decide +kernel
theorem dX2_clear_13 : decode cX2_clear 13 = .ok (.aload_n 0, 1) := by decide +kernel
theorem dX2_clear_14 : decode cX2_clear 14 = .ok (.iconst 0, 1) := by decide +kernel
theorem dX2_clear_15 : decode cX2_clear 15 = .ok (.putfield 34, 3) := by decide +kernel
theorem dX2_clear_18 : decode cX2_clear 18 = .ok (.return_, 1) := by decide +kernel
theorem dX2_keep_0 : decode cX2_keep 0 = .ok (.aload_n 0, 1) := by decide +kernel
theorem dX2_keep_1 : decode cX2_keep 1 = .ok (.getfield 45, 3) := by decide +kernel
theorem dX2_keep_4 : decode cX2_keep 4 = .ok (.lload_n 1, 1) := by decide +kernel
theorem dX2_keep_5 : decode cX2_keep 5 = .ok (.invokevirtual 79, 3) := by decide +kernel
theorem dX2_keep_8 : decode cX2_keep 8 = .ok (.iconst (-1), 1) := by decide +kernel
theorem dX2_keep_9 : decode cX2_keep 9 = .ok (.if_icmp .eq 5, 3) := by decide +kernel
theorem dX2_keep_12 : decode cX2_keep 12 = .ok (.iconst 1, 1) := by decide +kernel
theorem dX2_keep_13 : decode cX2_keep 13 = .ok (.ireturn, 1) := by decide +kernel
theorem dX2_keep_14 : decode cX2_keep 14 = .ok (.aload_n 0, 1) := by decide +kernel
theorem dX2_keep_15 : decode cX2_keep 15 = .ok (.getfield 41, 3) := by decide +kernel
theorem dX2_keep_18 : decode cX2_keep 18 = .ok (.lload_n 1, 1) := by decide +kernel
theorem dX2_keep_19 : decode cX2_keep 19 = .ok (.invokevirtual 85, 3) := by decide +kernel
theorem dX2_keep_22 : decode cX2_keep 22 = .ok (.istore 4, 2) := by decide +kernel
theorem dX2_keep_24 : decode cX2_keep 24 = .ok (.iload 4, 2) := by decide +kernel
theorem dX2_keep_26 : decode cX2_keep 26 = .ok (.iconst (-1), 1) := by decide +kernel
theorem dX2_keep_27 : decode cX2_keep 27 = .ok (.if_icmp .ne 13, 3) := by decide +kernel
theorem dX2_keep_30 : decode cX2_keep 30 = .ok (.aload_n 0, 1) := by decide +kernel
theorem dX2_keep_31 : decode cX2_keep 31 = .ok (.getfield 41, 3) := by decide +kernel
theorem dX2_keep_34 : decode cX2_keep 34 = .ok (.lload_n 1, 1) := by decide +kernel
theorem dX2_keep_35 : decode cX2_keep 35 = .ok (.invokevirtual 88, 3) := by decide +kernel
theorem dX2_keep_38 : decode cX2_keep 38 = .ok (.istore 4, 2) := by decide +kernel
theorem dX2_keep_40 : decode cX2_keep 40 = .ok (.iload 4, 2) := by decide +kernel
theorem dX2_keep_42 : decode cX2_keep 42 = .ok (.ifCond .lt 21, 3) := by decide +kernel
theorem dX2_keep_45 : decode cX2_keep 45 = .ok (.iload 4, 2) := by decide +kernel
theorem dX2_keep_47 : decode cX2_keep 47 = .ok (.sipush 400, 3) := by decide +kernel
theorem dX2_keep_50 : decode cX2_keep 50 = .ok (.if_icmp .ge 13, 3) := by decide +kernel
theorem dX2_keep_53 : decode cX2_keep 53 = .ok (.aload_n 0, 1) := by decide +kernel
theorem dX2_keep_54 : decode cX2_keep 54 = .ok (.getfield 30, 3) := by decide +kernel
theorem dX2_keep_57 : decode cX2_keep 57 = .ok (.sipush 300, 3) := by decide +kernel
theorem dX2_keep_60 : decode cX2_keep 60 = .ok (.if_icmp .lt 5, 3) := by decide +kernel
theorem dX2_keep_63 : decode cX2_keep 63 = .ok (.iconst 0, 1) := by decide +kernel
theorem dX2_keep_64 : decode cX2_keep 64 = .ok (.ireturn, 1) := by decide +kernel
theorem dX2_keep_65 : decode cX2_keep 65 = .ok (.aload_n 0, 1) := by decide +kernel
theorem dX2_keep_66 : decode cX2_keep 66 = .ok (.getfield 9, 3) := by decide +kernel
theorem dX2_keep_69 : decode cX2_keep 69 = .ok (.aload_n 0, 1) := by decide +kernel
theorem dX2_keep_70 : decode cX2_keep 70 = .ok (.getfield 30, 3) := by decide +kernel
theorem dX2_keep_73 : decode cX2_keep 73 = .ok (.iload_n 3, 1) := by decide +kernel
theorem dX2_keep_74 : decode cX2_keep 74 = .ok (.iastore, 1) := by decide +kernel
theorem dX2_keep_75 : decode cX2_keep 75 = .ok (.aload_n 0, 1) := by decide +kernel
theorem dX2_keep_76 : decode cX2_keep 76 = .ok (.getfield 15, 3) := by decide +kernel
theorem dX2_keep_79 : decode cX2_keep 79 = .ok (.aload_n 0, 1) := by decide +kernel
theorem dX2_keep_80 : decode cX2_keep 80 = .ok (.getfield 30, 3) := by decide +kernel
theorem dX2_keep_83 : decode cX2_keep 83 = .ok (.iconst (-1), 1) := by decide +kernel
theorem dX2_keep_84 : decode cX2_keep 84 = .ok (.iastore, 1) := by decide +kernel
theorem dX2_keep_85 : decode cX2_keep 85 = .ok (.aload_n 0, 1) := by decide +kernel
theorem dX2_keep_86 : decode cX2_keep 86 = .ok (.getfield 27, 3) := by decide +kernel
theorem dX2_keep_89 : decode cX2_keep 89 = .ok (.iload 4, 2) := by decide +kernel
theorem dX2_keep_91 : decode cX2_keep 91 = .ok (.iaload, 1) := by decide +kernel
theorem dX2_keep_92 : decode cX2_keep 92 = .ok (.ifCond .ne 38, 3) := by decide +kernel
theorem dX2_keep_95 : decode cX2_keep 95 = .ok (.aload_n 0, 1) := by decide +kernel
theorem dX2_keep_96 : decode cX2_keep 96 = .ok (.getfield 21, 3) := by decide +kernel
theorem dX2_keep_99 : decode cX2_keep 99 = .ok (.iload 4, 2) := by decide +kernel
theorem dX2_keep_101 : decode cX2_keep 101 = .ok (.aload_n 0, 1) := by decide +kernel
theorem dX2_keep_102 : decode cX2_keep 102 = .ok (.getfield 30, 3) := by decide +kernel
theorem dX2_keep_105 : decode cX2_keep 105 = .ok (.iastore, 1) := by decide +kernel
theorem dX2_keep_106 : decode cX2_keep 106 = .ok (.aload_n 0, 1) := by decide +kernel
theorem dX2_keep_107 : decode cX2_keep 107 = .ok (.getfield 18, 3) := by decide +kernel
theorem dX2_keep_110 : decode cX2_keep 110 = .ok (.aload_n 0, 1) := by decide +kernel
theorem dX2_keep_111 : decode cX2_keep 111 = .ok (.getfield 34, 3) := by decide +kernel
theorem dX2_keep_114 : decode cX2_keep 114 = .ok (.iload 4, 2) := by decide +kernel
theorem dX2_keep_116 : decode cX2_keep 116 = .ok (.iastore, 1) := by decide +kernel
theorem dX2_keep_117 : decode cX2_keep 117 = .ok (.aload_n 0, 1) := by decide +kernel
theorem dX2_keep_118 : decode cX2_keep 118 = .ok (.dup, 1) := by decide +kernel
theorem dX2_keep_119 : decode cX2_keep 119 = .ok (.getfield 34, 3) := by decide +kernel
theorem dX2_keep_122 : decode cX2_keep 122 = .ok (.iconst 1, 1) := by decide +kernel
theorem dX2_keep_123 : decode cX2_keep 123 = .ok (.iadd, 1) := by decide +kernel
theorem dX2_keep_124 : decode cX2_keep 124 = .ok (.putfield 34, 3) := by decide +kernel
theorem dX2_keep_127 : decode cX2_keep 127 = .ok (.goto 19, 3) := by decide +kernel
theorem dX2_keep_130 : decode cX2_keep 130 = .ok (.aload_n 0, 1) := by decide +kernel
theorem dX2_keep_131 : decode cX2_keep 131 = .ok (.getfield 15, 3) := by decide +kernel
theorem dX2_keep_134 : decode cX2_keep 134 = .ok (.aload_n 0, 1) := by decide +kernel
theorem dX2_keep_135 : decode cX2_keep 135 = .ok (.getfield 24, 3) := by decide +kernel
theorem dX2_keep_138 : decode cX2_keep 138 = .ok (.iload 4, 2) := by decide +kernel
theorem dX2_keep_140 : decode cX2_keep 140 = .ok (.iaload, 1) := by decide +kernel
theorem dX2_keep_141 : decode cX2_keep 141 = .ok (.aload_n 0, 1) := by decide +kernel
theorem dX2_keep_142 : decode cX2_keep 142 = .ok (.getfield 30, 3) := by decide +kernel
theorem dX2_keep_145 : decode cX2_keep 145 = .ok (.iastore, 1) := by decide +kernel
theorem dX2_keep_146 : decode cX2_keep 146 = .ok (.aload_n 0, 1) := by decide +kernel
theorem dX2_keep_147 : decode cX2_keep 147 = .ok (.getfield 24, 3) := by decide +kernel
theorem dX2_keep_150 : decode cX2_keep 150 = .ok (.iload 4, 2) := by decide +kernel
theorem dX2_keep_152 : decode cX2_keep 152 = .ok (.aload_n 0, 1) := by decide +kernel
theorem dX2_keep_153 : decode cX2_keep 153 = .ok (.getfield 30, 3) := by decide +kernel
theorem dX2_keep_156 : decode cX2_keep 156 = .ok (.iastore, 1) := by decide +kernel
theorem dX2_keep_157 : decode cX2_keep 157 = .ok (.aload_n 0, 1) := by decide +kernel
theorem dX2_keep_158 : decode cX2_keep 158 = .ok (.getfield 27, 3) := by decide +kernel
theorem dX2_keep_161 : decode cX2_keep 161 = .ok (.iload 4, 2) := by decide +kernel
theorem dX2_keep_163 : decode cX2_keep 163 = .ok (.dup2, 1) := by decide +kernel
theorem dX2_keep_164 : decode cX2_keep 164 = .ok (.iaload, 1) := by decide +kernel
theorem dX2_keep_165 : decode cX2_keep 165 = .ok (.iconst 1, 1) := by decide +kernel
theorem dX2_keep_166 : decode cX2_keep 166 = .ok (.iadd, 1) := by decide +kernel
theorem dX2_keep_167 : decode cX2_keep 167 = .ok (.iastore, 1) := by decide +kernel
theorem dX2_keep_168 : decode cX2_keep 168 = .ok (.aload_n 0, 1) := by decide +kernel
theorem dX2_keep_169 : decode cX2_keep 169 = .ok (.dup, 1) := by decide +kernel
theorem dX2_keep_170 : decode cX2_keep 170 = .ok (.getfield 30, 3) := by decide +kernel
theorem dX2_keep_173 : decode cX2_keep 173 = .ok (.iconst 1, 1) := by decide +kernel
theorem dX2_keep_174 : decode cX2_keep 174 = .ok (.iadd, 1) := by decide +kernel
theorem dX2_keep_175 : decode cX2_keep 175 = .ok (.putfield 30, 3) := by decide +kernel
theorem dX2_keep_178 : decode cX2_keep 178 = .ok (.iconst 1, 1) := by decide +kernel
theorem dX2_keep_179 : decode cX2_keep 179 = .ok (.ireturn, 1) := by decide +kernel
theorem dX2_fits_0 : decode cX2_fits 0 = .ok (.aload_n 1, 1) := by decide +kernel
theorem dX2_fits_1 : decode cX2_fits 1 = .ok (.invokevirtual 91, 3) := by decide +kernel
theorem dX2_fits_4 : decode cX2_fits 4 = .ok (.istore_n 3, 1) := by decide +kernel
theorem dX2_fits_5 : decode cX2_fits 5 = .ok (.iconst 0, 1) := by decide +kernel
theorem dX2_fits_6 : decode cX2_fits 6 = .ok (.istore 4, 2) := by decide +kernel
theorem dX2_fits_8 : decode cX2_fits 8 = .ok (.iload 4, 2) := by decide +kernel
theorem dX2_fits_10 : decode cX2_fits 10 = .ok (.aload_n 0, 1) := by decide +kernel
theorem dX2_fits_11 : decode cX2_fits 11 = .ok (.getfield 34, 3) := by decide +kernel
theorem dX2_fits_14 : decode cX2_fits 14 = .ok (.if_icmp .ge 65, 3) := by decide +kernel
theorem dX2_fits_17 : decode cX2_fits 17 = .ok (.aload_n 1, 1) := by decide +kernel
theorem dX2_fits_18 : decode cX2_fits 18 = .ok (.aload_n 0, 1) := by decide +kernel
theorem dX2_fits_19 : decode cX2_fits 19 = .ok (.getfield 18, 3) := by decide +kernel
theorem dX2_fits_22 : decode cX2_fits 22 = .ok (.iload 4, 2) := by decide +kernel
theorem dX2_fits_24 : decode cX2_fits 24 = .ok (.iaload, 1) := by decide +kernel
theorem dX2_fits_25 : decode cX2_fits 25 = .ok (.invokevirtual 96, 3) := by decide +kernel
theorem dX2_fits_28 : decode cX2_fits 28 = .ok (.istore 5, 2) := by decide +kernel
theorem dX2_fits_30 : decode cX2_fits 30 = .ok (.iload 5, 2) := by decide +kernel
theorem dX2_fits_32 : decode cX2_fits 32 = .ok (.aload_n 0, 1) := by decide +kernel
theorem dX2_fits_33 : decode cX2_fits 33 = .ok (.aload_n 0, 1) := by decide +kernel
theorem dX2_fits_34 : decode cX2_fits 34 = .ok (.getfield 18, 3) := by decide +kernel
theorem dX2_fits_37 : decode cX2_fits 37 = .ok (.iload 4, 2) := by decide +kernel
theorem dX2_fits_39 : decode cX2_fits 39 = .ok (.iaload, 1) := by decide +kernel
theorem dX2_fits_40 : decode cX2_fits 40 = .ok (.iload_n 2, 1) := by decide +kernel
theorem dX2_fits_41 : decode cX2_fits 41 = .ok (.aload_n 1, 1) := by decide +kernel
theorem dX2_fits_42 : decode cX2_fits 42 = .ok (.aload_n 0, 1) := by decide +kernel
theorem dX2_fits_43 : decode cX2_fits 43 = .ok (.getfield 18, 3) := by decide +kernel
theorem dX2_fits_46 : decode cX2_fits 46 = .ok (.iload 4, 2) := by decide +kernel
theorem dX2_fits_48 : decode cX2_fits 48 = .ok (.iaload, 1) := by decide +kernel
theorem dX2_fits_49 : decode cX2_fits 49 = .ok (.invokevirtual 99, 3) := by decide +kernel
theorem dX2_fits_52 : decode cX2_fits 52 = .ok (.isub, 1) := by decide +kernel
theorem dX2_fits_53 : decode cX2_fits 53 = .ok (.invokevirtual 102, 3) := by decide +kernel
theorem dX2_fits_56 : decode cX2_fits 56 = .ok (.iadd, 1) := by decide +kernel
theorem dX2_fits_57 : decode cX2_fits 57 = .ok (.istore 6, 2) := by decide +kernel
theorem dX2_fits_59 : decode cX2_fits 59 = .ok (.iload_n 3, 1) := by decide +kernel
theorem dX2_fits_60 : decode cX2_fits 60 = .ok (.iload 6, 2) := by decide +kernel
theorem dX2_fits_62 : decode cX2_fits 62 = .ok (.invokestatic 106, 3) := by decide +kernel
theorem dX2_fits_65 : decode cX2_fits 65 = .ok (.iload 5, 2) := by decide +kernel
theorem dX2_fits_67 : decode cX2_fits 67 = .ok (.invokestatic 106, 3) := by decide +kernel
theorem dX2_fits_70 : decode cX2_fits 70 = .ok (.isub, 1) := by decide +kernel
theorem dX2_fits_71 : decode cX2_fits 71 = .ok (.iadd, 1) := by decide +kernel
theorem dX2_fits_72 : decode cX2_fits 72 = .ok (.istore_n 3, 1) := by decide +kernel
theorem dX2_fits_73 : decode cX2_fits 73 = .ok (.iinc 4 1, 3) := by decide +kernel
theorem dX2_fits_76 : decode cX2_fits 76 = .ok (.goto (-68), 3) := by decide +kernel
theorem dX2_fits_79 : decode cX2_fits 79 = .ok (.iload_n 3, 1) := by decide +kernel
theorem dX2_fits_80 : decode cX2_fits 80 = .ok (.ldc 109, 2) := by decide +kernel
theorem dX2_fits_82 : decode cX2_fits 82 = .ok (.if_icmp .gt 7, 3) := by decide +kernel
theorem dX2_fits_85 : decode cX2_fits 85 = .ok (.iconst 1, 1) := by decide +kernel
theorem dX2_fits_86 : decode cX2_fits 86 = .ok (.goto 4, 3) := by decide +kernel
theorem dX2_fits_89 : decode cX2_fits 89 = .ok (.iconst 0, 1) := by decide +kernel
theorem dX2_fits_90 : decode cX2_fits 90 = .ok (.ireturn, 1) := by decide +kernel
theorem dX2_bitsFor_0 : decode cX2_bitsFor 0 = .ok (.iload_n 2, 1) := by decide +kernel
theorem dX2_bitsFor_1 : decode cX2_bitsFor 1 = .ok (.invokestatic 110, 3) := by decide +kernel
theorem dX2_bitsFor_4 : decode cX2_bitsFor 4 = .ok (.aload_n 0, 1) := by decide +kernel
theorem dX2_bitsFor_5 : decode cX2_bitsFor 5 = .ok (.getfield 27, 3) := by decide +kernel
theorem dX2_bitsFor_8 : decode cX2_bitsFor 8 = .ok (.iload_n 1, 1) := by decide +kernel
theorem dX2_bitsFor_9 : decode cX2_bitsFor 9 = .ok (.iaload, 1) := by decide +kernel
theorem dX2_bitsFor_10 : decode cX2_bitsFor 10 = .ok (.invokestatic 110, 3) := by decide +kernel
theorem dX2_bitsFor_13 : decode cX2_bitsFor 13 = .ok (.iadd, 1) := by decide +kernel
theorem dX2_bitsFor_14 : decode cX2_bitsFor 14 = .ok (.istore_n 3, 1) := by decide +kernel
theorem dX2_bitsFor_15 : decode cX2_bitsFor 15 = .ok (.iconst (-1), 1) := by decide +kernel
theorem dX2_bitsFor_16 : decode cX2_bitsFor 16 = .ok (.istore 4, 2) := by decide +kernel
theorem dX2_bitsFor_18 : decode cX2_bitsFor 18 = .ok (.aload_n 0, 1) := by decide +kernel
theorem dX2_bitsFor_19 : decode cX2_bitsFor 19 = .ok (.getfield 21, 3) := by decide +kernel
theorem dX2_bitsFor_22 : decode cX2_bitsFor 22 = .ok (.iload_n 1, 1) := by decide +kernel
theorem dX2_bitsFor_23 : decode cX2_bitsFor 23 = .ok (.iaload, 1) := by decide +kernel
theorem dX2_bitsFor_24 : decode cX2_bitsFor 24 = .ok (.istore 5, 2) := by decide +kernel
theorem dX2_bitsFor_26 : decode cX2_bitsFor 26 = .ok (.iconst 0, 1) := by decide +kernel
theorem dX2_bitsFor_27 : decode cX2_bitsFor 27 = .ok (.istore 6, 2) := by decide +kernel
theorem dX2_bitsFor_29 : decode cX2_bitsFor 29 = .ok (.iload 6, 2) := by decide +kernel
theorem dX2_bitsFor_31 : decode cX2_bitsFor 31 = .ok (.aload_n 0, 1) := by decide +kernel
theorem dX2_bitsFor_32 : decode cX2_bitsFor 32 = .ok (.getfield 27, 3) := by decide +kernel
theorem dX2_bitsFor_35 : decode cX2_bitsFor 35 = .ok (.iload_n 1, 1) := by decide +kernel
theorem dX2_bitsFor_36 : decode cX2_bitsFor 36 = .ok (.iaload, 1) := by decide +kernel
theorem dX2_bitsFor_37 : decode cX2_bitsFor 37 = .ok (.if_icmp .ge 43, 3) := by decide +kernel
theorem dX2_bitsFor_40 : decode cX2_bitsFor 40 = .ok (.iload_n 3, 1) := by decide +kernel
theorem dX2_bitsFor_41 : decode cX2_bitsFor 41 = .ok (.aload_n 0, 1) := by decide +kernel
theorem dX2_bitsFor_42 : decode cX2_bitsFor 42 = .ok (.getfield 9, 3) := by decide +kernel
theorem dX2_bitsFor_45 : decode cX2_bitsFor 45 = .ok (.iload 5, 2) := by decide +kernel
theorem dX2_bitsFor_47 : decode cX2_bitsFor 47 = .ok (.iaload, 1) := by decide +kernel
theorem dX2_bitsFor_48 : decode cX2_bitsFor 48 = .ok (.iload 4, 2) := by decide +kernel
theorem dX2_bitsFor_50 : decode cX2_bitsFor 50 = .ok (.isub, 1) := by decide +kernel
theorem dX2_bitsFor_51 : decode cX2_bitsFor 51 = .ok (.invokestatic 110, 3) := by decide +kernel
theorem dX2_bitsFor_54 : decode cX2_bitsFor 54 = .ok (.iadd, 1) := by decide +kernel
theorem dX2_bitsFor_55 : decode cX2_bitsFor 55 = .ok (.istore_n 3, 1) := by decide +kernel
theorem dX2_bitsFor_56 : decode cX2_bitsFor 56 = .ok (.aload_n 0, 1) := by decide +kernel
theorem dX2_bitsFor_57 : decode cX2_bitsFor 57 = .ok (.getfield 9, 3) := by decide +kernel
theorem dX2_bitsFor_60 : decode cX2_bitsFor 60 = .ok (.iload 5, 2) := by decide +kernel
theorem dX2_bitsFor_62 : decode cX2_bitsFor 62 = .ok (.iaload, 1) := by decide +kernel
theorem dX2_bitsFor_63 : decode cX2_bitsFor 63 = .ok (.istore 4, 2) := by decide +kernel
theorem dX2_bitsFor_65 : decode cX2_bitsFor 65 = .ok (.aload_n 0, 1) := by decide +kernel
theorem dX2_bitsFor_66 : decode cX2_bitsFor 66 = .ok (.getfield 15, 3) := by decide +kernel
theorem dX2_bitsFor_69 : decode cX2_bitsFor 69 = .ok (.iload 5, 2) := by decide +kernel
theorem dX2_bitsFor_71 : decode cX2_bitsFor 71 = .ok (.iaload, 1) := by decide +kernel
theorem dX2_bitsFor_72 : decode cX2_bitsFor 72 = .ok (.istore 5, 2) := by decide +kernel
theorem dX2_bitsFor_74 : decode cX2_bitsFor 74 = .ok (.iinc 6 1, 3) := by decide +kernel
theorem dX2_bitsFor_77 : decode cX2_bitsFor 77 = .ok (.goto (-48), 3) := by decide +kernel
theorem dX2_bitsFor_80 : decode cX2_bitsFor 80 = .ok (.iload_n 3, 1) := by decide +kernel
theorem dX2_bitsFor_81 : decode cX2_bitsFor 81 = .ok (.ireturn, 1) := by decide +kernel
theorem dX2_write_0 : decode cX2_write 0 = .ok (.iconst 0, 1) := by decide +kernel
theorem dX2_write_1 : decode cX2_write 1 = .ok (.istore_n 3, 1) := by decide +kernel
theorem dX2_write_2 : decode cX2_write 2 = .ok (.iload_n 3, 1) := by decide +kernel
theorem dX2_write_3 : decode cX2_write 3 = .ok (.aload_n 0, 1) := by decide +kernel
theorem dX2_write_4 : decode cX2_write 4 = .ok (.getfield 34, 3) := by decide +kernel
theorem dX2_write_7 : decode cX2_write 7 = .ok (.if_icmp .ge 98, 3) := by decide +kernel
theorem dX2_write_10 : decode cX2_write 10 = .ok (.aload_n 0, 1) := by decide +kernel
theorem dX2_write_11 : decode cX2_write 11 = .ok (.getfield 18, 3) := by decide +kernel
theorem dX2_write_14 : decode cX2_write 14 = .ok (.iload_n 3, 1) := by decide +kernel
theorem dX2_write_15 : decode cX2_write 15 = .ok (.iaload, 1) := by decide +kernel
theorem dX2_write_16 : decode cX2_write 16 = .ok (.istore 4, 2) := by decide +kernel
theorem dX2_write_18 : decode cX2_write 18 = .ok (.aload_n 1, 1) := by decide +kernel
theorem dX2_write_19 : decode cX2_write 19 = .ok (.iload 4, 2) := by decide +kernel
theorem dX2_write_21 : decode cX2_write 21 = .ok (.iload_n 2, 1) := by decide +kernel
theorem dX2_write_22 : decode cX2_write 22 = .ok (.aload_n 0, 1) := by decide +kernel
theorem dX2_write_23 : decode cX2_write 23 = .ok (.getfield 27, 3) := by decide +kernel
theorem dX2_write_26 : decode cX2_write 26 = .ok (.iload 4, 2) := by decide +kernel
theorem dX2_write_28 : decode cX2_write 28 = .ok (.iaload, 1) := by decide +kernel
theorem dX2_write_29 : decode cX2_write 29 = .ok (.invokevirtual 113, 3) := by decide +kernel
theorem dX2_write_32 : decode cX2_write 32 = .ok (.iconst (-1), 1) := by decide +kernel
theorem dX2_write_33 : decode cX2_write 33 = .ok (.istore 5, 2) := by decide +kernel
theorem dX2_write_35 : decode cX2_write 35 = .ok (.aload_n 0, 1) := by decide +kernel
theorem dX2_write_36 : decode cX2_write 36 = .ok (.getfield 21, 3) := by decide +kernel
theorem dX2_write_39 : decode cX2_write 39 = .ok (.iload 4, 2) := by decide +kernel
theorem dX2_write_41 : decode cX2_write 41 = .ok (.iaload, 1) := by decide +kernel
theorem dX2_write_42 : decode cX2_write 42 = .ok (.istore 6, 2) := by decide +kernel
theorem dX2_write_44 : decode cX2_write 44 = .ok (.iconst 0, 1) := by decide +kernel
theorem dX2_write_45 : decode cX2_write 45 = .ok (.istore 7, 2) := by decide +kernel
theorem dX2_write_47 : decode cX2_write 47 = .ok (.iload 7, 2) := by decide +kernel
theorem dX2_write_49 : decode cX2_write 49 = .ok (.aload_n 0, 1) := by decide +kernel
theorem dX2_write_50 : decode cX2_write 50 = .ok (.getfield 27, 3) := by decide +kernel
theorem dX2_write_53 : decode cX2_write 53 = .ok (.iload 4, 2) := by decide +kernel
theorem dX2_write_55 : decode cX2_write 55 = .ok (.iaload, 1) := by decide +kernel
theorem dX2_write_56 : decode cX2_write 56 = .ok (.if_icmp .ge 43, 3) := by decide +kernel
theorem dX2_write_59 : decode cX2_write 59 = .ok (.aload_n 1, 1) := by decide +kernel
theorem dX2_write_60 : decode cX2_write 60 = .ok (.iload 4, 2) := by decide +kernel
theorem dX2_write_62 : decode cX2_write 62 = .ok (.aload_n 0, 1) := by decide +kernel
theorem dX2_write_63 : decode cX2_write 63 = .ok (.getfield 9, 3) := by decide +kernel
theorem dX2_write_66 : decode cX2_write 66 = .ok (.iload 6, 2) := by decide +kernel
theorem dX2_write_68 : decode cX2_write 68 = .ok (.iaload, 1) := by decide +kernel
theorem dX2_write_69 : decode cX2_write 69 = .ok (.iload 5, 2) := by decide +kernel
theorem dX2_write_71 : decode cX2_write 71 = .ok (.isub, 1) := by decide +kernel
theorem dX2_write_72 : decode cX2_write 72 = .ok (.invokevirtual 117, 3) := by decide +kernel
theorem dX2_write_75 : decode cX2_write 75 = .ok (.aload_n 0, 1) := by decide +kernel
theorem dX2_write_76 : decode cX2_write 76 = .ok (.getfield 9, 3) := by decide +kernel
theorem dX2_write_79 : decode cX2_write 79 = .ok (.iload 6, 2) := by decide +kernel
theorem dX2_write_81 : decode cX2_write 81 = .ok (.iaload, 1) := by decide +kernel
theorem dX2_write_82 : decode cX2_write 82 = .ok (.istore 5, 2) := by decide +kernel
theorem dX2_write_84 : decode cX2_write 84 = .ok (.aload_n 0, 1) := by decide +kernel
theorem dX2_write_85 : decode cX2_write 85 = .ok (.getfield 15, 3) := by decide +kernel
theorem dX2_write_88 : decode cX2_write 88 = .ok (.iload 6, 2) := by decide +kernel
theorem dX2_write_90 : decode cX2_write 90 = .ok (.iaload, 1) := by decide +kernel
theorem dX2_write_91 : decode cX2_write 91 = .ok (.istore 6, 2) := by decide +kernel
theorem dX2_write_93 : decode cX2_write 93 = .ok (.iinc 7 1, 3) := by decide +kernel
theorem dX2_write_96 : decode cX2_write 96 = .ok (.goto (-49), 3) := by decide +kernel
theorem dX2_write_99 : decode cX2_write 99 = .ok (.iinc 3 1, 3) := by decide +kernel
theorem dX2_write_102 : decode cX2_write 102 = .ok (.goto (-100), 3) := by decide +kernel
theorem dX2_write_105 : decode cX2_write 105 = .ok (.return_, 1) := by decide +kernel
theorem dX3_init_0 : decode cX3_init 0 = .ok (.aload_n 0, 1) := by decide +kernel
theorem dX3_init_1 : decode cX3_init 1 = .ok (.invokespecial 3, 3) := by decide +kernel
theorem dX3_init_4 : decode cX3_init 4 = .ok (.aload_n 0, 1) := by decide +kernel
theorem dX3_init_5 : decode cX3_init 5 = .ok (.sipush 400, 3) := by decide +kernel
theorem dX3_init_8 : decode cX3_init 8 = .ok (.anewarray 9, 3) := by decide +kernel
theorem dX3_init_11 : decode cX3_init 11 = .ok (.putfield 11, 3) := by decide +kernel
theorem dX3_init_14 : decode cX3_init 14 = .ok (.aload_n 0, 1) := by decide +kernel
theorem dX3_init_15 : decode cX3_init 15 = .ok (.sipush 400, 3) := by decide +kernel
theorem dX3_init_18 : decode cX3_init 18 = .ok (.newarray .int, 2) := by decide +kernel
theorem dX3_init_20 : decode cX3_init 20 = .ok (.putfield 17, 3) := by decide +kernel
theorem dX3_init_23 : decode cX3_init 23 = .ok (.aload_n 0, 1) := by decide +kernel
theorem dX3_init_24 : decode cX3_init 24 = .ok (.sipush 400, 3) := by decide +kernel
theorem dX3_init_27 : decode cX3_init 27 = .ok (.newarray .boolean, 2) := by decide +kernel
theorem dX3_init_29 : decode cX3_init 29 = .ok (.putfield 21, 3) := by decide +kernel
theorem dX3_init_32 : decode cX3_init 32 = .ok (.aload_n 0, 1) := by decide +kernel
theorem dX3_init_33 : decode cX3_init 33 = .ok (.sipush 832, 3) := by decide +kernel
theorem dX3_init_36 : decode cX3_init 36 = .ok (.newarray .int, 2) := by decide +kernel
theorem dX3_init_38 : decode cX3_init 38 = .ok (.putfield 25, 3) := by decide +kernel
theorem dX3_init_41 : decode cX3_init 41 = .ok (.aload_n 0, 1) := by decide +kernel
theorem dX3_init_42 : decode cX3_init 42 = .ok (.sipush 300, 3) := by decide +kernel
theorem dX3_init_45 : decode cX3_init 45 = .ok (.newarray .int, 2) := by decide +kernel
theorem dX3_init_47 : decode cX3_init 47 = .ok (.putfield 28, 3) := by decide +kernel
theorem dX3_init_50 : decode cX3_init 50 = .ok (.aload_n 0, 1) := by decide +kernel
theorem dX3_init_51 : decode cX3_init 51 = .ok (.iconst 0, 1) := by decide +kernel
theorem dX3_init_52 : decode cX3_init 52 = .ok (.putfield 31, 3) := by decide +kernel
theorem dX3_init_55 : decode cX3_init 55 = .ok (.aload_n 0, 1) := by decide +kernel
theorem dX3_init_56 : decode cX3_init 56 = .ok (.iconst 0, 1) := by decide +kernel
theorem dX3_init_57 : decode cX3_init 57 = .ok (.putfield 35, 3) := by decide +kernel
theorem dX3_init_60 : decode cX3_init 60 = .ok (.aload_n 0, 1) := by decide +kernel
theorem dX3_init_61 : decode cX3_init 61 = .ok (.aload_n 1, 1) := by decide +kernel
theorem dX3_init_62 : decode cX3_init 62 = .ok (.putfield 38, 3) := by decide +kernel
theorem dX3_init_65 : decode cX3_init 65 = .ok (.aload_n 0, 1) := by decide +kernel
theorem dX3_init_66 : decode cX3_init 66 = .ok (.aload_n 2, 1) := by decide +kernel
theorem dX3_init_67 : decode cX3_init 67 = .ok (.putfield 42, 3) := by decide +kernel
theorem dX3_init_70 : decode cX3_init 70 = .ok (.aload_n 0, 1) := by decide +kernel
theorem dX3_init_71 : decode cX3_init 71 = .ok (.aload_n 3, 1) := by decide +kernel
theorem dX3_init_72 : decode cX3_init 72 = .ok (.putfield 46, 3) := by decide +kernel
theorem dX3_init_75 : decode cX3_init 75 = .ok (.aload_n 0, 1) := by decide +kernel
theorem dX3_init_76 : decode cX3_init 76 = .ok (.getfield 25, 3) := by decide +kernel
theorem dX3_init_79 : decode cX3_init 79 = .ok (.iconst (-1), 1) := by decide +kernel
theorem dX3_init_80 : decode cX3_init 80 = .ok (.invokestatic 50, 3) := by decide +kernel
theorem dX3_init_83 : decode cX3_init 83 = .ok (.return_, 1) := by decide +kernel
theorem dX3_open_0 : decode cX3_open 0 = .ok (.iconst 0, 1) := by decide +kernel
theorem dX3_open_1 : decode cX3_open 1 = .ok (.istore_n 1, 1) := by decide +kernel
theorem dX3_open_2 : decode cX3_open 2 = .ok (.iload_n 1, 1) := by decide +kernel
theorem dX3_open_3 : decode cX3_open 3 = .ok (.aload_n 0, 1) := by decide +kernel
theorem dX3_open_4 : decode cX3_open 4 = .ok (.getfield 31, 3) := by decide +kernel
theorem dX3_open_7 : decode cX3_open 7 = .ok (.if_icmp .ge 21, 3) := by decide +kernel
theorem dX3_open_10 : decode cX3_open 10 = .ok (.aload_n 0, 1) := by decide +kernel
theorem dX3_open_11 : decode cX3_open 11 = .ok (.getfield 21, 3) := by decide +kernel
theorem dX3_open_14 : decode cX3_open 14 = .ok (.aload_n 0, 1) := by decide +kernel
theorem dX3_open_15 : decode cX3_open 15 = .ok (.getfield 17, 3) := by decide +kernel
theorem dX3_open_18 : decode cX3_open 18 = .ok (.iload_n 1, 1) := by decide +kernel
theorem dX3_open_19 : decode cX3_open 19 = .ok (.iaload, 1) := by decide +kernel
theorem dX3_open_20 : decode cX3_open 20 = .ok (.iconst 0, 1) := by decide +kernel
theorem dX3_open_21 : decode cX3_open 21 = .ok (.bastore, 1) := by decide +kernel
theorem dX3_open_22 : decode cX3_open 22 = .ok (.iinc 1 1, 3) := by decide +kernel
theorem dX3_open_25 : decode cX3_open 25 = .ok (.goto (-23), 3) := by decide +kernel
theorem dX3_open_28 : decode cX3_open 28 = .ok (.aload_n 0, 1) := by decide +kernel
theorem dX3_open_29 : decode cX3_open 29 = .ok (.iconst 0, 1) := by decide +kernel
theorem dX3_open_30 : decode cX3_open 30 = .ok (.putfield 31, 3) := by decide +kernel
theorem dX3_open_33 : decode cX3_open 33 = .ok (.iconst 0, 1) := by decide +kernel
theorem dX3_open_34 : decode cX3_open 34 = .ok (.istore_n 1, 1) := by decide +kernel
theorem dX3_open_35 : decode cX3_open 35 = .ok (.iload_n 1, 1) := by decide +kernel
theorem dX3_open_36 : decode cX3_open 36 = .ok (.aload_n 0, 1) := by decide +kernel
theorem dX3_open_37 : decode cX3_open 37 = .ok (.getfield 46, 3) := by decide +kernel
theorem dX3_open_40 : decode cX3_open 40 = .ok (.invokevirtual 56, 3) := by decide +kernel
theorem dX3_open_43 : decode cX3_open 43 = .ok (.if_icmp .ge 71, 3) := by decide +kernel
theorem dX3_open_46 : decode cX3_open 46 = .ok (.aload_n 0, 1) := by decide +kernel
theorem dX3_open_47 : decode cX3_open 47 = .ok (.getfield 46, 3) := by decide +kernel
theorem dX3_open_50 : decode cX3_open 50 = .ok (.iload_n 1, 1) := by decide +kernel
theorem dX3_open_51 : decode cX3_open 51 = .ok (.invokevirtual 62, 3) := by decide +kernel
theorem dX3_open_54 : decode cX3_open 54 = .ok (.istore_n 2, 1) := by decide +kernel
theorem dX3_open_55 : decode cX3_open 55 = .ok (.aload_n 0, 1) := by decide +kernel
theorem dX3_open_56 : decode cX3_open 56 = .ok (.getfield 46, 3) := by decide +kernel
theorem dX3_open_59 : decode cX3_open 59 = .ok (.iload_n 1, 1) := by decide +kernel
theorem dX3_open_60 : decode cX3_open 60 = .ok (.invokevirtual 66, 3) := by decide +kernel
theorem dX3_open_63 : decode cX3_open 63 = .ok (.istore_n 3, 1) := by decide +kernel
theorem dX3_open_64 : decode cX3_open 64 = .ok (.iload_n 2, 1) := by decide +kernel
theorem dX3_open_65 : decode cX3_open 65 = .ok (.iconst 4, 1) := by decide +kernel
theorem dX3_open_66 : decode cX3_open 66 = .ok (.if_icmp .eq 42, 3) := by decide +kernel
theorem dX3_open_69 : decode cX3_open 69 = .ok (.iload_n 3, 1) := by decide +kernel
theorem dX3_open_70 : decode cX3_open 70 = .ok (.aload_n 0, 1) := by decide +kernel
theorem dX3_open_71 : decode cX3_open 71 = .ok (.getfield 46, 3) := by decide +kernel
theorem dX3_open_74 : decode cX3_open 74 = .ok (.iload_n 1, 1) := by decide +kernel
theorem dX3_open_75 : decode cX3_open 75 = .ok (.invokevirtual 69, 3) := by decide +kernel
theorem dX3_open_78 : decode cX3_open 78 = .ok (.if_icmp .ge 30, 3) := by decide +kernel
theorem dX3_open_81 : decode cX3_open 81 = .ok (.aload_n 0, 1) := by decide +kernel
theorem dX3_open_82 : decode cX3_open 82 = .ok (.iload_n 2, 1) := by decide +kernel
theorem dX3_open_83 : decode cX3_open 83 = .ok (.iconst 3, 1) := by decide +kernel
theorem dX3_open_84 : decode cX3_open 84 = .ok (.if_icmp .ne 14, 3) := by decide +kernel
theorem dX3_open_87 : decode cX3_open 87 = .ok (.aload_n 0, 1) := by decide +kernel
theorem dX3_open_88 : decode cX3_open 88 = .ok (.getfield 46, 3) := by decide +kernel
theorem dX3_open_91 : decode cX3_open 91 = .ok (.iload_n 3, 1) := by decide +kernel
theorem dX3_open_92 : decode cX3_open 92 = .ok (.invokevirtual 72, 3) := by decide +kernel
theorem dX3_open_95 : decode cX3_open 95 = .ok (.goto 4, 3) := by decide +kernel
theorem dX3_open_98 : decode cX3_open 98 = .ok (.iload_n 3, 1) := by decide +kernel
theorem dX3_open_99 : decode cX3_open 99 = .ok (.invokevirtual 75, 3) := by decide +kernel
theorem dX3_open_102 : decode cX3_open 102 = .ok (.iinc 3 1, 3) := by decide +kernel
theorem dX3_open_105 : decode cX3_open 105 = .ok (.goto (-41), 3) := by decide +kernel
theorem dX3_open_108 : decode cX3_open 108 = .ok (.iinc 1 1, 3) := by decide +kernel
theorem dX3_open_111 : decode cX3_open 111 = .ok (.goto (-76), 3) := by decide +kernel
theorem dX3_open_114 : decode cX3_open 114 = .ok (.return_, 1) := by decide +kernel
theorem dX3_want_0 : decode cX3_want 0 = .ok (.iload_n 1, 1) := by decide +kernel
theorem dX3_want_1 : decode cX3_want 1 = .ok (.ifCond .lt 33, 3) := by decide +kernel
theorem dX3_want_4 : decode cX3_want 4 = .ok (.iload_n 1, 1) := by decide +kernel
theorem dX3_want_5 : decode cX3_want 5 = .ok (.aload_n 0, 1) := by decide +kernel
theorem dX3_want_6 : decode cX3_want 6 = .ok (.getfield 38, 3) := by decide +kernel
theorem dX3_want_9 : decode cX3_want 9 = .ok (.invokevirtual 79, 3) := by decide +kernel
theorem dX3_want_12 : decode cX3_want 12 = .ok (.if_icmp .ge 22, 3) := by decide +kernel
theorem dX3_want_15 : decode cX3_want 15 = .ok (.aload_n 0, 1) := by decide +kernel
theorem dX3_want_16 : decode cX3_want 16 = .ok (.getfield 21, 3) := by decide +kernel
theorem dX3_want_19 : decode cX3_want 19 = .ok (.iload_n 1, 1) := by decide +kernel
theorem dX3_want_20 : decode cX3_want 20 = .ok (.baload, 1) := by decide +kernel
theorem dX3_want_21 : decode cX3_want 21 = .ok (.ifCond .ne 13, 3) := by decide +kernel
theorem dX3_want_24 : decode cX3_want 24 = .ok (.aload_n 0, 1) := by decide +kernel
theorem dX3_want_25 : decode cX3_want 25 = .ok (.getfield 31, 3) := by decide +kernel
theorem dX3_want_28 : decode cX3_want 28 = .ok (.sipush 400, 3) := by decide +kernel
theorem dX3_want_31 : decode cX3_want 31 = .ok (.if_icmp .lt 4, 3) := by decide +kernel
theorem dX3_want_34 : decode cX3_want 34 = .ok (.return_, 1) := by decide +kernel
theorem dX3_want_35 : decode cX3_want 35 = .ok (.aload_n 0, 1) := by decide +kernel
theorem dX3_want_36 : decode cX3_want 36 = .ok (.getfield 21, 3) := by decide +kernel
theorem dX3_want_39 : decode cX3_want 39 = .ok (.iload_n 1, 1) := by decide +kernel
theorem dX3_want_40 : decode cX3_want 40 = .ok (.iconst 1, 1) := by decide +kernel
theorem dX3_want_41 : decode cX3_want 41 = .ok (.bastore, 1) := by decide +kernel
theorem dX3_want_42 : decode cX3_want 42 = .ok (.aload_n 0, 1) := by decide +kernel
theorem dX3_want_43 : decode cX3_want 43 = .ok (.getfield 11, 3) := by decide +kernel
theorem dX3_want_46 : decode cX3_want 46 = .ok (.aload_n 0, 1) := by decide +kernel
theorem dX3_want_47 : decode cX3_want 47 = .ok (.getfield 31, 3) := by decide +kernel
theorem dX3_want_50 : decode cX3_want 50 = .ok (.aaload, 1) := by decide +kernel
theorem dX3_want_51 : decode cX3_want 51 = .ok (.ifnonnull 23, 3) := by decide +kernel
theorem dX3_want_54 : decode cX3_want 54 = .ok (.aload_n 0, 1) := by decide +kernel
theorem dX3_want_55 : decode cX3_want 55 = .ok (.getfield 11, 3) := by decide +kernel
theorem dX3_want_58 : decode cX3_want 58 = .ok (.aload_n 0, 1) := by decide +kernel
theorem dX3_want_59 : decode cX3_want 59 = .ok (.getfield 31, 3) := by decide +kernel
theorem dX3_want_62 : decode cX3_want 62 = .ok (.new 9, 3) := by decide +kernel
theorem dX3_want_65 : decode cX3_want 65 = .ok (.dup, 1) := by decide +kernel
theorem dX3_want_66 : decode cX3_want 66 = .ok (.aload_n 0, 1) := by decide +kernel
theorem dX3_want_67 : decode cX3_want 67 = .ok (.getfield 42, 3) := by decide +kernel
theorem dX3_want_70 : decode cX3_want 70 = .ok (.invokespecial 84, 3) := by decide +kernel
theorem dX3_want_73 : decode cX3_want 73 = .ok (.aastore, 1) := by decide +kernel
theorem dX3_want_74 : decode cX3_want 74 = .ok (.aload_n 0, 1) := by decide +kernel
theorem dX3_want_75 : decode cX3_want 75 = .ok (.getfield 11, 3) := by decide +kernel
theorem dX3_want_78 : decode cX3_want 78 = .ok (.aload_n 0, 1) := by decide +kernel
theorem dX3_want_79 : decode cX3_want 79 = .ok (.getfield 31, 3) := by decide +kernel
theorem dX3_want_82 : decode cX3_want 82 = .ok (.aaload, 1) := by decide +kernel
theorem dX3_want_83 : decode cX3_want 83 = .ok (.aload_n 0, 1) := by decide +kernel
theorem dX3_want_84 : decode cX3_want 84 = .ok (.getfield 38, 3) := by decide +kernel
theorem dX3_want_87 : decode cX3_want 87 = .ok (.iload_n 1, 1) := by decide +kernel
theorem dX3_want_88 : decode cX3_want 88 = .ok (.invokevirtual 87, 3) := by decide +kernel
theorem dX3_want_91 : decode cX3_want 91 = .ok (.invokevirtual 90, 3) := by decide +kernel
theorem dX3_want_94 : decode cX3_want 94 = .ok (.aload_n 0, 1) := by decide +kernel
theorem dX3_want_95 : decode cX3_want 95 = .ok (.getfield 17, 3) := by decide +kernel
theorem dX3_want_98 : decode cX3_want 98 = .ok (.aload_n 0, 1) := by decide +kernel
theorem dX3_want_99 : decode cX3_want 99 = .ok (.getfield 31, 3) := by decide +kernel
theorem dX3_want_102 : decode cX3_want 102 = .ok (.iload_n 1, 1) := by decide +kernel
theorem dX3_want_103 : decode cX3_want 103 = .ok (.iastore, 1) := by decide +kernel
theorem dX3_want_104 : decode cX3_want 104 = .ok (.aload_n 0, 1) := by decide +kernel
theorem dX3_want_105 : decode cX3_want 105 = .ok (.dup, 1) := by decide +kernel
theorem dX3_want_106 : decode cX3_want 106 = .ok (.getfield 31, 3) := by decide +kernel
theorem dX3_want_109 : decode cX3_want 109 = .ok (.iconst 1, 1) := by decide +kernel
theorem dX3_want_110 : decode cX3_want 110 = .ok (.iadd, 1) := by decide +kernel
theorem dX3_want_111 : decode cX3_want 111 = .ok (.putfield 31, 3) := by decide +kernel
theorem dX3_want_114 : decode cX3_want 114 = .ok (.return_, 1) := by decide +kernel
theorem dX3_turnTo_0 : decode cX3_turnTo 0 = .ok (.iconst 0, 1) := by decide +kernel
theorem dX3_turnTo_1 : decode cX3_turnTo 1 = .ok (.istore_n 2, 1) := by decide +kernel
theorem dX3_turnTo_2 : decode cX3_turnTo 2 = .ok (.iload_n 2, 1) := by decide +kernel
theorem dX3_turnTo_3 : decode cX3_turnTo 3 = .ok (.aload_n 0, 1) := by decide +kernel
theorem dX3_turnTo_4 : decode cX3_turnTo 4 = .ok (.getfield 35, 3) := by decide +kernel
theorem dX3_turnTo_7 : decode cX3_turnTo 7 = .ok (.if_icmp .ge 21, 3) := by decide +kernel
theorem dX3_turnTo_10 : decode cX3_turnTo 10 = .ok (.aload_n 0, 1) := by decide +kernel
theorem dX3_turnTo_11 : decode cX3_turnTo 11 = .ok (.getfield 25, 3) := by decide +kernel
theorem dX3_turnTo_14 : decode cX3_turnTo 14 = .ok (.aload_n 0, 1) := by decide +kernel
theorem dX3_turnTo_15 : decode cX3_turnTo 15 = .ok (.getfield 28, 3) := by decide +kernel
theorem dX3_turnTo_18 : decode cX3_turnTo 18 = .ok (.iload_n 2, 1) := by decide +kernel
theorem dX3_turnTo_19 : decode cX3_turnTo 19 = .ok (.iaload, 1) := by decide +kernel
theorem dX3_turnTo_20 : decode cX3_turnTo 20 = .ok (.iconst (-1), 1) := by decide +kernel
theorem dX3_turnTo_21 : decode cX3_turnTo 21 = .ok (.iastore, 1) := by decide +kernel
theorem dX3_turnTo_22 : decode cX3_turnTo 22 = .ok (.iinc 2 1, 3) := by decide +kernel
theorem dX3_turnTo_25 : decode cX3_turnTo 25 = .ok (.goto (-23), 3) := by decide +kernel
theorem dX3_turnTo_28 : decode cX3_turnTo 28 = .ok (.aload_n 0, 1) := by decide +kernel
theorem dX3_turnTo_29 : decode cX3_turnTo 29 = .ok (.iconst 0, 1) := by decide +kernel
theorem dX3_turnTo_30 : decode cX3_turnTo 30 = .ok (.putfield 35, 3) := by decide +kernel
theorem dX3_turnTo_33 : decode cX3_turnTo 33 = .ok (.iconst 0, 1) := by decide +kernel
theorem dX3_turnTo_34 : decode cX3_turnTo 34 = .ok (.istore_n 2, 1) := by decide +kernel
theorem dX3_turnTo_35 : decode cX3_turnTo 35 = .ok (.iload_n 2, 1) := by decide +kernel
theorem dX3_turnTo_36 : decode cX3_turnTo 36 = .ok (.aload_n 0, 1) := by decide +kernel
theorem dX3_turnTo_37 : decode cX3_turnTo 37 = .ok (.getfield 31, 3) := by decide +kernel
theorem dX3_turnTo_40 : decode cX3_turnTo 40 = .ok (.if_icmp .ge 60, 3) := by decide +kernel
theorem dX3_turnTo_43 : decode cX3_turnTo 43 = .ok (.aload_n 0, 1) := by decide +kernel
theorem dX3_turnTo_44 : decode cX3_turnTo 44 = .ok (.getfield 11, 3) := by decide +kernel
theorem dX3_turnTo_47 : decode cX3_turnTo 47 = .ok (.iload_n 2, 1) := by decide +kernel
theorem dX3_turnTo_48 : decode cX3_turnTo 48 = .ok (.aaload, 1) := by decide +kernel
theorem dX3_turnTo_49 : decode cX3_turnTo 49 = .ok (.astore_n 3, 1) := by decide +kernel
theorem dX3_turnTo_50 : decode cX3_turnTo 50 = .ok (.aload_n 3, 1) := by decide +kernel
theorem dX3_turnTo_51 : decode cX3_turnTo 51 = .ok (.ifnull 43, 3) := by decide +kernel
theorem dX3_turnTo_54 : decode cX3_turnTo 54 = .ok (.aload_n 3, 1) := by decide +kernel
theorem dX3_turnTo_55 : decode cX3_turnTo 55 = .ok (.iload_n 1, 1) := by decide +kernel
theorem dX3_turnTo_56 : decode cX3_turnTo 56 = .ok (.invokevirtual 93, 3) := by decide +kernel
theorem dX3_turnTo_59 : decode cX3_turnTo 59 = .ok (.ifCond .eq 35, 3) := by decide +kernel
theorem dX3_turnTo_62 : decode cX3_turnTo 62 = .ok (.iconst 0, 1) := by decide +kernel
theorem dX3_turnTo_63 : decode cX3_turnTo 63 = .ok (.istore 4, 2) := by decide +kernel
theorem dX3_turnTo_65 : decode cX3_turnTo 65 = .ok (.iload 4, 2) := by decide +kernel
theorem dX3_turnTo_67 : decode cX3_turnTo 67 = .ok (.aload_n 3, 1) := by decide +kernel
theorem dX3_turnTo_68 : decode cX3_turnTo 68 = .ok (.invokevirtual 97, 3) := by decide +kernel
theorem dX3_turnTo_71 : decode cX3_turnTo 71 = .ok (.if_icmp .ge 23, 3) := by decide +kernel
theorem dX3_turnTo_74 : decode cX3_turnTo 74 = .ok (.aload_n 0, 1) := by decide +kernel
theorem dX3_turnTo_75 : decode cX3_turnTo 75 = .ok (.aload_n 3, 1) := by decide +kernel
theorem dX3_turnTo_76 : decode cX3_turnTo 76 = .ok (.invokevirtual 100, 3) := by decide +kernel
theorem dX3_turnTo_79 : decode cX3_turnTo 79 = .ok (.aload_n 0, 1) := by decide +kernel
theorem dX3_turnTo_80 : decode cX3_turnTo 80 = .ok (.getfield 17, 3) := by decide +kernel
theorem dX3_turnTo_83 : decode cX3_turnTo 83 = .ok (.iload_n 2, 1) := by decide +kernel
theorem dX3_turnTo_84 : decode cX3_turnTo 84 = .ok (.iaload, 1) := by decide +kernel
theorem dX3_turnTo_85 : decode cX3_turnTo 85 = .ok (.invokevirtual 103, 3) := by decide +kernel
theorem dX3_turnTo_88 : decode cX3_turnTo 88 = .ok (.iinc 4 1, 3) := by decide +kernel
theorem dX3_turnTo_91 : decode cX3_turnTo 91 = .ok (.goto (-26), 3) := by decide +kernel
theorem dX3_turnTo_94 : decode cX3_turnTo 94 = .ok (.iinc 2 1, 3) := by decide +kernel
theorem dX3_turnTo_97 : decode cX3_turnTo 97 = .ok (.goto (-62), 3) := by decide +kernel
theorem dX3_turnTo_100 : decode cX3_turnTo 100 = .ok (.return_, 1) := by decide +kernel
theorem dX3_see_0 : decode cX3_see 0 = .ok (.iload_n 1, 1) := by decide +kernel
theorem dX3_see_1 : decode cX3_see 1 = .ok (.ifCond .lt 47, 3) := by decide +kernel
theorem dX3_see_4 : decode cX3_see 4 = .ok (.iload_n 1, 1) := by decide +kernel
theorem dX3_see_5 : decode cX3_see 5 = .ok (.sipush 832, 3) := by decide +kernel
theorem dX3_see_8 : decode cX3_see 8 = .ok (.if_icmp .ge 40, 3) := by decide +kernel
theorem dX3_see_11 : decode cX3_see 11 = .ok (.aload_n 0, 1) := by decide +kernel
theorem dX3_see_12 : decode cX3_see 12 = .ok (.getfield 35, 3) := by decide +kernel
theorem dX3_see_15 : decode cX3_see 15 = .ok (.sipush 300, 3) := by decide +kernel
theorem dX3_see_18 : decode cX3_see 18 = .ok (.if_icmp .ge 30, 3) := by decide +kernel
theorem dX3_see_21 : decode cX3_see 21 = .ok (.aload_n 0, 1) := by decide +kernel
theorem dX3_see_22 : decode cX3_see 22 = .ok (.getfield 25, 3) := by decide +kernel
theorem dX3_see_25 : decode cX3_see 25 = .ok (.iload_n 1, 1) := by decide +kernel
theorem dX3_see_26 : decode cX3_see 26 = .ok (.iload_n 2, 1) := by decide +kernel
theorem dX3_see_27 : decode cX3_see 27 = .ok (.iastore, 1) := by decide +kernel
theorem dX3_see_28 : decode cX3_see 28 = .ok (.aload_n 0, 1) := by decide +kernel
theorem dX3_see_29 : decode cX3_see 29 = .ok (.getfield 28, 3) := by decide +kernel
theorem dX3_see_32 : decode cX3_see 32 = .ok (.aload_n 0, 1) := by decide +kernel
theorem dX3_see_33 : decode cX3_see 33 = .ok (.getfield 35, 3) := by decide +kernel
theorem dX3_see_36 : decode cX3_see 36 = .ok (.iload_n 1, 1) := by decide +kernel
theorem dX3_see_37 : decode cX3_see 37 = .ok (.iastore, 1) := by decide +kernel
theorem dX3_see_38 : decode cX3_see 38 = .ok (.aload_n 0, 1) := by decide +kernel
theorem dX3_see_39 : decode cX3_see 39 = .ok (.dup, 1) := by decide +kernel
theorem dX3_see_40 : decode cX3_see 40 = .ok (.getfield 35, 3) := by decide +kernel
theorem dX3_see_43 : decode cX3_see 43 = .ok (.iconst 1, 1) := by decide +kernel
theorem dX3_see_44 : decode cX3_see 44 = .ok (.iadd, 1) := by decide +kernel
theorem dX3_see_45 : decode cX3_see 45 = .ok (.putfield 35, 3) := by decide +kernel
theorem dX3_see_48 : decode cX3_see 48 = .ok (.return_, 1) := by decide +kernel
theorem dX3_wordAt_0 : decode cX3_wordAt 0 = .ok (.iload_n 1, 1) := by decide +kernel
theorem dX3_wordAt_1 : decode cX3_wordAt 1 = .ok (.ifCond .lt 19, 3) := by decide +kernel
theorem dX3_wordAt_4 : decode cX3_wordAt 4 = .ok (.iload_n 1, 1) := by decide +kernel
theorem dX3_wordAt_5 : decode cX3_wordAt 5 = .ok (.sipush 832, 3) := by decide +kernel
theorem dX3_wordAt_8 : decode cX3_wordAt 8 = .ok (.if_icmp .ge 12, 3) := by decide +kernel
theorem dX3_wordAt_11 : decode cX3_wordAt 11 = .ok (.aload_n 0, 1) := by decide +kernel
theorem dX3_wordAt_12 : decode cX3_wordAt 12 = .ok (.getfield 25, 3) := by decide +kernel
theorem dX3_wordAt_15 : decode cX3_wordAt 15 = .ok (.iload_n 1, 1) := by decide +kernel
theorem dX3_wordAt_16 : decode cX3_wordAt 16 = .ok (.iaload, 1) := by decide +kernel
theorem dX3_wordAt_17 : decode cX3_wordAt 17 = .ok (.goto 4, 3) := by decide +kernel
theorem dX3_wordAt_20 : decode cX3_wordAt 20 = .ok (.iconst (-1), 1) := by decide +kernel
theorem dX3_wordAt_21 : decode cX3_wordAt 21 = .ok (.ireturn, 1) := by decide +kernel
theorem dX3_gather_0 : decode cX3_gather 0 = .ok (.aload_n 2, 1) := by decide +kernel
theorem dX3_gather_1 : decode cX3_gather 1 = .ok (.invokevirtual 107, 3) := by decide +kernel
theorem dX3_gather_4 : decode cX3_gather 4 = .ok (.aload_n 0, 1) := by decide +kernel
theorem dX3_gather_5 : decode cX3_gather 5 = .ok (.getfield 46, 3) := by decide +kernel
theorem dX3_gather_8 : decode cX3_gather 8 = .ok (.iload_n 1, 1) := by decide +kernel
theorem dX3_gather_9 : decode cX3_gather 9 = .ok (.invokevirtual 112, 3) := by decide +kernel
theorem dX3_gather_12 : decode cX3_gather 12 = .ok (.istore_n 3, 1) := by decide +kernel
theorem dX3_gather_13 : decode cX3_gather 13 = .ok (.aload_n 0, 1) := by decide +kernel
theorem dX3_gather_14 : decode cX3_gather 14 = .ok (.getfield 46, 3) := by decide +kernel
theorem dX3_gather_17 : decode cX3_gather 17 = .ok (.iload_n 1, 1) := by decide +kernel
theorem dX3_gather_18 : decode cX3_gather 18 = .ok (.invokevirtual 62, 3) := by decide +kernel
theorem dX3_gather_21 : decode cX3_gather 21 = .ok (.iconst 3, 1) := by decide +kernel
theorem dX3_gather_22 : decode cX3_gather 22 = .ok (.if_icmp .ne 27, 3) := by decide +kernel
theorem dX3_gather_25 : decode cX3_gather 25 = .ok (.aload_n 0, 1) := by decide +kernel
theorem dX3_gather_26 : decode cX3_gather 26 = .ok (.aload_n 0, 1) := by decide +kernel
theorem dX3_gather_27 : decode cX3_gather 27 = .ok (.getfield 46, 3) := by decide +kernel
theorem dX3_gather_30 : decode cX3_gather 30 = .ok (.iload_n 1, 1) := by decide +kernel
theorem dX3_gather_31 : decode cX3_gather 31 = .ok (.invokevirtual 66, 3) := by decide +kernel
theorem dX3_gather_34 : decode cX3_gather 34 = .ok (.aload_n 0, 1) := by decide +kernel
theorem dX3_gather_35 : decode cX3_gather 35 = .ok (.getfield 46, 3) := by decide +kernel
theorem dX3_gather_38 : decode cX3_gather 38 = .ok (.iload_n 1, 1) := by decide +kernel
theorem dX3_gather_39 : decode cX3_gather 39 = .ok (.invokevirtual 69, 3) := by decide +kernel
theorem dX3_gather_42 : decode cX3_gather 42 = .ok (.aload_n 2, 1) := by decide +kernel
theorem dX3_gather_43 : decode cX3_gather 43 = .ok (.invokevirtual 115, 3) := by decide +kernel
