theorem dX13_sort_18 : decode cX13_sort 18 = .ok (.getfield 79, 3) := by decide +kernel
theorem dX13_sort_21 : decode cX13_sort 21 = .ok (.iload_n 2, 1) := by decide +kernel
theorem dX13_sort_22 : decode cX13_sort 22 = .ok (.iconst 1, 1) := by decide +kernel
theorem dX13_sort_23 : decode cX13_sort 23 = .ok (.isub, 1) := by decide +kernel
theorem dX13_sort_24 : decode cX13_sort 24 = .ok (.saload, 1) := by decide +kernel
theorem dX13_sort_25 : decode cX13_sort 25 = .ok (.iload_n 1, 1) := by decide +kernel
theorem dX13_sort_26 : decode cX13_sort 26 = .ok (.invokevirtual 218, 3) := by decide +kernel
theorem dX13_sort_29 : decode cX13_sort 29 = .ok (.ifCond .le 23, 3) := by decide +kernel
theorem dX13_sort_32 : decode cX13_sort 32 = .ok (.aload_n 0, 1) := by decide +kernel
theorem dX13_sort_33 : decode cX13_sort 33 = .ok (.getfield 79, 3) := by decide +kernel
theorem dX13_sort_36 : decode cX13_sort 36 = .ok (.iload_n 2, 1) := by decide +kernel
theorem dX13_sort_37 : decode cX13_sort 37 = .ok (.aload_n 0, 1) := by decide +kernel
theorem dX13_sort_38 : decode cX13_sort 38 = .ok (.getfield 79, 3) := by decide +kernel
theorem dX13_sort_41 : decode cX13_sort 41 = .ok (.iload_n 2, 1) := by decide +kernel
theorem dX13_sort_42 : decode cX13_sort 42 = .ok (.iconst 1, 1) := by decide +kernel
theorem dX13_sort_43 : decode cX13_sort 43 = .ok (.isub, 1) := by decide +kernel
theorem dX13_sort_44 : decode cX13_sort 44 = .ok (.saload, 1) := by decide +kernel
theorem dX13_sort_45 : decode cX13_sort 45 = .ok (.sastore, 1) := by decide +kernel
theorem dX13_sort_46 : decode cX13_sort 46 = .ok (.iinc 2 (-1), 3) := by decide +kernel
theorem dX13_sort_49 : decode cX13_sort 49 = .ok (.goto (-37), 3) := by decide +kernel
theorem dX13_sort_52 : decode cX13_sort 52 = .ok (.aload_n 0, 1) := by decide +kernel
theorem dX13_sort_53 : decode cX13_sort 53 = .ok (.getfield 79, 3) := by decide +kernel
theorem dX13_sort_56 : decode cX13_sort 56 = .ok (.iload_n 2, 1) := by decide +kernel
theorem dX13_sort_57 : decode cX13_sort 57 = .ok (.iload_n 1, 1) := by decide +kernel
theorem dX13_sort_58 : decode cX13_sort 58 = .ok (.i2s, 1) := by decide +kernel
theorem dX13_sort_59 : decode cX13_sort 59 = .ok (.sastore, 1) := by decide +kernel
theorem dX13_sort_60 : decode cX13_sort 60 = .ok (.iinc 1 1, 3) := by decide +kernel
theorem dX13_sort_63 : decode cX13_sort 63 = .ok (.goto (-61), 3) := by decide +kernel
theorem dX13_sort_66 : decode cX13_sort 66 = .ok (.aload_n 0, 1) := by decide +kernel
theorem dX13_sort_67 : decode cX13_sort 67 = .ok (.iconst 1, 1) := by decide +kernel
theorem dX13_sort_68 : decode cX13_sort 68 = .ok (.putfield 249, 3) := by decide +kernel
theorem dX13_sort_71 : decode cX13_sort 71 = .ok (.return_, 1) := by decide +kernel
theorem dX13_letter_0 : decode cX13_letter 0 = .ok (.aload_n 0, 1) := by decide +kernel
theorem dX13_letter_1 : decode cX13_letter 1 = .ok (.iconst 0, 1) := by decide +kernel
theorem dX13_letter_2 : decode cX13_letter 2 = .ok (.putfield 170, 3) := by decide +kernel
theorem dX13_letter_5 : decode cX13_letter 5 = .ok (.iload_n 1, 1) := by decide +kernel
theorem dX13_letter_6 : decode cX13_letter 6 = .ok (.ifCond .lt 15, 3) := by decide +kernel
theorem dX13_letter_9 : decode cX13_letter 9 = .ok (.iload_n 1, 1) := by decide +kernel
theorem dX13_letter_10 : decode cX13_letter 10 = .ok (.aload_n 0, 1) := by decide +kernel
theorem dX13_letter_11 : decode cX13_letter 11 = .ok (.getfield 208, 3) := by decide +kernel
theorem dX13_letter_14 : decode cX13_letter 14 = .ok (.if_icmp .ge 7, 3) := by decide +kernel
theorem dX13_letter_17 : decode cX13_letter 17 = .ok (.iload_n 2, 1) := by decide +kernel
theorem dX13_letter_18 : decode cX13_letter 18 = .ok (.ifCond .ge 8, 3) := by decide +kernel
theorem dX13_letter_21 : decode cX13_letter 21 = .ok (.aload_n 0, 1) := by decide +kernel
theorem dX13_letter_22 : decode cX13_letter 22 = .ok (.invokevirtual 279, 3) := by decide +kernel
theorem dX13_letter_25 : decode cX13_letter 25 = .ok (.ireturn, 1) := by decide +kernel
theorem dX13_letter_26 : decode cX13_letter 26 = .ok (.aload_n 0, 1) := by decide +kernel
theorem dX13_letter_27 : decode cX13_letter 27 = .ok (.getfield 249, 3) := by decide +kernel
theorem dX13_letter_30 : decode cX13_letter 30 = .ok (.ifCond .ne 7, 3) := by decide +kernel
theorem dX13_letter_33 : decode cX13_letter 33 = .ok (.aload_n 0, 1) := by decide +kernel
theorem dX13_letter_34 : decode cX13_letter 34 = .ok (.invokevirtual 331, 3) := by decide +kernel
theorem dX13_letter_37 : decode cX13_letter 37 = .ok (.aload_n 0, 1) := by decide +kernel
theorem dX13_letter_38 : decode cX13_letter 38 = .ok (.getfield 79, 3) := by decide +kernel
theorem dX13_letter_41 : decode cX13_letter 41 = .ok (.iload_n 1, 1) := by decide +kernel
theorem dX13_letter_42 : decode cX13_letter 42 = .ok (.saload, 1) := by decide +kernel
theorem dX13_letter_43 : decode cX13_letter 43 = .ok (.istore_n 3, 1) := by decide +kernel
theorem dX13_letter_44 : decode cX13_letter 44 = .ok (.iload_n 2, 1) := by decide +kernel
theorem dX13_letter_45 : decode cX13_letter 45 = .ok (.aload_n 0, 1) := by decide +kernel
theorem dX13_letter_46 : decode cX13_letter 46 = .ok (.getfield 16, 3) := by decide +kernel
theorem dX13_letter_49 : decode cX13_letter 49 = .ok (.iload_n 3, 1) := by decide +kernel
theorem dX13_letter_50 : decode cX13_letter 50 = .ok (.iaload, 1) := by decide +kernel
theorem dX13_letter_51 : decode cX13_letter 51 = .ok (.if_icmp .ge 17, 3) := by decide +kernel
theorem dX13_letter_54 : decode cX13_letter 54 = .ok (.aload_n 0, 1) := by decide +kernel
theorem dX13_letter_55 : decode cX13_letter 55 = .ok (.getfield 13, 3) := by decide +kernel
theorem dX13_letter_58 : decode cX13_letter 58 = .ok (.bipush 12, 2) := by decide +kernel
theorem dX13_letter_60 : decode cX13_letter 60 = .ok (.iload_n 3, 1) := by decide +kernel
theorem dX13_letter_61 : decode cX13_letter 61 = .ok (.imul, 1) := by decide +kernel
theorem dX13_letter_62 : decode cX13_letter 62 = .ok (.iload_n 2, 1) := by decide +kernel
theorem dX13_letter_63 : decode cX13_letter 63 = .ok (.iadd, 1) := by decide +kernel
theorem dX13_letter_64 : decode cX13_letter 64 = .ok (.baload, 1) := by decide +kernel
theorem dX13_letter_65 : decode cX13_letter 65 = .ok (.goto 4, 3) := by decide +kernel
theorem dX13_letter_68 : decode cX13_letter 68 = .ok (.iconst 0, 1) := by decide +kernel
theorem dX13_letter_69 : decode cX13_letter 69 = .ok (.ireturn, 1) := by decide +kernel
theorem dX13_wrong_0 : decode cX13_wrong 0 = .ok (.aload_n 0, 1) := by decide +kernel
theorem dX13_wrong_1 : decode cX13_wrong 1 = .ok (.iload_n 1, 1) := by decide +kernel
theorem dX13_wrong_2 : decode cX13_wrong 2 = .ok (.putfield 334, 3) := by decide +kernel
theorem dX13_wrong_5 : decode cX13_wrong 5 = .ok (.aload_n 0, 1) := by decide +kernel
theorem dX13_wrong_6 : decode cX13_wrong 6 = .ok (.iload_n 2, 1) := by decide +kernel
theorem dX13_wrong_7 : decode cX13_wrong 7 = .ok (.putfield 337, 3) := by decide +kernel
theorem dX13_wrong_10 : decode cX13_wrong 10 = .ok (.aload_n 0, 1) := by decide +kernel
theorem dX13_wrong_11 : decode cX13_wrong 11 = .ok (.getfield 85, 3) := by decide +kernel
theorem dX13_wrong_14 : decode cX13_wrong 14 = .ok (.areturn, 1) := by decide +kernel
theorem dX13_byteAt_0 : decode cX13_byteAt 0 = .ok (.iload_n 1, 1) := by decide +kernel
theorem dX13_byteAt_1 : decode cX13_byteAt 1 = .ok (.aload_n 0, 1) := by decide +kernel
theorem dX13_byteAt_2 : decode cX13_byteAt 2 = .ok (.getfield 340, 3) := by decide +kernel
theorem dX13_byteAt_5 : decode cX13_byteAt 5 = .ok (.if_icmp .ge 12, 3) := by decide +kernel
theorem dX13_byteAt_8 : decode cX13_byteAt 8 = .ok (.aload_n 0, 1) := by decide +kernel
theorem dX13_byteAt_9 : decode cX13_byteAt 9 = .ok (.getfield 9, 3) := by decide +kernel
theorem dX13_byteAt_12 : decode cX13_byteAt 12 = .ok (.iload_n 1, 1) := by decide +kernel
theorem dX13_byteAt_13 : decode cX13_byteAt 13 = .ok (.baload, 1) := by decide +kernel
theorem dX13_byteAt_14 : decode cX13_byteAt 14 = .ok (.goto 4, 3) := by decide +kernel
theorem dX13_byteAt_17 : decode cX13_byteAt 17 = .ok (.iconst 0, 1) := by decide +kernel
theorem dX13_byteAt_18 : decode cX13_byteAt 18 = .ok (.ireturn, 1) := by decide +kernel
theorem dX13_isBlank_0 : decode cX13_isBlank 0 = .ok (.iload_n 1, 1) := by decide +kernel
theorem dX13_isBlank_1 : decode cX13_isBlank 1 = .ok (.bipush 32, 2) := by decide +kernel
theorem dX13_isBlank_3 : decode cX13_isBlank 3 = .ok (.if_icmp .eq 9, 3) := by decide +kernel
theorem dX13_isBlank_6 : decode cX13_isBlank 6 = .ok (.iload_n 1, 1) := by decide +kernel
theorem dX13_isBlank_7 : decode cX13_isBlank 7 = .ok (.bipush 10, 2) := by decide +kernel
theorem dX13_isBlank_9 : decode cX13_isBlank 9 = .ok (.if_icmp .ne 7, 3) := by decide +kernel
theorem dX13_isBlank_12 : decode cX13_isBlank 12 = .ok (.iconst 1, 1) := by decide +kernel
theorem dX13_isBlank_13 : decode cX13_isBlank 13 = .ok (.goto 4, 3) := by decide +kernel
theorem dX13_isBlank_16 : decode cX13_isBlank 16 = .ok (.iconst 0, 1) := by decide +kernel
theorem dX13_isBlank_17 : decode cX13_isBlank 17 = .ok (.ireturn, 1) := by decide +kernel
theorem dX13_look1_0 : decode cX13_look1 0 = .ok (.aload_n 0, 1) := by decide +kernel
theorem dX13_look1_1 : decode cX13_look1 1 = .ok (.getfield 343, 3) := by decide +kernel
theorem dX13_look1_4 : decode cX13_look1 4 = .ok (.aload_n 0, 1) := by decide +kernel
theorem dX13_look1_5 : decode cX13_look1 5 = .ok (.getfield 340, 3) := by decide +kernel
theorem dX13_look1_8 : decode cX13_look1 8 = .ok (.if_icmp .ge 32, 3) := by decide +kernel
theorem dX13_look1_11 : decode cX13_look1 11 = .ok (.aload_n 0, 1) := by decide +kernel
theorem dX13_look1_12 : decode cX13_look1 12 = .ok (.aload_n 0, 1) := by decide +kernel
theorem dX13_look1_13 : decode cX13_look1 13 = .ok (.getfield 9, 3) := by decide +kernel
theorem dX13_look1_16 : decode cX13_look1 16 = .ok (.aload_n 0, 1) := by decide +kernel
theorem dX13_look1_17 : decode cX13_look1 17 = .ok (.getfield 343, 3) := by decide +kernel
theorem dX13_look1_20 : decode cX13_look1 20 = .ok (.baload, 1) := by decide +kernel
theorem dX13_look1_21 : decode cX13_look1 21 = .ok (.invokevirtual 346, 3) := by decide +kernel
theorem dX13_look1_24 : decode cX13_look1 24 = .ok (.ifCond .eq 16, 3) := by decide +kernel
theorem dX13_look1_27 : decode cX13_look1 27 = .ok (.aload_n 0, 1) := by decide +kernel
theorem dX13_look1_28 : decode cX13_look1 28 = .ok (.dup, 1) := by decide +kernel
theorem dX13_look1_29 : decode cX13_look1 29 = .ok (.getfield 343, 3) := by decide +kernel
theorem dX13_look1_32 : decode cX13_look1 32 = .ok (.iconst 1, 1) := by decide +kernel
theorem dX13_look1_33 : decode cX13_look1 33 = .ok (.iadd, 1) := by decide +kernel
theorem dX13_look1_34 : decode cX13_look1 34 = .ok (.putfield 343, 3) := by decide +kernel
theorem dX13_look1_37 : decode cX13_look1 37 = .ok (.goto (-37), 3) := by decide +kernel
theorem dX13_look1_40 : decode cX13_look1 40 = .ok (.aload_n 0, 1) := by decide +kernel
theorem dX13_look1_41 : decode cX13_look1 41 = .ok (.aload_n 0, 1) := by decide +kernel
theorem dX13_look1_42 : decode cX13_look1 42 = .ok (.getfield 343, 3) := by decide +kernel
theorem dX13_look1_45 : decode cX13_look1 45 = .ok (.putfield 349, 3) := by decide +kernel
theorem dX13_look1_48 : decode cX13_look1 48 = .ok (.aload_n 0, 1) := by decide +kernel
theorem dX13_look1_49 : decode cX13_look1 49 = .ok (.getfield 349, 3) := by decide +kernel
theorem dX13_look1_52 : decode cX13_look1 52 = .ok (.aload_n 0, 1) := by decide +kernel
theorem dX13_look1_53 : decode cX13_look1 53 = .ok (.getfield 340, 3) := by decide +kernel
theorem dX13_look1_56 : decode cX13_look1 56 = .ok (.if_icmp .ne 11, 3) := by decide +kernel
theorem dX13_look1_59 : decode cX13_look1 59 = .ok (.aload_n 0, 1) := by decide +kernel
theorem dX13_look1_60 : decode cX13_look1 60 = .ok (.iconst 0, 1) := by decide +kernel
theorem dX13_look1_61 : decode cX13_look1 61 = .ok (.putfield 352, 3) := by decide +kernel
theorem dX13_look1_64 : decode cX13_look1 64 = .ok (.goto 104, 3) := by decide +kernel
theorem dX13_look1_67 : decode cX13_look1 67 = .ok (.aload_n 0, 1) := by decide +kernel
theorem dX13_look1_68 : decode cX13_look1 68 = .ok (.getfield 9, 3) := by decide +kernel
theorem dX13_look1_71 : decode cX13_look1 71 = .ok (.aload_n 0, 1) := by decide +kernel
theorem dX13_look1_72 : decode cX13_look1 72 = .ok (.getfield 349, 3) := by decide +kernel
theorem dX13_look1_75 : decode cX13_look1 75 = .ok (.baload, 1) := by decide +kernel
theorem dX13_look1_76 : decode cX13_look1 76 = .ok (.invokestatic 190, 3) := by decide +kernel
theorem dX13_look1_79 : decode cX13_look1 79 = .ok (.ifCond .eq 27, 3) := by decide +kernel
theorem dX13_look1_82 : decode cX13_look1 82 = .ok (.aload_n 0, 1) := by decide +kernel
theorem dX13_look1_83 : decode cX13_look1 83 = .ok (.iconst 1, 1) := by decide +kernel
theorem dX13_look1_84 : decode cX13_look1 84 = .ok (.putfield 352, 3) := by decide +kernel
theorem dX13_look1_87 : decode cX13_look1 87 = .ok (.aload_n 0, 1) := by decide +kernel
theorem dX13_look1_88 : decode cX13_look1 88 = .ok (.aload_n 0, 1) := by decide +kernel
theorem dX13_look1_89 : decode cX13_look1 89 = .ok (.aload_n 0, 1) := by decide +kernel
theorem dX13_look1_90 : decode cX13_look1 90 = .ok (.getfield 349, 3) := by decide +kernel
theorem dX13_look1_93 : decode cX13_look1 93 = .ok (.aload_n 0, 1) := by decide +kernel
theorem dX13_look1_94 : decode cX13_look1 94 = .ok (.getfield 340, 3) := by decide +kernel
theorem dX13_look1_97 : decode cX13_look1 97 = .ok (.invokevirtual 225, 3) := by decide +kernel
theorem dX13_look1_100 : decode cX13_look1 100 = .ok (.putfield 343, 3) := by decide +kernel
theorem dX13_look1_103 : decode cX13_look1 103 = .ok (.goto 65, 3) := by decide +kernel
theorem dX13_look1_106 : decode cX13_look1 106 = .ok (.aload_n 0, 1) := by decide +kernel
theorem dX13_look1_107 : decode cX13_look1 107 = .ok (.getfield 9, 3) := by decide +kernel
theorem dX13_look1_110 : decode cX13_look1 110 = .ok (.aload_n 0, 1) := by decide +kernel
theorem dX13_look1_111 : decode cX13_look1 111 = .ok (.getfield 349, 3) := by decide +kernel
theorem dX13_look1_114 : decode cX13_look1 114 = .ok (.baload, 1) := by decide +kernel
theorem dX13_look1_115 : decode cX13_look1 115 = .ok (.bipush 46, 2) := by decide +kernel
theorem dX13_look1_117 : decode cX13_look1 117 = .ok (.if_icmp .ne 36, 3) := by decide +kernel
theorem dX13_look1_120 : decode cX13_look1 120 = .ok (.aload_n 0, 1) := by decide +kernel
theorem dX13_look1_121 : decode cX13_look1 121 = .ok (.aload_n 0, 1) := by decide +kernel
theorem dX13_look1_122 : decode cX13_look1 122 = .ok (.getfield 349, 3) := by decide +kernel
theorem dX13_look1_125 : decode cX13_look1 125 = .ok (.iconst 1, 1) := by decide +kernel
theorem dX13_look1_126 : decode cX13_look1 126 = .ok (.iadd, 1) := by decide +kernel
theorem dX13_look1_127 : decode cX13_look1 127 = .ok (.invokevirtual 355, 3) := by decide +kernel
theorem dX13_look1_130 : decode cX13_look1 130 = .ok (.bipush 46, 2) := by decide +kernel
theorem dX13_look1_132 : decode cX13_look1 132 = .ok (.if_icmp .ne 21, 3) := by decide +kernel
theorem dX13_look1_135 : decode cX13_look1 135 = .ok (.aload_n 0, 1) := by decide +kernel
theorem dX13_look1_136 : decode cX13_look1 136 = .ok (.iconst 3, 1) := by decide +kernel
theorem dX13_look1_137 : decode cX13_look1 137 = .ok (.putfield 352, 3) := by decide +kernel
theorem dX13_look1_140 : decode cX13_look1 140 = .ok (.aload_n 0, 1) := by decide +kernel
theorem dX13_look1_141 : decode cX13_look1 141 = .ok (.aload_n 0, 1) := by decide +kernel
theorem dX13_look1_142 : decode cX13_look1 142 = .ok (.getfield 349, 3) := by decide +kernel
theorem dX13_look1_145 : decode cX13_look1 145 = .ok (.iconst 2, 1) := by decide +kernel
theorem dX13_look1_146 : decode cX13_look1 146 = .ok (.iadd, 1) := by decide +kernel
theorem dX13_look1_147 : decode cX13_look1 147 = .ok (.putfield 343, 3) := by decide +kernel
theorem dX13_look1_150 : decode cX13_look1 150 = .ok (.goto 18, 3) := by decide +kernel
theorem dX13_look1_153 : decode cX13_look1 153 = .ok (.aload_n 0, 1) := by decide +kernel
theorem dX13_look1_154 : decode cX13_look1 154 = .ok (.iconst 2, 1) := by decide +kernel
theorem dX13_look1_155 : decode cX13_look1 155 = .ok (.putfield 352, 3) := by decide +kernel
theorem dX13_look1_158 : decode cX13_look1 158 = .ok (.aload_n 0, 1) := by decide +kernel
theorem dX13_look1_159 : decode cX13_look1 159 = .ok (.aload_n 0, 1) := by decide +kernel
theorem dX13_look1_160 : decode cX13_look1 160 = .ok (.getfield 349, 3) := by decide +kernel
theorem dX13_look1_163 : decode cX13_look1 163 = .ok (.iconst 1, 1) := by decide +kernel
theorem dX13_look1_164 : decode cX13_look1 164 = .ok (.iadd, 1) := by decide +kernel
theorem dX13_look1_165 : decode cX13_look1 165 = .ok (.putfield 343, 3) := by decide +kernel
theorem dX13_look1_168 : decode cX13_look1 168 = .ok (.return_, 1) := by decide +kernel
theorem dX13_isSign_0 : decode cX13_isSign 0 = .ok (.aload_n 0, 1) := by decide +kernel
theorem dX13_isSign_1 : decode cX13_isSign 1 = .ok (.getfield 352, 3) := by decide +kernel
theorem dX13_isSign_4 : decode cX13_isSign 4 = .ok (.iconst 2, 1) := by decide +kernel
theorem dX13_isSign_5 : decode cX13_isSign 5 = .ok (.if_icmp .ne 20, 3) := by decide +kernel
theorem dX13_isSign_8 : decode cX13_isSign 8 = .ok (.aload_n 0, 1) := by decide +kernel
theorem dX13_isSign_9 : decode cX13_isSign 9 = .ok (.getfield 9, 3) := by decide +kernel
theorem dX13_isSign_12 : decode cX13_isSign 12 = .ok (.aload_n 0, 1) := by decide +kernel
theorem dX13_isSign_13 : decode cX13_isSign 13 = .ok (.getfield 349, 3) := by decide +kernel
theorem dX13_isSign_16 : decode cX13_isSign 16 = .ok (.baload, 1) := by decide +kernel
theorem dX13_isSign_17 : decode cX13_isSign 17 = .ok (.iload_n 1, 1) := by decide +kernel
theorem dX13_isSign_18 : decode cX13_isSign 18 = .ok (.if_icmp .ne 7, 3) := by decide +kernel
theorem dX13_isSign_21 : decode cX13_isSign 21 = .ok (.iconst 1, 1) := by decide +kernel
theorem dX13_isSign_22 : decode cX13_isSign 22 = .ok (.goto 4, 3) := by decide +kernel
theorem dX13_isSign_25 : decode cX13_isSign 25 = .ok (.iconst 0, 1) := by decide +kernel
theorem dX13_isSign_26 : decode cX13_isSign 26 = .ok (.ireturn, 1) := by decide +kernel
theorem dX13_isRun_0 : decode cX13_isRun 0 = .ok (.aload_n 0, 1) := by decide +kernel
theorem dX13_isRun_1 : decode cX13_isRun 1 = .ok (.getfield 352, 3) := by decide +kernel
theorem dX13_isRun_4 : decode cX13_isRun 4 = .ok (.iconst 1, 1) := by decide +kernel
theorem dX13_isRun_5 : decode cX13_isRun 5 = .ok (.if_icmp .eq 5, 3) := by decide +kernel
theorem dX13_isRun_8 : decode cX13_isRun 8 = .ok (.iconst 0, 1) := by decide +kernel
theorem dX13_isRun_9 : decode cX13_isRun 9 = .ok (.ireturn, 1) := by decide +kernel
theorem dX13_isRun_10 : decode cX13_isRun 10 = .ok (.iload 5, 2) := by decide +kernel
theorem dX13_isRun_12 : decode cX13_isRun 12 = .ok (.ifCond .eq 7, 3) := by decide +kernel
theorem dX13_isRun_15 : decode cX13_isRun 15 = .ok (.iconst 5, 1) := by decide +kernel
theorem dX13_isRun_16 : decode cX13_isRun 16 = .ok (.goto 21, 3) := by decide +kernel
theorem dX13_isRun_19 : decode cX13_isRun 19 = .ok (.iload 4, 2) := by decide +kernel
theorem dX13_isRun_21 : decode cX13_isRun 21 = .ok (.ifCond .eq 7, 3) := by decide +kernel
theorem dX13_isRun_24 : decode cX13_isRun 24 = .ok (.iconst 4, 1) := by decide +kernel
theorem dX13_isRun_25 : decode cX13_isRun 25 = .ok (.goto 12, 3) := by decide +kernel
theorem dX13_isRun_28 : decode cX13_isRun 28 = .ok (.iload_n 3, 1) := by decide +kernel
theorem dX13_isRun_29 : decode cX13_isRun 29 = .ok (.ifCond .eq 7, 3) := by decide +kernel
theorem dX13_isRun_32 : decode cX13_isRun 32 = .ok (.iconst 3, 1) := by decide +kernel
theorem dX13_isRun_33 : decode cX13_isRun 33 = .ok (.goto 4, 3) := by decide +kernel
theorem dX13_isRun_36 : decode cX13_isRun 36 = .ok (.iconst 2, 1) := by decide +kernel
theorem dX13_isRun_37 : decode cX13_isRun 37 = .ok (.istore 6, 2) := by decide +kernel
theorem dX13_isRun_39 : decode cX13_isRun 39 = .ok (.aload_n 0, 1) := by decide +kernel
theorem dX13_isRun_40 : decode cX13_isRun 40 = .ok (.getfield 343, 3) := by decide +kernel
theorem dX13_isRun_43 : decode cX13_isRun 43 = .ok (.aload_n 0, 1) := by decide +kernel
theorem dX13_isRun_44 : decode cX13_isRun 44 = .ok (.getfield 349, 3) := by decide +kernel
theorem dX13_isRun_47 : decode cX13_isRun 47 = .ok (.isub, 1) := by decide +kernel
theorem dX13_isRun_48 : decode cX13_isRun 48 = .ok (.iload 6, 2) := by decide +kernel
theorem dX13_isRun_50 : decode cX13_isRun 50 = .ok (.if_icmp .ne 37, 3) := by decide +kernel
theorem dX13_isRun_53 : decode cX13_isRun 53 = .ok (.aload_n 0, 1) := by decide +kernel
theorem dX13_isRun_54 : decode cX13_isRun 54 = .ok (.getfield 9, 3) := by decide +kernel
theorem dX13_isRun_57 : decode cX13_isRun 57 = .ok (.aload_n 0, 1) := by decide +kernel
theorem dX13_isRun_58 : decode cX13_isRun 58 = .ok (.getfield 349, 3) := by decide +kernel
theorem dX13_isRun_61 : decode cX13_isRun 61 = .ok (.baload, 1) := by decide +kernel
theorem dX13_isRun_62 : decode cX13_isRun 62 = .ok (.invokestatic 196, 3) := by decide +kernel
theorem dX13_isRun_65 : decode cX13_isRun 65 = .ok (.iload_n 1, 1) := by decide +kernel
theorem dX13_isRun_66 : decode cX13_isRun 66 = .ok (.if_icmp .ne 21, 3) := by decide +kernel
theorem dX13_isRun_69 : decode cX13_isRun 69 = .ok (.aload_n 0, 1) := by decide +kernel
theorem dX13_isRun_70 : decode cX13_isRun 70 = .ok (.getfield 9, 3) := by decide +kernel
theorem dX13_isRun_73 : decode cX13_isRun 73 = .ok (.aload_n 0, 1) := by decide +kernel
theorem dX13_isRun_74 : decode cX13_isRun 74 = .ok (.getfield 349, 3) := by decide +kernel
theorem dX13_isRun_77 : decode cX13_isRun 77 = .ok (.iconst 1, 1) := by decide +kernel
theorem dX13_isRun_78 : decode cX13_isRun 78 = .ok (.iadd, 1) := by decide +kernel
theorem dX13_isRun_79 : decode cX13_isRun 79 = .ok (.baload, 1) := by decide +kernel
theorem dX13_isRun_80 : decode cX13_isRun 80 = .ok (.invokestatic 196, 3) := by decide +kernel
theorem dX13_isRun_83 : decode cX13_isRun 83 = .ok (.iload_n 2, 1) := by decide +kernel
theorem dX13_isRun_84 : decode cX13_isRun 84 = .ok (.if_icmp .eq 5, 3) := by decide +kernel
theorem dX13_isRun_87 : decode cX13_isRun 87 = .ok (.iconst 0, 1) := by decide +kernel
theorem dX13_isRun_88 : decode cX13_isRun 88 = .ok (.ireturn, 1) := by decide +kernel
theorem dX13_isRun_89 : decode cX13_isRun 89 = .ok (.iload 6, 2) := by decide +kernel
theorem dX13_isRun_91 : decode cX13_isRun 91 = .ok (.iconst 3, 1) := by decide +kernel
theorem dX13_isRun_92 : decode cX13_isRun 92 = .ok (.if_icmp .lt 21, 3) := by decide +kernel
theorem dX13_isRun_95 : decode cX13_isRun 95 = .ok (.aload_n 0, 1) := by decide +kernel
theorem dX13_isRun_96 : decode cX13_isRun 96 = .ok (.getfield 9, 3) := by decide +kernel
theorem dX13_isRun_99 : decode cX13_isRun 99 = .ok (.aload_n 0, 1) := by decide +kernel
theorem dX13_isRun_100 : decode cX13_isRun 100 = .ok (.getfield 349, 3) := by decide +kernel
theorem dX13_isRun_103 : decode cX13_isRun 103 = .ok (.iconst 2, 1) := by decide +kernel
theorem dX13_isRun_104 : decode cX13_isRun 104 = .ok (.iadd, 1) := by decide +kernel
theorem dX13_isRun_105 : decode cX13_isRun 105 = .ok (.baload, 1) := by decide +kernel
theorem dX13_isRun_106 : decode cX13_isRun 106 = .ok (.invokestatic 196, 3) := by decide +kernel
theorem dX13_isRun_109 : decode cX13_isRun 109 = .ok (.iload_n 3, 1) := by decide +kernel
theorem dX13_isRun_110 : decode cX13_isRun 110 = .ok (.if_icmp .ne 57, 3) := by decide +kernel
theorem dX13_isRun_113 : decode cX13_isRun 113 = .ok (.iload 6, 2) := by decide +kernel
theorem dX13_isRun_115 : decode cX13_isRun 115 = .ok (.iconst 4, 1) := by decide +kernel
theorem dX13_isRun_116 : decode cX13_isRun 116 = .ok (.if_icmp .lt 22, 3) := by decide +kernel
theorem dX13_isRun_119 : decode cX13_isRun 119 = .ok (.aload_n 0, 1) := by decide +kernel
theorem dX13_isRun_120 : decode cX13_isRun 120 = .ok (.getfield 9, 3) := by decide +kernel
theorem dX13_isRun_123 : decode cX13_isRun 123 = .ok (.aload_n 0, 1) := by decide +kernel
theorem dX13_isRun_124 : decode cX13_isRun 124 = .ok (.getfield 349, 3) := by decide +kernel
theorem dX13_isRun_127 : decode cX13_isRun 127 = .ok (.iconst 3, 1) := by decide +kernel
theorem dX13_isRun_128 : decode cX13_isRun 128 = .ok (.iadd, 1) := by decide +kernel
theorem dX13_isRun_129 : decode cX13_isRun 129 = .ok (.baload, 1) := by decide +kernel
theorem dX13_isRun_130 : decode cX13_isRun 130 = .ok (.invokestatic 196, 3) := by decide +kernel
theorem dX13_isRun_133 : decode cX13_isRun 133 = .ok (.iload 4, 2) := by decide +kernel
theorem dX13_isRun_135 : decode cX13_isRun 135 = .ok (.if_icmp .ne 32, 3) := by decide +kernel
theorem dX13_isRun_138 : decode cX13_isRun 138 = .ok (.iload 6, 2) := by decide +kernel
theorem dX13_isRun_140 : decode cX13_isRun 140 = .ok (.iconst 5, 1) := by decide +kernel
theorem dX13_isRun_141 : decode cX13_isRun 141 = .ok (.if_icmp .lt 22, 3) := by decide +kernel
theorem dX13_isRun_144 : decode cX13_isRun 144 = .ok (.aload_n 0, 1) := by decide +kernel
theorem dX13_isRun_145 : decode cX13_isRun 145 = .ok (.getfield 9, 3) := by decide +kernel
theorem dX13_isRun_148 : decode cX13_isRun 148 = .ok (.aload_n 0, 1) := by decide +kernel
theorem dX13_isRun_149 : decode cX13_isRun 149 = .ok (.getfield 349, 3) := by decide +kernel
theorem dX13_isRun_152 : decode cX13_isRun 152 = .ok (.iconst 4, 1) := by decide +kernel
theorem dX13_isRun_153 : decode cX13_isRun 153 = .ok (.iadd, 1) := by decide +kernel
theorem dX13_isRun_154 : decode cX13_isRun 154 = .ok (.baload, 1) := by decide +kernel
theorem dX13_isRun_155 : decode cX13_isRun 155 = .ok (.invokestatic 196, 3) := by decide +kernel
theorem dX13_isRun_158 : decode cX13_isRun 158 = .ok (.iload 5, 2) := by decide +kernel
theorem dX13_isRun_160 : decode cX13_isRun 160 = .ok (.if_icmp .ne 7, 3) := by decide +kernel
theorem dX13_isRun_163 : decode cX13_isRun 163 = .ok (.iconst 1, 1) := by decide +kernel
theorem dX13_isRun_164 : decode cX13_isRun 164 = .ok (.goto 4, 3) := by decide +kernel
theorem dX13_isRun_167 : decode cX13_isRun 167 = .ok (.iconst 0, 1) := by decide +kernel
theorem dX13_isRun_168 : decode cX13_isRun 168 = .ok (.ireturn, 1) := by decide +kernel
theorem dX13_isOr_0 : decode cX13_isOr 0 = .ok (.aload_n 0, 1) := by decide +kernel
theorem dX13_isOr_1 : decode cX13_isOr 1 = .ok (.bipush 111, 2) := by decide +kernel
theorem dX13_isOr_3 : decode cX13_isOr 3 = .ok (.bipush 114, 2) := by decide +kernel
theorem dX13_isOr_5 : decode cX13_isOr 5 = .ok (.iconst 0, 1) := by decide +kernel
theorem dX13_isOr_6 : decode cX13_isOr 6 = .ok (.iconst 0, 1) := by decide +kernel
theorem dX13_isOr_7 : decode cX13_isOr 7 = .ok (.iconst 0, 1) := by decide +kernel
theorem dX13_isOr_8 : decode cX13_isOr 8 = .ok (.invokevirtual 358, 3) := by decide +kernel
theorem dX13_isOr_11 : decode cX13_isOr 11 = .ok (.ireturn, 1) := by decide +kernel
theorem dX13_isAnd_0 : decode cX13_isAnd 0 = .ok (.aload_n 0, 1) := by decide +kernel
theorem dX13_isAnd_1 : decode cX13_isAnd 1 = .ok (.bipush 97, 2) := by decide +kernel
theorem dX13_isAnd_3 : decode cX13_isAnd 3 = .ok (.bipush 110, 2) := by decide +kernel
theorem dX13_isAnd_5 : decode cX13_isAnd 5 = .ok (.bipush 100, 2) := by decide +kernel
theorem dX13_isAnd_7 : decode cX13_isAnd 7 = .ok (.iconst 0, 1) := by decide +kernel
theorem dX13_isAnd_8 : decode cX13_isAnd 8 = .ok (.iconst 0, 1) := by decide +kernel
theorem dX13_isAnd_9 : decode cX13_isAnd 9 = .ok (.invokevirtual 358, 3) := by decide +kernel
theorem dX13_isAnd_12 : decode cX13_isAnd 12 = .ok (.ireturn, 1) := by decide +kernel
theorem dX13_isNot_0 : decode cX13_isNot 0 = .ok (.aload_n 0, 1) := by decide +kernel
theorem dX13_isNot_1 : decode cX13_isNot 1 = .ok (.bipush 110, 2) := by decide +kernel
theorem dX13_isNot_3 : decode cX13_isNot 3 = .ok (.bipush 111, 2) := by decide +kernel
theorem dX13_isNot_5 : decode cX13_isNot 5 = .ok (.bipush 116, 2) := by decide +kernel
theorem dX13_isNot_7 : decode cX13_isNot 7 = .ok (.iconst 0, 1) := by decide +kernel
theorem dX13_isNot_8 : decode cX13_isNot 8 = .ok (.iconst 0, 1) := by decide +kernel
theorem dX13_isNot_9 : decode cX13_isNot 9 = .ok (.invokevirtual 358, 3) := by decide +kernel
theorem dX13_isNot_12 : decode cX13_isNot 12 = .ok (.ireturn, 1) := by decide +kernel
theorem dX13_isNear_0 : decode cX13_isNear 0 = .ok (.aload_n 0, 1) := by decide +kernel
theorem dX13_isNear_1 : decode cX13_isNear 1 = .ok (.bipush 110, 2) := by decide +kernel
theorem dX13_isNear_3 : decode cX13_isNear 3 = .ok (.bipush 101, 2) := by decide +kernel
theorem dX13_isNear_5 : decode cX13_isNear 5 = .ok (.bipush 97, 2) := by decide +kernel
theorem dX13_isNear_7 : decode cX13_isNear 7 = .ok (.bipush 114, 2) := by decide +kernel
theorem dX13_isNear_9 : decode cX13_isNear 9 = .ok (.iconst 0, 1) := by decide +kernel
theorem dX13_isNear_10 : decode cX13_isNear 10 = .ok (.invokevirtual 358, 3) := by decide +kernel
theorem dX13_isNear_13 : decode cX13_isNear 13 = .ok (.ireturn, 1) := by decide +kernel
theorem dX13_isField_0 : decode cX13_isField 0 = .ok (.aload_n 0, 1) := by decide +kernel
theorem dX13_isField_1 : decode cX13_isField 1 = .ok (.bipush 116, 2) := by decide +kernel
theorem dX13_isField_3 : decode cX13_isField 3 = .ok (.bipush 105, 2) := by decide +kernel
theorem dX13_isField_5 : decode cX13_isField 5 = .ok (.bipush 116, 2) := by decide +kernel
theorem dX13_isField_7 : decode cX13_isField 7 = .ok (.bipush 108, 2) := by decide +kernel
theorem dX13_isField_9 : decode cX13_isField 9 = .ok (.bipush 101, 2) := by decide +kernel
theorem dX13_isField_11 : decode cX13_isField 11 = .ok (.invokevirtual 358, 3) := by decide +kernel
theorem dX13_isField_14 : decode cX13_isField 14 = .ok (.ifCond .ne 21, 3) := by decide +kernel
theorem dX13_isField_17 : decode cX13_isField 17 = .ok (.aload_n 0, 1) := by decide +kernel
theorem dX13_isField_18 : decode cX13_isField 18 = .ok (.bipush 98, 2) := by decide +kernel
theorem dX13_isField_20 : decode cX13_isField 20 = .ok (.bipush 111, 2) := by decide +kernel
theorem dX13_isField_22 : decode cX13_isField 22 = .ok (.bipush 100, 2) := by decide +kernel
theorem dX13_isField_24 : decode cX13_isField 24 = .ok (.bipush 121, 2) := by decide +kernel
theorem dX13_isField_26 : decode cX13_isField 26 = .ok (.iconst 0, 1) := by decide +kernel
theorem dX13_isField_27 : decode cX13_isField 27 = .ok (.invokevirtual 358, 3) := by decide +kernel
theorem dX13_isField_30 : decode cX13_isField 30 = .ok (.ifCond .ne 5, 3) := by decide +kernel
theorem dX13_isField_33 : decode cX13_isField 33 = .ok (.iconst 0, 1) := by decide +kernel
theorem dX13_isField_34 : decode cX13_isField 34 = .ok (.ireturn, 1) := by decide +kernel
theorem dX13_isField_35 : decode cX13_isField 35 = .ok (.aload_n 0, 1) := by decide +kernel
theorem dX13_isField_36 : decode cX13_isField 36 = .ok (.getfield 343, 3) := by decide +kernel
theorem dX13_isField_39 : decode cX13_isField 39 = .ok (.istore_n 1, 1) := by decide +kernel
theorem dX13_isField_40 : decode cX13_isField 40 = .ok (.iload_n 1, 1) := by decide +kernel
theorem dX13_isField_41 : decode cX13_isField 41 = .ok (.aload_n 0, 1) := by decide +kernel
theorem dX13_isField_42 : decode cX13_isField 42 = .ok (.getfield 340, 3) := by decide +kernel
theorem dX13_isField_45 : decode cX13_isField 45 = .ok (.if_icmp .ge 22, 3) := by decide +kernel
theorem dX13_isField_48 : decode cX13_isField 48 = .ok (.aload_n 0, 1) := by decide +kernel
theorem dX13_isField_49 : decode cX13_isField 49 = .ok (.aload_n 0, 1) := by decide +kernel
theorem dX13_isField_50 : decode cX13_isField 50 = .ok (.getfield 9, 3) := by decide +kernel
theorem dX13_isField_53 : decode cX13_isField 53 = .ok (.iload_n 1, 1) := by decide +kernel
theorem dX13_isField_54 : decode cX13_isField 54 = .ok (.baload, 1) := by decide +kernel
theorem dX13_isField_55 : decode cX13_isField 55 = .ok (.invokevirtual 346, 3) := by decide +kernel
theorem dX13_isField_58 : decode cX13_isField 58 = .ok (.ifCond .eq 9, 3) := by decide +kernel
theorem dX13_isField_61 : decode cX13_isField 61 = .ok (.iinc 1 1, 3) := by decide +kernel
theorem dX13_isField_64 : decode cX13_isField 64 = .ok (.goto (-24), 3) := by decide +kernel
theorem dX13_isField_67 : decode cX13_isField 67 = .ok (.aload_n 0, 1) := by decide +kernel
theorem dX13_isField_68 : decode cX13_isField 68 = .ok (.iload_n 1, 1) := by decide +kernel
theorem dX13_isField_69 : decode cX13_isField 69 = .ok (.invokevirtual 355, 3) := by decide +kernel
theorem dX13_isField_72 : decode cX13_isField 72 = .ok (.bipush 58, 2) := by decide +kernel
theorem dX13_isField_74 : decode cX13_isField 74 = .ok (.if_icmp .ne 7, 3) := by decide +kernel
theorem dX13_isField_77 : decode cX13_isField 77 = .ok (.iconst 1, 1) := by decide +kernel
theorem dX13_isField_78 : decode cX13_isField 78 = .ok (.goto 4, 3) := by decide +kernel
theorem dX13_isField_81 : decode cX13_isField 81 = .ok (.iconst 0, 1) := by decide +kernel
theorem dX13_isField_82 : decode cX13_isField 82 = .ok (.ireturn, 1) := by decide +kernel
theorem dX13_begins_0 : decode cX13_begins 0 = .ok (.aload_n 0, 1) := by decide +kernel
theorem dX13_begins_1 : decode cX13_begins 1 = .ok (.getfield 352, 3) := by decide +kernel
theorem dX13_begins_4 : decode cX13_begins 4 = .ok (.iconst 1, 1) := by decide +kernel
theorem dX13_begins_5 : decode cX13_begins 5 = .ok (.if_icmp .ne 30, 3) := by decide +kernel
theorem dX13_begins_8 : decode cX13_begins 8 = .ok (.aload_n 0, 1) := by decide +kernel
theorem dX13_begins_9 : decode cX13_begins 9 = .ok (.invokevirtual 362, 3) := by decide +kernel
theorem dX13_begins_12 : decode cX13_begins 12 = .ok (.ifCond .ne 21, 3) := by decide +kernel
theorem dX13_begins_15 : decode cX13_begins 15 = .ok (.aload_n 0, 1) := by decide +kernel
theorem dX13_begins_16 : decode cX13_begins 16 = .ok (.invokevirtual 365, 3) := by decide +kernel
theorem dX13_begins_19 : decode cX13_begins 19 = .ok (.ifCond .ne 14, 3) := by decide +kernel
theorem dX13_begins_22 : decode cX13_begins 22 = .ok (.aload_n 0, 1) := by decide +kernel
theorem dX13_begins_23 : decode cX13_begins 23 = .ok (.invokevirtual 368, 3) := by decide +kernel
theorem dX13_begins_26 : decode cX13_begins 26 = .ok (.ifCond .ne 7, 3) := by decide +kernel
theorem dX13_begins_29 : decode cX13_begins 29 = .ok (.iconst 1, 1) := by decide +kernel
theorem dX13_begins_30 : decode cX13_begins 30 = .ok (.goto 4, 3) := by decide +kernel
theorem dX13_begins_33 : decode cX13_begins 33 = .ok (.iconst 0, 1) := by decide +kernel
theorem dX13_begins_34 : decode cX13_begins 34 = .ok (.ireturn, 1) := by decide +kernel
theorem dX13_begins_35 : decode cX13_begins 35 = .ok (.aload_n 0, 1) := by decide +kernel
theorem dX13_begins_36 : decode cX13_begins 36 = .ok (.bipush 40, 2) := by decide +kernel
theorem dX13_begins_38 : decode cX13_begins 38 = .ok (.invokevirtual 371, 3) := by decide +kernel
theorem dX13_begins_41 : decode cX13_begins 41 = .ok (.ifCond .ne 21, 3) := by decide +kernel
theorem dX13_begins_44 : decode cX13_begins 44 = .ok (.aload_n 0, 1) := by decide +kernel
theorem dX13_begins_45 : decode cX13_begins 45 = .ok (.bipush 91, 2) := by decide +kernel
theorem dX13_begins_47 : decode cX13_begins 47 = .ok (.invokevirtual 371, 3) := by decide +kernel
theorem dX13_begins_50 : decode cX13_begins 50 = .ok (.ifCond .ne 12, 3) := by decide +kernel
theorem dX13_begins_53 : decode cX13_begins 53 = .ok (.aload_n 0, 1) := by decide +kernel
theorem dX13_begins_54 : decode cX13_begins 54 = .ok (.bipush 34, 2) := by decide +kernel
theorem dX13_begins_56 : decode cX13_begins 56 = .ok (.invokevirtual 371, 3) := by decide +kernel
theorem dX13_begins_59 : decode cX13_begins 59 = .ok (.ifCond .eq 7, 3) := by decide +kernel
theorem dX13_begins_62 : decode cX13_begins 62 = .ok (.iconst 1, 1) := by decide +kernel
theorem dX13_begins_63 : decode cX13_begins 63 = .ok (.goto 4, 3) := by decide +kernel
theorem dX13_begins_66 : decode cX13_begins 66 = .ok (.iconst 0, 1) := by decide +kernel
theorem dX13_begins_67 : decode cX13_begins 67 = .ok (.ireturn, 1) := by decide +kernel
theorem dX13_node_0 : decode cX13_node 0 = .ok (.aload_n 0, 1) := by decide +kernel
theorem dX13_node_1 : decode cX13_node 1 = .ok (.getfield 89, 3) := by decide +kernel
theorem dX13_node_4 : decode cX13_node 4 = .ok (.aload_n 0, 1) := by decide +kernel
theorem dX13_node_5 : decode cX13_node 5 = .ok (.getfield 374, 3) := by decide +kernel
theorem dX13_node_8 : decode cX13_node 8 = .ok (.iload_n 1, 1) := by decide +kernel
theorem dX13_node_9 : decode cX13_node 9 = .ok (.iastore, 1) := by decide +kernel
theorem dX13_node_10 : decode cX13_node 10 = .ok (.aload_n 0, 1) := by decide +kernel
theorem dX13_node_11 : decode cX13_node 11 = .ok (.getfield 92, 3) := by decide +kernel
theorem dX13_node_14 : decode cX13_node 14 = .ok (.aload_n 0, 1) := by decide +kernel
theorem dX13_node_15 : decode cX13_node 15 = .ok (.getfield 374, 3) := by decide +kernel
theorem dX13_node_18 : decode cX13_node 18 = .ok (.iload_n 2, 1) := by decide +kernel
theorem dX13_node_19 : decode cX13_node 19 = .ok (.iastore, 1) := by decide +kernel
theorem dX13_node_20 : decode cX13_node 20 = .ok (.aload_n 0, 1) := by decide +kernel
theorem dX13_node_21 : decode cX13_node 21 = .ok (.getfield 95, 3) := by decide +kernel
theorem dX13_node_24 : decode cX13_node 24 = .ok (.aload_n 0, 1) := by decide +kernel
theorem dX13_node_25 : decode cX13_node 25 = .ok (.getfield 374, 3) := by decide +kernel
theorem dX13_node_28 : decode cX13_node 28 = .ok (.iload_n 3, 1) := by decide +kernel
theorem dX13_node_29 : decode cX13_node 29 = .ok (.iastore, 1) := by decide +kernel
theorem dX13_node_30 : decode cX13_node 30 = .ok (.aload_n 0, 1) := by decide +kernel
theorem dX13_node_31 : decode cX13_node 31 = .ok (.getfield 98, 3) := by decide +kernel
theorem dX13_node_34 : decode cX13_node 34 = .ok (.aload_n 0, 1) := by decide +kernel
theorem dX13_node_35 : decode cX13_node 35 = .ok (.getfield 374, 3) := by decide +kernel
theorem dX13_node_38 : decode cX13_node 38 = .ok (.iload 4, 2) := by decide +kernel
theorem dX13_node_40 : decode cX13_node 40 = .ok (.iastore, 1) := by decide +kernel
theorem dX13_node_41 : decode cX13_node 41 = .ok (.aload_n 0, 1) := by decide +kernel
theorem dX13_node_42 : decode cX13_node 42 = .ok (.getfield 122, 3) := by decide +kernel
theorem dX13_node_45 : decode cX13_node 45 = .ok (.aload_n 0, 1) := by decide +kernel
theorem dX13_node_46 : decode cX13_node 46 = .ok (.getfield 374, 3) := by decide +kernel
theorem dX13_node_49 : decode cX13_node 49 = .ok (.iconst 0, 1) := by decide +kernel
theorem dX13_node_50 : decode cX13_node 50 = .ok (.bastore, 1) := by decide +kernel
theorem dX13_node_51 : decode cX13_node 51 = .ok (.aload_n 0, 1) := by decide +kernel
theorem dX13_node_52 : decode cX13_node 52 = .ok (.dup, 1) := by decide +kernel
theorem dX13_node_53 : decode cX13_node 53 = .ok (.getfield 374, 3) := by decide +kernel
theorem dX13_node_56 : decode cX13_node 56 = .ok (.iconst 1, 1) := by decide +kernel
theorem dX13_node_57 : decode cX13_node 57 = .ok (.iadd, 1) := by decide +kernel
theorem dX13_node_58 : decode cX13_node 58 = .ok (.putfield 374, 3) := by decide +kernel
theorem dX13_node_61 : decode cX13_node 61 = .ok (.aload_n 0, 1) := by decide +kernel
theorem dX13_node_62 : decode cX13_node 62 = .ok (.getfield 119, 3) := by decide +kernel
theorem dX13_node_65 : decode cX13_node 65 = .ok (.aload_n 0, 1) := by decide +kernel
theorem dX13_node_66 : decode cX13_node 66 = .ok (.getfield 377, 3) := by decide +kernel
theorem dX13_node_69 : decode cX13_node 69 = .ok (.sipush 1000, 3) := by decide +kernel
theorem dX13_node_72 : decode cX13_node 72 = .ok (.iload_n 1, 1) := by decide +kernel
theorem dX13_node_73 : decode cX13_node 73 = .ok (.imul, 1) := by decide +kernel
theorem dX13_node_74 : decode cX13_node 74 = .ok (.iload 4, 2) := by decide +kernel
theorem dX13_node_76 : decode cX13_node 76 = .ok (.iadd, 1) := by decide +kernel
theorem dX13_node_77 : decode cX13_node 77 = .ok (.iastore, 1) := by decide +kernel
theorem dX13_node_78 : decode cX13_node 78 = .ok (.aload_n 0, 1) := by decide +kernel
theorem dX13_node_79 : decode cX13_node 79 = .ok (.dup, 1) := by decide +kernel
theorem dX13_node_80 : decode cX13_node 80 = .ok (.getfield 377, 3) := by decide +kernel
theorem dX13_node_83 : decode cX13_node 83 = .ok (.iconst 1, 1) := by decide +kernel
theorem dX13_node_84 : decode cX13_node 84 = .ok (.iadd, 1) := by decide +kernel
theorem dX13_node_85 : decode cX13_node 85 = .ok (.putfield 377, 3) := by decide +kernel
theorem dX13_node_88 : decode cX13_node 88 = .ok (.aload_n 0, 1) := by decide +kernel
theorem dX13_node_89 : decode cX13_node 89 = .ok (.getfield 374, 3) := by decide +kernel
theorem dX13_node_92 : decode cX13_node 92 = .ok (.iconst 1, 1) := by decide +kernel
theorem dX13_node_93 : decode cX13_node 93 = .ok (.isub, 1) := by decide +kernel
theorem dX13_node_94 : decode cX13_node 94 = .ok (.ireturn, 1) := by decide +kernel
theorem dX13_query_0 : decode cX13_query 0 = .ok (.aload_n 0, 1) := by decide +kernel
theorem dX13_query_1 : decode cX13_query 1 = .ok (.invokevirtual 380, 3) := by decide +kernel
theorem dX13_query_4 : decode cX13_query 4 = .ok (.istore_n 1, 1) := by decide +kernel
theorem dX13_query_5 : decode cX13_query 5 = .ok (.aload_n 0, 1) := by decide +kernel
theorem dX13_query_6 : decode cX13_query 6 = .ok (.invokevirtual 362, 3) := by decide +kernel
theorem dX13_query_9 : decode cX13_query 9 = .ok (.ifCond .eq 25, 3) := by decide +kernel
theorem dX13_query_12 : decode cX13_query 12 = .ok (.aload_n 0, 1) := by decide +kernel
theorem dX13_query_13 : decode cX13_query 13 = .ok (.invokevirtual 383, 3) := by decide +kernel
theorem dX13_query_16 : decode cX13_query 16 = .ok (.aload_n 0, 1) := by decide +kernel
theorem dX13_query_17 : decode cX13_query 17 = .ok (.invokevirtual 380, 3) := by decide +kernel
theorem dX13_query_20 : decode cX13_query 20 = .ok (.istore_n 2, 1) := by decide +kernel
theorem dX13_query_21 : decode cX13_query 21 = .ok (.aload_n 0, 1) := by decide +kernel
theorem dX13_query_22 : decode cX13_query 22 = .ok (.bipush 9, 2) := by decide +kernel
theorem dX13_query_24 : decode cX13_query 24 = .ok (.iload_n 1, 1) := by decide +kernel
theorem dX13_query_25 : decode cX13_query 25 = .ok (.iload_n 2, 1) := by decide +kernel
theorem dX13_query_26 : decode cX13_query 26 = .ok (.iconst 0, 1) := by decide +kernel
theorem dX13_query_27 : decode cX13_query 27 = .ok (.invokevirtual 386, 3) := by decide +kernel
theorem dX13_query_30 : decode cX13_query 30 = .ok (.istore_n 1, 1) := by decide +kernel
theorem dX13_query_31 : decode cX13_query 31 = .ok (.goto (-26), 3) := by decide +kernel
theorem dX13_query_34 : decode cX13_query 34 = .ok (.iload_n 1, 1) := by decide +kernel
theorem dX13_query_35 : decode cX13_query 35 = .ok (.ireturn, 1) := by decide +kernel
theorem dX13_all_0 : decode cX13_all 0 = .ok (.aload_n 0, 1) := by decide +kernel
theorem dX13_all_1 : decode cX13_all 1 = .ok (.invokevirtual 390, 3) := by decide +kernel
theorem dX13_all_4 : decode cX13_all 4 = .ok (.istore_n 1, 1) := by decide +kernel
theorem dX13_all_5 : decode cX13_all 5 = .ok (.aload_n 0, 1) := by decide +kernel
theorem dX13_all_6 : decode cX13_all 6 = .ok (.getfield 393, 3) := by decide +kernel
theorem dX13_all_9 : decode cX13_all 9 = .ok (.ifCond .eq 13, 3) := by decide +kernel
theorem dX13_all_12 : decode cX13_all 12 = .ok (.aload_n 0, 1) := by decide +kernel
theorem dX13_all_13 : decode cX13_all 13 = .ok (.bipush 10, 2) := by decide +kernel
theorem dX13_all_15 : decode cX13_all 15 = .ok (.iload_n 1, 1) := by decide +kernel
theorem dX13_all_16 : decode cX13_all 16 = .ok (.iconst (-1), 1) := by decide +kernel
theorem dX13_all_17 : decode cX13_all 17 = .ok (.iconst 0, 1) := by decide +kernel
theorem dX13_all_18 : decode cX13_all 18 = .ok (.invokevirtual 386, 3) := by decide +kernel
theorem dX13_all_21 : decode cX13_all 21 = .ok (.istore_n 1, 1) := by decide +kernel
theorem dX13_all_22 : decode cX13_all 22 = .ok (.aload_n 0, 1) := by decide +kernel
theorem dX13_all_23 : decode cX13_all 23 = .ok (.invokevirtual 365, 3) := by decide +kernel
theorem dX13_all_26 : decode cX13_all 26 = .ok (.istore_n 2, 1) := by decide +kernel
theorem dX13_all_27 : decode cX13_all 27 = .ok (.iload_n 2, 1) := by decide +kernel
theorem dX13_all_28 : decode cX13_all 28 = .ok (.ifCond .ne 10, 3) := by decide +kernel
theorem dX13_all_31 : decode cX13_all 31 = .ok (.aload_n 0, 1) := by decide +kernel
theorem dX13_all_32 : decode cX13_all 32 = .ok (.invokevirtual 396, 3) := by decide +kernel
theorem dX13_all_35 : decode cX13_all 35 = .ok (.ifCond .eq 46, 3) := by decide +kernel
theorem dX13_all_38 : decode cX13_all 38 = .ok (.iload_n 2, 1) := by decide +kernel
theorem dX13_all_39 : decode cX13_all 39 = .ok (.ifCond .eq 7, 3) := by decide +kernel
theorem dX13_all_42 : decode cX13_all 42 = .ok (.aload_n 0, 1) := by decide +kernel
theorem dX13_all_43 : decode cX13_all 43 = .ok (.invokevirtual 383, 3) := by decide +kernel
theorem dX13_all_46 : decode cX13_all 46 = .ok (.aload_n 0, 1) := by decide +kernel
theorem dX13_all_47 : decode cX13_all 47 = .ok (.invokevirtual 390, 3) := by decide +kernel
theorem dX13_all_50 : decode cX13_all 50 = .ok (.istore_n 3, 1) := by decide +kernel
theorem dX13_all_51 : decode cX13_all 51 = .ok (.aload_n 0, 1) := by decide +kernel
theorem dX13_all_52 : decode cX13_all 52 = .ok (.aload_n 0, 1) := by decide +kernel
theorem dX13_all_53 : decode cX13_all 53 = .ok (.getfield 393, 3) := by decide +kernel
theorem dX13_all_56 : decode cX13_all 56 = .ok (.ifCond .eq 8, 3) := by decide +kernel
theorem dX13_all_59 : decode cX13_all 59 = .ok (.bipush 11, 2) := by decide +kernel
theorem dX13_all_61 : decode cX13_all 61 = .ok (.goto 5, 3) := by decide +kernel
theorem dX13_all_64 : decode cX13_all 64 = .ok (.bipush 8, 2) := by decide +kernel
theorem dX13_all_66 : decode cX13_all 66 = .ok (.iload_n 1, 1) := by decide +kernel
theorem dX13_all_67 : decode cX13_all 67 = .ok (.iload_n 3, 1) := by decide +kernel
theorem dX13_all_68 : decode cX13_all 68 = .ok (.iconst 0, 1) := by decide +kernel
theorem dX13_all_69 : decode cX13_all 69 = .ok (.invokevirtual 386, 3) := by decide +kernel
theorem dX13_all_72 : decode cX13_all 72 = .ok (.istore_n 1, 1) := by decide +kernel
theorem dX13_all_73 : decode cX13_all 73 = .ok (.aload_n 0, 1) := by decide +kernel
theorem dX13_all_74 : decode cX13_all 74 = .ok (.invokevirtual 365, 3) := by decide +kernel
theorem dX13_all_77 : decode cX13_all 77 = .ok (.istore_n 2, 1) := by decide +kernel
theorem dX13_all_78 : decode cX13_all 78 = .ok (.goto (-51), 3) := by decide +kernel
theorem dX13_all_81 : decode cX13_all 81 = .ok (.iload_n 1, 1) := by decide +kernel
theorem dX13_all_82 : decode cX13_all 82 = .ok (.ireturn, 1) := by decide +kernel
theorem dX13_nots_0 : decode cX13_nots 0 = .ok (.iconst 0, 1) := by decide +kernel
theorem dX13_nots_1 : decode cX13_nots 1 = .ok (.istore_n 1, 1) := by decide +kernel
theorem dX13_nots_2 : decode cX13_nots 2 = .ok (.aload_n 0, 1) := by decide +kernel
theorem dX13_nots_3 : decode cX13_nots 3 = .ok (.invokevirtual 399, 3) := by decide +kernel
theorem dX13_nots_6 : decode cX13_nots 6 = .ok (.ifCond .eq 29, 3) := by decide +kernel
theorem dX13_nots_9 : decode cX13_nots 9 = .ok (.iload_n 1, 1) := by decide +kernel
theorem dX13_nots_10 : decode cX13_nots 10 = .ok (.bipush 40, 2) := by decide +kernel
theorem dX13_nots_12 : decode cX13_nots 12 = .ok (.if_icmp .ne 13, 3) := by decide +kernel
theorem dX13_nots_15 : decode cX13_nots 15 = .ok (.aload_n 0, 1) := by decide +kernel
theorem dX13_nots_16 : decode cX13_nots 16 = .ok (.iconst 3, 1) := by decide +kernel
theorem dX13_nots_17 : decode cX13_nots 17 = .ok (.aload_n 0, 1) := by decide +kernel
theorem dX13_nots_18 : decode cX13_nots 18 = .ok (.getfield 349, 3) := by decide +kernel
theorem dX13_nots_21 : decode cX13_nots 21 = .ok (.invokevirtual 402, 3) := by decide +kernel
theorem dX13_nots_24 : decode cX13_nots 24 = .ok (.athrow, 1) := by decide +kernel
theorem dX13_nots_25 : decode cX13_nots 25 = .ok (.iinc 1 1, 3) := by decide +kernel
theorem dX13_nots_28 : decode cX13_nots 28 = .ok (.aload_n 0, 1) := by decide +kernel
theorem dX13_nots_29 : decode cX13_nots 29 = .ok (.invokevirtual 383, 3) := by decide +kernel
theorem dX13_nots_32 : decode cX13_nots 32 = .ok (.goto (-30), 3) := by decide +kernel
theorem dX13_nots_35 : decode cX13_nots 35 = .ok (.aload_n 0, 1) := by decide +kernel
theorem dX13_nots_36 : decode cX13_nots 36 = .ok (.invokevirtual 406, 3) := by decide +kernel
theorem dX13_nots_39 : decode cX13_nots 39 = .ok (.istore_n 2, 1) := by decide +kernel
theorem dX13_nots_40 : decode cX13_nots 40 = .ok (.aload_n 0, 1) := by decide +kernel
theorem dX13_nots_41 : decode cX13_nots 41 = .ok (.iload_n 1, 1) := by decide +kernel
theorem dX13_nots_42 : decode cX13_nots 42 = .ok (.iconst 2, 1) := by decide +kernel
theorem dX13_nots_43 : decode cX13_nots 43 = .ok (.irem, 1) := by decide +kernel
theorem dX13_nots_44 : decode cX13_nots 44 = .ok (.iconst 1, 1) := by decide +kernel
theorem dX13_nots_45 : decode cX13_nots 45 = .ok (.if_icmp .ne 7, 3) := by decide +kernel
theorem dX13_nots_48 : decode cX13_nots 48 = .ok (.iconst 1, 1) := by decide +kernel
theorem dX13_nots_49 : decode cX13_nots 49 = .ok (.goto 4, 3) := by decide +kernel
theorem dX13_nots_52 : decode cX13_nots 52 = .ok (.iconst 0, 1) := by decide +kernel
theorem dX13_nots_53 : decode cX13_nots 53 = .ok (.putfield 393, 3) := by decide +kernel
theorem dX13_nots_56 : decode cX13_nots 56 = .ok (.iload_n 2, 1) := by decide +kernel
theorem dX13_nots_57 : decode cX13_nots 57 = .ok (.ireturn, 1) := by decide +kernel
theorem dX13_near_0 : decode cX13_near 0 = .ok (.aload_n 0, 1) := by decide +kernel
theorem dX13_near_1 : decode cX13_near 1 = .ok (.invokevirtual 409, 3) := by decide +kernel
theorem dX13_near_4 : decode cX13_near 4 = .ok (.istore_n 1, 1) := by decide +kernel
theorem dX13_near_5 : decode cX13_near 5 = .ok (.aload_n 0, 1) := by decide +kernel
theorem dX13_near_6 : decode cX13_near 6 = .ok (.invokevirtual 368, 3) := by decide +kernel
theorem dX13_near_9 : decode cX13_near 9 = .ok (.ifCond .ne 5, 3) := by decide +kernel
theorem dX13_near_12 : decode cX13_near 12 = .ok (.iload_n 1, 1) := by decide +kernel
theorem dX13_near_13 : decode cX13_near 13 = .ok (.ireturn, 1) := by decide +kernel
theorem dX13_near_14 : decode cX13_near 14 = .ok (.aload_n 0, 1) := by decide +kernel
theorem dX13_near_15 : decode cX13_near 15 = .ok (.getfield 349, 3) := by decide +kernel
theorem dX13_near_18 : decode cX13_near 18 = .ok (.istore_n 2, 1) := by decide +kernel
theorem dX13_near_19 : decode cX13_near 19 = .ok (.aload_n 0, 1) := by decide +kernel
theorem dX13_near_20 : decode cX13_near 20 = .ok (.invokevirtual 383, 3) := by decide +kernel
theorem dX13_near_23 : decode cX13_near 23 = .ok (.aload_n 0, 1) := by decide +kernel
theorem dX13_near_24 : decode cX13_near 24 = .ok (.getfield 352, 3) := by decide +kernel
theorem dX13_near_27 : decode cX13_near 27 = .ok (.iconst 1, 1) := by decide +kernel
theorem dX13_near_28 : decode cX13_near 28 = .ok (.if_icmp .ne 16, 3) := by decide +kernel
theorem dX13_near_31 : decode cX13_near 31 = .ok (.aload_n 0, 1) := by decide +kernel
theorem dX13_near_32 : decode cX13_near 32 = .ok (.getfield 343, 3) := by decide +kernel
theorem dX13_near_35 : decode cX13_near 35 = .ok (.aload_n 0, 1) := by decide +kernel
theorem dX13_near_36 : decode cX13_near 36 = .ok (.getfield 349, 3) := by decide +kernel
theorem dX13_near_39 : decode cX13_near 39 = .ok (.isub, 1) := by decide +kernel
theorem dX13_near_40 : decode cX13_near 40 = .ok (.iconst 3, 1) := by decide +kernel
theorem dX13_near_41 : decode cX13_near 41 = .ok (.if_icmp .le 13, 3) := by decide +kernel
theorem dX13_near_44 : decode cX13_near 44 = .ok (.aload_n 0, 1) := by decide +kernel
theorem dX13_near_45 : decode cX13_near 45 = .ok (.iconst 1, 1) := by decide +kernel
theorem dX13_near_46 : decode cX13_near 46 = .ok (.aload_n 0, 1) := by decide +kernel
theorem dX13_near_47 : decode cX13_near 47 = .ok (.getfield 349, 3) := by decide +kernel
theorem dX13_near_50 : decode cX13_near 50 = .ok (.invokevirtual 402, 3) := by decide +kernel
theorem dX13_near_53 : decode cX13_near 53 = .ok (.athrow, 1) := by decide +kernel
theorem dX13_near_54 : decode cX13_near 54 = .ok (.iconst 0, 1) := by decide +kernel
theorem dX13_near_55 : decode cX13_near 55 = .ok (.istore_n 3, 1) := by decide +kernel
theorem dX13_near_56 : decode cX13_near 56 = .ok (.aload_n 0, 1) := by decide +kernel
theorem dX13_near_57 : decode cX13_near 57 = .ok (.getfield 349, 3) := by decide +kernel
theorem dX13_near_60 : decode cX13_near 60 = .ok (.istore 4, 2) := by decide +kernel
theorem dX13_near_62 : decode cX13_near 62 = .ok (.iload 4, 2) := by decide +kernel
theorem dX13_near_64 : decode cX13_near 64 = .ok (.aload_n 0, 1) := by decide +kernel
theorem dX13_near_65 : decode cX13_near 65 = .ok (.getfield 343, 3) := by decide +kernel
theorem dX13_near_68 : decode cX13_near 68 = .ok (.if_icmp .ge 48, 3) := by decide +kernel
theorem dX13_near_71 : decode cX13_near 71 = .ok (.aload_n 0, 1) := by decide +kernel
theorem dX13_near_72 : decode cX13_near 72 = .ok (.getfield 9, 3) := by decide +kernel
theorem dX13_near_75 : decode cX13_near 75 = .ok (.iload 4, 2) := by decide +kernel
theorem dX13_near_77 : decode cX13_near 77 = .ok (.baload, 1) := by decide +kernel
theorem dX13_near_78 : decode cX13_near 78 = .ok (.invokestatic 180, 3) := by decide +kernel
theorem dX13_near_81 : decode cX13_near 81 = .ok (.ifCond .ne 13, 3) := by decide +kernel
theorem dX13_near_84 : decode cX13_near 84 = .ok (.aload_n 0, 1) := by decide +kernel
theorem dX13_near_85 : decode cX13_near 85 = .ok (.iconst 1, 1) := by decide +kernel
theorem dX13_near_86 : decode cX13_near 86 = .ok (.aload_n 0, 1) := by decide +kernel
theorem dX13_near_87 : decode cX13_near 87 = .ok (.getfield 349, 3) := by decide +kernel
theorem dX13_near_90 : decode cX13_near 90 = .ok (.invokevirtual 402, 3) := by decide +kernel
theorem dX13_near_93 : decode cX13_near 93 = .ok (.athrow, 1) := by decide +kernel
theorem dX13_near_94 : decode cX13_near 94 = .ok (.bipush 10, 2) := by decide +kernel
theorem dX13_near_96 : decode cX13_near 96 = .ok (.iload_n 3, 1) := by decide +kernel
theorem dX13_near_97 : decode cX13_near 97 = .ok (.imul, 1) := by decide +kernel
theorem dX13_near_98 : decode cX13_near 98 = .ok (.aload_n 0, 1) := by decide +kernel
theorem dX13_near_99 : decode cX13_near 99 = .ok (.getfield 9, 3) := by decide +kernel
theorem dX13_near_102 : decode cX13_near 102 = .ok (.iload 4, 2) := by decide +kernel
theorem dX13_near_104 : decode cX13_near 104 = .ok (.baload, 1) := by decide +kernel
theorem dX13_near_105 : decode cX13_near 105 = .ok (.iadd, 1) := by decide +kernel
theorem dX13_near_106 : decode cX13_near 106 = .ok (.bipush 48, 2) := by decide +kernel
theorem dX13_near_108 : decode cX13_near 108 = .ok (.isub, 1) := by decide +kernel
theorem dX13_near_109 : decode cX13_near 109 = .ok (.istore_n 3, 1) := by decide +kernel
theorem dX13_near_110 : decode cX13_near 110 = .ok (.iinc 4 1, 3) := by decide +kernel
theorem dX13_near_113 : decode cX13_near 113 = .ok (.goto (-51), 3) := by decide +kernel
theorem dX13_near_116 : decode cX13_near 116 = .ok (.iload_n 3, 1) := by decide +kernel
theorem dX13_near_117 : decode cX13_near 117 = .ok (.iconst 1, 1) := by decide +kernel
theorem dX13_near_118 : decode cX13_near 118 = .ok (.if_icmp .lt 10, 3) := by decide +kernel
theorem dX13_near_121 : decode cX13_near 121 = .ok (.iload_n 3, 1) := by decide +kernel
theorem dX13_near_122 : decode cX13_near 122 = .ok (.sipush 200, 3) := by decide +kernel
theorem dX13_near_125 : decode cX13_near 125 = .ok (.if_icmp .le 13, 3) := by decide +kernel
theorem dX13_near_128 : decode cX13_near 128 = .ok (.aload_n 0, 1) := by decide +kernel
theorem dX13_near_129 : decode cX13_near 129 = .ok (.iconst 2, 1) := by decide +kernel
theorem dX13_near_130 : decode cX13_near 130 = .ok (.aload_n 0, 1) := by decide +kernel
theorem dX13_near_131 : decode cX13_near 131 = .ok (.getfield 349, 3) := by decide +kernel
theorem dX13_near_134 : decode cX13_near 134 = .ok (.invokevirtual 402, 3) := by decide +kernel
theorem dX13_near_137 : decode cX13_near 137 = .ok (.athrow, 1) := by decide +kernel
theorem dX13_near_138 : decode cX13_near 138 = .ok (.aload_n 0, 1) := by decide +kernel
theorem dX13_near_139 : decode cX13_near 139 = .ok (.invokevirtual 383, 3) := by decide +kernel
theorem dX13_near_142 : decode cX13_near 142 = .ok (.aload_n 0, 1) := by decide +kernel
theorem dX13_near_143 : decode cX13_near 143 = .ok (.invokevirtual 409, 3) := by decide +kernel
theorem dX13_near_146 : decode cX13_near 146 = .ok (.istore 4, 2) := by decide +kernel
theorem dX13_near_148 : decode cX13_near 148 = .ok (.aload_n 0, 1) := by decide +kernel
theorem dX13_near_149 : decode cX13_near 149 = .ok (.iload_n 1, 1) := by decide +kernel
theorem dX13_near_150 : decode cX13_near 150 = .ok (.invokevirtual 412, 3) := by decide +kernel
theorem dX13_near_153 : decode cX13_near 153 = .ok (.ifCond .eq 12, 3) := by decide +kernel
theorem dX13_near_156 : decode cX13_near 156 = .ok (.aload_n 0, 1) := by decide +kernel
theorem dX13_near_157 : decode cX13_near 157 = .ok (.iload 4, 2) := by decide +kernel
theorem dX13_near_159 : decode cX13_near 159 = .ok (.invokevirtual 412, 3) := by decide +kernel
theorem dX13_near_162 : decode cX13_near 162 = .ok (.ifCond .ne 10, 3) := by decide +kernel
theorem dX13_near_165 : decode cX13_near 165 = .ok (.aload_n 0, 1) := by decide +kernel
theorem dX13_near_166 : decode cX13_near 166 = .ok (.iconst 4, 1) := by decide +kernel
theorem dX13_near_167 : decode cX13_near 167 = .ok (.iload_n 2, 1) := by decide +kernel
theorem dX13_near_168 : decode cX13_near 168 = .ok (.invokevirtual 402, 3) := by decide +kernel
theorem dX13_near_171 : decode cX13_near 171 = .ok (.athrow, 1) := by decide +kernel
theorem dX13_near_172 : decode cX13_near 172 = .ok (.aload_n 0, 1) := by decide +kernel
theorem dX13_near_173 : decode cX13_near 173 = .ok (.iconst 5, 1) := by decide +kernel
theorem dX13_near_174 : decode cX13_near 174 = .ok (.iload_n 1, 1) := by decide +kernel
theorem dX13_near_175 : decode cX13_near 175 = .ok (.iload 4, 2) := by decide +kernel
theorem dX13_near_177 : decode cX13_near 177 = .ok (.iload_n 3, 1) := by decide +kernel
theorem dX13_near_178 : decode cX13_near 178 = .ok (.invokevirtual 386, 3) := by decide +kernel
theorem dX13_near_181 : decode cX13_near 181 = .ok (.ireturn, 1) := by decide +kernel
theorem dX13_hasPlaces_0 : decode cX13_hasPlaces 0 = .ok (.aload_n 0, 1) := by decide +kernel
theorem dX13_hasPlaces_1 : decode cX13_hasPlaces 1 = .ok (.getfield 122, 3) := by decide +kernel
theorem dX13_hasPlaces_4 : decode cX13_hasPlaces 4 = .ok (.iload_n 1, 1) := by decide +kernel
theorem dX13_hasPlaces_5 : decode cX13_hasPlaces 5 = .ok (.baload, 1) := by decide +kernel
theorem dX13_hasPlaces_6 : decode cX13_hasPlaces 6 = .ok (.ifCond .ne 59, 3) := by decide +kernel
theorem dX13_hasPlaces_9 : decode cX13_hasPlaces 9 = .ok (.aload_n 0, 1) := by decide +kernel
theorem dX13_hasPlaces_10 : decode cX13_hasPlaces 10 = .ok (.getfield 89, 3) := by decide +kernel
theorem dX13_hasPlaces_13 : decode cX13_hasPlaces 13 = .ok (.iload_n 1, 1) := by decide +kernel
theorem dX13_hasPlaces_14 : decode cX13_hasPlaces 14 = .ok (.iaload, 1) := by decide +kernel
theorem dX13_hasPlaces_15 : decode cX13_hasPlaces 15 = .ok (.iconst 1, 1) := by decide +kernel
theorem dX13_hasPlaces_16 : decode cX13_hasPlaces 16 = .ok (.if_icmp .eq 45, 3) := by decide +kernel
theorem dX13_hasPlaces_19 : decode cX13_hasPlaces 19 = .ok (.aload_n 0, 1) := by decide +kernel
theorem dX13_hasPlaces_20 : decode cX13_hasPlaces 20 = .ok (.getfield 89, 3) := by decide +kernel
theorem dX13_hasPlaces_23 : decode cX13_hasPlaces 23 = .ok (.iload_n 1, 1) := by decide +kernel
theorem dX13_hasPlaces_24 : decode cX13_hasPlaces 24 = .ok (.iaload, 1) := by decide +kernel
theorem dX13_hasPlaces_25 : decode cX13_hasPlaces 25 = .ok (.iconst 2, 1) := by decide +kernel
theorem dX13_hasPlaces_26 : decode cX13_hasPlaces 26 = .ok (.if_icmp .eq 35, 3) := by decide +kernel
theorem dX13_hasPlaces_29 : decode cX13_hasPlaces 29 = .ok (.aload_n 0, 1) := by decide +kernel
theorem dX13_hasPlaces_30 : decode cX13_hasPlaces 30 = .ok (.getfield 89, 3) := by decide +kernel
theorem dX13_hasPlaces_33 : decode cX13_hasPlaces 33 = .ok (.iload_n 1, 1) := by decide +kernel
theorem dX13_hasPlaces_34 : decode cX13_hasPlaces 34 = .ok (.iaload, 1) := by decide +kernel
theorem dX13_hasPlaces_35 : decode cX13_hasPlaces 35 = .ok (.iconst 3, 1) := by decide +kernel
theorem dX13_hasPlaces_36 : decode cX13_hasPlaces 36 = .ok (.if_icmp .eq 25, 3) := by decide +kernel
theorem dX13_hasPlaces_39 : decode cX13_hasPlaces 39 = .ok (.aload_n 0, 1) := by decide +kernel
theorem dX13_hasPlaces_40 : decode cX13_hasPlaces 40 = .ok (.getfield 89, 3) := by decide +kernel
theorem dX13_hasPlaces_43 : decode cX13_hasPlaces 43 = .ok (.iload_n 1, 1) := by decide +kernel
theorem dX13_hasPlaces_44 : decode cX13_hasPlaces 44 = .ok (.iaload, 1) := by decide +kernel
theorem dX13_hasPlaces_45 : decode cX13_hasPlaces 45 = .ok (.bipush 6, 2) := by decide +kernel
theorem dX13_hasPlaces_47 : decode cX13_hasPlaces 47 = .ok (.if_icmp .eq 14, 3) := by decide +kernel
theorem dX13_hasPlaces_50 : decode cX13_hasPlaces 50 = .ok (.aload_n 0, 1) := by decide +kernel
theorem dX13_hasPlaces_51 : decode cX13_hasPlaces 51 = .ok (.getfield 89, 3) := by decide +kernel
theorem dX13_hasPlaces_54 : decode cX13_hasPlaces 54 = .ok (.iload_n 1, 1) := by decide +kernel
theorem dX13_hasPlaces_55 : decode cX13_hasPlaces 55 = .ok (.iaload, 1) := by decide +kernel
theorem dX13_hasPlaces_56 : decode cX13_hasPlaces 56 = .ok (.bipush 7, 2) := by decide +kernel
theorem dX13_hasPlaces_58 : decode cX13_hasPlaces 58 = .ok (.if_icmp .ne 7, 3) := by decide +kernel
theorem dX13_hasPlaces_61 : decode cX13_hasPlaces 61 = .ok (.iconst 1, 1) := by decide +kernel
theorem dX13_hasPlaces_62 : decode cX13_hasPlaces 62 = .ok (.goto 4, 3) := by decide +kernel
theorem dX13_hasPlaces_65 : decode cX13_hasPlaces 65 = .ok (.iconst 0, 1) := by decide +kernel
theorem dX13_hasPlaces_66 : decode cX13_hasPlaces 66 = .ok (.ireturn, 1) := by decide +kernel
theorem dX13_unit_0 : decode cX13_unit 0 = .ok (.iconst 0, 1) := by decide +kernel
theorem dX13_unit_1 : decode cX13_unit 1 = .ok (.istore_n 1, 1) := by decide +kernel
theorem dX13_unit_2 : decode cX13_unit 2 = .ok (.aload_n 0, 1) := by decide +kernel
theorem dX13_unit_3 : decode cX13_unit 3 = .ok (.getfield 352, 3) := by decide +kernel
theorem dX13_unit_6 : decode cX13_unit 6 = .ok (.iconst 1, 1) := by decide +kernel
theorem dX13_unit_7 : decode cX13_unit 7 = .ok (.if_icmp .ne 86, 3) := by decide +kernel
theorem dX13_unit_10 : decode cX13_unit 10 = .ok (.aload_n 0, 1) := by decide +kernel
theorem dX13_unit_11 : decode cX13_unit 11 = .ok (.invokevirtual 415, 3) := by decide +kernel
theorem dX13_unit_14 : decode cX13_unit 14 = .ok (.ifCond .eq 79, 3) := by decide +kernel
theorem dX13_unit_17 : decode cX13_unit 17 = .ok (.iload_n 1, 1) := by decide +kernel
theorem dX13_unit_18 : decode cX13_unit 18 = .ok (.bipush 12, 2) := by decide +kernel
theorem dX13_unit_20 : decode cX13_unit 20 = .ok (.if_icmp .ne 13, 3) := by decide +kernel
theorem dX13_unit_23 : decode cX13_unit 23 = .ok (.aload_n 0, 1) := by decide +kernel
theorem dX13_unit_24 : decode cX13_unit 24 = .ok (.iconst 3, 1) := by decide +kernel
theorem dX13_unit_25 : decode cX13_unit 25 = .ok (.aload_n 0, 1) := by decide +kernel
theorem dX13_unit_26 : decode cX13_unit 26 = .ok (.getfield 349, 3) := by decide +kernel
theorem dX13_unit_29 : decode cX13_unit 29 = .ok (.invokevirtual 402, 3) := by decide +kernel
theorem dX13_unit_32 : decode cX13_unit 32 = .ok (.athrow, 1) := by decide +kernel
theorem dX13_unit_33 : decode cX13_unit 33 = .ok (.aload_n 0, 1) := by decide +kernel
theorem dX13_unit_34 : decode cX13_unit 34 = .ok (.getfield 125, 3) := by decide +kernel
theorem dX13_unit_37 : decode cX13_unit 37 = .ok (.aload_n 0, 1) := by decide +kernel
theorem dX13_unit_38 : decode cX13_unit 38 = .ok (.getfield 418, 3) := by decide +kernel
theorem dX13_unit_41 : decode cX13_unit 41 = .ok (.iload_n 1, 1) := by decide +kernel
theorem dX13_unit_42 : decode cX13_unit 42 = .ok (.iadd, 1) := by decide +kernel
theorem dX13_unit_43 : decode cX13_unit 43 = .ok (.aload_n 0, 1) := by decide +kernel
theorem dX13_unit_44 : decode cX13_unit 44 = .ok (.getfield 349, 3) := by decide +kernel
theorem dX13_unit_47 : decode cX13_unit 47 = .ok (.iastore, 1) := by decide +kernel
theorem dX13_unit_48 : decode cX13_unit 48 = .ok (.aload_n 0, 1) := by decide +kernel
theorem dX13_unit_49 : decode cX13_unit 49 = .ok (.getfield 128, 3) := by decide +kernel
theorem dX13_unit_52 : decode cX13_unit 52 = .ok (.aload_n 0, 1) := by decide +kernel
theorem dX13_unit_53 : decode cX13_unit 53 = .ok (.getfield 418, 3) := by decide +kernel
theorem dX13_unit_56 : decode cX13_unit 56 = .ok (.iload_n 1, 1) := by decide +kernel
theorem dX13_unit_57 : decode cX13_unit 57 = .ok (.iadd, 1) := by decide +kernel
theorem dX13_unit_58 : decode cX13_unit 58 = .ok (.aload_n 0, 1) := by decide +kernel
theorem dX13_unit_59 : decode cX13_unit 59 = .ok (.getfield 343, 3) := by decide +kernel
theorem dX13_unit_62 : decode cX13_unit 62 = .ok (.aload_n 0, 1) := by decide +kernel
theorem dX13_unit_63 : decode cX13_unit 63 = .ok (.getfield 349, 3) := by decide +kernel
theorem dX13_unit_66 : decode cX13_unit 66 = .ok (.isub, 1) := by decide +kernel
theorem dX13_unit_67 : decode cX13_unit 67 = .ok (.iconst 5, 1) := by decide +kernel
theorem dX13_unit_68 : decode cX13_unit 68 = .ok (.if_icmp .ne 8, 3) := by decide +kernel
theorem dX13_unit_71 : decode cX13_unit 71 = .ok (.bipush 6, 2) := by decide +kernel
theorem dX13_unit_73 : decode cX13_unit 73 = .ok (.goto 5, 3) := by decide +kernel
theorem dX13_unit_76 : decode cX13_unit 76 = .ok (.bipush 7, 2) := by decide +kernel
theorem dX13_unit_78 : decode cX13_unit 78 = .ok (.iastore, 1) := by decide +kernel
theorem dX13_unit_79 : decode cX13_unit 79 = .ok (.iinc 1 1, 3) := by decide +kernel
theorem dX13_unit_82 : decode cX13_unit 82 = .ok (.aload_n 0, 1) := by decide +kernel
theorem dX13_unit_83 : decode cX13_unit 83 = .ok (.invokevirtual 383, 3) := by decide +kernel
theorem dX13_unit_86 : decode cX13_unit 86 = .ok (.aload_n 0, 1) := by decide +kernel
theorem dX13_unit_87 : decode cX13_unit 87 = .ok (.invokevirtual 383, 3) := by decide +kernel
theorem dX13_unit_90 : decode cX13_unit 90 = .ok (.goto (-88), 3) := by decide +kernel
theorem dX13_unit_93 : decode cX13_unit 93 = .ok (.aload_n 0, 1) := by decide +kernel
theorem dX13_unit_94 : decode cX13_unit 94 = .ok (.dup, 1) := by decide +kernel
theorem dX13_unit_95 : decode cX13_unit 95 = .ok (.getfield 418, 3) := by decide +kernel
theorem dX13_unit_98 : decode cX13_unit 98 = .ok (.iload_n 1, 1) := by decide +kernel
theorem dX13_unit_99 : decode cX13_unit 99 = .ok (.iadd, 1) := by decide +kernel
theorem dX13_unit_100 : decode cX13_unit 100 = .ok (.putfield 418, 3) := by decide +kernel
theorem dX13_unit_103 : decode cX13_unit 103 = .ok (.aload_n 0, 1) := by decide +kernel
theorem dX13_unit_104 : decode cX13_unit 104 = .ok (.invokevirtual 421, 3) := by decide +kernel
theorem dX13_unit_107 : decode cX13_unit 107 = .ok (.istore_n 2, 1) := by decide +kernel
theorem dX13_unit_108 : decode cX13_unit 108 = .ok (.aload_n 0, 1) := by decide +kernel
theorem dX13_unit_109 : decode cX13_unit 109 = .ok (.dup, 1) := by decide +kernel
theorem dX13_unit_110 : decode cX13_unit 110 = .ok (.getfield 418, 3) := by decide +kernel
theorem dX13_unit_113 : decode cX13_unit 113 = .ok (.iload_n 1, 1) := by decide +kernel
theorem dX13_unit_114 : decode cX13_unit 114 = .ok (.isub, 1) := by decide +kernel
theorem dX13_unit_115 : decode cX13_unit 115 = .ok (.putfield 418, 3) := by decide +kernel
theorem dX13_unit_118 : decode cX13_unit 118 = .ok (.iload_n 1, 1) := by decide +kernel
theorem dX13_unit_119 : decode cX13_unit 119 = .ok (.iconst 1, 1) := by decide +kernel
theorem dX13_unit_120 : decode cX13_unit 120 = .ok (.isub, 1) := by decide +kernel
theorem dX13_unit_121 : decode cX13_unit 121 = .ok (.istore_n 3, 1) := by decide +kernel
theorem dX13_unit_122 : decode cX13_unit 122 = .ok (.iload_n 3, 1) := by decide +kernel
theorem dX13_unit_123 : decode cX13_unit 123 = .ok (.ifCond .lt 53, 3) := by decide +kernel
theorem dX13_unit_126 : decode cX13_unit 126 = .ok (.aload_n 0, 1) := by decide +kernel
theorem dX13_unit_127 : decode cX13_unit 127 = .ok (.iload_n 2, 1) := by decide +kernel
theorem dX13_unit_128 : decode cX13_unit 128 = .ok (.invokevirtual 412, 3) := by decide +kernel
theorem dX13_unit_131 : decode cX13_unit 131 = .ok (.ifCond .ne 20, 3) := by decide +kernel
theorem dX13_unit_134 : decode cX13_unit 134 = .ok (.aload_n 0, 1) := by decide +kernel
theorem dX13_unit_135 : decode cX13_unit 135 = .ok (.iconst 4, 1) := by decide +kernel
theorem dX13_unit_136 : decode cX13_unit 136 = .ok (.aload_n 0, 1) := by decide +kernel
theorem dX13_unit_137 : decode cX13_unit 137 = .ok (.getfield 125, 3) := by decide +kernel
theorem dX13_unit_140 : decode cX13_unit 140 = .ok (.aload_n 0, 1) := by decide +kernel
theorem dX13_unit_141 : decode cX13_unit 141 = .ok (.getfield 418, 3) := by decide +kernel
theorem dX13_unit_144 : decode cX13_unit 144 = .ok (.iload_n 3, 1) := by decide +kernel
theorem dX13_unit_145 : decode cX13_unit 145 = .ok (.iadd, 1) := by decide +kernel
theorem dX13_unit_146 : decode cX13_unit 146 = .ok (.iaload, 1) := by decide +kernel
theorem dX13_unit_147 : decode cX13_unit 147 = .ok (.invokevirtual 402, 3) := by decide +kernel
theorem dX13_unit_150 : decode cX13_unit 150 = .ok (.athrow, 1) := by decide +kernel
theorem dX13_unit_151 : decode cX13_unit 151 = .ok (.aload_n 0, 1) := by decide +kernel
theorem dX13_unit_152 : decode cX13_unit 152 = .ok (.aload_n 0, 1) := by decide +kernel
theorem dX13_unit_153 : decode cX13_unit 153 = .ok (.getfield 128, 3) := by decide +kernel
theorem dX13_unit_156 : decode cX13_unit 156 = .ok (.aload_n 0, 1) := by decide +kernel
theorem dX13_unit_157 : decode cX13_unit 157 = .ok (.getfield 418, 3) := by decide +kernel
theorem dX13_unit_160 : decode cX13_unit 160 = .ok (.iload_n 3, 1) := by decide +kernel
theorem dX13_unit_161 : decode cX13_unit 161 = .ok (.iadd, 1) := by decide +kernel
theorem dX13_unit_162 : decode cX13_unit 162 = .ok (.iaload, 1) := by decide +kernel
theorem dX13_unit_163 : decode cX13_unit 163 = .ok (.iload_n 2, 1) := by decide +kernel
theorem dX13_unit_164 : decode cX13_unit 164 = .ok (.iconst (-1), 1) := by decide +kernel
theorem dX13_unit_165 : decode cX13_unit 165 = .ok (.iconst 0, 1) := by decide +kernel
theorem dX13_unit_166 : decode cX13_unit 166 = .ok (.invokevirtual 386, 3) := by decide +kernel
theorem dX13_unit_169 : decode cX13_unit 169 = .ok (.istore_n 2, 1) := by decide +kernel
theorem dX13_unit_170 : decode cX13_unit 170 = .ok (.iinc 3 (-1), 3) := by decide +kernel
