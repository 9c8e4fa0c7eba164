theorem dX13_takesToken_18 : decode cX13_takesToken 18 = .ok (.iload_n 1, 1) := by decide +kernel
theorem dX13_takesToken_19 : decode cX13_takesToken 19 = .ok (.if_icmp .ne 5, 3) := by decide +kernel
theorem dX13_takesToken_22 : decode cX13_takesToken 22 = .ok (.iconst 0, 1) := by decide +kernel
theorem dX13_takesToken_23 : decode cX13_takesToken 23 = .ok (.ireturn, 1) := by decide +kernel
theorem dX13_takesToken_24 : decode cX13_takesToken 24 = .ok (.aload_n 0, 1) := by decide +kernel
theorem dX13_takesToken_25 : decode cX13_takesToken 25 = .ok (.iload_n 2, 1) := by decide +kernel
theorem dX13_takesToken_26 : decode cX13_takesToken 26 = .ok (.aload_n 0, 1) := by decide +kernel
theorem dX13_takesToken_27 : decode cX13_takesToken 27 = .ok (.iload_n 2, 1) := by decide +kernel
theorem dX13_takesToken_28 : decode cX13_takesToken 28 = .ok (.iload_n 1, 1) := by decide +kernel
theorem dX13_takesToken_29 : decode cX13_takesToken 29 = .ok (.invokevirtual 225, 3) := by decide +kernel
theorem dX13_takesToken_32 : decode cX13_takesToken 32 = .ok (.invokevirtual 228, 3) := by decide +kernel
theorem dX13_takesToken_35 : decode cX13_takesToken 35 = .ok (.iconst 1, 1) := by decide +kernel
theorem dX13_takesToken_36 : decode cX13_takesToken 36 = .ok (.ireturn, 1) := by decide +kernel
theorem dX13_stop_0 : decode cX13_stop 0 = .ok (.aload_n 0, 1) := by decide +kernel
theorem dX13_stop_1 : decode cX13_stop 1 = .ok (.iconst 0, 1) := by decide +kernel
theorem dX13_stop_2 : decode cX13_stop 2 = .ok (.putfield 170, 3) := by decide +kernel
theorem dX13_stop_5 : decode cX13_stop 5 = .ok (.aload_n 0, 1) := by decide +kernel
theorem dX13_stop_6 : decode cX13_stop 6 = .ok (.invokevirtual 275, 3) := by decide +kernel
theorem dX13_stop_9 : decode cX13_stop 9 = .ok (.ifCond .ne 5, 3) := by decide +kernel
theorem dX13_stop_12 : decode cX13_stop 12 = .ok (.iconst (-1), 1) := by decide +kernel
theorem dX13_stop_13 : decode cX13_stop 13 = .ok (.ireturn, 1) := by decide +kernel
theorem dX13_stop_14 : decode cX13_stop 14 = .ok (.aload_n 0, 1) := by decide +kernel
theorem dX13_stop_15 : decode cX13_stop 15 = .ok (.invokevirtual 231, 3) := by decide +kernel
theorem dX13_stop_18 : decode cX13_stop 18 = .ok (.istore_n 2, 1) := by decide +kernel
theorem dX13_stop_19 : decode cX13_stop 19 = .ok (.iload_n 1, 1) := by decide +kernel
theorem dX13_stop_20 : decode cX13_stop 20 = .ok (.ifCond .eq 82, 3) := by decide +kernel
theorem dX13_stop_23 : decode cX13_stop 23 = .ok (.iload_n 2, 1) := by decide +kernel
theorem dX13_stop_24 : decode cX13_stop 24 = .ok (.iconst (-1), 1) := by decide +kernel
theorem dX13_stop_25 : decode cX13_stop 25 = .ok (.if_icmp .ne 77, 3) := by decide +kernel
theorem dX13_stop_28 : decode cX13_stop 28 = .ok (.aload_n 0, 1) := by decide +kernel
theorem dX13_stop_29 : decode cX13_stop 29 = .ok (.getfield 215, 3) := by decide +kernel
theorem dX13_stop_32 : decode cX13_stop 32 = .ok (.bipush 10, 2) := by decide +kernel
theorem dX13_stop_34 : decode cX13_stop 34 = .ok (.if_icmp .ne 6, 3) := by decide +kernel
theorem dX13_stop_37 : decode cX13_stop 37 = .ok (.bipush (-2), 2) := by decide +kernel
theorem dX13_stop_39 : decode cX13_stop 39 = .ok (.ireturn, 1) := by decide +kernel
theorem dX13_stop_40 : decode cX13_stop 40 = .ok (.iconst 0, 1) := by decide +kernel
theorem dX13_stop_41 : decode cX13_stop 41 = .ok (.istore_n 3, 1) := by decide +kernel
theorem dX13_stop_42 : decode cX13_stop 42 = .ok (.iload_n 3, 1) := by decide +kernel
theorem dX13_stop_43 : decode cX13_stop 43 = .ok (.aload_n 0, 1) := by decide +kernel
theorem dX13_stop_44 : decode cX13_stop 44 = .ok (.getfield 193, 3) := by decide +kernel
theorem dX13_stop_47 : decode cX13_stop 47 = .ok (.if_icmp .ge 29, 3) := by decide +kernel
theorem dX13_stop_50 : decode cX13_stop 50 = .ok (.aload_n 0, 1) := by decide +kernel
theorem dX13_stop_51 : decode cX13_stop 51 = .ok (.getfield 47, 3) := by decide +kernel
theorem dX13_stop_54 : decode cX13_stop 54 = .ok (.bipush 12, 2) := by decide +kernel
theorem dX13_stop_56 : decode cX13_stop 56 = .ok (.aload_n 0, 1) := by decide +kernel
theorem dX13_stop_57 : decode cX13_stop 57 = .ok (.getfield 215, 3) := by decide +kernel
theorem dX13_stop_60 : decode cX13_stop 60 = .ok (.imul, 1) := by decide +kernel
theorem dX13_stop_61 : decode cX13_stop 61 = .ok (.iload_n 3, 1) := by decide +kernel
theorem dX13_stop_62 : decode cX13_stop 62 = .ok (.iadd, 1) := by decide +kernel
theorem dX13_stop_63 : decode cX13_stop 63 = .ok (.aload_n 0, 1) := by decide +kernel
theorem dX13_stop_64 : decode cX13_stop 64 = .ok (.getfield 60, 3) := by decide +kernel
theorem dX13_stop_67 : decode cX13_stop 67 = .ok (.iload_n 3, 1) := by decide +kernel
theorem dX13_stop_68 : decode cX13_stop 68 = .ok (.baload, 1) := by decide +kernel
theorem dX13_stop_69 : decode cX13_stop 69 = .ok (.bastore, 1) := by decide +kernel
theorem dX13_stop_70 : decode cX13_stop 70 = .ok (.iinc 3 1, 3) := by decide +kernel
theorem dX13_stop_73 : decode cX13_stop 73 = .ok (.goto (-31), 3) := by decide +kernel
theorem dX13_stop_76 : decode cX13_stop 76 = .ok (.aload_n 0, 1) := by decide +kernel
theorem dX13_stop_77 : decode cX13_stop 77 = .ok (.getfield 50, 3) := by decide +kernel
theorem dX13_stop_80 : decode cX13_stop 80 = .ok (.aload_n 0, 1) := by decide +kernel
theorem dX13_stop_81 : decode cX13_stop 81 = .ok (.getfield 215, 3) := by decide +kernel
theorem dX13_stop_84 : decode cX13_stop 84 = .ok (.aload_n 0, 1) := by decide +kernel
theorem dX13_stop_85 : decode cX13_stop 85 = .ok (.getfield 193, 3) := by decide +kernel
theorem dX13_stop_88 : decode cX13_stop 88 = .ok (.iastore, 1) := by decide +kernel
theorem dX13_stop_89 : decode cX13_stop 89 = .ok (.aload_n 0, 1) := by decide +kernel
theorem dX13_stop_90 : decode cX13_stop 90 = .ok (.dup, 1) := by decide +kernel
theorem dX13_stop_91 : decode cX13_stop 91 = .ok (.getfield 215, 3) := by decide +kernel
theorem dX13_stop_94 : decode cX13_stop 94 = .ok (.iconst 1, 1) := by decide +kernel
theorem dX13_stop_95 : decode cX13_stop 95 = .ok (.iadd, 1) := by decide +kernel
theorem dX13_stop_96 : decode cX13_stop 96 = .ok (.putfield 215, 3) := by decide +kernel
theorem dX13_stop_99 : decode cX13_stop 99 = .ok (.goto 76, 3) := by decide +kernel
theorem dX13_stop_102 : decode cX13_stop 102 = .ok (.iload_n 1, 1) := by decide +kernel
theorem dX13_stop_103 : decode cX13_stop 103 = .ok (.ifCond .ne 72, 3) := by decide +kernel
theorem dX13_stop_106 : decode cX13_stop 106 = .ok (.iload_n 2, 1) := by decide +kernel
theorem dX13_stop_107 : decode cX13_stop 107 = .ok (.iconst (-1), 1) := by decide +kernel
theorem dX13_stop_108 : decode cX13_stop 108 = .ok (.if_icmp .eq 67, 3) := by decide +kernel
theorem dX13_stop_111 : decode cX13_stop 111 = .ok (.aload_n 0, 1) := by decide +kernel
theorem dX13_stop_112 : decode cX13_stop 112 = .ok (.dup, 1) := by decide +kernel
theorem dX13_stop_113 : decode cX13_stop 113 = .ok (.getfield 215, 3) := by decide +kernel
theorem dX13_stop_116 : decode cX13_stop 116 = .ok (.iconst 1, 1) := by decide +kernel
theorem dX13_stop_117 : decode cX13_stop 117 = .ok (.isub, 1) := by decide +kernel
theorem dX13_stop_118 : decode cX13_stop 118 = .ok (.putfield 215, 3) := by decide +kernel
theorem dX13_stop_121 : decode cX13_stop 121 = .ok (.iconst 0, 1) := by decide +kernel
theorem dX13_stop_122 : decode cX13_stop 122 = .ok (.istore_n 3, 1) := by decide +kernel
theorem dX13_stop_123 : decode cX13_stop 123 = .ok (.iload_n 3, 1) := by decide +kernel
theorem dX13_stop_124 : decode cX13_stop 124 = .ok (.bipush 12, 2) := by decide +kernel
theorem dX13_stop_126 : decode cX13_stop 126 = .ok (.if_icmp .ge 34, 3) := by decide +kernel
theorem dX13_stop_129 : decode cX13_stop 129 = .ok (.aload_n 0, 1) := by decide +kernel
theorem dX13_stop_130 : decode cX13_stop 130 = .ok (.getfield 47, 3) := by decide +kernel
theorem dX13_stop_133 : decode cX13_stop 133 = .ok (.bipush 12, 2) := by decide +kernel
theorem dX13_stop_135 : decode cX13_stop 135 = .ok (.iload_n 2, 1) := by decide +kernel
theorem dX13_stop_136 : decode cX13_stop 136 = .ok (.imul, 1) := by decide +kernel
theorem dX13_stop_137 : decode cX13_stop 137 = .ok (.iload_n 3, 1) := by decide +kernel
theorem dX13_stop_138 : decode cX13_stop 138 = .ok (.iadd, 1) := by decide +kernel
theorem dX13_stop_139 : decode cX13_stop 139 = .ok (.aload_n 0, 1) := by decide +kernel
theorem dX13_stop_140 : decode cX13_stop 140 = .ok (.getfield 47, 3) := by decide +kernel
theorem dX13_stop_143 : decode cX13_stop 143 = .ok (.bipush 12, 2) := by decide +kernel
theorem dX13_stop_145 : decode cX13_stop 145 = .ok (.aload_n 0, 1) := by decide +kernel
theorem dX13_stop_146 : decode cX13_stop 146 = .ok (.getfield 215, 3) := by decide +kernel
theorem dX13_stop_149 : decode cX13_stop 149 = .ok (.imul, 1) := by decide +kernel
theorem dX13_stop_150 : decode cX13_stop 150 = .ok (.iload_n 3, 1) := by decide +kernel
theorem dX13_stop_151 : decode cX13_stop 151 = .ok (.iadd, 1) := by decide +kernel
theorem dX13_stop_152 : decode cX13_stop 152 = .ok (.baload, 1) := by decide +kernel
theorem dX13_stop_153 : decode cX13_stop 153 = .ok (.bastore, 1) := by decide +kernel
theorem dX13_stop_154 : decode cX13_stop 154 = .ok (.iinc 3 1, 3) := by decide +kernel
theorem dX13_stop_157 : decode cX13_stop 157 = .ok (.goto (-34), 3) := by decide +kernel
theorem dX13_stop_160 : decode cX13_stop 160 = .ok (.aload_n 0, 1) := by decide +kernel
theorem dX13_stop_161 : decode cX13_stop 161 = .ok (.getfield 50, 3) := by decide +kernel
theorem dX13_stop_164 : decode cX13_stop 164 = .ok (.iload_n 2, 1) := by decide +kernel
theorem dX13_stop_165 : decode cX13_stop 165 = .ok (.aload_n 0, 1) := by decide +kernel
theorem dX13_stop_166 : decode cX13_stop 166 = .ok (.getfield 50, 3) := by decide +kernel
theorem dX13_stop_169 : decode cX13_stop 169 = .ok (.aload_n 0, 1) := by decide +kernel
theorem dX13_stop_170 : decode cX13_stop 170 = .ok (.getfield 215, 3) := by decide +kernel
theorem dX13_stop_173 : decode cX13_stop 173 = .ok (.iaload, 1) := by decide +kernel
theorem dX13_stop_174 : decode cX13_stop 174 = .ok (.iastore, 1) := by decide +kernel
theorem dX13_stop_175 : decode cX13_stop 175 = .ok (.aload_n 0, 1) := by decide +kernel
theorem dX13_stop_176 : decode cX13_stop 176 = .ok (.getfield 215, 3) := by decide +kernel
theorem dX13_stop_179 : decode cX13_stop 179 = .ok (.ireturn, 1) := by decide +kernel
theorem dX13_document_0 : decode cX13_document 0 = .ok (.aload_n 0, 1) := by decide +kernel
theorem dX13_document_1 : decode cX13_document 1 = .ok (.iconst 0, 1) := by decide +kernel
theorem dX13_document_2 : decode cX13_document 2 = .ok (.putfield 170, 3) := by decide +kernel
theorem dX13_document_5 : decode cX13_document 5 = .ok (.aload_n 0, 1) := by decide +kernel
theorem dX13_document_6 : decode cX13_document 6 = .ok (.iload_n 1, 1) := by decide +kernel
theorem dX13_document_7 : decode cX13_document 7 = .ok (.invokevirtual 260, 3) := by decide +kernel
theorem dX13_document_10 : decode cX13_document 10 = .ok (.ifCond .ne 8, 3) := by decide +kernel
theorem dX13_document_13 : decode cX13_document 13 = .ok (.aload_n 0, 1) := by decide +kernel
theorem dX13_document_14 : decode cX13_document 14 = .ok (.invokevirtual 279, 3) := by decide +kernel
theorem dX13_document_17 : decode cX13_document 17 = .ok (.ireturn, 1) := by decide +kernel
theorem dX13_document_18 : decode cX13_document 18 = .ok (.iload_n 2, 1) := by decide +kernel
theorem dX13_document_19 : decode cX13_document 19 = .ok (.tableswitch 65 0 3 #[29, 44, 51, 58], 29) := by decide +kernel
theorem dX13_document_48 : decode cX13_document 48 = .ok (.aload_n 0, 1) := by decide +kernel
theorem dX13_document_49 : decode cX13_document 49 = .ok (.getfield 25, 3) := by decide +kernel
theorem dX13_document_52 : decode cX13_document 52 = .ok (.iload_n 1, 1) := by decide +kernel
theorem dX13_document_53 : decode cX13_document 53 = .ok (.baload, 1) := by decide +kernel
theorem dX13_document_54 : decode cX13_document 54 = .ok (.ifCond .eq 7, 3) := by decide +kernel
theorem dX13_document_57 : decode cX13_document 57 = .ok (.iconst 1, 1) := by decide +kernel
theorem dX13_document_58 : decode cX13_document 58 = .ok (.goto 4, 3) := by decide +kernel
theorem dX13_document_61 : decode cX13_document 61 = .ok (.iconst 0, 1) := by decide +kernel
theorem dX13_document_62 : decode cX13_document 62 = .ok (.ireturn, 1) := by decide +kernel
theorem dX13_document_63 : decode cX13_document 63 = .ok (.aload_n 0, 1) := by decide +kernel
theorem dX13_document_64 : decode cX13_document 64 = .ok (.getfield 32, 3) := by decide +kernel
theorem dX13_document_67 : decode cX13_document 67 = .ok (.iload_n 1, 1) := by decide +kernel
theorem dX13_document_68 : decode cX13_document 68 = .ok (.iaload, 1) := by decide +kernel
theorem dX13_document_69 : decode cX13_document 69 = .ok (.ireturn, 1) := by decide +kernel
theorem dX13_document_70 : decode cX13_document 70 = .ok (.aload_n 0, 1) := by decide +kernel
theorem dX13_document_71 : decode cX13_document 71 = .ok (.getfield 35, 3) := by decide +kernel
theorem dX13_document_74 : decode cX13_document 74 = .ok (.iload_n 1, 1) := by decide +kernel
theorem dX13_document_75 : decode cX13_document 75 = .ok (.iaload, 1) := by decide +kernel
theorem dX13_document_76 : decode cX13_document 76 = .ok (.ireturn, 1) := by decide +kernel
theorem dX13_document_77 : decode cX13_document 77 = .ok (.aload_n 0, 1) := by decide +kernel
theorem dX13_document_78 : decode cX13_document 78 = .ok (.getfield 38, 3) := by decide +kernel
theorem dX13_document_81 : decode cX13_document 81 = .ok (.iload_n 1, 1) := by decide +kernel
theorem dX13_document_82 : decode cX13_document 82 = .ok (.iaload, 1) := by decide +kernel
theorem dX13_document_83 : decode cX13_document 83 = .ok (.ireturn, 1) := by decide +kernel
theorem dX13_document_84 : decode cX13_document 84 = .ok (.iconst (-1), 1) := by decide +kernel
theorem dX13_document_85 : decode cX13_document 85 = .ok (.ireturn, 1) := by decide +kernel
theorem dX13_digits_0 : decode cX13_digits 0 = .ok (.iconst 0, 1) := by decide +kernel
theorem dX13_digits_1 : decode cX13_digits 1 = .ok (.istore_n 1, 1) := by decide +kernel
theorem dX13_digits_2 : decode cX13_digits 2 = .ok (.iload_n 0, 1) := by decide +kernel
theorem dX13_digits_3 : decode cX13_digits 3 = .ok (.istore_n 2, 1) := by decide +kernel
theorem dX13_digits_4 : decode cX13_digits 4 = .ok (.iload_n 2, 1) := by decide +kernel
theorem dX13_digits_5 : decode cX13_digits 5 = .ok (.ifCond .le 13, 3) := by decide +kernel
theorem dX13_digits_8 : decode cX13_digits 8 = .ok (.iinc 1 1, 3) := by decide +kernel
theorem dX13_digits_11 : decode cX13_digits 11 = .ok (.iload_n 2, 1) := by decide +kernel
theorem dX13_digits_12 : decode cX13_digits 12 = .ok (.iconst 2, 1) := by decide +kernel
theorem dX13_digits_13 : decode cX13_digits 13 = .ok (.idiv, 1) := by decide +kernel
theorem dX13_digits_14 : decode cX13_digits 14 = .ok (.istore_n 2, 1) := by decide +kernel
theorem dX13_digits_15 : decode cX13_digits 15 = .ok (.goto (-11), 3) := by decide +kernel
theorem dX13_digits_18 : decode cX13_digits 18 = .ok (.iload_n 1, 1) := by decide +kernel
theorem dX13_digits_19 : decode cX13_digits 19 = .ok (.ireturn, 1) := by decide +kernel
theorem dX13_gamma_0 : decode cX13_gamma 0 = .ok (.iconst 2, 1) := by decide +kernel
theorem dX13_gamma_1 : decode cX13_gamma 1 = .ok (.iload_n 0, 1) := by decide +kernel
theorem dX13_gamma_2 : decode cX13_gamma 2 = .ok (.invokestatic 282, 3) := by decide +kernel
theorem dX13_gamma_5 : decode cX13_gamma 5 = .ok (.imul, 1) := by decide +kernel
theorem dX13_gamma_6 : decode cX13_gamma 6 = .ok (.iconst 1, 1) := by decide +kernel
theorem dX13_gamma_7 : decode cX13_gamma 7 = .ok (.isub, 1) := by decide +kernel
theorem dX13_gamma_8 : decode cX13_gamma 8 = .ok (.ireturn, 1) := by decide +kernel
theorem dX13_put_0 : decode cX13_put 0 = .ok (.iload_n 1, 1) := by decide +kernel
theorem dX13_put_1 : decode cX13_put 1 = .ok (.invokestatic 282, 3) := by decide +kernel
theorem dX13_put_4 : decode cX13_put 4 = .ok (.istore_n 2, 1) := by decide +kernel
theorem dX13_put_5 : decode cX13_put 5 = .ok (.aload_n 0, 1) := by decide +kernel
theorem dX13_put_6 : decode cX13_put 6 = .ok (.getfield 285, 3) := by decide +kernel
theorem dX13_put_9 : decode cX13_put 9 = .ok (.ifCond .eq 68, 3) := by decide +kernel
theorem dX13_put_12 : decode cX13_put 12 = .ok (.iconst 0, 1) := by decide +kernel
theorem dX13_put_13 : decode cX13_put 13 = .ok (.istore_n 3, 1) := by decide +kernel
theorem dX13_put_14 : decode cX13_put 14 = .ok (.iload_n 3, 1) := by decide +kernel
theorem dX13_put_15 : decode cX13_put 15 = .ok (.iload_n 2, 1) := by decide +kernel
theorem dX13_put_16 : decode cX13_put 16 = .ok (.iconst 1, 1) := by decide +kernel
theorem dX13_put_17 : decode cX13_put 17 = .ok (.isub, 1) := by decide +kernel
theorem dX13_put_18 : decode cX13_put 18 = .ok (.if_icmp .ge 21, 3) := by decide +kernel
theorem dX13_put_21 : decode cX13_put 21 = .ok (.aload_n 0, 1) := by decide +kernel
theorem dX13_put_22 : decode cX13_put 22 = .ok (.getfield 64, 3) := by decide +kernel
theorem dX13_put_25 : decode cX13_put 25 = .ok (.aload_n 0, 1) := by decide +kernel
theorem dX13_put_26 : decode cX13_put 26 = .ok (.getfield 288, 3) := by decide +kernel
theorem dX13_put_29 : decode cX13_put 29 = .ok (.iload_n 3, 1) := by decide +kernel
theorem dX13_put_30 : decode cX13_put 30 = .ok (.iadd, 1) := by decide +kernel
theorem dX13_put_31 : decode cX13_put 31 = .ok (.iconst 0, 1) := by decide +kernel
theorem dX13_put_32 : decode cX13_put 32 = .ok (.bastore, 1) := by decide +kernel
theorem dX13_put_33 : decode cX13_put 33 = .ok (.iinc 3 1, 3) := by decide +kernel
theorem dX13_put_36 : decode cX13_put 36 = .ok (.goto (-22), 3) := by decide +kernel
theorem dX13_put_39 : decode cX13_put 39 = .ok (.iconst 0, 1) := by decide +kernel
theorem dX13_put_40 : decode cX13_put 40 = .ok (.istore_n 3, 1) := by decide +kernel
theorem dX13_put_41 : decode cX13_put 41 = .ok (.iload_n 3, 1) := by decide +kernel
theorem dX13_put_42 : decode cX13_put 42 = .ok (.iload_n 2, 1) := by decide +kernel
theorem dX13_put_43 : decode cX13_put 43 = .ok (.if_icmp .ge 34, 3) := by decide +kernel
theorem dX13_put_46 : decode cX13_put 46 = .ok (.aload_n 0, 1) := by decide +kernel
theorem dX13_put_47 : decode cX13_put 47 = .ok (.getfield 64, 3) := by decide +kernel
theorem dX13_put_50 : decode cX13_put 50 = .ok (.aload_n 0, 1) := by decide +kernel
theorem dX13_put_51 : decode cX13_put 51 = .ok (.getfield 288, 3) := by decide +kernel
theorem dX13_put_54 : decode cX13_put 54 = .ok (.iload_n 2, 1) := by decide +kernel
theorem dX13_put_55 : decode cX13_put 55 = .ok (.iadd, 1) := by decide +kernel
theorem dX13_put_56 : decode cX13_put 56 = .ok (.iconst 1, 1) := by decide +kernel
theorem dX13_put_57 : decode cX13_put 57 = .ok (.isub, 1) := by decide +kernel
theorem dX13_put_58 : decode cX13_put 58 = .ok (.iload_n 3, 1) := by decide +kernel
theorem dX13_put_59 : decode cX13_put 59 = .ok (.iadd, 1) := by decide +kernel
theorem dX13_put_60 : decode cX13_put 60 = .ok (.iload_n 1, 1) := by decide +kernel
theorem dX13_put_61 : decode cX13_put 61 = .ok (.iload_n 2, 1) := by decide +kernel
theorem dX13_put_62 : decode cX13_put 62 = .ok (.iconst 1, 1) := by decide +kernel
theorem dX13_put_63 : decode cX13_put 63 = .ok (.isub, 1) := by decide +kernel
theorem dX13_put_64 : decode cX13_put 64 = .ok (.iload_n 3, 1) := by decide +kernel
theorem dX13_put_65 : decode cX13_put 65 = .ok (.isub, 1) := by decide +kernel
theorem dX13_put_66 : decode cX13_put 66 = .ok (.ishr, 1) := by decide +kernel
theorem dX13_put_67 : decode cX13_put 67 = .ok (.iconst 1, 1) := by decide +kernel
theorem dX13_put_68 : decode cX13_put 68 = .ok (.iand, 1) := by decide +kernel
theorem dX13_put_69 : decode cX13_put 69 = .ok (.i2b, 1) := by decide +kernel
theorem dX13_put_70 : decode cX13_put 70 = .ok (.bastore, 1) := by decide +kernel
theorem dX13_put_71 : decode cX13_put 71 = .ok (.iinc 3 1, 3) := by decide +kernel
theorem dX13_put_74 : decode cX13_put 74 = .ok (.goto (-33), 3) := by decide +kernel
theorem dX13_put_77 : decode cX13_put 77 = .ok (.aload_n 0, 1) := by decide +kernel
theorem dX13_put_78 : decode cX13_put 78 = .ok (.dup, 1) := by decide +kernel
theorem dX13_put_79 : decode cX13_put 79 = .ok (.getfield 288, 3) := by decide +kernel
theorem dX13_put_82 : decode cX13_put 82 = .ok (.iconst 2, 1) := by decide +kernel
theorem dX13_put_83 : decode cX13_put 83 = .ok (.iload_n 2, 1) := by decide +kernel
theorem dX13_put_84 : decode cX13_put 84 = .ok (.imul, 1) := by decide +kernel
theorem dX13_put_85 : decode cX13_put 85 = .ok (.iconst 1, 1) := by decide +kernel
theorem dX13_put_86 : decode cX13_put 86 = .ok (.isub, 1) := by decide +kernel
theorem dX13_put_87 : decode cX13_put 87 = .ok (.iadd, 1) := by decide +kernel
theorem dX13_put_88 : decode cX13_put 88 = .ok (.putfield 288, 3) := by decide +kernel
theorem dX13_put_91 : decode cX13_put 91 = .ok (.return_, 1) := by decide +kernel
theorem dX13_layOut_0 : decode cX13_layOut 0 = .ok (.aload_n 0, 1) := by decide +kernel
theorem dX13_layOut_1 : decode cX13_layOut 1 = .ok (.iload_n 2, 1) := by decide +kernel
theorem dX13_layOut_2 : decode cX13_layOut 2 = .ok (.putfield 285, 3) := by decide +kernel
theorem dX13_layOut_5 : decode cX13_layOut 5 = .ok (.aload_n 0, 1) := by decide +kernel
theorem dX13_layOut_6 : decode cX13_layOut 6 = .ok (.iconst 0, 1) := by decide +kernel
theorem dX13_layOut_7 : decode cX13_layOut 7 = .ok (.putfield 288, 3) := by decide +kernel
theorem dX13_layOut_10 : decode cX13_layOut 10 = .ok (.iconst (-1), 1) := by decide +kernel
theorem dX13_layOut_11 : decode cX13_layOut 11 = .ok (.istore_n 3, 1) := by decide +kernel
theorem dX13_layOut_12 : decode cX13_layOut 12 = .ok (.iconst 0, 1) := by decide +kernel
theorem dX13_layOut_13 : decode cX13_layOut 13 = .ok (.istore 4, 2) := by decide +kernel
theorem dX13_layOut_15 : decode cX13_layOut 15 = .ok (.iload 4, 2) := by decide +kernel
theorem dX13_layOut_17 : decode cX13_layOut 17 = .ok (.aload_n 0, 1) := by decide +kernel
theorem dX13_layOut_18 : decode cX13_layOut 18 = .ok (.getfield 222, 3) := by decide +kernel
theorem dX13_layOut_21 : decode cX13_layOut 21 = .ok (.if_icmp .ge 113, 3) := by decide +kernel
theorem dX13_layOut_24 : decode cX13_layOut 24 = .ok (.aload_n 0, 1) := by decide +kernel
theorem dX13_layOut_25 : decode cX13_layOut 25 = .ok (.getfield 29, 3) := by decide +kernel
theorem dX13_layOut_28 : decode cX13_layOut 28 = .ok (.iload 4, 2) := by decide +kernel
theorem dX13_layOut_30 : decode cX13_layOut 30 = .ok (.baload, 1) := by decide +kernel
theorem dX13_layOut_31 : decode cX13_layOut 31 = .ok (.ifCond .eq 13, 3) := by decide +kernel
theorem dX13_layOut_34 : decode cX13_layOut 34 = .ok (.aload_n 0, 1) := by decide +kernel
theorem dX13_layOut_35 : decode cX13_layOut 35 = .ok (.iload 4, 2) := by decide +kernel
theorem dX13_layOut_37 : decode cX13_layOut 37 = .ok (.iload_n 1, 1) := by decide +kernel
theorem dX13_layOut_38 : decode cX13_layOut 38 = .ok (.invokevirtual 269, 3) := by decide +kernel
theorem dX13_layOut_41 : decode cX13_layOut 41 = .ok (.goto 4, 3) := by decide +kernel
theorem dX13_layOut_44 : decode cX13_layOut 44 = .ok (.iconst 0, 1) := by decide +kernel
theorem dX13_layOut_45 : decode cX13_layOut 45 = .ok (.istore 5, 2) := by decide +kernel
theorem dX13_layOut_47 : decode cX13_layOut 47 = .ok (.iload 5, 2) := by decide +kernel
theorem dX13_layOut_49 : decode cX13_layOut 49 = .ok (.ifCond .ne 6, 3) := by decide +kernel
theorem dX13_layOut_52 : decode cX13_layOut 52 = .ok (.goto 76, 3) := by decide +kernel
theorem dX13_layOut_55 : decode cX13_layOut 55 = .ok (.aload_n 0, 1) := by decide +kernel
theorem dX13_layOut_56 : decode cX13_layOut 56 = .ok (.iload 4, 2) := by decide +kernel
theorem dX13_layOut_58 : decode cX13_layOut 58 = .ok (.iload_n 3, 1) := by decide +kernel
theorem dX13_layOut_59 : decode cX13_layOut 59 = .ok (.isub, 1) := by decide +kernel
theorem dX13_layOut_60 : decode cX13_layOut 60 = .ok (.invokevirtual 291, 3) := by decide +kernel
theorem dX13_layOut_63 : decode cX13_layOut 63 = .ok (.iload 4, 2) := by decide +kernel
theorem dX13_layOut_65 : decode cX13_layOut 65 = .ok (.istore_n 3, 1) := by decide +kernel
theorem dX13_layOut_66 : decode cX13_layOut 66 = .ok (.aload_n 0, 1) := by decide +kernel
theorem dX13_layOut_67 : decode cX13_layOut 67 = .ok (.iload 5, 2) := by decide +kernel
theorem dX13_layOut_69 : decode cX13_layOut 69 = .ok (.invokevirtual 291, 3) := by decide +kernel
theorem dX13_layOut_72 : decode cX13_layOut 72 = .ok (.iconst (-1), 1) := by decide +kernel
theorem dX13_layOut_73 : decode cX13_layOut 73 = .ok (.istore 6, 2) := by decide +kernel
theorem dX13_layOut_75 : decode cX13_layOut 75 = .ok (.iconst 0, 1) := by decide +kernel
theorem dX13_layOut_76 : decode cX13_layOut 76 = .ok (.istore 7, 2) := by decide +kernel
theorem dX13_layOut_78 : decode cX13_layOut 78 = .ok (.iload 7, 2) := by decide +kernel
theorem dX13_layOut_80 : decode cX13_layOut 80 = .ok (.sipush 1024, 3) := by decide +kernel
theorem dX13_layOut_83 : decode cX13_layOut 83 = .ok (.if_icmp .ge 45, 3) := by decide +kernel
theorem dX13_layOut_86 : decode cX13_layOut 86 = .ok (.aload_n 0, 1) := by decide +kernel
theorem dX13_layOut_87 : decode cX13_layOut 87 = .ok (.getfield 21, 3) := by decide +kernel
theorem dX13_layOut_90 : decode cX13_layOut 90 = .ok (.sipush 1024, 3) := by decide +kernel
theorem dX13_layOut_93 : decode cX13_layOut 93 = .ok (.iload 4, 2) := by decide +kernel
theorem dX13_layOut_95 : decode cX13_layOut 95 = .ok (.imul, 1) := by decide +kernel
theorem dX13_layOut_96 : decode cX13_layOut 96 = .ok (.iload 7, 2) := by decide +kernel
theorem dX13_layOut_98 : decode cX13_layOut 98 = .ok (.iadd, 1) := by decide +kernel
theorem dX13_layOut_99 : decode cX13_layOut 99 = .ok (.saload, 1) := by decide +kernel
theorem dX13_layOut_100 : decode cX13_layOut 100 = .ok (.iload_n 1, 1) := by decide +kernel
theorem dX13_layOut_101 : decode cX13_layOut 101 = .ok (.iconst 1, 1) := by decide +kernel
theorem dX13_layOut_102 : decode cX13_layOut 102 = .ok (.iadd, 1) := by decide +kernel
theorem dX13_layOut_103 : decode cX13_layOut 103 = .ok (.if_icmp .eq 6, 3) := by decide +kernel
theorem dX13_layOut_106 : decode cX13_layOut 106 = .ok (.goto 16, 3) := by decide +kernel
theorem dX13_layOut_109 : decode cX13_layOut 109 = .ok (.aload_n 0, 1) := by decide +kernel
theorem dX13_layOut_110 : decode cX13_layOut 110 = .ok (.iload 7, 2) := by decide +kernel
theorem dX13_layOut_112 : decode cX13_layOut 112 = .ok (.iload 6, 2) := by decide +kernel
theorem dX13_layOut_114 : decode cX13_layOut 114 = .ok (.isub, 1) := by decide +kernel
theorem dX13_layOut_115 : decode cX13_layOut 115 = .ok (.invokevirtual 291, 3) := by decide +kernel
theorem dX13_layOut_118 : decode cX13_layOut 118 = .ok (.iload 7, 2) := by decide +kernel
theorem dX13_layOut_120 : decode cX13_layOut 120 = .ok (.istore 6, 2) := by decide +kernel
theorem dX13_layOut_122 : decode cX13_layOut 122 = .ok (.iinc 7 1, 3) := by decide +kernel
theorem dX13_layOut_125 : decode cX13_layOut 125 = .ok (.goto (-47), 3) := by decide +kernel
theorem dX13_layOut_128 : decode cX13_layOut 128 = .ok (.iinc 4 1, 3) := by decide +kernel
theorem dX13_layOut_131 : decode cX13_layOut 131 = .ok (.goto (-116), 3) := by decide +kernel
theorem dX13_layOut_134 : decode cX13_layOut 134 = .ok (.aload_n 0, 1) := by decide +kernel
theorem dX13_layOut_135 : decode cX13_layOut 135 = .ok (.getfield 288, 3) := by decide +kernel
theorem dX13_layOut_138 : decode cX13_layOut 138 = .ok (.ireturn, 1) := by decide +kernel
theorem dX13_chunks_0 : decode cX13_chunks 0 = .ok (.iconst 0, 1) := by decide +kernel
theorem dX13_chunks_1 : decode cX13_chunks 1 = .ok (.istore_n 1, 1) := by decide +kernel
theorem dX13_chunks_2 : decode cX13_chunks 2 = .ok (.iload_n 0, 1) := by decide +kernel
theorem dX13_chunks_3 : decode cX13_chunks 3 = .ok (.istore_n 2, 1) := by decide +kernel
theorem dX13_chunks_4 : decode cX13_chunks 4 = .ok (.bipush 32, 2) := by decide +kernel
theorem dX13_chunks_6 : decode cX13_chunks 6 = .ok (.istore_n 3, 1) := by decide +kernel
theorem dX13_chunks_7 : decode cX13_chunks 7 = .ok (.iload_n 2, 1) := by decide +kernel
theorem dX13_chunks_8 : decode cX13_chunks 8 = .ok (.ifCond .le 23, 3) := by decide +kernel
theorem dX13_chunks_11 : decode cX13_chunks 11 = .ok (.iload_n 2, 1) := by decide +kernel
theorem dX13_chunks_12 : decode cX13_chunks 12 = .ok (.iload_n 3, 1) := by decide +kernel
theorem dX13_chunks_13 : decode cX13_chunks 13 = .ok (.isub, 1) := by decide +kernel
theorem dX13_chunks_14 : decode cX13_chunks 14 = .ok (.istore_n 2, 1) := by decide +kernel
theorem dX13_chunks_15 : decode cX13_chunks 15 = .ok (.sipush 256, 3) := by decide +kernel
theorem dX13_chunks_18 : decode cX13_chunks 18 = .ok (.iconst 2, 1) := by decide +kernel
theorem dX13_chunks_19 : decode cX13_chunks 19 = .ok (.iload_n 3, 1) := by decide +kernel
theorem dX13_chunks_20 : decode cX13_chunks 20 = .ok (.imul, 1) := by decide +kernel
theorem dX13_chunks_21 : decode cX13_chunks 21 = .ok (.invokestatic 241, 3) := by decide +kernel
theorem dX13_chunks_24 : decode cX13_chunks 24 = .ok (.istore_n 3, 1) := by decide +kernel
theorem dX13_chunks_25 : decode cX13_chunks 25 = .ok (.iinc 1 1, 3) := by decide +kernel
theorem dX13_chunks_28 : decode cX13_chunks 28 = .ok (.goto (-21), 3) := by decide +kernel
theorem dX13_chunks_31 : decode cX13_chunks 31 = .ok (.iload_n 1, 1) := by decide +kernel
theorem dX13_chunks_32 : decode cX13_chunks 32 = .ok (.ireturn, 1) := by decide +kernel
theorem dX13_cost_0 : decode cX13_cost 0 = .ok (.iconst 0, 1) := by decide +kernel
theorem dX13_cost_1 : decode cX13_cost 1 = .ok (.istore_n 1, 1) := by decide +kernel
theorem dX13_cost_2 : decode cX13_cost 2 = .ok (.iload_n 0, 1) := by decide +kernel
theorem dX13_cost_3 : decode cX13_cost 3 = .ok (.istore_n 2, 1) := by decide +kernel
theorem dX13_cost_4 : decode cX13_cost 4 = .ok (.bipush 32, 2) := by decide +kernel
theorem dX13_cost_6 : decode cX13_cost 6 = .ok (.istore_n 3, 1) := by decide +kernel
theorem dX13_cost_7 : decode cX13_cost 7 = .ok (.iload_n 2, 1) := by decide +kernel
theorem dX13_cost_8 : decode cX13_cost 8 = .ok (.ifCond .le 27, 3) := by decide +kernel
theorem dX13_cost_11 : decode cX13_cost 11 = .ok (.iload_n 1, 1) := by decide +kernel
theorem dX13_cost_12 : decode cX13_cost 12 = .ok (.iload_n 3, 1) := by decide +kernel
theorem dX13_cost_13 : decode cX13_cost 13 = .ok (.bipush 16, 2) := by decide +kernel
theorem dX13_cost_15 : decode cX13_cost 15 = .ok (.iadd, 1) := by decide +kernel
theorem dX13_cost_16 : decode cX13_cost 16 = .ok (.iadd, 1) := by decide +kernel
theorem dX13_cost_17 : decode cX13_cost 17 = .ok (.istore_n 1, 1) := by decide +kernel
theorem dX13_cost_18 : decode cX13_cost 18 = .ok (.iload_n 2, 1) := by decide +kernel
theorem dX13_cost_19 : decode cX13_cost 19 = .ok (.iload_n 3, 1) := by decide +kernel
theorem dX13_cost_20 : decode cX13_cost 20 = .ok (.isub, 1) := by decide +kernel
theorem dX13_cost_21 : decode cX13_cost 21 = .ok (.istore_n 2, 1) := by decide +kernel
theorem dX13_cost_22 : decode cX13_cost 22 = .ok (.sipush 256, 3) := by decide +kernel
theorem dX13_cost_25 : decode cX13_cost 25 = .ok (.iconst 2, 1) := by decide +kernel
theorem dX13_cost_26 : decode cX13_cost 26 = .ok (.iload_n 3, 1) := by decide +kernel
theorem dX13_cost_27 : decode cX13_cost 27 = .ok (.imul, 1) := by decide +kernel
theorem dX13_cost_28 : decode cX13_cost 28 = .ok (.invokestatic 241, 3) := by decide +kernel
theorem dX13_cost_31 : decode cX13_cost 31 = .ok (.istore_n 3, 1) := by decide +kernel
theorem dX13_cost_32 : decode cX13_cost 32 = .ok (.goto (-25), 3) := by decide +kernel
theorem dX13_cost_35 : decode cX13_cost 35 = .ok (.iload_n 1, 1) := by decide +kernel
theorem dX13_cost_36 : decode cX13_cost 36 = .ok (.ireturn, 1) := by decide +kernel
theorem dX13_measure_0 : decode cX13_measure 0 = .ok (.iconst 0, 1) := by decide +kernel
theorem dX13_measure_1 : decode cX13_measure 1 = .ok (.istore_n 1, 1) := by decide +kernel
theorem dX13_measure_2 : decode cX13_measure 2 = .ok (.iload_n 1, 1) := by decide +kernel
theorem dX13_measure_3 : decode cX13_measure 3 = .ok (.aload_n 0, 1) := by decide +kernel
theorem dX13_measure_4 : decode cX13_measure 4 = .ok (.getfield 208, 3) := by decide +kernel
theorem dX13_measure_7 : decode cX13_measure 7 = .ok (.if_icmp .ge 23, 3) := by decide +kernel
theorem dX13_measure_10 : decode cX13_measure 10 = .ok (.aload_n 0, 1) := by decide +kernel
theorem dX13_measure_11 : decode cX13_measure 11 = .ok (.getfield 67, 3) := by decide +kernel
theorem dX13_measure_14 : decode cX13_measure 14 = .ok (.iload_n 1, 1) := by decide +kernel
theorem dX13_measure_15 : decode cX13_measure 15 = .ok (.iconst 0, 1) := by decide +kernel
theorem dX13_measure_16 : decode cX13_measure 16 = .ok (.iastore, 1) := by decide +kernel
theorem dX13_measure_17 : decode cX13_measure 17 = .ok (.aload_n 0, 1) := by decide +kernel
theorem dX13_measure_18 : decode cX13_measure 18 = .ok (.getfield 70, 3) := by decide +kernel
theorem dX13_measure_21 : decode cX13_measure 21 = .ok (.iload_n 1, 1) := by decide +kernel
theorem dX13_measure_22 : decode cX13_measure 22 = .ok (.iconst (-1), 1) := by decide +kernel
theorem dX13_measure_23 : decode cX13_measure 23 = .ok (.iastore, 1) := by decide +kernel
theorem dX13_measure_24 : decode cX13_measure 24 = .ok (.iinc 1 1, 3) := by decide +kernel
theorem dX13_measure_27 : decode cX13_measure 27 = .ok (.goto (-25), 3) := by decide +kernel
theorem dX13_measure_30 : decode cX13_measure 30 = .ok (.iconst 0, 1) := by decide +kernel
theorem dX13_measure_31 : decode cX13_measure 31 = .ok (.istore_n 1, 1) := by decide +kernel
theorem dX13_measure_32 : decode cX13_measure 32 = .ok (.iload_n 1, 1) := by decide +kernel
theorem dX13_measure_33 : decode cX13_measure 33 = .ok (.aload_n 0, 1) := by decide +kernel
theorem dX13_measure_34 : decode cX13_measure 34 = .ok (.getfield 222, 3) := by decide +kernel
theorem dX13_measure_37 : decode cX13_measure 37 = .ok (.if_icmp .ge 190, 3) := by decide +kernel
theorem dX13_measure_40 : decode cX13_measure 40 = .ok (.aload_n 0, 1) := by decide +kernel
theorem dX13_measure_41 : decode cX13_measure 41 = .ok (.getfield 29, 3) := by decide +kernel
theorem dX13_measure_44 : decode cX13_measure 44 = .ok (.iload_n 1, 1) := by decide +kernel
theorem dX13_measure_45 : decode cX13_measure 45 = .ok (.baload, 1) := by decide +kernel
theorem dX13_measure_46 : decode cX13_measure 46 = .ok (.ifCond .ne 6, 3) := by decide +kernel
theorem dX13_measure_49 : decode cX13_measure 49 = .ok (.goto 172, 3) := by decide +kernel
theorem dX13_measure_52 : decode cX13_measure 52 = .ok (.iconst 0, 1) := by decide +kernel
theorem dX13_measure_53 : decode cX13_measure 53 = .ok (.istore_n 2, 1) := by decide +kernel
theorem dX13_measure_54 : decode cX13_measure 54 = .ok (.iload_n 2, 1) := by decide +kernel
theorem dX13_measure_55 : decode cX13_measure 55 = .ok (.aload_n 0, 1) := by decide +kernel
theorem dX13_measure_56 : decode cX13_measure 56 = .ok (.getfield 208, 3) := by decide +kernel
theorem dX13_measure_59 : decode cX13_measure 59 = .ok (.if_icmp .ge 23, 3) := by decide +kernel
theorem dX13_measure_62 : decode cX13_measure 62 = .ok (.aload_n 0, 1) := by decide +kernel
theorem dX13_measure_63 : decode cX13_measure 63 = .ok (.getfield 76, 3) := by decide +kernel
theorem dX13_measure_66 : decode cX13_measure 66 = .ok (.iload_n 2, 1) := by decide +kernel
theorem dX13_measure_67 : decode cX13_measure 67 = .ok (.iconst 0, 1) := by decide +kernel
theorem dX13_measure_68 : decode cX13_measure 68 = .ok (.iastore, 1) := by decide +kernel
theorem dX13_measure_69 : decode cX13_measure 69 = .ok (.aload_n 0, 1) := by decide +kernel
theorem dX13_measure_70 : decode cX13_measure 70 = .ok (.getfield 73, 3) := by decide +kernel
theorem dX13_measure_73 : decode cX13_measure 73 = .ok (.iload_n 2, 1) := by decide +kernel
theorem dX13_measure_74 : decode cX13_measure 74 = .ok (.iconst (-1), 1) := by decide +kernel
theorem dX13_measure_75 : decode cX13_measure 75 = .ok (.iastore, 1) := by decide +kernel
theorem dX13_measure_76 : decode cX13_measure 76 = .ok (.iinc 2 1, 3) := by decide +kernel
theorem dX13_measure_79 : decode cX13_measure 79 = .ok (.goto (-25), 3) := by decide +kernel
theorem dX13_measure_82 : decode cX13_measure 82 = .ok (.iconst 0, 1) := by decide +kernel
theorem dX13_measure_83 : decode cX13_measure 83 = .ok (.istore_n 2, 1) := by decide +kernel
theorem dX13_measure_84 : decode cX13_measure 84 = .ok (.iload_n 2, 1) := by decide +kernel
theorem dX13_measure_85 : decode cX13_measure 85 = .ok (.sipush 1024, 3) := by decide +kernel
theorem dX13_measure_88 : decode cX13_measure 88 = .ok (.if_icmp .ge 68, 3) := by decide +kernel
theorem dX13_measure_91 : decode cX13_measure 91 = .ok (.aload_n 0, 1) := by decide +kernel
theorem dX13_measure_92 : decode cX13_measure 92 = .ok (.getfield 21, 3) := by decide +kernel
theorem dX13_measure_95 : decode cX13_measure 95 = .ok (.sipush 1024, 3) := by decide +kernel
theorem dX13_measure_98 : decode cX13_measure 98 = .ok (.iload_n 1, 1) := by decide +kernel
theorem dX13_measure_99 : decode cX13_measure 99 = .ok (.imul, 1) := by decide +kernel
theorem dX13_measure_100 : decode cX13_measure 100 = .ok (.iload_n 2, 1) := by decide +kernel
theorem dX13_measure_101 : decode cX13_measure 101 = .ok (.iadd, 1) := by decide +kernel
theorem dX13_measure_102 : decode cX13_measure 102 = .ok (.saload, 1) := by decide +kernel
theorem dX13_measure_103 : decode cX13_measure 103 = .ok (.iconst 1, 1) := by decide +kernel
theorem dX13_measure_104 : decode cX13_measure 104 = .ok (.isub, 1) := by decide +kernel
theorem dX13_measure_105 : decode cX13_measure 105 = .ok (.istore_n 3, 1) := by decide +kernel
theorem dX13_measure_106 : decode cX13_measure 106 = .ok (.iload_n 3, 1) := by decide +kernel
theorem dX13_measure_107 : decode cX13_measure 107 = .ok (.ifCond .ge 6, 3) := by decide +kernel
theorem dX13_measure_110 : decode cX13_measure 110 = .ok (.goto 40, 3) := by decide +kernel
theorem dX13_measure_113 : decode cX13_measure 113 = .ok (.aload_n 0, 1) := by decide +kernel
theorem dX13_measure_114 : decode cX13_measure 114 = .ok (.getfield 76, 3) := by decide +kernel
theorem dX13_measure_117 : decode cX13_measure 117 = .ok (.iload_n 3, 1) := by decide +kernel
theorem dX13_measure_118 : decode cX13_measure 118 = .ok (.dup2, 1) := by decide +kernel
theorem dX13_measure_119 : decode cX13_measure 119 = .ok (.iaload, 1) := by decide +kernel
theorem dX13_measure_120 : decode cX13_measure 120 = .ok (.iconst 1, 1) := by decide +kernel
theorem dX13_measure_121 : decode cX13_measure 121 = .ok (.iadd, 1) := by decide +kernel
theorem dX13_measure_122 : decode cX13_measure 122 = .ok (.iastore, 1) := by decide +kernel
theorem dX13_measure_123 : decode cX13_measure 123 = .ok (.aload_n 0, 1) := by decide +kernel
theorem dX13_measure_124 : decode cX13_measure 124 = .ok (.getfield 67, 3) := by decide +kernel
theorem dX13_measure_127 : decode cX13_measure 127 = .ok (.iload_n 3, 1) := by decide +kernel
theorem dX13_measure_128 : decode cX13_measure 128 = .ok (.dup2, 1) := by decide +kernel
theorem dX13_measure_129 : decode cX13_measure 129 = .ok (.iaload, 1) := by decide +kernel
theorem dX13_measure_130 : decode cX13_measure 130 = .ok (.iload_n 2, 1) := by decide +kernel
theorem dX13_measure_131 : decode cX13_measure 131 = .ok (.aload_n 0, 1) := by decide +kernel
theorem dX13_measure_132 : decode cX13_measure 132 = .ok (.getfield 73, 3) := by decide +kernel
theorem dX13_measure_135 : decode cX13_measure 135 = .ok (.iload_n 3, 1) := by decide +kernel
theorem dX13_measure_136 : decode cX13_measure 136 = .ok (.iaload, 1) := by decide +kernel
theorem dX13_measure_137 : decode cX13_measure 137 = .ok (.isub, 1) := by decide +kernel
theorem dX13_measure_138 : decode cX13_measure 138 = .ok (.invokestatic 294, 3) := by decide +kernel
theorem dX13_measure_141 : decode cX13_measure 141 = .ok (.iadd, 1) := by decide +kernel
theorem dX13_measure_142 : decode cX13_measure 142 = .ok (.iastore, 1) := by decide +kernel
theorem dX13_measure_143 : decode cX13_measure 143 = .ok (.aload_n 0, 1) := by decide +kernel
theorem dX13_measure_144 : decode cX13_measure 144 = .ok (.getfield 73, 3) := by decide +kernel
theorem dX13_measure_147 : decode cX13_measure 147 = .ok (.iload_n 3, 1) := by decide +kernel
theorem dX13_measure_148 : decode cX13_measure 148 = .ok (.iload_n 2, 1) := by decide +kernel
theorem dX13_measure_149 : decode cX13_measure 149 = .ok (.iastore, 1) := by decide +kernel
theorem dX13_measure_150 : decode cX13_measure 150 = .ok (.iinc 2 1, 3) := by decide +kernel
theorem dX13_measure_153 : decode cX13_measure 153 = .ok (.goto (-69), 3) := by decide +kernel
theorem dX13_measure_156 : decode cX13_measure 156 = .ok (.iconst 0, 1) := by decide +kernel
theorem dX13_measure_157 : decode cX13_measure 157 = .ok (.istore_n 2, 1) := by decide +kernel
theorem dX13_measure_158 : decode cX13_measure 158 = .ok (.iload_n 2, 1) := by decide +kernel
theorem dX13_measure_159 : decode cX13_measure 159 = .ok (.aload_n 0, 1) := by decide +kernel
theorem dX13_measure_160 : decode cX13_measure 160 = .ok (.getfield 208, 3) := by decide +kernel
theorem dX13_measure_163 : decode cX13_measure 163 = .ok (.if_icmp .ge 58, 3) := by decide +kernel
theorem dX13_measure_166 : decode cX13_measure 166 = .ok (.aload_n 0, 1) := by decide +kernel
theorem dX13_measure_167 : decode cX13_measure 167 = .ok (.getfield 76, 3) := by decide +kernel
theorem dX13_measure_170 : decode cX13_measure 170 = .ok (.iload_n 2, 1) := by decide +kernel
theorem dX13_measure_171 : decode cX13_measure 171 = .ok (.iaload, 1) := by decide +kernel
theorem dX13_measure_172 : decode cX13_measure 172 = .ok (.ifCond .ne 6, 3) := by decide +kernel
theorem dX13_measure_175 : decode cX13_measure 175 = .ok (.goto 40, 3) := by decide +kernel
theorem dX13_measure_178 : decode cX13_measure 178 = .ok (.aload_n 0, 1) := by decide +kernel
theorem dX13_measure_179 : decode cX13_measure 179 = .ok (.getfield 67, 3) := by decide +kernel
theorem dX13_measure_182 : decode cX13_measure 182 = .ok (.iload_n 2, 1) := by decide +kernel
theorem dX13_measure_183 : decode cX13_measure 183 = .ok (.dup2, 1) := by decide +kernel
theorem dX13_measure_184 : decode cX13_measure 184 = .ok (.iaload, 1) := by decide +kernel
theorem dX13_measure_185 : decode cX13_measure 185 = .ok (.iload_n 1, 1) := by decide +kernel
theorem dX13_measure_186 : decode cX13_measure 186 = .ok (.aload_n 0, 1) := by decide +kernel
theorem dX13_measure_187 : decode cX13_measure 187 = .ok (.getfield 70, 3) := by decide +kernel
theorem dX13_measure_190 : decode cX13_measure 190 = .ok (.iload_n 2, 1) := by decide +kernel
theorem dX13_measure_191 : decode cX13_measure 191 = .ok (.iaload, 1) := by decide +kernel
theorem dX13_measure_192 : decode cX13_measure 192 = .ok (.isub, 1) := by decide +kernel
theorem dX13_measure_193 : decode cX13_measure 193 = .ok (.invokestatic 294, 3) := by decide +kernel
theorem dX13_measure_196 : decode cX13_measure 196 = .ok (.aload_n 0, 1) := by decide +kernel
theorem dX13_measure_197 : decode cX13_measure 197 = .ok (.getfield 76, 3) := by decide +kernel
theorem dX13_measure_200 : decode cX13_measure 200 = .ok (.iload_n 2, 1) := by decide +kernel
theorem dX13_measure_201 : decode cX13_measure 201 = .ok (.iaload, 1) := by decide +kernel
theorem dX13_measure_202 : decode cX13_measure 202 = .ok (.invokestatic 294, 3) := by decide +kernel
theorem dX13_measure_205 : decode cX13_measure 205 = .ok (.iadd, 1) := by decide +kernel
theorem dX13_measure_206 : decode cX13_measure 206 = .ok (.iadd, 1) := by decide +kernel
theorem dX13_measure_207 : decode cX13_measure 207 = .ok (.iastore, 1) := by decide +kernel
theorem dX13_measure_208 : decode cX13_measure 208 = .ok (.aload_n 0, 1) := by decide +kernel
theorem dX13_measure_209 : decode cX13_measure 209 = .ok (.getfield 70, 3) := by decide +kernel
theorem dX13_measure_212 : decode cX13_measure 212 = .ok (.iload_n 2, 1) := by decide +kernel
theorem dX13_measure_213 : decode cX13_measure 213 = .ok (.iload_n 1, 1) := by decide +kernel
theorem dX13_measure_214 : decode cX13_measure 214 = .ok (.iastore, 1) := by decide +kernel
theorem dX13_measure_215 : decode cX13_measure 215 = .ok (.iinc 2 1, 3) := by decide +kernel
theorem dX13_measure_218 : decode cX13_measure 218 = .ok (.goto (-60), 3) := by decide +kernel
theorem dX13_measure_221 : decode cX13_measure 221 = .ok (.iinc 1 1, 3) := by decide +kernel
theorem dX13_measure_224 : decode cX13_measure 224 = .ok (.goto (-192), 3) := by decide +kernel
theorem dX13_measure_227 : decode cX13_measure 227 = .ok (.return_, 1) := by decide +kernel
theorem dX13_taken_0 : decode cX13_taken 0 = .ok (.aload_n 0, 1) := by decide +kernel
theorem dX13_taken_1 : decode cX13_taken 1 = .ok (.invokevirtual 297, 3) := by decide +kernel
theorem dX13_taken_4 : decode cX13_taken 4 = .ok (.iconst 0, 1) := by decide +kernel
theorem dX13_taken_5 : decode cX13_taken 5 = .ok (.istore_n 1, 1) := by decide +kernel
theorem dX13_taken_6 : decode cX13_taken 6 = .ok (.iconst 0, 1) := by decide +kernel
theorem dX13_taken_7 : decode cX13_taken 7 = .ok (.istore_n 2, 1) := by decide +kernel
theorem dX13_taken_8 : decode cX13_taken 8 = .ok (.iload_n 2, 1) := by decide +kernel
theorem dX13_taken_9 : decode cX13_taken 9 = .ok (.aload_n 0, 1) := by decide +kernel
theorem dX13_taken_10 : decode cX13_taken 10 = .ok (.getfield 208, 3) := by decide +kernel
theorem dX13_taken_13 : decode cX13_taken 13 = .ok (.if_icmp .ge 21, 3) := by decide +kernel
theorem dX13_taken_16 : decode cX13_taken 16 = .ok (.iload_n 1, 1) := by decide +kernel
theorem dX13_taken_17 : decode cX13_taken 17 = .ok (.aload_n 0, 1) := by decide +kernel
theorem dX13_taken_18 : decode cX13_taken 18 = .ok (.getfield 67, 3) := by decide +kernel
theorem dX13_taken_21 : decode cX13_taken 21 = .ok (.iload_n 2, 1) := by decide +kernel
theorem dX13_taken_22 : decode cX13_taken 22 = .ok (.iaload, 1) := by decide +kernel
theorem dX13_taken_23 : decode cX13_taken 23 = .ok (.invokestatic 300, 3) := by decide +kernel
theorem dX13_taken_26 : decode cX13_taken 26 = .ok (.iadd, 1) := by decide +kernel
theorem dX13_taken_27 : decode cX13_taken 27 = .ok (.istore_n 1, 1) := by decide +kernel
theorem dX13_taken_28 : decode cX13_taken 28 = .ok (.iinc 2 1, 3) := by decide +kernel
theorem dX13_taken_31 : decode cX13_taken 31 = .ok (.goto (-23), 3) := by decide +kernel
theorem dX13_taken_34 : decode cX13_taken 34 = .ok (.iload_n 1, 1) := by decide +kernel
theorem dX13_taken_35 : decode cX13_taken 35 = .ok (.ireturn, 1) := by decide +kernel
theorem dX13_allBits_0 : decode cX13_allBits 0 = .ok (.aload_n 0, 1) := by decide +kernel
theorem dX13_allBits_1 : decode cX13_allBits 1 = .ok (.invokevirtual 297, 3) := by decide +kernel
theorem dX13_allBits_4 : decode cX13_allBits 4 = .ok (.iconst 0, 1) := by decide +kernel
theorem dX13_allBits_5 : decode cX13_allBits 5 = .ok (.istore_n 1, 1) := by decide +kernel
theorem dX13_allBits_6 : decode cX13_allBits 6 = .ok (.iconst 0, 1) := by decide +kernel
theorem dX13_allBits_7 : decode cX13_allBits 7 = .ok (.istore_n 2, 1) := by decide +kernel
theorem dX13_allBits_8 : decode cX13_allBits 8 = .ok (.iload_n 2, 1) := by decide +kernel
theorem dX13_allBits_9 : decode cX13_allBits 9 = .ok (.aload_n 0, 1) := by decide +kernel
theorem dX13_allBits_10 : decode cX13_allBits 10 = .ok (.getfield 208, 3) := by decide +kernel
theorem dX13_allBits_13 : decode cX13_allBits 13 = .ok (.if_icmp .ge 18, 3) := by decide +kernel
theorem dX13_allBits_16 : decode cX13_allBits 16 = .ok (.iload_n 1, 1) := by decide +kernel
theorem dX13_allBits_17 : decode cX13_allBits 17 = .ok (.aload_n 0, 1) := by decide +kernel
theorem dX13_allBits_18 : decode cX13_allBits 18 = .ok (.getfield 67, 3) := by decide +kernel
theorem dX13_allBits_21 : decode cX13_allBits 21 = .ok (.iload_n 2, 1) := by decide +kernel
theorem dX13_allBits_22 : decode cX13_allBits 22 = .ok (.iaload, 1) := by decide +kernel
theorem dX13_allBits_23 : decode cX13_allBits 23 = .ok (.iadd, 1) := by decide +kernel
theorem dX13_allBits_24 : decode cX13_allBits 24 = .ok (.istore_n 1, 1) := by decide +kernel
theorem dX13_allBits_25 : decode cX13_allBits 25 = .ok (.iinc 2 1, 3) := by decide +kernel
theorem dX13_allBits_28 : decode cX13_allBits 28 = .ok (.goto (-20), 3) := by decide +kernel
theorem dX13_allBits_31 : decode cX13_allBits 31 = .ok (.iload_n 1, 1) := by decide +kernel
theorem dX13_allBits_32 : decode cX13_allBits 32 = .ok (.ireturn, 1) := by decide +kernel
theorem dX13_lookAt_0 : decode cX13_lookAt 0 = .ok (.iconst 0, 1) := by decide +kernel
theorem dX13_lookAt_1 : decode cX13_lookAt 1 = .ok (.istore_n 1, 1) := by decide +kernel
theorem dX13_lookAt_2 : decode cX13_lookAt 2 = .ok (.iload_n 1, 1) := by decide +kernel
theorem dX13_lookAt_3 : decode cX13_lookAt 3 = .ok (.aload_n 0, 1) := by decide +kernel
theorem dX13_lookAt_4 : decode cX13_lookAt 4 = .ok (.getfield 193, 3) := by decide +kernel
theorem dX13_lookAt_7 : decode cX13_lookAt 7 = .ok (.if_icmp .ge 21, 3) := by decide +kernel
theorem dX13_lookAt_10 : decode cX13_lookAt 10 = .ok (.aload_n 0, 1) := by decide +kernel
theorem dX13_lookAt_11 : decode cX13_lookAt 11 = .ok (.getfield 53, 3) := by decide +kernel
theorem dX13_lookAt_14 : decode cX13_lookAt 14 = .ok (.iload_n 1, 1) := by decide +kernel
theorem dX13_lookAt_15 : decode cX13_lookAt 15 = .ok (.aload_n 0, 1) := by decide +kernel
theorem dX13_lookAt_16 : decode cX13_lookAt 16 = .ok (.getfield 60, 3) := by decide +kernel
theorem dX13_lookAt_19 : decode cX13_lookAt 19 = .ok (.iload_n 1, 1) := by decide +kernel
theorem dX13_lookAt_20 : decode cX13_lookAt 20 = .ok (.baload, 1) := by decide +kernel
theorem dX13_lookAt_21 : decode cX13_lookAt 21 = .ok (.bastore, 1) := by decide +kernel
theorem dX13_lookAt_22 : decode cX13_lookAt 22 = .ok (.iinc 1 1, 3) := by decide +kernel
theorem dX13_lookAt_25 : decode cX13_lookAt 25 = .ok (.goto (-23), 3) := by decide +kernel
theorem dX13_lookAt_28 : decode cX13_lookAt 28 = .ok (.aload_n 0, 1) := by decide +kernel
theorem dX13_lookAt_29 : decode cX13_lookAt 29 = .ok (.aload_n 0, 1) := by decide +kernel
theorem dX13_lookAt_30 : decode cX13_lookAt 30 = .ok (.getfield 193, 3) := by decide +kernel
theorem dX13_lookAt_33 : decode cX13_lookAt 33 = .ok (.putfield 56, 3) := by decide +kernel
theorem dX13_lookAt_36 : decode cX13_lookAt 36 = .ok (.return_, 1) := by decide +kernel
theorem dX13_lookedWord_0 : decode cX13_lookedWord 0 = .ok (.aload_n 0, 1) := by decide +kernel
theorem dX13_lookedWord_1 : decode cX13_lookedWord 1 = .ok (.getfield 56, 3) := by decide +kernel
theorem dX13_lookedWord_4 : decode cX13_lookedWord 4 = .ok (.ifCond .gt 5, 3) := by decide +kernel
theorem dX13_lookedWord_7 : decode cX13_lookedWord 7 = .ok (.iconst (-1), 1) := by decide +kernel
theorem dX13_lookedWord_8 : decode cX13_lookedWord 8 = .ok (.ireturn, 1) := by decide +kernel
theorem dX13_lookedWord_9 : decode cX13_lookedWord 9 = .ok (.aload_n 0, 1) := by decide +kernel
theorem dX13_lookedWord_10 : decode cX13_lookedWord 10 = .ok (.aload_n 0, 1) := by decide +kernel
theorem dX13_lookedWord_11 : decode cX13_lookedWord 11 = .ok (.getfield 56, 3) := by decide +kernel
theorem dX13_lookedWord_14 : decode cX13_lookedWord 14 = .ok (.putfield 193, 3) := by decide +kernel
theorem dX13_lookedWord_17 : decode cX13_lookedWord 17 = .ok (.iconst 0, 1) := by decide +kernel
theorem dX13_lookedWord_18 : decode cX13_lookedWord 18 = .ok (.istore_n 1, 1) := by decide +kernel
theorem dX13_lookedWord_19 : decode cX13_lookedWord 19 = .ok (.iload_n 1, 1) := by decide +kernel
theorem dX13_lookedWord_20 : decode cX13_lookedWord 20 = .ok (.aload_n 0, 1) := by decide +kernel
theorem dX13_lookedWord_21 : decode cX13_lookedWord 21 = .ok (.getfield 193, 3) := by decide +kernel
theorem dX13_lookedWord_24 : decode cX13_lookedWord 24 = .ok (.if_icmp .ge 21, 3) := by decide +kernel
theorem dX13_lookedWord_27 : decode cX13_lookedWord 27 = .ok (.aload_n 0, 1) := by decide +kernel
theorem dX13_lookedWord_28 : decode cX13_lookedWord 28 = .ok (.getfield 60, 3) := by decide +kernel
theorem dX13_lookedWord_31 : decode cX13_lookedWord 31 = .ok (.iload_n 1, 1) := by decide +kernel
theorem dX13_lookedWord_32 : decode cX13_lookedWord 32 = .ok (.aload_n 0, 1) := by decide +kernel
theorem dX13_lookedWord_33 : decode cX13_lookedWord 33 = .ok (.getfield 53, 3) := by decide +kernel
theorem dX13_lookedWord_36 : decode cX13_lookedWord 36 = .ok (.iload_n 1, 1) := by decide +kernel
theorem dX13_lookedWord_37 : decode cX13_lookedWord 37 = .ok (.baload, 1) := by decide +kernel
theorem dX13_lookedWord_38 : decode cX13_lookedWord 38 = .ok (.bastore, 1) := by decide +kernel
theorem dX13_lookedWord_39 : decode cX13_lookedWord 39 = .ok (.iinc 1 1, 3) := by decide +kernel
theorem dX13_lookedWord_42 : decode cX13_lookedWord 42 = .ok (.goto (-23), 3) := by decide +kernel
theorem dX13_lookedWord_45 : decode cX13_lookedWord 45 = .ok (.aload_n 0, 1) := by decide +kernel
theorem dX13_lookedWord_46 : decode cX13_lookedWord 46 = .ok (.invokevirtual 235, 3) := by decide +kernel
theorem dX13_lookedWord_49 : decode cX13_lookedWord 49 = .ok (.ireturn, 1) := by decide +kernel
theorem dX13_look_0 : decode cX13_look 0 = .ok (.aload_n 0, 1) := by decide +kernel
theorem dX13_look_1 : decode cX13_look 1 = .ok (.iconst 0, 1) := by decide +kernel
theorem dX13_look_2 : decode cX13_look 2 = .ok (.putfield 170, 3) := by decide +kernel
theorem dX13_look_5 : decode cX13_look 5 = .ok (.aload_n 0, 1) := by decide +kernel
theorem dX13_look_6 : decode cX13_look 6 = .ok (.invokevirtual 275, 3) := by decide +kernel
theorem dX13_look_9 : decode cX13_look 9 = .ok (.ifCond .ne 10, 3) := by decide +kernel
theorem dX13_look_12 : decode cX13_look 12 = .ok (.aload_n 0, 1) := by decide +kernel
theorem dX13_look_13 : decode cX13_look 13 = .ok (.iconst 0, 1) := by decide +kernel
theorem dX13_look_14 : decode cX13_look 14 = .ok (.putfield 56, 3) := by decide +kernel
theorem dX13_look_17 : decode cX13_look 17 = .ok (.iconst 0, 1) := by decide +kernel
theorem dX13_look_18 : decode cX13_look 18 = .ok (.ireturn, 1) := by decide +kernel
theorem dX13_look_19 : decode cX13_look 19 = .ok (.aload_n 0, 1) := by decide +kernel
theorem dX13_look_20 : decode cX13_look 20 = .ok (.invokevirtual 303, 3) := by decide +kernel
theorem dX13_look_23 : decode cX13_look 23 = .ok (.aload_n 0, 1) := by decide +kernel
theorem dX13_look_24 : decode cX13_look 24 = .ok (.invokevirtual 235, 3) := by decide +kernel
theorem dX13_look_27 : decode cX13_look 27 = .ok (.istore_n 1, 1) := by decide +kernel
theorem dX13_look_28 : decode cX13_look 28 = .ok (.iload_n 1, 1) := by decide +kernel
theorem dX13_look_29 : decode cX13_look 29 = .ok (.iconst (-1), 1) := by decide +kernel
theorem dX13_look_30 : decode cX13_look 30 = .ok (.if_icmp .ne 7, 3) := by decide +kernel
theorem dX13_look_33 : decode cX13_look 33 = .ok (.iconst 0, 1) := by decide +kernel
theorem dX13_look_34 : decode cX13_look 34 = .ok (.goto 8, 3) := by decide +kernel
theorem dX13_look_37 : decode cX13_look 37 = .ok (.aload_n 0, 1) := by decide +kernel
theorem dX13_look_38 : decode cX13_look 38 = .ok (.iload_n 1, 1) := by decide +kernel
theorem dX13_look_39 : decode cX13_look 39 = .ok (.invokevirtual 306, 3) := by decide +kernel
theorem dX13_look_42 : decode cX13_look 42 = .ok (.ireturn, 1) := by decide +kernel
theorem dX13_holders_0 : decode cX13_holders 0 = .ok (.iconst 0, 1) := by decide +kernel
theorem dX13_holders_1 : decode cX13_holders 1 = .ok (.istore_n 2, 1) := by decide +kernel
theorem dX13_holders_2 : decode cX13_holders 2 = .ok (.iconst 0, 1) := by decide +kernel
theorem dX13_holders_3 : decode cX13_holders 3 = .ok (.istore_n 3, 1) := by decide +kernel
theorem dX13_holders_4 : decode cX13_holders 4 = .ok (.iload_n 3, 1) := by decide +kernel
theorem dX13_holders_5 : decode cX13_holders 5 = .ok (.aload_n 0, 1) := by decide +kernel
theorem dX13_holders_6 : decode cX13_holders 6 = .ok (.getfield 222, 3) := by decide +kernel
theorem dX13_holders_9 : decode cX13_holders 9 = .ok (.if_icmp .ge 35, 3) := by decide +kernel
theorem dX13_holders_12 : decode cX13_holders 12 = .ok (.iload_n 2, 1) := by decide +kernel
theorem dX13_holders_13 : decode cX13_holders 13 = .ok (.aload_n 0, 1) := by decide +kernel
theorem dX13_holders_14 : decode cX13_holders 14 = .ok (.getfield 25, 3) := by decide +kernel
theorem dX13_holders_17 : decode cX13_holders 17 = .ok (.iload_n 3, 1) := by decide +kernel
theorem dX13_holders_18 : decode cX13_holders 18 = .ok (.baload, 1) := by decide +kernel
theorem dX13_holders_19 : decode cX13_holders 19 = .ok (.ifCond .eq 16, 3) := by decide +kernel
theorem dX13_holders_22 : decode cX13_holders 22 = .ok (.aload_n 0, 1) := by decide +kernel
theorem dX13_holders_23 : decode cX13_holders 23 = .ok (.iload_n 3, 1) := by decide +kernel
theorem dX13_holders_24 : decode cX13_holders 24 = .ok (.iload_n 1, 1) := by decide +kernel
theorem dX13_holders_25 : decode cX13_holders 25 = .ok (.invokevirtual 269, 3) := by decide +kernel
theorem dX13_holders_28 : decode cX13_holders 28 = .ok (.ifCond .le 7, 3) := by decide +kernel
theorem dX13_holders_31 : decode cX13_holders 31 = .ok (.iconst 1, 1) := by decide +kernel
theorem dX13_holders_32 : decode cX13_holders 32 = .ok (.goto 4, 3) := by decide +kernel
theorem dX13_holders_35 : decode cX13_holders 35 = .ok (.iconst 0, 1) := by decide +kernel
theorem dX13_holders_36 : decode cX13_holders 36 = .ok (.iadd, 1) := by decide +kernel
theorem dX13_holders_37 : decode cX13_holders 37 = .ok (.istore_n 2, 1) := by decide +kernel
theorem dX13_holders_38 : decode cX13_holders 38 = .ok (.iinc 3 1, 3) := by decide +kernel
theorem dX13_holders_41 : decode cX13_holders 41 = .ok (.goto (-37), 3) := by decide +kernel
theorem dX13_holders_44 : decode cX13_holders 44 = .ok (.iload_n 2, 1) := by decide +kernel
theorem dX13_holders_45 : decode cX13_holders 45 = .ok (.ireturn, 1) := by decide +kernel
theorem dX13_posting_0 : decode cX13_posting 0 = .ok (.aload_n 0, 1) := by decide +kernel
theorem dX13_posting_1 : decode cX13_posting 1 = .ok (.iconst 0, 1) := by decide +kernel
theorem dX13_posting_2 : decode cX13_posting 2 = .ok (.putfield 170, 3) := by decide +kernel
theorem dX13_posting_5 : decode cX13_posting 5 = .ok (.aload_n 0, 1) := by decide +kernel
theorem dX13_posting_6 : decode cX13_posting 6 = .ok (.getfield 56, 3) := by decide +kernel
theorem dX13_posting_9 : decode cX13_posting 9 = .ok (.iconst (-1), 1) := by decide +kernel
theorem dX13_posting_10 : decode cX13_posting 10 = .ok (.if_icmp .eq 12, 3) := by decide +kernel
theorem dX13_posting_13 : decode cX13_posting 13 = .ok (.iload_n 1, 1) := by decide +kernel
theorem dX13_posting_14 : decode cX13_posting 14 = .ok (.ifCond .lt 8, 3) := by decide +kernel
theorem dX13_posting_17 : decode cX13_posting 17 = .ok (.iload_n 1, 1) := by decide +kernel
theorem dX13_posting_18 : decode cX13_posting 18 = .ok (.iconst 4, 1) := by decide +kernel
theorem dX13_posting_19 : decode cX13_posting 19 = .ok (.if_icmp .le 5, 3) := by decide +kernel
theorem dX13_posting_22 : decode cX13_posting 22 = .ok (.iconst (-1), 1) := by decide +kernel
theorem dX13_posting_23 : decode cX13_posting 23 = .ok (.ireturn, 1) := by decide +kernel
theorem dX13_posting_24 : decode cX13_posting 24 = .ok (.aload_n 0, 1) := by decide +kernel
theorem dX13_posting_25 : decode cX13_posting 25 = .ok (.invokevirtual 309, 3) := by decide +kernel
theorem dX13_posting_28 : decode cX13_posting 28 = .ok (.istore_n 2, 1) := by decide +kernel
theorem dX13_posting_29 : decode cX13_posting 29 = .ok (.iload_n 2, 1) := by decide +kernel
theorem dX13_posting_30 : decode cX13_posting 30 = .ok (.iconst (-1), 1) := by decide +kernel
theorem dX13_posting_31 : decode cX13_posting 31 = .ok (.if_icmp .ne 5, 3) := by decide +kernel
theorem dX13_posting_34 : decode cX13_posting 34 = .ok (.iconst 0, 1) := by decide +kernel
theorem dX13_posting_35 : decode cX13_posting 35 = .ok (.ireturn, 1) := by decide +kernel
theorem dX13_posting_36 : decode cX13_posting 36 = .ok (.iload_n 1, 1) := by decide +kernel
theorem dX13_posting_37 : decode cX13_posting 37 = .ok (.tableswitch 100 0 3 #[31, 38, 48, 54], 31) := by decide +kernel
theorem dX13_posting_68 : decode cX13_posting 68 = .ok (.aload_n 0, 1) := by decide +kernel
theorem dX13_posting_69 : decode cX13_posting 69 = .ok (.iload_n 2, 1) := by decide +kernel
theorem dX13_posting_70 : decode cX13_posting 70 = .ok (.iconst 0, 1) := by decide +kernel
theorem dX13_posting_71 : decode cX13_posting 71 = .ok (.invokevirtual 312, 3) := by decide +kernel
theorem dX13_posting_74 : decode cX13_posting 74 = .ok (.ireturn, 1) := by decide +kernel
theorem dX13_posting_75 : decode cX13_posting 75 = .ok (.aload_n 0, 1) := by decide +kernel
theorem dX13_posting_76 : decode cX13_posting 76 = .ok (.iload_n 2, 1) := by decide +kernel
theorem dX13_posting_77 : decode cX13_posting 77 = .ok (.iconst 0, 1) := by decide +kernel
theorem dX13_posting_78 : decode cX13_posting 78 = .ok (.invokevirtual 312, 3) := by decide +kernel
theorem dX13_posting_81 : decode cX13_posting 81 = .ok (.invokestatic 316, 3) := by decide +kernel
theorem dX13_posting_84 : decode cX13_posting 84 = .ok (.ireturn, 1) := by decide +kernel
theorem dX13_posting_85 : decode cX13_posting 85 = .ok (.aload_n 0, 1) := by decide +kernel
theorem dX13_posting_86 : decode cX13_posting 86 = .ok (.iload_n 2, 1) := by decide +kernel
theorem dX13_posting_87 : decode cX13_posting 87 = .ok (.invokevirtual 319, 3) := by decide +kernel
theorem dX13_posting_90 : decode cX13_posting 90 = .ok (.ireturn, 1) := by decide +kernel
theorem dX13_posting_91 : decode cX13_posting 91 = .ok (.iconst 0, 1) := by decide +kernel
theorem dX13_posting_92 : decode cX13_posting 92 = .ok (.istore_n 3, 1) := by decide +kernel
theorem dX13_posting_93 : decode cX13_posting 93 = .ok (.iconst 0, 1) := by decide +kernel
theorem dX13_posting_94 : decode cX13_posting 94 = .ok (.istore 4, 2) := by decide +kernel
theorem dX13_posting_96 : decode cX13_posting 96 = .ok (.iload 4, 2) := by decide +kernel
theorem dX13_posting_98 : decode cX13_posting 98 = .ok (.aload_n 0, 1) := by decide +kernel
theorem dX13_posting_99 : decode cX13_posting 99 = .ok (.getfield 222, 3) := by decide +kernel
theorem dX13_posting_102 : decode cX13_posting 102 = .ok (.if_icmp .ge 33, 3) := by decide +kernel
theorem dX13_posting_105 : decode cX13_posting 105 = .ok (.iload_n 3, 1) := by decide +kernel
theorem dX13_posting_106 : decode cX13_posting 106 = .ok (.aload_n 0, 1) := by decide +kernel
theorem dX13_posting_107 : decode cX13_posting 107 = .ok (.getfield 25, 3) := by decide +kernel
theorem dX13_posting_110 : decode cX13_posting 110 = .ok (.iload 4, 2) := by decide +kernel
theorem dX13_posting_112 : decode cX13_posting 112 = .ok (.baload, 1) := by decide +kernel
theorem dX13_posting_113 : decode cX13_posting 113 = .ok (.ifCond .eq 13, 3) := by decide +kernel
theorem dX13_posting_116 : decode cX13_posting 116 = .ok (.aload_n 0, 1) := by decide +kernel
theorem dX13_posting_117 : decode cX13_posting 117 = .ok (.iload 4, 2) := by decide +kernel
theorem dX13_posting_119 : decode cX13_posting 119 = .ok (.iload_n 2, 1) := by decide +kernel
theorem dX13_posting_120 : decode cX13_posting 120 = .ok (.invokevirtual 269, 3) := by decide +kernel
theorem dX13_posting_123 : decode cX13_posting 123 = .ok (.goto 4, 3) := by decide +kernel
theorem dX13_posting_126 : decode cX13_posting 126 = .ok (.iconst 0, 1) := by decide +kernel
theorem dX13_posting_127 : decode cX13_posting 127 = .ok (.iadd, 1) := by decide +kernel
theorem dX13_posting_128 : decode cX13_posting 128 = .ok (.istore_n 3, 1) := by decide +kernel
theorem dX13_posting_129 : decode cX13_posting 129 = .ok (.iinc 4 1, 3) := by decide +kernel
theorem dX13_posting_132 : decode cX13_posting 132 = .ok (.goto (-36), 3) := by decide +kernel
theorem dX13_posting_135 : decode cX13_posting 135 = .ok (.iload_n 3, 1) := by decide +kernel
theorem dX13_posting_136 : decode cX13_posting 136 = .ok (.ireturn, 1) := by decide +kernel
theorem dX13_posting_137 : decode cX13_posting 137 = .ok (.aload_n 0, 1) := by decide +kernel
theorem dX13_posting_138 : decode cX13_posting 138 = .ok (.iload_n 2, 1) := by decide +kernel
theorem dX13_posting_139 : decode cX13_posting 139 = .ok (.invokevirtual 322, 3) := by decide +kernel
theorem dX13_posting_142 : decode cX13_posting 142 = .ok (.ireturn, 1) := by decide +kernel
theorem dX13_bit_0 : decode cX13_bit 0 = .ok (.aload_n 0, 1) := by decide +kernel
theorem dX13_bit_1 : decode cX13_bit 1 = .ok (.iconst 0, 1) := by decide +kernel
theorem dX13_bit_2 : decode cX13_bit 2 = .ok (.putfield 170, 3) := by decide +kernel
theorem dX13_bit_5 : decode cX13_bit 5 = .ok (.aload_n 0, 1) := by decide +kernel
theorem dX13_bit_6 : decode cX13_bit 6 = .ok (.invokevirtual 309, 3) := by decide +kernel
theorem dX13_bit_9 : decode cX13_bit 9 = .ok (.istore_n 2, 1) := by decide +kernel
theorem dX13_bit_10 : decode cX13_bit 10 = .ok (.iload_n 2, 1) := by decide +kernel
theorem dX13_bit_11 : decode cX13_bit 11 = .ok (.iconst (-1), 1) := by decide +kernel
theorem dX13_bit_12 : decode cX13_bit 12 = .ok (.if_icmp .eq 17, 3) := by decide +kernel
theorem dX13_bit_15 : decode cX13_bit 15 = .ok (.iload_n 1, 1) := by decide +kernel
theorem dX13_bit_16 : decode cX13_bit 16 = .ok (.ifCond .lt 13, 3) := by decide +kernel
theorem dX13_bit_19 : decode cX13_bit 19 = .ok (.iload_n 1, 1) := by decide +kernel
theorem dX13_bit_20 : decode cX13_bit 20 = .ok (.aload_n 0, 1) := by decide +kernel
theorem dX13_bit_21 : decode cX13_bit 21 = .ok (.iload_n 2, 1) := by decide +kernel
theorem dX13_bit_22 : decode cX13_bit 22 = .ok (.iconst 1, 1) := by decide +kernel
theorem dX13_bit_23 : decode cX13_bit 23 = .ok (.invokevirtual 312, 3) := by decide +kernel
theorem dX13_bit_26 : decode cX13_bit 26 = .ok (.if_icmp .lt 8, 3) := by decide +kernel
theorem dX13_bit_29 : decode cX13_bit 29 = .ok (.aload_n 0, 1) := by decide +kernel
theorem dX13_bit_30 : decode cX13_bit 30 = .ok (.invokevirtual 279, 3) := by decide +kernel
theorem dX13_bit_33 : decode cX13_bit 33 = .ok (.ireturn, 1) := by decide +kernel
theorem dX13_bit_34 : decode cX13_bit 34 = .ok (.aload_n 0, 1) := by decide +kernel
theorem dX13_bit_35 : decode cX13_bit 35 = .ok (.getfield 64, 3) := by decide +kernel
theorem dX13_bit_38 : decode cX13_bit 38 = .ok (.iload_n 1, 1) := by decide +kernel
theorem dX13_bit_39 : decode cX13_bit 39 = .ok (.baload, 1) := by decide +kernel
theorem dX13_bit_40 : decode cX13_bit 40 = .ok (.ireturn, 1) := by decide +kernel
theorem dX13_count_0 : decode cX13_count 0 = .ok (.aload_n 0, 1) := by decide +kernel
theorem dX13_count_1 : decode cX13_count 1 = .ok (.iconst 0, 1) := by decide +kernel
theorem dX13_count_2 : decode cX13_count 2 = .ok (.putfield 170, 3) := by decide +kernel
theorem dX13_count_5 : decode cX13_count 5 = .ok (.iload_n 1, 1) := by decide +kernel
theorem dX13_count_6 : decode cX13_count 6 = .ok (.tableswitch 77 0 6 #[42, 47, 52, 57, 62, 67, 72], 42) := by decide +kernel
theorem dX13_count_48 : decode cX13_count 48 = .ok (.aload_n 0, 1) := by decide +kernel
theorem dX13_count_49 : decode cX13_count 49 = .ok (.getfield 222, 3) := by decide +kernel
theorem dX13_count_52 : decode cX13_count 52 = .ok (.ireturn, 1) := by decide +kernel
theorem dX13_count_53 : decode cX13_count 53 = .ok (.aload_n 0, 1) := by decide +kernel
theorem dX13_count_54 : decode cX13_count 54 = .ok (.invokevirtual 325, 3) := by decide +kernel
theorem dX13_count_57 : decode cX13_count 57 = .ok (.ireturn, 1) := by decide +kernel
theorem dX13_count_58 : decode cX13_count 58 = .ok (.aload_n 0, 1) := by decide +kernel
theorem dX13_count_59 : decode cX13_count 59 = .ok (.getfield 208, 3) := by decide +kernel
theorem dX13_count_62 : decode cX13_count 62 = .ok (.ireturn, 1) := by decide +kernel
theorem dX13_count_63 : decode cX13_count 63 = .ok (.aload_n 0, 1) := by decide +kernel
theorem dX13_count_64 : decode cX13_count 64 = .ok (.invokevirtual 246, 3) := by decide +kernel
theorem dX13_count_67 : decode cX13_count 67 = .ok (.ireturn, 1) := by decide +kernel
theorem dX13_count_68 : decode cX13_count 68 = .ok (.aload_n 0, 1) := by decide +kernel
theorem dX13_count_69 : decode cX13_count 69 = .ok (.invokevirtual 328, 3) := by decide +kernel
theorem dX13_count_72 : decode cX13_count 72 = .ok (.ireturn, 1) := by decide +kernel
theorem dX13_count_73 : decode cX13_count 73 = .ok (.aload_n 0, 1) := by decide +kernel
theorem dX13_count_74 : decode cX13_count 74 = .ok (.getfield 215, 3) := by decide +kernel
theorem dX13_count_77 : decode cX13_count 77 = .ok (.ireturn, 1) := by decide +kernel
theorem dX13_count_78 : decode cX13_count 78 = .ok (.aload_n 0, 1) := by decide +kernel
theorem dX13_count_79 : decode cX13_count 79 = .ok (.getfield 173, 3) := by decide +kernel
theorem dX13_count_82 : decode cX13_count 82 = .ok (.ireturn, 1) := by decide +kernel
theorem dX13_count_83 : decode cX13_count 83 = .ok (.iconst (-1), 1) := by decide +kernel
theorem dX13_count_84 : decode cX13_count 84 = .ok (.ireturn, 1) := by decide +kernel
theorem dX13_standing_0 : decode cX13_standing 0 = .ok (.iconst 0, 1) := by decide +kernel
theorem dX13_standing_1 : decode cX13_standing 1 = .ok (.istore_n 1, 1) := by decide +kernel
theorem dX13_standing_2 : decode cX13_standing 2 = .ok (.iconst 0, 1) := by decide +kernel
theorem dX13_standing_3 : decode cX13_standing 3 = .ok (.istore_n 2, 1) := by decide +kernel
theorem dX13_standing_4 : decode cX13_standing 4 = .ok (.iload_n 2, 1) := by decide +kernel
theorem dX13_standing_5 : decode cX13_standing 5 = .ok (.aload_n 0, 1) := by decide +kernel
theorem dX13_standing_6 : decode cX13_standing 6 = .ok (.getfield 222, 3) := by decide +kernel
theorem dX13_standing_9 : decode cX13_standing 9 = .ok (.if_icmp .ge 26, 3) := by decide +kernel
theorem dX13_standing_12 : decode cX13_standing 12 = .ok (.iload_n 1, 1) := by decide +kernel
theorem dX13_standing_13 : decode cX13_standing 13 = .ok (.aload_n 0, 1) := by decide +kernel
theorem dX13_standing_14 : decode cX13_standing 14 = .ok (.getfield 25, 3) := by decide +kernel
theorem dX13_standing_17 : decode cX13_standing 17 = .ok (.iload_n 2, 1) := by decide +kernel
theorem dX13_standing_18 : decode cX13_standing 18 = .ok (.baload, 1) := by decide +kernel
theorem dX13_standing_19 : decode cX13_standing 19 = .ok (.ifCond .eq 7, 3) := by decide +kernel
theorem dX13_standing_22 : decode cX13_standing 22 = .ok (.iconst 1, 1) := by decide +kernel
theorem dX13_standing_23 : decode cX13_standing 23 = .ok (.goto 4, 3) := by decide +kernel
theorem dX13_standing_26 : decode cX13_standing 26 = .ok (.iconst 0, 1) := by decide +kernel
theorem dX13_standing_27 : decode cX13_standing 27 = .ok (.iadd, 1) := by decide +kernel
theorem dX13_standing_28 : decode cX13_standing 28 = .ok (.istore_n 1, 1) := by decide +kernel
theorem dX13_standing_29 : decode cX13_standing 29 = .ok (.iinc 2 1, 3) := by decide +kernel
theorem dX13_standing_32 : decode cX13_standing 32 = .ok (.goto (-28), 3) := by decide +kernel
theorem dX13_standing_35 : decode cX13_standing 35 = .ok (.iload_n 1, 1) := by decide +kernel
theorem dX13_standing_36 : decode cX13_standing 36 = .ok (.ireturn, 1) := by decide +kernel
theorem dX13_sort_0 : decode cX13_sort 0 = .ok (.iconst 0, 1) := by decide +kernel
theorem dX13_sort_1 : decode cX13_sort 1 = .ok (.istore_n 1, 1) := by decide +kernel
theorem dX13_sort_2 : decode cX13_sort 2 = .ok (.iload_n 1, 1) := by decide +kernel
theorem dX13_sort_3 : decode cX13_sort 3 = .ok (.aload_n 0, 1) := by decide +kernel
theorem dX13_sort_4 : decode cX13_sort 4 = .ok (.getfield 208, 3) := by decide +kernel
theorem dX13_sort_7 : decode cX13_sort 7 = .ok (.if_icmp .ge 59, 3) := by decide +kernel
theorem dX13_sort_10 : decode cX13_sort 10 = .ok (.iload_n 1, 1) := by decide +kernel
theorem dX13_sort_11 : decode cX13_sort 11 = .ok (.istore_n 2, 1) := by decide +kernel
theorem dX13_sort_12 : decode cX13_sort 12 = .ok (.iload_n 2, 1) := by decide +kernel
theorem dX13_sort_13 : decode cX13_sort 13 = .ok (.ifCond .le 39, 3) := by decide +kernel
theorem dX13_sort_16 : decode cX13_sort 16 = .ok (.aload_n 0, 1) := by decide +kernel
theorem dX13_sort_17 : decode cX13_sort 17 = .ok (.aload_n 0, 1) := by decide +kernel
