theorem dX13_unit_173 : decode cX13_unit 173 = .ok (.goto (-51), 3) := by decide +kernel
theorem dX13_unit_176 : decode cX13_unit 176 = .ok (.iload_n 2, 1) := by decide +kernel
theorem dX13_unit_177 : decode cX13_unit 177 = .ok (.ireturn, 1) := by decide +kernel
theorem dX13_bare_0 : decode cX13_bare 0 = .ok (.aload_n 0, 1) := by decide +kernel
theorem dX13_bare_1 : decode cX13_bare 1 = .ok (.bipush 40, 2) := by decide +kernel
theorem dX13_bare_3 : decode cX13_bare 3 = .ok (.invokevirtual 371, 3) := by decide +kernel
theorem dX13_bare_6 : decode cX13_bare 6 = .ok (.ifCond .eq 83, 3) := by decide +kernel
theorem dX13_bare_9 : decode cX13_bare 9 = .ok (.aload_n 0, 1) := by decide +kernel
theorem dX13_bare_10 : decode cX13_bare 10 = .ok (.getfield 424, 3) := by decide +kernel
theorem dX13_bare_13 : decode cX13_bare 13 = .ok (.bipush 12, 2) := by decide +kernel
theorem dX13_bare_15 : decode cX13_bare 15 = .ok (.if_icmp .ne 13, 3) := by decide +kernel
theorem dX13_bare_18 : decode cX13_bare 18 = .ok (.aload_n 0, 1) := by decide +kernel
theorem dX13_bare_19 : decode cX13_bare 19 = .ok (.iconst 3, 1) := by decide +kernel
theorem dX13_bare_20 : decode cX13_bare 20 = .ok (.aload_n 0, 1) := by decide +kernel
theorem dX13_bare_21 : decode cX13_bare 21 = .ok (.getfield 349, 3) := by decide +kernel
theorem dX13_bare_24 : decode cX13_bare 24 = .ok (.invokevirtual 402, 3) := by decide +kernel
theorem dX13_bare_27 : decode cX13_bare 27 = .ok (.athrow, 1) := by decide +kernel
theorem dX13_bare_28 : decode cX13_bare 28 = .ok (.aload_n 0, 1) := by decide +kernel
theorem dX13_bare_29 : decode cX13_bare 29 = .ok (.dup, 1) := by decide +kernel
theorem dX13_bare_30 : decode cX13_bare 30 = .ok (.getfield 424, 3) := by decide +kernel
theorem dX13_bare_33 : decode cX13_bare 33 = .ok (.iconst 1, 1) := by decide +kernel
theorem dX13_bare_34 : decode cX13_bare 34 = .ok (.iadd, 1) := by decide +kernel
theorem dX13_bare_35 : decode cX13_bare 35 = .ok (.putfield 424, 3) := by decide +kernel
theorem dX13_bare_38 : decode cX13_bare 38 = .ok (.aload_n 0, 1) := by decide +kernel
theorem dX13_bare_39 : decode cX13_bare 39 = .ok (.invokevirtual 383, 3) := by decide +kernel
theorem dX13_bare_42 : decode cX13_bare 42 = .ok (.aload_n 0, 1) := by decide +kernel
theorem dX13_bare_43 : decode cX13_bare 43 = .ok (.invokevirtual 427, 3) := by decide +kernel
theorem dX13_bare_46 : decode cX13_bare 46 = .ok (.istore_n 1, 1) := by decide +kernel
theorem dX13_bare_47 : decode cX13_bare 47 = .ok (.aload_n 0, 1) := by decide +kernel
theorem dX13_bare_48 : decode cX13_bare 48 = .ok (.bipush 41, 2) := by decide +kernel
theorem dX13_bare_50 : decode cX13_bare 50 = .ok (.invokevirtual 371, 3) := by decide +kernel
theorem dX13_bare_53 : decode cX13_bare 53 = .ok (.ifCond .ne 13, 3) := by decide +kernel
theorem dX13_bare_56 : decode cX13_bare 56 = .ok (.aload_n 0, 1) := by decide +kernel
theorem dX13_bare_57 : decode cX13_bare 57 = .ok (.iconst 1, 1) := by decide +kernel
theorem dX13_bare_58 : decode cX13_bare 58 = .ok (.aload_n 0, 1) := by decide +kernel
theorem dX13_bare_59 : decode cX13_bare 59 = .ok (.getfield 349, 3) := by decide +kernel
theorem dX13_bare_62 : decode cX13_bare 62 = .ok (.invokevirtual 402, 3) := by decide +kernel
theorem dX13_bare_65 : decode cX13_bare 65 = .ok (.athrow, 1) := by decide +kernel
theorem dX13_bare_66 : decode cX13_bare 66 = .ok (.aload_n 0, 1) := by decide +kernel
theorem dX13_bare_67 : decode cX13_bare 67 = .ok (.dup, 1) := by decide +kernel
theorem dX13_bare_68 : decode cX13_bare 68 = .ok (.getfield 424, 3) := by decide +kernel
theorem dX13_bare_71 : decode cX13_bare 71 = .ok (.iconst 1, 1) := by decide +kernel
theorem dX13_bare_72 : decode cX13_bare 72 = .ok (.isub, 1) := by decide +kernel
theorem dX13_bare_73 : decode cX13_bare 73 = .ok (.putfield 424, 3) := by decide +kernel
theorem dX13_bare_76 : decode cX13_bare 76 = .ok (.aload_n 0, 1) := by decide +kernel
theorem dX13_bare_77 : decode cX13_bare 77 = .ok (.invokevirtual 383, 3) := by decide +kernel
theorem dX13_bare_80 : decode cX13_bare 80 = .ok (.aload_n 0, 1) := by decide +kernel
theorem dX13_bare_81 : decode cX13_bare 81 = .ok (.getfield 122, 3) := by decide +kernel
theorem dX13_bare_84 : decode cX13_bare 84 = .ok (.iload_n 1, 1) := by decide +kernel
theorem dX13_bare_85 : decode cX13_bare 85 = .ok (.iconst 1, 1) := by decide +kernel
theorem dX13_bare_86 : decode cX13_bare 86 = .ok (.bastore, 1) := by decide +kernel
theorem dX13_bare_87 : decode cX13_bare 87 = .ok (.iload_n 1, 1) := by decide +kernel
theorem dX13_bare_88 : decode cX13_bare 88 = .ok (.ireturn, 1) := by decide +kernel
theorem dX13_bare_89 : decode cX13_bare 89 = .ok (.aload_n 0, 1) := by decide +kernel
theorem dX13_bare_90 : decode cX13_bare 90 = .ok (.bipush 91, 2) := by decide +kernel
theorem dX13_bare_92 : decode cX13_bare 92 = .ok (.invokevirtual 371, 3) := by decide +kernel
theorem dX13_bare_95 : decode cX13_bare 95 = .ok (.ifCond .eq 8, 3) := by decide +kernel
theorem dX13_bare_98 : decode cX13_bare 98 = .ok (.aload_n 0, 1) := by decide +kernel
theorem dX13_bare_99 : decode cX13_bare 99 = .ok (.invokevirtual 430, 3) := by decide +kernel
theorem dX13_bare_102 : decode cX13_bare 102 = .ok (.ireturn, 1) := by decide +kernel
theorem dX13_bare_103 : decode cX13_bare 103 = .ok (.aload_n 0, 1) := by decide +kernel
theorem dX13_bare_104 : decode cX13_bare 104 = .ok (.bipush 34, 2) := by decide +kernel
theorem dX13_bare_106 : decode cX13_bare 106 = .ok (.invokevirtual 371, 3) := by decide +kernel
theorem dX13_bare_109 : decode cX13_bare 109 = .ok (.ifCond .eq 8, 3) := by decide +kernel
theorem dX13_bare_112 : decode cX13_bare 112 = .ok (.aload_n 0, 1) := by decide +kernel
theorem dX13_bare_113 : decode cX13_bare 113 = .ok (.invokevirtual 433, 3) := by decide +kernel
theorem dX13_bare_116 : decode cX13_bare 116 = .ok (.ireturn, 1) := by decide +kernel
theorem dX13_bare_117 : decode cX13_bare 117 = .ok (.aload_n 0, 1) := by decide +kernel
theorem dX13_bare_118 : decode cX13_bare 118 = .ok (.getfield 352, 3) := by decide +kernel
theorem dX13_bare_121 : decode cX13_bare 121 = .ok (.iconst 1, 1) := by decide +kernel
theorem dX13_bare_122 : decode cX13_bare 122 = .ok (.if_icmp .ne 17, 3) := by decide +kernel
theorem dX13_bare_125 : decode cX13_bare 125 = .ok (.aload_n 0, 1) := by decide +kernel
theorem dX13_bare_126 : decode cX13_bare 126 = .ok (.invokevirtual 396, 3) := by decide +kernel
theorem dX13_bare_129 : decode cX13_bare 129 = .ok (.ifCond .eq 10, 3) := by decide +kernel
theorem dX13_bare_132 : decode cX13_bare 132 = .ok (.aload_n 0, 1) := by decide +kernel
theorem dX13_bare_133 : decode cX13_bare 133 = .ok (.invokevirtual 399, 3) := by decide +kernel
theorem dX13_bare_136 : decode cX13_bare 136 = .ok (.ifCond .eq 13, 3) := by decide +kernel
theorem dX13_bare_139 : decode cX13_bare 139 = .ok (.aload_n 0, 1) := by decide +kernel
theorem dX13_bare_140 : decode cX13_bare 140 = .ok (.iconst 1, 1) := by decide +kernel
theorem dX13_bare_141 : decode cX13_bare 141 = .ok (.aload_n 0, 1) := by decide +kernel
theorem dX13_bare_142 : decode cX13_bare 142 = .ok (.getfield 349, 3) := by decide +kernel
theorem dX13_bare_145 : decode cX13_bare 145 = .ok (.invokevirtual 402, 3) := by decide +kernel
theorem dX13_bare_148 : decode cX13_bare 148 = .ok (.athrow, 1) := by decide +kernel
theorem dX13_bare_149 : decode cX13_bare 149 = .ok (.aload_n 0, 1) := by decide +kernel
theorem dX13_bare_150 : decode cX13_bare 150 = .ok (.invokevirtual 436, 3) := by decide +kernel
theorem dX13_bare_153 : decode cX13_bare 153 = .ok (.ireturn, 1) := by decide +kernel
theorem dX13_leaf_0 : decode cX13_leaf 0 = .ok (.aload_n 0, 1) := by decide +kernel
theorem dX13_leaf_1 : decode cX13_leaf 1 = .ok (.getfield 439, 3) := by decide +kernel
theorem dX13_leaf_4 : decode cX13_leaf 4 = .ok (.bipush 40, 2) := by decide +kernel
theorem dX13_leaf_6 : decode cX13_leaf 6 = .ok (.if_icmp .ne 13, 3) := by decide +kernel
theorem dX13_leaf_9 : decode cX13_leaf 9 = .ok (.aload_n 0, 1) := by decide +kernel
theorem dX13_leaf_10 : decode cX13_leaf 10 = .ok (.iconst 3, 1) := by decide +kernel
theorem dX13_leaf_11 : decode cX13_leaf 11 = .ok (.aload_n 0, 1) := by decide +kernel
theorem dX13_leaf_12 : decode cX13_leaf 12 = .ok (.getfield 349, 3) := by decide +kernel
theorem dX13_leaf_15 : decode cX13_leaf 15 = .ok (.invokevirtual 402, 3) := by decide +kernel
theorem dX13_leaf_18 : decode cX13_leaf 18 = .ok (.athrow, 1) := by decide +kernel
theorem dX13_leaf_19 : decode cX13_leaf 19 = .ok (.aload_n 0, 1) := by decide +kernel
theorem dX13_leaf_20 : decode cX13_leaf 20 = .ok (.getfield 101, 3) := by decide +kernel
theorem dX13_leaf_23 : decode cX13_leaf 23 = .ok (.aload_n 0, 1) := by decide +kernel
theorem dX13_leaf_24 : decode cX13_leaf 24 = .ok (.getfield 439, 3) := by decide +kernel
theorem dX13_leaf_27 : decode cX13_leaf 27 = .ok (.iload_n 1, 1) := by decide +kernel
theorem dX13_leaf_28 : decode cX13_leaf 28 = .ok (.iastore, 1) := by decide +kernel
theorem dX13_leaf_29 : decode cX13_leaf 29 = .ok (.aload_n 0, 1) := by decide +kernel
theorem dX13_leaf_30 : decode cX13_leaf 30 = .ok (.dup, 1) := by decide +kernel
theorem dX13_leaf_31 : decode cX13_leaf 31 = .ok (.getfield 439, 3) := by decide +kernel
theorem dX13_leaf_34 : decode cX13_leaf 34 = .ok (.iconst 1, 1) := by decide +kernel
theorem dX13_leaf_35 : decode cX13_leaf 35 = .ok (.iadd, 1) := by decide +kernel
theorem dX13_leaf_36 : decode cX13_leaf 36 = .ok (.putfield 439, 3) := by decide +kernel
theorem dX13_leaf_39 : decode cX13_leaf 39 = .ok (.aload_n 0, 1) := by decide +kernel
theorem dX13_leaf_40 : decode cX13_leaf 40 = .ok (.getfield 439, 3) := by decide +kernel
theorem dX13_leaf_43 : decode cX13_leaf 43 = .ok (.iconst 1, 1) := by decide +kernel
theorem dX13_leaf_44 : decode cX13_leaf 44 = .ok (.isub, 1) := by decide +kernel
theorem dX13_leaf_45 : decode cX13_leaf 45 = .ok (.ireturn, 1) := by decide +kernel
theorem dX13_want_0 : decode cX13_want 0 = .ok (.iconst 0, 1) := by decide +kernel
theorem dX13_want_1 : decode cX13_want 1 = .ok (.istore_n 1, 1) := by decide +kernel
theorem dX13_want_2 : decode cX13_want 2 = .ok (.iload_n 1, 1) := by decide +kernel
theorem dX13_want_3 : decode cX13_want 3 = .ok (.aload_n 0, 1) := by decide +kernel
theorem dX13_want_4 : decode cX13_want 4 = .ok (.getfield 193, 3) := by decide +kernel
theorem dX13_want_7 : decode cX13_want 7 = .ok (.if_icmp .ge 29, 3) := by decide +kernel
theorem dX13_want_10 : decode cX13_want 10 = .ok (.aload_n 0, 1) := by decide +kernel
theorem dX13_want_11 : decode cX13_want 11 = .ok (.getfield 113, 3) := by decide +kernel
theorem dX13_want_14 : decode cX13_want 14 = .ok (.bipush 12, 2) := by decide +kernel
theorem dX13_want_16 : decode cX13_want 16 = .ok (.aload_n 0, 1) := by decide +kernel
theorem dX13_want_17 : decode cX13_want 17 = .ok (.getfield 442, 3) := by decide +kernel
theorem dX13_want_20 : decode cX13_want 20 = .ok (.imul, 1) := by decide +kernel
theorem dX13_want_21 : decode cX13_want 21 = .ok (.iload_n 1, 1) := by decide +kernel
theorem dX13_want_22 : decode cX13_want 22 = .ok (.iadd, 1) := by decide +kernel
theorem dX13_want_23 : decode cX13_want 23 = .ok (.aload_n 0, 1) := by decide +kernel
theorem dX13_want_24 : decode cX13_want 24 = .ok (.getfield 60, 3) := by decide +kernel
theorem dX13_want_27 : decode cX13_want 27 = .ok (.iload_n 1, 1) := by decide +kernel
theorem dX13_want_28 : decode cX13_want 28 = .ok (.baload, 1) := by decide +kernel
theorem dX13_want_29 : decode cX13_want 29 = .ok (.bastore, 1) := by decide +kernel
theorem dX13_want_30 : decode cX13_want 30 = .ok (.iinc 1 1, 3) := by decide +kernel
theorem dX13_want_33 : decode cX13_want 33 = .ok (.goto (-31), 3) := by decide +kernel
theorem dX13_want_36 : decode cX13_want 36 = .ok (.aload_n 0, 1) := by decide +kernel
theorem dX13_want_37 : decode cX13_want 37 = .ok (.getfield 116, 3) := by decide +kernel
theorem dX13_want_40 : decode cX13_want 40 = .ok (.aload_n 0, 1) := by decide +kernel
theorem dX13_want_41 : decode cX13_want 41 = .ok (.getfield 442, 3) := by decide +kernel
theorem dX13_want_44 : decode cX13_want 44 = .ok (.aload_n 0, 1) := by decide +kernel
theorem dX13_want_45 : decode cX13_want 45 = .ok (.getfield 193, 3) := by decide +kernel
theorem dX13_want_48 : decode cX13_want 48 = .ok (.iastore, 1) := by decide +kernel
theorem dX13_want_49 : decode cX13_want 49 = .ok (.aload_n 0, 1) := by decide +kernel
theorem dX13_want_50 : decode cX13_want 50 = .ok (.dup, 1) := by decide +kernel
theorem dX13_want_51 : decode cX13_want 51 = .ok (.getfield 442, 3) := by decide +kernel
theorem dX13_want_54 : decode cX13_want 54 = .ok (.iconst 1, 1) := by decide +kernel
theorem dX13_want_55 : decode cX13_want 55 = .ok (.iadd, 1) := by decide +kernel
theorem dX13_want_56 : decode cX13_want 56 = .ok (.putfield 442, 3) := by decide +kernel
theorem dX13_want_59 : decode cX13_want 59 = .ok (.return_, 1) := by decide +kernel
theorem dX13_leafNode_0 : decode cX13_leafNode 0 = .ok (.aload_n 0, 1) := by decide +kernel
theorem dX13_leafNode_1 : decode cX13_leafNode 1 = .ok (.aload_n 0, 1) := by decide +kernel
theorem dX13_leafNode_2 : decode cX13_leafNode 2 = .ok (.getfield 101, 3) := by decide +kernel
theorem dX13_leafNode_5 : decode cX13_leafNode 5 = .ok (.iload_n 1, 1) := by decide +kernel
theorem dX13_leafNode_6 : decode cX13_leafNode 6 = .ok (.iaload, 1) := by decide +kernel
theorem dX13_leafNode_7 : decode cX13_leafNode 7 = .ok (.iconst (-1), 1) := by decide +kernel
theorem dX13_leafNode_8 : decode cX13_leafNode 8 = .ok (.iconst (-1), 1) := by decide +kernel
theorem dX13_leafNode_9 : decode cX13_leafNode 9 = .ok (.iload_n 1, 1) := by decide +kernel
theorem dX13_leafNode_10 : decode cX13_leafNode 10 = .ok (.invokevirtual 386, 3) := by decide +kernel
theorem dX13_leafNode_13 : decode cX13_leafNode 13 = .ok (.ireturn, 1) := by decide +kernel
theorem dX13_token_0 : decode cX13_token 0 = .ok (.aload_n 0, 1) := by decide +kernel
theorem dX13_token_1 : decode cX13_token 1 = .ok (.iconst 1, 1) := by decide +kernel
theorem dX13_token_2 : decode cX13_token 2 = .ok (.invokevirtual 445, 3) := by decide +kernel
theorem dX13_token_5 : decode cX13_token 5 = .ok (.istore_n 1, 1) := by decide +kernel
theorem dX13_token_6 : decode cX13_token 6 = .ok (.aload_n 0, 1) := by decide +kernel
theorem dX13_token_7 : decode cX13_token 7 = .ok (.getfield 349, 3) := by decide +kernel
theorem dX13_token_10 : decode cX13_token 10 = .ok (.istore_n 2, 1) := by decide +kernel
theorem dX13_token_11 : decode cX13_token 11 = .ok (.aload_n 0, 1) := by decide +kernel
theorem dX13_token_12 : decode cX13_token 12 = .ok (.getfield 343, 3) := by decide +kernel
theorem dX13_token_15 : decode cX13_token 15 = .ok (.istore_n 3, 1) := by decide +kernel
theorem dX13_token_16 : decode cX13_token 16 = .ok (.aload_n 0, 1) := by decide +kernel
theorem dX13_token_17 : decode cX13_token 17 = .ok (.invokevirtual 383, 3) := by decide +kernel
theorem dX13_token_20 : decode cX13_token 20 = .ok (.aload_n 0, 1) := by decide +kernel
theorem dX13_token_21 : decode cX13_token 21 = .ok (.getfield 104, 3) := by decide +kernel
theorem dX13_token_24 : decode cX13_token 24 = .ok (.iload_n 1, 1) := by decide +kernel
theorem dX13_token_25 : decode cX13_token 25 = .ok (.aload_n 0, 1) := by decide +kernel
theorem dX13_token_26 : decode cX13_token 26 = .ok (.getfield 442, 3) := by decide +kernel
theorem dX13_token_29 : decode cX13_token 29 = .ok (.iastore, 1) := by decide +kernel
theorem dX13_token_30 : decode cX13_token 30 = .ok (.aload_n 0, 1) := by decide +kernel
theorem dX13_token_31 : decode cX13_token 31 = .ok (.getfield 107, 3) := by decide +kernel
theorem dX13_token_34 : decode cX13_token 34 = .ok (.iload_n 1, 1) := by decide +kernel
theorem dX13_token_35 : decode cX13_token 35 = .ok (.iconst 1, 1) := by decide +kernel
theorem dX13_token_36 : decode cX13_token 36 = .ok (.iastore, 1) := by decide +kernel
theorem dX13_token_37 : decode cX13_token 37 = .ok (.aload_n 0, 1) := by decide +kernel
theorem dX13_token_38 : decode cX13_token 38 = .ok (.bipush 42, 2) := by decide +kernel
theorem dX13_token_40 : decode cX13_token 40 = .ok (.invokevirtual 371, 3) := by decide +kernel
theorem dX13_token_43 : decode cX13_token 43 = .ok (.ifCond .eq 23, 3) := by decide +kernel
theorem dX13_token_46 : decode cX13_token 46 = .ok (.aload_n 0, 1) := by decide +kernel
theorem dX13_token_47 : decode cX13_token 47 = .ok (.getfield 101, 3) := by decide +kernel
theorem dX13_token_50 : decode cX13_token 50 = .ok (.iload_n 1, 1) := by decide +kernel
theorem dX13_token_51 : decode cX13_token 51 = .ok (.iconst 2, 1) := by decide +kernel
theorem dX13_token_52 : decode cX13_token 52 = .ok (.iastore, 1) := by decide +kernel
theorem dX13_token_53 : decode cX13_token 53 = .ok (.aload_n 0, 1) := by decide +kernel
theorem dX13_token_54 : decode cX13_token 54 = .ok (.iload_n 2, 1) := by decide +kernel
theorem dX13_token_55 : decode cX13_token 55 = .ok (.iload_n 3, 1) := by decide +kernel
theorem dX13_token_56 : decode cX13_token 56 = .ok (.invokevirtual 200, 3) := by decide +kernel
theorem dX13_token_59 : decode cX13_token 59 = .ok (.aload_n 0, 1) := by decide +kernel
theorem dX13_token_60 : decode cX13_token 60 = .ok (.invokevirtual 383, 3) := by decide +kernel
theorem dX13_token_63 : decode cX13_token 63 = .ok (.goto 9, 3) := by decide +kernel
theorem dX13_token_66 : decode cX13_token 66 = .ok (.aload_n 0, 1) := by decide +kernel
theorem dX13_token_67 : decode cX13_token 67 = .ok (.iload_n 2, 1) := by decide +kernel
theorem dX13_token_68 : decode cX13_token 68 = .ok (.iload_n 3, 1) := by decide +kernel
theorem dX13_token_69 : decode cX13_token 69 = .ok (.invokevirtual 228, 3) := by decide +kernel
theorem dX13_token_72 : decode cX13_token 72 = .ok (.aload_n 0, 1) := by decide +kernel
theorem dX13_token_73 : decode cX13_token 73 = .ok (.invokevirtual 448, 3) := by decide +kernel
theorem dX13_token_76 : decode cX13_token 76 = .ok (.aload_n 0, 1) := by decide +kernel
theorem dX13_token_77 : decode cX13_token 77 = .ok (.iload_n 1, 1) := by decide +kernel
theorem dX13_token_78 : decode cX13_token 78 = .ok (.invokevirtual 451, 3) := by decide +kernel
theorem dX13_token_81 : decode cX13_token 81 = .ok (.ireturn, 1) := by decide +kernel
theorem dX13_phrase_0 : decode cX13_phrase 0 = .ok (.aload_n 0, 1) := by decide +kernel
theorem dX13_phrase_1 : decode cX13_phrase 1 = .ok (.iconst 3, 1) := by decide +kernel
theorem dX13_phrase_2 : decode cX13_phrase 2 = .ok (.invokevirtual 445, 3) := by decide +kernel
theorem dX13_phrase_5 : decode cX13_phrase 5 = .ok (.istore_n 1, 1) := by decide +kernel
theorem dX13_phrase_6 : decode cX13_phrase 6 = .ok (.aload_n 0, 1) := by decide +kernel
theorem dX13_phrase_7 : decode cX13_phrase 7 = .ok (.getfield 104, 3) := by decide +kernel
theorem dX13_phrase_10 : decode cX13_phrase 10 = .ok (.iload_n 1, 1) := by decide +kernel
theorem dX13_phrase_11 : decode cX13_phrase 11 = .ok (.aload_n 0, 1) := by decide +kernel
theorem dX13_phrase_12 : decode cX13_phrase 12 = .ok (.getfield 442, 3) := by decide +kernel
theorem dX13_phrase_15 : decode cX13_phrase 15 = .ok (.iastore, 1) := by decide +kernel
theorem dX13_phrase_16 : decode cX13_phrase 16 = .ok (.aload_n 0, 1) := by decide +kernel
theorem dX13_phrase_17 : decode cX13_phrase 17 = .ok (.getfield 343, 3) := by decide +kernel
theorem dX13_phrase_20 : decode cX13_phrase 20 = .ok (.istore_n 2, 1) := by decide +kernel
theorem dX13_phrase_21 : decode cX13_phrase 21 = .ok (.iconst 0, 1) := by decide +kernel
theorem dX13_phrase_22 : decode cX13_phrase 22 = .ok (.istore_n 3, 1) := by decide +kernel
theorem dX13_phrase_23 : decode cX13_phrase 23 = .ok (.iload_n 2, 1) := by decide +kernel
theorem dX13_phrase_24 : decode cX13_phrase 24 = .ok (.aload_n 0, 1) := by decide +kernel
theorem dX13_phrase_25 : decode cX13_phrase 25 = .ok (.getfield 340, 3) := by decide +kernel
theorem dX13_phrase_28 : decode cX13_phrase 28 = .ok (.if_icmp .ge 90, 3) := by decide +kernel
theorem dX13_phrase_31 : decode cX13_phrase 31 = .ok (.aload_n 0, 1) := by decide +kernel
theorem dX13_phrase_32 : decode cX13_phrase 32 = .ok (.getfield 9, 3) := by decide +kernel
theorem dX13_phrase_35 : decode cX13_phrase 35 = .ok (.iload_n 2, 1) := by decide +kernel
theorem dX13_phrase_36 : decode cX13_phrase 36 = .ok (.baload, 1) := by decide +kernel
theorem dX13_phrase_37 : decode cX13_phrase 37 = .ok (.bipush 34, 2) := by decide +kernel
theorem dX13_phrase_39 : decode cX13_phrase 39 = .ok (.if_icmp .eq 79, 3) := by decide +kernel
theorem dX13_phrase_42 : decode cX13_phrase 42 = .ok (.aload_n 0, 1) := by decide +kernel
theorem dX13_phrase_43 : decode cX13_phrase 43 = .ok (.getfield 9, 3) := by decide +kernel
theorem dX13_phrase_46 : decode cX13_phrase 46 = .ok (.iload_n 2, 1) := by decide +kernel
theorem dX13_phrase_47 : decode cX13_phrase 47 = .ok (.baload, 1) := by decide +kernel
theorem dX13_phrase_48 : decode cX13_phrase 48 = .ok (.invokestatic 190, 3) := by decide +kernel
theorem dX13_phrase_51 : decode cX13_phrase 51 = .ok (.ifCond .ne 9, 3) := by decide +kernel
theorem dX13_phrase_54 : decode cX13_phrase 54 = .ok (.iinc 2 1, 3) := by decide +kernel
theorem dX13_phrase_57 : decode cX13_phrase 57 = .ok (.goto (-34), 3) := by decide +kernel
theorem dX13_phrase_60 : decode cX13_phrase 60 = .ok (.aload_n 0, 1) := by decide +kernel
theorem dX13_phrase_61 : decode cX13_phrase 61 = .ok (.getfield 454, 3) := by decide +kernel
theorem dX13_phrase_64 : decode cX13_phrase 64 = .ok (.sipush 160, 3) := by decide +kernel
theorem dX13_phrase_67 : decode cX13_phrase 67 = .ok (.if_icmp .ne 10, 3) := by decide +kernel
theorem dX13_phrase_70 : decode cX13_phrase 70 = .ok (.aload_n 0, 1) := by decide +kernel
theorem dX13_phrase_71 : decode cX13_phrase 71 = .ok (.iconst 3, 1) := by decide +kernel
theorem dX13_phrase_72 : decode cX13_phrase 72 = .ok (.iload_n 2, 1) := by decide +kernel
theorem dX13_phrase_73 : decode cX13_phrase 73 = .ok (.invokevirtual 402, 3) := by decide +kernel
theorem dX13_phrase_76 : decode cX13_phrase 76 = .ok (.athrow, 1) := by decide +kernel
theorem dX13_phrase_77 : decode cX13_phrase 77 = .ok (.aload_n 0, 1) := by decide +kernel
theorem dX13_phrase_78 : decode cX13_phrase 78 = .ok (.dup, 1) := by decide +kernel
theorem dX13_phrase_79 : decode cX13_phrase 79 = .ok (.getfield 454, 3) := by decide +kernel
theorem dX13_phrase_82 : decode cX13_phrase 82 = .ok (.iconst 1, 1) := by decide +kernel
theorem dX13_phrase_83 : decode cX13_phrase 83 = .ok (.iadd, 1) := by decide +kernel
theorem dX13_phrase_84 : decode cX13_phrase 84 = .ok (.putfield 454, 3) := by decide +kernel
theorem dX13_phrase_87 : decode cX13_phrase 87 = .ok (.aload_n 0, 1) := by decide +kernel
theorem dX13_phrase_88 : decode cX13_phrase 88 = .ok (.iload_n 2, 1) := by decide +kernel
theorem dX13_phrase_89 : decode cX13_phrase 89 = .ok (.aload_n 0, 1) := by decide +kernel
theorem dX13_phrase_90 : decode cX13_phrase 90 = .ok (.getfield 340, 3) := by decide +kernel
theorem dX13_phrase_93 : decode cX13_phrase 93 = .ok (.invokevirtual 225, 3) := by decide +kernel
theorem dX13_phrase_96 : decode cX13_phrase 96 = .ok (.istore 4, 2) := by decide +kernel
theorem dX13_phrase_98 : decode cX13_phrase 98 = .ok (.aload_n 0, 1) := by decide +kernel
theorem dX13_phrase_99 : decode cX13_phrase 99 = .ok (.iload_n 2, 1) := by decide +kernel
theorem dX13_phrase_100 : decode cX13_phrase 100 = .ok (.iload 4, 2) := by decide +kernel
theorem dX13_phrase_102 : decode cX13_phrase 102 = .ok (.invokevirtual 228, 3) := by decide +kernel
theorem dX13_phrase_105 : decode cX13_phrase 105 = .ok (.aload_n 0, 1) := by decide +kernel
theorem dX13_phrase_106 : decode cX13_phrase 106 = .ok (.invokevirtual 448, 3) := by decide +kernel
theorem dX13_phrase_109 : decode cX13_phrase 109 = .ok (.iinc 3 1, 3) := by decide +kernel
theorem dX13_phrase_112 : decode cX13_phrase 112 = .ok (.iload 4, 2) := by decide +kernel
theorem dX13_phrase_114 : decode cX13_phrase 114 = .ok (.istore_n 2, 1) := by decide +kernel
theorem dX13_phrase_115 : decode cX13_phrase 115 = .ok (.goto (-92), 3) := by decide +kernel
theorem dX13_phrase_118 : decode cX13_phrase 118 = .ok (.iload_n 2, 1) := by decide +kernel
theorem dX13_phrase_119 : decode cX13_phrase 119 = .ok (.aload_n 0, 1) := by decide +kernel
theorem dX13_phrase_120 : decode cX13_phrase 120 = .ok (.getfield 340, 3) := by decide +kernel
theorem dX13_phrase_123 : decode cX13_phrase 123 = .ok (.if_icmp .ne 13, 3) := by decide +kernel
theorem dX13_phrase_126 : decode cX13_phrase 126 = .ok (.aload_n 0, 1) := by decide +kernel
theorem dX13_phrase_127 : decode cX13_phrase 127 = .ok (.iconst 1, 1) := by decide +kernel
theorem dX13_phrase_128 : decode cX13_phrase 128 = .ok (.aload_n 0, 1) := by decide +kernel
theorem dX13_phrase_129 : decode cX13_phrase 129 = .ok (.getfield 340, 3) := by decide +kernel
theorem dX13_phrase_132 : decode cX13_phrase 132 = .ok (.invokevirtual 402, 3) := by decide +kernel
theorem dX13_phrase_135 : decode cX13_phrase 135 = .ok (.athrow, 1) := by decide +kernel
theorem dX13_phrase_136 : decode cX13_phrase 136 = .ok (.iload_n 3, 1) := by decide +kernel
theorem dX13_phrase_137 : decode cX13_phrase 137 = .ok (.ifCond .ne 10, 3) := by decide +kernel
theorem dX13_phrase_140 : decode cX13_phrase 140 = .ok (.aload_n 0, 1) := by decide +kernel
theorem dX13_phrase_141 : decode cX13_phrase 141 = .ok (.iconst 1, 1) := by decide +kernel
theorem dX13_phrase_142 : decode cX13_phrase 142 = .ok (.iload_n 2, 1) := by decide +kernel
theorem dX13_phrase_143 : decode cX13_phrase 143 = .ok (.invokevirtual 402, 3) := by decide +kernel
theorem dX13_phrase_146 : decode cX13_phrase 146 = .ok (.athrow, 1) := by decide +kernel
theorem dX13_phrase_147 : decode cX13_phrase 147 = .ok (.aload_n 0, 1) := by decide +kernel
theorem dX13_phrase_148 : decode cX13_phrase 148 = .ok (.getfield 107, 3) := by decide +kernel
theorem dX13_phrase_151 : decode cX13_phrase 151 = .ok (.iload_n 1, 1) := by decide +kernel
theorem dX13_phrase_152 : decode cX13_phrase 152 = .ok (.iload_n 3, 1) := by decide +kernel
theorem dX13_phrase_153 : decode cX13_phrase 153 = .ok (.iastore, 1) := by decide +kernel
theorem dX13_phrase_154 : decode cX13_phrase 154 = .ok (.aload_n 0, 1) := by decide +kernel
theorem dX13_phrase_155 : decode cX13_phrase 155 = .ok (.iload_n 2, 1) := by decide +kernel
theorem dX13_phrase_156 : decode cX13_phrase 156 = .ok (.iconst 1, 1) := by decide +kernel
theorem dX13_phrase_157 : decode cX13_phrase 157 = .ok (.iadd, 1) := by decide +kernel
theorem dX13_phrase_158 : decode cX13_phrase 158 = .ok (.putfield 343, 3) := by decide +kernel
theorem dX13_phrase_161 : decode cX13_phrase 161 = .ok (.aload_n 0, 1) := by decide +kernel
theorem dX13_phrase_162 : decode cX13_phrase 162 = .ok (.invokevirtual 383, 3) := by decide +kernel
theorem dX13_phrase_165 : decode cX13_phrase 165 = .ok (.aload_n 0, 1) := by decide +kernel
theorem dX13_phrase_166 : decode cX13_phrase 166 = .ok (.iload_n 1, 1) := by decide +kernel
theorem dX13_phrase_167 : decode cX13_phrase 167 = .ok (.invokevirtual 451, 3) := by decide +kernel
theorem dX13_phrase_170 : decode cX13_phrase 170 = .ok (.ireturn, 1) := by decide +kernel
theorem dX13_whole_0 : decode cX13_whole 0 = .ok (.aload_n 0, 1) := by decide +kernel
theorem dX13_whole_1 : decode cX13_whole 1 = .ok (.bipush 45, 2) := by decide +kernel
theorem dX13_whole_3 : decode cX13_whole 3 = .ok (.invokevirtual 371, 3) := by decide +kernel
theorem dX13_whole_6 : decode cX13_whole 6 = .ok (.istore_n 1, 1) := by decide +kernel
theorem dX13_whole_7 : decode cX13_whole 7 = .ok (.aload_n 0, 1) := by decide +kernel
theorem dX13_whole_8 : decode cX13_whole 8 = .ok (.getfield 349, 3) := by decide +kernel
theorem dX13_whole_11 : decode cX13_whole 11 = .ok (.istore_n 2, 1) := by decide +kernel
theorem dX13_whole_12 : decode cX13_whole 12 = .ok (.iload_n 1, 1) := by decide +kernel
theorem dX13_whole_13 : decode cX13_whole 13 = .ok (.ifCond .eq 33, 3) := by decide +kernel
theorem dX13_whole_16 : decode cX13_whole 16 = .ok (.aload_n 0, 1) := by decide +kernel
theorem dX13_whole_17 : decode cX13_whole 17 = .ok (.aload_n 0, 1) := by decide +kernel
theorem dX13_whole_18 : decode cX13_whole 18 = .ok (.getfield 349, 3) := by decide +kernel
theorem dX13_whole_21 : decode cX13_whole 21 = .ok (.iconst 1, 1) := by decide +kernel
theorem dX13_whole_22 : decode cX13_whole 22 = .ok (.iadd, 1) := by decide +kernel
theorem dX13_whole_23 : decode cX13_whole 23 = .ok (.invokevirtual 355, 3) := by decide +kernel
theorem dX13_whole_26 : decode cX13_whole 26 = .ok (.invokestatic 180, 3) := by decide +kernel
theorem dX13_whole_29 : decode cX13_whole 29 = .ok (.ifCond .ne 13, 3) := by decide +kernel
theorem dX13_whole_32 : decode cX13_whole 32 = .ok (.aload_n 0, 1) := by decide +kernel
theorem dX13_whole_33 : decode cX13_whole 33 = .ok (.iconst 1, 1) := by decide +kernel
theorem dX13_whole_34 : decode cX13_whole 34 = .ok (.aload_n 0, 1) := by decide +kernel
theorem dX13_whole_35 : decode cX13_whole 35 = .ok (.getfield 349, 3) := by decide +kernel
theorem dX13_whole_38 : decode cX13_whole 38 = .ok (.invokevirtual 402, 3) := by decide +kernel
theorem dX13_whole_41 : decode cX13_whole 41 = .ok (.athrow, 1) := by decide +kernel
theorem dX13_whole_42 : decode cX13_whole 42 = .ok (.aload_n 0, 1) := by decide +kernel
theorem dX13_whole_43 : decode cX13_whole 43 = .ok (.invokevirtual 383, 3) := by decide +kernel
theorem dX13_whole_46 : decode cX13_whole 46 = .ok (.aload_n 0, 1) := by decide +kernel
theorem dX13_whole_47 : decode cX13_whole 47 = .ok (.getfield 352, 3) := by decide +kernel
theorem dX13_whole_50 : decode cX13_whole 50 = .ok (.iconst 1, 1) := by decide +kernel
theorem dX13_whole_51 : decode cX13_whole 51 = .ok (.if_icmp .ne 17, 3) := by decide +kernel
theorem dX13_whole_54 : decode cX13_whole 54 = .ok (.aload_n 0, 1) := by decide +kernel
theorem dX13_whole_55 : decode cX13_whole 55 = .ok (.getfield 343, 3) := by decide +kernel
theorem dX13_whole_58 : decode cX13_whole 58 = .ok (.aload_n 0, 1) := by decide +kernel
theorem dX13_whole_59 : decode cX13_whole 59 = .ok (.getfield 349, 3) := by decide +kernel
theorem dX13_whole_62 : decode cX13_whole 62 = .ok (.isub, 1) := by decide +kernel
theorem dX13_whole_63 : decode cX13_whole 63 = .ok (.bipush 9, 2) := by decide +kernel
theorem dX13_whole_65 : decode cX13_whole 65 = .ok (.if_icmp .le 21, 3) := by decide +kernel
theorem dX13_whole_68 : decode cX13_whole 68 = .ok (.aload_n 0, 1) := by decide +kernel
theorem dX13_whole_69 : decode cX13_whole 69 = .ok (.iconst 1, 1) := by decide +kernel
theorem dX13_whole_70 : decode cX13_whole 70 = .ok (.iload_n 1, 1) := by decide +kernel
theorem dX13_whole_71 : decode cX13_whole 71 = .ok (.ifCond .eq 7, 3) := by decide +kernel
theorem dX13_whole_74 : decode cX13_whole 74 = .ok (.iload_n 2, 1) := by decide +kernel
theorem dX13_whole_75 : decode cX13_whole 75 = .ok (.goto 7, 3) := by decide +kernel
theorem dX13_whole_78 : decode cX13_whole 78 = .ok (.aload_n 0, 1) := by decide +kernel
theorem dX13_whole_79 : decode cX13_whole 79 = .ok (.getfield 349, 3) := by decide +kernel
theorem dX13_whole_82 : decode cX13_whole 82 = .ok (.invokevirtual 402, 3) := by decide +kernel
theorem dX13_whole_85 : decode cX13_whole 85 = .ok (.athrow, 1) := by decide +kernel
theorem dX13_whole_86 : decode cX13_whole 86 = .ok (.iconst 0, 1) := by decide +kernel
theorem dX13_whole_87 : decode cX13_whole 87 = .ok (.istore_n 3, 1) := by decide +kernel
theorem dX13_whole_88 : decode cX13_whole 88 = .ok (.aload_n 0, 1) := by decide +kernel
theorem dX13_whole_89 : decode cX13_whole 89 = .ok (.getfield 349, 3) := by decide +kernel
theorem dX13_whole_92 : decode cX13_whole 92 = .ok (.istore 4, 2) := by decide +kernel
theorem dX13_whole_94 : decode cX13_whole 94 = .ok (.iload 4, 2) := by decide +kernel
theorem dX13_whole_96 : decode cX13_whole 96 = .ok (.aload_n 0, 1) := by decide +kernel
theorem dX13_whole_97 : decode cX13_whole 97 = .ok (.getfield 343, 3) := by decide +kernel
theorem dX13_whole_100 : decode cX13_whole 100 = .ok (.if_icmp .ge 56, 3) := by decide +kernel
theorem dX13_whole_103 : decode cX13_whole 103 = .ok (.aload_n 0, 1) := by decide +kernel
theorem dX13_whole_104 : decode cX13_whole 104 = .ok (.getfield 9, 3) := by decide +kernel
theorem dX13_whole_107 : decode cX13_whole 107 = .ok (.iload 4, 2) := by decide +kernel
theorem dX13_whole_109 : decode cX13_whole 109 = .ok (.baload, 1) := by decide +kernel
theorem dX13_whole_110 : decode cX13_whole 110 = .ok (.invokestatic 180, 3) := by decide +kernel
theorem dX13_whole_113 : decode cX13_whole 113 = .ok (.ifCond .ne 21, 3) := by decide +kernel
theorem dX13_whole_116 : decode cX13_whole 116 = .ok (.aload_n 0, 1) := by decide +kernel
theorem dX13_whole_117 : decode cX13_whole 117 = .ok (.iconst 1, 1) := by decide +kernel
theorem dX13_whole_118 : decode cX13_whole 118 = .ok (.iload_n 1, 1) := by decide +kernel
theorem dX13_whole_119 : decode cX13_whole 119 = .ok (.ifCond .eq 7, 3) := by decide +kernel
theorem dX13_whole_122 : decode cX13_whole 122 = .ok (.iload_n 2, 1) := by decide +kernel
theorem dX13_whole_123 : decode cX13_whole 123 = .ok (.goto 7, 3) := by decide +kernel
theorem dX13_whole_126 : decode cX13_whole 126 = .ok (.aload_n 0, 1) := by decide +kernel
theorem dX13_whole_127 : decode cX13_whole 127 = .ok (.getfield 349, 3) := by decide +kernel
theorem dX13_whole_130 : decode cX13_whole 130 = .ok (.invokevirtual 402, 3) := by decide +kernel
theorem dX13_whole_133 : decode cX13_whole 133 = .ok (.athrow, 1) := by decide +kernel
theorem dX13_whole_134 : decode cX13_whole 134 = .ok (.bipush 10, 2) := by decide +kernel
theorem dX13_whole_136 : decode cX13_whole 136 = .ok (.iload_n 3, 1) := by decide +kernel
theorem dX13_whole_137 : decode cX13_whole 137 = .ok (.imul, 1) := by decide +kernel
theorem dX13_whole_138 : decode cX13_whole 138 = .ok (.aload_n 0, 1) := by decide +kernel
theorem dX13_whole_139 : decode cX13_whole 139 = .ok (.getfield 9, 3) := by decide +kernel
theorem dX13_whole_142 : decode cX13_whole 142 = .ok (.iload 4, 2) := by decide +kernel
theorem dX13_whole_144 : decode cX13_whole 144 = .ok (.baload, 1) := by decide +kernel
theorem dX13_whole_145 : decode cX13_whole 145 = .ok (.iadd, 1) := by decide +kernel
theorem dX13_whole_146 : decode cX13_whole 146 = .ok (.bipush 48, 2) := by decide +kernel
theorem dX13_whole_148 : decode cX13_whole 148 = .ok (.isub, 1) := by decide +kernel
theorem dX13_whole_149 : decode cX13_whole 149 = .ok (.istore_n 3, 1) := by decide +kernel
theorem dX13_whole_150 : decode cX13_whole 150 = .ok (.iinc 4 1, 3) := by decide +kernel
theorem dX13_whole_153 : decode cX13_whole 153 = .ok (.goto (-59), 3) := by decide +kernel
theorem dX13_whole_156 : decode cX13_whole 156 = .ok (.aload_n 0, 1) := by decide +kernel
theorem dX13_whole_157 : decode cX13_whole 157 = .ok (.iload_n 2, 1) := by decide +kernel
theorem dX13_whole_158 : decode cX13_whole 158 = .ok (.putfield 457, 3) := by decide +kernel
theorem dX13_whole_161 : decode cX13_whole 161 = .ok (.aload_n 0, 1) := by decide +kernel
theorem dX13_whole_162 : decode cX13_whole 162 = .ok (.invokevirtual 383, 3) := by decide +kernel
theorem dX13_whole_165 : decode cX13_whole 165 = .ok (.iload_n 1, 1) := by decide +kernel
theorem dX13_whole_166 : decode cX13_whole 166 = .ok (.ifCond .eq 8, 3) := by decide +kernel
theorem dX13_whole_169 : decode cX13_whole 169 = .ok (.iload_n 3, 1) := by decide +kernel
theorem dX13_whole_170 : decode cX13_whole 170 = .ok (.ineg, 1) := by decide +kernel
theorem dX13_whole_171 : decode cX13_whole 171 = .ok (.goto 4, 3) := by decide +kernel
theorem dX13_whole_174 : decode cX13_whole 174 = .ok (.iload_n 3, 1) := by decide +kernel
theorem dX13_whole_175 : decode cX13_whole 175 = .ok (.ireturn, 1) := by decide +kernel
theorem dX13_marksOf_0 : decode cX13_marksOf 0 = .ok (.aload_n 0, 1) := by decide +kernel
theorem dX13_marksOf_1 : decode cX13_marksOf 1 = .ok (.iconst 4, 1) := by decide +kernel
theorem dX13_marksOf_2 : decode cX13_marksOf 2 = .ok (.invokevirtual 445, 3) := by decide +kernel
theorem dX13_marksOf_5 : decode cX13_marksOf 5 = .ok (.istore_n 1, 1) := by decide +kernel
theorem dX13_marksOf_6 : decode cX13_marksOf 6 = .ok (.aload_n 0, 1) := by decide +kernel
theorem dX13_marksOf_7 : decode cX13_marksOf 7 = .ok (.invokevirtual 383, 3) := by decide +kernel
theorem dX13_marksOf_10 : decode cX13_marksOf 10 = .ok (.aload_n 0, 1) := by decide +kernel
theorem dX13_marksOf_11 : decode cX13_marksOf 11 = .ok (.invokevirtual 460, 3) := by decide +kernel
theorem dX13_marksOf_14 : decode cX13_marksOf 14 = .ok (.istore_n 2, 1) := by decide +kernel
theorem dX13_marksOf_15 : decode cX13_marksOf 15 = .ok (.aload_n 0, 1) := by decide +kernel
theorem dX13_marksOf_16 : decode cX13_marksOf 16 = .ok (.getfield 352, 3) := by decide +kernel
theorem dX13_marksOf_19 : decode cX13_marksOf 19 = .ok (.iconst 3, 1) := by decide +kernel
theorem dX13_marksOf_20 : decode cX13_marksOf 20 = .ok (.if_icmp .eq 13, 3) := by decide +kernel
theorem dX13_marksOf_23 : decode cX13_marksOf 23 = .ok (.aload_n 0, 1) := by decide +kernel
theorem dX13_marksOf_24 : decode cX13_marksOf 24 = .ok (.iconst 1, 1) := by decide +kernel
theorem dX13_marksOf_25 : decode cX13_marksOf 25 = .ok (.aload_n 0, 1) := by decide +kernel
theorem dX13_marksOf_26 : decode cX13_marksOf 26 = .ok (.getfield 349, 3) := by decide +kernel
theorem dX13_marksOf_29 : decode cX13_marksOf 29 = .ok (.invokevirtual 402, 3) := by decide +kernel
theorem dX13_marksOf_32 : decode cX13_marksOf 32 = .ok (.athrow, 1) := by decide +kernel
theorem dX13_marksOf_33 : decode cX13_marksOf 33 = .ok (.aload_n 0, 1) := by decide +kernel
theorem dX13_marksOf_34 : decode cX13_marksOf 34 = .ok (.invokevirtual 383, 3) := by decide +kernel
theorem dX13_marksOf_37 : decode cX13_marksOf 37 = .ok (.aload_n 0, 1) := by decide +kernel
theorem dX13_marksOf_38 : decode cX13_marksOf 38 = .ok (.iload_n 2, 1) := by decide +kernel
theorem dX13_marksOf_39 : decode cX13_marksOf 39 = .ok (.invokevirtual 463, 3) := by decide +kernel
theorem dX13_marksOf_42 : decode cX13_marksOf 42 = .ok (.istore_n 3, 1) := by decide +kernel
theorem dX13_marksOf_43 : decode cX13_marksOf 43 = .ok (.aload_n 0, 1) := by decide +kernel
theorem dX13_marksOf_44 : decode cX13_marksOf 44 = .ok (.bipush 93, 2) := by decide +kernel
theorem dX13_marksOf_46 : decode cX13_marksOf 46 = .ok (.invokevirtual 371, 3) := by decide +kernel
theorem dX13_marksOf_49 : decode cX13_marksOf 49 = .ok (.ifCond .ne 13, 3) := by decide +kernel
theorem dX13_marksOf_52 : decode cX13_marksOf 52 = .ok (.aload_n 0, 1) := by decide +kernel
theorem dX13_marksOf_53 : decode cX13_marksOf 53 = .ok (.iconst 1, 1) := by decide +kernel
theorem dX13_marksOf_54 : decode cX13_marksOf 54 = .ok (.aload_n 0, 1) := by decide +kernel
theorem dX13_marksOf_55 : decode cX13_marksOf 55 = .ok (.getfield 349, 3) := by decide +kernel
theorem dX13_marksOf_58 : decode cX13_marksOf 58 = .ok (.invokevirtual 402, 3) := by decide +kernel
theorem dX13_marksOf_61 : decode cX13_marksOf 61 = .ok (.athrow, 1) := by decide +kernel
theorem dX13_marksOf_62 : decode cX13_marksOf 62 = .ok (.aload_n 0, 1) := by decide +kernel
theorem dX13_marksOf_63 : decode cX13_marksOf 63 = .ok (.invokevirtual 383, 3) := by decide +kernel
theorem dX13_marksOf_66 : decode cX13_marksOf 66 = .ok (.aload_n 0, 1) := by decide +kernel
theorem dX13_marksOf_67 : decode cX13_marksOf 67 = .ok (.getfield 104, 3) := by decide +kernel
theorem dX13_marksOf_70 : decode cX13_marksOf 70 = .ok (.iload_n 1, 1) := by decide +kernel
theorem dX13_marksOf_71 : decode cX13_marksOf 71 = .ok (.iload_n 2, 1) := by decide +kernel
theorem dX13_marksOf_72 : decode cX13_marksOf 72 = .ok (.iastore, 1) := by decide +kernel
theorem dX13_marksOf_73 : decode cX13_marksOf 73 = .ok (.aload_n 0, 1) := by decide +kernel
theorem dX13_marksOf_74 : decode cX13_marksOf 74 = .ok (.getfield 110, 3) := by decide +kernel
theorem dX13_marksOf_77 : decode cX13_marksOf 77 = .ok (.iload_n 1, 1) := by decide +kernel
theorem dX13_marksOf_78 : decode cX13_marksOf 78 = .ok (.iload_n 3, 1) := by decide +kernel
theorem dX13_marksOf_79 : decode cX13_marksOf 79 = .ok (.iastore, 1) := by decide +kernel
theorem dX13_marksOf_80 : decode cX13_marksOf 80 = .ok (.aload_n 0, 1) := by decide +kernel
theorem dX13_marksOf_81 : decode cX13_marksOf 81 = .ok (.iload_n 1, 1) := by decide +kernel
theorem dX13_marksOf_82 : decode cX13_marksOf 82 = .ok (.invokevirtual 451, 3) := by decide +kernel
theorem dX13_marksOf_85 : decode cX13_marksOf 85 = .ok (.ireturn, 1) := by decide +kernel
theorem dX13_wholeFrom_0 : decode cX13_wholeFrom 0 = .ok (.aload_n 0, 1) := by decide +kernel
theorem dX13_wholeFrom_1 : decode cX13_wholeFrom 1 = .ok (.invokevirtual 460, 3) := by decide +kernel
theorem dX13_wholeFrom_4 : decode cX13_wholeFrom 4 = .ok (.istore_n 2, 1) := by decide +kernel
theorem dX13_wholeFrom_5 : decode cX13_wholeFrom 5 = .ok (.iload_n 2, 1) := by decide +kernel
theorem dX13_wholeFrom_6 : decode cX13_wholeFrom 6 = .ok (.iload_n 1, 1) := by decide +kernel
theorem dX13_wholeFrom_7 : decode cX13_wholeFrom 7 = .ok (.if_icmp .ge 13, 3) := by decide +kernel
theorem dX13_wholeFrom_10 : decode cX13_wholeFrom 10 = .ok (.aload_n 0, 1) := by decide +kernel
theorem dX13_wholeFrom_11 : decode cX13_wholeFrom 11 = .ok (.iconst 2, 1) := by decide +kernel
theorem dX13_wholeFrom_12 : decode cX13_wholeFrom 12 = .ok (.aload_n 0, 1) := by decide +kernel
theorem dX13_wholeFrom_13 : decode cX13_wholeFrom 13 = .ok (.getfield 457, 3) := by decide +kernel
theorem dX13_wholeFrom_16 : decode cX13_wholeFrom 16 = .ok (.invokevirtual 402, 3) := by decide +kernel
theorem dX13_wholeFrom_19 : decode cX13_wholeFrom 19 = .ok (.athrow, 1) := by decide +kernel
theorem dX13_wholeFrom_20 : decode cX13_wholeFrom 20 = .ok (.iload_n 2, 1) := by decide +kernel
theorem dX13_wholeFrom_21 : decode cX13_wholeFrom 21 = .ok (.ireturn, 1) := by decide +kernel
theorem dX13_isStopped_0 : decode cX13_isStopped 0 = .ok (.aload_n 0, 1) := by decide +kernel
theorem dX13_isStopped_1 : decode cX13_isStopped 1 = .ok (.aload_n 0, 1) := by decide +kernel
theorem dX13_isStopped_2 : decode cX13_isStopped 2 = .ok (.getfield 116, 3) := by decide +kernel
theorem dX13_isStopped_5 : decode cX13_isStopped 5 = .ok (.iload_n 1, 1) := by decide +kernel
theorem dX13_isStopped_6 : decode cX13_isStopped 6 = .ok (.iaload, 1) := by decide +kernel
theorem dX13_isStopped_7 : decode cX13_isStopped 7 = .ok (.putfield 193, 3) := by decide +kernel
theorem dX13_isStopped_10 : decode cX13_isStopped 10 = .ok (.iconst 0, 1) := by decide +kernel
theorem dX13_isStopped_11 : decode cX13_isStopped 11 = .ok (.istore_n 2, 1) := by decide +kernel
theorem dX13_isStopped_12 : decode cX13_isStopped 12 = .ok (.iload_n 2, 1) := by decide +kernel
theorem dX13_isStopped_13 : decode cX13_isStopped 13 = .ok (.aload_n 0, 1) := by decide +kernel
theorem dX13_isStopped_14 : decode cX13_isStopped 14 = .ok (.getfield 193, 3) := by decide +kernel
theorem dX13_isStopped_17 : decode cX13_isStopped 17 = .ok (.if_icmp .ge 26, 3) := by decide +kernel
theorem dX13_isStopped_20 : decode cX13_isStopped 20 = .ok (.aload_n 0, 1) := by decide +kernel
theorem dX13_isStopped_21 : decode cX13_isStopped 21 = .ok (.getfield 60, 3) := by decide +kernel
theorem dX13_isStopped_24 : decode cX13_isStopped 24 = .ok (.iload_n 2, 1) := by decide +kernel
theorem dX13_isStopped_25 : decode cX13_isStopped 25 = .ok (.aload_n 0, 1) := by decide +kernel
theorem dX13_isStopped_26 : decode cX13_isStopped 26 = .ok (.getfield 113, 3) := by decide +kernel
theorem dX13_isStopped_29 : decode cX13_isStopped 29 = .ok (.bipush 12, 2) := by decide +kernel
theorem dX13_isStopped_31 : decode cX13_isStopped 31 = .ok (.iload_n 1, 1) := by decide +kernel
theorem dX13_isStopped_32 : decode cX13_isStopped 32 = .ok (.imul, 1) := by decide +kernel
theorem dX13_isStopped_33 : decode cX13_isStopped 33 = .ok (.iload_n 2, 1) := by decide +kernel
theorem dX13_isStopped_34 : decode cX13_isStopped 34 = .ok (.iadd, 1) := by decide +kernel
theorem dX13_isStopped_35 : decode cX13_isStopped 35 = .ok (.baload, 1) := by decide +kernel
theorem dX13_isStopped_36 : decode cX13_isStopped 36 = .ok (.bastore, 1) := by decide +kernel
theorem dX13_isStopped_37 : decode cX13_isStopped 37 = .ok (.iinc 2 1, 3) := by decide +kernel
theorem dX13_isStopped_40 : decode cX13_isStopped 40 = .ok (.goto (-28), 3) := by decide +kernel
theorem dX13_isStopped_43 : decode cX13_isStopped 43 = .ok (.aload_n 0, 1) := by decide +kernel
theorem dX13_isStopped_44 : decode cX13_isStopped 44 = .ok (.invokevirtual 231, 3) := by decide +kernel
theorem dX13_isStopped_47 : decode cX13_isStopped 47 = .ok (.iconst (-1), 1) := by decide +kernel
theorem dX13_isStopped_48 : decode cX13_isStopped 48 = .ok (.if_icmp .eq 7, 3) := by decide +kernel
theorem dX13_isStopped_51 : decode cX13_isStopped 51 = .ok (.iconst 1, 1) := by decide +kernel
theorem dX13_isStopped_52 : decode cX13_isStopped 52 = .ok (.goto 4, 3) := by decide +kernel
theorem dX13_isStopped_55 : decode cX13_isStopped 55 = .ok (.iconst 0, 1) := by decide +kernel
theorem dX13_isStopped_56 : decode cX13_isStopped 56 = .ok (.ireturn, 1) := by decide +kernel
theorem dX13_prepare_0 : decode cX13_prepare 0 = .ok (.iconst 0, 1) := by decide +kernel
theorem dX13_prepare_1 : decode cX13_prepare 1 = .ok (.istore_n 1, 1) := by decide +kernel
theorem dX13_prepare_2 : decode cX13_prepare 2 = .ok (.iload_n 1, 1) := by decide +kernel
theorem dX13_prepare_3 : decode cX13_prepare 3 = .ok (.aload_n 0, 1) := by decide +kernel
theorem dX13_prepare_4 : decode cX13_prepare 4 = .ok (.getfield 442, 3) := by decide +kernel
theorem dX13_prepare_7 : decode cX13_prepare 7 = .ok (.if_icmp .ge 35, 3) := by decide +kernel
theorem dX13_prepare_10 : decode cX13_prepare 10 = .ok (.aload_n 0, 1) := by decide +kernel
theorem dX13_prepare_11 : decode cX13_prepare 11 = .ok (.iload_n 1, 1) := by decide +kernel
theorem dX13_prepare_12 : decode cX13_prepare 12 = .ok (.invokevirtual 466, 3) := by decide +kernel
theorem dX13_prepare_15 : decode cX13_prepare 15 = .ok (.istore_n 2, 1) := by decide +kernel
theorem dX13_prepare_16 : decode cX13_prepare 16 = .ok (.aload_n 0, 1) := by decide +kernel
theorem dX13_prepare_17 : decode cX13_prepare 17 = .ok (.getfield 131, 3) := by decide +kernel
theorem dX13_prepare_20 : decode cX13_prepare 20 = .ok (.iload_n 1, 1) := by decide +kernel
theorem dX13_prepare_21 : decode cX13_prepare 21 = .ok (.iload_n 2, 1) := by decide +kernel
theorem dX13_prepare_22 : decode cX13_prepare 22 = .ok (.ifCond .eq 7, 3) := by decide +kernel
theorem dX13_prepare_25 : decode cX13_prepare 25 = .ok (.iconst (-1), 1) := by decide +kernel
theorem dX13_prepare_26 : decode cX13_prepare 26 = .ok (.goto 9, 3) := by decide +kernel
theorem dX13_prepare_29 : decode cX13_prepare 29 = .ok (.aload_n 0, 1) := by decide +kernel
theorem dX13_prepare_30 : decode cX13_prepare 30 = .ok (.invokevirtual 235, 3) := by decide +kernel
theorem dX13_prepare_33 : decode cX13_prepare 33 = .ok (.iconst 1, 1) := by decide +kernel
theorem dX13_prepare_34 : decode cX13_prepare 34 = .ok (.iadd, 1) := by decide +kernel
theorem dX13_prepare_35 : decode cX13_prepare 35 = .ok (.iastore, 1) := by decide +kernel
theorem dX13_prepare_36 : decode cX13_prepare 36 = .ok (.iinc 1 1, 3) := by decide +kernel
theorem dX13_prepare_39 : decode cX13_prepare 39 = .ok (.goto (-37), 3) := by decide +kernel
theorem dX13_prepare_42 : decode cX13_prepare 42 = .ok (.iconst 0, 1) := by decide +kernel
theorem dX13_prepare_43 : decode cX13_prepare 43 = .ok (.istore_n 1, 1) := by decide +kernel
theorem dX13_prepare_44 : decode cX13_prepare 44 = .ok (.iload_n 1, 1) := by decide +kernel
theorem dX13_prepare_45 : decode cX13_prepare 45 = .ok (.aload_n 0, 1) := by decide +kernel
theorem dX13_prepare_46 : decode cX13_prepare 46 = .ok (.getfield 439, 3) := by decide +kernel
theorem dX13_prepare_49 : decode cX13_prepare 49 = .ok (.if_icmp .ge 61, 3) := by decide +kernel
theorem dX13_prepare_52 : decode cX13_prepare 52 = .ok (.aload_n 0, 1) := by decide +kernel
theorem dX13_prepare_53 : decode cX13_prepare 53 = .ok (.getfield 101, 3) := by decide +kernel
theorem dX13_prepare_56 : decode cX13_prepare 56 = .ok (.iload_n 1, 1) := by decide +kernel
theorem dX13_prepare_57 : decode cX13_prepare 57 = .ok (.iaload, 1) := by decide +kernel
theorem dX13_prepare_58 : decode cX13_prepare 58 = .ok (.iconst 2, 1) := by decide +kernel
theorem dX13_prepare_59 : decode cX13_prepare 59 = .ok (.if_icmp .eq 6, 3) := by decide +kernel
theorem dX13_prepare_62 : decode cX13_prepare 62 = .ok (.goto 42, 3) := by decide +kernel
theorem dX13_prepare_65 : decode cX13_prepare 65 = .ok (.iconst 0, 1) := by decide +kernel
theorem dX13_prepare_66 : decode cX13_prepare 66 = .ok (.istore_n 2, 1) := by decide +kernel
theorem dX13_prepare_67 : decode cX13_prepare 67 = .ok (.iload_n 2, 1) := by decide +kernel
theorem dX13_prepare_68 : decode cX13_prepare 68 = .ok (.aload_n 0, 1) := by decide +kernel
theorem dX13_prepare_69 : decode cX13_prepare 69 = .ok (.getfield 208, 3) := by decide +kernel
theorem dX13_prepare_72 : decode cX13_prepare 72 = .ok (.if_icmp .ge 32, 3) := by decide +kernel
theorem dX13_prepare_75 : decode cX13_prepare 75 = .ok (.aload_n 0, 1) := by decide +kernel
theorem dX13_prepare_76 : decode cX13_prepare 76 = .ok (.getfield 134, 3) := by decide +kernel
theorem dX13_prepare_79 : decode cX13_prepare 79 = .ok (.sipush 400, 3) := by decide +kernel
theorem dX13_prepare_82 : decode cX13_prepare 82 = .ok (.iload_n 1, 1) := by decide +kernel
theorem dX13_prepare_83 : decode cX13_prepare 83 = .ok (.imul, 1) := by decide +kernel
theorem dX13_prepare_84 : decode cX13_prepare 84 = .ok (.iload_n 2, 1) := by decide +kernel
theorem dX13_prepare_85 : decode cX13_prepare 85 = .ok (.iadd, 1) := by decide +kernel
theorem dX13_prepare_86 : decode cX13_prepare 86 = .ok (.aload_n 0, 1) := by decide +kernel
theorem dX13_prepare_87 : decode cX13_prepare 87 = .ok (.iload_n 2, 1) := by decide +kernel
theorem dX13_prepare_88 : decode cX13_prepare 88 = .ok (.aload_n 0, 1) := by decide +kernel
theorem dX13_prepare_89 : decode cX13_prepare 89 = .ok (.getfield 104, 3) := by decide +kernel
theorem dX13_prepare_92 : decode cX13_prepare 92 = .ok (.iload_n 1, 1) := by decide +kernel
theorem dX13_prepare_93 : decode cX13_prepare 93 = .ok (.iaload, 1) := by decide +kernel
theorem dX13_prepare_94 : decode cX13_prepare 94 = .ok (.invokevirtual 469, 3) := by decide +kernel
theorem dX13_prepare_97 : decode cX13_prepare 97 = .ok (.bastore, 1) := by decide +kernel
theorem dX13_prepare_98 : decode cX13_prepare 98 = .ok (.iinc 2 1, 3) := by decide +kernel
theorem dX13_prepare_101 : decode cX13_prepare 101 = .ok (.goto (-34), 3) := by decide +kernel
theorem dX13_prepare_104 : decode cX13_prepare 104 = .ok (.iinc 1 1, 3) := by decide +kernel
theorem dX13_prepare_107 : decode cX13_prepare 107 = .ok (.goto (-63), 3) := by decide +kernel
theorem dX13_prepare_110 : decode cX13_prepare 110 = .ok (.return_, 1) := by decide +kernel
theorem dX13_beginsBy_0 : decode cX13_beginsBy 0 = .ok (.aload_n 0, 1) := by decide +kernel
theorem dX13_beginsBy_1 : decode cX13_beginsBy 1 = .ok (.getfield 16, 3) := by decide +kernel
theorem dX13_beginsBy_4 : decode cX13_beginsBy 4 = .ok (.iload_n 1, 1) := by decide +kernel
theorem dX13_beginsBy_5 : decode cX13_beginsBy 5 = .ok (.iaload, 1) := by decide +kernel
theorem dX13_beginsBy_6 : decode cX13_beginsBy 6 = .ok (.aload_n 0, 1) := by decide +kernel
theorem dX13_beginsBy_7 : decode cX13_beginsBy 7 = .ok (.getfield 116, 3) := by decide +kernel
theorem dX13_beginsBy_10 : decode cX13_beginsBy 10 = .ok (.iload_n 2, 1) := by decide +kernel
theorem dX13_beginsBy_11 : decode cX13_beginsBy 11 = .ok (.iaload, 1) := by decide +kernel
theorem dX13_beginsBy_12 : decode cX13_beginsBy 12 = .ok (.if_icmp .ge 5, 3) := by decide +kernel
theorem dX13_beginsBy_15 : decode cX13_beginsBy 15 = .ok (.iconst 0, 1) := by decide +kernel
theorem dX13_beginsBy_16 : decode cX13_beginsBy 16 = .ok (.ireturn, 1) := by decide +kernel
theorem dX13_beginsBy_17 : decode cX13_beginsBy 17 = .ok (.iconst 0, 1) := by decide +kernel
theorem dX13_beginsBy_18 : decode cX13_beginsBy 18 = .ok (.istore_n 3, 1) := by decide +kernel
theorem dX13_beginsBy_19 : decode cX13_beginsBy 19 = .ok (.iload_n 3, 1) := by decide +kernel
theorem dX13_beginsBy_20 : decode cX13_beginsBy 20 = .ok (.aload_n 0, 1) := by decide +kernel
theorem dX13_beginsBy_21 : decode cX13_beginsBy 21 = .ok (.getfield 116, 3) := by decide +kernel
theorem dX13_beginsBy_24 : decode cX13_beginsBy 24 = .ok (.iload_n 2, 1) := by decide +kernel
theorem dX13_beginsBy_25 : decode cX13_beginsBy 25 = .ok (.iaload, 1) := by decide +kernel
theorem dX13_beginsBy_26 : decode cX13_beginsBy 26 = .ok (.if_icmp .ge 36, 3) := by decide +kernel
theorem dX13_beginsBy_29 : decode cX13_beginsBy 29 = .ok (.aload_n 0, 1) := by decide +kernel
theorem dX13_beginsBy_30 : decode cX13_beginsBy 30 = .ok (.getfield 13, 3) := by decide +kernel
theorem dX13_beginsBy_33 : decode cX13_beginsBy 33 = .ok (.bipush 12, 2) := by decide +kernel
theorem dX13_beginsBy_35 : decode cX13_beginsBy 35 = .ok (.iload_n 1, 1) := by decide +kernel
theorem dX13_beginsBy_36 : decode cX13_beginsBy 36 = .ok (.imul, 1) := by decide +kernel
theorem dX13_beginsBy_37 : decode cX13_beginsBy 37 = .ok (.iload_n 3, 1) := by decide +kernel
theorem dX13_beginsBy_38 : decode cX13_beginsBy 38 = .ok (.iadd, 1) := by decide +kernel
theorem dX13_beginsBy_39 : decode cX13_beginsBy 39 = .ok (.baload, 1) := by decide +kernel
theorem dX13_beginsBy_40 : decode cX13_beginsBy 40 = .ok (.aload_n 0, 1) := by decide +kernel
theorem dX13_beginsBy_41 : decode cX13_beginsBy 41 = .ok (.getfield 113, 3) := by decide +kernel
theorem dX13_beginsBy_44 : decode cX13_beginsBy 44 = .ok (.bipush 12, 2) := by decide +kernel
theorem dX13_beginsBy_46 : decode cX13_beginsBy 46 = .ok (.iload_n 2, 1) := by decide +kernel
theorem dX13_beginsBy_47 : decode cX13_beginsBy 47 = .ok (.imul, 1) := by decide +kernel
theorem dX13_beginsBy_48 : decode cX13_beginsBy 48 = .ok (.iload_n 3, 1) := by decide +kernel
theorem dX13_beginsBy_49 : decode cX13_beginsBy 49 = .ok (.iadd, 1) := by decide +kernel
theorem dX13_beginsBy_50 : decode cX13_beginsBy 50 = .ok (.baload, 1) := by decide +kernel
theorem dX13_beginsBy_51 : decode cX13_beginsBy 51 = .ok (.if_icmp .eq 5, 3) := by decide +kernel
theorem dX13_beginsBy_54 : decode cX13_beginsBy 54 = .ok (.iconst 0, 1) := by decide +kernel
theorem dX13_beginsBy_55 : decode cX13_beginsBy 55 = .ok (.ireturn, 1) := by decide +kernel
theorem dX13_beginsBy_56 : decode cX13_beginsBy 56 = .ok (.iinc 3 1, 3) := by decide +kernel
theorem dX13_beginsBy_59 : decode cX13_beginsBy 59 = .ok (.goto (-40), 3) := by decide +kernel
theorem dX13_beginsBy_62 : decode cX13_beginsBy 62 = .ok (.iconst 1, 1) := by decide +kernel
theorem dX13_beginsBy_63 : decode cX13_beginsBy 63 = .ok (.ireturn, 1) := by decide +kernel
theorem dX13_matches_0 : decode cX13_matches 0 = .ok (.aload_n 0, 1) := by decide +kernel
theorem dX13_matches_1 : decode cX13_matches 1 = .ok (.getfield 21, 3) := by decide +kernel
theorem dX13_matches_4 : decode cX13_matches 4 = .ok (.sipush 1024, 3) := by decide +kernel
theorem dX13_matches_7 : decode cX13_matches 7 = .ok (.iload_n 2, 1) := by decide +kernel
theorem dX13_matches_8 : decode cX13_matches 8 = .ok (.imul, 1) := by decide +kernel
theorem dX13_matches_9 : decode cX13_matches 9 = .ok (.iload_n 3, 1) := by decide +kernel
theorem dX13_matches_10 : decode cX13_matches 10 = .ok (.iadd, 1) := by decide +kernel
theorem dX13_matches_11 : decode cX13_matches 11 = .ok (.saload, 1) := by decide +kernel
theorem dX13_matches_12 : decode cX13_matches 12 = .ok (.istore 4, 2) := by decide +kernel
theorem dX13_matches_14 : decode cX13_matches 14 = .ok (.aload_n 0, 1) := by decide +kernel
theorem dX13_matches_15 : decode cX13_matches 15 = .ok (.getfield 101, 3) := by decide +kernel
theorem dX13_matches_18 : decode cX13_matches 18 = .ok (.iload_n 1, 1) := by decide +kernel
theorem dX13_matches_19 : decode cX13_matches 19 = .ok (.iaload, 1) := by decide +kernel
theorem dX13_matches_20 : decode cX13_matches 20 = .ok (.tableswitch 92 1 3 #[28, 55, 84], 28) := by decide +kernel
theorem dX13_matches_48 : decode cX13_matches 48 = .ok (.iload 4, 2) := by decide +kernel
theorem dX13_matches_50 : decode cX13_matches 50 = .ok (.ifCond .le 23, 3) := by decide +kernel
theorem dX13_matches_53 : decode cX13_matches 53 = .ok (.iload 4, 2) := by decide +kernel
theorem dX13_matches_55 : decode cX13_matches 55 = .ok (.aload_n 0, 1) := by decide +kernel
theorem dX13_matches_56 : decode cX13_matches 56 = .ok (.getfield 131, 3) := by decide +kernel
theorem dX13_matches_59 : decode cX13_matches 59 = .ok (.aload_n 0, 1) := by decide +kernel
theorem dX13_matches_60 : decode cX13_matches 60 = .ok (.getfield 104, 3) := by decide +kernel
theorem dX13_matches_63 : decode cX13_matches 63 = .ok (.iload_n 1, 1) := by decide +kernel
theorem dX13_matches_64 : decode cX13_matches 64 = .ok (.iaload, 1) := by decide +kernel
theorem dX13_matches_65 : decode cX13_matches 65 = .ok (.iaload, 1) := by decide +kernel
theorem dX13_matches_66 : decode cX13_matches 66 = .ok (.if_icmp .ne 7, 3) := by decide +kernel
theorem dX13_matches_69 : decode cX13_matches 69 = .ok (.iconst 1, 1) := by decide +kernel
theorem dX13_matches_70 : decode cX13_matches 70 = .ok (.goto 4, 3) := by decide +kernel
theorem dX13_matches_73 : decode cX13_matches 73 = .ok (.iconst 0, 1) := by decide +kernel
theorem dX13_matches_74 : decode cX13_matches 74 = .ok (.ireturn, 1) := by decide +kernel
theorem dX13_matches_75 : decode cX13_matches 75 = .ok (.iload 4, 2) := by decide +kernel
theorem dX13_matches_77 : decode cX13_matches 77 = .ok (.ifCond .le 25, 3) := by decide +kernel
theorem dX13_matches_80 : decode cX13_matches 80 = .ok (.aload_n 0, 1) := by decide +kernel
theorem dX13_matches_81 : decode cX13_matches 81 = .ok (.getfield 134, 3) := by decide +kernel
theorem dX13_matches_84 : decode cX13_matches 84 = .ok (.sipush 400, 3) := by decide +kernel
theorem dX13_matches_87 : decode cX13_matches 87 = .ok (.iload_n 1, 1) := by decide +kernel
theorem dX13_matches_88 : decode cX13_matches 88 = .ok (.imul, 1) := by decide +kernel
theorem dX13_matches_89 : decode cX13_matches 89 = .ok (.iload 4, 2) := by decide +kernel
theorem dX13_matches_91 : decode cX13_matches 91 = .ok (.iadd, 1) := by decide +kernel
theorem dX13_matches_92 : decode cX13_matches 92 = .ok (.iconst 1, 1) := by decide +kernel
theorem dX13_matches_93 : decode cX13_matches 93 = .ok (.isub, 1) := by decide +kernel
theorem dX13_matches_94 : decode cX13_matches 94 = .ok (.baload, 1) := by decide +kernel
theorem dX13_matches_95 : decode cX13_matches 95 = .ok (.ifCond .eq 7, 3) := by decide +kernel
theorem dX13_matches_98 : decode cX13_matches 98 = .ok (.iconst 1, 1) := by decide +kernel
theorem dX13_matches_99 : decode cX13_matches 99 = .ok (.goto 4, 3) := by decide +kernel
theorem dX13_matches_102 : decode cX13_matches 102 = .ok (.iconst 0, 1) := by decide +kernel
theorem dX13_matches_103 : decode cX13_matches 103 = .ok (.ireturn, 1) := by decide +kernel
theorem dX13_matches_104 : decode cX13_matches 104 = .ok (.aload_n 0, 1) := by decide +kernel
theorem dX13_matches_105 : decode cX13_matches 105 = .ok (.iload_n 1, 1) := by decide +kernel
theorem dX13_matches_106 : decode cX13_matches 106 = .ok (.iload_n 2, 1) := by decide +kernel
theorem dX13_matches_107 : decode cX13_matches 107 = .ok (.iload_n 3, 1) := by decide +kernel
theorem dX13_matches_108 : decode cX13_matches 108 = .ok (.invokevirtual 473, 3) := by decide +kernel
theorem dX13_matches_111 : decode cX13_matches 111 = .ok (.ireturn, 1) := by decide +kernel
theorem dX13_matches_112 : decode cX13_matches 112 = .ok (.iconst 0, 1) := by decide +kernel
theorem dX13_matches_113 : decode cX13_matches 113 = .ok (.ireturn, 1) := by decide +kernel
theorem dX13_isPhrase_0 : decode cX13_isPhrase 0 = .ok (.iload_n 3, 1) := by decide +kernel
theorem dX13_isPhrase_1 : decode cX13_isPhrase 1 = .ok (.sipush 512, 3) := by decide +kernel
theorem dX13_isPhrase_4 : decode cX13_isPhrase 4 = .ok (.if_icmp .ge 9, 3) := by decide +kernel
theorem dX13_isPhrase_7 : decode cX13_isPhrase 7 = .ok (.sipush 512, 3) := by decide +kernel
theorem dX13_isPhrase_10 : decode cX13_isPhrase 10 = .ok (.goto 6, 3) := by decide +kernel
theorem dX13_isPhrase_13 : decode cX13_isPhrase 13 = .ok (.sipush 1024, 3) := by decide +kernel
theorem dX13_isPhrase_16 : decode cX13_isPhrase 16 = .ok (.istore 4, 2) := by decide +kernel
theorem dX13_isPhrase_18 : decode cX13_isPhrase 18 = .ok (.iconst 0, 1) := by decide +kernel
theorem dX13_isPhrase_19 : decode cX13_isPhrase 19 = .ok (.istore 5, 2) := by decide +kernel
theorem dX13_isPhrase_21 : decode cX13_isPhrase 21 = .ok (.iconst 0, 1) := by decide +kernel
theorem dX13_isPhrase_22 : decode cX13_isPhrase 22 = .ok (.istore 6, 2) := by decide +kernel
theorem dX13_isPhrase_24 : decode cX13_isPhrase 24 = .ok (.iload 6, 2) := by decide +kernel
theorem dX13_isPhrase_26 : decode cX13_isPhrase 26 = .ok (.aload_n 0, 1) := by decide +kernel
theorem dX13_isPhrase_27 : decode cX13_isPhrase 27 = .ok (.getfield 107, 3) := by decide +kernel
theorem dX13_isPhrase_30 : decode cX13_isPhrase 30 = .ok (.iload_n 1, 1) := by decide +kernel
theorem dX13_isPhrase_31 : decode cX13_isPhrase 31 = .ok (.iaload, 1) := by decide +kernel
theorem dX13_isPhrase_32 : decode cX13_isPhrase 32 = .ok (.if_icmp .ge 73, 3) := by decide +kernel
theorem dX13_isPhrase_35 : decode cX13_isPhrase 35 = .ok (.aload_n 0, 1) := by decide +kernel
theorem dX13_isPhrase_36 : decode cX13_isPhrase 36 = .ok (.getfield 131, 3) := by decide +kernel
theorem dX13_isPhrase_39 : decode cX13_isPhrase 39 = .ok (.aload_n 0, 1) := by decide +kernel
theorem dX13_isPhrase_40 : decode cX13_isPhrase 40 = .ok (.getfield 104, 3) := by decide +kernel
theorem dX13_isPhrase_43 : decode cX13_isPhrase 43 = .ok (.iload_n 1, 1) := by decide +kernel
theorem dX13_isPhrase_44 : decode cX13_isPhrase 44 = .ok (.iaload, 1) := by decide +kernel
theorem dX13_isPhrase_45 : decode cX13_isPhrase 45 = .ok (.iload 6, 2) := by decide +kernel
theorem dX13_isPhrase_47 : decode cX13_isPhrase 47 = .ok (.iadd, 1) := by decide +kernel
theorem dX13_isPhrase_48 : decode cX13_isPhrase 48 = .ok (.iaload, 1) := by decide +kernel
theorem dX13_isPhrase_49 : decode cX13_isPhrase 49 = .ok (.istore 7, 2) := by decide +kernel
theorem dX13_isPhrase_51 : decode cX13_isPhrase 51 = .ok (.iload 7, 2) := by decide +kernel
theorem dX13_isPhrase_53 : decode cX13_isPhrase 53 = .ok (.iconst (-1), 1) := by decide +kernel
theorem dX13_isPhrase_54 : decode cX13_isPhrase 54 = .ok (.if_icmp .ne 6, 3) := by decide +kernel
theorem dX13_isPhrase_57 : decode cX13_isPhrase 57 = .ok (.goto 42, 3) := by decide +kernel
theorem dX13_isPhrase_60 : decode cX13_isPhrase 60 = .ok (.iload 7, 2) := by decide +kernel
theorem dX13_isPhrase_62 : decode cX13_isPhrase 62 = .ok (.ifCond .eq 32, 3) := by decide +kernel
theorem dX13_isPhrase_65 : decode cX13_isPhrase 65 = .ok (.iload_n 3, 1) := by decide +kernel
theorem dX13_isPhrase_66 : decode cX13_isPhrase 66 = .ok (.iload 6, 2) := by decide +kernel
theorem dX13_isPhrase_68 : decode cX13_isPhrase 68 = .ok (.iadd, 1) := by decide +kernel
theorem dX13_isPhrase_69 : decode cX13_isPhrase 69 = .ok (.iload 4, 2) := by decide +kernel
theorem dX13_isPhrase_71 : decode cX13_isPhrase 71 = .ok (.if_icmp .ge 23, 3) := by decide +kernel
theorem dX13_isPhrase_74 : decode cX13_isPhrase 74 = .ok (.aload_n 0, 1) := by decide +kernel
theorem dX13_isPhrase_75 : decode cX13_isPhrase 75 = .ok (.getfield 21, 3) := by decide +kernel
theorem dX13_isPhrase_78 : decode cX13_isPhrase 78 = .ok (.sipush 1024, 3) := by decide +kernel
theorem dX13_isPhrase_81 : decode cX13_isPhrase 81 = .ok (.iload_n 2, 1) := by decide +kernel
theorem dX13_isPhrase_82 : decode cX13_isPhrase 82 = .ok (.imul, 1) := by decide +kernel
theorem dX13_isPhrase_83 : decode cX13_isPhrase 83 = .ok (.iload_n 3, 1) := by decide +kernel
theorem dX13_isPhrase_84 : decode cX13_isPhrase 84 = .ok (.iadd, 1) := by decide +kernel
theorem dX13_isPhrase_85 : decode cX13_isPhrase 85 = .ok (.iload 6, 2) := by decide +kernel
theorem dX13_isPhrase_87 : decode cX13_isPhrase 87 = .ok (.iadd, 1) := by decide +kernel
theorem dX13_isPhrase_88 : decode cX13_isPhrase 88 = .ok (.saload, 1) := by decide +kernel
theorem dX13_isPhrase_89 : decode cX13_isPhrase 89 = .ok (.iload 7, 2) := by decide +kernel
theorem dX13_isPhrase_91 : decode cX13_isPhrase 91 = .ok (.if_icmp .eq 5, 3) := by decide +kernel
theorem dX13_isPhrase_94 : decode cX13_isPhrase 94 = .ok (.iconst 0, 1) := by decide +kernel
theorem dX13_isPhrase_95 : decode cX13_isPhrase 95 = .ok (.ireturn, 1) := by decide +kernel
theorem dX13_isPhrase_96 : decode cX13_isPhrase 96 = .ok (.iconst 1, 1) := by decide +kernel
theorem dX13_isPhrase_97 : decode cX13_isPhrase 97 = .ok (.istore 5, 2) := by decide +kernel
theorem dX13_isPhrase_99 : decode cX13_isPhrase 99 = .ok (.iinc 6 1, 3) := by decide +kernel
theorem dX13_isPhrase_102 : decode cX13_isPhrase 102 = .ok (.goto (-78), 3) := by decide +kernel
theorem dX13_isPhrase_105 : decode cX13_isPhrase 105 = .ok (.iload 5, 2) := by decide +kernel
theorem dX13_isPhrase_107 : decode cX13_isPhrase 107 = .ok (.ireturn, 1) := by decide +kernel
theorem dX13_standsAt_0 : decode cX13_standsAt 0 = .ok (.aload_n 0, 1) := by decide +kernel
theorem dX13_standsAt_1 : decode cX13_standsAt 1 = .ok (.getfield 89, 3) := by decide +kernel
theorem dX13_standsAt_4 : decode cX13_standsAt 4 = .ok (.iload_n 1, 1) := by decide +kernel
theorem dX13_standsAt_5 : decode cX13_standsAt 5 = .ok (.iaload, 1) := by decide +kernel
theorem dX13_standsAt_6 : decode cX13_standsAt 6 = .ok (.lookupswitch 82 #[(6, 26), (7, 54)], 26) := by decide +kernel
theorem dX13_standsAt_32 : decode cX13_standsAt 32 = .ok (.iload_n 3, 1) := by decide +kernel
theorem dX13_standsAt_33 : decode cX13_standsAt 33 = .ok (.sipush 512, 3) := by decide +kernel
theorem dX13_standsAt_36 : decode cX13_standsAt 36 = .ok (.if_icmp .ge 22, 3) := by decide +kernel
theorem dX13_standsAt_39 : decode cX13_standsAt 39 = .ok (.aload_n 0, 1) := by decide +kernel
theorem dX13_standsAt_40 : decode cX13_standsAt 40 = .ok (.aload_n 0, 1) := by decide +kernel
theorem dX13_standsAt_41 : decode cX13_standsAt 41 = .ok (.getfield 92, 3) := by decide +kernel
theorem dX13_standsAt_44 : decode cX13_standsAt 44 = .ok (.iload_n 1, 1) := by decide +kernel
theorem dX13_standsAt_45 : decode cX13_standsAt 45 = .ok (.iaload, 1) := by decide +kernel
theorem dX13_standsAt_46 : decode cX13_standsAt 46 = .ok (.iload_n 2, 1) := by decide +kernel
theorem dX13_standsAt_47 : decode cX13_standsAt 47 = .ok (.iload_n 3, 1) := by decide +kernel
theorem dX13_standsAt_48 : decode cX13_standsAt 48 = .ok (.invokevirtual 477, 3) := by decide +kernel
theorem dX13_standsAt_51 : decode cX13_standsAt 51 = .ok (.ifCond .eq 7, 3) := by decide +kernel
theorem dX13_standsAt_54 : decode cX13_standsAt 54 = .ok (.iconst 1, 1) := by decide +kernel
theorem dX13_standsAt_55 : decode cX13_standsAt 55 = .ok (.goto 4, 3) := by decide +kernel
theorem dX13_standsAt_58 : decode cX13_standsAt 58 = .ok (.iconst 0, 1) := by decide +kernel
theorem dX13_standsAt_59 : decode cX13_standsAt 59 = .ok (.ireturn, 1) := by decide +kernel
theorem dX13_standsAt_60 : decode cX13_standsAt 60 = .ok (.iload_n 3, 1) := by decide +kernel
theorem dX13_standsAt_61 : decode cX13_standsAt 61 = .ok (.sipush 512, 3) := by decide +kernel
theorem dX13_standsAt_64 : decode cX13_standsAt 64 = .ok (.if_icmp .lt 22, 3) := by decide +kernel
theorem dX13_standsAt_67 : decode cX13_standsAt 67 = .ok (.aload_n 0, 1) := by decide +kernel
theorem dX13_standsAt_68 : decode cX13_standsAt 68 = .ok (.aload_n 0, 1) := by decide +kernel
theorem dX13_standsAt_69 : decode cX13_standsAt 69 = .ok (.getfield 92, 3) := by decide +kernel
theorem dX13_standsAt_72 : decode cX13_standsAt 72 = .ok (.iload_n 1, 1) := by decide +kernel
theorem dX13_standsAt_73 : decode cX13_standsAt 73 = .ok (.iaload, 1) := by decide +kernel
theorem dX13_standsAt_74 : decode cX13_standsAt 74 = .ok (.iload_n 2, 1) := by decide +kernel
theorem dX13_standsAt_75 : decode cX13_standsAt 75 = .ok (.iload_n 3, 1) := by decide +kernel
theorem dX13_standsAt_76 : decode cX13_standsAt 76 = .ok (.invokevirtual 477, 3) := by decide +kernel
theorem dX13_standsAt_79 : decode cX13_standsAt 79 = .ok (.ifCond .eq 7, 3) := by decide +kernel
theorem dX13_standsAt_82 : decode cX13_standsAt 82 = .ok (.iconst 1, 1) := by decide +kernel
theorem dX13_standsAt_83 : decode cX13_standsAt 83 = .ok (.goto 4, 3) := by decide +kernel
theorem dX13_standsAt_86 : decode cX13_standsAt 86 = .ok (.iconst 0, 1) := by decide +kernel
theorem dX13_standsAt_87 : decode cX13_standsAt 87 = .ok (.ireturn, 1) := by decide +kernel
theorem dX13_standsAt_88 : decode cX13_standsAt 88 = .ok (.aload_n 0, 1) := by decide +kernel
theorem dX13_standsAt_89 : decode cX13_standsAt 89 = .ok (.aload_n 0, 1) := by decide +kernel
theorem dX13_standsAt_90 : decode cX13_standsAt 90 = .ok (.getfield 98, 3) := by decide +kernel
theorem dX13_standsAt_93 : decode cX13_standsAt 93 = .ok (.iload_n 1, 1) := by decide +kernel
theorem dX13_standsAt_94 : decode cX13_standsAt 94 = .ok (.iaload, 1) := by decide +kernel
theorem dX13_standsAt_95 : decode cX13_standsAt 95 = .ok (.iload_n 2, 1) := by decide +kernel
theorem dX13_standsAt_96 : decode cX13_standsAt 96 = .ok (.iload_n 3, 1) := by decide +kernel
theorem dX13_standsAt_97 : decode cX13_standsAt 97 = .ok (.invokevirtual 480, 3) := by decide +kernel
theorem dX13_standsAt_100 : decode cX13_standsAt 100 = .ok (.ireturn, 1) := by decide +kernel
theorem dX13_hasPlace_0 : decode cX13_hasPlace 0 = .ok (.iconst 0, 1) := by decide +kernel
theorem dX13_hasPlace_1 : decode cX13_hasPlace 1 = .ok (.istore_n 3, 1) := by decide +kernel
theorem dX13_hasPlace_2 : decode cX13_hasPlace 2 = .ok (.iload_n 3, 1) := by decide +kernel
theorem dX13_hasPlace_3 : decode cX13_hasPlace 3 = .ok (.aload_n 0, 1) := by decide +kernel
theorem dX13_hasPlace_4 : decode cX13_hasPlace 4 = .ok (.getfield 41, 3) := by decide +kernel
theorem dX13_hasPlace_7 : decode cX13_hasPlace 7 = .ok (.iload_n 2, 1) := by decide +kernel
theorem dX13_hasPlace_8 : decode cX13_hasPlace 8 = .ok (.iaload, 1) := by decide +kernel
theorem dX13_hasPlace_9 : decode cX13_hasPlace 9 = .ok (.if_icmp .ge 21, 3) := by decide +kernel
theorem dX13_hasPlace_12 : decode cX13_hasPlace 12 = .ok (.aload_n 0, 1) := by decide +kernel
theorem dX13_hasPlace_13 : decode cX13_hasPlace 13 = .ok (.iload_n 1, 1) := by decide +kernel
theorem dX13_hasPlace_14 : decode cX13_hasPlace 14 = .ok (.iload_n 2, 1) := by decide +kernel
theorem dX13_hasPlace_15 : decode cX13_hasPlace 15 = .ok (.iload_n 3, 1) := by decide +kernel
theorem dX13_hasPlace_16 : decode cX13_hasPlace 16 = .ok (.invokevirtual 477, 3) := by decide +kernel
theorem dX13_hasPlace_19 : decode cX13_hasPlace 19 = .ok (.ifCond .eq 5, 3) := by decide +kernel
theorem dX13_hasPlace_22 : decode cX13_hasPlace 22 = .ok (.iconst 1, 1) := by decide +kernel
theorem dX13_hasPlace_23 : decode cX13_hasPlace 23 = .ok (.ireturn, 1) := by decide +kernel
theorem dX13_hasPlace_24 : decode cX13_hasPlace 24 = .ok (.iinc 3 1, 3) := by decide +kernel
theorem dX13_hasPlace_27 : decode cX13_hasPlace 27 = .ok (.goto (-25), 3) := by decide +kernel
theorem dX13_hasPlace_30 : decode cX13_hasPlace 30 = .ok (.sipush 512, 3) := by decide +kernel
theorem dX13_hasPlace_33 : decode cX13_hasPlace 33 = .ok (.istore_n 3, 1) := by decide +kernel
theorem dX13_hasPlace_34 : decode cX13_hasPlace 34 = .ok (.iload_n 3, 1) := by decide +kernel
theorem dX13_hasPlace_35 : decode cX13_hasPlace 35 = .ok (.sipush 512, 3) := by decide +kernel
theorem dX13_hasPlace_38 : decode cX13_hasPlace 38 = .ok (.aload_n 0, 1) := by decide +kernel
theorem dX13_hasPlace_39 : decode cX13_hasPlace 39 = .ok (.getfield 44, 3) := by decide +kernel
theorem dX13_hasPlace_42 : decode cX13_hasPlace 42 = .ok (.iload_n 2, 1) := by decide +kernel
theorem dX13_hasPlace_43 : decode cX13_hasPlace 43 = .ok (.iaload, 1) := by decide +kernel
theorem dX13_hasPlace_44 : decode cX13_hasPlace 44 = .ok (.iadd, 1) := by decide +kernel
theorem dX13_hasPlace_45 : decode cX13_hasPlace 45 = .ok (.if_icmp .ge 21, 3) := by decide +kernel
theorem dX13_hasPlace_48 : decode cX13_hasPlace 48 = .ok (.aload_n 0, 1) := by decide +kernel
theorem dX13_hasPlace_49 : decode cX13_hasPlace 49 = .ok (.iload_n 1, 1) := by decide +kernel
theorem dX13_hasPlace_50 : decode cX13_hasPlace 50 = .ok (.iload_n 2, 1) := by decide +kernel
theorem dX13_hasPlace_51 : decode cX13_hasPlace 51 = .ok (.iload_n 3, 1) := by decide +kernel
theorem dX13_hasPlace_52 : decode cX13_hasPlace 52 = .ok (.invokevirtual 477, 3) := by decide +kernel
theorem dX13_hasPlace_55 : decode cX13_hasPlace 55 = .ok (.ifCond .eq 5, 3) := by decide +kernel
theorem dX13_hasPlace_58 : decode cX13_hasPlace 58 = .ok (.iconst 1, 1) := by decide +kernel
theorem dX13_hasPlace_59 : decode cX13_hasPlace 59 = .ok (.ireturn, 1) := by decide +kernel
theorem dX13_hasPlace_60 : decode cX13_hasPlace 60 = .ok (.iinc 3 1, 3) := by decide +kernel
theorem dX13_hasPlace_63 : decode cX13_hasPlace 63 = .ok (.goto (-29), 3) := by decide +kernel
