theorem dX6_bitInChunk_31 : decode cX6_bitInChunk 31 = .ok (.aload_n 0, 1) := by decide +kernel
theorem dX6_bitInChunk_32 : decode cX6_bitInChunk 32 = .ok (.getfield 11, 3) := by decide +kernel
theorem dX6_bitInChunk_35 : decode cX6_bitInChunk 35 = .ok (.arraylength, 1) := by decide +kernel
theorem dX6_bitInChunk_36 : decode cX6_bitInChunk 36 = .ok (.if_icmp .ge 22, 3) := by decide +kernel
theorem dX6_bitInChunk_39 : decode cX6_bitInChunk 39 = .ok (.aload_n 0, 1) := by decide +kernel
theorem dX6_bitInChunk_40 : decode cX6_bitInChunk 40 = .ok (.getfield 11, 3) := by decide +kernel
theorem dX6_bitInChunk_43 : decode cX6_bitInChunk 43 = .ok (.iload_n 3, 1) := by decide +kernel
theorem dX6_bitInChunk_44 : decode cX6_bitInChunk 44 = .ok (.iaload, 1) := by decide +kernel
theorem dX6_bitInChunk_45 : decode cX6_bitInChunk 45 = .ok (.bipush 31, 2) := by decide +kernel
theorem dX6_bitInChunk_47 : decode cX6_bitInChunk 47 = .ok (.iload_n 2, 1) := by decide +kernel
theorem dX6_bitInChunk_48 : decode cX6_bitInChunk 48 = .ok (.bipush 32, 2) := by decide +kernel
theorem dX6_bitInChunk_50 : decode cX6_bitInChunk 50 = .ok (.irem, 1) := by decide +kernel
theorem dX6_bitInChunk_51 : decode cX6_bitInChunk 51 = .ok (.isub, 1) := by decide +kernel
theorem dX6_bitInChunk_52 : decode cX6_bitInChunk 52 = .ok (.iushr, 1) := by decide +kernel
theorem dX6_bitInChunk_53 : decode cX6_bitInChunk 53 = .ok (.iconst 1, 1) := by decide +kernel
theorem dX6_bitInChunk_54 : decode cX6_bitInChunk 54 = .ok (.iand, 1) := by decide +kernel
theorem dX6_bitInChunk_55 : decode cX6_bitInChunk 55 = .ok (.goto 4, 3) := by decide +kernel
theorem dX6_bitInChunk_58 : decode cX6_bitInChunk 58 = .ok (.iconst 0, 1) := by decide +kernel
theorem dX6_bitInChunk_59 : decode cX6_bitInChunk 59 = .ok (.ireturn, 1) := by decide +kernel
theorem dX6_bitAt_0 : decode cX6_bitAt 0 = .ok (.iload_n 2, 1) := by decide +kernel
theorem dX6_bitAt_1 : decode cX6_bitAt 1 = .ok (.invokestatic 49, 3) := by decide +kernel
theorem dX6_bitAt_4 : decode cX6_bitAt 4 = .ok (.istore_n 3, 1) := by decide +kernel
theorem dX6_bitAt_5 : decode cX6_bitAt 5 = .ok (.aload_n 0, 1) := by decide +kernel
theorem dX6_bitAt_6 : decode cX6_bitAt 6 = .ok (.iload_n 1, 1) := by decide +kernel
theorem dX6_bitAt_7 : decode cX6_bitAt 7 = .ok (.invokevirtual 66, 3) := by decide +kernel
theorem dX6_bitAt_10 : decode cX6_bitAt 10 = .ok (.istore 4, 2) := by decide +kernel
theorem dX6_bitAt_12 : decode cX6_bitAt 12 = .ok (.iconst 0, 1) := by decide +kernel
theorem dX6_bitAt_13 : decode cX6_bitAt 13 = .ok (.istore 5, 2) := by decide +kernel
theorem dX6_bitAt_15 : decode cX6_bitAt 15 = .ok (.iload 5, 2) := by decide +kernel
theorem dX6_bitAt_17 : decode cX6_bitAt 17 = .ok (.iload_n 3, 1) := by decide +kernel
theorem dX6_bitAt_18 : decode cX6_bitAt 18 = .ok (.if_icmp .ge 17, 3) := by decide +kernel
theorem dX6_bitAt_21 : decode cX6_bitAt 21 = .ok (.aload_n 0, 1) := by decide +kernel
theorem dX6_bitAt_22 : decode cX6_bitAt 22 = .ok (.iload 4, 2) := by decide +kernel
theorem dX6_bitAt_24 : decode cX6_bitAt 24 = .ok (.invokevirtual 69, 3) := by decide +kernel
theorem dX6_bitAt_27 : decode cX6_bitAt 27 = .ok (.istore 4, 2) := by decide +kernel
theorem dX6_bitAt_29 : decode cX6_bitAt 29 = .ok (.iinc 5 1, 3) := by decide +kernel
theorem dX6_bitAt_32 : decode cX6_bitAt 32 = .ok (.goto (-17), 3) := by decide +kernel
theorem dX6_bitAt_35 : decode cX6_bitAt 35 = .ok (.aload_n 0, 1) := by decide +kernel
theorem dX6_bitAt_36 : decode cX6_bitAt 36 = .ok (.iload 4, 2) := by decide +kernel
theorem dX6_bitAt_38 : decode cX6_bitAt 38 = .ok (.iload_n 2, 1) := by decide +kernel
theorem dX6_bitAt_39 : decode cX6_bitAt 39 = .ok (.iload_n 3, 1) := by decide +kernel
theorem dX6_bitAt_40 : decode cX6_bitAt 40 = .ok (.invokestatic 56, 3) := by decide +kernel
theorem dX6_bitAt_43 : decode cX6_bitAt 43 = .ok (.isub, 1) := by decide +kernel
theorem dX6_bitAt_44 : decode cX6_bitAt 44 = .ok (.invokevirtual 72, 3) := by decide +kernel
theorem dX6_bitAt_47 : decode cX6_bitAt 47 = .ok (.ireturn, 1) := by decide +kernel
theorem dX6_clear_0 : decode cX6_clear 0 = .ok (.aload_n 0, 1) := by decide +kernel
theorem dX6_clear_1 : decode cX6_clear 1 = .ok (.getfield 11, 3) := by decide +kernel
theorem dX6_clear_4 : decode cX6_clear 4 = .ok (.iconst 0, 1) := by decide +kernel
theorem dX6_clear_5 : decode cX6_clear 5 = .ok (.invokestatic 76, 3) := by decide +kernel
theorem dX6_clear_8 : decode cX6_clear 8 = .ok (.aload_n 0, 1) := by decide +kernel
theorem dX6_clear_9 : decode cX6_clear 9 = .ok (.getfield 27, 3) := by decide +kernel
theorem dX6_clear_12 : decode cX6_clear 12 = .ok (.iconst 0, 1) := by decide +kernel
theorem dX6_clear_13 : decode cX6_clear 13 = .ok (.invokestatic 76, 3) := by decide +kernel
theorem dX6_clear_16 : decode cX6_clear 16 = .ok (.aload_n 0, 1) := by decide +kernel
theorem dX6_clear_17 : decode cX6_clear 17 = .ok (.getfield 30, 3) := by decide +kernel
theorem dX6_clear_20 : decode cX6_clear 20 = .ok (.iconst 0, 1) := by decide +kernel
theorem dX6_clear_21 : decode cX6_clear 21 = .ok (.invokestatic 76, 3) := by decide +kernel
theorem dX6_clear_24 : decode cX6_clear 24 = .ok (.aload_n 0, 1) := by decide +kernel
theorem dX6_clear_25 : decode cX6_clear 25 = .ok (.getfield 33, 3) := by decide +kernel
theorem dX6_clear_28 : decode cX6_clear 28 = .ok (.iconst 0, 1) := by decide +kernel
theorem dX6_clear_29 : decode cX6_clear 29 = .ok (.invokestatic 76, 3) := by decide +kernel
theorem dX6_clear_32 : decode cX6_clear 32 = .ok (.aload_n 0, 1) := by decide +kernel
theorem dX6_clear_33 : decode cX6_clear 33 = .ok (.iconst 0, 1) := by decide +kernel
theorem dX6_clear_34 : decode cX6_clear 34 = .ok (.putfield 36, 3) := by decide +kernel
theorem dX6_clear_37 : decode cX6_clear 37 = .ok (.aload_n 0, 1) := by decide +kernel
theorem dX6_clear_38 : decode cX6_clear 38 = .ok (.iconst 0, 1) := by decide +kernel
theorem dX6_clear_39 : decode cX6_clear 39 = .ok (.putfield 40, 3) := by decide +kernel
theorem dX6_clear_42 : decode cX6_clear 42 = .ok (.aload_n 0, 1) := by decide +kernel
theorem dX6_clear_43 : decode cX6_clear 43 = .ok (.iconst 0, 1) := by decide +kernel
theorem dX6_clear_44 : decode cX6_clear 44 = .ok (.putfield 43, 3) := by decide +kernel
theorem dX6_clear_47 : decode cX6_clear 47 = .ok (.aload_n 0, 1) := by decide +kernel
theorem dX6_clear_48 : decode cX6_clear 48 = .ok (.iconst 0, 1) := by decide +kernel
theorem dX6_clear_49 : decode cX6_clear 49 = .ok (.putfield 46, 3) := by decide +kernel
theorem dX6_clear_52 : decode cX6_clear 52 = .ok (.return_, 1) := by decide +kernel
theorem dX6_copyFrom_0 : decode cX6_copyFrom 0 = .ok (.aload_n 1, 1) := by decide +kernel
theorem dX6_copyFrom_1 : decode cX6_copyFrom 1 = .ok (.getfield 11, 3) := by decide +kernel
theorem dX6_copyFrom_4 : decode cX6_copyFrom 4 = .ok (.iconst 0, 1) := by decide +kernel
theorem dX6_copyFrom_5 : decode cX6_copyFrom 5 = .ok (.aload_n 0, 1) := by decide +kernel
theorem dX6_copyFrom_6 : decode cX6_copyFrom 6 = .ok (.getfield 11, 3) := by decide +kernel
theorem dX6_copyFrom_9 : decode cX6_copyFrom 9 = .ok (.iconst 0, 1) := by decide +kernel
theorem dX6_copyFrom_10 : decode cX6_copyFrom 10 = .ok (.aload_n 0, 1) := by decide +kernel
theorem dX6_copyFrom_11 : decode cX6_copyFrom 11 = .ok (.getfield 11, 3) := by decide +kernel
theorem dX6_copyFrom_14 : decode cX6_copyFrom 14 = .ok (.arraylength, 1) := by decide +kernel
theorem dX6_copyFrom_15 : decode cX6_copyFrom 15 = .ok (.invokestatic 82, 3) := by decide +kernel
theorem dX6_copyFrom_18 : decode cX6_copyFrom 18 = .ok (.aload_n 1, 1) := by decide +kernel
theorem dX6_copyFrom_19 : decode cX6_copyFrom 19 = .ok (.getfield 15, 3) := by decide +kernel
theorem dX6_copyFrom_22 : decode cX6_copyFrom 22 = .ok (.iconst 0, 1) := by decide +kernel
theorem dX6_copyFrom_23 : decode cX6_copyFrom 23 = .ok (.aload_n 0, 1) := by decide +kernel
theorem dX6_copyFrom_24 : decode cX6_copyFrom 24 = .ok (.getfield 15, 3) := by decide +kernel
theorem dX6_copyFrom_27 : decode cX6_copyFrom 27 = .ok (.iconst 0, 1) := by decide +kernel
theorem dX6_copyFrom_28 : decode cX6_copyFrom 28 = .ok (.sipush 833, 3) := by decide +kernel
theorem dX6_copyFrom_31 : decode cX6_copyFrom 31 = .ok (.invokestatic 82, 3) := by decide +kernel
theorem dX6_copyFrom_34 : decode cX6_copyFrom 34 = .ok (.aload_n 1, 1) := by decide +kernel
theorem dX6_copyFrom_35 : decode cX6_copyFrom 35 = .ok (.getfield 18, 3) := by decide +kernel
theorem dX6_copyFrom_38 : decode cX6_copyFrom 38 = .ok (.iconst 0, 1) := by decide +kernel
theorem dX6_copyFrom_39 : decode cX6_copyFrom 39 = .ok (.aload_n 0, 1) := by decide +kernel
theorem dX6_copyFrom_40 : decode cX6_copyFrom 40 = .ok (.getfield 18, 3) := by decide +kernel
theorem dX6_copyFrom_43 : decode cX6_copyFrom 43 = .ok (.iconst 0, 1) := by decide +kernel
theorem dX6_copyFrom_44 : decode cX6_copyFrom 44 = .ok (.sipush 833, 3) := by decide +kernel
theorem dX6_copyFrom_47 : decode cX6_copyFrom 47 = .ok (.invokestatic 82, 3) := by decide +kernel
theorem dX6_copyFrom_50 : decode cX6_copyFrom 50 = .ok (.aload_n 1, 1) := by decide +kernel
theorem dX6_copyFrom_51 : decode cX6_copyFrom 51 = .ok (.getfield 21, 3) := by decide +kernel
theorem dX6_copyFrom_54 : decode cX6_copyFrom 54 = .ok (.iconst 0, 1) := by decide +kernel
theorem dX6_copyFrom_55 : decode cX6_copyFrom 55 = .ok (.aload_n 0, 1) := by decide +kernel
theorem dX6_copyFrom_56 : decode cX6_copyFrom 56 = .ok (.getfield 21, 3) := by decide +kernel
theorem dX6_copyFrom_59 : decode cX6_copyFrom 59 = .ok (.iconst 0, 1) := by decide +kernel
theorem dX6_copyFrom_60 : decode cX6_copyFrom 60 = .ok (.sipush 400, 3) := by decide +kernel
theorem dX6_copyFrom_63 : decode cX6_copyFrom 63 = .ok (.invokestatic 82, 3) := by decide +kernel
theorem dX6_copyFrom_66 : decode cX6_copyFrom 66 = .ok (.aload_n 1, 1) := by decide +kernel
theorem dX6_copyFrom_67 : decode cX6_copyFrom 67 = .ok (.getfield 24, 3) := by decide +kernel
theorem dX6_copyFrom_70 : decode cX6_copyFrom 70 = .ok (.iconst 0, 1) := by decide +kernel
theorem dX6_copyFrom_71 : decode cX6_copyFrom 71 = .ok (.aload_n 0, 1) := by decide +kernel
theorem dX6_copyFrom_72 : decode cX6_copyFrom 72 = .ok (.getfield 24, 3) := by decide +kernel
theorem dX6_copyFrom_75 : decode cX6_copyFrom 75 = .ok (.iconst 0, 1) := by decide +kernel
theorem dX6_copyFrom_76 : decode cX6_copyFrom 76 = .ok (.sipush 400, 3) := by decide +kernel
theorem dX6_copyFrom_79 : decode cX6_copyFrom 79 = .ok (.invokestatic 82, 3) := by decide +kernel
theorem dX6_copyFrom_82 : decode cX6_copyFrom 82 = .ok (.aload_n 1, 1) := by decide +kernel
theorem dX6_copyFrom_83 : decode cX6_copyFrom 83 = .ok (.getfield 27, 3) := by decide +kernel
theorem dX6_copyFrom_86 : decode cX6_copyFrom 86 = .ok (.iconst 0, 1) := by decide +kernel
theorem dX6_copyFrom_87 : decode cX6_copyFrom 87 = .ok (.aload_n 0, 1) := by decide +kernel
theorem dX6_copyFrom_88 : decode cX6_copyFrom 88 = .ok (.getfield 27, 3) := by decide +kernel
theorem dX6_copyFrom_91 : decode cX6_copyFrom 91 = .ok (.iconst 0, 1) := by decide +kernel
theorem dX6_copyFrom_92 : decode cX6_copyFrom 92 = .ok (.sipush 400, 3) := by decide +kernel
theorem dX6_copyFrom_95 : decode cX6_copyFrom 95 = .ok (.invokestatic 82, 3) := by decide +kernel
theorem dX6_copyFrom_98 : decode cX6_copyFrom 98 = .ok (.aload_n 1, 1) := by decide +kernel
theorem dX6_copyFrom_99 : decode cX6_copyFrom 99 = .ok (.getfield 30, 3) := by decide +kernel
theorem dX6_copyFrom_102 : decode cX6_copyFrom 102 = .ok (.iconst 0, 1) := by decide +kernel
theorem dX6_copyFrom_103 : decode cX6_copyFrom 103 = .ok (.aload_n 0, 1) := by decide +kernel
theorem dX6_copyFrom_104 : decode cX6_copyFrom 104 = .ok (.getfield 30, 3) := by decide +kernel
theorem dX6_copyFrom_107 : decode cX6_copyFrom 107 = .ok (.iconst 0, 1) := by decide +kernel
theorem dX6_copyFrom_108 : decode cX6_copyFrom 108 = .ok (.sipush 400, 3) := by decide +kernel
theorem dX6_copyFrom_111 : decode cX6_copyFrom 111 = .ok (.invokestatic 82, 3) := by decide +kernel
theorem dX6_copyFrom_114 : decode cX6_copyFrom 114 = .ok (.aload_n 1, 1) := by decide +kernel
theorem dX6_copyFrom_115 : decode cX6_copyFrom 115 = .ok (.getfield 33, 3) := by decide +kernel
theorem dX6_copyFrom_118 : decode cX6_copyFrom 118 = .ok (.iconst 0, 1) := by decide +kernel
theorem dX6_copyFrom_119 : decode cX6_copyFrom 119 = .ok (.aload_n 0, 1) := by decide +kernel
theorem dX6_copyFrom_120 : decode cX6_copyFrom 120 = .ok (.getfield 33, 3) := by decide +kernel
theorem dX6_copyFrom_123 : decode cX6_copyFrom 123 = .ok (.iconst 0, 1) := by decide +kernel
theorem dX6_copyFrom_124 : decode cX6_copyFrom 124 = .ok (.sipush 400, 3) := by decide +kernel
theorem dX6_copyFrom_127 : decode cX6_copyFrom 127 = .ok (.invokestatic 82, 3) := by decide +kernel
theorem dX6_copyFrom_130 : decode cX6_copyFrom 130 = .ok (.aload_n 0, 1) := by decide +kernel
theorem dX6_copyFrom_131 : decode cX6_copyFrom 131 = .ok (.aload_n 1, 1) := by decide +kernel
theorem dX6_copyFrom_132 : decode cX6_copyFrom 132 = .ok (.getfield 36, 3) := by decide +kernel
theorem dX6_copyFrom_135 : decode cX6_copyFrom 135 = .ok (.putfield 36, 3) := by decide +kernel
theorem dX6_copyFrom_138 : decode cX6_copyFrom 138 = .ok (.aload_n 0, 1) := by decide +kernel
theorem dX6_copyFrom_139 : decode cX6_copyFrom 139 = .ok (.aload_n 1, 1) := by decide +kernel
theorem dX6_copyFrom_140 : decode cX6_copyFrom 140 = .ok (.getfield 40, 3) := by decide +kernel
theorem dX6_copyFrom_143 : decode cX6_copyFrom 143 = .ok (.putfield 40, 3) := by decide +kernel
theorem dX6_copyFrom_146 : decode cX6_copyFrom 146 = .ok (.aload_n 0, 1) := by decide +kernel
theorem dX6_copyFrom_147 : decode cX6_copyFrom 147 = .ok (.aload_n 1, 1) := by decide +kernel
theorem dX6_copyFrom_148 : decode cX6_copyFrom 148 = .ok (.getfield 43, 3) := by decide +kernel
theorem dX6_copyFrom_151 : decode cX6_copyFrom 151 = .ok (.putfield 43, 3) := by decide +kernel
theorem dX6_copyFrom_154 : decode cX6_copyFrom 154 = .ok (.aload_n 0, 1) := by decide +kernel
theorem dX6_copyFrom_155 : decode cX6_copyFrom 155 = .ok (.aload_n 1, 1) := by decide +kernel
theorem dX6_copyFrom_156 : decode cX6_copyFrom 156 = .ok (.getfield 46, 3) := by decide +kernel
theorem dX6_copyFrom_159 : decode cX6_copyFrom 159 = .ok (.putfield 46, 3) := by decide +kernel
theorem dX6_copyFrom_162 : decode cX6_copyFrom 162 = .ok (.return_, 1) := by decide +kernel
theorem dX6_startDocument_0 : decode cX6_startDocument 0 = .ok (.iload_n 1, 1) := by decide +kernel
theorem dX6_startDocument_1 : decode cX6_startDocument 1 = .ok (.invokestatic 62, 3) := by decide +kernel
theorem dX6_startDocument_4 : decode cX6_startDocument 4 = .ok (.ifCond .eq 40, 3) := by decide +kernel
theorem dX6_startDocument_7 : decode cX6_startDocument 7 = .ok (.aload_n 0, 1) := by decide +kernel
theorem dX6_startDocument_8 : decode cX6_startDocument 8 = .ok (.iload_n 1, 1) := by decide +kernel
theorem dX6_startDocument_9 : decode cX6_startDocument 9 = .ok (.iload_n 2, 1) := by decide +kernel
theorem dX6_startDocument_10 : decode cX6_startDocument 10 = .ok (.aload_n 0, 1) := by decide +kernel
theorem dX6_startDocument_11 : decode cX6_startDocument 11 = .ok (.iload_n 1, 1) := by decide +kernel
theorem dX6_startDocument_12 : decode cX6_startDocument 12 = .ok (.invokevirtual 88, 3) := by decide +kernel
theorem dX6_startDocument_15 : decode cX6_startDocument 15 = .ok (.isub, 1) := by decide +kernel
theorem dX6_startDocument_16 : decode cX6_startDocument 16 = .ok (.invokevirtual 91, 3) := by decide +kernel
theorem dX6_startDocument_19 : decode cX6_startDocument 19 = .ok (.aload_n 0, 1) := by decide +kernel
theorem dX6_startDocument_20 : decode cX6_startDocument 20 = .ok (.iload_n 1, 1) := by decide +kernel
theorem dX6_startDocument_21 : decode cX6_startDocument 21 = .ok (.iload_n 3, 1) := by decide +kernel
theorem dX6_startDocument_22 : decode cX6_startDocument 22 = .ok (.invokevirtual 91, 3) := by decide +kernel
theorem dX6_startDocument_25 : decode cX6_startDocument 25 = .ok (.aload_n 0, 1) := by decide +kernel
theorem dX6_startDocument_26 : decode cX6_startDocument 26 = .ok (.getfield 33, 3) := by decide +kernel
theorem dX6_startDocument_29 : decode cX6_startDocument 29 = .ok (.iload_n 1, 1) := by decide +kernel
theorem dX6_startDocument_30 : decode cX6_startDocument 30 = .ok (.iload_n 2, 1) := by decide +kernel
theorem dX6_startDocument_31 : decode cX6_startDocument 31 = .ok (.iconst 1, 1) := by decide +kernel
theorem dX6_startDocument_32 : decode cX6_startDocument 32 = .ok (.iadd, 1) := by decide +kernel
theorem dX6_startDocument_33 : decode cX6_startDocument 33 = .ok (.iastore, 1) := by decide +kernel
theorem dX6_startDocument_34 : decode cX6_startDocument 34 = .ok (.aload_n 0, 1) := by decide +kernel
theorem dX6_startDocument_35 : decode cX6_startDocument 35 = .ok (.getfield 30, 3) := by decide +kernel
theorem dX6_startDocument_38 : decode cX6_startDocument 38 = .ok (.iload_n 1, 1) := by decide +kernel
theorem dX6_startDocument_39 : decode cX6_startDocument 39 = .ok (.dup2, 1) := by decide +kernel
theorem dX6_startDocument_40 : decode cX6_startDocument 40 = .ok (.iaload, 1) := by decide +kernel
theorem dX6_startDocument_41 : decode cX6_startDocument 41 = .ok (.iconst 1, 1) := by decide +kernel
theorem dX6_startDocument_42 : decode cX6_startDocument 42 = .ok (.iadd, 1) := by decide +kernel
theorem dX6_startDocument_43 : decode cX6_startDocument 43 = .ok (.iastore, 1) := by decide +kernel
theorem dX6_startDocument_44 : decode cX6_startDocument 44 = .ok (.return_, 1) := by decide +kernel
theorem dX6_append_0 : decode cX6_append 0 = .ok (.iload_n 2, 1) := by decide +kernel
theorem dX6_append_1 : decode cX6_append 1 = .ok (.invokestatic 59, 3) := by decide +kernel
theorem dX6_append_4 : decode cX6_append 4 = .ok (.istore_n 3, 1) := by decide +kernel
theorem dX6_append_5 : decode cX6_append 5 = .ok (.iconst 1, 1) := by decide +kernel
theorem dX6_append_6 : decode cX6_append 6 = .ok (.istore 4, 2) := by decide +kernel
theorem dX6_append_8 : decode cX6_append 8 = .ok (.iload 4, 2) := by decide +kernel
theorem dX6_append_10 : decode cX6_append 10 = .ok (.iload_n 3, 1) := by decide +kernel
theorem dX6_append_11 : decode cX6_append 11 = .ok (.if_icmp .ge 15, 3) := by decide +kernel
theorem dX6_append_14 : decode cX6_append 14 = .ok (.aload_n 0, 1) := by decide +kernel
theorem dX6_append_15 : decode cX6_append 15 = .ok (.iload_n 1, 1) := by decide +kernel
theorem dX6_append_16 : decode cX6_append 16 = .ok (.iconst 0, 1) := by decide +kernel
theorem dX6_append_17 : decode cX6_append 17 = .ok (.invokevirtual 95, 3) := by decide +kernel
theorem dX6_append_20 : decode cX6_append 20 = .ok (.iinc 4 1, 3) := by decide +kernel
theorem dX6_append_23 : decode cX6_append 23 = .ok (.goto (-15), 3) := by decide +kernel
theorem dX6_append_26 : decode cX6_append 26 = .ok (.iload_n 3, 1) := by decide +kernel
theorem dX6_append_27 : decode cX6_append 27 = .ok (.iconst 1, 1) := by decide +kernel
theorem dX6_append_28 : decode cX6_append 28 = .ok (.isub, 1) := by decide +kernel
theorem dX6_append_29 : decode cX6_append 29 = .ok (.istore 4, 2) := by decide +kernel
theorem dX6_append_31 : decode cX6_append 31 = .ok (.iload 4, 2) := by decide +kernel
theorem dX6_append_33 : decode cX6_append 33 = .ok (.ifCond .lt 20, 3) := by decide +kernel
theorem dX6_append_36 : decode cX6_append 36 = .ok (.aload_n 0, 1) := by decide +kernel
theorem dX6_append_37 : decode cX6_append 37 = .ok (.iload_n 1, 1) := by decide +kernel
theorem dX6_append_38 : decode cX6_append 38 = .ok (.iload_n 2, 1) := by decide +kernel
theorem dX6_append_39 : decode cX6_append 39 = .ok (.iload 4, 2) := by decide +kernel
theorem dX6_append_41 : decode cX6_append 41 = .ok (.iushr, 1) := by decide +kernel
theorem dX6_append_42 : decode cX6_append 42 = .ok (.iconst 1, 1) := by decide +kernel
theorem dX6_append_43 : decode cX6_append 43 = .ok (.iand, 1) := by decide +kernel
theorem dX6_append_44 : decode cX6_append 44 = .ok (.invokevirtual 95, 3) := by decide +kernel
theorem dX6_append_47 : decode cX6_append 47 = .ok (.iinc 4 (-1), 3) := by decide +kernel
theorem dX6_append_50 : decode cX6_append 50 = .ok (.goto (-19), 3) := by decide +kernel
theorem dX6_append_53 : decode cX6_append 53 = .ok (.return_, 1) := by decide +kernel
theorem dX6_appendBit_0 : decode cX6_appendBit 0 = .ok (.iload_n 1, 1) := by decide +kernel
theorem dX6_appendBit_1 : decode cX6_appendBit 1 = .ok (.invokestatic 62, 3) := by decide +kernel
theorem dX6_appendBit_4 : decode cX6_appendBit 4 = .ok (.ifCond .ne 4, 3) := by decide +kernel
theorem dX6_appendBit_7 : decode cX6_appendBit 7 = .ok (.return_, 1) := by decide +kernel
theorem dX6_appendBit_8 : decode cX6_appendBit 8 = .ok (.aload_n 0, 1) := by decide +kernel
theorem dX6_appendBit_9 : decode cX6_appendBit 9 = .ok (.getfield 27, 3) := by decide +kernel
theorem dX6_appendBit_12 : decode cX6_appendBit 12 = .ok (.iload_n 1, 1) := by decide +kernel
theorem dX6_appendBit_13 : decode cX6_appendBit 13 = .ok (.iaload, 1) := by decide +kernel
theorem dX6_appendBit_14 : decode cX6_appendBit 14 = .ok (.invokestatic 49, 3) := by decide +kernel
theorem dX6_appendBit_17 : decode cX6_appendBit 17 = .ok (.istore_n 3, 1) := by decide +kernel
theorem dX6_appendBit_18 : decode cX6_appendBit 18 = .ok (.aload_n 0, 1) := by decide +kernel
theorem dX6_appendBit_19 : decode cX6_appendBit 19 = .ok (.getfield 27, 3) := by decide +kernel
theorem dX6_appendBit_22 : decode cX6_appendBit 22 = .ok (.iload_n 1, 1) := by decide +kernel
theorem dX6_appendBit_23 : decode cX6_appendBit 23 = .ok (.iaload, 1) := by decide +kernel
theorem dX6_appendBit_24 : decode cX6_appendBit 24 = .ok (.iload_n 3, 1) := by decide +kernel
theorem dX6_appendBit_25 : decode cX6_appendBit 25 = .ok (.invokestatic 56, 3) := by decide +kernel
theorem dX6_appendBit_28 : decode cX6_appendBit 28 = .ok (.isub, 1) := by decide +kernel
theorem dX6_appendBit_29 : decode cX6_appendBit 29 = .ok (.istore 4, 2) := by decide +kernel
theorem dX6_appendBit_31 : decode cX6_appendBit 31 = .ok (.iload 4, 2) := by decide +kernel
theorem dX6_appendBit_33 : decode cX6_appendBit 33 = .ok (.ifCond .ne 13, 3) := by decide +kernel
theorem dX6_appendBit_36 : decode cX6_appendBit 36 = .ok (.aload_n 0, 1) := by decide +kernel
theorem dX6_appendBit_37 : decode cX6_appendBit 37 = .ok (.iload_n 1, 1) := by decide +kernel
theorem dX6_appendBit_38 : decode cX6_appendBit 38 = .ok (.iload_n 3, 1) := by decide +kernel
theorem dX6_appendBit_39 : decode cX6_appendBit 39 = .ok (.invokevirtual 98, 3) := by decide +kernel
theorem dX6_appendBit_42 : decode cX6_appendBit 42 = .ok (.ifCond .ne 4, 3) := by decide +kernel
theorem dX6_appendBit_45 : decode cX6_appendBit 45 = .ok (.return_, 1) := by decide +kernel
theorem dX6_appendBit_46 : decode cX6_appendBit 46 = .ok (.aload_n 0, 1) := by decide +kernel
theorem dX6_appendBit_47 : decode cX6_appendBit 47 = .ok (.getfield 11, 3) := by decide +kernel
theorem dX6_appendBit_50 : decode cX6_appendBit 50 = .ok (.aload_n 0, 1) := by decide +kernel
theorem dX6_appendBit_51 : decode cX6_appendBit 51 = .ok (.getfield 15, 3) := by decide +kernel
theorem dX6_appendBit_54 : decode cX6_appendBit 54 = .ok (.aload_n 0, 1) := by decide +kernel
theorem dX6_appendBit_55 : decode cX6_appendBit 55 = .ok (.getfield 24, 3) := by decide +kernel
theorem dX6_appendBit_58 : decode cX6_appendBit 58 = .ok (.iload_n 1, 1) := by decide +kernel
theorem dX6_appendBit_59 : decode cX6_appendBit 59 = .ok (.iaload, 1) := by decide +kernel
theorem dX6_appendBit_60 : decode cX6_appendBit 60 = .ok (.iaload, 1) := by decide +kernel
theorem dX6_appendBit_61 : decode cX6_appendBit 61 = .ok (.iload 4, 2) := by decide +kernel
theorem dX6_appendBit_63 : decode cX6_appendBit 63 = .ok (.bipush 32, 2) := by decide +kernel
theorem dX6_appendBit_65 : decode cX6_appendBit 65 = .ok (.idiv, 1) := by decide +kernel
theorem dX6_appendBit_66 : decode cX6_appendBit 66 = .ok (.iadd, 1) := by decide +kernel
theorem dX6_appendBit_67 : decode cX6_appendBit 67 = .ok (.dup2, 1) := by decide +kernel
theorem dX6_appendBit_68 : decode cX6_appendBit 68 = .ok (.iaload, 1) := by decide +kernel
theorem dX6_appendBit_69 : decode cX6_appendBit 69 = .ok (.iload_n 2, 1) := by decide +kernel
theorem dX6_appendBit_70 : decode cX6_appendBit 70 = .ok (.bipush 31, 2) := by decide +kernel
theorem dX6_appendBit_72 : decode cX6_appendBit 72 = .ok (.iload 4, 2) := by decide +kernel
theorem dX6_appendBit_74 : decode cX6_appendBit 74 = .ok (.bipush 32, 2) := by decide +kernel
theorem dX6_appendBit_76 : decode cX6_appendBit 76 = .ok (.irem, 1) := by decide +kernel
theorem dX6_appendBit_77 : decode cX6_appendBit 77 = .ok (.isub, 1) := by decide +kernel
theorem dX6_appendBit_78 : decode cX6_appendBit 78 = .ok (.ishl, 1) := by decide +kernel
theorem dX6_appendBit_79 : decode cX6_appendBit 79 = .ok (.ior, 1) := by decide +kernel
theorem dX6_appendBit_80 : decode cX6_appendBit 80 = .ok (.iastore, 1) := by decide +kernel
theorem dX6_appendBit_81 : decode cX6_appendBit 81 = .ok (.aload_n 0, 1) := by decide +kernel
theorem dX6_appendBit_82 : decode cX6_appendBit 82 = .ok (.getfield 27, 3) := by decide +kernel
theorem dX6_appendBit_85 : decode cX6_appendBit 85 = .ok (.iload_n 1, 1) := by decide +kernel
theorem dX6_appendBit_86 : decode cX6_appendBit 86 = .ok (.dup2, 1) := by decide +kernel
theorem dX6_appendBit_87 : decode cX6_appendBit 87 = .ok (.iaload, 1) := by decide +kernel
theorem dX6_appendBit_88 : decode cX6_appendBit 88 = .ok (.iconst 1, 1) := by decide +kernel
theorem dX6_appendBit_89 : decode cX6_appendBit 89 = .ok (.iadd, 1) := by decide +kernel
theorem dX6_appendBit_90 : decode cX6_appendBit 90 = .ok (.iastore, 1) := by decide +kernel
theorem dX6_appendBit_91 : decode cX6_appendBit 91 = .ok (.aload_n 0, 1) := by decide +kernel
theorem dX6_appendBit_92 : decode cX6_appendBit 92 = .ok (.dup, 1) := by decide +kernel
theorem dX6_appendBit_93 : decode cX6_appendBit 93 = .ok (.getfield 43, 3) := by decide +kernel
theorem dX6_appendBit_96 : decode cX6_appendBit 96 = .ok (.iconst 1, 1) := by decide +kernel
theorem dX6_appendBit_97 : decode cX6_appendBit 97 = .ok (.iadd, 1) := by decide +kernel
theorem dX6_appendBit_98 : decode cX6_appendBit 98 = .ok (.putfield 43, 3) := by decide +kernel
theorem dX6_appendBit_101 : decode cX6_appendBit 101 = .ok (.return_, 1) := by decide +kernel
theorem dX6_addChunk_0 : decode cX6_addChunk 0 = .ok (.iload_n 2, 1) := by decide +kernel
theorem dX6_addChunk_1 : decode cX6_addChunk 1 = .ok (.invokestatic 102, 3) := by decide +kernel
theorem dX6_addChunk_4 : decode cX6_addChunk 4 = .ok (.istore_n 3, 1) := by decide +kernel
theorem dX6_addChunk_5 : decode cX6_addChunk 5 = .ok (.aload_n 0, 1) := by decide +kernel
theorem dX6_addChunk_6 : decode cX6_addChunk 6 = .ok (.getfield 36, 3) := by decide +kernel
theorem dX6_addChunk_9 : decode cX6_addChunk 9 = .ok (.sipush 833, 3) := by decide +kernel
theorem dX6_addChunk_12 : decode cX6_addChunk 12 = .ok (.if_icmp .ge 20, 3) := by decide +kernel
theorem dX6_addChunk_15 : decode cX6_addChunk 15 = .ok (.aload_n 0, 1) := by decide +kernel
theorem dX6_addChunk_16 : decode cX6_addChunk 16 = .ok (.getfield 40, 3) := by decide +kernel
theorem dX6_addChunk_19 : decode cX6_addChunk 19 = .ok (.iload_n 3, 1) := by decide +kernel
theorem dX6_addChunk_20 : decode cX6_addChunk 20 = .ok (.bipush 32, 2) := by decide +kernel
theorem dX6_addChunk_22 : decode cX6_addChunk 22 = .ok (.idiv, 1) := by decide +kernel
theorem dX6_addChunk_23 : decode cX6_addChunk 23 = .ok (.iadd, 1) := by decide +kernel
theorem dX6_addChunk_24 : decode cX6_addChunk 24 = .ok (.aload_n 0, 1) := by decide +kernel
theorem dX6_addChunk_25 : decode cX6_addChunk 25 = .ok (.getfield 11, 3) := by decide +kernel
theorem dX6_addChunk_28 : decode cX6_addChunk 28 = .ok (.arraylength, 1) := by decide +kernel
theorem dX6_addChunk_29 : decode cX6_addChunk 29 = .ok (.if_icmp .le 5, 3) := by decide +kernel
theorem dX6_addChunk_32 : decode cX6_addChunk 32 = .ok (.iconst 0, 1) := by decide +kernel
theorem dX6_addChunk_33 : decode cX6_addChunk 33 = .ok (.ireturn, 1) := by decide +kernel
theorem dX6_addChunk_34 : decode cX6_addChunk 34 = .ok (.iload_n 2, 1) := by decide +kernel
theorem dX6_addChunk_35 : decode cX6_addChunk 35 = .ok (.ifCond .ne 16, 3) := by decide +kernel
theorem dX6_addChunk_38 : decode cX6_addChunk 38 = .ok (.aload_n 0, 1) := by decide +kernel
theorem dX6_addChunk_39 : decode cX6_addChunk 39 = .ok (.getfield 21, 3) := by decide +kernel
theorem dX6_addChunk_42 : decode cX6_addChunk 42 = .ok (.iload_n 1, 1) := by decide +kernel
theorem dX6_addChunk_43 : decode cX6_addChunk 43 = .ok (.aload_n 0, 1) := by decide +kernel
theorem dX6_addChunk_44 : decode cX6_addChunk 44 = .ok (.getfield 36, 3) := by decide +kernel
theorem dX6_addChunk_47 : decode cX6_addChunk 47 = .ok (.iastore, 1) := by decide +kernel
theorem dX6_addChunk_48 : decode cX6_addChunk 48 = .ok (.goto 18, 3) := by decide +kernel
theorem dX6_addChunk_51 : decode cX6_addChunk 51 = .ok (.aload_n 0, 1) := by decide +kernel
theorem dX6_addChunk_52 : decode cX6_addChunk 52 = .ok (.getfield 18, 3) := by decide +kernel
theorem dX6_addChunk_55 : decode cX6_addChunk 55 = .ok (.aload_n 0, 1) := by decide +kernel
theorem dX6_addChunk_56 : decode cX6_addChunk 56 = .ok (.getfield 24, 3) := by decide +kernel
theorem dX6_addChunk_59 : decode cX6_addChunk 59 = .ok (.iload_n 1, 1) := by decide +kernel
theorem dX6_addChunk_60 : decode cX6_addChunk 60 = .ok (.iaload, 1) := by decide +kernel
theorem dX6_addChunk_61 : decode cX6_addChunk 61 = .ok (.aload_n 0, 1) := by decide +kernel
theorem dX6_addChunk_62 : decode cX6_addChunk 62 = .ok (.getfield 36, 3) := by decide +kernel
theorem dX6_addChunk_65 : decode cX6_addChunk 65 = .ok (.iastore, 1) := by decide +kernel
theorem dX6_addChunk_66 : decode cX6_addChunk 66 = .ok (.aload_n 0, 1) := by decide +kernel
theorem dX6_addChunk_67 : decode cX6_addChunk 67 = .ok (.getfield 24, 3) := by decide +kernel
theorem dX6_addChunk_70 : decode cX6_addChunk 70 = .ok (.iload_n 1, 1) := by decide +kernel
theorem dX6_addChunk_71 : decode cX6_addChunk 71 = .ok (.aload_n 0, 1) := by decide +kernel
theorem dX6_addChunk_72 : decode cX6_addChunk 72 = .ok (.getfield 36, 3) := by decide +kernel
theorem dX6_addChunk_75 : decode cX6_addChunk 75 = .ok (.iastore, 1) := by decide +kernel
theorem dX6_addChunk_76 : decode cX6_addChunk 76 = .ok (.aload_n 0, 1) := by decide +kernel
theorem dX6_addChunk_77 : decode cX6_addChunk 77 = .ok (.getfield 15, 3) := by decide +kernel
theorem dX6_addChunk_80 : decode cX6_addChunk 80 = .ok (.aload_n 0, 1) := by decide +kernel
theorem dX6_addChunk_81 : decode cX6_addChunk 81 = .ok (.getfield 36, 3) := by decide +kernel
theorem dX6_addChunk_84 : decode cX6_addChunk 84 = .ok (.aload_n 0, 1) := by decide +kernel
theorem dX6_addChunk_85 : decode cX6_addChunk 85 = .ok (.getfield 40, 3) := by decide +kernel
theorem dX6_addChunk_88 : decode cX6_addChunk 88 = .ok (.iastore, 1) := by decide +kernel
theorem dX6_addChunk_89 : decode cX6_addChunk 89 = .ok (.aload_n 0, 1) := by decide +kernel
theorem dX6_addChunk_90 : decode cX6_addChunk 90 = .ok (.getfield 18, 3) := by decide +kernel
theorem dX6_addChunk_93 : decode cX6_addChunk 93 = .ok (.aload_n 0, 1) := by decide +kernel
theorem dX6_addChunk_94 : decode cX6_addChunk 94 = .ok (.getfield 36, 3) := by decide +kernel
theorem dX6_addChunk_97 : decode cX6_addChunk 97 = .ok (.iconst (-1), 1) := by decide +kernel
theorem dX6_addChunk_98 : decode cX6_addChunk 98 = .ok (.iastore, 1) := by decide +kernel
theorem dX6_addChunk_99 : decode cX6_addChunk 99 = .ok (.aload_n 0, 1) := by decide +kernel
theorem dX6_addChunk_100 : decode cX6_addChunk 100 = .ok (.dup, 1) := by decide +kernel
theorem dX6_addChunk_101 : decode cX6_addChunk 101 = .ok (.getfield 36, 3) := by decide +kernel
theorem dX6_addChunk_104 : decode cX6_addChunk 104 = .ok (.iconst 1, 1) := by decide +kernel
theorem dX6_addChunk_105 : decode cX6_addChunk 105 = .ok (.iadd, 1) := by decide +kernel
theorem dX6_addChunk_106 : decode cX6_addChunk 106 = .ok (.putfield 36, 3) := by decide +kernel
theorem dX6_addChunk_109 : decode cX6_addChunk 109 = .ok (.aload_n 0, 1) := by decide +kernel
theorem dX6_addChunk_110 : decode cX6_addChunk 110 = .ok (.dup, 1) := by decide +kernel
theorem dX6_addChunk_111 : decode cX6_addChunk 111 = .ok (.getfield 40, 3) := by decide +kernel
theorem dX6_addChunk_114 : decode cX6_addChunk 114 = .ok (.iload_n 3, 1) := by decide +kernel
theorem dX6_addChunk_115 : decode cX6_addChunk 115 = .ok (.bipush 32, 2) := by decide +kernel
theorem dX6_addChunk_117 : decode cX6_addChunk 117 = .ok (.idiv, 1) := by decide +kernel
theorem dX6_addChunk_118 : decode cX6_addChunk 118 = .ok (.iadd, 1) := by decide +kernel
theorem dX6_addChunk_119 : decode cX6_addChunk 119 = .ok (.putfield 40, 3) := by decide +kernel
theorem dX6_addChunk_122 : decode cX6_addChunk 122 = .ok (.aload_n 0, 1) := by decide +kernel
theorem dX6_addChunk_123 : decode cX6_addChunk 123 = .ok (.dup, 1) := by decide +kernel
theorem dX6_addChunk_124 : decode cX6_addChunk 124 = .ok (.getfield 46, 3) := by decide +kernel
theorem dX6_addChunk_127 : decode cX6_addChunk 127 = .ok (.iload_n 3, 1) := by decide +kernel
theorem dX6_addChunk_128 : decode cX6_addChunk 128 = .ok (.bipush 16, 2) := by decide +kernel
theorem dX6_addChunk_130 : decode cX6_addChunk 130 = .ok (.iadd, 1) := by decide +kernel
theorem dX6_addChunk_131 : decode cX6_addChunk 131 = .ok (.iadd, 1) := by decide +kernel
theorem dX6_addChunk_132 : decode cX6_addChunk 132 = .ok (.putfield 46, 3) := by decide +kernel
theorem dX6_addChunk_135 : decode cX6_addChunk 135 = .ok (.iconst 1, 1) := by decide +kernel
theorem dX6_addChunk_136 : decode cX6_addChunk 136 = .ok (.ireturn, 1) := by decide +kernel
theorem dX6_copyOn_0 : decode cX6_copyOn 0 = .ok (.iconst 0, 1) := by decide +kernel
theorem dX6_copyOn_1 : decode cX6_copyOn 1 = .ok (.istore 4, 2) := by decide +kernel
theorem dX6_copyOn_3 : decode cX6_copyOn 3 = .ok (.iconst 0, 1) := by decide +kernel
theorem dX6_copyOn_4 : decode cX6_copyOn 4 = .ok (.istore 5, 2) := by decide +kernel
theorem dX6_copyOn_6 : decode cX6_copyOn 6 = .ok (.iload 5, 2) := by decide +kernel
theorem dX6_copyOn_8 : decode cX6_copyOn 8 = .ok (.bipush 120, 2) := by decide +kernel
theorem dX6_copyOn_10 : decode cX6_copyOn 10 = .ok (.if_icmp .ge 84, 3) := by decide +kernel
theorem dX6_copyOn_13 : decode cX6_copyOn 13 = .ok (.aload_n 2, 1) := by decide +kernel
theorem dX6_copyOn_14 : decode cX6_copyOn 14 = .ok (.invokevirtual 105, 3) := by decide +kernel
theorem dX6_copyOn_17 : decode cX6_copyOn 17 = .ok (.ifCond .eq 77, 3) := by decide +kernel
theorem dX6_copyOn_20 : decode cX6_copyOn 20 = .ok (.aload_n 3, 1) := by decide +kernel
theorem dX6_copyOn_21 : decode cX6_copyOn 21 = .ok (.aload_n 2, 1) := by decide +kernel
theorem dX6_copyOn_22 : decode cX6_copyOn 22 = .ok (.invokevirtual 111, 3) := by decide +kernel
theorem dX6_copyOn_25 : decode cX6_copyOn 25 = .ok (.invokevirtual 115, 3) := by decide +kernel
theorem dX6_copyOn_28 : decode cX6_copyOn 28 = .ok (.ifCond .eq 60, 3) := by decide +kernel
theorem dX6_copyOn_31 : decode cX6_copyOn 31 = .ok (.iconst 1, 1) := by decide +kernel
theorem dX6_copyOn_32 : decode cX6_copyOn 32 = .ok (.istore 4, 2) := by decide +kernel
theorem dX6_copyOn_34 : decode cX6_copyOn 34 = .ok (.aload_n 0, 1) := by decide +kernel
theorem dX6_copyOn_35 : decode cX6_copyOn 35 = .ok (.iload_n 1, 1) := by decide +kernel
theorem dX6_copyOn_36 : decode cX6_copyOn 36 = .ok (.aload_n 2, 1) := by decide +kernel
theorem dX6_copyOn_37 : decode cX6_copyOn 37 = .ok (.invokevirtual 111, 3) := by decide +kernel
theorem dX6_copyOn_40 : decode cX6_copyOn 40 = .ok (.aload_n 2, 1) := by decide +kernel
theorem dX6_copyOn_41 : decode cX6_copyOn 41 = .ok (.invokevirtual 120, 3) := by decide +kernel
theorem dX6_copyOn_44 : decode cX6_copyOn 44 = .ok (.invokevirtual 123, 3) := by decide +kernel
theorem dX6_copyOn_47 : decode cX6_copyOn 47 = .ok (.iconst (-1), 1) := by decide +kernel
theorem dX6_copyOn_48 : decode cX6_copyOn 48 = .ok (.istore 6, 2) := by decide +kernel
theorem dX6_copyOn_50 : decode cX6_copyOn 50 = .ok (.iconst 0, 1) := by decide +kernel
theorem dX6_copyOn_51 : decode cX6_copyOn 51 = .ok (.istore 7, 2) := by decide +kernel
theorem dX6_copyOn_53 : decode cX6_copyOn 53 = .ok (.iload 7, 2) := by decide +kernel
theorem dX6_copyOn_55 : decode cX6_copyOn 55 = .ok (.aload_n 2, 1) := by decide +kernel
theorem dX6_copyOn_56 : decode cX6_copyOn 56 = .ok (.invokevirtual 120, 3) := by decide +kernel
theorem dX6_copyOn_59 : decode cX6_copyOn 59 = .ok (.if_icmp .ge 29, 3) := by decide +kernel
theorem dX6_copyOn_62 : decode cX6_copyOn 62 = .ok (.aload_n 2, 1) := by decide +kernel
theorem dX6_copyOn_63 : decode cX6_copyOn 63 = .ok (.invokevirtual 127, 3) := by decide +kernel
theorem dX6_copyOn_66 : decode cX6_copyOn 66 = .ok (.istore 8, 2) := by decide +kernel
theorem dX6_copyOn_68 : decode cX6_copyOn 68 = .ok (.aload_n 0, 1) := by decide +kernel
theorem dX6_copyOn_69 : decode cX6_copyOn 69 = .ok (.iload_n 1, 1) := by decide +kernel
theorem dX6_copyOn_70 : decode cX6_copyOn 70 = .ok (.iload 8, 2) := by decide +kernel
theorem dX6_copyOn_72 : decode cX6_copyOn 72 = .ok (.iload 6, 2) := by decide +kernel
theorem dX6_copyOn_74 : decode cX6_copyOn 74 = .ok (.isub, 1) := by decide +kernel
theorem dX6_copyOn_75 : decode cX6_copyOn 75 = .ok (.invokevirtual 91, 3) := by decide +kernel
theorem dX6_copyOn_78 : decode cX6_copyOn 78 = .ok (.iload 8, 2) := by decide +kernel
theorem dX6_copyOn_80 : decode cX6_copyOn 80 = .ok (.istore 6, 2) := by decide +kernel
theorem dX6_copyOn_82 : decode cX6_copyOn 82 = .ok (.iinc 7 1, 3) := by decide +kernel
theorem dX6_copyOn_85 : decode cX6_copyOn 85 = .ok (.goto (-32), 3) := by decide +kernel
theorem dX6_copyOn_88 : decode cX6_copyOn 88 = .ok (.iinc 5 1, 3) := by decide +kernel
theorem dX6_copyOn_91 : decode cX6_copyOn 91 = .ok (.goto (-85), 3) := by decide +kernel
theorem dX6_copyOn_94 : decode cX6_copyOn 94 = .ok (.iload 4, 2) := by decide +kernel
theorem dX6_copyOn_96 : decode cX6_copyOn 96 = .ok (.ireturn, 1) := by decide +kernel
theorem dX7_init_0 : decode cX7_init 0 = .ok (.aload_n 0, 1) := by decide +kernel
theorem dX7_init_1 : decode cX7_init 1 = .ok (.invokespecial 3, 3) := by decide +kernel
theorem dX7_init_4 : decode cX7_init 4 = .ok (.aload_n 0, 1) := by decide +kernel
theorem dX7_init_5 : decode cX7_init 5 = .ok (.bipush 40, 2) := by decide +kernel
theorem dX7_init_7 : decode cX7_init 7 = .ok (.newarray .int, 2) := by decide +kernel
theorem dX7_init_9 : decode cX7_init 9 = .ok (.putfield 9, 3) := by decide +kernel
theorem dX7_init_12 : decode cX7_init 12 = .ok (.aload_n 0, 1) := by decide +kernel
theorem dX7_init_13 : decode cX7_init 13 = .ok (.bipush 40, 2) := by decide +kernel
theorem dX7_init_15 : decode cX7_init 15 = .ok (.newarray .int, 2) := by decide +kernel
theorem dX7_init_17 : decode cX7_init 17 = .ok (.putfield 15, 3) := by decide +kernel
theorem dX7_init_20 : decode cX7_init 20 = .ok (.aload_n 0, 1) := by decide +kernel
theorem dX7_init_21 : decode cX7_init 21 = .ok (.bipush 40, 2) := by decide +kernel
theorem dX7_init_23 : decode cX7_init 23 = .ok (.newarray .int, 2) := by decide +kernel
theorem dX7_init_25 : decode cX7_init 25 = .ok (.putfield 18, 3) := by decide +kernel
theorem dX7_init_28 : decode cX7_init 28 = .ok (.aload_n 0, 1) := by decide +kernel
theorem dX7_init_29 : decode cX7_init 29 = .ok (.bipush 40, 2) := by decide +kernel
theorem dX7_init_31 : decode cX7_init 31 = .ok (.newarray .int, 2) := by decide +kernel
theorem dX7_init_33 : decode cX7_init 33 = .ok (.putfield 21, 3) := by decide +kernel
theorem dX7_init_36 : decode cX7_init 36 = .ok (.aload_n 0, 1) := by decide +kernel
theorem dX7_init_37 : decode cX7_init 37 = .ok (.bipush 40, 2) := by decide +kernel
theorem dX7_init_39 : decode cX7_init 39 = .ok (.newarray .boolean, 2) := by decide +kernel
theorem dX7_init_41 : decode cX7_init 41 = .ok (.putfield 24, 3) := by decide +kernel
theorem dX7_init_44 : decode cX7_init 44 = .ok (.aload_n 0, 1) := by decide +kernel
theorem dX7_init_45 : decode cX7_init 45 = .ok (.sipush 160, 3) := by decide +kernel
theorem dX7_init_48 : decode cX7_init 48 = .ok (.newarray .int, 2) := by decide +kernel
theorem dX7_init_50 : decode cX7_init 50 = .ok (.putfield 28, 3) := by decide +kernel
theorem dX7_init_53 : decode cX7_init 53 = .ok (.aload_n 0, 1) := by decide +kernel
theorem dX7_init_54 : decode cX7_init 54 = .ok (.sipush 270, 3) := by decide +kernel
theorem dX7_init_57 : decode cX7_init 57 = .ok (.newarray .int, 2) := by decide +kernel
theorem dX7_init_59 : decode cX7_init 59 = .ok (.putfield 31, 3) := by decide +kernel
theorem dX7_init_62 : decode cX7_init 62 = .ok (.aload_n 0, 1) := by decide +kernel
theorem dX7_init_63 : decode cX7_init 63 = .ok (.iconst 0, 1) := by decide +kernel
theorem dX7_init_64 : decode cX7_init 64 = .ok (.putfield 34, 3) := by decide +kernel
theorem dX7_init_67 : decode cX7_init 67 = .ok (.aload_n 0, 1) := by decide +kernel
theorem dX7_init_68 : decode cX7_init 68 = .ok (.iconst 0, 1) := by decide +kernel
theorem dX7_init_69 : decode cX7_init 69 = .ok (.putfield 38, 3) := by decide +kernel
theorem dX7_init_72 : decode cX7_init 72 = .ok (.aload_n 0, 1) := by decide +kernel
theorem dX7_init_73 : decode cX7_init 73 = .ok (.iconst 0, 1) := by decide +kernel
theorem dX7_init_74 : decode cX7_init 74 = .ok (.putfield 41, 3) := by decide +kernel
theorem dX7_init_77 : decode cX7_init 77 = .ok (.aload_n 0, 1) := by decide +kernel
theorem dX7_init_78 : decode cX7_init 78 = .ok (.iconst 0, 1) := by decide +kernel
theorem dX7_init_79 : decode cX7_init 79 = .ok (.putfield 44, 3) := by decide +kernel
theorem dX7_init_82 : decode cX7_init 82 = .ok (.aload_n 0, 1) := by decide +kernel
theorem dX7_init_83 : decode cX7_init 83 = .ok (.iconst 0, 1) := by decide +kernel
theorem dX7_init_84 : decode cX7_init 84 = .ok (.putfield 47, 3) := by decide +kernel
theorem dX7_init_87 : decode cX7_init 87 = .ok (.return_, 1) := by decide +kernel
theorem dX7_clear_0 : decode cX7_clear 0 = .ok (.aload_n 0, 1) := by decide +kernel
theorem dX7_clear_1 : decode cX7_clear 1 = .ok (.iconst 0, 1) := by decide +kernel
theorem dX7_clear_2 : decode cX7_clear 2 = .ok (.putfield 34, 3) := by decide +kernel
theorem dX7_clear_5 : decode cX7_clear 5 = .ok (.aload_n 0, 1) := by decide +kernel
theorem dX7_clear_6 : decode cX7_clear 6 = .ok (.iconst 0, 1) := by decide +kernel
theorem dX7_clear_7 : decode cX7_clear 7 = .ok (.putfield 38, 3) := by decide +kernel
theorem dX7_clear_10 : decode cX7_clear 10 = .ok (.aload_n 0, 1) := by decide +kernel
theorem dX7_clear_11 : decode cX7_clear 11 = .ok (.iconst 0, 1) := by decide +kernel
theorem dX7_clear_12 : decode cX7_clear 12 = .ok (.putfield 41, 3) := by decide +kernel
theorem dX7_clear_15 : decode cX7_clear 15 = .ok (.aload_n 0, 1) := by decide +kernel
theorem dX7_clear_16 : decode cX7_clear 16 = .ok (.iconst 0, 1) := by decide +kernel
theorem dX7_clear_17 : decode cX7_clear 17 = .ok (.putfield 44, 3) := by decide +kernel
theorem dX7_clear_20 : decode cX7_clear 20 = .ok (.aload_n 0, 1) := by decide +kernel
theorem dX7_clear_21 : decode cX7_clear 21 = .ok (.iconst 0, 1) := by decide +kernel
theorem dX7_clear_22 : decode cX7_clear 22 = .ok (.putfield 47, 3) := by decide +kernel
theorem dX7_clear_25 : decode cX7_clear 25 = .ok (.return_, 1) := by decide +kernel
theorem dX7_leaves_0 : decode cX7_leaves 0 = .ok (.aload_n 0, 1) := by decide +kernel
theorem dX7_leaves_1 : decode cX7_leaves 1 = .ok (.getfield 34, 3) := by decide +kernel
theorem dX7_leaves_4 : decode cX7_leaves 4 = .ok (.ireturn, 1) := by decide +kernel
theorem dX7_phraseWords_0 : decode cX7_phraseWords 0 = .ok (.aload_n 0, 1) := by decide +kernel
theorem dX7_phraseWords_1 : decode cX7_phraseWords 1 = .ok (.getfield 38, 3) := by decide +kernel
theorem dX7_phraseWords_4 : decode cX7_phraseWords 4 = .ok (.ireturn, 1) := by decide +kernel
theorem dX7_length_0 : decode cX7_length 0 = .ok (.aload_n 0, 1) := by decide +kernel
theorem dX7_length_1 : decode cX7_length 1 = .ok (.getfield 41, 3) := by decide +kernel
theorem dX7_length_4 : decode cX7_length 4 = .ok (.ireturn, 1) := by decide +kernel
theorem dX7_deepestStack_0 : decode cX7_deepestStack 0 = .ok (.aload_n 0, 1) := by decide +kernel
theorem dX7_deepestStack_1 : decode cX7_deepestStack 1 = .ok (.getfield 47, 3) := by decide +kernel
theorem dX7_deepestStack_4 : decode cX7_deepestStack 4 = .ok (.ireturn, 1) := by decide +kernel
theorem dX7_stepAt_0 : decode cX7_stepAt 0 = .ok (.iload_n 1, 1) := by decide +kernel
theorem dX7_stepAt_1 : decode cX7_stepAt 1 = .ok (.ifCond .lt 20, 3) := by decide +kernel
theorem dX7_stepAt_4 : decode cX7_stepAt 4 = .ok (.iload_n 1, 1) := by decide +kernel
theorem dX7_stepAt_5 : decode cX7_stepAt 5 = .ok (.aload_n 0, 1) := by decide +kernel
theorem dX7_stepAt_6 : decode cX7_stepAt 6 = .ok (.getfield 41, 3) := by decide +kernel
theorem dX7_stepAt_9 : decode cX7_stepAt 9 = .ok (.if_icmp .ge 12, 3) := by decide +kernel
theorem dX7_stepAt_12 : decode cX7_stepAt 12 = .ok (.aload_n 0, 1) := by decide +kernel
theorem dX7_stepAt_13 : decode cX7_stepAt 13 = .ok (.getfield 31, 3) := by decide +kernel
theorem dX7_stepAt_16 : decode cX7_stepAt 16 = .ok (.iload_n 1, 1) := by decide +kernel
theorem dX7_stepAt_17 : decode cX7_stepAt 17 = .ok (.iaload, 1) := by decide +kernel
theorem dX7_stepAt_18 : decode cX7_stepAt 18 = .ok (.goto 4, 3) := by decide +kernel
theorem dX7_stepAt_21 : decode cX7_stepAt 21 = .ok (.iconst (-1), 1) := by decide +kernel
theorem dX7_stepAt_22 : decode cX7_stepAt 22 = .ok (.ireturn, 1) := by decide +kernel
theorem dX7_isLeaf_0 : decode cX7_isLeaf 0 = .ok (.iload_n 0, 1) := by decide +kernel
theorem dX7_isLeaf_1 : decode cX7_isLeaf 1 = .ok (.ifCond .lt 13, 3) := by decide +kernel
theorem dX7_isLeaf_4 : decode cX7_isLeaf 4 = .ok (.iload_n 0, 1) := by decide +kernel
theorem dX7_isLeaf_5 : decode cX7_isLeaf 5 = .ok (.bipush 40, 2) := by decide +kernel
theorem dX7_isLeaf_7 : decode cX7_isLeaf 7 = .ok (.if_icmp .ge 7, 3) := by decide +kernel
theorem dX7_isLeaf_10 : decode cX7_isLeaf 10 = .ok (.iconst 1, 1) := by decide +kernel
theorem dX7_isLeaf_11 : decode cX7_isLeaf 11 = .ok (.goto 4, 3) := by decide +kernel
theorem dX7_isLeaf_14 : decode cX7_isLeaf 14 = .ok (.iconst 0, 1) := by decide +kernel
theorem dX7_isLeaf_15 : decode cX7_isLeaf 15 = .ok (.ireturn, 1) := by decide +kernel
theorem dX7_kindOf_0 : decode cX7_kindOf 0 = .ok (.iload_n 1, 1) := by decide +kernel
theorem dX7_kindOf_1 : decode cX7_kindOf 1 = .ok (.invokestatic 50, 3) := by decide +kernel
theorem dX7_kindOf_4 : decode cX7_kindOf 4 = .ok (.ifCond .eq 12, 3) := by decide +kernel
theorem dX7_kindOf_7 : decode cX7_kindOf 7 = .ok (.aload_n 0, 1) := by decide +kernel
theorem dX7_kindOf_8 : decode cX7_kindOf 8 = .ok (.getfield 9, 3) := by decide +kernel
theorem dX7_kindOf_11 : decode cX7_kindOf 11 = .ok (.iload_n 1, 1) := by decide +kernel
theorem dX7_kindOf_12 : decode cX7_kindOf 12 = .ok (.iaload, 1) := by decide +kernel
theorem dX7_kindOf_13 : decode cX7_kindOf 13 = .ok (.goto 4, 3) := by decide +kernel
theorem dX7_kindOf_16 : decode cX7_kindOf 16 = .ok (.iconst (-1), 1) := by decide +kernel
theorem dX7_kindOf_17 : decode cX7_kindOf 17 = .ok (.ireturn, 1) := by decide +kernel
theorem dX7_lowOf_0 : decode cX7_lowOf 0 = .ok (.iload_n 1, 1) := by decide +kernel
theorem dX7_lowOf_1 : decode cX7_lowOf 1 = .ok (.invokestatic 50, 3) := by decide +kernel
theorem dX7_lowOf_4 : decode cX7_lowOf 4 = .ok (.ifCond .eq 12, 3) := by decide +kernel
theorem dX7_lowOf_7 : decode cX7_lowOf 7 = .ok (.aload_n 0, 1) := by decide +kernel
theorem dX7_lowOf_8 : decode cX7_lowOf 8 = .ok (.getfield 15, 3) := by decide +kernel
theorem dX7_lowOf_11 : decode cX7_lowOf 11 = .ok (.iload_n 1, 1) := by decide +kernel
theorem dX7_lowOf_12 : decode cX7_lowOf 12 = .ok (.iaload, 1) := by decide +kernel
theorem dX7_lowOf_13 : decode cX7_lowOf 13 = .ok (.goto 4, 3) := by decide +kernel
theorem dX7_lowOf_16 : decode cX7_lowOf 16 = .ok (.iconst 0, 1) := by decide +kernel
theorem dX7_lowOf_17 : decode cX7_lowOf 17 = .ok (.ireturn, 1) := by decide +kernel
theorem dX7_highOf_0 : decode cX7_highOf 0 = .ok (.iload_n 1, 1) := by decide +kernel
theorem dX7_highOf_1 : decode cX7_highOf 1 = .ok (.invokestatic 50, 3) := by decide +kernel
theorem dX7_highOf_4 : decode cX7_highOf 4 = .ok (.ifCond .eq 12, 3) := by decide +kernel
theorem dX7_highOf_7 : decode cX7_highOf 7 = .ok (.aload_n 0, 1) := by decide +kernel
theorem dX7_highOf_8 : decode cX7_highOf 8 = .ok (.getfield 18, 3) := by decide +kernel
theorem dX7_highOf_11 : decode cX7_highOf 11 = .ok (.iload_n 1, 1) := by decide +kernel
theorem dX7_highOf_12 : decode cX7_highOf 12 = .ok (.iaload, 1) := by decide +kernel
theorem dX7_highOf_13 : decode cX7_highOf 13 = .ok (.goto 4, 3) := by decide +kernel
theorem dX7_highOf_16 : decode cX7_highOf 16 = .ok (.iconst 0, 1) := by decide +kernel
theorem dX7_highOf_17 : decode cX7_highOf 17 = .ok (.ireturn, 1) := by decide +kernel
theorem dX7_sidesOf_0 : decode cX7_sidesOf 0 = .ok (.iload_n 1, 1) := by decide +kernel
theorem dX7_sidesOf_1 : decode cX7_sidesOf 1 = .ok (.invokestatic 50, 3) := by decide +kernel
theorem dX7_sidesOf_4 : decode cX7_sidesOf 4 = .ok (.ifCond .eq 12, 3) := by decide +kernel
theorem dX7_sidesOf_7 : decode cX7_sidesOf 7 = .ok (.aload_n 0, 1) := by decide +kernel
theorem dX7_sidesOf_8 : decode cX7_sidesOf 8 = .ok (.getfield 21, 3) := by decide +kernel
theorem dX7_sidesOf_11 : decode cX7_sidesOf 11 = .ok (.iload_n 1, 1) := by decide +kernel
theorem dX7_sidesOf_12 : decode cX7_sidesOf 12 = .ok (.iaload, 1) := by decide +kernel
theorem dX7_sidesOf_13 : decode cX7_sidesOf 13 = .ok (.goto 4, 3) := by decide +kernel
theorem dX7_sidesOf_16 : decode cX7_sidesOf 16 = .ok (.iconst 0, 1) := by decide +kernel
theorem dX7_sidesOf_17 : decode cX7_sidesOf 17 = .ok (.ireturn, 1) := by decide +kernel
theorem dX7_isCounted_0 : decode cX7_isCounted 0 = .ok (.iload_n 1, 1) := by decide +kernel
theorem dX7_isCounted_1 : decode cX7_isCounted 1 = .ok (.invokestatic 50, 3) := by decide +kernel
theorem dX7_isCounted_4 : decode cX7_isCounted 4 = .ok (.ifCond .eq 16, 3) := by decide +kernel
theorem dX7_isCounted_7 : decode cX7_isCounted 7 = .ok (.aload_n 0, 1) := by decide +kernel
theorem dX7_isCounted_8 : decode cX7_isCounted 8 = .ok (.getfield 24, 3) := by decide +kernel
theorem dX7_isCounted_11 : decode cX7_isCounted 11 = .ok (.iload_n 1, 1) := by decide +kernel
theorem dX7_isCounted_12 : decode cX7_isCounted 12 = .ok (.baload, 1) := by decide +kernel
theorem dX7_isCounted_13 : decode cX7_isCounted 13 = .ok (.ifCond .eq 7, 3) := by decide +kernel
theorem dX7_isCounted_16 : decode cX7_isCounted 16 = .ok (.iconst 1, 1) := by decide +kernel
theorem dX7_isCounted_17 : decode cX7_isCounted 17 = .ok (.goto 4, 3) := by decide +kernel
theorem dX7_isCounted_20 : decode cX7_isCounted 20 = .ok (.iconst 0, 1) := by decide +kernel
theorem dX7_isCounted_21 : decode cX7_isCounted 21 = .ok (.ireturn, 1) := by decide +kernel
theorem dX7_phraseWord_0 : decode cX7_phraseWord 0 = .ok (.iload_n 1, 1) := by decide +kernel
theorem dX7_phraseWord_1 : decode cX7_phraseWord 1 = .ok (.ifCond .lt 20, 3) := by decide +kernel
theorem dX7_phraseWord_4 : decode cX7_phraseWord 4 = .ok (.iload_n 1, 1) := by decide +kernel
theorem dX7_phraseWord_5 : decode cX7_phraseWord 5 = .ok (.aload_n 0, 1) := by decide +kernel
theorem dX7_phraseWord_6 : decode cX7_phraseWord 6 = .ok (.getfield 38, 3) := by decide +kernel
theorem dX7_phraseWord_9 : decode cX7_phraseWord 9 = .ok (.if_icmp .ge 12, 3) := by decide +kernel
theorem dX7_phraseWord_12 : decode cX7_phraseWord 12 = .ok (.aload_n 0, 1) := by decide +kernel
theorem dX7_phraseWord_13 : decode cX7_phraseWord 13 = .ok (.getfield 28, 3) := by decide +kernel
theorem dX7_phraseWord_16 : decode cX7_phraseWord 16 = .ok (.iload_n 1, 1) := by decide +kernel
theorem dX7_phraseWord_17 : decode cX7_phraseWord 17 = .ok (.iaload, 1) := by decide +kernel
theorem dX7_phraseWord_18 : decode cX7_phraseWord 18 = .ok (.goto 5, 3) := by decide +kernel
theorem dX7_phraseWord_21 : decode cX7_phraseWord 21 = .ok (.bipush (-2), 2) := by decide +kernel
theorem dX7_phraseWord_23 : decode cX7_phraseWord 23 = .ok (.ireturn, 1) := by decide +kernel
theorem dX7_addPhraseWord_0 : decode cX7_addPhraseWord 0 = .ok (.aload_n 0, 1) := by decide +kernel
theorem dX7_addPhraseWord_1 : decode cX7_addPhraseWord 1 = .ok (.getfield 38, 3) := by decide +kernel
theorem dX7_addPhraseWord_4 : decode cX7_addPhraseWord 4 = .ok (.sipush 160, 3) := by decide +kernel
theorem dX7_addPhraseWord_7 : decode cX7_addPhraseWord 7 = .ok (.if_icmp .ge 23, 3) := by decide +kernel
theorem dX7_addPhraseWord_10 : decode cX7_addPhraseWord 10 = .ok (.aload_n 0, 1) := by decide +kernel
theorem dX7_addPhraseWord_11 : decode cX7_addPhraseWord 11 = .ok (.getfield 28, 3) := by decide +kernel
theorem dX7_addPhraseWord_14 : decode cX7_addPhraseWord 14 = .ok (.aload_n 0, 1) := by decide +kernel
theorem dX7_addPhraseWord_15 : decode cX7_addPhraseWord 15 = .ok (.getfield 38, 3) := by decide +kernel
theorem dX7_addPhraseWord_18 : decode cX7_addPhraseWord 18 = .ok (.iload_n 1, 1) := by decide +kernel
theorem dX7_addPhraseWord_19 : decode cX7_addPhraseWord 19 = .ok (.iastore, 1) := by decide +kernel
theorem dX7_addPhraseWord_20 : decode cX7_addPhraseWord 20 = .ok (.aload_n 0, 1) := by decide +kernel
theorem dX7_addPhraseWord_21 : decode cX7_addPhraseWord 21 = .ok (.dup, 1) := by decide +kernel
theorem dX7_addPhraseWord_22 : decode cX7_addPhraseWord 22 = .ok (.getfield 38, 3) := by decide +kernel
theorem dX7_addPhraseWord_25 : decode cX7_addPhraseWord 25 = .ok (.iconst 1, 1) := by decide +kernel
theorem dX7_addPhraseWord_26 : decode cX7_addPhraseWord 26 = .ok (.iadd, 1) := by decide +kernel
theorem dX7_addPhraseWord_27 : decode cX7_addPhraseWord 27 = .ok (.putfield 38, 3) := by decide +kernel
theorem dX7_addPhraseWord_30 : decode cX7_addPhraseWord 30 = .ok (.return_, 1) := by decide +kernel
theorem dX7_addLeaf_0 : decode cX7_addLeaf 0 = .ok (.aload_n 0, 1) := by decide +kernel
theorem dX7_addLeaf_1 : decode cX7_addLeaf 1 = .ok (.getfield 34, 3) := by decide +kernel
theorem dX7_addLeaf_4 : decode cX7_addLeaf 4 = .ok (.bipush 40, 2) := by decide +kernel
theorem dX7_addLeaf_6 : decode cX7_addLeaf 6 = .ok (.if_icmp .ge 99, 3) := by decide +kernel
theorem dX7_addLeaf_9 : decode cX7_addLeaf 9 = .ok (.aload_n 0, 1) := by decide +kernel
theorem dX7_addLeaf_10 : decode cX7_addLeaf 10 = .ok (.getfield 9, 3) := by decide +kernel
theorem dX7_addLeaf_13 : decode cX7_addLeaf 13 = .ok (.aload_n 0, 1) := by decide +kernel
theorem dX7_addLeaf_14 : decode cX7_addLeaf 14 = .ok (.getfield 34, 3) := by decide +kernel
theorem dX7_addLeaf_17 : decode cX7_addLeaf 17 = .ok (.iload_n 1, 1) := by decide +kernel
theorem dX7_addLeaf_18 : decode cX7_addLeaf 18 = .ok (.iastore, 1) := by decide +kernel
theorem dX7_addLeaf_19 : decode cX7_addLeaf 19 = .ok (.aload_n 0, 1) := by decide +kernel
theorem dX7_addLeaf_20 : decode cX7_addLeaf 20 = .ok (.getfield 15, 3) := by decide +kernel
theorem dX7_addLeaf_23 : decode cX7_addLeaf 23 = .ok (.aload_n 0, 1) := by decide +kernel
theorem dX7_addLeaf_24 : decode cX7_addLeaf 24 = .ok (.getfield 34, 3) := by decide +kernel
theorem dX7_addLeaf_27 : decode cX7_addLeaf 27 = .ok (.iload_n 2, 1) := by decide +kernel
theorem dX7_addLeaf_28 : decode cX7_addLeaf 28 = .ok (.iastore, 1) := by decide +kernel
theorem dX7_addLeaf_29 : decode cX7_addLeaf 29 = .ok (.aload_n 0, 1) := by decide +kernel
theorem dX7_addLeaf_30 : decode cX7_addLeaf 30 = .ok (.getfield 18, 3) := by decide +kernel
theorem dX7_addLeaf_33 : decode cX7_addLeaf 33 = .ok (.aload_n 0, 1) := by decide +kernel
theorem dX7_addLeaf_34 : decode cX7_addLeaf 34 = .ok (.getfield 34, 3) := by decide +kernel
theorem dX7_addLeaf_37 : decode cX7_addLeaf 37 = .ok (.iload_n 3, 1) := by decide +kernel
theorem dX7_addLeaf_38 : decode cX7_addLeaf 38 = .ok (.iastore, 1) := by decide +kernel
theorem dX7_addLeaf_39 : decode cX7_addLeaf 39 = .ok (.aload_n 0, 1) := by decide +kernel
theorem dX7_addLeaf_40 : decode cX7_addLeaf 40 = .ok (.getfield 21, 3) := by decide +kernel
theorem dX7_addLeaf_43 : decode cX7_addLeaf 43 = .ok (.aload_n 0, 1) := by decide +kernel
theorem dX7_addLeaf_44 : decode cX7_addLeaf 44 = .ok (.getfield 34, 3) := by decide +kernel
theorem dX7_addLeaf_47 : decode cX7_addLeaf 47 = .ok (.iload 4, 2) := by decide +kernel
theorem dX7_addLeaf_49 : decode cX7_addLeaf 49 = .ok (.iastore, 1) := by decide +kernel
theorem dX7_addLeaf_50 : decode cX7_addLeaf 50 = .ok (.aload_n 0, 1) := by decide +kernel
theorem dX7_addLeaf_51 : decode cX7_addLeaf 51 = .ok (.getfield 24, 3) := by decide +kernel
theorem dX7_addLeaf_54 : decode cX7_addLeaf 54 = .ok (.aload_n 0, 1) := by decide +kernel
theorem dX7_addLeaf_55 : decode cX7_addLeaf 55 = .ok (.getfield 34, 3) := by decide +kernel
theorem dX7_addLeaf_58 : decode cX7_addLeaf 58 = .ok (.iload 5, 2) := by decide +kernel
theorem dX7_addLeaf_60 : decode cX7_addLeaf 60 = .ok (.bastore, 1) := by decide +kernel
theorem dX7_addLeaf_61 : decode cX7_addLeaf 61 = .ok (.aload_n 0, 1) := by decide +kernel
theorem dX7_addLeaf_62 : decode cX7_addLeaf 62 = .ok (.iload_n 1, 1) := by decide +kernel
theorem dX7_addLeaf_63 : decode cX7_addLeaf 63 = .ok (.aload_n 0, 1) := by decide +kernel
theorem dX7_addLeaf_64 : decode cX7_addLeaf 64 = .ok (.getfield 34, 3) := by decide +kernel
theorem dX7_addLeaf_67 : decode cX7_addLeaf 67 = .ok (.invokevirtual 54, 3) := by decide +kernel
theorem dX7_addLeaf_70 : decode cX7_addLeaf 70 = .ok (.aload_n 0, 1) := by decide +kernel
theorem dX7_addLeaf_71 : decode cX7_addLeaf 71 = .ok (.dup, 1) := by decide +kernel
theorem dX7_addLeaf_72 : decode cX7_addLeaf 72 = .ok (.getfield 34, 3) := by decide +kernel
theorem dX7_addLeaf_75 : decode cX7_addLeaf 75 = .ok (.iconst 1, 1) := by decide +kernel
theorem dX7_addLeaf_76 : decode cX7_addLeaf 76 = .ok (.iadd, 1) := by decide +kernel
theorem dX7_addLeaf_77 : decode cX7_addLeaf 77 = .ok (.putfield 34, 3) := by decide +kernel
theorem dX7_addLeaf_80 : decode cX7_addLeaf 80 = .ok (.aload_n 0, 1) := by decide +kernel
theorem dX7_addLeaf_81 : decode cX7_addLeaf 81 = .ok (.dup, 1) := by decide +kernel
theorem dX7_addLeaf_82 : decode cX7_addLeaf 82 = .ok (.getfield 44, 3) := by decide +kernel
theorem dX7_addLeaf_85 : decode cX7_addLeaf 85 = .ok (.iconst 1, 1) := by decide +kernel
theorem dX7_addLeaf_86 : decode cX7_addLeaf 86 = .ok (.iadd, 1) := by decide +kernel
theorem dX7_addLeaf_87 : decode cX7_addLeaf 87 = .ok (.putfield 44, 3) := by decide +kernel
theorem dX7_addLeaf_90 : decode cX7_addLeaf 90 = .ok (.aload_n 0, 1) := by decide +kernel
theorem dX7_addLeaf_91 : decode cX7_addLeaf 91 = .ok (.aload_n 0, 1) := by decide +kernel
theorem dX7_addLeaf_92 : decode cX7_addLeaf 92 = .ok (.getfield 47, 3) := by decide +kernel
theorem dX7_addLeaf_95 : decode cX7_addLeaf 95 = .ok (.aload_n 0, 1) := by decide +kernel
theorem dX7_addLeaf_96 : decode cX7_addLeaf 96 = .ok (.getfield 44, 3) := by decide +kernel
theorem dX7_addLeaf_99 : decode cX7_addLeaf 99 = .ok (.invokestatic 58, 3) := by decide +kernel
theorem dX7_addLeaf_102 : decode cX7_addLeaf 102 = .ok (.putfield 47, 3) := by decide +kernel
theorem dX7_addLeaf_105 : decode cX7_addLeaf 105 = .ok (.return_, 1) := by decide +kernel
theorem dX7_addStep_0 : decode cX7_addStep 0 = .ok (.aload_n 0, 1) := by decide +kernel
theorem dX7_addStep_1 : decode cX7_addStep 1 = .ok (.getfield 41, 3) := by decide +kernel
theorem dX7_addStep_4 : decode cX7_addStep 4 = .ok (.sipush 270, 3) := by decide +kernel
theorem dX7_addStep_7 : decode cX7_addStep 7 = .ok (.if_icmp .ge 29, 3) := by decide +kernel
theorem dX7_addStep_10 : decode cX7_addStep 10 = .ok (.aload_n 0, 1) := by decide +kernel
theorem dX7_addStep_11 : decode cX7_addStep 11 = .ok (.getfield 31, 3) := by decide +kernel
theorem dX7_addStep_14 : decode cX7_addStep 14 = .ok (.aload_n 0, 1) := by decide +kernel
theorem dX7_addStep_15 : decode cX7_addStep 15 = .ok (.getfield 41, 3) := by decide +kernel
theorem dX7_addStep_18 : decode cX7_addStep 18 = .ok (.sipush 1000, 3) := by decide +kernel
theorem dX7_addStep_21 : decode cX7_addStep 21 = .ok (.iload_n 1, 1) := by decide +kernel
theorem dX7_addStep_22 : decode cX7_addStep 22 = .ok (.imul, 1) := by decide +kernel
theorem dX7_addStep_23 : decode cX7_addStep 23 = .ok (.iload_n 2, 1) := by decide +kernel
theorem dX7_addStep_24 : decode cX7_addStep 24 = .ok (.iadd, 1) := by decide +kernel
theorem dX7_addStep_25 : decode cX7_addStep 25 = .ok (.iastore, 1) := by decide +kernel
theorem dX7_addStep_26 : decode cX7_addStep 26 = .ok (.aload_n 0, 1) := by decide +kernel
theorem dX7_addStep_27 : decode cX7_addStep 27 = .ok (.dup, 1) := by decide +kernel
theorem dX7_addStep_28 : decode cX7_addStep 28 = .ok (.getfield 41, 3) := by decide +kernel
theorem dX7_addStep_31 : decode cX7_addStep 31 = .ok (.iconst 1, 1) := by decide +kernel
theorem dX7_addStep_32 : decode cX7_addStep 32 = .ok (.iadd, 1) := by decide +kernel
theorem dX7_addStep_33 : decode cX7_addStep 33 = .ok (.putfield 41, 3) := by decide +kernel
theorem dX7_addStep_36 : decode cX7_addStep 36 = .ok (.return_, 1) := by decide +kernel
theorem dX7_addJoint_0 : decode cX7_addJoint 0 = .ok (.aload_n 0, 1) := by decide +kernel
theorem dX7_addJoint_1 : decode cX7_addJoint 1 = .ok (.iload_n 1, 1) := by decide +kernel
theorem dX7_addJoint_2 : decode cX7_addJoint 2 = .ok (.iload_n 2, 1) := by decide +kernel
theorem dX7_addJoint_3 : decode cX7_addJoint 3 = .ok (.invokevirtual 54, 3) := by decide +kernel
theorem dX7_addJoint_6 : decode cX7_addJoint 6 = .ok (.aload_n 0, 1) := by decide +kernel
theorem dX7_addJoint_7 : decode cX7_addJoint 7 = .ok (.dup, 1) := by decide +kernel
theorem dX7_addJoint_8 : decode cX7_addJoint 8 = .ok (.getfield 44, 3) := by decide +kernel
theorem dX7_addJoint_11 : decode cX7_addJoint 11 = .ok (.iconst 1, 1) := by decide +kernel
theorem dX7_addJoint_12 : decode cX7_addJoint 12 = .ok (.isub, 1) := by decide +kernel
theorem dX7_addJoint_13 : decode cX7_addJoint 13 = .ok (.putfield 44, 3) := by decide +kernel
theorem dX7_addJoint_16 : decode cX7_addJoint 16 = .ok (.return_, 1) := by decide +kernel
theorem dX8_init_0 : decode cX8_init 0 = .ok (.aload_n 0, 1) := by decide +kernel
theorem dX8_init_1 : decode cX8_init 1 = .ok (.invokespecial 3, 3) := by decide +kernel
theorem dX8_init_4 : decode cX8_init 4 = .ok (.aload_n 0, 1) := by decide +kernel
theorem dX8_init_5 : decode cX8_init 5 = .ok (.iconst 0, 1) := by decide +kernel
theorem dX8_init_6 : decode cX8_init 6 = .ok (.putfield 9, 3) := by decide +kernel
theorem dX8_init_9 : decode cX8_init 9 = .ok (.aload_n 0, 1) := by decide +kernel
theorem dX8_init_10 : decode cX8_init 10 = .ok (.iconst (-1), 1) := by decide +kernel
theorem dX8_init_11 : decode cX8_init 11 = .ok (.putfield 15, 3) := by decide +kernel
theorem dX8_init_14 : decode cX8_init 14 = .ok (.aload_n 0, 1) := by decide +kernel
theorem dX8_init_15 : decode cX8_init 15 = .ok (.iconst 0, 1) := by decide +kernel
theorem dX8_init_16 : decode cX8_init 16 = .ok (.putfield 18, 3) := by decide +kernel
theorem dX8_init_19 : decode cX8_init 19 = .ok (.aload_n 0, 1) := by decide +kernel
theorem dX8_init_20 : decode cX8_init 20 = .ok (.iconst 0, 1) := by decide +kernel
theorem dX8_init_21 : decode cX8_init 21 = .ok (.putfield 21, 3) := by decide +kernel
theorem dX8_init_24 : decode cX8_init 24 = .ok (.aload_n 0, 1) := by decide +kernel
theorem dX8_init_25 : decode cX8_init 25 = .ok (.iconst (-1), 1) := by decide +kernel
theorem dX8_init_26 : decode cX8_init 26 = .ok (.putfield 24, 3) := by decide +kernel
theorem dX8_init_29 : decode cX8_init 29 = .ok (.aload_n 0, 1) := by decide +kernel
theorem dX8_init_30 : decode cX8_init 30 = .ok (.iconst 0, 1) := by decide +kernel
theorem dX8_init_31 : decode cX8_init 31 = .ok (.putfield 27, 3) := by decide +kernel
theorem dX8_init_34 : decode cX8_init 34 = .ok (.aload_n 0, 1) := by decide +kernel
theorem dX8_init_35 : decode cX8_init 35 = .ok (.iconst 0, 1) := by decide +kernel
theorem dX8_init_36 : decode cX8_init 36 = .ok (.putfield 30, 3) := by decide +kernel
theorem dX8_init_39 : decode cX8_init 39 = .ok (.aload_n 0, 1) := by decide +kernel
theorem dX8_init_40 : decode cX8_init 40 = .ok (.iconst (-1), 1) := by decide +kernel
theorem dX8_init_41 : decode cX8_init 41 = .ok (.putfield 33, 3) := by decide +kernel
theorem dX8_init_44 : decode cX8_init 44 = .ok (.aload_n 0, 1) := by decide +kernel
theorem dX8_init_45 : decode cX8_init 45 = .ok (.aload_n 1, 1) := by decide +kernel
theorem dX8_init_46 : decode cX8_init 46 = .ok (.putfield 36, 3) := by decide +kernel
theorem dX8_init_49 : decode cX8_init 49 = .ok (.return_, 1) := by decide +kernel
theorem dX8_open_0 : decode cX8_open 0 = .ok (.aload_n 0, 1) := by decide +kernel
theorem dX8_open_1 : decode cX8_open 1 = .ok (.aload_n 0, 1) := by decide +kernel
theorem dX8_open_2 : decode cX8_open 2 = .ok (.getfield 36, 3) := by decide +kernel
theorem dX8_open_5 : decode cX8_open 5 = .ok (.iload_n 1, 1) := by decide +kernel
theorem dX8_open_6 : decode cX8_open 6 = .ok (.invokevirtual 40, 3) := by decide +kernel
theorem dX8_open_9 : decode cX8_open 9 = .ok (.putfield 9, 3) := by decide +kernel
theorem dX8_open_12 : decode cX8_open 12 = .ok (.aload_n 0, 1) := by decide +kernel
theorem dX8_open_13 : decode cX8_open 13 = .ok (.aload_n 0, 1) := by decide +kernel
theorem dX8_open_14 : decode cX8_open 14 = .ok (.getfield 36, 3) := by decide +kernel
theorem dX8_open_17 : decode cX8_open 17 = .ok (.iload_n 1, 1) := by decide +kernel
theorem dX8_open_18 : decode cX8_open 18 = .ok (.invokevirtual 46, 3) := by decide +kernel
theorem dX8_open_21 : decode cX8_open 21 = .ok (.putfield 15, 3) := by decide +kernel
theorem dX8_open_24 : decode cX8_open 24 = .ok (.aload_n 0, 1) := by decide +kernel
theorem dX8_open_25 : decode cX8_open 25 = .ok (.iconst 0, 1) := by decide +kernel
theorem dX8_open_26 : decode cX8_open 26 = .ok (.putfield 18, 3) := by decide +kernel
theorem dX8_open_29 : decode cX8_open 29 = .ok (.aload_n 0, 1) := by decide +kernel
theorem dX8_open_30 : decode cX8_open 30 = .ok (.iconst 0, 1) := by decide +kernel
theorem dX8_open_31 : decode cX8_open 31 = .ok (.putfield 21, 3) := by decide +kernel
theorem dX8_open_34 : decode cX8_open 34 = .ok (.aload_n 0, 1) := by decide +kernel
theorem dX8_open_35 : decode cX8_open 35 = .ok (.iconst (-1), 1) := by decide +kernel
theorem dX8_open_36 : decode cX8_open 36 = .ok (.putfield 24, 3) := by decide +kernel
theorem dX8_open_39 : decode cX8_open 39 = .ok (.aload_n 0, 1) := by decide +kernel
theorem dX8_open_40 : decode cX8_open 40 = .ok (.iconst 0, 1) := by decide +kernel
theorem dX8_open_41 : decode cX8_open 41 = .ok (.putfield 27, 3) := by decide +kernel
theorem dX8_open_44 : decode cX8_open 44 = .ok (.aload_n 0, 1) := by decide +kernel
theorem dX8_open_45 : decode cX8_open 45 = .ok (.iconst 0, 1) := by decide +kernel
theorem dX8_open_46 : decode cX8_open 46 = .ok (.putfield 30, 3) := by decide +kernel
theorem dX8_open_49 : decode cX8_open 49 = .ok (.return_, 1) := by decide +kernel
theorem dX8_nextDocument_0 : decode cX8_nextDocument 0 = .ok (.aload_n 0, 1) := by decide +kernel
theorem dX8_nextDocument_1 : decode cX8_nextDocument 1 = .ok (.getfield 30, 3) := by decide +kernel
theorem dX8_nextDocument_4 : decode cX8_nextDocument 4 = .ok (.istore_n 1, 1) := by decide +kernel
theorem dX8_nextDocument_5 : decode cX8_nextDocument 5 = .ok (.iload_n 1, 1) := by decide +kernel
theorem dX8_nextDocument_6 : decode cX8_nextDocument 6 = .ok (.ifCond .le 14, 3) := by decide +kernel
theorem dX8_nextDocument_9 : decode cX8_nextDocument 9 = .ok (.aload_n 0, 1) := by decide +kernel
theorem dX8_nextDocument_10 : decode cX8_nextDocument 10 = .ok (.invokevirtual 49, 3) := by decide +kernel
theorem dX8_nextDocument_13 : decode cX8_nextDocument 13 = .ok (.pop, 1) := by decide +kernel
theorem dX8_nextDocument_14 : decode cX8_nextDocument 14 = .ok (.iinc 1 (-1), 3) := by decide +kernel
theorem dX8_nextDocument_17 : decode cX8_nextDocument 17 = .ok (.goto (-12), 3) := by decide +kernel
theorem dX8_nextDocument_20 : decode cX8_nextDocument 20 = .ok (.aload_n 0, 1) := by decide +kernel
theorem dX8_nextDocument_21 : decode cX8_nextDocument 21 = .ok (.iconst 0, 1) := by decide +kernel
theorem dX8_nextDocument_22 : decode cX8_nextDocument 22 = .ok (.putfield 30, 3) := by decide +kernel
theorem dX8_nextDocument_25 : decode cX8_nextDocument 25 = .ok (.aload_n 0, 1) := by decide +kernel
theorem dX8_nextDocument_26 : decode cX8_nextDocument 26 = .ok (.iconst 0, 1) := by decide +kernel
theorem dX8_nextDocument_27 : decode cX8_nextDocument 27 = .ok (.putfield 27, 3) := by decide +kernel
theorem dX8_nextDocument_30 : decode cX8_nextDocument 30 = .ok (.aload_n 0, 1) := by decide +kernel
theorem dX8_nextDocument_31 : decode cX8_nextDocument 31 = .ok (.getfield 9, 3) := by decide +kernel
theorem dX8_nextDocument_34 : decode cX8_nextDocument 34 = .ok (.ifCond .ne 11, 3) := by decide +kernel
theorem dX8_nextDocument_37 : decode cX8_nextDocument 37 = .ok (.aload_n 0, 1) := by decide +kernel
theorem dX8_nextDocument_38 : decode cX8_nextDocument 38 = .ok (.bipush 120, 2) := by decide +kernel
theorem dX8_nextDocument_40 : decode cX8_nextDocument 40 = .ok (.putfield 24, 3) := by decide +kernel
theorem dX8_nextDocument_43 : decode cX8_nextDocument 43 = .ok (.iconst 0, 1) := by decide +kernel
theorem dX8_nextDocument_44 : decode cX8_nextDocument 44 = .ok (.ireturn, 1) := by decide +kernel
theorem dX8_nextDocument_45 : decode cX8_nextDocument 45 = .ok (.aload_n 0, 1) := by decide +kernel
theorem dX8_nextDocument_46 : decode cX8_nextDocument 46 = .ok (.dup, 1) := by decide +kernel
theorem dX8_nextDocument_47 : decode cX8_nextDocument 47 = .ok (.getfield 24, 3) := by decide +kernel
theorem dX8_nextDocument_50 : decode cX8_nextDocument 50 = .ok (.aload_n 0, 1) := by decide +kernel
theorem dX8_nextDocument_51 : decode cX8_nextDocument 51 = .ok (.invokevirtual 49, 3) := by decide +kernel
theorem dX8_nextDocument_54 : decode cX8_nextDocument 54 = .ok (.iadd, 1) := by decide +kernel
theorem dX8_nextDocument_55 : decode cX8_nextDocument 55 = .ok (.putfield 24, 3) := by decide +kernel
theorem dX8_nextDocument_58 : decode cX8_nextDocument 58 = .ok (.aload_n 0, 1) := by decide +kernel
theorem dX8_nextDocument_59 : decode cX8_nextDocument 59 = .ok (.aload_n 0, 1) := by decide +kernel
theorem dX8_nextDocument_60 : decode cX8_nextDocument 60 = .ok (.invokevirtual 49, 3) := by decide +kernel
theorem dX8_nextDocument_63 : decode cX8_nextDocument 63 = .ok (.putfield 27, 3) := by decide +kernel
theorem dX8_nextDocument_66 : decode cX8_nextDocument 66 = .ok (.aload_n 0, 1) := by decide +kernel
theorem dX8_nextDocument_67 : decode cX8_nextDocument 67 = .ok (.aload_n 0, 1) := by decide +kernel
theorem dX8_nextDocument_68 : decode cX8_nextDocument 68 = .ok (.getfield 27, 3) := by decide +kernel
theorem dX8_nextDocument_71 : decode cX8_nextDocument 71 = .ok (.putfield 30, 3) := by decide +kernel
theorem dX8_nextDocument_74 : decode cX8_nextDocument 74 = .ok (.aload_n 0, 1) := by decide +kernel
theorem dX8_nextDocument_75 : decode cX8_nextDocument 75 = .ok (.iconst (-1), 1) := by decide +kernel
theorem dX8_nextDocument_76 : decode cX8_nextDocument 76 = .ok (.putfield 33, 3) := by decide +kernel
theorem dX8_nextDocument_79 : decode cX8_nextDocument 79 = .ok (.iconst 1, 1) := by decide +kernel
theorem dX8_nextDocument_80 : decode cX8_nextDocument 80 = .ok (.ireturn, 1) := by decide +kernel
theorem dX8_reaches_0 : decode cX8_reaches 0 = .ok (.iconst 0, 1) := by decide +kernel
theorem dX8_reaches_1 : decode cX8_reaches 1 = .ok (.istore_n 2, 1) := by decide +kernel
theorem dX8_reaches_2 : decode cX8_reaches 2 = .ok (.iload_n 2, 1) := by decide +kernel
theorem dX8_reaches_3 : decode cX8_reaches 3 = .ok (.bipush 120, 2) := by decide +kernel
theorem dX8_reaches_5 : decode cX8_reaches 5 = .ok (.if_icmp .ge 22, 3) := by decide +kernel
theorem dX8_reaches_8 : decode cX8_reaches 8 = .ok (.aload_n 0, 1) := by decide +kernel
theorem dX8_reaches_9 : decode cX8_reaches 9 = .ok (.getfield 24, 3) := by decide +kernel
theorem dX8_reaches_12 : decode cX8_reaches 12 = .ok (.iload_n 1, 1) := by decide +kernel
theorem dX8_reaches_13 : decode cX8_reaches 13 = .ok (.if_icmp .ge 14, 3) := by decide +kernel
theorem dX8_reaches_16 : decode cX8_reaches 16 = .ok (.aload_n 0, 1) := by decide +kernel
theorem dX8_reaches_17 : decode cX8_reaches 17 = .ok (.invokevirtual 53, 3) := by decide +kernel
theorem dX8_reaches_20 : decode cX8_reaches 20 = .ok (.pop, 1) := by decide +kernel
theorem dX8_reaches_21 : decode cX8_reaches 21 = .ok (.iinc 2 1, 3) := by decide +kernel
theorem dX8_reaches_24 : decode cX8_reaches 24 = .ok (.goto (-22), 3) := by decide +kernel
theorem dX8_reaches_27 : decode cX8_reaches 27 = .ok (.aload_n 0, 1) := by decide +kernel
theorem dX8_reaches_28 : decode cX8_reaches 28 = .ok (.getfield 24, 3) := by decide +kernel
