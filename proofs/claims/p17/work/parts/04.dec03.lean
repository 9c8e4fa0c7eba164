theorem dX4_readMarks_24 : decode cX4_readMarks 24 = .ok (.invokevirtual 158, 3) := by decide +kernel
theorem dX4_readMarks_27 : decode cX4_readMarks 27 = .ok (.istore_n 2, 1) := by decide +kernel
theorem dX4_readMarks_28 : decode cX4_readMarks 28 = .ok (.aload_n 0, 1) := by decide +kernel
theorem dX4_readMarks_29 : decode cX4_readMarks 29 = .ok (.bipush 93, 2) := by decide +kernel
theorem dX4_readMarks_31 : decode cX4_readMarks 31 = .ok (.invokevirtual 151, 3) := by decide +kernel
theorem dX4_readMarks_34 : decode cX4_readMarks 34 = .ok (.aload_n 0, 1) := by decide +kernel
theorem dX4_readMarks_35 : decode cX4_readMarks 35 = .ok (.getfield 48, 3) := by decide +kernel
theorem dX4_readMarks_38 : decode cX4_readMarks 38 = .ok (.iconst 4, 1) := by decide +kernel
theorem dX4_readMarks_39 : decode cX4_readMarks 39 = .ok (.iload_n 1, 1) := by decide +kernel
theorem dX4_readMarks_40 : decode cX4_readMarks 40 = .ok (.iload_n 2, 1) := by decide +kernel
theorem dX4_readMarks_41 : decode cX4_readMarks 41 = .ok (.iconst 0, 1) := by decide +kernel
theorem dX4_readMarks_42 : decode cX4_readMarks 42 = .ok (.iconst 0, 1) := by decide +kernel
theorem dX4_readMarks_43 : decode cX4_readMarks 43 = .ok (.invokevirtual 161, 3) := by decide +kernel
theorem dX4_readMarks_46 : decode cX4_readMarks 46 = .ok (.aload_n 0, 1) := by decide +kernel
theorem dX4_readMarks_47 : decode cX4_readMarks 47 = .ok (.iconst 0, 1) := by decide +kernel
theorem dX4_readMarks_48 : decode cX4_readMarks 48 = .ok (.putfield 27, 3) := by decide +kernel
theorem dX4_readMarks_51 : decode cX4_readMarks 51 = .ok (.return_, 1) := by decide +kernel
theorem dX4_testLeafRoom_0 : decode cX4_testLeafRoom 0 = .ok (.aload_n 0, 1) := by decide +kernel
theorem dX4_testLeafRoom_1 : decode cX4_testLeafRoom 1 = .ok (.getfield 48, 3) := by decide +kernel
theorem dX4_testLeafRoom_4 : decode cX4_testLeafRoom 4 = .ok (.invokevirtual 165, 3) := by decide +kernel
theorem dX4_testLeafRoom_7 : decode cX4_testLeafRoom 7 = .ok (.bipush 40, 2) := by decide +kernel
theorem dX4_testLeafRoom_9 : decode cX4_testLeafRoom 9 = .ok (.if_icmp .lt 12, 3) := by decide +kernel
theorem dX4_testLeafRoom_12 : decode cX4_testLeafRoom 12 = .ok (.aload_n 0, 1) := by decide +kernel
theorem dX4_testLeafRoom_13 : decode cX4_testLeafRoom 13 = .ok (.iconst 3, 1) := by decide +kernel
theorem dX4_testLeafRoom_14 : decode cX4_testLeafRoom 14 = .ok (.aload_n 0, 1) := by decide +kernel
theorem dX4_testLeafRoom_15 : decode cX4_testLeafRoom 15 = .ok (.getfield 15, 3) := by decide +kernel
theorem dX4_testLeafRoom_18 : decode cX4_testLeafRoom 18 = .ok (.invokevirtual 66, 3) := by decide +kernel
theorem dX4_testLeafRoom_21 : decode cX4_testLeafRoom 21 = .ok (.return_, 1) := by decide +kernel
theorem dX4_readInt_0 : decode cX4_readInt 0 = .ok (.aload_n 0, 1) := by decide +kernel
theorem dX4_readInt_1 : decode cX4_readInt 1 = .ok (.getfield 11, 3) := by decide +kernel
theorem dX4_readInt_4 : decode cX4_readInt 4 = .ok (.bipush 45, 2) := by decide +kernel
theorem dX4_readInt_6 : decode cX4_readInt 6 = .ok (.if_icmp .ne 7, 3) := by decide +kernel
theorem dX4_readInt_9 : decode cX4_readInt 9 = .ok (.iconst 1, 1) := by decide +kernel
theorem dX4_readInt_10 : decode cX4_readInt 10 = .ok (.goto 4, 3) := by decide +kernel
theorem dX4_readInt_13 : decode cX4_readInt 13 = .ok (.iconst 0, 1) := by decide +kernel
theorem dX4_readInt_14 : decode cX4_readInt 14 = .ok (.istore_n 2, 1) := by decide +kernel
theorem dX4_readInt_15 : decode cX4_readInt 15 = .ok (.iload_n 2, 1) := by decide +kernel
theorem dX4_readInt_16 : decode cX4_readInt 16 = .ok (.ifCond .eq 10, 3) := by decide +kernel
theorem dX4_readInt_19 : decode cX4_readInt 19 = .ok (.aload_n 0, 1) := by decide +kernel
theorem dX4_readInt_20 : decode cX4_readInt 20 = .ok (.getfield 18, 3) := by decide +kernel
theorem dX4_readInt_23 : decode cX4_readInt 23 = .ok (.goto 7, 3) := by decide +kernel
theorem dX4_readInt_26 : decode cX4_readInt 26 = .ok (.aload_n 0, 1) := by decide +kernel
theorem dX4_readInt_27 : decode cX4_readInt 27 = .ok (.getfield 15, 3) := by decide +kernel
theorem dX4_readInt_30 : decode cX4_readInt 30 = .ok (.istore_n 3, 1) := by decide +kernel
theorem dX4_readInt_31 : decode cX4_readInt 31 = .ok (.aload_n 0, 1) := by decide +kernel
theorem dX4_readInt_32 : decode cX4_readInt 32 = .ok (.getfield 37, 3) := by decide +kernel
theorem dX4_readInt_35 : decode cX4_readInt 35 = .ok (.iload_n 3, 1) := by decide +kernel
theorem dX4_readInt_36 : decode cX4_readInt 36 = .ok (.invokevirtual 83, 3) := by decide +kernel
theorem dX4_readInt_39 : decode cX4_readInt 39 = .ok (.istore 4, 2) := by decide +kernel
theorem dX4_readInt_41 : decode cX4_readInt 41 = .ok (.iload_n 2, 1) := by decide +kernel
theorem dX4_readInt_42 : decode cX4_readInt 42 = .ok (.ifCond .ne 13, 3) := by decide +kernel
theorem dX4_readInt_45 : decode cX4_readInt 45 = .ok (.aload_n 0, 1) := by decide +kernel
theorem dX4_readInt_46 : decode cX4_readInt 46 = .ok (.getfield 11, 3) := by decide +kernel
theorem dX4_readInt_49 : decode cX4_readInt 49 = .ok (.sipush 257, 3) := by decide +kernel
theorem dX4_readInt_52 : decode cX4_readInt 52 = .ok (.if_icmp .ne 18, 3) := by decide +kernel
theorem dX4_readInt_55 : decode cX4_readInt 55 = .ok (.aload_n 0, 1) := by decide +kernel
theorem dX4_readInt_56 : decode cX4_readInt 56 = .ok (.getfield 37, 3) := by decide +kernel
theorem dX4_readInt_59 : decode cX4_readInt 59 = .ok (.iload_n 3, 1) := by decide +kernel
theorem dX4_readInt_60 : decode cX4_readInt 60 = .ok (.iload 4, 2) := by decide +kernel
theorem dX4_readInt_62 : decode cX4_readInt 62 = .ok (.bipush 9, 2) := by decide +kernel
theorem dX4_readInt_64 : decode cX4_readInt 64 = .ok (.invokevirtual 131, 3) := by decide +kernel
theorem dX4_readInt_67 : decode cX4_readInt 67 = .ok (.goto 4, 3) := by decide +kernel
theorem dX4_readInt_70 : decode cX4_readInt 70 = .ok (.iconst (-1), 1) := by decide +kernel
theorem dX4_readInt_71 : decode cX4_readInt 71 = .ok (.istore 5, 2) := by decide +kernel
theorem dX4_readInt_73 : decode cX4_readInt 73 = .ok (.iload 5, 2) := by decide +kernel
theorem dX4_readInt_75 : decode cX4_readInt 75 = .ok (.iconst (-1), 1) := by decide +kernel
theorem dX4_readInt_76 : decode cX4_readInt 76 = .ok (.if_icmp .ne 14, 3) := by decide +kernel
theorem dX4_readInt_79 : decode cX4_readInt 79 = .ok (.aload_n 0, 1) := by decide +kernel
theorem dX4_readInt_80 : decode cX4_readInt 80 = .ok (.iconst 1, 1) := by decide +kernel
theorem dX4_readInt_81 : decode cX4_readInt 81 = .ok (.aload_n 0, 1) := by decide +kernel
theorem dX4_readInt_82 : decode cX4_readInt 82 = .ok (.getfield 15, 3) := by decide +kernel
theorem dX4_readInt_85 : decode cX4_readInt 85 = .ok (.invokevirtual 66, 3) := by decide +kernel
theorem dX4_readInt_88 : decode cX4_readInt 88 = .ok (.iconst 0, 1) := by decide +kernel
theorem dX4_readInt_89 : decode cX4_readInt 89 = .ok (.ireturn, 1) := by decide +kernel
theorem dX4_readInt_90 : decode cX4_readInt 90 = .ok (.iload_n 2, 1) := by decide +kernel
theorem dX4_readInt_91 : decode cX4_readInt 91 = .ok (.ifCond .eq 9, 3) := by decide +kernel
theorem dX4_readInt_94 : decode cX4_readInt 94 = .ok (.iload 5, 2) := by decide +kernel
theorem dX4_readInt_96 : decode cX4_readInt 96 = .ok (.ineg, 1) := by decide +kernel
theorem dX4_readInt_97 : decode cX4_readInt 97 = .ok (.goto 5, 3) := by decide +kernel
theorem dX4_readInt_100 : decode cX4_readInt 100 = .ok (.iload 5, 2) := by decide +kernel
theorem dX4_readInt_102 : decode cX4_readInt 102 = .ok (.istore 5, 2) := by decide +kernel
theorem dX4_readInt_104 : decode cX4_readInt 104 = .ok (.iload 5, 2) := by decide +kernel
theorem dX4_readInt_106 : decode cX4_readInt 106 = .ok (.iload_n 1, 1) := by decide +kernel
theorem dX4_readInt_107 : decode cX4_readInt 107 = .ok (.if_icmp .ge 12, 3) := by decide +kernel
theorem dX4_readInt_110 : decode cX4_readInt 110 = .ok (.aload_n 0, 1) := by decide +kernel
theorem dX4_readInt_111 : decode cX4_readInt 111 = .ok (.iconst 2, 1) := by decide +kernel
theorem dX4_readInt_112 : decode cX4_readInt 112 = .ok (.aload_n 0, 1) := by decide +kernel
theorem dX4_readInt_113 : decode cX4_readInt 113 = .ok (.getfield 15, 3) := by decide +kernel
theorem dX4_readInt_116 : decode cX4_readInt 116 = .ok (.invokevirtual 66, 3) := by decide +kernel
theorem dX4_readInt_119 : decode cX4_readInt 119 = .ok (.aload_n 0, 1) := by decide +kernel
theorem dX4_readInt_120 : decode cX4_readInt 120 = .ok (.iload 4, 2) := by decide +kernel
theorem dX4_readInt_122 : decode cX4_readInt 122 = .ok (.putfield 18, 3) := by decide +kernel
theorem dX4_readInt_125 : decode cX4_readInt 125 = .ok (.aload_n 0, 1) := by decide +kernel
theorem dX4_readInt_126 : decode cX4_readInt 126 = .ok (.invokevirtual 57, 3) := by decide +kernel
theorem dX4_readInt_129 : decode cX4_readInt 129 = .ok (.iload 5, 2) := by decide +kernel
theorem dX4_readInt_131 : decode cX4_readInt 131 = .ok (.ireturn, 1) := by decide +kernel
theorem dX4_readToken_0 : decode cX4_readToken 0 = .ok (.aload_n 0, 1) := by decide +kernel
theorem dX4_readToken_1 : decode cX4_readToken 1 = .ok (.invokevirtual 154, 3) := by decide +kernel
theorem dX4_readToken_4 : decode cX4_readToken 4 = .ok (.aload_n 0, 1) := by decide +kernel
theorem dX4_readToken_5 : decode cX4_readToken 5 = .ok (.getfield 15, 3) := by decide +kernel
theorem dX4_readToken_8 : decode cX4_readToken 8 = .ok (.istore_n 2, 1) := by decide +kernel
theorem dX4_readToken_9 : decode cX4_readToken 9 = .ok (.aload_n 0, 1) := by decide +kernel
theorem dX4_readToken_10 : decode cX4_readToken 10 = .ok (.invokevirtual 57, 3) := by decide +kernel
theorem dX4_readToken_13 : decode cX4_readToken 13 = .ok (.aload_n 0, 1) := by decide +kernel
theorem dX4_readToken_14 : decode cX4_readToken 14 = .ok (.aload_n 0, 1) := by decide +kernel
theorem dX4_readToken_15 : decode cX4_readToken 15 = .ok (.getfield 11, 3) := by decide +kernel
theorem dX4_readToken_18 : decode cX4_readToken 18 = .ok (.bipush 42, 2) := by decide +kernel
theorem dX4_readToken_20 : decode cX4_readToken 20 = .ok (.if_icmp .eq 7, 3) := by decide +kernel
theorem dX4_readToken_23 : decode cX4_readToken 23 = .ok (.iconst 1, 1) := by decide +kernel
theorem dX4_readToken_24 : decode cX4_readToken 24 = .ok (.goto 4, 3) := by decide +kernel
theorem dX4_readToken_27 : decode cX4_readToken 27 = .ok (.iconst 0, 1) := by decide +kernel
theorem dX4_readToken_28 : decode cX4_readToken 28 = .ok (.putfield 27, 3) := by decide +kernel
theorem dX4_readToken_31 : decode cX4_readToken 31 = .ok (.aload_n 0, 1) := by decide +kernel
theorem dX4_readToken_32 : decode cX4_readToken 32 = .ok (.getfield 27, 3) := by decide +kernel
theorem dX4_readToken_35 : decode cX4_readToken 35 = .ok (.ifCond .eq 37, 3) := by decide +kernel
theorem dX4_readToken_38 : decode cX4_readToken 38 = .ok (.aload_n 0, 1) := by decide +kernel
theorem dX4_readToken_39 : decode cX4_readToken 39 = .ok (.iload_n 2, 1) := by decide +kernel
theorem dX4_readToken_40 : decode cX4_readToken 40 = .ok (.invokevirtual 168, 3) := by decide +kernel
theorem dX4_readToken_43 : decode cX4_readToken 43 = .ok (.istore_n 3, 1) := by decide +kernel
theorem dX4_readToken_44 : decode cX4_readToken 44 = .ok (.aload_n 0, 1) := by decide +kernel
theorem dX4_readToken_45 : decode cX4_readToken 45 = .ok (.getfield 48, 3) := by decide +kernel
theorem dX4_readToken_48 : decode cX4_readToken 48 = .ok (.iconst 1, 1) := by decide +kernel
theorem dX4_readToken_49 : decode cX4_readToken 49 = .ok (.iload_n 3, 1) := by decide +kernel
theorem dX4_readToken_50 : decode cX4_readToken 50 = .ok (.iload_n 3, 1) := by decide +kernel
theorem dX4_readToken_51 : decode cX4_readToken 51 = .ok (.iconst 1, 1) := by decide +kernel
theorem dX4_readToken_52 : decode cX4_readToken 52 = .ok (.iadd, 1) := by decide +kernel
theorem dX4_readToken_53 : decode cX4_readToken 53 = .ok (.iload_n 1, 1) := by decide +kernel
theorem dX4_readToken_54 : decode cX4_readToken 54 = .ok (.aload_n 0, 1) := by decide +kernel
theorem dX4_readToken_55 : decode cX4_readToken 55 = .ok (.getfield 31, 3) := by decide +kernel
theorem dX4_readToken_58 : decode cX4_readToken 58 = .ok (.ifCond .ne 7, 3) := by decide +kernel
theorem dX4_readToken_61 : decode cX4_readToken 61 = .ok (.iconst 1, 1) := by decide +kernel
theorem dX4_readToken_62 : decode cX4_readToken 62 = .ok (.goto 4, 3) := by decide +kernel
theorem dX4_readToken_65 : decode cX4_readToken 65 = .ok (.iconst 0, 1) := by decide +kernel
theorem dX4_readToken_66 : decode cX4_readToken 66 = .ok (.invokevirtual 161, 3) := by decide +kernel
theorem dX4_readToken_69 : decode cX4_readToken 69 = .ok (.goto 67, 3) := by decide +kernel
theorem dX4_readToken_72 : decode cX4_readToken 72 = .ok (.aload_n 0, 1) := by decide +kernel
theorem dX4_readToken_73 : decode cX4_readToken 73 = .ok (.getfield 37, 3) := by decide +kernel
theorem dX4_readToken_76 : decode cX4_readToken 76 = .ok (.iload_n 2, 1) := by decide +kernel
theorem dX4_readToken_77 : decode cX4_readToken 77 = .ok (.invokevirtual 171, 3) := by decide +kernel
theorem dX4_readToken_80 : decode cX4_readToken 80 = .ok (.lstore_n 3, 1) := by decide +kernel
theorem dX4_readToken_81 : decode cX4_readToken 81 = .ok (.lload_n 3, 1) := by decide +kernel
theorem dX4_readToken_82 : decode cX4_readToken 82 = .ok (.aload_n 0, 1) := by decide +kernel
theorem dX4_readToken_83 : decode cX4_readToken 83 = .ok (.getfield 37, 3) := by decide +kernel
theorem dX4_readToken_86 : decode cX4_readToken 86 = .ok (.invokevirtual 175, 3) := by decide +kernel
theorem dX4_readToken_89 : decode cX4_readToken 89 = .ok (.invokestatic 178, 3) := by decide +kernel
theorem dX4_readToken_92 : decode cX4_readToken 92 = .ok (.lstore 5, 2) := by decide +kernel
theorem dX4_readToken_94 : decode cX4_readToken 94 = .ok (.aload_n 0, 1) := by decide +kernel
theorem dX4_readToken_95 : decode cX4_readToken 95 = .ok (.getfield 48, 3) := by decide +kernel
theorem dX4_readToken_98 : decode cX4_readToken 98 = .ok (.iconst 2, 1) := by decide +kernel
theorem dX4_readToken_99 : decode cX4_readToken 99 = .ok (.aload_n 0, 1) := by decide +kernel
theorem dX4_readToken_100 : decode cX4_readToken 100 = .ok (.getfield 41, 3) := by decide +kernel
theorem dX4_readToken_103 : decode cX4_readToken 103 = .ok (.lload_n 3, 1) := by decide +kernel
theorem dX4_readToken_104 : decode cX4_readToken 104 = .ok (.invokevirtual 184, 3) := by decide +kernel
theorem dX4_readToken_107 : decode cX4_readToken 107 = .ok (.aload_n 0, 1) := by decide +kernel
theorem dX4_readToken_108 : decode cX4_readToken 108 = .ok (.getfield 41, 3) := by decide +kernel
theorem dX4_readToken_111 : decode cX4_readToken 111 = .ok (.lload 5, 2) := by decide +kernel
theorem dX4_readToken_113 : decode cX4_readToken 113 = .ok (.invokevirtual 184, 3) := by decide +kernel
theorem dX4_readToken_116 : decode cX4_readToken 116 = .ok (.iload_n 1, 1) := by decide +kernel
theorem dX4_readToken_117 : decode cX4_readToken 117 = .ok (.aload_n 0, 1) := by decide +kernel
theorem dX4_readToken_118 : decode cX4_readToken 118 = .ok (.getfield 31, 3) := by decide +kernel
theorem dX4_readToken_121 : decode cX4_readToken 121 = .ok (.ifCond .ne 7, 3) := by decide +kernel
theorem dX4_readToken_124 : decode cX4_readToken 124 = .ok (.iconst 1, 1) := by decide +kernel
theorem dX4_readToken_125 : decode cX4_readToken 125 = .ok (.goto 4, 3) := by decide +kernel
theorem dX4_readToken_128 : decode cX4_readToken 128 = .ok (.iconst 0, 1) := by decide +kernel
theorem dX4_readToken_129 : decode cX4_readToken 129 = .ok (.invokevirtual 161, 3) := by decide +kernel
theorem dX4_readToken_132 : decode cX4_readToken 132 = .ok (.aload_n 0, 1) := by decide +kernel
theorem dX4_readToken_133 : decode cX4_readToken 133 = .ok (.invokevirtual 57, 3) := by decide +kernel
theorem dX4_readToken_136 : decode cX4_readToken 136 = .ok (.return_, 1) := by decide +kernel
theorem dX4_readPhrase_0 : decode cX4_readPhrase 0 = .ok (.aload_n 0, 1) := by decide +kernel
theorem dX4_readPhrase_1 : decode cX4_readPhrase 1 = .ok (.invokevirtual 154, 3) := by decide +kernel
theorem dX4_readPhrase_4 : decode cX4_readPhrase 4 = .ok (.aload_n 0, 1) := by decide +kernel
theorem dX4_readPhrase_5 : decode cX4_readPhrase 5 = .ok (.invokevirtual 63, 3) := by decide +kernel
theorem dX4_readPhrase_8 : decode cX4_readPhrase 8 = .ok (.aload_n 0, 1) := by decide +kernel
theorem dX4_readPhrase_9 : decode cX4_readPhrase 9 = .ok (.getfield 48, 3) := by decide +kernel
theorem dX4_readPhrase_12 : decode cX4_readPhrase 12 = .ok (.invokevirtual 188, 3) := by decide +kernel
theorem dX4_readPhrase_15 : decode cX4_readPhrase 15 = .ok (.istore_n 2, 1) := by decide +kernel
theorem dX4_readPhrase_16 : decode cX4_readPhrase 16 = .ok (.aload_n 0, 1) := by decide +kernel
theorem dX4_readPhrase_17 : decode cX4_readPhrase 17 = .ok (.getfield 18, 3) := by decide +kernel
theorem dX4_readPhrase_20 : decode cX4_readPhrase 20 = .ok (.istore_n 3, 1) := by decide +kernel
theorem dX4_readPhrase_21 : decode cX4_readPhrase 21 = .ok (.iload_n 3, 1) := by decide +kernel
theorem dX4_readPhrase_22 : decode cX4_readPhrase 22 = .ok (.aload_n 0, 1) := by decide +kernel
theorem dX4_readPhrase_23 : decode cX4_readPhrase 23 = .ok (.getfield 37, 3) := by decide +kernel
theorem dX4_readPhrase_26 : decode cX4_readPhrase 26 = .ok (.invokevirtual 191, 3) := by decide +kernel
theorem dX4_readPhrase_29 : decode cX4_readPhrase 29 = .ok (.if_icmp .ge 95, 3) := by decide +kernel
theorem dX4_readPhrase_32 : decode cX4_readPhrase 32 = .ok (.aload_n 0, 1) := by decide +kernel
theorem dX4_readPhrase_33 : decode cX4_readPhrase 33 = .ok (.getfield 11, 3) := by decide +kernel
theorem dX4_readPhrase_36 : decode cX4_readPhrase 36 = .ok (.bipush 34, 2) := by decide +kernel
theorem dX4_readPhrase_38 : decode cX4_readPhrase 38 = .ok (.if_icmp .ne 86, 3) := by decide +kernel
theorem dX4_readPhrase_41 : decode cX4_readPhrase 41 = .ok (.aload_n 0, 1) := by decide +kernel
theorem dX4_readPhrase_42 : decode cX4_readPhrase 42 = .ok (.getfield 37, 3) := by decide +kernel
theorem dX4_readPhrase_45 : decode cX4_readPhrase 45 = .ok (.iload_n 3, 1) := by decide +kernel
theorem dX4_readPhrase_46 : decode cX4_readPhrase 46 = .ok (.invokevirtual 76, 3) := by decide +kernel
theorem dX4_readPhrase_49 : decode cX4_readPhrase 49 = .ok (.bipush 34, 2) := by decide +kernel
theorem dX4_readPhrase_51 : decode cX4_readPhrase 51 = .ok (.if_icmp .ne 11, 3) := by decide +kernel
theorem dX4_readPhrase_54 : decode cX4_readPhrase 54 = .ok (.aload_n 0, 1) := by decide +kernel
theorem dX4_readPhrase_55 : decode cX4_readPhrase 55 = .ok (.iload_n 2, 1) := by decide +kernel
theorem dX4_readPhrase_56 : decode cX4_readPhrase 56 = .ok (.iload_n 3, 1) := by decide +kernel
theorem dX4_readPhrase_57 : decode cX4_readPhrase 57 = .ok (.iload_n 1, 1) := by decide +kernel
theorem dX4_readPhrase_58 : decode cX4_readPhrase 58 = .ok (.invokevirtual 194, 3) := by decide +kernel
theorem dX4_readPhrase_61 : decode cX4_readPhrase 61 = .ok (.return_, 1) := by decide +kernel
theorem dX4_readPhrase_62 : decode cX4_readPhrase 62 = .ok (.aload_n 0, 1) := by decide +kernel
theorem dX4_readPhrase_63 : decode cX4_readPhrase 63 = .ok (.getfield 37, 3) := by decide +kernel
theorem dX4_readPhrase_66 : decode cX4_readPhrase 66 = .ok (.iload_n 3, 1) := by decide +kernel
theorem dX4_readPhrase_67 : decode cX4_readPhrase 67 = .ok (.invokevirtual 198, 3) := by decide +kernel
theorem dX4_readPhrase_70 : decode cX4_readPhrase 70 = .ok (.ifCond .eq 25, 3) := by decide +kernel
theorem dX4_readPhrase_73 : decode cX4_readPhrase 73 = .ok (.aload_n 0, 1) := by decide +kernel
theorem dX4_readPhrase_74 : decode cX4_readPhrase 74 = .ok (.getfield 48, 3) := by decide +kernel
theorem dX4_readPhrase_77 : decode cX4_readPhrase 77 = .ok (.invokevirtual 188, 3) := by decide +kernel
theorem dX4_readPhrase_80 : decode cX4_readPhrase 80 = .ok (.sipush 160, 3) := by decide +kernel
theorem dX4_readPhrase_83 : decode cX4_readPhrase 83 = .ok (.if_icmp .lt 12, 3) := by decide +kernel
theorem dX4_readPhrase_86 : decode cX4_readPhrase 86 = .ok (.aload_n 0, 1) := by decide +kernel
theorem dX4_readPhrase_87 : decode cX4_readPhrase 87 = .ok (.iconst 3, 1) := by decide +kernel
theorem dX4_readPhrase_88 : decode cX4_readPhrase 88 = .ok (.iload_n 3, 1) := by decide +kernel
theorem dX4_readPhrase_89 : decode cX4_readPhrase 89 = .ok (.invokevirtual 66, 3) := by decide +kernel
theorem dX4_readPhrase_92 : decode cX4_readPhrase 92 = .ok (.goto 26, 3) := by decide +kernel
theorem dX4_readPhrase_95 : decode cX4_readPhrase 95 = .ok (.aload_n 0, 1) := by decide +kernel
theorem dX4_readPhrase_96 : decode cX4_readPhrase 96 = .ok (.getfield 37, 3) := by decide +kernel
theorem dX4_readPhrase_99 : decode cX4_readPhrase 99 = .ok (.iload_n 3, 1) := by decide +kernel
theorem dX4_readPhrase_100 : decode cX4_readPhrase 100 = .ok (.invokevirtual 198, 3) := by decide +kernel
theorem dX4_readPhrase_103 : decode cX4_readPhrase 103 = .ok (.ifCond .eq 15, 3) := by decide +kernel
theorem dX4_readPhrase_106 : decode cX4_readPhrase 106 = .ok (.aload_n 0, 1) := by decide +kernel
theorem dX4_readPhrase_107 : decode cX4_readPhrase 107 = .ok (.getfield 48, 3) := by decide +kernel
theorem dX4_readPhrase_110 : decode cX4_readPhrase 110 = .ok (.aload_n 0, 1) := by decide +kernel
theorem dX4_readPhrase_111 : decode cX4_readPhrase 111 = .ok (.iload_n 3, 1) := by decide +kernel
theorem dX4_readPhrase_112 : decode cX4_readPhrase 112 = .ok (.invokevirtual 168, 3) := by decide +kernel
theorem dX4_readPhrase_115 : decode cX4_readPhrase 115 = .ok (.invokevirtual 201, 3) := by decide +kernel
theorem dX4_readPhrase_118 : decode cX4_readPhrase 118 = .ok (.iinc 3 1, 3) := by decide +kernel
theorem dX4_readPhrase_121 : decode cX4_readPhrase 121 = .ok (.goto (-100), 3) := by decide +kernel
theorem dX4_readPhrase_124 : decode cX4_readPhrase 124 = .ok (.aload_n 0, 1) := by decide +kernel
theorem dX4_readPhrase_125 : decode cX4_readPhrase 125 = .ok (.iconst 1, 1) := by decide +kernel
theorem dX4_readPhrase_126 : decode cX4_readPhrase 126 = .ok (.aload_n 0, 1) := by decide +kernel
theorem dX4_readPhrase_127 : decode cX4_readPhrase 127 = .ok (.getfield 37, 3) := by decide +kernel
theorem dX4_readPhrase_130 : decode cX4_readPhrase 130 = .ok (.invokevirtual 191, 3) := by decide +kernel
theorem dX4_readPhrase_133 : decode cX4_readPhrase 133 = .ok (.invokevirtual 66, 3) := by decide +kernel
theorem dX4_readPhrase_136 : decode cX4_readPhrase 136 = .ok (.return_, 1) := by decide +kernel
theorem dX4_closePhrase_0 : decode cX4_closePhrase 0 = .ok (.aload_n 0, 1) := by decide +kernel
theorem dX4_closePhrase_1 : decode cX4_closePhrase 1 = .ok (.getfield 48, 3) := by decide +kernel
theorem dX4_closePhrase_4 : decode cX4_closePhrase 4 = .ok (.invokevirtual 188, 3) := by decide +kernel
theorem dX4_closePhrase_7 : decode cX4_closePhrase 7 = .ok (.iload_n 1, 1) := by decide +kernel
theorem dX4_closePhrase_8 : decode cX4_closePhrase 8 = .ok (.if_icmp .ne 9, 3) := by decide +kernel
theorem dX4_closePhrase_11 : decode cX4_closePhrase 11 = .ok (.aload_n 0, 1) := by decide +kernel
theorem dX4_closePhrase_12 : decode cX4_closePhrase 12 = .ok (.iconst 1, 1) := by decide +kernel
theorem dX4_closePhrase_13 : decode cX4_closePhrase 13 = .ok (.iload_n 2, 1) := by decide +kernel
theorem dX4_closePhrase_14 : decode cX4_closePhrase 14 = .ok (.invokevirtual 66, 3) := by decide +kernel
theorem dX4_closePhrase_17 : decode cX4_closePhrase 17 = .ok (.aload_n 0, 1) := by decide +kernel
theorem dX4_closePhrase_18 : decode cX4_closePhrase 18 = .ok (.getfield 48, 3) := by decide +kernel
theorem dX4_closePhrase_21 : decode cX4_closePhrase 21 = .ok (.iconst 3, 1) := by decide +kernel
theorem dX4_closePhrase_22 : decode cX4_closePhrase 22 = .ok (.iload_n 1, 1) := by decide +kernel
theorem dX4_closePhrase_23 : decode cX4_closePhrase 23 = .ok (.aload_n 0, 1) := by decide +kernel
theorem dX4_closePhrase_24 : decode cX4_closePhrase 24 = .ok (.getfield 48, 3) := by decide +kernel
theorem dX4_closePhrase_27 : decode cX4_closePhrase 27 = .ok (.invokevirtual 188, 3) := by decide +kernel
theorem dX4_closePhrase_30 : decode cX4_closePhrase 30 = .ok (.iload_n 3, 1) := by decide +kernel
theorem dX4_closePhrase_31 : decode cX4_closePhrase 31 = .ok (.aload_n 0, 1) := by decide +kernel
theorem dX4_closePhrase_32 : decode cX4_closePhrase 32 = .ok (.getfield 31, 3) := by decide +kernel
theorem dX4_closePhrase_35 : decode cX4_closePhrase 35 = .ok (.ifCond .ne 7, 3) := by decide +kernel
theorem dX4_closePhrase_38 : decode cX4_closePhrase 38 = .ok (.iconst 1, 1) := by decide +kernel
theorem dX4_closePhrase_39 : decode cX4_closePhrase 39 = .ok (.goto 4, 3) := by decide +kernel
theorem dX4_closePhrase_42 : decode cX4_closePhrase 42 = .ok (.iconst 0, 1) := by decide +kernel
theorem dX4_closePhrase_43 : decode cX4_closePhrase 43 = .ok (.invokevirtual 161, 3) := by decide +kernel
theorem dX4_closePhrase_46 : decode cX4_closePhrase 46 = .ok (.aload_n 0, 1) := by decide +kernel
theorem dX4_closePhrase_47 : decode cX4_closePhrase 47 = .ok (.iconst 0, 1) := by decide +kernel
theorem dX4_closePhrase_48 : decode cX4_closePhrase 48 = .ok (.putfield 27, 3) := by decide +kernel
theorem dX4_closePhrase_51 : decode cX4_closePhrase 51 = .ok (.aload_n 0, 1) := by decide +kernel
theorem dX4_closePhrase_52 : decode cX4_closePhrase 52 = .ok (.iload_n 2, 1) := by decide +kernel
theorem dX4_closePhrase_53 : decode cX4_closePhrase 53 = .ok (.iconst 1, 1) := by decide +kernel
theorem dX4_closePhrase_54 : decode cX4_closePhrase 54 = .ok (.iadd, 1) := by decide +kernel
theorem dX4_closePhrase_55 : decode cX4_closePhrase 55 = .ok (.putfield 18, 3) := by decide +kernel
theorem dX4_closePhrase_58 : decode cX4_closePhrase 58 = .ok (.aload_n 0, 1) := by decide +kernel
theorem dX4_closePhrase_59 : decode cX4_closePhrase 59 = .ok (.invokevirtual 57, 3) := by decide +kernel
theorem dX4_closePhrase_62 : decode cX4_closePhrase 62 = .ok (.return_, 1) := by decide +kernel
theorem dX4_wantedWord_0 : decode cX4_wantedWord 0 = .ok (.aload_n 0, 1) := by decide +kernel
theorem dX4_wantedWord_1 : decode cX4_wantedWord 1 = .ok (.getfield 37, 3) := by decide +kernel
theorem dX4_wantedWord_4 : decode cX4_wantedWord 4 = .ok (.iload_n 1, 1) := by decide +kernel
theorem dX4_wantedWord_5 : decode cX4_wantedWord 5 = .ok (.invokevirtual 204, 3) := by decide +kernel
theorem dX4_wantedWord_8 : decode cX4_wantedWord 8 = .ok (.lstore_n 2, 1) := by decide +kernel
theorem dX4_wantedWord_9 : decode cX4_wantedWord 9 = .ok (.aload_n 0, 1) := by decide +kernel
theorem dX4_wantedWord_10 : decode cX4_wantedWord 10 = .ok (.getfield 45, 3) := by decide +kernel
theorem dX4_wantedWord_13 : decode cX4_wantedWord 13 = .ok (.lload_n 2, 1) := by decide +kernel
theorem dX4_wantedWord_14 : decode cX4_wantedWord 14 = .ok (.invokevirtual 207, 3) := by decide +kernel
theorem dX4_wantedWord_17 : decode cX4_wantedWord 17 = .ok (.iconst (-1), 1) := by decide +kernel
theorem dX4_wantedWord_18 : decode cX4_wantedWord 18 = .ok (.if_icmp .eq 6, 3) := by decide +kernel
theorem dX4_wantedWord_21 : decode cX4_wantedWord 21 = .ok (.bipush (-2), 2) := by decide +kernel
theorem dX4_wantedWord_23 : decode cX4_wantedWord 23 = .ok (.ireturn, 1) := by decide +kernel
theorem dX4_wantedWord_24 : decode cX4_wantedWord 24 = .ok (.aload_n 0, 1) := by decide +kernel
theorem dX4_wantedWord_25 : decode cX4_wantedWord 25 = .ok (.getfield 41, 3) := by decide +kernel
theorem dX4_wantedWord_28 : decode cX4_wantedWord 28 = .ok (.lload_n 2, 1) := by decide +kernel
theorem dX4_wantedWord_29 : decode cX4_wantedWord 29 = .ok (.invokevirtual 207, 3) := by decide +kernel
theorem dX4_wantedWord_32 : decode cX4_wantedWord 32 = .ok (.istore 4, 2) := by decide +kernel
theorem dX4_wantedWord_34 : decode cX4_wantedWord 34 = .ok (.iload 4, 2) := by decide +kernel
theorem dX4_wantedWord_36 : decode cX4_wantedWord 36 = .ok (.iconst (-1), 1) := by decide +kernel
theorem dX4_wantedWord_37 : decode cX4_wantedWord 37 = .ok (.if_icmp .ne 8, 3) := by decide +kernel
theorem dX4_wantedWord_40 : decode cX4_wantedWord 40 = .ok (.bipush (-3), 2) := by decide +kernel
theorem dX4_wantedWord_42 : decode cX4_wantedWord 42 = .ok (.goto 5, 3) := by decide +kernel
theorem dX4_wantedWord_45 : decode cX4_wantedWord 45 = .ok (.iload 4, 2) := by decide +kernel
theorem dX4_wantedWord_47 : decode cX4_wantedWord 47 = .ok (.ireturn, 1) := by decide +kernel
theorem dX5_init_0 : decode cX5_init 0 = .ok (.aload_n 0, 1) := by decide +kernel
theorem dX5_init_1 : decode cX5_init 1 = .ok (.invokespecial 3, 3) := by decide +kernel
theorem dX5_init_4 : decode cX5_init 4 = .ok (.aload_n 0, 1) := by decide +kernel
theorem dX5_init_5 : decode cX5_init 5 = .ok (.bipush 26, 2) := by decide +kernel
theorem dX5_init_7 : decode cX5_init 7 = .ok (.newarray .int, 2) := by decide +kernel
theorem dX5_init_9 : decode cX5_init 9 = .ok (.putfield 11, 3) := by decide +kernel
theorem dX5_init_12 : decode cX5_init 12 = .ok (.return_, 1) := by decide +kernel
theorem dX5_clear_0 : decode cX5_clear 0 = .ok (.aload_n 0, 1) := by decide +kernel
theorem dX5_clear_1 : decode cX5_clear 1 = .ok (.getfield 11, 3) := by decide +kernel
theorem dX5_clear_4 : decode cX5_clear 4 = .ok (.iconst 0, 1) := by decide +kernel
theorem dX5_clear_5 : decode cX5_clear 5 = .ok (.invokestatic 15, 3) := by decide +kernel
theorem dX5_clear_8 : decode cX5_clear 8 = .ok (.return_, 1) := by decide +kernel
theorem dX5_clearTitle_0 : decode cX5_clearTitle 0 = .ok (.iconst 0, 1) := by decide +kernel
theorem dX5_clearTitle_1 : decode cX5_clearTitle 1 = .ok (.istore_n 1, 1) := by decide +kernel
theorem dX5_clearTitle_2 : decode cX5_clearTitle 2 = .ok (.iload_n 1, 1) := by decide +kernel
theorem dX5_clearTitle_3 : decode cX5_clearTitle 3 = .ok (.bipush 16, 2) := by decide +kernel
theorem dX5_clearTitle_5 : decode cX5_clearTitle 5 = .ok (.if_icmp .ge 16, 3) := by decide +kernel
theorem dX5_clearTitle_8 : decode cX5_clearTitle 8 = .ok (.aload_n 0, 1) := by decide +kernel
theorem dX5_clearTitle_9 : decode cX5_clearTitle 9 = .ok (.getfield 11, 3) := by decide +kernel
theorem dX5_clearTitle_12 : decode cX5_clearTitle 12 = .ok (.iload_n 1, 1) := by decide +kernel
theorem dX5_clearTitle_13 : decode cX5_clearTitle 13 = .ok (.iconst 0, 1) := by decide +kernel
theorem dX5_clearTitle_14 : decode cX5_clearTitle 14 = .ok (.iastore, 1) := by decide +kernel
theorem dX5_clearTitle_15 : decode cX5_clearTitle 15 = .ok (.iinc 1 1, 3) := by decide +kernel
theorem dX5_clearTitle_18 : decode cX5_clearTitle 18 = .ok (.goto (-16), 3) := by decide +kernel
theorem dX5_clearTitle_21 : decode cX5_clearTitle 21 = .ok (.return_, 1) := by decide +kernel
theorem dX5_clearBody_0 : decode cX5_clearBody 0 = .ok (.bipush 16, 2) := by decide +kernel
theorem dX5_clearBody_2 : decode cX5_clearBody 2 = .ok (.istore_n 1, 1) := by decide +kernel
theorem dX5_clearBody_3 : decode cX5_clearBody 3 = .ok (.iload_n 1, 1) := by decide +kernel
theorem dX5_clearBody_4 : decode cX5_clearBody 4 = .ok (.bipush 26, 2) := by decide +kernel
theorem dX5_clearBody_6 : decode cX5_clearBody 6 = .ok (.if_icmp .ge 16, 3) := by decide +kernel
theorem dX5_clearBody_9 : decode cX5_clearBody 9 = .ok (.aload_n 0, 1) := by decide +kernel
theorem dX5_clearBody_10 : decode cX5_clearBody 10 = .ok (.getfield 11, 3) := by decide +kernel
theorem dX5_clearBody_13 : decode cX5_clearBody 13 = .ok (.iload_n 1, 1) := by decide +kernel
theorem dX5_clearBody_14 : decode cX5_clearBody 14 = .ok (.iconst 0, 1) := by decide +kernel
theorem dX5_clearBody_15 : decode cX5_clearBody 15 = .ok (.iastore, 1) := by decide +kernel
theorem dX5_clearBody_16 : decode cX5_clearBody 16 = .ok (.iinc 1 1, 3) := by decide +kernel
theorem dX5_clearBody_19 : decode cX5_clearBody 19 = .ok (.goto (-16), 3) := by decide +kernel
theorem dX5_clearBody_22 : decode cX5_clearBody 22 = .ok (.return_, 1) := by decide +kernel
theorem dX5_put_0 : decode cX5_put 0 = .ok (.iload_n 1, 1) := by decide +kernel
theorem dX5_put_1 : decode cX5_put 1 = .ok (.ifCond .lt 28, 3) := by decide +kernel
theorem dX5_put_4 : decode cX5_put 4 = .ok (.iload_n 1, 1) := by decide +kernel
theorem dX5_put_5 : decode cX5_put 5 = .ok (.sipush 832, 3) := by decide +kernel
theorem dX5_put_8 : decode cX5_put 8 = .ok (.if_icmp .ge 21, 3) := by decide +kernel
theorem dX5_put_11 : decode cX5_put 11 = .ok (.aload_n 0, 1) := by decide +kernel
theorem dX5_put_12 : decode cX5_put 12 = .ok (.getfield 11, 3) := by decide +kernel
theorem dX5_put_15 : decode cX5_put 15 = .ok (.iload_n 1, 1) := by decide +kernel
theorem dX5_put_16 : decode cX5_put 16 = .ok (.bipush 32, 2) := by decide +kernel
theorem dX5_put_18 : decode cX5_put 18 = .ok (.idiv, 1) := by decide +kernel
theorem dX5_put_19 : decode cX5_put 19 = .ok (.dup2, 1) := by decide +kernel
theorem dX5_put_20 : decode cX5_put 20 = .ok (.iaload, 1) := by decide +kernel
theorem dX5_put_21 : decode cX5_put 21 = .ok (.iconst 1, 1) := by decide +kernel
theorem dX5_put_22 : decode cX5_put 22 = .ok (.iload_n 1, 1) := by decide +kernel
theorem dX5_put_23 : decode cX5_put 23 = .ok (.bipush 32, 2) := by decide +kernel
theorem dX5_put_25 : decode cX5_put 25 = .ok (.irem, 1) := by decide +kernel
theorem dX5_put_26 : decode cX5_put 26 = .ok (.ishl, 1) := by decide +kernel
theorem dX5_put_27 : decode cX5_put 27 = .ok (.ior, 1) := by decide +kernel
theorem dX5_put_28 : decode cX5_put 28 = .ok (.iastore, 1) := by decide +kernel
theorem dX5_put_29 : decode cX5_put 29 = .ok (.return_, 1) := by decide +kernel
theorem dX5_putAll_0 : decode cX5_putAll 0 = .ok (.iconst 0, 1) := by decide +kernel
theorem dX5_putAll_1 : decode cX5_putAll 1 = .ok (.istore_n 2, 1) := by decide +kernel
theorem dX5_putAll_2 : decode cX5_putAll 2 = .ok (.iload_n 2, 1) := by decide +kernel
theorem dX5_putAll_3 : decode cX5_putAll 3 = .ok (.bipush 26, 2) := by decide +kernel
theorem dX5_putAll_5 : decode cX5_putAll 5 = .ok (.if_icmp .ge 24, 3) := by decide +kernel
theorem dX5_putAll_8 : decode cX5_putAll 8 = .ok (.aload_n 0, 1) := by decide +kernel
theorem dX5_putAll_9 : decode cX5_putAll 9 = .ok (.getfield 11, 3) := by decide +kernel
theorem dX5_putAll_12 : decode cX5_putAll 12 = .ok (.iload_n 2, 1) := by decide +kernel
theorem dX5_putAll_13 : decode cX5_putAll 13 = .ok (.dup2, 1) := by decide +kernel
theorem dX5_putAll_14 : decode cX5_putAll 14 = .ok (.iaload, 1) := by decide +kernel
theorem dX5_putAll_15 : decode cX5_putAll 15 = .ok (.aload_n 1, 1) := by decide +kernel
theorem dX5_putAll_16 : decode cX5_putAll 16 = .ok (.getfield 11, 3) := by decide +kernel
theorem dX5_putAll_19 : decode cX5_putAll 19 = .ok (.iload_n 2, 1) := by decide +kernel
theorem dX5_putAll_20 : decode cX5_putAll 20 = .ok (.iaload, 1) := by decide +kernel
theorem dX5_putAll_21 : decode cX5_putAll 21 = .ok (.ior, 1) := by decide +kernel
theorem dX5_putAll_22 : decode cX5_putAll 22 = .ok (.iastore, 1) := by decide +kernel
theorem dX5_putAll_23 : decode cX5_putAll 23 = .ok (.iinc 2 1, 3) := by decide +kernel
theorem dX5_putAll_26 : decode cX5_putAll 26 = .ok (.goto (-24), 3) := by decide +kernel
theorem dX5_putAll_29 : decode cX5_putAll 29 = .ok (.return_, 1) := by decide +kernel
theorem dX5_nextFrom_0 : decode cX5_nextFrom 0 = .ok (.iload_n 1, 1) := by decide +kernel
theorem dX5_nextFrom_1 : decode cX5_nextFrom 1 = .ok (.ifCond .lt 10, 3) := by decide +kernel
theorem dX5_nextFrom_4 : decode cX5_nextFrom 4 = .ok (.iload_n 1, 1) := by decide +kernel
theorem dX5_nextFrom_5 : decode cX5_nextFrom 5 = .ok (.sipush 832, 3) := by decide +kernel
theorem dX5_nextFrom_8 : decode cX5_nextFrom 8 = .ok (.if_icmp .lt 5, 3) := by decide +kernel
theorem dX5_nextFrom_11 : decode cX5_nextFrom 11 = .ok (.iconst (-1), 1) := by decide +kernel
theorem dX5_nextFrom_12 : decode cX5_nextFrom 12 = .ok (.ireturn, 1) := by decide +kernel
theorem dX5_nextFrom_13 : decode cX5_nextFrom 13 = .ok (.aload_n 0, 1) := by decide +kernel
theorem dX5_nextFrom_14 : decode cX5_nextFrom 14 = .ok (.getfield 11, 3) := by decide +kernel
theorem dX5_nextFrom_17 : decode cX5_nextFrom 17 = .ok (.iload_n 1, 1) := by decide +kernel
theorem dX5_nextFrom_18 : decode cX5_nextFrom 18 = .ok (.bipush 32, 2) := by decide +kernel
theorem dX5_nextFrom_20 : decode cX5_nextFrom 20 = .ok (.idiv, 1) := by decide +kernel
theorem dX5_nextFrom_21 : decode cX5_nextFrom 21 = .ok (.iaload, 1) := by decide +kernel
theorem dX5_nextFrom_22 : decode cX5_nextFrom 22 = .ok (.iconst (-1), 1) := by decide +kernel
theorem dX5_nextFrom_23 : decode cX5_nextFrom 23 = .ok (.iload_n 1, 1) := by decide +kernel
theorem dX5_nextFrom_24 : decode cX5_nextFrom 24 = .ok (.bipush 32, 2) := by decide +kernel
theorem dX5_nextFrom_26 : decode cX5_nextFrom 26 = .ok (.irem, 1) := by decide +kernel
theorem dX5_nextFrom_27 : decode cX5_nextFrom 27 = .ok (.ishl, 1) := by decide +kernel
theorem dX5_nextFrom_28 : decode cX5_nextFrom 28 = .ok (.iand, 1) := by decide +kernel
theorem dX5_nextFrom_29 : decode cX5_nextFrom 29 = .ok (.istore_n 2, 1) := by decide +kernel
theorem dX5_nextFrom_30 : decode cX5_nextFrom 30 = .ok (.iload_n 1, 1) := by decide +kernel
theorem dX5_nextFrom_31 : decode cX5_nextFrom 31 = .ok (.bipush 32, 2) := by decide +kernel
theorem dX5_nextFrom_33 : decode cX5_nextFrom 33 = .ok (.idiv, 1) := by decide +kernel
theorem dX5_nextFrom_34 : decode cX5_nextFrom 34 = .ok (.istore_n 3, 1) := by decide +kernel
theorem dX5_nextFrom_35 : decode cX5_nextFrom 35 = .ok (.iload_n 3, 1) := by decide +kernel
theorem dX5_nextFrom_36 : decode cX5_nextFrom 36 = .ok (.bipush 26, 2) := by decide +kernel
theorem dX5_nextFrom_38 : decode cX5_nextFrom 38 = .ok (.if_icmp .ge 38, 3) := by decide +kernel
theorem dX5_nextFrom_41 : decode cX5_nextFrom 41 = .ok (.iload_n 3, 1) := by decide +kernel
theorem dX5_nextFrom_42 : decode cX5_nextFrom 42 = .ok (.iload_n 1, 1) := by decide +kernel
theorem dX5_nextFrom_43 : decode cX5_nextFrom 43 = .ok (.bipush 32, 2) := by decide +kernel
theorem dX5_nextFrom_45 : decode cX5_nextFrom 45 = .ok (.idiv, 1) := by decide +kernel
theorem dX5_nextFrom_46 : decode cX5_nextFrom 46 = .ok (.if_icmp .le 10, 3) := by decide +kernel
theorem dX5_nextFrom_49 : decode cX5_nextFrom 49 = .ok (.aload_n 0, 1) := by decide +kernel
theorem dX5_nextFrom_50 : decode cX5_nextFrom 50 = .ok (.getfield 11, 3) := by decide +kernel
theorem dX5_nextFrom_53 : decode cX5_nextFrom 53 = .ok (.iload_n 3, 1) := by decide +kernel
theorem dX5_nextFrom_54 : decode cX5_nextFrom 54 = .ok (.iaload, 1) := by decide +kernel
theorem dX5_nextFrom_55 : decode cX5_nextFrom 55 = .ok (.istore_n 2, 1) := by decide +kernel
theorem dX5_nextFrom_56 : decode cX5_nextFrom 56 = .ok (.iload_n 2, 1) := by decide +kernel
theorem dX5_nextFrom_57 : decode cX5_nextFrom 57 = .ok (.ifCond .eq 13, 3) := by decide +kernel
theorem dX5_nextFrom_60 : decode cX5_nextFrom 60 = .ok (.iload_n 3, 1) := by decide +kernel
theorem dX5_nextFrom_61 : decode cX5_nextFrom 61 = .ok (.bipush 32, 2) := by decide +kernel
theorem dX5_nextFrom_63 : decode cX5_nextFrom 63 = .ok (.imul, 1) := by decide +kernel
theorem dX5_nextFrom_64 : decode cX5_nextFrom 64 = .ok (.iload_n 2, 1) := by decide +kernel
theorem dX5_nextFrom_65 : decode cX5_nextFrom 65 = .ok (.invokestatic 21, 3) := by decide +kernel
theorem dX5_nextFrom_68 : decode cX5_nextFrom 68 = .ok (.iadd, 1) := by decide +kernel
theorem dX5_nextFrom_69 : decode cX5_nextFrom 69 = .ok (.ireturn, 1) := by decide +kernel
theorem dX5_nextFrom_70 : decode cX5_nextFrom 70 = .ok (.iinc 3 1, 3) := by decide +kernel
theorem dX5_nextFrom_73 : decode cX5_nextFrom 73 = .ok (.goto (-38), 3) := by decide +kernel
theorem dX5_nextFrom_76 : decode cX5_nextFrom 76 = .ok (.iconst (-1), 1) := by decide +kernel
theorem dX5_nextFrom_77 : decode cX5_nextFrom 77 = .ok (.ireturn, 1) := by decide +kernel
theorem dX5_worth_0 : decode cX5_worth 0 = .ok (.iconst 0, 1) := by decide +kernel
theorem dX5_worth_1 : decode cX5_worth 1 = .ok (.istore_n 1, 1) := by decide +kernel
theorem dX5_worth_2 : decode cX5_worth 2 = .ok (.iconst 0, 1) := by decide +kernel
theorem dX5_worth_3 : decode cX5_worth 3 = .ok (.istore_n 2, 1) := by decide +kernel
theorem dX5_worth_4 : decode cX5_worth 4 = .ok (.iload_n 2, 1) := by decide +kernel
theorem dX5_worth_5 : decode cX5_worth 5 = .ok (.bipush 26, 2) := by decide +kernel
theorem dX5_worth_7 : decode cX5_worth 7 = .ok (.if_icmp .ge 33, 3) := by decide +kernel
theorem dX5_worth_10 : decode cX5_worth 10 = .ok (.iload_n 1, 1) := by decide +kernel
theorem dX5_worth_11 : decode cX5_worth 11 = .ok (.aload_n 0, 1) := by decide +kernel
theorem dX5_worth_12 : decode cX5_worth 12 = .ok (.getfield 11, 3) := by decide +kernel
theorem dX5_worth_15 : decode cX5_worth 15 = .ok (.iload_n 2, 1) := by decide +kernel
theorem dX5_worth_16 : decode cX5_worth 16 = .ok (.iaload, 1) := by decide +kernel
theorem dX5_worth_17 : decode cX5_worth 17 = .ok (.invokestatic 27, 3) := by decide +kernel
theorem dX5_worth_20 : decode cX5_worth 20 = .ok (.iload_n 2, 1) := by decide +kernel
theorem dX5_worth_21 : decode cX5_worth 21 = .ok (.bipush 16, 2) := by decide +kernel
theorem dX5_worth_23 : decode cX5_worth 23 = .ok (.if_icmp .ge 7, 3) := by decide +kernel
theorem dX5_worth_26 : decode cX5_worth 26 = .ok (.iconst 3, 1) := by decide +kernel
theorem dX5_worth_27 : decode cX5_worth 27 = .ok (.goto 4, 3) := by decide +kernel
theorem dX5_worth_30 : decode cX5_worth 30 = .ok (.iconst 1, 1) := by decide +kernel
theorem dX5_worth_31 : decode cX5_worth 31 = .ok (.imul, 1) := by decide +kernel
theorem dX5_worth_32 : decode cX5_worth 32 = .ok (.iadd, 1) := by decide +kernel
theorem dX5_worth_33 : decode cX5_worth 33 = .ok (.istore_n 1, 1) := by decide +kernel
theorem dX5_worth_34 : decode cX5_worth 34 = .ok (.iinc 2 1, 3) := by decide +kernel
theorem dX5_worth_37 : decode cX5_worth 37 = .ok (.goto (-33), 3) := by decide +kernel
theorem dX5_worth_40 : decode cX5_worth 40 = .ok (.iload_n 1, 1) := by decide +kernel
theorem dX5_worth_41 : decode cX5_worth 41 = .ok (.ireturn, 1) := by decide +kernel
theorem dX5_isNear_0 : decode cX5_isNear 0 = .ok (.aload_n 0, 1) := by decide +kernel
theorem dX5_isNear_1 : decode cX5_isNear 1 = .ok (.iconst 0, 1) := by decide +kernel
theorem dX5_isNear_2 : decode cX5_isNear 2 = .ok (.invokevirtual 30, 3) := by decide +kernel
theorem dX5_isNear_5 : decode cX5_isNear 5 = .ok (.istore_n 3, 1) := by decide +kernel
theorem dX5_isNear_6 : decode cX5_isNear 6 = .ok (.iconst 0, 1) := by decide +kernel
theorem dX5_isNear_7 : decode cX5_isNear 7 = .ok (.istore 4, 2) := by decide +kernel
theorem dX5_isNear_9 : decode cX5_isNear 9 = .ok (.iload 4, 2) := by decide +kernel
theorem dX5_isNear_11 : decode cX5_isNear 11 = .ok (.sipush 832, 3) := by decide +kernel
theorem dX5_isNear_14 : decode cX5_isNear 14 = .ok (.if_icmp .ge 93, 3) := by decide +kernel
theorem dX5_isNear_17 : decode cX5_isNear 17 = .ok (.iload_n 3, 1) := by decide +kernel
theorem dX5_isNear_18 : decode cX5_isNear 18 = .ok (.iconst (-1), 1) := by decide +kernel
theorem dX5_isNear_19 : decode cX5_isNear 19 = .ok (.if_icmp .eq 88, 3) := by decide +kernel
theorem dX5_isNear_22 : decode cX5_isNear 22 = .ok (.iload_n 3, 1) := by decide +kernel
theorem dX5_isNear_23 : decode cX5_isNear 23 = .ok (.sipush 512, 3) := by decide +kernel
theorem dX5_isNear_26 : decode cX5_isNear 26 = .ok (.if_icmp .ge 7, 3) := by decide +kernel
theorem dX5_isNear_29 : decode cX5_isNear 29 = .ok (.iconst 0, 1) := by decide +kernel
theorem dX5_isNear_30 : decode cX5_isNear 30 = .ok (.goto 6, 3) := by decide +kernel
theorem dX5_isNear_33 : decode cX5_isNear 33 = .ok (.sipush 512, 3) := by decide +kernel
theorem dX5_isNear_36 : decode cX5_isNear 36 = .ok (.istore 5, 2) := by decide +kernel
theorem dX5_isNear_38 : decode cX5_isNear 38 = .ok (.iload_n 3, 1) := by decide +kernel
theorem dX5_isNear_39 : decode cX5_isNear 39 = .ok (.sipush 512, 3) := by decide +kernel
theorem dX5_isNear_42 : decode cX5_isNear 42 = .ok (.if_icmp .ge 9, 3) := by decide +kernel
theorem dX5_isNear_45 : decode cX5_isNear 45 = .ok (.sipush 512, 3) := by decide +kernel
theorem dX5_isNear_48 : decode cX5_isNear 48 = .ok (.goto 6, 3) := by decide +kernel
theorem dX5_isNear_51 : decode cX5_isNear 51 = .ok (.sipush 832, 3) := by decide +kernel
theorem dX5_isNear_54 : decode cX5_isNear 54 = .ok (.istore 6, 2) := by decide +kernel
theorem dX5_isNear_56 : decode cX5_isNear 56 = .ok (.aload_n 1, 1) := by decide +kernel
theorem dX5_isNear_57 : decode cX5_isNear 57 = .ok (.iload 5, 2) := by decide +kernel
theorem dX5_isNear_59 : decode cX5_isNear 59 = .ok (.iload_n 3, 1) := by decide +kernel
theorem dX5_isNear_60 : decode cX5_isNear 60 = .ok (.iload_n 2, 1) := by decide +kernel
theorem dX5_isNear_61 : decode cX5_isNear 61 = .ok (.isub, 1) := by decide +kernel
theorem dX5_isNear_62 : decode cX5_isNear 62 = .ok (.invokestatic 33, 3) := by decide +kernel
theorem dX5_isNear_65 : decode cX5_isNear 65 = .ok (.invokevirtual 30, 3) := by decide +kernel
theorem dX5_isNear_68 : decode cX5_isNear 68 = .ok (.istore 7, 2) := by decide +kernel
theorem dX5_isNear_70 : decode cX5_isNear 70 = .ok (.iload 7, 2) := by decide +kernel
theorem dX5_isNear_72 : decode cX5_isNear 72 = .ok (.iconst (-1), 1) := by decide +kernel
theorem dX5_isNear_73 : decode cX5_isNear 73 = .ok (.if_icmp .eq 20, 3) := by decide +kernel
theorem dX5_isNear_76 : decode cX5_isNear 76 = .ok (.iload 7, 2) := by decide +kernel
theorem dX5_isNear_78 : decode cX5_isNear 78 = .ok (.iload 6, 2) := by decide +kernel
theorem dX5_isNear_80 : decode cX5_isNear 80 = .ok (.if_icmp .ge 13, 3) := by decide +kernel
theorem dX5_isNear_83 : decode cX5_isNear 83 = .ok (.iload 7, 2) := by decide +kernel
theorem dX5_isNear_85 : decode cX5_isNear 85 = .ok (.iload_n 3, 1) := by decide +kernel
theorem dX5_isNear_86 : decode cX5_isNear 86 = .ok (.iload_n 2, 1) := by decide +kernel
theorem dX5_isNear_87 : decode cX5_isNear 87 = .ok (.iadd, 1) := by decide +kernel
theorem dX5_isNear_88 : decode cX5_isNear 88 = .ok (.if_icmp .gt 5, 3) := by decide +kernel
theorem dX5_isNear_91 : decode cX5_isNear 91 = .ok (.iconst 1, 1) := by decide +kernel
theorem dX5_isNear_92 : decode cX5_isNear 92 = .ok (.ireturn, 1) := by decide +kernel
theorem dX5_isNear_93 : decode cX5_isNear 93 = .ok (.aload_n 0, 1) := by decide +kernel
theorem dX5_isNear_94 : decode cX5_isNear 94 = .ok (.iload_n 3, 1) := by decide +kernel
theorem dX5_isNear_95 : decode cX5_isNear 95 = .ok (.iconst 1, 1) := by decide +kernel
theorem dX5_isNear_96 : decode cX5_isNear 96 = .ok (.iadd, 1) := by decide +kernel
theorem dX5_isNear_97 : decode cX5_isNear 97 = .ok (.invokevirtual 30, 3) := by decide +kernel
theorem dX5_isNear_100 : decode cX5_isNear 100 = .ok (.istore_n 3, 1) := by decide +kernel
theorem dX5_isNear_101 : decode cX5_isNear 101 = .ok (.iinc 4 1, 3) := by decide +kernel
theorem dX5_isNear_104 : decode cX5_isNear 104 = .ok (.goto (-95), 3) := by decide +kernel
theorem dX5_isNear_107 : decode cX5_isNear 107 = .ok (.iconst 0, 1) := by decide +kernel
theorem dX5_isNear_108 : decode cX5_isNear 108 = .ok (.ireturn, 1) := by decide +kernel
theorem dX5_fullest_0 : decode cX5_fullest 0 = .ok (.iconst (-1), 1) := by decide +kernel
theorem dX5_fullest_1 : decode cX5_fullest 1 = .ok (.istore_n 1, 1) := by decide +kernel
theorem dX5_fullest_2 : decode cX5_fullest 2 = .ok (.iconst 0, 1) := by decide +kernel
theorem dX5_fullest_3 : decode cX5_fullest 3 = .ok (.istore_n 2, 1) := by decide +kernel
theorem dX5_fullest_4 : decode cX5_fullest 4 = .ok (.aload_n 0, 1) := by decide +kernel
theorem dX5_fullest_5 : decode cX5_fullest 5 = .ok (.iconst 0, 1) := by decide +kernel
theorem dX5_fullest_6 : decode cX5_fullest 6 = .ok (.invokevirtual 30, 3) := by decide +kernel
theorem dX5_fullest_9 : decode cX5_fullest 9 = .ok (.istore_n 3, 1) := by decide +kernel
theorem dX5_fullest_10 : decode cX5_fullest 10 = .ok (.iconst 0, 1) := by decide +kernel
theorem dX5_fullest_11 : decode cX5_fullest 11 = .ok (.istore 4, 2) := by decide +kernel
theorem dX5_fullest_13 : decode cX5_fullest 13 = .ok (.iload 4, 2) := by decide +kernel
theorem dX5_fullest_15 : decode cX5_fullest 15 = .ok (.sipush 832, 3) := by decide +kernel
theorem dX5_fullest_18 : decode cX5_fullest 18 = .ok (.if_icmp .ge 43, 3) := by decide +kernel
theorem dX5_fullest_21 : decode cX5_fullest 21 = .ok (.iload_n 3, 1) := by decide +kernel
theorem dX5_fullest_22 : decode cX5_fullest 22 = .ok (.iconst (-1), 1) := by decide +kernel
theorem dX5_fullest_23 : decode cX5_fullest 23 = .ok (.if_icmp .eq 38, 3) := by decide +kernel
theorem dX5_fullest_26 : decode cX5_fullest 26 = .ok (.aload_n 0, 1) := by decide +kernel
theorem dX5_fullest_27 : decode cX5_fullest 27 = .ok (.iload_n 3, 1) := by decide +kernel
theorem dX5_fullest_28 : decode cX5_fullest 28 = .ok (.invokevirtual 39, 3) := by decide +kernel
theorem dX5_fullest_31 : decode cX5_fullest 31 = .ok (.invokestatic 27, 3) := by decide +kernel
theorem dX5_fullest_34 : decode cX5_fullest 34 = .ok (.istore 5, 2) := by decide +kernel
theorem dX5_fullest_36 : decode cX5_fullest 36 = .ok (.iload 5, 2) := by decide +kernel
theorem dX5_fullest_38 : decode cX5_fullest 38 = .ok (.iload_n 2, 1) := by decide +kernel
theorem dX5_fullest_39 : decode cX5_fullest 39 = .ok (.if_icmp .le 8, 3) := by decide +kernel
theorem dX5_fullest_42 : decode cX5_fullest 42 = .ok (.iload 5, 2) := by decide +kernel
theorem dX5_fullest_44 : decode cX5_fullest 44 = .ok (.istore_n 2, 1) := by decide +kernel
theorem dX5_fullest_45 : decode cX5_fullest 45 = .ok (.iload_n 3, 1) := by decide +kernel
theorem dX5_fullest_46 : decode cX5_fullest 46 = .ok (.istore_n 1, 1) := by decide +kernel
theorem dX5_fullest_47 : decode cX5_fullest 47 = .ok (.aload_n 0, 1) := by decide +kernel
theorem dX5_fullest_48 : decode cX5_fullest 48 = .ok (.iload_n 3, 1) := by decide +kernel
theorem dX5_fullest_49 : decode cX5_fullest 49 = .ok (.iconst 1, 1) := by decide +kernel
theorem dX5_fullest_50 : decode cX5_fullest 50 = .ok (.iadd, 1) := by decide +kernel
theorem dX5_fullest_51 : decode cX5_fullest 51 = .ok (.invokevirtual 30, 3) := by decide +kernel
theorem dX5_fullest_54 : decode cX5_fullest 54 = .ok (.istore_n 3, 1) := by decide +kernel
theorem dX5_fullest_55 : decode cX5_fullest 55 = .ok (.iinc 4 1, 3) := by decide +kernel
theorem dX5_fullest_58 : decode cX5_fullest 58 = .ok (.goto (-45), 3) := by decide +kernel
theorem dX5_fullest_61 : decode cX5_fullest 61 = .ok (.iload_n 1, 1) := by decide +kernel
theorem dX5_fullest_62 : decode cX5_fullest 62 = .ok (.ireturn, 1) := by decide +kernel
theorem dX5_tenFrom_0 : decode cX5_tenFrom 0 = .ok (.iload_n 1, 1) := by decide +kernel
theorem dX5_tenFrom_1 : decode cX5_tenFrom 1 = .ok (.bipush 32, 2) := by decide +kernel
theorem dX5_tenFrom_3 : decode cX5_tenFrom 3 = .ok (.idiv, 1) := by decide +kernel
theorem dX5_tenFrom_4 : decode cX5_tenFrom 4 = .ok (.istore_n 2, 1) := by decide +kernel
theorem dX5_tenFrom_5 : decode cX5_tenFrom 5 = .ok (.aload_n 0, 1) := by decide +kernel
theorem dX5_tenFrom_6 : decode cX5_tenFrom 6 = .ok (.getfield 11, 3) := by decide +kernel
theorem dX5_tenFrom_9 : decode cX5_tenFrom 9 = .ok (.iload_n 2, 1) := by decide +kernel
theorem dX5_tenFrom_10 : decode cX5_tenFrom 10 = .ok (.iaload, 1) := by decide +kernel
theorem dX5_tenFrom_11 : decode cX5_tenFrom 11 = .ok (.i2l, 1) := by decide +kernel
theorem dX5_tenFrom_12 : decode cX5_tenFrom 12 = .ok (.ldc2_w 42, 3) := by decide +kernel
theorem dX5_tenFrom_15 : decode cX5_tenFrom 15 = .ok (.land, 1) := by decide +kernel
theorem dX5_tenFrom_16 : decode cX5_tenFrom 16 = .ok (.lstore_n 3, 1) := by decide +kernel
theorem dX5_tenFrom_17 : decode cX5_tenFrom 17 = .ok (.iload_n 2, 1) := by decide +kernel
theorem dX5_tenFrom_18 : decode cX5_tenFrom 18 = .ok (.iconst 1, 1) := by decide +kernel
theorem dX5_tenFrom_19 : decode cX5_tenFrom 19 = .ok (.iadd, 1) := by decide +kernel
theorem dX5_tenFrom_20 : decode cX5_tenFrom 20 = .ok (.bipush 26, 2) := by decide +kernel
theorem dX5_tenFrom_22 : decode cX5_tenFrom 22 = .ok (.if_icmp .ge 18, 3) := by decide +kernel
theorem dX5_tenFrom_25 : decode cX5_tenFrom 25 = .ok (.lload_n 3, 1) := by decide +kernel
theorem dX5_tenFrom_26 : decode cX5_tenFrom 26 = .ok (.aload_n 0, 1) := by decide +kernel
theorem dX5_tenFrom_27 : decode cX5_tenFrom 27 = .ok (.getfield 11, 3) := by decide +kernel
theorem dX5_tenFrom_30 : decode cX5_tenFrom 30 = .ok (.iload_n 2, 1) := by decide +kernel
theorem dX5_tenFrom_31 : decode cX5_tenFrom 31 = .ok (.iconst 1, 1) := by decide +kernel
theorem dX5_tenFrom_32 : decode cX5_tenFrom 32 = .ok (.iadd, 1) := by decide +kernel
theorem dX5_tenFrom_33 : decode cX5_tenFrom 33 = .ok (.iaload, 1) := by decide +kernel
theorem dX5_tenFrom_34 : decode cX5_tenFrom 34 = .ok (.i2l, 1) := by decide +kernel
theorem dX5_tenFrom_35 : decode cX5_tenFrom 35 = .ok (.bipush 32, 2) := by decide +kernel
theorem dX5_tenFrom_37 : decode cX5_tenFrom 37 = .ok (.lshl, 1) := by decide +kernel
theorem dX5_tenFrom_38 : decode cX5_tenFrom 38 = .ok (.lor, 1) := by decide +kernel
theorem dX5_tenFrom_39 : decode cX5_tenFrom 39 = .ok (.lstore_n 3, 1) := by decide +kernel
theorem dX5_tenFrom_40 : decode cX5_tenFrom 40 = .ok (.lload_n 3, 1) := by decide +kernel
theorem dX5_tenFrom_41 : decode cX5_tenFrom 41 = .ok (.iload_n 1, 1) := by decide +kernel
theorem dX5_tenFrom_42 : decode cX5_tenFrom 42 = .ok (.bipush 32, 2) := by decide +kernel
theorem dX5_tenFrom_44 : decode cX5_tenFrom 44 = .ok (.irem, 1) := by decide +kernel
theorem dX5_tenFrom_45 : decode cX5_tenFrom 45 = .ok (.lushr, 1) := by decide +kernel
theorem dX5_tenFrom_46 : decode cX5_tenFrom 46 = .ok (.l2i, 1) := by decide +kernel
theorem dX5_tenFrom_47 : decode cX5_tenFrom 47 = .ok (.sipush 1023, 3) := by decide +kernel
theorem dX5_tenFrom_50 : decode cX5_tenFrom 50 = .ok (.iand, 1) := by decide +kernel
theorem dX5_tenFrom_51 : decode cX5_tenFrom 51 = .ok (.ireturn, 1) := by decide +kernel
theorem dX6_init_0 : decode cX6_init 0 = .ok (.aload_n 0, 1) := by decide +kernel
theorem dX6_init_1 : decode cX6_init 1 = .ok (.invokespecial 5, 3) := by decide +kernel
theorem dX6_init_4 : decode cX6_init 4 = .ok (.aload_n 0, 1) := by decide +kernel
theorem dX6_init_5 : decode cX6_init 5 = .ok (.sipush 1250, 3) := by decide +kernel
theorem dX6_init_8 : decode cX6_init 8 = .ok (.newarray .int, 2) := by decide +kernel
theorem dX6_init_10 : decode cX6_init 10 = .ok (.putfield 11, 3) := by decide +kernel
theorem dX6_init_13 : decode cX6_init 13 = .ok (.aload_n 0, 1) := by decide +kernel
theorem dX6_init_14 : decode cX6_init 14 = .ok (.sipush 833, 3) := by decide +kernel
theorem dX6_init_17 : decode cX6_init 17 = .ok (.newarray .int, 2) := by decide +kernel
theorem dX6_init_19 : decode cX6_init 19 = .ok (.putfield 15, 3) := by decide +kernel
theorem dX6_init_22 : decode cX6_init 22 = .ok (.aload_n 0, 1) := by decide +kernel
theorem dX6_init_23 : decode cX6_init 23 = .ok (.sipush 833, 3) := by decide +kernel
theorem dX6_init_26 : decode cX6_init 26 = .ok (.newarray .int, 2) := by decide +kernel
theorem dX6_init_28 : decode cX6_init 28 = .ok (.putfield 18, 3) := by decide +kernel
theorem dX6_init_31 : decode cX6_init 31 = .ok (.aload_n 0, 1) := by decide +kernel
theorem dX6_init_32 : decode cX6_init 32 = .ok (.sipush 400, 3) := by decide +kernel
theorem dX6_init_35 : decode cX6_init 35 = .ok (.newarray .int, 2) := by decide +kernel
theorem dX6_init_37 : decode cX6_init 37 = .ok (.putfield 21, 3) := by decide +kernel
theorem dX6_init_40 : decode cX6_init 40 = .ok (.aload_n 0, 1) := by decide +kernel
theorem dX6_init_41 : decode cX6_init 41 = .ok (.sipush 400, 3) := by decide +kernel
theorem dX6_init_44 : decode cX6_init 44 = .ok (.newarray .int, 2) := by decide +kernel
theorem dX6_init_46 : decode cX6_init 46 = .ok (.putfield 24, 3) := by decide +kernel
theorem dX6_init_49 : decode cX6_init 49 = .ok (.aload_n 0, 1) := by decide +kernel
theorem dX6_init_50 : decode cX6_init 50 = .ok (.sipush 400, 3) := by decide +kernel
theorem dX6_init_53 : decode cX6_init 53 = .ok (.newarray .int, 2) := by decide +kernel
theorem dX6_init_55 : decode cX6_init 55 = .ok (.putfield 27, 3) := by decide +kernel
theorem dX6_init_58 : decode cX6_init 58 = .ok (.aload_n 0, 1) := by decide +kernel
theorem dX6_init_59 : decode cX6_init 59 = .ok (.sipush 400, 3) := by decide +kernel
theorem dX6_init_62 : decode cX6_init 62 = .ok (.newarray .int, 2) := by decide +kernel
theorem dX6_init_64 : decode cX6_init 64 = .ok (.putfield 30, 3) := by decide +kernel
theorem dX6_init_67 : decode cX6_init 67 = .ok (.aload_n 0, 1) := by decide +kernel
theorem dX6_init_68 : decode cX6_init 68 = .ok (.sipush 400, 3) := by decide +kernel
theorem dX6_init_71 : decode cX6_init 71 = .ok (.newarray .int, 2) := by decide +kernel
theorem dX6_init_73 : decode cX6_init 73 = .ok (.putfield 33, 3) := by decide +kernel
theorem dX6_init_76 : decode cX6_init 76 = .ok (.aload_n 0, 1) := by decide +kernel
theorem dX6_init_77 : decode cX6_init 77 = .ok (.iconst 0, 1) := by decide +kernel
theorem dX6_init_78 : decode cX6_init 78 = .ok (.putfield 36, 3) := by decide +kernel
theorem dX6_init_81 : decode cX6_init 81 = .ok (.aload_n 0, 1) := by decide +kernel
theorem dX6_init_82 : decode cX6_init 82 = .ok (.iconst 0, 1) := by decide +kernel
theorem dX6_init_83 : decode cX6_init 83 = .ok (.putfield 40, 3) := by decide +kernel
theorem dX6_init_86 : decode cX6_init 86 = .ok (.aload_n 0, 1) := by decide +kernel
theorem dX6_init_87 : decode cX6_init 87 = .ok (.iconst 0, 1) := by decide +kernel
theorem dX6_init_88 : decode cX6_init 88 = .ok (.putfield 43, 3) := by decide +kernel
theorem dX6_init_91 : decode cX6_init 91 = .ok (.aload_n 0, 1) := by decide +kernel
theorem dX6_init_92 : decode cX6_init 92 = .ok (.iconst 0, 1) := by decide +kernel
theorem dX6_init_93 : decode cX6_init 93 = .ok (.putfield 46, 3) := by decide +kernel
theorem dX6_init_96 : decode cX6_init 96 = .ok (.return_, 1) := by decide +kernel
theorem dX6_chunkOf_0 : decode cX6_chunkOf 0 = .ok (.iload_n 0, 1) := by decide +kernel
theorem dX6_chunkOf_1 : decode cX6_chunkOf 1 = .ok (.bipush 96, 2) := by decide +kernel
theorem dX6_chunkOf_3 : decode cX6_chunkOf 3 = .ok (.if_icmp .ge 15, 3) := by decide +kernel
theorem dX6_chunkOf_6 : decode cX6_chunkOf 6 = .ok (.iload_n 0, 1) := by decide +kernel
theorem dX6_chunkOf_7 : decode cX6_chunkOf 7 = .ok (.bipush 32, 2) := by decide +kernel
theorem dX6_chunkOf_9 : decode cX6_chunkOf 9 = .ok (.if_icmp .ge 7, 3) := by decide +kernel
theorem dX6_chunkOf_12 : decode cX6_chunkOf 12 = .ok (.iconst 0, 1) := by decide +kernel
theorem dX6_chunkOf_13 : decode cX6_chunkOf 13 = .ok (.goto 4, 3) := by decide +kernel
theorem dX6_chunkOf_16 : decode cX6_chunkOf 16 = .ok (.iconst 1, 1) := by decide +kernel
theorem dX6_chunkOf_17 : decode cX6_chunkOf 17 = .ok (.ireturn, 1) := by decide +kernel
theorem dX6_chunkOf_18 : decode cX6_chunkOf 18 = .ok (.iload_n 0, 1) := by decide +kernel
theorem dX6_chunkOf_19 : decode cX6_chunkOf 19 = .ok (.sipush 224, 3) := by decide +kernel
theorem dX6_chunkOf_22 : decode cX6_chunkOf 22 = .ok (.if_icmp .ge 7, 3) := by decide +kernel
theorem dX6_chunkOf_25 : decode cX6_chunkOf 25 = .ok (.iconst 2, 1) := by decide +kernel
theorem dX6_chunkOf_26 : decode cX6_chunkOf 26 = .ok (.goto 14, 3) := by decide +kernel
theorem dX6_chunkOf_29 : decode cX6_chunkOf 29 = .ok (.iconst 3, 1) := by decide +kernel
theorem dX6_chunkOf_30 : decode cX6_chunkOf 30 = .ok (.iload_n 0, 1) := by decide +kernel
theorem dX6_chunkOf_31 : decode cX6_chunkOf 31 = .ok (.sipush 224, 3) := by decide +kernel
theorem dX6_chunkOf_34 : decode cX6_chunkOf 34 = .ok (.isub, 1) := by decide +kernel
theorem dX6_chunkOf_35 : decode cX6_chunkOf 35 = .ok (.sipush 256, 3) := by decide +kernel
theorem dX6_chunkOf_38 : decode cX6_chunkOf 38 = .ok (.idiv, 1) := by decide +kernel
theorem dX6_chunkOf_39 : decode cX6_chunkOf 39 = .ok (.iadd, 1) := by decide +kernel
theorem dX6_chunkOf_40 : decode cX6_chunkOf 40 = .ok (.ireturn, 1) := by decide +kernel
theorem dX6_chunksFor_0 : decode cX6_chunksFor 0 = .ok (.iload_n 0, 1) := by decide +kernel
theorem dX6_chunksFor_1 : decode cX6_chunksFor 1 = .ok (.ifCond .le 14, 3) := by decide +kernel
theorem dX6_chunksFor_4 : decode cX6_chunksFor 4 = .ok (.iload_n 0, 1) := by decide +kernel
theorem dX6_chunksFor_5 : decode cX6_chunksFor 5 = .ok (.iconst 1, 1) := by decide +kernel
theorem dX6_chunksFor_6 : decode cX6_chunksFor 6 = .ok (.isub, 1) := by decide +kernel
theorem dX6_chunksFor_7 : decode cX6_chunksFor 7 = .ok (.invokestatic 49, 3) := by decide +kernel
theorem dX6_chunksFor_10 : decode cX6_chunksFor 10 = .ok (.iconst 1, 1) := by decide +kernel
theorem dX6_chunksFor_11 : decode cX6_chunksFor 11 = .ok (.iadd, 1) := by decide +kernel
theorem dX6_chunksFor_12 : decode cX6_chunksFor 12 = .ok (.goto 4, 3) := by decide +kernel
theorem dX6_chunksFor_15 : decode cX6_chunksFor 15 = .ok (.iconst 0, 1) := by decide +kernel
theorem dX6_chunksFor_16 : decode cX6_chunksFor 16 = .ok (.ireturn, 1) := by decide +kernel
theorem dX6_bitsOfChunk_0 : decode cX6_bitsOfChunk 0 = .ok (.iload_n 0, 1) := by decide +kernel
theorem dX6_bitsOfChunk_1 : decode cX6_bitsOfChunk 1 = .ok (.iconst 3, 1) := by decide +kernel
theorem dX6_bitsOfChunk_2 : decode cX6_bitsOfChunk 2 = .ok (.if_icmp .ge 10, 3) := by decide +kernel
theorem dX6_bitsOfChunk_5 : decode cX6_bitsOfChunk 5 = .ok (.bipush 32, 2) := by decide +kernel
theorem dX6_bitsOfChunk_7 : decode cX6_bitsOfChunk 7 = .ok (.iload_n 0, 1) := by decide +kernel
theorem dX6_bitsOfChunk_8 : decode cX6_bitsOfChunk 8 = .ok (.ishl, 1) := by decide +kernel
theorem dX6_bitsOfChunk_9 : decode cX6_bitsOfChunk 9 = .ok (.goto 6, 3) := by decide +kernel
theorem dX6_bitsOfChunk_12 : decode cX6_bitsOfChunk 12 = .ok (.sipush 256, 3) := by decide +kernel
theorem dX6_bitsOfChunk_15 : decode cX6_bitsOfChunk 15 = .ok (.ireturn, 1) := by decide +kernel
theorem dX6_roomOf_0 : decode cX6_roomOf 0 = .ok (.iload_n 0, 1) := by decide +kernel
theorem dX6_roomOf_1 : decode cX6_roomOf 1 = .ok (.iconst 3, 1) := by decide +kernel
theorem dX6_roomOf_2 : decode cX6_roomOf 2 = .ok (.if_icmp .gt 13, 3) := by decide +kernel
theorem dX6_roomOf_5 : decode cX6_roomOf 5 = .ok (.bipush 32, 2) := by decide +kernel
theorem dX6_roomOf_7 : decode cX6_roomOf 7 = .ok (.iload_n 0, 1) := by decide +kernel
theorem dX6_roomOf_8 : decode cX6_roomOf 8 = .ok (.ishl, 1) := by decide +kernel
theorem dX6_roomOf_9 : decode cX6_roomOf 9 = .ok (.bipush 32, 2) := by decide +kernel
theorem dX6_roomOf_11 : decode cX6_roomOf 11 = .ok (.isub, 1) := by decide +kernel
theorem dX6_roomOf_12 : decode cX6_roomOf 12 = .ok (.goto 14, 3) := by decide +kernel
theorem dX6_roomOf_15 : decode cX6_roomOf 15 = .ok (.sipush 224, 3) := by decide +kernel
theorem dX6_roomOf_18 : decode cX6_roomOf 18 = .ok (.sipush 256, 3) := by decide +kernel
theorem dX6_roomOf_21 : decode cX6_roomOf 21 = .ok (.iload_n 0, 1) := by decide +kernel
theorem dX6_roomOf_22 : decode cX6_roomOf 22 = .ok (.iconst 3, 1) := by decide +kernel
theorem dX6_roomOf_23 : decode cX6_roomOf 23 = .ok (.isub, 1) := by decide +kernel
theorem dX6_roomOf_24 : decode cX6_roomOf 24 = .ok (.imul, 1) := by decide +kernel
theorem dX6_roomOf_25 : decode cX6_roomOf 25 = .ok (.iadd, 1) := by decide +kernel
theorem dX6_roomOf_26 : decode cX6_roomOf 26 = .ok (.ireturn, 1) := by decide +kernel
theorem dX6_takenFor_0 : decode cX6_takenFor 0 = .ok (.iload_n 0, 1) := by decide +kernel
theorem dX6_takenFor_1 : decode cX6_takenFor 1 = .ok (.invokestatic 53, 3) := by decide +kernel
theorem dX6_takenFor_4 : decode cX6_takenFor 4 = .ok (.istore_n 1, 1) := by decide +kernel
theorem dX6_takenFor_5 : decode cX6_takenFor 5 = .ok (.iload_n 1, 1) := by decide +kernel
theorem dX6_takenFor_6 : decode cX6_takenFor 6 = .ok (.invokestatic 56, 3) := by decide +kernel
theorem dX6_takenFor_9 : decode cX6_takenFor 9 = .ok (.bipush 16, 2) := by decide +kernel
theorem dX6_takenFor_11 : decode cX6_takenFor 11 = .ok (.iload_n 1, 1) := by decide +kernel
theorem dX6_takenFor_12 : decode cX6_takenFor 12 = .ok (.imul, 1) := by decide +kernel
theorem dX6_takenFor_13 : decode cX6_takenFor 13 = .ok (.iadd, 1) := by decide +kernel
theorem dX6_takenFor_14 : decode cX6_takenFor 14 = .ok (.ireturn, 1) := by decide +kernel
theorem dX6_gammaBits_0 : decode cX6_gammaBits 0 = .ok (.iconst 2, 1) := by decide +kernel
theorem dX6_gammaBits_1 : decode cX6_gammaBits 1 = .ok (.iload_n 0, 1) := by decide +kernel
theorem dX6_gammaBits_2 : decode cX6_gammaBits 2 = .ok (.invokestatic 59, 3) := by decide +kernel
theorem dX6_gammaBits_5 : decode cX6_gammaBits 5 = .ok (.imul, 1) := by decide +kernel
theorem dX6_gammaBits_6 : decode cX6_gammaBits 6 = .ok (.iconst 1, 1) := by decide +kernel
theorem dX6_gammaBits_7 : decode cX6_gammaBits 7 = .ok (.isub, 1) := by decide +kernel
theorem dX6_gammaBits_8 : decode cX6_gammaBits 8 = .ok (.ireturn, 1) := by decide +kernel
theorem dX6_isId_0 : decode cX6_isId 0 = .ok (.iload_n 0, 1) := by decide +kernel
theorem dX6_isId_1 : decode cX6_isId 1 = .ok (.ifCond .lt 14, 3) := by decide +kernel
theorem dX6_isId_4 : decode cX6_isId 4 = .ok (.iload_n 0, 1) := by decide +kernel
theorem dX6_isId_5 : decode cX6_isId 5 = .ok (.sipush 400, 3) := by decide +kernel
theorem dX6_isId_8 : decode cX6_isId 8 = .ok (.if_icmp .ge 7, 3) := by decide +kernel
theorem dX6_isId_11 : decode cX6_isId 11 = .ok (.iconst 1, 1) := by decide +kernel
theorem dX6_isId_12 : decode cX6_isId 12 = .ok (.goto 4, 3) := by decide +kernel
theorem dX6_isId_15 : decode cX6_isId 15 = .ok (.iconst 0, 1) := by decide +kernel
theorem dX6_isId_16 : decode cX6_isId 16 = .ok (.ireturn, 1) := by decide +kernel
theorem dX6_taken_0 : decode cX6_taken 0 = .ok (.aload_n 0, 1) := by decide +kernel
theorem dX6_taken_1 : decode cX6_taken 1 = .ok (.getfield 46, 3) := by decide +kernel
theorem dX6_taken_4 : decode cX6_taken 4 = .ok (.ireturn, 1) := by decide +kernel
theorem dX6_allBits_0 : decode cX6_allBits 0 = .ok (.aload_n 0, 1) := by decide +kernel
theorem dX6_allBits_1 : decode cX6_allBits 1 = .ok (.getfield 43, 3) := by decide +kernel
theorem dX6_allBits_4 : decode cX6_allBits 4 = .ok (.ireturn, 1) := by decide +kernel
theorem dX6_bitsOf_0 : decode cX6_bitsOf 0 = .ok (.iload_n 1, 1) := by decide +kernel
theorem dX6_bitsOf_1 : decode cX6_bitsOf 1 = .ok (.invokestatic 62, 3) := by decide +kernel
theorem dX6_bitsOf_4 : decode cX6_bitsOf 4 = .ok (.ifCond .eq 12, 3) := by decide +kernel
theorem dX6_bitsOf_7 : decode cX6_bitsOf 7 = .ok (.aload_n 0, 1) := by decide +kernel
theorem dX6_bitsOf_8 : decode cX6_bitsOf 8 = .ok (.getfield 27, 3) := by decide +kernel
theorem dX6_bitsOf_11 : decode cX6_bitsOf 11 = .ok (.iload_n 1, 1) := by decide +kernel
theorem dX6_bitsOf_12 : decode cX6_bitsOf 12 = .ok (.iaload, 1) := by decide +kernel
theorem dX6_bitsOf_13 : decode cX6_bitsOf 13 = .ok (.goto 4, 3) := by decide +kernel
theorem dX6_bitsOf_16 : decode cX6_bitsOf 16 = .ok (.iconst 0, 1) := by decide +kernel
theorem dX6_bitsOf_17 : decode cX6_bitsOf 17 = .ok (.ireturn, 1) := by decide +kernel
theorem dX6_documentsOf_0 : decode cX6_documentsOf 0 = .ok (.iload_n 1, 1) := by decide +kernel
theorem dX6_documentsOf_1 : decode cX6_documentsOf 1 = .ok (.invokestatic 62, 3) := by decide +kernel
theorem dX6_documentsOf_4 : decode cX6_documentsOf 4 = .ok (.ifCond .eq 12, 3) := by decide +kernel
theorem dX6_documentsOf_7 : decode cX6_documentsOf 7 = .ok (.aload_n 0, 1) := by decide +kernel
theorem dX6_documentsOf_8 : decode cX6_documentsOf 8 = .ok (.getfield 30, 3) := by decide +kernel
theorem dX6_documentsOf_11 : decode cX6_documentsOf 11 = .ok (.iload_n 1, 1) := by decide +kernel
theorem dX6_documentsOf_12 : decode cX6_documentsOf 12 = .ok (.iaload, 1) := by decide +kernel
theorem dX6_documentsOf_13 : decode cX6_documentsOf 13 = .ok (.goto 4, 3) := by decide +kernel
theorem dX6_documentsOf_16 : decode cX6_documentsOf 16 = .ok (.iconst 0, 1) := by decide +kernel
theorem dX6_documentsOf_17 : decode cX6_documentsOf 17 = .ok (.ireturn, 1) := by decide +kernel
theorem dX6_latestOf_0 : decode cX6_latestOf 0 = .ok (.iload_n 1, 1) := by decide +kernel
theorem dX6_latestOf_1 : decode cX6_latestOf 1 = .ok (.invokestatic 62, 3) := by decide +kernel
theorem dX6_latestOf_4 : decode cX6_latestOf 4 = .ok (.ifCond .eq 14, 3) := by decide +kernel
theorem dX6_latestOf_7 : decode cX6_latestOf 7 = .ok (.aload_n 0, 1) := by decide +kernel
theorem dX6_latestOf_8 : decode cX6_latestOf 8 = .ok (.getfield 33, 3) := by decide +kernel
theorem dX6_latestOf_11 : decode cX6_latestOf 11 = .ok (.iload_n 1, 1) := by decide +kernel
theorem dX6_latestOf_12 : decode cX6_latestOf 12 = .ok (.iaload, 1) := by decide +kernel
theorem dX6_latestOf_13 : decode cX6_latestOf 13 = .ok (.iconst 1, 1) := by decide +kernel
theorem dX6_latestOf_14 : decode cX6_latestOf 14 = .ok (.isub, 1) := by decide +kernel
theorem dX6_latestOf_15 : decode cX6_latestOf 15 = .ok (.goto 4, 3) := by decide +kernel
theorem dX6_latestOf_18 : decode cX6_latestOf 18 = .ok (.iconst (-1), 1) := by decide +kernel
theorem dX6_latestOf_19 : decode cX6_latestOf 19 = .ok (.ireturn, 1) := by decide +kernel
theorem dX6_firstChunkOf_0 : decode cX6_firstChunkOf 0 = .ok (.iload_n 1, 1) := by decide +kernel
theorem dX6_firstChunkOf_1 : decode cX6_firstChunkOf 1 = .ok (.invokestatic 62, 3) := by decide +kernel
theorem dX6_firstChunkOf_4 : decode cX6_firstChunkOf 4 = .ok (.ifCond .eq 21, 3) := by decide +kernel
theorem dX6_firstChunkOf_7 : decode cX6_firstChunkOf 7 = .ok (.aload_n 0, 1) := by decide +kernel
theorem dX6_firstChunkOf_8 : decode cX6_firstChunkOf 8 = .ok (.getfield 27, 3) := by decide +kernel
theorem dX6_firstChunkOf_11 : decode cX6_firstChunkOf 11 = .ok (.iload_n 1, 1) := by decide +kernel
theorem dX6_firstChunkOf_12 : decode cX6_firstChunkOf 12 = .ok (.iaload, 1) := by decide +kernel
theorem dX6_firstChunkOf_13 : decode cX6_firstChunkOf 13 = .ok (.ifCond .le 12, 3) := by decide +kernel
theorem dX6_firstChunkOf_16 : decode cX6_firstChunkOf 16 = .ok (.aload_n 0, 1) := by decide +kernel
theorem dX6_firstChunkOf_17 : decode cX6_firstChunkOf 17 = .ok (.getfield 21, 3) := by decide +kernel
theorem dX6_firstChunkOf_20 : decode cX6_firstChunkOf 20 = .ok (.iload_n 1, 1) := by decide +kernel
theorem dX6_firstChunkOf_21 : decode cX6_firstChunkOf 21 = .ok (.iaload, 1) := by decide +kernel
theorem dX6_firstChunkOf_22 : decode cX6_firstChunkOf 22 = .ok (.goto 4, 3) := by decide +kernel
theorem dX6_firstChunkOf_25 : decode cX6_firstChunkOf 25 = .ok (.iconst (-1), 1) := by decide +kernel
theorem dX6_firstChunkOf_26 : decode cX6_firstChunkOf 26 = .ok (.ireturn, 1) := by decide +kernel
theorem dX6_chunkBehind_0 : decode cX6_chunkBehind 0 = .ok (.iload_n 1, 1) := by decide +kernel
theorem dX6_chunkBehind_1 : decode cX6_chunkBehind 1 = .ok (.ifCond .lt 20, 3) := by decide +kernel
theorem dX6_chunkBehind_4 : decode cX6_chunkBehind 4 = .ok (.iload_n 1, 1) := by decide +kernel
theorem dX6_chunkBehind_5 : decode cX6_chunkBehind 5 = .ok (.aload_n 0, 1) := by decide +kernel
theorem dX6_chunkBehind_6 : decode cX6_chunkBehind 6 = .ok (.getfield 36, 3) := by decide +kernel
theorem dX6_chunkBehind_9 : decode cX6_chunkBehind 9 = .ok (.if_icmp .ge 12, 3) := by decide +kernel
theorem dX6_chunkBehind_12 : decode cX6_chunkBehind 12 = .ok (.aload_n 0, 1) := by decide +kernel
theorem dX6_chunkBehind_13 : decode cX6_chunkBehind 13 = .ok (.getfield 18, 3) := by decide +kernel
theorem dX6_chunkBehind_16 : decode cX6_chunkBehind 16 = .ok (.iload_n 1, 1) := by decide +kernel
theorem dX6_chunkBehind_17 : decode cX6_chunkBehind 17 = .ok (.iaload, 1) := by decide +kernel
theorem dX6_chunkBehind_18 : decode cX6_chunkBehind 18 = .ok (.goto 4, 3) := by decide +kernel
theorem dX6_chunkBehind_21 : decode cX6_chunkBehind 21 = .ok (.iconst (-1), 1) := by decide +kernel
theorem dX6_chunkBehind_22 : decode cX6_chunkBehind 22 = .ok (.ireturn, 1) := by decide +kernel
theorem dX6_bitInChunk_0 : decode cX6_bitInChunk 0 = .ok (.iload_n 1, 1) := by decide +kernel
theorem dX6_bitInChunk_1 : decode cX6_bitInChunk 1 = .ok (.ifCond .lt 15, 3) := by decide +kernel
theorem dX6_bitInChunk_4 : decode cX6_bitInChunk 4 = .ok (.iload_n 1, 1) := by decide +kernel
theorem dX6_bitInChunk_5 : decode cX6_bitInChunk 5 = .ok (.aload_n 0, 1) := by decide +kernel
theorem dX6_bitInChunk_6 : decode cX6_bitInChunk 6 = .ok (.getfield 36, 3) := by decide +kernel
theorem dX6_bitInChunk_9 : decode cX6_bitInChunk 9 = .ok (.if_icmp .ge 7, 3) := by decide +kernel
theorem dX6_bitInChunk_12 : decode cX6_bitInChunk 12 = .ok (.iload_n 2, 1) := by decide +kernel
theorem dX6_bitInChunk_13 : decode cX6_bitInChunk 13 = .ok (.ifCond .ge 5, 3) := by decide +kernel
theorem dX6_bitInChunk_16 : decode cX6_bitInChunk 16 = .ok (.iconst 0, 1) := by decide +kernel
theorem dX6_bitInChunk_17 : decode cX6_bitInChunk 17 = .ok (.ireturn, 1) := by decide +kernel
theorem dX6_bitInChunk_18 : decode cX6_bitInChunk 18 = .ok (.aload_n 0, 1) := by decide +kernel
theorem dX6_bitInChunk_19 : decode cX6_bitInChunk 19 = .ok (.getfield 15, 3) := by decide +kernel
theorem dX6_bitInChunk_22 : decode cX6_bitInChunk 22 = .ok (.iload_n 1, 1) := by decide +kernel
theorem dX6_bitInChunk_23 : decode cX6_bitInChunk 23 = .ok (.iaload, 1) := by decide +kernel
theorem dX6_bitInChunk_24 : decode cX6_bitInChunk 24 = .ok (.iload_n 2, 1) := by decide +kernel
theorem dX6_bitInChunk_25 : decode cX6_bitInChunk 25 = .ok (.bipush 32, 2) := by decide +kernel
theorem dX6_bitInChunk_27 : decode cX6_bitInChunk 27 = .ok (.idiv, 1) := by decide +kernel
theorem dX6_bitInChunk_28 : decode cX6_bitInChunk 28 = .ok (.iadd, 1) := by decide +kernel
theorem dX6_bitInChunk_29 : decode cX6_bitInChunk 29 = .ok (.istore_n 3, 1) := by decide +kernel
theorem dX6_bitInChunk_30 : decode cX6_bitInChunk 30 = .ok (.iload_n 3, 1) := by decide +kernel
