theorem dX1_init_4 : decode cX1_init 4 = .ok (.aload_n 0, 1) := by decide +kernel
theorem dX1_init_5 : decode cX1_init 5 = .ok (.bipush 40, 2) := by decide +kernel
theorem dX1_init_7 : decode cX1_init 7 = .ok (.anewarray 9, 3) := by decide +kernel
theorem dX1_init_10 : decode cX1_init 10 = .ok (.putfield 11, 3) := by decide +kernel
theorem dX1_init_13 : decode cX1_init 13 = .ok (.aload_n 0, 1) := by decide +kernel
theorem dX1_init_14 : decode cX1_init 14 = .ok (.new 9, 3) := by decide +kernel
theorem dX1_init_17 : decode cX1_init 17 = .ok (.dup, 1) := by decide +kernel
theorem dX1_init_18 : decode cX1_init 18 = .ok (.invokespecial 17, 3) := by decide +kernel
theorem dX1_init_21 : decode cX1_init 21 = .ok (.putfield 18, 3) := by decide +kernel
theorem dX1_init_24 : decode cX1_init 24 = .ok (.aload_n 0, 1) := by decide +kernel
theorem dX1_init_25 : decode cX1_init 25 = .ok (.bipush 40, 2) := by decide +kernel
theorem dX1_init_27 : decode cX1_init 27 = .ok (.newarray .boolean, 2) := by decide +kernel
theorem dX1_init_29 : decode cX1_init 29 = .ok (.putfield 22, 3) := by decide +kernel
theorem dX1_init_32 : decode cX1_init 32 = .ok (.aload_n 0, 1) := by decide +kernel
theorem dX1_init_33 : decode cX1_init 33 = .ok (.bipush 40, 2) := by decide +kernel
theorem dX1_init_35 : decode cX1_init 35 = .ok (.newarray .boolean, 2) := by decide +kernel
theorem dX1_init_37 : decode cX1_init 37 = .ok (.putfield 26, 3) := by decide +kernel
theorem dX1_init_40 : decode cX1_init 40 = .ok (.aload_n 0, 1) := by decide +kernel
theorem dX1_init_41 : decode cX1_init 41 = .ok (.bipush 40, 2) := by decide +kernel
theorem dX1_init_43 : decode cX1_init 43 = .ok (.newarray .int, 2) := by decide +kernel
theorem dX1_init_45 : decode cX1_init 45 = .ok (.putfield 29, 3) := by decide +kernel
theorem dX1_init_48 : decode cX1_init 48 = .ok (.aload_n 0, 1) := by decide +kernel
theorem dX1_init_49 : decode cX1_init 49 = .ok (.bipush 120, 2) := by decide +kernel
theorem dX1_init_51 : decode cX1_init 51 = .ok (.newarray .int, 2) := by decide +kernel
theorem dX1_init_53 : decode cX1_init 53 = .ok (.putfield 33, 3) := by decide +kernel
theorem dX1_init_56 : decode cX1_init 56 = .ok (.aload_n 0, 1) := by decide +kernel
theorem dX1_init_57 : decode cX1_init 57 = .ok (.bipush 120, 2) := by decide +kernel
theorem dX1_init_59 : decode cX1_init 59 = .ok (.newarray .int, 2) := by decide +kernel
theorem dX1_init_61 : decode cX1_init 61 = .ok (.putfield 36, 3) := by decide +kernel
theorem dX1_init_64 : decode cX1_init 64 = .ok (.aload_n 0, 1) := by decide +kernel
theorem dX1_init_65 : decode cX1_init 65 = .ok (.bipush 120, 2) := by decide +kernel
theorem dX1_init_67 : decode cX1_init 67 = .ok (.newarray .int, 2) := by decide +kernel
theorem dX1_init_69 : decode cX1_init 69 = .ok (.putfield 39, 3) := by decide +kernel
theorem dX1_init_72 : decode cX1_init 72 = .ok (.aload_n 0, 1) := by decide +kernel
theorem dX1_init_73 : decode cX1_init 73 = .ok (.bipush 120, 2) := by decide +kernel
theorem dX1_init_75 : decode cX1_init 75 = .ok (.newarray .int, 2) := by decide +kernel
theorem dX1_init_77 : decode cX1_init 77 = .ok (.putfield 42, 3) := by decide +kernel
theorem dX1_init_80 : decode cX1_init 80 = .ok (.aload_n 0, 1) := by decide +kernel
theorem dX1_init_81 : decode cX1_init 81 = .ok (.bipush 120, 2) := by decide +kernel
theorem dX1_init_83 : decode cX1_init 83 = .ok (.newarray .int, 2) := by decide +kernel
theorem dX1_init_85 : decode cX1_init 85 = .ok (.putfield 45, 3) := by decide +kernel
theorem dX1_init_88 : decode cX1_init 88 = .ok (.aload_n 0, 1) := by decide +kernel
theorem dX1_init_89 : decode cX1_init 89 = .ok (.bipush 120, 2) := by decide +kernel
theorem dX1_init_91 : decode cX1_init 91 = .ok (.newarray .int, 2) := by decide +kernel
theorem dX1_init_93 : decode cX1_init 93 = .ok (.putfield 48, 3) := by decide +kernel
theorem dX1_init_96 : decode cX1_init 96 = .ok (.aload_n 0, 1) := by decide +kernel
theorem dX1_init_97 : decode cX1_init 97 = .ok (.iconst 0, 1) := by decide +kernel
theorem dX1_init_98 : decode cX1_init 98 = .ok (.newarray .int, 2) := by decide +kernel
theorem dX1_init_100 : decode cX1_init 100 = .ok (.putfield 51, 3) := by decide +kernel
theorem dX1_init_103 : decode cX1_init 103 = .ok (.aload_n 0, 1) := by decide +kernel
theorem dX1_init_104 : decode cX1_init 104 = .ok (.iconst 0, 1) := by decide +kernel
theorem dX1_init_105 : decode cX1_init 105 = .ok (.putfield 54, 3) := by decide +kernel
theorem dX1_init_108 : decode cX1_init 108 = .ok (.aload_n 0, 1) := by decide +kernel
theorem dX1_init_109 : decode cX1_init 109 = .ok (.aload_n 1, 1) := by decide +kernel
theorem dX1_init_110 : decode cX1_init 110 = .ok (.putfield 58, 3) := by decide +kernel
theorem dX1_init_113 : decode cX1_init 113 = .ok (.aload_n 0, 1) := by decide +kernel
theorem dX1_init_114 : decode cX1_init 114 = .ok (.aload_n 2, 1) := by decide +kernel
theorem dX1_init_115 : decode cX1_init 115 = .ok (.putfield 62, 3) := by decide +kernel
theorem dX1_init_118 : decode cX1_init 118 = .ok (.aload_n 0, 1) := by decide +kernel
theorem dX1_init_119 : decode cX1_init 119 = .ok (.aload 4, 2) := by decide +kernel
theorem dX1_init_121 : decode cX1_init 121 = .ok (.putfield 66, 3) := by decide +kernel
theorem dX1_init_124 : decode cX1_init 124 = .ok (.aload_n 0, 1) := by decide +kernel
theorem dX1_init_125 : decode cX1_init 125 = .ok (.new 70, 3) := by decide +kernel
theorem dX1_init_128 : decode cX1_init 128 = .ok (.dup, 1) := by decide +kernel
theorem dX1_init_129 : decode cX1_init 129 = .ok (.aload_n 2, 1) := by decide +kernel
theorem dX1_init_130 : decode cX1_init 130 = .ok (.aload_n 3, 1) := by decide +kernel
theorem dX1_init_131 : decode cX1_init 131 = .ok (.aload 4, 2) := by decide +kernel
theorem dX1_init_133 : decode cX1_init 133 = .ok (.invokespecial 72, 3) := by decide +kernel
theorem dX1_init_136 : decode cX1_init 136 = .ok (.putfield 75, 3) := by decide +kernel
theorem dX1_init_139 : decode cX1_init 139 = .ok (.return_, 1) := by decide +kernel
theorem dX5_init_0 : decode cX5_init 0 = .ok (.aload_n 0, 1) := by decide +kernel
theorem dX5_init_1 : decode cX5_init 1 = .ok (.invokespecial 3, 3) := by decide +kernel
theorem dX5_init_4 : decode cX5_init 4 = .ok (.aload_n 0, 1) := by decide +kernel
theorem dX5_init_5 : decode cX5_init 5 = .ok (.bipush 26, 2) := by decide +kernel
theorem dX5_init_7 : decode cX5_init 7 = .ok (.newarray .int, 2) := by decide +kernel
theorem dX5_init_9 : decode cX5_init 9 = .ok (.putfield 11, 3) := by decide +kernel
theorem dX5_init_12 : decode cX5_init 12 = .ok (.return_, 1) := by decide +kernel
theorem dX3_init_0 : decode cX3_init 0 = .ok (.aload_n 0, 1) := by decide +kernel
theorem dX3_init_1 : decode cX3_init 1 = .ok (.invokespecial 3, 3) := by decide +kernel
theorem dX3_init_4 : decode cX3_init 4 = .ok (.aload_n 0, 1) := by decide +kernel
theorem dX3_init_5 : decode cX3_init 5 = .ok (.sipush 400, 3) := by decide +kernel
theorem dX3_init_8 : decode cX3_init 8 = .ok (.anewarray 9, 3) := by decide +kernel
theorem dX3_init_11 : decode cX3_init 11 = .ok (.putfield 11, 3) := by decide +kernel
theorem dX3_init_14 : decode cX3_init 14 = .ok (.aload_n 0, 1) := by decide +kernel
theorem dX3_init_15 : decode cX3_init 15 = .ok (.sipush 400, 3) := by decide +kernel
theorem dX3_init_18 : decode cX3_init 18 = .ok (.newarray .int, 2) := by decide +kernel
theorem dX3_init_20 : decode cX3_init 20 = .ok (.putfield 17, 3) := by decide +kernel
theorem dX3_init_23 : decode cX3_init 23 = .ok (.aload_n 0, 1) := by decide +kernel
theorem dX3_init_24 : decode cX3_init 24 = .ok (.sipush 400, 3) := by decide +kernel
theorem dX3_init_27 : decode cX3_init 27 = .ok (.newarray .boolean, 2) := by decide +kernel
theorem dX3_init_29 : decode cX3_init 29 = .ok (.putfield 21, 3) := by decide +kernel
theorem dX3_init_32 : decode cX3_init 32 = .ok (.aload_n 0, 1) := by decide +kernel
theorem dX3_init_33 : decode cX3_init 33 = .ok (.sipush 832, 3) := by decide +kernel
theorem dX3_init_36 : decode cX3_init 36 = .ok (.newarray .int, 2) := by decide +kernel
theorem dX3_init_38 : decode cX3_init 38 = .ok (.putfield 25, 3) := by decide +kernel
theorem dX3_init_41 : decode cX3_init 41 = .ok (.aload_n 0, 1) := by decide +kernel
theorem dX3_init_42 : decode cX3_init 42 = .ok (.sipush 300, 3) := by decide +kernel
theorem dX3_init_45 : decode cX3_init 45 = .ok (.newarray .int, 2) := by decide +kernel
theorem dX3_init_47 : decode cX3_init 47 = .ok (.putfield 28, 3) := by decide +kernel
theorem dX3_init_50 : decode cX3_init 50 = .ok (.aload_n 0, 1) := by decide +kernel
theorem dX3_init_51 : decode cX3_init 51 = .ok (.iconst 0, 1) := by decide +kernel
theorem dX3_init_52 : decode cX3_init 52 = .ok (.putfield 31, 3) := by decide +kernel
theorem dX3_init_55 : decode cX3_init 55 = .ok (.aload_n 0, 1) := by decide +kernel
theorem dX3_init_56 : decode cX3_init 56 = .ok (.iconst 0, 1) := by decide +kernel
theorem dX3_init_57 : decode cX3_init 57 = .ok (.putfield 35, 3) := by decide +kernel
theorem dX3_init_60 : decode cX3_init 60 = .ok (.aload_n 0, 1) := by decide +kernel
theorem dX3_init_61 : decode cX3_init 61 = .ok (.aload_n 1, 1) := by decide +kernel
theorem dX3_init_62 : decode cX3_init 62 = .ok (.putfield 38, 3) := by decide +kernel
theorem dX3_init_65 : decode cX3_init 65 = .ok (.aload_n 0, 1) := by decide +kernel
theorem dX3_init_66 : decode cX3_init 66 = .ok (.aload_n 2, 1) := by decide +kernel
theorem dX3_init_67 : decode cX3_init 67 = .ok (.putfield 42, 3) := by decide +kernel
theorem dX3_init_70 : decode cX3_init 70 = .ok (.aload_n 0, 1) := by decide +kernel
theorem dX3_init_71 : decode cX3_init 71 = .ok (.aload_n 3, 1) := by decide +kernel
theorem dX3_init_72 : decode cX3_init 72 = .ok (.putfield 46, 3) := by decide +kernel
theorem dX3_init_75 : decode cX3_init 75 = .ok (.aload_n 0, 1) := by decide +kernel
theorem dX3_init_76 : decode cX3_init 76 = .ok (.getfield 25, 3) := by decide +kernel
theorem dX3_init_79 : decode cX3_init 79 = .ok (.iconst (-1), 1) := by decide +kernel
theorem dX3_init_80 : decode cX3_init 80 = .ok (.invokestatic 50, 3) := by decide +kernel
theorem dX3_init_83 : decode cX3_init 83 = .ok (.return_, 1) := by decide +kernel
theorem dJ7_fill_53178_0 : decode cJ7_fill_53178 0 = .ok (.iconst 0, 1) := by decide +kernel
theorem dJ7_fill_53178_1 : decode cJ7_fill_53178 1 = .ok (.istore_n 2, 1) := by decide +kernel
theorem dJ7_fill_53178_2 : decode cJ7_fill_53178 2 = .ok (.aload_n 0, 1) := by decide +kernel
theorem dJ7_fill_53178_3 : decode cJ7_fill_53178 3 = .ok (.arraylength, 1) := by decide +kernel
theorem dJ7_fill_53178_4 : decode cJ7_fill_53178 4 = .ok (.istore_n 3, 1) := by decide +kernel
theorem dJ7_fill_53178_5 : decode cJ7_fill_53178 5 = .ok (.iload_n 2, 1) := by decide +kernel
theorem dJ7_fill_53178_6 : decode cJ7_fill_53178 6 = .ok (.iload_n 3, 1) := by decide +kernel
theorem dJ7_fill_53178_7 : decode cJ7_fill_53178 7 = .ok (.if_icmp .ge 13, 3) := by decide +kernel
theorem dJ7_fill_53178_10 : decode cJ7_fill_53178 10 = .ok (.aload_n 0, 1) := by decide +kernel
theorem dJ7_fill_53178_11 : decode cJ7_fill_53178 11 = .ok (.iload_n 2, 1) := by decide +kernel
theorem dJ7_fill_53178_12 : decode cJ7_fill_53178 12 = .ok (.iload_n 1, 1) := by decide +kernel
theorem dJ7_fill_53178_13 : decode cJ7_fill_53178 13 = .ok (.iastore, 1) := by decide +kernel
theorem dJ7_fill_53178_14 : decode cJ7_fill_53178 14 = .ok (.iinc 2 1, 3) := by decide +kernel
theorem dJ7_fill_53178_17 : decode cJ7_fill_53178 17 = .ok (.goto (-12), 3) := by decide +kernel
theorem dJ7_fill_53178_20 : decode cJ7_fill_53178 20 = .ok (.return_, 1) := by decide +kernel
theorem dX13_init_0 : decode cX13_init 0 = .ok (.aload_n 0, 1) := by decide +kernel
theorem dX13_init_1 : decode cX13_init 1 = .ok (.invokespecial 1, 3) := by decide +kernel
theorem dX13_init_4 : decode cX13_init 4 = .ok (.aload_n 0, 1) := by decide +kernel
theorem dX13_init_5 : decode cX13_init 5 = .ok (.sipush 600, 3) := by decide +kernel
theorem dX13_init_8 : decode cX13_init 8 = .ok (.newarray .byte, 2) := by decide +kernel
theorem dX13_init_10 : decode cX13_init 10 = .ok (.putfield 9, 3) := by decide +kernel
theorem dX13_init_13 : decode cX13_init 13 = .ok (.aload_n 0, 1) := by decide +kernel
theorem dX13_init_14 : decode cX13_init 14 = .ok (.sipush 4800, 3) := by decide +kernel
theorem dX13_init_17 : decode cX13_init 17 = .ok (.newarray .byte, 2) := by decide +kernel
theorem dX13_init_19 : decode cX13_init 19 = .ok (.putfield 13, 3) := by decide +kernel
theorem dX13_init_22 : decode cX13_init 22 = .ok (.aload_n 0, 1) := by decide +kernel
theorem dX13_init_23 : decode cX13_init 23 = .ok (.sipush 400, 3) := by decide +kernel
theorem dX13_init_26 : decode cX13_init 26 = .ok (.newarray .int, 2) := by decide +kernel
theorem dX13_init_28 : decode cX13_init 28 = .ok (.putfield 16, 3) := by decide +kernel
theorem dX13_init_31 : decode cX13_init 31 = .ok (.aload_n 0, 1) := by decide +kernel
theorem dX13_init_32 : decode cX13_init 32 = .ok (.ldc 20, 2) := by decide +kernel
theorem dX13_init_34 : decode cX13_init 34 = .ok (.newarray .short, 2) := by decide +kernel
theorem dX13_init_36 : decode cX13_init 36 = .ok (.putfield 21, 3) := by decide +kernel
theorem dX13_init_39 : decode cX13_init 39 = .ok (.aload_n 0, 1) := by decide +kernel
theorem dX13_init_40 : decode cX13_init 40 = .ok (.bipush 120, 2) := by decide +kernel
theorem dX13_init_42 : decode cX13_init 42 = .ok (.newarray .boolean, 2) := by decide +kernel
theorem dX13_init_44 : decode cX13_init 44 = .ok (.putfield 25, 3) := by decide +kernel
theorem dX13_init_47 : decode cX13_init 47 = .ok (.aload_n 0, 1) := by decide +kernel
theorem dX13_init_48 : decode cX13_init 48 = .ok (.bipush 120, 2) := by decide +kernel
theorem dX13_init_50 : decode cX13_init 50 = .ok (.newarray .boolean, 2) := by decide +kernel
theorem dX13_init_52 : decode cX13_init 52 = .ok (.putfield 29, 3) := by decide +kernel
theorem dX13_init_55 : decode cX13_init 55 = .ok (.aload_n 0, 1) := by decide +kernel
theorem dX13_init_56 : decode cX13_init 56 = .ok (.bipush 120, 2) := by decide +kernel
theorem dX13_init_58 : decode cX13_init 58 = .ok (.newarray .int, 2) := by decide +kernel
theorem dX13_init_60 : decode cX13_init 60 = .ok (.putfield 32, 3) := by decide +kernel
theorem dX13_init_63 : decode cX13_init 63 = .ok (.aload_n 0, 1) := by decide +kernel
theorem dX13_init_64 : decode cX13_init 64 = .ok (.bipush 120, 2) := by decide +kernel
theorem dX13_init_66 : decode cX13_init 66 = .ok (.newarray .int, 2) := by decide +kernel
theorem dX13_init_68 : decode cX13_init 68 = .ok (.putfield 35, 3) := by decide +kernel
theorem dX13_init_71 : decode cX13_init 71 = .ok (.aload_n 0, 1) := by decide +kernel
theorem dX13_init_72 : decode cX13_init 72 = .ok (.bipush 120, 2) := by decide +kernel
theorem dX13_init_74 : decode cX13_init 74 = .ok (.newarray .int, 2) := by decide +kernel
theorem dX13_init_76 : decode cX13_init 76 = .ok (.putfield 38, 3) := by decide +kernel
theorem dX13_init_79 : decode cX13_init 79 = .ok (.aload_n 0, 1) := by decide +kernel
theorem dX13_init_80 : decode cX13_init 80 = .ok (.bipush 120, 2) := by decide +kernel
theorem dX13_init_82 : decode cX13_init 82 = .ok (.newarray .int, 2) := by decide +kernel
theorem dX13_init_84 : decode cX13_init 84 = .ok (.putfield 41, 3) := by decide +kernel
theorem dX13_init_87 : decode cX13_init 87 = .ok (.aload_n 0, 1) := by decide +kernel
theorem dX13_init_88 : decode cX13_init 88 = .ok (.bipush 120, 2) := by decide +kernel
theorem dX13_init_90 : decode cX13_init 90 = .ok (.newarray .int, 2) := by decide +kernel
theorem dX13_init_92 : decode cX13_init 92 = .ok (.putfield 44, 3) := by decide +kernel
theorem dX13_init_95 : decode cX13_init 95 = .ok (.aload_n 0, 1) := by decide +kernel
theorem dX13_init_96 : decode cX13_init 96 = .ok (.bipush 120, 2) := by decide +kernel
theorem dX13_init_98 : decode cX13_init 98 = .ok (.newarray .byte, 2) := by decide +kernel
theorem dX13_init_100 : decode cX13_init 100 = .ok (.putfield 47, 3) := by decide +kernel
theorem dX13_init_103 : decode cX13_init 103 = .ok (.aload_n 0, 1) := by decide +kernel
theorem dX13_init_104 : decode cX13_init 104 = .ok (.bipush 10, 2) := by decide +kernel
theorem dX13_init_106 : decode cX13_init 106 = .ok (.newarray .int, 2) := by decide +kernel
theorem dX13_init_108 : decode cX13_init 108 = .ok (.putfield 50, 3) := by decide +kernel
theorem dX13_init_111 : decode cX13_init 111 = .ok (.aload_n 0, 1) := by decide +kernel
theorem dX13_init_112 : decode cX13_init 112 = .ok (.bipush 12, 2) := by decide +kernel
theorem dX13_init_114 : decode cX13_init 114 = .ok (.newarray .byte, 2) := by decide +kernel
theorem dX13_init_116 : decode cX13_init 116 = .ok (.putfield 53, 3) := by decide +kernel
theorem dX13_init_119 : decode cX13_init 119 = .ok (.aload_n 0, 1) := by decide +kernel
theorem dX13_init_120 : decode cX13_init 120 = .ok (.iconst (-1), 1) := by decide +kernel
theorem dX13_init_121 : decode cX13_init 121 = .ok (.putfield 56, 3) := by decide +kernel
theorem dX13_init_124 : decode cX13_init 124 = .ok (.aload_n 0, 1) := by decide +kernel
theorem dX13_init_125 : decode cX13_init 125 = .ok (.bipush 12, 2) := by decide +kernel
theorem dX13_init_127 : decode cX13_init 127 = .ok (.newarray .byte, 2) := by decide +kernel
theorem dX13_init_129 : decode cX13_init 129 = .ok (.putfield 60, 3) := by decide +kernel
theorem dX13_init_132 : decode cX13_init 132 = .ok (.aload_n 0, 1) := by decide +kernel
theorem dX13_init_133 : decode cX13_init 133 = .ok (.ldc 63, 2) := by decide +kernel
theorem dX13_init_135 : decode cX13_init 135 = .ok (.newarray .byte, 2) := by decide +kernel
theorem dX13_init_137 : decode cX13_init 137 = .ok (.putfield 64, 3) := by decide +kernel
theorem dX13_init_140 : decode cX13_init 140 = .ok (.aload_n 0, 1) := by decide +kernel
theorem dX13_init_141 : decode cX13_init 141 = .ok (.sipush 400, 3) := by decide +kernel
theorem dX13_init_144 : decode cX13_init 144 = .ok (.newarray .int, 2) := by decide +kernel
theorem dX13_init_146 : decode cX13_init 146 = .ok (.putfield 67, 3) := by decide +kernel
theorem dX13_init_149 : decode cX13_init 149 = .ok (.aload_n 0, 1) := by decide +kernel
theorem dX13_init_150 : decode cX13_init 150 = .ok (.sipush 400, 3) := by decide +kernel
theorem dX13_init_153 : decode cX13_init 153 = .ok (.newarray .int, 2) := by decide +kernel
theorem dX13_init_155 : decode cX13_init 155 = .ok (.putfield 70, 3) := by decide +kernel
theorem dX13_init_158 : decode cX13_init 158 = .ok (.aload_n 0, 1) := by decide +kernel
theorem dX13_init_159 : decode cX13_init 159 = .ok (.sipush 400, 3) := by decide +kernel
theorem dX13_init_162 : decode cX13_init 162 = .ok (.newarray .int, 2) := by decide +kernel
theorem dX13_init_164 : decode cX13_init 164 = .ok (.putfield 73, 3) := by decide +kernel
theorem dX13_init_167 : decode cX13_init 167 = .ok (.aload_n 0, 1) := by decide +kernel
theorem dX13_init_168 : decode cX13_init 168 = .ok (.sipush 400, 3) := by decide +kernel
theorem dX13_init_171 : decode cX13_init 171 = .ok (.newarray .int, 2) := by decide +kernel
theorem dX13_init_173 : decode cX13_init 173 = .ok (.putfield 76, 3) := by decide +kernel
theorem dX13_init_176 : decode cX13_init 176 = .ok (.aload_n 0, 1) := by decide +kernel
theorem dX13_init_177 : decode cX13_init 177 = .ok (.sipush 400, 3) := by decide +kernel
theorem dX13_init_180 : decode cX13_init 180 = .ok (.newarray .short, 2) := by decide +kernel
theorem dX13_init_182 : decode cX13_init 182 = .ok (.putfield 79, 3) := by decide +kernel
theorem dX13_init_185 : decode cX13_init 185 = .ok (.aload_n 0, 1) := by decide +kernel
theorem dX13_init_186 : decode cX13_init 186 = .ok (.new 82, 3) := by decide +kernel
theorem dX13_init_189 : decode cX13_init 189 = .ok (.dup, 1) := by decide +kernel
theorem dX13_init_190 : decode cX13_init 190 = .ok (.invokespecial 84, 3) := by decide +kernel
theorem dX13_init_193 : decode cX13_init 193 = .ok (.putfield 85, 3) := by decide +kernel
theorem dX13_init_196 : decode cX13_init 196 = .ok (.aload_n 0, 1) := by decide +kernel
theorem dX13_init_197 : decode cX13_init 197 = .ok (.sipush 1300, 3) := by decide +kernel
theorem dX13_init_200 : decode cX13_init 200 = .ok (.newarray .int, 2) := by decide +kernel
theorem dX13_init_202 : decode cX13_init 202 = .ok (.putfield 89, 3) := by decide +kernel
theorem dX13_init_205 : decode cX13_init 205 = .ok (.aload_n 0, 1) := by decide +kernel
theorem dX13_init_206 : decode cX13_init 206 = .ok (.sipush 1300, 3) := by decide +kernel
theorem dX13_init_209 : decode cX13_init 209 = .ok (.newarray .int, 2) := by decide +kernel
theorem dX13_init_211 : decode cX13_init 211 = .ok (.putfield 92, 3) := by decide +kernel
theorem dX13_init_214 : decode cX13_init 214 = .ok (.aload_n 0, 1) := by decide +kernel
theorem dX13_init_215 : decode cX13_init 215 = .ok (.sipush 1300, 3) := by decide +kernel
theorem dX13_init_218 : decode cX13_init 218 = .ok (.newarray .int, 2) := by decide +kernel
theorem dX13_init_220 : decode cX13_init 220 = .ok (.putfield 95, 3) := by decide +kernel
theorem dX13_init_223 : decode cX13_init 223 = .ok (.aload_n 0, 1) := by decide +kernel
theorem dX13_init_224 : decode cX13_init 224 = .ok (.sipush 1300, 3) := by decide +kernel
theorem dX13_init_227 : decode cX13_init 227 = .ok (.newarray .int, 2) := by decide +kernel
theorem dX13_init_229 : decode cX13_init 229 = .ok (.putfield 98, 3) := by decide +kernel
theorem dX13_init_232 : decode cX13_init 232 = .ok (.aload_n 0, 1) := by decide +kernel
theorem dX13_init_233 : decode cX13_init 233 = .ok (.bipush 40, 2) := by decide +kernel
theorem dX13_init_235 : decode cX13_init 235 = .ok (.newarray .int, 2) := by decide +kernel
theorem dX13_init_237 : decode cX13_init 237 = .ok (.putfield 101, 3) := by decide +kernel
theorem dX13_init_240 : decode cX13_init 240 = .ok (.aload_n 0, 1) := by decide +kernel
theorem dX13_init_241 : decode cX13_init 241 = .ok (.bipush 40, 2) := by decide +kernel
theorem dX13_init_243 : decode cX13_init 243 = .ok (.newarray .int, 2) := by decide +kernel
theorem dX13_init_245 : decode cX13_init 245 = .ok (.putfield 104, 3) := by decide +kernel
theorem dX13_init_248 : decode cX13_init 248 = .ok (.aload_n 0, 1) := by decide +kernel
theorem dX13_init_249 : decode cX13_init 249 = .ok (.bipush 40, 2) := by decide +kernel
theorem dX13_init_251 : decode cX13_init 251 = .ok (.newarray .int, 2) := by decide +kernel
theorem dX13_init_253 : decode cX13_init 253 = .ok (.putfield 107, 3) := by decide +kernel
theorem dX13_init_256 : decode cX13_init 256 = .ok (.aload_n 0, 1) := by decide +kernel
theorem dX13_init_257 : decode cX13_init 257 = .ok (.bipush 40, 2) := by decide +kernel
theorem dX13_init_259 : decode cX13_init 259 = .ok (.newarray .int, 2) := by decide +kernel
theorem dX13_init_261 : decode cX13_init 261 = .ok (.putfield 110, 3) := by decide +kernel
theorem dX13_init_264 : decode cX13_init 264 = .ok (.aload_n 0, 1) := by decide +kernel
theorem dX13_init_265 : decode cX13_init 265 = .ok (.sipush 2400, 3) := by decide +kernel
theorem dX13_init_268 : decode cX13_init 268 = .ok (.newarray .byte, 2) := by decide +kernel
theorem dX13_init_270 : decode cX13_init 270 = .ok (.putfield 113, 3) := by decide +kernel
theorem dX13_init_273 : decode cX13_init 273 = .ok (.aload_n 0, 1) := by decide +kernel
theorem dX13_init_274 : decode cX13_init 274 = .ok (.sipush 200, 3) := by decide +kernel
theorem dX13_init_277 : decode cX13_init 277 = .ok (.newarray .int, 2) := by decide +kernel
theorem dX13_init_279 : decode cX13_init 279 = .ok (.putfield 116, 3) := by decide +kernel
theorem dX13_init_282 : decode cX13_init 282 = .ok (.aload_n 0, 1) := by decide +kernel
theorem dX13_init_283 : decode cX13_init 283 = .ok (.sipush 1300, 3) := by decide +kernel
theorem dX13_init_286 : decode cX13_init 286 = .ok (.newarray .int, 2) := by decide +kernel
theorem dX13_init_288 : decode cX13_init 288 = .ok (.putfield 119, 3) := by decide +kernel
theorem dX13_init_291 : decode cX13_init 291 = .ok (.aload_n 0, 1) := by decide +kernel
theorem dX13_init_292 : decode cX13_init 292 = .ok (.sipush 1300, 3) := by decide +kernel
theorem dX13_init_295 : decode cX13_init 295 = .ok (.newarray .boolean, 2) := by decide +kernel
theorem dX13_init_297 : decode cX13_init 297 = .ok (.putfield 122, 3) := by decide +kernel
theorem dX13_init_300 : decode cX13_init 300 = .ok (.aload_n 0, 1) := by decide +kernel
theorem dX13_init_301 : decode cX13_init 301 = .ok (.sipush 168, 3) := by decide +kernel
theorem dX13_init_304 : decode cX13_init 304 = .ok (.newarray .int, 2) := by decide +kernel
theorem dX13_init_306 : decode cX13_init 306 = .ok (.putfield 125, 3) := by decide +kernel
theorem dX13_init_309 : decode cX13_init 309 = .ok (.aload_n 0, 1) := by decide +kernel
theorem dX13_init_310 : decode cX13_init 310 = .ok (.sipush 168, 3) := by decide +kernel
theorem dX13_init_313 : decode cX13_init 313 = .ok (.newarray .int, 2) := by decide +kernel
theorem dX13_init_315 : decode cX13_init 315 = .ok (.putfield 128, 3) := by decide +kernel
theorem dX13_init_318 : decode cX13_init 318 = .ok (.aload_n 0, 1) := by decide +kernel
theorem dX13_init_319 : decode cX13_init 319 = .ok (.sipush 200, 3) := by decide +kernel
theorem dX13_init_322 : decode cX13_init 322 = .ok (.newarray .int, 2) := by decide +kernel
theorem dX13_init_324 : decode cX13_init 324 = .ok (.putfield 131, 3) := by decide +kernel
theorem dX13_init_327 : decode cX13_init 327 = .ok (.aload_n 0, 1) := by decide +kernel
theorem dX13_init_328 : decode cX13_init 328 = .ok (.sipush 16000, 3) := by decide +kernel
theorem dX13_init_331 : decode cX13_init 331 = .ok (.newarray .boolean, 2) := by decide +kernel
theorem dX13_init_333 : decode cX13_init 333 = .ok (.putfield 134, 3) := by decide +kernel
theorem dX13_init_336 : decode cX13_init 336 = .ok (.aload_n 0, 1) := by decide +kernel
theorem dX13_init_337 : decode cX13_init 337 = .ok (.bipush 40, 2) := by decide +kernel
theorem dX13_init_339 : decode cX13_init 339 = .ok (.newarray .boolean, 2) := by decide +kernel
theorem dX13_init_341 : decode cX13_init 341 = .ok (.putfield 137, 3) := by decide +kernel
theorem dX13_init_344 : decode cX13_init 344 = .ok (.aload_n 0, 1) := by decide +kernel
theorem dX13_init_345 : decode cX13_init 345 = .ok (.bipush 40, 2) := by decide +kernel
theorem dX13_init_347 : decode cX13_init 347 = .ok (.newarray .int, 2) := by decide +kernel
theorem dX13_init_349 : decode cX13_init 349 = .ok (.putfield 140, 3) := by decide +kernel
theorem dX13_init_352 : decode cX13_init 352 = .ok (.aload_n 0, 1) := by decide +kernel
theorem dX13_init_353 : decode cX13_init 353 = .ok (.bipush 40, 2) := by decide +kernel
theorem dX13_init_355 : decode cX13_init 355 = .ok (.newarray .int, 2) := by decide +kernel
theorem dX13_init_357 : decode cX13_init 357 = .ok (.putfield 143, 3) := by decide +kernel
theorem dX13_init_360 : decode cX13_init 360 = .ok (.aload_n 0, 1) := by decide +kernel
theorem dX13_init_361 : decode cX13_init 361 = .ok (.sipush 1034, 3) := by decide +kernel
theorem dX13_init_364 : decode cX13_init 364 = .ok (.newarray .boolean, 2) := by decide +kernel
theorem dX13_init_366 : decode cX13_init 366 = .ok (.putfield 146, 3) := by decide +kernel
theorem dX13_init_369 : decode cX13_init 369 = .ok (.aload_n 0, 1) := by decide +kernel
theorem dX13_init_370 : decode cX13_init 370 = .ok (.bipush 120, 2) := by decide +kernel
theorem dX13_init_372 : decode cX13_init 372 = .ok (.newarray .int, 2) := by decide +kernel
theorem dX13_init_374 : decode cX13_init 374 = .ok (.putfield 149, 3) := by decide +kernel
theorem dX13_init_377 : decode cX13_init 377 = .ok (.aload_n 0, 1) := by decide +kernel
theorem dX13_init_378 : decode cX13_init 378 = .ok (.bipush 120, 2) := by decide +kernel
theorem dX13_init_380 : decode cX13_init 380 = .ok (.newarray .int, 2) := by decide +kernel
theorem dX13_init_382 : decode cX13_init 382 = .ok (.putfield 152, 3) := by decide +kernel
theorem dX13_init_385 : decode cX13_init 385 = .ok (.aload_n 0, 1) := by decide +kernel
theorem dX13_init_386 : decode cX13_init 386 = .ok (.bipush 120, 2) := by decide +kernel
theorem dX13_init_388 : decode cX13_init 388 = .ok (.newarray .int, 2) := by decide +kernel
theorem dX13_init_390 : decode cX13_init 390 = .ok (.putfield 155, 3) := by decide +kernel
theorem dX13_init_393 : decode cX13_init 393 = .ok (.aload_n 0, 1) := by decide +kernel
theorem dX13_init_394 : decode cX13_init 394 = .ok (.bipush 120, 2) := by decide +kernel
theorem dX13_init_396 : decode cX13_init 396 = .ok (.newarray .int, 2) := by decide +kernel
theorem dX13_init_398 : decode cX13_init 398 = .ok (.putfield 158, 3) := by decide +kernel
theorem dX13_init_401 : decode cX13_init 401 = .ok (.aload_n 0, 1) := by decide +kernel
theorem dX13_init_402 : decode cX13_init 402 = .ok (.bipush 13, 2) := by decide +kernel
theorem dX13_init_404 : decode cX13_init 404 = .ok (.newarray .int, 2) := by decide +kernel
theorem dX13_init_406 : decode cX13_init 406 = .ok (.putfield 161, 3) := by decide +kernel
theorem dX13_init_409 : decode cX13_init 409 = .ok (.aload_n 0, 1) := by decide +kernel
theorem dX13_init_410 : decode cX13_init 410 = .ok (.sipush 400, 3) := by decide +kernel
theorem dX13_init_413 : decode cX13_init 413 = .ok (.newarray .int, 2) := by decide +kernel
theorem dX13_init_415 : decode cX13_init 415 = .ok (.putfield 164, 3) := by decide +kernel
theorem dX13_init_418 : decode cX13_init 418 = .ok (.aload_n 0, 1) := by decide +kernel
theorem dX13_init_419 : decode cX13_init 419 = .ok (.sipush 400, 3) := by decide +kernel
theorem dX13_init_422 : decode cX13_init 422 = .ok (.newarray .int, 2) := by decide +kernel
theorem dX13_init_424 : decode cX13_init 424 = .ok (.putfield 167, 3) := by decide +kernel
theorem dX13_init_427 : decode cX13_init 427 = .ok (.return_, 1) := by decide +kernel
theorem dX12_init_0 : decode cX12_init 0 = .ok (.aload_n 0, 1) := by decide +kernel
theorem dX12_init_1 : decode cX12_init 1 = .ok (.aconst_null, 1) := by decide +kernel
theorem dX12_init_2 : decode cX12_init 2 = .ok (.aconst_null, 1) := by decide +kernel
theorem dX12_init_3 : decode cX12_init 3 = .ok (.iconst 0, 1) := by decide +kernel
theorem dX12_init_4 : decode cX12_init 4 = .ok (.iconst 0, 1) := by decide +kernel
theorem dX12_init_5 : decode cX12_init 5 = .ok (.invokespecial 1, 3) := by decide +kernel
theorem dX12_init_8 : decode cX12_init 8 = .ok (.return_, 1) := by decide +kernel
theorem dX11_feed_0 : decode cX11_feed 0 = .ok (.aload_n 0, 1) := by decide +kernel
theorem dX11_feed_1 : decode cX11_feed 1 = .ok (.getfield 12, 3) := by decide +kernel
theorem dX11_feed_4 : decode cX11_feed 4 = .ok (.bipush 20, 2) := by decide +kernel
theorem dX11_feed_6 : decode cX11_feed 6 = .ok (.invokevirtual 94, 3) := by decide +kernel
theorem dX11_feed_9 : decode cX11_feed 9 = .ok (.ifCond .ne 6, 3) := by decide +kernel
theorem dX11_feed_15 : decode cX11_feed 15 = .ok (.aload_n 0, 1) := by decide +kernel
theorem dX11_feed_16 : decode cX11_feed 16 = .ok (.getfield 12, 3) := by decide +kernel
theorem dX11_feed_19 : decode cX11_feed 19 = .ok (.iload_n 1, 1) := by decide +kernel
theorem dX11_feed_20 : decode cX11_feed 20 = .ok (.invokevirtual 98, 3) := by decide +kernel
theorem dX11_feed_23 : decode cX11_feed 23 = .ok (.aload_n 0, 1) := by decide +kernel
theorem dX11_feed_24 : decode cX11_feed 24 = .ok (.getfield 12, 3) := by decide +kernel
theorem dX11_feed_27 : decode cX11_feed 27 = .ok (.iload_n 2, 1) := by decide +kernel
theorem dX11_feed_28 : decode cX11_feed 28 = .ok (.invokevirtual 98, 3) := by decide +kernel
theorem dX11_feed_31 : decode cX11_feed 31 = .ok (.aload_n 0, 1) := by decide +kernel
theorem dX11_feed_32 : decode cX11_feed 32 = .ok (.getfield 12, 3) := by decide +kernel
theorem dX11_feed_35 : decode cX11_feed 35 = .ok (.iload_n 3, 1) := by decide +kernel
theorem dX11_feed_36 : decode cX11_feed 36 = .ok (.invokevirtual 98, 3) := by decide +kernel
theorem dX11_feed_39 : decode cX11_feed 39 = .ok (.aload_n 0, 1) := by decide +kernel
theorem dX11_feed_40 : decode cX11_feed 40 = .ok (.getfield 12, 3) := by decide +kernel
theorem dX11_feed_43 : decode cX11_feed 43 = .ok (.iload 4, 2) := by decide +kernel
theorem dX11_feed_45 : decode cX11_feed 45 = .ok (.invokevirtual 98, 3) := by decide +kernel
theorem dX11_feed_48 : decode cX11_feed 48 = .ok (.aload_n 0, 1) := by decide +kernel
theorem dX11_feed_49 : decode cX11_feed 49 = .ok (.getfield 12, 3) := by decide +kernel
theorem dX11_feed_52 : decode cX11_feed 52 = .ok (.iload 5, 2) := by decide +kernel
theorem dX11_feed_54 : decode cX11_feed 54 = .ok (.invokevirtual 98, 3) := by decide +kernel
theorem dX11_feed_57 : decode cX11_feed 57 = .ok (.aload_n 0, 1) := by decide +kernel
theorem dX11_feed_58 : decode cX11_feed 58 = .ok (.getfield 12, 3) := by decide +kernel
theorem dX11_feed_61 : decode cX11_feed 61 = .ok (.invokevirtual 101, 3) := by decide +kernel
theorem dX11_feed_64 : decode cX11_feed 64 = .ok (.ireturn, 1) := by decide +kernel
theorem dX9_hasRoom_0 : decode cX9_hasRoom 0 = .ok (.aload_n 0, 1) := by decide +kernel
theorem dX9_hasRoom_1 : decode cX9_hasRoom 1 = .ok (.getfield 18, 3) := by decide +kernel
theorem dX9_hasRoom_4 : decode cX9_hasRoom 4 = .ok (.iload_n 1, 1) := by decide +kernel
theorem dX9_hasRoom_5 : decode cX9_hasRoom 5 = .ok (.iadd, 1) := by decide +kernel
theorem dX9_hasRoom_6 : decode cX9_hasRoom 6 = .ok (.sipush 600, 3) := by decide +kernel
theorem dX9_hasRoom_9 : decode cX9_hasRoom 9 = .ok (.if_icmp .gt 7, 3) := by decide +kernel
theorem dX9_hasRoom_12 : decode cX9_hasRoom 12 = .ok (.iconst 1, 1) := by decide +kernel
theorem dX9_hasRoom_13 : decode cX9_hasRoom 13 = .ok (.goto 4, 3) := by decide +kernel
theorem dX9_hasRoom_17 : decode cX9_hasRoom 17 = .ok (.ireturn, 1) := by decide +kernel
theorem dX9_put_0 : decode cX9_put 0 = .ok (.bipush 24, 2) := by decide +kernel
theorem dX9_put_2 : decode cX9_put 2 = .ok (.istore_n 2, 1) := by decide +kernel
theorem dX9_put_3 : decode cX9_put 3 = .ok (.iload_n 2, 1) := by decide +kernel
theorem dX9_put_4 : decode cX9_put 4 = .ok (.ifCond .lt 42, 3) := by decide +kernel
theorem dX9_put_7 : decode cX9_put 7 = .ok (.aload_n 0, 1) := by decide +kernel
theorem dX9_put_8 : decode cX9_put 8 = .ok (.getfield 18, 3) := by decide +kernel
theorem dX9_put_11 : decode cX9_put 11 = .ok (.sipush 600, 3) := by decide +kernel
theorem dX9_put_14 : decode cX9_put 14 = .ok (.if_icmp .ge 32, 3) := by decide +kernel
theorem dX9_put_17 : decode cX9_put 17 = .ok (.aload_n 0, 1) := by decide +kernel
theorem dX9_put_18 : decode cX9_put 18 = .ok (.getfield 9, 3) := by decide +kernel
theorem dX9_put_21 : decode cX9_put 21 = .ok (.aload_n 0, 1) := by decide +kernel
theorem dX9_put_22 : decode cX9_put 22 = .ok (.getfield 18, 3) := by decide +kernel
theorem dX9_put_25 : decode cX9_put 25 = .ok (.iload_n 1, 1) := by decide +kernel
theorem dX9_put_26 : decode cX9_put 26 = .ok (.iload_n 2, 1) := by decide +kernel
theorem dX9_put_27 : decode cX9_put 27 = .ok (.iushr, 1) := by decide +kernel
theorem dX9_put_28 : decode cX9_put 28 = .ok (.i2b, 1) := by decide +kernel
theorem dX9_put_29 : decode cX9_put 29 = .ok (.bastore, 1) := by decide +kernel
theorem dX9_put_30 : decode cX9_put 30 = .ok (.aload_n 0, 1) := by decide +kernel
theorem dX9_put_31 : decode cX9_put 31 = .ok (.dup, 1) := by decide +kernel
theorem dX9_put_32 : decode cX9_put 32 = .ok (.getfield 18, 3) := by decide +kernel
theorem dX9_put_35 : decode cX9_put 35 = .ok (.iconst 1, 1) := by decide +kernel
theorem dX9_put_36 : decode cX9_put 36 = .ok (.iadd, 1) := by decide +kernel
theorem dX9_put_37 : decode cX9_put 37 = .ok (.putfield 18, 3) := by decide +kernel
theorem dX9_put_40 : decode cX9_put 40 = .ok (.iinc 2 (-8), 3) := by decide +kernel
theorem dX9_put_43 : decode cX9_put 43 = .ok (.goto (-40), 3) := by decide +kernel
theorem dX9_put_46 : decode cX9_put 46 = .ok (.return_, 1) := by decide +kernel
theorem dX9_size_0 : decode cX9_size 0 = .ok (.aload_n 0, 1) := by decide +kernel
theorem dX9_size_1 : decode cX9_size 1 = .ok (.getfield 18, 3) := by decide +kernel
theorem dX9_size_4 : decode cX9_size 4 = .ok (.ireturn, 1) := by decide +kernel
theorem dX13_feed_0 : decode cX13_feed 0 = .ok (.aload_n 0, 1) := by decide +kernel
theorem dX13_feed_1 : decode cX13_feed 1 = .ok (.iconst 0, 1) := by decide +kernel
theorem dX13_feed_2 : decode cX13_feed 2 = .ok (.putfield 170, 3) := by decide +kernel
theorem dX13_feed_5 : decode cX13_feed 5 = .ok (.aload_n 0, 1) := by decide +kernel
theorem dX13_feed_6 : decode cX13_feed 6 = .ok (.getfield 173, 3) := by decide +kernel
theorem dX13_feed_9 : decode cX13_feed 9 = .ok (.bipush 20, 2) := by decide +kernel
theorem dX13_feed_11 : decode cX13_feed 11 = .ok (.iadd, 1) := by decide +kernel
theorem dX13_feed_12 : decode cX13_feed 12 = .ok (.sipush 600, 3) := by decide +kernel
theorem dX13_feed_15 : decode cX13_feed 15 = .ok (.if_icmp .le 6, 3) := by decide +kernel
theorem dX13_feed_21 : decode cX13_feed 21 = .ok (.aload_n 0, 1) := by decide +kernel
theorem dX13_feed_22 : decode cX13_feed 22 = .ok (.iload_n 1, 1) := by decide +kernel
theorem dX13_feed_23 : decode cX13_feed 23 = .ok (.invokevirtual 176, 3) := by decide +kernel
theorem dX13_feed_26 : decode cX13_feed 26 = .ok (.aload_n 0, 1) := by decide +kernel
theorem dX13_feed_27 : decode cX13_feed 27 = .ok (.iload_n 2, 1) := by decide +kernel
theorem dX13_feed_28 : decode cX13_feed 28 = .ok (.invokevirtual 176, 3) := by decide +kernel
theorem dX13_feed_31 : decode cX13_feed 31 = .ok (.aload_n 0, 1) := by decide +kernel
theorem dX13_feed_32 : decode cX13_feed 32 = .ok (.iload_n 3, 1) := by decide +kernel
theorem dX13_feed_33 : decode cX13_feed 33 = .ok (.invokevirtual 176, 3) := by decide +kernel
theorem dX13_feed_36 : decode cX13_feed 36 = .ok (.aload_n 0, 1) := by decide +kernel
theorem dX13_feed_37 : decode cX13_feed 37 = .ok (.iload 4, 2) := by decide +kernel
theorem dX13_feed_39 : decode cX13_feed 39 = .ok (.invokevirtual 176, 3) := by decide +kernel
theorem dX13_feed_42 : decode cX13_feed 42 = .ok (.aload_n 0, 1) := by decide +kernel
theorem dX13_feed_43 : decode cX13_feed 43 = .ok (.iload 5, 2) := by decide +kernel
theorem dX13_feed_45 : decode cX13_feed 45 = .ok (.invokevirtual 176, 3) := by decide +kernel
theorem dX13_feed_48 : decode cX13_feed 48 = .ok (.aload_n 0, 1) := by decide +kernel
theorem dX13_feed_49 : decode cX13_feed 49 = .ok (.getfield 173, 3) := by decide +kernel
theorem dX13_feed_52 : decode cX13_feed 52 = .ok (.ireturn, 1) := by decide +kernel
theorem dX13_lay_0 : decode cX13_lay 0 = .ok (.bipush 24, 2) := by decide +kernel
theorem dX13_lay_2 : decode cX13_lay 2 = .ok (.istore_n 2, 1) := by decide +kernel
theorem dX13_lay_3 : decode cX13_lay 3 = .ok (.iload_n 2, 1) := by decide +kernel
theorem dX13_lay_4 : decode cX13_lay 4 = .ok (.ifCond .lt 32, 3) := by decide +kernel
theorem dX13_lay_7 : decode cX13_lay 7 = .ok (.aload_n 0, 1) := by decide +kernel
theorem dX13_lay_8 : decode cX13_lay 8 = .ok (.getfield 9, 3) := by decide +kernel
theorem dX13_lay_11 : decode cX13_lay 11 = .ok (.aload_n 0, 1) := by decide +kernel
theorem dX13_lay_12 : decode cX13_lay 12 = .ok (.getfield 173, 3) := by decide +kernel
theorem dX13_lay_15 : decode cX13_lay 15 = .ok (.iload_n 1, 1) := by decide +kernel
theorem dX13_lay_16 : decode cX13_lay 16 = .ok (.iload_n 2, 1) := by decide +kernel
theorem dX13_lay_17 : decode cX13_lay 17 = .ok (.ishr, 1) := by decide +kernel
theorem dX13_lay_18 : decode cX13_lay 18 = .ok (.i2b, 1) := by decide +kernel
theorem dX13_lay_19 : decode cX13_lay 19 = .ok (.bastore, 1) := by decide +kernel
theorem dX13_lay_20 : decode cX13_lay 20 = .ok (.aload_n 0, 1) := by decide +kernel
theorem dX13_lay_21 : decode cX13_lay 21 = .ok (.dup, 1) := by decide +kernel
theorem dX13_lay_22 : decode cX13_lay 22 = .ok (.getfield 173, 3) := by decide +kernel
theorem dX13_lay_25 : decode cX13_lay 25 = .ok (.iconst 1, 1) := by decide +kernel
theorem dX13_lay_26 : decode cX13_lay 26 = .ok (.iadd, 1) := by decide +kernel
theorem dX13_lay_27 : decode cX13_lay 27 = .ok (.putfield 173, 3) := by decide +kernel
theorem dX13_lay_30 : decode cX13_lay 30 = .ok (.iinc 2 (-8), 3) := by decide +kernel
theorem dX13_lay_33 : decode cX13_lay 33 = .ok (.goto (-30), 3) := by decide +kernel
theorem dX13_lay_36 : decode cX13_lay 36 = .ok (.return_, 1) := by decide +kernel
theorem dX11_end_0 : decode cX11_end 0 = .ok (.aload_n 0, 1) := by decide +kernel
theorem dX11_end_1 : decode cX11_end 1 = .ok (.getfield 12, 3) := by decide +kernel
theorem dX11_end_4 : decode cX11_end 4 = .ok (.iload_n 1, 1) := by decide +kernel
theorem dX11_end_5 : decode cX11_end 5 = .ok (.invokevirtual 105, 3) := by decide +kernel
theorem dX11_end_8 : decode cX11_end 8 = .ok (.ifCond .eq 7, 3) := by decide +kernel
theorem dX11_end_11 : decode cX11_end 11 = .ok (.iload_n 1, 1) := by decide +kernel
theorem dX11_end_12 : decode cX11_end 12 = .ok (.goto 4, 3) := by decide +kernel
theorem dX11_end_15 : decode cX11_end 15 = .ok (.iconst (-1), 1) := by decide +kernel
theorem dX11_end_16 : decode cX11_end 16 = .ok (.ireturn, 1) := by decide +kernel
theorem dX9_cut_0 : decode cX9_cut 0 = .ok (.iload_n 1, 1) := by decide +kernel
theorem dX9_cut_1 : decode cX9_cut 1 = .ok (.ifCond .lt 11, 3) := by decide +kernel
theorem dX9_cut_4 : decode cX9_cut 4 = .ok (.iload_n 1, 1) := by decide +kernel
theorem dX9_cut_5 : decode cX9_cut 5 = .ok (.aload_n 0, 1) := by decide +kernel
theorem dX9_cut_6 : decode cX9_cut 6 = .ok (.getfield 18, 3) := by decide +kernel
theorem dX9_cut_9 : decode cX9_cut 9 = .ok (.if_icmp .le 5, 3) := by decide +kernel
theorem dX9_cut_12 : decode cX9_cut 12 = .ok (.iconst 0, 1) := by decide +kernel
theorem dX9_cut_13 : decode cX9_cut 13 = .ok (.ireturn, 1) := by decide +kernel
theorem dX9_cut_14 : decode cX9_cut 14 = .ok (.aload_n 0, 1) := by decide +kernel
theorem dX9_cut_15 : decode cX9_cut 15 = .ok (.iload_n 1, 1) := by decide +kernel
theorem dX9_cut_16 : decode cX9_cut 16 = .ok (.putfield 18, 3) := by decide +kernel
theorem dX9_cut_19 : decode cX9_cut 19 = .ok (.iconst 1, 1) := by decide +kernel
theorem dX9_cut_20 : decode cX9_cut 20 = .ok (.ireturn, 1) := by decide +kernel
theorem dX13_end_0 : decode cX13_end 0 = .ok (.aload_n 0, 1) := by decide +kernel
theorem dX13_end_1 : decode cX13_end 1 = .ok (.iconst 0, 1) := by decide +kernel
theorem dX13_end_2 : decode cX13_end 2 = .ok (.putfield 170, 3) := by decide +kernel
theorem dX13_end_5 : decode cX13_end 5 = .ok (.iload_n 1, 1) := by decide +kernel
theorem dX13_end_6 : decode cX13_end 6 = .ok (.ifCond .lt 11, 3) := by decide +kernel
theorem dX13_end_9 : decode cX13_end 9 = .ok (.iload_n 1, 1) := by decide +kernel
theorem dX13_end_10 : decode cX13_end 10 = .ok (.aload_n 0, 1) := by decide +kernel
theorem dX13_end_11 : decode cX13_end 11 = .ok (.getfield 173, 3) := by decide +kernel
theorem dX13_end_14 : decode cX13_end 14 = .ok (.if_icmp .le 5, 3) := by decide +kernel
theorem dX13_end_17 : decode cX13_end 17 = .ok (.iconst (-1), 1) := by decide +kernel
theorem dX13_end_18 : decode cX13_end 18 = .ok (.ireturn, 1) := by decide +kernel
theorem dX13_end_19 : decode cX13_end 19 = .ok (.aload_n 0, 1) := by decide +kernel
theorem dX13_end_20 : decode cX13_end 20 = .ok (.iload_n 1, 1) := by decide +kernel
theorem dX13_end_21 : decode cX13_end 21 = .ok (.putfield 173, 3) := by decide +kernel
theorem dX13_end_24 : decode cX13_end 24 = .ok (.iload_n 1, 1) := by decide +kernel
theorem dX13_end_25 : decode cX13_end 25 = .ok (.ireturn, 1) := by decide +kernel
theorem dX11_enter_0 : decode cX11_enter 0 = .ok (.aload_n 0, 1) := by decide +kernel
theorem dX11_enter_1 : decode cX11_enter 1 = .ok (.getfield 31, 3) := by decide +kernel
theorem dX11_enter_4 : decode cX11_enter 4 = .ok (.invokevirtual 108, 3) := by decide +kernel
theorem dX11_enter_7 : decode cX11_enter 7 = .ok (.istore_n 1, 1) := by decide +kernel
theorem dX11_enter_8 : decode cX11_enter 8 = .ok (.aload_n 0, 1) := by decide +kernel
theorem dX11_enter_9 : decode cX11_enter 9 = .ok (.getfield 21, 3) := by decide +kernel
theorem dX11_enter_12 : decode cX11_enter 12 = .ok (.invokevirtual 109, 3) := by decide +kernel
theorem dX11_enter_15 : decode cX11_enter 15 = .ok (.istore_n 2, 1) := by decide +kernel
theorem dX11_enter_16 : decode cX11_enter 16 = .ok (.iload_n 1, 1) := by decide +kernel
theorem dX11_enter_17 : decode cX11_enter 17 = .ok (.bipush 120, 2) := by decide +kernel
theorem dX11_enter_19 : decode cX11_enter 19 = .ok (.if_icmp .ge 32, 3) := by decide +kernel
theorem dX11_enter_22 : decode cX11_enter 22 = .ok (.aload_n 0, 1) := by decide +kernel
theorem dX11_enter_23 : decode cX11_enter 23 = .ok (.getfield 56, 3) := by decide +kernel
theorem dX11_enter_26 : decode cX11_enter 26 = .ok (.invokevirtual 110, 3) := by decide +kernel
theorem dX11_enter_29 : decode cX11_enter 29 = .ok (.ifCond .eq 22, 3) := by decide +kernel
theorem dX11_enter_32 : decode cX11_enter 32 = .ok (.aload_n 0, 1) := by decide +kernel
theorem dX11_enter_33 : decode cX11_enter 33 = .ok (.getfield 56, 3) := by decide +kernel
theorem dX11_enter_36 : decode cX11_enter 36 = .ok (.aload_n 0, 1) := by decide +kernel
theorem dX11_enter_37 : decode cX11_enter 37 = .ok (.getfield 38, 3) := by decide +kernel
theorem dX11_enter_40 : decode cX11_enter 40 = .ok (.iload_n 1, 1) := by decide +kernel
theorem dX11_enter_41 : decode cX11_enter 41 = .ok (.invokevirtual 114, 3) := by decide +kernel
theorem dX11_enter_44 : decode cX11_enter 44 = .ok (.ifCond .eq 7, 3) := by decide +kernel
theorem dX11_enter_47 : decode cX11_enter 47 = .ok (.iconst 1, 1) := by decide +kernel
theorem dX11_enter_48 : decode cX11_enter 48 = .ok (.goto 4, 3) := by decide +kernel
theorem dX11_enter_52 : decode cX11_enter 52 = .ok (.istore_n 3, 1) := by decide +kernel
theorem dX11_enter_53 : decode cX11_enter 53 = .ok (.aload_n 0, 1) := by decide +kernel
theorem dX11_enter_54 : decode cX11_enter 54 = .ok (.getfield 12, 3) := by decide +kernel
theorem dX11_enter_57 : decode cX11_enter 57 = .ok (.invokevirtual 118, 3) := by decide +kernel
theorem dX11_enter_60 : decode cX11_enter 60 = .ok (.iload_n 3, 1) := by decide +kernel
theorem dX11_enter_61 : decode cX11_enter 61 = .ok (.ifCond .ne 14, 3) := by decide +kernel
theorem dX11_enter_75 : decode cX11_enter 75 = .ok (.aload_n 0, 1) := by decide +kernel
theorem dX11_enter_76 : decode cX11_enter 76 = .ok (.getfield 56, 3) := by decide +kernel
theorem dX11_enter_79 : decode cX11_enter 79 = .ok (.aload_n 0, 1) := by decide +kernel
theorem dX11_enter_80 : decode cX11_enter 80 = .ok (.getfield 38, 3) := by decide +kernel
theorem dX11_enter_83 : decode cX11_enter 83 = .ok (.iload_n 1, 1) := by decide +kernel
theorem dX11_enter_84 : decode cX11_enter 84 = .ok (.invokevirtual 124, 3) := by decide +kernel
theorem dX11_enter_87 : decode cX11_enter 87 = .ok (.aload_n 0, 1) := by decide +kernel
theorem dX11_enter_88 : decode cX11_enter 88 = .ok (.getfield 31, 3) := by decide +kernel
theorem dX11_enter_91 : decode cX11_enter 91 = .ok (.aload_n 0, 1) := by decide +kernel
theorem dX11_enter_92 : decode cX11_enter 92 = .ok (.getfield 56, 3) := by decide +kernel
theorem dX11_enter_95 : decode cX11_enter 95 = .ok (.invokevirtual 128, 3) := by decide +kernel
theorem dX11_enter_98 : decode cX11_enter 98 = .ok (.aload_n 0, 1) := by decide +kernel
theorem dX11_enter_99 : decode cX11_enter 99 = .ok (.getfield 56, 3) := by decide +kernel
theorem dX11_enter_102 : decode cX11_enter 102 = .ok (.invokevirtual 131, 3) := by decide +kernel
theorem dX11_enter_105 : decode cX11_enter 105 = .ok (.invokevirtual 134, 3) := by decide +kernel
theorem dX11_enter_108 : decode cX11_enter 108 = .ok (.iload_n 1, 1) := by decide +kernel
theorem dX11_enter_109 : decode cX11_enter 109 = .ok (.ireturn, 1) := by decide +kernel
theorem dX0_size_0 : decode cX0_size 0 = .ok (.aload_n 0, 1) := by decide +kernel
theorem dX0_size_1 : decode cX0_size 1 = .ok (.getfield 25, 3) := by decide +kernel
theorem dX0_size_4 : decode cX0_size 4 = .ok (.ireturn, 1) := by decide +kernel
theorem dX10_size_0 : decode cX10_size 0 = .ok (.aload_n 0, 1) := by decide +kernel
theorem dX10_size_1 : decode cX10_size 1 = .ok (.getfield 22, 3) := by decide +kernel
theorem dX10_size_4 : decode cX10_size 4 = .ok (.ireturn, 1) := by decide +kernel
theorem dX2_read_0 : decode cX2_read 0 = .ok (.aload_n 0, 1) := by decide +kernel
theorem dX2_read_1 : decode cX2_read 1 = .ok (.invokevirtual 48, 3) := by decide +kernel
theorem dX2_read_4 : decode cX2_read 4 = .ok (.iconst 0, 1) := by decide +kernel
theorem dX2_read_5 : decode cX2_read 5 = .ok (.istore_n 1, 1) := by decide +kernel
theorem dX2_read_6 : decode cX2_read 6 = .ok (.iconst 0, 1) := by decide +kernel
theorem dX2_read_7 : decode cX2_read 7 = .ok (.istore_n 2, 1) := by decide +kernel
theorem dX2_read_8 : decode cX2_read 8 = .ok (.iload_n 2, 1) := by decide +kernel
theorem dX2_read_9 : decode cX2_read 9 = .ok (.aload_n 0, 1) := by decide +kernel
theorem dX2_read_10 : decode cX2_read 10 = .ok (.getfield 37, 3) := by decide +kernel
theorem dX2_read_13 : decode cX2_read 13 = .ok (.invokevirtual 51, 3) := by decide +kernel
theorem dX2_read_16 : decode cX2_read 16 = .ok (.if_icmp .ge 68, 3) := by decide +kernel
theorem dX2_read_84 : decode cX2_read 84 = .ok (.iconst 1, 1) := by decide +kernel
theorem dX2_read_85 : decode cX2_read 85 = .ok (.ireturn, 1) := by decide +kernel
theorem dX2_clear_0 : decode cX2_clear 0 = .ok (.aload_n 0, 1) := by decide +kernel
theorem dX2_clear_1 : decode cX2_clear 1 = .ok (.getfield 27, 3) := by decide +kernel
theorem dX2_clear_4 : decode cX2_clear 4 = .ok (.iconst 0, 1) := by decide +kernel
theorem dX2_clear_5 : decode cX2_clear 5 = .ok (.invokestatic 73, 3) := by decide +kernel
theorem dX2_clear_8 : decode cX2_clear 8 = .ok (.aload_n 0, 1) := by decide +kernel
theorem dX2_clear_9 : decode cX2_clear 9 = .ok (.iconst 0, 1) := by decide +kernel
theorem dX2_clear_10 : decode cX2_clear 10 = .ok (.putfield 30, 3) := by decide +kernel
theorem dX2_clear_13 : decode cX2_clear 13 = .ok (.aload_n 0, 1) := by decide +kernel
theorem dX2_clear_14 : decode cX2_clear 14 = .ok (.iconst 0, 1) := by decide +kernel
theorem dX2_clear_15 : decode cX2_clear 15 = .ok (.putfield 34, 3) := by decide +kernel
theorem dX2_clear_18 : decode cX2_clear 18 = .ok (.return_, 1) := by decide +kernel
theorem dX2_fits_0 : decode cX2_fits 0 = .ok (.aload_n 1, 1) := by decide +kernel
theorem dX2_fits_1 : decode cX2_fits 1 = .ok (.invokevirtual 91, 3) := by decide +kernel
theorem dX2_fits_4 : decode cX2_fits 4 = .ok (.istore_n 3, 1) := by decide +kernel
theorem dX2_fits_5 : decode cX2_fits 5 = .ok (.iconst 0, 1) := by decide +kernel
theorem dX2_fits_6 : decode cX2_fits 6 = .ok (.istore 4, 2) := by decide +kernel
theorem dX2_fits_8 : decode cX2_fits 8 = .ok (.iload 4, 2) := by decide +kernel
theorem dX2_fits_10 : decode cX2_fits 10 = .ok (.aload_n 0, 1) := by decide +kernel
theorem dX2_fits_11 : decode cX2_fits 11 = .ok (.getfield 34, 3) := by decide +kernel
theorem dX2_fits_14 : decode cX2_fits 14 = .ok (.if_icmp .ge 65, 3) := by decide +kernel
theorem dX2_fits_79 : decode cX2_fits 79 = .ok (.iload_n 3, 1) := by decide +kernel
theorem dX2_fits_80 : decode cX2_fits 80 = .ok (.ldc 109, 2) := by decide +kernel
theorem dX2_fits_82 : decode cX2_fits 82 = .ok (.if_icmp .gt 7, 3) := by decide +kernel
theorem dX2_fits_85 : decode cX2_fits 85 = .ok (.iconst 1, 1) := by decide +kernel
theorem dX2_fits_86 : decode cX2_fits 86 = .ok (.goto 4, 3) := by decide +kernel
theorem dX2_fits_90 : decode cX2_fits 90 = .ok (.ireturn, 1) := by decide +kernel
theorem dX6_taken_0 : decode cX6_taken 0 = .ok (.aload_n 0, 1) := by decide +kernel
theorem dX6_taken_1 : decode cX6_taken 1 = .ok (.getfield 46, 3) := by decide +kernel
theorem dX6_taken_4 : decode cX6_taken 4 = .ok (.ireturn, 1) := by decide +kernel
theorem dX9_clear_0 : decode cX9_clear 0 = .ok (.aload_n 0, 1) := by decide +kernel
theorem dX9_clear_1 : decode cX9_clear 1 = .ok (.iconst 0, 1) := by decide +kernel
theorem dX9_clear_2 : decode cX9_clear 2 = .ok (.putfield 18, 3) := by decide +kernel
theorem dX9_clear_5 : decode cX9_clear 5 = .ok (.return_, 1) := by decide +kernel
theorem dX2_write_0 : decode cX2_write 0 = .ok (.iconst 0, 1) := by decide +kernel
theorem dX2_write_1 : decode cX2_write 1 = .ok (.istore_n 3, 1) := by decide +kernel
theorem dX2_write_2 : decode cX2_write 2 = .ok (.iload_n 3, 1) := by decide +kernel
theorem dX2_write_3 : decode cX2_write 3 = .ok (.aload_n 0, 1) := by decide +kernel
theorem dX2_write_4 : decode cX2_write 4 = .ok (.getfield 34, 3) := by decide +kernel
theorem dX2_write_7 : decode cX2_write 7 = .ok (.if_icmp .ge 98, 3) := by decide +kernel
theorem dX2_write_105 : decode cX2_write 105 = .ok (.return_, 1) := by decide +kernel
theorem dX2_kept_0 : decode cX2_kept 0 = .ok (.aload_n 0, 1) := by decide +kernel
theorem dX2_kept_1 : decode cX2_kept 1 = .ok (.getfield 30, 3) := by decide +kernel
theorem dX2_kept_4 : decode cX2_kept 4 = .ok (.ireturn, 1) := by decide +kernel
theorem dX2_distinct_0 : decode cX2_distinct 0 = .ok (.aload_n 0, 1) := by decide +kernel
theorem dX2_distinct_1 : decode cX2_distinct 1 = .ok (.getfield 34, 3) := by decide +kernel
theorem dX2_distinct_4 : decode cX2_distinct 4 = .ok (.ireturn, 1) := by decide +kernel
theorem dX0_add_0 : decode cX0_add 0 = .ok (.aload_n 0, 1) := by decide +kernel
theorem dX0_add_1 : decode cX0_add 1 = .ok (.getfield 25, 3) := by decide +kernel
theorem dX0_add_4 : decode cX0_add 4 = .ok (.bipush 120, 2) := by decide +kernel
theorem dX0_add_6 : decode cX0_add 6 = .ok (.if_icmp .ge 53, 3) := by decide +kernel
theorem dX0_add_9 : decode cX0_add 9 = .ok (.aload_n 0, 1) := by decide +kernel
theorem dX0_add_10 : decode cX0_add 10 = .ok (.getfield 9, 3) := by decide +kernel
theorem dX0_add_13 : decode cX0_add 13 = .ok (.aload_n 0, 1) := by decide +kernel
theorem dX0_add_14 : decode cX0_add 14 = .ok (.getfield 25, 3) := by decide +kernel
theorem dX0_add_17 : decode cX0_add 17 = .ok (.iconst 1, 1) := by decide +kernel
theorem dX0_add_18 : decode cX0_add 18 = .ok (.bastore, 1) := by decide +kernel
theorem dX0_add_19 : decode cX0_add 19 = .ok (.aload_n 0, 1) := by decide +kernel
theorem dX0_add_20 : decode cX0_add 20 = .ok (.getfield 15, 3) := by decide +kernel
theorem dX0_add_23 : decode cX0_add 23 = .ok (.aload_n 0, 1) := by decide +kernel
theorem dX0_add_24 : decode cX0_add 24 = .ok (.getfield 25, 3) := by decide +kernel
theorem dX0_add_27 : decode cX0_add 27 = .ok (.iload_n 1, 1) := by decide +kernel
theorem dX0_add_28 : decode cX0_add 28 = .ok (.iastore, 1) := by decide +kernel
theorem dX0_add_29 : decode cX0_add 29 = .ok (.aload_n 0, 1) := by decide +kernel
theorem dX0_add_30 : decode cX0_add 30 = .ok (.getfield 22, 3) := by decide +kernel
theorem dX0_add_33 : decode cX0_add 33 = .ok (.aload_n 0, 1) := by decide +kernel
theorem dX0_add_34 : decode cX0_add 34 = .ok (.getfield 25, 3) := by decide +kernel
theorem dX0_add_37 : decode cX0_add 37 = .ok (.iload_n 2, 1) := by decide +kernel
theorem dX0_add_38 : decode cX0_add 38 = .ok (.iastore, 1) := by decide +kernel
theorem dX0_add_39 : decode cX0_add 39 = .ok (.aload_n 0, 1) := by decide +kernel
theorem dX0_add_40 : decode cX0_add 40 = .ok (.dup, 1) := by decide +kernel
theorem dX0_add_41 : decode cX0_add 41 = .ok (.getfield 25, 3) := by decide +kernel
theorem dX0_add_44 : decode cX0_add 44 = .ok (.iconst 1, 1) := by decide +kernel
theorem dX0_add_45 : decode cX0_add 45 = .ok (.iadd, 1) := by decide +kernel
theorem dX0_add_46 : decode cX0_add 46 = .ok (.putfield 25, 3) := by decide +kernel
theorem dX0_add_49 : decode cX0_add 49 = .ok (.aload_n 0, 1) := by decide +kernel
theorem dX0_add_50 : decode cX0_add 50 = .ok (.dup, 1) := by decide +kernel
theorem dX0_add_51 : decode cX0_add 51 = .ok (.getfield 29, 3) := by decide +kernel
theorem dX0_add_54 : decode cX0_add 54 = .ok (.iconst 1, 1) := by decide +kernel
theorem dX0_add_55 : decode cX0_add 55 = .ok (.iadd, 1) := by decide +kernel
theorem dX0_add_56 : decode cX0_add 56 = .ok (.putfield 29, 3) := by decide +kernel
theorem dX0_add_59 : decode cX0_add 59 = .ok (.return_, 1) := by decide +kernel
theorem dX13_enter_0 : decode cX13_enter 0 = .ok (.aload_n 0, 1) := by decide +kernel
theorem dX13_enter_1 : decode cX13_enter 1 = .ok (.iconst 0, 1) := by decide +kernel
theorem dX13_enter_2 : decode cX13_enter 2 = .ok (.putfield 170, 3) := by decide +kernel
theorem dX13_enter_5 : decode cX13_enter 5 = .ok (.aload_n 0, 1) := by decide +kernel
theorem dX13_enter_6 : decode cX13_enter 6 = .ok (.getfield 173, 3) := by decide +kernel
theorem dX13_enter_9 : decode cX13_enter 9 = .ok (.istore_n 1, 1) := by decide +kernel
theorem dX13_enter_10 : decode cX13_enter 10 = .ok (.aload_n 0, 1) := by decide +kernel
theorem dX13_enter_11 : decode cX13_enter 11 = .ok (.iconst 0, 1) := by decide +kernel
theorem dX13_enter_12 : decode cX13_enter 12 = .ok (.putfield 173, 3) := by decide +kernel
theorem dX13_enter_15 : decode cX13_enter 15 = .ok (.aload_n 0, 1) := by decide +kernel
theorem dX13_enter_16 : decode cX13_enter 16 = .ok (.getfield 222, 3) := by decide +kernel
theorem dX13_enter_19 : decode cX13_enter 19 = .ok (.bipush 120, 2) := by decide +kernel
theorem dX13_enter_21 : decode cX13_enter 21 = .ok (.if_icmp .ne 6, 3) := by decide +kernel
theorem dX13_enter_27 : decode cX13_enter 27 = .ok (.aload_n 0, 1) := by decide +kernel
theorem dX13_enter_28 : decode cX13_enter 28 = .ok (.getfield 208, 3) := by decide +kernel
theorem dX13_enter_31 : decode cX13_enter 31 = .ok (.istore_n 2, 1) := by decide +kernel
theorem dX13_enter_32 : decode cX13_enter 32 = .ok (.aload_n 0, 1) := by decide +kernel
theorem dX13_enter_33 : decode cX13_enter 33 = .ok (.getfield 222, 3) := by decide +kernel
theorem dX13_enter_36 : decode cX13_enter 36 = .ok (.istore_n 3, 1) := by decide +kernel
theorem dX13_enter_37 : decode cX13_enter 37 = .ok (.iconst 0, 1) := by decide +kernel
theorem dX13_enter_38 : decode cX13_enter 38 = .ok (.istore 4, 2) := by decide +kernel
theorem dX13_enter_40 : decode cX13_enter 40 = .ok (.iconst 0, 1) := by decide +kernel
theorem dX13_enter_41 : decode cX13_enter 41 = .ok (.istore 5, 2) := by decide +kernel
theorem dX13_enter_43 : decode cX13_enter 43 = .ok (.iconst 0, 1) := by decide +kernel
theorem dX13_enter_44 : decode cX13_enter 44 = .ok (.istore 6, 2) := by decide +kernel
theorem dX13_enter_46 : decode cX13_enter 46 = .ok (.iconst 0, 1) := by decide +kernel
theorem dX13_enter_47 : decode cX13_enter 47 = .ok (.istore 7, 2) := by decide +kernel
theorem dX13_enter_49 : decode cX13_enter 49 = .ok (.aload_n 0, 1) := by decide +kernel
theorem dX13_enter_50 : decode cX13_enter 50 = .ok (.getfield 41, 3) := by decide +kernel
theorem dX13_enter_53 : decode cX13_enter 53 = .ok (.iload_n 3, 1) := by decide +kernel
theorem dX13_enter_54 : decode cX13_enter 54 = .ok (.iconst 0, 1) := by decide +kernel
theorem dX13_enter_55 : decode cX13_enter 55 = .ok (.iastore, 1) := by decide +kernel
theorem dX13_enter_56 : decode cX13_enter 56 = .ok (.iconst 0, 1) := by decide +kernel
theorem dX13_enter_57 : decode cX13_enter 57 = .ok (.istore 8, 2) := by decide +kernel
theorem dX13_enter_59 : decode cX13_enter 59 = .ok (.iload 8, 2) := by decide +kernel
theorem dX13_enter_61 : decode cX13_enter 61 = .ok (.iload_n 1, 1) := by decide +kernel
theorem dX13_enter_62 : decode cX13_enter 62 = .ok (.if_icmp .ge 156, 3) := by decide +kernel
theorem dX13_enter_218 : decode cX13_enter 218 = .ok (.iload 5, 2) := by decide +kernel
theorem dX13_enter_220 : decode cX13_enter 220 = .ok (.ifCond .ne 17, 3) := by decide +kernel
theorem dX13_enter_223 : decode cX13_enter 223 = .ok (.aload_n 0, 1) := by decide +kernel
theorem dX13_enter_224 : decode cX13_enter 224 = .ok (.getfield 41, 3) := by decide +kernel
theorem dX13_enter_227 : decode cX13_enter 227 = .ok (.iload_n 3, 1) := by decide +kernel
theorem dX13_enter_228 : decode cX13_enter 228 = .ok (.iload 4, 2) := by decide +kernel
theorem dX13_enter_230 : decode cX13_enter 230 = .ok (.sipush 512, 3) := by decide +kernel
theorem dX13_enter_233 : decode cX13_enter 233 = .ok (.invokestatic 241, 3) := by decide +kernel
theorem dX13_enter_236 : decode cX13_enter 236 = .ok (.iastore, 1) := by decide +kernel
theorem dX13_enter_237 : decode cX13_enter 237 = .ok (.aload_n 0, 1) := by decide +kernel
theorem dX13_enter_238 : decode cX13_enter 238 = .ok (.getfield 44, 3) := by decide +kernel
theorem dX13_enter_241 : decode cX13_enter 241 = .ok (.iload_n 3, 1) := by decide +kernel
theorem dX13_enter_242 : decode cX13_enter 242 = .ok (.iload 5, 2) := by decide +kernel
theorem dX13_enter_244 : decode cX13_enter 244 = .ok (.ifCond .eq 12, 3) := by decide +kernel
theorem dX13_enter_256 : decode cX13_enter 256 = .ok (.iconst 0, 1) := by decide +kernel
theorem dX13_enter_257 : decode cX13_enter 257 = .ok (.iastore, 1) := by decide +kernel
theorem dX13_enter_258 : decode cX13_enter 258 = .ok (.aload_n 0, 1) := by decide +kernel
theorem dX13_enter_259 : decode cX13_enter 259 = .ok (.dup, 1) := by decide +kernel
theorem dX13_enter_260 : decode cX13_enter 260 = .ok (.getfield 222, 3) := by decide +kernel
theorem dX13_enter_263 : decode cX13_enter 263 = .ok (.iconst 1, 1) := by decide +kernel
theorem dX13_enter_264 : decode cX13_enter 264 = .ok (.iadd, 1) := by decide +kernel
theorem dX13_enter_265 : decode cX13_enter 265 = .ok (.putfield 222, 3) := by decide +kernel
theorem dX13_enter_268 : decode cX13_enter 268 = .ok (.aload_n 0, 1) := by decide +kernel
theorem dX13_enter_269 : decode cX13_enter 269 = .ok (.getfield 29, 3) := by decide +kernel
theorem dX13_enter_272 : decode cX13_enter 272 = .ok (.iload_n 3, 1) := by decide +kernel
theorem dX13_enter_273 : decode cX13_enter 273 = .ok (.iconst 1, 1) := by decide +kernel
theorem dX13_enter_274 : decode cX13_enter 274 = .ok (.bastore, 1) := by decide +kernel
theorem dX13_enter_275 : decode cX13_enter 275 = .ok (.iload 6, 2) := by decide +kernel
theorem dX13_enter_277 : decode cX13_enter 277 = .ok (.ifCond .ne 12, 3) := by decide +kernel
theorem dX13_enter_280 : decode cX13_enter 280 = .ok (.aload_n 0, 1) := by decide +kernel
theorem dX13_enter_281 : decode cX13_enter 281 = .ok (.invokevirtual 246, 3) := by decide +kernel
theorem dX13_enter_284 : decode cX13_enter 284 = .ok (.ldc 63, 2) := by decide +kernel
theorem dX13_enter_286 : decode cX13_enter 286 = .ok (.if_icmp .le 64, 3) := by decide +kernel
theorem dX13_enter_350 : decode cX13_enter 350 = .ok (.aload_n 0, 1) := by decide +kernel
theorem dX13_enter_351 : decode cX13_enter 351 = .ok (.getfield 25, 3) := by decide +kernel
theorem dX13_enter_354 : decode cX13_enter 354 = .ok (.iload_n 3, 1) := by decide +kernel
theorem dX13_enter_355 : decode cX13_enter 355 = .ok (.iconst 1, 1) := by decide +kernel
theorem dX13_enter_356 : decode cX13_enter 356 = .ok (.bastore, 1) := by decide +kernel
theorem dX13_enter_357 : decode cX13_enter 357 = .ok (.aload_n 0, 1) := by decide +kernel
theorem dX13_enter_358 : decode cX13_enter 358 = .ok (.getfield 32, 3) := by decide +kernel
theorem dX13_enter_361 : decode cX13_enter 361 = .ok (.iload_n 3, 1) := by decide +kernel
theorem dX13_enter_362 : decode cX13_enter 362 = .ok (.iload 7, 2) := by decide +kernel
theorem dX13_enter_364 : decode cX13_enter 364 = .ok (.iastore, 1) := by decide +kernel
theorem dX13_enter_365 : decode cX13_enter 365 = .ok (.aload_n 0, 1) := by decide +kernel
theorem dX13_enter_366 : decode cX13_enter 366 = .ok (.getfield 35, 3) := by decide +kernel
theorem dX13_enter_369 : decode cX13_enter 369 = .ok (.iload_n 3, 1) := by decide +kernel
theorem dX13_enter_370 : decode cX13_enter 370 = .ok (.iconst 0, 1) := by decide +kernel
theorem dX13_enter_371 : decode cX13_enter 371 = .ok (.iastore, 1) := by decide +kernel
theorem dX13_enter_372 : decode cX13_enter 372 = .ok (.aload_n 0, 1) := by decide +kernel
theorem dX13_enter_373 : decode cX13_enter 373 = .ok (.getfield 38, 3) := by decide +kernel
theorem dX13_enter_376 : decode cX13_enter 376 = .ok (.iload_n 3, 1) := by decide +kernel
theorem dX13_enter_377 : decode cX13_enter 377 = .ok (.aload_n 0, 1) := by decide +kernel
theorem dX13_enter_378 : decode cX13_enter 378 = .ok (.iload_n 3, 1) := by decide +kernel
theorem dX13_enter_379 : decode cX13_enter 379 = .ok (.invokevirtual 253, 3) := by decide +kernel
theorem dX13_enter_382 : decode cX13_enter 382 = .ok (.iastore, 1) := by decide +kernel
theorem dX13_enter_383 : decode cX13_enter 383 = .ok (.iload_n 3, 1) := by decide +kernel
theorem dX13_enter_384 : decode cX13_enter 384 = .ok (.ireturn, 1) := by decide +kernel
theorem dX13_taken_0 : decode cX13_taken 0 = .ok (.aload_n 0, 1) := by decide +kernel
theorem dX13_taken_1 : decode cX13_taken 1 = .ok (.invokevirtual 297, 3) := by decide +kernel
theorem dX13_taken_4 : decode cX13_taken 4 = .ok (.iconst 0, 1) := by decide +kernel
theorem dX13_taken_5 : decode cX13_taken 5 = .ok (.istore_n 1, 1) := by decide +kernel
theorem dX13_taken_6 : decode cX13_taken 6 = .ok (.iconst 0, 1) := by decide +kernel
theorem dX13_taken_7 : decode cX13_taken 7 = .ok (.istore_n 2, 1) := by decide +kernel
theorem dX13_taken_8 : decode cX13_taken 8 = .ok (.iload_n 2, 1) := by decide +kernel
theorem dX13_taken_9 : decode cX13_taken 9 = .ok (.aload_n 0, 1) := by decide +kernel
theorem dX13_taken_10 : decode cX13_taken 10 = .ok (.getfield 208, 3) := by decide +kernel
theorem dX13_taken_13 : decode cX13_taken 13 = .ok (.if_icmp .ge 21, 3) := by decide +kernel
theorem dX13_taken_34 : decode cX13_taken 34 = .ok (.iload_n 1, 1) := by decide +kernel
theorem dX13_taken_35 : decode cX13_taken 35 = .ok (.ireturn, 1) := by decide +kernel
theorem dX13_measure_0 : decode cX13_measure 0 = .ok (.iconst 0, 1) := by decide +kernel
theorem dX13_measure_1 : decode cX13_measure 1 = .ok (.istore_n 1, 1) := by decide +kernel
theorem dX13_measure_2 : decode cX13_measure 2 = .ok (.iload_n 1, 1) := by decide +kernel
theorem dX13_measure_3 : decode cX13_measure 3 = .ok (.aload_n 0, 1) := by decide +kernel
theorem dX13_measure_4 : decode cX13_measure 4 = .ok (.getfield 208, 3) := by decide +kernel
theorem dX13_measure_7 : decode cX13_measure 7 = .ok (.if_icmp .ge 23, 3) := by decide +kernel
theorem dX13_measure_30 : decode cX13_measure 30 = .ok (.iconst 0, 1) := by decide +kernel
theorem dX13_measure_31 : decode cX13_measure 31 = .ok (.istore_n 1, 1) := by decide +kernel
theorem dX13_measure_32 : decode cX13_measure 32 = .ok (.iload_n 1, 1) := by decide +kernel
theorem dX13_measure_33 : decode cX13_measure 33 = .ok (.aload_n 0, 1) := by decide +kernel
theorem dX13_measure_34 : decode cX13_measure 34 = .ok (.getfield 222, 3) := by decide +kernel
theorem dX13_measure_37 : decode cX13_measure 37 = .ok (.if_icmp .ge 190, 3) := by decide +kernel
theorem dX13_measure_40 : decode cX13_measure 40 = .ok (.aload_n 0, 1) := by decide +kernel
theorem dX13_measure_41 : decode cX13_measure 41 = .ok (.getfield 29, 3) := by decide +kernel
theorem dX13_measure_44 : decode cX13_measure 44 = .ok (.iload_n 1, 1) := by decide +kernel
theorem dX13_measure_45 : decode cX13_measure 45 = .ok (.baload, 1) := by decide +kernel
theorem dX13_measure_46 : decode cX13_measure 46 = .ok (.ifCond .ne 6, 3) := by decide +kernel
theorem dX13_measure_52 : decode cX13_measure 52 = .ok (.iconst 0, 1) := by decide +kernel
theorem dX13_measure_53 : decode cX13_measure 53 = .ok (.istore_n 2, 1) := by decide +kernel
theorem dX13_measure_54 : decode cX13_measure 54 = .ok (.iload_n 2, 1) := by decide +kernel
theorem dX13_measure_55 : decode cX13_measure 55 = .ok (.aload_n 0, 1) := by decide +kernel
theorem dX13_measure_56 : decode cX13_measure 56 = .ok (.getfield 208, 3) := by decide +kernel
theorem dX13_measure_59 : decode cX13_measure 59 = .ok (.if_icmp .ge 23, 3) := by decide +kernel
theorem dX13_measure_82 : decode cX13_measure 82 = .ok (.iconst 0, 1) := by decide +kernel
theorem dX13_measure_83 : decode cX13_measure 83 = .ok (.istore_n 2, 1) := by decide +kernel
theorem dX13_measure_84 : decode cX13_measure 84 = .ok (.iload_n 2, 1) := by decide +kernel
theorem dX13_measure_85 : decode cX13_measure 85 = .ok (.sipush 1024, 3) := by decide +kernel
theorem dX13_measure_88 : decode cX13_measure 88 = .ok (.if_icmp .ge 68, 3) := by decide +kernel
theorem dX13_measure_91 : decode cX13_measure 91 = .ok (.aload_n 0, 1) := by decide +kernel
theorem dX13_measure_92 : decode cX13_measure 92 = .ok (.getfield 21, 3) := by decide +kernel
theorem dX13_measure_95 : decode cX13_measure 95 = .ok (.sipush 1024, 3) := by decide +kernel
theorem dX13_measure_98 : decode cX13_measure 98 = .ok (.iload_n 1, 1) := by decide +kernel
theorem dX13_measure_99 : decode cX13_measure 99 = .ok (.imul, 1) := by decide +kernel
theorem dX13_measure_100 : decode cX13_measure 100 = .ok (.iload_n 2, 1) := by decide +kernel
theorem dX13_measure_101 : decode cX13_measure 101 = .ok (.iadd, 1) := by decide +kernel
theorem dX13_measure_102 : decode cX13_measure 102 = .ok (.saload, 1) := by decide +kernel
theorem dX13_measure_103 : decode cX13_measure 103 = .ok (.iconst 1, 1) := by decide +kernel
theorem dX13_measure_104 : decode cX13_measure 104 = .ok (.isub, 1) := by decide +kernel
theorem dX13_measure_105 : decode cX13_measure 105 = .ok (.istore_n 3, 1) := by decide +kernel
theorem dX13_measure_106 : decode cX13_measure 106 = .ok (.iload_n 3, 1) := by decide +kernel
theorem dX13_measure_107 : decode cX13_measure 107 = .ok (.ifCond .ge 6, 3) := by decide +kernel
theorem dX13_measure_110 : decode cX13_measure 110 = .ok (.goto 40, 3) := by decide +kernel
theorem dX13_measure_150 : decode cX13_measure 150 = .ok (.iinc 2 1, 3) := by decide +kernel
theorem dX13_measure_153 : decode cX13_measure 153 = .ok (.goto (-69), 3) := by decide +kernel
theorem dX13_measure_156 : decode cX13_measure 156 = .ok (.iconst 0, 1) := by decide +kernel
theorem dX13_measure_157 : decode cX13_measure 157 = .ok (.istore_n 2, 1) := by decide +kernel
theorem dX13_measure_158 : decode cX13_measure 158 = .ok (.iload_n 2, 1) := by decide +kernel
theorem dX13_measure_159 : decode cX13_measure 159 = .ok (.aload_n 0, 1) := by decide +kernel
theorem dX13_measure_160 : decode cX13_measure 160 = .ok (.getfield 208, 3) := by decide +kernel
