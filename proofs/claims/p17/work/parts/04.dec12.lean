theorem dX13_hasPlace_66 : decode cX13_hasPlace 66 = .ok (.iconst 0, 1) := by decide +kernel
theorem dX13_hasPlace_67 : decode cX13_hasPlace 67 = .ok (.ireturn, 1) := by decide +kernel
theorem dX13_areNear_0 : decode cX13_areNear 0 = .ok (.sipush (-1000), 3) := by decide +kernel
theorem dX13_areNear_3 : decode cX13_areNear 3 = .ok (.istore 7, 2) := by decide +kernel
theorem dX13_areNear_5 : decode cX13_areNear 5 = .ok (.sipush (-1000), 3) := by decide +kernel
theorem dX13_areNear_8 : decode cX13_areNear 8 = .ok (.istore 8, 2) := by decide +kernel
theorem dX13_areNear_10 : decode cX13_areNear 10 = .ok (.iload 5, 2) := by decide +kernel
theorem dX13_areNear_12 : decode cX13_areNear 12 = .ok (.istore 9, 2) := by decide +kernel
theorem dX13_areNear_14 : decode cX13_areNear 14 = .ok (.iload 9, 2) := by decide +kernel
theorem dX13_areNear_16 : decode cX13_areNear 16 = .ok (.iload 6, 2) := by decide +kernel
theorem dX13_areNear_18 : decode cX13_areNear 18 = .ok (.if_icmp .ge 83, 3) := by decide +kernel
theorem dX13_areNear_21 : decode cX13_areNear 21 = .ok (.aload_n 0, 1) := by decide +kernel
theorem dX13_areNear_22 : decode cX13_areNear 22 = .ok (.iload_n 1, 1) := by decide +kernel
theorem dX13_areNear_23 : decode cX13_areNear 23 = .ok (.iload 4, 2) := by decide +kernel
theorem dX13_areNear_25 : decode cX13_areNear 25 = .ok (.iload 9, 2) := by decide +kernel
theorem dX13_areNear_27 : decode cX13_areNear 27 = .ok (.invokevirtual 477, 3) := by decide +kernel
theorem dX13_areNear_30 : decode cX13_areNear 30 = .ok (.ifCond .eq 7, 3) := by decide +kernel
theorem dX13_areNear_33 : decode cX13_areNear 33 = .ok (.iload 9, 2) := by decide +kernel
theorem dX13_areNear_35 : decode cX13_areNear 35 = .ok (.istore 7, 2) := by decide +kernel
theorem dX13_areNear_37 : decode cX13_areNear 37 = .ok (.aload_n 0, 1) := by decide +kernel
theorem dX13_areNear_38 : decode cX13_areNear 38 = .ok (.iload_n 2, 1) := by decide +kernel
theorem dX13_areNear_39 : decode cX13_areNear 39 = .ok (.iload 4, 2) := by decide +kernel
theorem dX13_areNear_41 : decode cX13_areNear 41 = .ok (.iload 9, 2) := by decide +kernel
theorem dX13_areNear_43 : decode cX13_areNear 43 = .ok (.invokevirtual 477, 3) := by decide +kernel
theorem dX13_areNear_46 : decode cX13_areNear 46 = .ok (.ifCond .eq 7, 3) := by decide +kernel
theorem dX13_areNear_49 : decode cX13_areNear 49 = .ok (.iload 9, 2) := by decide +kernel
theorem dX13_areNear_51 : decode cX13_areNear 51 = .ok (.istore 8, 2) := by decide +kernel
theorem dX13_areNear_53 : decode cX13_areNear 53 = .ok (.iload 7, 2) := by decide +kernel
theorem dX13_areNear_55 : decode cX13_areNear 55 = .ok (.iload 5, 2) := by decide +kernel
theorem dX13_areNear_57 : decode cX13_areNear 57 = .ok (.if_icmp .lt 38, 3) := by decide +kernel
theorem dX13_areNear_60 : decode cX13_areNear 60 = .ok (.iload 8, 2) := by decide +kernel
theorem dX13_areNear_62 : decode cX13_areNear 62 = .ok (.iload 5, 2) := by decide +kernel
theorem dX13_areNear_64 : decode cX13_areNear 64 = .ok (.if_icmp .lt 31, 3) := by decide +kernel
theorem dX13_areNear_67 : decode cX13_areNear 67 = .ok (.iload 7, 2) := by decide +kernel
theorem dX13_areNear_69 : decode cX13_areNear 69 = .ok (.iload 9, 2) := by decide +kernel
theorem dX13_areNear_71 : decode cX13_areNear 71 = .ok (.if_icmp .eq 10, 3) := by decide +kernel
theorem dX13_areNear_74 : decode cX13_areNear 74 = .ok (.iload 8, 2) := by decide +kernel
theorem dX13_areNear_76 : decode cX13_areNear 76 = .ok (.iload 9, 2) := by decide +kernel
theorem dX13_areNear_78 : decode cX13_areNear 78 = .ok (.if_icmp .ne 17, 3) := by decide +kernel
theorem dX13_areNear_81 : decode cX13_areNear 81 = .ok (.iload 7, 2) := by decide +kernel
theorem dX13_areNear_83 : decode cX13_areNear 83 = .ok (.iload 8, 2) := by decide +kernel
theorem dX13_areNear_85 : decode cX13_areNear 85 = .ok (.isub, 1) := by decide +kernel
theorem dX13_areNear_86 : decode cX13_areNear 86 = .ok (.invokestatic 483, 3) := by decide +kernel
theorem dX13_areNear_89 : decode cX13_areNear 89 = .ok (.iload_n 3, 1) := by decide +kernel
theorem dX13_areNear_90 : decode cX13_areNear 90 = .ok (.if_icmp .gt 5, 3) := by decide +kernel
theorem dX13_areNear_93 : decode cX13_areNear 93 = .ok (.iconst 1, 1) := by decide +kernel
theorem dX13_areNear_94 : decode cX13_areNear 94 = .ok (.ireturn, 1) := by decide +kernel
theorem dX13_areNear_95 : decode cX13_areNear 95 = .ok (.iinc 9 1, 3) := by decide +kernel
theorem dX13_areNear_98 : decode cX13_areNear 98 = .ok (.goto (-84), 3) := by decide +kernel
theorem dX13_areNear_101 : decode cX13_areNear 101 = .ok (.iconst 0, 1) := by decide +kernel
theorem dX13_areNear_102 : decode cX13_areNear 102 = .ok (.ireturn, 1) := by decide +kernel
theorem dX13_isMatched_0 : decode cX13_isMatched 0 = .ok (.aload_n 0, 1) := by decide +kernel
theorem dX13_isMatched_1 : decode cX13_isMatched 1 = .ok (.getfield 89, 3) := by decide +kernel
theorem dX13_isMatched_4 : decode cX13_isMatched 4 = .ok (.iload_n 1, 1) := by decide +kernel
theorem dX13_isMatched_5 : decode cX13_isMatched 5 = .ok (.iaload, 1) := by decide +kernel
theorem dX13_isMatched_6 : decode cX13_isMatched 6 = .ok (.tableswitch 292 4 11 #[46, 92, 292, 292, 170, 204, 238, 258], 46) := by decide +kernel
theorem dX13_isMatched_52 : decode cX13_isMatched 52 = .ok (.aload_n 0, 1) := by decide +kernel
theorem dX13_isMatched_53 : decode cX13_isMatched 53 = .ok (.getfield 35, 3) := by decide +kernel
theorem dX13_isMatched_56 : decode cX13_isMatched 56 = .ok (.iload_n 2, 1) := by decide +kernel
theorem dX13_isMatched_57 : decode cX13_isMatched 57 = .ok (.iaload, 1) := by decide +kernel
theorem dX13_isMatched_58 : decode cX13_isMatched 58 = .ok (.aload_n 0, 1) := by decide +kernel
theorem dX13_isMatched_59 : decode cX13_isMatched 59 = .ok (.getfield 104, 3) := by decide +kernel
theorem dX13_isMatched_62 : decode cX13_isMatched 62 = .ok (.aload_n 0, 1) := by decide +kernel
theorem dX13_isMatched_63 : decode cX13_isMatched 63 = .ok (.getfield 98, 3) := by decide +kernel
theorem dX13_isMatched_66 : decode cX13_isMatched 66 = .ok (.iload_n 1, 1) := by decide +kernel
theorem dX13_isMatched_67 : decode cX13_isMatched 67 = .ok (.iaload, 1) := by decide +kernel
theorem dX13_isMatched_68 : decode cX13_isMatched 68 = .ok (.iaload, 1) := by decide +kernel
theorem dX13_isMatched_69 : decode cX13_isMatched 69 = .ok (.if_icmp .lt 27, 3) := by decide +kernel
theorem dX13_isMatched_72 : decode cX13_isMatched 72 = .ok (.aload_n 0, 1) := by decide +kernel
theorem dX13_isMatched_73 : decode cX13_isMatched 73 = .ok (.getfield 35, 3) := by decide +kernel
theorem dX13_isMatched_76 : decode cX13_isMatched 76 = .ok (.iload_n 2, 1) := by decide +kernel
theorem dX13_isMatched_77 : decode cX13_isMatched 77 = .ok (.iaload, 1) := by decide +kernel
theorem dX13_isMatched_78 : decode cX13_isMatched 78 = .ok (.aload_n 0, 1) := by decide +kernel
theorem dX13_isMatched_79 : decode cX13_isMatched 79 = .ok (.getfield 110, 3) := by decide +kernel
theorem dX13_isMatched_82 : decode cX13_isMatched 82 = .ok (.aload_n 0, 1) := by decide +kernel
theorem dX13_isMatched_83 : decode cX13_isMatched 83 = .ok (.getfield 98, 3) := by decide +kernel
theorem dX13_isMatched_86 : decode cX13_isMatched 86 = .ok (.iload_n 1, 1) := by decide +kernel
theorem dX13_isMatched_87 : decode cX13_isMatched 87 = .ok (.iaload, 1) := by decide +kernel
theorem dX13_isMatched_88 : decode cX13_isMatched 88 = .ok (.iaload, 1) := by decide +kernel
theorem dX13_isMatched_89 : decode cX13_isMatched 89 = .ok (.if_icmp .gt 7, 3) := by decide +kernel
theorem dX13_isMatched_92 : decode cX13_isMatched 92 = .ok (.iconst 1, 1) := by decide +kernel
theorem dX13_isMatched_93 : decode cX13_isMatched 93 = .ok (.goto 4, 3) := by decide +kernel
theorem dX13_isMatched_96 : decode cX13_isMatched 96 = .ok (.iconst 0, 1) := by decide +kernel
theorem dX13_isMatched_97 : decode cX13_isMatched 97 = .ok (.ireturn, 1) := by decide +kernel
theorem dX13_isMatched_98 : decode cX13_isMatched 98 = .ok (.aload_n 0, 1) := by decide +kernel
theorem dX13_isMatched_99 : decode cX13_isMatched 99 = .ok (.aload_n 0, 1) := by decide +kernel
theorem dX13_isMatched_100 : decode cX13_isMatched 100 = .ok (.getfield 92, 3) := by decide +kernel
theorem dX13_isMatched_103 : decode cX13_isMatched 103 = .ok (.iload_n 1, 1) := by decide +kernel
theorem dX13_isMatched_104 : decode cX13_isMatched 104 = .ok (.iaload, 1) := by decide +kernel
theorem dX13_isMatched_105 : decode cX13_isMatched 105 = .ok (.aload_n 0, 1) := by decide +kernel
theorem dX13_isMatched_106 : decode cX13_isMatched 106 = .ok (.getfield 95, 3) := by decide +kernel
theorem dX13_isMatched_109 : decode cX13_isMatched 109 = .ok (.iload_n 1, 1) := by decide +kernel
theorem dX13_isMatched_110 : decode cX13_isMatched 110 = .ok (.iaload, 1) := by decide +kernel
theorem dX13_isMatched_111 : decode cX13_isMatched 111 = .ok (.aload_n 0, 1) := by decide +kernel
theorem dX13_isMatched_112 : decode cX13_isMatched 112 = .ok (.getfield 98, 3) := by decide +kernel
theorem dX13_isMatched_115 : decode cX13_isMatched 115 = .ok (.iload_n 1, 1) := by decide +kernel
theorem dX13_isMatched_116 : decode cX13_isMatched 116 = .ok (.iaload, 1) := by decide +kernel
theorem dX13_isMatched_117 : decode cX13_isMatched 117 = .ok (.iload_n 2, 1) := by decide +kernel
theorem dX13_isMatched_118 : decode cX13_isMatched 118 = .ok (.iconst 0, 1) := by decide +kernel
theorem dX13_isMatched_119 : decode cX13_isMatched 119 = .ok (.aload_n 0, 1) := by decide +kernel
theorem dX13_isMatched_120 : decode cX13_isMatched 120 = .ok (.getfield 41, 3) := by decide +kernel
theorem dX13_isMatched_123 : decode cX13_isMatched 123 = .ok (.iload_n 2, 1) := by decide +kernel
theorem dX13_isMatched_124 : decode cX13_isMatched 124 = .ok (.iaload, 1) := by decide +kernel
theorem dX13_isMatched_125 : decode cX13_isMatched 125 = .ok (.invokevirtual 486, 3) := by decide +kernel
theorem dX13_isMatched_128 : decode cX13_isMatched 128 = .ok (.ifCond .ne 42, 3) := by decide +kernel
theorem dX13_isMatched_131 : decode cX13_isMatched 131 = .ok (.aload_n 0, 1) := by decide +kernel
theorem dX13_isMatched_132 : decode cX13_isMatched 132 = .ok (.aload_n 0, 1) := by decide +kernel
theorem dX13_isMatched_133 : decode cX13_isMatched 133 = .ok (.getfield 92, 3) := by decide +kernel
theorem dX13_isMatched_136 : decode cX13_isMatched 136 = .ok (.iload_n 1, 1) := by decide +kernel
theorem dX13_isMatched_137 : decode cX13_isMatched 137 = .ok (.iaload, 1) := by decide +kernel
theorem dX13_isMatched_138 : decode cX13_isMatched 138 = .ok (.aload_n 0, 1) := by decide +kernel
theorem dX13_isMatched_139 : decode cX13_isMatched 139 = .ok (.getfield 95, 3) := by decide +kernel
theorem dX13_isMatched_142 : decode cX13_isMatched 142 = .ok (.iload_n 1, 1) := by decide +kernel
theorem dX13_isMatched_143 : decode cX13_isMatched 143 = .ok (.iaload, 1) := by decide +kernel
theorem dX13_isMatched_144 : decode cX13_isMatched 144 = .ok (.aload_n 0, 1) := by decide +kernel
theorem dX13_isMatched_145 : decode cX13_isMatched 145 = .ok (.getfield 98, 3) := by decide +kernel
theorem dX13_isMatched_148 : decode cX13_isMatched 148 = .ok (.iload_n 1, 1) := by decide +kernel
theorem dX13_isMatched_149 : decode cX13_isMatched 149 = .ok (.iaload, 1) := by decide +kernel
theorem dX13_isMatched_150 : decode cX13_isMatched 150 = .ok (.iload_n 2, 1) := by decide +kernel
theorem dX13_isMatched_151 : decode cX13_isMatched 151 = .ok (.sipush 512, 3) := by decide +kernel
theorem dX13_isMatched_154 : decode cX13_isMatched 154 = .ok (.sipush 512, 3) := by decide +kernel
theorem dX13_isMatched_157 : decode cX13_isMatched 157 = .ok (.aload_n 0, 1) := by decide +kernel
theorem dX13_isMatched_158 : decode cX13_isMatched 158 = .ok (.getfield 44, 3) := by decide +kernel
theorem dX13_isMatched_161 : decode cX13_isMatched 161 = .ok (.iload_n 2, 1) := by decide +kernel
theorem dX13_isMatched_162 : decode cX13_isMatched 162 = .ok (.iaload, 1) := by decide +kernel
theorem dX13_isMatched_163 : decode cX13_isMatched 163 = .ok (.iadd, 1) := by decide +kernel
theorem dX13_isMatched_164 : decode cX13_isMatched 164 = .ok (.invokevirtual 486, 3) := by decide +kernel
theorem dX13_isMatched_167 : decode cX13_isMatched 167 = .ok (.ifCond .eq 7, 3) := by decide +kernel
theorem dX13_isMatched_170 : decode cX13_isMatched 170 = .ok (.iconst 1, 1) := by decide +kernel
theorem dX13_isMatched_171 : decode cX13_isMatched 171 = .ok (.goto 4, 3) := by decide +kernel
theorem dX13_isMatched_174 : decode cX13_isMatched 174 = .ok (.iconst 0, 1) := by decide +kernel
theorem dX13_isMatched_175 : decode cX13_isMatched 175 = .ok (.ireturn, 1) := by decide +kernel
theorem dX13_isMatched_176 : decode cX13_isMatched 176 = .ok (.aload_n 0, 1) := by decide +kernel
theorem dX13_isMatched_177 : decode cX13_isMatched 177 = .ok (.aload_n 0, 1) := by decide +kernel
theorem dX13_isMatched_178 : decode cX13_isMatched 178 = .ok (.getfield 92, 3) := by decide +kernel
theorem dX13_isMatched_181 : decode cX13_isMatched 181 = .ok (.iload_n 1, 1) := by decide +kernel
theorem dX13_isMatched_182 : decode cX13_isMatched 182 = .ok (.iaload, 1) := by decide +kernel
theorem dX13_isMatched_183 : decode cX13_isMatched 183 = .ok (.iload_n 2, 1) := by decide +kernel
theorem dX13_isMatched_184 : decode cX13_isMatched 184 = .ok (.invokevirtual 490, 3) := by decide +kernel
theorem dX13_isMatched_187 : decode cX13_isMatched 187 = .ok (.ifCond .eq 21, 3) := by decide +kernel
theorem dX13_isMatched_190 : decode cX13_isMatched 190 = .ok (.aload_n 0, 1) := by decide +kernel
theorem dX13_isMatched_191 : decode cX13_isMatched 191 = .ok (.aload_n 0, 1) := by decide +kernel
theorem dX13_isMatched_192 : decode cX13_isMatched 192 = .ok (.getfield 95, 3) := by decide +kernel
theorem dX13_isMatched_195 : decode cX13_isMatched 195 = .ok (.iload_n 1, 1) := by decide +kernel
theorem dX13_isMatched_196 : decode cX13_isMatched 196 = .ok (.iaload, 1) := by decide +kernel
theorem dX13_isMatched_197 : decode cX13_isMatched 197 = .ok (.iload_n 2, 1) := by decide +kernel
theorem dX13_isMatched_198 : decode cX13_isMatched 198 = .ok (.invokevirtual 490, 3) := by decide +kernel
theorem dX13_isMatched_201 : decode cX13_isMatched 201 = .ok (.ifCond .eq 7, 3) := by decide +kernel
theorem dX13_isMatched_204 : decode cX13_isMatched 204 = .ok (.iconst 1, 1) := by decide +kernel
theorem dX13_isMatched_205 : decode cX13_isMatched 205 = .ok (.goto 4, 3) := by decide +kernel
theorem dX13_isMatched_208 : decode cX13_isMatched 208 = .ok (.iconst 0, 1) := by decide +kernel
theorem dX13_isMatched_209 : decode cX13_isMatched 209 = .ok (.ireturn, 1) := by decide +kernel
theorem dX13_isMatched_210 : decode cX13_isMatched 210 = .ok (.aload_n 0, 1) := by decide +kernel
theorem dX13_isMatched_211 : decode cX13_isMatched 211 = .ok (.aload_n 0, 1) := by decide +kernel
theorem dX13_isMatched_212 : decode cX13_isMatched 212 = .ok (.getfield 92, 3) := by decide +kernel
theorem dX13_isMatched_215 : decode cX13_isMatched 215 = .ok (.iload_n 1, 1) := by decide +kernel
theorem dX13_isMatched_216 : decode cX13_isMatched 216 = .ok (.iaload, 1) := by decide +kernel
theorem dX13_isMatched_217 : decode cX13_isMatched 217 = .ok (.iload_n 2, 1) := by decide +kernel
theorem dX13_isMatched_218 : decode cX13_isMatched 218 = .ok (.invokevirtual 490, 3) := by decide +kernel
theorem dX13_isMatched_221 : decode cX13_isMatched 221 = .ok (.ifCond .ne 17, 3) := by decide +kernel
theorem dX13_isMatched_224 : decode cX13_isMatched 224 = .ok (.aload_n 0, 1) := by decide +kernel
theorem dX13_isMatched_225 : decode cX13_isMatched 225 = .ok (.aload_n 0, 1) := by decide +kernel
theorem dX13_isMatched_226 : decode cX13_isMatched 226 = .ok (.getfield 95, 3) := by decide +kernel
theorem dX13_isMatched_229 : decode cX13_isMatched 229 = .ok (.iload_n 1, 1) := by decide +kernel
theorem dX13_isMatched_230 : decode cX13_isMatched 230 = .ok (.iaload, 1) := by decide +kernel
theorem dX13_isMatched_231 : decode cX13_isMatched 231 = .ok (.iload_n 2, 1) := by decide +kernel
theorem dX13_isMatched_232 : decode cX13_isMatched 232 = .ok (.invokevirtual 490, 3) := by decide +kernel
theorem dX13_isMatched_235 : decode cX13_isMatched 235 = .ok (.ifCond .eq 7, 3) := by decide +kernel
theorem dX13_isMatched_238 : decode cX13_isMatched 238 = .ok (.iconst 1, 1) := by decide +kernel
theorem dX13_isMatched_239 : decode cX13_isMatched 239 = .ok (.goto 4, 3) := by decide +kernel
theorem dX13_isMatched_242 : decode cX13_isMatched 242 = .ok (.iconst 0, 1) := by decide +kernel
theorem dX13_isMatched_243 : decode cX13_isMatched 243 = .ok (.ireturn, 1) := by decide +kernel
theorem dX13_isMatched_244 : decode cX13_isMatched 244 = .ok (.aload_n 0, 1) := by decide +kernel
theorem dX13_isMatched_245 : decode cX13_isMatched 245 = .ok (.aload_n 0, 1) := by decide +kernel
theorem dX13_isMatched_246 : decode cX13_isMatched 246 = .ok (.getfield 92, 3) := by decide +kernel
theorem dX13_isMatched_249 : decode cX13_isMatched 249 = .ok (.iload_n 1, 1) := by decide +kernel
theorem dX13_isMatched_250 : decode cX13_isMatched 250 = .ok (.iaload, 1) := by decide +kernel
theorem dX13_isMatched_251 : decode cX13_isMatched 251 = .ok (.iload_n 2, 1) := by decide +kernel
theorem dX13_isMatched_252 : decode cX13_isMatched 252 = .ok (.invokevirtual 490, 3) := by decide +kernel
theorem dX13_isMatched_255 : decode cX13_isMatched 255 = .ok (.ifCond .ne 7, 3) := by decide +kernel
theorem dX13_isMatched_258 : decode cX13_isMatched 258 = .ok (.iconst 1, 1) := by decide +kernel
theorem dX13_isMatched_259 : decode cX13_isMatched 259 = .ok (.goto 4, 3) := by decide +kernel
theorem dX13_isMatched_262 : decode cX13_isMatched 262 = .ok (.iconst 0, 1) := by decide +kernel
theorem dX13_isMatched_263 : decode cX13_isMatched 263 = .ok (.ireturn, 1) := by decide +kernel
theorem dX13_isMatched_264 : decode cX13_isMatched 264 = .ok (.aload_n 0, 1) := by decide +kernel
theorem dX13_isMatched_265 : decode cX13_isMatched 265 = .ok (.aload_n 0, 1) := by decide +kernel
theorem dX13_isMatched_266 : decode cX13_isMatched 266 = .ok (.getfield 92, 3) := by decide +kernel
theorem dX13_isMatched_269 : decode cX13_isMatched 269 = .ok (.iload_n 1, 1) := by decide +kernel
theorem dX13_isMatched_270 : decode cX13_isMatched 270 = .ok (.iaload, 1) := by decide +kernel
theorem dX13_isMatched_271 : decode cX13_isMatched 271 = .ok (.iload_n 2, 1) := by decide +kernel
theorem dX13_isMatched_272 : decode cX13_isMatched 272 = .ok (.invokevirtual 490, 3) := by decide +kernel
theorem dX13_isMatched_275 : decode cX13_isMatched 275 = .ok (.ifCond .eq 21, 3) := by decide +kernel
theorem dX13_isMatched_278 : decode cX13_isMatched 278 = .ok (.aload_n 0, 1) := by decide +kernel
theorem dX13_isMatched_279 : decode cX13_isMatched 279 = .ok (.aload_n 0, 1) := by decide +kernel
theorem dX13_isMatched_280 : decode cX13_isMatched 280 = .ok (.getfield 95, 3) := by decide +kernel
theorem dX13_isMatched_283 : decode cX13_isMatched 283 = .ok (.iload_n 1, 1) := by decide +kernel
theorem dX13_isMatched_284 : decode cX13_isMatched 284 = .ok (.iaload, 1) := by decide +kernel
theorem dX13_isMatched_285 : decode cX13_isMatched 285 = .ok (.iload_n 2, 1) := by decide +kernel
theorem dX13_isMatched_286 : decode cX13_isMatched 286 = .ok (.invokevirtual 490, 3) := by decide +kernel
theorem dX13_isMatched_289 : decode cX13_isMatched 289 = .ok (.ifCond .ne 7, 3) := by decide +kernel
theorem dX13_isMatched_292 : decode cX13_isMatched 292 = .ok (.iconst 1, 1) := by decide +kernel
theorem dX13_isMatched_293 : decode cX13_isMatched 293 = .ok (.goto 4, 3) := by decide +kernel
theorem dX13_isMatched_296 : decode cX13_isMatched 296 = .ok (.iconst 0, 1) := by decide +kernel
theorem dX13_isMatched_297 : decode cX13_isMatched 297 = .ok (.ireturn, 1) := by decide +kernel
theorem dX13_isMatched_298 : decode cX13_isMatched 298 = .ok (.aload_n 0, 1) := by decide +kernel
theorem dX13_isMatched_299 : decode cX13_isMatched 299 = .ok (.iload_n 1, 1) := by decide +kernel
theorem dX13_isMatched_300 : decode cX13_isMatched 300 = .ok (.iload_n 2, 1) := by decide +kernel
theorem dX13_isMatched_301 : decode cX13_isMatched 301 = .ok (.invokevirtual 493, 3) := by decide +kernel
theorem dX13_isMatched_304 : decode cX13_isMatched 304 = .ok (.ireturn, 1) := by decide +kernel
theorem dX13_note_0 : decode cX13_note 0 = .ok (.aload_n 0, 1) := by decide +kernel
theorem dX13_note_1 : decode cX13_note 1 = .ok (.getfield 89, 3) := by decide +kernel
theorem dX13_note_4 : decode cX13_note 4 = .ok (.iload_n 1, 1) := by decide +kernel
theorem dX13_note_5 : decode cX13_note 5 = .ok (.iaload, 1) := by decide +kernel
theorem dX13_note_6 : decode cX13_note 6 = .ok (.tableswitch 194 1 11 #[58, 58, 58, 91, 194, 104, 130, 194, 194, 156, 169], 58) := by decide +kernel
theorem dX13_note_64 : decode cX13_note 64 = .ok (.aload_n 0, 1) := by decide +kernel
theorem dX13_note_65 : decode cX13_note 65 = .ok (.getfield 137, 3) := by decide +kernel
theorem dX13_note_68 : decode cX13_note 68 = .ok (.aload_n 0, 1) := by decide +kernel
theorem dX13_note_69 : decode cX13_note 69 = .ok (.getfield 98, 3) := by decide +kernel
theorem dX13_note_72 : decode cX13_note 72 = .ok (.iload_n 1, 1) := by decide +kernel
theorem dX13_note_73 : decode cX13_note 73 = .ok (.iaload, 1) := by decide +kernel
theorem dX13_note_74 : decode cX13_note 74 = .ok (.iload_n 2, 1) := by decide +kernel
theorem dX13_note_75 : decode cX13_note 75 = .ok (.ifCond .ne 7, 3) := by decide +kernel
theorem dX13_note_78 : decode cX13_note 78 = .ok (.iconst 1, 1) := by decide +kernel
theorem dX13_note_79 : decode cX13_note 79 = .ok (.goto 4, 3) := by decide +kernel
theorem dX13_note_82 : decode cX13_note 82 = .ok (.iconst 0, 1) := by decide +kernel
theorem dX13_note_83 : decode cX13_note 83 = .ok (.bastore, 1) := by decide +kernel
theorem dX13_note_84 : decode cX13_note 84 = .ok (.aload_n 0, 1) := by decide +kernel
theorem dX13_note_85 : decode cX13_note 85 = .ok (.getfield 140, 3) := by decide +kernel
theorem dX13_note_88 : decode cX13_note 88 = .ok (.aload_n 0, 1) := by decide +kernel
theorem dX13_note_89 : decode cX13_note 89 = .ok (.getfield 98, 3) := by decide +kernel
theorem dX13_note_92 : decode cX13_note 92 = .ok (.iload_n 1, 1) := by decide +kernel
theorem dX13_note_93 : decode cX13_note 93 = .ok (.iaload, 1) := by decide +kernel
theorem dX13_note_94 : decode cX13_note 94 = .ok (.iload_n 3, 1) := by decide +kernel
theorem dX13_note_95 : decode cX13_note 95 = .ok (.iastore, 1) := by decide +kernel
theorem dX13_note_96 : decode cX13_note 96 = .ok (.return_, 1) := by decide +kernel
theorem dX13_note_97 : decode cX13_note 97 = .ok (.aload_n 0, 1) := by decide +kernel
theorem dX13_note_98 : decode cX13_note 98 = .ok (.getfield 137, 3) := by decide +kernel
theorem dX13_note_101 : decode cX13_note 101 = .ok (.aload_n 0, 1) := by decide +kernel
theorem dX13_note_102 : decode cX13_note 102 = .ok (.getfield 98, 3) := by decide +kernel
theorem dX13_note_105 : decode cX13_note 105 = .ok (.iload_n 1, 1) := by decide +kernel
theorem dX13_note_106 : decode cX13_note 106 = .ok (.iaload, 1) := by decide +kernel
theorem dX13_note_107 : decode cX13_note 107 = .ok (.iconst 0, 1) := by decide +kernel
theorem dX13_note_108 : decode cX13_note 108 = .ok (.bastore, 1) := by decide +kernel
theorem dX13_note_109 : decode cX13_note 109 = .ok (.return_, 1) := by decide +kernel
theorem dX13_note_110 : decode cX13_note 110 = .ok (.aload_n 0, 1) := by decide +kernel
theorem dX13_note_111 : decode cX13_note 111 = .ok (.aload_n 0, 1) := by decide +kernel
theorem dX13_note_112 : decode cX13_note 112 = .ok (.getfield 92, 3) := by decide +kernel
theorem dX13_note_115 : decode cX13_note 115 = .ok (.iload_n 1, 1) := by decide +kernel
theorem dX13_note_116 : decode cX13_note 116 = .ok (.iaload, 1) := by decide +kernel
theorem dX13_note_117 : decode cX13_note 117 = .ok (.iload_n 2, 1) := by decide +kernel
theorem dX13_note_118 : decode cX13_note 118 = .ok (.iload_n 3, 1) := by decide +kernel
theorem dX13_note_119 : decode cX13_note 119 = .ok (.ifCond .eq 8, 3) := by decide +kernel
theorem dX13_note_122 : decode cX13_note 122 = .ok (.iload_n 3, 1) := by decide +kernel
theorem dX13_note_123 : decode cX13_note 123 = .ok (.iconst 1, 1) := by decide +kernel
theorem dX13_note_124 : decode cX13_note 124 = .ok (.if_icmp .ne 7, 3) := by decide +kernel
theorem dX13_note_127 : decode cX13_note 127 = .ok (.iconst 1, 1) := by decide +kernel
theorem dX13_note_128 : decode cX13_note 128 = .ok (.goto 4, 3) := by decide +kernel
theorem dX13_note_131 : decode cX13_note 131 = .ok (.iconst 3, 1) := by decide +kernel
theorem dX13_note_132 : decode cX13_note 132 = .ok (.invokevirtual 496, 3) := by decide +kernel
theorem dX13_note_135 : decode cX13_note 135 = .ok (.return_, 1) := by decide +kernel
theorem dX13_note_136 : decode cX13_note 136 = .ok (.aload_n 0, 1) := by decide +kernel
theorem dX13_note_137 : decode cX13_note 137 = .ok (.aload_n 0, 1) := by decide +kernel
theorem dX13_note_138 : decode cX13_note 138 = .ok (.getfield 92, 3) := by decide +kernel
theorem dX13_note_141 : decode cX13_note 141 = .ok (.iload_n 1, 1) := by decide +kernel
theorem dX13_note_142 : decode cX13_note 142 = .ok (.iaload, 1) := by decide +kernel
theorem dX13_note_143 : decode cX13_note 143 = .ok (.iload_n 2, 1) := by decide +kernel
theorem dX13_note_144 : decode cX13_note 144 = .ok (.iload_n 3, 1) := by decide +kernel
theorem dX13_note_145 : decode cX13_note 145 = .ok (.ifCond .eq 8, 3) := by decide +kernel
theorem dX13_note_148 : decode cX13_note 148 = .ok (.iload_n 3, 1) := by decide +kernel
theorem dX13_note_149 : decode cX13_note 149 = .ok (.iconst 2, 1) := by decide +kernel
theorem dX13_note_150 : decode cX13_note 150 = .ok (.if_icmp .ne 7, 3) := by decide +kernel
theorem dX13_note_153 : decode cX13_note 153 = .ok (.iconst 2, 1) := by decide +kernel
theorem dX13_note_154 : decode cX13_note 154 = .ok (.goto 4, 3) := by decide +kernel
theorem dX13_note_157 : decode cX13_note 157 = .ok (.iconst 3, 1) := by decide +kernel
theorem dX13_note_158 : decode cX13_note 158 = .ok (.invokevirtual 496, 3) := by decide +kernel
theorem dX13_note_161 : decode cX13_note 161 = .ok (.return_, 1) := by decide +kernel
theorem dX13_note_162 : decode cX13_note 162 = .ok (.aload_n 0, 1) := by decide +kernel
theorem dX13_note_163 : decode cX13_note 163 = .ok (.aload_n 0, 1) := by decide +kernel
theorem dX13_note_164 : decode cX13_note 164 = .ok (.getfield 92, 3) := by decide +kernel
theorem dX13_note_167 : decode cX13_note 167 = .ok (.iload_n 1, 1) := by decide +kernel
theorem dX13_note_168 : decode cX13_note 168 = .ok (.iaload, 1) := by decide +kernel
theorem dX13_note_169 : decode cX13_note 169 = .ok (.iconst 1, 1) := by decide +kernel
theorem dX13_note_170 : decode cX13_note 170 = .ok (.iload_n 3, 1) := by decide +kernel
theorem dX13_note_171 : decode cX13_note 171 = .ok (.invokevirtual 496, 3) := by decide +kernel
theorem dX13_note_174 : decode cX13_note 174 = .ok (.return_, 1) := by decide +kernel
theorem dX13_note_175 : decode cX13_note 175 = .ok (.aload_n 0, 1) := by decide +kernel
theorem dX13_note_176 : decode cX13_note 176 = .ok (.aload_n 0, 1) := by decide +kernel
theorem dX13_note_177 : decode cX13_note 177 = .ok (.getfield 92, 3) := by decide +kernel
theorem dX13_note_180 : decode cX13_note 180 = .ok (.iload_n 1, 1) := by decide +kernel
theorem dX13_note_181 : decode cX13_note 181 = .ok (.iaload, 1) := by decide +kernel
theorem dX13_note_182 : decode cX13_note 182 = .ok (.iload_n 2, 1) := by decide +kernel
theorem dX13_note_183 : decode cX13_note 183 = .ok (.iload_n 3, 1) := by decide +kernel
theorem dX13_note_184 : decode cX13_note 184 = .ok (.invokevirtual 496, 3) := by decide +kernel
theorem dX13_note_187 : decode cX13_note 187 = .ok (.aload_n 0, 1) := by decide +kernel
theorem dX13_note_188 : decode cX13_note 188 = .ok (.aload_n 0, 1) := by decide +kernel
theorem dX13_note_189 : decode cX13_note 189 = .ok (.getfield 95, 3) := by decide +kernel
theorem dX13_note_192 : decode cX13_note 192 = .ok (.iload_n 1, 1) := by decide +kernel
theorem dX13_note_193 : decode cX13_note 193 = .ok (.iaload, 1) := by decide +kernel
theorem dX13_note_194 : decode cX13_note 194 = .ok (.iconst 1, 1) := by decide +kernel
theorem dX13_note_195 : decode cX13_note 195 = .ok (.iload_n 3, 1) := by decide +kernel
theorem dX13_note_196 : decode cX13_note 196 = .ok (.invokevirtual 496, 3) := by decide +kernel
theorem dX13_note_199 : decode cX13_note 199 = .ok (.return_, 1) := by decide +kernel
theorem dX13_note_200 : decode cX13_note 200 = .ok (.aload_n 0, 1) := by decide +kernel
theorem dX13_note_201 : decode cX13_note 201 = .ok (.aload_n 0, 1) := by decide +kernel
theorem dX13_note_202 : decode cX13_note 202 = .ok (.getfield 92, 3) := by decide +kernel
theorem dX13_note_205 : decode cX13_note 205 = .ok (.iload_n 1, 1) := by decide +kernel
theorem dX13_note_206 : decode cX13_note 206 = .ok (.iaload, 1) := by decide +kernel
theorem dX13_note_207 : decode cX13_note 207 = .ok (.iload_n 2, 1) := by decide +kernel
theorem dX13_note_208 : decode cX13_note 208 = .ok (.iload_n 3, 1) := by decide +kernel
theorem dX13_note_209 : decode cX13_note 209 = .ok (.invokevirtual 496, 3) := by decide +kernel
theorem dX13_note_212 : decode cX13_note 212 = .ok (.aload_n 0, 1) := by decide +kernel
theorem dX13_note_213 : decode cX13_note 213 = .ok (.aload_n 0, 1) := by decide +kernel
theorem dX13_note_214 : decode cX13_note 214 = .ok (.getfield 95, 3) := by decide +kernel
theorem dX13_note_217 : decode cX13_note 217 = .ok (.iload_n 1, 1) := by decide +kernel
theorem dX13_note_218 : decode cX13_note 218 = .ok (.iaload, 1) := by decide +kernel
theorem dX13_note_219 : decode cX13_note 219 = .ok (.iload_n 2, 1) := by decide +kernel
theorem dX13_note_220 : decode cX13_note 220 = .ok (.iload_n 3, 1) := by decide +kernel
theorem dX13_note_221 : decode cX13_note 221 = .ok (.invokevirtual 496, 3) := by decide +kernel
theorem dX13_note_224 : decode cX13_note 224 = .ok (.return_, 1) := by decide +kernel
theorem dX13_isLeft_0 : decode cX13_isLeft 0 = .ok (.aload_n 0, 1) := by decide +kernel
theorem dX13_isLeft_1 : decode cX13_isLeft 1 = .ok (.getfield 140, 3) := by decide +kernel
theorem dX13_isLeft_4 : decode cX13_isLeft 4 = .ok (.iload_n 1, 1) := by decide +kernel
theorem dX13_isLeft_5 : decode cX13_isLeft 5 = .ok (.iaload, 1) := by decide +kernel
theorem dX13_isLeft_6 : decode cX13_isLeft 6 = .ok (.ifCond .eq 24, 3) := by decide +kernel
theorem dX13_isLeft_9 : decode cX13_isLeft 9 = .ok (.aload_n 0, 1) := by decide +kernel
theorem dX13_isLeft_10 : decode cX13_isLeft 10 = .ok (.getfield 140, 3) := by decide +kernel
theorem dX13_isLeft_13 : decode cX13_isLeft 13 = .ok (.iload_n 1, 1) := by decide +kernel
theorem dX13_isLeft_14 : decode cX13_isLeft 14 = .ok (.iaload, 1) := by decide +kernel
theorem dX13_isLeft_15 : decode cX13_isLeft 15 = .ok (.iload_n 2, 1) := by decide +kernel
theorem dX13_isLeft_16 : decode cX13_isLeft 16 = .ok (.sipush 512, 3) := by decide +kernel
theorem dX13_isLeft_19 : decode cX13_isLeft 19 = .ok (.if_icmp .ge 7, 3) := by decide +kernel
theorem dX13_isLeft_22 : decode cX13_isLeft 22 = .ok (.iconst 1, 1) := by decide +kernel
theorem dX13_isLeft_23 : decode cX13_isLeft 23 = .ok (.goto 4, 3) := by decide +kernel
theorem dX13_isLeft_26 : decode cX13_isLeft 26 = .ok (.iconst 2, 1) := by decide +kernel
theorem dX13_isLeft_27 : decode cX13_isLeft 27 = .ok (.if_icmp .ne 7, 3) := by decide +kernel
theorem dX13_isLeft_30 : decode cX13_isLeft 30 = .ok (.iconst 1, 1) := by decide +kernel
theorem dX13_isLeft_31 : decode cX13_isLeft 31 = .ok (.goto 4, 3) := by decide +kernel
theorem dX13_isLeft_34 : decode cX13_isLeft 34 = .ok (.iconst 0, 1) := by decide +kernel
theorem dX13_isLeft_35 : decode cX13_isLeft 35 = .ok (.ireturn, 1) := by decide +kernel
theorem dX13_weighed_0 : decode cX13_weighed 0 = .ok (.iconst 0, 1) := by decide +kernel
theorem dX13_weighed_1 : decode cX13_weighed 1 = .ok (.istore_n 3, 1) := by decide +kernel
theorem dX13_weighed_2 : decode cX13_weighed 2 = .ok (.iconst 0, 1) := by decide +kernel
theorem dX13_weighed_3 : decode cX13_weighed 3 = .ok (.istore 4, 2) := by decide +kernel
theorem dX13_weighed_5 : decode cX13_weighed 5 = .ok (.iload 4, 2) := by decide +kernel
theorem dX13_weighed_7 : decode cX13_weighed 7 = .ok (.aload_n 0, 1) := by decide +kernel
theorem dX13_weighed_8 : decode cX13_weighed 8 = .ok (.getfield 41, 3) := by decide +kernel
theorem dX13_weighed_11 : decode cX13_weighed 11 = .ok (.iload_n 2, 1) := by decide +kernel
theorem dX13_weighed_12 : decode cX13_weighed 12 = .ok (.iaload, 1) := by decide +kernel
theorem dX13_weighed_13 : decode cX13_weighed 13 = .ok (.if_icmp .ge 38, 3) := by decide +kernel
theorem dX13_weighed_16 : decode cX13_weighed 16 = .ok (.iload_n 3, 1) := by decide +kernel
theorem dX13_weighed_17 : decode cX13_weighed 17 = .ok (.aload_n 0, 1) := by decide +kernel
theorem dX13_weighed_18 : decode cX13_weighed 18 = .ok (.iload_n 1, 1) := by decide +kernel
theorem dX13_weighed_19 : decode cX13_weighed 19 = .ok (.iload 4, 2) := by decide +kernel
theorem dX13_weighed_21 : decode cX13_weighed 21 = .ok (.invokevirtual 500, 3) := by decide +kernel
theorem dX13_weighed_24 : decode cX13_weighed 24 = .ok (.ifCond .eq 18, 3) := by decide +kernel
theorem dX13_weighed_27 : decode cX13_weighed 27 = .ok (.aload_n 0, 1) := by decide +kernel
theorem dX13_weighed_28 : decode cX13_weighed 28 = .ok (.iload_n 1, 1) := by decide +kernel
theorem dX13_weighed_29 : decode cX13_weighed 29 = .ok (.iload_n 2, 1) := by decide +kernel
theorem dX13_weighed_30 : decode cX13_weighed 30 = .ok (.iload 4, 2) := by decide +kernel
theorem dX13_weighed_32 : decode cX13_weighed 32 = .ok (.invokevirtual 480, 3) := by decide +kernel
theorem dX13_weighed_35 : decode cX13_weighed 35 = .ok (.ifCond .eq 7, 3) := by decide +kernel
theorem dX13_weighed_38 : decode cX13_weighed 38 = .ok (.iconst 3, 1) := by decide +kernel
theorem dX13_weighed_39 : decode cX13_weighed 39 = .ok (.goto 4, 3) := by decide +kernel
theorem dX13_weighed_42 : decode cX13_weighed 42 = .ok (.iconst 0, 1) := by decide +kernel
theorem dX13_weighed_43 : decode cX13_weighed 43 = .ok (.iadd, 1) := by decide +kernel
theorem dX13_weighed_44 : decode cX13_weighed 44 = .ok (.istore_n 3, 1) := by decide +kernel
theorem dX13_weighed_45 : decode cX13_weighed 45 = .ok (.iinc 4 1, 3) := by decide +kernel
theorem dX13_weighed_48 : decode cX13_weighed 48 = .ok (.goto (-43), 3) := by decide +kernel
theorem dX13_weighed_51 : decode cX13_weighed 51 = .ok (.sipush 512, 3) := by decide +kernel
theorem dX13_weighed_54 : decode cX13_weighed 54 = .ok (.istore 4, 2) := by decide +kernel
theorem dX13_weighed_56 : decode cX13_weighed 56 = .ok (.iload 4, 2) := by decide +kernel
theorem dX13_weighed_58 : decode cX13_weighed 58 = .ok (.sipush 512, 3) := by decide +kernel
theorem dX13_weighed_61 : decode cX13_weighed 61 = .ok (.aload_n 0, 1) := by decide +kernel
theorem dX13_weighed_62 : decode cX13_weighed 62 = .ok (.getfield 44, 3) := by decide +kernel
theorem dX13_weighed_65 : decode cX13_weighed 65 = .ok (.iload_n 2, 1) := by decide +kernel
theorem dX13_weighed_66 : decode cX13_weighed 66 = .ok (.iaload, 1) := by decide +kernel
theorem dX13_weighed_67 : decode cX13_weighed 67 = .ok (.iadd, 1) := by decide +kernel
theorem dX13_weighed_68 : decode cX13_weighed 68 = .ok (.if_icmp .ge 38, 3) := by decide +kernel
theorem dX13_weighed_71 : decode cX13_weighed 71 = .ok (.iload_n 3, 1) := by decide +kernel
theorem dX13_weighed_72 : decode cX13_weighed 72 = .ok (.aload_n 0, 1) := by decide +kernel
theorem dX13_weighed_73 : decode cX13_weighed 73 = .ok (.iload_n 1, 1) := by decide +kernel
theorem dX13_weighed_74 : decode cX13_weighed 74 = .ok (.iload 4, 2) := by decide +kernel
theorem dX13_weighed_76 : decode cX13_weighed 76 = .ok (.invokevirtual 500, 3) := by decide +kernel
theorem dX13_weighed_79 : decode cX13_weighed 79 = .ok (.ifCond .eq 18, 3) := by decide +kernel
theorem dX13_weighed_82 : decode cX13_weighed 82 = .ok (.aload_n 0, 1) := by decide +kernel
theorem dX13_weighed_83 : decode cX13_weighed 83 = .ok (.iload_n 1, 1) := by decide +kernel
theorem dX13_weighed_84 : decode cX13_weighed 84 = .ok (.iload_n 2, 1) := by decide +kernel
theorem dX13_weighed_85 : decode cX13_weighed 85 = .ok (.iload 4, 2) := by decide +kernel
theorem dX13_weighed_87 : decode cX13_weighed 87 = .ok (.invokevirtual 480, 3) := by decide +kernel
theorem dX13_weighed_90 : decode cX13_weighed 90 = .ok (.ifCond .eq 7, 3) := by decide +kernel
theorem dX13_weighed_93 : decode cX13_weighed 93 = .ok (.iconst 1, 1) := by decide +kernel
theorem dX13_weighed_94 : decode cX13_weighed 94 = .ok (.goto 4, 3) := by decide +kernel
theorem dX13_weighed_97 : decode cX13_weighed 97 = .ok (.iconst 0, 1) := by decide +kernel
theorem dX13_weighed_98 : decode cX13_weighed 98 = .ok (.iadd, 1) := by decide +kernel
theorem dX13_weighed_99 : decode cX13_weighed 99 = .ok (.istore_n 3, 1) := by decide +kernel
theorem dX13_weighed_100 : decode cX13_weighed 100 = .ok (.iinc 4 1, 3) := by decide +kernel
theorem dX13_weighed_103 : decode cX13_weighed 103 = .ok (.goto (-47), 3) := by decide +kernel
theorem dX13_weighed_106 : decode cX13_weighed 106 = .ok (.iload_n 3, 1) := by decide +kernel
theorem dX13_weighed_107 : decode cX13_weighed 107 = .ok (.ireturn, 1) := by decide +kernel
theorem dX13_score_0 : decode cX13_score 0 = .ok (.iconst 0, 1) := by decide +kernel
theorem dX13_score_1 : decode cX13_score 1 = .ok (.istore_n 3, 1) := by decide +kernel
theorem dX13_score_2 : decode cX13_score 2 = .ok (.iconst 0, 1) := by decide +kernel
theorem dX13_score_3 : decode cX13_score 3 = .ok (.istore 4, 2) := by decide +kernel
theorem dX13_score_5 : decode cX13_score 5 = .ok (.iload 4, 2) := by decide +kernel
theorem dX13_score_7 : decode cX13_score 7 = .ok (.aload_n 0, 1) := by decide +kernel
theorem dX13_score_8 : decode cX13_score 8 = .ok (.getfield 439, 3) := by decide +kernel
theorem dX13_score_11 : decode cX13_score 11 = .ok (.if_icmp .ge 76, 3) := by decide +kernel
theorem dX13_score_14 : decode cX13_score 14 = .ok (.aload_n 0, 1) := by decide +kernel
theorem dX13_score_15 : decode cX13_score 15 = .ok (.getfield 137, 3) := by decide +kernel
theorem dX13_score_18 : decode cX13_score 18 = .ok (.iload 4, 2) := by decide +kernel
theorem dX13_score_20 : decode cX13_score 20 = .ok (.baload, 1) := by decide +kernel
theorem dX13_score_21 : decode cX13_score 21 = .ok (.ifCond .eq 13, 3) := by decide +kernel
theorem dX13_score_24 : decode cX13_score 24 = .ok (.aload_n 0, 1) := by decide +kernel
theorem dX13_score_25 : decode cX13_score 25 = .ok (.iload 4, 2) := by decide +kernel
theorem dX13_score_27 : decode cX13_score 27 = .ok (.iload_n 1, 1) := by decide +kernel
theorem dX13_score_28 : decode cX13_score 28 = .ok (.invokevirtual 503, 3) := by decide +kernel
theorem dX13_score_31 : decode cX13_score 31 = .ok (.goto 4, 3) := by decide +kernel
theorem dX13_score_34 : decode cX13_score 34 = .ok (.iconst 0, 1) := by decide +kernel
theorem dX13_score_35 : decode cX13_score 35 = .ok (.istore 5, 2) := by decide +kernel
theorem dX13_score_37 : decode cX13_score 37 = .ok (.iload 5, 2) := by decide +kernel
theorem dX13_score_39 : decode cX13_score 39 = .ok (.ifCond .le 42, 3) := by decide +kernel
theorem dX13_score_42 : decode cX13_score 42 = .ok (.iload_n 3, 1) := by decide +kernel
theorem dX13_score_43 : decode cX13_score 43 = .ok (.bipush 100, 2) := by decide +kernel
theorem dX13_score_45 : decode cX13_score 45 = .ok (.iload 5, 2) := by decide +kernel
theorem dX13_score_47 : decode cX13_score 47 = .ok (.imul, 1) := by decide +kernel
theorem dX13_score_48 : decode cX13_score 48 = .ok (.iload 5, 2) := by decide +kernel
theorem dX13_score_50 : decode cX13_score 50 = .ok (.iconst 1, 1) := by decide +kernel
theorem dX13_score_51 : decode cX13_score 51 = .ok (.iadd, 1) := by decide +kernel
theorem dX13_score_52 : decode cX13_score 52 = .ok (.aload_n 0, 1) := by decide +kernel
theorem dX13_score_53 : decode cX13_score 53 = .ok (.getfield 32, 3) := by decide +kernel
theorem dX13_score_56 : decode cX13_score 56 = .ok (.iload_n 1, 1) := by decide +kernel
theorem dX13_score_57 : decode cX13_score 57 = .ok (.iaload, 1) := by decide +kernel
theorem dX13_score_58 : decode cX13_score 58 = .ok (.bipush 8, 2) := by decide +kernel
theorem dX13_score_60 : decode cX13_score 60 = .ok (.idiv, 1) := by decide +kernel
theorem dX13_score_61 : decode cX13_score 61 = .ok (.iadd, 1) := by decide +kernel
theorem dX13_score_62 : decode cX13_score 62 = .ok (.idiv, 1) := by decide +kernel
theorem dX13_score_63 : decode cX13_score 63 = .ok (.bipush 16, 2) := by decide +kernel
theorem dX13_score_65 : decode cX13_score 65 = .ok (.iload_n 2, 1) := by decide +kernel
theorem dX13_score_66 : decode cX13_score 66 = .ok (.imul, 1) := by decide +kernel
theorem dX13_score_67 : decode cX13_score 67 = .ok (.aload_n 0, 1) := by decide +kernel
theorem dX13_score_68 : decode cX13_score 68 = .ok (.getfield 143, 3) := by decide +kernel
theorem dX13_score_71 : decode cX13_score 71 = .ok (.iload 4, 2) := by decide +kernel
theorem dX13_score_73 : decode cX13_score 73 = .ok (.iaload, 1) := by decide +kernel
theorem dX13_score_74 : decode cX13_score 74 = .ok (.idiv, 1) := by decide +kernel
theorem dX13_score_75 : decode cX13_score 75 = .ok (.invokestatic 282, 3) := by decide +kernel
theorem dX13_score_78 : decode cX13_score 78 = .ok (.imul, 1) := by decide +kernel
theorem dX13_score_79 : decode cX13_score 79 = .ok (.iadd, 1) := by decide +kernel
theorem dX13_score_80 : decode cX13_score 80 = .ok (.istore_n 3, 1) := by decide +kernel
theorem dX13_score_81 : decode cX13_score 81 = .ok (.iinc 4 1, 3) := by decide +kernel
theorem dX13_score_84 : decode cX13_score 84 = .ok (.goto (-79), 3) := by decide +kernel
theorem dX13_score_87 : decode cX13_score 87 = .ok (.iload_n 3, 1) := by decide +kernel
theorem dX13_score_88 : decode cX13_score 88 = .ok (.ireturn, 1) := by decide +kernel
theorem dX13_isShown_0 : decode cX13_isShown 0 = .ok (.iconst 0, 1) := by decide +kernel
theorem dX13_isShown_1 : decode cX13_isShown 1 = .ok (.istore_n 3, 1) := by decide +kernel
theorem dX13_isShown_2 : decode cX13_isShown 2 = .ok (.iload_n 3, 1) := by decide +kernel
theorem dX13_isShown_3 : decode cX13_isShown 3 = .ok (.aload_n 0, 1) := by decide +kernel
theorem dX13_isShown_4 : decode cX13_isShown 4 = .ok (.getfield 439, 3) := by decide +kernel
theorem dX13_isShown_7 : decode cX13_isShown 7 = .ok (.if_icmp .ge 39, 3) := by decide +kernel
theorem dX13_isShown_10 : decode cX13_isShown 10 = .ok (.aload_n 0, 1) := by decide +kernel
theorem dX13_isShown_11 : decode cX13_isShown 11 = .ok (.getfield 137, 3) := by decide +kernel
theorem dX13_isShown_14 : decode cX13_isShown 14 = .ok (.iload_n 3, 1) := by decide +kernel
theorem dX13_isShown_15 : decode cX13_isShown 15 = .ok (.baload, 1) := by decide +kernel
theorem dX13_isShown_16 : decode cX13_isShown 16 = .ok (.ifCond .eq 24, 3) := by decide +kernel
theorem dX13_isShown_19 : decode cX13_isShown 19 = .ok (.aload_n 0, 1) := by decide +kernel
theorem dX13_isShown_20 : decode cX13_isShown 20 = .ok (.iload_n 3, 1) := by decide +kernel
theorem dX13_isShown_21 : decode cX13_isShown 21 = .ok (.iload_n 2, 1) := by decide +kernel
theorem dX13_isShown_22 : decode cX13_isShown 22 = .ok (.invokevirtual 500, 3) := by decide +kernel
theorem dX13_isShown_25 : decode cX13_isShown 25 = .ok (.ifCond .eq 15, 3) := by decide +kernel
theorem dX13_isShown_28 : decode cX13_isShown 28 = .ok (.aload_n 0, 1) := by decide +kernel
theorem dX13_isShown_29 : decode cX13_isShown 29 = .ok (.iload_n 3, 1) := by decide +kernel
theorem dX13_isShown_30 : decode cX13_isShown 30 = .ok (.iload_n 1, 1) := by decide +kernel
theorem dX13_isShown_31 : decode cX13_isShown 31 = .ok (.iload_n 2, 1) := by decide +kernel
theorem dX13_isShown_32 : decode cX13_isShown 32 = .ok (.invokevirtual 480, 3) := by decide +kernel
theorem dX13_isShown_35 : decode cX13_isShown 35 = .ok (.ifCond .eq 5, 3) := by decide +kernel
theorem dX13_isShown_38 : decode cX13_isShown 38 = .ok (.iconst 1, 1) := by decide +kernel
theorem dX13_isShown_39 : decode cX13_isShown 39 = .ok (.ireturn, 1) := by decide +kernel
theorem dX13_isShown_40 : decode cX13_isShown 40 = .ok (.iinc 3 1, 3) := by decide +kernel
theorem dX13_isShown_43 : decode cX13_isShown 43 = .ok (.goto (-41), 3) := by decide +kernel
theorem dX13_isShown_46 : decode cX13_isShown 46 = .ok (.iconst 0, 1) := by decide +kernel
theorem dX13_isShown_47 : decode cX13_isShown 47 = .ok (.ireturn, 1) := by decide +kernel
theorem dX13_shown_0 : decode cX13_shown 0 = .ok (.iconst 0, 1) := by decide +kernel
theorem dX13_shown_1 : decode cX13_shown 1 = .ok (.istore_n 2, 1) := by decide +kernel
theorem dX13_shown_2 : decode cX13_shown 2 = .ok (.iload_n 2, 1) := by decide +kernel
theorem dX13_shown_3 : decode cX13_shown 3 = .ok (.sipush 1024, 3) := by decide +kernel
theorem dX13_shown_6 : decode cX13_shown 6 = .ok (.if_icmp .ge 63, 3) := by decide +kernel
theorem dX13_shown_9 : decode cX13_shown 9 = .ok (.aload_n 0, 1) := by decide +kernel
theorem dX13_shown_10 : decode cX13_shown 10 = .ok (.getfield 146, 3) := by decide +kernel
theorem dX13_shown_13 : decode cX13_shown 13 = .ok (.iload_n 2, 1) := by decide +kernel
theorem dX13_shown_14 : decode cX13_shown 14 = .ok (.iload_n 2, 1) := by decide +kernel
theorem dX13_shown_15 : decode cX13_shown 15 = .ok (.sipush 512, 3) := by decide +kernel
theorem dX13_shown_18 : decode cX13_shown 18 = .ok (.if_icmp .ge 16, 3) := by decide +kernel
theorem dX13_shown_21 : decode cX13_shown 21 = .ok (.iload_n 2, 1) := by decide +kernel
theorem dX13_shown_22 : decode cX13_shown 22 = .ok (.aload_n 0, 1) := by decide +kernel
theorem dX13_shown_23 : decode cX13_shown 23 = .ok (.getfield 41, 3) := by decide +kernel
theorem dX13_shown_26 : decode cX13_shown 26 = .ok (.iload_n 1, 1) := by decide +kernel
theorem dX13_shown_27 : decode cX13_shown 27 = .ok (.iaload, 1) := by decide +kernel
theorem dX13_shown_28 : decode cX13_shown 28 = .ok (.if_icmp .ge 33, 3) := by decide +kernel
theorem dX13_shown_31 : decode cX13_shown 31 = .ok (.goto 17, 3) := by decide +kernel
theorem dX13_shown_34 : decode cX13_shown 34 = .ok (.iload_n 2, 1) := by decide +kernel
theorem dX13_shown_35 : decode cX13_shown 35 = .ok (.sipush 512, 3) := by decide +kernel
theorem dX13_shown_38 : decode cX13_shown 38 = .ok (.aload_n 0, 1) := by decide +kernel
theorem dX13_shown_39 : decode cX13_shown 39 = .ok (.getfield 44, 3) := by decide +kernel
theorem dX13_shown_42 : decode cX13_shown 42 = .ok (.iload_n 1, 1) := by decide +kernel
theorem dX13_shown_43 : decode cX13_shown 43 = .ok (.iaload, 1) := by decide +kernel
theorem dX13_shown_44 : decode cX13_shown 44 = .ok (.iadd, 1) := by decide +kernel
theorem dX13_shown_45 : decode cX13_shown 45 = .ok (.if_icmp .ge 16, 3) := by decide +kernel
theorem dX13_shown_48 : decode cX13_shown 48 = .ok (.aload_n 0, 1) := by decide +kernel
theorem dX13_shown_49 : decode cX13_shown 49 = .ok (.iload_n 1, 1) := by decide +kernel
theorem dX13_shown_50 : decode cX13_shown 50 = .ok (.iload_n 2, 1) := by decide +kernel
theorem dX13_shown_51 : decode cX13_shown 51 = .ok (.invokevirtual 506, 3) := by decide +kernel
theorem dX13_shown_54 : decode cX13_shown 54 = .ok (.ifCond .eq 7, 3) := by decide +kernel
theorem dX13_shown_57 : decode cX13_shown 57 = .ok (.iconst 1, 1) := by decide +kernel
theorem dX13_shown_58 : decode cX13_shown 58 = .ok (.goto 4, 3) := by decide +kernel
theorem dX13_shown_61 : decode cX13_shown 61 = .ok (.iconst 0, 1) := by decide +kernel
theorem dX13_shown_62 : decode cX13_shown 62 = .ok (.bastore, 1) := by decide +kernel
theorem dX13_shown_63 : decode cX13_shown 63 = .ok (.iinc 2 1, 3) := by decide +kernel
theorem dX13_shown_66 : decode cX13_shown 66 = .ok (.goto (-64), 3) := by decide +kernel
theorem dX13_shown_69 : decode cX13_shown 69 = .ok (.iconst (-1), 1) := by decide +kernel
theorem dX13_shown_70 : decode cX13_shown 70 = .ok (.istore_n 2, 1) := by decide +kernel
theorem dX13_shown_71 : decode cX13_shown 71 = .ok (.iconst 0, 1) := by decide +kernel
theorem dX13_shown_72 : decode cX13_shown 72 = .ok (.istore_n 3, 1) := by decide +kernel
theorem dX13_shown_73 : decode cX13_shown 73 = .ok (.iconst 0, 1) := by decide +kernel
theorem dX13_shown_74 : decode cX13_shown 74 = .ok (.istore 4, 2) := by decide +kernel
theorem dX13_shown_76 : decode cX13_shown 76 = .ok (.iload 4, 2) := by decide +kernel
theorem dX13_shown_78 : decode cX13_shown 78 = .ok (.sipush 1024, 3) := by decide +kernel
theorem dX13_shown_81 : decode cX13_shown 81 = .ok (.if_icmp .ge 76, 3) := by decide +kernel
theorem dX13_shown_84 : decode cX13_shown 84 = .ok (.aload_n 0, 1) := by decide +kernel
theorem dX13_shown_85 : decode cX13_shown 85 = .ok (.getfield 146, 3) := by decide +kernel
theorem dX13_shown_88 : decode cX13_shown 88 = .ok (.iload 4, 2) := by decide +kernel
theorem dX13_shown_90 : decode cX13_shown 90 = .ok (.baload, 1) := by decide +kernel
theorem dX13_shown_91 : decode cX13_shown 91 = .ok (.ifCond .ne 6, 3) := by decide +kernel
theorem dX13_shown_94 : decode cX13_shown 94 = .ok (.goto 57, 3) := by decide +kernel
theorem dX13_shown_97 : decode cX13_shown 97 = .ok (.iconst 0, 1) := by decide +kernel
theorem dX13_shown_98 : decode cX13_shown 98 = .ok (.istore 5, 2) := by decide +kernel
theorem dX13_shown_100 : decode cX13_shown 100 = .ok (.iconst 0, 1) := by decide +kernel
theorem dX13_shown_101 : decode cX13_shown 101 = .ok (.istore 6, 2) := by decide +kernel
theorem dX13_shown_103 : decode cX13_shown 103 = .ok (.iload 6, 2) := by decide +kernel
theorem dX13_shown_105 : decode cX13_shown 105 = .ok (.bipush 10, 2) := by decide +kernel
theorem dX13_shown_107 : decode cX13_shown 107 = .ok (.if_icmp .ge 32, 3) := by decide +kernel
theorem dX13_shown_110 : decode cX13_shown 110 = .ok (.iload 5, 2) := by decide +kernel
theorem dX13_shown_112 : decode cX13_shown 112 = .ok (.aload_n 0, 1) := by decide +kernel
theorem dX13_shown_113 : decode cX13_shown 113 = .ok (.getfield 146, 3) := by decide +kernel
theorem dX13_shown_116 : decode cX13_shown 116 = .ok (.iload 4, 2) := by decide +kernel
theorem dX13_shown_118 : decode cX13_shown 118 = .ok (.iload 6, 2) := by decide +kernel
theorem dX13_shown_120 : decode cX13_shown 120 = .ok (.iadd, 1) := by decide +kernel
theorem dX13_shown_121 : decode cX13_shown 121 = .ok (.baload, 1) := by decide +kernel
theorem dX13_shown_122 : decode cX13_shown 122 = .ok (.ifCond .eq 7, 3) := by decide +kernel
theorem dX13_shown_125 : decode cX13_shown 125 = .ok (.iconst 1, 1) := by decide +kernel
theorem dX13_shown_126 : decode cX13_shown 126 = .ok (.goto 4, 3) := by decide +kernel
theorem dX13_shown_129 : decode cX13_shown 129 = .ok (.iconst 0, 1) := by decide +kernel
theorem dX13_shown_130 : decode cX13_shown 130 = .ok (.iadd, 1) := by decide +kernel
theorem dX13_shown_131 : decode cX13_shown 131 = .ok (.istore 5, 2) := by decide +kernel
theorem dX13_shown_133 : decode cX13_shown 133 = .ok (.iinc 6 1, 3) := by decide +kernel
theorem dX13_shown_136 : decode cX13_shown 136 = .ok (.goto (-33), 3) := by decide +kernel
theorem dX13_shown_139 : decode cX13_shown 139 = .ok (.iload 5, 2) := by decide +kernel
theorem dX13_shown_141 : decode cX13_shown 141 = .ok (.iload_n 3, 1) := by decide +kernel
theorem dX13_shown_142 : decode cX13_shown 142 = .ok (.if_icmp .le 9, 3) := by decide +kernel
theorem dX13_shown_145 : decode cX13_shown 145 = .ok (.iload 5, 2) := by decide +kernel
theorem dX13_shown_147 : decode cX13_shown 147 = .ok (.istore_n 3, 1) := by decide +kernel
theorem dX13_shown_148 : decode cX13_shown 148 = .ok (.iload 4, 2) := by decide +kernel
theorem dX13_shown_150 : decode cX13_shown 150 = .ok (.istore_n 2, 1) := by decide +kernel
theorem dX13_shown_151 : decode cX13_shown 151 = .ok (.iinc 4 1, 3) := by decide +kernel
theorem dX13_shown_154 : decode cX13_shown 154 = .ok (.goto (-78), 3) := by decide +kernel
theorem dX13_shown_157 : decode cX13_shown 157 = .ok (.iload_n 2, 1) := by decide +kernel
theorem dX13_shown_158 : decode cX13_shown 158 = .ok (.ireturn, 1) := by decide +kernel
theorem dX13_search_0 : decode cX13_search 0 = .ok (.aload_n 0, 1) := by decide +kernel
theorem dX13_search_1 : decode cX13_search 1 = .ok (.iconst 0, 1) := by decide +kernel
theorem dX13_search_2 : decode cX13_search 2 = .ok (.putfield 170, 3) := by decide +kernel
theorem dX13_search_5 : decode cX13_search 5 = .ok (.aload_n 0, 1) := by decide +kernel
theorem dX13_search_6 : decode cX13_search 6 = .ok (.aload_n 0, 1) := by decide +kernel
theorem dX13_search_7 : decode cX13_search 7 = .ok (.getfield 173, 3) := by decide +kernel
theorem dX13_search_10 : decode cX13_search 10 = .ok (.putfield 340, 3) := by decide +kernel
theorem dX13_search_13 : decode cX13_search 13 = .ok (.aload_n 0, 1) := by decide +kernel
theorem dX13_search_14 : decode cX13_search 14 = .ok (.iconst 0, 1) := by decide +kernel
theorem dX13_search_15 : decode cX13_search 15 = .ok (.putfield 173, 3) := by decide +kernel
theorem dX13_search_18 : decode cX13_search 18 = .ok (.aload_n 0, 1) := by decide +kernel
theorem dX13_search_19 : decode cX13_search 19 = .ok (.iconst 0, 1) := by decide +kernel
theorem dX13_search_20 : decode cX13_search 20 = .ok (.putfield 343, 3) := by decide +kernel
theorem dX13_search_23 : decode cX13_search 23 = .ok (.aload_n 0, 1) := by decide +kernel
theorem dX13_search_24 : decode cX13_search 24 = .ok (.iconst 0, 1) := by decide +kernel
theorem dX13_search_25 : decode cX13_search 25 = .ok (.putfield 374, 3) := by decide +kernel
theorem dX13_search_28 : decode cX13_search 28 = .ok (.aload_n 0, 1) := by decide +kernel
theorem dX13_search_29 : decode cX13_search 29 = .ok (.iconst 0, 1) := by decide +kernel
theorem dX13_search_30 : decode cX13_search 30 = .ok (.putfield 439, 3) := by decide +kernel
theorem dX13_search_33 : decode cX13_search 33 = .ok (.aload_n 0, 1) := by decide +kernel
theorem dX13_search_34 : decode cX13_search 34 = .ok (.iconst 0, 1) := by decide +kernel
theorem dX13_search_35 : decode cX13_search 35 = .ok (.putfield 442, 3) := by decide +kernel
theorem dX13_search_38 : decode cX13_search 38 = .ok (.aload_n 0, 1) := by decide +kernel
theorem dX13_search_39 : decode cX13_search 39 = .ok (.iconst 0, 1) := by decide +kernel
theorem dX13_search_40 : decode cX13_search 40 = .ok (.putfield 454, 3) := by decide +kernel
theorem dX13_search_43 : decode cX13_search 43 = .ok (.aload_n 0, 1) := by decide +kernel
theorem dX13_search_44 : decode cX13_search 44 = .ok (.iconst 0, 1) := by decide +kernel
theorem dX13_search_45 : decode cX13_search 45 = .ok (.putfield 377, 3) := by decide +kernel
theorem dX13_search_48 : decode cX13_search 48 = .ok (.aload_n 0, 1) := by decide +kernel
theorem dX13_search_49 : decode cX13_search 49 = .ok (.iconst 0, 1) := by decide +kernel
theorem dX13_search_50 : decode cX13_search 50 = .ok (.putfield 424, 3) := by decide +kernel
theorem dX13_search_53 : decode cX13_search 53 = .ok (.aload_n 0, 1) := by decide +kernel
theorem dX13_search_54 : decode cX13_search 54 = .ok (.iconst 0, 1) := by decide +kernel
theorem dX13_search_55 : decode cX13_search 55 = .ok (.putfield 418, 3) := by decide +kernel
theorem dX13_search_58 : decode cX13_search 58 = .ok (.aload_n 0, 1) := by decide +kernel
theorem dX13_search_59 : decode cX13_search 59 = .ok (.iconst 0, 1) := by decide +kernel
theorem dX13_search_60 : decode cX13_search 60 = .ok (.putfield 509, 3) := by decide +kernel
theorem dX13_search_63 : decode cX13_search 63 = .ok (.aload_n 0, 1) := by decide +kernel
theorem dX13_search_64 : decode cX13_search 64 = .ok (.invokevirtual 383, 3) := by decide +kernel
theorem dX13_search_67 : decode cX13_search 67 = .ok (.aload_n 0, 1) := by decide +kernel
theorem dX13_search_68 : decode cX13_search 68 = .ok (.invokevirtual 427, 3) := by decide +kernel
theorem dX13_search_71 : decode cX13_search 71 = .ok (.istore_n 1, 1) := by decide +kernel
theorem dX13_search_72 : decode cX13_search 72 = .ok (.aload_n 0, 1) := by decide +kernel
theorem dX13_search_73 : decode cX13_search 73 = .ok (.getfield 352, 3) := by decide +kernel
theorem dX13_search_76 : decode cX13_search 76 = .ok (.ifCond .eq 13, 3) := by decide +kernel
theorem dX13_search_79 : decode cX13_search 79 = .ok (.aload_n 0, 1) := by decide +kernel
theorem dX13_search_80 : decode cX13_search 80 = .ok (.iconst 1, 1) := by decide +kernel
theorem dX13_search_81 : decode cX13_search 81 = .ok (.aload_n 0, 1) := by decide +kernel
theorem dX13_search_82 : decode cX13_search 82 = .ok (.getfield 349, 3) := by decide +kernel
theorem dX13_search_85 : decode cX13_search 85 = .ok (.invokevirtual 402, 3) := by decide +kernel
theorem dX13_search_88 : decode cX13_search 88 = .ok (.athrow, 1) := by decide +kernel
theorem dX13_search_89 : decode cX13_search 89 = .ok (.goto 26, 3) := by decide +kernel
theorem dX13_search_92 : decode cX13_search 92 = .ok (.astore_n 2, 1) := by decide +kernel
theorem dX13_search_93 : decode cX13_search 93 = .ok (.aload_n 0, 1) := by decide +kernel
theorem dX13_search_94 : decode cX13_search 94 = .ok (.iconst 0, 1) := by decide +kernel
theorem dX13_search_95 : decode cX13_search 95 = .ok (.putfield 377, 3) := by decide +kernel
theorem dX13_search_98 : decode cX13_search 98 = .ok (.sipush 1000, 3) := by decide +kernel
theorem dX13_search_101 : decode cX13_search 101 = .ok (.aload_n 0, 1) := by decide +kernel
theorem dX13_search_102 : decode cX13_search 102 = .ok (.getfield 334, 3) := by decide +kernel
theorem dX13_search_105 : decode cX13_search 105 = .ok (.imul, 1) := by decide +kernel
theorem dX13_search_106 : decode cX13_search 106 = .ok (.aload_n 0, 1) := by decide +kernel
theorem dX13_search_107 : decode cX13_search 107 = .ok (.getfield 337, 3) := by decide +kernel
theorem dX13_search_110 : decode cX13_search 110 = .ok (.iadd, 1) := by decide +kernel
theorem dX13_search_111 : decode cX13_search 111 = .ok (.iconst 1, 1) := by decide +kernel
theorem dX13_search_112 : decode cX13_search 112 = .ok (.iadd, 1) := by decide +kernel
theorem dX13_search_113 : decode cX13_search 113 = .ok (.ineg, 1) := by decide +kernel
theorem dX13_search_114 : decode cX13_search 114 = .ok (.ireturn, 1) := by decide +kernel
theorem dX13_search_115 : decode cX13_search 115 = .ok (.aload_n 0, 1) := by decide +kernel
theorem dX13_search_116 : decode cX13_search 116 = .ok (.invokevirtual 512, 3) := by decide +kernel
theorem dX13_search_119 : decode cX13_search 119 = .ok (.aload_n 0, 1) := by decide +kernel
theorem dX13_search_120 : decode cX13_search 120 = .ok (.iload_n 1, 1) := by decide +kernel
theorem dX13_search_121 : decode cX13_search 121 = .ok (.iconst 0, 1) := by decide +kernel
theorem dX13_search_122 : decode cX13_search 122 = .ok (.iconst 0, 1) := by decide +kernel
theorem dX13_search_123 : decode cX13_search 123 = .ok (.invokevirtual 496, 3) := by decide +kernel
theorem dX13_search_126 : decode cX13_search 126 = .ok (.aload_n 0, 1) := by decide +kernel
theorem dX13_search_127 : decode cX13_search 127 = .ok (.invokevirtual 325, 3) := by decide +kernel
theorem dX13_search_130 : decode cX13_search 130 = .ok (.istore_n 2, 1) := by decide +kernel
theorem dX13_search_131 : decode cX13_search 131 = .ok (.iconst 0, 1) := by decide +kernel
theorem dX13_search_132 : decode cX13_search 132 = .ok (.istore_n 3, 1) := by decide +kernel
theorem dX13_search_133 : decode cX13_search 133 = .ok (.iload_n 3, 1) := by decide +kernel
theorem dX13_search_134 : decode cX13_search 134 = .ok (.aload_n 0, 1) := by decide +kernel
theorem dX13_search_135 : decode cX13_search 135 = .ok (.getfield 439, 3) := by decide +kernel
theorem dX13_search_138 : decode cX13_search 138 = .ok (.if_icmp .ge 77, 3) := by decide +kernel
theorem dX13_search_141 : decode cX13_search 141 = .ok (.aload_n 0, 1) := by decide +kernel
theorem dX13_search_142 : decode cX13_search 142 = .ok (.getfield 143, 3) := by decide +kernel
theorem dX13_search_145 : decode cX13_search 145 = .ok (.iload_n 3, 1) := by decide +kernel
theorem dX13_search_146 : decode cX13_search 146 = .ok (.iconst 0, 1) := by decide +kernel
theorem dX13_search_147 : decode cX13_search 147 = .ok (.iastore, 1) := by decide +kernel
theorem dX13_search_148 : decode cX13_search 148 = .ok (.iconst 0, 1) := by decide +kernel
theorem dX13_search_149 : decode cX13_search 149 = .ok (.istore 4, 2) := by decide +kernel
theorem dX13_search_151 : decode cX13_search 151 = .ok (.iload 4, 2) := by decide +kernel
theorem dX13_search_153 : decode cX13_search 153 = .ok (.aload_n 0, 1) := by decide +kernel
theorem dX13_search_154 : decode cX13_search 154 = .ok (.getfield 222, 3) := by decide +kernel
theorem dX13_search_157 : decode cX13_search 157 = .ok (.if_icmp .ge 52, 3) := by decide +kernel
theorem dX13_search_160 : decode cX13_search 160 = .ok (.aload_n 0, 1) := by decide +kernel
theorem dX13_search_161 : decode cX13_search 161 = .ok (.getfield 137, 3) := by decide +kernel
theorem dX13_search_164 : decode cX13_search 164 = .ok (.iload_n 3, 1) := by decide +kernel
theorem dX13_search_165 : decode cX13_search 165 = .ok (.baload, 1) := by decide +kernel
theorem dX13_search_166 : decode cX13_search 166 = .ok (.ifCond .eq 43, 3) := by decide +kernel
theorem dX13_search_169 : decode cX13_search 169 = .ok (.aload_n 0, 1) := by decide +kernel
theorem dX13_search_170 : decode cX13_search 170 = .ok (.getfield 143, 3) := by decide +kernel
theorem dX13_search_173 : decode cX13_search 173 = .ok (.iload_n 3, 1) := by decide +kernel
theorem dX13_search_174 : decode cX13_search 174 = .ok (.dup2, 1) := by decide +kernel
theorem dX13_search_175 : decode cX13_search 175 = .ok (.iaload, 1) := by decide +kernel
theorem dX13_search_176 : decode cX13_search 176 = .ok (.aload_n 0, 1) := by decide +kernel
theorem dX13_search_177 : decode cX13_search 177 = .ok (.getfield 25, 3) := by decide +kernel
theorem dX13_search_180 : decode cX13_search 180 = .ok (.iload 4, 2) := by decide +kernel
theorem dX13_search_182 : decode cX13_search 182 = .ok (.baload, 1) := by decide +kernel
theorem dX13_search_183 : decode cX13_search 183 = .ok (.ifCond .eq 17, 3) := by decide +kernel
theorem dX13_search_186 : decode cX13_search 186 = .ok (.aload_n 0, 1) := by decide +kernel
theorem dX13_search_187 : decode cX13_search 187 = .ok (.iload_n 3, 1) := by decide +kernel
theorem dX13_search_188 : decode cX13_search 188 = .ok (.iload 4, 2) := by decide +kernel
theorem dX13_search_190 : decode cX13_search 190 = .ok (.invokevirtual 503, 3) := by decide +kernel
theorem dX13_search_193 : decode cX13_search 193 = .ok (.ifCond .le 7, 3) := by decide +kernel
theorem dX13_search_196 : decode cX13_search 196 = .ok (.iconst 1, 1) := by decide +kernel
theorem dX13_search_197 : decode cX13_search 197 = .ok (.goto 4, 3) := by decide +kernel
theorem dX13_search_200 : decode cX13_search 200 = .ok (.iconst 0, 1) := by decide +kernel
theorem dX13_search_201 : decode cX13_search 201 = .ok (.iadd, 1) := by decide +kernel
theorem dX13_search_202 : decode cX13_search 202 = .ok (.iastore, 1) := by decide +kernel
theorem dX13_search_203 : decode cX13_search 203 = .ok (.iinc 4 1, 3) := by decide +kernel
theorem dX13_search_206 : decode cX13_search 206 = .ok (.goto (-55), 3) := by decide +kernel
theorem dX13_search_209 : decode cX13_search 209 = .ok (.iinc 3 1, 3) := by decide +kernel
theorem dX13_search_212 : decode cX13_search 212 = .ok (.goto (-79), 3) := by decide +kernel
theorem dX13_search_215 : decode cX13_search 215 = .ok (.iconst 0, 1) := by decide +kernel
theorem dX13_search_216 : decode cX13_search 216 = .ok (.istore_n 3, 1) := by decide +kernel
theorem dX13_search_217 : decode cX13_search 217 = .ok (.iload_n 3, 1) := by decide +kernel
theorem dX13_search_218 : decode cX13_search 218 = .ok (.aload_n 0, 1) := by decide +kernel
theorem dX13_search_219 : decode cX13_search 219 = .ok (.getfield 222, 3) := by decide +kernel
theorem dX13_search_222 : decode cX13_search 222 = .ok (.if_icmp .ge 38, 3) := by decide +kernel
theorem dX13_search_225 : decode cX13_search 225 = .ok (.aload_n 0, 1) := by decide +kernel
theorem dX13_search_226 : decode cX13_search 226 = .ok (.getfield 25, 3) := by decide +kernel
theorem dX13_search_229 : decode cX13_search 229 = .ok (.iload_n 3, 1) := by decide +kernel
theorem dX13_search_230 : decode cX13_search 230 = .ok (.baload, 1) := by decide +kernel
theorem dX13_search_231 : decode cX13_search 231 = .ok (.ifCond .eq 23, 3) := by decide +kernel
theorem dX13_search_234 : decode cX13_search 234 = .ok (.aload_n 0, 1) := by decide +kernel
theorem dX13_search_235 : decode cX13_search 235 = .ok (.iload_n 1, 1) := by decide +kernel
theorem dX13_search_236 : decode cX13_search 236 = .ok (.iload_n 3, 1) := by decide +kernel
theorem dX13_search_237 : decode cX13_search 237 = .ok (.invokevirtual 490, 3) := by decide +kernel
theorem dX13_search_240 : decode cX13_search 240 = .ok (.ifCond .eq 14, 3) := by decide +kernel
theorem dX13_search_243 : decode cX13_search 243 = .ok (.aload_n 0, 1) := by decide +kernel
theorem dX13_search_244 : decode cX13_search 244 = .ok (.iload_n 3, 1) := by decide +kernel
theorem dX13_search_245 : decode cX13_search 245 = .ok (.aload_n 0, 1) := by decide +kernel
theorem dX13_search_246 : decode cX13_search 246 = .ok (.iload_n 3, 1) := by decide +kernel
theorem dX13_search_247 : decode cX13_search 247 = .ok (.iload_n 2, 1) := by decide +kernel
theorem dX13_search_248 : decode cX13_search 248 = .ok (.invokevirtual 515, 3) := by decide +kernel
theorem dX13_search_251 : decode cX13_search 251 = .ok (.invokevirtual 518, 3) := by decide +kernel
theorem dX13_search_254 : decode cX13_search 254 = .ok (.iinc 3 1, 3) := by decide +kernel
theorem dX13_search_257 : decode cX13_search 257 = .ok (.goto (-40), 3) := by decide +kernel
theorem dX13_search_260 : decode cX13_search 260 = .ok (.aload_n 0, 1) := by decide +kernel
theorem dX13_search_261 : decode cX13_search 261 = .ok (.getfield 509, 3) := by decide +kernel
theorem dX13_search_264 : decode cX13_search 264 = .ok (.ireturn, 1) := by decide +kernel
theorem dX13_take_0 : decode cX13_take 0 = .ok (.aload_n 0, 1) := by decide +kernel
theorem dX13_take_1 : decode cX13_take 1 = .ok (.getfield 149, 3) := by decide +kernel
theorem dX13_take_4 : decode cX13_take 4 = .ok (.aload_n 0, 1) := by decide +kernel
theorem dX13_take_5 : decode cX13_take 5 = .ok (.getfield 509, 3) := by decide +kernel
theorem dX13_take_8 : decode cX13_take 8 = .ok (.iload_n 1, 1) := by decide +kernel
theorem dX13_take_9 : decode cX13_take 9 = .ok (.iastore, 1) := by decide +kernel
theorem dX13_take_10 : decode cX13_take 10 = .ok (.aload_n 0, 1) := by decide +kernel
theorem dX13_take_11 : decode cX13_take 11 = .ok (.getfield 509, 3) := by decide +kernel
theorem dX13_take_14 : decode cX13_take 14 = .ok (.istore_n 3, 1) := by decide +kernel
theorem dX13_take_15 : decode cX13_take 15 = .ok (.iload_n 3, 1) := by decide +kernel
theorem dX13_take_16 : decode cX13_take 16 = .ok (.ifCond .le 63, 3) := by decide +kernel
theorem dX13_take_19 : decode cX13_take 19 = .ok (.aload_n 0, 1) := by decide +kernel
theorem dX13_take_20 : decode cX13_take 20 = .ok (.getfield 155, 3) := by decide +kernel
theorem dX13_take_23 : decode cX13_take 23 = .ok (.iload_n 3, 1) := by decide +kernel
theorem dX13_take_24 : decode cX13_take 24 = .ok (.iconst 1, 1) := by decide +kernel
theorem dX13_take_25 : decode cX13_take 25 = .ok (.isub, 1) := by decide +kernel
theorem dX13_take_26 : decode cX13_take 26 = .ok (.iaload, 1) := by decide +kernel
theorem dX13_take_27 : decode cX13_take 27 = .ok (.iload_n 2, 1) := by decide +kernel
theorem dX13_take_28 : decode cX13_take 28 = .ok (.if_icmp .ge 51, 3) := by decide +kernel
theorem dX13_take_31 : decode cX13_take 31 = .ok (.aload_n 0, 1) := by decide +kernel
theorem dX13_take_32 : decode cX13_take 32 = .ok (.getfield 152, 3) := by decide +kernel
theorem dX13_take_35 : decode cX13_take 35 = .ok (.iload_n 3, 1) := by decide +kernel
theorem dX13_take_36 : decode cX13_take 36 = .ok (.aload_n 0, 1) := by decide +kernel
theorem dX13_take_37 : decode cX13_take 37 = .ok (.getfield 152, 3) := by decide +kernel
theorem dX13_take_40 : decode cX13_take 40 = .ok (.iload_n 3, 1) := by decide +kernel
theorem dX13_take_41 : decode cX13_take 41 = .ok (.iconst 1, 1) := by decide +kernel
theorem dX13_take_42 : decode cX13_take 42 = .ok (.isub, 1) := by decide +kernel
theorem dX13_take_43 : decode cX13_take 43 = .ok (.iaload, 1) := by decide +kernel
theorem dX13_take_44 : decode cX13_take 44 = .ok (.iastore, 1) := by decide +kernel
theorem dX13_take_45 : decode cX13_take 45 = .ok (.aload_n 0, 1) := by decide +kernel
theorem dX13_take_46 : decode cX13_take 46 = .ok (.getfield 155, 3) := by decide +kernel
theorem dX13_take_49 : decode cX13_take 49 = .ok (.iload_n 3, 1) := by decide +kernel
theorem dX13_take_50 : decode cX13_take 50 = .ok (.aload_n 0, 1) := by decide +kernel
theorem dX13_take_51 : decode cX13_take 51 = .ok (.getfield 155, 3) := by decide +kernel
theorem dX13_take_54 : decode cX13_take 54 = .ok (.iload_n 3, 1) := by decide +kernel
theorem dX13_take_55 : decode cX13_take 55 = .ok (.iconst 1, 1) := by decide +kernel
theorem dX13_take_56 : decode cX13_take 56 = .ok (.isub, 1) := by decide +kernel
theorem dX13_take_57 : decode cX13_take 57 = .ok (.iaload, 1) := by decide +kernel
theorem dX13_take_58 : decode cX13_take 58 = .ok (.iastore, 1) := by decide +kernel
theorem dX13_take_59 : decode cX13_take 59 = .ok (.aload_n 0, 1) := by decide +kernel
theorem dX13_take_60 : decode cX13_take 60 = .ok (.getfield 158, 3) := by decide +kernel
theorem dX13_take_63 : decode cX13_take 63 = .ok (.iload_n 3, 1) := by decide +kernel
theorem dX13_take_64 : decode cX13_take 64 = .ok (.aload_n 0, 1) := by decide +kernel
theorem dX13_take_65 : decode cX13_take 65 = .ok (.getfield 158, 3) := by decide +kernel
theorem dX13_take_68 : decode cX13_take 68 = .ok (.iload_n 3, 1) := by decide +kernel
theorem dX13_take_69 : decode cX13_take 69 = .ok (.iconst 1, 1) := by decide +kernel
theorem dX13_take_70 : decode cX13_take 70 = .ok (.isub, 1) := by decide +kernel
theorem dX13_take_71 : decode cX13_take 71 = .ok (.iaload, 1) := by decide +kernel
theorem dX13_take_72 : decode cX13_take 72 = .ok (.iastore, 1) := by decide +kernel
theorem dX13_take_73 : decode cX13_take 73 = .ok (.iinc 3 (-1), 3) := by decide +kernel
theorem dX13_take_76 : decode cX13_take 76 = .ok (.goto (-61), 3) := by decide +kernel
theorem dX13_take_79 : decode cX13_take 79 = .ok (.aload_n 0, 1) := by decide +kernel
theorem dX13_take_80 : decode cX13_take 80 = .ok (.getfield 152, 3) := by decide +kernel
theorem dX13_take_83 : decode cX13_take 83 = .ok (.iload_n 3, 1) := by decide +kernel
theorem dX13_take_84 : decode cX13_take 84 = .ok (.iload_n 1, 1) := by decide +kernel
theorem dX13_take_85 : decode cX13_take 85 = .ok (.iastore, 1) := by decide +kernel
theorem dX13_take_86 : decode cX13_take 86 = .ok (.aload_n 0, 1) := by decide +kernel
theorem dX13_take_87 : decode cX13_take 87 = .ok (.getfield 155, 3) := by decide +kernel
theorem dX13_take_90 : decode cX13_take 90 = .ok (.iload_n 3, 1) := by decide +kernel
theorem dX13_take_91 : decode cX13_take 91 = .ok (.iload_n 2, 1) := by decide +kernel
theorem dX13_take_92 : decode cX13_take 92 = .ok (.iastore, 1) := by decide +kernel
theorem dX13_take_93 : decode cX13_take 93 = .ok (.aload_n 0, 1) := by decide +kernel
theorem dX13_take_94 : decode cX13_take 94 = .ok (.getfield 158, 3) := by decide +kernel
theorem dX13_take_97 : decode cX13_take 97 = .ok (.iload_n 3, 1) := by decide +kernel
theorem dX13_take_98 : decode cX13_take 98 = .ok (.aload_n 0, 1) := by decide +kernel
theorem dX13_take_99 : decode cX13_take 99 = .ok (.iload_n 1, 1) := by decide +kernel
theorem dX13_take_100 : decode cX13_take 100 = .ok (.invokevirtual 521, 3) := by decide +kernel
theorem dX13_take_103 : decode cX13_take 103 = .ok (.iastore, 1) := by decide +kernel
theorem dX13_take_104 : decode cX13_take 104 = .ok (.aload_n 0, 1) := by decide +kernel
theorem dX13_take_105 : decode cX13_take 105 = .ok (.dup, 1) := by decide +kernel
theorem dX13_take_106 : decode cX13_take 106 = .ok (.getfield 509, 3) := by decide +kernel
theorem dX13_take_109 : decode cX13_take 109 = .ok (.iconst 1, 1) := by decide +kernel
theorem dX13_take_110 : decode cX13_take 110 = .ok (.iadd, 1) := by decide +kernel
theorem dX13_take_111 : decode cX13_take 111 = .ok (.putfield 509, 3) := by decide +kernel
theorem dX13_take_114 : decode cX13_take 114 = .ok (.return_, 1) := by decide +kernel
theorem dX13_hit_0 : decode cX13_hit 0 = .ok (.aload_n 0, 1) := by decide +kernel
theorem dX13_hit_1 : decode cX13_hit 1 = .ok (.iconst 0, 1) := by decide +kernel
theorem dX13_hit_2 : decode cX13_hit 2 = .ok (.putfield 170, 3) := by decide +kernel
theorem dX13_hit_5 : decode cX13_hit 5 = .ok (.iload_n 1, 1) := by decide +kernel
theorem dX13_hit_6 : decode cX13_hit 6 = .ok (.ifCond .ge 8, 3) := by decide +kernel
theorem dX13_hit_9 : decode cX13_hit 9 = .ok (.aload_n 0, 1) := by decide +kernel
theorem dX13_hit_10 : decode cX13_hit 10 = .ok (.invokevirtual 279, 3) := by decide +kernel
theorem dX13_hit_13 : decode cX13_hit 13 = .ok (.ireturn, 1) := by decide +kernel
theorem dX13_hit_14 : decode cX13_hit 14 = .ok (.iload_n 1, 1) := by decide +kernel
