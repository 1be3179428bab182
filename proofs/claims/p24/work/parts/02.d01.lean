theorem dL_lot_0 : decode cL_lot 0 = .ok (.iload_n 1, 1) := by decide +kernel
theorem dL_lot_1 : decode cL_lot 1 = .ok (.aload_n 0, 1) := by decide +kernel
theorem dL_lot_2 : decode cL_lot 2 = .ok (.arraylength, 1) := by decide +kernel
theorem dL_lot_3 : decode cL_lot 3 = .ok (.if_icmp .ge 9, 3) := by decide +kernel
theorem dL_lot_6 : decode cL_lot 6 = .ok (.aload_n 0, 1) := by decide +kernel
theorem dL_lot_7 : decode cL_lot 7 = .ok (.iload_n 1, 1) := by decide +kernel
theorem dL_lot_8 : decode cL_lot 8 = .ok (.iaload, 1) := by decide +kernel
theorem dL_lot_9 : decode cL_lot 9 = .ok (.goto 15, 3) := by decide +kernel
theorem dL_lot_12 : decode cL_lot 12 = .ok (.ldc 7, 2) := by decide +kernel
theorem dL_lot_14 : decode cL_lot 14 = .ok (.iload_n 1, 1) := by decide +kernel
theorem dL_lot_15 : decode cL_lot 15 = .ok (.sipush 2237, 3) := by decide +kernel
theorem dL_lot_18 : decode cL_lot 18 = .ok (.iadd, 1) := by decide +kernel
theorem dL_lot_19 : decode cL_lot 19 = .ok (.imul, 1) := by decide +kernel
theorem dL_lot_20 : decode cL_lot 20 = .ok (.sipush 2027, 3) := by decide +kernel
theorem dL_lot_23 : decode cL_lot 23 = .ok (.iadd, 1) := by decide +kernel
theorem dL_lot_24 : decode cL_lot 24 = .ok (.ireturn, 1) := by decide +kernel
theorem dL_low_0 : decode cL_low 0 = .ok (.iload_n 0, 1) := by decide +kernel
theorem dL_low_1 : decode cL_low 1 = .ok (.ldc 8, 2) := by decide +kernel
theorem dL_low_3 : decode cL_low 3 = .ok (.iand, 1) := by decide +kernel
theorem dL_low_4 : decode cL_low 4 = .ok (.iload_n 1, 1) := by decide +kernel
theorem dL_low_5 : decode cL_low 5 = .ok (.irem, 1) := by decide +kernel
theorem dL_low_6 : decode cL_low 6 = .ok (.ireturn, 1) := by decide +kernel
theorem dL_common_0 : decode cL_common 0 = .ok (.lload_n 0, 1) := by decide +kernel
theorem dL_common_1 : decode cL_common 1 = .ok (.lconst 0, 1) := by decide +kernel
theorem dL_common_2 : decode cL_common 2 = .ok (.lcmp, 1) := by decide +kernel
theorem dL_common_3 : decode cL_common 3 = .ok (.ifCond .ge 8, 3) := by decide +kernel
theorem dL_common_6 : decode cL_common 6 = .ok (.lload_n 0, 1) := by decide +kernel
theorem dL_common_7 : decode cL_common 7 = .ok (.lneg, 1) := by decide +kernel
theorem dL_common_8 : decode cL_common 8 = .ok (.goto 4, 3) := by decide +kernel
theorem dL_common_11 : decode cL_common 11 = .ok (.lload_n 0, 1) := by decide +kernel
theorem dL_common_12 : decode cL_common 12 = .ok (.lstore 4, 2) := by decide +kernel
theorem dL_common_14 : decode cL_common 14 = .ok (.lload_n 2, 1) := by decide +kernel
theorem dL_common_15 : decode cL_common 15 = .ok (.lstore 6, 2) := by decide +kernel
theorem dL_common_17 : decode cL_common 17 = .ok (.lload 6, 2) := by decide +kernel
theorem dL_common_19 : decode cL_common 19 = .ok (.lconst 0, 1) := by decide +kernel
theorem dL_common_20 : decode cL_common 20 = .ok (.lcmp, 1) := by decide +kernel
theorem dL_common_21 : decode cL_common 21 = .ok (.ifCond .le 21, 3) := by decide +kernel
theorem dL_common_24 : decode cL_common 24 = .ok (.lload 4, 2) := by decide +kernel
theorem dL_common_26 : decode cL_common 26 = .ok (.lload 6, 2) := by decide +kernel
theorem dL_common_28 : decode cL_common 28 = .ok (.lrem, 1) := by decide +kernel
theorem dL_common_29 : decode cL_common 29 = .ok (.lstore 8, 2) := by decide +kernel
theorem dL_common_31 : decode cL_common 31 = .ok (.lload 6, 2) := by decide +kernel
theorem dL_common_33 : decode cL_common 33 = .ok (.lstore 4, 2) := by decide +kernel
theorem dL_common_35 : decode cL_common 35 = .ok (.lload 8, 2) := by decide +kernel
theorem dL_common_37 : decode cL_common 37 = .ok (.lstore 6, 2) := by decide +kernel
theorem dL_common_39 : decode cL_common 39 = .ok (.goto (-22), 3) := by decide +kernel
theorem dL_common_42 : decode cL_common 42 = .ok (.lload 4, 2) := by decide +kernel
theorem dL_common_44 : decode cL_common 44 = .ok (.lreturn, 1) := by decide +kernel
theorem dL_sound_0 : decode cL_sound 0 = .ok (.aload_n 0, 1) := by decide +kernel
theorem dL_sound_1 : decode cL_sound 1 = .ok (.iconst 0, 1) := by decide +kernel
theorem dL_sound_2 : decode cL_sound 2 = .ok (.invokevirtual 9, 3) := by decide +kernel
theorem dL_sound_5 : decode cL_sound 5 = .ok (.istore_n 1, 1) := by decide +kernel
theorem dL_sound_6 : decode cL_sound 6 = .ok (.iconst 0, 1) := by decide +kernel
theorem dL_sound_7 : decode cL_sound 7 = .ok (.istore_n 2, 1) := by decide +kernel
theorem dL_sound_8 : decode cL_sound 8 = .ok (.iload_n 2, 1) := by decide +kernel
theorem dL_sound_9 : decode cL_sound 9 = .ok (.iload_n 1, 1) := by decide +kernel
theorem dL_sound_10 : decode cL_sound 10 = .ok (.if_icmp .ge 671, 3) := by decide +kernel
theorem dL_sound_13 : decode cL_sound 13 = .ok (.aload_n 0, 1) := by decide +kernel
theorem dL_sound_14 : decode cL_sound 14 = .ok (.iload_n 2, 1) := by decide +kernel
theorem dL_sound_15 : decode cL_sound 15 = .ok (.iconst 1, 1) := by decide +kernel
theorem dL_sound_16 : decode cL_sound 16 = .ok (.invokevirtual 15, 3) := by decide +kernel
theorem dL_sound_19 : decode cL_sound 19 = .ok (.istore_n 3, 1) := by decide +kernel
theorem dL_sound_20 : decode cL_sound 20 = .ok (.aload_n 0, 1) := by decide +kernel
theorem dL_sound_21 : decode cL_sound 21 = .ok (.iload_n 2, 1) := by decide +kernel
theorem dL_sound_22 : decode cL_sound 22 = .ok (.iconst 0, 1) := by decide +kernel
theorem dL_sound_23 : decode cL_sound 23 = .ok (.invokevirtual 15, 3) := by decide +kernel
theorem dL_sound_26 : decode cL_sound 26 = .ok (.istore 4, 2) := by decide +kernel
theorem dL_sound_28 : decode cL_sound 28 = .ok (.iconst 0, 1) := by decide +kernel
theorem dL_sound_29 : decode cL_sound 29 = .ok (.istore 5, 2) := by decide +kernel
theorem dL_sound_31 : decode cL_sound 31 = .ok (.iconst 0, 1) := by decide +kernel
theorem dL_sound_32 : decode cL_sound 32 = .ok (.istore 6, 2) := by decide +kernel
theorem dL_sound_34 : decode cL_sound 34 = .ok (.iconst 0, 1) := by decide +kernel
theorem dL_sound_35 : decode cL_sound 35 = .ok (.istore 7, 2) := by decide +kernel
theorem dL_sound_37 : decode cL_sound 37 = .ok (.iconst 0, 1) := by decide +kernel
theorem dL_sound_38 : decode cL_sound 38 = .ok (.istore 8, 2) := by decide +kernel
theorem dL_sound_40 : decode cL_sound 40 = .ok (.iconst 0, 1) := by decide +kernel
theorem dL_sound_41 : decode cL_sound 41 = .ok (.istore 9, 2) := by decide +kernel
theorem dL_sound_43 : decode cL_sound 43 = .ok (.iload 9, 2) := by decide +kernel
theorem dL_sound_45 : decode cL_sound 45 = .ok (.iload 4, 2) := by decide +kernel
theorem dL_sound_47 : decode cL_sound 47 = .ok (.if_icmp .ge 354, 3) := by decide +kernel
theorem dL_sound_50 : decode cL_sound 50 = .ok (.aload_n 0, 1) := by decide +kernel
theorem dL_sound_51 : decode cL_sound 51 = .ok (.iload_n 2, 1) := by decide +kernel
theorem dL_sound_52 : decode cL_sound 52 = .ok (.iload 9, 2) := by decide +kernel
theorem dL_sound_54 : decode cL_sound 54 = .ok (.iconst 0, 1) := by decide +kernel
theorem dL_sound_55 : decode cL_sound 55 = .ok (.invokevirtual 19, 3) := by decide +kernel
theorem dL_sound_58 : decode cL_sound 58 = .ok (.lstore 10, 2) := by decide +kernel
theorem dL_sound_60 : decode cL_sound 60 = .ok (.aload_n 0, 1) := by decide +kernel
theorem dL_sound_61 : decode cL_sound 61 = .ok (.iload_n 2, 1) := by decide +kernel
theorem dL_sound_62 : decode cL_sound 62 = .ok (.iload 9, 2) := by decide +kernel
theorem dL_sound_64 : decode cL_sound 64 = .ok (.iconst 1, 1) := by decide +kernel
theorem dL_sound_65 : decode cL_sound 65 = .ok (.invokevirtual 19, 3) := by decide +kernel
theorem dL_sound_68 : decode cL_sound 68 = .ok (.lstore 12, 2) := by decide +kernel
theorem dL_sound_70 : decode cL_sound 70 = .ok (.aload_n 0, 1) := by decide +kernel
theorem dL_sound_71 : decode cL_sound 71 = .ok (.iload_n 2, 1) := by decide +kernel
theorem dL_sound_72 : decode cL_sound 72 = .ok (.iload 9, 2) := by decide +kernel
theorem dL_sound_74 : decode cL_sound 74 = .ok (.iconst 2, 1) := by decide +kernel
theorem dL_sound_75 : decode cL_sound 75 = .ok (.invokevirtual 19, 3) := by decide +kernel
theorem dL_sound_78 : decode cL_sound 78 = .ok (.lstore 14, 2) := by decide +kernel
theorem dL_sound_80 : decode cL_sound 80 = .ok (.aload_n 0, 1) := by decide +kernel
theorem dL_sound_81 : decode cL_sound 81 = .ok (.iload_n 2, 1) := by decide +kernel
theorem dL_sound_82 : decode cL_sound 82 = .ok (.iload 9, 2) := by decide +kernel
theorem dL_sound_84 : decode cL_sound 84 = .ok (.iconst 3, 1) := by decide +kernel
theorem dL_sound_85 : decode cL_sound 85 = .ok (.invokevirtual 19, 3) := by decide +kernel
theorem dL_sound_88 : decode cL_sound 88 = .ok (.lstore 16, 2) := by decide +kernel
theorem dL_sound_90 : decode cL_sound 90 = .ok (.aload_n 0, 1) := by decide +kernel
theorem dL_sound_91 : decode cL_sound 91 = .ok (.iload_n 2, 1) := by decide +kernel
theorem dL_sound_92 : decode cL_sound 92 = .ok (.iload 9, 2) := by decide +kernel
theorem dL_sound_94 : decode cL_sound 94 = .ok (.iconst 5, 1) := by decide +kernel
theorem dL_sound_95 : decode cL_sound 95 = .ok (.invokevirtual 19, 3) := by decide +kernel
theorem dL_sound_98 : decode cL_sound 98 = .ok (.lstore 18, 2) := by decide +kernel
theorem dL_sound_100 : decode cL_sound 100 = .ok (.lload 10, 2) := by decide +kernel
theorem dL_sound_102 : decode cL_sound 102 = .ok (.lconst 0, 1) := by decide +kernel
theorem dL_sound_103 : decode cL_sound 103 = .ok (.lcmp, 1) := by decide +kernel
theorem dL_sound_104 : decode cL_sound 104 = .ok (.ifCond .lt 46, 3) := by decide +kernel
theorem dL_sound_107 : decode cL_sound 107 = .ok (.lload 14, 2) := by decide +kernel
theorem dL_sound_109 : decode cL_sound 109 = .ok (.lconst 0, 1) := by decide +kernel
theorem dL_sound_110 : decode cL_sound 110 = .ok (.lcmp, 1) := by decide +kernel
theorem dL_sound_111 : decode cL_sound 111 = .ok (.ifCond .lt 39, 3) := by decide +kernel
theorem dL_sound_114 : decode cL_sound 114 = .ok (.lload 10, 2) := by decide +kernel
theorem dL_sound_116 : decode cL_sound 116 = .ok (.lload 12, 2) := by decide +kernel
theorem dL_sound_118 : decode cL_sound 118 = .ok (.aload_n 0, 1) := by decide +kernel
theorem dL_sound_119 : decode cL_sound 119 = .ok (.bipush 7, 2) := by decide +kernel
theorem dL_sound_121 : decode cL_sound 121 = .ok (.invokevirtual 9, 3) := by decide +kernel
theorem dL_sound_124 : decode cL_sound 124 = .ok (.i2l, 1) := by decide +kernel
theorem dL_sound_125 : decode cL_sound 125 = .ok (.lmul, 1) := by decide +kernel
theorem dL_sound_126 : decode cL_sound 126 = .ok (.lcmp, 1) := by decide +kernel
theorem dL_sound_127 : decode cL_sound 127 = .ok (.ifCond .gt 23, 3) := by decide +kernel
theorem dL_sound_130 : decode cL_sound 130 = .ok (.lload 14, 2) := by decide +kernel
theorem dL_sound_132 : decode cL_sound 132 = .ok (.lload 16, 2) := by decide +kernel
theorem dL_sound_134 : decode cL_sound 134 = .ok (.aload_n 0, 1) := by decide +kernel
theorem dL_sound_135 : decode cL_sound 135 = .ok (.bipush 8, 2) := by decide +kernel
theorem dL_sound_137 : decode cL_sound 137 = .ok (.invokevirtual 9, 3) := by decide +kernel
theorem dL_sound_140 : decode cL_sound 140 = .ok (.i2l, 1) := by decide +kernel
theorem dL_sound_141 : decode cL_sound 141 = .ok (.lmul, 1) := by decide +kernel
theorem dL_sound_142 : decode cL_sound 142 = .ok (.lcmp, 1) := by decide +kernel
theorem dL_sound_143 : decode cL_sound 143 = .ok (.ifCond .gt 7, 3) := by decide +kernel
theorem dL_sound_146 : decode cL_sound 146 = .ok (.iconst 1, 1) := by decide +kernel
theorem dL_sound_147 : decode cL_sound 147 = .ok (.goto 4, 3) := by decide +kernel
theorem dL_sound_150 : decode cL_sound 150 = .ok (.iconst 0, 1) := by decide +kernel
theorem dL_sound_151 : decode cL_sound 151 = .ok (.istore 20, 2) := by decide +kernel
theorem dL_sound_153 : decode cL_sound 153 = .ok (.iload 5, 2) := by decide +kernel
theorem dL_sound_155 : decode cL_sound 155 = .ok (.lload 18, 2) := by decide +kernel
theorem dL_sound_157 : decode cL_sound 157 = .ok (.lconst 0, 1) := by decide +kernel
theorem dL_sound_158 : decode cL_sound 158 = .ok (.lcmp, 1) := by decide +kernel
theorem dL_sound_159 : decode cL_sound 159 = .ok (.ifCond .le 7, 3) := by decide +kernel
theorem dL_sound_162 : decode cL_sound 162 = .ok (.iconst 1, 1) := by decide +kernel
theorem dL_sound_163 : decode cL_sound 163 = .ok (.goto 4, 3) := by decide +kernel
theorem dL_sound_166 : decode cL_sound 166 = .ok (.iconst 0, 1) := by decide +kernel
theorem dL_sound_167 : decode cL_sound 167 = .ok (.iadd, 1) := by decide +kernel
theorem dL_sound_168 : decode cL_sound 168 = .ok (.istore 5, 2) := by decide +kernel
theorem dL_sound_170 : decode cL_sound 170 = .ok (.iload 6, 2) := by decide +kernel
theorem dL_sound_172 : decode cL_sound 172 = .ok (.aload_n 0, 1) := by decide +kernel
theorem dL_sound_173 : decode cL_sound 173 = .ok (.iload_n 2, 1) := by decide +kernel
theorem dL_sound_174 : decode cL_sound 174 = .ok (.iload 9, 2) := by decide +kernel
theorem dL_sound_176 : decode cL_sound 176 = .ok (.bipush 6, 2) := by decide +kernel
theorem dL_sound_178 : decode cL_sound 178 = .ok (.invokevirtual 19, 3) := by decide +kernel
theorem dL_sound_181 : decode cL_sound 181 = .ok (.l2i, 1) := by decide +kernel
theorem dL_sound_182 : decode cL_sound 182 = .ok (.iadd, 1) := by decide +kernel
theorem dL_sound_183 : decode cL_sound 183 = .ok (.istore 6, 2) := by decide +kernel
theorem dL_sound_185 : decode cL_sound 185 = .ok (.lload 18, 2) := by decide +kernel
theorem dL_sound_187 : decode cL_sound 187 = .ok (.iload 7, 2) := by decide +kernel
theorem dL_sound_189 : decode cL_sound 189 = .ok (.i2l, 1) := by decide +kernel
theorem dL_sound_190 : decode cL_sound 190 = .ok (.lcmp, 1) := by decide +kernel
theorem dL_sound_191 : decode cL_sound 191 = .ok (.ifCond .le 9, 3) := by decide +kernel
theorem dL_sound_194 : decode cL_sound 194 = .ok (.lload 18, 2) := by decide +kernel
theorem dL_sound_196 : decode cL_sound 196 = .ok (.l2i, 1) := by decide +kernel
theorem dL_sound_197 : decode cL_sound 197 = .ok (.goto 5, 3) := by decide +kernel
theorem dL_sound_200 : decode cL_sound 200 = .ok (.iload 7, 2) := by decide +kernel
theorem dL_sound_202 : decode cL_sound 202 = .ok (.istore 7, 2) := by decide +kernel
theorem dL_sound_204 : decode cL_sound 204 = .ok (.iload 8, 2) := by decide +kernel
theorem dL_sound_206 : decode cL_sound 206 = .ok (.iload 20, 2) := by decide +kernel
theorem dL_sound_208 : decode cL_sound 208 = .ok (.ifCond .eq 7, 3) := by decide +kernel
theorem dL_sound_211 : decode cL_sound 211 = .ok (.iconst 0, 1) := by decide +kernel
theorem dL_sound_212 : decode cL_sound 212 = .ok (.goto 4, 3) := by decide +kernel
theorem dL_sound_215 : decode cL_sound 215 = .ok (.iconst 1, 1) := by decide +kernel
theorem dL_sound_216 : decode cL_sound 216 = .ok (.iadd, 1) := by decide +kernel
theorem dL_sound_217 : decode cL_sound 217 = .ok (.istore 8, 2) := by decide +kernel
theorem dL_sound_219 : decode cL_sound 219 = .ok (.lload 12, 2) := by decide +kernel
theorem dL_sound_221 : decode cL_sound 221 = .ok (.lconst 1, 1) := by decide +kernel
theorem dL_sound_222 : decode cL_sound 222 = .ok (.lcmp, 1) := by decide +kernel
theorem dL_sound_223 : decode cL_sound 223 = .ok (.ifCond .lt 170, 3) := by decide +kernel
theorem dL_sound_226 : decode cL_sound 226 = .ok (.lload 16, 2) := by decide +kernel
theorem dL_sound_228 : decode cL_sound 228 = .ok (.lconst 1, 1) := by decide +kernel
theorem dL_sound_229 : decode cL_sound 229 = .ok (.lcmp, 1) := by decide +kernel
theorem dL_sound_230 : decode cL_sound 230 = .ok (.ifCond .lt 163, 3) := by decide +kernel
theorem dL_sound_233 : decode cL_sound 233 = .ok (.lload 12, 2) := by decide +kernel
theorem dL_sound_235 : decode cL_sound 235 = .ok (.ldc2_w 23, 3) := by decide +kernel
theorem dL_sound_238 : decode cL_sound 238 = .ok (.lcmp, 1) := by decide +kernel
theorem dL_sound_239 : decode cL_sound 239 = .ok (.ifCond .gt 154, 3) := by decide +kernel
theorem dL_sound_242 : decode cL_sound 242 = .ok (.lload 16, 2) := by decide +kernel
theorem dL_sound_244 : decode cL_sound 244 = .ok (.ldc2_w 23, 3) := by decide +kernel
theorem dL_sound_247 : decode cL_sound 247 = .ok (.lcmp, 1) := by decide +kernel
theorem dL_sound_248 : decode cL_sound 248 = .ok (.ifCond .gt 145, 3) := by decide +kernel
theorem dL_sound_251 : decode cL_sound 251 = .ok (.lload 10, 2) := by decide +kernel
theorem dL_sound_253 : decode cL_sound 253 = .ok (.lload 12, 2) := by decide +kernel
theorem dL_sound_255 : decode cL_sound 255 = .ok (.invokestatic 25, 3) := by decide +kernel
theorem dL_sound_258 : decode cL_sound 258 = .ok (.lconst 1, 1) := by decide +kernel
theorem dL_sound_259 : decode cL_sound 259 = .ok (.lcmp, 1) := by decide +kernel
theorem dL_sound_260 : decode cL_sound 260 = .ok (.ifCond .ne 133, 3) := by decide +kernel
theorem dL_sound_263 : decode cL_sound 263 = .ok (.lload 14, 2) := by decide +kernel
theorem dL_sound_265 : decode cL_sound 265 = .ok (.lload 16, 2) := by decide +kernel
theorem dL_sound_267 : decode cL_sound 267 = .ok (.invokestatic 25, 3) := by decide +kernel
theorem dL_sound_270 : decode cL_sound 270 = .ok (.lconst 1, 1) := by decide +kernel
theorem dL_sound_271 : decode cL_sound 271 = .ok (.lcmp, 1) := by decide +kernel
theorem dL_sound_272 : decode cL_sound 272 = .ok (.ifCond .ne 121, 3) := by decide +kernel
theorem dL_sound_275 : decode cL_sound 275 = .ok (.iload_n 3, 1) := by decide +kernel
theorem dL_sound_276 : decode cL_sound 276 = .ok (.ldc 31, 2) := by decide +kernel
theorem dL_sound_278 : decode cL_sound 278 = .ok (.if_icmp .ne 40, 3) := by decide +kernel
theorem dL_sound_281 : decode cL_sound 281 = .ok (.lload 12, 2) := by decide +kernel
theorem dL_sound_283 : decode cL_sound 283 = .ok (.lconst 1, 1) := by decide +kernel
theorem dL_sound_284 : decode cL_sound 284 = .ok (.lcmp, 1) := by decide +kernel
theorem dL_sound_285 : decode cL_sound 285 = .ok (.ifCond .ne 108, 3) := by decide +kernel
theorem dL_sound_288 : decode cL_sound 288 = .ok (.lload 16, 2) := by decide +kernel
theorem dL_sound_290 : decode cL_sound 290 = .ok (.lconst 1, 1) := by decide +kernel
theorem dL_sound_291 : decode cL_sound 291 = .ok (.lcmp, 1) := by decide +kernel
theorem dL_sound_292 : decode cL_sound 292 = .ok (.ifCond .ne 101, 3) := by decide +kernel
theorem dL_sound_295 : decode cL_sound 295 = .ok (.lload 18, 2) := by decide +kernel
theorem dL_sound_297 : decode cL_sound 297 = .ok (.lconst 1, 1) := by decide +kernel
theorem dL_sound_298 : decode cL_sound 298 = .ok (.lcmp, 1) := by decide +kernel
theorem dL_sound_299 : decode cL_sound 299 = .ok (.ifCond .gt 94, 3) := by decide +kernel
theorem dL_sound_302 : decode cL_sound 302 = .ok (.lload 10, 2) := by decide +kernel
theorem dL_sound_304 : decode cL_sound 304 = .ok (.lconst 0, 1) := by decide +kernel
theorem dL_sound_305 : decode cL_sound 305 = .ok (.lcmp, 1) := by decide +kernel
theorem dL_sound_306 : decode cL_sound 306 = .ok (.ifCond .lt 87, 3) := by decide +kernel
theorem dL_sound_309 : decode cL_sound 309 = .ok (.lload 10, 2) := by decide +kernel
theorem dL_sound_311 : decode cL_sound 311 = .ok (.ldc2_w 32, 3) := by decide +kernel
theorem dL_sound_314 : decode cL_sound 314 = .ok (.lcmp, 1) := by decide +kernel
theorem dL_sound_315 : decode cL_sound 315 = .ok (.ifCond .gt 78, 3) := by decide +kernel
theorem dL_sound_318 : decode cL_sound 318 = .ok (.lload 18, 2) := by decide +kernel
theorem dL_sound_320 : decode cL_sound 320 = .ok (.lconst 0, 1) := by decide +kernel
theorem dL_sound_321 : decode cL_sound 321 = .ok (.lcmp, 1) := by decide +kernel
theorem dL_sound_322 : decode cL_sound 322 = .ok (.ifCond .lt 71, 3) := by decide +kernel
theorem dL_sound_325 : decode cL_sound 325 = .ok (.lload 18, 2) := by decide +kernel
theorem dL_sound_327 : decode cL_sound 327 = .ok (.ldc2_w 34, 3) := by decide +kernel
theorem dL_sound_330 : decode cL_sound 330 = .ok (.lcmp, 1) := by decide +kernel
theorem dL_sound_331 : decode cL_sound 331 = .ok (.ifCond .gt 62, 3) := by decide +kernel
theorem dL_sound_334 : decode cL_sound 334 = .ok (.lload 18, 2) := by decide +kernel
theorem dL_sound_336 : decode cL_sound 336 = .ok (.lconst 0, 1) := by decide +kernel
theorem dL_sound_337 : decode cL_sound 337 = .ok (.lcmp, 1) := by decide +kernel
theorem dL_sound_338 : decode cL_sound 338 = .ok (.ifCond .le 16, 3) := by decide +kernel
theorem dL_sound_341 : decode cL_sound 341 = .ok (.aload_n 0, 1) := by decide +kernel
theorem dL_sound_342 : decode cL_sound 342 = .ok (.iload_n 2, 1) := by decide +kernel
theorem dL_sound_343 : decode cL_sound 343 = .ok (.iload 9, 2) := by decide +kernel
theorem dL_sound_345 : decode cL_sound 345 = .ok (.iconst 4, 1) := by decide +kernel
theorem dL_sound_346 : decode cL_sound 346 = .ok (.invokevirtual 19, 3) := by decide +kernel
theorem dL_sound_349 : decode cL_sound 349 = .ok (.lconst 0, 1) := by decide +kernel
theorem dL_sound_350 : decode cL_sound 350 = .ok (.lcmp, 1) := by decide +kernel
theorem dL_sound_351 : decode cL_sound 351 = .ok (.ifCond .eq 42, 3) := by decide +kernel
theorem dL_sound_354 : decode cL_sound 354 = .ok (.lload 18, 2) := by decide +kernel
theorem dL_sound_356 : decode cL_sound 356 = .ok (.lconst 0, 1) := by decide +kernel
theorem dL_sound_357 : decode cL_sound 357 = .ok (.lcmp, 1) := by decide +kernel
theorem dL_sound_358 : decode cL_sound 358 = .ok (.ifCond .ne 17, 3) := by decide +kernel
theorem dL_sound_361 : decode cL_sound 361 = .ok (.aload_n 0, 1) := by decide +kernel
theorem dL_sound_362 : decode cL_sound 362 = .ok (.iload_n 2, 1) := by decide +kernel
theorem dL_sound_363 : decode cL_sound 363 = .ok (.iload 9, 2) := by decide +kernel
theorem dL_sound_365 : decode cL_sound 365 = .ok (.bipush 6, 2) := by decide +kernel
theorem dL_sound_367 : decode cL_sound 367 = .ok (.invokevirtual 19, 3) := by decide +kernel
theorem dL_sound_370 : decode cL_sound 370 = .ok (.lconst 0, 1) := by decide +kernel
theorem dL_sound_371 : decode cL_sound 371 = .ok (.lcmp, 1) := by decide +kernel
theorem dL_sound_372 : decode cL_sound 372 = .ok (.ifCond .ne 21, 3) := by decide +kernel
theorem dL_sound_375 : decode cL_sound 375 = .ok (.iload 9, 2) := by decide +kernel
theorem dL_sound_377 : decode cL_sound 377 = .ok (.ifCond .ne 18, 3) := by decide +kernel
theorem dL_sound_380 : decode cL_sound 380 = .ok (.aload_n 0, 1) := by decide +kernel
theorem dL_sound_381 : decode cL_sound 381 = .ok (.iload_n 2, 1) := by decide +kernel
theorem dL_sound_382 : decode cL_sound 382 = .ok (.iload 9, 2) := by decide +kernel
theorem dL_sound_384 : decode cL_sound 384 = .ok (.iconst 4, 1) := by decide +kernel
theorem dL_sound_385 : decode cL_sound 385 = .ok (.invokevirtual 19, 3) := by decide +kernel
theorem dL_sound_388 : decode cL_sound 388 = .ok (.lconst 0, 1) := by decide +kernel
theorem dL_sound_389 : decode cL_sound 389 = .ok (.lcmp, 1) := by decide +kernel
theorem dL_sound_390 : decode cL_sound 390 = .ok (.ifCond .eq 5, 3) := by decide +kernel
theorem dL_sound_393 : decode cL_sound 393 = .ok (.iconst 0, 1) := by decide +kernel
theorem dL_sound_394 : decode cL_sound 394 = .ok (.ireturn, 1) := by decide +kernel
theorem dL_sound_395 : decode cL_sound 395 = .ok (.iinc 9 1, 3) := by decide +kernel
theorem dL_sound_398 : decode cL_sound 398 = .ok (.goto (-355), 3) := by decide +kernel
theorem dL_sound_401 : decode cL_sound 401 = .ok (.aload_n 0, 1) := by decide +kernel
theorem dL_sound_402 : decode cL_sound 402 = .ok (.iload_n 2, 1) := by decide +kernel
theorem dL_sound_403 : decode cL_sound 403 = .ok (.bipush 6, 2) := by decide +kernel
theorem dL_sound_405 : decode cL_sound 405 = .ok (.invokevirtual 15, 3) := by decide +kernel
theorem dL_sound_408 : decode cL_sound 408 = .ok (.iload 5, 2) := by decide +kernel
theorem dL_sound_410 : decode cL_sound 410 = .ok (.if_icmp .ne 125, 3) := by decide +kernel
theorem dL_sound_413 : decode cL_sound 413 = .ok (.aload_n 0, 1) := by decide +kernel
theorem dL_sound_414 : decode cL_sound 414 = .ok (.iload_n 2, 1) := by decide +kernel
theorem dL_sound_415 : decode cL_sound 415 = .ok (.bipush 7, 2) := by decide +kernel
theorem dL_sound_417 : decode cL_sound 417 = .ok (.invokevirtual 15, 3) := by decide +kernel
theorem dL_sound_420 : decode cL_sound 420 = .ok (.iload 6, 2) := by decide +kernel
theorem dL_sound_422 : decode cL_sound 422 = .ok (.if_icmp .ne 113, 3) := by decide +kernel
theorem dL_sound_425 : decode cL_sound 425 = .ok (.aload_n 0, 1) := by decide +kernel
theorem dL_sound_426 : decode cL_sound 426 = .ok (.iload_n 2, 1) := by decide +kernel
theorem dL_sound_427 : decode cL_sound 427 = .ok (.bipush 8, 2) := by decide +kernel
theorem dL_sound_429 : decode cL_sound 429 = .ok (.invokevirtual 15, 3) := by decide +kernel
theorem dL_sound_432 : decode cL_sound 432 = .ok (.iload 7, 2) := by decide +kernel
theorem dL_sound_434 : decode cL_sound 434 = .ok (.if_icmp .ne 101, 3) := by decide +kernel
theorem dL_sound_437 : decode cL_sound 437 = .ok (.aload_n 0, 1) := by decide +kernel
theorem dL_sound_438 : decode cL_sound 438 = .ok (.iload_n 2, 1) := by decide +kernel
theorem dL_sound_439 : decode cL_sound 439 = .ok (.bipush 9, 2) := by decide +kernel
theorem dL_sound_441 : decode cL_sound 441 = .ok (.invokevirtual 15, 3) := by decide +kernel
theorem dL_sound_444 : decode cL_sound 444 = .ok (.iload 8, 2) := by decide +kernel
theorem dL_sound_446 : decode cL_sound 446 = .ok (.if_icmp .ne 89, 3) := by decide +kernel
theorem dL_sound_449 : decode cL_sound 449 = .ok (.aload_n 0, 1) := by decide +kernel
theorem dL_sound_450 : decode cL_sound 450 = .ok (.iload_n 2, 1) := by decide +kernel
theorem dL_sound_451 : decode cL_sound 451 = .ok (.iload_n 2, 1) := by decide +kernel
theorem dL_sound_452 : decode cL_sound 452 = .ok (.invokevirtual 36, 3) := by decide +kernel
theorem dL_sound_455 : decode cL_sound 455 = .ok (.iload 4, 2) := by decide +kernel
theorem dL_sound_457 : decode cL_sound 457 = .ok (.if_icmp .ne 78, 3) := by decide +kernel
theorem dL_sound_460 : decode cL_sound 460 = .ok (.aload_n 0, 1) := by decide +kernel
theorem dL_sound_461 : decode cL_sound 461 = .ok (.iload_n 2, 1) := by decide +kernel
theorem dL_sound_462 : decode cL_sound 462 = .ok (.iload_n 2, 1) := by decide +kernel
theorem dL_sound_463 : decode cL_sound 463 = .ok (.invokevirtual 39, 3) := by decide +kernel
theorem dL_sound_466 : decode cL_sound 466 = .ok (.bipush 101, 2) := by decide +kernel
theorem dL_sound_468 : decode cL_sound 468 = .ok (.if_icmp .ne 67, 3) := by decide +kernel
theorem dL_sound_471 : decode cL_sound 471 = .ok (.aload_n 0, 1) := by decide +kernel
theorem dL_sound_472 : decode cL_sound 472 = .ok (.iload_n 2, 1) := by decide +kernel
theorem dL_sound_473 : decode cL_sound 473 = .ok (.iconst 0, 1) := by decide +kernel
theorem dL_sound_474 : decode cL_sound 474 = .ok (.invokevirtual 42, 3) := by decide +kernel
theorem dL_sound_477 : decode cL_sound 477 = .ok (.i2l, 1) := by decide +kernel
theorem dL_sound_478 : decode cL_sound 478 = .ok (.aload_n 0, 1) := by decide +kernel
theorem dL_sound_479 : decode cL_sound 479 = .ok (.iload_n 2, 1) := by decide +kernel
theorem dL_sound_480 : decode cL_sound 480 = .ok (.iconst 1, 1) := by decide +kernel
theorem dL_sound_481 : decode cL_sound 481 = .ok (.invokevirtual 42, 3) := by decide +kernel
theorem dL_sound_484 : decode cL_sound 484 = .ok (.i2l, 1) := by decide +kernel
theorem dL_sound_485 : decode cL_sound 485 = .ok (.invokestatic 25, 3) := by decide +kernel
theorem dL_sound_488 : decode cL_sound 488 = .ok (.lconst 1, 1) := by decide +kernel
theorem dL_sound_489 : decode cL_sound 489 = .ok (.lcmp, 1) := by decide +kernel
theorem dL_sound_490 : decode cL_sound 490 = .ok (.ifCond .ne 45, 3) := by decide +kernel
theorem dL_sound_493 : decode cL_sound 493 = .ok (.aload_n 0, 1) := by decide +kernel
theorem dL_sound_494 : decode cL_sound 494 = .ok (.iload_n 2, 1) := by decide +kernel
theorem dL_sound_495 : decode cL_sound 495 = .ok (.iconst 0, 1) := by decide +kernel
theorem dL_sound_496 : decode cL_sound 496 = .ok (.invokevirtual 42, 3) := by decide +kernel
theorem dL_sound_499 : decode cL_sound 499 = .ok (.iconst 1, 1) := by decide +kernel
theorem dL_sound_500 : decode cL_sound 500 = .ok (.if_icmp .lt 35, 3) := by decide +kernel
theorem dL_sound_503 : decode cL_sound 503 = .ok (.aload_n 0, 1) := by decide +kernel
theorem dL_sound_504 : decode cL_sound 504 = .ok (.iload_n 2, 1) := by decide +kernel
theorem dL_sound_505 : decode cL_sound 505 = .ok (.iconst 0, 1) := by decide +kernel
theorem dL_sound_506 : decode cL_sound 506 = .ok (.invokevirtual 42, 3) := by decide +kernel
theorem dL_sound_509 : decode cL_sound 509 = .ok (.ldc 45, 2) := by decide +kernel
theorem dL_sound_511 : decode cL_sound 511 = .ok (.if_icmp .gt 24, 3) := by decide +kernel
theorem dL_sound_514 : decode cL_sound 514 = .ok (.aload_n 0, 1) := by decide +kernel
theorem dL_sound_515 : decode cL_sound 515 = .ok (.iload_n 2, 1) := by decide +kernel
theorem dL_sound_516 : decode cL_sound 516 = .ok (.iconst 1, 1) := by decide +kernel
theorem dL_sound_517 : decode cL_sound 517 = .ok (.invokevirtual 42, 3) := by decide +kernel
theorem dL_sound_520 : decode cL_sound 520 = .ok (.iconst 1, 1) := by decide +kernel
theorem dL_sound_521 : decode cL_sound 521 = .ok (.if_icmp .lt 14, 3) := by decide +kernel
theorem dL_sound_524 : decode cL_sound 524 = .ok (.aload_n 0, 1) := by decide +kernel
theorem dL_sound_525 : decode cL_sound 525 = .ok (.iload_n 2, 1) := by decide +kernel
theorem dL_sound_526 : decode cL_sound 526 = .ok (.iconst 1, 1) := by decide +kernel
theorem dL_sound_527 : decode cL_sound 527 = .ok (.invokevirtual 42, 3) := by decide +kernel
theorem dL_sound_530 : decode cL_sound 530 = .ok (.ldc 45, 2) := by decide +kernel
theorem dL_sound_532 : decode cL_sound 532 = .ok (.if_icmp .le 5, 3) := by decide +kernel
theorem dL_sound_535 : decode cL_sound 535 = .ok (.iconst 0, 1) := by decide +kernel
theorem dL_sound_536 : decode cL_sound 536 = .ok (.ireturn, 1) := by decide +kernel
theorem dL_sound_537 : decode cL_sound 537 = .ok (.iload_n 3, 1) := by decide +kernel
theorem dL_sound_538 : decode cL_sound 538 = .ok (.ldc 31, 2) := by decide +kernel
theorem dL_sound_540 : decode cL_sound 540 = .ok (.if_icmp .ne 65, 3) := by decide +kernel
theorem dL_sound_543 : decode cL_sound 543 = .ok (.aload_n 0, 1) := by decide +kernel
theorem dL_sound_544 : decode cL_sound 544 = .ok (.iload_n 2, 1) := by decide +kernel
theorem dL_sound_545 : decode cL_sound 545 = .ok (.iconst 2, 1) := by decide +kernel
theorem dL_sound_546 : decode cL_sound 546 = .ok (.invokevirtual 15, 3) := by decide +kernel
theorem dL_sound_549 : decode cL_sound 549 = .ok (.iload_n 2, 1) := by decide +kernel
theorem dL_sound_550 : decode cL_sound 550 = .ok (.if_icmp .ne 123, 3) := by decide +kernel
theorem dL_sound_553 : decode cL_sound 553 = .ok (.aload_n 0, 1) := by decide +kernel
theorem dL_sound_554 : decode cL_sound 554 = .ok (.iload_n 2, 1) := by decide +kernel
theorem dL_sound_555 : decode cL_sound 555 = .ok (.iconst 3, 1) := by decide +kernel
theorem dL_sound_556 : decode cL_sound 556 = .ok (.invokevirtual 15, 3) := by decide +kernel
theorem dL_sound_559 : decode cL_sound 559 = .ok (.ifCond .ne 114, 3) := by decide +kernel
theorem dL_sound_562 : decode cL_sound 562 = .ok (.aload_n 0, 1) := by decide +kernel
theorem dL_sound_563 : decode cL_sound 563 = .ok (.iload_n 2, 1) := by decide +kernel
theorem dL_sound_564 : decode cL_sound 564 = .ok (.iconst 0, 1) := by decide +kernel
theorem dL_sound_565 : decode cL_sound 565 = .ok (.invokevirtual 42, 3) := by decide +kernel
theorem dL_sound_568 : decode cL_sound 568 = .ok (.iconst 1, 1) := by decide +kernel
theorem dL_sound_569 : decode cL_sound 569 = .ok (.if_icmp .ne 104, 3) := by decide +kernel
theorem dL_sound_572 : decode cL_sound 572 = .ok (.aload_n 0, 1) := by decide +kernel
theorem dL_sound_573 : decode cL_sound 573 = .ok (.iload_n 2, 1) := by decide +kernel
theorem dL_sound_574 : decode cL_sound 574 = .ok (.iconst 1, 1) := by decide +kernel
theorem dL_sound_575 : decode cL_sound 575 = .ok (.invokevirtual 42, 3) := by decide +kernel
theorem dL_sound_578 : decode cL_sound 578 = .ok (.iconst 1, 1) := by decide +kernel
theorem dL_sound_579 : decode cL_sound 579 = .ok (.if_icmp .ne 94, 3) := by decide +kernel
theorem dL_sound_582 : decode cL_sound 582 = .ok (.aload_n 0, 1) := by decide +kernel
theorem dL_sound_583 : decode cL_sound 583 = .ok (.iload_n 2, 1) := by decide +kernel
theorem dL_sound_584 : decode cL_sound 584 = .ok (.iconst 4, 1) := by decide +kernel
theorem dL_sound_585 : decode cL_sound 585 = .ok (.invokevirtual 15, 3) := by decide +kernel
theorem dL_sound_588 : decode cL_sound 588 = .ok (.iconst 1, 1) := by decide +kernel
theorem dL_sound_589 : decode cL_sound 589 = .ok (.if_icmp .ne 84, 3) := by decide +kernel
theorem dL_sound_592 : decode cL_sound 592 = .ok (.aload_n 0, 1) := by decide +kernel
theorem dL_sound_593 : decode cL_sound 593 = .ok (.iload_n 2, 1) := by decide +kernel
theorem dL_sound_594 : decode cL_sound 594 = .ok (.iconst 5, 1) := by decide +kernel
theorem dL_sound_595 : decode cL_sound 595 = .ok (.invokevirtual 15, 3) := by decide +kernel
theorem dL_sound_598 : decode cL_sound 598 = .ok (.iconst 1, 1) := by decide +kernel
theorem dL_sound_599 : decode cL_sound 599 = .ok (.if_icmp .eq 76, 3) := by decide +kernel
theorem dL_sound_602 : decode cL_sound 602 = .ok (.goto 71, 3) := by decide +kernel
theorem dL_sound_605 : decode cL_sound 605 = .ok (.iload_n 3, 1) := by decide +kernel
theorem dL_sound_606 : decode cL_sound 606 = .ok (.ifCond .lt 67, 3) := by decide +kernel
theorem dL_sound_609 : decode cL_sound 609 = .ok (.iload_n 3, 1) := by decide +kernel
theorem dL_sound_610 : decode cL_sound 610 = .ok (.iload_n 1, 1) := by decide +kernel
theorem dL_sound_611 : decode cL_sound 611 = .ok (.if_icmp .ge 62, 3) := by decide +kernel
theorem dL_sound_614 : decode cL_sound 614 = .ok (.iload_n 3, 1) := by decide +kernel
theorem dL_sound_615 : decode cL_sound 615 = .ok (.iload_n 2, 1) := by decide +kernel
theorem dL_sound_616 : decode cL_sound 616 = .ok (.if_icmp .eq 57, 3) := by decide +kernel
theorem dL_sound_619 : decode cL_sound 619 = .ok (.aload_n 0, 1) := by decide +kernel
theorem dL_sound_620 : decode cL_sound 620 = .ok (.iload_n 2, 1) := by decide +kernel
theorem dL_sound_621 : decode cL_sound 621 = .ok (.iconst 2, 1) := by decide +kernel
theorem dL_sound_622 : decode cL_sound 622 = .ok (.invokevirtual 15, 3) := by decide +kernel
theorem dL_sound_625 : decode cL_sound 625 = .ok (.aload_n 0, 1) := by decide +kernel
theorem dL_sound_626 : decode cL_sound 626 = .ok (.iload_n 3, 1) := by decide +kernel
theorem dL_sound_627 : decode cL_sound 627 = .ok (.iconst 2, 1) := by decide +kernel
theorem dL_sound_628 : decode cL_sound 628 = .ok (.invokevirtual 15, 3) := by decide +kernel
theorem dL_sound_631 : decode cL_sound 631 = .ok (.if_icmp .ne 42, 3) := by decide +kernel
theorem dL_sound_634 : decode cL_sound 634 = .ok (.aload_n 0, 1) := by decide +kernel
theorem dL_sound_635 : decode cL_sound 635 = .ok (.iload_n 2, 1) := by decide +kernel
theorem dL_sound_636 : decode cL_sound 636 = .ok (.iconst 3, 1) := by decide +kernel
theorem dL_sound_637 : decode cL_sound 637 = .ok (.invokevirtual 15, 3) := by decide +kernel
theorem dL_sound_640 : decode cL_sound 640 = .ok (.aload_n 0, 1) := by decide +kernel
theorem dL_sound_641 : decode cL_sound 641 = .ok (.iload_n 3, 1) := by decide +kernel
theorem dL_sound_642 : decode cL_sound 642 = .ok (.iconst 3, 1) := by decide +kernel
theorem dL_sound_643 : decode cL_sound 643 = .ok (.invokevirtual 15, 3) := by decide +kernel
theorem dL_sound_646 : decode cL_sound 646 = .ok (.iconst 1, 1) := by decide +kernel
theorem dL_sound_647 : decode cL_sound 647 = .ok (.iadd, 1) := by decide +kernel
theorem dL_sound_648 : decode cL_sound 648 = .ok (.if_icmp .ne 25, 3) := by decide +kernel
theorem dL_sound_651 : decode cL_sound 651 = .ok (.iload 4, 2) := by decide +kernel
theorem dL_sound_653 : decode cL_sound 653 = .ok (.aload_n 0, 1) := by decide +kernel
theorem dL_sound_654 : decode cL_sound 654 = .ok (.iload_n 3, 1) := by decide +kernel
theorem dL_sound_655 : decode cL_sound 655 = .ok (.iconst 0, 1) := by decide +kernel
theorem dL_sound_656 : decode cL_sound 656 = .ok (.invokevirtual 15, 3) := by decide +kernel
theorem dL_sound_659 : decode cL_sound 659 = .ok (.if_icmp .eq 16, 3) := by decide +kernel
theorem dL_sound_662 : decode cL_sound 662 = .ok (.aload_n 0, 1) := by decide +kernel
theorem dL_sound_663 : decode cL_sound 663 = .ok (.iload_n 3, 1) := by decide +kernel
theorem dL_sound_664 : decode cL_sound 664 = .ok (.iconst 1, 1) := by decide +kernel
theorem dL_sound_665 : decode cL_sound 665 = .ok (.invokevirtual 15, 3) := by decide +kernel
theorem dL_sound_668 : decode cL_sound 668 = .ok (.ldc 31, 2) := by decide +kernel
theorem dL_sound_670 : decode cL_sound 670 = .ok (.if_icmp .eq 5, 3) := by decide +kernel
theorem dL_sound_673 : decode cL_sound 673 = .ok (.iconst 0, 1) := by decide +kernel
theorem dL_sound_674 : decode cL_sound 674 = .ok (.ireturn, 1) := by decide +kernel
theorem dL_sound_675 : decode cL_sound 675 = .ok (.iinc 2 1, 3) := by decide +kernel
theorem dL_sound_678 : decode cL_sound 678 = .ok (.goto (-670), 3) := by decide +kernel
theorem dL_sound_681 : decode cL_sound 681 = .ok (.iconst 1, 1) := by decide +kernel
theorem dL_sound_682 : decode cL_sound 682 = .ok (.aload_n 0, 1) := by decide +kernel
theorem dL_sound_683 : decode cL_sound 683 = .ok (.bipush 10, 2) := by decide +kernel
theorem dL_sound_685 : decode cL_sound 685 = .ok (.invokevirtual 9, 3) := by decide +kernel
theorem dL_sound_688 : decode cL_sound 688 = .ok (.aload_n 0, 1) := by decide +kernel
theorem dL_sound_689 : decode cL_sound 689 = .ok (.bipush 9, 2) := by decide +kernel
theorem dL_sound_691 : decode cL_sound 691 = .ok (.invokevirtual 9, 3) := by decide +kernel
theorem dL_sound_694 : decode cL_sound 694 = .ok (.idiv, 1) := by decide +kernel
theorem dL_sound_695 : decode cL_sound 695 = .ok (.iadd, 1) := by decide +kernel
theorem dL_sound_696 : decode cL_sound 696 = .ok (.bipush 9, 2) := by decide +kernel
theorem dL_sound_698 : decode cL_sound 698 = .ok (.if_icmp .le 7, 3) := by decide +kernel
theorem dL_sound_701 : decode cL_sound 701 = .ok (.iconst 1, 1) := by decide +kernel
theorem dL_sound_702 : decode cL_sound 702 = .ok (.goto 4, 3) := by decide +kernel
theorem dL_sound_705 : decode cL_sound 705 = .ok (.iconst 0, 1) := by decide +kernel
theorem dL_sound_706 : decode cL_sound 706 = .ok (.istore_n 2, 1) := by decide +kernel
theorem dL_sound_707 : decode cL_sound 707 = .ok (.aload_n 0, 1) := by decide +kernel
theorem dL_sound_708 : decode cL_sound 708 = .ok (.bipush 11, 2) := by decide +kernel
theorem dL_sound_710 : decode cL_sound 710 = .ok (.invokevirtual 9, 3) := by decide +kernel
theorem dL_sound_713 : decode cL_sound 713 = .ok (.iload_n 2, 1) := by decide +kernel
theorem dL_sound_714 : decode cL_sound 714 = .ok (.ifCond .eq 7, 3) := by decide +kernel
theorem dL_sound_717 : decode cL_sound 717 = .ok (.iconst 1, 1) := by decide +kernel
theorem dL_sound_718 : decode cL_sound 718 = .ok (.goto 4, 3) := by decide +kernel
theorem dL_sound_721 : decode cL_sound 721 = .ok (.iconst 0, 1) := by decide +kernel
theorem dL_sound_722 : decode cL_sound 722 = .ok (.if_icmp .ne 45, 3) := by decide +kernel
theorem dL_sound_725 : decode cL_sound 725 = .ok (.aload_n 0, 1) := by decide +kernel
theorem dL_sound_726 : decode cL_sound 726 = .ok (.bipush 12, 2) := by decide +kernel
theorem dL_sound_728 : decode cL_sound 728 = .ok (.invokevirtual 9, 3) := by decide +kernel
theorem dL_sound_731 : decode cL_sound 731 = .ok (.ifCond .lt 36, 3) := by decide +kernel
theorem dL_sound_734 : decode cL_sound 734 = .ok (.aload_n 0, 1) := by decide +kernel
theorem dL_sound_735 : decode cL_sound 735 = .ok (.bipush 12, 2) := by decide +kernel
theorem dL_sound_737 : decode cL_sound 737 = .ok (.invokevirtual 9, 3) := by decide +kernel
theorem dL_sound_740 : decode cL_sound 740 = .ok (.bipush 10, 2) := by decide +kernel
theorem dL_sound_742 : decode cL_sound 742 = .ok (.if_icmp .gt 25, 3) := by decide +kernel
theorem dL_sound_745 : decode cL_sound 745 = .ok (.aload_n 0, 1) := by decide +kernel
theorem dL_sound_746 : decode cL_sound 746 = .ok (.bipush 14, 2) := by decide +kernel
theorem dL_sound_748 : decode cL_sound 748 = .ok (.invokevirtual 9, 3) := by decide +kernel
theorem dL_sound_751 : decode cL_sound 751 = .ok (.ifCond .lt 16, 3) := by decide +kernel
theorem dL_sound_754 : decode cL_sound 754 = .ok (.aload_n 0, 1) := by decide +kernel
theorem dL_sound_755 : decode cL_sound 755 = .ok (.bipush 15, 2) := by decide +kernel
theorem dL_sound_757 : decode cL_sound 757 = .ok (.invokevirtual 9, 3) := by decide +kernel
theorem dL_sound_760 : decode cL_sound 760 = .ok (.ifCond .lt 7, 3) := by decide +kernel
theorem dL_sound_763 : decode cL_sound 763 = .ok (.iconst 1, 1) := by decide +kernel
theorem dL_sound_764 : decode cL_sound 764 = .ok (.goto 4, 3) := by decide +kernel
theorem dL_sound_767 : decode cL_sound 767 = .ok (.iconst 0, 1) := by decide +kernel
theorem dL_sound_768 : decode cL_sound 768 = .ok (.ireturn, 1) := by decide +kernel
theorem dL_copies_0 : decode cL_copies 0 = .ok (.aload_n 0, 1) := by decide +kernel
theorem dL_copies_1 : decode cL_copies 1 = .ok (.iload_n 1, 1) := by decide +kernel
theorem dL_copies_2 : decode cL_copies 2 = .ok (.invokevirtual 46, 3) := by decide +kernel
theorem dL_copies_5 : decode cL_copies 5 = .ok (.istore_n 2, 1) := by decide +kernel
theorem dL_copies_6 : decode cL_copies 6 = .ok (.aload_n 0, 1) := by decide +kernel
theorem dL_copies_7 : decode cL_copies 7 = .ok (.iconst 0, 1) := by decide +kernel
theorem dL_copies_8 : decode cL_copies 8 = .ok (.invokevirtual 9, 3) := by decide +kernel
theorem dL_copies_11 : decode cL_copies 11 = .ok (.istore_n 3, 1) := by decide +kernel
theorem dL_copies_12 : decode cL_copies 12 = .ok (.aload_n 0, 1) := by decide +kernel
theorem dL_copies_13 : decode cL_copies 13 = .ok (.iload_n 1, 1) := by decide +kernel
theorem dL_copies_14 : decode cL_copies 14 = .ok (.iconst 0, 1) := by decide +kernel
theorem dL_copies_15 : decode cL_copies 15 = .ok (.invokevirtual 15, 3) := by decide +kernel
theorem dL_copies_18 : decode cL_copies 18 = .ok (.istore 4, 2) := by decide +kernel
theorem dL_copies_20 : decode cL_copies 20 = .ok (.aload_n 0, 1) := by decide +kernel
theorem dL_copies_21 : decode cL_copies 21 = .ok (.bipush 10, 2) := by decide +kernel
theorem dL_copies_23 : decode cL_copies 23 = .ok (.invokevirtual 9, 3) := by decide +kernel
theorem dL_copies_26 : decode cL_copies 26 = .ok (.istore 5, 2) := by decide +kernel
theorem dL_copies_28 : decode cL_copies 28 = .ok (.aload_n 0, 1) := by decide +kernel
theorem dL_copies_29 : decode cL_copies 29 = .ok (.bipush 13, 2) := by decide +kernel
theorem dL_copies_31 : decode cL_copies 31 = .ok (.invokevirtual 9, 3) := by decide +kernel
theorem dL_copies_34 : decode cL_copies 34 = .ok (.istore 6, 2) := by decide +kernel
theorem dL_copies_36 : decode cL_copies 36 = .ok (.aload_n 0, 1) := by decide +kernel
theorem dL_copies_37 : decode cL_copies 37 = .ok (.bipush 14, 2) := by decide +kernel
theorem dL_copies_39 : decode cL_copies 39 = .ok (.invokevirtual 9, 3) := by decide +kernel
theorem dL_copies_42 : decode cL_copies 42 = .ok (.istore 7, 2) := by decide +kernel
theorem dL_copies_44 : decode cL_copies 44 = .ok (.aload_n 0, 1) := by decide +kernel
theorem dL_copies_45 : decode cL_copies 45 = .ok (.bipush 15, 2) := by decide +kernel
theorem dL_copies_47 : decode cL_copies 47 = .ok (.invokevirtual 9, 3) := by decide +kernel
theorem dL_copies_50 : decode cL_copies 50 = .ok (.istore 8, 2) := by decide +kernel
theorem dL_copies_52 : decode cL_copies 52 = .ok (.aload_n 0, 1) := by decide +kernel
theorem dL_copies_53 : decode cL_copies 53 = .ok (.iload_n 1, 1) := by decide +kernel
theorem dL_copies_54 : decode cL_copies 54 = .ok (.invokevirtual 49, 3) := by decide +kernel
theorem dL_copies_57 : decode cL_copies 57 = .ok (.istore 9, 2) := by decide +kernel
theorem dL_copies_59 : decode cL_copies 59 = .ok (.iload_n 2, 1) := by decide +kernel
theorem dL_copies_60 : decode cL_copies 60 = .ok (.ifCond .eq 101, 3) := by decide +kernel
theorem dL_copies_63 : decode cL_copies 63 = .ok (.iload 9, 2) := by decide +kernel
theorem dL_copies_65 : decode cL_copies 65 = .ok (.ldc 52, 2) := by decide +kernel
theorem dL_copies_67 : decode cL_copies 67 = .ok (.if_icmp .ne 92, 3) := by decide +kernel
theorem dL_copies_70 : decode cL_copies 70 = .ok (.iload_n 2, 1) := by decide +kernel
theorem dL_copies_71 : decode cL_copies 71 = .ok (.ifCond .le 88, 3) := by decide +kernel
theorem dL_copies_74 : decode cL_copies 74 = .ok (.iload_n 2, 1) := by decide +kernel
theorem dL_copies_75 : decode cL_copies 75 = .ok (.iconst 5, 1) := by decide +kernel
theorem dL_copies_76 : decode cL_copies 76 = .ok (.if_icmp .ge 83, 3) := by decide +kernel
theorem dL_copies_79 : decode cL_copies 79 = .ok (.iload_n 2, 1) := by decide +kernel
theorem dL_copies_80 : decode cL_copies 80 = .ok (.iconst 1, 1) := by decide +kernel
theorem dL_copies_81 : decode cL_copies 81 = .ok (.if_icmp .ne 7, 3) := by decide +kernel
theorem dL_copies_84 : decode cL_copies 84 = .ok (.iconst 1, 1) := by decide +kernel
theorem dL_copies_85 : decode cL_copies 85 = .ok (.goto 4, 3) := by decide +kernel
theorem dL_copies_88 : decode cL_copies 88 = .ok (.iconst 0, 1) := by decide +kernel
theorem dL_copies_89 : decode cL_copies 89 = .ok (.iload 4, 2) := by decide +kernel
theorem dL_copies_91 : decode cL_copies 91 = .ok (.ifCond .ne 7, 3) := by decide +kernel
theorem dL_copies_94 : decode cL_copies 94 = .ok (.iconst 1, 1) := by decide +kernel
theorem dL_copies_95 : decode cL_copies 95 = .ok (.goto 4, 3) := by decide +kernel
theorem dL_copies_98 : decode cL_copies 98 = .ok (.iconst 0, 1) := by decide +kernel
theorem dL_copies_99 : decode cL_copies 99 = .ok (.if_icmp .ne 60, 3) := by decide +kernel
theorem dL_copies_102 : decode cL_copies 102 = .ok (.iload 4, 2) := by decide +kernel
theorem dL_copies_104 : decode cL_copies 104 = .ok (.ifCond .eq 31, 3) := by decide +kernel
theorem dL_copies_107 : decode cL_copies 107 = .ok (.iload_n 2, 1) := by decide +kernel
theorem dL_copies_108 : decode cL_copies 108 = .ok (.iconst 2, 1) := by decide +kernel
theorem dL_copies_109 : decode cL_copies 109 = .ok (.if_icmp .ne 7, 3) := by decide +kernel
theorem dL_copies_112 : decode cL_copies 112 = .ok (.iconst 1, 1) := by decide +kernel
theorem dL_copies_113 : decode cL_copies 113 = .ok (.goto 4, 3) := by decide +kernel
theorem dL_copies_116 : decode cL_copies 116 = .ok (.iconst 0, 1) := by decide +kernel
theorem dL_copies_117 : decode cL_copies 117 = .ok (.aload_n 0, 1) := by decide +kernel
theorem dL_copies_118 : decode cL_copies 118 = .ok (.bipush 11, 2) := by decide +kernel
theorem dL_copies_120 : decode cL_copies 120 = .ok (.invokevirtual 9, 3) := by decide +kernel
theorem dL_copies_123 : decode cL_copies 123 = .ok (.iconst 1, 1) := by decide +kernel
theorem dL_copies_124 : decode cL_copies 124 = .ok (.if_icmp .ne 7, 3) := by decide +kernel
theorem dL_copies_127 : decode cL_copies 127 = .ok (.iconst 1, 1) := by decide +kernel
theorem dL_copies_128 : decode cL_copies 128 = .ok (.goto 4, 3) := by decide +kernel
theorem dL_copies_131 : decode cL_copies 131 = .ok (.iconst 0, 1) := by decide +kernel
theorem dL_copies_132 : decode cL_copies 132 = .ok (.if_icmp .ne 27, 3) := by decide +kernel
theorem dL_copies_135 : decode cL_copies 135 = .ok (.iload_n 2, 1) := by decide +kernel
theorem dL_copies_136 : decode cL_copies 136 = .ok (.iconst 3, 1) := by decide +kernel
theorem dL_copies_137 : decode cL_copies 137 = .ok (.if_icmp .ne 9, 3) := by decide +kernel
theorem dL_copies_140 : decode cL_copies 140 = .ok (.iload_n 3, 1) := by decide +kernel
theorem dL_copies_141 : decode cL_copies 141 = .ok (.bipush 6, 2) := by decide +kernel
theorem dL_copies_143 : decode cL_copies 143 = .ok (.if_icmp .ne 16, 3) := by decide +kernel
theorem dL_copies_146 : decode cL_copies 146 = .ok (.aload_n 0, 1) := by decide +kernel
theorem dL_copies_147 : decode cL_copies 147 = .ok (.iconst 0, 1) := by decide +kernel
theorem dL_copies_148 : decode cL_copies 148 = .ok (.invokevirtual 9, 3) := by decide +kernel
theorem dL_copies_151 : decode cL_copies 151 = .ok (.iload_n 3, 1) := by decide +kernel
theorem dL_copies_152 : decode cL_copies 152 = .ok (.if_icmp .ne 7, 3) := by decide +kernel
theorem dL_copies_155 : decode cL_copies 155 = .ok (.iconst 1, 1) := by decide +kernel
theorem dL_copies_156 : decode cL_copies 156 = .ok (.goto 4, 3) := by decide +kernel
theorem dL_copies_159 : decode cL_copies 159 = .ok (.iconst 0, 1) := by decide +kernel
theorem dL_copies_160 : decode cL_copies 160 = .ok (.ireturn, 1) := by decide +kernel
theorem dL_copies_161 : decode cL_copies 161 = .ok (.aload_n 0, 1) := by decide +kernel
theorem dL_copies_162 : decode cL_copies 162 = .ok (.iconst 1, 1) := by decide +kernel
theorem dL_copies_163 : decode cL_copies 163 = .ok (.invokevirtual 9, 3) := by decide +kernel
theorem dL_copies_166 : decode cL_copies 166 = .ok (.istore 10, 2) := by decide +kernel
theorem dL_copies_168 : decode cL_copies 168 = .ok (.aload_n 0, 1) := by decide +kernel
theorem dL_copies_169 : decode cL_copies 169 = .ok (.iconst 2, 1) := by decide +kernel
theorem dL_copies_170 : decode cL_copies 170 = .ok (.invokevirtual 9, 3) := by decide +kernel
theorem dL_copies_173 : decode cL_copies 173 = .ok (.istore 11, 2) := by decide +kernel
theorem dL_copies_175 : decode cL_copies 175 = .ok (.aload_n 0, 1) := by decide +kernel
theorem dL_copies_176 : decode cL_copies 176 = .ok (.iload_n 1, 1) := by decide +kernel
theorem dL_copies_177 : decode cL_copies 177 = .ok (.iconst 0, 1) := by decide +kernel
theorem dL_copies_178 : decode cL_copies 178 = .ok (.invokevirtual 42, 3) := by decide +kernel
theorem dL_copies_181 : decode cL_copies 181 = .ok (.i2l, 1) := by decide +kernel
theorem dL_copies_182 : decode cL_copies 182 = .ok (.iload 10, 2) := by decide +kernel
theorem dL_copies_184 : decode cL_copies 184 = .ok (.i2l, 1) := by decide +kernel
theorem dL_copies_185 : decode cL_copies 185 = .ok (.lmul, 1) := by decide +kernel
theorem dL_copies_186 : decode cL_copies 186 = .ok (.aload_n 0, 1) := by decide +kernel
theorem dL_copies_187 : decode cL_copies 187 = .ok (.iload_n 1, 1) := by decide +kernel
theorem dL_copies_188 : decode cL_copies 188 = .ok (.iconst 1, 1) := by decide +kernel
theorem dL_copies_189 : decode cL_copies 189 = .ok (.invokevirtual 42, 3) := by decide +kernel
theorem dL_copies_192 : decode cL_copies 192 = .ok (.i2l, 1) := by decide +kernel
theorem dL_copies_193 : decode cL_copies 193 = .ok (.iload 11, 2) := by decide +kernel
theorem dL_copies_195 : decode cL_copies 195 = .ok (.i2l, 1) := by decide +kernel
theorem dL_copies_196 : decode cL_copies 196 = .ok (.lmul, 1) := by decide +kernel
theorem dL_copies_197 : decode cL_copies 197 = .ok (.invokestatic 25, 3) := by decide +kernel
theorem dL_copies_200 : decode cL_copies 200 = .ok (.lstore 12, 2) := by decide +kernel
theorem dL_copies_202 : decode cL_copies 202 = .ok (.aload_n 0, 1) := by decide +kernel
theorem dL_copies_203 : decode cL_copies 203 = .ok (.iconst 5, 1) := by decide +kernel
theorem dL_copies_204 : decode cL_copies 204 = .ok (.invokevirtual 9, 3) := by decide +kernel
theorem dL_copies_207 : decode cL_copies 207 = .ok (.istore 14, 2) := by decide +kernel
theorem dL_copies_209 : decode cL_copies 209 = .ok (.iload 14, 2) := by decide +kernel
theorem dL_copies_211 : decode cL_copies 211 = .ok (.ifCond .ne 7, 3) := by decide +kernel
theorem dL_copies_214 : decode cL_copies 214 = .ok (.iconst 1, 1) := by decide +kernel
theorem dL_copies_215 : decode cL_copies 215 = .ok (.goto 4, 3) := by decide +kernel
theorem dL_copies_218 : decode cL_copies 218 = .ok (.iconst (-1), 1) := by decide +kernel
theorem dL_copies_219 : decode cL_copies 219 = .ok (.istore 15, 2) := by decide +kernel
theorem dL_copies_221 : decode cL_copies 221 = .ok (.iload 14, 2) := by decide +kernel
theorem dL_copies_223 : decode cL_copies 223 = .ok (.iconst 1, 1) := by decide +kernel
theorem dL_copies_224 : decode cL_copies 224 = .ok (.if_icmp .ne 7, 3) := by decide +kernel
theorem dL_copies_227 : decode cL_copies 227 = .ok (.iconst (-1), 1) := by decide +kernel
theorem dL_copies_228 : decode cL_copies 228 = .ok (.goto 4, 3) := by decide +kernel
theorem dL_copies_231 : decode cL_copies 231 = .ok (.iconst 1, 1) := by decide +kernel
theorem dL_copies_232 : decode cL_copies 232 = .ok (.istore 16, 2) := by decide +kernel
theorem dL_copies_234 : decode cL_copies 234 = .ok (.iload 9, 2) := by decide +kernel
theorem dL_copies_236 : decode cL_copies 236 = .ok (.iload_n 3, 1) := by decide +kernel
theorem dL_copies_237 : decode cL_copies 237 = .ok (.if_icmp .ne 116, 3) := by decide +kernel
theorem dL_copies_240 : decode cL_copies 240 = .ok (.aload_n 0, 1) := by decide +kernel
theorem dL_copies_241 : decode cL_copies 241 = .ok (.iload 9, 2) := by decide +kernel
theorem dL_copies_243 : decode cL_copies 243 = .ok (.iconst 1, 1) := by decide +kernel
theorem dL_copies_244 : decode cL_copies 244 = .ok (.invokevirtual 15, 3) := by decide +kernel
theorem dL_copies_247 : decode cL_copies 247 = .ok (.iload_n 1, 1) := by decide +kernel
theorem dL_copies_248 : decode cL_copies 248 = .ok (.if_icmp .ne 105, 3) := by decide +kernel
theorem dL_copies_251 : decode cL_copies 251 = .ok (.aload_n 0, 1) := by decide +kernel
theorem dL_copies_252 : decode cL_copies 252 = .ok (.iload 9, 2) := by decide +kernel
theorem dL_copies_254 : decode cL_copies 254 = .ok (.iconst 0, 1) := by decide +kernel
theorem dL_copies_255 : decode cL_copies 255 = .ok (.invokevirtual 15, 3) := by decide +kernel
theorem dL_copies_258 : decode cL_copies 258 = .ok (.iload 4, 2) := by decide +kernel
theorem dL_copies_260 : decode cL_copies 260 = .ok (.if_icmp .ne 93, 3) := by decide +kernel
theorem dL_copies_263 : decode cL_copies 263 = .ok (.aload_n 0, 1) := by decide +kernel
theorem dL_copies_264 : decode cL_copies 264 = .ok (.iload 9, 2) := by decide +kernel
theorem dL_copies_266 : decode cL_copies 266 = .ok (.iconst 0, 1) := by decide +kernel
theorem dL_copies_267 : decode cL_copies 267 = .ok (.invokevirtual 42, 3) := by decide +kernel
theorem dL_copies_270 : decode cL_copies 270 = .ok (.i2l, 1) := by decide +kernel
theorem dL_copies_271 : decode cL_copies 271 = .ok (.lload 12, 2) := by decide +kernel
theorem dL_copies_273 : decode cL_copies 273 = .ok (.lmul, 1) := by decide +kernel
theorem dL_copies_274 : decode cL_copies 274 = .ok (.aload_n 0, 1) := by decide +kernel
theorem dL_copies_275 : decode cL_copies 275 = .ok (.iload_n 1, 1) := by decide +kernel
theorem dL_copies_276 : decode cL_copies 276 = .ok (.iconst 0, 1) := by decide +kernel
theorem dL_copies_277 : decode cL_copies 277 = .ok (.invokevirtual 42, 3) := by decide +kernel
theorem dL_copies_280 : decode cL_copies 280 = .ok (.i2l, 1) := by decide +kernel
theorem dL_copies_281 : decode cL_copies 281 = .ok (.iload 10, 2) := by decide +kernel
theorem dL_copies_283 : decode cL_copies 283 = .ok (.i2l, 1) := by decide +kernel
theorem dL_copies_284 : decode cL_copies 284 = .ok (.lmul, 1) := by decide +kernel
theorem dL_copies_285 : decode cL_copies 285 = .ok (.lcmp, 1) := by decide +kernel
theorem dL_copies_286 : decode cL_copies 286 = .ok (.ifCond .ne 67, 3) := by decide +kernel
theorem dL_copies_289 : decode cL_copies 289 = .ok (.aload_n 0, 1) := by decide +kernel
theorem dL_copies_290 : decode cL_copies 290 = .ok (.iload 9, 2) := by decide +kernel
theorem dL_copies_292 : decode cL_copies 292 = .ok (.iconst 1, 1) := by decide +kernel
theorem dL_copies_293 : decode cL_copies 293 = .ok (.invokevirtual 42, 3) := by decide +kernel
theorem dL_copies_296 : decode cL_copies 296 = .ok (.i2l, 1) := by decide +kernel
theorem dL_copies_297 : decode cL_copies 297 = .ok (.lload 12, 2) := by decide +kernel
theorem dL_copies_299 : decode cL_copies 299 = .ok (.lmul, 1) := by decide +kernel
theorem dL_copies_300 : decode cL_copies 300 = .ok (.aload_n 0, 1) := by decide +kernel
theorem dL_copies_301 : decode cL_copies 301 = .ok (.iload_n 1, 1) := by decide +kernel
theorem dL_copies_302 : decode cL_copies 302 = .ok (.iconst 1, 1) := by decide +kernel
theorem dL_copies_303 : decode cL_copies 303 = .ok (.invokevirtual 42, 3) := by decide +kernel
theorem dL_copies_306 : decode cL_copies 306 = .ok (.i2l, 1) := by decide +kernel
theorem dL_copies_307 : decode cL_copies 307 = .ok (.iload 11, 2) := by decide +kernel
theorem dL_copies_309 : decode cL_copies 309 = .ok (.i2l, 1) := by decide +kernel
theorem dL_copies_310 : decode cL_copies 310 = .ok (.lmul, 1) := by decide +kernel
theorem dL_copies_311 : decode cL_copies 311 = .ok (.lcmp, 1) := by decide +kernel
theorem dL_copies_312 : decode cL_copies 312 = .ok (.ifCond .ne 41, 3) := by decide +kernel
theorem dL_copies_315 : decode cL_copies 315 = .ok (.aload_n 0, 1) := by decide +kernel
theorem dL_copies_316 : decode cL_copies 316 = .ok (.iload 9, 2) := by decide +kernel
theorem dL_copies_318 : decode cL_copies 318 = .ok (.iconst 4, 1) := by decide +kernel
theorem dL_copies_319 : decode cL_copies 319 = .ok (.invokevirtual 15, 3) := by decide +kernel
theorem dL_copies_322 : decode cL_copies 322 = .ok (.aload_n 0, 1) := by decide +kernel
theorem dL_copies_323 : decode cL_copies 323 = .ok (.iload_n 1, 1) := by decide +kernel
theorem dL_copies_324 : decode cL_copies 324 = .ok (.iconst 4, 1) := by decide +kernel
theorem dL_copies_325 : decode cL_copies 325 = .ok (.invokevirtual 15, 3) := by decide +kernel
theorem dL_copies_328 : decode cL_copies 328 = .ok (.iload 15, 2) := by decide +kernel
theorem dL_copies_330 : decode cL_copies 330 = .ok (.imul, 1) := by decide +kernel
theorem dL_copies_331 : decode cL_copies 331 = .ok (.if_icmp .ne 22, 3) := by decide +kernel
theorem dL_copies_334 : decode cL_copies 334 = .ok (.aload_n 0, 1) := by decide +kernel
theorem dL_copies_335 : decode cL_copies 335 = .ok (.iload 9, 2) := by decide +kernel
theorem dL_copies_337 : decode cL_copies 337 = .ok (.iconst 5, 1) := by decide +kernel
theorem dL_copies_338 : decode cL_copies 338 = .ok (.invokevirtual 15, 3) := by decide +kernel
theorem dL_copies_341 : decode cL_copies 341 = .ok (.aload_n 0, 1) := by decide +kernel
theorem dL_copies_342 : decode cL_copies 342 = .ok (.iload_n 1, 1) := by decide +kernel
theorem dL_copies_343 : decode cL_copies 343 = .ok (.iconst 5, 1) := by decide +kernel
theorem dL_copies_344 : decode cL_copies 344 = .ok (.invokevirtual 15, 3) := by decide +kernel
theorem dL_copies_347 : decode cL_copies 347 = .ok (.iload 16, 2) := by decide +kernel
theorem dL_copies_349 : decode cL_copies 349 = .ok (.imul, 1) := by decide +kernel
theorem dL_copies_350 : decode cL_copies 350 = .ok (.if_icmp .eq 5, 3) := by decide +kernel
theorem dL_copies_353 : decode cL_copies 353 = .ok (.iconst 0, 1) := by decide +kernel
theorem dL_copies_354 : decode cL_copies 354 = .ok (.ireturn, 1) := by decide +kernel
theorem dL_copies_355 : decode cL_copies 355 = .ok (.iconst 0, 1) := by decide +kernel
theorem dL_copies_356 : decode cL_copies 356 = .ok (.istore 17, 2) := by decide +kernel
theorem dL_copies_358 : decode cL_copies 358 = .ok (.iconst 0, 1) := by decide +kernel
theorem dL_copies_359 : decode cL_copies 359 = .ok (.istore 18, 2) := by decide +kernel
theorem dL_copies_361 : decode cL_copies 361 = .ok (.iload 18, 2) := by decide +kernel
theorem dL_copies_363 : decode cL_copies 363 = .ok (.iload 4, 2) := by decide +kernel
theorem dL_copies_365 : decode cL_copies 365 = .ok (.if_icmp .ge 274, 3) := by decide +kernel
theorem dL_copies_368 : decode cL_copies 368 = .ok (.iload 17, 2) := by decide +kernel
theorem dL_copies_370 : decode cL_copies 370 = .ok (.aload_n 0, 1) := by decide +kernel
theorem dL_copies_371 : decode cL_copies 371 = .ok (.iload 9, 2) := by decide +kernel
theorem dL_copies_373 : decode cL_copies 373 = .ok (.iload 18, 2) := by decide +kernel
theorem dL_copies_375 : decode cL_copies 375 = .ok (.iconst 4, 1) := by decide +kernel
theorem dL_copies_376 : decode cL_copies 376 = .ok (.invokevirtual 19, 3) := by decide +kernel
theorem dL_copies_379 : decode cL_copies 379 = .ok (.l2i, 1) := by decide +kernel
theorem dL_copies_380 : decode cL_copies 380 = .ok (.iadd, 1) := by decide +kernel
theorem dL_copies_381 : decode cL_copies 381 = .ok (.istore 17, 2) := by decide +kernel
theorem dL_copies_383 : decode cL_copies 383 = .ok (.iconst 0, 1) := by decide +kernel
theorem dL_copies_384 : decode cL_copies 384 = .ok (.istore 19, 2) := by decide +kernel
theorem dL_copies_386 : decode cL_copies 386 = .ok (.iload 19, 2) := by decide +kernel
theorem dL_copies_388 : decode cL_copies 388 = .ok (.iconst 2, 1) := by decide +kernel
theorem dL_copies_389 : decode cL_copies 389 = .ok (.if_icmp .ge 221, 3) := by decide +kernel
theorem dL_copies_392 : decode cL_copies 392 = .ok (.aload_n 0, 1) := by decide +kernel
theorem dL_copies_393 : decode cL_copies 393 = .ok (.iload_n 1, 1) := by decide +kernel
theorem dL_copies_394 : decode cL_copies 394 = .ok (.iload 18, 2) := by decide +kernel
theorem dL_copies_396 : decode cL_copies 396 = .ok (.iconst 2, 1) := by decide +kernel
theorem dL_copies_397 : decode cL_copies 397 = .ok (.iload 19, 2) := by decide +kernel
theorem dL_copies_399 : decode cL_copies 399 = .ok (.imul, 1) := by decide +kernel
theorem dL_copies_400 : decode cL_copies 400 = .ok (.invokevirtual 19, 3) := by decide +kernel
theorem dL_copies_403 : decode cL_copies 403 = .ok (.lstore 20, 2) := by decide +kernel
theorem dL_copies_405 : decode cL_copies 405 = .ok (.aload_n 0, 1) := by decide +kernel
theorem dL_copies_406 : decode cL_copies 406 = .ok (.iload_n 1, 1) := by decide +kernel
theorem dL_copies_407 : decode cL_copies 407 = .ok (.iload 18, 2) := by decide +kernel
theorem dL_copies_409 : decode cL_copies 409 = .ok (.iconst 2, 1) := by decide +kernel
theorem dL_copies_410 : decode cL_copies 410 = .ok (.iload 19, 2) := by decide +kernel
theorem dL_copies_412 : decode cL_copies 412 = .ok (.imul, 1) := by decide +kernel
theorem dL_copies_413 : decode cL_copies 413 = .ok (.iconst 1, 1) := by decide +kernel
theorem dL_copies_414 : decode cL_copies 414 = .ok (.iadd, 1) := by decide +kernel
theorem dL_copies_415 : decode cL_copies 415 = .ok (.invokevirtual 19, 3) := by decide +kernel
theorem dL_copies_418 : decode cL_copies 418 = .ok (.lstore 22, 2) := by decide +kernel
theorem dL_copies_420 : decode cL_copies 420 = .ok (.aload_n 0, 1) := by decide +kernel
theorem dL_copies_421 : decode cL_copies 421 = .ok (.iconst 3, 1) := by decide +kernel
theorem dL_copies_422 : decode cL_copies 422 = .ok (.iload 19, 2) := by decide +kernel
theorem dL_copies_424 : decode cL_copies 424 = .ok (.iadd, 1) := by decide +kernel
theorem dL_copies_425 : decode cL_copies 425 = .ok (.invokevirtual 9, 3) := by decide +kernel
theorem dL_copies_428 : decode cL_copies 428 = .ok (.i2l, 1) := by decide +kernel
theorem dL_copies_429 : decode cL_copies 429 = .ok (.lstore 24, 2) := by decide +kernel
theorem dL_copies_431 : decode cL_copies 431 = .ok (.lload 24, 2) := by decide +kernel
theorem dL_copies_433 : decode cL_copies 433 = .ok (.lload 22, 2) := by decide +kernel
theorem dL_copies_435 : decode cL_copies 435 = .ok (.lmul, 1) := by decide +kernel
theorem dL_copies_436 : decode cL_copies 436 = .ok (.iload 11, 2) := by decide +kernel
theorem dL_copies_438 : decode cL_copies 438 = .ok (.i2l, 1) := by decide +kernel
theorem dL_copies_439 : decode cL_copies 439 = .ok (.lmul, 1) := by decide +kernel
theorem dL_copies_440 : decode cL_copies 440 = .ok (.iload 19, 2) := by decide +kernel
theorem dL_copies_442 : decode cL_copies 442 = .ok (.ifCond .ne 8, 3) := by decide +kernel
theorem dL_copies_445 : decode cL_copies 445 = .ok (.iload 15, 2) := by decide +kernel
theorem dL_copies_447 : decode cL_copies 447 = .ok (.goto 5, 3) := by decide +kernel
theorem dL_copies_450 : decode cL_copies 450 = .ok (.iload 16, 2) := by decide +kernel
theorem dL_copies_452 : decode cL_copies 452 = .ok (.iload 10, 2) := by decide +kernel
theorem dL_copies_454 : decode cL_copies 454 = .ok (.imul, 1) := by decide +kernel
theorem dL_copies_455 : decode cL_copies 455 = .ok (.i2l, 1) := by decide +kernel
theorem dL_copies_456 : decode cL_copies 456 = .ok (.lload 20, 2) := by decide +kernel
theorem dL_copies_458 : decode cL_copies 458 = .ok (.lload 24, 2) := by decide +kernel
theorem dL_copies_460 : decode cL_copies 460 = .ok (.lload 22, 2) := by decide +kernel
theorem dL_copies_462 : decode cL_copies 462 = .ok (.lmul, 1) := by decide +kernel
theorem dL_copies_463 : decode cL_copies 463 = .ok (.lsub, 1) := by decide +kernel
theorem dL_copies_464 : decode cL_copies 464 = .ok (.lmul, 1) := by decide +kernel
theorem dL_copies_465 : decode cL_copies 465 = .ok (.ladd, 1) := by decide +kernel
theorem dL_copies_466 : decode cL_copies 466 = .ok (.lstore 26, 2) := by decide +kernel
theorem dL_copies_468 : decode cL_copies 468 = .ok (.lload 22, 2) := by decide +kernel
theorem dL_copies_470 : decode cL_copies 470 = .ok (.iload 11, 2) := by decide +kernel
theorem dL_copies_472 : decode cL_copies 472 = .ok (.i2l, 1) := by decide +kernel
theorem dL_copies_473 : decode cL_copies 473 = .ok (.lmul, 1) := by decide +kernel
theorem dL_copies_474 : decode cL_copies 474 = .ok (.lstore 28, 2) := by decide +kernel
theorem dL_copies_476 : decode cL_copies 476 = .ok (.aload_n 0, 1) := by decide +kernel
theorem dL_copies_477 : decode cL_copies 477 = .ok (.iload 9, 2) := by decide +kernel
theorem dL_copies_479 : decode cL_copies 479 = .ok (.iload 18, 2) := by decide +kernel
theorem dL_copies_481 : decode cL_copies 481 = .ok (.iconst 2, 1) := by decide +kernel
theorem dL_copies_482 : decode cL_copies 482 = .ok (.iload 19, 2) := by decide +kernel
theorem dL_copies_484 : decode cL_copies 484 = .ok (.imul, 1) := by decide +kernel
theorem dL_copies_485 : decode cL_copies 485 = .ok (.invokevirtual 19, 3) := by decide +kernel
theorem dL_copies_488 : decode cL_copies 488 = .ok (.lstore 30, 2) := by decide +kernel
theorem dL_copies_490 : decode cL_copies 490 = .ok (.aload_n 0, 1) := by decide +kernel
theorem dL_copies_491 : decode cL_copies 491 = .ok (.iload 9, 2) := by decide +kernel
theorem dL_copies_493 : decode cL_copies 493 = .ok (.iload 18, 2) := by decide +kernel
theorem dL_copies_495 : decode cL_copies 495 = .ok (.iconst 2, 1) := by decide +kernel
theorem dL_copies_496 : decode cL_copies 496 = .ok (.iload 19, 2) := by decide +kernel
theorem dL_copies_498 : decode cL_copies 498 = .ok (.imul, 1) := by decide +kernel
theorem dL_copies_499 : decode cL_copies 499 = .ok (.iconst 1, 1) := by decide +kernel
theorem dL_copies_500 : decode cL_copies 500 = .ok (.iadd, 1) := by decide +kernel
theorem dL_copies_501 : decode cL_copies 501 = .ok (.invokevirtual 19, 3) := by decide +kernel
theorem dL_copies_504 : decode cL_copies 504 = .ok (.lstore 32, 2) := by decide +kernel
theorem dL_copies_506 : decode cL_copies 506 = .ok (.lload 32, 2) := by decide +kernel
theorem dL_copies_508 : decode cL_copies 508 = .ok (.lload 28, 2) := by decide +kernel
theorem dL_copies_510 : decode cL_copies 510 = .ok (.invokestatic 25, 3) := by decide +kernel
theorem dL_copies_513 : decode cL_copies 513 = .ok (.lstore 34, 2) := by decide +kernel
theorem dL_copies_515 : decode cL_copies 515 = .ok (.lload 30, 2) := by decide +kernel
theorem dL_copies_517 : decode cL_copies 517 = .ok (.lload 28, 2) := by decide +kernel
theorem dL_copies_519 : decode cL_copies 519 = .ok (.lload 34, 2) := by decide +kernel
theorem dL_copies_521 : decode cL_copies 521 = .ok (.ldiv, 1) := by decide +kernel
theorem dL_copies_522 : decode cL_copies 522 = .ok (.lmul, 1) := by decide +kernel
theorem dL_copies_523 : decode cL_copies 523 = .ok (.lload 26, 2) := by decide +kernel
theorem dL_copies_525 : decode cL_copies 525 = .ok (.lload 32, 2) := by decide +kernel
theorem dL_copies_527 : decode cL_copies 527 = .ok (.lload 34, 2) := by decide +kernel
theorem dL_copies_529 : decode cL_copies 529 = .ok (.ldiv, 1) := by decide +kernel
theorem dL_copies_530 : decode cL_copies 530 = .ok (.lmul, 1) := by decide +kernel
theorem dL_copies_531 : decode cL_copies 531 = .ok (.lsub, 1) := by decide +kernel
theorem dL_copies_532 : decode cL_copies 532 = .ok (.lstore 36, 2) := by decide +kernel
theorem dL_copies_534 : decode cL_copies 534 = .ok (.aload_n 0, 1) := by decide +kernel
theorem dL_copies_535 : decode cL_copies 535 = .ok (.bipush 6, 2) := by decide +kernel
theorem dL_copies_537 : decode cL_copies 537 = .ok (.invokevirtual 9, 3) := by decide +kernel
theorem dL_copies_540 : decode cL_copies 540 = .ok (.i2l, 1) := by decide +kernel
theorem dL_copies_541 : decode cL_copies 541 = .ok (.lload 32, 2) := by decide +kernel
theorem dL_copies_543 : decode cL_copies 543 = .ok (.lload 34, 2) := by decide +kernel
theorem dL_copies_545 : decode cL_copies 545 = .ok (.ldiv, 1) := by decide +kernel
theorem dL_copies_546 : decode cL_copies 546 = .ok (.lmul, 1) := by decide +kernel
theorem dL_copies_547 : decode cL_copies 547 = .ok (.lload 28, 2) := by decide +kernel
theorem dL_copies_549 : decode cL_copies 549 = .ok (.lmul, 1) := by decide +kernel
theorem dL_copies_550 : decode cL_copies 550 = .ok (.lstore 38, 2) := by decide +kernel
theorem dL_copies_552 : decode cL_copies 552 = .ok (.aload_n 0, 1) := by decide +kernel
theorem dL_copies_553 : decode cL_copies 553 = .ok (.iload 9, 2) := by decide +kernel
theorem dL_copies_555 : decode cL_copies 555 = .ok (.iload 18, 2) := by decide +kernel
theorem dL_copies_557 : decode cL_copies 557 = .ok (.iconst 4, 1) := by decide +kernel
theorem dL_copies_558 : decode cL_copies 558 = .ok (.invokevirtual 19, 3) := by decide +kernel
theorem dL_copies_561 : decode cL_copies 561 = .ok (.lconst 0, 1) := by decide +kernel
theorem dL_copies_562 : decode cL_copies 562 = .ok (.lcmp, 1) := by decide +kernel
theorem dL_copies_563 : decode cL_copies 563 = .ok (.ifCond .ne 7, 3) := by decide +kernel
theorem dL_copies_566 : decode cL_copies 566 = .ok (.iconst 1, 1) := by decide +kernel
theorem dL_copies_567 : decode cL_copies 567 = .ok (.goto 4, 3) := by decide +kernel
theorem dL_copies_570 : decode cL_copies 570 = .ok (.iconst 0, 1) := by decide +kernel
theorem dL_copies_571 : decode cL_copies 571 = .ok (.istore 40, 2) := by decide +kernel
theorem dL_copies_573 : decode cL_copies 573 = .ok (.iload 40, 2) := by decide +kernel
theorem dL_copies_575 : decode cL_copies 575 = .ok (.ifCond .eq 10, 3) := by decide +kernel
theorem dL_copies_578 : decode cL_copies 578 = .ok (.lload 36, 2) := by decide +kernel
theorem dL_copies_580 : decode cL_copies 580 = .ok (.lconst 0, 1) := by decide +kernel
theorem dL_copies_581 : decode cL_copies 581 = .ok (.lcmp, 1) := by decide +kernel
theorem dL_copies_582 : decode cL_copies 582 = .ok (.ifCond .ne 20, 3) := by decide +kernel
theorem dL_copies_585 : decode cL_copies 585 = .ok (.lload 36, 2) := by decide +kernel
theorem dL_copies_587 : decode cL_copies 587 = .ok (.lload 38, 2) := by decide +kernel
theorem dL_copies_589 : decode cL_copies 589 = .ok (.lcmp, 1) := by decide +kernel
theorem dL_copies_590 : decode cL_copies 590 = .ok (.ifCond .gt 12, 3) := by decide +kernel
theorem dL_copies_593 : decode cL_copies 593 = .ok (.lload 36, 2) := by decide +kernel
theorem dL_copies_595 : decode cL_copies 595 = .ok (.lneg, 1) := by decide +kernel
theorem dL_copies_596 : decode cL_copies 596 = .ok (.lload 38, 2) := by decide +kernel
theorem dL_copies_598 : decode cL_copies 598 = .ok (.lcmp, 1) := by decide +kernel
theorem dL_copies_599 : decode cL_copies 599 = .ok (.ifCond .le 5, 3) := by decide +kernel
theorem dL_copies_602 : decode cL_copies 602 = .ok (.iconst 0, 1) := by decide +kernel
theorem dL_copies_603 : decode cL_copies 603 = .ok (.ireturn, 1) := by decide +kernel
theorem dL_copies_604 : decode cL_copies 604 = .ok (.iinc 19 1, 3) := by decide +kernel
theorem dL_copies_607 : decode cL_copies 607 = .ok (.goto (-221), 3) := by decide +kernel
theorem dL_copies_610 : decode cL_copies 610 = .ok (.aload_n 0, 1) := by decide +kernel
theorem dL_copies_611 : decode cL_copies 611 = .ok (.iload 9, 2) := by decide +kernel
theorem dL_copies_613 : decode cL_copies 613 = .ok (.iload 18, 2) := by decide +kernel
theorem dL_copies_615 : decode cL_copies 615 = .ok (.iconst 4, 1) := by decide +kernel
theorem dL_copies_616 : decode cL_copies 616 = .ok (.invokevirtual 19, 3) := by decide +kernel
theorem dL_copies_619 : decode cL_copies 619 = .ok (.aload_n 0, 1) := by decide +kernel
theorem dL_copies_620 : decode cL_copies 620 = .ok (.iload_n 1, 1) := by decide +kernel
theorem dL_copies_621 : decode cL_copies 621 = .ok (.iload 18, 2) := by decide +kernel
theorem dL_copies_623 : decode cL_copies 623 = .ok (.iconst 4, 1) := by decide +kernel
theorem dL_copies_624 : decode cL_copies 624 = .ok (.invokevirtual 19, 3) := by decide +kernel
theorem dL_copies_627 : decode cL_copies 627 = .ok (.lcmp, 1) := by decide +kernel
theorem dL_copies_628 : decode cL_copies 628 = .ok (.ifCond .eq 5, 3) := by decide +kernel
theorem dL_copies_631 : decode cL_copies 631 = .ok (.iconst 0, 1) := by decide +kernel
theorem dL_copies_632 : decode cL_copies 632 = .ok (.ireturn, 1) := by decide +kernel
theorem dL_copies_633 : decode cL_copies 633 = .ok (.iinc 18 1, 3) := by decide +kernel
theorem dL_copies_636 : decode cL_copies 636 = .ok (.goto (-275), 3) := by decide +kernel
theorem dL_copies_639 : decode cL_copies 639 = .ok (.aload_n 0, 1) := by decide +kernel
theorem dL_copies_640 : decode cL_copies 640 = .ok (.bipush 13, 2) := by decide +kernel
theorem dL_copies_642 : decode cL_copies 642 = .ok (.invokevirtual 9, 3) := by decide +kernel
theorem dL_copies_645 : decode cL_copies 645 = .ok (.iload 6, 2) := by decide +kernel
theorem dL_copies_647 : decode cL_copies 647 = .ok (.aload_n 0, 1) := by decide +kernel
theorem dL_copies_648 : decode cL_copies 648 = .ok (.iload 9, 2) := by decide +kernel
theorem dL_copies_650 : decode cL_copies 650 = .ok (.bipush 6, 2) := by decide +kernel
theorem dL_copies_652 : decode cL_copies 652 = .ok (.invokevirtual 15, 3) := by decide +kernel
theorem dL_copies_655 : decode cL_copies 655 = .ok (.iadd, 1) := by decide +kernel
theorem dL_copies_656 : decode cL_copies 656 = .ok (.if_icmp .ne 80, 3) := by decide +kernel
theorem dL_copies_659 : decode cL_copies 659 = .ok (.aload_n 0, 1) := by decide +kernel
theorem dL_copies_660 : decode cL_copies 660 = .ok (.bipush 14, 2) := by decide +kernel
theorem dL_copies_662 : decode cL_copies 662 = .ok (.invokevirtual 9, 3) := by decide +kernel
theorem dL_copies_665 : decode cL_copies 665 = .ok (.iload 7, 2) := by decide +kernel
theorem dL_copies_667 : decode cL_copies 667 = .ok (.aload_n 0, 1) := by decide +kernel
theorem dL_copies_668 : decode cL_copies 668 = .ok (.iload 9, 2) := by decide +kernel
theorem dL_copies_670 : decode cL_copies 670 = .ok (.bipush 7, 2) := by decide +kernel
theorem dL_copies_672 : decode cL_copies 672 = .ok (.invokevirtual 15, 3) := by decide +kernel
theorem dL_copies_675 : decode cL_copies 675 = .ok (.iadd, 1) := by decide +kernel
theorem dL_copies_676 : decode cL_copies 676 = .ok (.if_icmp .ne 60, 3) := by decide +kernel
theorem dL_copies_679 : decode cL_copies 679 = .ok (.aload_n 0, 1) := by decide +kernel
theorem dL_copies_680 : decode cL_copies 680 = .ok (.bipush 10, 2) := by decide +kernel
theorem dL_copies_682 : decode cL_copies 682 = .ok (.invokevirtual 9, 3) := by decide +kernel
theorem dL_copies_685 : decode cL_copies 685 = .ok (.iload 5, 2) := by decide +kernel
theorem dL_copies_687 : decode cL_copies 687 = .ok (.aload_n 0, 1) := by decide +kernel
theorem dL_copies_688 : decode cL_copies 688 = .ok (.iload 9, 2) := by decide +kernel
theorem dL_copies_690 : decode cL_copies 690 = .ok (.bipush 7, 2) := by decide +kernel
theorem dL_copies_692 : decode cL_copies 692 = .ok (.invokevirtual 15, 3) := by decide +kernel
theorem dL_copies_695 : decode cL_copies 695 = .ok (.iadd, 1) := by decide +kernel
theorem dL_copies_696 : decode cL_copies 696 = .ok (.if_icmp .ne 40, 3) := by decide +kernel
theorem dL_copies_699 : decode cL_copies 699 = .ok (.aload_n 0, 1) := by decide +kernel
theorem dL_copies_700 : decode cL_copies 700 = .ok (.bipush 15, 2) := by decide +kernel
theorem dL_copies_702 : decode cL_copies 702 = .ok (.invokevirtual 9, 3) := by decide +kernel
theorem dL_copies_705 : decode cL_copies 705 = .ok (.iload 8, 2) := by decide +kernel
theorem dL_copies_707 : decode cL_copies 707 = .ok (.iload 17, 2) := by decide +kernel
theorem dL_copies_709 : decode cL_copies 709 = .ok (.iadd, 1) := by decide +kernel
theorem dL_copies_710 : decode cL_copies 710 = .ok (.aload_n 0, 1) := by decide +kernel
theorem dL_copies_711 : decode cL_copies 711 = .ok (.iload 9, 2) := by decide +kernel
theorem dL_copies_713 : decode cL_copies 713 = .ok (.bipush 6, 2) := by decide +kernel
theorem dL_copies_715 : decode cL_copies 715 = .ok (.invokevirtual 15, 3) := by decide +kernel
theorem dL_copies_718 : decode cL_copies 718 = .ok (.isub, 1) := by decide +kernel
theorem dL_copies_719 : decode cL_copies 719 = .ok (.if_icmp .ne 17, 3) := by decide +kernel
theorem dL_copies_722 : decode cL_copies 722 = .ok (.aload_n 0, 1) := by decide +kernel
theorem dL_copies_723 : decode cL_copies 723 = .ok (.iload 9, 2) := by decide +kernel
theorem dL_copies_725 : decode cL_copies 725 = .ok (.invokevirtual 46, 3) := by decide +kernel
theorem dL_copies_728 : decode cL_copies 728 = .ok (.iconst 1, 1) := by decide +kernel
theorem dL_copies_729 : decode cL_copies 729 = .ok (.if_icmp .eq 7, 3) := by decide +kernel
theorem dL_copies_732 : decode cL_copies 732 = .ok (.iconst 1, 1) := by decide +kernel
theorem dL_copies_733 : decode cL_copies 733 = .ok (.goto 4, 3) := by decide +kernel
theorem dL_copies_736 : decode cL_copies 736 = .ok (.iconst 0, 1) := by decide +kernel
theorem dL_copies_737 : decode cL_copies 737 = .ok (.ireturn, 1) := by decide +kernel
theorem dL_refuses_0 : decode cL_refuses 0 = .ok (.aload_n 0, 1) := by decide +kernel
theorem dL_refuses_1 : decode cL_refuses 1 = .ok (.bipush 16, 2) := by decide +kernel
theorem dL_refuses_3 : decode cL_refuses 3 = .ok (.invokevirtual 9, 3) := by decide +kernel
