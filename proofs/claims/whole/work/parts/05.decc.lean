theorem dX12_init_0 : decode cX12_init 0 = .ok (.aload_n 0, 1) := by decide +kernel
theorem dX12_init_1 : decode cX12_init 1 = .ok (.invokespecial 1, 3) := by decide +kernel
theorem dX12_init_4 : decode cX12_init 4 = .ok (.aload_n 0, 1) := by decide +kernel
theorem dX12_init_5 : decode cX12_init 5 = .ok (.sipush 130, 3) := by decide +kernel
theorem dX12_init_8 : decode cX12_init 8 = .ok (.newarray .int, 2) := by decide +kernel
theorem dX12_init_10 : decode cX12_init 10 = .ok (.putfield 7, 3) := by decide +kernel
theorem dX12_init_13 : decode cX12_init 13 = .ok (.aload_n 0, 1) := by decide +kernel
theorem dX12_init_14 : decode cX12_init 14 = .ok (.sipush 240, 3) := by decide +kernel
theorem dX12_init_17 : decode cX12_init 17 = .ok (.newarray .int, 2) := by decide +kernel
theorem dX12_init_19 : decode cX12_init 19 = .ok (.putfield 13, 3) := by decide +kernel
theorem dX12_init_22 : decode cX12_init 22 = .ok (.aload_n 0, 1) := by decide +kernel
theorem dX12_init_23 : decode cX12_init 23 = .ok (.bipush 60, 2) := by decide +kernel
theorem dX12_init_25 : decode cX12_init 25 = .ok (.newarray .int, 2) := by decide +kernel
theorem dX12_init_27 : decode cX12_init 27 = .ok (.putfield 16, 3) := by decide +kernel
theorem dX12_init_30 : decode cX12_init 30 = .ok (.aload_n 0, 1) := by decide +kernel
theorem dX12_init_31 : decode cX12_init 31 = .ok (.bipush 120, 2) := by decide +kernel
theorem dX12_init_33 : decode cX12_init 33 = .ok (.newarray .int, 2) := by decide +kernel
theorem dX12_init_35 : decode cX12_init 35 = .ok (.putfield 19, 3) := by decide +kernel
theorem dX12_init_38 : decode cX12_init 38 = .ok (.aload_n 0, 1) := by decide +kernel
theorem dX12_init_39 : decode cX12_init 39 = .ok (.bipush 60, 2) := by decide +kernel
theorem dX12_init_41 : decode cX12_init 41 = .ok (.newarray .int, 2) := by decide +kernel
theorem dX12_init_43 : decode cX12_init 43 = .ok (.putfield 22, 3) := by decide +kernel
theorem dX12_init_46 : decode cX12_init 46 = .ok (.aload_n 0, 1) := by decide +kernel
theorem dX12_init_47 : decode cX12_init 47 = .ok (.iconst 5, 1) := by decide +kernel
theorem dX12_init_48 : decode cX12_init 48 = .ok (.newarray .int, 2) := by decide +kernel
theorem dX12_init_50 : decode cX12_init 50 = .ok (.putfield 25, 3) := by decide +kernel
theorem dX12_init_53 : decode cX12_init 53 = .ok (.aload_n 0, 1) := by decide +kernel
theorem dX12_init_54 : decode cX12_init 54 = .ok (.bipush 10, 2) := by decide +kernel
theorem dX12_init_56 : decode cX12_init 56 = .ok (.newarray .int, 2) := by decide +kernel
theorem dX12_init_58 : decode cX12_init 58 = .ok (.putfield 28, 3) := by decide +kernel
theorem dX12_init_61 : decode cX12_init 61 = .ok (.aload_n 0, 1) := by decide +kernel
theorem dX12_init_62 : decode cX12_init 62 = .ok (.bipush 12, 2) := by decide +kernel
theorem dX12_init_64 : decode cX12_init 64 = .ok (.newarray .int, 2) := by decide +kernel
theorem dX12_init_66 : decode cX12_init 66 = .ok (.putfield 31, 3) := by decide +kernel
theorem dX12_init_69 : decode cX12_init 69 = .ok (.aload_n 0, 1) := by decide +kernel
theorem dX12_init_70 : decode cX12_init 70 = .ok (.bipush 10, 2) := by decide +kernel
theorem dX12_init_72 : decode cX12_init 72 = .ok (.newarray .int, 2) := by decide +kernel
theorem dX12_init_74 : decode cX12_init 74 = .ok (.putfield 34, 3) := by decide +kernel
theorem dX12_init_77 : decode cX12_init 77 = .ok (.aload_n 0, 1) := by decide +kernel
theorem dX12_init_78 : decode cX12_init 78 = .ok (.bipush 11, 2) := by decide +kernel
theorem dX12_init_80 : decode cX12_init 80 = .ok (.newarray .int, 2) := by decide +kernel
theorem dX12_init_82 : decode cX12_init 82 = .ok (.putfield 37, 3) := by decide +kernel
theorem dX12_init_85 : decode cX12_init 85 = .ok (.aload_n 0, 1) := by decide +kernel
theorem dX12_init_86 : decode cX12_init 86 = .ok (.bipush 20, 2) := by decide +kernel
theorem dX12_init_88 : decode cX12_init 88 = .ok (.newarray .int, 2) := by decide +kernel
theorem dX12_init_90 : decode cX12_init 90 = .ok (.putfield 40, 3) := by decide +kernel
theorem dX12_init_93 : decode cX12_init 93 = .ok (.aload_n 0, 1) := by decide +kernel
theorem dX12_init_94 : decode cX12_init 94 = .ok (.bipush 13, 2) := by decide +kernel
theorem dX12_init_96 : decode cX12_init 96 = .ok (.newarray .int, 2) := by decide +kernel
theorem dX12_init_98 : decode cX12_init 98 = .ok (.putfield 43, 3) := by decide +kernel
theorem dX12_init_101 : decode cX12_init 101 = .ok (.aload_n 0, 1) := by decide +kernel
theorem dX12_init_102 : decode cX12_init 102 = .ok (.bipush 64, 2) := by decide +kernel
theorem dX12_init_104 : decode cX12_init 104 = .ok (.newarray .int, 2) := by decide +kernel
theorem dX12_init_106 : decode cX12_init 106 = .ok (.putfield 46, 3) := by decide +kernel
theorem dX12_init_109 : decode cX12_init 109 = .ok (.aload_n 0, 1) := by decide +kernel
theorem dX12_init_110 : decode cX12_init 110 = .ok (.sipush 4096, 3) := by decide +kernel
theorem dX12_init_113 : decode cX12_init 113 = .ok (.newarray .int, 2) := by decide +kernel
theorem dX12_init_115 : decode cX12_init 115 = .ok (.putfield 49, 3) := by decide +kernel
theorem dX12_init_118 : decode cX12_init 118 = .ok (.aload_n 0, 1) := by decide +kernel
theorem dX12_init_119 : decode cX12_init 119 = .ok (.sipush 1024, 3) := by decide +kernel
theorem dX12_init_122 : decode cX12_init 122 = .ok (.newarray .boolean, 2) := by decide +kernel
theorem dX12_init_124 : decode cX12_init 124 = .ok (.putfield 52, 3) := by decide +kernel
theorem dX12_init_127 : decode cX12_init 127 = .ok (.aload_n 0, 1) := by decide +kernel
theorem dX12_init_128 : decode cX12_init 128 = .ok (.bipush 16, 2) := by decide +kernel
theorem dX12_init_130 : decode cX12_init 130 = .ok (.newarray .int, 2) := by decide +kernel
theorem dX12_init_132 : decode cX12_init 132 = .ok (.putfield 56, 3) := by decide +kernel
theorem dX12_init_135 : decode cX12_init 135 = .ok (.aload_n 0, 1) := by decide +kernel
theorem dX12_init_136 : decode cX12_init 136 = .ok (.sipush 300, 3) := by decide +kernel
theorem dX12_init_139 : decode cX12_init 139 = .ok (.newarray .int, 2) := by decide +kernel
theorem dX12_init_141 : decode cX12_init 141 = .ok (.putfield 59, 3) := by decide +kernel
theorem dX12_init_144 : decode cX12_init 144 = .ok (.aload_n 0, 1) := by decide +kernel
theorem dX12_init_145 : decode cX12_init 145 = .ok (.bipush 30, 2) := by decide +kernel
theorem dX12_init_147 : decode cX12_init 147 = .ok (.newarray .int, 2) := by decide +kernel
theorem dX12_init_149 : decode cX12_init 149 = .ok (.putfield 62, 3) := by decide +kernel
theorem dX12_init_152 : decode cX12_init 152 = .ok (.aload_n 0, 1) := by decide +kernel
theorem dX12_init_153 : decode cX12_init 153 = .ok (.sipush 240, 3) := by decide +kernel
theorem dX12_init_156 : decode cX12_init 156 = .ok (.newarray .int, 2) := by decide +kernel
theorem dX12_init_158 : decode cX12_init 158 = .ok (.putfield 65, 3) := by decide +kernel
theorem dX12_init_161 : decode cX12_init 161 = .ok (.aload_n 0, 1) := by decide +kernel
theorem dX12_init_162 : decode cX12_init 162 = .ok (.bipush 48, 2) := by decide +kernel
theorem dX12_init_164 : decode cX12_init 164 = .ok (.newarray .int, 2) := by decide +kernel
theorem dX12_init_166 : decode cX12_init 166 = .ok (.putfield 68, 3) := by decide +kernel
theorem dX12_init_169 : decode cX12_init 169 = .ok (.aload_n 0, 1) := by decide +kernel
theorem dX12_init_170 : decode cX12_init 170 = .ok (.bipush 12, 2) := by decide +kernel
theorem dX12_init_172 : decode cX12_init 172 = .ok (.newarray .int, 2) := by decide +kernel
theorem dX12_init_174 : decode cX12_init 174 = .ok (.putfield 71, 3) := by decide +kernel
theorem dX12_init_177 : decode cX12_init 177 = .ok (.aload_n 0, 1) := by decide +kernel
theorem dX12_init_178 : decode cX12_init 178 = .ok (.bipush 20, 2) := by decide +kernel
theorem dX12_init_180 : decode cX12_init 180 = .ok (.newarray .int, 2) := by decide +kernel
theorem dX12_init_182 : decode cX12_init 182 = .ok (.putfield 74, 3) := by decide +kernel
theorem dX12_init_185 : decode cX12_init 185 = .ok (.aload_n 0, 1) := by decide +kernel
theorem dX12_init_186 : decode cX12_init 186 = .ok (.bipush 20, 2) := by decide +kernel
theorem dX12_init_188 : decode cX12_init 188 = .ok (.newarray .int, 2) := by decide +kernel
theorem dX12_init_190 : decode cX12_init 190 = .ok (.putfield 77, 3) := by decide +kernel
theorem dX12_init_193 : decode cX12_init 193 = .ok (.aload_n 0, 1) := by decide +kernel
theorem dX12_init_194 : decode cX12_init 194 = .ok (.bipush 20, 2) := by decide +kernel
theorem dX12_init_196 : decode cX12_init 196 = .ok (.newarray .boolean, 2) := by decide +kernel
theorem dX12_init_198 : decode cX12_init 198 = .ok (.putfield 80, 3) := by decide +kernel
theorem dX12_init_201 : decode cX12_init 201 = .ok (.aload_n 0, 1) := by decide +kernel
theorem dX12_init_202 : decode cX12_init 202 = .ok (.bipush 100, 2) := by decide +kernel
theorem dX12_init_204 : decode cX12_init 204 = .ok (.newarray .int, 2) := by decide +kernel
theorem dX12_init_206 : decode cX12_init 206 = .ok (.putfield 83, 3) := by decide +kernel
theorem dX12_init_209 : decode cX12_init 209 = .ok (.aload_n 0, 1) := by decide +kernel
theorem dX12_init_210 : decode cX12_init 210 = .ok (.sipush 240, 3) := by decide +kernel
theorem dX12_init_213 : decode cX12_init 213 = .ok (.newarray .int, 2) := by decide +kernel
theorem dX12_init_215 : decode cX12_init 215 = .ok (.putfield 86, 3) := by decide +kernel
theorem dX12_init_218 : decode cX12_init 218 = .ok (.aload_n 0, 1) := by decide +kernel
theorem dX12_init_219 : decode cX12_init 219 = .ok (.bipush 8, 2) := by decide +kernel
theorem dX12_init_221 : decode cX12_init 221 = .ok (.newarray .int, 2) := by decide +kernel
theorem dX12_init_223 : decode cX12_init 223 = .ok (.putfield 89, 3) := by decide +kernel
theorem dX12_init_226 : decode cX12_init 226 = .ok (.aload_n 0, 1) := by decide +kernel
theorem dX12_init_227 : decode cX12_init 227 = .ok (.bipush 8, 2) := by decide +kernel
theorem dX12_init_229 : decode cX12_init 229 = .ok (.newarray .int, 2) := by decide +kernel
theorem dX12_init_231 : decode cX12_init 231 = .ok (.putfield 92, 3) := by decide +kernel
theorem dX12_init_234 : decode cX12_init 234 = .ok (.aload_n 0, 1) := by decide +kernel
theorem dX12_init_235 : decode cX12_init 235 = .ok (.bipush 40, 2) := by decide +kernel
theorem dX12_init_237 : decode cX12_init 237 = .ok (.newarray .int, 2) := by decide +kernel
theorem dX12_init_239 : decode cX12_init 239 = .ok (.putfield 95, 3) := by decide +kernel
theorem dX12_init_242 : decode cX12_init 242 = .ok (.aload_n 0, 1) := by decide +kernel
theorem dX12_init_243 : decode cX12_init 243 = .ok (.sipush 240, 3) := by decide +kernel
theorem dX12_init_246 : decode cX12_init 246 = .ok (.newarray .int, 2) := by decide +kernel
theorem dX12_init_248 : decode cX12_init 248 = .ok (.putfield 98, 3) := by decide +kernel
theorem dX12_init_251 : decode cX12_init 251 = .ok (.aload_n 0, 1) := by decide +kernel
theorem dX12_init_252 : decode cX12_init 252 = .ok (.bipush 6, 2) := by decide +kernel
theorem dX12_init_254 : decode cX12_init 254 = .ok (.newarray .int, 2) := by decide +kernel
theorem dX12_init_256 : decode cX12_init 256 = .ok (.putfield 101, 3) := by decide +kernel
theorem dX12_init_259 : decode cX12_init 259 = .ok (.aload_n 0, 1) := by decide +kernel
theorem dX12_init_260 : decode cX12_init 260 = .ok (.bipush 26, 2) := by decide +kernel
theorem dX12_init_262 : decode cX12_init 262 = .ok (.newarray .int, 2) := by decide +kernel
theorem dX12_init_264 : decode cX12_init 264 = .ok (.putfield 104, 3) := by decide +kernel
theorem dX12_init_267 : decode cX12_init 267 = .ok (.aload_n 0, 1) := by decide +kernel
theorem dX12_init_268 : decode cX12_init 268 = .ok (.bipush 7, 2) := by decide +kernel
theorem dX12_init_270 : decode cX12_init 270 = .ok (.newarray .int, 2) := by decide +kernel
theorem dX12_init_272 : decode cX12_init 272 = .ok (.putfield 107, 3) := by decide +kernel
theorem dX12_init_275 : decode cX12_init 275 = .ok (.aload_n 0, 1) := by decide +kernel
theorem dX12_init_276 : decode cX12_init 276 = .ok (.bipush 35, 2) := by decide +kernel
theorem dX12_init_278 : decode cX12_init 278 = .ok (.newarray .int, 2) := by decide +kernel
theorem dX12_init_280 : decode cX12_init 280 = .ok (.putfield 110, 3) := by decide +kernel
theorem dX12_init_283 : decode cX12_init 283 = .ok (.iconst 0, 1) := by decide +kernel
theorem dX12_init_284 : decode cX12_init 284 = .ok (.istore_n 1, 1) := by decide +kernel
theorem dX12_init_285 : decode cX12_init 285 = .ok (.iload_n 1, 1) := by decide +kernel
theorem dX12_init_286 : decode cX12_init 286 = .ok (.bipush 26, 2) := by decide +kernel
theorem dX12_init_288 : decode cX12_init 288 = .ok (.if_icmp .ge 17, 3) := by decide +kernel
theorem dX12_init_291 : decode cX12_init 291 = .ok (.aload_n 0, 1) := by decide +kernel
theorem dX12_init_292 : decode cX12_init 292 = .ok (.getfield 104, 3) := by decide +kernel
theorem dX12_init_295 : decode cX12_init 295 = .ok (.iload_n 1, 1) := by decide +kernel
theorem dX12_init_296 : decode cX12_init 296 = .ok (.bipush (-6), 2) := by decide +kernel
theorem dX12_init_298 : decode cX12_init 298 = .ok (.iastore, 1) := by decide +kernel
theorem dX12_init_299 : decode cX12_init 299 = .ok (.iinc 1 1, 3) := by decide +kernel
theorem dX12_init_302 : decode cX12_init 302 = .ok (.goto (-17), 3) := by decide +kernel
theorem dX12_init_305 : decode cX12_init 305 = .ok (.iconst 0, 1) := by decide +kernel
theorem dX12_init_306 : decode cX12_init 306 = .ok (.istore_n 1, 1) := by decide +kernel
theorem dX12_init_307 : decode cX12_init 307 = .ok (.iload_n 1, 1) := by decide +kernel
theorem dX12_init_308 : decode cX12_init 308 = .ok (.bipush 6, 2) := by decide +kernel
theorem dX12_init_310 : decode cX12_init 310 = .ok (.if_icmp .ge 17, 3) := by decide +kernel
theorem dX12_init_313 : decode cX12_init 313 = .ok (.aload_n 0, 1) := by decide +kernel
theorem dX12_init_314 : decode cX12_init 314 = .ok (.getfield 101, 3) := by decide +kernel
theorem dX12_init_317 : decode cX12_init 317 = .ok (.iload_n 1, 1) := by decide +kernel
theorem dX12_init_318 : decode cX12_init 318 = .ok (.bipush (-6), 2) := by decide +kernel
theorem dX12_init_320 : decode cX12_init 320 = .ok (.iastore, 1) := by decide +kernel
theorem dX12_init_321 : decode cX12_init 321 = .ok (.iinc 1 1, 3) := by decide +kernel
theorem dX12_init_324 : decode cX12_init 324 = .ok (.goto (-17), 3) := by decide +kernel
theorem dX12_init_327 : decode cX12_init 327 = .ok (.return_, 1) := by decide +kernel
theorem dX12_in_0 : decode cX12_in 0 = .ok (.lload_n 0, 1) := by decide +kernel
theorem dX12_in_1 : decode cX12_in 1 = .ok (.lload_n 2, 1) := by decide +kernel
theorem dX12_in_2 : decode cX12_in 2 = .ok (.lcmp, 1) := by decide +kernel
theorem dX12_in_3 : decode cX12_in 3 = .ok (.ifCond .lt 14, 3) := by decide +kernel
theorem dX12_in_6 : decode cX12_in 6 = .ok (.lload_n 0, 1) := by decide +kernel
theorem dX12_in_7 : decode cX12_in 7 = .ok (.lload 4, 2) := by decide +kernel
theorem dX12_in_9 : decode cX12_in 9 = .ok (.lcmp, 1) := by decide +kernel
theorem dX12_in_10 : decode cX12_in 10 = .ok (.ifCond .gt 7, 3) := by decide +kernel
theorem dX12_in_13 : decode cX12_in 13 = .ok (.iconst 1, 1) := by decide +kernel
theorem dX12_in_14 : decode cX12_in 14 = .ok (.goto 4, 3) := by decide +kernel
theorem dX12_in_17 : decode cX12_in 17 = .ok (.iconst 0, 1) := by decide +kernel
theorem dX12_in_18 : decode cX12_in 18 = .ok (.ireturn, 1) := by decide +kernel
theorem dX12_ones_0 : decode cX12_ones 0 = .ok (.iconst 0, 1) := by decide +kernel
theorem dX12_ones_1 : decode cX12_ones 1 = .ok (.istore_n 1, 1) := by decide +kernel
theorem dX12_ones_2 : decode cX12_ones 2 = .ok (.iconst 0, 1) := by decide +kernel
theorem dX12_ones_3 : decode cX12_ones 3 = .ok (.istore_n 2, 1) := by decide +kernel
theorem dX12_ones_4 : decode cX12_ones 4 = .ok (.iload_n 2, 1) := by decide +kernel
theorem dX12_ones_5 : decode cX12_ones 5 = .ok (.bipush 26, 2) := by decide +kernel
theorem dX12_ones_7 : decode cX12_ones 7 = .ok (.if_icmp .ge 17, 3) := by decide +kernel
theorem dX12_ones_10 : decode cX12_ones 10 = .ok (.iload_n 1, 1) := by decide +kernel
theorem dX12_ones_11 : decode cX12_ones 11 = .ok (.iload_n 0, 1) := by decide +kernel
theorem dX12_ones_12 : decode cX12_ones 12 = .ok (.iload_n 2, 1) := by decide +kernel
theorem dX12_ones_13 : decode cX12_ones 13 = .ok (.ishr, 1) := by decide +kernel
theorem dX12_ones_14 : decode cX12_ones 14 = .ok (.iconst 1, 1) := by decide +kernel
theorem dX12_ones_15 : decode cX12_ones 15 = .ok (.iand, 1) := by decide +kernel
theorem dX12_ones_16 : decode cX12_ones 16 = .ok (.iadd, 1) := by decide +kernel
theorem dX12_ones_17 : decode cX12_ones 17 = .ok (.istore_n 1, 1) := by decide +kernel
theorem dX12_ones_18 : decode cX12_ones 18 = .ok (.iinc 2 1, 3) := by decide +kernel
theorem dX12_ones_21 : decode cX12_ones 21 = .ok (.goto (-17), 3) := by decide +kernel
theorem dX12_ones_24 : decode cX12_ones 24 = .ok (.iload_n 1, 1) := by decide +kernel
theorem dX12_ones_25 : decode cX12_ones 25 = .ok (.ireturn, 1) := by decide +kernel
theorem dX12_isCode_0 : decode cX12_isCode 0 = .ok (.iload_n 0, 1) := by decide +kernel
theorem dX12_isCode_1 : decode cX12_isCode 1 = .ok (.i2l, 1) := by decide +kernel
theorem dX12_isCode_2 : decode cX12_isCode 2 = .ok (.lconst 0, 1) := by decide +kernel
theorem dX12_isCode_3 : decode cX12_isCode 3 = .ok (.ldc2_w 113, 3) := by decide +kernel
theorem dX12_isCode_6 : decode cX12_isCode 6 = .ok (.invokestatic 115, 3) := by decide +kernel
theorem dX12_isCode_9 : decode cX12_isCode 9 = .ok (.ireturn, 1) := by decide +kernel
theorem dX12_isLetter_0 : decode cX12_isLetter 0 = .ok (.iload_n 0, 1) := by decide +kernel
theorem dX12_isLetter_1 : decode cX12_isLetter 1 = .ok (.i2l, 1) := by decide +kernel
theorem dX12_isLetter_2 : decode cX12_isLetter 2 = .ok (.lconst 0, 1) := by decide +kernel
theorem dX12_isLetter_3 : decode cX12_isLetter 3 = .ok (.ldc2_w 119, 3) := by decide +kernel
theorem dX12_isLetter_6 : decode cX12_isLetter 6 = .ok (.invokestatic 115, 3) := by decide +kernel
theorem dX12_isLetter_9 : decode cX12_isLetter 9 = .ok (.ireturn, 1) := by decide +kernel
theorem dX12_letter_0 : decode cX12_letter 0 = .ok (.iload_n 1, 1) := by decide +kernel
theorem dX12_letter_1 : decode cX12_letter 1 = .ok (.invokestatic 121, 3) := by decide +kernel
theorem dX12_letter_4 : decode cX12_letter 4 = .ok (.ifCond .eq 10, 3) := by decide +kernel
theorem dX12_letter_7 : decode cX12_letter 7 = .ok (.iload_n 2, 1) := by decide +kernel
theorem dX12_letter_8 : decode cX12_letter 8 = .ok (.invokestatic 125, 3) := by decide +kernel
theorem dX12_letter_11 : decode cX12_letter 11 = .ok (.ifCond .ne 5, 3) := by decide +kernel
theorem dX12_letter_14 : decode cX12_letter 14 = .ok (.iconst (-1), 1) := by decide +kernel
theorem dX12_letter_15 : decode cX12_letter 15 = .ok (.ireturn, 1) := by decide +kernel
theorem dX12_letter_16 : decode cX12_letter 16 = .ok (.iload_n 3, 1) := by decide +kernel
theorem dX12_letter_17 : decode cX12_letter 17 = .ok (.i2l, 1) := by decide +kernel
theorem dX12_letter_18 : decode cX12_letter 18 = .ok (.lconst 0, 1) := by decide +kernel
theorem dX12_letter_19 : decode cX12_letter 19 = .ok (.ldc2_w 128, 3) := by decide +kernel
theorem dX12_letter_22 : decode cX12_letter 22 = .ok (.invokestatic 115, 3) := by decide +kernel
theorem dX12_letter_25 : decode cX12_letter 25 = .ok (.ifCond .ne 6, 3) := by decide +kernel
theorem dX12_letter_28 : decode cX12_letter 28 = .ok (.bipush (-2), 2) := by decide +kernel
theorem dX12_letter_30 : decode cX12_letter 30 = .ok (.ireturn, 1) := by decide +kernel
theorem dX12_letter_31 : decode cX12_letter 31 = .ok (.aload_n 0, 1) := by decide +kernel
theorem dX12_letter_32 : decode cX12_letter 32 = .ok (.getfield 7, 3) := by decide +kernel
theorem dX12_letter_35 : decode cX12_letter 35 = .ok (.bipush 26, 2) := by decide +kernel
theorem dX12_letter_37 : decode cX12_letter 37 = .ok (.iload_n 1, 1) := by decide +kernel
theorem dX12_letter_38 : decode cX12_letter 38 = .ok (.imul, 1) := by decide +kernel
theorem dX12_letter_39 : decode cX12_letter 39 = .ok (.iload_n 2, 1) := by decide +kernel
theorem dX12_letter_40 : decode cX12_letter 40 = .ok (.iadd, 1) := by decide +kernel
theorem dX12_letter_41 : decode cX12_letter 41 = .ok (.iaload, 1) := by decide +kernel
theorem dX12_letter_42 : decode cX12_letter 42 = .ok (.istore 4, 2) := by decide +kernel
theorem dX12_letter_44 : decode cX12_letter 44 = .ok (.aload_n 0, 1) := by decide +kernel
theorem dX12_letter_45 : decode cX12_letter 45 = .ok (.getfield 7, 3) := by decide +kernel
theorem dX12_letter_48 : decode cX12_letter 48 = .ok (.bipush 26, 2) := by decide +kernel
theorem dX12_letter_50 : decode cX12_letter 50 = .ok (.iload_n 1, 1) := by decide +kernel
theorem dX12_letter_51 : decode cX12_letter 51 = .ok (.imul, 1) := by decide +kernel
theorem dX12_letter_52 : decode cX12_letter 52 = .ok (.iload_n 2, 1) := by decide +kernel
theorem dX12_letter_53 : decode cX12_letter 53 = .ok (.iadd, 1) := by decide +kernel
theorem dX12_letter_54 : decode cX12_letter 54 = .ok (.iload_n 3, 1) := by decide +kernel
theorem dX12_letter_55 : decode cX12_letter 55 = .ok (.iastore, 1) := by decide +kernel
theorem dX12_letter_56 : decode cX12_letter 56 = .ok (.iload 4, 2) := by decide +kernel
theorem dX12_letter_58 : decode cX12_letter 58 = .ok (.ireturn, 1) := by decide +kernel
theorem dX12_say_0 : decode cX12_say 0 = .ok (.iload_n 1, 1) := by decide +kernel
theorem dX12_say_1 : decode cX12_say 1 = .ok (.invokestatic 125, 3) := by decide +kernel
theorem dX12_say_4 : decode cX12_say 4 = .ok (.ifCond .ne 5, 3) := by decide +kernel
theorem dX12_say_7 : decode cX12_say 7 = .ok (.iconst (-1), 1) := by decide +kernel
theorem dX12_say_8 : decode cX12_say 8 = .ok (.ireturn, 1) := by decide +kernel
theorem dX12_say_9 : decode cX12_say 9 = .ok (.aload_n 0, 1) := by decide +kernel
theorem dX12_say_10 : decode cX12_say 10 = .ok (.getfield 130, 3) := by decide +kernel
theorem dX12_say_13 : decode cX12_say 13 = .ok (.bipush 10, 2) := by decide +kernel
theorem dX12_say_15 : decode cX12_say 15 = .ok (.if_icmp .ne 6, 3) := by decide +kernel
theorem dX12_say_18 : decode cX12_say 18 = .ok (.bipush (-4), 2) := by decide +kernel
theorem dX12_say_20 : decode cX12_say 20 = .ok (.ireturn, 1) := by decide +kernel
theorem dX12_say_21 : decode cX12_say 21 = .ok (.aload_n 0, 1) := by decide +kernel
theorem dX12_say_22 : decode cX12_say 22 = .ok (.getfield 28, 3) := by decide +kernel
theorem dX12_say_25 : decode cX12_say 25 = .ok (.aload_n 0, 1) := by decide +kernel
theorem dX12_say_26 : decode cX12_say 26 = .ok (.getfield 130, 3) := by decide +kernel
theorem dX12_say_29 : decode cX12_say 29 = .ok (.iload_n 1, 1) := by decide +kernel
theorem dX12_say_30 : decode cX12_say 30 = .ok (.iastore, 1) := by decide +kernel
theorem dX12_say_31 : decode cX12_say 31 = .ok (.aload_n 0, 1) := by decide +kernel
theorem dX12_say_32 : decode cX12_say 32 = .ok (.dup, 1) := by decide +kernel
theorem dX12_say_33 : decode cX12_say 33 = .ok (.getfield 130, 3) := by decide +kernel
theorem dX12_say_36 : decode cX12_say 36 = .ok (.iconst 1, 1) := by decide +kernel
theorem dX12_say_37 : decode cX12_say 37 = .ok (.iadd, 1) := by decide +kernel
theorem dX12_say_38 : decode cX12_say 38 = .ok (.putfield 130, 3) := by decide +kernel
theorem dX12_say_41 : decode cX12_say 41 = .ok (.aload_n 0, 1) := by decide +kernel
theorem dX12_say_42 : decode cX12_say 42 = .ok (.getfield 130, 3) := by decide +kernel
theorem dX12_say_45 : decode cX12_say 45 = .ok (.ireturn, 1) := by decide +kernel
theorem dX12_dot_0 : decode cX12_dot 0 = .ok (.iload_n 1, 1) := by decide +kernel
theorem dX12_dot_1 : decode cX12_dot 1 = .ok (.i2l, 1) := by decide +kernel
theorem dX12_dot_2 : decode cX12_dot 2 = .ok (.lconst 1, 1) := by decide +kernel
theorem dX12_dot_3 : decode cX12_dot 3 = .ok (.ldc2_w 128, 3) := by decide +kernel
theorem dX12_dot_6 : decode cX12_dot 6 = .ok (.invokestatic 115, 3) := by decide +kernel
theorem dX12_dot_9 : decode cX12_dot 9 = .ok (.ifCond .ne 6, 3) := by decide +kernel
theorem dX12_dot_12 : decode cX12_dot 12 = .ok (.bipush (-2), 2) := by decide +kernel
theorem dX12_dot_14 : decode cX12_dot 14 = .ok (.ireturn, 1) := by decide +kernel
theorem dX12_dot_15 : decode cX12_dot 15 = .ok (.aload_n 0, 1) := by decide +kernel
theorem dX12_dot_16 : decode cX12_dot 16 = .ok (.getfield 134, 3) := by decide +kernel
theorem dX12_dot_19 : decode cX12_dot 19 = .ok (.bipush 12, 2) := by decide +kernel
theorem dX12_dot_21 : decode cX12_dot 21 = .ok (.if_icmp .ne 6, 3) := by decide +kernel
theorem dX12_dot_24 : decode cX12_dot 24 = .ok (.bipush (-4), 2) := by decide +kernel
theorem dX12_dot_26 : decode cX12_dot 26 = .ok (.ireturn, 1) := by decide +kernel
theorem dX12_dot_27 : decode cX12_dot 27 = .ok (.aload_n 0, 1) := by decide +kernel
theorem dX12_dot_28 : decode cX12_dot 28 = .ok (.getfield 31, 3) := by decide +kernel
theorem dX12_dot_31 : decode cX12_dot 31 = .ok (.aload_n 0, 1) := by decide +kernel
theorem dX12_dot_32 : decode cX12_dot 32 = .ok (.getfield 134, 3) := by decide +kernel
theorem dX12_dot_35 : decode cX12_dot 35 = .ok (.iload_n 1, 1) := by decide +kernel
theorem dX12_dot_36 : decode cX12_dot 36 = .ok (.iastore, 1) := by decide +kernel
theorem dX12_dot_37 : decode cX12_dot 37 = .ok (.aload_n 0, 1) := by decide +kernel
theorem dX12_dot_38 : decode cX12_dot 38 = .ok (.dup, 1) := by decide +kernel
theorem dX12_dot_39 : decode cX12_dot 39 = .ok (.getfield 134, 3) := by decide +kernel
theorem dX12_dot_42 : decode cX12_dot 42 = .ok (.iconst 1, 1) := by decide +kernel
theorem dX12_dot_43 : decode cX12_dot 43 = .ok (.iadd, 1) := by decide +kernel
theorem dX12_dot_44 : decode cX12_dot 44 = .ok (.putfield 134, 3) := by decide +kernel
theorem dX12_dot_47 : decode cX12_dot 47 = .ok (.aload_n 0, 1) := by decide +kernel
theorem dX12_dot_48 : decode cX12_dot 48 = .ok (.getfield 134, 3) := by decide +kernel
theorem dX12_dot_51 : decode cX12_dot 51 = .ok (.ireturn, 1) := by decide +kernel
theorem dX12_wipe_0 : decode cX12_wipe 0 = .ok (.iload_n 1, 1) := by decide +kernel
theorem dX12_wipe_1 : decode cX12_wipe 1 = .ok (.ifCond .ne 10, 3) := by decide +kernel
theorem dX12_wipe_4 : decode cX12_wipe 4 = .ok (.aload_n 0, 1) := by decide +kernel
theorem dX12_wipe_5 : decode cX12_wipe 5 = .ok (.getfield 130, 3) := by decide +kernel
theorem dX12_wipe_8 : decode cX12_wipe 8 = .ok (.goto 29, 3) := by decide +kernel
theorem dX12_wipe_11 : decode cX12_wipe 11 = .ok (.iload_n 1, 1) := by decide +kernel
theorem dX12_wipe_12 : decode cX12_wipe 12 = .ok (.iconst 1, 1) := by decide +kernel
theorem dX12_wipe_13 : decode cX12_wipe 13 = .ok (.if_icmp .ne 10, 3) := by decide +kernel
theorem dX12_wipe_16 : decode cX12_wipe 16 = .ok (.aload_n 0, 1) := by decide +kernel
theorem dX12_wipe_17 : decode cX12_wipe 17 = .ok (.getfield 134, 3) := by decide +kernel
theorem dX12_wipe_20 : decode cX12_wipe 20 = .ok (.goto 17, 3) := by decide +kernel
theorem dX12_wipe_23 : decode cX12_wipe 23 = .ok (.iload_n 1, 1) := by decide +kernel
theorem dX12_wipe_24 : decode cX12_wipe 24 = .ok (.iconst 2, 1) := by decide +kernel
theorem dX12_wipe_25 : decode cX12_wipe 25 = .ok (.if_icmp .ne 10, 3) := by decide +kernel
theorem dX12_wipe_28 : decode cX12_wipe 28 = .ok (.aload_n 0, 1) := by decide +kernel
theorem dX12_wipe_29 : decode cX12_wipe 29 = .ok (.getfield 137, 3) := by decide +kernel
theorem dX12_wipe_32 : decode cX12_wipe 32 = .ok (.goto 5, 3) := by decide +kernel
theorem dX12_wipe_35 : decode cX12_wipe 35 = .ok (.bipush (-2), 2) := by decide +kernel
theorem dX12_wipe_37 : decode cX12_wipe 37 = .ok (.istore_n 2, 1) := by decide +kernel
theorem dX12_wipe_38 : decode cX12_wipe 38 = .ok (.iload_n 1, 1) := by decide +kernel
theorem dX12_wipe_39 : decode cX12_wipe 39 = .ok (.ifCond .ne 11, 3) := by decide +kernel
theorem dX12_wipe_42 : decode cX12_wipe 42 = .ok (.aload_n 0, 1) := by decide +kernel
theorem dX12_wipe_43 : decode cX12_wipe 43 = .ok (.iconst 0, 1) := by decide +kernel
theorem dX12_wipe_44 : decode cX12_wipe 44 = .ok (.putfield 130, 3) := by decide +kernel
theorem dX12_wipe_47 : decode cX12_wipe 47 = .ok (.goto 26, 3) := by decide +kernel
theorem dX12_wipe_50 : decode cX12_wipe 50 = .ok (.iload_n 1, 1) := by decide +kernel
theorem dX12_wipe_51 : decode cX12_wipe 51 = .ok (.iconst 1, 1) := by decide +kernel
theorem dX12_wipe_52 : decode cX12_wipe 52 = .ok (.if_icmp .ne 11, 3) := by decide +kernel
theorem dX12_wipe_55 : decode cX12_wipe 55 = .ok (.aload_n 0, 1) := by decide +kernel
theorem dX12_wipe_56 : decode cX12_wipe 56 = .ok (.iconst 0, 1) := by decide +kernel
theorem dX12_wipe_57 : decode cX12_wipe 57 = .ok (.putfield 134, 3) := by decide +kernel
theorem dX12_wipe_60 : decode cX12_wipe 60 = .ok (.goto 13, 3) := by decide +kernel
theorem dX12_wipe_63 : decode cX12_wipe 63 = .ok (.iload_n 1, 1) := by decide +kernel
theorem dX12_wipe_64 : decode cX12_wipe 64 = .ok (.iconst 2, 1) := by decide +kernel
theorem dX12_wipe_65 : decode cX12_wipe 65 = .ok (.if_icmp .ne 8, 3) := by decide +kernel
theorem dX12_wipe_68 : decode cX12_wipe 68 = .ok (.aload_n 0, 1) := by decide +kernel
theorem dX12_wipe_69 : decode cX12_wipe 69 = .ok (.iconst 0, 1) := by decide +kernel
theorem dX12_wipe_70 : decode cX12_wipe 70 = .ok (.putfield 137, 3) := by decide +kernel
theorem dX12_wipe_73 : decode cX12_wipe 73 = .ok (.iload_n 2, 1) := by decide +kernel
theorem dX12_wipe_74 : decode cX12_wipe 74 = .ok (.ireturn, 1) := by decide +kernel
theorem dX12_abbreviate_0 : decode cX12_abbreviate 0 = .ok (.iload_n 1, 1) := by decide +kernel
theorem dX12_abbreviate_1 : decode cX12_abbreviate 1 = .ok (.invokestatic 121, 3) := by decide +kernel
theorem dX12_abbreviate_4 : decode cX12_abbreviate 4 = .ok (.ifCond .ne 5, 3) := by decide +kernel
theorem dX12_abbreviate_7 : decode cX12_abbreviate 7 = .ok (.iconst (-1), 1) := by decide +kernel
theorem dX12_abbreviate_8 : decode cX12_abbreviate 8 = .ok (.ireturn, 1) := by decide +kernel
theorem dX12_abbreviate_9 : decode cX12_abbreviate 9 = .ok (.aload_n 0, 1) := by decide +kernel
theorem dX12_abbreviate_10 : decode cX12_abbreviate 10 = .ok (.getfield 25, 3) := by decide +kernel
theorem dX12_abbreviate_13 : decode cX12_abbreviate 13 = .ok (.iload_n 1, 1) := by decide +kernel
theorem dX12_abbreviate_14 : decode cX12_abbreviate 14 = .ok (.iaload, 1) := by decide +kernel
theorem dX12_abbreviate_15 : decode cX12_abbreviate 15 = .ok (.bipush 12, 2) := by decide +kernel
theorem dX12_abbreviate_17 : decode cX12_abbreviate 17 = .ok (.if_icmp .ne 6, 3) := by decide +kernel
theorem dX12_abbreviate_20 : decode cX12_abbreviate 20 = .ok (.bipush (-4), 2) := by decide +kernel
theorem dX12_abbreviate_22 : decode cX12_abbreviate 22 = .ok (.ireturn, 1) := by decide +kernel
theorem dX12_abbreviate_23 : decode cX12_abbreviate 23 = .ok (.aload_n 0, 1) := by decide +kernel
theorem dX12_abbreviate_24 : decode cX12_abbreviate 24 = .ok (.getfield 130, 3) := by decide +kernel
theorem dX12_abbreviate_27 : decode cX12_abbreviate 27 = .ok (.i2l, 1) := by decide +kernel
theorem dX12_abbreviate_28 : decode cX12_abbreviate 28 = .ok (.ldc2_w 140, 3) := by decide +kernel
theorem dX12_abbreviate_31 : decode cX12_abbreviate 31 = .ok (.ldc2_w 113, 3) := by decide +kernel
theorem dX12_abbreviate_34 : decode cX12_abbreviate 34 = .ok (.invokestatic 115, 3) := by decide +kernel
theorem dX12_abbreviate_37 : decode cX12_abbreviate 37 = .ok (.ifCond .eq 18, 3) := by decide +kernel
theorem dX12_abbreviate_40 : decode cX12_abbreviate 40 = .ok (.aload_n 0, 1) := by decide +kernel
theorem dX12_abbreviate_41 : decode cX12_abbreviate 41 = .ok (.getfield 134, 3) := by decide +kernel
theorem dX12_abbreviate_44 : decode cX12_abbreviate 44 = .ok (.i2l, 1) := by decide +kernel
theorem dX12_abbreviate_45 : decode cX12_abbreviate 45 = .ok (.lconst 1, 1) := by decide +kernel
theorem dX12_abbreviate_46 : decode cX12_abbreviate 46 = .ok (.ldc2_w 140, 3) := by decide +kernel
theorem dX12_abbreviate_49 : decode cX12_abbreviate 49 = .ok (.invokestatic 115, 3) := by decide +kernel
theorem dX12_abbreviate_52 : decode cX12_abbreviate 52 = .ok (.ifCond .ne 6, 3) := by decide +kernel
theorem dX12_abbreviate_55 : decode cX12_abbreviate 55 = .ok (.bipush (-5), 2) := by decide +kernel
theorem dX12_abbreviate_57 : decode cX12_abbreviate 57 = .ok (.ireturn, 1) := by decide +kernel
theorem dX12_abbreviate_58 : decode cX12_abbreviate 58 = .ok (.bipush 12, 2) := by decide +kernel
theorem dX12_abbreviate_60 : decode cX12_abbreviate 60 = .ok (.iload_n 1, 1) := by decide +kernel
theorem dX12_abbreviate_61 : decode cX12_abbreviate 61 = .ok (.imul, 1) := by decide +kernel
theorem dX12_abbreviate_62 : decode cX12_abbreviate 62 = .ok (.aload_n 0, 1) := by decide +kernel
theorem dX12_abbreviate_63 : decode cX12_abbreviate 63 = .ok (.getfield 25, 3) := by decide +kernel
theorem dX12_abbreviate_66 : decode cX12_abbreviate 66 = .ok (.iload_n 1, 1) := by decide +kernel
theorem dX12_abbreviate_67 : decode cX12_abbreviate 67 = .ok (.iaload, 1) := by decide +kernel
theorem dX12_abbreviate_68 : decode cX12_abbreviate 68 = .ok (.iadd, 1) := by decide +kernel
theorem dX12_abbreviate_69 : decode cX12_abbreviate 69 = .ok (.istore_n 2, 1) := by decide +kernel
theorem dX12_abbreviate_70 : decode cX12_abbreviate 70 = .ok (.iconst 0, 1) := by decide +kernel
theorem dX12_abbreviate_71 : decode cX12_abbreviate 71 = .ok (.istore_n 3, 1) := by decide +kernel
theorem dX12_abbreviate_72 : decode cX12_abbreviate 72 = .ok (.iload_n 3, 1) := by decide +kernel
theorem dX12_abbreviate_73 : decode cX12_abbreviate 73 = .ok (.aload_n 0, 1) := by decide +kernel
theorem dX12_abbreviate_74 : decode cX12_abbreviate 74 = .ok (.getfield 130, 3) := by decide +kernel
theorem dX12_abbreviate_77 : decode cX12_abbreviate 77 = .ok (.if_icmp .ge 25, 3) := by decide +kernel
theorem dX12_abbreviate_80 : decode cX12_abbreviate 80 = .ok (.aload_n 0, 1) := by decide +kernel
theorem dX12_abbreviate_81 : decode cX12_abbreviate 81 = .ok (.getfield 13, 3) := by decide +kernel
theorem dX12_abbreviate_84 : decode cX12_abbreviate 84 = .ok (.iconst 4, 1) := by decide +kernel
theorem dX12_abbreviate_85 : decode cX12_abbreviate 85 = .ok (.iload_n 2, 1) := by decide +kernel
theorem dX12_abbreviate_86 : decode cX12_abbreviate 86 = .ok (.imul, 1) := by decide +kernel
theorem dX12_abbreviate_87 : decode cX12_abbreviate 87 = .ok (.iload_n 3, 1) := by decide +kernel
theorem dX12_abbreviate_88 : decode cX12_abbreviate 88 = .ok (.iadd, 1) := by decide +kernel
theorem dX12_abbreviate_89 : decode cX12_abbreviate 89 = .ok (.aload_n 0, 1) := by decide +kernel
theorem dX12_abbreviate_90 : decode cX12_abbreviate 90 = .ok (.getfield 28, 3) := by decide +kernel
theorem dX12_abbreviate_93 : decode cX12_abbreviate 93 = .ok (.iload_n 3, 1) := by decide +kernel
theorem dX12_abbreviate_94 : decode cX12_abbreviate 94 = .ok (.iaload, 1) := by decide +kernel
theorem dX12_abbreviate_95 : decode cX12_abbreviate 95 = .ok (.iastore, 1) := by decide +kernel
theorem dX12_abbreviate_96 : decode cX12_abbreviate 96 = .ok (.iinc 3 1, 3) := by decide +kernel
theorem dX12_abbreviate_99 : decode cX12_abbreviate 99 = .ok (.goto (-27), 3) := by decide +kernel
theorem dX12_abbreviate_102 : decode cX12_abbreviate 102 = .ok (.iconst 0, 1) := by decide +kernel
theorem dX12_abbreviate_103 : decode cX12_abbreviate 103 = .ok (.istore_n 3, 1) := by decide +kernel
theorem dX12_abbreviate_104 : decode cX12_abbreviate 104 = .ok (.iload_n 3, 1) := by decide +kernel
theorem dX12_abbreviate_105 : decode cX12_abbreviate 105 = .ok (.aload_n 0, 1) := by decide +kernel
theorem dX12_abbreviate_106 : decode cX12_abbreviate 106 = .ok (.getfield 134, 3) := by decide +kernel
theorem dX12_abbreviate_109 : decode cX12_abbreviate 109 = .ok (.if_icmp .ge 25, 3) := by decide +kernel
theorem dX12_abbreviate_112 : decode cX12_abbreviate 112 = .ok (.aload_n 0, 1) := by decide +kernel
theorem dX12_abbreviate_113 : decode cX12_abbreviate 113 = .ok (.getfield 19, 3) := by decide +kernel
theorem dX12_abbreviate_116 : decode cX12_abbreviate 116 = .ok (.iconst 2, 1) := by decide +kernel
theorem dX12_abbreviate_117 : decode cX12_abbreviate 117 = .ok (.iload_n 2, 1) := by decide +kernel
theorem dX12_abbreviate_118 : decode cX12_abbreviate 118 = .ok (.imul, 1) := by decide +kernel
theorem dX12_abbreviate_119 : decode cX12_abbreviate 119 = .ok (.iload_n 3, 1) := by decide +kernel
theorem dX12_abbreviate_120 : decode cX12_abbreviate 120 = .ok (.iadd, 1) := by decide +kernel
theorem dX12_abbreviate_121 : decode cX12_abbreviate 121 = .ok (.aload_n 0, 1) := by decide +kernel
theorem dX12_abbreviate_122 : decode cX12_abbreviate 122 = .ok (.getfield 31, 3) := by decide +kernel
theorem dX12_abbreviate_125 : decode cX12_abbreviate 125 = .ok (.iload_n 3, 1) := by decide +kernel
theorem dX12_abbreviate_126 : decode cX12_abbreviate 126 = .ok (.iaload, 1) := by decide +kernel
theorem dX12_abbreviate_127 : decode cX12_abbreviate 127 = .ok (.iastore, 1) := by decide +kernel
theorem dX12_abbreviate_128 : decode cX12_abbreviate 128 = .ok (.iinc 3 1, 3) := by decide +kernel
theorem dX12_abbreviate_131 : decode cX12_abbreviate 131 = .ok (.goto (-27), 3) := by decide +kernel
theorem dX12_abbreviate_134 : decode cX12_abbreviate 134 = .ok (.aload_n 0, 1) := by decide +kernel
theorem dX12_abbreviate_135 : decode cX12_abbreviate 135 = .ok (.getfield 16, 3) := by decide +kernel
theorem dX12_abbreviate_138 : decode cX12_abbreviate 138 = .ok (.iload_n 2, 1) := by decide +kernel
theorem dX12_abbreviate_139 : decode cX12_abbreviate 139 = .ok (.aload_n 0, 1) := by decide +kernel
theorem dX12_abbreviate_140 : decode cX12_abbreviate 140 = .ok (.getfield 130, 3) := by decide +kernel
theorem dX12_abbreviate_143 : decode cX12_abbreviate 143 = .ok (.iastore, 1) := by decide +kernel
theorem dX12_abbreviate_144 : decode cX12_abbreviate 144 = .ok (.aload_n 0, 1) := by decide +kernel
theorem dX12_abbreviate_145 : decode cX12_abbreviate 145 = .ok (.getfield 22, 3) := by decide +kernel
theorem dX12_abbreviate_148 : decode cX12_abbreviate 148 = .ok (.iload_n 2, 1) := by decide +kernel
theorem dX12_abbreviate_149 : decode cX12_abbreviate 149 = .ok (.aload_n 0, 1) := by decide +kernel
theorem dX12_abbreviate_150 : decode cX12_abbreviate 150 = .ok (.getfield 134, 3) := by decide +kernel
theorem dX12_abbreviate_153 : decode cX12_abbreviate 153 = .ok (.iastore, 1) := by decide +kernel
theorem dX12_abbreviate_154 : decode cX12_abbreviate 154 = .ok (.aload_n 0, 1) := by decide +kernel
theorem dX12_abbreviate_155 : decode cX12_abbreviate 155 = .ok (.iconst 0, 1) := by decide +kernel
theorem dX12_abbreviate_156 : decode cX12_abbreviate 156 = .ok (.putfield 130, 3) := by decide +kernel
theorem dX12_abbreviate_159 : decode cX12_abbreviate 159 = .ok (.aload_n 0, 1) := by decide +kernel
theorem dX12_abbreviate_160 : decode cX12_abbreviate 160 = .ok (.iconst 0, 1) := by decide +kernel
theorem dX12_abbreviate_161 : decode cX12_abbreviate 161 = .ok (.putfield 134, 3) := by decide +kernel
theorem dX12_abbreviate_164 : decode cX12_abbreviate 164 = .ok (.aload_n 0, 1) := by decide +kernel
theorem dX12_abbreviate_165 : decode cX12_abbreviate 165 = .ok (.getfield 25, 3) := by decide +kernel
theorem dX12_abbreviate_168 : decode cX12_abbreviate 168 = .ok (.iload_n 1, 1) := by decide +kernel
theorem dX12_abbreviate_169 : decode cX12_abbreviate 169 = .ok (.dup2, 1) := by decide +kernel
theorem dX12_abbreviate_170 : decode cX12_abbreviate 170 = .ok (.iaload, 1) := by decide +kernel
theorem dX12_abbreviate_171 : decode cX12_abbreviate 171 = .ok (.iconst 1, 1) := by decide +kernel
theorem dX12_abbreviate_172 : decode cX12_abbreviate 172 = .ok (.iadd, 1) := by decide +kernel
theorem dX12_abbreviate_173 : decode cX12_abbreviate 173 = .ok (.iastore, 1) := by decide +kernel
theorem dX12_abbreviate_174 : decode cX12_abbreviate 174 = .ok (.aload_n 0, 1) := by decide +kernel
theorem dX12_abbreviate_175 : decode cX12_abbreviate 175 = .ok (.getfield 25, 3) := by decide +kernel
theorem dX12_abbreviate_178 : decode cX12_abbreviate 178 = .ok (.iload_n 1, 1) := by decide +kernel
theorem dX12_abbreviate_179 : decode cX12_abbreviate 179 = .ok (.iaload, 1) := by decide +kernel
theorem dX12_abbreviate_180 : decode cX12_abbreviate 180 = .ok (.iconst 1, 1) := by decide +kernel
theorem dX12_abbreviate_181 : decode cX12_abbreviate 181 = .ok (.isub, 1) := by decide +kernel
theorem dX12_abbreviate_182 : decode cX12_abbreviate 182 = .ok (.ireturn, 1) := by decide +kernel
theorem dX12_longOf_0 : decode cX12_longOf 0 = .ok (.iload_n 2, 1) := by decide +kernel
theorem dX12_longOf_1 : decode cX12_longOf 1 = .ok (.bipush 12, 2) := by decide +kernel
theorem dX12_longOf_3 : decode cX12_longOf 3 = .ok (.if_icmp .ge 17, 3) := by decide +kernel
theorem dX12_longOf_6 : decode cX12_longOf 6 = .ok (.aload_n 0, 1) := by decide +kernel
theorem dX12_longOf_7 : decode cX12_longOf 7 = .ok (.getfield 16, 3) := by decide +kernel
theorem dX12_longOf_10 : decode cX12_longOf 10 = .ok (.bipush 12, 2) := by decide +kernel
theorem dX12_longOf_12 : decode cX12_longOf 12 = .ok (.iload_n 1, 1) := by decide +kernel
theorem dX12_longOf_13 : decode cX12_longOf 13 = .ok (.imul, 1) := by decide +kernel
theorem dX12_longOf_14 : decode cX12_longOf 14 = .ok (.iload_n 2, 1) := by decide +kernel
theorem dX12_longOf_15 : decode cX12_longOf 15 = .ok (.iadd, 1) := by decide +kernel
theorem dX12_longOf_16 : decode cX12_longOf 16 = .ok (.iaload, 1) := by decide +kernel
theorem dX12_longOf_17 : decode cX12_longOf 17 = .ok (.goto 4, 3) := by decide +kernel
theorem dX12_longOf_20 : decode cX12_longOf 20 = .ok (.iconst 1, 1) := by decide +kernel
theorem dX12_longOf_21 : decode cX12_longOf 21 = .ok (.ireturn, 1) := by decide +kernel
theorem dX12_wideOf_0 : decode cX12_wideOf 0 = .ok (.iload_n 2, 1) := by decide +kernel
theorem dX12_wideOf_1 : decode cX12_wideOf 1 = .ok (.bipush 12, 2) := by decide +kernel
theorem dX12_wideOf_3 : decode cX12_wideOf 3 = .ok (.if_icmp .ge 17, 3) := by decide +kernel
theorem dX12_wideOf_6 : decode cX12_wideOf 6 = .ok (.aload_n 0, 1) := by decide +kernel
theorem dX12_wideOf_7 : decode cX12_wideOf 7 = .ok (.getfield 22, 3) := by decide +kernel
theorem dX12_wideOf_10 : decode cX12_wideOf 10 = .ok (.bipush 12, 2) := by decide +kernel
theorem dX12_wideOf_12 : decode cX12_wideOf 12 = .ok (.iload_n 1, 1) := by decide +kernel
theorem dX12_wideOf_13 : decode cX12_wideOf 13 = .ok (.imul, 1) := by decide +kernel
theorem dX12_wideOf_14 : decode cX12_wideOf 14 = .ok (.iload_n 2, 1) := by decide +kernel
theorem dX12_wideOf_15 : decode cX12_wideOf 15 = .ok (.iadd, 1) := by decide +kernel
theorem dX12_wideOf_16 : decode cX12_wideOf 16 = .ok (.iaload, 1) := by decide +kernel
theorem dX12_wideOf_17 : decode cX12_wideOf 17 = .ok (.goto 4, 3) := by decide +kernel
theorem dX12_wideOf_20 : decode cX12_wideOf 20 = .ok (.iconst 1, 1) := by decide +kernel
theorem dX12_wideOf_21 : decode cX12_wideOf 21 = .ok (.ireturn, 1) := by decide +kernel
theorem dX12_letterAt_0 : decode cX12_letterAt 0 = .ok (.iload_n 2, 1) := by decide +kernel
theorem dX12_letterAt_1 : decode cX12_letterAt 1 = .ok (.bipush 12, 2) := by decide +kernel
theorem dX12_letterAt_3 : decode cX12_letterAt 3 = .ok (.if_icmp .ge 21, 3) := by decide +kernel
theorem dX12_letterAt_6 : decode cX12_letterAt 6 = .ok (.aload_n 0, 1) := by decide +kernel
theorem dX12_letterAt_7 : decode cX12_letterAt 7 = .ok (.getfield 13, 3) := by decide +kernel
theorem dX12_letterAt_10 : decode cX12_letterAt 10 = .ok (.iconst 4, 1) := by decide +kernel
theorem dX12_letterAt_11 : decode cX12_letterAt 11 = .ok (.bipush 12, 2) := by decide +kernel
theorem dX12_letterAt_13 : decode cX12_letterAt 13 = .ok (.iload_n 1, 1) := by decide +kernel
theorem dX12_letterAt_14 : decode cX12_letterAt 14 = .ok (.imul, 1) := by decide +kernel
theorem dX12_letterAt_15 : decode cX12_letterAt 15 = .ok (.iload_n 2, 1) := by decide +kernel
theorem dX12_letterAt_16 : decode cX12_letterAt 16 = .ok (.iadd, 1) := by decide +kernel
theorem dX12_letterAt_17 : decode cX12_letterAt 17 = .ok (.imul, 1) := by decide +kernel
theorem dX12_letterAt_18 : decode cX12_letterAt 18 = .ok (.iload_n 3, 1) := by decide +kernel
theorem dX12_letterAt_19 : decode cX12_letterAt 19 = .ok (.iadd, 1) := by decide +kernel
theorem dX12_letterAt_20 : decode cX12_letterAt 20 = .ok (.iaload, 1) := by decide +kernel
theorem dX12_letterAt_21 : decode cX12_letterAt 21 = .ok (.goto 7, 3) := by decide +kernel
theorem dX12_letterAt_24 : decode cX12_letterAt 24 = .ok (.iload_n 2, 1) := by decide +kernel
theorem dX12_letterAt_25 : decode cX12_letterAt 25 = .ok (.bipush 12, 2) := by decide +kernel
theorem dX12_letterAt_27 : decode cX12_letterAt 27 = .ok (.isub, 1) := by decide +kernel
theorem dX12_letterAt_28 : decode cX12_letterAt 28 = .ok (.ireturn, 1) := by decide +kernel
theorem dX12_cellAt_0 : decode cX12_cellAt 0 = .ok (.iload_n 2, 1) := by decide +kernel
theorem dX12_cellAt_1 : decode cX12_cellAt 1 = .ok (.bipush 12, 2) := by decide +kernel
theorem dX12_cellAt_3 : decode cX12_cellAt 3 = .ok (.if_icmp .ge 21, 3) := by decide +kernel
theorem dX12_cellAt_6 : decode cX12_cellAt 6 = .ok (.aload_n 0, 1) := by decide +kernel
theorem dX12_cellAt_7 : decode cX12_cellAt 7 = .ok (.getfield 19, 3) := by decide +kernel
theorem dX12_cellAt_10 : decode cX12_cellAt 10 = .ok (.iconst 2, 1) := by decide +kernel
theorem dX12_cellAt_11 : decode cX12_cellAt 11 = .ok (.bipush 12, 2) := by decide +kernel
theorem dX12_cellAt_13 : decode cX12_cellAt 13 = .ok (.iload_n 1, 1) := by decide +kernel
theorem dX12_cellAt_14 : decode cX12_cellAt 14 = .ok (.imul, 1) := by decide +kernel
theorem dX12_cellAt_15 : decode cX12_cellAt 15 = .ok (.iload_n 2, 1) := by decide +kernel
theorem dX12_cellAt_16 : decode cX12_cellAt 16 = .ok (.iadd, 1) := by decide +kernel
theorem dX12_cellAt_17 : decode cX12_cellAt 17 = .ok (.imul, 1) := by decide +kernel
theorem dX12_cellAt_18 : decode cX12_cellAt 18 = .ok (.iload_n 3, 1) := by decide +kernel
theorem dX12_cellAt_19 : decode cX12_cellAt 19 = .ok (.iadd, 1) := by decide +kernel
theorem dX12_cellAt_20 : decode cX12_cellAt 20 = .ok (.iaload, 1) := by decide +kernel
theorem dX12_cellAt_21 : decode cX12_cellAt 21 = .ok (.goto 17, 3) := by decide +kernel
theorem dX12_cellAt_24 : decode cX12_cellAt 24 = .ok (.aload_n 0, 1) := by decide +kernel
theorem dX12_cellAt_25 : decode cX12_cellAt 25 = .ok (.getfield 7, 3) := by decide +kernel
theorem dX12_cellAt_28 : decode cX12_cellAt 28 = .ok (.bipush 26, 2) := by decide +kernel
theorem dX12_cellAt_30 : decode cX12_cellAt 30 = .ok (.iload_n 1, 1) := by decide +kernel
theorem dX12_cellAt_31 : decode cX12_cellAt 31 = .ok (.imul, 1) := by decide +kernel
theorem dX12_cellAt_32 : decode cX12_cellAt 32 = .ok (.iload_n 2, 1) := by decide +kernel
theorem dX12_cellAt_33 : decode cX12_cellAt 33 = .ok (.iadd, 1) := by decide +kernel
theorem dX12_cellAt_34 : decode cX12_cellAt 34 = .ok (.bipush 12, 2) := by decide +kernel
theorem dX12_cellAt_36 : decode cX12_cellAt 36 = .ok (.isub, 1) := by decide +kernel
theorem dX12_cellAt_37 : decode cX12_cellAt 37 = .ok (.iaload, 1) := by decide +kernel
theorem dX12_cellAt_38 : decode cX12_cellAt 38 = .ok (.ireturn, 1) := by decide +kernel
theorem dX12_isItem_0 : decode cX12_isItem 0 = .ok (.iload_n 2, 1) := by decide +kernel
theorem dX12_isItem_1 : decode cX12_isItem 1 = .ok (.bipush 12, 2) := by decide +kernel
theorem dX12_isItem_3 : decode cX12_isItem 3 = .ok (.if_icmp .ge 21, 3) := by decide +kernel
theorem dX12_isItem_6 : decode cX12_isItem 6 = .ok (.iload_n 2, 1) := by decide +kernel
theorem dX12_isItem_7 : decode cX12_isItem 7 = .ok (.aload_n 0, 1) := by decide +kernel
theorem dX12_isItem_8 : decode cX12_isItem 8 = .ok (.getfield 25, 3) := by decide +kernel
theorem dX12_isItem_11 : decode cX12_isItem 11 = .ok (.iload_n 1, 1) := by decide +kernel
theorem dX12_isItem_12 : decode cX12_isItem 12 = .ok (.iaload, 1) := by decide +kernel
theorem dX12_isItem_13 : decode cX12_isItem 13 = .ok (.if_icmp .ge 7, 3) := by decide +kernel
theorem dX12_isItem_16 : decode cX12_isItem 16 = .ok (.iconst 1, 1) := by decide +kernel
theorem dX12_isItem_17 : decode cX12_isItem 17 = .ok (.goto 29, 3) := by decide +kernel
theorem dX12_isItem_20 : decode cX12_isItem 20 = .ok (.iconst 0, 1) := by decide +kernel
theorem dX12_isItem_21 : decode cX12_isItem 21 = .ok (.goto 25, 3) := by decide +kernel
theorem dX12_isItem_24 : decode cX12_isItem 24 = .ok (.aload_n 0, 1) := by decide +kernel
theorem dX12_isItem_25 : decode cX12_isItem 25 = .ok (.getfield 7, 3) := by decide +kernel
theorem dX12_isItem_28 : decode cX12_isItem 28 = .ok (.bipush 26, 2) := by decide +kernel
theorem dX12_isItem_30 : decode cX12_isItem 30 = .ok (.iload_n 1, 1) := by decide +kernel
theorem dX12_isItem_31 : decode cX12_isItem 31 = .ok (.imul, 1) := by decide +kernel
theorem dX12_isItem_32 : decode cX12_isItem 32 = .ok (.iload_n 2, 1) := by decide +kernel
theorem dX12_isItem_33 : decode cX12_isItem 33 = .ok (.iadd, 1) := by decide +kernel
theorem dX12_isItem_34 : decode cX12_isItem 34 = .ok (.bipush 12, 2) := by decide +kernel
theorem dX12_isItem_36 : decode cX12_isItem 36 = .ok (.isub, 1) := by decide +kernel
theorem dX12_isItem_37 : decode cX12_isItem 37 = .ok (.iaload, 1) := by decide +kernel
theorem dX12_isItem_38 : decode cX12_isItem 38 = .ok (.ifCond .le 7, 3) := by decide +kernel
theorem dX12_isItem_41 : decode cX12_isItem 41 = .ok (.iconst 1, 1) := by decide +kernel
theorem dX12_isItem_42 : decode cX12_isItem 42 = .ok (.goto 4, 3) := by decide +kernel
theorem dX12_isItem_45 : decode cX12_isItem 45 = .ok (.iconst 0, 1) := by decide +kernel
theorem dX12_isItem_46 : decode cX12_isItem 46 = .ok (.ireturn, 1) := by decide +kernel
theorem dX12_pointsOf_0 : decode cX12_pointsOf 0 = .ok (.iconst 0, 1) := by decide +kernel
theorem dX12_pointsOf_1 : decode cX12_pointsOf 1 = .ok (.istore_n 3, 1) := by decide +kernel
theorem dX12_pointsOf_2 : decode cX12_pointsOf 2 = .ok (.iconst 0, 1) := by decide +kernel
theorem dX12_pointsOf_3 : decode cX12_pointsOf 3 = .ok (.istore 4, 2) := by decide +kernel
theorem dX12_pointsOf_5 : decode cX12_pointsOf 5 = .ok (.iload 4, 2) := by decide +kernel
theorem dX12_pointsOf_7 : decode cX12_pointsOf 7 = .ok (.aload_n 0, 1) := by decide +kernel
theorem dX12_pointsOf_8 : decode cX12_pointsOf 8 = .ok (.iload_n 1, 1) := by decide +kernel
theorem dX12_pointsOf_9 : decode cX12_pointsOf 9 = .ok (.iload_n 2, 1) := by decide +kernel
theorem dX12_pointsOf_10 : decode cX12_pointsOf 10 = .ok (.invokevirtual 142, 3) := by decide +kernel
theorem dX12_pointsOf_13 : decode cX12_pointsOf 13 = .ok (.if_icmp .ge 23, 3) := by decide +kernel
theorem dX12_pointsOf_16 : decode cX12_pointsOf 16 = .ok (.iload_n 3, 1) := by decide +kernel
theorem dX12_pointsOf_17 : decode cX12_pointsOf 17 = .ok (.aload_n 0, 1) := by decide +kernel
theorem dX12_pointsOf_18 : decode cX12_pointsOf 18 = .ok (.iload_n 1, 1) := by decide +kernel
theorem dX12_pointsOf_19 : decode cX12_pointsOf 19 = .ok (.iload_n 2, 1) := by decide +kernel
theorem dX12_pointsOf_20 : decode cX12_pointsOf 20 = .ok (.iload 4, 2) := by decide +kernel
theorem dX12_pointsOf_22 : decode cX12_pointsOf 22 = .ok (.invokevirtual 146, 3) := by decide +kernel
theorem dX12_pointsOf_25 : decode cX12_pointsOf 25 = .ok (.invokestatic 150, 3) := by decide +kernel
theorem dX12_pointsOf_28 : decode cX12_pointsOf 28 = .ok (.iadd, 1) := by decide +kernel
theorem dX12_pointsOf_29 : decode cX12_pointsOf 29 = .ok (.istore_n 3, 1) := by decide +kernel
theorem dX12_pointsOf_30 : decode cX12_pointsOf 30 = .ok (.iinc 4 1, 3) := by decide +kernel
theorem dX12_pointsOf_33 : decode cX12_pointsOf 33 = .ok (.goto (-28), 3) := by decide +kernel
theorem dX12_pointsOf_36 : decode cX12_pointsOf 36 = .ok (.iload_n 3, 1) := by decide +kernel
theorem dX12_pointsOf_37 : decode cX12_pointsOf 37 = .ok (.ireturn, 1) := by decide +kernel
theorem dX12_fits_0 : decode cX12_fits 0 = .ok (.aload_n 0, 1) := by decide +kernel
theorem dX12_fits_1 : decode cX12_fits 1 = .ok (.iload_n 1, 1) := by decide +kernel
theorem dX12_fits_2 : decode cX12_fits 2 = .ok (.iload_n 2, 1) := by decide +kernel
theorem dX12_fits_3 : decode cX12_fits 3 = .ok (.invokevirtual 154, 3) := by decide +kernel
theorem dX12_fits_6 : decode cX12_fits 6 = .ok (.ifCond .eq 22, 3) := by decide +kernel
theorem dX12_fits_9 : decode cX12_fits 9 = .ok (.iload_n 3, 1) := by decide +kernel
theorem dX12_fits_10 : decode cX12_fits 10 = .ok (.aload_n 0, 1) := by decide +kernel
theorem dX12_fits_11 : decode cX12_fits 11 = .ok (.iload_n 1, 1) := by decide +kernel
theorem dX12_fits_12 : decode cX12_fits 12 = .ok (.iload_n 2, 1) := by decide +kernel
theorem dX12_fits_13 : decode cX12_fits 13 = .ok (.invokevirtual 158, 3) := by decide +kernel
theorem dX12_fits_16 : decode cX12_fits 16 = .ok (.iadd, 1) := by decide +kernel
theorem dX12_fits_17 : decode cX12_fits 17 = .ok (.aload_n 0, 1) := by decide +kernel
theorem dX12_fits_18 : decode cX12_fits 18 = .ok (.getfield 161, 3) := by decide +kernel
theorem dX12_fits_21 : decode cX12_fits 21 = .ok (.if_icmp .gt 7, 3) := by decide +kernel
theorem dX12_fits_24 : decode cX12_fits 24 = .ok (.iconst 1, 1) := by decide +kernel
theorem dX12_fits_25 : decode cX12_fits 25 = .ok (.goto 4, 3) := by decide +kernel
theorem dX12_fits_28 : decode cX12_fits 28 = .ok (.iconst 0, 1) := by decide +kernel
theorem dX12_fits_29 : decode cX12_fits 29 = .ok (.istore 4, 2) := by decide +kernel
theorem dX12_fits_31 : decode cX12_fits 31 = .ok (.iconst 0, 1) := by decide +kernel
theorem dX12_fits_32 : decode cX12_fits 32 = .ok (.istore 5, 2) := by decide +kernel
theorem dX12_fits_34 : decode cX12_fits 34 = .ok (.iload 4, 2) := by decide +kernel
theorem dX12_fits_36 : decode cX12_fits 36 = .ok (.ifCond .eq 47, 3) := by decide +kernel
theorem dX12_fits_39 : decode cX12_fits 39 = .ok (.iload 5, 2) := by decide +kernel
theorem dX12_fits_41 : decode cX12_fits 41 = .ok (.aload_n 0, 1) := by decide +kernel
theorem dX12_fits_42 : decode cX12_fits 42 = .ok (.iload_n 1, 1) := by decide +kernel
theorem dX12_fits_43 : decode cX12_fits 43 = .ok (.iload_n 2, 1) := by decide +kernel
theorem dX12_fits_44 : decode cX12_fits 44 = .ok (.invokevirtual 158, 3) := by decide +kernel
theorem dX12_fits_47 : decode cX12_fits 47 = .ok (.if_icmp .ge 36, 3) := by decide +kernel
theorem dX12_fits_50 : decode cX12_fits 50 = .ok (.aload_n 0, 1) := by decide +kernel
theorem dX12_fits_51 : decode cX12_fits 51 = .ok (.iload_n 1, 1) := by decide +kernel
theorem dX12_fits_52 : decode cX12_fits 52 = .ok (.iload_n 2, 1) := by decide +kernel
theorem dX12_fits_53 : decode cX12_fits 53 = .ok (.iload 5, 2) := by decide +kernel
theorem dX12_fits_55 : decode cX12_fits 55 = .ok (.invokevirtual 164, 3) := by decide +kernel
theorem dX12_fits_58 : decode cX12_fits 58 = .ok (.aload_n 0, 1) := by decide +kernel
theorem dX12_fits_59 : decode cX12_fits 59 = .ok (.getfield 34, 3) := by decide +kernel
theorem dX12_fits_62 : decode cX12_fits 62 = .ok (.iload_n 3, 1) := by decide +kernel
theorem dX12_fits_63 : decode cX12_fits 63 = .ok (.iload 5, 2) := by decide +kernel
theorem dX12_fits_65 : decode cX12_fits 65 = .ok (.iadd, 1) := by decide +kernel
theorem dX12_fits_66 : decode cX12_fits 66 = .ok (.iaload, 1) := by decide +kernel
theorem dX12_fits_67 : decode cX12_fits 67 = .ok (.if_icmp .ne 7, 3) := by decide +kernel
theorem dX12_fits_70 : decode cX12_fits 70 = .ok (.iconst 1, 1) := by decide +kernel
theorem dX12_fits_71 : decode cX12_fits 71 = .ok (.goto 4, 3) := by decide +kernel
theorem dX12_fits_74 : decode cX12_fits 74 = .ok (.iconst 0, 1) := by decide +kernel
theorem dX12_fits_75 : decode cX12_fits 75 = .ok (.istore 4, 2) := by decide +kernel
theorem dX12_fits_77 : decode cX12_fits 77 = .ok (.iinc 5 1, 3) := by decide +kernel
theorem dX12_fits_80 : decode cX12_fits 80 = .ok (.goto (-46), 3) := by decide +kernel
theorem dX12_fits_83 : decode cX12_fits 83 = .ok (.iload 4, 2) := by decide +kernel
theorem dX12_fits_85 : decode cX12_fits 85 = .ok (.ireturn, 1) := by decide +kernel
theorem dX12_byItem_0 : decode cX12_byItem 0 = .ok (.aload_n 0, 1) := by decide +kernel
theorem dX12_byItem_1 : decode cX12_byItem 1 = .ok (.getfield 37, 3) := by decide +kernel
theorem dX12_byItem_4 : decode cX12_byItem 4 = .ok (.iload_n 3, 1) := by decide +kernel
theorem dX12_byItem_5 : decode cX12_byItem 5 = .ok (.aload_n 0, 1) := by decide +kernel
theorem dX12_byItem_6 : decode cX12_byItem 6 = .ok (.iload_n 1, 1) := by decide +kernel
theorem dX12_byItem_7 : decode cX12_byItem 7 = .ok (.iload_n 2, 1) := by decide +kernel
theorem dX12_byItem_8 : decode cX12_byItem 8 = .ok (.invokevirtual 158, 3) := by decide +kernel
theorem dX12_byItem_11 : decode cX12_byItem 11 = .ok (.iadd, 1) := by decide +kernel
theorem dX12_byItem_12 : decode cX12_byItem 12 = .ok (.iaload, 1) := by decide +kernel
theorem dX12_byItem_13 : decode cX12_byItem 13 = .ok (.istore 4, 2) := by decide +kernel
theorem dX12_byItem_15 : decode cX12_byItem 15 = .ok (.iload 4, 2) := by decide +kernel
theorem dX12_byItem_17 : decode cX12_byItem 17 = .ok (.ldc 167, 2) := by decide +kernel
theorem dX12_byItem_19 : decode cX12_byItem 19 = .ok (.if_icmp .ne 8, 3) := by decide +kernel
theorem dX12_byItem_22 : decode cX12_byItem 22 = .ok (.ldc 167, 2) := by decide +kernel
theorem dX12_byItem_24 : decode cX12_byItem 24 = .ok (.goto 23, 3) := by decide +kernel
theorem dX12_byItem_27 : decode cX12_byItem 27 = .ok (.iload 4, 2) := by decide +kernel
theorem dX12_byItem_29 : decode cX12_byItem 29 = .ok (.sipush 1000, 3) := by decide +kernel
theorem dX12_byItem_32 : decode cX12_byItem 32 = .ok (.aload_n 0, 1) := by decide +kernel
theorem dX12_byItem_33 : decode cX12_byItem 33 = .ok (.iload_n 1, 1) := by decide +kernel
theorem dX12_byItem_34 : decode cX12_byItem 34 = .ok (.iload_n 2, 1) := by decide +kernel
theorem dX12_byItem_35 : decode cX12_byItem 35 = .ok (.invokevirtual 142, 3) := by decide +kernel
theorem dX12_byItem_38 : decode cX12_byItem 38 = .ok (.imul, 1) := by decide +kernel
theorem dX12_byItem_39 : decode cX12_byItem 39 = .ok (.iadd, 1) := by decide +kernel
theorem dX12_byItem_40 : decode cX12_byItem 40 = .ok (.aload_n 0, 1) := by decide +kernel
theorem dX12_byItem_41 : decode cX12_byItem 41 = .ok (.iload_n 1, 1) := by decide +kernel
theorem dX12_byItem_42 : decode cX12_byItem 42 = .ok (.iload_n 2, 1) := by decide +kernel
theorem dX12_byItem_43 : decode cX12_byItem 43 = .ok (.invokevirtual 168, 3) := by decide +kernel
theorem dX12_byItem_46 : decode cX12_byItem 46 = .ok (.iadd, 1) := by decide +kernel
theorem dX12_byItem_47 : decode cX12_byItem 47 = .ok (.ireturn, 1) := by decide +kernel
theorem dX12_findWritten_0 : decode cX12_findWritten 0 = .ok (.aload_n 0, 1) := by decide +kernel
theorem dX12_findWritten_1 : decode cX12_findWritten 1 = .ok (.getfield 37, 3) := by decide +kernel
theorem dX12_findWritten_4 : decode cX12_findWritten 4 = .ok (.aload_n 0, 1) := by decide +kernel
theorem dX12_findWritten_5 : decode cX12_findWritten 5 = .ok (.getfield 161, 3) := by decide +kernel
theorem dX12_findWritten_8 : decode cX12_findWritten 8 = .ok (.iconst 0, 1) := by decide +kernel
theorem dX12_findWritten_9 : decode cX12_findWritten 9 = .ok (.iastore, 1) := by decide +kernel
theorem dX12_findWritten_10 : decode cX12_findWritten 10 = .ok (.aload_n 0, 1) := by decide +kernel
theorem dX12_findWritten_11 : decode cX12_findWritten 11 = .ok (.getfield 161, 3) := by decide +kernel
theorem dX12_findWritten_14 : decode cX12_findWritten 14 = .ok (.iconst 1, 1) := by decide +kernel
theorem dX12_findWritten_15 : decode cX12_findWritten 15 = .ok (.isub, 1) := by decide +kernel
theorem dX12_findWritten_16 : decode cX12_findWritten 16 = .ok (.istore_n 2, 1) := by decide +kernel
theorem dX12_findWritten_17 : decode cX12_findWritten 17 = .ok (.iload_n 2, 1) := by decide +kernel
theorem dX12_findWritten_18 : decode cX12_findWritten 18 = .ok (.ifCond .lt 83, 3) := by decide +kernel
theorem dX12_findWritten_21 : decode cX12_findWritten 21 = .ok (.aload_n 0, 1) := by decide +kernel
theorem dX12_findWritten_22 : decode cX12_findWritten 22 = .ok (.getfield 37, 3) := by decide +kernel
theorem dX12_findWritten_25 : decode cX12_findWritten 25 = .ok (.iload_n 2, 1) := by decide +kernel
theorem dX12_findWritten_26 : decode cX12_findWritten 26 = .ok (.ldc 167, 2) := by decide +kernel
theorem dX12_findWritten_28 : decode cX12_findWritten 28 = .ok (.iastore, 1) := by decide +kernel
theorem dX12_findWritten_29 : decode cX12_findWritten 29 = .ok (.iconst 0, 1) := by decide +kernel
theorem dX12_findWritten_30 : decode cX12_findWritten 30 = .ok (.istore_n 3, 1) := by decide +kernel
theorem dX12_findWritten_31 : decode cX12_findWritten 31 = .ok (.iload_n 3, 1) := by decide +kernel
theorem dX12_findWritten_32 : decode cX12_findWritten 32 = .ok (.bipush 38, 2) := by decide +kernel
theorem dX12_findWritten_34 : decode cX12_findWritten 34 = .ok (.if_icmp .ge 61, 3) := by decide +kernel
theorem dX12_findWritten_37 : decode cX12_findWritten 37 = .ok (.aload_n 0, 1) := by decide +kernel
theorem dX12_findWritten_38 : decode cX12_findWritten 38 = .ok (.iload_n 1, 1) := by decide +kernel
theorem dX12_findWritten_39 : decode cX12_findWritten 39 = .ok (.iload_n 3, 1) := by decide +kernel
theorem dX12_findWritten_40 : decode cX12_findWritten 40 = .ok (.iload_n 2, 1) := by decide +kernel
theorem dX12_findWritten_41 : decode cX12_findWritten 41 = .ok (.invokevirtual 171, 3) := by decide +kernel
theorem dX12_findWritten_44 : decode cX12_findWritten 44 = .ok (.ifCond .eq 13, 3) := by decide +kernel
theorem dX12_findWritten_47 : decode cX12_findWritten 47 = .ok (.aload_n 0, 1) := by decide +kernel
theorem dX12_findWritten_48 : decode cX12_findWritten 48 = .ok (.iload_n 1, 1) := by decide +kernel
theorem dX12_findWritten_49 : decode cX12_findWritten 49 = .ok (.iload_n 3, 1) := by decide +kernel
theorem dX12_findWritten_50 : decode cX12_findWritten 50 = .ok (.iload_n 2, 1) := by decide +kernel
theorem dX12_findWritten_51 : decode cX12_findWritten 51 = .ok (.invokevirtual 175, 3) := by decide +kernel
theorem dX12_findWritten_54 : decode cX12_findWritten 54 = .ok (.goto 5, 3) := by decide +kernel
theorem dX12_findWritten_57 : decode cX12_findWritten 57 = .ok (.ldc 167, 2) := by decide +kernel
theorem dX12_findWritten_59 : decode cX12_findWritten 59 = .ok (.istore 4, 2) := by decide +kernel
theorem dX12_findWritten_61 : decode cX12_findWritten 61 = .ok (.aload_n 0, 1) := by decide +kernel
theorem dX12_findWritten_62 : decode cX12_findWritten 62 = .ok (.getfield 37, 3) := by decide +kernel
theorem dX12_findWritten_65 : decode cX12_findWritten 65 = .ok (.iload_n 2, 1) := by decide +kernel
theorem dX12_findWritten_66 : decode cX12_findWritten 66 = .ok (.iload 4, 2) := by decide +kernel
theorem dX12_findWritten_68 : decode cX12_findWritten 68 = .ok (.aload_n 0, 1) := by decide +kernel
theorem dX12_findWritten_69 : decode cX12_findWritten 69 = .ok (.getfield 37, 3) := by decide +kernel
theorem dX12_findWritten_72 : decode cX12_findWritten 72 = .ok (.iload_n 2, 1) := by decide +kernel
theorem dX12_findWritten_73 : decode cX12_findWritten 73 = .ok (.iaload, 1) := by decide +kernel
theorem dX12_findWritten_74 : decode cX12_findWritten 74 = .ok (.if_icmp .ge 8, 3) := by decide +kernel
theorem dX12_findWritten_77 : decode cX12_findWritten 77 = .ok (.iload 4, 2) := by decide +kernel
theorem dX12_findWritten_79 : decode cX12_findWritten 79 = .ok (.goto 9, 3) := by decide +kernel
theorem dX12_findWritten_82 : decode cX12_findWritten 82 = .ok (.aload_n 0, 1) := by decide +kernel
theorem dX12_findWritten_83 : decode cX12_findWritten 83 = .ok (.getfield 37, 3) := by decide +kernel
theorem dX12_findWritten_86 : decode cX12_findWritten 86 = .ok (.iload_n 2, 1) := by decide +kernel
theorem dX12_findWritten_87 : decode cX12_findWritten 87 = .ok (.iaload, 1) := by decide +kernel
theorem dX12_findWritten_88 : decode cX12_findWritten 88 = .ok (.iastore, 1) := by decide +kernel
theorem dX12_findWritten_89 : decode cX12_findWritten 89 = .ok (.iinc 3 1, 3) := by decide +kernel
theorem dX12_findWritten_92 : decode cX12_findWritten 92 = .ok (.goto (-61), 3) := by decide +kernel
theorem dX12_findWritten_95 : decode cX12_findWritten 95 = .ok (.iinc 2 (-1), 3) := by decide +kernel
theorem dX12_findWritten_98 : decode cX12_findWritten 98 = .ok (.goto (-81), 3) := by decide +kernel
theorem dX12_findWritten_101 : decode cX12_findWritten 101 = .ok (.aload_n 0, 1) := by decide +kernel
theorem dX12_findWritten_102 : decode cX12_findWritten 102 = .ok (.getfield 37, 3) := by decide +kernel
theorem dX12_findWritten_105 : decode cX12_findWritten 105 = .ok (.iconst 0, 1) := by decide +kernel
theorem dX12_findWritten_106 : decode cX12_findWritten 106 = .ok (.iaload, 1) := by decide +kernel
theorem dX12_findWritten_107 : decode cX12_findWritten 107 = .ok (.ldc 167, 2) := by decide +kernel
theorem dX12_findWritten_109 : decode cX12_findWritten 109 = .ok (.if_icmp .eq 7, 3) := by decide +kernel
theorem dX12_findWritten_112 : decode cX12_findWritten 112 = .ok (.iconst 1, 1) := by decide +kernel
theorem dX12_findWritten_113 : decode cX12_findWritten 113 = .ok (.goto 4, 3) := by decide +kernel
theorem dX12_findWritten_116 : decode cX12_findWritten 116 = .ok (.iconst 0, 1) := by decide +kernel
theorem dX12_findWritten_117 : decode cX12_findWritten 117 = .ok (.ireturn, 1) := by decide +kernel
theorem dX12_firstItem_0 : decode cX12_firstItem 0 = .ok (.iconst 0, 1) := by decide +kernel
theorem dX12_firstItem_1 : decode cX12_firstItem 1 = .ok (.istore_n 3, 1) := by decide +kernel
theorem dX12_firstItem_2 : decode cX12_firstItem 2 = .ok (.aload_n 0, 1) := by decide +kernel
theorem dX12_firstItem_3 : decode cX12_firstItem 3 = .ok (.iload_n 1, 1) := by decide +kernel
theorem dX12_firstItem_4 : decode cX12_firstItem 4 = .ok (.iload_n 3, 1) := by decide +kernel
theorem dX12_firstItem_5 : decode cX12_firstItem 5 = .ok (.iload_n 2, 1) := by decide +kernel
theorem dX12_firstItem_6 : decode cX12_firstItem 6 = .ok (.invokevirtual 171, 3) := by decide +kernel
theorem dX12_firstItem_9 : decode cX12_firstItem 9 = .ok (.ifCond .eq 19, 3) := by decide +kernel
theorem dX12_firstItem_12 : decode cX12_firstItem 12 = .ok (.aload_n 0, 1) := by decide +kernel
theorem dX12_firstItem_13 : decode cX12_firstItem 13 = .ok (.iload_n 1, 1) := by decide +kernel
theorem dX12_firstItem_14 : decode cX12_firstItem 14 = .ok (.iload_n 3, 1) := by decide +kernel
theorem dX12_firstItem_15 : decode cX12_firstItem 15 = .ok (.iload_n 2, 1) := by decide +kernel
theorem dX12_firstItem_16 : decode cX12_firstItem 16 = .ok (.invokevirtual 175, 3) := by decide +kernel
theorem dX12_firstItem_19 : decode cX12_firstItem 19 = .ok (.aload_n 0, 1) := by decide +kernel
theorem dX12_firstItem_20 : decode cX12_firstItem 20 = .ok (.getfield 37, 3) := by decide +kernel
theorem dX12_firstItem_23 : decode cX12_firstItem 23 = .ok (.iload_n 2, 1) := by decide +kernel
theorem dX12_firstItem_24 : decode cX12_firstItem 24 = .ok (.iaload, 1) := by decide +kernel
theorem dX12_firstItem_25 : decode cX12_firstItem 25 = .ok (.if_icmp .eq 9, 3) := by decide +kernel
theorem dX12_firstItem_28 : decode cX12_firstItem 28 = .ok (.iinc 3 1, 3) := by decide +kernel
theorem dX12_firstItem_31 : decode cX12_firstItem 31 = .ok (.goto (-29), 3) := by decide +kernel
theorem dX12_firstItem_34 : decode cX12_firstItem 34 = .ok (.iload_n 3, 1) := by decide +kernel
theorem dX12_firstItem_35 : decode cX12_firstItem 35 = .ok (.ireturn, 1) := by decide +kernel
theorem dX12_layPad_0 : decode cX12_layPad 0 = .ok (.aload_n 0, 1) := by decide +kernel
theorem dX12_layPad_1 : decode cX12_layPad 1 = .ok (.aload_n 0, 1) := by decide +kernel
theorem dX12_layPad_2 : decode cX12_layPad 2 = .ok (.getfield 130, 3) := by decide +kernel
theorem dX12_layPad_5 : decode cX12_layPad 5 = .ok (.putfield 161, 3) := by decide +kernel
theorem dX12_layPad_8 : decode cX12_layPad 8 = .ok (.iconst 0, 1) := by decide +kernel
theorem dX12_layPad_9 : decode cX12_layPad 9 = .ok (.istore_n 1, 1) := by decide +kernel
theorem dX12_layPad_10 : decode cX12_layPad 10 = .ok (.iload_n 1, 1) := by decide +kernel
theorem dX12_layPad_11 : decode cX12_layPad 11 = .ok (.aload_n 0, 1) := by decide +kernel
theorem dX12_layPad_12 : decode cX12_layPad 12 = .ok (.getfield 130, 3) := by decide +kernel
theorem dX12_layPad_15 : decode cX12_layPad 15 = .ok (.if_icmp .ge 21, 3) := by decide +kernel
theorem dX12_layPad_18 : decode cX12_layPad 18 = .ok (.aload_n 0, 1) := by decide +kernel
theorem dX12_layPad_19 : decode cX12_layPad 19 = .ok (.getfield 34, 3) := by decide +kernel
theorem dX12_layPad_22 : decode cX12_layPad 22 = .ok (.iload_n 1, 1) := by decide +kernel
theorem dX12_layPad_23 : decode cX12_layPad 23 = .ok (.aload_n 0, 1) := by decide +kernel
theorem dX12_layPad_24 : decode cX12_layPad 24 = .ok (.getfield 28, 3) := by decide +kernel
theorem dX12_layPad_27 : decode cX12_layPad 27 = .ok (.iload_n 1, 1) := by decide +kernel
theorem dX12_layPad_28 : decode cX12_layPad 28 = .ok (.iaload, 1) := by decide +kernel
theorem dX12_layPad_29 : decode cX12_layPad 29 = .ok (.iastore, 1) := by decide +kernel
theorem dX12_layPad_30 : decode cX12_layPad 30 = .ok (.iinc 1 1, 3) := by decide +kernel
theorem dX12_layPad_33 : decode cX12_layPad 33 = .ok (.goto (-23), 3) := by decide +kernel
theorem dX12_layPad_36 : decode cX12_layPad 36 = .ok (.return_, 1) := by decide +kernel
theorem dX12_layWritten_0 : decode cX12_layWritten 0 = .ok (.aload_n 0, 1) := by decide +kernel
theorem dX12_layWritten_1 : decode cX12_layWritten 1 = .ok (.iconst 0, 1) := by decide +kernel
theorem dX12_layWritten_2 : decode cX12_layWritten 2 = .ok (.putfield 178, 3) := by decide +kernel
theorem dX12_layWritten_5 : decode cX12_layWritten 5 = .ok (.iconst 0, 1) := by decide +kernel
theorem dX12_layWritten_6 : decode cX12_layWritten 6 = .ok (.istore_n 2, 1) := by decide +kernel
theorem dX12_layWritten_7 : decode cX12_layWritten 7 = .ok (.iload_n 2, 1) := by decide +kernel
theorem dX12_layWritten_8 : decode cX12_layWritten 8 = .ok (.aload_n 0, 1) := by decide +kernel
theorem dX12_layWritten_9 : decode cX12_layWritten 9 = .ok (.getfield 161, 3) := by decide +kernel
theorem dX12_layWritten_12 : decode cX12_layWritten 12 = .ok (.if_icmp .ge 69, 3) := by decide +kernel
theorem dX12_layWritten_15 : decode cX12_layWritten 15 = .ok (.aload_n 0, 1) := by decide +kernel
theorem dX12_layWritten_16 : decode cX12_layWritten 16 = .ok (.iload_n 1, 1) := by decide +kernel
theorem dX12_layWritten_17 : decode cX12_layWritten 17 = .ok (.iload_n 2, 1) := by decide +kernel
theorem dX12_layWritten_18 : decode cX12_layWritten 18 = .ok (.invokevirtual 181, 3) := by decide +kernel
theorem dX12_layWritten_21 : decode cX12_layWritten 21 = .ok (.istore_n 3, 1) := by decide +kernel
theorem dX12_layWritten_22 : decode cX12_layWritten 22 = .ok (.iconst 0, 1) := by decide +kernel
theorem dX12_layWritten_23 : decode cX12_layWritten 23 = .ok (.istore 4, 2) := by decide +kernel
theorem dX12_layWritten_25 : decode cX12_layWritten 25 = .ok (.iload 4, 2) := by decide +kernel
theorem dX12_layWritten_27 : decode cX12_layWritten 27 = .ok (.aload_n 0, 1) := by decide +kernel
theorem dX12_layWritten_28 : decode cX12_layWritten 28 = .ok (.iload_n 1, 1) := by decide +kernel
theorem dX12_layWritten_29 : decode cX12_layWritten 29 = .ok (.iload_n 3, 1) := by decide +kernel
theorem dX12_layWritten_30 : decode cX12_layWritten 30 = .ok (.invokevirtual 142, 3) := by decide +kernel
theorem dX12_layWritten_33 : decode cX12_layWritten 33 = .ok (.if_icmp .ge 36, 3) := by decide +kernel
theorem dX12_layWritten_36 : decode cX12_layWritten 36 = .ok (.aload_n 0, 1) := by decide +kernel
theorem dX12_layWritten_37 : decode cX12_layWritten 37 = .ok (.getfield 40, 3) := by decide +kernel
theorem dX12_layWritten_40 : decode cX12_layWritten 40 = .ok (.aload_n 0, 1) := by decide +kernel
theorem dX12_layWritten_41 : decode cX12_layWritten 41 = .ok (.getfield 178, 3) := by decide +kernel
theorem dX12_layWritten_44 : decode cX12_layWritten 44 = .ok (.aload_n 0, 1) := by decide +kernel
theorem dX12_layWritten_45 : decode cX12_layWritten 45 = .ok (.iload_n 1, 1) := by decide +kernel
theorem dX12_layWritten_46 : decode cX12_layWritten 46 = .ok (.iload_n 3, 1) := by decide +kernel
theorem dX12_layWritten_47 : decode cX12_layWritten 47 = .ok (.iload 4, 2) := by decide +kernel
theorem dX12_layWritten_49 : decode cX12_layWritten 49 = .ok (.invokevirtual 146, 3) := by decide +kernel
theorem dX12_layWritten_52 : decode cX12_layWritten 52 = .ok (.iastore, 1) := by decide +kernel
theorem dX12_layWritten_53 : decode cX12_layWritten 53 = .ok (.aload_n 0, 1) := by decide +kernel
theorem dX12_layWritten_54 : decode cX12_layWritten 54 = .ok (.dup, 1) := by decide +kernel
theorem dX12_layWritten_55 : decode cX12_layWritten 55 = .ok (.getfield 178, 3) := by decide +kernel
theorem dX12_layWritten_58 : decode cX12_layWritten 58 = .ok (.iconst 1, 1) := by decide +kernel
theorem dX12_layWritten_59 : decode cX12_layWritten 59 = .ok (.iadd, 1) := by decide +kernel
theorem dX12_layWritten_60 : decode cX12_layWritten 60 = .ok (.putfield 178, 3) := by decide +kernel
theorem dX12_layWritten_63 : decode cX12_layWritten 63 = .ok (.iinc 4 1, 3) := by decide +kernel
theorem dX12_layWritten_66 : decode cX12_layWritten 66 = .ok (.goto (-41), 3) := by decide +kernel
theorem dX12_layWritten_69 : decode cX12_layWritten 69 = .ok (.iload_n 2, 1) := by decide +kernel
theorem dX12_layWritten_70 : decode cX12_layWritten 70 = .ok (.aload_n 0, 1) := by decide +kernel
theorem dX12_layWritten_71 : decode cX12_layWritten 71 = .ok (.iload_n 1, 1) := by decide +kernel
theorem dX12_layWritten_72 : decode cX12_layWritten 72 = .ok (.iload_n 3, 1) := by decide +kernel
theorem dX12_layWritten_73 : decode cX12_layWritten 73 = .ok (.invokevirtual 158, 3) := by decide +kernel
theorem dX12_layWritten_76 : decode cX12_layWritten 76 = .ok (.iadd, 1) := by decide +kernel
theorem dX12_layWritten_77 : decode cX12_layWritten 77 = .ok (.istore_n 2, 1) := by decide +kernel
theorem dX12_layWritten_78 : decode cX12_layWritten 78 = .ok (.goto (-71), 3) := by decide +kernel
theorem dX12_layWritten_81 : decode cX12_layWritten 81 = .ok (.return_, 1) := by decide +kernel
theorem dX12_write_0 : decode cX12_write 0 = .ok (.iload_n 1, 1) := by decide +kernel
theorem dX12_write_1 : decode cX12_write 1 = .ok (.invokestatic 121, 3) := by decide +kernel
theorem dX12_write_4 : decode cX12_write 4 = .ok (.ifCond .ne 5, 3) := by decide +kernel
theorem dX12_write_7 : decode cX12_write 7 = .ok (.iconst (-1), 1) := by decide +kernel
theorem dX12_write_8 : decode cX12_write 8 = .ok (.ireturn, 1) := by decide +kernel
theorem dX12_write_9 : decode cX12_write 9 = .ok (.aload_n 0, 1) := by decide +kernel
theorem dX12_write_10 : decode cX12_write 10 = .ok (.invokevirtual 184, 3) := by decide +kernel
theorem dX12_write_13 : decode cX12_write 13 = .ok (.aload_n 0, 1) := by decide +kernel
theorem dX12_write_14 : decode cX12_write 14 = .ok (.iload_n 1, 1) := by decide +kernel
theorem dX12_write_15 : decode cX12_write 15 = .ok (.invokevirtual 187, 3) := by decide +kernel
theorem dX12_write_18 : decode cX12_write 18 = .ok (.ifCond .ne 6, 3) := by decide +kernel
theorem dX12_write_21 : decode cX12_write 21 = .ok (.bipush (-5), 2) := by decide +kernel
theorem dX12_write_23 : decode cX12_write 23 = .ok (.ireturn, 1) := by decide +kernel
theorem dX12_write_24 : decode cX12_write 24 = .ok (.iload_n 2, 1) := by decide +kernel
theorem dX12_write_25 : decode cX12_write 25 = .ok (.iconst (-1), 1) := by decide +kernel
theorem dX12_write_26 : decode cX12_write 26 = .ok (.if_icmp .ne 14, 3) := by decide +kernel
theorem dX12_write_29 : decode cX12_write 29 = .ok (.aload_n 0, 1) := by decide +kernel
theorem dX12_write_30 : decode cX12_write 30 = .ok (.getfield 37, 3) := by decide +kernel
theorem dX12_write_33 : decode cX12_write 33 = .ok (.iconst 0, 1) := by decide +kernel
theorem dX12_write_34 : decode cX12_write 34 = .ok (.iaload, 1) := by decide +kernel
theorem dX12_write_35 : decode cX12_write 35 = .ok (.sipush 1000, 3) := by decide +kernel
theorem dX12_write_38 : decode cX12_write 38 = .ok (.idiv, 1) := by decide +kernel
theorem dX12_write_39 : decode cX12_write 39 = .ok (.ireturn, 1) := by decide +kernel
theorem dX12_write_40 : decode cX12_write 40 = .ok (.iload_n 2, 1) := by decide +kernel
theorem dX12_write_41 : decode cX12_write 41 = .ok (.bipush (-2), 2) := by decide +kernel
theorem dX12_write_43 : decode cX12_write 43 = .ok (.if_icmp .ne 14, 3) := by decide +kernel
theorem dX12_write_46 : decode cX12_write 46 = .ok (.aload_n 0, 1) := by decide +kernel
theorem dX12_write_47 : decode cX12_write 47 = .ok (.getfield 37, 3) := by decide +kernel
theorem dX12_write_50 : decode cX12_write 50 = .ok (.iconst 0, 1) := by decide +kernel
theorem dX12_write_51 : decode cX12_write 51 = .ok (.iaload, 1) := by decide +kernel
theorem dX12_write_52 : decode cX12_write 52 = .ok (.sipush 1000, 3) := by decide +kernel
theorem dX12_write_55 : decode cX12_write 55 = .ok (.irem, 1) := by decide +kernel
theorem dX12_write_56 : decode cX12_write 56 = .ok (.ireturn, 1) := by decide +kernel
theorem dX12_write_57 : decode cX12_write 57 = .ok (.aload_n 0, 1) := by decide +kernel
theorem dX12_write_58 : decode cX12_write 58 = .ok (.iload_n 1, 1) := by decide +kernel
theorem dX12_write_59 : decode cX12_write 59 = .ok (.invokevirtual 190, 3) := by decide +kernel
theorem dX12_write_62 : decode cX12_write 62 = .ok (.iload_n 2, 1) := by decide +kernel
theorem dX12_write_63 : decode cX12_write 63 = .ok (.i2l, 1) := by decide +kernel
theorem dX12_write_64 : decode cX12_write 64 = .ok (.lconst 0, 1) := by decide +kernel
theorem dX12_write_65 : decode cX12_write 65 = .ok (.aload_n 0, 1) := by decide +kernel
theorem dX12_write_66 : decode cX12_write 66 = .ok (.getfield 178, 3) := by decide +kernel
theorem dX12_write_69 : decode cX12_write 69 = .ok (.iconst 1, 1) := by decide +kernel
theorem dX12_write_70 : decode cX12_write 70 = .ok (.isub, 1) := by decide +kernel
theorem dX12_write_71 : decode cX12_write 71 = .ok (.i2l, 1) := by decide +kernel
theorem dX12_write_72 : decode cX12_write 72 = .ok (.invokestatic 115, 3) := by decide +kernel
theorem dX12_write_75 : decode cX12_write 75 = .ok (.ifCond .eq 12, 3) := by decide +kernel
theorem dX12_write_78 : decode cX12_write 78 = .ok (.aload_n 0, 1) := by decide +kernel
theorem dX12_write_79 : decode cX12_write 79 = .ok (.getfield 40, 3) := by decide +kernel
theorem dX12_write_82 : decode cX12_write 82 = .ok (.iload_n 2, 1) := by decide +kernel
theorem dX12_write_83 : decode cX12_write 83 = .ok (.iaload, 1) := by decide +kernel
theorem dX12_write_84 : decode cX12_write 84 = .ok (.goto 5, 3) := by decide +kernel
theorem dX12_write_87 : decode cX12_write 87 = .ok (.bipush (-6), 2) := by decide +kernel
theorem dX12_write_89 : decode cX12_write 89 = .ok (.ireturn, 1) := by decide +kernel
theorem dX12_isReadBy_0 : decode cX12_isReadBy 0 = .ok (.aload_n 0, 1) := by decide +kernel
theorem dX12_isReadBy_1 : decode cX12_isReadBy 1 = .ok (.iload_n 1, 1) := by decide +kernel
theorem dX12_isReadBy_2 : decode cX12_isReadBy 2 = .ok (.iload_n 2, 1) := by decide +kernel
theorem dX12_isReadBy_3 : decode cX12_isReadBy 3 = .ok (.invokevirtual 154, 3) := by decide +kernel
theorem dX12_isReadBy_6 : decode cX12_isReadBy 6 = .ok (.ifCond .eq 22, 3) := by decide +kernel
theorem dX12_isReadBy_9 : decode cX12_isReadBy 9 = .ok (.iload_n 3, 1) := by decide +kernel
theorem dX12_isReadBy_10 : decode cX12_isReadBy 10 = .ok (.aload_n 0, 1) := by decide +kernel
theorem dX12_isReadBy_11 : decode cX12_isReadBy 11 = .ok (.iload_n 1, 1) := by decide +kernel
theorem dX12_isReadBy_12 : decode cX12_isReadBy 12 = .ok (.iload_n 2, 1) := by decide +kernel
theorem dX12_isReadBy_13 : decode cX12_isReadBy 13 = .ok (.invokevirtual 142, 3) := by decide +kernel
theorem dX12_isReadBy_16 : decode cX12_isReadBy 16 = .ok (.iadd, 1) := by decide +kernel
theorem dX12_isReadBy_17 : decode cX12_isReadBy 17 = .ok (.aload_n 0, 1) := by decide +kernel
theorem dX12_isReadBy_18 : decode cX12_isReadBy 18 = .ok (.getfield 134, 3) := by decide +kernel
theorem dX12_isReadBy_21 : decode cX12_isReadBy 21 = .ok (.if_icmp .gt 7, 3) := by decide +kernel
theorem dX12_isReadBy_24 : decode cX12_isReadBy 24 = .ok (.iconst 1, 1) := by decide +kernel
theorem dX12_isReadBy_25 : decode cX12_isReadBy 25 = .ok (.goto 4, 3) := by decide +kernel
theorem dX12_isReadBy_28 : decode cX12_isReadBy 28 = .ok (.iconst 0, 1) := by decide +kernel
theorem dX12_isReadBy_29 : decode cX12_isReadBy 29 = .ok (.istore 4, 2) := by decide +kernel
theorem dX12_isReadBy_31 : decode cX12_isReadBy 31 = .ok (.iconst 0, 1) := by decide +kernel
theorem dX12_isReadBy_32 : decode cX12_isReadBy 32 = .ok (.istore 5, 2) := by decide +kernel
theorem dX12_isReadBy_34 : decode cX12_isReadBy 34 = .ok (.iload 4, 2) := by decide +kernel
theorem dX12_isReadBy_36 : decode cX12_isReadBy 36 = .ok (.ifCond .eq 47, 3) := by decide +kernel
theorem dX12_isReadBy_39 : decode cX12_isReadBy 39 = .ok (.iload 5, 2) := by decide +kernel
theorem dX12_isReadBy_41 : decode cX12_isReadBy 41 = .ok (.aload_n 0, 1) := by decide +kernel
theorem dX12_isReadBy_42 : decode cX12_isReadBy 42 = .ok (.iload_n 1, 1) := by decide +kernel
theorem dX12_isReadBy_43 : decode cX12_isReadBy 43 = .ok (.iload_n 2, 1) := by decide +kernel
theorem dX12_isReadBy_44 : decode cX12_isReadBy 44 = .ok (.invokevirtual 142, 3) := by decide +kernel
theorem dX12_isReadBy_47 : decode cX12_isReadBy 47 = .ok (.if_icmp .ge 36, 3) := by decide +kernel
theorem dX12_isReadBy_50 : decode cX12_isReadBy 50 = .ok (.aload_n 0, 1) := by decide +kernel
theorem dX12_isReadBy_51 : decode cX12_isReadBy 51 = .ok (.iload_n 1, 1) := by decide +kernel
theorem dX12_isReadBy_52 : decode cX12_isReadBy 52 = .ok (.iload_n 2, 1) := by decide +kernel
theorem dX12_isReadBy_53 : decode cX12_isReadBy 53 = .ok (.iload 5, 2) := by decide +kernel
theorem dX12_isReadBy_55 : decode cX12_isReadBy 55 = .ok (.invokevirtual 146, 3) := by decide +kernel
theorem dX12_isReadBy_58 : decode cX12_isReadBy 58 = .ok (.aload_n 0, 1) := by decide +kernel
theorem dX12_isReadBy_59 : decode cX12_isReadBy 59 = .ok (.getfield 31, 3) := by decide +kernel
theorem dX12_isReadBy_62 : decode cX12_isReadBy 62 = .ok (.iload_n 3, 1) := by decide +kernel
theorem dX12_isReadBy_63 : decode cX12_isReadBy 63 = .ok (.iload 5, 2) := by decide +kernel
theorem dX12_isReadBy_65 : decode cX12_isReadBy 65 = .ok (.iadd, 1) := by decide +kernel
theorem dX12_isReadBy_66 : decode cX12_isReadBy 66 = .ok (.iaload, 1) := by decide +kernel
theorem dX12_isReadBy_67 : decode cX12_isReadBy 67 = .ok (.if_icmp .ne 7, 3) := by decide +kernel
theorem dX12_isReadBy_70 : decode cX12_isReadBy 70 = .ok (.iconst 1, 1) := by decide +kernel
theorem dX12_isReadBy_71 : decode cX12_isReadBy 71 = .ok (.goto 4, 3) := by decide +kernel
theorem dX12_isReadBy_74 : decode cX12_isReadBy 74 = .ok (.iconst 0, 1) := by decide +kernel
theorem dX12_isReadBy_75 : decode cX12_isReadBy 75 = .ok (.istore 4, 2) := by decide +kernel
theorem dX12_isReadBy_77 : decode cX12_isReadBy 77 = .ok (.iinc 5 1, 3) := by decide +kernel
theorem dX12_isReadBy_80 : decode cX12_isReadBy 80 = .ok (.goto (-46), 3) := by decide +kernel
theorem dX12_isReadBy_83 : decode cX12_isReadBy 83 = .ok (.iload 4, 2) := by decide +kernel
theorem dX12_isReadBy_85 : decode cX12_isReadBy 85 = .ok (.ifCond .eq 23, 3) := by decide +kernel
theorem dX12_isReadBy_88 : decode cX12_isReadBy 88 = .ok (.aload_n 0, 1) := by decide +kernel
theorem dX12_isReadBy_89 : decode cX12_isReadBy 89 = .ok (.getfield 43, 3) := by decide +kernel
theorem dX12_isReadBy_92 : decode cX12_isReadBy 92 = .ok (.iload_n 3, 1) := by decide +kernel
theorem dX12_isReadBy_93 : decode cX12_isReadBy 93 = .ok (.aload_n 0, 1) := by decide +kernel
theorem dX12_isReadBy_94 : decode cX12_isReadBy 94 = .ok (.iload_n 1, 1) := by decide +kernel
theorem dX12_isReadBy_95 : decode cX12_isReadBy 95 = .ok (.iload_n 2, 1) := by decide +kernel
theorem dX12_isReadBy_96 : decode cX12_isReadBy 96 = .ok (.invokevirtual 142, 3) := by decide +kernel
theorem dX12_isReadBy_99 : decode cX12_isReadBy 99 = .ok (.iadd, 1) := by decide +kernel
theorem dX12_isReadBy_100 : decode cX12_isReadBy 100 = .ok (.iaload, 1) := by decide +kernel
theorem dX12_isReadBy_101 : decode cX12_isReadBy 101 = .ok (.ifCond .le 7, 3) := by decide +kernel
theorem dX12_isReadBy_104 : decode cX12_isReadBy 104 = .ok (.iconst 1, 1) := by decide +kernel
theorem dX12_isReadBy_105 : decode cX12_isReadBy 105 = .ok (.goto 4, 3) := by decide +kernel
theorem dX12_isReadBy_108 : decode cX12_isReadBy 108 = .ok (.iconst 0, 1) := by decide +kernel
theorem dX12_isReadBy_109 : decode cX12_isReadBy 109 = .ok (.ireturn, 1) := by decide +kernel
theorem dX12_findWays_0 : decode cX12_findWays 0 = .ok (.aload_n 0, 1) := by decide +kernel
theorem dX12_findWays_1 : decode cX12_findWays 1 = .ok (.getfield 43, 3) := by decide +kernel
theorem dX12_findWays_4 : decode cX12_findWays 4 = .ok (.aload_n 0, 1) := by decide +kernel
theorem dX12_findWays_5 : decode cX12_findWays 5 = .ok (.getfield 134, 3) := by decide +kernel
theorem dX12_findWays_8 : decode cX12_findWays 8 = .ok (.iconst 1, 1) := by decide +kernel
theorem dX12_findWays_9 : decode cX12_findWays 9 = .ok (.iastore, 1) := by decide +kernel
theorem dX12_findWays_10 : decode cX12_findWays 10 = .ok (.aload_n 0, 1) := by decide +kernel
theorem dX12_findWays_11 : decode cX12_findWays 11 = .ok (.getfield 134, 3) := by decide +kernel
theorem dX12_findWays_14 : decode cX12_findWays 14 = .ok (.iconst 1, 1) := by decide +kernel
theorem dX12_findWays_15 : decode cX12_findWays 15 = .ok (.isub, 1) := by decide +kernel
theorem dX12_findWays_16 : decode cX12_findWays 16 = .ok (.istore_n 2, 1) := by decide +kernel
theorem dX12_findWays_17 : decode cX12_findWays 17 = .ok (.iload_n 2, 1) := by decide +kernel
theorem dX12_findWays_18 : decode cX12_findWays 18 = .ok (.ifCond .lt 79, 3) := by decide +kernel
theorem dX12_findWays_21 : decode cX12_findWays 21 = .ok (.iconst 0, 1) := by decide +kernel
theorem dX12_findWays_22 : decode cX12_findWays 22 = .ok (.istore_n 3, 1) := by decide +kernel
theorem dX12_findWays_23 : decode cX12_findWays 23 = .ok (.iconst 0, 1) := by decide +kernel
theorem dX12_findWays_24 : decode cX12_findWays 24 = .ok (.istore 4, 2) := by decide +kernel
theorem dX12_findWays_26 : decode cX12_findWays 26 = .ok (.iload 4, 2) := by decide +kernel
theorem dX12_findWays_28 : decode cX12_findWays 28 = .ok (.bipush 38, 2) := by decide +kernel
theorem dX12_findWays_30 : decode cX12_findWays 30 = .ok (.if_icmp .ge 54, 3) := by decide +kernel
theorem dX12_findWays_33 : decode cX12_findWays 33 = .ok (.iload_n 3, 1) := by decide +kernel
theorem dX12_findWays_34 : decode cX12_findWays 34 = .ok (.aload_n 0, 1) := by decide +kernel
theorem dX12_findWays_35 : decode cX12_findWays 35 = .ok (.iload_n 1, 1) := by decide +kernel
theorem dX12_findWays_36 : decode cX12_findWays 36 = .ok (.iload 4, 2) := by decide +kernel
theorem dX12_findWays_38 : decode cX12_findWays 38 = .ok (.iload_n 2, 1) := by decide +kernel
theorem dX12_findWays_39 : decode cX12_findWays 39 = .ok (.invokevirtual 194, 3) := by decide +kernel
theorem dX12_findWays_42 : decode cX12_findWays 42 = .ok (.ifCond .eq 20, 3) := by decide +kernel
theorem dX12_findWays_45 : decode cX12_findWays 45 = .ok (.aload_n 0, 1) := by decide +kernel
theorem dX12_findWays_46 : decode cX12_findWays 46 = .ok (.getfield 43, 3) := by decide +kernel
theorem dX12_findWays_49 : decode cX12_findWays 49 = .ok (.iload_n 2, 1) := by decide +kernel
theorem dX12_findWays_50 : decode cX12_findWays 50 = .ok (.aload_n 0, 1) := by decide +kernel
theorem dX12_findWays_51 : decode cX12_findWays 51 = .ok (.iload_n 1, 1) := by decide +kernel
theorem dX12_findWays_52 : decode cX12_findWays 52 = .ok (.iload 4, 2) := by decide +kernel
theorem dX12_findWays_54 : decode cX12_findWays 54 = .ok (.invokevirtual 142, 3) := by decide +kernel
theorem dX12_findWays_57 : decode cX12_findWays 57 = .ok (.iadd, 1) := by decide +kernel
theorem dX12_findWays_58 : decode cX12_findWays 58 = .ok (.iaload, 1) := by decide +kernel
theorem dX12_findWays_59 : decode cX12_findWays 59 = .ok (.goto 4, 3) := by decide +kernel
theorem dX12_findWays_62 : decode cX12_findWays 62 = .ok (.iconst 0, 1) := by decide +kernel
theorem dX12_findWays_63 : decode cX12_findWays 63 = .ok (.iadd, 1) := by decide +kernel
theorem dX12_findWays_64 : decode cX12_findWays 64 = .ok (.istore_n 3, 1) := by decide +kernel
theorem dX12_findWays_65 : decode cX12_findWays 65 = .ok (.iload_n 3, 1) := by decide +kernel
theorem dX12_findWays_66 : decode cX12_findWays 66 = .ok (.ldc 197, 2) := by decide +kernel
theorem dX12_findWays_68 : decode cX12_findWays 68 = .ok (.if_icmp .le 8, 3) := by decide +kernel
theorem dX12_findWays_71 : decode cX12_findWays 71 = .ok (.ldc 197, 2) := by decide +kernel
theorem dX12_findWays_73 : decode cX12_findWays 73 = .ok (.goto 4, 3) := by decide +kernel
theorem dX12_findWays_76 : decode cX12_findWays 76 = .ok (.iload_n 3, 1) := by decide +kernel
theorem dX12_findWays_77 : decode cX12_findWays 77 = .ok (.istore_n 3, 1) := by decide +kernel
theorem dX12_findWays_78 : decode cX12_findWays 78 = .ok (.iinc 4 1, 3) := by decide +kernel
theorem dX12_findWays_81 : decode cX12_findWays 81 = .ok (.goto (-55), 3) := by decide +kernel
theorem dX12_findWays_84 : decode cX12_findWays 84 = .ok (.aload_n 0, 1) := by decide +kernel
theorem dX12_findWays_85 : decode cX12_findWays 85 = .ok (.getfield 43, 3) := by decide +kernel
theorem dX12_findWays_88 : decode cX12_findWays 88 = .ok (.iload_n 2, 1) := by decide +kernel
theorem dX12_findWays_89 : decode cX12_findWays 89 = .ok (.iload_n 3, 1) := by decide +kernel
theorem dX12_findWays_90 : decode cX12_findWays 90 = .ok (.iastore, 1) := by decide +kernel
theorem dX12_findWays_91 : decode cX12_findWays 91 = .ok (.iinc 2 (-1), 3) := by decide +kernel
theorem dX12_findWays_94 : decode cX12_findWays 94 = .ok (.goto (-77), 3) := by decide +kernel
theorem dX12_findWays_97 : decode cX12_findWays 97 = .ok (.return_, 1) := by decide +kernel
theorem dX12_read_0 : decode cX12_read 0 = .ok (.iload_n 1, 1) := by decide +kernel
theorem dX12_read_1 : decode cX12_read 1 = .ok (.invokestatic 121, 3) := by decide +kernel
theorem dX12_read_4 : decode cX12_read 4 = .ok (.ifCond .ne 5, 3) := by decide +kernel
theorem dX12_read_7 : decode cX12_read 7 = .ok (.iconst (-1), 1) := by decide +kernel
theorem dX12_read_8 : decode cX12_read 8 = .ok (.ireturn, 1) := by decide +kernel
theorem dX12_read_9 : decode cX12_read 9 = .ok (.aload_n 0, 1) := by decide +kernel
theorem dX12_read_10 : decode cX12_read 10 = .ok (.iload_n 1, 1) := by decide +kernel
theorem dX12_read_11 : decode cX12_read 11 = .ok (.invokevirtual 198, 3) := by decide +kernel
theorem dX12_read_14 : decode cX12_read 14 = .ok (.iload_n 2, 1) := by decide +kernel
theorem dX12_read_15 : decode cX12_read 15 = .ok (.iconst (-1), 1) := by decide +kernel
theorem dX12_read_16 : decode cX12_read 16 = .ok (.if_icmp .ne 10, 3) := by decide +kernel
theorem dX12_read_19 : decode cX12_read 19 = .ok (.aload_n 0, 1) := by decide +kernel
theorem dX12_read_20 : decode cX12_read 20 = .ok (.getfield 43, 3) := by decide +kernel
theorem dX12_read_23 : decode cX12_read 23 = .ok (.iconst 0, 1) := by decide +kernel
theorem dX12_read_24 : decode cX12_read 24 = .ok (.iaload, 1) := by decide +kernel
theorem dX12_read_25 : decode cX12_read 25 = .ok (.ireturn, 1) := by decide +kernel
theorem dX12_read_26 : decode cX12_read 26 = .ok (.iconst 0, 1) := by decide +kernel
theorem dX12_read_27 : decode cX12_read 27 = .ok (.istore_n 3, 1) := by decide +kernel
theorem dX12_read_28 : decode cX12_read 28 = .ok (.iconst 0, 1) := by decide +kernel
theorem dX12_read_29 : decode cX12_read 29 = .ok (.istore 4, 2) := by decide +kernel
theorem dX12_read_31 : decode cX12_read 31 = .ok (.iload_n 3, 1) := by decide +kernel
theorem dX12_read_32 : decode cX12_read 32 = .ok (.aload_n 0, 1) := by decide +kernel
theorem dX12_read_33 : decode cX12_read 33 = .ok (.getfield 134, 3) := by decide +kernel
theorem dX12_read_36 : decode cX12_read 36 = .ok (.if_icmp .ge 85, 3) := by decide +kernel
theorem dX12_read_39 : decode cX12_read 39 = .ok (.aload_n 0, 1) := by decide +kernel
theorem dX12_read_40 : decode cX12_read 40 = .ok (.getfield 43, 3) := by decide +kernel
theorem dX12_read_43 : decode cX12_read 43 = .ok (.iconst 0, 1) := by decide +kernel
theorem dX12_read_44 : decode cX12_read 44 = .ok (.iaload, 1) := by decide +kernel
theorem dX12_read_45 : decode cX12_read 45 = .ok (.ifCond .le 76, 3) := by decide +kernel
theorem dX12_read_48 : decode cX12_read 48 = .ok (.iconst 0, 1) := by decide +kernel
theorem dX12_read_49 : decode cX12_read 49 = .ok (.istore 5, 2) := by decide +kernel
theorem dX12_read_51 : decode cX12_read 51 = .ok (.aload_n 0, 1) := by decide +kernel
theorem dX12_read_52 : decode cX12_read 52 = .ok (.iload_n 1, 1) := by decide +kernel
theorem dX12_read_53 : decode cX12_read 53 = .ok (.iload 5, 2) := by decide +kernel
theorem dX12_read_55 : decode cX12_read 55 = .ok (.iload_n 3, 1) := by decide +kernel
theorem dX12_read_56 : decode cX12_read 56 = .ok (.invokevirtual 194, 3) := by decide +kernel
theorem dX12_read_59 : decode cX12_read 59 = .ok (.ifCond .ne 9, 3) := by decide +kernel
theorem dX12_read_62 : decode cX12_read 62 = .ok (.iinc 5 1, 3) := by decide +kernel
theorem dX12_read_65 : decode cX12_read 65 = .ok (.goto (-14), 3) := by decide +kernel
theorem dX12_read_68 : decode cX12_read 68 = .ok (.iconst 0, 1) := by decide +kernel
theorem dX12_read_69 : decode cX12_read 69 = .ok (.istore 6, 2) := by decide +kernel
theorem dX12_read_71 : decode cX12_read 71 = .ok (.iload 6, 2) := by decide +kernel
theorem dX12_read_73 : decode cX12_read 73 = .ok (.aload_n 0, 1) := by decide +kernel
theorem dX12_read_74 : decode cX12_read 74 = .ok (.iload_n 1, 1) := by decide +kernel
theorem dX12_read_75 : decode cX12_read 75 = .ok (.iload 5, 2) := by decide +kernel
theorem dX12_read_77 : decode cX12_read 77 = .ok (.invokevirtual 158, 3) := by decide +kernel
theorem dX12_read_80 : decode cX12_read 80 = .ok (.if_icmp .ge 28, 3) := by decide +kernel
theorem dX12_read_83 : decode cX12_read 83 = .ok (.iload 4, 2) := by decide +kernel
theorem dX12_read_85 : decode cX12_read 85 = .ok (.iload_n 2, 1) := by decide +kernel
theorem dX12_read_86 : decode cX12_read 86 = .ok (.if_icmp .ne 13, 3) := by decide +kernel
theorem dX12_read_89 : decode cX12_read 89 = .ok (.aload_n 0, 1) := by decide +kernel
theorem dX12_read_90 : decode cX12_read 90 = .ok (.iload_n 1, 1) := by decide +kernel
theorem dX12_read_91 : decode cX12_read 91 = .ok (.iload 5, 2) := by decide +kernel
theorem dX12_read_93 : decode cX12_read 93 = .ok (.iload 6, 2) := by decide +kernel
theorem dX12_read_95 : decode cX12_read 95 = .ok (.invokevirtual 164, 3) := by decide +kernel
theorem dX12_read_98 : decode cX12_read 98 = .ok (.ireturn, 1) := by decide +kernel
theorem dX12_read_99 : decode cX12_read 99 = .ok (.iinc 4 1, 3) := by decide +kernel
theorem dX12_read_102 : decode cX12_read 102 = .ok (.iinc 6 1, 3) := by decide +kernel
theorem dX12_read_105 : decode cX12_read 105 = .ok (.goto (-34), 3) := by decide +kernel
theorem dX12_read_108 : decode cX12_read 108 = .ok (.iload_n 3, 1) := by decide +kernel
theorem dX12_read_109 : decode cX12_read 109 = .ok (.aload_n 0, 1) := by decide +kernel
theorem dX12_read_110 : decode cX12_read 110 = .ok (.iload_n 1, 1) := by decide +kernel
theorem dX12_read_111 : decode cX12_read 111 = .ok (.iload 5, 2) := by decide +kernel
theorem dX12_read_113 : decode cX12_read 113 = .ok (.invokevirtual 142, 3) := by decide +kernel
theorem dX12_read_116 : decode cX12_read 116 = .ok (.iadd, 1) := by decide +kernel
theorem dX12_read_117 : decode cX12_read 117 = .ok (.istore_n 3, 1) := by decide +kernel
theorem dX12_read_118 : decode cX12_read 118 = .ok (.goto (-87), 3) := by decide +kernel
theorem dX12_read_121 : decode cX12_read 121 = .ok (.iload_n 2, 1) := by decide +kernel
theorem dX12_read_122 : decode cX12_read 122 = .ok (.bipush (-2), 2) := by decide +kernel
theorem dX12_read_124 : decode cX12_read 124 = .ok (.if_icmp .ne 8, 3) := by decide +kernel
theorem dX12_read_127 : decode cX12_read 127 = .ok (.iload 4, 2) := by decide +kernel
theorem dX12_read_129 : decode cX12_read 129 = .ok (.goto 5, 3) := by decide +kernel
theorem dX12_read_132 : decode cX12_read 132 = .ok (.bipush (-6), 2) := by decide +kernel
theorem dX12_read_134 : decode cX12_read 134 = .ok (.ireturn, 1) := by decide +kernel
theorem dX12_countItems_0 : decode cX12_countItems 0 = .ok (.iconst 0, 1) := by decide +kernel
theorem dX12_countItems_1 : decode cX12_countItems 1 = .ok (.istore_n 2, 1) := by decide +kernel
theorem dX12_countItems_2 : decode cX12_countItems 2 = .ok (.iload_n 2, 1) := by decide +kernel
theorem dX12_countItems_3 : decode cX12_countItems 3 = .ok (.bipush 64, 2) := by decide +kernel
theorem dX12_countItems_5 : decode cX12_countItems 5 = .ok (.if_icmp .ge 16, 3) := by decide +kernel
theorem dX12_countItems_8 : decode cX12_countItems 8 = .ok (.aload_n 0, 1) := by decide +kernel
theorem dX12_countItems_9 : decode cX12_countItems 9 = .ok (.getfield 46, 3) := by decide +kernel
theorem dX12_countItems_12 : decode cX12_countItems 12 = .ok (.iload_n 2, 1) := by decide +kernel
theorem dX12_countItems_13 : decode cX12_countItems 13 = .ok (.iconst 0, 1) := by decide +kernel
theorem dX12_countItems_14 : decode cX12_countItems 14 = .ok (.iastore, 1) := by decide +kernel
theorem dX12_countItems_15 : decode cX12_countItems 15 = .ok (.iinc 2 1, 3) := by decide +kernel
theorem dX12_countItems_18 : decode cX12_countItems 18 = .ok (.goto (-16), 3) := by decide +kernel
theorem dX12_countItems_21 : decode cX12_countItems 21 = .ok (.iconst 0, 1) := by decide +kernel
theorem dX12_countItems_22 : decode cX12_countItems 22 = .ok (.istore_n 2, 1) := by decide +kernel
theorem dX12_countItems_23 : decode cX12_countItems 23 = .ok (.iload_n 2, 1) := by decide +kernel
theorem dX12_countItems_24 : decode cX12_countItems 24 = .ok (.sipush 4096, 3) := by decide +kernel
theorem dX12_countItems_27 : decode cX12_countItems 27 = .ok (.if_icmp .ge 16, 3) := by decide +kernel
theorem dX12_countItems_30 : decode cX12_countItems 30 = .ok (.aload_n 0, 1) := by decide +kernel
theorem dX12_countItems_31 : decode cX12_countItems 31 = .ok (.getfield 49, 3) := by decide +kernel
theorem dX12_countItems_34 : decode cX12_countItems 34 = .ok (.iload_n 2, 1) := by decide +kernel
theorem dX12_countItems_35 : decode cX12_countItems 35 = .ok (.iconst 0, 1) := by decide +kernel
theorem dX12_countItems_36 : decode cX12_countItems 36 = .ok (.iastore, 1) := by decide +kernel
theorem dX12_countItems_37 : decode cX12_countItems 37 = .ok (.iinc 2 1, 3) := by decide +kernel
theorem dX12_countItems_40 : decode cX12_countItems 40 = .ok (.goto (-17), 3) := by decide +kernel
theorem dX12_countItems_43 : decode cX12_countItems 43 = .ok (.iconst 0, 1) := by decide +kernel
theorem dX12_countItems_44 : decode cX12_countItems 44 = .ok (.istore_n 2, 1) := by decide +kernel
theorem dX12_countItems_45 : decode cX12_countItems 45 = .ok (.iload_n 2, 1) := by decide +kernel
theorem dX12_countItems_46 : decode cX12_countItems 46 = .ok (.bipush 38, 2) := by decide +kernel
theorem dX12_countItems_48 : decode cX12_countItems 48 = .ok (.if_icmp .ge 83, 3) := by decide +kernel
theorem dX12_countItems_51 : decode cX12_countItems 51 = .ok (.aload_n 0, 1) := by decide +kernel
theorem dX12_countItems_52 : decode cX12_countItems 52 = .ok (.iload_n 1, 1) := by decide +kernel
theorem dX12_countItems_53 : decode cX12_countItems 53 = .ok (.iload_n 2, 1) := by decide +kernel
theorem dX12_countItems_54 : decode cX12_countItems 54 = .ok (.invokevirtual 154, 3) := by decide +kernel
theorem dX12_countItems_57 : decode cX12_countItems 57 = .ok (.ifCond .eq 32, 3) := by decide +kernel
theorem dX12_countItems_60 : decode cX12_countItems 60 = .ok (.aload_n 0, 1) := by decide +kernel
theorem dX12_countItems_61 : decode cX12_countItems 61 = .ok (.iload_n 1, 1) := by decide +kernel
theorem dX12_countItems_62 : decode cX12_countItems 62 = .ok (.iload_n 2, 1) := by decide +kernel
theorem dX12_countItems_63 : decode cX12_countItems 63 = .ok (.invokevirtual 142, 3) := by decide +kernel
theorem dX12_countItems_66 : decode cX12_countItems 66 = .ok (.iconst 1, 1) := by decide +kernel
theorem dX12_countItems_67 : decode cX12_countItems 67 = .ok (.if_icmp .ne 22, 3) := by decide +kernel
theorem dX12_countItems_70 : decode cX12_countItems 70 = .ok (.aload_n 0, 1) := by decide +kernel
theorem dX12_countItems_71 : decode cX12_countItems 71 = .ok (.getfield 46, 3) := by decide +kernel
theorem dX12_countItems_74 : decode cX12_countItems 74 = .ok (.aload_n 0, 1) := by decide +kernel
theorem dX12_countItems_75 : decode cX12_countItems 75 = .ok (.iload_n 1, 1) := by decide +kernel
theorem dX12_countItems_76 : decode cX12_countItems 76 = .ok (.iload_n 2, 1) := by decide +kernel
theorem dX12_countItems_77 : decode cX12_countItems 77 = .ok (.iconst 0, 1) := by decide +kernel
theorem dX12_countItems_78 : decode cX12_countItems 78 = .ok (.invokevirtual 146, 3) := by decide +kernel
theorem dX12_countItems_81 : decode cX12_countItems 81 = .ok (.dup2, 1) := by decide +kernel
theorem dX12_countItems_82 : decode cX12_countItems 82 = .ok (.iaload, 1) := by decide +kernel
theorem dX12_countItems_83 : decode cX12_countItems 83 = .ok (.iconst 1, 1) := by decide +kernel
theorem dX12_countItems_84 : decode cX12_countItems 84 = .ok (.iadd, 1) := by decide +kernel
theorem dX12_countItems_85 : decode cX12_countItems 85 = .ok (.iastore, 1) := by decide +kernel
theorem dX12_countItems_86 : decode cX12_countItems 86 = .ok (.goto 39, 3) := by decide +kernel
theorem dX12_countItems_89 : decode cX12_countItems 89 = .ok (.aload_n 0, 1) := by decide +kernel
theorem dX12_countItems_90 : decode cX12_countItems 90 = .ok (.iload_n 1, 1) := by decide +kernel
theorem dX12_countItems_91 : decode cX12_countItems 91 = .ok (.iload_n 2, 1) := by decide +kernel
theorem dX12_countItems_92 : decode cX12_countItems 92 = .ok (.invokevirtual 154, 3) := by decide +kernel
theorem dX12_countItems_95 : decode cX12_countItems 95 = .ok (.ifCond .eq 30, 3) := by decide +kernel
theorem dX12_countItems_98 : decode cX12_countItems 98 = .ok (.aload_n 0, 1) := by decide +kernel
theorem dX12_countItems_99 : decode cX12_countItems 99 = .ok (.getfield 49, 3) := by decide +kernel
theorem dX12_countItems_102 : decode cX12_countItems 102 = .ok (.bipush 64, 2) := by decide +kernel
theorem dX12_countItems_104 : decode cX12_countItems 104 = .ok (.aload_n 0, 1) := by decide +kernel
theorem dX12_countItems_105 : decode cX12_countItems 105 = .ok (.iload_n 1, 1) := by decide +kernel
theorem dX12_countItems_106 : decode cX12_countItems 106 = .ok (.iload_n 2, 1) := by decide +kernel
theorem dX12_countItems_107 : decode cX12_countItems 107 = .ok (.iconst 0, 1) := by decide +kernel
theorem dX12_countItems_108 : decode cX12_countItems 108 = .ok (.invokevirtual 146, 3) := by decide +kernel
theorem dX12_countItems_111 : decode cX12_countItems 111 = .ok (.imul, 1) := by decide +kernel
theorem dX12_countItems_112 : decode cX12_countItems 112 = .ok (.aload_n 0, 1) := by decide +kernel
theorem dX12_countItems_113 : decode cX12_countItems 113 = .ok (.iload_n 1, 1) := by decide +kernel
theorem dX12_countItems_114 : decode cX12_countItems 114 = .ok (.iload_n 2, 1) := by decide +kernel
theorem dX12_countItems_115 : decode cX12_countItems 115 = .ok (.iconst 1, 1) := by decide +kernel
theorem dX12_countItems_116 : decode cX12_countItems 116 = .ok (.invokevirtual 146, 3) := by decide +kernel
theorem dX12_countItems_119 : decode cX12_countItems 119 = .ok (.iadd, 1) := by decide +kernel
theorem dX12_countItems_120 : decode cX12_countItems 120 = .ok (.dup2, 1) := by decide +kernel
theorem dX12_countItems_121 : decode cX12_countItems 121 = .ok (.iaload, 1) := by decide +kernel
theorem dX12_countItems_122 : decode cX12_countItems 122 = .ok (.iconst 1, 1) := by decide +kernel
theorem dX12_countItems_123 : decode cX12_countItems 123 = .ok (.iadd, 1) := by decide +kernel
theorem dX12_countItems_124 : decode cX12_countItems 124 = .ok (.iastore, 1) := by decide +kernel
theorem dX12_countItems_125 : decode cX12_countItems 125 = .ok (.iinc 2 1, 3) := by decide +kernel
theorem dX12_countItems_128 : decode cX12_countItems 128 = .ok (.goto (-83), 3) := by decide +kernel
theorem dX12_countItems_131 : decode cX12_countItems 131 = .ok (.return_, 1) := by decide +kernel
theorem dX12_findComes_0 : decode cX12_findComes 0 = .ok (.iconst 0, 1) := by decide +kernel
theorem dX12_findComes_1 : decode cX12_findComes 1 = .ok (.istore_n 1, 1) := by decide +kernel
theorem dX12_findComes_2 : decode cX12_findComes 2 = .ok (.iload_n 1, 1) := by decide +kernel
theorem dX12_findComes_3 : decode cX12_findComes 3 = .ok (.bipush 64, 2) := by decide +kernel
theorem dX12_findComes_5 : decode cX12_findComes 5 = .ok (.if_icmp .ge 29, 3) := by decide +kernel
theorem dX12_findComes_8 : decode cX12_findComes 8 = .ok (.aload_n 0, 1) := by decide +kernel
theorem dX12_findComes_9 : decode cX12_findComes 9 = .ok (.getfield 52, 3) := by decide +kernel
theorem dX12_findComes_12 : decode cX12_findComes 12 = .ok (.iload_n 1, 1) := by decide +kernel
theorem dX12_findComes_13 : decode cX12_findComes 13 = .ok (.aload_n 0, 1) := by decide +kernel
theorem dX12_findComes_14 : decode cX12_findComes 14 = .ok (.getfield 46, 3) := by decide +kernel
theorem dX12_findComes_17 : decode cX12_findComes 17 = .ok (.iload_n 1, 1) := by decide +kernel
theorem dX12_findComes_18 : decode cX12_findComes 18 = .ok (.iaload, 1) := by decide +kernel
theorem dX12_findComes_19 : decode cX12_findComes 19 = .ok (.ifCond .le 7, 3) := by decide +kernel
theorem dX12_findComes_22 : decode cX12_findComes 22 = .ok (.iconst 1, 1) := by decide +kernel
theorem dX12_findComes_23 : decode cX12_findComes 23 = .ok (.goto 4, 3) := by decide +kernel
theorem dX12_findComes_26 : decode cX12_findComes 26 = .ok (.iconst 0, 1) := by decide +kernel
theorem dX12_findComes_27 : decode cX12_findComes 27 = .ok (.bastore, 1) := by decide +kernel
theorem dX12_findComes_28 : decode cX12_findComes 28 = .ok (.iinc 1 1, 3) := by decide +kernel
theorem dX12_findComes_31 : decode cX12_findComes 31 = .ok (.goto (-29), 3) := by decide +kernel
theorem dX12_findComes_34 : decode cX12_findComes 34 = .ok (.iconst 1, 1) := by decide +kernel
theorem dX12_findComes_35 : decode cX12_findComes 35 = .ok (.istore_n 1, 1) := by decide +kernel
theorem dX12_findComes_36 : decode cX12_findComes 36 = .ok (.iload_n 1, 1) := by decide +kernel
theorem dX12_findComes_37 : decode cX12_findComes 37 = .ok (.bipush 15, 2) := by decide +kernel
theorem dX12_findComes_39 : decode cX12_findComes 39 = .ok (.if_icmp .ge 95, 3) := by decide +kernel
theorem dX12_findComes_42 : decode cX12_findComes 42 = .ok (.iconst 0, 1) := by decide +kernel
theorem dX12_findComes_43 : decode cX12_findComes 43 = .ok (.istore_n 2, 1) := by decide +kernel
theorem dX12_findComes_44 : decode cX12_findComes 44 = .ok (.iload_n 2, 1) := by decide +kernel
theorem dX12_findComes_45 : decode cX12_findComes 45 = .ok (.bipush 64, 2) := by decide +kernel
theorem dX12_findComes_47 : decode cX12_findComes 47 = .ok (.if_icmp .ge 81, 3) := by decide +kernel
theorem dX12_findComes_50 : decode cX12_findComes 50 = .ok (.iconst 0, 1) := by decide +kernel
theorem dX12_findComes_51 : decode cX12_findComes 51 = .ok (.istore_n 3, 1) := by decide +kernel
theorem dX12_findComes_52 : decode cX12_findComes 52 = .ok (.iconst 0, 1) := by decide +kernel
theorem dX12_findComes_53 : decode cX12_findComes 53 = .ok (.istore 4, 2) := by decide +kernel
theorem dX12_findComes_55 : decode cX12_findComes 55 = .ok (.iload 4, 2) := by decide +kernel
theorem dX12_findComes_57 : decode cX12_findComes 57 = .ok (.bipush 64, 2) := by decide +kernel
theorem dX12_findComes_59 : decode cX12_findComes 59 = .ok (.if_icmp .ge 51, 3) := by decide +kernel
theorem dX12_findComes_62 : decode cX12_findComes 62 = .ok (.iload_n 3, 1) := by decide +kernel
theorem dX12_findComes_63 : decode cX12_findComes 63 = .ok (.ifCond .ne 35, 3) := by decide +kernel
theorem dX12_findComes_66 : decode cX12_findComes 66 = .ok (.aload_n 0, 1) := by decide +kernel
theorem dX12_findComes_67 : decode cX12_findComes 67 = .ok (.getfield 49, 3) := by decide +kernel
theorem dX12_findComes_70 : decode cX12_findComes 70 = .ok (.bipush 64, 2) := by decide +kernel
theorem dX12_findComes_72 : decode cX12_findComes 72 = .ok (.iload_n 2, 1) := by decide +kernel
theorem dX12_findComes_73 : decode cX12_findComes 73 = .ok (.imul, 1) := by decide +kernel
theorem dX12_findComes_74 : decode cX12_findComes 74 = .ok (.iload 4, 2) := by decide +kernel
theorem dX12_findComes_76 : decode cX12_findComes 76 = .ok (.iadd, 1) := by decide +kernel
theorem dX12_findComes_77 : decode cX12_findComes 77 = .ok (.iaload, 1) := by decide +kernel
theorem dX12_findComes_78 : decode cX12_findComes 78 = .ok (.ifCond .le 24, 3) := by decide +kernel
theorem dX12_findComes_81 : decode cX12_findComes 81 = .ok (.aload_n 0, 1) := by decide +kernel
theorem dX12_findComes_82 : decode cX12_findComes 82 = .ok (.getfield 52, 3) := by decide +kernel
theorem dX12_findComes_85 : decode cX12_findComes 85 = .ok (.bipush 64, 2) := by decide +kernel
theorem dX12_findComes_87 : decode cX12_findComes 87 = .ok (.iload_n 1, 1) := by decide +kernel
theorem dX12_findComes_88 : decode cX12_findComes 88 = .ok (.iconst 1, 1) := by decide +kernel
theorem dX12_findComes_89 : decode cX12_findComes 89 = .ok (.isub, 1) := by decide +kernel
theorem dX12_findComes_90 : decode cX12_findComes 90 = .ok (.imul, 1) := by decide +kernel
theorem dX12_findComes_91 : decode cX12_findComes 91 = .ok (.iload 4, 2) := by decide +kernel
theorem dX12_findComes_93 : decode cX12_findComes 93 = .ok (.iadd, 1) := by decide +kernel
theorem dX12_findComes_94 : decode cX12_findComes 94 = .ok (.baload, 1) := by decide +kernel
theorem dX12_findComes_95 : decode cX12_findComes 95 = .ok (.ifCond .eq 7, 3) := by decide +kernel
theorem dX12_findComes_98 : decode cX12_findComes 98 = .ok (.iconst 1, 1) := by decide +kernel
theorem dX12_findComes_99 : decode cX12_findComes 99 = .ok (.goto 4, 3) := by decide +kernel
theorem dX12_findComes_102 : decode cX12_findComes 102 = .ok (.iconst 0, 1) := by decide +kernel
theorem dX12_findComes_103 : decode cX12_findComes 103 = .ok (.istore_n 3, 1) := by decide +kernel
theorem dX12_findComes_104 : decode cX12_findComes 104 = .ok (.iinc 4 1, 3) := by decide +kernel
theorem dX12_findComes_107 : decode cX12_findComes 107 = .ok (.goto (-52), 3) := by decide +kernel
theorem dX12_findComes_110 : decode cX12_findComes 110 = .ok (.aload_n 0, 1) := by decide +kernel
theorem dX12_findComes_111 : decode cX12_findComes 111 = .ok (.getfield 52, 3) := by decide +kernel
theorem dX12_findComes_114 : decode cX12_findComes 114 = .ok (.bipush 64, 2) := by decide +kernel
theorem dX12_findComes_116 : decode cX12_findComes 116 = .ok (.iload_n 1, 1) := by decide +kernel
theorem dX12_findComes_117 : decode cX12_findComes 117 = .ok (.imul, 1) := by decide +kernel
theorem dX12_findComes_118 : decode cX12_findComes 118 = .ok (.iload_n 2, 1) := by decide +kernel
theorem dX12_findComes_119 : decode cX12_findComes 119 = .ok (.iadd, 1) := by decide +kernel
theorem dX12_findComes_120 : decode cX12_findComes 120 = .ok (.iload_n 3, 1) := by decide +kernel
theorem dX12_findComes_121 : decode cX12_findComes 121 = .ok (.bastore, 1) := by decide +kernel
theorem dX12_findComes_122 : decode cX12_findComes 122 = .ok (.iinc 2 1, 3) := by decide +kernel
theorem dX12_findComes_125 : decode cX12_findComes 125 = .ok (.goto (-81), 3) := by decide +kernel
theorem dX12_findComes_128 : decode cX12_findComes 128 = .ok (.iinc 1 1, 3) := by decide +kernel
theorem dX12_findComes_131 : decode cX12_findComes 131 = .ok (.goto (-95), 3) := by decide +kernel
theorem dX12_findComes_134 : decode cX12_findComes 134 = .ok (.return_, 1) := by decide +kernel
theorem dX12_layTwoWays_0 : decode cX12_layTwoWays 0 = .ok (.iconst (-1), 1) := by decide +kernel
theorem dX12_layTwoWays_1 : decode cX12_layTwoWays 1 = .ok (.istore_n 2, 1) := by decide +kernel
theorem dX12_layTwoWays_2 : decode cX12_layTwoWays 2 = .ok (.iconst 0, 1) := by decide +kernel
theorem dX12_layTwoWays_3 : decode cX12_layTwoWays 3 = .ok (.istore_n 3, 1) := by decide +kernel
theorem dX12_layTwoWays_4 : decode cX12_layTwoWays 4 = .ok (.iload_n 3, 1) := by decide +kernel
theorem dX12_layTwoWays_5 : decode cX12_layTwoWays 5 = .ok (.bipush 64, 2) := by decide +kernel
theorem dX12_layTwoWays_7 : decode cX12_layTwoWays 7 = .ok (.if_icmp .ge 42, 3) := by decide +kernel
theorem dX12_layTwoWays_10 : decode cX12_layTwoWays 10 = .ok (.iload_n 2, 1) := by decide +kernel
theorem dX12_layTwoWays_11 : decode cX12_layTwoWays 11 = .ok (.ifCond .ge 38, 3) := by decide +kernel
theorem dX12_layTwoWays_14 : decode cX12_layTwoWays 14 = .ok (.aload_n 0, 1) := by decide +kernel
theorem dX12_layTwoWays_15 : decode cX12_layTwoWays 15 = .ok (.getfield 46, 3) := by decide +kernel
theorem dX12_layTwoWays_18 : decode cX12_layTwoWays 18 = .ok (.iload_n 3, 1) := by decide +kernel
theorem dX12_layTwoWays_19 : decode cX12_layTwoWays 19 = .ok (.iaload, 1) := by decide +kernel
theorem dX12_layTwoWays_20 : decode cX12_layTwoWays 20 = .ok (.ifCond .le 21, 3) := by decide +kernel
theorem dX12_layTwoWays_23 : decode cX12_layTwoWays 23 = .ok (.aload_n 0, 1) := by decide +kernel
theorem dX12_layTwoWays_24 : decode cX12_layTwoWays 24 = .ok (.getfield 52, 3) := by decide +kernel
theorem dX12_layTwoWays_27 : decode cX12_layTwoWays 27 = .ok (.bipush 64, 2) := by decide +kernel
theorem dX12_layTwoWays_29 : decode cX12_layTwoWays 29 = .ok (.iload_n 1, 1) := by decide +kernel
theorem dX12_layTwoWays_30 : decode cX12_layTwoWays 30 = .ok (.imul, 1) := by decide +kernel
theorem dX12_layTwoWays_31 : decode cX12_layTwoWays 31 = .ok (.iload_n 3, 1) := by decide +kernel
theorem dX12_layTwoWays_32 : decode cX12_layTwoWays 32 = .ok (.iadd, 1) := by decide +kernel
theorem dX12_layTwoWays_33 : decode cX12_layTwoWays 33 = .ok (.baload, 1) := by decide +kernel
theorem dX12_layTwoWays_34 : decode cX12_layTwoWays 34 = .ok (.ifCond .eq 7, 3) := by decide +kernel
theorem dX12_layTwoWays_37 : decode cX12_layTwoWays 37 = .ok (.iload_n 3, 1) := by decide +kernel
theorem dX12_layTwoWays_38 : decode cX12_layTwoWays 38 = .ok (.goto 4, 3) := by decide +kernel
theorem dX12_layTwoWays_41 : decode cX12_layTwoWays 41 = .ok (.iload_n 2, 1) := by decide +kernel
theorem dX12_layTwoWays_42 : decode cX12_layTwoWays 42 = .ok (.istore_n 2, 1) := by decide +kernel
theorem dX12_layTwoWays_43 : decode cX12_layTwoWays 43 = .ok (.iinc 3 1, 3) := by decide +kernel
theorem dX12_layTwoWays_46 : decode cX12_layTwoWays 46 = .ok (.goto (-42), 3) := by decide +kernel
theorem dX12_layTwoWays_49 : decode cX12_layTwoWays 49 = .ok (.iconst (-1), 1) := by decide +kernel
theorem dX12_layTwoWays_50 : decode cX12_layTwoWays 50 = .ok (.istore_n 3, 1) := by decide +kernel
theorem dX12_layTwoWays_51 : decode cX12_layTwoWays 51 = .ok (.iconst 0, 1) := by decide +kernel
theorem dX12_layTwoWays_52 : decode cX12_layTwoWays 52 = .ok (.istore 4, 2) := by decide +kernel
theorem dX12_layTwoWays_54 : decode cX12_layTwoWays 54 = .ok (.iload 4, 2) := by decide +kernel
theorem dX12_layTwoWays_56 : decode cX12_layTwoWays 56 = .ok (.sipush 4096, 3) := by decide +kernel
theorem dX12_layTwoWays_59 : decode cX12_layTwoWays 59 = .ok (.if_icmp .ge 36, 3) := by decide +kernel
theorem dX12_layTwoWays_62 : decode cX12_layTwoWays 62 = .ok (.iload_n 1, 1) := by decide +kernel
theorem dX12_layTwoWays_63 : decode cX12_layTwoWays 63 = .ok (.iconst 1, 1) := by decide +kernel
theorem dX12_layTwoWays_64 : decode cX12_layTwoWays 64 = .ok (.if_icmp .ne 31, 3) := by decide +kernel
theorem dX12_layTwoWays_67 : decode cX12_layTwoWays 67 = .ok (.iload_n 3, 1) := by decide +kernel
theorem dX12_layTwoWays_68 : decode cX12_layTwoWays 68 = .ok (.ifCond .ge 27, 3) := by decide +kernel
theorem dX12_layTwoWays_71 : decode cX12_layTwoWays 71 = .ok (.aload_n 0, 1) := by decide +kernel
theorem dX12_layTwoWays_72 : decode cX12_layTwoWays 72 = .ok (.getfield 49, 3) := by decide +kernel
theorem dX12_layTwoWays_75 : decode cX12_layTwoWays 75 = .ok (.iload 4, 2) := by decide +kernel
theorem dX12_layTwoWays_77 : decode cX12_layTwoWays 77 = .ok (.iaload, 1) := by decide +kernel
theorem dX12_layTwoWays_78 : decode cX12_layTwoWays 78 = .ok (.iconst 1, 1) := by decide +kernel
theorem dX12_layTwoWays_79 : decode cX12_layTwoWays 79 = .ok (.if_icmp .le 8, 3) := by decide +kernel
theorem dX12_layTwoWays_82 : decode cX12_layTwoWays 82 = .ok (.iload 4, 2) := by decide +kernel
theorem dX12_layTwoWays_84 : decode cX12_layTwoWays 84 = .ok (.goto 4, 3) := by decide +kernel
theorem dX12_layTwoWays_87 : decode cX12_layTwoWays 87 = .ok (.iload_n 3, 1) := by decide +kernel
theorem dX12_layTwoWays_88 : decode cX12_layTwoWays 88 = .ok (.istore_n 3, 1) := by decide +kernel
theorem dX12_layTwoWays_89 : decode cX12_layTwoWays 89 = .ok (.iinc 4 1, 3) := by decide +kernel
theorem dX12_layTwoWays_92 : decode cX12_layTwoWays 92 = .ok (.goto (-38), 3) := by decide +kernel
theorem dX12_layTwoWays_95 : decode cX12_layTwoWays 95 = .ok (.iload_n 2, 1) := by decide +kernel
theorem dX12_layTwoWays_96 : decode cX12_layTwoWays 96 = .ok (.ifCond .ge 9, 3) := by decide +kernel
theorem dX12_layTwoWays_99 : decode cX12_layTwoWays 99 = .ok (.iload_n 3, 1) := by decide +kernel
theorem dX12_layTwoWays_100 : decode cX12_layTwoWays 100 = .ok (.ifCond .ge 5, 3) := by decide +kernel
theorem dX12_layTwoWays_103 : decode cX12_layTwoWays 103 = .ok (.iconst 0, 1) := by decide +kernel
theorem dX12_layTwoWays_104 : decode cX12_layTwoWays 104 = .ok (.ireturn, 1) := by decide +kernel
theorem dX12_layTwoWays_105 : decode cX12_layTwoWays 105 = .ok (.iconst 0, 1) := by decide +kernel
theorem dX12_layTwoWays_106 : decode cX12_layTwoWays 106 = .ok (.istore 4, 2) := by decide +kernel
theorem dX12_layTwoWays_108 : decode cX12_layTwoWays 108 = .ok (.iload 4, 2) := by decide +kernel
theorem dX12_layTwoWays_110 : decode cX12_layTwoWays 110 = .ok (.iload_n 1, 1) := by decide +kernel
theorem dX12_layTwoWays_111 : decode cX12_layTwoWays 111 = .ok (.if_icmp .gt 108, 3) := by decide +kernel
theorem dX12_layTwoWays_114 : decode cX12_layTwoWays 114 = .ok (.iload_n 2, 1) := by decide +kernel
theorem dX12_layTwoWays_115 : decode cX12_layTwoWays 115 = .ok (.ifCond .lt 104, 3) := by decide +kernel
theorem dX12_layTwoWays_118 : decode cX12_layTwoWays 118 = .ok (.aload_n 0, 1) := by decide +kernel
theorem dX12_layTwoWays_119 : decode cX12_layTwoWays 119 = .ok (.getfield 56, 3) := by decide +kernel
theorem dX12_layTwoWays_122 : decode cX12_layTwoWays 122 = .ok (.iload 4, 2) := by decide +kernel
theorem dX12_layTwoWays_124 : decode cX12_layTwoWays 124 = .ok (.iload_n 2, 1) := by decide +kernel
theorem dX12_layTwoWays_125 : decode cX12_layTwoWays 125 = .ok (.iastore, 1) := by decide +kernel
theorem dX12_layTwoWays_126 : decode cX12_layTwoWays 126 = .ok (.iconst (-1), 1) := by decide +kernel
theorem dX12_layTwoWays_127 : decode cX12_layTwoWays 127 = .ok (.istore 5, 2) := by decide +kernel
theorem dX12_layTwoWays_129 : decode cX12_layTwoWays 129 = .ok (.iconst 0, 1) := by decide +kernel
theorem dX12_layTwoWays_130 : decode cX12_layTwoWays 130 = .ok (.istore 6, 2) := by decide +kernel
theorem dX12_layTwoWays_132 : decode cX12_layTwoWays 132 = .ok (.iload 6, 2) := by decide +kernel
theorem dX12_layTwoWays_134 : decode cX12_layTwoWays 134 = .ok (.bipush 64, 2) := by decide +kernel
theorem dX12_layTwoWays_136 : decode cX12_layTwoWays 136 = .ok (.if_icmp .ge 64, 3) := by decide +kernel
theorem dX12_layTwoWays_139 : decode cX12_layTwoWays 139 = .ok (.iload 4, 2) := by decide +kernel
theorem dX12_layTwoWays_141 : decode cX12_layTwoWays 141 = .ok (.iload_n 1, 1) := by decide +kernel
theorem dX12_layTwoWays_142 : decode cX12_layTwoWays 142 = .ok (.if_icmp .ge 58, 3) := by decide +kernel
theorem dX12_layTwoWays_145 : decode cX12_layTwoWays 145 = .ok (.iload 5, 2) := by decide +kernel
theorem dX12_layTwoWays_147 : decode cX12_layTwoWays 147 = .ok (.ifCond .ge 53, 3) := by decide +kernel
theorem dX12_layTwoWays_150 : decode cX12_layTwoWays 150 = .ok (.aload_n 0, 1) := by decide +kernel
theorem dX12_layTwoWays_151 : decode cX12_layTwoWays 151 = .ok (.getfield 49, 3) := by decide +kernel
theorem dX12_layTwoWays_154 : decode cX12_layTwoWays 154 = .ok (.bipush 64, 2) := by decide +kernel
theorem dX12_layTwoWays_156 : decode cX12_layTwoWays 156 = .ok (.iload_n 2, 1) := by decide +kernel
theorem dX12_layTwoWays_157 : decode cX12_layTwoWays 157 = .ok (.imul, 1) := by decide +kernel
theorem dX12_layTwoWays_158 : decode cX12_layTwoWays 158 = .ok (.iload 6, 2) := by decide +kernel
theorem dX12_layTwoWays_160 : decode cX12_layTwoWays 160 = .ok (.iadd, 1) := by decide +kernel
theorem dX12_layTwoWays_161 : decode cX12_layTwoWays 161 = .ok (.iaload, 1) := by decide +kernel
theorem dX12_layTwoWays_162 : decode cX12_layTwoWays 162 = .ok (.ifCond .le 28, 3) := by decide +kernel
theorem dX12_layTwoWays_165 : decode cX12_layTwoWays 165 = .ok (.aload_n 0, 1) := by decide +kernel
theorem dX12_layTwoWays_166 : decode cX12_layTwoWays 166 = .ok (.getfield 52, 3) := by decide +kernel
theorem dX12_layTwoWays_169 : decode cX12_layTwoWays 169 = .ok (.bipush 64, 2) := by decide +kernel
theorem dX12_layTwoWays_171 : decode cX12_layTwoWays 171 = .ok (.iload_n 1, 1) := by decide +kernel
theorem dX12_layTwoWays_172 : decode cX12_layTwoWays 172 = .ok (.iload 4, 2) := by decide +kernel
theorem dX12_layTwoWays_174 : decode cX12_layTwoWays 174 = .ok (.isub, 1) := by decide +kernel
theorem dX12_layTwoWays_175 : decode cX12_layTwoWays 175 = .ok (.iconst 1, 1) := by decide +kernel
theorem dX12_layTwoWays_176 : decode cX12_layTwoWays 176 = .ok (.isub, 1) := by decide +kernel
theorem dX12_layTwoWays_177 : decode cX12_layTwoWays 177 = .ok (.imul, 1) := by decide +kernel
theorem dX12_layTwoWays_178 : decode cX12_layTwoWays 178 = .ok (.iload 6, 2) := by decide +kernel
theorem dX12_layTwoWays_180 : decode cX12_layTwoWays 180 = .ok (.iadd, 1) := by decide +kernel
theorem dX12_layTwoWays_181 : decode cX12_layTwoWays 181 = .ok (.baload, 1) := by decide +kernel
theorem dX12_layTwoWays_182 : decode cX12_layTwoWays 182 = .ok (.ifCond .eq 8, 3) := by decide +kernel
theorem dX12_layTwoWays_185 : decode cX12_layTwoWays 185 = .ok (.iload 6, 2) := by decide +kernel
theorem dX12_layTwoWays_187 : decode cX12_layTwoWays 187 = .ok (.goto 5, 3) := by decide +kernel
theorem dX12_layTwoWays_190 : decode cX12_layTwoWays 190 = .ok (.iload 5, 2) := by decide +kernel
theorem dX12_layTwoWays_192 : decode cX12_layTwoWays 192 = .ok (.istore 5, 2) := by decide +kernel
theorem dX12_layTwoWays_194 : decode cX12_layTwoWays 194 = .ok (.iinc 6 1, 3) := by decide +kernel
theorem dX12_layTwoWays_197 : decode cX12_layTwoWays 197 = .ok (.goto (-65), 3) := by decide +kernel
theorem dX12_layTwoWays_200 : decode cX12_layTwoWays 200 = .ok (.iload 4, 2) := by decide +kernel
theorem dX12_layTwoWays_202 : decode cX12_layTwoWays 202 = .ok (.iload_n 1, 1) := by decide +kernel
theorem dX12_layTwoWays_203 : decode cX12_layTwoWays 203 = .ok (.if_icmp .ge 8, 3) := by decide +kernel
theorem dX12_layTwoWays_206 : decode cX12_layTwoWays 206 = .ok (.iload 5, 2) := by decide +kernel
theorem dX12_layTwoWays_208 : decode cX12_layTwoWays 208 = .ok (.goto 4, 3) := by decide +kernel
theorem dX12_layTwoWays_211 : decode cX12_layTwoWays 211 = .ok (.iload_n 2, 1) := by decide +kernel
theorem dX12_layTwoWays_212 : decode cX12_layTwoWays 212 = .ok (.istore_n 2, 1) := by decide +kernel
theorem dX12_layTwoWays_213 : decode cX12_layTwoWays 213 = .ok (.iinc 4 1, 3) := by decide +kernel
theorem dX12_layTwoWays_216 : decode cX12_layTwoWays 216 = .ok (.goto (-108), 3) := by decide +kernel
theorem dX12_layTwoWays_219 : decode cX12_layTwoWays 219 = .ok (.iload_n 3, 1) := by decide +kernel
theorem dX12_layTwoWays_220 : decode cX12_layTwoWays 220 = .ok (.ifCond .lt 47, 3) := by decide +kernel
theorem dX12_layTwoWays_223 : decode cX12_layTwoWays 223 = .ok (.iload_n 2, 1) := by decide +kernel
theorem dX12_layTwoWays_224 : decode cX12_layTwoWays 224 = .ok (.ifCond .lt 23, 3) := by decide +kernel
theorem dX12_layTwoWays_227 : decode cX12_layTwoWays 227 = .ok (.iload_n 3, 1) := by decide +kernel
theorem dX12_layTwoWays_228 : decode cX12_layTwoWays 228 = .ok (.bipush 64, 2) := by decide +kernel
theorem dX12_layTwoWays_230 : decode cX12_layTwoWays 230 = .ok (.aload_n 0, 1) := by decide +kernel
theorem dX12_layTwoWays_231 : decode cX12_layTwoWays 231 = .ok (.getfield 56, 3) := by decide +kernel
theorem dX12_layTwoWays_234 : decode cX12_layTwoWays 234 = .ok (.iconst 0, 1) := by decide +kernel
theorem dX12_layTwoWays_235 : decode cX12_layTwoWays 235 = .ok (.iaload, 1) := by decide +kernel
theorem dX12_layTwoWays_236 : decode cX12_layTwoWays 236 = .ok (.imul, 1) := by decide +kernel
theorem dX12_layTwoWays_237 : decode cX12_layTwoWays 237 = .ok (.aload_n 0, 1) := by decide +kernel
theorem dX12_layTwoWays_238 : decode cX12_layTwoWays 238 = .ok (.getfield 56, 3) := by decide +kernel
theorem dX12_layTwoWays_241 : decode cX12_layTwoWays 241 = .ok (.iconst 1, 1) := by decide +kernel
theorem dX12_layTwoWays_242 : decode cX12_layTwoWays 242 = .ok (.iaload, 1) := by decide +kernel
theorem dX12_layTwoWays_243 : decode cX12_layTwoWays 243 = .ok (.iadd, 1) := by decide +kernel
theorem dX12_layTwoWays_244 : decode cX12_layTwoWays 244 = .ok (.if_icmp .ge 23, 3) := by decide +kernel
theorem dX12_layTwoWays_247 : decode cX12_layTwoWays 247 = .ok (.aload_n 0, 1) := by decide +kernel
theorem dX12_layTwoWays_248 : decode cX12_layTwoWays 248 = .ok (.getfield 56, 3) := by decide +kernel
theorem dX12_layTwoWays_251 : decode cX12_layTwoWays 251 = .ok (.iconst 0, 1) := by decide +kernel
theorem dX12_layTwoWays_252 : decode cX12_layTwoWays 252 = .ok (.iload_n 3, 1) := by decide +kernel
theorem dX12_layTwoWays_253 : decode cX12_layTwoWays 253 = .ok (.bipush 64, 2) := by decide +kernel
theorem dX12_layTwoWays_255 : decode cX12_layTwoWays 255 = .ok (.idiv, 1) := by decide +kernel
theorem dX12_layTwoWays_256 : decode cX12_layTwoWays 256 = .ok (.iastore, 1) := by decide +kernel
theorem dX12_layTwoWays_257 : decode cX12_layTwoWays 257 = .ok (.aload_n 0, 1) := by decide +kernel
theorem dX12_layTwoWays_258 : decode cX12_layTwoWays 258 = .ok (.getfield 56, 3) := by decide +kernel
theorem dX12_layTwoWays_261 : decode cX12_layTwoWays 261 = .ok (.iconst 1, 1) := by decide +kernel
theorem dX12_layTwoWays_262 : decode cX12_layTwoWays 262 = .ok (.iload_n 3, 1) := by decide +kernel
theorem dX12_layTwoWays_263 : decode cX12_layTwoWays 263 = .ok (.bipush 64, 2) := by decide +kernel
theorem dX12_layTwoWays_265 : decode cX12_layTwoWays 265 = .ok (.irem, 1) := by decide +kernel
theorem dX12_layTwoWays_266 : decode cX12_layTwoWays 266 = .ok (.iastore, 1) := by decide +kernel
theorem dX12_layTwoWays_267 : decode cX12_layTwoWays 267 = .ok (.iconst 1, 1) := by decide +kernel
theorem dX12_layTwoWays_268 : decode cX12_layTwoWays 268 = .ok (.ireturn, 1) := by decide +kernel
theorem dX12_findTwoWays_0 : decode cX12_findTwoWays 0 = .ok (.aload_n 0, 1) := by decide +kernel
theorem dX12_findTwoWays_1 : decode cX12_findTwoWays 1 = .ok (.iload_n 1, 1) := by decide +kernel
theorem dX12_findTwoWays_2 : decode cX12_findTwoWays 2 = .ok (.invokevirtual 201, 3) := by decide +kernel
theorem dX12_findTwoWays_5 : decode cX12_findTwoWays 5 = .ok (.iconst 0, 1) := by decide +kernel
theorem dX12_findTwoWays_6 : decode cX12_findTwoWays 6 = .ok (.istore_n 2, 1) := by decide +kernel
theorem dX12_findTwoWays_7 : decode cX12_findTwoWays 7 = .ok (.iload_n 2, 1) := by decide +kernel
theorem dX12_findTwoWays_8 : decode cX12_findTwoWays 8 = .ok (.bipush 64, 2) := by decide +kernel
theorem dX12_findTwoWays_10 : decode cX12_findTwoWays 10 = .ok (.if_icmp .ge 28, 3) := by decide +kernel
theorem dX12_findTwoWays_13 : decode cX12_findTwoWays 13 = .ok (.aload_n 0, 1) := by decide +kernel
theorem dX12_findTwoWays_14 : decode cX12_findTwoWays 14 = .ok (.getfield 46, 3) := by decide +kernel
theorem dX12_findTwoWays_17 : decode cX12_findTwoWays 17 = .ok (.iload_n 2, 1) := by decide +kernel
theorem dX12_findTwoWays_18 : decode cX12_findTwoWays 18 = .ok (.iaload, 1) := by decide +kernel
theorem dX12_findTwoWays_19 : decode cX12_findTwoWays 19 = .ok (.iconst 1, 1) := by decide +kernel
theorem dX12_findTwoWays_20 : decode cX12_findTwoWays 20 = .ok (.if_icmp .le 12, 3) := by decide +kernel
theorem dX12_findTwoWays_23 : decode cX12_findTwoWays 23 = .ok (.aload_n 0, 1) := by decide +kernel
theorem dX12_findTwoWays_24 : decode cX12_findTwoWays 24 = .ok (.getfield 56, 3) := by decide +kernel
theorem dX12_findTwoWays_27 : decode cX12_findTwoWays 27 = .ok (.iconst 0, 1) := by decide +kernel
theorem dX12_findTwoWays_28 : decode cX12_findTwoWays 28 = .ok (.iload_n 2, 1) := by decide +kernel
theorem dX12_findTwoWays_29 : decode cX12_findTwoWays 29 = .ok (.iastore, 1) := by decide +kernel
theorem dX12_findTwoWays_30 : decode cX12_findTwoWays 30 = .ok (.iconst 1, 1) := by decide +kernel
theorem dX12_findTwoWays_31 : decode cX12_findTwoWays 31 = .ok (.ireturn, 1) := by decide +kernel
theorem dX12_findTwoWays_32 : decode cX12_findTwoWays 32 = .ok (.iinc 2 1, 3) := by decide +kernel
theorem dX12_findTwoWays_35 : decode cX12_findTwoWays 35 = .ok (.goto (-28), 3) := by decide +kernel
theorem dX12_findTwoWays_38 : decode cX12_findTwoWays 38 = .ok (.aload_n 0, 1) := by decide +kernel
theorem dX12_findTwoWays_39 : decode cX12_findTwoWays 39 = .ok (.invokevirtual 204, 3) := by decide +kernel
theorem dX12_findTwoWays_42 : decode cX12_findTwoWays 42 = .ok (.iconst 1, 1) := by decide +kernel
theorem dX12_findTwoWays_43 : decode cX12_findTwoWays 43 = .ok (.istore_n 2, 1) := by decide +kernel
theorem dX12_findTwoWays_44 : decode cX12_findTwoWays 44 = .ok (.iload_n 2, 1) := by decide +kernel
theorem dX12_findTwoWays_45 : decode cX12_findTwoWays 45 = .ok (.bipush 15, 2) := by decide +kernel
theorem dX12_findTwoWays_47 : decode cX12_findTwoWays 47 = .ok (.if_icmp .ge 21, 3) := by decide +kernel
theorem dX12_findTwoWays_50 : decode cX12_findTwoWays 50 = .ok (.aload_n 0, 1) := by decide +kernel
theorem dX12_findTwoWays_51 : decode cX12_findTwoWays 51 = .ok (.iload_n 2, 1) := by decide +kernel
theorem dX12_findTwoWays_52 : decode cX12_findTwoWays 52 = .ok (.invokevirtual 207, 3) := by decide +kernel
theorem dX12_findTwoWays_55 : decode cX12_findTwoWays 55 = .ok (.ifCond .eq 7, 3) := by decide +kernel
theorem dX12_findTwoWays_58 : decode cX12_findTwoWays 58 = .ok (.iload_n 2, 1) := by decide +kernel
theorem dX12_findTwoWays_59 : decode cX12_findTwoWays 59 = .ok (.iconst 1, 1) := by decide +kernel
theorem dX12_findTwoWays_60 : decode cX12_findTwoWays 60 = .ok (.iadd, 1) := by decide +kernel
theorem dX12_findTwoWays_61 : decode cX12_findTwoWays 61 = .ok (.ireturn, 1) := by decide +kernel
theorem dX12_findTwoWays_62 : decode cX12_findTwoWays 62 = .ok (.iinc 2 1, 3) := by decide +kernel
theorem dX12_findTwoWays_65 : decode cX12_findTwoWays 65 = .ok (.goto (-21), 3) := by decide +kernel
theorem dX12_findTwoWays_68 : decode cX12_findTwoWays 68 = .ok (.iconst 0, 1) := by decide +kernel
theorem dX12_findTwoWays_69 : decode cX12_findTwoWays 69 = .ok (.ireturn, 1) := by decide +kernel
theorem dX12_ways_0 : decode cX12_ways 0 = .ok (.iload_n 1, 1) := by decide +kernel
theorem dX12_ways_1 : decode cX12_ways 1 = .ok (.invokestatic 121, 3) := by decide +kernel
theorem dX12_ways_4 : decode cX12_ways 4 = .ok (.ifCond .ne 5, 3) := by decide +kernel
theorem dX12_ways_7 : decode cX12_ways 7 = .ok (.iconst (-1), 1) := by decide +kernel
theorem dX12_ways_8 : decode cX12_ways 8 = .ok (.ireturn, 1) := by decide +kernel
theorem dX12_ways_9 : decode cX12_ways 9 = .ok (.aload_n 0, 1) := by decide +kernel
theorem dX12_ways_10 : decode cX12_ways 10 = .ok (.iload_n 1, 1) := by decide +kernel
theorem dX12_ways_11 : decode cX12_ways 11 = .ok (.invokevirtual 210, 3) := by decide +kernel
theorem dX12_ways_14 : decode cX12_ways 14 = .ok (.istore_n 3, 1) := by decide +kernel
theorem dX12_ways_15 : decode cX12_ways 15 = .ok (.iload_n 2, 1) := by decide +kernel
theorem dX12_ways_16 : decode cX12_ways 16 = .ok (.iconst (-1), 1) := by decide +kernel
theorem dX12_ways_17 : decode cX12_ways 17 = .ok (.if_icmp .ne 7, 3) := by decide +kernel
theorem dX12_ways_20 : decode cX12_ways 20 = .ok (.iload_n 3, 1) := by decide +kernel
theorem dX12_ways_21 : decode cX12_ways 21 = .ok (.goto 27, 3) := by decide +kernel
theorem dX12_ways_24 : decode cX12_ways 24 = .ok (.iload_n 2, 1) := by decide +kernel
theorem dX12_ways_25 : decode cX12_ways 25 = .ok (.i2l, 1) := by decide +kernel
theorem dX12_ways_26 : decode cX12_ways 26 = .ok (.lconst 0, 1) := by decide +kernel
theorem dX12_ways_27 : decode cX12_ways 27 = .ok (.iload_n 3, 1) := by decide +kernel
theorem dX12_ways_28 : decode cX12_ways 28 = .ok (.iconst 1, 1) := by decide +kernel
theorem dX12_ways_29 : decode cX12_ways 29 = .ok (.isub, 1) := by decide +kernel
theorem dX12_ways_30 : decode cX12_ways 30 = .ok (.i2l, 1) := by decide +kernel
theorem dX12_ways_31 : decode cX12_ways 31 = .ok (.invokestatic 115, 3) := by decide +kernel
theorem dX12_ways_34 : decode cX12_ways 34 = .ok (.ifCond .eq 12, 3) := by decide +kernel
theorem dX12_ways_37 : decode cX12_ways 37 = .ok (.aload_n 0, 1) := by decide +kernel
theorem dX12_ways_38 : decode cX12_ways 38 = .ok (.getfield 56, 3) := by decide +kernel
theorem dX12_ways_41 : decode cX12_ways 41 = .ok (.iload_n 2, 1) := by decide +kernel
theorem dX12_ways_42 : decode cX12_ways 42 = .ok (.iaload, 1) := by decide +kernel
theorem dX12_ways_43 : decode cX12_ways 43 = .ok (.goto 5, 3) := by decide +kernel
theorem dX12_ways_46 : decode cX12_ways 46 = .ok (.bipush (-6), 2) := by decide +kernel
theorem dX12_ways_48 : decode cX12_ways 48 = .ok (.ireturn, 1) := by decide +kernel
theorem dX12_word_0 : decode cX12_word 0 = .ok (.aload_n 0, 1) := by decide +kernel
theorem dX12_word_1 : decode cX12_word 1 = .ok (.getfield 213, 3) := by decide +kernel
theorem dX12_word_4 : decode cX12_word 4 = .ok (.bipush 30, 2) := by decide +kernel
theorem dX12_word_6 : decode cX12_word 6 = .ok (.if_icmp .ne 6, 3) := by decide +kernel
theorem dX12_word_9 : decode cX12_word 9 = .ok (.bipush (-4), 2) := by decide +kernel
theorem dX12_word_11 : decode cX12_word 11 = .ok (.ireturn, 1) := by decide +kernel
theorem dX12_word_12 : decode cX12_word 12 = .ok (.aload_n 0, 1) := by decide +kernel
theorem dX12_word_13 : decode cX12_word 13 = .ok (.getfield 130, 3) := by decide +kernel
theorem dX12_word_16 : decode cX12_word 16 = .ok (.ifCond .ne 6, 3) := by decide +kernel
theorem dX12_word_19 : decode cX12_word 19 = .ok (.bipush (-5), 2) := by decide +kernel
theorem dX12_word_21 : decode cX12_word 21 = .ok (.ireturn, 1) := by decide +kernel
theorem dX12_word_22 : decode cX12_word 22 = .ok (.iconst 0, 1) := by decide +kernel
theorem dX12_word_23 : decode cX12_word 23 = .ok (.istore_n 1, 1) := by decide +kernel
theorem dX12_word_24 : decode cX12_word 24 = .ok (.iload_n 1, 1) := by decide +kernel
theorem dX12_word_25 : decode cX12_word 25 = .ok (.aload_n 0, 1) := by decide +kernel
theorem dX12_word_26 : decode cX12_word 26 = .ok (.getfield 130, 3) := by decide +kernel
theorem dX12_word_29 : decode cX12_word 29 = .ok (.if_icmp .ge 29, 3) := by decide +kernel
theorem dX12_word_32 : decode cX12_word 32 = .ok (.aload_n 0, 1) := by decide +kernel
theorem dX12_word_33 : decode cX12_word 33 = .ok (.getfield 59, 3) := by decide +kernel
theorem dX12_word_36 : decode cX12_word 36 = .ok (.bipush 10, 2) := by decide +kernel
theorem dX12_word_38 : decode cX12_word 38 = .ok (.aload_n 0, 1) := by decide +kernel
theorem dX12_word_39 : decode cX12_word 39 = .ok (.getfield 213, 3) := by decide +kernel
theorem dX12_word_42 : decode cX12_word 42 = .ok (.imul, 1) := by decide +kernel
theorem dX12_word_43 : decode cX12_word 43 = .ok (.iload_n 1, 1) := by decide +kernel
theorem dX12_word_44 : decode cX12_word 44 = .ok (.iadd, 1) := by decide +kernel
theorem dX12_word_45 : decode cX12_word 45 = .ok (.aload_n 0, 1) := by decide +kernel
theorem dX12_word_46 : decode cX12_word 46 = .ok (.getfield 28, 3) := by decide +kernel
theorem dX12_word_49 : decode cX12_word 49 = .ok (.iload_n 1, 1) := by decide +kernel
theorem dX12_word_50 : decode cX12_word 50 = .ok (.iaload, 1) := by decide +kernel
theorem dX12_word_51 : decode cX12_word 51 = .ok (.iastore, 1) := by decide +kernel
theorem dX12_word_52 : decode cX12_word 52 = .ok (.iinc 1 1, 3) := by decide +kernel
theorem dX12_word_55 : decode cX12_word 55 = .ok (.goto (-31), 3) := by decide +kernel
theorem dX12_word_58 : decode cX12_word 58 = .ok (.aload_n 0, 1) := by decide +kernel
theorem dX12_word_59 : decode cX12_word 59 = .ok (.getfield 62, 3) := by decide +kernel
theorem dX12_word_62 : decode cX12_word 62 = .ok (.aload_n 0, 1) := by decide +kernel
theorem dX12_word_63 : decode cX12_word 63 = .ok (.getfield 213, 3) := by decide +kernel
theorem dX12_word_66 : decode cX12_word 66 = .ok (.aload_n 0, 1) := by decide +kernel
theorem dX12_word_67 : decode cX12_word 67 = .ok (.getfield 130, 3) := by decide +kernel
theorem dX12_word_70 : decode cX12_word 70 = .ok (.iastore, 1) := by decide +kernel
theorem dX12_word_71 : decode cX12_word 71 = .ok (.aload_n 0, 1) := by decide +kernel
theorem dX12_word_72 : decode cX12_word 72 = .ok (.iconst 0, 1) := by decide +kernel
theorem dX12_word_73 : decode cX12_word 73 = .ok (.putfield 130, 3) := by decide +kernel
theorem dX12_word_76 : decode cX12_word 76 = .ok (.aload_n 0, 1) := by decide +kernel
theorem dX12_word_77 : decode cX12_word 77 = .ok (.dup, 1) := by decide +kernel
theorem dX12_word_78 : decode cX12_word 78 = .ok (.getfield 213, 3) := by decide +kernel
theorem dX12_word_81 : decode cX12_word 81 = .ok (.iconst 1, 1) := by decide +kernel
theorem dX12_word_82 : decode cX12_word 82 = .ok (.iadd, 1) := by decide +kernel
theorem dX12_word_83 : decode cX12_word 83 = .ok (.putfield 213, 3) := by decide +kernel
theorem dX12_word_86 : decode cX12_word 86 = .ok (.aload_n 0, 1) := by decide +kernel
theorem dX12_word_87 : decode cX12_word 87 = .ok (.getfield 213, 3) := by decide +kernel
theorem dX12_word_90 : decode cX12_word 90 = .ok (.iconst 1, 1) := by decide +kernel
theorem dX12_word_91 : decode cX12_word 91 = .ok (.isub, 1) := by decide +kernel
theorem dX12_word_92 : decode cX12_word 92 = .ok (.ireturn, 1) := by decide +kernel
theorem dX12_isBook_0 : decode cX12_isBook 0 = .ok (.iload_n 0, 1) := by decide +kernel
theorem dX12_isBook_1 : decode cX12_isBook 1 = .ok (.i2l, 1) := by decide +kernel
theorem dX12_isBook_2 : decode cX12_isBook 2 = .ok (.lconst 0, 1) := by decide +kernel
theorem dX12_isBook_3 : decode cX12_isBook 3 = .ok (.ldc2_w 216, 3) := by decide +kernel
theorem dX12_isBook_6 : decode cX12_isBook 6 = .ok (.invokestatic 115, 3) := by decide +kernel
theorem dX12_isBook_9 : decode cX12_isBook 9 = .ok (.ireturn, 1) := by decide +kernel
theorem dX12_count_0 : decode cX12_count 0 = .ok (.iload_n 1, 1) := by decide +kernel
theorem dX12_count_1 : decode cX12_count 1 = .ok (.invokestatic 218, 3) := by decide +kernel
theorem dX12_count_4 : decode cX12_count 4 = .ok (.ifCond .eq 19, 3) := by decide +kernel
theorem dX12_count_7 : decode cX12_count 7 = .ok (.iload_n 2, 1) := by decide +kernel
theorem dX12_count_8 : decode cX12_count 8 = .ok (.i2l, 1) := by decide +kernel
theorem dX12_count_9 : decode cX12_count 9 = .ok (.lconst 0, 1) := by decide +kernel
theorem dX12_count_10 : decode cX12_count 10 = .ok (.aload_n 0, 1) := by decide +kernel
theorem dX12_count_11 : decode cX12_count 11 = .ok (.getfield 213, 3) := by decide +kernel
theorem dX12_count_14 : decode cX12_count 14 = .ok (.iconst 1, 1) := by decide +kernel
theorem dX12_count_15 : decode cX12_count 15 = .ok (.isub, 1) := by decide +kernel
theorem dX12_count_16 : decode cX12_count 16 = .ok (.i2l, 1) := by decide +kernel
theorem dX12_count_17 : decode cX12_count 17 = .ok (.invokestatic 115, 3) := by decide +kernel
theorem dX12_count_20 : decode cX12_count 20 = .ok (.ifCond .ne 5, 3) := by decide +kernel
theorem dX12_count_23 : decode cX12_count 23 = .ok (.iconst (-1), 1) := by decide +kernel
theorem dX12_count_24 : decode cX12_count 24 = .ok (.ireturn, 1) := by decide +kernel
theorem dX12_count_25 : decode cX12_count 25 = .ok (.iload_n 3, 1) := by decide +kernel
theorem dX12_count_26 : decode cX12_count 26 = .ok (.i2l, 1) := by decide +kernel
theorem dX12_count_27 : decode cX12_count 27 = .ok (.lconst 0, 1) := by decide +kernel
theorem dX12_count_28 : decode cX12_count 28 = .ok (.ldc2_w 221, 3) := by decide +kernel
theorem dX12_count_31 : decode cX12_count 31 = .ok (.invokestatic 115, 3) := by decide +kernel
theorem dX12_count_34 : decode cX12_count 34 = .ok (.ifCond .ne 6, 3) := by decide +kernel
theorem dX12_count_37 : decode cX12_count 37 = .ok (.bipush (-2), 2) := by decide +kernel
theorem dX12_count_39 : decode cX12_count 39 = .ok (.ireturn, 1) := by decide +kernel
theorem dX12_count_40 : decode cX12_count 40 = .ok (.aload_n 0, 1) := by decide +kernel
theorem dX12_count_41 : decode cX12_count 41 = .ok (.getfield 65, 3) := by decide +kernel
theorem dX12_count_44 : decode cX12_count 44 = .ok (.bipush 30, 2) := by decide +kernel
theorem dX12_count_46 : decode cX12_count 46 = .ok (.iload_n 1, 1) := by decide +kernel
theorem dX12_count_47 : decode cX12_count 47 = .ok (.imul, 1) := by decide +kernel
theorem dX12_count_48 : decode cX12_count 48 = .ok (.iload_n 2, 1) := by decide +kernel
theorem dX12_count_49 : decode cX12_count 49 = .ok (.iadd, 1) := by decide +kernel
theorem dX12_count_50 : decode cX12_count 50 = .ok (.iaload, 1) := by decide +kernel
theorem dX12_count_51 : decode cX12_count 51 = .ok (.istore 4, 2) := by decide +kernel
theorem dX12_count_53 : decode cX12_count 53 = .ok (.aload_n 0, 1) := by decide +kernel
theorem dX12_count_54 : decode cX12_count 54 = .ok (.getfield 65, 3) := by decide +kernel
theorem dX12_count_57 : decode cX12_count 57 = .ok (.bipush 30, 2) := by decide +kernel
theorem dX12_count_59 : decode cX12_count 59 = .ok (.iload_n 1, 1) := by decide +kernel
theorem dX12_count_60 : decode cX12_count 60 = .ok (.imul, 1) := by decide +kernel
theorem dX12_count_61 : decode cX12_count 61 = .ok (.iload_n 2, 1) := by decide +kernel
theorem dX12_count_62 : decode cX12_count 62 = .ok (.iadd, 1) := by decide +kernel
theorem dX12_count_63 : decode cX12_count 63 = .ok (.iload_n 3, 1) := by decide +kernel
theorem dX12_count_64 : decode cX12_count 64 = .ok (.iastore, 1) := by decide +kernel
theorem dX12_count_65 : decode cX12_count 65 = .ok (.iload 4, 2) := by decide +kernel
theorem dX12_count_67 : decode cX12_count 67 = .ok (.ireturn, 1) := by decide +kernel
theorem dX12_layWord_0 : decode cX12_layWord 0 = .ok (.aload_n 0, 1) := by decide +kernel
theorem dX12_layWord_1 : decode cX12_layWord 1 = .ok (.aload_n 0, 1) := by decide +kernel
theorem dX12_layWord_2 : decode cX12_layWord 2 = .ok (.getfield 62, 3) := by decide +kernel
theorem dX12_layWord_5 : decode cX12_layWord 5 = .ok (.iload_n 1, 1) := by decide +kernel
theorem dX12_layWord_6 : decode cX12_layWord 6 = .ok (.iaload, 1) := by decide +kernel
theorem dX12_layWord_7 : decode cX12_layWord 7 = .ok (.putfield 161, 3) := by decide +kernel
theorem dX12_layWord_10 : decode cX12_layWord 10 = .ok (.iconst 0, 1) := by decide +kernel
theorem dX12_layWord_11 : decode cX12_layWord 11 = .ok (.istore_n 2, 1) := by decide +kernel
theorem dX12_layWord_12 : decode cX12_layWord 12 = .ok (.iload_n 2, 1) := by decide +kernel
theorem dX12_layWord_13 : decode cX12_layWord 13 = .ok (.aload_n 0, 1) := by decide +kernel
theorem dX12_layWord_14 : decode cX12_layWord 14 = .ok (.getfield 161, 3) := by decide +kernel
theorem dX12_layWord_17 : decode cX12_layWord 17 = .ok (.if_icmp .ge 26, 3) := by decide +kernel
theorem dX12_layWord_20 : decode cX12_layWord 20 = .ok (.aload_n 0, 1) := by decide +kernel
theorem dX12_layWord_21 : decode cX12_layWord 21 = .ok (.getfield 34, 3) := by decide +kernel
theorem dX12_layWord_24 : decode cX12_layWord 24 = .ok (.iload_n 2, 1) := by decide +kernel
theorem dX12_layWord_25 : decode cX12_layWord 25 = .ok (.aload_n 0, 1) := by decide +kernel
theorem dX12_layWord_26 : decode cX12_layWord 26 = .ok (.getfield 59, 3) := by decide +kernel
theorem dX12_layWord_29 : decode cX12_layWord 29 = .ok (.bipush 10, 2) := by decide +kernel
theorem dX12_layWord_31 : decode cX12_layWord 31 = .ok (.iload_n 1, 1) := by decide +kernel
theorem dX12_layWord_32 : decode cX12_layWord 32 = .ok (.imul, 1) := by decide +kernel
theorem dX12_layWord_33 : decode cX12_layWord 33 = .ok (.iload_n 2, 1) := by decide +kernel
theorem dX12_layWord_34 : decode cX12_layWord 34 = .ok (.iadd, 1) := by decide +kernel
theorem dX12_layWord_35 : decode cX12_layWord 35 = .ok (.iaload, 1) := by decide +kernel
theorem dX12_layWord_36 : decode cX12_layWord 36 = .ok (.iastore, 1) := by decide +kernel
theorem dX12_layWord_37 : decode cX12_layWord 37 = .ok (.iinc 2 1, 3) := by decide +kernel
theorem dX12_layWord_40 : decode cX12_layWord 40 = .ok (.goto (-28), 3) := by decide +kernel
theorem dX12_layWord_43 : decode cX12_layWord 43 = .ok (.return_, 1) := by decide +kernel
theorem dX12_findRoom_0 : decode cX12_findRoom 0 = .ok (.aload_n 0, 1) := by decide +kernel
theorem dX12_findRoom_1 : decode cX12_findRoom 1 = .ok (.iconst 0, 1) := by decide +kernel
theorem dX12_findRoom_2 : decode cX12_findRoom 2 = .ok (.putfield 223, 3) := by decide +kernel
theorem dX12_findRoom_5 : decode cX12_findRoom 5 = .ok (.aload_n 0, 1) := by decide +kernel
theorem dX12_findRoom_6 : decode cX12_findRoom 6 = .ok (.iconst 0, 1) := by decide +kernel
theorem dX12_findRoom_7 : decode cX12_findRoom 7 = .ok (.putfield 226, 3) := by decide +kernel
theorem dX12_findRoom_10 : decode cX12_findRoom 10 = .ok (.iconst 0, 1) := by decide +kernel
theorem dX12_findRoom_11 : decode cX12_findRoom 11 = .ok (.istore_n 3, 1) := by decide +kernel
theorem dX12_findRoom_12 : decode cX12_findRoom 12 = .ok (.iload_n 3, 1) := by decide +kernel
theorem dX12_findRoom_13 : decode cX12_findRoom 13 = .ok (.aload_n 0, 1) := by decide +kernel
theorem dX12_findRoom_14 : decode cX12_findRoom 14 = .ok (.getfield 213, 3) := by decide +kernel
theorem dX12_findRoom_17 : decode cX12_findRoom 17 = .ok (.if_icmp .ge 86, 3) := by decide +kernel
theorem dX12_findRoom_20 : decode cX12_findRoom 20 = .ok (.aload_n 0, 1) := by decide +kernel
theorem dX12_findRoom_21 : decode cX12_findRoom 21 = .ok (.getfield 65, 3) := by decide +kernel
theorem dX12_findRoom_24 : decode cX12_findRoom 24 = .ok (.bipush 30, 2) := by decide +kernel
theorem dX12_findRoom_26 : decode cX12_findRoom 26 = .ok (.iload_n 1, 1) := by decide +kernel
theorem dX12_findRoom_27 : decode cX12_findRoom 27 = .ok (.imul, 1) := by decide +kernel
theorem dX12_findRoom_28 : decode cX12_findRoom 28 = .ok (.iload_n 3, 1) := by decide +kernel
theorem dX12_findRoom_29 : decode cX12_findRoom 29 = .ok (.iadd, 1) := by decide +kernel
theorem dX12_findRoom_30 : decode cX12_findRoom 30 = .ok (.iaload, 1) := by decide +kernel
theorem dX12_findRoom_31 : decode cX12_findRoom 31 = .ok (.istore 4, 2) := by decide +kernel
theorem dX12_findRoom_33 : decode cX12_findRoom 33 = .ok (.iload 4, 2) := by decide +kernel
theorem dX12_findRoom_35 : decode cX12_findRoom 35 = .ok (.ifCond .le 62, 3) := by decide +kernel
theorem dX12_findRoom_38 : decode cX12_findRoom 38 = .ok (.aload_n 0, 1) := by decide +kernel
theorem dX12_findRoom_39 : decode cX12_findRoom 39 = .ok (.iload_n 3, 1) := by decide +kernel
theorem dX12_findRoom_40 : decode cX12_findRoom 40 = .ok (.invokevirtual 229, 3) := by decide +kernel
theorem dX12_findRoom_43 : decode cX12_findRoom 43 = .ok (.aload_n 0, 1) := by decide +kernel
theorem dX12_findRoom_44 : decode cX12_findRoom 44 = .ok (.iload_n 2, 1) := by decide +kernel
theorem dX12_findRoom_45 : decode cX12_findRoom 45 = .ok (.invokevirtual 187, 3) := by decide +kernel
theorem dX12_findRoom_48 : decode cX12_findRoom 48 = .ok (.ifCond .ne 5, 3) := by decide +kernel
theorem dX12_findRoom_51 : decode cX12_findRoom 51 = .ok (.iconst 0, 1) := by decide +kernel
theorem dX12_findRoom_52 : decode cX12_findRoom 52 = .ok (.ireturn, 1) := by decide +kernel
theorem dX12_findRoom_53 : decode cX12_findRoom 53 = .ok (.aload_n 0, 1) := by decide +kernel
theorem dX12_findRoom_54 : decode cX12_findRoom 54 = .ok (.dup, 1) := by decide +kernel
theorem dX12_findRoom_55 : decode cX12_findRoom 55 = .ok (.getfield 223, 3) := by decide +kernel
theorem dX12_findRoom_58 : decode cX12_findRoom 58 = .ok (.iload 4, 2) := by decide +kernel
theorem dX12_findRoom_60 : decode cX12_findRoom 60 = .ok (.aload_n 0, 1) := by decide +kernel
theorem dX12_findRoom_61 : decode cX12_findRoom 61 = .ok (.getfield 37, 3) := by decide +kernel
theorem dX12_findRoom_64 : decode cX12_findRoom 64 = .ok (.iconst 0, 1) := by decide +kernel
theorem dX12_findRoom_65 : decode cX12_findRoom 65 = .ok (.iaload, 1) := by decide +kernel
theorem dX12_findRoom_66 : decode cX12_findRoom 66 = .ok (.sipush 1000, 3) := by decide +kernel
theorem dX12_findRoom_69 : decode cX12_findRoom 69 = .ok (.idiv, 1) := by decide +kernel
theorem dX12_findRoom_70 : decode cX12_findRoom 70 = .ok (.imul, 1) := by decide +kernel
theorem dX12_findRoom_71 : decode cX12_findRoom 71 = .ok (.iadd, 1) := by decide +kernel
theorem dX12_findRoom_72 : decode cX12_findRoom 72 = .ok (.putfield 223, 3) := by decide +kernel
theorem dX12_findRoom_75 : decode cX12_findRoom 75 = .ok (.aload_n 0, 1) := by decide +kernel
theorem dX12_findRoom_76 : decode cX12_findRoom 76 = .ok (.dup, 1) := by decide +kernel
theorem dX12_findRoom_77 : decode cX12_findRoom 77 = .ok (.getfield 226, 3) := by decide +kernel
theorem dX12_findRoom_80 : decode cX12_findRoom 80 = .ok (.iload 4, 2) := by decide +kernel
theorem dX12_findRoom_82 : decode cX12_findRoom 82 = .ok (.aload_n 0, 1) := by decide +kernel
theorem dX12_findRoom_83 : decode cX12_findRoom 83 = .ok (.getfield 37, 3) := by decide +kernel
theorem dX12_findRoom_86 : decode cX12_findRoom 86 = .ok (.iconst 0, 1) := by decide +kernel
theorem dX12_findRoom_87 : decode cX12_findRoom 87 = .ok (.iaload, 1) := by decide +kernel
theorem dX12_findRoom_88 : decode cX12_findRoom 88 = .ok (.sipush 1000, 3) := by decide +kernel
theorem dX12_findRoom_91 : decode cX12_findRoom 91 = .ok (.irem, 1) := by decide +kernel
theorem dX12_findRoom_92 : decode cX12_findRoom 92 = .ok (.imul, 1) := by decide +kernel
theorem dX12_findRoom_93 : decode cX12_findRoom 93 = .ok (.iadd, 1) := by decide +kernel
theorem dX12_findRoom_94 : decode cX12_findRoom 94 = .ok (.putfield 226, 3) := by decide +kernel
theorem dX12_findRoom_97 : decode cX12_findRoom 97 = .ok (.iinc 3 1, 3) := by decide +kernel
theorem dX12_findRoom_100 : decode cX12_findRoom 100 = .ok (.goto (-88), 3) := by decide +kernel
theorem dX12_findRoom_103 : decode cX12_findRoom 103 = .ok (.iconst 1, 1) := by decide +kernel
theorem dX12_findRoom_104 : decode cX12_findRoom 104 = .ok (.ireturn, 1) := by decide +kernel
theorem dX12_room_0 : decode cX12_room 0 = .ok (.iload_n 1, 1) := by decide +kernel
theorem dX12_room_1 : decode cX12_room 1 = .ok (.invokestatic 218, 3) := by decide +kernel
theorem dX12_room_4 : decode cX12_room 4 = .ok (.ifCond .eq 10, 3) := by decide +kernel
theorem dX12_room_7 : decode cX12_room 7 = .ok (.iload_n 2, 1) := by decide +kernel
theorem dX12_room_8 : decode cX12_room 8 = .ok (.invokestatic 121, 3) := by decide +kernel
theorem dX12_room_11 : decode cX12_room 11 = .ok (.ifCond .ne 5, 3) := by decide +kernel
theorem dX12_room_14 : decode cX12_room 14 = .ok (.iconst (-1), 1) := by decide +kernel
theorem dX12_room_15 : decode cX12_room 15 = .ok (.ireturn, 1) := by decide +kernel
theorem dX12_room_16 : decode cX12_room 16 = .ok (.iload_n 3, 1) := by decide +kernel
theorem dX12_room_17 : decode cX12_room 17 = .ok (.i2l, 1) := by decide +kernel
theorem dX12_room_18 : decode cX12_room 18 = .ok (.lconst 0, 1) := by decide +kernel
theorem dX12_room_19 : decode cX12_room 19 = .ok (.ldc2_w 140, 3) := by decide +kernel
theorem dX12_room_22 : decode cX12_room 22 = .ok (.invokestatic 115, 3) := by decide +kernel
theorem dX12_room_25 : decode cX12_room 25 = .ok (.ifCond .ne 6, 3) := by decide +kernel
theorem dX12_room_28 : decode cX12_room 28 = .ok (.bipush (-2), 2) := by decide +kernel
theorem dX12_room_30 : decode cX12_room 30 = .ok (.ireturn, 1) := by decide +kernel
theorem dX12_room_31 : decode cX12_room 31 = .ok (.aload_n 0, 1) := by decide +kernel
theorem dX12_room_32 : decode cX12_room 32 = .ok (.iload_n 1, 1) := by decide +kernel
theorem dX12_room_33 : decode cX12_room 33 = .ok (.iload_n 2, 1) := by decide +kernel
theorem dX12_room_34 : decode cX12_room 34 = .ok (.invokevirtual 232, 3) := by decide +kernel
theorem dX12_room_37 : decode cX12_room 37 = .ok (.ifCond .ne 6, 3) := by decide +kernel
theorem dX12_room_40 : decode cX12_room 40 = .ok (.bipush (-5), 2) := by decide +kernel
theorem dX12_room_42 : decode cX12_room 42 = .ok (.ireturn, 1) := by decide +kernel
theorem dX12_room_43 : decode cX12_room 43 = .ok (.iload_n 3, 1) := by decide +kernel
theorem dX12_room_44 : decode cX12_room 44 = .ok (.ifCond .ne 10, 3) := by decide +kernel
theorem dX12_room_47 : decode cX12_room 47 = .ok (.aload_n 0, 1) := by decide +kernel
theorem dX12_room_48 : decode cX12_room 48 = .ok (.getfield 223, 3) := by decide +kernel
theorem dX12_room_51 : decode cX12_room 51 = .ok (.goto 27, 3) := by decide +kernel
theorem dX12_room_54 : decode cX12_room 54 = .ok (.iload_n 3, 1) := by decide +kernel
theorem dX12_room_55 : decode cX12_room 55 = .ok (.iconst 1, 1) := by decide +kernel
theorem dX12_room_56 : decode cX12_room 56 = .ok (.if_icmp .ne 10, 3) := by decide +kernel
theorem dX12_room_59 : decode cX12_room 59 = .ok (.aload_n 0, 1) := by decide +kernel
theorem dX12_room_60 : decode cX12_room 60 = .ok (.getfield 226, 3) := by decide +kernel
theorem dX12_room_63 : decode cX12_room 63 = .ok (.goto 15, 3) := by decide +kernel
theorem dX12_room_66 : decode cX12_room 66 = .ok (.aload_n 0, 1) := by decide +kernel
theorem dX12_room_67 : decode cX12_room 67 = .ok (.getfield 223, 3) := by decide +kernel
theorem dX12_room_70 : decode cX12_room 70 = .ok (.sipush 199, 3) := by decide +kernel
theorem dX12_room_73 : decode cX12_room 73 = .ok (.iadd, 1) := by decide +kernel
theorem dX12_room_74 : decode cX12_room 74 = .ok (.sipush 200, 3) := by decide +kernel
theorem dX12_room_77 : decode cX12_room 77 = .ok (.idiv, 1) := by decide +kernel
theorem dX12_room_78 : decode cX12_room 78 = .ok (.ireturn, 1) := by decide +kernel
theorem dX12_row_0 : decode cX12_row 0 = .ok (.aload_n 0, 1) := by decide +kernel
theorem dX12_row_1 : decode cX12_row 1 = .ok (.getfield 235, 3) := by decide +kernel
theorem dX12_row_4 : decode cX12_row 4 = .ok (.bipush 12, 2) := by decide +kernel
theorem dX12_row_6 : decode cX12_row 6 = .ok (.if_icmp .ne 6, 3) := by decide +kernel
theorem dX12_row_9 : decode cX12_row 9 = .ok (.bipush (-4), 2) := by decide +kernel
theorem dX12_row_11 : decode cX12_row 11 = .ok (.ireturn, 1) := by decide +kernel
theorem dX12_row_12 : decode cX12_row 12 = .ok (.aload_n 0, 1) := by decide +kernel
theorem dX12_row_13 : decode cX12_row 13 = .ok (.getfield 130, 3) := by decide +kernel
theorem dX12_row_16 : decode cX12_row 16 = .ok (.i2l, 1) := by decide +kernel
theorem dX12_row_17 : decode cX12_row 17 = .ok (.ldc2_w 140, 3) := by decide +kernel
theorem dX12_row_20 : decode cX12_row 20 = .ok (.ldc2_w 113, 3) := by decide +kernel
theorem dX12_row_23 : decode cX12_row 23 = .ok (.invokestatic 115, 3) := by decide +kernel
theorem dX12_row_26 : decode cX12_row 26 = .ok (.ifCond .ne 6, 3) := by decide +kernel
theorem dX12_row_29 : decode cX12_row 29 = .ok (.bipush (-5), 2) := by decide +kernel
theorem dX12_row_31 : decode cX12_row 31 = .ok (.ireturn, 1) := by decide +kernel
theorem dX12_row_32 : decode cX12_row 32 = .ok (.iconst 0, 1) := by decide +kernel
theorem dX12_row_33 : decode cX12_row 33 = .ok (.istore_n 1, 1) := by decide +kernel
theorem dX12_row_34 : decode cX12_row 34 = .ok (.iload_n 1, 1) := by decide +kernel
theorem dX12_row_35 : decode cX12_row 35 = .ok (.aload_n 0, 1) := by decide +kernel
theorem dX12_row_36 : decode cX12_row 36 = .ok (.getfield 130, 3) := by decide +kernel
theorem dX12_row_39 : decode cX12_row 39 = .ok (.if_icmp .ge 28, 3) := by decide +kernel
theorem dX12_row_42 : decode cX12_row 42 = .ok (.aload_n 0, 1) := by decide +kernel
theorem dX12_row_43 : decode cX12_row 43 = .ok (.getfield 68, 3) := by decide +kernel
theorem dX12_row_46 : decode cX12_row 46 = .ok (.iconst 4, 1) := by decide +kernel
theorem dX12_row_47 : decode cX12_row 47 = .ok (.aload_n 0, 1) := by decide +kernel
theorem dX12_row_48 : decode cX12_row 48 = .ok (.getfield 235, 3) := by decide +kernel
theorem dX12_row_51 : decode cX12_row 51 = .ok (.imul, 1) := by decide +kernel
theorem dX12_row_52 : decode cX12_row 52 = .ok (.iload_n 1, 1) := by decide +kernel
theorem dX12_row_53 : decode cX12_row 53 = .ok (.iadd, 1) := by decide +kernel
theorem dX12_row_54 : decode cX12_row 54 = .ok (.aload_n 0, 1) := by decide +kernel
theorem dX12_row_55 : decode cX12_row 55 = .ok (.getfield 28, 3) := by decide +kernel
theorem dX12_row_58 : decode cX12_row 58 = .ok (.iload_n 1, 1) := by decide +kernel
theorem dX12_row_59 : decode cX12_row 59 = .ok (.iaload, 1) := by decide +kernel
theorem dX12_row_60 : decode cX12_row 60 = .ok (.iastore, 1) := by decide +kernel
theorem dX12_row_61 : decode cX12_row 61 = .ok (.iinc 1 1, 3) := by decide +kernel
theorem dX12_row_64 : decode cX12_row 64 = .ok (.goto (-30), 3) := by decide +kernel
theorem dX12_row_67 : decode cX12_row 67 = .ok (.aload_n 0, 1) := by decide +kernel
theorem dX12_row_68 : decode cX12_row 68 = .ok (.getfield 71, 3) := by decide +kernel
theorem dX12_row_71 : decode cX12_row 71 = .ok (.aload_n 0, 1) := by decide +kernel
theorem dX12_row_72 : decode cX12_row 72 = .ok (.getfield 235, 3) := by decide +kernel
theorem dX12_row_75 : decode cX12_row 75 = .ok (.aload_n 0, 1) := by decide +kernel
theorem dX12_row_76 : decode cX12_row 76 = .ok (.getfield 130, 3) := by decide +kernel
theorem dX12_row_79 : decode cX12_row 79 = .ok (.iastore, 1) := by decide +kernel
theorem dX12_row_80 : decode cX12_row 80 = .ok (.aload_n 0, 1) := by decide +kernel
theorem dX12_row_81 : decode cX12_row 81 = .ok (.iconst 0, 1) := by decide +kernel
theorem dX12_row_82 : decode cX12_row 82 = .ok (.putfield 130, 3) := by decide +kernel
theorem dX12_row_85 : decode cX12_row 85 = .ok (.aload_n 0, 1) := by decide +kernel
theorem dX12_row_86 : decode cX12_row 86 = .ok (.dup, 1) := by decide +kernel
theorem dX12_row_87 : decode cX12_row 87 = .ok (.getfield 235, 3) := by decide +kernel
theorem dX12_row_90 : decode cX12_row 90 = .ok (.iconst 1, 1) := by decide +kernel
theorem dX12_row_91 : decode cX12_row 91 = .ok (.iadd, 1) := by decide +kernel
theorem dX12_row_92 : decode cX12_row 92 = .ok (.putfield 235, 3) := by decide +kernel
theorem dX12_row_95 : decode cX12_row 95 = .ok (.aload_n 0, 1) := by decide +kernel
theorem dX12_row_96 : decode cX12_row 96 = .ok (.getfield 235, 3) := by decide +kernel
theorem dX12_row_99 : decode cX12_row 99 = .ok (.iconst 1, 1) := by decide +kernel
theorem dX12_row_100 : decode cX12_row 100 = .ok (.isub, 1) := by decide +kernel
theorem dX12_row_101 : decode cX12_row 101 = .ok (.ireturn, 1) := by decide +kernel
theorem dX12_rowFits_0 : decode cX12_rowFits 0 = .ok (.iload_n 2, 1) := by decide +kernel
theorem dX12_rowFits_1 : decode cX12_rowFits 1 = .ok (.aload_n 0, 1) := by decide +kernel
theorem dX12_rowFits_2 : decode cX12_rowFits 2 = .ok (.getfield 71, 3) := by decide +kernel
theorem dX12_rowFits_5 : decode cX12_rowFits 5 = .ok (.iload_n 1, 1) := by decide +kernel
theorem dX12_rowFits_6 : decode cX12_rowFits 6 = .ok (.iaload, 1) := by decide +kernel
theorem dX12_rowFits_7 : decode cX12_rowFits 7 = .ok (.iadd, 1) := by decide +kernel
theorem dX12_rowFits_8 : decode cX12_rowFits 8 = .ok (.aload_n 0, 1) := by decide +kernel
theorem dX12_rowFits_9 : decode cX12_rowFits 9 = .ok (.getfield 161, 3) := by decide +kernel
theorem dX12_rowFits_12 : decode cX12_rowFits 12 = .ok (.if_icmp .gt 7, 3) := by decide +kernel
theorem dX12_rowFits_15 : decode cX12_rowFits 15 = .ok (.iconst 1, 1) := by decide +kernel
theorem dX12_rowFits_16 : decode cX12_rowFits 16 = .ok (.goto 4, 3) := by decide +kernel
theorem dX12_rowFits_19 : decode cX12_rowFits 19 = .ok (.iconst 0, 1) := by decide +kernel
theorem dX12_rowFits_20 : decode cX12_rowFits 20 = .ok (.istore_n 3, 1) := by decide +kernel
theorem dX12_rowFits_21 : decode cX12_rowFits 21 = .ok (.iconst 0, 1) := by decide +kernel
theorem dX12_rowFits_22 : decode cX12_rowFits 22 = .ok (.istore 4, 2) := by decide +kernel
theorem dX12_rowFits_24 : decode cX12_rowFits 24 = .ok (.iload_n 3, 1) := by decide +kernel
theorem dX12_rowFits_25 : decode cX12_rowFits 25 = .ok (.ifCond .eq 49, 3) := by decide +kernel
theorem dX12_rowFits_28 : decode cX12_rowFits 28 = .ok (.iload 4, 2) := by decide +kernel
theorem dX12_rowFits_30 : decode cX12_rowFits 30 = .ok (.aload_n 0, 1) := by decide +kernel
theorem dX12_rowFits_31 : decode cX12_rowFits 31 = .ok (.getfield 71, 3) := by decide +kernel
theorem dX12_rowFits_34 : decode cX12_rowFits 34 = .ok (.iload_n 1, 1) := by decide +kernel
theorem dX12_rowFits_35 : decode cX12_rowFits 35 = .ok (.iaload, 1) := by decide +kernel
theorem dX12_rowFits_36 : decode cX12_rowFits 36 = .ok (.if_icmp .ge 38, 3) := by decide +kernel
theorem dX12_rowFits_39 : decode cX12_rowFits 39 = .ok (.aload_n 0, 1) := by decide +kernel
theorem dX12_rowFits_40 : decode cX12_rowFits 40 = .ok (.getfield 68, 3) := by decide +kernel
theorem dX12_rowFits_43 : decode cX12_rowFits 43 = .ok (.iconst 4, 1) := by decide +kernel
theorem dX12_rowFits_44 : decode cX12_rowFits 44 = .ok (.iload_n 1, 1) := by decide +kernel
theorem dX12_rowFits_45 : decode cX12_rowFits 45 = .ok (.imul, 1) := by decide +kernel
theorem dX12_rowFits_46 : decode cX12_rowFits 46 = .ok (.iload 4, 2) := by decide +kernel
theorem dX12_rowFits_48 : decode cX12_rowFits 48 = .ok (.iadd, 1) := by decide +kernel
theorem dX12_rowFits_49 : decode cX12_rowFits 49 = .ok (.iaload, 1) := by decide +kernel
theorem dX12_rowFits_50 : decode cX12_rowFits 50 = .ok (.aload_n 0, 1) := by decide +kernel
theorem dX12_rowFits_51 : decode cX12_rowFits 51 = .ok (.getfield 34, 3) := by decide +kernel
theorem dX12_rowFits_54 : decode cX12_rowFits 54 = .ok (.iload_n 2, 1) := by decide +kernel
theorem dX12_rowFits_55 : decode cX12_rowFits 55 = .ok (.iload 4, 2) := by decide +kernel
theorem dX12_rowFits_57 : decode cX12_rowFits 57 = .ok (.iadd, 1) := by decide +kernel
theorem dX12_rowFits_58 : decode cX12_rowFits 58 = .ok (.iaload, 1) := by decide +kernel
theorem dX12_rowFits_59 : decode cX12_rowFits 59 = .ok (.if_icmp .ne 7, 3) := by decide +kernel
theorem dX12_rowFits_62 : decode cX12_rowFits 62 = .ok (.iconst 1, 1) := by decide +kernel
theorem dX12_rowFits_63 : decode cX12_rowFits 63 = .ok (.goto 4, 3) := by decide +kernel
theorem dX12_rowFits_66 : decode cX12_rowFits 66 = .ok (.iconst 0, 1) := by decide +kernel
theorem dX12_rowFits_67 : decode cX12_rowFits 67 = .ok (.istore_n 3, 1) := by decide +kernel
theorem dX12_rowFits_68 : decode cX12_rowFits 68 = .ok (.iinc 4 1, 3) := by decide +kernel
theorem dX12_rowFits_71 : decode cX12_rowFits 71 = .ok (.goto (-47), 3) := by decide +kernel
theorem dX12_rowFits_74 : decode cX12_rowFits 74 = .ok (.iload_n 3, 1) := by decide +kernel
theorem dX12_rowFits_75 : decode cX12_rowFits 75 = .ok (.ireturn, 1) := by decide +kernel
theorem dX12_cellsWith_0 : decode cX12_cellsWith 0 = .ok (.aload_n 0, 1) := by decide +kernel
theorem dX12_cellsWith_1 : decode cX12_cellsWith 1 = .ok (.getfield 37, 3) := by decide +kernel
theorem dX12_cellsWith_4 : decode cX12_cellsWith 4 = .ok (.aload_n 0, 1) := by decide +kernel
theorem dX12_cellsWith_5 : decode cX12_cellsWith 5 = .ok (.getfield 161, 3) := by decide +kernel
theorem dX12_cellsWith_8 : decode cX12_cellsWith 8 = .ok (.iconst 0, 1) := by decide +kernel
theorem dX12_cellsWith_9 : decode cX12_cellsWith 9 = .ok (.iastore, 1) := by decide +kernel
theorem dX12_cellsWith_10 : decode cX12_cellsWith 10 = .ok (.aload_n 0, 1) := by decide +kernel
theorem dX12_cellsWith_11 : decode cX12_cellsWith 11 = .ok (.getfield 161, 3) := by decide +kernel
theorem dX12_cellsWith_14 : decode cX12_cellsWith 14 = .ok (.iconst 1, 1) := by decide +kernel
theorem dX12_cellsWith_15 : decode cX12_cellsWith 15 = .ok (.isub, 1) := by decide +kernel
theorem dX12_cellsWith_16 : decode cX12_cellsWith 16 = .ok (.istore_n 3, 1) := by decide +kernel
theorem dX12_cellsWith_17 : decode cX12_cellsWith 17 = .ok (.iload_n 3, 1) := by decide +kernel
theorem dX12_cellsWith_18 : decode cX12_cellsWith 18 = .ok (.ifCond .lt 140, 3) := by decide +kernel
theorem dX12_cellsWith_21 : decode cX12_cellsWith 21 = .ok (.aload_n 0, 1) := by decide +kernel
theorem dX12_cellsWith_22 : decode cX12_cellsWith 22 = .ok (.getfield 7, 3) := by decide +kernel
theorem dX12_cellsWith_25 : decode cX12_cellsWith 25 = .ok (.bipush 26, 2) := by decide +kernel
theorem dX12_cellsWith_27 : decode cX12_cellsWith 27 = .ok (.iload_n 1, 1) := by decide +kernel
theorem dX12_cellsWith_28 : decode cX12_cellsWith 28 = .ok (.imul, 1) := by decide +kernel
theorem dX12_cellsWith_29 : decode cX12_cellsWith 29 = .ok (.aload_n 0, 1) := by decide +kernel
theorem dX12_cellsWith_30 : decode cX12_cellsWith 30 = .ok (.getfield 34, 3) := by decide +kernel
theorem dX12_cellsWith_33 : decode cX12_cellsWith 33 = .ok (.iload_n 3, 1) := by decide +kernel
theorem dX12_cellsWith_34 : decode cX12_cellsWith 34 = .ok (.iaload, 1) := by decide +kernel
theorem dX12_cellsWith_35 : decode cX12_cellsWith 35 = .ok (.iadd, 1) := by decide +kernel
theorem dX12_cellsWith_36 : decode cX12_cellsWith 36 = .ok (.iaload, 1) := by decide +kernel
theorem dX12_cellsWith_37 : decode cX12_cellsWith 37 = .ok (.ifCond .le 14, 3) := by decide +kernel
theorem dX12_cellsWith_40 : decode cX12_cellsWith 40 = .ok (.aload_n 0, 1) := by decide +kernel
theorem dX12_cellsWith_41 : decode cX12_cellsWith 41 = .ok (.getfield 37, 3) := by decide +kernel
theorem dX12_cellsWith_44 : decode cX12_cellsWith 44 = .ok (.iload_n 3, 1) := by decide +kernel
theorem dX12_cellsWith_45 : decode cX12_cellsWith 45 = .ok (.iconst 1, 1) := by decide +kernel
theorem dX12_cellsWith_46 : decode cX12_cellsWith 46 = .ok (.iadd, 1) := by decide +kernel
theorem dX12_cellsWith_47 : decode cX12_cellsWith 47 = .ok (.iaload, 1) := by decide +kernel
theorem dX12_cellsWith_48 : decode cX12_cellsWith 48 = .ok (.goto 5, 3) := by decide +kernel
theorem dX12_cellsWith_51 : decode cX12_cellsWith 51 = .ok (.ldc 167, 2) := by decide +kernel
theorem dX12_cellsWith_53 : decode cX12_cellsWith 53 = .ok (.istore 4, 2) := by decide +kernel
theorem dX12_cellsWith_55 : decode cX12_cellsWith 55 = .ok (.iconst 0, 1) := by decide +kernel
theorem dX12_cellsWith_56 : decode cX12_cellsWith 56 = .ok (.istore 5, 2) := by decide +kernel
theorem dX12_cellsWith_58 : decode cX12_cellsWith 58 = .ok (.iload 5, 2) := by decide +kernel
theorem dX12_cellsWith_60 : decode cX12_cellsWith 60 = .ok (.aload_n 0, 1) := by decide +kernel
theorem dX12_cellsWith_61 : decode cX12_cellsWith 61 = .ok (.getfield 235, 3) := by decide +kernel
theorem dX12_cellsWith_64 : decode cX12_cellsWith 64 = .ok (.if_icmp .ge 66, 3) := by decide +kernel
theorem dX12_cellsWith_67 : decode cX12_cellsWith 67 = .ok (.iload_n 2, 1) := by decide +kernel
theorem dX12_cellsWith_68 : decode cX12_cellsWith 68 = .ok (.iload 5, 2) := by decide +kernel
theorem dX12_cellsWith_70 : decode cX12_cellsWith 70 = .ok (.ishr, 1) := by decide +kernel
theorem dX12_cellsWith_71 : decode cX12_cellsWith 71 = .ok (.iconst 1, 1) := by decide +kernel
theorem dX12_cellsWith_72 : decode cX12_cellsWith 72 = .ok (.iand, 1) := by decide +kernel
theorem dX12_cellsWith_73 : decode cX12_cellsWith 73 = .ok (.iconst 1, 1) := by decide +kernel
theorem dX12_cellsWith_74 : decode cX12_cellsWith 74 = .ok (.if_icmp .ne 30, 3) := by decide +kernel
theorem dX12_cellsWith_77 : decode cX12_cellsWith 77 = .ok (.aload_n 0, 1) := by decide +kernel
theorem dX12_cellsWith_78 : decode cX12_cellsWith 78 = .ok (.iload 5, 2) := by decide +kernel
theorem dX12_cellsWith_80 : decode cX12_cellsWith 80 = .ok (.iload_n 3, 1) := by decide +kernel
theorem dX12_cellsWith_81 : decode cX12_cellsWith 81 = .ok (.invokevirtual 238, 3) := by decide +kernel
theorem dX12_cellsWith_84 : decode cX12_cellsWith 84 = .ok (.ifCond .eq 20, 3) := by decide +kernel
theorem dX12_cellsWith_87 : decode cX12_cellsWith 87 = .ok (.aload_n 0, 1) := by decide +kernel
theorem dX12_cellsWith_88 : decode cX12_cellsWith 88 = .ok (.getfield 37, 3) := by decide +kernel
theorem dX12_cellsWith_91 : decode cX12_cellsWith 91 = .ok (.iload_n 3, 1) := by decide +kernel
theorem dX12_cellsWith_92 : decode cX12_cellsWith 92 = .ok (.aload_n 0, 1) := by decide +kernel
theorem dX12_cellsWith_93 : decode cX12_cellsWith 93 = .ok (.getfield 71, 3) := by decide +kernel
theorem dX12_cellsWith_96 : decode cX12_cellsWith 96 = .ok (.iload 5, 2) := by decide +kernel
theorem dX12_cellsWith_98 : decode cX12_cellsWith 98 = .ok (.iaload, 1) := by decide +kernel
theorem dX12_cellsWith_99 : decode cX12_cellsWith 99 = .ok (.iadd, 1) := by decide +kernel
theorem dX12_cellsWith_100 : decode cX12_cellsWith 100 = .ok (.iaload, 1) := by decide +kernel
theorem dX12_cellsWith_101 : decode cX12_cellsWith 101 = .ok (.goto 5, 3) := by decide +kernel
theorem dX12_cellsWith_104 : decode cX12_cellsWith 104 = .ok (.ldc 167, 2) := by decide +kernel
theorem dX12_cellsWith_106 : decode cX12_cellsWith 106 = .ok (.istore 6, 2) := by decide +kernel
theorem dX12_cellsWith_108 : decode cX12_cellsWith 108 = .ok (.iload 6, 2) := by decide +kernel
theorem dX12_cellsWith_110 : decode cX12_cellsWith 110 = .ok (.iload 4, 2) := by decide +kernel
theorem dX12_cellsWith_112 : decode cX12_cellsWith 112 = .ok (.if_icmp .ge 8, 3) := by decide +kernel
theorem dX12_cellsWith_115 : decode cX12_cellsWith 115 = .ok (.iload 6, 2) := by decide +kernel
theorem dX12_cellsWith_117 : decode cX12_cellsWith 117 = .ok (.goto 5, 3) := by decide +kernel
theorem dX12_cellsWith_120 : decode cX12_cellsWith 120 = .ok (.iload 4, 2) := by decide +kernel
theorem dX12_cellsWith_122 : decode cX12_cellsWith 122 = .ok (.istore 4, 2) := by decide +kernel
theorem dX12_cellsWith_124 : decode cX12_cellsWith 124 = .ok (.iinc 5 1, 3) := by decide +kernel
theorem dX12_cellsWith_127 : decode cX12_cellsWith 127 = .ok (.goto (-69), 3) := by decide +kernel
theorem dX12_cellsWith_130 : decode cX12_cellsWith 130 = .ok (.aload_n 0, 1) := by decide +kernel
theorem dX12_cellsWith_131 : decode cX12_cellsWith 131 = .ok (.getfield 37, 3) := by decide +kernel
theorem dX12_cellsWith_134 : decode cX12_cellsWith 134 = .ok (.iload_n 3, 1) := by decide +kernel
theorem dX12_cellsWith_135 : decode cX12_cellsWith 135 = .ok (.iload 4, 2) := by decide +kernel
theorem dX12_cellsWith_137 : decode cX12_cellsWith 137 = .ok (.ldc 167, 2) := by decide +kernel
theorem dX12_cellsWith_139 : decode cX12_cellsWith 139 = .ok (.if_icmp .ne 8, 3) := by decide +kernel
theorem dX12_cellsWith_142 : decode cX12_cellsWith 142 = .ok (.ldc 167, 2) := by decide +kernel
theorem dX12_cellsWith_144 : decode cX12_cellsWith 144 = .ok (.goto 7, 3) := by decide +kernel
theorem dX12_cellsWith_147 : decode cX12_cellsWith 147 = .ok (.iload 4, 2) := by decide +kernel
theorem dX12_cellsWith_149 : decode cX12_cellsWith 149 = .ok (.iconst 1, 1) := by decide +kernel
theorem dX12_cellsWith_150 : decode cX12_cellsWith 150 = .ok (.iadd, 1) := by decide +kernel
theorem dX12_cellsWith_151 : decode cX12_cellsWith 151 = .ok (.iastore, 1) := by decide +kernel
theorem dX12_cellsWith_152 : decode cX12_cellsWith 152 = .ok (.iinc 3 (-1), 3) := by decide +kernel
theorem dX12_cellsWith_155 : decode cX12_cellsWith 155 = .ok (.goto (-138), 3) := by decide +kernel
theorem dX12_cellsWith_158 : decode cX12_cellsWith 158 = .ok (.aload_n 0, 1) := by decide +kernel
theorem dX12_cellsWith_159 : decode cX12_cellsWith 159 = .ok (.getfield 37, 3) := by decide +kernel
theorem dX12_cellsWith_162 : decode cX12_cellsWith 162 = .ok (.iconst 0, 1) := by decide +kernel
theorem dX12_cellsWith_163 : decode cX12_cellsWith 163 = .ok (.iaload, 1) := by decide +kernel
theorem dX12_cellsWith_164 : decode cX12_cellsWith 164 = .ok (.ireturn, 1) := by decide +kernel
theorem dX12_bookWith_0 : decode cX12_bookWith 0 = .ok (.iconst 0, 1) := by decide +kernel
theorem dX12_bookWith_1 : decode cX12_bookWith 1 = .ok (.istore 4, 2) := by decide +kernel
theorem dX12_bookWith_3 : decode cX12_bookWith 3 = .ok (.iconst 0, 1) := by decide +kernel
theorem dX12_bookWith_4 : decode cX12_bookWith 4 = .ok (.istore 5, 2) := by decide +kernel
theorem dX12_bookWith_6 : decode cX12_bookWith 6 = .ok (.iload 5, 2) := by decide +kernel
theorem dX12_bookWith_8 : decode cX12_bookWith 8 = .ok (.aload_n 0, 1) := by decide +kernel
theorem dX12_bookWith_9 : decode cX12_bookWith 9 = .ok (.getfield 213, 3) := by decide +kernel
theorem dX12_bookWith_12 : decode cX12_bookWith 12 = .ok (.if_icmp .ge 71, 3) := by decide +kernel
theorem dX12_bookWith_15 : decode cX12_bookWith 15 = .ok (.iload 4, 2) := by decide +kernel
theorem dX12_bookWith_17 : decode cX12_bookWith 17 = .ok (.ldc 167, 2) := by decide +kernel
theorem dX12_bookWith_19 : decode cX12_bookWith 19 = .ok (.if_icmp .ge 64, 3) := by decide +kernel
theorem dX12_bookWith_22 : decode cX12_bookWith 22 = .ok (.aload_n 0, 1) := by decide +kernel
theorem dX12_bookWith_23 : decode cX12_bookWith 23 = .ok (.getfield 65, 3) := by decide +kernel
theorem dX12_bookWith_26 : decode cX12_bookWith 26 = .ok (.bipush 30, 2) := by decide +kernel
theorem dX12_bookWith_28 : decode cX12_bookWith 28 = .ok (.iload_n 1, 1) := by decide +kernel
theorem dX12_bookWith_29 : decode cX12_bookWith 29 = .ok (.imul, 1) := by decide +kernel
theorem dX12_bookWith_30 : decode cX12_bookWith 30 = .ok (.iload 5, 2) := by decide +kernel
theorem dX12_bookWith_32 : decode cX12_bookWith 32 = .ok (.iadd, 1) := by decide +kernel
theorem dX12_bookWith_33 : decode cX12_bookWith 33 = .ok (.iaload, 1) := by decide +kernel
theorem dX12_bookWith_34 : decode cX12_bookWith 34 = .ok (.istore 6, 2) := by decide +kernel
theorem dX12_bookWith_36 : decode cX12_bookWith 36 = .ok (.iload 6, 2) := by decide +kernel
theorem dX12_bookWith_38 : decode cX12_bookWith 38 = .ok (.ifCond .le 39, 3) := by decide +kernel
theorem dX12_bookWith_41 : decode cX12_bookWith 41 = .ok (.aload_n 0, 1) := by decide +kernel
theorem dX12_bookWith_42 : decode cX12_bookWith 42 = .ok (.iload 5, 2) := by decide +kernel
theorem dX12_bookWith_44 : decode cX12_bookWith 44 = .ok (.invokevirtual 229, 3) := by decide +kernel
theorem dX12_bookWith_47 : decode cX12_bookWith 47 = .ok (.aload_n 0, 1) := by decide +kernel
theorem dX12_bookWith_48 : decode cX12_bookWith 48 = .ok (.iload_n 2, 1) := by decide +kernel
theorem dX12_bookWith_49 : decode cX12_bookWith 49 = .ok (.iload_n 3, 1) := by decide +kernel
theorem dX12_bookWith_50 : decode cX12_bookWith 50 = .ok (.invokevirtual 241, 3) := by decide +kernel
theorem dX12_bookWith_53 : decode cX12_bookWith 53 = .ok (.istore 7, 2) := by decide +kernel
theorem dX12_bookWith_55 : decode cX12_bookWith 55 = .ok (.iload 7, 2) := by decide +kernel
theorem dX12_bookWith_57 : decode cX12_bookWith 57 = .ok (.ldc 167, 2) := by decide +kernel
theorem dX12_bookWith_59 : decode cX12_bookWith 59 = .ok (.if_icmp .ne 8, 3) := by decide +kernel
theorem dX12_bookWith_62 : decode cX12_bookWith 62 = .ok (.ldc 167, 2) := by decide +kernel
theorem dX12_bookWith_64 : decode cX12_bookWith 64 = .ok (.goto 11, 3) := by decide +kernel
theorem dX12_bookWith_67 : decode cX12_bookWith 67 = .ok (.iload 4, 2) := by decide +kernel
theorem dX12_bookWith_69 : decode cX12_bookWith 69 = .ok (.iload 6, 2) := by decide +kernel
theorem dX12_bookWith_71 : decode cX12_bookWith 71 = .ok (.iload 7, 2) := by decide +kernel
theorem dX12_bookWith_73 : decode cX12_bookWith 73 = .ok (.imul, 1) := by decide +kernel
theorem dX12_bookWith_74 : decode cX12_bookWith 74 = .ok (.iadd, 1) := by decide +kernel
theorem dX12_bookWith_75 : decode cX12_bookWith 75 = .ok (.istore 4, 2) := by decide +kernel
theorem dX12_bookWith_77 : decode cX12_bookWith 77 = .ok (.iinc 5 1, 3) := by decide +kernel
theorem dX12_bookWith_80 : decode cX12_bookWith 80 = .ok (.goto (-74), 3) := by decide +kernel
theorem dX12_bookWith_83 : decode cX12_bookWith 83 = .ok (.iload 4, 2) := by decide +kernel
theorem dX12_bookWith_85 : decode cX12_bookWith 85 = .ok (.ireturn, 1) := by decide +kernel
theorem dX12_chosen_0 : decode cX12_chosen 0 = .ok (.iload_n 1, 1) := by decide +kernel
theorem dX12_chosen_1 : decode cX12_chosen 1 = .ok (.invokestatic 218, 3) := by decide +kernel
theorem dX12_chosen_4 : decode cX12_chosen 4 = .ok (.ifCond .eq 10, 3) := by decide +kernel
theorem dX12_chosen_7 : decode cX12_chosen 7 = .ok (.iload_n 2, 1) := by decide +kernel
theorem dX12_chosen_8 : decode cX12_chosen 8 = .ok (.invokestatic 121, 3) := by decide +kernel
theorem dX12_chosen_11 : decode cX12_chosen 11 = .ok (.ifCond .ne 5, 3) := by decide +kernel
theorem dX12_chosen_14 : decode cX12_chosen 14 = .ok (.iconst (-1), 1) := by decide +kernel
theorem dX12_chosen_15 : decode cX12_chosen 15 = .ok (.ireturn, 1) := by decide +kernel
theorem dX12_chosen_16 : decode cX12_chosen 16 = .ok (.iload_n 3, 1) := by decide +kernel
theorem dX12_chosen_17 : decode cX12_chosen 17 = .ok (.i2l, 1) := by decide +kernel
theorem dX12_chosen_18 : decode cX12_chosen 18 = .ok (.lconst 0, 1) := by decide +kernel
theorem dX12_chosen_19 : decode cX12_chosen 19 = .ok (.ldc2_w 244, 3) := by decide +kernel
theorem dX12_chosen_22 : decode cX12_chosen 22 = .ok (.invokestatic 115, 3) := by decide +kernel
theorem dX12_chosen_25 : decode cX12_chosen 25 = .ok (.ifCond .eq 14, 3) := by decide +kernel
theorem dX12_chosen_28 : decode cX12_chosen 28 = .ok (.iload 4, 2) := by decide +kernel
theorem dX12_chosen_30 : decode cX12_chosen 30 = .ok (.i2l, 1) := by decide +kernel
theorem dX12_chosen_31 : decode cX12_chosen 31 = .ok (.lconst 0, 1) := by decide +kernel
theorem dX12_chosen_32 : decode cX12_chosen 32 = .ok (.lconst 1, 1) := by decide +kernel
theorem dX12_chosen_33 : decode cX12_chosen 33 = .ok (.invokestatic 115, 3) := by decide +kernel
theorem dX12_chosen_36 : decode cX12_chosen 36 = .ok (.ifCond .ne 6, 3) := by decide +kernel
theorem dX12_chosen_39 : decode cX12_chosen 39 = .ok (.bipush (-2), 2) := by decide +kernel
theorem dX12_chosen_41 : decode cX12_chosen 41 = .ok (.ireturn, 1) := by decide +kernel
theorem dX12_chosen_42 : decode cX12_chosen 42 = .ok (.iconst 0, 1) := by decide +kernel
theorem dX12_chosen_43 : decode cX12_chosen 43 = .ok (.istore 5, 2) := by decide +kernel
theorem dX12_chosen_45 : decode cX12_chosen 45 = .ok (.ldc 167, 2) := by decide +kernel
theorem dX12_chosen_47 : decode cX12_chosen 47 = .ok (.istore 6, 2) := by decide +kernel
theorem dX12_chosen_49 : decode cX12_chosen 49 = .ok (.iconst 0, 1) := by decide +kernel
theorem dX12_chosen_50 : decode cX12_chosen 50 = .ok (.istore 7, 2) := by decide +kernel
theorem dX12_chosen_52 : decode cX12_chosen 52 = .ok (.iload 7, 2) := by decide +kernel
theorem dX12_chosen_54 : decode cX12_chosen 54 = .ok (.iconst 1, 1) := by decide +kernel
theorem dX12_chosen_55 : decode cX12_chosen 55 = .ok (.aload_n 0, 1) := by decide +kernel
theorem dX12_chosen_56 : decode cX12_chosen 56 = .ok (.getfield 235, 3) := by decide +kernel
theorem dX12_chosen_59 : decode cX12_chosen 59 = .ok (.ishl, 1) := by decide +kernel
theorem dX12_chosen_60 : decode cX12_chosen 60 = .ok (.if_icmp .ge 63, 3) := by decide +kernel
theorem dX12_chosen_63 : decode cX12_chosen 63 = .ok (.iload 7, 2) := by decide +kernel
theorem dX12_chosen_65 : decode cX12_chosen 65 = .ok (.invokestatic 150, 3) := by decide +kernel
theorem dX12_chosen_68 : decode cX12_chosen 68 = .ok (.iload_n 3, 1) := by decide +kernel
theorem dX12_chosen_69 : decode cX12_chosen 69 = .ok (.if_icmp .gt 48, 3) := by decide +kernel
theorem dX12_chosen_72 : decode cX12_chosen 72 = .ok (.aload_n 0, 1) := by decide +kernel
theorem dX12_chosen_73 : decode cX12_chosen 73 = .ok (.iload_n 1, 1) := by decide +kernel
theorem dX12_chosen_74 : decode cX12_chosen 74 = .ok (.iload_n 2, 1) := by decide +kernel
theorem dX12_chosen_75 : decode cX12_chosen 75 = .ok (.iload 7, 2) := by decide +kernel
theorem dX12_chosen_77 : decode cX12_chosen 77 = .ok (.invokevirtual 246, 3) := by decide +kernel
theorem dX12_chosen_80 : decode cX12_chosen 80 = .ok (.istore 8, 2) := by decide +kernel
theorem dX12_chosen_82 : decode cX12_chosen 82 = .ok (.iload 8, 2) := by decide +kernel
theorem dX12_chosen_84 : decode cX12_chosen 84 = .ok (.iload 6, 2) := by decide +kernel
theorem dX12_chosen_86 : decode cX12_chosen 86 = .ok (.if_icmp .lt 23, 3) := by decide +kernel
theorem dX12_chosen_89 : decode cX12_chosen 89 = .ok (.iload 8, 2) := by decide +kernel
theorem dX12_chosen_91 : decode cX12_chosen 91 = .ok (.iload 6, 2) := by decide +kernel
theorem dX12_chosen_93 : decode cX12_chosen 93 = .ok (.if_icmp .ne 24, 3) := by decide +kernel
theorem dX12_chosen_96 : decode cX12_chosen 96 = .ok (.iload 7, 2) := by decide +kernel
theorem dX12_chosen_98 : decode cX12_chosen 98 = .ok (.invokestatic 150, 3) := by decide +kernel
theorem dX12_chosen_101 : decode cX12_chosen 101 = .ok (.iload 5, 2) := by decide +kernel
theorem dX12_chosen_103 : decode cX12_chosen 103 = .ok (.invokestatic 150, 3) := by decide +kernel
theorem dX12_chosen_106 : decode cX12_chosen 106 = .ok (.if_icmp .ge 11, 3) := by decide +kernel
theorem dX12_chosen_109 : decode cX12_chosen 109 = .ok (.iload 8, 2) := by decide +kernel
theorem dX12_chosen_111 : decode cX12_chosen 111 = .ok (.istore 6, 2) := by decide +kernel
theorem dX12_chosen_113 : decode cX12_chosen 113 = .ok (.iload 7, 2) := by decide +kernel
theorem dX12_chosen_115 : decode cX12_chosen 115 = .ok (.istore 5, 2) := by decide +kernel
theorem dX12_chosen_117 : decode cX12_chosen 117 = .ok (.iinc 7 1, 3) := by decide +kernel
theorem dX12_chosen_120 : decode cX12_chosen 120 = .ok (.goto (-68), 3) := by decide +kernel
theorem dX12_chosen_123 : decode cX12_chosen 123 = .ok (.iload 6, 2) := by decide +kernel
theorem dX12_chosen_125 : decode cX12_chosen 125 = .ok (.ldc 167, 2) := by decide +kernel
theorem dX12_chosen_127 : decode cX12_chosen 127 = .ok (.if_icmp .ne 8, 3) := by decide +kernel
theorem dX12_chosen_130 : decode cX12_chosen 130 = .ok (.bipush (-5), 2) := by decide +kernel
theorem dX12_chosen_132 : decode cX12_chosen 132 = .ok (.goto 15, 3) := by decide +kernel
theorem dX12_chosen_135 : decode cX12_chosen 135 = .ok (.iload 4, 2) := by decide +kernel
theorem dX12_chosen_137 : decode cX12_chosen 137 = .ok (.ifCond .ne 8, 3) := by decide +kernel
theorem dX12_chosen_140 : decode cX12_chosen 140 = .ok (.iload 5, 2) := by decide +kernel
theorem dX12_chosen_142 : decode cX12_chosen 142 = .ok (.goto 5, 3) := by decide +kernel
theorem dX12_chosen_145 : decode cX12_chosen 145 = .ok (.iload 6, 2) := by decide +kernel
theorem dX12_chosen_147 : decode cX12_chosen 147 = .ok (.ireturn, 1) := by decide +kernel
theorem dX12_isReader_0 : decode cX12_isReader 0 = .ok (.iload_n 1, 1) := by decide +kernel
theorem dX12_isReader_1 : decode cX12_isReader 1 = .ok (.i2l, 1) := by decide +kernel
theorem dX12_isReader_2 : decode cX12_isReader 2 = .ok (.lconst 0, 1) := by decide +kernel
theorem dX12_isReader_3 : decode cX12_isReader 3 = .ok (.aload_n 0, 1) := by decide +kernel
theorem dX12_isReader_4 : decode cX12_isReader 4 = .ok (.getfield 249, 3) := by decide +kernel
theorem dX12_isReader_7 : decode cX12_isReader 7 = .ok (.iconst 1, 1) := by decide +kernel
theorem dX12_isReader_8 : decode cX12_isReader 8 = .ok (.isub, 1) := by decide +kernel
theorem dX12_isReader_9 : decode cX12_isReader 9 = .ok (.i2l, 1) := by decide +kernel
theorem dX12_isReader_10 : decode cX12_isReader 10 = .ok (.invokestatic 115, 3) := by decide +kernel
theorem dX12_isReader_13 : decode cX12_isReader 13 = .ok (.ireturn, 1) := by decide +kernel
theorem dX12_isSchool_0 : decode cX12_isSchool 0 = .ok (.iload_n 0, 1) := by decide +kernel
theorem dX12_isSchool_1 : decode cX12_isSchool 1 = .ok (.i2l, 1) := by decide +kernel
theorem dX12_isSchool_2 : decode cX12_isSchool 2 = .ok (.lconst 0, 1) := by decide +kernel
theorem dX12_isSchool_3 : decode cX12_isSchool 3 = .ok (.ldc2_w 252, 3) := by decide +kernel
theorem dX12_isSchool_6 : decode cX12_isSchool 6 = .ok (.invokestatic 115, 3) := by decide +kernel
theorem dX12_isSchool_9 : decode cX12_isSchool 9 = .ok (.ireturn, 1) := by decide +kernel
theorem dX12_reader_0 : decode cX12_reader 0 = .ok (.iload_n 2, 1) := by decide +kernel
theorem dX12_reader_1 : decode cX12_reader 1 = .ok (.invokestatic 254, 3) := by decide +kernel
theorem dX12_reader_4 : decode cX12_reader 4 = .ok (.ifCond .ne 5, 3) := by decide +kernel
theorem dX12_reader_7 : decode cX12_reader 7 = .ok (.iconst (-1), 1) := by decide +kernel
theorem dX12_reader_8 : decode cX12_reader 8 = .ok (.ireturn, 1) := by decide +kernel
theorem dX12_reader_9 : decode cX12_reader 9 = .ok (.iload_n 1, 1) := by decide +kernel
theorem dX12_reader_10 : decode cX12_reader 10 = .ok (.i2l, 1) := by decide +kernel
theorem dX12_reader_11 : decode cX12_reader 11 = .ok (.ldc2_w 252, 3) := by decide +kernel
theorem dX12_reader_14 : decode cX12_reader 14 = .ok (.ldc2_w 257, 3) := by decide +kernel
theorem dX12_reader_17 : decode cX12_reader 17 = .ok (.invokestatic 115, 3) := by decide +kernel
theorem dX12_reader_20 : decode cX12_reader 20 = .ok (.ifCond .ne 6, 3) := by decide +kernel
theorem dX12_reader_23 : decode cX12_reader 23 = .ok (.bipush (-2), 2) := by decide +kernel
theorem dX12_reader_25 : decode cX12_reader 25 = .ok (.ireturn, 1) := by decide +kernel
theorem dX12_reader_26 : decode cX12_reader 26 = .ok (.aload_n 0, 1) := by decide +kernel
theorem dX12_reader_27 : decode cX12_reader 27 = .ok (.getfield 249, 3) := by decide +kernel
theorem dX12_reader_30 : decode cX12_reader 30 = .ok (.bipush 20, 2) := by decide +kernel
theorem dX12_reader_32 : decode cX12_reader 32 = .ok (.if_icmp .ne 6, 3) := by decide +kernel
theorem dX12_reader_35 : decode cX12_reader 35 = .ok (.bipush (-4), 2) := by decide +kernel
theorem dX12_reader_37 : decode cX12_reader 37 = .ok (.ireturn, 1) := by decide +kernel
theorem dX12_reader_38 : decode cX12_reader 38 = .ok (.aload_n 0, 1) := by decide +kernel
theorem dX12_reader_39 : decode cX12_reader 39 = .ok (.getfield 74, 3) := by decide +kernel
theorem dX12_reader_42 : decode cX12_reader 42 = .ok (.aload_n 0, 1) := by decide +kernel
theorem dX12_reader_43 : decode cX12_reader 43 = .ok (.getfield 249, 3) := by decide +kernel
theorem dX12_reader_46 : decode cX12_reader 46 = .ok (.iload_n 1, 1) := by decide +kernel
theorem dX12_reader_47 : decode cX12_reader 47 = .ok (.iastore, 1) := by decide +kernel
theorem dX12_reader_48 : decode cX12_reader 48 = .ok (.aload_n 0, 1) := by decide +kernel
theorem dX12_reader_49 : decode cX12_reader 49 = .ok (.getfield 77, 3) := by decide +kernel
theorem dX12_reader_52 : decode cX12_reader 52 = .ok (.aload_n 0, 1) := by decide +kernel
theorem dX12_reader_53 : decode cX12_reader 53 = .ok (.getfield 249, 3) := by decide +kernel
theorem dX12_reader_56 : decode cX12_reader 56 = .ok (.iload_n 2, 1) := by decide +kernel
theorem dX12_reader_57 : decode cX12_reader 57 = .ok (.iastore, 1) := by decide +kernel
theorem dX12_reader_58 : decode cX12_reader 58 = .ok (.aload_n 0, 1) := by decide +kernel
theorem dX12_reader_59 : decode cX12_reader 59 = .ok (.getfield 80, 3) := by decide +kernel
theorem dX12_reader_62 : decode cX12_reader 62 = .ok (.aload_n 0, 1) := by decide +kernel
theorem dX12_reader_63 : decode cX12_reader 63 = .ok (.getfield 249, 3) := by decide +kernel
theorem dX12_reader_66 : decode cX12_reader 66 = .ok (.iload_n 3, 1) := by decide +kernel
theorem dX12_reader_67 : decode cX12_reader 67 = .ok (.bastore, 1) := by decide +kernel
theorem dX12_reader_68 : decode cX12_reader 68 = .ok (.aload_n 0, 1) := by decide +kernel
theorem dX12_reader_69 : decode cX12_reader 69 = .ok (.dup, 1) := by decide +kernel
theorem dX12_reader_70 : decode cX12_reader 70 = .ok (.getfield 249, 3) := by decide +kernel
theorem dX12_reader_73 : decode cX12_reader 73 = .ok (.iconst 1, 1) := by decide +kernel
theorem dX12_reader_74 : decode cX12_reader 74 = .ok (.iadd, 1) := by decide +kernel
theorem dX12_reader_75 : decode cX12_reader 75 = .ok (.putfield 249, 3) := by decide +kernel
theorem dX12_reader_78 : decode cX12_reader 78 = .ok (.aload_n 0, 1) := by decide +kernel
theorem dX12_reader_79 : decode cX12_reader 79 = .ok (.getfield 249, 3) := by decide +kernel
theorem dX12_reader_82 : decode cX12_reader 82 = .ok (.iconst 1, 1) := by decide +kernel
theorem dX12_reader_83 : decode cX12_reader 83 = .ok (.isub, 1) := by decide +kernel
theorem dX12_reader_84 : decode cX12_reader 84 = .ok (.ireturn, 1) := by decide +kernel
theorem dX12_know_0 : decode cX12_know 0 = .ok (.aload_n 0, 1) := by decide +kernel
theorem dX12_know_1 : decode cX12_know 1 = .ok (.iload_n 1, 1) := by decide +kernel
theorem dX12_know_2 : decode cX12_know 2 = .ok (.invokevirtual 259, 3) := by decide +kernel
theorem dX12_know_5 : decode cX12_know 5 = .ok (.ifCond .eq 10, 3) := by decide +kernel
theorem dX12_know_8 : decode cX12_know 8 = .ok (.iload_n 2, 1) := by decide +kernel
theorem dX12_know_9 : decode cX12_know 9 = .ok (.invokestatic 121, 3) := by decide +kernel
theorem dX12_know_12 : decode cX12_know 12 = .ok (.ifCond .ne 5, 3) := by decide +kernel
theorem dX12_know_15 : decode cX12_know 15 = .ok (.iconst (-1), 1) := by decide +kernel
theorem dX12_know_16 : decode cX12_know 16 = .ok (.ireturn, 1) := by decide +kernel
theorem dX12_know_17 : decode cX12_know 17 = .ok (.iload_n 3, 1) := by decide +kernel
theorem dX12_know_18 : decode cX12_know 18 = .ok (.i2l, 1) := by decide +kernel
theorem dX12_know_19 : decode cX12_know 19 = .ok (.lconst 0, 1) := by decide +kernel
theorem dX12_know_20 : decode cX12_know 20 = .ok (.ldc2_w 262, 3) := by decide +kernel
theorem dX12_know_23 : decode cX12_know 23 = .ok (.invokestatic 115, 3) := by decide +kernel
theorem dX12_know_26 : decode cX12_know 26 = .ok (.ifCond .ne 6, 3) := by decide +kernel
theorem dX12_know_29 : decode cX12_know 29 = .ok (.bipush (-2), 2) := by decide +kernel
theorem dX12_know_31 : decode cX12_know 31 = .ok (.ireturn, 1) := by decide +kernel
theorem dX12_know_32 : decode cX12_know 32 = .ok (.aload_n 0, 1) := by decide +kernel
theorem dX12_know_33 : decode cX12_know 33 = .ok (.getfield 83, 3) := by decide +kernel
theorem dX12_know_36 : decode cX12_know 36 = .ok (.iconst 5, 1) := by decide +kernel
theorem dX12_know_37 : decode cX12_know 37 = .ok (.iload_n 1, 1) := by decide +kernel
theorem dX12_know_38 : decode cX12_know 38 = .ok (.imul, 1) := by decide +kernel
theorem dX12_know_39 : decode cX12_know 39 = .ok (.iload_n 2, 1) := by decide +kernel
theorem dX12_know_40 : decode cX12_know 40 = .ok (.iadd, 1) := by decide +kernel
theorem dX12_know_41 : decode cX12_know 41 = .ok (.iaload, 1) := by decide +kernel
theorem dX12_know_42 : decode cX12_know 42 = .ok (.istore 4, 2) := by decide +kernel
theorem dX12_know_44 : decode cX12_know 44 = .ok (.aload_n 0, 1) := by decide +kernel
theorem dX12_know_45 : decode cX12_know 45 = .ok (.getfield 83, 3) := by decide +kernel
theorem dX12_know_48 : decode cX12_know 48 = .ok (.iconst 5, 1) := by decide +kernel
theorem dX12_know_49 : decode cX12_know 49 = .ok (.iload_n 1, 1) := by decide +kernel
theorem dX12_know_50 : decode cX12_know 50 = .ok (.imul, 1) := by decide +kernel
theorem dX12_know_51 : decode cX12_know 51 = .ok (.iload_n 2, 1) := by decide +kernel
theorem dX12_know_52 : decode cX12_know 52 = .ok (.iadd, 1) := by decide +kernel
theorem dX12_know_53 : decode cX12_know 53 = .ok (.iload_n 3, 1) := by decide +kernel
theorem dX12_know_54 : decode cX12_know 54 = .ok (.iastore, 1) := by decide +kernel
theorem dX12_know_55 : decode cX12_know 55 = .ok (.iload 4, 2) := by decide +kernel
theorem dX12_know_57 : decode cX12_know 57 = .ok (.ireturn, 1) := by decide +kernel
theorem dX12_move_0 : decode cX12_move 0 = .ok (.aload_n 0, 1) := by decide +kernel
theorem dX12_move_1 : decode cX12_move 1 = .ok (.iload_n 1, 1) := by decide +kernel
theorem dX12_move_2 : decode cX12_move 2 = .ok (.invokevirtual 259, 3) := by decide +kernel
theorem dX12_move_5 : decode cX12_move 5 = .ok (.ifCond .eq 10, 3) := by decide +kernel
theorem dX12_move_8 : decode cX12_move 8 = .ok (.iload_n 2, 1) := by decide +kernel
theorem dX12_move_9 : decode cX12_move 9 = .ok (.invokestatic 254, 3) := by decide +kernel
theorem dX12_move_12 : decode cX12_move 12 = .ok (.ifCond .ne 5, 3) := by decide +kernel
theorem dX12_move_15 : decode cX12_move 15 = .ok (.iconst (-1), 1) := by decide +kernel
theorem dX12_move_16 : decode cX12_move 16 = .ok (.ireturn, 1) := by decide +kernel
theorem dX12_move_17 : decode cX12_move 17 = .ok (.aload_n 0, 1) := by decide +kernel
theorem dX12_move_18 : decode cX12_move 18 = .ok (.getfield 77, 3) := by decide +kernel
theorem dX12_move_21 : decode cX12_move 21 = .ok (.iload_n 1, 1) := by decide +kernel
theorem dX12_move_22 : decode cX12_move 22 = .ok (.iaload, 1) := by decide +kernel
theorem dX12_move_23 : decode cX12_move 23 = .ok (.istore_n 3, 1) := by decide +kernel
theorem dX12_move_24 : decode cX12_move 24 = .ok (.aload_n 0, 1) := by decide +kernel
theorem dX12_move_25 : decode cX12_move 25 = .ok (.getfield 77, 3) := by decide +kernel
theorem dX12_move_28 : decode cX12_move 28 = .ok (.iload_n 1, 1) := by decide +kernel
theorem dX12_move_29 : decode cX12_move 29 = .ok (.iload_n 2, 1) := by decide +kernel
theorem dX12_move_30 : decode cX12_move 30 = .ok (.iastore, 1) := by decide +kernel
theorem dX12_move_31 : decode cX12_move 31 = .ok (.iload_n 3, 1) := by decide +kernel
theorem dX12_move_32 : decode cX12_move 32 = .ok (.ireturn, 1) := by decide +kernel
theorem dX12_ownCode_0 : decode cX12_ownCode 0 = .ok (.bipush (-6), 2) := by decide +kernel
theorem dX12_ownCode_2 : decode cX12_ownCode 2 = .ok (.istore_n 2, 1) := by decide +kernel
theorem dX12_ownCode_3 : decode cX12_ownCode 3 = .ok (.iconst 0, 1) := by decide +kernel
theorem dX12_ownCode_4 : decode cX12_ownCode 4 = .ok (.istore_n 3, 1) := by decide +kernel
theorem dX12_ownCode_5 : decode cX12_ownCode 5 = .ok (.iconst 0, 1) := by decide +kernel
theorem dX12_ownCode_6 : decode cX12_ownCode 6 = .ok (.istore 4, 2) := by decide +kernel
theorem dX12_ownCode_8 : decode cX12_ownCode 8 = .ok (.iload 4, 2) := by decide +kernel
theorem dX12_ownCode_10 : decode cX12_ownCode 10 = .ok (.iconst 5, 1) := by decide +kernel
theorem dX12_ownCode_11 : decode cX12_ownCode 11 = .ok (.if_icmp .ge 39, 3) := by decide +kernel
theorem dX12_ownCode_14 : decode cX12_ownCode 14 = .ok (.aload_n 0, 1) := by decide +kernel
theorem dX12_ownCode_15 : decode cX12_ownCode 15 = .ok (.getfield 83, 3) := by decide +kernel
theorem dX12_ownCode_18 : decode cX12_ownCode 18 = .ok (.iconst 5, 1) := by decide +kernel
theorem dX12_ownCode_19 : decode cX12_ownCode 19 = .ok (.iload_n 1, 1) := by decide +kernel
theorem dX12_ownCode_20 : decode cX12_ownCode 20 = .ok (.imul, 1) := by decide +kernel
theorem dX12_ownCode_21 : decode cX12_ownCode 21 = .ok (.iload 4, 2) := by decide +kernel
theorem dX12_ownCode_23 : decode cX12_ownCode 23 = .ok (.iadd, 1) := by decide +kernel
theorem dX12_ownCode_24 : decode cX12_ownCode 24 = .ok (.iaload, 1) := by decide +kernel
theorem dX12_ownCode_25 : decode cX12_ownCode 25 = .ok (.iload_n 3, 1) := by decide +kernel
theorem dX12_ownCode_26 : decode cX12_ownCode 26 = .ok (.if_icmp .le 18, 3) := by decide +kernel
theorem dX12_ownCode_29 : decode cX12_ownCode 29 = .ok (.aload_n 0, 1) := by decide +kernel
theorem dX12_ownCode_30 : decode cX12_ownCode 30 = .ok (.getfield 83, 3) := by decide +kernel
theorem dX12_ownCode_33 : decode cX12_ownCode 33 = .ok (.iconst 5, 1) := by decide +kernel
theorem dX12_ownCode_34 : decode cX12_ownCode 34 = .ok (.iload_n 1, 1) := by decide +kernel
theorem dX12_ownCode_35 : decode cX12_ownCode 35 = .ok (.imul, 1) := by decide +kernel
theorem dX12_ownCode_36 : decode cX12_ownCode 36 = .ok (.iload 4, 2) := by decide +kernel
theorem dX12_ownCode_38 : decode cX12_ownCode 38 = .ok (.iadd, 1) := by decide +kernel
theorem dX12_ownCode_39 : decode cX12_ownCode 39 = .ok (.iaload, 1) := by decide +kernel
theorem dX12_ownCode_40 : decode cX12_ownCode 40 = .ok (.istore_n 3, 1) := by decide +kernel
theorem dX12_ownCode_41 : decode cX12_ownCode 41 = .ok (.iload 4, 2) := by decide +kernel
theorem dX12_ownCode_43 : decode cX12_ownCode 43 = .ok (.istore_n 2, 1) := by decide +kernel
theorem dX12_ownCode_44 : decode cX12_ownCode 44 = .ok (.iinc 4 1, 3) := by decide +kernel
theorem dX12_ownCode_47 : decode cX12_ownCode 47 = .ok (.goto (-39), 3) := by decide +kernel
theorem dX12_ownCode_50 : decode cX12_ownCode 50 = .ok (.iload_n 2, 1) := by decide +kernel
theorem dX12_ownCode_51 : decode cX12_ownCode 51 = .ok (.ireturn, 1) := by decide +kernel
theorem dX12_knows_0 : decode cX12_knows 0 = .ok (.aload_n 0, 1) := by decide +kernel
theorem dX12_knows_1 : decode cX12_knows 1 = .ok (.getfield 83, 3) := by decide +kernel
theorem dX12_knows_4 : decode cX12_knows 4 = .ok (.iconst 5, 1) := by decide +kernel
theorem dX12_knows_5 : decode cX12_knows 5 = .ok (.iload_n 1, 1) := by decide +kernel
theorem dX12_knows_6 : decode cX12_knows 6 = .ok (.imul, 1) := by decide +kernel
theorem dX12_knows_7 : decode cX12_knows 7 = .ok (.iload_n 2, 1) := by decide +kernel
theorem dX12_knows_8 : decode cX12_knows 8 = .ok (.iadd, 1) := by decide +kernel
theorem dX12_knows_9 : decode cX12_knows 9 = .ok (.iaload, 1) := by decide +kernel
theorem dX12_knows_10 : decode cX12_knows 10 = .ok (.ifCond .le 7, 3) := by decide +kernel
theorem dX12_knows_13 : decode cX12_knows 13 = .ok (.iconst 1, 1) := by decide +kernel
theorem dX12_knows_14 : decode cX12_knows 14 = .ok (.goto 4, 3) := by decide +kernel
theorem dX12_knows_17 : decode cX12_knows 17 = .ok (.iconst 0, 1) := by decide +kernel
theorem dX12_knows_18 : decode cX12_knows 18 = .ok (.ireturn, 1) := by decide +kernel
theorem dX12_known_0 : decode cX12_known 0 = .ok (.iconst 0, 1) := by decide +kernel
theorem dX12_known_1 : decode cX12_known 1 = .ok (.istore_n 2, 1) := by decide +kernel
theorem dX12_known_2 : decode cX12_known 2 = .ok (.iconst 0, 1) := by decide +kernel
theorem dX12_known_3 : decode cX12_known 3 = .ok (.istore_n 3, 1) := by decide +kernel
theorem dX12_known_4 : decode cX12_known 4 = .ok (.iload_n 3, 1) := by decide +kernel
theorem dX12_known_5 : decode cX12_known 5 = .ok (.iconst 5, 1) := by decide +kernel
theorem dX12_known_6 : decode cX12_known 6 = .ok (.if_icmp .ge 28, 3) := by decide +kernel
theorem dX12_known_9 : decode cX12_known 9 = .ok (.iload_n 2, 1) := by decide +kernel
theorem dX12_known_10 : decode cX12_known 10 = .ok (.aload_n 0, 1) := by decide +kernel
theorem dX12_known_11 : decode cX12_known 11 = .ok (.iload_n 1, 1) := by decide +kernel
theorem dX12_known_12 : decode cX12_known 12 = .ok (.iload_n 3, 1) := by decide +kernel
theorem dX12_known_13 : decode cX12_known 13 = .ok (.invokevirtual 264, 3) := by decide +kernel
theorem dX12_known_16 : decode cX12_known 16 = .ok (.ifCond .eq 9, 3) := by decide +kernel
theorem dX12_known_19 : decode cX12_known 19 = .ok (.iconst 1, 1) := by decide +kernel
theorem dX12_known_20 : decode cX12_known 20 = .ok (.iload_n 3, 1) := by decide +kernel
theorem dX12_known_21 : decode cX12_known 21 = .ok (.ishl, 1) := by decide +kernel
theorem dX12_known_22 : decode cX12_known 22 = .ok (.goto 4, 3) := by decide +kernel
theorem dX12_known_25 : decode cX12_known 25 = .ok (.iconst 0, 1) := by decide +kernel
theorem dX12_known_26 : decode cX12_known 26 = .ok (.ior, 1) := by decide +kernel
theorem dX12_known_27 : decode cX12_known 27 = .ok (.istore_n 2, 1) := by decide +kernel
theorem dX12_known_28 : decode cX12_known 28 = .ok (.iinc 3 1, 3) := by decide +kernel
theorem dX12_known_31 : decode cX12_known 31 = .ok (.goto (-27), 3) := by decide +kernel
theorem dX12_known_34 : decode cX12_known 34 = .ok (.iload_n 2, 1) := by decide +kernel
theorem dX12_known_35 : decode cX12_known 35 = .ok (.ireturn, 1) := by decide +kernel
theorem dX12_about_0 : decode cX12_about 0 = .ok (.aload_n 0, 1) := by decide +kernel
theorem dX12_about_1 : decode cX12_about 1 = .ok (.iload_n 1, 1) := by decide +kernel
theorem dX12_about_2 : decode cX12_about 2 = .ok (.invokevirtual 259, 3) := by decide +kernel
theorem dX12_about_5 : decode cX12_about 5 = .ok (.ifCond .ne 5, 3) := by decide +kernel
theorem dX12_about_8 : decode cX12_about 8 = .ok (.iconst (-1), 1) := by decide +kernel
theorem dX12_about_9 : decode cX12_about 9 = .ok (.ireturn, 1) := by decide +kernel
theorem dX12_about_10 : decode cX12_about 10 = .ok (.iload_n 2, 1) := by decide +kernel
theorem dX12_about_11 : decode cX12_about 11 = .ok (.tableswitch 74 0 4 #[33, 40, 47, 62, 68], 33) := by decide +kernel
theorem dX12_about_44 : decode cX12_about 44 = .ok (.aload_n 0, 1) := by decide +kernel
theorem dX12_about_45 : decode cX12_about 45 = .ok (.getfield 74, 3) := by decide +kernel
theorem dX12_about_48 : decode cX12_about 48 = .ok (.iload_n 1, 1) := by decide +kernel
theorem dX12_about_49 : decode cX12_about 49 = .ok (.iaload, 1) := by decide +kernel
theorem dX12_about_50 : decode cX12_about 50 = .ok (.ireturn, 1) := by decide +kernel
theorem dX12_about_51 : decode cX12_about 51 = .ok (.aload_n 0, 1) := by decide +kernel
theorem dX12_about_52 : decode cX12_about 52 = .ok (.getfield 77, 3) := by decide +kernel
theorem dX12_about_55 : decode cX12_about 55 = .ok (.iload_n 1, 1) := by decide +kernel
theorem dX12_about_56 : decode cX12_about 56 = .ok (.iaload, 1) := by decide +kernel
theorem dX12_about_57 : decode cX12_about 57 = .ok (.ireturn, 1) := by decide +kernel
theorem dX12_about_58 : decode cX12_about 58 = .ok (.aload_n 0, 1) := by decide +kernel
theorem dX12_about_59 : decode cX12_about 59 = .ok (.getfield 80, 3) := by decide +kernel
theorem dX12_about_62 : decode cX12_about 62 = .ok (.iload_n 1, 1) := by decide +kernel
theorem dX12_about_63 : decode cX12_about 63 = .ok (.baload, 1) := by decide +kernel
theorem dX12_about_64 : decode cX12_about 64 = .ok (.ifCond .eq 7, 3) := by decide +kernel
theorem dX12_about_67 : decode cX12_about 67 = .ok (.iconst 1, 1) := by decide +kernel
theorem dX12_about_68 : decode cX12_about 68 = .ok (.goto 4, 3) := by decide +kernel
theorem dX12_about_71 : decode cX12_about 71 = .ok (.iconst 0, 1) := by decide +kernel
theorem dX12_about_72 : decode cX12_about 72 = .ok (.ireturn, 1) := by decide +kernel
theorem dX12_about_73 : decode cX12_about 73 = .ok (.aload_n 0, 1) := by decide +kernel
theorem dX12_about_74 : decode cX12_about 74 = .ok (.iload_n 1, 1) := by decide +kernel
theorem dX12_about_75 : decode cX12_about 75 = .ok (.invokevirtual 267, 3) := by decide +kernel
theorem dX12_about_78 : decode cX12_about 78 = .ok (.ireturn, 1) := by decide +kernel
theorem dX12_about_79 : decode cX12_about 79 = .ok (.aload_n 0, 1) := by decide +kernel
theorem dX12_about_80 : decode cX12_about 80 = .ok (.iload_n 1, 1) := by decide +kernel
theorem dX12_about_81 : decode cX12_about 81 = .ok (.invokevirtual 270, 3) := by decide +kernel
theorem dX12_about_84 : decode cX12_about 84 = .ok (.ireturn, 1) := by decide +kernel
theorem dX12_about_85 : decode cX12_about 85 = .ok (.iload_n 2, 1) := by decide +kernel
theorem dX12_about_86 : decode cX12_about 86 = .ok (.i2l, 1) := by decide +kernel
theorem dX12_about_87 : decode cX12_about 87 = .ok (.ldc2_w 273, 3) := by decide +kernel
theorem dX12_about_90 : decode cX12_about 90 = .ok (.ldc2_w 275, 3) := by decide +kernel
theorem dX12_about_93 : decode cX12_about 93 = .ok (.invokestatic 115, 3) := by decide +kernel
theorem dX12_about_96 : decode cX12_about 96 = .ok (.ifCond .eq 19, 3) := by decide +kernel
theorem dX12_about_99 : decode cX12_about 99 = .ok (.aload_n 0, 1) := by decide +kernel
theorem dX12_about_100 : decode cX12_about 100 = .ok (.getfield 83, 3) := by decide +kernel
theorem dX12_about_103 : decode cX12_about 103 = .ok (.iconst 5, 1) := by decide +kernel
theorem dX12_about_104 : decode cX12_about 104 = .ok (.iload_n 1, 1) := by decide +kernel
theorem dX12_about_105 : decode cX12_about 105 = .ok (.imul, 1) := by decide +kernel
theorem dX12_about_106 : decode cX12_about 106 = .ok (.iload_n 2, 1) := by decide +kernel
theorem dX12_about_107 : decode cX12_about 107 = .ok (.iadd, 1) := by decide +kernel
theorem dX12_about_108 : decode cX12_about 108 = .ok (.bipush 10, 2) := by decide +kernel
theorem dX12_about_110 : decode cX12_about 110 = .ok (.isub, 1) := by decide +kernel
theorem dX12_about_111 : decode cX12_about 111 = .ok (.iaload, 1) := by decide +kernel
theorem dX12_about_112 : decode cX12_about 112 = .ok (.goto 5, 3) := by decide +kernel
theorem dX12_about_115 : decode cX12_about 115 = .ok (.bipush (-2), 2) := by decide +kernel
theorem dX12_about_117 : decode cX12_about 117 = .ok (.ireturn, 1) := by decide +kernel
theorem dX12_nearOf_0 : decode cX12_nearOf 0 = .ok (.iconst 0, 1) := by decide +kernel
theorem dX12_nearOf_1 : decode cX12_nearOf 1 = .ok (.istore_n 3, 1) := by decide +kernel
theorem dX12_nearOf_2 : decode cX12_nearOf 2 = .ok (.iconst 1, 1) := by decide +kernel
theorem dX12_nearOf_3 : decode cX12_nearOf 3 = .ok (.istore 4, 2) := by decide +kernel
theorem dX12_nearOf_5 : decode cX12_nearOf 5 = .ok (.iload 4, 2) := by decide +kernel
theorem dX12_nearOf_7 : decode cX12_nearOf 7 = .ok (.bipush 64, 2) := by decide +kernel
theorem dX12_nearOf_9 : decode cX12_nearOf 9 = .ok (.if_icmp .ge 81, 3) := by decide +kernel
theorem dX12_nearOf_12 : decode cX12_nearOf 12 = .ok (.iconst 0, 1) := by decide +kernel
theorem dX12_nearOf_13 : decode cX12_nearOf 13 = .ok (.istore 5, 2) := by decide +kernel
theorem dX12_nearOf_15 : decode cX12_nearOf 15 = .ok (.iconst 0, 1) := by decide +kernel
theorem dX12_nearOf_16 : decode cX12_nearOf 16 = .ok (.istore 6, 2) := by decide +kernel
theorem dX12_nearOf_18 : decode cX12_nearOf 18 = .ok (.iload 6, 2) := by decide +kernel
theorem dX12_nearOf_20 : decode cX12_nearOf 20 = .ok (.bipush 26, 2) := by decide +kernel
theorem dX12_nearOf_22 : decode cX12_nearOf 22 = .ok (.if_icmp .ge 38, 3) := by decide +kernel
theorem dX12_nearOf_25 : decode cX12_nearOf 25 = .ok (.iload 5, 2) := by decide +kernel
theorem dX12_nearOf_27 : decode cX12_nearOf 27 = .ok (.ifCond .ne 20, 3) := by decide +kernel
theorem dX12_nearOf_30 : decode cX12_nearOf 30 = .ok (.aload_n 0, 1) := by decide +kernel
theorem dX12_nearOf_31 : decode cX12_nearOf 31 = .ok (.getfield 7, 3) := by decide +kernel
theorem dX12_nearOf_34 : decode cX12_nearOf 34 = .ok (.bipush 26, 2) := by decide +kernel
theorem dX12_nearOf_36 : decode cX12_nearOf 36 = .ok (.iload_n 1, 1) := by decide +kernel
theorem dX12_nearOf_37 : decode cX12_nearOf 37 = .ok (.imul, 1) := by decide +kernel
theorem dX12_nearOf_38 : decode cX12_nearOf 38 = .ok (.iload 6, 2) := by decide +kernel
theorem dX12_nearOf_40 : decode cX12_nearOf 40 = .ok (.iadd, 1) := by decide +kernel
theorem dX12_nearOf_41 : decode cX12_nearOf 41 = .ok (.iaload, 1) := by decide +kernel
theorem dX12_nearOf_42 : decode cX12_nearOf 42 = .ok (.iload 4, 2) := by decide +kernel
theorem dX12_nearOf_44 : decode cX12_nearOf 44 = .ok (.if_icmp .ne 7, 3) := by decide +kernel
theorem dX12_nearOf_47 : decode cX12_nearOf 47 = .ok (.iconst 1, 1) := by decide +kernel
theorem dX12_nearOf_48 : decode cX12_nearOf 48 = .ok (.goto 4, 3) := by decide +kernel
theorem dX12_nearOf_51 : decode cX12_nearOf 51 = .ok (.iconst 0, 1) := by decide +kernel
theorem dX12_nearOf_52 : decode cX12_nearOf 52 = .ok (.istore 5, 2) := by decide +kernel
theorem dX12_nearOf_54 : decode cX12_nearOf 54 = .ok (.iinc 6 1, 3) := by decide +kernel
theorem dX12_nearOf_57 : decode cX12_nearOf 57 = .ok (.goto (-39), 3) := by decide +kernel
theorem dX12_nearOf_60 : decode cX12_nearOf 60 = .ok (.iload_n 3, 1) := by decide +kernel
theorem dX12_nearOf_61 : decode cX12_nearOf 61 = .ok (.iload 5, 2) := by decide +kernel
theorem dX12_nearOf_63 : decode cX12_nearOf 63 = .ok (.ifCond .eq 18, 3) := by decide +kernel
theorem dX12_nearOf_66 : decode cX12_nearOf 66 = .ok (.iload 4, 2) := by decide +kernel
theorem dX12_nearOf_68 : decode cX12_nearOf 68 = .ok (.iload_n 2, 1) := by decide +kernel
theorem dX12_nearOf_69 : decode cX12_nearOf 69 = .ok (.ixor, 1) := by decide +kernel
theorem dX12_nearOf_70 : decode cX12_nearOf 70 = .ok (.invokestatic 150, 3) := by decide +kernel
theorem dX12_nearOf_73 : decode cX12_nearOf 73 = .ok (.iconst 1, 1) := by decide +kernel
theorem dX12_nearOf_74 : decode cX12_nearOf 74 = .ok (.if_icmp .ne 7, 3) := by decide +kernel
theorem dX12_nearOf_77 : decode cX12_nearOf 77 = .ok (.iconst 1, 1) := by decide +kernel
theorem dX12_nearOf_78 : decode cX12_nearOf 78 = .ok (.goto 4, 3) := by decide +kernel
theorem dX12_nearOf_81 : decode cX12_nearOf 81 = .ok (.iconst 0, 1) := by decide +kernel
theorem dX12_nearOf_82 : decode cX12_nearOf 82 = .ok (.iadd, 1) := by decide +kernel
theorem dX12_nearOf_83 : decode cX12_nearOf 83 = .ok (.istore_n 3, 1) := by decide +kernel
theorem dX12_nearOf_84 : decode cX12_nearOf 84 = .ok (.iinc 4 1, 3) := by decide +kernel
theorem dX12_nearOf_87 : decode cX12_nearOf 87 = .ok (.goto (-82), 3) := by decide +kernel
theorem dX12_nearOf_90 : decode cX12_nearOf 90 = .ok (.iload_n 3, 1) := by decide +kernel
theorem dX12_nearOf_91 : decode cX12_nearOf 91 = .ok (.ireturn, 1) := by decide +kernel
theorem dX12_near_0 : decode cX12_near 0 = .ok (.iload_n 1, 1) := by decide +kernel
theorem dX12_near_1 : decode cX12_near 1 = .ok (.invokestatic 121, 3) := by decide +kernel
theorem dX12_near_4 : decode cX12_near 4 = .ok (.ifCond .ne 5, 3) := by decide +kernel
theorem dX12_near_7 : decode cX12_near 7 = .ok (.iconst (-1), 1) := by decide +kernel
theorem dX12_near_8 : decode cX12_near 8 = .ok (.ireturn, 1) := by decide +kernel
theorem dX12_near_9 : decode cX12_near 9 = .ok (.iload_n 2, 1) := by decide +kernel
theorem dX12_near_10 : decode cX12_near 10 = .ok (.i2l, 1) := by decide +kernel
theorem dX12_near_11 : decode cX12_near 11 = .ok (.lconst 1, 1) := by decide +kernel
theorem dX12_near_12 : decode cX12_near 12 = .ok (.ldc2_w 128, 3) := by decide +kernel
theorem dX12_near_15 : decode cX12_near 15 = .ok (.invokestatic 115, 3) := by decide +kernel
theorem dX12_near_18 : decode cX12_near 18 = .ok (.ifCond .eq 12, 3) := by decide +kernel
theorem dX12_near_21 : decode cX12_near 21 = .ok (.aload_n 0, 1) := by decide +kernel
theorem dX12_near_22 : decode cX12_near 22 = .ok (.iload_n 1, 1) := by decide +kernel
theorem dX12_near_23 : decode cX12_near 23 = .ok (.iload_n 2, 1) := by decide +kernel
theorem dX12_near_24 : decode cX12_near 24 = .ok (.invokevirtual 277, 3) := by decide +kernel
theorem dX12_near_27 : decode cX12_near 27 = .ok (.goto 5, 3) := by decide +kernel
theorem dX12_near_30 : decode cX12_near 30 = .ok (.bipush (-2), 2) := by decide +kernel
theorem dX12_near_32 : decode cX12_near 32 = .ok (.ireturn, 1) := by decide +kernel
theorem dX12_pace_0 : decode cX12_pace 0 = .ok (.aload_n 0, 1) := by decide +kernel
theorem dX12_pace_1 : decode cX12_pace 1 = .ok (.iload_n 1, 1) := by decide +kernel
theorem dX12_pace_2 : decode cX12_pace 2 = .ok (.invokevirtual 259, 3) := by decide +kernel
theorem dX12_pace_5 : decode cX12_pace 5 = .ok (.ifCond .eq 10, 3) := by decide +kernel
theorem dX12_pace_8 : decode cX12_pace 8 = .ok (.iload_n 2, 1) := by decide +kernel
theorem dX12_pace_9 : decode cX12_pace 9 = .ok (.invokestatic 121, 3) := by decide +kernel
theorem dX12_pace_12 : decode cX12_pace 12 = .ok (.ifCond .ne 5, 3) := by decide +kernel
theorem dX12_pace_15 : decode cX12_pace 15 = .ok (.iconst (-1), 1) := by decide +kernel
theorem dX12_pace_16 : decode cX12_pace 16 = .ok (.ireturn, 1) := by decide +kernel
theorem dX12_pace_17 : decode cX12_pace 17 = .ok (.aload_n 0, 1) := by decide +kernel
theorem dX12_pace_18 : decode cX12_pace 18 = .ok (.iload_n 1, 1) := by decide +kernel
theorem dX12_pace_19 : decode cX12_pace 19 = .ok (.iload_n 2, 1) := by decide +kernel
theorem dX12_pace_20 : decode cX12_pace 20 = .ok (.invokevirtual 264, 3) := by decide +kernel
theorem dX12_pace_23 : decode cX12_pace 23 = .ok (.ifCond .ne 6, 3) := by decide +kernel
theorem dX12_pace_26 : decode cX12_pace 26 = .ok (.bipush (-3), 2) := by decide +kernel
theorem dX12_pace_28 : decode cX12_pace 28 = .ok (.ireturn, 1) := by decide +kernel
theorem dX12_pace_29 : decode cX12_pace 29 = .ok (.aload_n 0, 1) := by decide +kernel
theorem dX12_pace_30 : decode cX12_pace 30 = .ok (.invokevirtual 184, 3) := by decide +kernel
theorem dX12_pace_33 : decode cX12_pace 33 = .ok (.aload_n 0, 1) := by decide +kernel
theorem dX12_pace_34 : decode cX12_pace 34 = .ok (.iload_n 2, 1) := by decide +kernel
theorem dX12_pace_35 : decode cX12_pace 35 = .ok (.invokevirtual 187, 3) := by decide +kernel
theorem dX12_pace_38 : decode cX12_pace 38 = .ok (.ifCond .ne 6, 3) := by decide +kernel
theorem dX12_pace_41 : decode cX12_pace 41 = .ok (.bipush (-5), 2) := by decide +kernel
theorem dX12_pace_43 : decode cX12_pace 43 = .ok (.ireturn, 1) := by decide +kernel
theorem dX12_pace_44 : decode cX12_pace 44 = .ok (.aload_n 0, 1) := by decide +kernel
theorem dX12_pace_45 : decode cX12_pace 45 = .ok (.iload_n 2, 1) := by decide +kernel
theorem dX12_pace_46 : decode cX12_pace 46 = .ok (.invokevirtual 190, 3) := by decide +kernel
theorem dX12_pace_49 : decode cX12_pace 49 = .ok (.iconst 0, 1) := by decide +kernel
theorem dX12_pace_50 : decode cX12_pace 50 = .ok (.istore_n 3, 1) := by decide +kernel
theorem dX12_pace_51 : decode cX12_pace 51 = .ok (.iconst 0, 1) := by decide +kernel
theorem dX12_pace_52 : decode cX12_pace 52 = .ok (.istore 4, 2) := by decide +kernel
theorem dX12_pace_54 : decode cX12_pace 54 = .ok (.iload 4, 2) := by decide +kernel
theorem dX12_pace_56 : decode cX12_pace 56 = .ok (.aload_n 0, 1) := by decide +kernel
theorem dX12_pace_57 : decode cX12_pace 57 = .ok (.getfield 178, 3) := by decide +kernel
theorem dX12_pace_60 : decode cX12_pace 60 = .ok (.if_icmp .ge 42, 3) := by decide +kernel
theorem dX12_pace_63 : decode cX12_pace 63 = .ok (.iload_n 3, 1) := by decide +kernel
theorem dX12_pace_64 : decode cX12_pace 64 = .ok (.bipush 10, 2) := by decide +kernel
theorem dX12_pace_66 : decode cX12_pace 66 = .ok (.iconst 2, 1) := by decide +kernel
theorem dX12_pace_67 : decode cX12_pace 67 = .ok (.aload_n 0, 1) := by decide +kernel
theorem dX12_pace_68 : decode cX12_pace 68 = .ok (.getfield 40, 3) := by decide +kernel
theorem dX12_pace_71 : decode cX12_pace 71 = .ok (.iload 4, 2) := by decide +kernel
theorem dX12_pace_73 : decode cX12_pace 73 = .ok (.iaload, 1) := by decide +kernel
theorem dX12_pace_74 : decode cX12_pace 74 = .ok (.invokestatic 150, 3) := by decide +kernel
theorem dX12_pace_77 : decode cX12_pace 77 = .ok (.imul, 1) := by decide +kernel
theorem dX12_pace_78 : decode cX12_pace 78 = .ok (.iadd, 1) := by decide +kernel
theorem dX12_pace_79 : decode cX12_pace 79 = .ok (.iconst 3, 1) := by decide +kernel
theorem dX12_pace_80 : decode cX12_pace 80 = .ok (.aload_n 0, 1) := by decide +kernel
theorem dX12_pace_81 : decode cX12_pace 81 = .ok (.iload_n 2, 1) := by decide +kernel
theorem dX12_pace_82 : decode cX12_pace 82 = .ok (.aload_n 0, 1) := by decide +kernel
theorem dX12_pace_83 : decode cX12_pace 83 = .ok (.getfield 40, 3) := by decide +kernel
theorem dX12_pace_86 : decode cX12_pace 86 = .ok (.iload 4, 2) := by decide +kernel
theorem dX12_pace_88 : decode cX12_pace 88 = .ok (.iaload, 1) := by decide +kernel
theorem dX12_pace_89 : decode cX12_pace 89 = .ok (.invokevirtual 277, 3) := by decide +kernel
theorem dX12_pace_92 : decode cX12_pace 92 = .ok (.imul, 1) := by decide +kernel
theorem dX12_pace_93 : decode cX12_pace 93 = .ok (.iadd, 1) := by decide +kernel
theorem dX12_pace_94 : decode cX12_pace 94 = .ok (.iadd, 1) := by decide +kernel
theorem dX12_pace_95 : decode cX12_pace 95 = .ok (.istore_n 3, 1) := by decide +kernel
theorem dX12_pace_96 : decode cX12_pace 96 = .ok (.iinc 4 1, 3) := by decide +kernel
theorem dX12_pace_99 : decode cX12_pace 99 = .ok (.goto (-45), 3) := by decide +kernel
theorem dX12_pace_102 : decode cX12_pace 102 = .ok (.aload_n 0, 1) := by decide +kernel
theorem dX12_pace_103 : decode cX12_pace 103 = .ok (.getfield 74, 3) := by decide +kernel
theorem dX12_pace_106 : decode cX12_pace 106 = .ok (.iload_n 1, 1) := by decide +kernel
theorem dX12_pace_107 : decode cX12_pace 107 = .ok (.iaload, 1) := by decide +kernel
theorem dX12_pace_108 : decode cX12_pace 108 = .ok (.bipush 60, 2) := by decide +kernel
theorem dX12_pace_110 : decode cX12_pace 110 = .ok (.if_icmp .le 15, 3) := by decide +kernel
theorem dX12_pace_113 : decode cX12_pace 113 = .ok (.aload_n 0, 1) := by decide +kernel
theorem dX12_pace_114 : decode cX12_pace 114 = .ok (.getfield 74, 3) := by decide +kernel
theorem dX12_pace_117 : decode cX12_pace 117 = .ok (.iload_n 1, 1) := by decide +kernel
theorem dX12_pace_118 : decode cX12_pace 118 = .ok (.iaload, 1) := by decide +kernel
theorem dX12_pace_119 : decode cX12_pace 119 = .ok (.bipush 60, 2) := by decide +kernel
theorem dX12_pace_121 : decode cX12_pace 121 = .ok (.isub, 1) := by decide +kernel
theorem dX12_pace_122 : decode cX12_pace 122 = .ok (.goto 4, 3) := by decide +kernel
theorem dX12_pace_125 : decode cX12_pace 125 = .ok (.iconst 0, 1) := by decide +kernel
theorem dX12_pace_126 : decode cX12_pace 126 = .ok (.istore 4, 2) := by decide +kernel
theorem dX12_pace_128 : decode cX12_pace 128 = .ok (.iload_n 3, 1) := by decide +kernel
theorem dX12_pace_129 : decode cX12_pace 129 = .ok (.bipush 100, 2) := by decide +kernel
theorem dX12_pace_131 : decode cX12_pace 131 = .ok (.sipush 300, 3) := by decide +kernel
theorem dX12_pace_134 : decode cX12_pace 134 = .ok (.aload_n 0, 1) := by decide +kernel
theorem dX12_pace_135 : decode cX12_pace 135 = .ok (.getfield 83, 3) := by decide +kernel
theorem dX12_pace_138 : decode cX12_pace 138 = .ok (.iconst 5, 1) := by decide +kernel
theorem dX12_pace_139 : decode cX12_pace 139 = .ok (.iload_n 1, 1) := by decide +kernel
theorem dX12_pace_140 : decode cX12_pace 140 = .ok (.imul, 1) := by decide +kernel
theorem dX12_pace_141 : decode cX12_pace 141 = .ok (.iload_n 2, 1) := by decide +kernel
theorem dX12_pace_142 : decode cX12_pace 142 = .ok (.iadd, 1) := by decide +kernel
theorem dX12_pace_143 : decode cX12_pace 143 = .ok (.iaload, 1) := by decide +kernel
theorem dX12_pace_144 : decode cX12_pace 144 = .ok (.iconst 1, 1) := by decide +kernel
theorem dX12_pace_145 : decode cX12_pace 145 = .ok (.iadd, 1) := by decide +kernel
theorem dX12_pace_146 : decode cX12_pace 146 = .ok (.idiv, 1) := by decide +kernel
theorem dX12_pace_147 : decode cX12_pace 147 = .ok (.iadd, 1) := by decide +kernel
theorem dX12_pace_148 : decode cX12_pace 148 = .ok (.iload 4, 2) := by decide +kernel
theorem dX12_pace_150 : decode cX12_pace 150 = .ok (.iadd, 1) := by decide +kernel
theorem dX12_pace_151 : decode cX12_pace 151 = .ok (.imul, 1) := by decide +kernel
theorem dX12_pace_152 : decode cX12_pace 152 = .ok (.bipush 100, 2) := by decide +kernel
theorem dX12_pace_154 : decode cX12_pace 154 = .ok (.idiv, 1) := by decide +kernel
theorem dX12_pace_155 : decode cX12_pace 155 = .ok (.ireturn, 1) := by decide +kernel
theorem dX12_learn_0 : decode cX12_learn 0 = .ok (.aload_n 0, 1) := by decide +kernel
theorem dX12_learn_1 : decode cX12_learn 1 = .ok (.iload_n 1, 1) := by decide +kernel
theorem dX12_learn_2 : decode cX12_learn 2 = .ok (.invokevirtual 259, 3) := by decide +kernel
theorem dX12_learn_5 : decode cX12_learn 5 = .ok (.ifCond .eq 10, 3) := by decide +kernel
theorem dX12_learn_8 : decode cX12_learn 8 = .ok (.iload_n 2, 1) := by decide +kernel
theorem dX12_learn_9 : decode cX12_learn 9 = .ok (.invokestatic 121, 3) := by decide +kernel
theorem dX12_learn_12 : decode cX12_learn 12 = .ok (.ifCond .ne 5, 3) := by decide +kernel
theorem dX12_learn_15 : decode cX12_learn 15 = .ok (.iconst (-1), 1) := by decide +kernel
theorem dX12_learn_16 : decode cX12_learn 16 = .ok (.ireturn, 1) := by decide +kernel
theorem dX12_learn_17 : decode cX12_learn 17 = .ok (.aload_n 0, 1) := by decide +kernel
theorem dX12_learn_18 : decode cX12_learn 18 = .ok (.iload_n 1, 1) := by decide +kernel
theorem dX12_learn_19 : decode cX12_learn 19 = .ok (.iload_n 2, 1) := by decide +kernel
theorem dX12_learn_20 : decode cX12_learn 20 = .ok (.invokevirtual 264, 3) := by decide +kernel
theorem dX12_learn_23 : decode cX12_learn 23 = .ok (.ifCond .eq 5, 3) := by decide +kernel
theorem dX12_learn_26 : decode cX12_learn 26 = .ok (.iconst 0, 1) := by decide +kernel
theorem dX12_learn_27 : decode cX12_learn 27 = .ok (.ireturn, 1) := by decide +kernel
theorem dX12_learn_28 : decode cX12_learn 28 = .ok (.aload_n 0, 1) := by decide +kernel
theorem dX12_learn_29 : decode cX12_learn 29 = .ok (.iload_n 1, 1) := by decide +kernel
theorem dX12_learn_30 : decode cX12_learn 30 = .ok (.invokevirtual 267, 3) := by decide +kernel
theorem dX12_learn_33 : decode cX12_learn 33 = .ok (.istore_n 3, 1) := by decide +kernel
theorem dX12_learn_34 : decode cX12_learn 34 = .ok (.iconst 0, 1) := by decide +kernel
theorem dX12_learn_35 : decode cX12_learn 35 = .ok (.istore 4, 2) := by decide +kernel
theorem dX12_learn_37 : decode cX12_learn 37 = .ok (.iconst 0, 1) := by decide +kernel
theorem dX12_learn_38 : decode cX12_learn 38 = .ok (.istore 5, 2) := by decide +kernel
theorem dX12_learn_40 : decode cX12_learn 40 = .ok (.iload 5, 2) := by decide +kernel
theorem dX12_learn_42 : decode cX12_learn 42 = .ok (.bipush 26, 2) := by decide +kernel
theorem dX12_learn_44 : decode cX12_learn 44 = .ok (.if_icmp .ge 59, 3) := by decide +kernel
theorem dX12_learn_47 : decode cX12_learn 47 = .ok (.aload_n 0, 1) := by decide +kernel
theorem dX12_learn_48 : decode cX12_learn 48 = .ok (.getfield 7, 3) := by decide +kernel
theorem dX12_learn_51 : decode cX12_learn 51 = .ok (.bipush 26, 2) := by decide +kernel
theorem dX12_learn_53 : decode cX12_learn 53 = .ok (.iload_n 2, 1) := by decide +kernel
theorem dX12_learn_54 : decode cX12_learn 54 = .ok (.imul, 1) := by decide +kernel
theorem dX12_learn_55 : decode cX12_learn 55 = .ok (.iload 5, 2) := by decide +kernel
theorem dX12_learn_57 : decode cX12_learn 57 = .ok (.iadd, 1) := by decide +kernel
theorem dX12_learn_58 : decode cX12_learn 58 = .ok (.iaload, 1) := by decide +kernel
theorem dX12_learn_59 : decode cX12_learn 59 = .ok (.istore 6, 2) := by decide +kernel
theorem dX12_learn_61 : decode cX12_learn 61 = .ok (.iload 4, 2) := by decide +kernel
theorem dX12_learn_63 : decode cX12_learn 63 = .ok (.iload 6, 2) := by decide +kernel
theorem dX12_learn_65 : decode cX12_learn 65 = .ok (.ifCond .le 28, 3) := by decide +kernel
theorem dX12_learn_68 : decode cX12_learn 68 = .ok (.iload_n 3, 1) := by decide +kernel
theorem dX12_learn_69 : decode cX12_learn 69 = .ok (.ifCond .lt 20, 3) := by decide +kernel
theorem dX12_learn_72 : decode cX12_learn 72 = .ok (.aload_n 0, 1) := by decide +kernel
theorem dX12_learn_73 : decode cX12_learn 73 = .ok (.getfield 7, 3) := by decide +kernel
theorem dX12_learn_76 : decode cX12_learn 76 = .ok (.bipush 26, 2) := by decide +kernel
theorem dX12_learn_78 : decode cX12_learn 78 = .ok (.iload_n 3, 1) := by decide +kernel
theorem dX12_learn_79 : decode cX12_learn 79 = .ok (.imul, 1) := by decide +kernel
theorem dX12_learn_80 : decode cX12_learn 80 = .ok (.iload 5, 2) := by decide +kernel
theorem dX12_learn_82 : decode cX12_learn 82 = .ok (.iadd, 1) := by decide +kernel
theorem dX12_learn_83 : decode cX12_learn 83 = .ok (.iaload, 1) := by decide +kernel
theorem dX12_learn_84 : decode cX12_learn 84 = .ok (.iload 6, 2) := by decide +kernel
theorem dX12_learn_86 : decode cX12_learn 86 = .ok (.if_icmp .eq 7, 3) := by decide +kernel
theorem dX12_learn_89 : decode cX12_learn 89 = .ok (.iconst 1, 1) := by decide +kernel
theorem dX12_learn_90 : decode cX12_learn 90 = .ok (.goto 4, 3) := by decide +kernel
theorem dX12_learn_93 : decode cX12_learn 93 = .ok (.iconst 0, 1) := by decide +kernel
theorem dX12_learn_94 : decode cX12_learn 94 = .ok (.iadd, 1) := by decide +kernel
theorem dX12_learn_95 : decode cX12_learn 95 = .ok (.istore 4, 2) := by decide +kernel
theorem dX12_learn_97 : decode cX12_learn 97 = .ok (.iinc 5 1, 3) := by decide +kernel
theorem dX12_learn_100 : decode cX12_learn 100 = .ok (.goto (-60), 3) := by decide +kernel
theorem dX12_learn_103 : decode cX12_learn 103 = .ok (.aload_n 0, 1) := by decide +kernel
theorem dX12_learn_104 : decode cX12_learn 104 = .ok (.getfield 74, 3) := by decide +kernel
theorem dX12_learn_107 : decode cX12_learn 107 = .ok (.iload_n 1, 1) := by decide +kernel
theorem dX12_learn_108 : decode cX12_learn 108 = .ok (.iaload, 1) := by decide +kernel
theorem dX12_learn_109 : decode cX12_learn 109 = .ok (.bipush 70, 2) := by decide +kernel
theorem dX12_learn_111 : decode cX12_learn 111 = .ok (.if_icmp .le 13, 3) := by decide +kernel
theorem dX12_learn_114 : decode cX12_learn 114 = .ok (.iload 4, 2) := by decide +kernel
theorem dX12_learn_116 : decode cX12_learn 116 = .ok (.bipush 14, 2) := by decide +kernel
theorem dX12_learn_118 : decode cX12_learn 118 = .ok (.if_icmp .lt 6, 3) := by decide +kernel
theorem dX12_learn_121 : decode cX12_learn 121 = .ok (.bipush (-6), 2) := by decide +kernel
theorem dX12_learn_123 : decode cX12_learn 123 = .ok (.ireturn, 1) := by decide +kernel
theorem dX12_learn_124 : decode cX12_learn 124 = .ok (.iconst 2, 1) := by decide +kernel
theorem dX12_learn_125 : decode cX12_learn 125 = .ok (.iload 4, 2) := by decide +kernel
theorem dX12_learn_127 : decode cX12_learn 127 = .ok (.imul, 1) := by decide +kernel
theorem dX12_learn_128 : decode cX12_learn 128 = .ok (.iconst 3, 1) := by decide +kernel
theorem dX12_learn_129 : decode cX12_learn 129 = .ok (.aload_n 0, 1) := by decide +kernel
theorem dX12_learn_130 : decode cX12_learn 130 = .ok (.getfield 25, 3) := by decide +kernel
theorem dX12_learn_133 : decode cX12_learn 133 = .ok (.iload_n 2, 1) := by decide +kernel
theorem dX12_learn_134 : decode cX12_learn 134 = .ok (.iaload, 1) := by decide +kernel
theorem dX12_learn_135 : decode cX12_learn 135 = .ok (.imul, 1) := by decide +kernel
theorem dX12_learn_136 : decode cX12_learn 136 = .ok (.iadd, 1) := by decide +kernel
theorem dX12_learn_137 : decode cX12_learn 137 = .ok (.bipush 100, 2) := by decide +kernel
theorem dX12_learn_139 : decode cX12_learn 139 = .ok (.aload_n 0, 1) := by decide +kernel
theorem dX12_learn_140 : decode cX12_learn 140 = .ok (.getfield 74, 3) := by decide +kernel
theorem dX12_learn_143 : decode cX12_learn 143 = .ok (.iload_n 1, 1) := by decide +kernel
theorem dX12_learn_144 : decode cX12_learn 144 = .ok (.iaload, 1) := by decide +kernel
theorem dX12_learn_145 : decode cX12_learn 145 = .ok (.iadd, 1) := by decide +kernel
theorem dX12_learn_146 : decode cX12_learn 146 = .ok (.imul, 1) := by decide +kernel
theorem dX12_learn_147 : decode cX12_learn 147 = .ok (.bipush 100, 2) := by decide +kernel
theorem dX12_learn_149 : decode cX12_learn 149 = .ok (.idiv, 1) := by decide +kernel
theorem dX12_learn_150 : decode cX12_learn 150 = .ok (.ireturn, 1) := by decide +kernel
theorem dX12_shelf_0 : decode cX12_shelf 0 = .ok (.iload_n 1, 1) := by decide +kernel
theorem dX12_shelf_1 : decode cX12_shelf 1 = .ok (.invokestatic 254, 3) := by decide +kernel
theorem dX12_shelf_4 : decode cX12_shelf 4 = .ok (.ifCond .eq 17, 3) := by decide +kernel
theorem dX12_shelf_7 : decode cX12_shelf 7 = .ok (.iload_n 2, 1) := by decide +kernel
theorem dX12_shelf_8 : decode cX12_shelf 8 = .ok (.invokestatic 218, 3) := by decide +kernel
theorem dX12_shelf_11 : decode cX12_shelf 11 = .ok (.ifCond .eq 10, 3) := by decide +kernel
theorem dX12_shelf_14 : decode cX12_shelf 14 = .ok (.iload_n 3, 1) := by decide +kernel
theorem dX12_shelf_15 : decode cX12_shelf 15 = .ok (.invokestatic 121, 3) := by decide +kernel
theorem dX12_shelf_18 : decode cX12_shelf 18 = .ok (.ifCond .ne 5, 3) := by decide +kernel
theorem dX12_shelf_21 : decode cX12_shelf 21 = .ok (.iconst (-1), 1) := by decide +kernel
theorem dX12_shelf_22 : decode cX12_shelf 22 = .ok (.ireturn, 1) := by decide +kernel
theorem dX12_shelf_23 : decode cX12_shelf 23 = .ok (.iload 4, 2) := by decide +kernel
theorem dX12_shelf_25 : decode cX12_shelf 25 = .ok (.i2l, 1) := by decide +kernel
theorem dX12_shelf_26 : decode cX12_shelf 26 = .ok (.lconst 0, 1) := by decide +kernel
theorem dX12_shelf_27 : decode cX12_shelf 27 = .ok (.ldc2_w 280, 3) := by decide +kernel
theorem dX12_shelf_30 : decode cX12_shelf 30 = .ok (.invokestatic 115, 3) := by decide +kernel
theorem dX12_shelf_33 : decode cX12_shelf 33 = .ok (.ifCond .ne 6, 3) := by decide +kernel
theorem dX12_shelf_36 : decode cX12_shelf 36 = .ok (.bipush (-2), 2) := by decide +kernel
theorem dX12_shelf_38 : decode cX12_shelf 38 = .ok (.ireturn, 1) := by decide +kernel
theorem dX12_shelf_39 : decode cX12_shelf 39 = .ok (.bipush 40, 2) := by decide +kernel
theorem dX12_shelf_41 : decode cX12_shelf 41 = .ok (.iload_n 1, 1) := by decide +kernel
theorem dX12_shelf_42 : decode cX12_shelf 42 = .ok (.imul, 1) := by decide +kernel
theorem dX12_shelf_43 : decode cX12_shelf 43 = .ok (.iconst 5, 1) := by decide +kernel
theorem dX12_shelf_44 : decode cX12_shelf 44 = .ok (.iload_n 2, 1) := by decide +kernel
theorem dX12_shelf_45 : decode cX12_shelf 45 = .ok (.imul, 1) := by decide +kernel
theorem dX12_shelf_46 : decode cX12_shelf 46 = .ok (.iadd, 1) := by decide +kernel
theorem dX12_shelf_47 : decode cX12_shelf 47 = .ok (.iload_n 3, 1) := by decide +kernel
theorem dX12_shelf_48 : decode cX12_shelf 48 = .ok (.iadd, 1) := by decide +kernel
theorem dX12_shelf_49 : decode cX12_shelf 49 = .ok (.istore 5, 2) := by decide +kernel
theorem dX12_shelf_51 : decode cX12_shelf 51 = .ok (.aload_n 0, 1) := by decide +kernel
theorem dX12_shelf_52 : decode cX12_shelf 52 = .ok (.getfield 86, 3) := by decide +kernel
theorem dX12_shelf_55 : decode cX12_shelf 55 = .ok (.iload 5, 2) := by decide +kernel
theorem dX12_shelf_57 : decode cX12_shelf 57 = .ok (.iaload, 1) := by decide +kernel
theorem dX12_shelf_58 : decode cX12_shelf 58 = .ok (.istore 6, 2) := by decide +kernel
theorem dX12_shelf_60 : decode cX12_shelf 60 = .ok (.aload_n 0, 1) := by decide +kernel
theorem dX12_shelf_61 : decode cX12_shelf 61 = .ok (.getfield 86, 3) := by decide +kernel
theorem dX12_shelf_64 : decode cX12_shelf 64 = .ok (.iload 5, 2) := by decide +kernel
theorem dX12_shelf_66 : decode cX12_shelf 66 = .ok (.iload 4, 2) := by decide +kernel
theorem dX12_shelf_68 : decode cX12_shelf 68 = .ok (.iastore, 1) := by decide +kernel
theorem dX12_shelf_69 : decode cX12_shelf 69 = .ok (.iload 6, 2) := by decide +kernel
theorem dX12_shelf_71 : decode cX12_shelf 71 = .ok (.ireturn, 1) := by decide +kernel
theorem dX12_canRead_0 : decode cX12_canRead 0 = .ok (.iconst 0, 1) := by decide +kernel
theorem dX12_canRead_1 : decode cX12_canRead 1 = .ok (.istore_n 3, 1) := by decide +kernel
theorem dX12_canRead_2 : decode cX12_canRead 2 = .ok (.iconst 0, 1) := by decide +kernel
theorem dX12_canRead_3 : decode cX12_canRead 3 = .ok (.istore 4, 2) := by decide +kernel
theorem dX12_canRead_5 : decode cX12_canRead 5 = .ok (.iload 4, 2) := by decide +kernel
theorem dX12_canRead_7 : decode cX12_canRead 7 = .ok (.iconst 5, 1) := by decide +kernel
theorem dX12_canRead_8 : decode cX12_canRead 8 = .ok (.if_icmp .ge 53, 3) := by decide +kernel
theorem dX12_canRead_11 : decode cX12_canRead 11 = .ok (.iload_n 3, 1) := by decide +kernel
theorem dX12_canRead_12 : decode cX12_canRead 12 = .ok (.ifCond .ne 37, 3) := by decide +kernel
theorem dX12_canRead_15 : decode cX12_canRead 15 = .ok (.aload_n 0, 1) := by decide +kernel
theorem dX12_canRead_16 : decode cX12_canRead 16 = .ok (.iload_n 1, 1) := by decide +kernel
theorem dX12_canRead_17 : decode cX12_canRead 17 = .ok (.iload 4, 2) := by decide +kernel
theorem dX12_canRead_19 : decode cX12_canRead 19 = .ok (.invokevirtual 264, 3) := by decide +kernel
theorem dX12_canRead_22 : decode cX12_canRead 22 = .ok (.ifCond .eq 31, 3) := by decide +kernel
theorem dX12_canRead_25 : decode cX12_canRead 25 = .ok (.aload_n 0, 1) := by decide +kernel
theorem dX12_canRead_26 : decode cX12_canRead 26 = .ok (.getfield 86, 3) := by decide +kernel
theorem dX12_canRead_29 : decode cX12_canRead 29 = .ok (.bipush 40, 2) := by decide +kernel
theorem dX12_canRead_31 : decode cX12_canRead 31 = .ok (.aload_n 0, 1) := by decide +kernel
theorem dX12_canRead_32 : decode cX12_canRead 32 = .ok (.getfield 77, 3) := by decide +kernel
theorem dX12_canRead_35 : decode cX12_canRead 35 = .ok (.iload_n 1, 1) := by decide +kernel
theorem dX12_canRead_36 : decode cX12_canRead 36 = .ok (.iaload, 1) := by decide +kernel
theorem dX12_canRead_37 : decode cX12_canRead 37 = .ok (.imul, 1) := by decide +kernel
theorem dX12_canRead_38 : decode cX12_canRead 38 = .ok (.iconst 5, 1) := by decide +kernel
theorem dX12_canRead_39 : decode cX12_canRead 39 = .ok (.iload_n 2, 1) := by decide +kernel
theorem dX12_canRead_40 : decode cX12_canRead 40 = .ok (.imul, 1) := by decide +kernel
theorem dX12_canRead_41 : decode cX12_canRead 41 = .ok (.iadd, 1) := by decide +kernel
theorem dX12_canRead_42 : decode cX12_canRead 42 = .ok (.iload 4, 2) := by decide +kernel
theorem dX12_canRead_44 : decode cX12_canRead 44 = .ok (.iadd, 1) := by decide +kernel
theorem dX12_canRead_45 : decode cX12_canRead 45 = .ok (.iaload, 1) := by decide +kernel
theorem dX12_canRead_46 : decode cX12_canRead 46 = .ok (.ifCond .le 7, 3) := by decide +kernel
theorem dX12_canRead_49 : decode cX12_canRead 49 = .ok (.iconst 1, 1) := by decide +kernel
theorem dX12_canRead_50 : decode cX12_canRead 50 = .ok (.goto 4, 3) := by decide +kernel
theorem dX12_canRead_53 : decode cX12_canRead 53 = .ok (.iconst 0, 1) := by decide +kernel
theorem dX12_canRead_54 : decode cX12_canRead 54 = .ok (.istore_n 3, 1) := by decide +kernel
theorem dX12_canRead_55 : decode cX12_canRead 55 = .ok (.iinc 4 1, 3) := by decide +kernel
theorem dX12_canRead_58 : decode cX12_canRead 58 = .ok (.goto (-53), 3) := by decide +kernel
theorem dX12_canRead_61 : decode cX12_canRead 61 = .ok (.iload_n 3, 1) := by decide +kernel
theorem dX12_canRead_62 : decode cX12_canRead 62 = .ok (.ireturn, 1) := by decide +kernel
theorem dX12_readBy_0 : decode cX12_readBy 0 = .ok (.iconst 0, 1) := by decide +kernel
theorem dX12_readBy_1 : decode cX12_readBy 1 = .ok (.istore_n 2, 1) := by decide +kernel
theorem dX12_readBy_2 : decode cX12_readBy 2 = .ok (.iconst 0, 1) := by decide +kernel
theorem dX12_readBy_3 : decode cX12_readBy 3 = .ok (.istore_n 3, 1) := by decide +kernel
theorem dX12_readBy_4 : decode cX12_readBy 4 = .ok (.iload_n 3, 1) := by decide +kernel
theorem dX12_readBy_5 : decode cX12_readBy 5 = .ok (.bipush 8, 2) := by decide +kernel
theorem dX12_readBy_7 : decode cX12_readBy 7 = .ok (.if_icmp .ge 28, 3) := by decide +kernel
theorem dX12_readBy_10 : decode cX12_readBy 10 = .ok (.iload_n 2, 1) := by decide +kernel
theorem dX12_readBy_11 : decode cX12_readBy 11 = .ok (.aload_n 0, 1) := by decide +kernel
theorem dX12_readBy_12 : decode cX12_readBy 12 = .ok (.iload_n 1, 1) := by decide +kernel
theorem dX12_readBy_13 : decode cX12_readBy 13 = .ok (.iload_n 3, 1) := by decide +kernel
theorem dX12_readBy_14 : decode cX12_readBy 14 = .ok (.invokevirtual 282, 3) := by decide +kernel
theorem dX12_readBy_17 : decode cX12_readBy 17 = .ok (.ifCond .eq 9, 3) := by decide +kernel
theorem dX12_readBy_20 : decode cX12_readBy 20 = .ok (.iconst 1, 1) := by decide +kernel
theorem dX12_readBy_21 : decode cX12_readBy 21 = .ok (.iload_n 3, 1) := by decide +kernel
theorem dX12_readBy_22 : decode cX12_readBy 22 = .ok (.ishl, 1) := by decide +kernel
theorem dX12_readBy_23 : decode cX12_readBy 23 = .ok (.goto 4, 3) := by decide +kernel
theorem dX12_readBy_26 : decode cX12_readBy 26 = .ok (.iconst 0, 1) := by decide +kernel
theorem dX12_readBy_27 : decode cX12_readBy 27 = .ok (.ior, 1) := by decide +kernel
theorem dX12_readBy_28 : decode cX12_readBy 28 = .ok (.istore_n 2, 1) := by decide +kernel
theorem dX12_readBy_29 : decode cX12_readBy 29 = .ok (.iinc 3 1, 3) := by decide +kernel
theorem dX12_readBy_32 : decode cX12_readBy 32 = .ok (.goto (-28), 3) := by decide +kernel
theorem dX12_readBy_35 : decode cX12_readBy 35 = .ok (.iload_n 2, 1) := by decide +kernel
theorem dX12_readBy_36 : decode cX12_readBy 36 = .ok (.ireturn, 1) := by decide +kernel
theorem dX12_reads_0 : decode cX12_reads 0 = .ok (.aload_n 0, 1) := by decide +kernel
theorem dX12_reads_1 : decode cX12_reads 1 = .ok (.iload_n 1, 1) := by decide +kernel
theorem dX12_reads_2 : decode cX12_reads 2 = .ok (.invokevirtual 259, 3) := by decide +kernel
theorem dX12_reads_5 : decode cX12_reads 5 = .ok (.ifCond .eq 11, 3) := by decide +kernel
theorem dX12_reads_8 : decode cX12_reads 8 = .ok (.aload_n 0, 1) := by decide +kernel
theorem dX12_reads_9 : decode cX12_reads 9 = .ok (.iload_n 1, 1) := by decide +kernel
theorem dX12_reads_10 : decode cX12_reads 10 = .ok (.invokevirtual 285, 3) := by decide +kernel
theorem dX12_reads_13 : decode cX12_reads 13 = .ok (.goto 4, 3) := by decide +kernel
theorem dX12_reads_16 : decode cX12_reads 16 = .ok (.iconst (-1), 1) := by decide +kernel
theorem dX12_reads_17 : decode cX12_reads 17 = .ok (.ireturn, 1) := by decide +kernel
theorem dX12_school_0 : decode cX12_school 0 = .ok (.iload_n 1, 1) := by decide +kernel
theorem dX12_school_1 : decode cX12_school 1 = .ok (.invokestatic 254, 3) := by decide +kernel
theorem dX12_school_4 : decode cX12_school 4 = .ok (.ifCond .ne 5, 3) := by decide +kernel
theorem dX12_school_7 : decode cX12_school 7 = .ok (.iconst (-1), 1) := by decide +kernel
theorem dX12_school_8 : decode cX12_school 8 = .ok (.ireturn, 1) := by decide +kernel
theorem dX12_school_9 : decode cX12_school 9 = .ok (.iload_n 2, 1) := by decide +kernel
theorem dX12_school_10 : decode cX12_school 10 = .ok (.i2l, 1) := by decide +kernel
theorem dX12_school_11 : decode cX12_school 11 = .ok (.lconst 0, 1) := by decide +kernel
theorem dX12_school_12 : decode cX12_school 12 = .ok (.ldc2_w 288, 3) := by decide +kernel
theorem dX12_school_15 : decode cX12_school 15 = .ok (.invokestatic 115, 3) := by decide +kernel
theorem dX12_school_18 : decode cX12_school 18 = .ok (.ifCond .ne 6, 3) := by decide +kernel
theorem dX12_school_21 : decode cX12_school 21 = .ok (.bipush (-2), 2) := by decide +kernel
theorem dX12_school_23 : decode cX12_school 23 = .ok (.ireturn, 1) := by decide +kernel
theorem dX12_school_24 : decode cX12_school 24 = .ok (.iconst 0, 1) := by decide +kernel
theorem dX12_school_25 : decode cX12_school 25 = .ok (.istore_n 3, 1) := by decide +kernel
theorem dX12_school_26 : decode cX12_school 26 = .ok (.iconst 0, 1) := by decide +kernel
theorem dX12_school_27 : decode cX12_school 27 = .ok (.istore 4, 2) := by decide +kernel
theorem dX12_school_29 : decode cX12_school 29 = .ok (.iconst 0, 1) := by decide +kernel
theorem dX12_school_30 : decode cX12_school 30 = .ok (.istore 5, 2) := by decide +kernel
theorem dX12_school_32 : decode cX12_school 32 = .ok (.iconst 0, 1) := by decide +kernel
theorem dX12_school_33 : decode cX12_school 33 = .ok (.istore 6, 2) := by decide +kernel
theorem dX12_school_35 : decode cX12_school 35 = .ok (.iconst 0, 1) := by decide +kernel
theorem dX12_school_36 : decode cX12_school 36 = .ok (.istore 7, 2) := by decide +kernel
theorem dX12_school_38 : decode cX12_school 38 = .ok (.iload 7, 2) := by decide +kernel
theorem dX12_school_40 : decode cX12_school 40 = .ok (.aload_n 0, 1) := by decide +kernel
theorem dX12_school_41 : decode cX12_school 41 = .ok (.getfield 249, 3) := by decide +kernel
theorem dX12_school_44 : decode cX12_school 44 = .ok (.if_icmp .ge 64, 3) := by decide +kernel
theorem dX12_school_47 : decode cX12_school 47 = .ok (.aload_n 0, 1) := by decide +kernel
theorem dX12_school_48 : decode cX12_school 48 = .ok (.getfield 77, 3) := by decide +kernel
theorem dX12_school_51 : decode cX12_school 51 = .ok (.iload 7, 2) := by decide +kernel
theorem dX12_school_53 : decode cX12_school 53 = .ok (.iaload, 1) := by decide +kernel
theorem dX12_school_54 : decode cX12_school 54 = .ok (.iload_n 1, 1) := by decide +kernel
theorem dX12_school_55 : decode cX12_school 55 = .ok (.if_icmp .ne 47, 3) := by decide +kernel
theorem dX12_school_58 : decode cX12_school 58 = .ok (.iinc 3 1, 3) := by decide +kernel
theorem dX12_school_61 : decode cX12_school 61 = .ok (.iload 4, 2) := by decide +kernel
theorem dX12_school_63 : decode cX12_school 63 = .ok (.aload_n 0, 1) := by decide +kernel
theorem dX12_school_64 : decode cX12_school 64 = .ok (.iload 7, 2) := by decide +kernel
theorem dX12_school_66 : decode cX12_school 66 = .ok (.invokevirtual 285, 3) := by decide +kernel
theorem dX12_school_69 : decode cX12_school 69 = .ok (.ifCond .ne 7, 3) := by decide +kernel
theorem dX12_school_72 : decode cX12_school 72 = .ok (.iconst 1, 1) := by decide +kernel
theorem dX12_school_73 : decode cX12_school 73 = .ok (.goto 4, 3) := by decide +kernel
theorem dX12_school_76 : decode cX12_school 76 = .ok (.iconst 0, 1) := by decide +kernel
theorem dX12_school_77 : decode cX12_school 77 = .ok (.iadd, 1) := by decide +kernel
theorem dX12_school_78 : decode cX12_school 78 = .ok (.istore 4, 2) := by decide +kernel
theorem dX12_school_80 : decode cX12_school 80 = .ok (.iload 5, 2) := by decide +kernel
theorem dX12_school_82 : decode cX12_school 82 = .ok (.aload_n 0, 1) := by decide +kernel
theorem dX12_school_83 : decode cX12_school 83 = .ok (.iload 7, 2) := by decide +kernel
theorem dX12_school_85 : decode cX12_school 85 = .ok (.invokevirtual 270, 3) := by decide +kernel
theorem dX12_school_88 : decode cX12_school 88 = .ok (.ior, 1) := by decide +kernel
theorem dX12_school_89 : decode cX12_school 89 = .ok (.istore 5, 2) := by decide +kernel
theorem dX12_school_91 : decode cX12_school 91 = .ok (.iload 6, 2) := by decide +kernel
theorem dX12_school_93 : decode cX12_school 93 = .ok (.aload_n 0, 1) := by decide +kernel
theorem dX12_school_94 : decode cX12_school 94 = .ok (.iload 7, 2) := by decide +kernel
theorem dX12_school_96 : decode cX12_school 96 = .ok (.invokevirtual 285, 3) := by decide +kernel
theorem dX12_school_99 : decode cX12_school 99 = .ok (.ior, 1) := by decide +kernel
theorem dX12_school_100 : decode cX12_school 100 = .ok (.istore 6, 2) := by decide +kernel
theorem dX12_school_102 : decode cX12_school 102 = .ok (.iinc 7 1, 3) := by decide +kernel
theorem dX12_school_105 : decode cX12_school 105 = .ok (.goto (-67), 3) := by decide +kernel
theorem dX12_school_108 : decode cX12_school 108 = .ok (.iconst 0, 1) := by decide +kernel
theorem dX12_school_109 : decode cX12_school 109 = .ok (.istore 7, 2) := by decide +kernel
theorem dX12_school_111 : decode cX12_school 111 = .ok (.iconst 0, 1) := by decide +kernel
theorem dX12_school_112 : decode cX12_school 112 = .ok (.istore 8, 2) := by decide +kernel
theorem dX12_school_114 : decode cX12_school 114 = .ok (.iconst 0, 1) := by decide +kernel
theorem dX12_school_115 : decode cX12_school 115 = .ok (.istore 9, 2) := by decide +kernel
theorem dX12_school_117 : decode cX12_school 117 = .ok (.iload 9, 2) := by decide +kernel
theorem dX12_school_119 : decode cX12_school 119 = .ok (.bipush 40, 2) := by decide +kernel
theorem dX12_school_121 : decode cX12_school 121 = .ok (.if_icmp .ge 72, 3) := by decide +kernel
theorem dX12_school_124 : decode cX12_school 124 = .ok (.iload 7, 2) := by decide +kernel
theorem dX12_school_126 : decode cX12_school 126 = .ok (.iload 5, 2) := by decide +kernel
theorem dX12_school_128 : decode cX12_school 128 = .ok (.iload 9, 2) := by decide +kernel
theorem dX12_school_130 : decode cX12_school 130 = .ok (.iconst 5, 1) := by decide +kernel
theorem dX12_school_131 : decode cX12_school 131 = .ok (.irem, 1) := by decide +kernel
theorem dX12_school_132 : decode cX12_school 132 = .ok (.ishr, 1) := by decide +kernel
theorem dX12_school_133 : decode cX12_school 133 = .ok (.iconst 1, 1) := by decide +kernel
theorem dX12_school_134 : decode cX12_school 134 = .ok (.iand, 1) := by decide +kernel
theorem dX12_school_135 : decode cX12_school 135 = .ok (.ifCond .ne 18, 3) := by decide +kernel
theorem dX12_school_138 : decode cX12_school 138 = .ok (.aload_n 0, 1) := by decide +kernel
theorem dX12_school_139 : decode cX12_school 139 = .ok (.getfield 86, 3) := by decide +kernel
theorem dX12_school_142 : decode cX12_school 142 = .ok (.bipush 40, 2) := by decide +kernel
theorem dX12_school_144 : decode cX12_school 144 = .ok (.iload_n 1, 1) := by decide +kernel
theorem dX12_school_145 : decode cX12_school 145 = .ok (.imul, 1) := by decide +kernel
theorem dX12_school_146 : decode cX12_school 146 = .ok (.iload 9, 2) := by decide +kernel
theorem dX12_school_148 : decode cX12_school 148 = .ok (.iadd, 1) := by decide +kernel
theorem dX12_school_149 : decode cX12_school 149 = .ok (.iaload, 1) := by decide +kernel
theorem dX12_school_150 : decode cX12_school 150 = .ok (.goto 4, 3) := by decide +kernel
theorem dX12_school_153 : decode cX12_school 153 = .ok (.iconst 0, 1) := by decide +kernel
theorem dX12_school_154 : decode cX12_school 154 = .ok (.iadd, 1) := by decide +kernel
theorem dX12_school_155 : decode cX12_school 155 = .ok (.istore 7, 2) := by decide +kernel
theorem dX12_school_157 : decode cX12_school 157 = .ok (.iload 8, 2) := by decide +kernel
theorem dX12_school_159 : decode cX12_school 159 = .ok (.aload_n 0, 1) := by decide +kernel
theorem dX12_school_160 : decode cX12_school 160 = .ok (.getfield 86, 3) := by decide +kernel
theorem dX12_school_163 : decode cX12_school 163 = .ok (.bipush 40, 2) := by decide +kernel
theorem dX12_school_165 : decode cX12_school 165 = .ok (.iload_n 1, 1) := by decide +kernel
theorem dX12_school_166 : decode cX12_school 166 = .ok (.imul, 1) := by decide +kernel
theorem dX12_school_167 : decode cX12_school 167 = .ok (.iload 9, 2) := by decide +kernel
theorem dX12_school_169 : decode cX12_school 169 = .ok (.iadd, 1) := by decide +kernel
theorem dX12_school_170 : decode cX12_school 170 = .ok (.iaload, 1) := by decide +kernel
theorem dX12_school_171 : decode cX12_school 171 = .ok (.ifCond .le 12, 3) := by decide +kernel
theorem dX12_school_174 : decode cX12_school 174 = .ok (.iconst 1, 1) := by decide +kernel
theorem dX12_school_175 : decode cX12_school 175 = .ok (.iload 9, 2) := by decide +kernel
theorem dX12_school_177 : decode cX12_school 177 = .ok (.iconst 5, 1) := by decide +kernel
theorem dX12_school_178 : decode cX12_school 178 = .ok (.idiv, 1) := by decide +kernel
theorem dX12_school_179 : decode cX12_school 179 = .ok (.ishl, 1) := by decide +kernel
theorem dX12_school_180 : decode cX12_school 180 = .ok (.goto 4, 3) := by decide +kernel
theorem dX12_school_183 : decode cX12_school 183 = .ok (.iconst 0, 1) := by decide +kernel
theorem dX12_school_184 : decode cX12_school 184 = .ok (.ior, 1) := by decide +kernel
theorem dX12_school_185 : decode cX12_school 185 = .ok (.istore 8, 2) := by decide +kernel
theorem dX12_school_187 : decode cX12_school 187 = .ok (.iinc 9 1, 3) := by decide +kernel
theorem dX12_school_190 : decode cX12_school 190 = .ok (.goto (-73), 3) := by decide +kernel
theorem dX12_school_193 : decode cX12_school 193 = .ok (.iload_n 2, 1) := by decide +kernel
theorem dX12_school_194 : decode cX12_school 194 = .ok (.ifCond .ne 8, 3) := by decide +kernel
theorem dX12_school_197 : decode cX12_school 197 = .ok (.iload 4, 2) := by decide +kernel
theorem dX12_school_199 : decode cX12_school 199 = .ok (.goto 29, 3) := by decide +kernel
theorem dX12_school_202 : decode cX12_school 202 = .ok (.iload_n 2, 1) := by decide +kernel
theorem dX12_school_203 : decode cX12_school 203 = .ok (.iconst 1, 1) := by decide +kernel
theorem dX12_school_204 : decode cX12_school 204 = .ok (.if_icmp .ne 8, 3) := by decide +kernel
theorem dX12_school_207 : decode cX12_school 207 = .ok (.iload 7, 2) := by decide +kernel
theorem dX12_school_209 : decode cX12_school 209 = .ok (.goto 19, 3) := by decide +kernel
theorem dX12_school_212 : decode cX12_school 212 = .ok (.iload_n 2, 1) := by decide +kernel
theorem dX12_school_213 : decode cX12_school 213 = .ok (.iconst 2, 1) := by decide +kernel
theorem dX12_school_214 : decode cX12_school 214 = .ok (.if_icmp .ne 7, 3) := by decide +kernel
theorem dX12_school_217 : decode cX12_school 217 = .ok (.iload_n 3, 1) := by decide +kernel
theorem dX12_school_218 : decode cX12_school 218 = .ok (.goto 10, 3) := by decide +kernel
theorem dX12_school_221 : decode cX12_school 221 = .ok (.iload 8, 2) := by decide +kernel
theorem dX12_school_223 : decode cX12_school 223 = .ok (.iload 6, 2) := by decide +kernel
theorem dX12_school_225 : decode cX12_school 225 = .ok (.iconst (-1), 1) := by decide +kernel
theorem dX12_school_226 : decode cX12_school 226 = .ok (.ixor, 1) := by decide +kernel
theorem dX12_school_227 : decode cX12_school 227 = .ok (.iand, 1) := by decide +kernel
theorem dX12_school_228 : decode cX12_school 228 = .ok (.ireturn, 1) := by decide +kernel
theorem dX12_layFund_0 : decode cX12_layFund 0 = .ok (.iconst 0, 1) := by decide +kernel
theorem dX12_layFund_1 : decode cX12_layFund 1 = .ok (.istore_n 2, 1) := by decide +kernel
theorem dX12_layFund_2 : decode cX12_layFund 2 = .ok (.iload_n 2, 1) := by decide +kernel
theorem dX12_layFund_3 : decode cX12_layFund 3 = .ok (.bipush 8, 2) := by decide +kernel
theorem dX12_layFund_5 : decode cX12_layFund 5 = .ok (.if_icmp .ge 96, 3) := by decide +kernel
theorem dX12_layFund_8 : decode cX12_layFund 8 = .ok (.aload_n 0, 1) := by decide +kernel
theorem dX12_layFund_9 : decode cX12_layFund 9 = .ok (.getfield 89, 3) := by decide +kernel
theorem dX12_layFund_12 : decode cX12_layFund 12 = .ok (.iload_n 2, 1) := by decide +kernel
theorem dX12_layFund_13 : decode cX12_layFund 13 = .ok (.aload_n 0, 1) := by decide +kernel
theorem dX12_layFund_14 : decode cX12_layFund 14 = .ok (.iload_n 2, 1) := by decide +kernel
theorem dX12_layFund_15 : decode cX12_layFund 15 = .ok (.iload_n 1, 1) := by decide +kernel
theorem dX12_layFund_16 : decode cX12_layFund 16 = .ok (.invokevirtual 232, 3) := by decide +kernel
theorem dX12_layFund_19 : decode cX12_layFund 19 = .ok (.ifCond .eq 18, 3) := by decide +kernel
theorem dX12_layFund_22 : decode cX12_layFund 22 = .ok (.aload_n 0, 1) := by decide +kernel
theorem dX12_layFund_23 : decode cX12_layFund 23 = .ok (.getfield 223, 3) := by decide +kernel
theorem dX12_layFund_26 : decode cX12_layFund 26 = .ok (.sipush 199, 3) := by decide +kernel
theorem dX12_layFund_29 : decode cX12_layFund 29 = .ok (.iadd, 1) := by decide +kernel
theorem dX12_layFund_30 : decode cX12_layFund 30 = .ok (.sipush 200, 3) := by decide +kernel
theorem dX12_layFund_33 : decode cX12_layFund 33 = .ok (.idiv, 1) := by decide +kernel
theorem dX12_layFund_34 : decode cX12_layFund 34 = .ok (.goto 5, 3) := by decide +kernel
theorem dX12_layFund_37 : decode cX12_layFund 37 = .ok (.bipush (-6), 2) := by decide +kernel
theorem dX12_layFund_39 : decode cX12_layFund 39 = .ok (.iastore, 1) := by decide +kernel
theorem dX12_layFund_40 : decode cX12_layFund 40 = .ok (.aload_n 0, 1) := by decide +kernel
theorem dX12_layFund_41 : decode cX12_layFund 41 = .ok (.getfield 92, 3) := by decide +kernel
theorem dX12_layFund_44 : decode cX12_layFund 44 = .ok (.iload_n 2, 1) := by decide +kernel
theorem dX12_layFund_45 : decode cX12_layFund 45 = .ok (.iconst 0, 1) := by decide +kernel
theorem dX12_layFund_46 : decode cX12_layFund 46 = .ok (.iastore, 1) := by decide +kernel
theorem dX12_layFund_47 : decode cX12_layFund 47 = .ok (.iconst 0, 1) := by decide +kernel
theorem dX12_layFund_48 : decode cX12_layFund 48 = .ok (.istore_n 3, 1) := by decide +kernel
theorem dX12_layFund_49 : decode cX12_layFund 49 = .ok (.iload_n 3, 1) := by decide +kernel
theorem dX12_layFund_50 : decode cX12_layFund 50 = .ok (.aload_n 0, 1) := by decide +kernel
theorem dX12_layFund_51 : decode cX12_layFund 51 = .ok (.getfield 249, 3) := by decide +kernel
theorem dX12_layFund_54 : decode cX12_layFund 54 = .ok (.if_icmp .ge 41, 3) := by decide +kernel
theorem dX12_layFund_57 : decode cX12_layFund 57 = .ok (.aload_n 0, 1) := by decide +kernel
theorem dX12_layFund_58 : decode cX12_layFund 58 = .ok (.getfield 92, 3) := by decide +kernel
theorem dX12_layFund_61 : decode cX12_layFund 61 = .ok (.iload_n 2, 1) := by decide +kernel
theorem dX12_layFund_62 : decode cX12_layFund 62 = .ok (.dup2, 1) := by decide +kernel
theorem dX12_layFund_63 : decode cX12_layFund 63 = .ok (.iaload, 1) := by decide +kernel
theorem dX12_layFund_64 : decode cX12_layFund 64 = .ok (.aload_n 0, 1) := by decide +kernel
theorem dX12_layFund_65 : decode cX12_layFund 65 = .ok (.iload_n 3, 1) := by decide +kernel
theorem dX12_layFund_66 : decode cX12_layFund 66 = .ok (.iload_n 1, 1) := by decide +kernel
theorem dX12_layFund_67 : decode cX12_layFund 67 = .ok (.invokevirtual 264, 3) := by decide +kernel
theorem dX12_layFund_70 : decode cX12_layFund 70 = .ok (.ifCond .eq 16, 3) := by decide +kernel
theorem dX12_layFund_73 : decode cX12_layFund 73 = .ok (.aload_n 0, 1) := by decide +kernel
theorem dX12_layFund_74 : decode cX12_layFund 74 = .ok (.iload_n 3, 1) := by decide +kernel
theorem dX12_layFund_75 : decode cX12_layFund 75 = .ok (.iload_n 2, 1) := by decide +kernel
theorem dX12_layFund_76 : decode cX12_layFund 76 = .ok (.invokevirtual 282, 3) := by decide +kernel
theorem dX12_layFund_79 : decode cX12_layFund 79 = .ok (.ifCond .ne 7, 3) := by decide +kernel
theorem dX12_layFund_82 : decode cX12_layFund 82 = .ok (.iconst 1, 1) := by decide +kernel
theorem dX12_layFund_83 : decode cX12_layFund 83 = .ok (.goto 4, 3) := by decide +kernel
theorem dX12_layFund_86 : decode cX12_layFund 86 = .ok (.iconst 0, 1) := by decide +kernel
theorem dX12_layFund_87 : decode cX12_layFund 87 = .ok (.iadd, 1) := by decide +kernel
theorem dX12_layFund_88 : decode cX12_layFund 88 = .ok (.iastore, 1) := by decide +kernel
theorem dX12_layFund_89 : decode cX12_layFund 89 = .ok (.iinc 3 1, 3) := by decide +kernel
theorem dX12_layFund_92 : decode cX12_layFund 92 = .ok (.goto (-43), 3) := by decide +kernel
theorem dX12_layFund_95 : decode cX12_layFund 95 = .ok (.iinc 2 1, 3) := by decide +kernel
theorem dX12_layFund_98 : decode cX12_layFund 98 = .ok (.goto (-96), 3) := by decide +kernel
theorem dX12_layFund_101 : decode cX12_layFund 101 = .ok (.return_, 1) := by decide +kernel
theorem dX12_findFund_0 : decode cX12_findFund 0 = .ok (.aload_n 0, 1) := by decide +kernel
theorem dX12_findFund_1 : decode cX12_findFund 1 = .ok (.iconst 0, 1) := by decide +kernel
theorem dX12_findFund_2 : decode cX12_findFund 2 = .ok (.putfield 290, 3) := by decide +kernel
theorem dX12_findFund_5 : decode cX12_findFund 5 = .ok (.aload_n 0, 1) := by decide +kernel
theorem dX12_findFund_6 : decode cX12_findFund 6 = .ok (.bipush (-6), 2) := by decide +kernel
theorem dX12_findFund_8 : decode cX12_findFund 8 = .ok (.putfield 293, 3) := by decide +kernel
theorem dX12_findFund_11 : decode cX12_findFund 11 = .ok (.aload_n 0, 1) := by decide +kernel
theorem dX12_findFund_12 : decode cX12_findFund 12 = .ok (.iconst 0, 1) := by decide +kernel
theorem dX12_findFund_13 : decode cX12_findFund 13 = .ok (.putfield 296, 3) := by decide +kernel
theorem dX12_findFund_16 : decode cX12_findFund 16 = .ok (.aload_n 0, 1) := by decide +kernel
theorem dX12_findFund_17 : decode cX12_findFund 17 = .ok (.iconst 0, 1) := by decide +kernel
theorem dX12_findFund_18 : decode cX12_findFund 18 = .ok (.putfield 299, 3) := by decide +kernel
theorem dX12_findFund_21 : decode cX12_findFund 21 = .ok (.iconst 0, 1) := by decide +kernel
theorem dX12_findFund_22 : decode cX12_findFund 22 = .ok (.istore_n 2, 1) := by decide +kernel
theorem dX12_findFund_23 : decode cX12_findFund 23 = .ok (.iload_n 2, 1) := by decide +kernel
theorem dX12_findFund_24 : decode cX12_findFund 24 = .ok (.iconst 5, 1) := by decide +kernel
theorem dX12_findFund_25 : decode cX12_findFund 25 = .ok (.if_icmp .ge 36, 3) := by decide +kernel
theorem dX12_findFund_28 : decode cX12_findFund 28 = .ok (.aload_n 0, 1) := by decide +kernel
theorem dX12_findFund_29 : decode cX12_findFund 29 = .ok (.iload_n 2, 1) := by decide +kernel
theorem dX12_findFund_30 : decode cX12_findFund 30 = .ok (.invokevirtual 302, 3) := by decide +kernel
theorem dX12_findFund_33 : decode cX12_findFund 33 = .ok (.iconst 1, 1) := by decide +kernel
theorem dX12_findFund_34 : decode cX12_findFund 34 = .ok (.istore_n 3, 1) := by decide +kernel
theorem dX12_findFund_35 : decode cX12_findFund 35 = .ok (.iload_n 3, 1) := by decide +kernel
theorem dX12_findFund_36 : decode cX12_findFund 36 = .ok (.sipush 256, 3) := by decide +kernel
theorem dX12_findFund_39 : decode cX12_findFund 39 = .ok (.if_icmp .ge 16, 3) := by decide +kernel
theorem dX12_findFund_42 : decode cX12_findFund 42 = .ok (.aload_n 0, 1) := by decide +kernel
theorem dX12_findFund_43 : decode cX12_findFund 43 = .ok (.iload_n 2, 1) := by decide +kernel
theorem dX12_findFund_44 : decode cX12_findFund 44 = .ok (.iload_n 3, 1) := by decide +kernel
theorem dX12_findFund_45 : decode cX12_findFund 45 = .ok (.iload_n 1, 1) := by decide +kernel
theorem dX12_findFund_46 : decode cX12_findFund 46 = .ok (.invokevirtual 305, 3) := by decide +kernel
theorem dX12_findFund_49 : decode cX12_findFund 49 = .ok (.iinc 3 1, 3) := by decide +kernel
theorem dX12_findFund_52 : decode cX12_findFund 52 = .ok (.goto (-17), 3) := by decide +kernel
theorem dX12_findFund_55 : decode cX12_findFund 55 = .ok (.iinc 2 1, 3) := by decide +kernel
theorem dX12_findFund_58 : decode cX12_findFund 58 = .ok (.goto (-35), 3) := by decide +kernel
theorem dX12_findFund_61 : decode cX12_findFund 61 = .ok (.return_, 1) := by decide +kernel
theorem dX12_trySet_0 : decode cX12_trySet 0 = .ok (.iconst 0, 1) := by decide +kernel
theorem dX12_trySet_1 : decode cX12_trySet 1 = .ok (.istore 4, 2) := by decide +kernel
theorem dX12_trySet_3 : decode cX12_trySet 3 = .ok (.iconst 0, 1) := by decide +kernel
theorem dX12_trySet_4 : decode cX12_trySet 4 = .ok (.istore 5, 2) := by decide +kernel
theorem dX12_trySet_6 : decode cX12_trySet 6 = .ok (.iconst 0, 1) := by decide +kernel
theorem dX12_trySet_7 : decode cX12_trySet 7 = .ok (.istore 6, 2) := by decide +kernel
theorem dX12_trySet_9 : decode cX12_trySet 9 = .ok (.iload 6, 2) := by decide +kernel
theorem dX12_trySet_11 : decode cX12_trySet 11 = .ok (.bipush 8, 2) := by decide +kernel
theorem dX12_trySet_13 : decode cX12_trySet 13 = .ok (.if_icmp .ge 54, 3) := by decide +kernel
theorem dX12_trySet_16 : decode cX12_trySet 16 = .ok (.iload_n 2, 1) := by decide +kernel
theorem dX12_trySet_17 : decode cX12_trySet 17 = .ok (.iload 6, 2) := by decide +kernel
theorem dX12_trySet_19 : decode cX12_trySet 19 = .ok (.ishr, 1) := by decide +kernel
theorem dX12_trySet_20 : decode cX12_trySet 20 = .ok (.iconst 1, 1) := by decide +kernel
theorem dX12_trySet_21 : decode cX12_trySet 21 = .ok (.iand, 1) := by decide +kernel
theorem dX12_trySet_22 : decode cX12_trySet 22 = .ok (.iconst 1, 1) := by decide +kernel
theorem dX12_trySet_23 : decode cX12_trySet 23 = .ok (.if_icmp .ne 38, 3) := by decide +kernel
theorem dX12_trySet_26 : decode cX12_trySet 26 = .ok (.aload_n 0, 1) := by decide +kernel
theorem dX12_trySet_27 : decode cX12_trySet 27 = .ok (.getfield 89, 3) := by decide +kernel
theorem dX12_trySet_30 : decode cX12_trySet 30 = .ok (.iload 6, 2) := by decide +kernel
theorem dX12_trySet_32 : decode cX12_trySet 32 = .ok (.iaload, 1) := by decide +kernel
theorem dX12_trySet_33 : decode cX12_trySet 33 = .ok (.ifCond .ge 4, 3) := by decide +kernel
theorem dX12_trySet_36 : decode cX12_trySet 36 = .ok (.return_, 1) := by decide +kernel
theorem dX12_trySet_37 : decode cX12_trySet 37 = .ok (.iload 4, 2) := by decide +kernel
theorem dX12_trySet_39 : decode cX12_trySet 39 = .ok (.aload_n 0, 1) := by decide +kernel
theorem dX12_trySet_40 : decode cX12_trySet 40 = .ok (.getfield 89, 3) := by decide +kernel
theorem dX12_trySet_43 : decode cX12_trySet 43 = .ok (.iload 6, 2) := by decide +kernel
theorem dX12_trySet_45 : decode cX12_trySet 45 = .ok (.iaload, 1) := by decide +kernel
theorem dX12_trySet_46 : decode cX12_trySet 46 = .ok (.iadd, 1) := by decide +kernel
theorem dX12_trySet_47 : decode cX12_trySet 47 = .ok (.istore 4, 2) := by decide +kernel
theorem dX12_trySet_49 : decode cX12_trySet 49 = .ok (.iload 5, 2) := by decide +kernel
theorem dX12_trySet_51 : decode cX12_trySet 51 = .ok (.aload_n 0, 1) := by decide +kernel
theorem dX12_trySet_52 : decode cX12_trySet 52 = .ok (.getfield 92, 3) := by decide +kernel
theorem dX12_trySet_55 : decode cX12_trySet 55 = .ok (.iload 6, 2) := by decide +kernel
theorem dX12_trySet_57 : decode cX12_trySet 57 = .ok (.iaload, 1) := by decide +kernel
theorem dX12_trySet_58 : decode cX12_trySet 58 = .ok (.iadd, 1) := by decide +kernel
theorem dX12_trySet_59 : decode cX12_trySet 59 = .ok (.istore 5, 2) := by decide +kernel
theorem dX12_trySet_61 : decode cX12_trySet 61 = .ok (.iinc 6 1, 3) := by decide +kernel
theorem dX12_trySet_64 : decode cX12_trySet 64 = .ok (.goto (-55), 3) := by decide +kernel
theorem dX12_trySet_67 : decode cX12_trySet 67 = .ok (.iload 5, 2) := by decide +kernel
theorem dX12_trySet_69 : decode cX12_trySet 69 = .ok (.aload_n 0, 1) := by decide +kernel
theorem dX12_trySet_70 : decode cX12_trySet 70 = .ok (.getfield 290, 3) := by decide +kernel
theorem dX12_trySet_73 : decode cX12_trySet 73 = .ok (.if_icmp .gt 29, 3) := by decide +kernel
theorem dX12_trySet_76 : decode cX12_trySet 76 = .ok (.iload 5, 2) := by decide +kernel
theorem dX12_trySet_78 : decode cX12_trySet 78 = .ok (.aload_n 0, 1) := by decide +kernel
theorem dX12_trySet_79 : decode cX12_trySet 79 = .ok (.getfield 290, 3) := by decide +kernel
theorem dX12_trySet_82 : decode cX12_trySet 82 = .ok (.if_icmp .ne 24, 3) := by decide +kernel
theorem dX12_trySet_85 : decode cX12_trySet 85 = .ok (.iload_n 1, 1) := by decide +kernel
theorem dX12_trySet_86 : decode cX12_trySet 86 = .ok (.aload_n 0, 1) := by decide +kernel
theorem dX12_trySet_87 : decode cX12_trySet 87 = .ok (.getfield 293, 3) := by decide +kernel
theorem dX12_trySet_90 : decode cX12_trySet 90 = .ok (.if_icmp .ne 16, 3) := by decide +kernel
theorem dX12_trySet_93 : decode cX12_trySet 93 = .ok (.iload 4, 2) := by decide +kernel
theorem dX12_trySet_95 : decode cX12_trySet 95 = .ok (.aload_n 0, 1) := by decide +kernel
theorem dX12_trySet_96 : decode cX12_trySet 96 = .ok (.getfield 299, 3) := by decide +kernel
theorem dX12_trySet_99 : decode cX12_trySet 99 = .ok (.if_icmp .ge 7, 3) := by decide +kernel
theorem dX12_trySet_102 : decode cX12_trySet 102 = .ok (.iconst 1, 1) := by decide +kernel
theorem dX12_trySet_103 : decode cX12_trySet 103 = .ok (.goto 4, 3) := by decide +kernel
theorem dX12_trySet_106 : decode cX12_trySet 106 = .ok (.iconst 0, 1) := by decide +kernel
theorem dX12_trySet_107 : decode cX12_trySet 107 = .ok (.istore 6, 2) := by decide +kernel
theorem dX12_trySet_109 : decode cX12_trySet 109 = .ok (.iload 4, 2) := by decide +kernel
theorem dX12_trySet_111 : decode cX12_trySet 111 = .ok (.iload_n 3, 1) := by decide +kernel
theorem dX12_trySet_112 : decode cX12_trySet 112 = .ok (.if_icmp .gt 30, 3) := by decide +kernel
theorem dX12_trySet_115 : decode cX12_trySet 115 = .ok (.iload 6, 2) := by decide +kernel
theorem dX12_trySet_117 : decode cX12_trySet 117 = .ok (.ifCond .eq 25, 3) := by decide +kernel
theorem dX12_trySet_120 : decode cX12_trySet 120 = .ok (.aload_n 0, 1) := by decide +kernel
theorem dX12_trySet_121 : decode cX12_trySet 121 = .ok (.iload 5, 2) := by decide +kernel
theorem dX12_trySet_123 : decode cX12_trySet 123 = .ok (.putfield 290, 3) := by decide +kernel
theorem dX12_trySet_126 : decode cX12_trySet 126 = .ok (.aload_n 0, 1) := by decide +kernel
theorem dX12_trySet_127 : decode cX12_trySet 127 = .ok (.iload_n 1, 1) := by decide +kernel
theorem dX12_trySet_128 : decode cX12_trySet 128 = .ok (.putfield 293, 3) := by decide +kernel
theorem dX12_trySet_131 : decode cX12_trySet 131 = .ok (.aload_n 0, 1) := by decide +kernel
theorem dX12_trySet_132 : decode cX12_trySet 132 = .ok (.iload_n 2, 1) := by decide +kernel
theorem dX12_trySet_133 : decode cX12_trySet 133 = .ok (.putfield 296, 3) := by decide +kernel
theorem dX12_trySet_136 : decode cX12_trySet 136 = .ok (.aload_n 0, 1) := by decide +kernel
theorem dX12_trySet_137 : decode cX12_trySet 137 = .ok (.iload 4, 2) := by decide +kernel
theorem dX12_trySet_139 : decode cX12_trySet 139 = .ok (.putfield 299, 3) := by decide +kernel
theorem dX12_trySet_142 : decode cX12_trySet 142 = .ok (.return_, 1) := by decide +kernel
theorem dX12_fund_0 : decode cX12_fund 0 = .ok (.iload_n 1, 1) := by decide +kernel
theorem dX12_fund_1 : decode cX12_fund 1 = .ok (.i2l, 1) := by decide +kernel
theorem dX12_fund_2 : decode cX12_fund 2 = .ok (.lconst 0, 1) := by decide +kernel
theorem dX12_fund_3 : decode cX12_fund 3 = .ok (.ldc2_w 221, 3) := by decide +kernel
theorem dX12_fund_6 : decode cX12_fund 6 = .ok (.invokestatic 115, 3) := by decide +kernel
theorem dX12_fund_9 : decode cX12_fund 9 = .ok (.ifCond .eq 15, 3) := by decide +kernel
theorem dX12_fund_12 : decode cX12_fund 12 = .ok (.iload_n 2, 1) := by decide +kernel
theorem dX12_fund_13 : decode cX12_fund 13 = .ok (.i2l, 1) := by decide +kernel
theorem dX12_fund_14 : decode cX12_fund 14 = .ok (.lconst 0, 1) := by decide +kernel
theorem dX12_fund_15 : decode cX12_fund 15 = .ok (.ldc2_w 288, 3) := by decide +kernel
theorem dX12_fund_18 : decode cX12_fund 18 = .ok (.invokestatic 115, 3) := by decide +kernel
theorem dX12_fund_21 : decode cX12_fund 21 = .ok (.ifCond .ne 6, 3) := by decide +kernel
theorem dX12_fund_24 : decode cX12_fund 24 = .ok (.bipush (-2), 2) := by decide +kernel
theorem dX12_fund_26 : decode cX12_fund 26 = .ok (.ireturn, 1) := by decide +kernel
theorem dX12_fund_27 : decode cX12_fund 27 = .ok (.aload_n 0, 1) := by decide +kernel
theorem dX12_fund_28 : decode cX12_fund 28 = .ok (.iload_n 1, 1) := by decide +kernel
theorem dX12_fund_29 : decode cX12_fund 29 = .ok (.invokevirtual 309, 3) := by decide +kernel
theorem dX12_fund_32 : decode cX12_fund 32 = .ok (.iload_n 2, 1) := by decide +kernel
theorem dX12_fund_33 : decode cX12_fund 33 = .ok (.ifCond .ne 10, 3) := by decide +kernel
theorem dX12_fund_36 : decode cX12_fund 36 = .ok (.aload_n 0, 1) := by decide +kernel
theorem dX12_fund_37 : decode cX12_fund 37 = .ok (.getfield 290, 3) := by decide +kernel
theorem dX12_fund_40 : decode cX12_fund 40 = .ok (.goto 31, 3) := by decide +kernel
theorem dX12_fund_43 : decode cX12_fund 43 = .ok (.iload_n 2, 1) := by decide +kernel
theorem dX12_fund_44 : decode cX12_fund 44 = .ok (.iconst 1, 1) := by decide +kernel
theorem dX12_fund_45 : decode cX12_fund 45 = .ok (.if_icmp .ne 10, 3) := by decide +kernel
theorem dX12_fund_48 : decode cX12_fund 48 = .ok (.aload_n 0, 1) := by decide +kernel
theorem dX12_fund_49 : decode cX12_fund 49 = .ok (.getfield 293, 3) := by decide +kernel
theorem dX12_fund_52 : decode cX12_fund 52 = .ok (.goto 19, 3) := by decide +kernel
theorem dX12_fund_55 : decode cX12_fund 55 = .ok (.iload_n 2, 1) := by decide +kernel
theorem dX12_fund_56 : decode cX12_fund 56 = .ok (.iconst 2, 1) := by decide +kernel
theorem dX12_fund_57 : decode cX12_fund 57 = .ok (.if_icmp .ne 10, 3) := by decide +kernel
theorem dX12_fund_60 : decode cX12_fund 60 = .ok (.aload_n 0, 1) := by decide +kernel
theorem dX12_fund_61 : decode cX12_fund 61 = .ok (.getfield 296, 3) := by decide +kernel
theorem dX12_fund_64 : decode cX12_fund 64 = .ok (.goto 7, 3) := by decide +kernel
theorem dX12_fund_67 : decode cX12_fund 67 = .ok (.aload_n 0, 1) := by decide +kernel
theorem dX12_fund_68 : decode cX12_fund 68 = .ok (.getfield 299, 3) := by decide +kernel
theorem dX12_fund_71 : decode cX12_fund 71 = .ok (.ireturn, 1) := by decide +kernel
theorem dX12_sign_0 : decode cX12_sign 0 = .ok (.iload_n 1, 1) := by decide +kernel
theorem dX12_sign_1 : decode cX12_sign 1 = .ok (.i2l, 1) := by decide +kernel
theorem dX12_sign_2 : decode cX12_sign 2 = .ok (.ldc2_w 312, 3) := by decide +kernel
theorem dX12_sign_5 : decode cX12_sign 5 = .ok (.ldc2_w 314, 3) := by decide +kernel
theorem dX12_sign_8 : decode cX12_sign 8 = .ok (.invokestatic 115, 3) := by decide +kernel
theorem dX12_sign_11 : decode cX12_sign 11 = .ok (.ifCond .ne 6, 3) := by decide +kernel
theorem dX12_sign_14 : decode cX12_sign 14 = .ok (.bipush (-2), 2) := by decide +kernel
theorem dX12_sign_16 : decode cX12_sign 16 = .ok (.ireturn, 1) := by decide +kernel
theorem dX12_sign_17 : decode cX12_sign 17 = .ok (.aload_n 0, 1) := by decide +kernel
theorem dX12_sign_18 : decode cX12_sign 18 = .ok (.getfield 137, 3) := by decide +kernel
theorem dX12_sign_21 : decode cX12_sign 21 = .ok (.bipush 40, 2) := by decide +kernel
theorem dX12_sign_23 : decode cX12_sign 23 = .ok (.if_icmp .ne 6, 3) := by decide +kernel
theorem dX12_sign_26 : decode cX12_sign 26 = .ok (.bipush (-4), 2) := by decide +kernel
theorem dX12_sign_28 : decode cX12_sign 28 = .ok (.ireturn, 1) := by decide +kernel
theorem dX12_sign_29 : decode cX12_sign 29 = .ok (.aload_n 0, 1) := by decide +kernel
theorem dX12_sign_30 : decode cX12_sign 30 = .ok (.getfield 95, 3) := by decide +kernel
theorem dX12_sign_33 : decode cX12_sign 33 = .ok (.aload_n 0, 1) := by decide +kernel
theorem dX12_sign_34 : decode cX12_sign 34 = .ok (.getfield 137, 3) := by decide +kernel
theorem dX12_sign_37 : decode cX12_sign 37 = .ok (.iload_n 1, 1) := by decide +kernel
theorem dX12_sign_38 : decode cX12_sign 38 = .ok (.iastore, 1) := by decide +kernel
theorem dX12_sign_39 : decode cX12_sign 39 = .ok (.aload_n 0, 1) := by decide +kernel
theorem dX12_sign_40 : decode cX12_sign 40 = .ok (.dup, 1) := by decide +kernel
theorem dX12_sign_41 : decode cX12_sign 41 = .ok (.getfield 137, 3) := by decide +kernel
theorem dX12_sign_44 : decode cX12_sign 44 = .ok (.iconst 1, 1) := by decide +kernel
theorem dX12_sign_45 : decode cX12_sign 45 = .ok (.iadd, 1) := by decide +kernel
theorem dX12_sign_46 : decode cX12_sign 46 = .ok (.putfield 137, 3) := by decide +kernel
theorem dX12_sign_49 : decode cX12_sign 49 = .ok (.aload_n 0, 1) := by decide +kernel
theorem dX12_sign_50 : decode cX12_sign 50 = .ok (.getfield 137, 3) := by decide +kernel
theorem dX12_sign_53 : decode cX12_sign 53 = .ok (.ireturn, 1) := by decide +kernel
theorem dX12_isDigit_0 : decode cX12_isDigit 0 = .ok (.iload_n 0, 1) := by decide +kernel
theorem dX12_isDigit_1 : decode cX12_isDigit 1 = .ok (.i2l, 1) := by decide +kernel
theorem dX12_isDigit_2 : decode cX12_isDigit 2 = .ok (.ldc2_w 316, 3) := by decide +kernel
theorem dX12_isDigit_5 : decode cX12_isDigit 5 = .ok (.ldc2_w 318, 3) := by decide +kernel
theorem dX12_isDigit_8 : decode cX12_isDigit 8 = .ok (.invokestatic 115, 3) := by decide +kernel
theorem dX12_isDigit_11 : decode cX12_isDigit 11 = .ok (.ireturn, 1) := by decide +kernel
theorem dX12_stepOf_0 : decode cX12_stepOf 0 = .ok (.iload_n 0, 1) := by decide +kernel
theorem dX12_stepOf_1 : decode cX12_stepOf 1 = .ok (.ifCond .ne 33, 3) := by decide +kernel
theorem dX12_stepOf_4 : decode cX12_stepOf 4 = .ok (.iload_n 1, 1) := by decide +kernel
theorem dX12_stepOf_5 : decode cX12_stepOf 5 = .ok (.bipush 97, 2) := by decide +kernel
theorem dX12_stepOf_7 : decode cX12_stepOf 7 = .ok (.if_icmp .eq 21, 3) := by decide +kernel
theorem dX12_stepOf_10 : decode cX12_stepOf 10 = .ok (.iload_n 1, 1) := by decide +kernel
theorem dX12_stepOf_11 : decode cX12_stepOf 11 = .ok (.bipush 121, 2) := by decide +kernel
theorem dX12_stepOf_13 : decode cX12_stepOf 13 = .ok (.if_icmp .eq 15, 3) := by decide +kernel
theorem dX12_stepOf_16 : decode cX12_stepOf 16 = .ok (.iload_n 1, 1) := by decide +kernel
theorem dX12_stepOf_17 : decode cX12_stepOf 17 = .ok (.bipush 107, 2) := by decide +kernel
theorem dX12_stepOf_19 : decode cX12_stepOf 19 = .ok (.if_icmp .eq 9, 3) := by decide +kernel
theorem dX12_stepOf_22 : decode cX12_stepOf 22 = .ok (.iload_n 1, 1) := by decide +kernel
theorem dX12_stepOf_23 : decode cX12_stepOf 23 = .ok (.bipush 115, 2) := by decide +kernel
theorem dX12_stepOf_25 : decode cX12_stepOf 25 = .ok (.if_icmp .ne 7, 3) := by decide +kernel
theorem dX12_stepOf_28 : decode cX12_stepOf 28 = .ok (.iconst 1, 1) := by decide +kernel
theorem dX12_stepOf_29 : decode cX12_stepOf 29 = .ok (.goto 4, 3) := by decide +kernel
theorem dX12_stepOf_32 : decode cX12_stepOf 32 = .ok (.iconst (-1), 1) := by decide +kernel
theorem dX12_stepOf_33 : decode cX12_stepOf 33 = .ok (.ireturn, 1) := by decide +kernel
theorem dX12_stepOf_34 : decode cX12_stepOf 34 = .ok (.iload_n 0, 1) := by decide +kernel
theorem dX12_stepOf_35 : decode cX12_stepOf 35 = .ok (.iconst 1, 1) := by decide +kernel
theorem dX12_stepOf_36 : decode cX12_stepOf 36 = .ok (.if_icmp .ne 27, 3) := by decide +kernel
theorem dX12_stepOf_39 : decode cX12_stepOf 39 = .ok (.iload_n 1, 1) := by decide +kernel
theorem dX12_stepOf_40 : decode cX12_stepOf 40 = .ok (.bipush 60, 2) := by decide +kernel
theorem dX12_stepOf_42 : decode cX12_stepOf 42 = .ok (.if_icmp .eq 15, 3) := by decide +kernel
theorem dX12_stepOf_45 : decode cX12_stepOf 45 = .ok (.iload_n 1, 1) := by decide +kernel
theorem dX12_stepOf_46 : decode cX12_stepOf 46 = .ok (.bipush 62, 2) := by decide +kernel
theorem dX12_stepOf_48 : decode cX12_stepOf 48 = .ok (.if_icmp .eq 9, 3) := by decide +kernel
theorem dX12_stepOf_51 : decode cX12_stepOf 51 = .ok (.iload_n 1, 1) := by decide +kernel
theorem dX12_stepOf_52 : decode cX12_stepOf 52 = .ok (.bipush 61, 2) := by decide +kernel
theorem dX12_stepOf_54 : decode cX12_stepOf 54 = .ok (.if_icmp .ne 7, 3) := by decide +kernel
theorem dX12_stepOf_57 : decode cX12_stepOf 57 = .ok (.iconst 2, 1) := by decide +kernel
theorem dX12_stepOf_58 : decode cX12_stepOf 58 = .ok (.goto 4, 3) := by decide +kernel
theorem dX12_stepOf_61 : decode cX12_stepOf 61 = .ok (.iconst (-1), 1) := by decide +kernel
theorem dX12_stepOf_62 : decode cX12_stepOf 62 = .ok (.ireturn, 1) := by decide +kernel
theorem dX12_stepOf_63 : decode cX12_stepOf 63 = .ok (.iload_n 1, 1) := by decide +kernel
theorem dX12_stepOf_64 : decode cX12_stepOf 64 = .ok (.invokestatic 320, 3) := by decide +kernel
theorem dX12_stepOf_67 : decode cX12_stepOf 67 = .ok (.ifCond .eq 16, 3) := by decide +kernel
theorem dX12_stepOf_70 : decode cX12_stepOf 70 = .ok (.iload_n 0, 1) := by decide +kernel
theorem dX12_stepOf_71 : decode cX12_stepOf 71 = .ok (.iconst 5, 1) := by decide +kernel
theorem dX12_stepOf_72 : decode cX12_stepOf 72 = .ok (.if_icmp .ge 9, 3) := by decide +kernel
theorem dX12_stepOf_75 : decode cX12_stepOf 75 = .ok (.iload_n 0, 1) := by decide +kernel
theorem dX12_stepOf_76 : decode cX12_stepOf 76 = .ok (.iconst 1, 1) := by decide +kernel
theorem dX12_stepOf_77 : decode cX12_stepOf 77 = .ok (.iadd, 1) := by decide +kernel
theorem dX12_stepOf_78 : decode cX12_stepOf 78 = .ok (.goto 4, 3) := by decide +kernel
theorem dX12_stepOf_81 : decode cX12_stepOf 81 = .ok (.iconst (-1), 1) := by decide +kernel
theorem dX12_stepOf_82 : decode cX12_stepOf 82 = .ok (.ireturn, 1) := by decide +kernel
theorem dX12_stepOf_83 : decode cX12_stepOf 83 = .ok (.iload_n 0, 1) := by decide +kernel
theorem dX12_stepOf_84 : decode cX12_stepOf 84 = .ok (.iconst 2, 1) := by decide +kernel
theorem dX12_stepOf_85 : decode cX12_stepOf 85 = .ok (.if_icmp .le 19, 3) := by decide +kernel
theorem dX12_stepOf_88 : decode cX12_stepOf 88 = .ok (.iload_n 1, 1) := by decide +kernel
theorem dX12_stepOf_89 : decode cX12_stepOf 89 = .ok (.bipush 38, 2) := by decide +kernel
theorem dX12_stepOf_91 : decode cX12_stepOf 91 = .ok (.if_icmp .eq 9, 3) := by decide +kernel
theorem dX12_stepOf_94 : decode cX12_stepOf 94 = .ok (.iload_n 1, 1) := by decide +kernel
theorem dX12_stepOf_95 : decode cX12_stepOf 95 = .ok (.bipush 124, 2) := by decide +kernel
theorem dX12_stepOf_97 : decode cX12_stepOf 97 = .ok (.if_icmp .ne 7, 3) := by decide +kernel
theorem dX12_stepOf_100 : decode cX12_stepOf 100 = .ok (.iconst 0, 1) := by decide +kernel
theorem dX12_stepOf_101 : decode cX12_stepOf 101 = .ok (.goto 4, 3) := by decide +kernel
theorem dX12_stepOf_104 : decode cX12_stepOf 104 = .ok (.iconst (-1), 1) := by decide +kernel
theorem dX12_stepOf_105 : decode cX12_stepOf 105 = .ok (.ireturn, 1) := by decide +kernel
theorem dX12_fault_0 : decode cX12_fault 0 = .ok (.iconst 0, 1) := by decide +kernel
theorem dX12_fault_1 : decode cX12_fault 1 = .ok (.istore_n 1, 1) := by decide +kernel
theorem dX12_fault_2 : decode cX12_fault 2 = .ok (.iconst 0, 1) := by decide +kernel
theorem dX12_fault_3 : decode cX12_fault 3 = .ok (.istore_n 2, 1) := by decide +kernel
theorem dX12_fault_4 : decode cX12_fault 4 = .ok (.iload_n 2, 1) := by decide +kernel
theorem dX12_fault_5 : decode cX12_fault 5 = .ok (.aload_n 0, 1) := by decide +kernel
theorem dX12_fault_6 : decode cX12_fault 6 = .ok (.getfield 137, 3) := by decide +kernel
theorem dX12_fault_9 : decode cX12_fault 9 = .ok (.if_icmp .ge 26, 3) := by decide +kernel
theorem dX12_fault_12 : decode cX12_fault 12 = .ok (.iload_n 1, 1) := by decide +kernel
theorem dX12_fault_13 : decode cX12_fault 13 = .ok (.aload_n 0, 1) := by decide +kernel
theorem dX12_fault_14 : decode cX12_fault 14 = .ok (.getfield 95, 3) := by decide +kernel
theorem dX12_fault_17 : decode cX12_fault 17 = .ok (.iload_n 2, 1) := by decide +kernel
theorem dX12_fault_18 : decode cX12_fault 18 = .ok (.iaload, 1) := by decide +kernel
theorem dX12_fault_19 : decode cX12_fault 19 = .ok (.invokestatic 323, 3) := by decide +kernel
theorem dX12_fault_22 : decode cX12_fault 22 = .ok (.istore_n 1, 1) := by decide +kernel
theorem dX12_fault_23 : decode cX12_fault 23 = .ok (.iload_n 1, 1) := by decide +kernel
theorem dX12_fault_24 : decode cX12_fault 24 = .ok (.ifCond .ge 5, 3) := by decide +kernel
theorem dX12_fault_27 : decode cX12_fault 27 = .ok (.iload_n 2, 1) := by decide +kernel
theorem dX12_fault_28 : decode cX12_fault 28 = .ok (.ireturn, 1) := by decide +kernel
theorem dX12_fault_29 : decode cX12_fault 29 = .ok (.iinc 2 1, 3) := by decide +kernel
theorem dX12_fault_32 : decode cX12_fault 32 = .ok (.goto (-28), 3) := by decide +kernel
theorem dX12_fault_35 : decode cX12_fault 35 = .ok (.iload_n 1, 1) := by decide +kernel
theorem dX12_fault_36 : decode cX12_fault 36 = .ok (.iconst 2, 1) := by decide +kernel
theorem dX12_fault_37 : decode cX12_fault 37 = .ok (.if_icmp .le 8, 3) := by decide +kernel
theorem dX12_fault_40 : decode cX12_fault 40 = .ok (.bipush (-6), 2) := by decide +kernel
theorem dX12_fault_42 : decode cX12_fault 42 = .ok (.goto 7, 3) := by decide +kernel
theorem dX12_fault_45 : decode cX12_fault 45 = .ok (.aload_n 0, 1) := by decide +kernel
theorem dX12_fault_46 : decode cX12_fault 46 = .ok (.getfield 137, 3) := by decide +kernel
theorem dX12_fault_49 : decode cX12_fault 49 = .ok (.ireturn, 1) := by decide +kernel
theorem dX12_board_0 : decode cX12_board 0 = .ok (.iload_n 1, 1) := by decide +kernel
theorem dX12_board_1 : decode cX12_board 1 = .ok (.invokestatic 254, 3) := by decide +kernel
theorem dX12_board_4 : decode cX12_board 4 = .ok (.ifCond .ne 5, 3) := by decide +kernel
theorem dX12_board_7 : decode cX12_board 7 = .ok (.iconst (-1), 1) := by decide +kernel
theorem dX12_board_8 : decode cX12_board 8 = .ok (.ireturn, 1) := by decide +kernel
theorem dX12_board_9 : decode cX12_board 9 = .ok (.aload_n 0, 1) := by decide +kernel
theorem dX12_board_10 : decode cX12_board 10 = .ok (.invokevirtual 326, 3) := by decide +kernel
theorem dX12_board_13 : decode cX12_board 13 = .ok (.ifCond .lt 6, 3) := by decide +kernel
theorem dX12_board_16 : decode cX12_board 16 = .ok (.bipush (-5), 2) := by decide +kernel
theorem dX12_board_18 : decode cX12_board 18 = .ok (.ireturn, 1) := by decide +kernel
theorem dX12_board_19 : decode cX12_board 19 = .ok (.aload_n 0, 1) := by decide +kernel
theorem dX12_board_20 : decode cX12_board 20 = .ok (.getfield 101, 3) := by decide +kernel
theorem dX12_board_23 : decode cX12_board 23 = .ok (.iload_n 1, 1) := by decide +kernel
theorem dX12_board_24 : decode cX12_board 24 = .ok (.iaload, 1) := by decide +kernel
theorem dX12_board_25 : decode cX12_board 25 = .ok (.istore_n 2, 1) := by decide +kernel
theorem dX12_board_26 : decode cX12_board 26 = .ok (.iconst 0, 1) := by decide +kernel
theorem dX12_board_27 : decode cX12_board 27 = .ok (.istore_n 3, 1) := by decide +kernel
theorem dX12_board_28 : decode cX12_board 28 = .ok (.iload_n 3, 1) := by decide +kernel
theorem dX12_board_29 : decode cX12_board 29 = .ok (.aload_n 0, 1) := by decide +kernel
theorem dX12_board_30 : decode cX12_board 30 = .ok (.getfield 137, 3) := by decide +kernel
theorem dX12_board_33 : decode cX12_board 33 = .ok (.if_icmp .ge 26, 3) := by decide +kernel
theorem dX12_board_36 : decode cX12_board 36 = .ok (.aload_n 0, 1) := by decide +kernel
theorem dX12_board_37 : decode cX12_board 37 = .ok (.getfield 98, 3) := by decide +kernel
theorem dX12_board_40 : decode cX12_board 40 = .ok (.bipush 40, 2) := by decide +kernel
theorem dX12_board_42 : decode cX12_board 42 = .ok (.iload_n 1, 1) := by decide +kernel
theorem dX12_board_43 : decode cX12_board 43 = .ok (.imul, 1) := by decide +kernel
theorem dX12_board_44 : decode cX12_board 44 = .ok (.iload_n 3, 1) := by decide +kernel
theorem dX12_board_45 : decode cX12_board 45 = .ok (.iadd, 1) := by decide +kernel
theorem dX12_board_46 : decode cX12_board 46 = .ok (.aload_n 0, 1) := by decide +kernel
theorem dX12_board_47 : decode cX12_board 47 = .ok (.getfield 95, 3) := by decide +kernel
theorem dX12_board_50 : decode cX12_board 50 = .ok (.iload_n 3, 1) := by decide +kernel
theorem dX12_board_51 : decode cX12_board 51 = .ok (.iaload, 1) := by decide +kernel
theorem dX12_board_52 : decode cX12_board 52 = .ok (.iastore, 1) := by decide +kernel
theorem dX12_board_53 : decode cX12_board 53 = .ok (.iinc 3 1, 3) := by decide +kernel
theorem dX12_board_56 : decode cX12_board 56 = .ok (.goto (-28), 3) := by decide +kernel
theorem dX12_board_59 : decode cX12_board 59 = .ok (.aload_n 0, 1) := by decide +kernel
theorem dX12_board_60 : decode cX12_board 60 = .ok (.getfield 101, 3) := by decide +kernel
theorem dX12_board_63 : decode cX12_board 63 = .ok (.iload_n 1, 1) := by decide +kernel
theorem dX12_board_64 : decode cX12_board 64 = .ok (.aload_n 0, 1) := by decide +kernel
theorem dX12_board_65 : decode cX12_board 65 = .ok (.getfield 137, 3) := by decide +kernel
theorem dX12_board_68 : decode cX12_board 68 = .ok (.iastore, 1) := by decide +kernel
theorem dX12_board_69 : decode cX12_board 69 = .ok (.aload_n 0, 1) := by decide +kernel
theorem dX12_board_70 : decode cX12_board 70 = .ok (.iconst 0, 1) := by decide +kernel
theorem dX12_board_71 : decode cX12_board 71 = .ok (.putfield 137, 3) := by decide +kernel
theorem dX12_board_74 : decode cX12_board 74 = .ok (.iload_n 2, 1) := by decide +kernel
theorem dX12_board_75 : decode cX12_board 75 = .ok (.ifCond .ge 7, 3) := by decide +kernel
theorem dX12_board_78 : decode cX12_board 78 = .ok (.iconst 1, 1) := by decide +kernel
theorem dX12_board_79 : decode cX12_board 79 = .ok (.goto 4, 3) := by decide +kernel
theorem dX12_board_82 : decode cX12_board 82 = .ok (.iconst 0, 1) := by decide +kernel
theorem dX12_board_83 : decode cX12_board 83 = .ok (.ireturn, 1) := by decide +kernel
theorem dX12_factOf_0 : decode cX12_factOf 0 = .ok (.iload_n 2, 1) := by decide +kernel
theorem dX12_factOf_1 : decode cX12_factOf 1 = .ok (.lookupswitch 78 #[(97, 35), (107, 69), (121, 42)], 35) := by decide +kernel
theorem dX12_factOf_36 : decode cX12_factOf 36 = .ok (.aload_n 0, 1) := by decide +kernel
theorem dX12_factOf_37 : decode cX12_factOf 37 = .ok (.getfield 74, 3) := by decide +kernel
theorem dX12_factOf_40 : decode cX12_factOf 40 = .ok (.iload_n 1, 1) := by decide +kernel
theorem dX12_factOf_41 : decode cX12_factOf 41 = .ok (.iaload, 1) := by decide +kernel
theorem dX12_factOf_42 : decode cX12_factOf 42 = .ok (.ireturn, 1) := by decide +kernel
theorem dX12_factOf_43 : decode cX12_factOf 43 = .ok (.aload_n 0, 1) := by decide +kernel
theorem dX12_factOf_44 : decode cX12_factOf 44 = .ok (.iload_n 1, 1) := by decide +kernel
theorem dX12_factOf_45 : decode cX12_factOf 45 = .ok (.invokevirtual 267, 3) := by decide +kernel
theorem dX12_factOf_48 : decode cX12_factOf 48 = .ok (.ifCond .ge 7, 3) := by decide +kernel
theorem dX12_factOf_51 : decode cX12_factOf 51 = .ok (.iconst 0, 1) := by decide +kernel
theorem dX12_factOf_52 : decode cX12_factOf 52 = .ok (.goto 17, 3) := by decide +kernel
theorem dX12_factOf_55 : decode cX12_factOf 55 = .ok (.aload_n 0, 1) := by decide +kernel
theorem dX12_factOf_56 : decode cX12_factOf 56 = .ok (.getfield 83, 3) := by decide +kernel
theorem dX12_factOf_59 : decode cX12_factOf 59 = .ok (.iconst 5, 1) := by decide +kernel
theorem dX12_factOf_60 : decode cX12_factOf 60 = .ok (.iload_n 1, 1) := by decide +kernel
theorem dX12_factOf_61 : decode cX12_factOf 61 = .ok (.imul, 1) := by decide +kernel
theorem dX12_factOf_62 : decode cX12_factOf 62 = .ok (.aload_n 0, 1) := by decide +kernel
theorem dX12_factOf_63 : decode cX12_factOf 63 = .ok (.iload_n 1, 1) := by decide +kernel
theorem dX12_factOf_64 : decode cX12_factOf 64 = .ok (.invokevirtual 267, 3) := by decide +kernel
theorem dX12_factOf_67 : decode cX12_factOf 67 = .ok (.iadd, 1) := by decide +kernel
theorem dX12_factOf_68 : decode cX12_factOf 68 = .ok (.iaload, 1) := by decide +kernel
theorem dX12_factOf_69 : decode cX12_factOf 69 = .ok (.ireturn, 1) := by decide +kernel
theorem dX12_factOf_70 : decode cX12_factOf 70 = .ok (.aload_n 0, 1) := by decide +kernel
theorem dX12_factOf_71 : decode cX12_factOf 71 = .ok (.iload_n 1, 1) := by decide +kernel
theorem dX12_factOf_72 : decode cX12_factOf 72 = .ok (.invokevirtual 270, 3) := by decide +kernel
theorem dX12_factOf_75 : decode cX12_factOf 75 = .ok (.invokestatic 150, 3) := by decide +kernel
theorem dX12_factOf_78 : decode cX12_factOf 78 = .ok (.ireturn, 1) := by decide +kernel
theorem dX12_factOf_79 : decode cX12_factOf 79 = .ok (.aload_n 0, 1) := by decide +kernel
theorem dX12_factOf_80 : decode cX12_factOf 80 = .ok (.getfield 80, 3) := by decide +kernel
theorem dX12_factOf_83 : decode cX12_factOf 83 = .ok (.iload_n 1, 1) := by decide +kernel
theorem dX12_factOf_84 : decode cX12_factOf 84 = .ok (.baload, 1) := by decide +kernel
theorem dX12_factOf_85 : decode cX12_factOf 85 = .ok (.ifCond .eq 7, 3) := by decide +kernel
theorem dX12_factOf_88 : decode cX12_factOf 88 = .ok (.iconst 1, 1) := by decide +kernel
theorem dX12_factOf_89 : decode cX12_factOf 89 = .ok (.goto 4, 3) := by decide +kernel
theorem dX12_factOf_92 : decode cX12_factOf 92 = .ok (.iconst 0, 1) := by decide +kernel
theorem dX12_factOf_93 : decode cX12_factOf 93 = .ok (.ireturn, 1) := by decide +kernel
theorem dX12_mayVote_0 : decode cX12_mayVote 0 = .ok (.iconst 1, 1) := by decide +kernel
theorem dX12_mayVote_1 : decode cX12_mayVote 1 = .ok (.istore_n 3, 1) := by decide +kernel
theorem dX12_mayVote_2 : decode cX12_mayVote 2 = .ok (.bipush 40, 2) := by decide +kernel
theorem dX12_mayVote_4 : decode cX12_mayVote 4 = .ok (.iload_n 1, 1) := by decide +kernel
theorem dX12_mayVote_5 : decode cX12_mayVote 5 = .ok (.imul, 1) := by decide +kernel
theorem dX12_mayVote_6 : decode cX12_mayVote 6 = .ok (.istore 4, 2) := by decide +kernel
theorem dX12_mayVote_8 : decode cX12_mayVote 8 = .ok (.iload 4, 2) := by decide +kernel
theorem dX12_mayVote_10 : decode cX12_mayVote 10 = .ok (.aload_n 0, 1) := by decide +kernel
theorem dX12_mayVote_11 : decode cX12_mayVote 11 = .ok (.getfield 101, 3) := by decide +kernel
theorem dX12_mayVote_14 : decode cX12_mayVote 14 = .ok (.iload_n 1, 1) := by decide +kernel
theorem dX12_mayVote_15 : decode cX12_mayVote 15 = .ok (.iaload, 1) := by decide +kernel
theorem dX12_mayVote_16 : decode cX12_mayVote 16 = .ok (.iadd, 1) := by decide +kernel
theorem dX12_mayVote_17 : decode cX12_mayVote 17 = .ok (.istore 5, 2) := by decide +kernel
theorem dX12_mayVote_19 : decode cX12_mayVote 19 = .ok (.iload 4, 2) := by decide +kernel
theorem dX12_mayVote_21 : decode cX12_mayVote 21 = .ok (.iload 5, 2) := by decide +kernel
theorem dX12_mayVote_23 : decode cX12_mayVote 23 = .ok (.if_icmp .ge 162, 3) := by decide +kernel
theorem dX12_mayVote_26 : decode cX12_mayVote 26 = .ok (.aload_n 0, 1) := by decide +kernel
theorem dX12_mayVote_27 : decode cX12_mayVote 27 = .ok (.iload_n 2, 1) := by decide +kernel
theorem dX12_mayVote_28 : decode cX12_mayVote 28 = .ok (.aload_n 0, 1) := by decide +kernel
theorem dX12_mayVote_29 : decode cX12_mayVote 29 = .ok (.getfield 98, 3) := by decide +kernel
theorem dX12_mayVote_32 : decode cX12_mayVote 32 = .ok (.iload 4, 2) := by decide +kernel
theorem dX12_mayVote_34 : decode cX12_mayVote 34 = .ok (.iaload, 1) := by decide +kernel
theorem dX12_mayVote_35 : decode cX12_mayVote 35 = .ok (.invokevirtual 330, 3) := by decide +kernel
theorem dX12_mayVote_38 : decode cX12_mayVote 38 = .ok (.istore 6, 2) := by decide +kernel
theorem dX12_mayVote_40 : decode cX12_mayVote 40 = .ok (.aload_n 0, 1) := by decide +kernel
theorem dX12_mayVote_41 : decode cX12_mayVote 41 = .ok (.getfield 98, 3) := by decide +kernel
theorem dX12_mayVote_44 : decode cX12_mayVote 44 = .ok (.iload 4, 2) := by decide +kernel
theorem dX12_mayVote_46 : decode cX12_mayVote 46 = .ok (.iconst 1, 1) := by decide +kernel
theorem dX12_mayVote_47 : decode cX12_mayVote 47 = .ok (.iadd, 1) := by decide +kernel
theorem dX12_mayVote_48 : decode cX12_mayVote 48 = .ok (.iaload, 1) := by decide +kernel
theorem dX12_mayVote_49 : decode cX12_mayVote 49 = .ok (.istore 7, 2) := by decide +kernel
theorem dX12_mayVote_51 : decode cX12_mayVote 51 = .ok (.iconst 0, 1) := by decide +kernel
theorem dX12_mayVote_52 : decode cX12_mayVote 52 = .ok (.istore 8, 2) := by decide +kernel
theorem dX12_mayVote_54 : decode cX12_mayVote 54 = .ok (.iinc 4 2, 3) := by decide +kernel
theorem dX12_mayVote_57 : decode cX12_mayVote 57 = .ok (.iload 4, 2) := by decide +kernel
theorem dX12_mayVote_59 : decode cX12_mayVote 59 = .ok (.iload 5, 2) := by decide +kernel
theorem dX12_mayVote_61 : decode cX12_mayVote 61 = .ok (.if_icmp .ge 40, 3) := by decide +kernel
theorem dX12_mayVote_64 : decode cX12_mayVote 64 = .ok (.aload_n 0, 1) := by decide +kernel
theorem dX12_mayVote_65 : decode cX12_mayVote 65 = .ok (.getfield 98, 3) := by decide +kernel
theorem dX12_mayVote_68 : decode cX12_mayVote 68 = .ok (.iload 4, 2) := by decide +kernel
theorem dX12_mayVote_70 : decode cX12_mayVote 70 = .ok (.iaload, 1) := by decide +kernel
theorem dX12_mayVote_71 : decode cX12_mayVote 71 = .ok (.invokestatic 320, 3) := by decide +kernel
theorem dX12_mayVote_74 : decode cX12_mayVote 74 = .ok (.ifCond .eq 27, 3) := by decide +kernel
theorem dX12_mayVote_77 : decode cX12_mayVote 77 = .ok (.bipush 10, 2) := by decide +kernel
theorem dX12_mayVote_79 : decode cX12_mayVote 79 = .ok (.iload 8, 2) := by decide +kernel
theorem dX12_mayVote_81 : decode cX12_mayVote 81 = .ok (.imul, 1) := by decide +kernel
theorem dX12_mayVote_82 : decode cX12_mayVote 82 = .ok (.aload_n 0, 1) := by decide +kernel
theorem dX12_mayVote_83 : decode cX12_mayVote 83 = .ok (.getfield 98, 3) := by decide +kernel
theorem dX12_mayVote_86 : decode cX12_mayVote 86 = .ok (.iload 4, 2) := by decide +kernel
theorem dX12_mayVote_88 : decode cX12_mayVote 88 = .ok (.iaload, 1) := by decide +kernel
theorem dX12_mayVote_89 : decode cX12_mayVote 89 = .ok (.iadd, 1) := by decide +kernel
theorem dX12_mayVote_90 : decode cX12_mayVote 90 = .ok (.bipush 48, 2) := by decide +kernel
theorem dX12_mayVote_92 : decode cX12_mayVote 92 = .ok (.isub, 1) := by decide +kernel
theorem dX12_mayVote_93 : decode cX12_mayVote 93 = .ok (.istore 8, 2) := by decide +kernel
theorem dX12_mayVote_95 : decode cX12_mayVote 95 = .ok (.iinc 4 1, 3) := by decide +kernel
theorem dX12_mayVote_98 : decode cX12_mayVote 98 = .ok (.goto (-41), 3) := by decide +kernel
theorem dX12_mayVote_101 : decode cX12_mayVote 101 = .ok (.iload_n 3, 1) := by decide +kernel
theorem dX12_mayVote_102 : decode cX12_mayVote 102 = .ok (.ifCond .eq 48, 3) := by decide +kernel
theorem dX12_mayVote_105 : decode cX12_mayVote 105 = .ok (.iload 7, 2) := by decide +kernel
theorem dX12_mayVote_107 : decode cX12_mayVote 107 = .ok (.bipush 60, 2) := by decide +kernel
theorem dX12_mayVote_109 : decode cX12_mayVote 109 = .ok (.if_icmp .ne 13, 3) := by decide +kernel
theorem dX12_mayVote_112 : decode cX12_mayVote 112 = .ok (.iload 6, 2) := by decide +kernel
theorem dX12_mayVote_114 : decode cX12_mayVote 114 = .ok (.iload 8, 2) := by decide +kernel
theorem dX12_mayVote_116 : decode cX12_mayVote 116 = .ok (.if_icmp .ge 34, 3) := by decide +kernel
theorem dX12_mayVote_119 : decode cX12_mayVote 119 = .ok (.goto 27, 3) := by decide +kernel
theorem dX12_mayVote_122 : decode cX12_mayVote 122 = .ok (.iload 7, 2) := by decide +kernel
theorem dX12_mayVote_124 : decode cX12_mayVote 124 = .ok (.bipush 62, 2) := by decide +kernel
theorem dX12_mayVote_126 : decode cX12_mayVote 126 = .ok (.if_icmp .ne 13, 3) := by decide +kernel
theorem dX12_mayVote_129 : decode cX12_mayVote 129 = .ok (.iload 6, 2) := by decide +kernel
theorem dX12_mayVote_131 : decode cX12_mayVote 131 = .ok (.iload 8, 2) := by decide +kernel
theorem dX12_mayVote_133 : decode cX12_mayVote 133 = .ok (.if_icmp .le 17, 3) := by decide +kernel
theorem dX12_mayVote_136 : decode cX12_mayVote 136 = .ok (.goto 10, 3) := by decide +kernel
theorem dX12_mayVote_139 : decode cX12_mayVote 139 = .ok (.iload 6, 2) := by decide +kernel
theorem dX12_mayVote_141 : decode cX12_mayVote 141 = .ok (.iload 8, 2) := by decide +kernel
theorem dX12_mayVote_143 : decode cX12_mayVote 143 = .ok (.if_icmp .ne 7, 3) := by decide +kernel
theorem dX12_mayVote_146 : decode cX12_mayVote 146 = .ok (.iconst 1, 1) := by decide +kernel
theorem dX12_mayVote_147 : decode cX12_mayVote 147 = .ok (.goto 4, 3) := by decide +kernel
theorem dX12_mayVote_150 : decode cX12_mayVote 150 = .ok (.iconst 0, 1) := by decide +kernel
theorem dX12_mayVote_151 : decode cX12_mayVote 151 = .ok (.istore_n 3, 1) := by decide +kernel
theorem dX12_mayVote_152 : decode cX12_mayVote 152 = .ok (.iload 4, 2) := by decide +kernel
theorem dX12_mayVote_154 : decode cX12_mayVote 154 = .ok (.iload 5, 2) := by decide +kernel
theorem dX12_mayVote_156 : decode cX12_mayVote 156 = .ok (.if_icmp .eq 15, 3) := by decide +kernel
theorem dX12_mayVote_159 : decode cX12_mayVote 159 = .ok (.aload_n 0, 1) := by decide +kernel
theorem dX12_mayVote_160 : decode cX12_mayVote 160 = .ok (.getfield 98, 3) := by decide +kernel
theorem dX12_mayVote_163 : decode cX12_mayVote 163 = .ok (.iload 4, 2) := by decide +kernel
theorem dX12_mayVote_165 : decode cX12_mayVote 165 = .ok (.iaload, 1) := by decide +kernel
theorem dX12_mayVote_166 : decode cX12_mayVote 166 = .ok (.bipush 124, 2) := by decide +kernel
theorem dX12_mayVote_168 : decode cX12_mayVote 168 = .ok (.if_icmp .ne 11, 3) := by decide +kernel
theorem dX12_mayVote_171 : decode cX12_mayVote 171 = .ok (.iload_n 3, 1) := by decide +kernel
theorem dX12_mayVote_172 : decode cX12_mayVote 172 = .ok (.ifCond .eq 5, 3) := by decide +kernel
theorem dX12_mayVote_175 : decode cX12_mayVote 175 = .ok (.iconst 1, 1) := by decide +kernel
theorem dX12_mayVote_176 : decode cX12_mayVote 176 = .ok (.ireturn, 1) := by decide +kernel
theorem dX12_mayVote_177 : decode cX12_mayVote 177 = .ok (.iconst 1, 1) := by decide +kernel
theorem dX12_mayVote_178 : decode cX12_mayVote 178 = .ok (.istore_n 3, 1) := by decide +kernel
theorem dX12_mayVote_179 : decode cX12_mayVote 179 = .ok (.iinc 4 1, 3) := by decide +kernel
theorem dX12_mayVote_182 : decode cX12_mayVote 182 = .ok (.goto (-163), 3) := by decide +kernel
theorem dX12_mayVote_185 : decode cX12_mayVote 185 = .ok (.iconst 0, 1) := by decide +kernel
theorem dX12_mayVote_186 : decode cX12_mayVote 186 = .ok (.ireturn, 1) := by decide +kernel
theorem dX12_votersOf_0 : decode cX12_votersOf 0 = .ok (.iconst 0, 1) := by decide +kernel
theorem dX12_votersOf_1 : decode cX12_votersOf 1 = .ok (.istore_n 3, 1) := by decide +kernel
theorem dX12_votersOf_2 : decode cX12_votersOf 2 = .ok (.iconst 0, 1) := by decide +kernel
theorem dX12_votersOf_3 : decode cX12_votersOf 3 = .ok (.istore 4, 2) := by decide +kernel
theorem dX12_votersOf_5 : decode cX12_votersOf 5 = .ok (.iload 4, 2) := by decide +kernel
theorem dX12_votersOf_7 : decode cX12_votersOf 7 = .ok (.aload_n 0, 1) := by decide +kernel
theorem dX12_votersOf_8 : decode cX12_votersOf 8 = .ok (.getfield 249, 3) := by decide +kernel
theorem dX12_votersOf_11 : decode cX12_votersOf 11 = .ok (.if_icmp .ge 66, 3) := by decide +kernel
theorem dX12_votersOf_14 : decode cX12_votersOf 14 = .ok (.aload_n 0, 1) := by decide +kernel
theorem dX12_votersOf_15 : decode cX12_votersOf 15 = .ok (.getfield 77, 3) := by decide +kernel
theorem dX12_votersOf_18 : decode cX12_votersOf 18 = .ok (.iload 4, 2) := by decide +kernel
theorem dX12_votersOf_20 : decode cX12_votersOf 20 = .ok (.iaload, 1) := by decide +kernel
theorem dX12_votersOf_21 : decode cX12_votersOf 21 = .ok (.iload_n 1, 1) := by decide +kernel
theorem dX12_votersOf_22 : decode cX12_votersOf 22 = .ok (.if_icmp .ne 30, 3) := by decide +kernel
theorem dX12_votersOf_25 : decode cX12_votersOf 25 = .ok (.iload_n 2, 1) := by decide +kernel
theorem dX12_votersOf_26 : decode cX12_votersOf 26 = .ok (.ifCond .ne 22, 3) := by decide +kernel
theorem dX12_votersOf_29 : decode cX12_votersOf 29 = .ok (.aload_n 0, 1) := by decide +kernel
theorem dX12_votersOf_30 : decode cX12_votersOf 30 = .ok (.getfield 101, 3) := by decide +kernel
theorem dX12_votersOf_33 : decode cX12_votersOf 33 = .ok (.iload_n 1, 1) := by decide +kernel
theorem dX12_votersOf_34 : decode cX12_votersOf 34 = .ok (.iaload, 1) := by decide +kernel
theorem dX12_votersOf_35 : decode cX12_votersOf 35 = .ok (.ifCond .le 17, 3) := by decide +kernel
theorem dX12_votersOf_38 : decode cX12_votersOf 38 = .ok (.aload_n 0, 1) := by decide +kernel
theorem dX12_votersOf_39 : decode cX12_votersOf 39 = .ok (.iload_n 1, 1) := by decide +kernel
theorem dX12_votersOf_40 : decode cX12_votersOf 40 = .ok (.iload 4, 2) := by decide +kernel
theorem dX12_votersOf_42 : decode cX12_votersOf 42 = .ok (.invokevirtual 333, 3) := by decide +kernel
theorem dX12_votersOf_45 : decode cX12_votersOf 45 = .ok (.ifCond .eq 7, 3) := by decide +kernel
theorem dX12_votersOf_48 : decode cX12_votersOf 48 = .ok (.iconst 1, 1) := by decide +kernel
theorem dX12_votersOf_49 : decode cX12_votersOf 49 = .ok (.goto 4, 3) := by decide +kernel
theorem dX12_votersOf_52 : decode cX12_votersOf 52 = .ok (.iconst 0, 1) := by decide +kernel
theorem dX12_votersOf_53 : decode cX12_votersOf 53 = .ok (.istore 5, 2) := by decide +kernel
theorem dX12_votersOf_55 : decode cX12_votersOf 55 = .ok (.iload_n 3, 1) := by decide +kernel
theorem dX12_votersOf_56 : decode cX12_votersOf 56 = .ok (.iload 5, 2) := by decide +kernel
theorem dX12_votersOf_58 : decode cX12_votersOf 58 = .ok (.ifCond .eq 10, 3) := by decide +kernel
theorem dX12_votersOf_61 : decode cX12_votersOf 61 = .ok (.iconst 1, 1) := by decide +kernel
theorem dX12_votersOf_62 : decode cX12_votersOf 62 = .ok (.iload 4, 2) := by decide +kernel
theorem dX12_votersOf_64 : decode cX12_votersOf 64 = .ok (.ishl, 1) := by decide +kernel
theorem dX12_votersOf_65 : decode cX12_votersOf 65 = .ok (.goto 4, 3) := by decide +kernel
theorem dX12_votersOf_68 : decode cX12_votersOf 68 = .ok (.iconst 0, 1) := by decide +kernel
theorem dX12_votersOf_69 : decode cX12_votersOf 69 = .ok (.ior, 1) := by decide +kernel
theorem dX12_votersOf_70 : decode cX12_votersOf 70 = .ok (.istore_n 3, 1) := by decide +kernel
theorem dX12_votersOf_71 : decode cX12_votersOf 71 = .ok (.iinc 4 1, 3) := by decide +kernel
theorem dX12_votersOf_74 : decode cX12_votersOf 74 = .ok (.goto (-69), 3) := by decide +kernel
theorem dX12_votersOf_77 : decode cX12_votersOf 77 = .ok (.iload_n 3, 1) := by decide +kernel
theorem dX12_votersOf_78 : decode cX12_votersOf 78 = .ok (.ireturn, 1) := by decide +kernel
theorem dX12_voters_0 : decode cX12_voters 0 = .ok (.iload_n 1, 1) := by decide +kernel
theorem dX12_voters_1 : decode cX12_voters 1 = .ok (.invokestatic 254, 3) := by decide +kernel
theorem dX12_voters_4 : decode cX12_voters 4 = .ok (.ifCond .eq 12, 3) := by decide +kernel
theorem dX12_voters_7 : decode cX12_voters 7 = .ok (.aload_n 0, 1) := by decide +kernel
theorem dX12_voters_8 : decode cX12_voters 8 = .ok (.iload_n 1, 1) := by decide +kernel
theorem dX12_voters_9 : decode cX12_voters 9 = .ok (.iconst 0, 1) := by decide +kernel
theorem dX12_voters_10 : decode cX12_voters 10 = .ok (.invokevirtual 336, 3) := by decide +kernel
theorem dX12_voters_13 : decode cX12_voters 13 = .ok (.goto 4, 3) := by decide +kernel
theorem dX12_voters_16 : decode cX12_voters 16 = .ok (.iconst (-1), 1) := by decide +kernel
theorem dX12_voters_17 : decode cX12_voters 17 = .ok (.ireturn, 1) := by decide +kernel
theorem dX12_choice_0 : decode cX12_choice 0 = .ok (.iload_n 1, 1) := by decide +kernel
theorem dX12_choice_1 : decode cX12_choice 1 = .ok (.invokestatic 254, 3) := by decide +kernel
theorem dX12_choice_4 : decode cX12_choice 4 = .ok (.ifCond .ne 5, 3) := by decide +kernel
theorem dX12_choice_7 : decode cX12_choice 7 = .ok (.iconst (-1), 1) := by decide +kernel
theorem dX12_choice_8 : decode cX12_choice 8 = .ok (.ireturn, 1) := by decide +kernel
theorem dX12_choice_9 : decode cX12_choice 9 = .ok (.aload_n 0, 1) := by decide +kernel
theorem dX12_choice_10 : decode cX12_choice 10 = .ok (.iload_n 1, 1) := by decide +kernel
theorem dX12_choice_11 : decode cX12_choice 11 = .ok (.iload_n 2, 1) := by decide +kernel
theorem dX12_choice_12 : decode cX12_choice 12 = .ok (.invokevirtual 336, 3) := by decide +kernel
theorem dX12_choice_15 : decode cX12_choice 15 = .ok (.istore_n 3, 1) := by decide +kernel
theorem dX12_choice_16 : decode cX12_choice 16 = .ok (.bipush (-6), 2) := by decide +kernel
theorem dX12_choice_18 : decode cX12_choice 18 = .ok (.istore 4, 2) := by decide +kernel
theorem dX12_choice_20 : decode cX12_choice 20 = .ok (.iconst 0, 1) := by decide +kernel
theorem dX12_choice_21 : decode cX12_choice 21 = .ok (.istore 5, 2) := by decide +kernel
theorem dX12_choice_23 : decode cX12_choice 23 = .ok (.iconst 0, 1) := by decide +kernel
theorem dX12_choice_24 : decode cX12_choice 24 = .ok (.istore 6, 2) := by decide +kernel
theorem dX12_choice_26 : decode cX12_choice 26 = .ok (.iload 6, 2) := by decide +kernel
theorem dX12_choice_28 : decode cX12_choice 28 = .ok (.iconst 5, 1) := by decide +kernel
theorem dX12_choice_29 : decode cX12_choice 29 = .ok (.if_icmp .ge 76, 3) := by decide +kernel
theorem dX12_choice_32 : decode cX12_choice 32 = .ok (.iconst 0, 1) := by decide +kernel
theorem dX12_choice_33 : decode cX12_choice 33 = .ok (.istore 7, 2) := by decide +kernel
theorem dX12_choice_35 : decode cX12_choice 35 = .ok (.iconst 0, 1) := by decide +kernel
theorem dX12_choice_36 : decode cX12_choice 36 = .ok (.istore 8, 2) := by decide +kernel
theorem dX12_choice_38 : decode cX12_choice 38 = .ok (.iload 8, 2) := by decide +kernel
theorem dX12_choice_40 : decode cX12_choice 40 = .ok (.aload_n 0, 1) := by decide +kernel
theorem dX12_choice_41 : decode cX12_choice 41 = .ok (.getfield 249, 3) := by decide +kernel
theorem dX12_choice_44 : decode cX12_choice 44 = .ok (.if_icmp .ge 40, 3) := by decide +kernel
theorem dX12_choice_47 : decode cX12_choice 47 = .ok (.iload 7, 2) := by decide +kernel
theorem dX12_choice_49 : decode cX12_choice 49 = .ok (.iload_n 3, 1) := by decide +kernel
theorem dX12_choice_50 : decode cX12_choice 50 = .ok (.iload 8, 2) := by decide +kernel
theorem dX12_choice_52 : decode cX12_choice 52 = .ok (.ishr, 1) := by decide +kernel
theorem dX12_choice_53 : decode cX12_choice 53 = .ok (.iconst 1, 1) := by decide +kernel
theorem dX12_choice_54 : decode cX12_choice 54 = .ok (.iand, 1) := by decide +kernel
theorem dX12_choice_55 : decode cX12_choice 55 = .ok (.iconst 1, 1) := by decide +kernel
theorem dX12_choice_56 : decode cX12_choice 56 = .ok (.if_icmp .ne 18, 3) := by decide +kernel
theorem dX12_choice_59 : decode cX12_choice 59 = .ok (.aload_n 0, 1) := by decide +kernel
theorem dX12_choice_60 : decode cX12_choice 60 = .ok (.iload 8, 2) := by decide +kernel
theorem dX12_choice_62 : decode cX12_choice 62 = .ok (.invokevirtual 267, 3) := by decide +kernel
theorem dX12_choice_65 : decode cX12_choice 65 = .ok (.iload 6, 2) := by decide +kernel
theorem dX12_choice_67 : decode cX12_choice 67 = .ok (.if_icmp .ne 7, 3) := by decide +kernel
theorem dX12_choice_70 : decode cX12_choice 70 = .ok (.iconst 1, 1) := by decide +kernel
theorem dX12_choice_71 : decode cX12_choice 71 = .ok (.goto 4, 3) := by decide +kernel
theorem dX12_choice_74 : decode cX12_choice 74 = .ok (.iconst 0, 1) := by decide +kernel
theorem dX12_choice_75 : decode cX12_choice 75 = .ok (.iadd, 1) := by decide +kernel
theorem dX12_choice_76 : decode cX12_choice 76 = .ok (.istore 7, 2) := by decide +kernel
theorem dX12_choice_78 : decode cX12_choice 78 = .ok (.iinc 8 1, 3) := by decide +kernel
theorem dX12_choice_81 : decode cX12_choice 81 = .ok (.goto (-43), 3) := by decide +kernel
theorem dX12_choice_84 : decode cX12_choice 84 = .ok (.iload 7, 2) := by decide +kernel
theorem dX12_choice_86 : decode cX12_choice 86 = .ok (.iload 5, 2) := by decide +kernel
theorem dX12_choice_88 : decode cX12_choice 88 = .ok (.if_icmp .le 11, 3) := by decide +kernel
theorem dX12_choice_91 : decode cX12_choice 91 = .ok (.iload 7, 2) := by decide +kernel
theorem dX12_choice_93 : decode cX12_choice 93 = .ok (.istore 5, 2) := by decide +kernel
theorem dX12_choice_95 : decode cX12_choice 95 = .ok (.iload 6, 2) := by decide +kernel
theorem dX12_choice_97 : decode cX12_choice 97 = .ok (.istore 4, 2) := by decide +kernel
theorem dX12_choice_99 : decode cX12_choice 99 = .ok (.iinc 6 1, 3) := by decide +kernel
theorem dX12_choice_102 : decode cX12_choice 102 = .ok (.goto (-76), 3) := by decide +kernel
theorem dX12_choice_105 : decode cX12_choice 105 = .ok (.iload 4, 2) := by decide +kernel
theorem dX12_choice_107 : decode cX12_choice 107 = .ok (.ireturn, 1) := by decide +kernel
theorem dX12_part_0 : decode cX12_part 0 = .ok (.iload_n 1, 1) := by decide +kernel
theorem dX12_part_1 : decode cX12_part 1 = .ok (.invokestatic 125, 3) := by decide +kernel
theorem dX12_part_4 : decode cX12_part 4 = .ok (.ifCond .ne 5, 3) := by decide +kernel
theorem dX12_part_7 : decode cX12_part 7 = .ok (.iconst (-1), 1) := by decide +kernel
theorem dX12_part_8 : decode cX12_part 8 = .ok (.ireturn, 1) := by decide +kernel
theorem dX12_part_9 : decode cX12_part 9 = .ok (.iload_n 2, 1) := by decide +kernel
theorem dX12_part_10 : decode cX12_part 10 = .ok (.i2l, 1) := by decide +kernel
theorem dX12_part_11 : decode cX12_part 11 = .ok (.ldc2_w 340, 3) := by decide +kernel
theorem dX12_part_14 : decode cX12_part 14 = .ok (.ldc2_w 342, 3) := by decide +kernel
theorem dX12_part_17 : decode cX12_part 17 = .ok (.invokestatic 115, 3) := by decide +kernel
theorem dX12_part_20 : decode cX12_part 20 = .ok (.ifCond .ne 6, 3) := by decide +kernel
theorem dX12_part_23 : decode cX12_part 23 = .ok (.bipush (-2), 2) := by decide +kernel
theorem dX12_part_25 : decode cX12_part 25 = .ok (.ireturn, 1) := by decide +kernel
theorem dX12_part_26 : decode cX12_part 26 = .ok (.aload_n 0, 1) := by decide +kernel
theorem dX12_part_27 : decode cX12_part 27 = .ok (.getfield 104, 3) := by decide +kernel
theorem dX12_part_30 : decode cX12_part 30 = .ok (.iload_n 1, 1) := by decide +kernel
theorem dX12_part_31 : decode cX12_part 31 = .ok (.iaload, 1) := by decide +kernel
theorem dX12_part_32 : decode cX12_part 32 = .ok (.istore_n 3, 1) := by decide +kernel
theorem dX12_part_33 : decode cX12_part 33 = .ok (.aload_n 0, 1) := by decide +kernel
theorem dX12_part_34 : decode cX12_part 34 = .ok (.getfield 104, 3) := by decide +kernel
theorem dX12_part_37 : decode cX12_part 37 = .ok (.iload_n 1, 1) := by decide +kernel
theorem dX12_part_38 : decode cX12_part 38 = .ok (.iload_n 2, 1) := by decide +kernel
theorem dX12_part_39 : decode cX12_part 39 = .ok (.ifCond .ge 8, 3) := by decide +kernel
theorem dX12_part_42 : decode cX12_part 42 = .ok (.bipush (-6), 2) := by decide +kernel
theorem dX12_part_44 : decode cX12_part 44 = .ok (.goto 4, 3) := by decide +kernel
theorem dX12_part_47 : decode cX12_part 47 = .ok (.iload_n 2, 1) := by decide +kernel
theorem dX12_part_48 : decode cX12_part 48 = .ok (.iastore, 1) := by decide +kernel
theorem dX12_part_49 : decode cX12_part 49 = .ok (.iload_n 3, 1) := by decide +kernel
theorem dX12_part_50 : decode cX12_part 50 = .ok (.ireturn, 1) := by decide +kernel
theorem dX12_layMix_0 : decode cX12_layMix 0 = .ok (.iload_n 1, 1) := by decide +kernel
theorem dX12_layMix_1 : decode cX12_layMix 1 = .ok (.ifCond .ge 9, 3) := by decide +kernel
theorem dX12_layMix_4 : decode cX12_layMix 4 = .ok (.ldc_w 344, 3) := by decide +kernel
theorem dX12_layMix_7 : decode cX12_layMix 7 = .ok (.goto 4, 3) := by decide +kernel
theorem dX12_layMix_10 : decode cX12_layMix 10 = .ok (.iload_n 1, 1) := by decide +kernel
theorem dX12_layMix_11 : decode cX12_layMix 11 = .ok (.istore_n 2, 1) := by decide +kernel
theorem dX12_layMix_12 : decode cX12_layMix 12 = .ok (.iconst 1, 1) := by decide +kernel
theorem dX12_layMix_13 : decode cX12_layMix 13 = .ok (.istore_n 3, 1) := by decide +kernel
theorem dX12_layMix_14 : decode cX12_layMix 14 = .ok (.bipush 6, 2) := by decide +kernel
theorem dX12_layMix_16 : decode cX12_layMix 16 = .ok (.istore 4, 2) := by decide +kernel
theorem dX12_layMix_18 : decode cX12_layMix 18 = .ok (.iload 4, 2) := by decide +kernel
theorem dX12_layMix_20 : decode cX12_layMix 20 = .ok (.ifCond .lt 46, 3) := by decide +kernel
theorem dX12_layMix_23 : decode cX12_layMix 23 = .ok (.aload_n 0, 1) := by decide +kernel
theorem dX12_layMix_24 : decode cX12_layMix 24 = .ok (.getfield 107, 3) := by decide +kernel
theorem dX12_layMix_27 : decode cX12_layMix 27 = .ok (.iload 4, 2) := by decide +kernel
theorem dX12_layMix_29 : decode cX12_layMix 29 = .ok (.iload_n 2, 1) := by decide +kernel
theorem dX12_layMix_30 : decode cX12_layMix 30 = .ok (.bipush 10, 2) := by decide +kernel
theorem dX12_layMix_32 : decode cX12_layMix 32 = .ok (.irem, 1) := by decide +kernel
theorem dX12_layMix_33 : decode cX12_layMix 33 = .ok (.iastore, 1) := by decide +kernel
theorem dX12_layMix_34 : decode cX12_layMix 34 = .ok (.iload_n 3, 1) := by decide +kernel
theorem dX12_layMix_35 : decode cX12_layMix 35 = .ok (.ifCond .eq 18, 3) := by decide +kernel
theorem dX12_layMix_38 : decode cX12_layMix 38 = .ok (.aload_n 0, 1) := by decide +kernel
theorem dX12_layMix_39 : decode cX12_layMix 39 = .ok (.getfield 107, 3) := by decide +kernel
theorem dX12_layMix_42 : decode cX12_layMix 42 = .ok (.iload 4, 2) := by decide +kernel
theorem dX12_layMix_44 : decode cX12_layMix 44 = .ok (.iaload, 1) := by decide +kernel
theorem dX12_layMix_45 : decode cX12_layMix 45 = .ok (.iconst 5, 1) := by decide +kernel
theorem dX12_layMix_46 : decode cX12_layMix 46 = .ok (.if_icmp .ge 7, 3) := by decide +kernel
theorem dX12_layMix_49 : decode cX12_layMix 49 = .ok (.iconst 1, 1) := by decide +kernel
theorem dX12_layMix_50 : decode cX12_layMix 50 = .ok (.goto 4, 3) := by decide +kernel
theorem dX12_layMix_53 : decode cX12_layMix 53 = .ok (.iconst 0, 1) := by decide +kernel
theorem dX12_layMix_54 : decode cX12_layMix 54 = .ok (.istore_n 3, 1) := by decide +kernel
theorem dX12_layMix_55 : decode cX12_layMix 55 = .ok (.iload_n 2, 1) := by decide +kernel
theorem dX12_layMix_56 : decode cX12_layMix 56 = .ok (.bipush 10, 2) := by decide +kernel
theorem dX12_layMix_58 : decode cX12_layMix 58 = .ok (.idiv, 1) := by decide +kernel
theorem dX12_layMix_59 : decode cX12_layMix 59 = .ok (.istore_n 2, 1) := by decide +kernel
theorem dX12_layMix_60 : decode cX12_layMix 60 = .ok (.iinc 4 (-1), 3) := by decide +kernel
theorem dX12_layMix_63 : decode cX12_layMix 63 = .ok (.goto (-45), 3) := by decide +kernel
theorem dX12_layMix_66 : decode cX12_layMix 66 = .ok (.iload_n 3, 1) := by decide +kernel
theorem dX12_layMix_67 : decode cX12_layMix 67 = .ok (.ifCond .eq 11, 3) := by decide +kernel
theorem dX12_layMix_70 : decode cX12_layMix 70 = .ok (.iload_n 2, 1) := by decide +kernel
theorem dX12_layMix_71 : decode cX12_layMix 71 = .ok (.ifCond .ne 7, 3) := by decide +kernel
theorem dX12_layMix_74 : decode cX12_layMix 74 = .ok (.iconst 1, 1) := by decide +kernel
theorem dX12_layMix_75 : decode cX12_layMix 75 = .ok (.goto 4, 3) := by decide +kernel
theorem dX12_layMix_78 : decode cX12_layMix 78 = .ok (.iconst 0, 1) := by decide +kernel
theorem dX12_layMix_79 : decode cX12_layMix 79 = .ok (.ireturn, 1) := by decide +kernel
theorem dX12_mixedCell_0 : decode cX12_mixedCell 0 = .ok (.aload_n 0, 1) := by decide +kernel
theorem dX12_mixedCell_1 : decode cX12_mixedCell 1 = .ok (.getfield 7, 3) := by decide +kernel
theorem dX12_mixedCell_4 : decode cX12_mixedCell 4 = .ok (.bipush 26, 2) := by decide +kernel
theorem dX12_mixedCell_6 : decode cX12_mixedCell 6 = .ok (.aload_n 0, 1) := by decide +kernel
theorem dX12_mixedCell_7 : decode cX12_mixedCell 7 = .ok (.getfield 107, 3) := by decide +kernel
theorem dX12_mixedCell_10 : decode cX12_mixedCell 10 = .ok (.aload_n 0, 1) := by decide +kernel
theorem dX12_mixedCell_11 : decode cX12_mixedCell 11 = .ok (.getfield 104, 3) := by decide +kernel
theorem dX12_mixedCell_14 : decode cX12_mixedCell 14 = .ok (.iload_n 1, 1) := by decide +kernel
theorem dX12_mixedCell_15 : decode cX12_mixedCell 15 = .ok (.iaload, 1) := by decide +kernel
theorem dX12_mixedCell_16 : decode cX12_mixedCell 16 = .ok (.iaload, 1) := by decide +kernel
theorem dX12_mixedCell_17 : decode cX12_mixedCell 17 = .ok (.imul, 1) := by decide +kernel
theorem dX12_mixedCell_18 : decode cX12_mixedCell 18 = .ok (.iload_n 1, 1) := by decide +kernel
theorem dX12_mixedCell_19 : decode cX12_mixedCell 19 = .ok (.iadd, 1) := by decide +kernel
theorem dX12_mixedCell_20 : decode cX12_mixedCell 20 = .ok (.iaload, 1) := by decide +kernel
theorem dX12_mixedCell_21 : decode cX12_mixedCell 21 = .ok (.ireturn, 1) := by decide +kernel
theorem dX12_mayMix_0 : decode cX12_mayMix 0 = .ok (.lconst 0, 1) := by decide +kernel
theorem dX12_mayMix_1 : decode cX12_mayMix 1 = .ok (.lstore_n 1, 1) := by decide +kernel
theorem dX12_mayMix_2 : decode cX12_mayMix 2 = .ok (.iconst 0, 1) := by decide +kernel
theorem dX12_mayMix_3 : decode cX12_mayMix 3 = .ok (.istore_n 3, 1) := by decide +kernel
theorem dX12_mayMix_4 : decode cX12_mayMix 4 = .ok (.iload_n 3, 1) := by decide +kernel
theorem dX12_mayMix_5 : decode cX12_mayMix 5 = .ok (.bipush 26, 2) := by decide +kernel
theorem dX12_mayMix_7 : decode cX12_mayMix 7 = .ok (.if_icmp .ge 50, 3) := by decide +kernel
theorem dX12_mayMix_10 : decode cX12_mayMix 10 = .ok (.aload_n 0, 1) := by decide +kernel
theorem dX12_mayMix_11 : decode cX12_mayMix 11 = .ok (.getfield 104, 3) := by decide +kernel
theorem dX12_mayMix_14 : decode cX12_mayMix 14 = .ok (.iload_n 3, 1) := by decide +kernel
theorem dX12_mayMix_15 : decode cX12_mayMix 15 = .ok (.iaload, 1) := by decide +kernel
theorem dX12_mayMix_16 : decode cX12_mayMix 16 = .ok (.ifCond .lt 35, 3) := by decide +kernel
theorem dX12_mayMix_19 : decode cX12_mayMix 19 = .ok (.aload_n 0, 1) := by decide +kernel
theorem dX12_mayMix_20 : decode cX12_mayMix 20 = .ok (.iload_n 3, 1) := by decide +kernel
theorem dX12_mayMix_21 : decode cX12_mayMix 21 = .ok (.invokevirtual 345, 3) := by decide +kernel
theorem dX12_mayMix_24 : decode cX12_mayMix 24 = .ok (.istore 4, 2) := by decide +kernel
theorem dX12_mayMix_26 : decode cX12_mayMix 26 = .ok (.iload 4, 2) := by decide +kernel
theorem dX12_mayMix_28 : decode cX12_mayMix 28 = .ok (.ifCond .eq 14, 3) := by decide +kernel
theorem dX12_mayMix_31 : decode cX12_mayMix 31 = .ok (.lload_n 1, 1) := by decide +kernel
theorem dX12_mayMix_32 : decode cX12_mayMix 32 = .ok (.iload 4, 2) := by decide +kernel
theorem dX12_mayMix_34 : decode cX12_mayMix 34 = .ok (.lshr, 1) := by decide +kernel
theorem dX12_mayMix_35 : decode cX12_mayMix 35 = .ok (.lconst 1, 1) := by decide +kernel
theorem dX12_mayMix_36 : decode cX12_mayMix 36 = .ok (.land, 1) := by decide +kernel
theorem dX12_mayMix_37 : decode cX12_mayMix 37 = .ok (.lconst 1, 1) := by decide +kernel
theorem dX12_mayMix_38 : decode cX12_mayMix 38 = .ok (.lcmp, 1) := by decide +kernel
theorem dX12_mayMix_39 : decode cX12_mayMix 39 = .ok (.ifCond .ne 5, 3) := by decide +kernel
theorem dX12_mayMix_42 : decode cX12_mayMix 42 = .ok (.iconst 0, 1) := by decide +kernel
theorem dX12_mayMix_43 : decode cX12_mayMix 43 = .ok (.ireturn, 1) := by decide +kernel
theorem dX12_mayMix_44 : decode cX12_mayMix 44 = .ok (.lload_n 1, 1) := by decide +kernel
theorem dX12_mayMix_45 : decode cX12_mayMix 45 = .ok (.lconst 1, 1) := by decide +kernel
theorem dX12_mayMix_46 : decode cX12_mayMix 46 = .ok (.iload 4, 2) := by decide +kernel
theorem dX12_mayMix_48 : decode cX12_mayMix 48 = .ok (.lshl, 1) := by decide +kernel
theorem dX12_mayMix_49 : decode cX12_mayMix 49 = .ok (.lor, 1) := by decide +kernel
theorem dX12_mayMix_50 : decode cX12_mayMix 50 = .ok (.lstore_n 1, 1) := by decide +kernel
theorem dX12_mayMix_51 : decode cX12_mayMix 51 = .ok (.iinc 3 1, 3) := by decide +kernel
theorem dX12_mayMix_54 : decode cX12_mayMix 54 = .ok (.goto (-50), 3) := by decide +kernel
theorem dX12_mayMix_57 : decode cX12_mayMix 57 = .ok (.iconst 1, 1) := by decide +kernel
theorem dX12_mayMix_58 : decode cX12_mayMix 58 = .ok (.ireturn, 1) := by decide +kernel
theorem dX12_mix_0 : decode cX12_mix 0 = .ok (.aload_n 0, 1) := by decide +kernel
theorem dX12_mix_1 : decode cX12_mix 1 = .ok (.iload_n 1, 1) := by decide +kernel
theorem dX12_mix_2 : decode cX12_mix 2 = .ok (.invokevirtual 348, 3) := by decide +kernel
theorem dX12_mix_5 : decode cX12_mix 5 = .ok (.ifCond .ne 6, 3) := by decide +kernel
theorem dX12_mix_8 : decode cX12_mix 8 = .ok (.bipush (-2), 2) := by decide +kernel
theorem dX12_mix_10 : decode cX12_mix 10 = .ok (.ireturn, 1) := by decide +kernel
theorem dX12_mix_11 : decode cX12_mix 11 = .ok (.aload_n 0, 1) := by decide +kernel
theorem dX12_mix_12 : decode cX12_mix 12 = .ok (.invokevirtual 351, 3) := by decide +kernel
theorem dX12_mix_15 : decode cX12_mix 15 = .ok (.ifCond .eq 7, 3) := by decide +kernel
theorem dX12_mix_18 : decode cX12_mix 18 = .ok (.iconst 1, 1) := by decide +kernel
theorem dX12_mix_19 : decode cX12_mix 19 = .ok (.goto 4, 3) := by decide +kernel
theorem dX12_mix_22 : decode cX12_mix 22 = .ok (.iconst 0, 1) := by decide +kernel
theorem dX12_mix_23 : decode cX12_mix 23 = .ok (.ireturn, 1) := by decide +kernel
theorem dX12_anewOf_0 : decode cX12_anewOf 0 = .ok (.iconst 0, 1) := by decide +kernel
theorem dX12_anewOf_1 : decode cX12_anewOf 1 = .ok (.istore_n 1, 1) := by decide +kernel
theorem dX12_anewOf_2 : decode cX12_anewOf 2 = .ok (.iconst 0, 1) := by decide +kernel
theorem dX12_anewOf_3 : decode cX12_anewOf 3 = .ok (.istore_n 2, 1) := by decide +kernel
theorem dX12_anewOf_4 : decode cX12_anewOf 4 = .ok (.iload_n 2, 1) := by decide +kernel
theorem dX12_anewOf_5 : decode cX12_anewOf 5 = .ok (.aload_n 0, 1) := by decide +kernel
theorem dX12_anewOf_6 : decode cX12_anewOf 6 = .ok (.getfield 249, 3) := by decide +kernel
theorem dX12_anewOf_9 : decode cX12_anewOf 9 = .ok (.if_icmp .ge 74, 3) := by decide +kernel
theorem dX12_anewOf_12 : decode cX12_anewOf 12 = .ok (.aload_n 0, 1) := by decide +kernel
theorem dX12_anewOf_13 : decode cX12_anewOf 13 = .ok (.iload_n 2, 1) := by decide +kernel
theorem dX12_anewOf_14 : decode cX12_anewOf 14 = .ok (.invokevirtual 267, 3) := by decide +kernel
theorem dX12_anewOf_17 : decode cX12_anewOf 17 = .ok (.istore_n 3, 1) := by decide +kernel
theorem dX12_anewOf_18 : decode cX12_anewOf 18 = .ok (.iconst 0, 1) := by decide +kernel
theorem dX12_anewOf_19 : decode cX12_anewOf 19 = .ok (.istore 4, 2) := by decide +kernel
theorem dX12_anewOf_21 : decode cX12_anewOf 21 = .ok (.iload 4, 2) := by decide +kernel
theorem dX12_anewOf_23 : decode cX12_anewOf 23 = .ok (.bipush 26, 2) := by decide +kernel
theorem dX12_anewOf_25 : decode cX12_anewOf 25 = .ok (.if_icmp .ge 52, 3) := by decide +kernel
theorem dX12_anewOf_28 : decode cX12_anewOf 28 = .ok (.iload_n 3, 1) := by decide +kernel
theorem dX12_anewOf_29 : decode cX12_anewOf 29 = .ok (.ifCond .lt 48, 3) := by decide +kernel
theorem dX12_anewOf_32 : decode cX12_anewOf 32 = .ok (.iload_n 1, 1) := by decide +kernel
theorem dX12_anewOf_33 : decode cX12_anewOf 33 = .ok (.aload_n 0, 1) := by decide +kernel
theorem dX12_anewOf_34 : decode cX12_anewOf 34 = .ok (.getfield 104, 3) := by decide +kernel
theorem dX12_anewOf_37 : decode cX12_anewOf 37 = .ok (.iload 4, 2) := by decide +kernel
theorem dX12_anewOf_39 : decode cX12_anewOf 39 = .ok (.iaload, 1) := by decide +kernel
theorem dX12_anewOf_40 : decode cX12_anewOf 40 = .ok (.ifCond .lt 28, 3) := by decide +kernel
theorem dX12_anewOf_43 : decode cX12_anewOf 43 = .ok (.aload_n 0, 1) := by decide +kernel
theorem dX12_anewOf_44 : decode cX12_anewOf 44 = .ok (.getfield 7, 3) := by decide +kernel
theorem dX12_anewOf_47 : decode cX12_anewOf 47 = .ok (.bipush 26, 2) := by decide +kernel
theorem dX12_anewOf_49 : decode cX12_anewOf 49 = .ok (.iload_n 3, 1) := by decide +kernel
theorem dX12_anewOf_50 : decode cX12_anewOf 50 = .ok (.imul, 1) := by decide +kernel
theorem dX12_anewOf_51 : decode cX12_anewOf 51 = .ok (.iload 4, 2) := by decide +kernel
theorem dX12_anewOf_53 : decode cX12_anewOf 53 = .ok (.iadd, 1) := by decide +kernel
theorem dX12_anewOf_54 : decode cX12_anewOf 54 = .ok (.iaload, 1) := by decide +kernel
theorem dX12_anewOf_55 : decode cX12_anewOf 55 = .ok (.aload_n 0, 1) := by decide +kernel
theorem dX12_anewOf_56 : decode cX12_anewOf 56 = .ok (.iload 4, 2) := by decide +kernel
theorem dX12_anewOf_58 : decode cX12_anewOf 58 = .ok (.invokevirtual 345, 3) := by decide +kernel
theorem dX12_anewOf_61 : decode cX12_anewOf 61 = .ok (.if_icmp .eq 7, 3) := by decide +kernel
theorem dX12_anewOf_64 : decode cX12_anewOf 64 = .ok (.iconst 1, 1) := by decide +kernel
theorem dX12_anewOf_65 : decode cX12_anewOf 65 = .ok (.goto 4, 3) := by decide +kernel
theorem dX12_anewOf_68 : decode cX12_anewOf 68 = .ok (.iconst 0, 1) := by decide +kernel
theorem dX12_anewOf_69 : decode cX12_anewOf 69 = .ok (.iadd, 1) := by decide +kernel
theorem dX12_anewOf_70 : decode cX12_anewOf 70 = .ok (.istore_n 1, 1) := by decide +kernel
theorem dX12_anewOf_71 : decode cX12_anewOf 71 = .ok (.iinc 4 1, 3) := by decide +kernel
theorem dX12_anewOf_74 : decode cX12_anewOf 74 = .ok (.goto (-53), 3) := by decide +kernel
theorem dX12_anewOf_77 : decode cX12_anewOf 77 = .ok (.iinc 2 1, 3) := by decide +kernel
theorem dX12_anewOf_80 : decode cX12_anewOf 80 = .ok (.goto (-76), 3) := by decide +kernel
theorem dX12_anewOf_83 : decode cX12_anewOf 83 = .ok (.iload_n 1, 1) := by decide +kernel
theorem dX12_anewOf_84 : decode cX12_anewOf 84 = .ok (.ireturn, 1) := by decide +kernel
theorem dX12_anew_0 : decode cX12_anew 0 = .ok (.aload_n 0, 1) := by decide +kernel
theorem dX12_anew_1 : decode cX12_anew 1 = .ok (.iload_n 1, 1) := by decide +kernel
theorem dX12_anew_2 : decode cX12_anew 2 = .ok (.invokevirtual 348, 3) := by decide +kernel
theorem dX12_anew_5 : decode cX12_anew 5 = .ok (.ifCond .ne 6, 3) := by decide +kernel
theorem dX12_anew_8 : decode cX12_anew 8 = .ok (.bipush (-2), 2) := by decide +kernel
theorem dX12_anew_10 : decode cX12_anew 10 = .ok (.ireturn, 1) := by decide +kernel
theorem dX12_anew_11 : decode cX12_anew 11 = .ok (.aload_n 0, 1) := by decide +kernel
theorem dX12_anew_12 : decode cX12_anew 12 = .ok (.invokevirtual 351, 3) := by decide +kernel
theorem dX12_anew_15 : decode cX12_anew 15 = .ok (.ifCond .eq 10, 3) := by decide +kernel
theorem dX12_anew_18 : decode cX12_anew 18 = .ok (.aload_n 0, 1) := by decide +kernel
theorem dX12_anew_19 : decode cX12_anew 19 = .ok (.invokevirtual 355, 3) := by decide +kernel
theorem dX12_anew_22 : decode cX12_anew 22 = .ok (.goto 5, 3) := by decide +kernel
theorem dX12_anew_25 : decode cX12_anew 25 = .ok (.bipush (-5), 2) := by decide +kernel
theorem dX12_anew_27 : decode cX12_anew 27 = .ok (.ireturn, 1) := by decide +kernel
theorem dX12_lettersOf_0 : decode cX12_lettersOf 0 = .ok (.iconst 0, 1) := by decide +kernel
theorem dX12_lettersOf_1 : decode cX12_lettersOf 1 = .ok (.istore_n 2, 1) := by decide +kernel
theorem dX12_lettersOf_2 : decode cX12_lettersOf 2 = .ok (.iconst 0, 1) := by decide +kernel
theorem dX12_lettersOf_3 : decode cX12_lettersOf 3 = .ok (.istore_n 3, 1) := by decide +kernel
theorem dX12_lettersOf_4 : decode cX12_lettersOf 4 = .ok (.iload_n 3, 1) := by decide +kernel
theorem dX12_lettersOf_5 : decode cX12_lettersOf 5 = .ok (.bipush 26, 2) := by decide +kernel
theorem dX12_lettersOf_7 : decode cX12_lettersOf 7 = .ok (.if_icmp .ge 29, 3) := by decide +kernel
theorem dX12_lettersOf_10 : decode cX12_lettersOf 10 = .ok (.iload_n 2, 1) := by decide +kernel
theorem dX12_lettersOf_11 : decode cX12_lettersOf 11 = .ok (.aload_n 0, 1) := by decide +kernel
theorem dX12_lettersOf_12 : decode cX12_lettersOf 12 = .ok (.getfield 104, 3) := by decide +kernel
theorem dX12_lettersOf_15 : decode cX12_lettersOf 15 = .ok (.iload_n 3, 1) := by decide +kernel
theorem dX12_lettersOf_16 : decode cX12_lettersOf 16 = .ok (.iaload, 1) := by decide +kernel
theorem dX12_lettersOf_17 : decode cX12_lettersOf 17 = .ok (.iload_n 1, 1) := by decide +kernel
theorem dX12_lettersOf_18 : decode cX12_lettersOf 18 = .ok (.if_icmp .ne 9, 3) := by decide +kernel
theorem dX12_lettersOf_21 : decode cX12_lettersOf 21 = .ok (.iconst 1, 1) := by decide +kernel
theorem dX12_lettersOf_22 : decode cX12_lettersOf 22 = .ok (.iload_n 3, 1) := by decide +kernel
theorem dX12_lettersOf_23 : decode cX12_lettersOf 23 = .ok (.ishl, 1) := by decide +kernel
theorem dX12_lettersOf_24 : decode cX12_lettersOf 24 = .ok (.goto 4, 3) := by decide +kernel
theorem dX12_lettersOf_27 : decode cX12_lettersOf 27 = .ok (.iconst 0, 1) := by decide +kernel
theorem dX12_lettersOf_28 : decode cX12_lettersOf 28 = .ok (.ior, 1) := by decide +kernel
theorem dX12_lettersOf_29 : decode cX12_lettersOf 29 = .ok (.istore_n 2, 1) := by decide +kernel
theorem dX12_lettersOf_30 : decode cX12_lettersOf 30 = .ok (.iinc 3 1, 3) := by decide +kernel
theorem dX12_lettersOf_33 : decode cX12_lettersOf 33 = .ok (.goto (-29), 3) := by decide +kernel
theorem dX12_lettersOf_36 : decode cX12_lettersOf 36 = .ok (.iload_n 2, 1) := by decide +kernel
theorem dX12_lettersOf_37 : decode cX12_lettersOf 37 = .ok (.ireturn, 1) := by decide +kernel
theorem dX12_layAnew_0 : decode cX12_layAnew 0 = .ok (.iconst 0, 1) := by decide +kernel
theorem dX12_layAnew_1 : decode cX12_layAnew 1 = .ok (.istore_n 1, 1) := by decide +kernel
theorem dX12_layAnew_2 : decode cX12_layAnew 2 = .ok (.iload_n 1, 1) := by decide +kernel
theorem dX12_layAnew_3 : decode cX12_layAnew 3 = .ok (.bipush 7, 2) := by decide +kernel
theorem dX12_layAnew_5 : decode cX12_layAnew 5 = .ok (.if_icmp .ge 129, 3) := by decide +kernel
theorem dX12_layAnew_8 : decode cX12_layAnew 8 = .ok (.iconst 0, 1) := by decide +kernel
theorem dX12_layAnew_9 : decode cX12_layAnew 9 = .ok (.istore_n 2, 1) := by decide +kernel
theorem dX12_layAnew_10 : decode cX12_layAnew 10 = .ok (.iload_n 2, 1) := by decide +kernel
theorem dX12_layAnew_11 : decode cX12_layAnew 11 = .ok (.iconst 5, 1) := by decide +kernel
theorem dX12_layAnew_12 : decode cX12_layAnew 12 = .ok (.if_icmp .ge 116, 3) := by decide +kernel
theorem dX12_layAnew_15 : decode cX12_layAnew 15 = .ok (.iconst 0, 1) := by decide +kernel
theorem dX12_layAnew_16 : decode cX12_layAnew 16 = .ok (.istore_n 3, 1) := by decide +kernel
theorem dX12_layAnew_17 : decode cX12_layAnew 17 = .ok (.iconst 0, 1) := by decide +kernel
theorem dX12_layAnew_18 : decode cX12_layAnew 18 = .ok (.istore 4, 2) := by decide +kernel
theorem dX12_layAnew_20 : decode cX12_layAnew 20 = .ok (.iload 4, 2) := by decide +kernel
theorem dX12_layAnew_22 : decode cX12_layAnew 22 = .ok (.aload_n 0, 1) := by decide +kernel
theorem dX12_layAnew_23 : decode cX12_layAnew 23 = .ok (.getfield 249, 3) := by decide +kernel
theorem dX12_layAnew_26 : decode cX12_layAnew 26 = .ok (.if_icmp .ge 85, 3) := by decide +kernel
theorem dX12_layAnew_29 : decode cX12_layAnew 29 = .ok (.aload_n 0, 1) := by decide +kernel
theorem dX12_layAnew_30 : decode cX12_layAnew 30 = .ok (.iload 4, 2) := by decide +kernel
theorem dX12_layAnew_32 : decode cX12_layAnew 32 = .ok (.invokevirtual 267, 3) := by decide +kernel
theorem dX12_layAnew_35 : decode cX12_layAnew 35 = .ok (.istore 5, 2) := by decide +kernel
theorem dX12_layAnew_37 : decode cX12_layAnew 37 = .ok (.iconst 0, 1) := by decide +kernel
theorem dX12_layAnew_38 : decode cX12_layAnew 38 = .ok (.istore 6, 2) := by decide +kernel
theorem dX12_layAnew_40 : decode cX12_layAnew 40 = .ok (.iload 6, 2) := by decide +kernel
theorem dX12_layAnew_42 : decode cX12_layAnew 42 = .ok (.bipush 26, 2) := by decide +kernel
theorem dX12_layAnew_44 : decode cX12_layAnew 44 = .ok (.if_icmp .ge 61, 3) := by decide +kernel
theorem dX12_layAnew_47 : decode cX12_layAnew 47 = .ok (.iload 5, 2) := by decide +kernel
theorem dX12_layAnew_49 : decode cX12_layAnew 49 = .ok (.ifCond .lt 56, 3) := by decide +kernel
theorem dX12_layAnew_52 : decode cX12_layAnew 52 = .ok (.iload_n 3, 1) := by decide +kernel
theorem dX12_layAnew_53 : decode cX12_layAnew 53 = .ok (.aload_n 0, 1) := by decide +kernel
theorem dX12_layAnew_54 : decode cX12_layAnew 54 = .ok (.getfield 104, 3) := by decide +kernel
theorem dX12_layAnew_57 : decode cX12_layAnew 57 = .ok (.iload 6, 2) := by decide +kernel
theorem dX12_layAnew_59 : decode cX12_layAnew 59 = .ok (.iaload, 1) := by decide +kernel
theorem dX12_layAnew_60 : decode cX12_layAnew 60 = .ok (.iload_n 1, 1) := by decide +kernel
theorem dX12_layAnew_61 : decode cX12_layAnew 61 = .ok (.if_icmp .ne 35, 3) := by decide +kernel
theorem dX12_layAnew_64 : decode cX12_layAnew 64 = .ok (.aload_n 0, 1) := by decide +kernel
theorem dX12_layAnew_65 : decode cX12_layAnew 65 = .ok (.getfield 7, 3) := by decide +kernel
theorem dX12_layAnew_68 : decode cX12_layAnew 68 = .ok (.bipush 26, 2) := by decide +kernel
theorem dX12_layAnew_70 : decode cX12_layAnew 70 = .ok (.iload 5, 2) := by decide +kernel
theorem dX12_layAnew_72 : decode cX12_layAnew 72 = .ok (.imul, 1) := by decide +kernel
theorem dX12_layAnew_73 : decode cX12_layAnew 73 = .ok (.iload 6, 2) := by decide +kernel
theorem dX12_layAnew_75 : decode cX12_layAnew 75 = .ok (.iadd, 1) := by decide +kernel
theorem dX12_layAnew_76 : decode cX12_layAnew 76 = .ok (.iaload, 1) := by decide +kernel
theorem dX12_layAnew_77 : decode cX12_layAnew 77 = .ok (.aload_n 0, 1) := by decide +kernel
theorem dX12_layAnew_78 : decode cX12_layAnew 78 = .ok (.getfield 7, 3) := by decide +kernel
theorem dX12_layAnew_81 : decode cX12_layAnew 81 = .ok (.bipush 26, 2) := by decide +kernel
theorem dX12_layAnew_83 : decode cX12_layAnew 83 = .ok (.iload_n 2, 1) := by decide +kernel
theorem dX12_layAnew_84 : decode cX12_layAnew 84 = .ok (.imul, 1) := by decide +kernel
theorem dX12_layAnew_85 : decode cX12_layAnew 85 = .ok (.iload 6, 2) := by decide +kernel
theorem dX12_layAnew_87 : decode cX12_layAnew 87 = .ok (.iadd, 1) := by decide +kernel
theorem dX12_layAnew_88 : decode cX12_layAnew 88 = .ok (.iaload, 1) := by decide +kernel
theorem dX12_layAnew_89 : decode cX12_layAnew 89 = .ok (.if_icmp .eq 7, 3) := by decide +kernel
theorem dX12_layAnew_92 : decode cX12_layAnew 92 = .ok (.iconst 1, 1) := by decide +kernel
theorem dX12_layAnew_93 : decode cX12_layAnew 93 = .ok (.goto 4, 3) := by decide +kernel
theorem dX12_layAnew_96 : decode cX12_layAnew 96 = .ok (.iconst 0, 1) := by decide +kernel
theorem dX12_layAnew_97 : decode cX12_layAnew 97 = .ok (.iadd, 1) := by decide +kernel
theorem dX12_layAnew_98 : decode cX12_layAnew 98 = .ok (.istore_n 3, 1) := by decide +kernel
theorem dX12_layAnew_99 : decode cX12_layAnew 99 = .ok (.iinc 6 1, 3) := by decide +kernel
theorem dX12_layAnew_102 : decode cX12_layAnew 102 = .ok (.goto (-62), 3) := by decide +kernel
theorem dX12_layAnew_105 : decode cX12_layAnew 105 = .ok (.iinc 4 1, 3) := by decide +kernel
theorem dX12_layAnew_108 : decode cX12_layAnew 108 = .ok (.goto (-88), 3) := by decide +kernel
theorem dX12_layAnew_111 : decode cX12_layAnew 111 = .ok (.aload_n 0, 1) := by decide +kernel
theorem dX12_layAnew_112 : decode cX12_layAnew 112 = .ok (.getfield 110, 3) := by decide +kernel
theorem dX12_layAnew_115 : decode cX12_layAnew 115 = .ok (.iconst 5, 1) := by decide +kernel
theorem dX12_layAnew_116 : decode cX12_layAnew 116 = .ok (.iload_n 1, 1) := by decide +kernel
theorem dX12_layAnew_117 : decode cX12_layAnew 117 = .ok (.imul, 1) := by decide +kernel
theorem dX12_layAnew_118 : decode cX12_layAnew 118 = .ok (.iload_n 2, 1) := by decide +kernel
theorem dX12_layAnew_119 : decode cX12_layAnew 119 = .ok (.iadd, 1) := by decide +kernel
theorem dX12_layAnew_120 : decode cX12_layAnew 120 = .ok (.iload_n 3, 1) := by decide +kernel
theorem dX12_layAnew_121 : decode cX12_layAnew 121 = .ok (.iastore, 1) := by decide +kernel
theorem dX12_layAnew_122 : decode cX12_layAnew 122 = .ok (.iinc 2 1, 3) := by decide +kernel
theorem dX12_layAnew_125 : decode cX12_layAnew 125 = .ok (.goto (-115), 3) := by decide +kernel
theorem dX12_layAnew_128 : decode cX12_layAnew 128 = .ok (.iinc 1 1, 3) := by decide +kernel
theorem dX12_layAnew_131 : decode cX12_layAnew 131 = .ok (.goto (-129), 3) := by decide +kernel
theorem dX12_layAnew_134 : decode cX12_layAnew 134 = .ok (.return_, 1) := by decide +kernel
theorem dX12_best_0 : decode cX12_best 0 = .ok (.aload_n 0, 1) := by decide +kernel
theorem dX12_best_1 : decode cX12_best 1 = .ok (.invokevirtual 358, 3) := by decide +kernel
theorem dX12_best_4 : decode cX12_best 4 = .ok (.bipush (-5), 2) := by decide +kernel
theorem dX12_best_6 : decode cX12_best 6 = .ok (.istore_n 1, 1) := by decide +kernel
theorem dX12_best_7 : decode cX12_best 7 = .ok (.ldc 167, 2) := by decide +kernel
theorem dX12_best_9 : decode cX12_best 9 = .ok (.istore_n 2, 1) := by decide +kernel
theorem dX12_best_10 : decode cX12_best 10 = .ok (.iconst 0, 1) := by decide +kernel
theorem dX12_best_11 : decode cX12_best 11 = .ok (.istore_n 3, 1) := by decide +kernel
theorem dX12_best_12 : decode cX12_best 12 = .ok (.iload_n 3, 1) := by decide +kernel
theorem dX12_best_13 : decode cX12_best 13 = .ok (.ldc_w 361, 3) := by decide +kernel
theorem dX12_best_16 : decode cX12_best 16 = .ok (.if_icmp .ge 155, 3) := by decide +kernel
theorem dX12_best_19 : decode cX12_best 19 = .ok (.iload_n 3, 1) := by decide +kernel
theorem dX12_best_20 : decode cX12_best 20 = .ok (.istore 4, 2) := by decide +kernel
theorem dX12_best_22 : decode cX12_best 22 = .ok (.iconst 0, 1) := by decide +kernel
theorem dX12_best_23 : decode cX12_best 23 = .ok (.istore 5, 2) := by decide +kernel
theorem dX12_best_25 : decode cX12_best 25 = .ok (.iconst 1, 1) := by decide +kernel
theorem dX12_best_26 : decode cX12_best 26 = .ok (.istore 6, 2) := by decide +kernel
theorem dX12_best_28 : decode cX12_best 28 = .ok (.iconst 0, 1) := by decide +kernel
theorem dX12_best_29 : decode cX12_best 29 = .ok (.istore 7, 2) := by decide +kernel
theorem dX12_best_31 : decode cX12_best 31 = .ok (.iconst 1, 1) := by decide +kernel
theorem dX12_best_32 : decode cX12_best 32 = .ok (.istore 8, 2) := by decide +kernel
theorem dX12_best_34 : decode cX12_best 34 = .ok (.bipush 6, 2) := by decide +kernel
theorem dX12_best_36 : decode cX12_best 36 = .ok (.istore 9, 2) := by decide +kernel
theorem dX12_best_38 : decode cX12_best 38 = .ok (.iload 9, 2) := by decide +kernel
theorem dX12_best_40 : decode cX12_best 40 = .ok (.ifCond .lt 101, 3) := by decide +kernel
theorem dX12_best_43 : decode cX12_best 43 = .ok (.aload_n 0, 1) := by decide +kernel
theorem dX12_best_44 : decode cX12_best 44 = .ok (.getfield 107, 3) := by decide +kernel
theorem dX12_best_47 : decode cX12_best 47 = .ok (.iload 9, 2) := by decide +kernel
theorem dX12_best_49 : decode cX12_best 49 = .ok (.iload 4, 2) := by decide +kernel
theorem dX12_best_51 : decode cX12_best 51 = .ok (.iconst 5, 1) := by decide +kernel
theorem dX12_best_52 : decode cX12_best 52 = .ok (.irem, 1) := by decide +kernel
theorem dX12_best_53 : decode cX12_best 53 = .ok (.iastore, 1) := by decide +kernel
theorem dX12_best_54 : decode cX12_best 54 = .ok (.iload 8, 2) := by decide +kernel
theorem dX12_best_56 : decode cX12_best 56 = .ok (.ifCond .eq 26, 3) := by decide +kernel
theorem dX12_best_59 : decode cX12_best 59 = .ok (.aload_n 0, 1) := by decide +kernel
theorem dX12_best_60 : decode cX12_best 60 = .ok (.getfield 107, 3) := by decide +kernel
theorem dX12_best_63 : decode cX12_best 63 = .ok (.iload 9, 2) := by decide +kernel
theorem dX12_best_65 : decode cX12_best 65 = .ok (.iaload, 1) := by decide +kernel
theorem dX12_best_66 : decode cX12_best 66 = .ok (.ifCond .eq 12, 3) := by decide +kernel
theorem dX12_best_69 : decode cX12_best 69 = .ok (.aload_n 0, 1) := by decide +kernel
theorem dX12_best_70 : decode cX12_best 70 = .ok (.iload 9, 2) := by decide +kernel
theorem dX12_best_72 : decode cX12_best 72 = .ok (.invokevirtual 362, 3) := by decide +kernel
theorem dX12_best_75 : decode cX12_best 75 = .ok (.ifCond .eq 7, 3) := by decide +kernel
theorem dX12_best_78 : decode cX12_best 78 = .ok (.iconst 1, 1) := by decide +kernel
theorem dX12_best_79 : decode cX12_best 79 = .ok (.goto 4, 3) := by decide +kernel
theorem dX12_best_82 : decode cX12_best 82 = .ok (.iconst 0, 1) := by decide +kernel
theorem dX12_best_83 : decode cX12_best 83 = .ok (.istore 8, 2) := by decide +kernel
theorem dX12_best_85 : decode cX12_best 85 = .ok (.iload 7, 2) := by decide +kernel
theorem dX12_best_87 : decode cX12_best 87 = .ok (.aload_n 0, 1) := by decide +kernel
theorem dX12_best_88 : decode cX12_best 88 = .ok (.getfield 110, 3) := by decide +kernel
theorem dX12_best_91 : decode cX12_best 91 = .ok (.iconst 5, 1) := by decide +kernel
theorem dX12_best_92 : decode cX12_best 92 = .ok (.iload 9, 2) := by decide +kernel
theorem dX12_best_94 : decode cX12_best 94 = .ok (.imul, 1) := by decide +kernel
theorem dX12_best_95 : decode cX12_best 95 = .ok (.aload_n 0, 1) := by decide +kernel
theorem dX12_best_96 : decode cX12_best 96 = .ok (.getfield 107, 3) := by decide +kernel
theorem dX12_best_99 : decode cX12_best 99 = .ok (.iload 9, 2) := by decide +kernel
theorem dX12_best_101 : decode cX12_best 101 = .ok (.iaload, 1) := by decide +kernel
theorem dX12_best_102 : decode cX12_best 102 = .ok (.iadd, 1) := by decide +kernel
theorem dX12_best_103 : decode cX12_best 103 = .ok (.iaload, 1) := by decide +kernel
theorem dX12_best_104 : decode cX12_best 104 = .ok (.iadd, 1) := by decide +kernel
theorem dX12_best_105 : decode cX12_best 105 = .ok (.istore 7, 2) := by decide +kernel
theorem dX12_best_107 : decode cX12_best 107 = .ok (.iload 5, 2) := by decide +kernel
theorem dX12_best_109 : decode cX12_best 109 = .ok (.iload 6, 2) := by decide +kernel
theorem dX12_best_111 : decode cX12_best 111 = .ok (.aload_n 0, 1) := by decide +kernel
theorem dX12_best_112 : decode cX12_best 112 = .ok (.getfield 107, 3) := by decide +kernel
theorem dX12_best_115 : decode cX12_best 115 = .ok (.iload 9, 2) := by decide +kernel
theorem dX12_best_117 : decode cX12_best 117 = .ok (.iaload, 1) := by decide +kernel
theorem dX12_best_118 : decode cX12_best 118 = .ok (.imul, 1) := by decide +kernel
theorem dX12_best_119 : decode cX12_best 119 = .ok (.iadd, 1) := by decide +kernel
theorem dX12_best_120 : decode cX12_best 120 = .ok (.istore 5, 2) := by decide +kernel
theorem dX12_best_122 : decode cX12_best 122 = .ok (.iload 6, 2) := by decide +kernel
theorem dX12_best_124 : decode cX12_best 124 = .ok (.bipush 10, 2) := by decide +kernel
theorem dX12_best_126 : decode cX12_best 126 = .ok (.imul, 1) := by decide +kernel
theorem dX12_best_127 : decode cX12_best 127 = .ok (.istore 6, 2) := by decide +kernel
theorem dX12_best_129 : decode cX12_best 129 = .ok (.iload 4, 2) := by decide +kernel
theorem dX12_best_131 : decode cX12_best 131 = .ok (.iconst 5, 1) := by decide +kernel
theorem dX12_best_132 : decode cX12_best 132 = .ok (.idiv, 1) := by decide +kernel
theorem dX12_best_133 : decode cX12_best 133 = .ok (.istore 4, 2) := by decide +kernel
theorem dX12_best_135 : decode cX12_best 135 = .ok (.iinc 9 (-1), 3) := by decide +kernel
theorem dX12_best_138 : decode cX12_best 138 = .ok (.goto (-100), 3) := by decide +kernel
theorem dX12_best_141 : decode cX12_best 141 = .ok (.iload 8, 2) := by decide +kernel
theorem dX12_best_143 : decode cX12_best 143 = .ok (.ifCond .eq 22, 3) := by decide +kernel
theorem dX12_best_146 : decode cX12_best 146 = .ok (.iload 7, 2) := by decide +kernel
theorem dX12_best_148 : decode cX12_best 148 = .ok (.iload_n 2, 1) := by decide +kernel
theorem dX12_best_149 : decode cX12_best 149 = .ok (.if_icmp .ge 16, 3) := by decide +kernel
theorem dX12_best_152 : decode cX12_best 152 = .ok (.aload_n 0, 1) := by decide +kernel
theorem dX12_best_153 : decode cX12_best 153 = .ok (.invokevirtual 351, 3) := by decide +kernel
theorem dX12_best_156 : decode cX12_best 156 = .ok (.ifCond .eq 9, 3) := by decide +kernel
theorem dX12_best_159 : decode cX12_best 159 = .ok (.iload 7, 2) := by decide +kernel
theorem dX12_best_161 : decode cX12_best 161 = .ok (.istore_n 2, 1) := by decide +kernel
theorem dX12_best_162 : decode cX12_best 162 = .ok (.iload 5, 2) := by decide +kernel
theorem dX12_best_164 : decode cX12_best 164 = .ok (.istore_n 1, 1) := by decide +kernel
theorem dX12_best_165 : decode cX12_best 165 = .ok (.iinc 3 1, 3) := by decide +kernel
theorem dX12_best_168 : decode cX12_best 168 = .ok (.goto (-156), 3) := by decide +kernel
theorem dX12_best_171 : decode cX12_best 171 = .ok (.iload_n 1, 1) := by decide +kernel
theorem dX12_best_172 : decode cX12_best 172 = .ok (.ireturn, 1) := by decide +kernel
theorem dX12_told_0 : decode cX12_told 0 = .ok (.iload_n 1, 1) := by decide +kernel
theorem dX12_told_1 : decode cX12_told 1 = .ok (.i2l, 1) := by decide +kernel
theorem dX12_told_2 : decode cX12_told 2 = .ok (.ldc2_w 273, 3) := by decide +kernel
theorem dX12_told_5 : decode cX12_told 5 = .ok (.ldc2_w 275, 3) := by decide +kernel
theorem dX12_told_8 : decode cX12_told 8 = .ok (.invokestatic 115, 3) := by decide +kernel
theorem dX12_told_11 : decode cX12_told 11 = .ok (.ifCond .eq 13, 3) := by decide +kernel
theorem dX12_told_14 : decode cX12_told 14 = .ok (.aload_n 0, 1) := by decide +kernel
theorem dX12_told_15 : decode cX12_told 15 = .ok (.getfield 25, 3) := by decide +kernel
theorem dX12_told_18 : decode cX12_told 18 = .ok (.iload_n 1, 1) := by decide +kernel
theorem dX12_told_19 : decode cX12_told 19 = .ok (.bipush 10, 2) := by decide +kernel
theorem dX12_told_21 : decode cX12_told 21 = .ok (.isub, 1) := by decide +kernel
theorem dX12_told_22 : decode cX12_told 22 = .ok (.iaload, 1) := by decide +kernel
theorem dX12_told_23 : decode cX12_told 23 = .ok (.ireturn, 1) := by decide +kernel
theorem dX12_told_24 : decode cX12_told 24 = .ok (.iconst 0, 1) := by decide +kernel
theorem dX12_told_25 : decode cX12_told 25 = .ok (.istore_n 2, 1) := by decide +kernel
theorem dX12_told_26 : decode cX12_told 26 = .ok (.iload_n 1, 1) := by decide +kernel
theorem dX12_told_27 : decode cX12_told 27 = .ok (.i2l, 1) := by decide +kernel
theorem dX12_told_28 : decode cX12_told 28 = .ok (.ldc2_w 365, 3) := by decide +kernel
theorem dX12_told_31 : decode cX12_told 31 = .ok (.ldc2_w 367, 3) := by decide +kernel
theorem dX12_told_34 : decode cX12_told 34 = .ok (.invokestatic 115, 3) := by decide +kernel
theorem dX12_told_37 : decode cX12_told 37 = .ok (.ifCond .eq 44, 3) := by decide +kernel
theorem dX12_told_40 : decode cX12_told 40 = .ok (.iconst 0, 1) := by decide +kernel
theorem dX12_told_41 : decode cX12_told 41 = .ok (.istore_n 3, 1) := by decide +kernel
theorem dX12_told_42 : decode cX12_told 42 = .ok (.iload_n 3, 1) := by decide +kernel
theorem dX12_told_43 : decode cX12_told 43 = .ok (.bipush 26, 2) := by decide +kernel
theorem dX12_told_45 : decode cX12_told 45 = .ok (.if_icmp .ge 34, 3) := by decide +kernel
theorem dX12_told_48 : decode cX12_told 48 = .ok (.iload_n 2, 1) := by decide +kernel
theorem dX12_told_49 : decode cX12_told 49 = .ok (.aload_n 0, 1) := by decide +kernel
theorem dX12_told_50 : decode cX12_told 50 = .ok (.getfield 7, 3) := by decide +kernel
theorem dX12_told_53 : decode cX12_told 53 = .ok (.bipush 26, 2) := by decide +kernel
theorem dX12_told_55 : decode cX12_told 55 = .ok (.iload_n 1, 1) := by decide +kernel
theorem dX12_told_56 : decode cX12_told 56 = .ok (.bipush 20, 2) := by decide +kernel
theorem dX12_told_58 : decode cX12_told 58 = .ok (.isub, 1) := by decide +kernel
theorem dX12_told_59 : decode cX12_told 59 = .ok (.imul, 1) := by decide +kernel
theorem dX12_told_60 : decode cX12_told 60 = .ok (.iload_n 3, 1) := by decide +kernel
theorem dX12_told_61 : decode cX12_told 61 = .ok (.iadd, 1) := by decide +kernel
theorem dX12_told_62 : decode cX12_told 62 = .ok (.iaload, 1) := by decide +kernel
theorem dX12_told_63 : decode cX12_told 63 = .ok (.ifCond .le 7, 3) := by decide +kernel
theorem dX12_told_66 : decode cX12_told 66 = .ok (.iconst 1, 1) := by decide +kernel
theorem dX12_told_67 : decode cX12_told 67 = .ok (.goto 4, 3) := by decide +kernel
theorem dX12_told_70 : decode cX12_told 70 = .ok (.iconst 0, 1) := by decide +kernel
theorem dX12_told_71 : decode cX12_told 71 = .ok (.iadd, 1) := by decide +kernel
theorem dX12_told_72 : decode cX12_told 72 = .ok (.istore_n 2, 1) := by decide +kernel
theorem dX12_told_73 : decode cX12_told 73 = .ok (.iinc 3 1, 3) := by decide +kernel
theorem dX12_told_76 : decode cX12_told 76 = .ok (.goto (-34), 3) := by decide +kernel
theorem dX12_told_79 : decode cX12_told 79 = .ok (.iload_n 2, 1) := by decide +kernel
theorem dX12_told_80 : decode cX12_told 80 = .ok (.ireturn, 1) := by decide +kernel
theorem dX12_told_81 : decode cX12_told 81 = .ok (.iconst 0, 1) := by decide +kernel
theorem dX12_told_82 : decode cX12_told 82 = .ok (.istore_n 3, 1) := by decide +kernel
theorem dX12_told_83 : decode cX12_told 83 = .ok (.iload_n 3, 1) := by decide +kernel
theorem dX12_told_84 : decode cX12_told 84 = .ok (.sipush 240, 3) := by decide +kernel
theorem dX12_told_87 : decode cX12_told 87 = .ok (.if_icmp .ge 18, 3) := by decide +kernel
theorem dX12_told_90 : decode cX12_told 90 = .ok (.iload_n 2, 1) := by decide +kernel
theorem dX12_told_91 : decode cX12_told 91 = .ok (.aload_n 0, 1) := by decide +kernel
theorem dX12_told_92 : decode cX12_told 92 = .ok (.getfield 86, 3) := by decide +kernel
theorem dX12_told_95 : decode cX12_told 95 = .ok (.iload_n 3, 1) := by decide +kernel
theorem dX12_told_96 : decode cX12_told 96 = .ok (.iaload, 1) := by decide +kernel
theorem dX12_told_97 : decode cX12_told 97 = .ok (.iadd, 1) := by decide +kernel
theorem dX12_told_98 : decode cX12_told 98 = .ok (.istore_n 2, 1) := by decide +kernel
theorem dX12_told_99 : decode cX12_told 99 = .ok (.iinc 3 1, 3) := by decide +kernel
theorem dX12_told_102 : decode cX12_told 102 = .ok (.goto (-19), 3) := by decide +kernel
theorem dX12_told_105 : decode cX12_told 105 = .ok (.iload_n 1, 1) := by decide +kernel
theorem dX12_told_106 : decode cX12_told 106 = .ok (.tableswitch 74 0 6 #[42, 47, 52, 57, 62, 67, 72], 42) := by decide +kernel
theorem dX12_told_148 : decode cX12_told 148 = .ok (.aload_n 0, 1) := by decide +kernel
theorem dX12_told_149 : decode cX12_told 149 = .ok (.getfield 130, 3) := by decide +kernel
theorem dX12_told_152 : decode cX12_told 152 = .ok (.ireturn, 1) := by decide +kernel
theorem dX12_told_153 : decode cX12_told 153 = .ok (.aload_n 0, 1) := by decide +kernel
theorem dX12_told_154 : decode cX12_told 154 = .ok (.getfield 134, 3) := by decide +kernel
theorem dX12_told_157 : decode cX12_told 157 = .ok (.ireturn, 1) := by decide +kernel
theorem dX12_told_158 : decode cX12_told 158 = .ok (.aload_n 0, 1) := by decide +kernel
theorem dX12_told_159 : decode cX12_told 159 = .ok (.getfield 137, 3) := by decide +kernel
theorem dX12_told_162 : decode cX12_told 162 = .ok (.ireturn, 1) := by decide +kernel
theorem dX12_told_163 : decode cX12_told 163 = .ok (.aload_n 0, 1) := by decide +kernel
theorem dX12_told_164 : decode cX12_told 164 = .ok (.getfield 213, 3) := by decide +kernel
theorem dX12_told_167 : decode cX12_told 167 = .ok (.ireturn, 1) := by decide +kernel
theorem dX12_told_168 : decode cX12_told 168 = .ok (.aload_n 0, 1) := by decide +kernel
theorem dX12_told_169 : decode cX12_told 169 = .ok (.getfield 235, 3) := by decide +kernel
theorem dX12_told_172 : decode cX12_told 172 = .ok (.ireturn, 1) := by decide +kernel
theorem dX12_told_173 : decode cX12_told 173 = .ok (.aload_n 0, 1) := by decide +kernel
theorem dX12_told_174 : decode cX12_told 174 = .ok (.getfield 249, 3) := by decide +kernel
theorem dX12_told_177 : decode cX12_told 177 = .ok (.ireturn, 1) := by decide +kernel
theorem dX12_told_178 : decode cX12_told 178 = .ok (.iload_n 2, 1) := by decide +kernel
theorem dX12_told_179 : decode cX12_told 179 = .ok (.ireturn, 1) := by decide +kernel
theorem dX12_told_180 : decode cX12_told 180 = .ok (.bipush (-2), 2) := by decide +kernel
theorem dX12_told_182 : decode cX12_told 182 = .ok (.ireturn, 1) := by decide +kernel
