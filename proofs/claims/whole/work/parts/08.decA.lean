/-! how the bytes of each method read -/
theorem dX11_init_0 : decode cX11_init 0 = .ok (.aload_n 0, 1) := by decide +kernel
theorem dX11_init_1 : decode cX11_init 1 = .ok (.invokespecial 1, 3) := by decide +kernel
theorem dX11_init_4 : decode cX11_init 4 = .ok (.aload_n 0, 1) := by decide +kernel
theorem dX11_init_5 : decode cX11_init 5 = .ok (.iconst 4, 1) := by decide +kernel
theorem dX11_init_6 : decode cX11_init 6 = .ok (.newarray .int, 2) := by decide +kernel
theorem dX11_init_8 : decode cX11_init 8 = .ok (.putfield 7, 3) := by decide +kernel
theorem dX11_init_11 : decode cX11_init 11 = .ok (.aload_n 0, 1) := by decide +kernel
theorem dX11_init_12 : decode cX11_init 12 = .ok (.bipush 12, 2) := by decide +kernel
theorem dX11_init_14 : decode cX11_init 14 = .ok (.newarray .int, 2) := by decide +kernel
theorem dX11_init_16 : decode cX11_init 16 = .ok (.putfield 13, 3) := by decide +kernel
theorem dX11_init_19 : decode cX11_init 19 = .ok (.aload_n 0, 1) := by decide +kernel
theorem dX11_init_20 : decode cX11_init 20 = .ok (.sipush 480, 3) := by decide +kernel
theorem dX11_init_23 : decode cX11_init 23 = .ok (.newarray .int, 2) := by decide +kernel
theorem dX11_init_25 : decode cX11_init 25 = .ok (.putfield 16, 3) := by decide +kernel
theorem dX11_init_28 : decode cX11_init 28 = .ok (.aload_n 0, 1) := by decide +kernel
theorem dX11_init_29 : decode cX11_init 29 = .ok (.sipush 480, 3) := by decide +kernel
theorem dX11_init_32 : decode cX11_init 32 = .ok (.newarray .int, 2) := by decide +kernel
theorem dX11_init_34 : decode cX11_init 34 = .ok (.putfield 19, 3) := by decide +kernel
theorem dX11_init_37 : decode cX11_init 37 = .ok (.aload_n 0, 1) := by decide +kernel
theorem dX11_init_38 : decode cX11_init 38 = .ok (.sipush 480, 3) := by decide +kernel
theorem dX11_init_41 : decode cX11_init 41 = .ok (.newarray .int, 2) := by decide +kernel
theorem dX11_init_43 : decode cX11_init 43 = .ok (.putfield 22, 3) := by decide +kernel
theorem dX11_init_46 : decode cX11_init 46 = .ok (.aload_n 0, 1) := by decide +kernel
theorem dX11_init_47 : decode cX11_init 47 = .ok (.iconst 4, 1) := by decide +kernel
theorem dX11_init_48 : decode cX11_init 48 = .ok (.newarray .int, 2) := by decide +kernel
theorem dX11_init_50 : decode cX11_init 50 = .ok (.putfield 25, 3) := by decide +kernel
theorem dX11_init_53 : decode cX11_init 53 = .ok (.aload_n 0, 1) := by decide +kernel
theorem dX11_init_54 : decode cX11_init 54 = .ok (.bipush 120, 2) := by decide +kernel
theorem dX11_init_56 : decode cX11_init 56 = .ok (.newarray .int, 2) := by decide +kernel
theorem dX11_init_58 : decode cX11_init 58 = .ok (.putfield 28, 3) := by decide +kernel
theorem dX11_init_61 : decode cX11_init 61 = .ok (.aload_n 0, 1) := by decide +kernel
theorem dX11_init_62 : decode cX11_init 62 = .ok (.iconst 4, 1) := by decide +kernel
theorem dX11_init_63 : decode cX11_init 63 = .ok (.newarray .int, 2) := by decide +kernel
theorem dX11_init_65 : decode cX11_init 65 = .ok (.putfield 31, 3) := by decide +kernel
theorem dX11_init_68 : decode cX11_init 68 = .ok (.aload_n 0, 1) := by decide +kernel
theorem dX11_init_69 : decode cX11_init 69 = .ok (.sipush 160, 3) := by decide +kernel
theorem dX11_init_72 : decode cX11_init 72 = .ok (.newarray .int, 2) := by decide +kernel
theorem dX11_init_74 : decode cX11_init 74 = .ok (.putfield 34, 3) := by decide +kernel
theorem dX11_init_77 : decode cX11_init 77 = .ok (.aload_n 0, 1) := by decide +kernel
theorem dX11_init_78 : decode cX11_init 78 = .ok (.sipush 160, 3) := by decide +kernel
theorem dX11_init_81 : decode cX11_init 81 = .ok (.newarray .int, 2) := by decide +kernel
theorem dX11_init_83 : decode cX11_init 83 = .ok (.putfield 37, 3) := by decide +kernel
theorem dX11_init_86 : decode cX11_init 86 = .ok (.aload_n 0, 1) := by decide +kernel
theorem dX11_init_87 : decode cX11_init 87 = .ok (.iconst 4, 1) := by decide +kernel
theorem dX11_init_88 : decode cX11_init 88 = .ok (.newarray .int, 2) := by decide +kernel
theorem dX11_init_90 : decode cX11_init 90 = .ok (.putfield 40, 3) := by decide +kernel
theorem dX11_init_93 : decode cX11_init 93 = .ok (.aload_n 0, 1) := by decide +kernel
theorem dX11_init_94 : decode cX11_init 94 = .ok (.sipush 480, 3) := by decide +kernel
theorem dX11_init_97 : decode cX11_init 97 = .ok (.newarray .int, 2) := by decide +kernel
theorem dX11_init_99 : decode cX11_init 99 = .ok (.putfield 43, 3) := by decide +kernel
theorem dX11_init_102 : decode cX11_init 102 = .ok (.aload_n 0, 1) := by decide +kernel
theorem dX11_init_103 : decode cX11_init 103 = .ok (.iconst 4, 1) := by decide +kernel
theorem dX11_init_104 : decode cX11_init 104 = .ok (.newarray .int, 2) := by decide +kernel
theorem dX11_init_106 : decode cX11_init 106 = .ok (.putfield 46, 3) := by decide +kernel
theorem dX11_init_109 : decode cX11_init 109 = .ok (.aload_n 0, 1) := by decide +kernel
theorem dX11_init_110 : decode cX11_init 110 = .ok (.sipush 320, 3) := by decide +kernel
theorem dX11_init_113 : decode cX11_init 113 = .ok (.newarray .int, 2) := by decide +kernel
theorem dX11_init_115 : decode cX11_init 115 = .ok (.putfield 49, 3) := by decide +kernel
theorem dX11_init_118 : decode cX11_init 118 = .ok (.aload_n 0, 1) := by decide +kernel
theorem dX11_init_119 : decode cX11_init 119 = .ok (.iconst 4, 1) := by decide +kernel
theorem dX11_init_120 : decode cX11_init 120 = .ok (.newarray .int, 2) := by decide +kernel
theorem dX11_init_122 : decode cX11_init 122 = .ok (.putfield 52, 3) := by decide +kernel
theorem dX11_init_125 : decode cX11_init 125 = .ok (.aload_n 0, 1) := by decide +kernel
theorem dX11_init_126 : decode cX11_init 126 = .ok (.iconst 4, 1) := by decide +kernel
theorem dX11_init_127 : decode cX11_init 127 = .ok (.newarray .int, 2) := by decide +kernel
theorem dX11_init_129 : decode cX11_init 129 = .ok (.putfield 55, 3) := by decide +kernel
theorem dX11_init_132 : decode cX11_init 132 = .ok (.aload_n 0, 1) := by decide +kernel
theorem dX11_init_133 : decode cX11_init 133 = .ok (.iconst 4, 1) := by decide +kernel
theorem dX11_init_134 : decode cX11_init 134 = .ok (.newarray .int, 2) := by decide +kernel
theorem dX11_init_136 : decode cX11_init 136 = .ok (.putfield 58, 3) := by decide +kernel
theorem dX11_init_139 : decode cX11_init 139 = .ok (.aload_n 0, 1) := by decide +kernel
theorem dX11_init_140 : decode cX11_init 140 = .ok (.iconst 4, 1) := by decide +kernel
theorem dX11_init_141 : decode cX11_init 141 = .ok (.newarray .int, 2) := by decide +kernel
theorem dX11_init_143 : decode cX11_init 143 = .ok (.putfield 61, 3) := by decide +kernel
theorem dX11_init_146 : decode cX11_init 146 = .ok (.aload_n 0, 1) := by decide +kernel
theorem dX11_init_147 : decode cX11_init 147 = .ok (.iconst 4, 1) := by decide +kernel
theorem dX11_init_148 : decode cX11_init 148 = .ok (.newarray .int, 2) := by decide +kernel
theorem dX11_init_150 : decode cX11_init 150 = .ok (.putfield 64, 3) := by decide +kernel
theorem dX11_init_153 : decode cX11_init 153 = .ok (.aload_n 0, 1) := by decide +kernel
theorem dX11_init_154 : decode cX11_init 154 = .ok (.bipush 96, 2) := by decide +kernel
theorem dX11_init_156 : decode cX11_init 156 = .ok (.newarray .int, 2) := by decide +kernel
theorem dX11_init_158 : decode cX11_init 158 = .ok (.putfield 67, 3) := by decide +kernel
theorem dX11_init_161 : decode cX11_init 161 = .ok (.aload_n 0, 1) := by decide +kernel
theorem dX11_init_162 : decode cX11_init 162 = .ok (.iconst 4, 1) := by decide +kernel
theorem dX11_init_163 : decode cX11_init 163 = .ok (.newarray .int, 2) := by decide +kernel
theorem dX11_init_165 : decode cX11_init 165 = .ok (.putfield 70, 3) := by decide +kernel
theorem dX11_init_168 : decode cX11_init 168 = .ok (.aload_n 0, 1) := by decide +kernel
theorem dX11_init_169 : decode cX11_init 169 = .ok (.sipush 160, 3) := by decide +kernel
theorem dX11_init_172 : decode cX11_init 172 = .ok (.newarray .int, 2) := by decide +kernel
theorem dX11_init_174 : decode cX11_init 174 = .ok (.putfield 73, 3) := by decide +kernel
theorem dX11_init_177 : decode cX11_init 177 = .ok (.aload_n 0, 1) := by decide +kernel
theorem dX11_init_178 : decode cX11_init 178 = .ok (.bipush 32, 2) := by decide +kernel
theorem dX11_init_180 : decode cX11_init 180 = .ok (.newarray .int, 2) := by decide +kernel
theorem dX11_init_182 : decode cX11_init 182 = .ok (.putfield 76, 3) := by decide +kernel
theorem dX11_init_185 : decode cX11_init 185 = .ok (.aload_n 0, 1) := by decide +kernel
theorem dX11_init_186 : decode cX11_init 186 = .ok (.iconst 4, 1) := by decide +kernel
theorem dX11_init_187 : decode cX11_init 187 = .ok (.newarray .int, 2) := by decide +kernel
theorem dX11_init_189 : decode cX11_init 189 = .ok (.putfield 79, 3) := by decide +kernel
theorem dX11_init_192 : decode cX11_init 192 = .ok (.aload_n 0, 1) := by decide +kernel
theorem dX11_init_193 : decode cX11_init 193 = .ok (.bipush 60, 2) := by decide +kernel
theorem dX11_init_195 : decode cX11_init 195 = .ok (.newarray .int, 2) := by decide +kernel
theorem dX11_init_197 : decode cX11_init 197 = .ok (.putfield 82, 3) := by decide +kernel
theorem dX11_init_200 : decode cX11_init 200 = .ok (.aload_n 0, 1) := by decide +kernel
theorem dX11_init_201 : decode cX11_init 201 = .ok (.iconst 4, 1) := by decide +kernel
theorem dX11_init_202 : decode cX11_init 202 = .ok (.newarray .int, 2) := by decide +kernel
theorem dX11_init_204 : decode cX11_init 204 = .ok (.putfield 85, 3) := by decide +kernel
theorem dX11_init_207 : decode cX11_init 207 = .ok (.aload_n 0, 1) := by decide +kernel
theorem dX11_init_208 : decode cX11_init 208 = .ok (.sipush 640, 3) := by decide +kernel
theorem dX11_init_211 : decode cX11_init 211 = .ok (.newarray .int, 2) := by decide +kernel
theorem dX11_init_213 : decode cX11_init 213 = .ok (.putfield 88, 3) := by decide +kernel
theorem dX11_init_216 : decode cX11_init 216 = .ok (.aload_n 0, 1) := by decide +kernel
theorem dX11_init_217 : decode cX11_init 217 = .ok (.bipush 30, 2) := by decide +kernel
theorem dX11_init_219 : decode cX11_init 219 = .ok (.newarray .int, 2) := by decide +kernel
theorem dX11_init_221 : decode cX11_init 221 = .ok (.putfield 91, 3) := by decide +kernel
theorem dX11_init_224 : decode cX11_init 224 = .ok (.aload_n 0, 1) := by decide +kernel
theorem dX11_init_225 : decode cX11_init 225 = .ok (.bipush 41, 2) := by decide +kernel
theorem dX11_init_227 : decode cX11_init 227 = .ok (.newarray .boolean, 2) := by decide +kernel
theorem dX11_init_229 : decode cX11_init 229 = .ok (.putfield 94, 3) := by decide +kernel
theorem dX11_init_232 : decode cX11_init 232 = .ok (.aload_n 0, 1) := by decide +kernel
theorem dX11_init_233 : decode cX11_init 233 = .ok (.bipush 41, 2) := by decide +kernel
theorem dX11_init_235 : decode cX11_init 235 = .ok (.newarray .int, 2) := by decide +kernel
theorem dX11_init_237 : decode cX11_init 237 = .ok (.putfield 98, 3) := by decide +kernel
theorem dX11_init_240 : decode cX11_init 240 = .ok (.aload_n 0, 1) := by decide +kernel
theorem dX11_init_241 : decode cX11_init 241 = .ok (.bipush 40, 2) := by decide +kernel
theorem dX11_init_243 : decode cX11_init 243 = .ok (.newarray .int, 2) := by decide +kernel
theorem dX11_init_245 : decode cX11_init 245 = .ok (.putfield 101, 3) := by decide +kernel
theorem dX11_init_248 : decode cX11_init 248 = .ok (.aload_n 0, 1) := by decide +kernel
theorem dX11_init_249 : decode cX11_init 249 = .ok (.bipush 40, 2) := by decide +kernel
theorem dX11_init_251 : decode cX11_init 251 = .ok (.newarray .int, 2) := by decide +kernel
theorem dX11_init_253 : decode cX11_init 253 = .ok (.putfield 104, 3) := by decide +kernel
theorem dX11_init_256 : decode cX11_init 256 = .ok (.aload_n 0, 1) := by decide +kernel
theorem dX11_init_257 : decode cX11_init 257 = .ok (.bipush 40, 2) := by decide +kernel
theorem dX11_init_259 : decode cX11_init 259 = .ok (.newarray .int, 2) := by decide +kernel
theorem dX11_init_261 : decode cX11_init 261 = .ok (.putfield 107, 3) := by decide +kernel
theorem dX11_init_264 : decode cX11_init 264 = .ok (.aload_n 0, 1) := by decide +kernel
theorem dX11_init_265 : decode cX11_init 265 = .ok (.bipush 41, 2) := by decide +kernel
theorem dX11_init_267 : decode cX11_init 267 = .ok (.newarray .boolean, 2) := by decide +kernel
theorem dX11_init_269 : decode cX11_init 269 = .ok (.putfield 110, 3) := by decide +kernel
theorem dX11_init_272 : decode cX11_init 272 = .ok (.aload_n 0, 1) := by decide +kernel
theorem dX11_init_273 : decode cX11_init 273 = .ok (.sipush 360, 3) := by decide +kernel
theorem dX11_init_276 : decode cX11_init 276 = .ok (.newarray .int, 2) := by decide +kernel
theorem dX11_init_278 : decode cX11_init 278 = .ok (.putfield 113, 3) := by decide +kernel
theorem dX11_init_281 : decode cX11_init 281 = .ok (.aload_n 0, 1) := by decide +kernel
theorem dX11_init_282 : decode cX11_init 282 = .ok (.sipush 360, 3) := by decide +kernel
theorem dX11_init_285 : decode cX11_init 285 = .ok (.newarray .int, 2) := by decide +kernel
theorem dX11_init_287 : decode cX11_init 287 = .ok (.putfield 116, 3) := by decide +kernel
theorem dX11_init_290 : decode cX11_init 290 = .ok (.aload_n 0, 1) := by decide +kernel
theorem dX11_init_291 : decode cX11_init 291 = .ok (.iconst 2, 1) := by decide +kernel
theorem dX11_init_292 : decode cX11_init 292 = .ok (.newarray .int, 2) := by decide +kernel
theorem dX11_init_294 : decode cX11_init 294 = .ok (.putfield 119, 3) := by decide +kernel
theorem dX11_init_297 : decode cX11_init 297 = .ok (.aload_n 0, 1) := by decide +kernel
theorem dX11_init_298 : decode cX11_init 298 = .ok (.iconst 2, 1) := by decide +kernel
theorem dX11_init_299 : decode cX11_init 299 = .ok (.newarray .int, 2) := by decide +kernel
theorem dX11_init_301 : decode cX11_init 301 = .ok (.putfield 122, 3) := by decide +kernel
theorem dX11_init_304 : decode cX11_init 304 = .ok (.aload_n 0, 1) := by decide +kernel
theorem dX11_init_305 : decode cX11_init 305 = .ok (.bipush 40, 2) := by decide +kernel
theorem dX11_init_307 : decode cX11_init 307 = .ok (.newarray .int, 2) := by decide +kernel
theorem dX11_init_309 : decode cX11_init 309 = .ok (.putfield 125, 3) := by decide +kernel
theorem dX11_init_312 : decode cX11_init 312 = .ok (.aload_n 0, 1) := by decide +kernel
theorem dX11_init_313 : decode cX11_init 313 = .ok (.bipush 40, 2) := by decide +kernel
theorem dX11_init_315 : decode cX11_init 315 = .ok (.newarray .int, 2) := by decide +kernel
theorem dX11_init_317 : decode cX11_init 317 = .ok (.putfield 128, 3) := by decide +kernel
theorem dX11_init_320 : decode cX11_init 320 = .ok (.aload_n 0, 1) := by decide +kernel
theorem dX11_init_321 : decode cX11_init 321 = .ok (.iconst 3, 1) := by decide +kernel
theorem dX11_init_322 : decode cX11_init 322 = .ok (.newarray .boolean, 2) := by decide +kernel
theorem dX11_init_324 : decode cX11_init 324 = .ok (.putfield 131, 3) := by decide +kernel
theorem dX11_init_327 : decode cX11_init 327 = .ok (.aload_n 0, 1) := by decide +kernel
theorem dX11_init_328 : decode cX11_init 328 = .ok (.getfield 40, 3) := by decide +kernel
theorem dX11_init_331 : decode cX11_init 331 = .ok (.iconst 0, 1) := by decide +kernel
theorem dX11_init_332 : decode cX11_init 332 = .ok (.iconst (-1), 1) := by decide +kernel
theorem dX11_init_333 : decode cX11_init 333 = .ok (.iastore, 1) := by decide +kernel
theorem dX11_init_334 : decode cX11_init 334 = .ok (.aload_n 0, 1) := by decide +kernel
theorem dX11_init_335 : decode cX11_init 335 = .ok (.getfield 52, 3) := by decide +kernel
theorem dX11_init_338 : decode cX11_init 338 = .ok (.iconst 0, 1) := by decide +kernel
theorem dX11_init_339 : decode cX11_init 339 = .ok (.iconst (-1), 1) := by decide +kernel
theorem dX11_init_340 : decode cX11_init 340 = .ok (.iastore, 1) := by decide +kernel
theorem dX11_init_341 : decode cX11_init 341 = .ok (.aload_n 0, 1) := by decide +kernel
theorem dX11_init_342 : decode cX11_init 342 = .ok (.getfield 79, 3) := by decide +kernel
theorem dX11_init_345 : decode cX11_init 345 = .ok (.iconst 0, 1) := by decide +kernel
theorem dX11_init_346 : decode cX11_init 346 = .ok (.iconst (-1), 1) := by decide +kernel
theorem dX11_init_347 : decode cX11_init 347 = .ok (.iastore, 1) := by decide +kernel
theorem dX11_init_348 : decode cX11_init 348 = .ok (.return_, 1) := by decide +kernel
theorem dX11_in_0 : decode cX11_in 0 = .ok (.iload_n 0, 1) := by decide +kernel
theorem dX11_in_1 : decode cX11_in 1 = .ok (.iload_n 1, 1) := by decide +kernel
theorem dX11_in_2 : decode cX11_in 2 = .ok (.if_icmp .lt 12, 3) := by decide +kernel
theorem dX11_in_5 : decode cX11_in 5 = .ok (.iload_n 0, 1) := by decide +kernel
theorem dX11_in_6 : decode cX11_in 6 = .ok (.iload_n 2, 1) := by decide +kernel
theorem dX11_in_7 : decode cX11_in 7 = .ok (.if_icmp .gt 7, 3) := by decide +kernel
theorem dX11_in_10 : decode cX11_in 10 = .ok (.iconst 1, 1) := by decide +kernel
theorem dX11_in_11 : decode cX11_in 11 = .ok (.goto 4, 3) := by decide +kernel
theorem dX11_in_14 : decode cX11_in 14 = .ok (.iconst 0, 1) := by decide +kernel
theorem dX11_in_15 : decode cX11_in 15 = .ok (.ireturn, 1) := by decide +kernel
theorem dX11_move_0 : decode cX11_move 0 = .ok (.iconst 0, 1) := by decide +kernel
theorem dX11_move_1 : decode cX11_move 1 = .ok (.istore 4, 2) := by decide +kernel
theorem dX11_move_3 : decode cX11_move 3 = .ok (.iload 4, 2) := by decide +kernel
theorem dX11_move_5 : decode cX11_move 5 = .ok (.iload_n 1, 1) := by decide +kernel
theorem dX11_move_6 : decode cX11_move 6 = .ok (.if_icmp .ge 25, 3) := by decide +kernel
theorem dX11_move_9 : decode cX11_move 9 = .ok (.aload_n 0, 1) := by decide +kernel
theorem dX11_move_10 : decode cX11_move 10 = .ok (.iload_n 1, 1) := by decide +kernel
theorem dX11_move_11 : decode cX11_move 11 = .ok (.iload_n 3, 1) := by decide +kernel
theorem dX11_move_12 : decode cX11_move 12 = .ok (.imul, 1) := by decide +kernel
theorem dX11_move_13 : decode cX11_move 13 = .ok (.iload 4, 2) := by decide +kernel
theorem dX11_move_15 : decode cX11_move 15 = .ok (.iadd, 1) := by decide +kernel
theorem dX11_move_16 : decode cX11_move 16 = .ok (.aload_n 0, 1) := by decide +kernel
theorem dX11_move_17 : decode cX11_move 17 = .ok (.iload_n 1, 1) := by decide +kernel
theorem dX11_move_18 : decode cX11_move 18 = .ok (.iload_n 2, 1) := by decide +kernel
theorem dX11_move_19 : decode cX11_move 19 = .ok (.imul, 1) := by decide +kernel
theorem dX11_move_20 : decode cX11_move 20 = .ok (.iload 4, 2) := by decide +kernel
theorem dX11_move_22 : decode cX11_move 22 = .ok (.iadd, 1) := by decide +kernel
theorem dX11_move_23 : decode cX11_move 23 = .ok (.iaload, 1) := by decide +kernel
theorem dX11_move_24 : decode cX11_move 24 = .ok (.iastore, 1) := by decide +kernel
theorem dX11_move_25 : decode cX11_move 25 = .ok (.iinc 4 1, 3) := by decide +kernel
theorem dX11_move_28 : decode cX11_move 28 = .ok (.goto (-25), 3) := by decide +kernel
theorem dX11_move_31 : decode cX11_move 31 = .ok (.return_, 1) := by decide +kernel
theorem dX11_copy_0 : decode cX11_copy 0 = .ok (.aload_n 0, 1) := by decide +kernel
theorem dX11_copy_1 : decode cX11_copy 1 = .ok (.getfield 7, 3) := by decide +kernel
theorem dX11_copy_4 : decode cX11_copy 4 = .ok (.iconst 1, 1) := by decide +kernel
theorem dX11_copy_5 : decode cX11_copy 5 = .ok (.iload_n 1, 1) := by decide +kernel
theorem dX11_copy_6 : decode cX11_copy 6 = .ok (.iload_n 2, 1) := by decide +kernel
theorem dX11_copy_7 : decode cX11_copy 7 = .ok (.invokestatic 138, 3) := by decide +kernel
theorem dX11_copy_10 : decode cX11_copy 10 = .ok (.aload_n 0, 1) := by decide +kernel
theorem dX11_copy_11 : decode cX11_copy 11 = .ok (.getfield 13, 3) := by decide +kernel
theorem dX11_copy_14 : decode cX11_copy 14 = .ok (.iconst 3, 1) := by decide +kernel
theorem dX11_copy_15 : decode cX11_copy 15 = .ok (.iload_n 1, 1) := by decide +kernel
theorem dX11_copy_16 : decode cX11_copy 16 = .ok (.iload_n 2, 1) := by decide +kernel
theorem dX11_copy_17 : decode cX11_copy 17 = .ok (.invokestatic 138, 3) := by decide +kernel
theorem dX11_copy_20 : decode cX11_copy 20 = .ok (.aload_n 0, 1) := by decide +kernel
theorem dX11_copy_21 : decode cX11_copy 21 = .ok (.getfield 16, 3) := by decide +kernel
theorem dX11_copy_24 : decode cX11_copy 24 = .ok (.bipush 120, 2) := by decide +kernel
theorem dX11_copy_26 : decode cX11_copy 26 = .ok (.iload_n 1, 1) := by decide +kernel
theorem dX11_copy_27 : decode cX11_copy 27 = .ok (.iload_n 2, 1) := by decide +kernel
theorem dX11_copy_28 : decode cX11_copy 28 = .ok (.invokestatic 138, 3) := by decide +kernel
theorem dX11_copy_31 : decode cX11_copy 31 = .ok (.aload_n 0, 1) := by decide +kernel
theorem dX11_copy_32 : decode cX11_copy 32 = .ok (.getfield 19, 3) := by decide +kernel
theorem dX11_copy_35 : decode cX11_copy 35 = .ok (.bipush 120, 2) := by decide +kernel
theorem dX11_copy_37 : decode cX11_copy 37 = .ok (.iload_n 1, 1) := by decide +kernel
theorem dX11_copy_38 : decode cX11_copy 38 = .ok (.iload_n 2, 1) := by decide +kernel
theorem dX11_copy_39 : decode cX11_copy 39 = .ok (.invokestatic 138, 3) := by decide +kernel
theorem dX11_copy_42 : decode cX11_copy 42 = .ok (.aload_n 0, 1) := by decide +kernel
theorem dX11_copy_43 : decode cX11_copy 43 = .ok (.getfield 22, 3) := by decide +kernel
theorem dX11_copy_46 : decode cX11_copy 46 = .ok (.bipush 120, 2) := by decide +kernel
theorem dX11_copy_48 : decode cX11_copy 48 = .ok (.iload_n 1, 1) := by decide +kernel
theorem dX11_copy_49 : decode cX11_copy 49 = .ok (.iload_n 2, 1) := by decide +kernel
theorem dX11_copy_50 : decode cX11_copy 50 = .ok (.invokestatic 138, 3) := by decide +kernel
theorem dX11_copy_53 : decode cX11_copy 53 = .ok (.aload_n 0, 1) := by decide +kernel
theorem dX11_copy_54 : decode cX11_copy 54 = .ok (.getfield 25, 3) := by decide +kernel
theorem dX11_copy_57 : decode cX11_copy 57 = .ok (.iconst 1, 1) := by decide +kernel
theorem dX11_copy_58 : decode cX11_copy 58 = .ok (.iload_n 1, 1) := by decide +kernel
theorem dX11_copy_59 : decode cX11_copy 59 = .ok (.iload_n 2, 1) := by decide +kernel
theorem dX11_copy_60 : decode cX11_copy 60 = .ok (.invokestatic 138, 3) := by decide +kernel
theorem dX11_copy_63 : decode cX11_copy 63 = .ok (.aload_n 0, 1) := by decide +kernel
theorem dX11_copy_64 : decode cX11_copy 64 = .ok (.getfield 28, 3) := by decide +kernel
theorem dX11_copy_67 : decode cX11_copy 67 = .ok (.bipush 30, 2) := by decide +kernel
theorem dX11_copy_69 : decode cX11_copy 69 = .ok (.iload_n 1, 1) := by decide +kernel
theorem dX11_copy_70 : decode cX11_copy 70 = .ok (.iload_n 2, 1) := by decide +kernel
theorem dX11_copy_71 : decode cX11_copy 71 = .ok (.invokestatic 138, 3) := by decide +kernel
theorem dX11_copy_74 : decode cX11_copy 74 = .ok (.aload_n 0, 1) := by decide +kernel
theorem dX11_copy_75 : decode cX11_copy 75 = .ok (.getfield 31, 3) := by decide +kernel
theorem dX11_copy_78 : decode cX11_copy 78 = .ok (.iconst 1, 1) := by decide +kernel
theorem dX11_copy_79 : decode cX11_copy 79 = .ok (.iload_n 1, 1) := by decide +kernel
theorem dX11_copy_80 : decode cX11_copy 80 = .ok (.iload_n 2, 1) := by decide +kernel
theorem dX11_copy_81 : decode cX11_copy 81 = .ok (.invokestatic 138, 3) := by decide +kernel
theorem dX11_copy_84 : decode cX11_copy 84 = .ok (.aload_n 0, 1) := by decide +kernel
theorem dX11_copy_85 : decode cX11_copy 85 = .ok (.getfield 34, 3) := by decide +kernel
theorem dX11_copy_88 : decode cX11_copy 88 = .ok (.bipush 40, 2) := by decide +kernel
theorem dX11_copy_90 : decode cX11_copy 90 = .ok (.iload_n 1, 1) := by decide +kernel
theorem dX11_copy_91 : decode cX11_copy 91 = .ok (.iload_n 2, 1) := by decide +kernel
theorem dX11_copy_92 : decode cX11_copy 92 = .ok (.invokestatic 138, 3) := by decide +kernel
theorem dX11_copy_95 : decode cX11_copy 95 = .ok (.aload_n 0, 1) := by decide +kernel
theorem dX11_copy_96 : decode cX11_copy 96 = .ok (.getfield 37, 3) := by decide +kernel
theorem dX11_copy_99 : decode cX11_copy 99 = .ok (.bipush 40, 2) := by decide +kernel
theorem dX11_copy_101 : decode cX11_copy 101 = .ok (.iload_n 1, 1) := by decide +kernel
theorem dX11_copy_102 : decode cX11_copy 102 = .ok (.iload_n 2, 1) := by decide +kernel
theorem dX11_copy_103 : decode cX11_copy 103 = .ok (.invokestatic 138, 3) := by decide +kernel
theorem dX11_copy_106 : decode cX11_copy 106 = .ok (.aload_n 0, 1) := by decide +kernel
theorem dX11_copy_107 : decode cX11_copy 107 = .ok (.getfield 40, 3) := by decide +kernel
theorem dX11_copy_110 : decode cX11_copy 110 = .ok (.iconst 1, 1) := by decide +kernel
theorem dX11_copy_111 : decode cX11_copy 111 = .ok (.iload_n 1, 1) := by decide +kernel
theorem dX11_copy_112 : decode cX11_copy 112 = .ok (.iload_n 2, 1) := by decide +kernel
theorem dX11_copy_113 : decode cX11_copy 113 = .ok (.invokestatic 138, 3) := by decide +kernel
theorem dX11_copy_116 : decode cX11_copy 116 = .ok (.aload_n 0, 1) := by decide +kernel
theorem dX11_copy_117 : decode cX11_copy 117 = .ok (.getfield 43, 3) := by decide +kernel
theorem dX11_copy_120 : decode cX11_copy 120 = .ok (.bipush 120, 2) := by decide +kernel
theorem dX11_copy_122 : decode cX11_copy 122 = .ok (.iload_n 1, 1) := by decide +kernel
theorem dX11_copy_123 : decode cX11_copy 123 = .ok (.iload_n 2, 1) := by decide +kernel
theorem dX11_copy_124 : decode cX11_copy 124 = .ok (.invokestatic 138, 3) := by decide +kernel
theorem dX11_copy_127 : decode cX11_copy 127 = .ok (.aload_n 0, 1) := by decide +kernel
theorem dX11_copy_128 : decode cX11_copy 128 = .ok (.getfield 46, 3) := by decide +kernel
theorem dX11_copy_131 : decode cX11_copy 131 = .ok (.iconst 1, 1) := by decide +kernel
theorem dX11_copy_132 : decode cX11_copy 132 = .ok (.iload_n 1, 1) := by decide +kernel
theorem dX11_copy_133 : decode cX11_copy 133 = .ok (.iload_n 2, 1) := by decide +kernel
theorem dX11_copy_134 : decode cX11_copy 134 = .ok (.invokestatic 138, 3) := by decide +kernel
theorem dX11_copy_137 : decode cX11_copy 137 = .ok (.aload_n 0, 1) := by decide +kernel
theorem dX11_copy_138 : decode cX11_copy 138 = .ok (.getfield 49, 3) := by decide +kernel
theorem dX11_copy_141 : decode cX11_copy 141 = .ok (.bipush 80, 2) := by decide +kernel
theorem dX11_copy_143 : decode cX11_copy 143 = .ok (.iload_n 1, 1) := by decide +kernel
theorem dX11_copy_144 : decode cX11_copy 144 = .ok (.iload_n 2, 1) := by decide +kernel
theorem dX11_copy_145 : decode cX11_copy 145 = .ok (.invokestatic 138, 3) := by decide +kernel
theorem dX11_copy_148 : decode cX11_copy 148 = .ok (.aload_n 0, 1) := by decide +kernel
theorem dX11_copy_149 : decode cX11_copy 149 = .ok (.getfield 52, 3) := by decide +kernel
theorem dX11_copy_152 : decode cX11_copy 152 = .ok (.iconst 1, 1) := by decide +kernel
theorem dX11_copy_153 : decode cX11_copy 153 = .ok (.iload_n 1, 1) := by decide +kernel
theorem dX11_copy_154 : decode cX11_copy 154 = .ok (.iload_n 2, 1) := by decide +kernel
theorem dX11_copy_155 : decode cX11_copy 155 = .ok (.invokestatic 138, 3) := by decide +kernel
theorem dX11_copy_158 : decode cX11_copy 158 = .ok (.aload_n 0, 1) := by decide +kernel
theorem dX11_copy_159 : decode cX11_copy 159 = .ok (.getfield 55, 3) := by decide +kernel
theorem dX11_copy_162 : decode cX11_copy 162 = .ok (.iconst 1, 1) := by decide +kernel
theorem dX11_copy_163 : decode cX11_copy 163 = .ok (.iload_n 1, 1) := by decide +kernel
theorem dX11_copy_164 : decode cX11_copy 164 = .ok (.iload_n 2, 1) := by decide +kernel
theorem dX11_copy_165 : decode cX11_copy 165 = .ok (.invokestatic 138, 3) := by decide +kernel
theorem dX11_copy_168 : decode cX11_copy 168 = .ok (.aload_n 0, 1) := by decide +kernel
theorem dX11_copy_169 : decode cX11_copy 169 = .ok (.getfield 58, 3) := by decide +kernel
theorem dX11_copy_172 : decode cX11_copy 172 = .ok (.iconst 1, 1) := by decide +kernel
theorem dX11_copy_173 : decode cX11_copy 173 = .ok (.iload_n 1, 1) := by decide +kernel
theorem dX11_copy_174 : decode cX11_copy 174 = .ok (.iload_n 2, 1) := by decide +kernel
theorem dX11_copy_175 : decode cX11_copy 175 = .ok (.invokestatic 138, 3) := by decide +kernel
theorem dX11_copy_178 : decode cX11_copy 178 = .ok (.aload_n 0, 1) := by decide +kernel
theorem dX11_copy_179 : decode cX11_copy 179 = .ok (.getfield 61, 3) := by decide +kernel
theorem dX11_copy_182 : decode cX11_copy 182 = .ok (.iconst 1, 1) := by decide +kernel
theorem dX11_copy_183 : decode cX11_copy 183 = .ok (.iload_n 1, 1) := by decide +kernel
theorem dX11_copy_184 : decode cX11_copy 184 = .ok (.iload_n 2, 1) := by decide +kernel
theorem dX11_copy_185 : decode cX11_copy 185 = .ok (.invokestatic 138, 3) := by decide +kernel
theorem dX11_copy_188 : decode cX11_copy 188 = .ok (.aload_n 0, 1) := by decide +kernel
theorem dX11_copy_189 : decode cX11_copy 189 = .ok (.getfield 64, 3) := by decide +kernel
theorem dX11_copy_192 : decode cX11_copy 192 = .ok (.iconst 1, 1) := by decide +kernel
theorem dX11_copy_193 : decode cX11_copy 193 = .ok (.iload_n 1, 1) := by decide +kernel
theorem dX11_copy_194 : decode cX11_copy 194 = .ok (.iload_n 2, 1) := by decide +kernel
theorem dX11_copy_195 : decode cX11_copy 195 = .ok (.invokestatic 138, 3) := by decide +kernel
theorem dX11_copy_198 : decode cX11_copy 198 = .ok (.aload_n 0, 1) := by decide +kernel
theorem dX11_copy_199 : decode cX11_copy 199 = .ok (.getfield 67, 3) := by decide +kernel
theorem dX11_copy_202 : decode cX11_copy 202 = .ok (.bipush 24, 2) := by decide +kernel
theorem dX11_copy_204 : decode cX11_copy 204 = .ok (.iload_n 1, 1) := by decide +kernel
theorem dX11_copy_205 : decode cX11_copy 205 = .ok (.iload_n 2, 1) := by decide +kernel
theorem dX11_copy_206 : decode cX11_copy 206 = .ok (.invokestatic 138, 3) := by decide +kernel
theorem dX11_copy_209 : decode cX11_copy 209 = .ok (.aload_n 0, 1) := by decide +kernel
theorem dX11_copy_210 : decode cX11_copy 210 = .ok (.getfield 70, 3) := by decide +kernel
theorem dX11_copy_213 : decode cX11_copy 213 = .ok (.iconst 1, 1) := by decide +kernel
theorem dX11_copy_214 : decode cX11_copy 214 = .ok (.iload_n 1, 1) := by decide +kernel
theorem dX11_copy_215 : decode cX11_copy 215 = .ok (.iload_n 2, 1) := by decide +kernel
theorem dX11_copy_216 : decode cX11_copy 216 = .ok (.invokestatic 138, 3) := by decide +kernel
theorem dX11_copy_219 : decode cX11_copy 219 = .ok (.aload_n 0, 1) := by decide +kernel
theorem dX11_copy_220 : decode cX11_copy 220 = .ok (.getfield 73, 3) := by decide +kernel
theorem dX11_copy_223 : decode cX11_copy 223 = .ok (.bipush 40, 2) := by decide +kernel
theorem dX11_copy_225 : decode cX11_copy 225 = .ok (.iload_n 1, 1) := by decide +kernel
theorem dX11_copy_226 : decode cX11_copy 226 = .ok (.iload_n 2, 1) := by decide +kernel
theorem dX11_copy_227 : decode cX11_copy 227 = .ok (.invokestatic 138, 3) := by decide +kernel
theorem dX11_copy_230 : decode cX11_copy 230 = .ok (.aload_n 0, 1) := by decide +kernel
theorem dX11_copy_231 : decode cX11_copy 231 = .ok (.getfield 76, 3) := by decide +kernel
theorem dX11_copy_234 : decode cX11_copy 234 = .ok (.bipush 8, 2) := by decide +kernel
theorem dX11_copy_236 : decode cX11_copy 236 = .ok (.iload_n 1, 1) := by decide +kernel
theorem dX11_copy_237 : decode cX11_copy 237 = .ok (.iload_n 2, 1) := by decide +kernel
theorem dX11_copy_238 : decode cX11_copy 238 = .ok (.invokestatic 138, 3) := by decide +kernel
theorem dX11_copy_241 : decode cX11_copy 241 = .ok (.aload_n 0, 1) := by decide +kernel
theorem dX11_copy_242 : decode cX11_copy 242 = .ok (.getfield 79, 3) := by decide +kernel
theorem dX11_copy_245 : decode cX11_copy 245 = .ok (.iconst 1, 1) := by decide +kernel
theorem dX11_copy_246 : decode cX11_copy 246 = .ok (.iload_n 1, 1) := by decide +kernel
theorem dX11_copy_247 : decode cX11_copy 247 = .ok (.iload_n 2, 1) := by decide +kernel
theorem dX11_copy_248 : decode cX11_copy 248 = .ok (.invokestatic 138, 3) := by decide +kernel
theorem dX11_copy_251 : decode cX11_copy 251 = .ok (.aload_n 0, 1) := by decide +kernel
theorem dX11_copy_252 : decode cX11_copy 252 = .ok (.getfield 82, 3) := by decide +kernel
theorem dX11_copy_255 : decode cX11_copy 255 = .ok (.bipush 15, 2) := by decide +kernel
theorem dX11_copy_257 : decode cX11_copy 257 = .ok (.iload_n 1, 1) := by decide +kernel
theorem dX11_copy_258 : decode cX11_copy 258 = .ok (.iload_n 2, 1) := by decide +kernel
theorem dX11_copy_259 : decode cX11_copy 259 = .ok (.invokestatic 138, 3) := by decide +kernel
theorem dX11_copy_262 : decode cX11_copy 262 = .ok (.aload_n 0, 1) := by decide +kernel
theorem dX11_copy_263 : decode cX11_copy 263 = .ok (.getfield 85, 3) := by decide +kernel
theorem dX11_copy_266 : decode cX11_copy 266 = .ok (.iconst 1, 1) := by decide +kernel
theorem dX11_copy_267 : decode cX11_copy 267 = .ok (.iload_n 1, 1) := by decide +kernel
theorem dX11_copy_268 : decode cX11_copy 268 = .ok (.iload_n 2, 1) := by decide +kernel
theorem dX11_copy_269 : decode cX11_copy 269 = .ok (.invokestatic 138, 3) := by decide +kernel
theorem dX11_copy_272 : decode cX11_copy 272 = .ok (.aload_n 0, 1) := by decide +kernel
theorem dX11_copy_273 : decode cX11_copy 273 = .ok (.getfield 88, 3) := by decide +kernel
theorem dX11_copy_276 : decode cX11_copy 276 = .ok (.sipush 160, 3) := by decide +kernel
theorem dX11_copy_279 : decode cX11_copy 279 = .ok (.iload_n 1, 1) := by decide +kernel
theorem dX11_copy_280 : decode cX11_copy 280 = .ok (.iload_n 2, 1) := by decide +kernel
theorem dX11_copy_281 : decode cX11_copy 281 = .ok (.invokestatic 138, 3) := by decide +kernel
theorem dX11_copy_284 : decode cX11_copy 284 = .ok (.return_, 1) := by decide +kernel
theorem dX11_isProgram_0 : decode cX11_isProgram 0 = .ok (.iload_n 1, 1) := by decide +kernel
theorem dX11_isProgram_1 : decode cX11_isProgram 1 = .ok (.iconst 0, 1) := by decide +kernel
theorem dX11_isProgram_2 : decode cX11_isProgram 2 = .ok (.aload_n 0, 1) := by decide +kernel
theorem dX11_isProgram_3 : decode cX11_isProgram 3 = .ok (.getfield 7, 3) := by decide +kernel
theorem dX11_isProgram_6 : decode cX11_isProgram 6 = .ok (.iconst 0, 1) := by decide +kernel
theorem dX11_isProgram_7 : decode cX11_isProgram 7 = .ok (.iaload, 1) := by decide +kernel
theorem dX11_isProgram_8 : decode cX11_isProgram 8 = .ok (.iconst 1, 1) := by decide +kernel
theorem dX11_isProgram_9 : decode cX11_isProgram 9 = .ok (.isub, 1) := by decide +kernel
theorem dX11_isProgram_10 : decode cX11_isProgram 10 = .ok (.invokestatic 142, 3) := by decide +kernel
theorem dX11_isProgram_13 : decode cX11_isProgram 13 = .ok (.ireturn, 1) := by decide +kernel
theorem dX11_hasArgument_0 : decode cX11_hasArgument 0 = .ok (.iload_n 0, 1) := by decide +kernel
theorem dX11_hasArgument_1 : decode cX11_hasArgument 1 = .ok (.ifCond .eq 33, 3) := by decide +kernel
theorem dX11_hasArgument_4 : decode cX11_hasArgument 4 = .ok (.iload_n 0, 1) := by decide +kernel
theorem dX11_hasArgument_5 : decode cX11_hasArgument 5 = .ok (.bipush 7, 2) := by decide +kernel
theorem dX11_hasArgument_7 : decode cX11_hasArgument 7 = .ok (.if_icmp .eq 27, 3) := by decide +kernel
theorem dX11_hasArgument_10 : decode cX11_hasArgument 10 = .ok (.iload_n 0, 1) := by decide +kernel
theorem dX11_hasArgument_11 : decode cX11_hasArgument 11 = .ok (.bipush 8, 2) := by decide +kernel
theorem dX11_hasArgument_13 : decode cX11_hasArgument 13 = .ok (.if_icmp .eq 21, 3) := by decide +kernel
theorem dX11_hasArgument_16 : decode cX11_hasArgument 16 = .ok (.iload_n 0, 1) := by decide +kernel
theorem dX11_hasArgument_17 : decode cX11_hasArgument 17 = .ok (.bipush 9, 2) := by decide +kernel
theorem dX11_hasArgument_19 : decode cX11_hasArgument 19 = .ok (.if_icmp .eq 15, 3) := by decide +kernel
theorem dX11_hasArgument_22 : decode cX11_hasArgument 22 = .ok (.iload_n 0, 1) := by decide +kernel
theorem dX11_hasArgument_23 : decode cX11_hasArgument 23 = .ok (.bipush 10, 2) := by decide +kernel
theorem dX11_hasArgument_25 : decode cX11_hasArgument 25 = .ok (.if_icmp .eq 9, 3) := by decide +kernel
theorem dX11_hasArgument_28 : decode cX11_hasArgument 28 = .ok (.iload_n 0, 1) := by decide +kernel
theorem dX11_hasArgument_29 : decode cX11_hasArgument 29 = .ok (.bipush 15, 2) := by decide +kernel
theorem dX11_hasArgument_31 : decode cX11_hasArgument 31 = .ok (.if_icmp .ne 7, 3) := by decide +kernel
theorem dX11_hasArgument_34 : decode cX11_hasArgument 34 = .ok (.iconst 1, 1) := by decide +kernel
theorem dX11_hasArgument_35 : decode cX11_hasArgument 35 = .ok (.goto 4, 3) := by decide +kernel
theorem dX11_hasArgument_38 : decode cX11_hasArgument 38 = .ok (.iconst 0, 1) := by decide +kernel
theorem dX11_hasArgument_39 : decode cX11_hasArgument 39 = .ok (.ireturn, 1) := by decide +kernel
theorem dX11_isArgument_0 : decode cX11_isArgument 0 = .ok (.iload_n 0, 1) := by decide +kernel
theorem dX11_isArgument_1 : decode cX11_isArgument 1 = .ok (.tableswitch 104 0 15 #[79, 104, 104, 104, 104, 104, 104, 88, 88, 96, 96, 104, 104, 104, 104, 88], 79) := by decide +kernel
theorem dX11_isArgument_80 : decode cX11_isArgument 80 = .ok (.iload_n 1, 1) := by decide +kernel
theorem dX11_isArgument_81 : decode cX11_isArgument 81 = .ok (.bipush (-128), 2) := by decide +kernel
theorem dX11_isArgument_83 : decode cX11_isArgument 83 = .ok (.bipush 127, 2) := by decide +kernel
theorem dX11_isArgument_85 : decode cX11_isArgument 85 = .ok (.invokestatic 142, 3) := by decide +kernel
theorem dX11_isArgument_88 : decode cX11_isArgument 88 = .ok (.ireturn, 1) := by decide +kernel
theorem dX11_isArgument_89 : decode cX11_isArgument 89 = .ok (.iload_n 1, 1) := by decide +kernel
theorem dX11_isArgument_90 : decode cX11_isArgument 90 = .ok (.iconst 0, 1) := by decide +kernel
theorem dX11_isArgument_91 : decode cX11_isArgument 91 = .ok (.bipush 7, 2) := by decide +kernel
theorem dX11_isArgument_93 : decode cX11_isArgument 93 = .ok (.invokestatic 142, 3) := by decide +kernel
theorem dX11_isArgument_96 : decode cX11_isArgument 96 = .ok (.ireturn, 1) := by decide +kernel
theorem dX11_isArgument_97 : decode cX11_isArgument 97 = .ok (.iload_n 1, 1) := by decide +kernel
theorem dX11_isArgument_98 : decode cX11_isArgument 98 = .ok (.iconst 0, 1) := by decide +kernel
theorem dX11_isArgument_99 : decode cX11_isArgument 99 = .ok (.bipush 39, 2) := by decide +kernel
theorem dX11_isArgument_101 : decode cX11_isArgument 101 = .ok (.invokestatic 142, 3) := by decide +kernel
theorem dX11_isArgument_104 : decode cX11_isArgument 104 = .ok (.ireturn, 1) := by decide +kernel
theorem dX11_isArgument_105 : decode cX11_isArgument 105 = .ok (.iload_n 1, 1) := by decide +kernel
theorem dX11_isArgument_106 : decode cX11_isArgument 106 = .ok (.ifCond .ne 7, 3) := by decide +kernel
theorem dX11_isArgument_109 : decode cX11_isArgument 109 = .ok (.iconst 1, 1) := by decide +kernel
theorem dX11_isArgument_110 : decode cX11_isArgument 110 = .ok (.goto 4, 3) := by decide +kernel
theorem dX11_isArgument_113 : decode cX11_isArgument 113 = .ok (.iconst 0, 1) := by decide +kernel
theorem dX11_isArgument_114 : decode cX11_isArgument 114 = .ok (.ireturn, 1) := by decide +kernel
theorem dX11_forget_0 : decode cX11_forget 0 = .ok (.iconst 0, 1) := by decide +kernel
theorem dX11_forget_1 : decode cX11_forget 1 = .ok (.istore_n 2, 1) := by decide +kernel
theorem dX11_forget_2 : decode cX11_forget 2 = .ok (.iload_n 2, 1) := by decide +kernel
theorem dX11_forget_3 : decode cX11_forget 3 = .ok (.bipush 40, 2) := by decide +kernel
theorem dX11_forget_5 : decode cX11_forget 5 = .ok (.if_icmp .ge 21, 3) := by decide +kernel
theorem dX11_forget_8 : decode cX11_forget 8 = .ok (.aload_n 0, 1) := by decide +kernel
theorem dX11_forget_9 : decode cX11_forget 9 = .ok (.getfield 22, 3) := by decide +kernel
theorem dX11_forget_12 : decode cX11_forget 12 = .ok (.bipush 40, 2) := by decide +kernel
theorem dX11_forget_14 : decode cX11_forget 14 = .ok (.iload_n 1, 1) := by decide +kernel
theorem dX11_forget_15 : decode cX11_forget 15 = .ok (.imul, 1) := by decide +kernel
theorem dX11_forget_16 : decode cX11_forget 16 = .ok (.iload_n 2, 1) := by decide +kernel
theorem dX11_forget_17 : decode cX11_forget 17 = .ok (.iadd, 1) := by decide +kernel
theorem dX11_forget_18 : decode cX11_forget 18 = .ok (.iconst 0, 1) := by decide +kernel
theorem dX11_forget_19 : decode cX11_forget 19 = .ok (.iastore, 1) := by decide +kernel
theorem dX11_forget_20 : decode cX11_forget 20 = .ok (.iinc 2 1, 3) := by decide +kernel
theorem dX11_forget_23 : decode cX11_forget 23 = .ok (.goto (-21), 3) := by decide +kernel
theorem dX11_forget_26 : decode cX11_forget 26 = .ok (.return_, 1) := by decide +kernel
theorem dX11_program_0 : decode cX11_program 0 = .ok (.aload_n 0, 1) := by decide +kernel
theorem dX11_program_1 : decode cX11_program 1 = .ok (.iconst 0, 1) := by decide +kernel
theorem dX11_program_2 : decode cX11_program 2 = .ok (.putfield 134, 3) := by decide +kernel
theorem dX11_program_5 : decode cX11_program 5 = .ok (.aload_n 0, 1) := by decide +kernel
theorem dX11_program_6 : decode cX11_program 6 = .ok (.getfield 7, 3) := by decide +kernel
theorem dX11_program_9 : decode cX11_program 9 = .ok (.iconst 0, 1) := by decide +kernel
theorem dX11_program_10 : decode cX11_program 10 = .ok (.iaload, 1) := by decide +kernel
theorem dX11_program_11 : decode cX11_program 11 = .ok (.iconst 3, 1) := by decide +kernel
theorem dX11_program_12 : decode cX11_program 12 = .ok (.if_icmp .ne 5, 3) := by decide +kernel
theorem dX11_program_15 : decode cX11_program 15 = .ok (.iconst (-1), 1) := by decide +kernel
theorem dX11_program_16 : decode cX11_program 16 = .ok (.ireturn, 1) := by decide +kernel
theorem dX11_program_17 : decode cX11_program 17 = .ok (.aload_n 0, 1) := by decide +kernel
theorem dX11_program_18 : decode cX11_program 18 = .ok (.getfield 7, 3) := by decide +kernel
theorem dX11_program_21 : decode cX11_program 21 = .ok (.iconst 0, 1) := by decide +kernel
theorem dX11_program_22 : decode cX11_program 22 = .ok (.iaload, 1) := by decide +kernel
theorem dX11_program_23 : decode cX11_program 23 = .ok (.istore_n 1, 1) := by decide +kernel
theorem dX11_program_24 : decode cX11_program 24 = .ok (.aload_n 0, 1) := by decide +kernel
theorem dX11_program_25 : decode cX11_program 25 = .ok (.getfield 7, 3) := by decide +kernel
theorem dX11_program_28 : decode cX11_program 28 = .ok (.iconst 0, 1) := by decide +kernel
theorem dX11_program_29 : decode cX11_program 29 = .ok (.dup2, 1) := by decide +kernel
theorem dX11_program_30 : decode cX11_program 30 = .ok (.iaload, 1) := by decide +kernel
theorem dX11_program_31 : decode cX11_program 31 = .ok (.iconst 1, 1) := by decide +kernel
theorem dX11_program_32 : decode cX11_program 32 = .ok (.iadd, 1) := by decide +kernel
theorem dX11_program_33 : decode cX11_program 33 = .ok (.iastore, 1) := by decide +kernel
theorem dX11_program_34 : decode cX11_program 34 = .ok (.aload_n 0, 1) := by decide +kernel
theorem dX11_program_35 : decode cX11_program 35 = .ok (.getfield 13, 3) := by decide +kernel
theorem dX11_program_38 : decode cX11_program 38 = .ok (.iload_n 1, 1) := by decide +kernel
theorem dX11_program_39 : decode cX11_program 39 = .ok (.iconst 0, 1) := by decide +kernel
theorem dX11_program_40 : decode cX11_program 40 = .ok (.iastore, 1) := by decide +kernel
theorem dX11_program_41 : decode cX11_program 41 = .ok (.aload_n 0, 1) := by decide +kernel
theorem dX11_program_42 : decode cX11_program 42 = .ok (.iload_n 1, 1) := by decide +kernel
theorem dX11_program_43 : decode cX11_program 43 = .ok (.invokevirtual 146, 3) := by decide +kernel
theorem dX11_program_46 : decode cX11_program 46 = .ok (.iload_n 1, 1) := by decide +kernel
theorem dX11_program_47 : decode cX11_program 47 = .ok (.ireturn, 1) := by decide +kernel
theorem dX11_order_0 : decode cX11_order 0 = .ok (.aload_n 0, 1) := by decide +kernel
theorem dX11_order_1 : decode cX11_order 1 = .ok (.iconst 0, 1) := by decide +kernel
theorem dX11_order_2 : decode cX11_order 2 = .ok (.putfield 134, 3) := by decide +kernel
theorem dX11_order_5 : decode cX11_order 5 = .ok (.aload_n 0, 1) := by decide +kernel
theorem dX11_order_6 : decode cX11_order 6 = .ok (.iload_n 1, 1) := by decide +kernel
theorem dX11_order_7 : decode cX11_order 7 = .ok (.invokevirtual 150, 3) := by decide +kernel
theorem dX11_order_10 : decode cX11_order 10 = .ok (.ifCond .eq 32, 3) := by decide +kernel
theorem dX11_order_13 : decode cX11_order 13 = .ok (.iload_n 2, 1) := by decide +kernel
theorem dX11_order_14 : decode cX11_order 14 = .ok (.iconst 0, 1) := by decide +kernel
theorem dX11_order_15 : decode cX11_order 15 = .ok (.bipush 15, 2) := by decide +kernel
theorem dX11_order_17 : decode cX11_order 17 = .ok (.invokestatic 142, 3) := by decide +kernel
theorem dX11_order_20 : decode cX11_order 20 = .ok (.ifCond .eq 22, 3) := by decide +kernel
theorem dX11_order_23 : decode cX11_order 23 = .ok (.iload_n 2, 1) := by decide +kernel
theorem dX11_order_24 : decode cX11_order 24 = .ok (.iload_n 3, 1) := by decide +kernel
theorem dX11_order_25 : decode cX11_order 25 = .ok (.invokestatic 154, 3) := by decide +kernel
theorem dX11_order_28 : decode cX11_order 28 = .ok (.ifCond .eq 14, 3) := by decide +kernel
theorem dX11_order_31 : decode cX11_order 31 = .ok (.aload_n 0, 1) := by decide +kernel
theorem dX11_order_32 : decode cX11_order 32 = .ok (.getfield 13, 3) := by decide +kernel
theorem dX11_order_35 : decode cX11_order 35 = .ok (.iload_n 1, 1) := by decide +kernel
theorem dX11_order_36 : decode cX11_order 36 = .ok (.iaload, 1) := by decide +kernel
theorem dX11_order_37 : decode cX11_order 37 = .ok (.bipush 40, 2) := by decide +kernel
theorem dX11_order_39 : decode cX11_order 39 = .ok (.if_icmp .ne 5, 3) := by decide +kernel
theorem dX11_order_42 : decode cX11_order 42 = .ok (.iconst (-1), 1) := by decide +kernel
theorem dX11_order_43 : decode cX11_order 43 = .ok (.ireturn, 1) := by decide +kernel
theorem dX11_order_44 : decode cX11_order 44 = .ok (.bipush 40, 2) := by decide +kernel
theorem dX11_order_46 : decode cX11_order 46 = .ok (.iload_n 1, 1) := by decide +kernel
theorem dX11_order_47 : decode cX11_order 47 = .ok (.imul, 1) := by decide +kernel
theorem dX11_order_48 : decode cX11_order 48 = .ok (.aload_n 0, 1) := by decide +kernel
theorem dX11_order_49 : decode cX11_order 49 = .ok (.getfield 13, 3) := by decide +kernel
theorem dX11_order_52 : decode cX11_order 52 = .ok (.iload_n 1, 1) := by decide +kernel
theorem dX11_order_53 : decode cX11_order 53 = .ok (.iaload, 1) := by decide +kernel
theorem dX11_order_54 : decode cX11_order 54 = .ok (.iadd, 1) := by decide +kernel
theorem dX11_order_55 : decode cX11_order 55 = .ok (.istore 4, 2) := by decide +kernel
theorem dX11_order_57 : decode cX11_order 57 = .ok (.aload_n 0, 1) := by decide +kernel
theorem dX11_order_58 : decode cX11_order 58 = .ok (.getfield 16, 3) := by decide +kernel
theorem dX11_order_61 : decode cX11_order 61 = .ok (.iload 4, 2) := by decide +kernel
theorem dX11_order_63 : decode cX11_order 63 = .ok (.iload_n 2, 1) := by decide +kernel
theorem dX11_order_64 : decode cX11_order 64 = .ok (.iastore, 1) := by decide +kernel
theorem dX11_order_65 : decode cX11_order 65 = .ok (.aload_n 0, 1) := by decide +kernel
theorem dX11_order_66 : decode cX11_order 66 = .ok (.getfield 19, 3) := by decide +kernel
theorem dX11_order_69 : decode cX11_order 69 = .ok (.iload 4, 2) := by decide +kernel
theorem dX11_order_71 : decode cX11_order 71 = .ok (.iload_n 3, 1) := by decide +kernel
theorem dX11_order_72 : decode cX11_order 72 = .ok (.iastore, 1) := by decide +kernel
theorem dX11_order_73 : decode cX11_order 73 = .ok (.aload_n 0, 1) := by decide +kernel
theorem dX11_order_74 : decode cX11_order 74 = .ok (.getfield 13, 3) := by decide +kernel
theorem dX11_order_77 : decode cX11_order 77 = .ok (.iload_n 1, 1) := by decide +kernel
theorem dX11_order_78 : decode cX11_order 78 = .ok (.dup2, 1) := by decide +kernel
theorem dX11_order_79 : decode cX11_order 79 = .ok (.iaload, 1) := by decide +kernel
theorem dX11_order_80 : decode cX11_order 80 = .ok (.iconst 1, 1) := by decide +kernel
theorem dX11_order_81 : decode cX11_order 81 = .ok (.iadd, 1) := by decide +kernel
theorem dX11_order_82 : decode cX11_order 82 = .ok (.iastore, 1) := by decide +kernel
theorem dX11_order_83 : decode cX11_order 83 = .ok (.aload_n 0, 1) := by decide +kernel
theorem dX11_order_84 : decode cX11_order 84 = .ok (.iload_n 1, 1) := by decide +kernel
theorem dX11_order_85 : decode cX11_order 85 = .ok (.invokevirtual 146, 3) := by decide +kernel
theorem dX11_order_88 : decode cX11_order 88 = .ok (.aload_n 0, 1) := by decide +kernel
theorem dX11_order_89 : decode cX11_order 89 = .ok (.getfield 13, 3) := by decide +kernel
theorem dX11_order_92 : decode cX11_order 92 = .ok (.iload_n 1, 1) := by decide +kernel
theorem dX11_order_93 : decode cX11_order 93 = .ok (.iaload, 1) := by decide +kernel
theorem dX11_order_94 : decode cX11_order 94 = .ok (.iconst 1, 1) := by decide +kernel
theorem dX11_order_95 : decode cX11_order 95 = .ok (.isub, 1) := by decide +kernel
theorem dX11_order_96 : decode cX11_order 96 = .ok (.ireturn, 1) := by decide +kernel
theorem dX11_change_0 : decode cX11_change 0 = .ok (.aload_n 0, 1) := by decide +kernel
theorem dX11_change_1 : decode cX11_change 1 = .ok (.iconst 0, 1) := by decide +kernel
theorem dX11_change_2 : decode cX11_change 2 = .ok (.putfield 134, 3) := by decide +kernel
theorem dX11_change_5 : decode cX11_change 5 = .ok (.aload_n 0, 1) := by decide +kernel
theorem dX11_change_6 : decode cX11_change 6 = .ok (.iload_n 1, 1) := by decide +kernel
theorem dX11_change_7 : decode cX11_change 7 = .ok (.invokevirtual 150, 3) := by decide +kernel
theorem dX11_change_10 : decode cX11_change 10 = .ok (.ifCond .eq 19, 3) := by decide +kernel
theorem dX11_change_13 : decode cX11_change 13 = .ok (.iload_n 2, 1) := by decide +kernel
theorem dX11_change_14 : decode cX11_change 14 = .ok (.iconst 0, 1) := by decide +kernel
theorem dX11_change_15 : decode cX11_change 15 = .ok (.aload_n 0, 1) := by decide +kernel
theorem dX11_change_16 : decode cX11_change 16 = .ok (.getfield 13, 3) := by decide +kernel
theorem dX11_change_19 : decode cX11_change 19 = .ok (.iload_n 1, 1) := by decide +kernel
theorem dX11_change_20 : decode cX11_change 20 = .ok (.iaload, 1) := by decide +kernel
theorem dX11_change_21 : decode cX11_change 21 = .ok (.iconst 1, 1) := by decide +kernel
theorem dX11_change_22 : decode cX11_change 22 = .ok (.isub, 1) := by decide +kernel
theorem dX11_change_23 : decode cX11_change 23 = .ok (.invokestatic 142, 3) := by decide +kernel
theorem dX11_change_26 : decode cX11_change 26 = .ok (.ifCond .ne 5, 3) := by decide +kernel
theorem dX11_change_29 : decode cX11_change 29 = .ok (.iconst 0, 1) := by decide +kernel
theorem dX11_change_30 : decode cX11_change 30 = .ok (.ireturn, 1) := by decide +kernel
theorem dX11_change_31 : decode cX11_change 31 = .ok (.bipush 40, 2) := by decide +kernel
theorem dX11_change_33 : decode cX11_change 33 = .ok (.iload_n 1, 1) := by decide +kernel
theorem dX11_change_34 : decode cX11_change 34 = .ok (.imul, 1) := by decide +kernel
theorem dX11_change_35 : decode cX11_change 35 = .ok (.iload_n 2, 1) := by decide +kernel
theorem dX11_change_36 : decode cX11_change 36 = .ok (.iadd, 1) := by decide +kernel
theorem dX11_change_37 : decode cX11_change 37 = .ok (.istore 4, 2) := by decide +kernel
theorem dX11_change_39 : decode cX11_change 39 = .ok (.aload_n 0, 1) := by decide +kernel
theorem dX11_change_40 : decode cX11_change 40 = .ok (.getfield 16, 3) := by decide +kernel
theorem dX11_change_43 : decode cX11_change 43 = .ok (.iload 4, 2) := by decide +kernel
theorem dX11_change_45 : decode cX11_change 45 = .ok (.iaload, 1) := by decide +kernel
theorem dX11_change_46 : decode cX11_change 46 = .ok (.invokestatic 158, 3) := by decide +kernel
theorem dX11_change_49 : decode cX11_change 49 = .ok (.ifCond .eq 17, 3) := by decide +kernel
theorem dX11_change_52 : decode cX11_change 52 = .ok (.aload_n 0, 1) := by decide +kernel
theorem dX11_change_53 : decode cX11_change 53 = .ok (.getfield 16, 3) := by decide +kernel
theorem dX11_change_56 : decode cX11_change 56 = .ok (.iload 4, 2) := by decide +kernel
theorem dX11_change_58 : decode cX11_change 58 = .ok (.iaload, 1) := by decide +kernel
theorem dX11_change_59 : decode cX11_change 59 = .ok (.iload_n 3, 1) := by decide +kernel
theorem dX11_change_60 : decode cX11_change 60 = .ok (.invokestatic 154, 3) := by decide +kernel
theorem dX11_change_63 : decode cX11_change 63 = .ok (.ifCond .ne 5, 3) := by decide +kernel
theorem dX11_change_66 : decode cX11_change 66 = .ok (.iconst 0, 1) := by decide +kernel
theorem dX11_change_67 : decode cX11_change 67 = .ok (.ireturn, 1) := by decide +kernel
theorem dX11_change_68 : decode cX11_change 68 = .ok (.aload_n 0, 1) := by decide +kernel
theorem dX11_change_69 : decode cX11_change 69 = .ok (.getfield 19, 3) := by decide +kernel
theorem dX11_change_72 : decode cX11_change 72 = .ok (.iload 4, 2) := by decide +kernel
theorem dX11_change_74 : decode cX11_change 74 = .ok (.iload_n 3, 1) := by decide +kernel
theorem dX11_change_75 : decode cX11_change 75 = .ok (.iastore, 1) := by decide +kernel
theorem dX11_change_76 : decode cX11_change 76 = .ok (.aload_n 0, 1) := by decide +kernel
theorem dX11_change_77 : decode cX11_change 77 = .ok (.iload_n 1, 1) := by decide +kernel
theorem dX11_change_78 : decode cX11_change 78 = .ok (.invokevirtual 146, 3) := by decide +kernel
theorem dX11_change_81 : decode cX11_change 81 = .ok (.iconst 1, 1) := by decide +kernel
theorem dX11_change_82 : decode cX11_change 82 = .ok (.ireturn, 1) := by decide +kernel
theorem dX11_isLed_0 : decode cX11_isLed 0 = .ok (.iconst 0, 1) := by decide +kernel
theorem dX11_isLed_1 : decode cX11_isLed 1 = .ok (.istore_n 3, 1) := by decide +kernel
theorem dX11_isLed_2 : decode cX11_isLed 2 = .ok (.iload_n 3, 1) := by decide +kernel
theorem dX11_isLed_3 : decode cX11_isLed 3 = .ok (.aload_n 0, 1) := by decide +kernel
theorem dX11_isLed_4 : decode cX11_isLed 4 = .ok (.getfield 13, 3) := by decide +kernel
theorem dX11_isLed_7 : decode cX11_isLed 7 = .ok (.iload_n 1, 1) := by decide +kernel
theorem dX11_isLed_8 : decode cX11_isLed 8 = .ok (.iaload, 1) := by decide +kernel
theorem dX11_isLed_9 : decode cX11_isLed 9 = .ok (.if_icmp .ge 54, 3) := by decide +kernel
theorem dX11_isLed_12 : decode cX11_isLed 12 = .ok (.bipush 40, 2) := by decide +kernel
theorem dX11_isLed_14 : decode cX11_isLed 14 = .ok (.iload_n 1, 1) := by decide +kernel
theorem dX11_isLed_15 : decode cX11_isLed 15 = .ok (.imul, 1) := by decide +kernel
theorem dX11_isLed_16 : decode cX11_isLed 16 = .ok (.iload_n 3, 1) := by decide +kernel
theorem dX11_isLed_17 : decode cX11_isLed 17 = .ok (.iadd, 1) := by decide +kernel
theorem dX11_isLed_18 : decode cX11_isLed 18 = .ok (.istore 4, 2) := by decide +kernel
theorem dX11_isLed_20 : decode cX11_isLed 20 = .ok (.aload_n 0, 1) := by decide +kernel
theorem dX11_isLed_21 : decode cX11_isLed 21 = .ok (.getfield 16, 3) := by decide +kernel
theorem dX11_isLed_24 : decode cX11_isLed 24 = .ok (.iload 4, 2) := by decide +kernel
theorem dX11_isLed_26 : decode cX11_isLed 26 = .ok (.iaload, 1) := by decide +kernel
theorem dX11_isLed_27 : decode cX11_isLed 27 = .ok (.bipush 9, 2) := by decide +kernel
theorem dX11_isLed_29 : decode cX11_isLed 29 = .ok (.if_icmp .eq 15, 3) := by decide +kernel
theorem dX11_isLed_32 : decode cX11_isLed 32 = .ok (.aload_n 0, 1) := by decide +kernel
theorem dX11_isLed_33 : decode cX11_isLed 33 = .ok (.getfield 16, 3) := by decide +kernel
theorem dX11_isLed_36 : decode cX11_isLed 36 = .ok (.iload 4, 2) := by decide +kernel
theorem dX11_isLed_38 : decode cX11_isLed 38 = .ok (.iaload, 1) := by decide +kernel
theorem dX11_isLed_39 : decode cX11_isLed 39 = .ok (.bipush 10, 2) := by decide +kernel
theorem dX11_isLed_41 : decode cX11_isLed 41 = .ok (.if_icmp .ne 16, 3) := by decide +kernel
theorem dX11_isLed_44 : decode cX11_isLed 44 = .ok (.aload_n 0, 1) := by decide +kernel
theorem dX11_isLed_45 : decode cX11_isLed 45 = .ok (.getfield 19, 3) := by decide +kernel
theorem dX11_isLed_48 : decode cX11_isLed 48 = .ok (.iload 4, 2) := by decide +kernel
theorem dX11_isLed_50 : decode cX11_isLed 50 = .ok (.iaload, 1) := by decide +kernel
theorem dX11_isLed_51 : decode cX11_isLed 51 = .ok (.iload_n 2, 1) := by decide +kernel
theorem dX11_isLed_52 : decode cX11_isLed 52 = .ok (.if_icmp .ne 5, 3) := by decide +kernel
theorem dX11_isLed_55 : decode cX11_isLed 55 = .ok (.iconst 1, 1) := by decide +kernel
theorem dX11_isLed_56 : decode cX11_isLed 56 = .ok (.ireturn, 1) := by decide +kernel
theorem dX11_isLed_57 : decode cX11_isLed 57 = .ok (.iinc 3 1, 3) := by decide +kernel
theorem dX11_isLed_60 : decode cX11_isLed 60 = .ok (.goto (-58), 3) := by decide +kernel
theorem dX11_isLed_63 : decode cX11_isLed 63 = .ok (.iconst 0, 1) := by decide +kernel
theorem dX11_isLed_64 : decode cX11_isLed 64 = .ok (.ireturn, 1) := by decide +kernel
theorem dX11_tell_0 : decode cX11_tell 0 = .ok (.aload_n 0, 1) := by decide +kernel
theorem dX11_tell_1 : decode cX11_tell 1 = .ok (.iconst 0, 1) := by decide +kernel
theorem dX11_tell_2 : decode cX11_tell 2 = .ok (.putfield 134, 3) := by decide +kernel
theorem dX11_tell_5 : decode cX11_tell 5 = .ok (.aload_n 0, 1) := by decide +kernel
theorem dX11_tell_6 : decode cX11_tell 6 = .ok (.iload_n 1, 1) := by decide +kernel
theorem dX11_tell_7 : decode cX11_tell 7 = .ok (.invokevirtual 150, 3) := by decide +kernel
theorem dX11_tell_10 : decode cX11_tell 10 = .ok (.ifCond .eq 19, 3) := by decide +kernel
theorem dX11_tell_13 : decode cX11_tell 13 = .ok (.iload_n 2, 1) := by decide +kernel
theorem dX11_tell_14 : decode cX11_tell 14 = .ok (.iconst 0, 1) := by decide +kernel
theorem dX11_tell_15 : decode cX11_tell 15 = .ok (.aload_n 0, 1) := by decide +kernel
theorem dX11_tell_16 : decode cX11_tell 16 = .ok (.getfield 13, 3) := by decide +kernel
theorem dX11_tell_19 : decode cX11_tell 19 = .ok (.iload_n 1, 1) := by decide +kernel
theorem dX11_tell_20 : decode cX11_tell 20 = .ok (.iaload, 1) := by decide +kernel
theorem dX11_tell_21 : decode cX11_tell 21 = .ok (.iconst 1, 1) := by decide +kernel
theorem dX11_tell_22 : decode cX11_tell 22 = .ok (.isub, 1) := by decide +kernel
theorem dX11_tell_23 : decode cX11_tell 23 = .ok (.invokestatic 142, 3) := by decide +kernel
theorem dX11_tell_26 : decode cX11_tell 26 = .ok (.ifCond .ne 5, 3) := by decide +kernel
theorem dX11_tell_29 : decode cX11_tell 29 = .ok (.iconst (-1), 1) := by decide +kernel
theorem dX11_tell_30 : decode cX11_tell 30 = .ok (.ireturn, 1) := by decide +kernel
theorem dX11_tell_31 : decode cX11_tell 31 = .ok (.bipush 40, 2) := by decide +kernel
theorem dX11_tell_33 : decode cX11_tell 33 = .ok (.iload_n 1, 1) := by decide +kernel
theorem dX11_tell_34 : decode cX11_tell 34 = .ok (.imul, 1) := by decide +kernel
theorem dX11_tell_35 : decode cX11_tell 35 = .ok (.iload_n 2, 1) := by decide +kernel
theorem dX11_tell_36 : decode cX11_tell 36 = .ok (.iadd, 1) := by decide +kernel
theorem dX11_tell_37 : decode cX11_tell 37 = .ok (.istore 4, 2) := by decide +kernel
theorem dX11_tell_39 : decode cX11_tell 39 = .ok (.iload_n 3, 1) := by decide +kernel
theorem dX11_tell_40 : decode cX11_tell 40 = .ok (.tableswitch 71 0 3 #[32, 40, 48, 56], 32) := by decide +kernel
theorem dX11_tell_72 : decode cX11_tell 72 = .ok (.aload_n 0, 1) := by decide +kernel
theorem dX11_tell_73 : decode cX11_tell 73 = .ok (.getfield 16, 3) := by decide +kernel
theorem dX11_tell_76 : decode cX11_tell 76 = .ok (.iload 4, 2) := by decide +kernel
theorem dX11_tell_78 : decode cX11_tell 78 = .ok (.iaload, 1) := by decide +kernel
theorem dX11_tell_79 : decode cX11_tell 79 = .ok (.ireturn, 1) := by decide +kernel
theorem dX11_tell_80 : decode cX11_tell 80 = .ok (.aload_n 0, 1) := by decide +kernel
theorem dX11_tell_81 : decode cX11_tell 81 = .ok (.getfield 19, 3) := by decide +kernel
theorem dX11_tell_84 : decode cX11_tell 84 = .ok (.iload 4, 2) := by decide +kernel
theorem dX11_tell_86 : decode cX11_tell 86 = .ok (.iaload, 1) := by decide +kernel
theorem dX11_tell_87 : decode cX11_tell 87 = .ok (.ireturn, 1) := by decide +kernel
theorem dX11_tell_88 : decode cX11_tell 88 = .ok (.aload_n 0, 1) := by decide +kernel
theorem dX11_tell_89 : decode cX11_tell 89 = .ok (.getfield 22, 3) := by decide +kernel
theorem dX11_tell_92 : decode cX11_tell 92 = .ok (.iload 4, 2) := by decide +kernel
theorem dX11_tell_94 : decode cX11_tell 94 = .ok (.iaload, 1) := by decide +kernel
theorem dX11_tell_95 : decode cX11_tell 95 = .ok (.ireturn, 1) := by decide +kernel
theorem dX11_tell_96 : decode cX11_tell 96 = .ok (.aload_n 0, 1) := by decide +kernel
theorem dX11_tell_97 : decode cX11_tell 97 = .ok (.iload_n 1, 1) := by decide +kernel
theorem dX11_tell_98 : decode cX11_tell 98 = .ok (.iload_n 2, 1) := by decide +kernel
theorem dX11_tell_99 : decode cX11_tell 99 = .ok (.invokevirtual 161, 3) := by decide +kernel
theorem dX11_tell_102 : decode cX11_tell 102 = .ok (.ifCond .eq 7, 3) := by decide +kernel
theorem dX11_tell_105 : decode cX11_tell 105 = .ok (.iconst 1, 1) := by decide +kernel
theorem dX11_tell_106 : decode cX11_tell 106 = .ok (.goto 4, 3) := by decide +kernel
theorem dX11_tell_109 : decode cX11_tell 109 = .ok (.iconst 0, 1) := by decide +kernel
theorem dX11_tell_110 : decode cX11_tell 110 = .ok (.ireturn, 1) := by decide +kernel
theorem dX11_tell_111 : decode cX11_tell 111 = .ok (.iconst (-1), 1) := by decide +kernel
theorem dX11_tell_112 : decode cX11_tell 112 = .ok (.ireturn, 1) := by decide +kernel
theorem dX11_isLast_0 : decode cX11_isLast 0 = .ok (.iload_n 0, 1) := by decide +kernel
theorem dX11_isLast_1 : decode cX11_isLast 1 = .ok (.bipush 9, 2) := by decide +kernel
theorem dX11_isLast_3 : decode cX11_isLast 3 = .ok (.if_icmp .eq 15, 3) := by decide +kernel
theorem dX11_isLast_6 : decode cX11_isLast 6 = .ok (.iload_n 0, 1) := by decide +kernel
theorem dX11_isLast_7 : decode cX11_isLast 7 = .ok (.bipush 10, 2) := by decide +kernel
theorem dX11_isLast_9 : decode cX11_isLast 9 = .ok (.if_icmp .eq 9, 3) := by decide +kernel
theorem dX11_isLast_12 : decode cX11_isLast 12 = .ok (.iload_n 0, 1) := by decide +kernel
theorem dX11_isLast_13 : decode cX11_isLast 13 = .ok (.bipush 13, 2) := by decide +kernel
theorem dX11_isLast_15 : decode cX11_isLast 15 = .ok (.if_icmp .ne 7, 3) := by decide +kernel
theorem dX11_isLast_18 : decode cX11_isLast 18 = .ok (.iconst 1, 1) := by decide +kernel
theorem dX11_isLast_19 : decode cX11_isLast 19 = .ok (.goto 4, 3) := by decide +kernel
theorem dX11_isLast_22 : decode cX11_isLast 22 = .ok (.iconst 0, 1) := by decide +kernel
theorem dX11_isLast_23 : decode cX11_isLast 23 = .ok (.ireturn, 1) := by decide +kernel
theorem dX11_join_0 : decode cX11_join 0 = .ok (.aload_n 0, 1) := by decide +kernel
theorem dX11_join_1 : decode cX11_join 1 = .ok (.iconst 0, 1) := by decide +kernel
theorem dX11_join_2 : decode cX11_join 2 = .ok (.putfield 134, 3) := by decide +kernel
theorem dX11_join_5 : decode cX11_join 5 = .ok (.iload_n 1, 1) := by decide +kernel
theorem dX11_join_6 : decode cX11_join 6 = .ok (.iconst 2, 1) := by decide +kernel
theorem dX11_join_7 : decode cX11_join 7 = .ok (.iconst 4, 1) := by decide +kernel
theorem dX11_join_8 : decode cX11_join 8 = .ok (.invokestatic 142, 3) := by decide +kernel
theorem dX11_join_11 : decode cX11_join 11 = .ok (.ifCond .eq 59, 3) := by decide +kernel
theorem dX11_join_14 : decode cX11_join 14 = .ok (.iload_n 2, 1) := by decide +kernel
theorem dX11_join_15 : decode cX11_join 15 = .ok (.iconst 0, 1) := by decide +kernel
theorem dX11_join_16 : decode cX11_join 16 = .ok (.bipush 15, 2) := by decide +kernel
theorem dX11_join_18 : decode cX11_join 18 = .ok (.invokestatic 142, 3) := by decide +kernel
theorem dX11_join_21 : decode cX11_join 21 = .ok (.ifCond .eq 49, 3) := by decide +kernel
theorem dX11_join_24 : decode cX11_join 24 = .ok (.iload_n 3, 1) := by decide +kernel
theorem dX11_join_25 : decode cX11_join 25 = .ok (.iconst 0, 1) := by decide +kernel
theorem dX11_join_26 : decode cX11_join 26 = .ok (.bipush 15, 2) := by decide +kernel
theorem dX11_join_28 : decode cX11_join 28 = .ok (.invokestatic 142, 3) := by decide +kernel
theorem dX11_join_31 : decode cX11_join 31 = .ok (.ifCond .eq 39, 3) := by decide +kernel
theorem dX11_join_34 : decode cX11_join 34 = .ok (.iload_n 1, 1) := by decide +kernel
theorem dX11_join_35 : decode cX11_join 35 = .ok (.iconst 3, 1) := by decide +kernel
theorem dX11_join_36 : decode cX11_join 36 = .ok (.if_icmp .lt 14, 3) := by decide +kernel
theorem dX11_join_39 : decode cX11_join 39 = .ok (.iload 4, 2) := by decide +kernel
theorem dX11_join_41 : decode cX11_join 41 = .ok (.iconst 0, 1) := by decide +kernel
theorem dX11_join_42 : decode cX11_join 42 = .ok (.bipush 15, 2) := by decide +kernel
theorem dX11_join_44 : decode cX11_join 44 = .ok (.invokestatic 142, 3) := by decide +kernel
theorem dX11_join_47 : decode cX11_join 47 = .ok (.ifCond .eq 23, 3) := by decide +kernel
theorem dX11_join_50 : decode cX11_join 50 = .ok (.iload_n 1, 1) := by decide +kernel
theorem dX11_join_51 : decode cX11_join 51 = .ok (.iconst 4, 1) := by decide +kernel
theorem dX11_join_52 : decode cX11_join 52 = .ok (.if_icmp .lt 14, 3) := by decide +kernel
theorem dX11_join_55 : decode cX11_join 55 = .ok (.iload 5, 2) := by decide +kernel
theorem dX11_join_57 : decode cX11_join 57 = .ok (.iconst 0, 1) := by decide +kernel
theorem dX11_join_58 : decode cX11_join 58 = .ok (.bipush 15, 2) := by decide +kernel
theorem dX11_join_60 : decode cX11_join 60 = .ok (.invokestatic 142, 3) := by decide +kernel
theorem dX11_join_63 : decode cX11_join 63 = .ok (.ifCond .eq 7, 3) := by decide +kernel
theorem dX11_join_66 : decode cX11_join 66 = .ok (.iconst 1, 1) := by decide +kernel
theorem dX11_join_67 : decode cX11_join 67 = .ok (.goto 4, 3) := by decide +kernel
theorem dX11_join_70 : decode cX11_join 70 = .ok (.iconst 0, 1) := by decide +kernel
theorem dX11_join_71 : decode cX11_join 71 = .ok (.istore 6, 2) := by decide +kernel
theorem dX11_join_73 : decode cX11_join 73 = .ok (.iload 6, 2) := by decide +kernel
theorem dX11_join_75 : decode cX11_join 75 = .ok (.ifCond .eq 46, 3) := by decide +kernel
theorem dX11_join_78 : decode cX11_join 78 = .ok (.aload_n 0, 1) := by decide +kernel
theorem dX11_join_79 : decode cX11_join 79 = .ok (.getfield 25, 3) := by decide +kernel
theorem dX11_join_82 : decode cX11_join 82 = .ok (.iconst 0, 1) := by decide +kernel
theorem dX11_join_83 : decode cX11_join 83 = .ok (.iaload, 1) := by decide +kernel
theorem dX11_join_84 : decode cX11_join 84 = .ok (.bipush 6, 2) := by decide +kernel
theorem dX11_join_86 : decode cX11_join 86 = .ok (.if_icmp .eq 35, 3) := by decide +kernel
theorem dX11_join_89 : decode cX11_join 89 = .ok (.iload_n 2, 1) := by decide +kernel
theorem dX11_join_90 : decode cX11_join 90 = .ok (.invokestatic 164, 3) := by decide +kernel
theorem dX11_join_93 : decode cX11_join 93 = .ok (.ifCond .ne 28, 3) := by decide +kernel
theorem dX11_join_96 : decode cX11_join 96 = .ok (.iload_n 1, 1) := by decide +kernel
theorem dX11_join_97 : decode cX11_join 97 = .ok (.iconst 2, 1) := by decide +kernel
theorem dX11_join_98 : decode cX11_join 98 = .ok (.if_icmp .le 10, 3) := by decide +kernel
theorem dX11_join_101 : decode cX11_join 101 = .ok (.iload_n 3, 1) := by decide +kernel
theorem dX11_join_102 : decode cX11_join 102 = .ok (.invokestatic 164, 3) := by decide +kernel
theorem dX11_join_105 : decode cX11_join 105 = .ok (.ifCond .ne 16, 3) := by decide +kernel
theorem dX11_join_108 : decode cX11_join 108 = .ok (.iload_n 1, 1) := by decide +kernel
theorem dX11_join_109 : decode cX11_join 109 = .ok (.iconst 3, 1) := by decide +kernel
theorem dX11_join_110 : decode cX11_join 110 = .ok (.if_icmp .le 13, 3) := by decide +kernel
theorem dX11_join_113 : decode cX11_join 113 = .ok (.iload 4, 2) := by decide +kernel
theorem dX11_join_115 : decode cX11_join 115 = .ok (.invokestatic 164, 3) := by decide +kernel
theorem dX11_join_118 : decode cX11_join 118 = .ok (.ifCond .eq 5, 3) := by decide +kernel
theorem dX11_join_121 : decode cX11_join 121 = .ok (.iconst (-1), 1) := by decide +kernel
theorem dX11_join_122 : decode cX11_join 122 = .ok (.ireturn, 1) := by decide +kernel
theorem dX11_join_123 : decode cX11_join 123 = .ok (.iconst 5, 1) := by decide +kernel
theorem dX11_join_124 : decode cX11_join 124 = .ok (.aload_n 0, 1) := by decide +kernel
theorem dX11_join_125 : decode cX11_join 125 = .ok (.getfield 25, 3) := by decide +kernel
theorem dX11_join_128 : decode cX11_join 128 = .ok (.iconst 0, 1) := by decide +kernel
theorem dX11_join_129 : decode cX11_join 129 = .ok (.iaload, 1) := by decide +kernel
theorem dX11_join_130 : decode cX11_join 130 = .ok (.imul, 1) := by decide +kernel
theorem dX11_join_131 : decode cX11_join 131 = .ok (.istore 7, 2) := by decide +kernel
theorem dX11_join_133 : decode cX11_join 133 = .ok (.aload_n 0, 1) := by decide +kernel
theorem dX11_join_134 : decode cX11_join 134 = .ok (.getfield 28, 3) := by decide +kernel
theorem dX11_join_137 : decode cX11_join 137 = .ok (.iload 7, 2) := by decide +kernel
theorem dX11_join_139 : decode cX11_join 139 = .ok (.iload_n 1, 1) := by decide +kernel
theorem dX11_join_140 : decode cX11_join 140 = .ok (.iastore, 1) := by decide +kernel
theorem dX11_join_141 : decode cX11_join 141 = .ok (.aload_n 0, 1) := by decide +kernel
theorem dX11_join_142 : decode cX11_join 142 = .ok (.getfield 28, 3) := by decide +kernel
theorem dX11_join_145 : decode cX11_join 145 = .ok (.iload 7, 2) := by decide +kernel
theorem dX11_join_147 : decode cX11_join 147 = .ok (.iconst 1, 1) := by decide +kernel
theorem dX11_join_148 : decode cX11_join 148 = .ok (.iadd, 1) := by decide +kernel
theorem dX11_join_149 : decode cX11_join 149 = .ok (.iload_n 2, 1) := by decide +kernel
theorem dX11_join_150 : decode cX11_join 150 = .ok (.iastore, 1) := by decide +kernel
theorem dX11_join_151 : decode cX11_join 151 = .ok (.aload_n 0, 1) := by decide +kernel
theorem dX11_join_152 : decode cX11_join 152 = .ok (.getfield 28, 3) := by decide +kernel
theorem dX11_join_155 : decode cX11_join 155 = .ok (.iload 7, 2) := by decide +kernel
theorem dX11_join_157 : decode cX11_join 157 = .ok (.iconst 2, 1) := by decide +kernel
theorem dX11_join_158 : decode cX11_join 158 = .ok (.iadd, 1) := by decide +kernel
theorem dX11_join_159 : decode cX11_join 159 = .ok (.iload_n 3, 1) := by decide +kernel
theorem dX11_join_160 : decode cX11_join 160 = .ok (.iastore, 1) := by decide +kernel
theorem dX11_join_161 : decode cX11_join 161 = .ok (.aload_n 0, 1) := by decide +kernel
theorem dX11_join_162 : decode cX11_join 162 = .ok (.getfield 28, 3) := by decide +kernel
theorem dX11_join_165 : decode cX11_join 165 = .ok (.iload 7, 2) := by decide +kernel
theorem dX11_join_167 : decode cX11_join 167 = .ok (.iconst 3, 1) := by decide +kernel
theorem dX11_join_168 : decode cX11_join 168 = .ok (.iadd, 1) := by decide +kernel
theorem dX11_join_169 : decode cX11_join 169 = .ok (.iload_n 1, 1) := by decide +kernel
theorem dX11_join_170 : decode cX11_join 170 = .ok (.iconst 2, 1) := by decide +kernel
theorem dX11_join_171 : decode cX11_join 171 = .ok (.if_icmp .le 8, 3) := by decide +kernel
theorem dX11_join_174 : decode cX11_join 174 = .ok (.iload 4, 2) := by decide +kernel
theorem dX11_join_176 : decode cX11_join 176 = .ok (.goto 4, 3) := by decide +kernel
theorem dX11_join_179 : decode cX11_join 179 = .ok (.iconst 0, 1) := by decide +kernel
theorem dX11_join_180 : decode cX11_join 180 = .ok (.iastore, 1) := by decide +kernel
theorem dX11_join_181 : decode cX11_join 181 = .ok (.aload_n 0, 1) := by decide +kernel
theorem dX11_join_182 : decode cX11_join 182 = .ok (.getfield 28, 3) := by decide +kernel
theorem dX11_join_185 : decode cX11_join 185 = .ok (.iload 7, 2) := by decide +kernel
theorem dX11_join_187 : decode cX11_join 187 = .ok (.iconst 4, 1) := by decide +kernel
theorem dX11_join_188 : decode cX11_join 188 = .ok (.iadd, 1) := by decide +kernel
theorem dX11_join_189 : decode cX11_join 189 = .ok (.iload_n 1, 1) := by decide +kernel
theorem dX11_join_190 : decode cX11_join 190 = .ok (.iconst 3, 1) := by decide +kernel
theorem dX11_join_191 : decode cX11_join 191 = .ok (.if_icmp .le 8, 3) := by decide +kernel
theorem dX11_join_194 : decode cX11_join 194 = .ok (.iload 5, 2) := by decide +kernel
theorem dX11_join_196 : decode cX11_join 196 = .ok (.goto 4, 3) := by decide +kernel
theorem dX11_join_199 : decode cX11_join 199 = .ok (.iconst 0, 1) := by decide +kernel
theorem dX11_join_200 : decode cX11_join 200 = .ok (.iastore, 1) := by decide +kernel
theorem dX11_join_201 : decode cX11_join 201 = .ok (.iconst 0, 1) := by decide +kernel
theorem dX11_join_202 : decode cX11_join 202 = .ok (.istore 8, 2) := by decide +kernel
theorem dX11_join_204 : decode cX11_join 204 = .ok (.iload 8, 2) := by decide +kernel
theorem dX11_join_206 : decode cX11_join 206 = .ok (.aload_n 0, 1) := by decide +kernel
theorem dX11_join_207 : decode cX11_join 207 = .ok (.getfield 25, 3) := by decide +kernel
theorem dX11_join_210 : decode cX11_join 210 = .ok (.iconst 0, 1) := by decide +kernel
theorem dX11_join_211 : decode cX11_join 211 = .ok (.iaload, 1) := by decide +kernel
theorem dX11_join_212 : decode cX11_join 212 = .ok (.if_icmp .ge 71, 3) := by decide +kernel
theorem dX11_join_215 : decode cX11_join 215 = .ok (.iconst 1, 1) := by decide +kernel
theorem dX11_join_216 : decode cX11_join 216 = .ok (.istore 9, 2) := by decide +kernel
theorem dX11_join_218 : decode cX11_join 218 = .ok (.iconst 0, 1) := by decide +kernel
theorem dX11_join_219 : decode cX11_join 219 = .ok (.istore 10, 2) := by decide +kernel
theorem dX11_join_221 : decode cX11_join 221 = .ok (.iload 10, 2) := by decide +kernel
theorem dX11_join_223 : decode cX11_join 223 = .ok (.iconst 5, 1) := by decide +kernel
theorem dX11_join_224 : decode cX11_join 224 = .ok (.if_icmp .ge 46, 3) := by decide +kernel
theorem dX11_join_227 : decode cX11_join 227 = .ok (.iload 9, 2) := by decide +kernel
theorem dX11_join_229 : decode cX11_join 229 = .ok (.ifCond .eq 32, 3) := by decide +kernel
theorem dX11_join_232 : decode cX11_join 232 = .ok (.aload_n 0, 1) := by decide +kernel
theorem dX11_join_233 : decode cX11_join 233 = .ok (.getfield 28, 3) := by decide +kernel
theorem dX11_join_236 : decode cX11_join 236 = .ok (.iconst 5, 1) := by decide +kernel
theorem dX11_join_237 : decode cX11_join 237 = .ok (.iload 8, 2) := by decide +kernel
theorem dX11_join_239 : decode cX11_join 239 = .ok (.imul, 1) := by decide +kernel
theorem dX11_join_240 : decode cX11_join 240 = .ok (.iload 10, 2) := by decide +kernel
theorem dX11_join_242 : decode cX11_join 242 = .ok (.iadd, 1) := by decide +kernel
theorem dX11_join_243 : decode cX11_join 243 = .ok (.iaload, 1) := by decide +kernel
theorem dX11_join_244 : decode cX11_join 244 = .ok (.aload_n 0, 1) := by decide +kernel
theorem dX11_join_245 : decode cX11_join 245 = .ok (.getfield 28, 3) := by decide +kernel
theorem dX11_join_248 : decode cX11_join 248 = .ok (.iload 7, 2) := by decide +kernel
theorem dX11_join_250 : decode cX11_join 250 = .ok (.iload 10, 2) := by decide +kernel
theorem dX11_join_252 : decode cX11_join 252 = .ok (.iadd, 1) := by decide +kernel
theorem dX11_join_253 : decode cX11_join 253 = .ok (.iaload, 1) := by decide +kernel
theorem dX11_join_254 : decode cX11_join 254 = .ok (.if_icmp .ne 7, 3) := by decide +kernel
theorem dX11_join_257 : decode cX11_join 257 = .ok (.iconst 1, 1) := by decide +kernel
theorem dX11_join_258 : decode cX11_join 258 = .ok (.goto 4, 3) := by decide +kernel
theorem dX11_join_261 : decode cX11_join 261 = .ok (.iconst 0, 1) := by decide +kernel
theorem dX11_join_262 : decode cX11_join 262 = .ok (.istore 9, 2) := by decide +kernel
theorem dX11_join_264 : decode cX11_join 264 = .ok (.iinc 10 1, 3) := by decide +kernel
theorem dX11_join_267 : decode cX11_join 267 = .ok (.goto (-46), 3) := by decide +kernel
theorem dX11_join_270 : decode cX11_join 270 = .ok (.iload 9, 2) := by decide +kernel
theorem dX11_join_272 : decode cX11_join 272 = .ok (.ifCond .eq 5, 3) := by decide +kernel
theorem dX11_join_275 : decode cX11_join 275 = .ok (.iconst (-1), 1) := by decide +kernel
theorem dX11_join_276 : decode cX11_join 276 = .ok (.ireturn, 1) := by decide +kernel
theorem dX11_join_277 : decode cX11_join 277 = .ok (.iinc 8 1, 3) := by decide +kernel
theorem dX11_join_280 : decode cX11_join 280 = .ok (.goto (-76), 3) := by decide +kernel
theorem dX11_join_283 : decode cX11_join 283 = .ok (.aload_n 0, 1) := by decide +kernel
theorem dX11_join_284 : decode cX11_join 284 = .ok (.getfield 25, 3) := by decide +kernel
theorem dX11_join_287 : decode cX11_join 287 = .ok (.iconst 0, 1) := by decide +kernel
theorem dX11_join_288 : decode cX11_join 288 = .ok (.dup2, 1) := by decide +kernel
theorem dX11_join_289 : decode cX11_join 289 = .ok (.iaload, 1) := by decide +kernel
theorem dX11_join_290 : decode cX11_join 290 = .ok (.iconst 1, 1) := by decide +kernel
theorem dX11_join_291 : decode cX11_join 291 = .ok (.iadd, 1) := by decide +kernel
theorem dX11_join_292 : decode cX11_join 292 = .ok (.iastore, 1) := by decide +kernel
theorem dX11_join_293 : decode cX11_join 293 = .ok (.aload_n 0, 1) := by decide +kernel
theorem dX11_join_294 : decode cX11_join 294 = .ok (.getfield 25, 3) := by decide +kernel
theorem dX11_join_297 : decode cX11_join 297 = .ok (.iconst 0, 1) := by decide +kernel
theorem dX11_join_298 : decode cX11_join 298 = .ok (.iaload, 1) := by decide +kernel
theorem dX11_join_299 : decode cX11_join 299 = .ok (.iconst 1, 1) := by decide +kernel
theorem dX11_join_300 : decode cX11_join 300 = .ok (.isub, 1) := by decide +kernel
theorem dX11_join_301 : decode cX11_join 301 = .ok (.ireturn, 1) := by decide +kernel
theorem dX11_part_0 : decode cX11_part 0 = .ok (.aload_n 0, 1) := by decide +kernel
theorem dX11_part_1 : decode cX11_part 1 = .ok (.iconst 0, 1) := by decide +kernel
theorem dX11_part_2 : decode cX11_part 2 = .ok (.putfield 134, 3) := by decide +kernel
theorem dX11_part_5 : decode cX11_part 5 = .ok (.aload_n 0, 1) := by decide +kernel
theorem dX11_part_6 : decode cX11_part 6 = .ok (.getfield 25, 3) := by decide +kernel
theorem dX11_part_9 : decode cX11_part 9 = .ok (.iconst 0, 1) := by decide +kernel
theorem dX11_part_10 : decode cX11_part 10 = .ok (.iconst 0, 1) := by decide +kernel
theorem dX11_part_11 : decode cX11_part 11 = .ok (.iastore, 1) := by decide +kernel
theorem dX11_part_12 : decode cX11_part 12 = .ok (.return_, 1) := by decide +kernel
theorem dX11_joined_0 : decode cX11_joined 0 = .ok (.aload_n 0, 1) := by decide +kernel
theorem dX11_joined_1 : decode cX11_joined 1 = .ok (.iconst 0, 1) := by decide +kernel
theorem dX11_joined_2 : decode cX11_joined 2 = .ok (.putfield 134, 3) := by decide +kernel
theorem dX11_joined_5 : decode cX11_joined 5 = .ok (.iload_n 1, 1) := by decide +kernel
theorem dX11_joined_6 : decode cX11_joined 6 = .ok (.iconst 0, 1) := by decide +kernel
theorem dX11_joined_7 : decode cX11_joined 7 = .ok (.aload_n 0, 1) := by decide +kernel
theorem dX11_joined_8 : decode cX11_joined 8 = .ok (.getfield 25, 3) := by decide +kernel
theorem dX11_joined_11 : decode cX11_joined 11 = .ok (.iconst 0, 1) := by decide +kernel
theorem dX11_joined_12 : decode cX11_joined 12 = .ok (.iaload, 1) := by decide +kernel
theorem dX11_joined_13 : decode cX11_joined 13 = .ok (.iconst 1, 1) := by decide +kernel
theorem dX11_joined_14 : decode cX11_joined 14 = .ok (.isub, 1) := by decide +kernel
theorem dX11_joined_15 : decode cX11_joined 15 = .ok (.invokestatic 142, 3) := by decide +kernel
theorem dX11_joined_18 : decode cX11_joined 18 = .ok (.ifCond .eq 36, 3) := by decide +kernel
theorem dX11_joined_21 : decode cX11_joined 21 = .ok (.iload_n 2, 1) := by decide +kernel
theorem dX11_joined_22 : decode cX11_joined 22 = .ok (.iconst 0, 1) := by decide +kernel
theorem dX11_joined_23 : decode cX11_joined 23 = .ok (.aload_n 0, 1) := by decide +kernel
theorem dX11_joined_24 : decode cX11_joined 24 = .ok (.getfield 28, 3) := by decide +kernel
theorem dX11_joined_27 : decode cX11_joined 27 = .ok (.iconst 5, 1) := by decide +kernel
theorem dX11_joined_28 : decode cX11_joined 28 = .ok (.iload_n 1, 1) := by decide +kernel
theorem dX11_joined_29 : decode cX11_joined 29 = .ok (.imul, 1) := by decide +kernel
theorem dX11_joined_30 : decode cX11_joined 30 = .ok (.iaload, 1) := by decide +kernel
theorem dX11_joined_31 : decode cX11_joined 31 = .ok (.iconst 1, 1) := by decide +kernel
theorem dX11_joined_32 : decode cX11_joined 32 = .ok (.isub, 1) := by decide +kernel
theorem dX11_joined_33 : decode cX11_joined 33 = .ok (.invokestatic 142, 3) := by decide +kernel
theorem dX11_joined_36 : decode cX11_joined 36 = .ok (.ifCond .eq 18, 3) := by decide +kernel
theorem dX11_joined_39 : decode cX11_joined 39 = .ok (.aload_n 0, 1) := by decide +kernel
theorem dX11_joined_40 : decode cX11_joined 40 = .ok (.getfield 28, 3) := by decide +kernel
theorem dX11_joined_43 : decode cX11_joined 43 = .ok (.iconst 5, 1) := by decide +kernel
theorem dX11_joined_44 : decode cX11_joined 44 = .ok (.iload_n 1, 1) := by decide +kernel
theorem dX11_joined_45 : decode cX11_joined 45 = .ok (.imul, 1) := by decide +kernel
theorem dX11_joined_46 : decode cX11_joined 46 = .ok (.iconst 1, 1) := by decide +kernel
theorem dX11_joined_47 : decode cX11_joined 47 = .ok (.iadd, 1) := by decide +kernel
theorem dX11_joined_48 : decode cX11_joined 48 = .ok (.iload_n 2, 1) := by decide +kernel
theorem dX11_joined_49 : decode cX11_joined 49 = .ok (.iadd, 1) := by decide +kernel
theorem dX11_joined_50 : decode cX11_joined 50 = .ok (.iaload, 1) := by decide +kernel
theorem dX11_joined_51 : decode cX11_joined 51 = .ok (.goto 4, 3) := by decide +kernel
theorem dX11_joined_54 : decode cX11_joined 54 = .ok (.iconst (-1), 1) := by decide +kernel
theorem dX11_joined_55 : decode cX11_joined 55 = .ok (.ireturn, 1) := by decide +kernel
theorem dX11_readLed_0 : decode cX11_readLed 0 = .ok (.iconst 0, 1) := by decide +kernel
theorem dX11_readLed_1 : decode cX11_readLed 1 = .ok (.istore_n 2, 1) := by decide +kernel
theorem dX11_readLed_2 : decode cX11_readLed 2 = .ok (.iload_n 2, 1) := by decide +kernel
theorem dX11_readLed_3 : decode cX11_readLed 3 = .ok (.bipush 40, 2) := by decide +kernel
theorem dX11_readLed_5 : decode cX11_readLed 5 = .ok (.if_icmp .gt 16, 3) := by decide +kernel
theorem dX11_readLed_8 : decode cX11_readLed 8 = .ok (.aload_n 0, 1) := by decide +kernel
theorem dX11_readLed_9 : decode cX11_readLed 9 = .ok (.getfield 94, 3) := by decide +kernel
theorem dX11_readLed_12 : decode cX11_readLed 12 = .ok (.iload_n 2, 1) := by decide +kernel
theorem dX11_readLed_13 : decode cX11_readLed 13 = .ok (.iconst 0, 1) := by decide +kernel
theorem dX11_readLed_14 : decode cX11_readLed 14 = .ok (.bastore, 1) := by decide +kernel
theorem dX11_readLed_15 : decode cX11_readLed 15 = .ok (.iinc 2 1, 3) := by decide +kernel
theorem dX11_readLed_18 : decode cX11_readLed 18 = .ok (.goto (-16), 3) := by decide +kernel
theorem dX11_readLed_21 : decode cX11_readLed 21 = .ok (.iconst 0, 1) := by decide +kernel
theorem dX11_readLed_22 : decode cX11_readLed 22 = .ok (.istore_n 2, 1) := by decide +kernel
theorem dX11_readLed_23 : decode cX11_readLed 23 = .ok (.iload_n 2, 1) := by decide +kernel
theorem dX11_readLed_24 : decode cX11_readLed 24 = .ok (.aload_n 0, 1) := by decide +kernel
theorem dX11_readLed_25 : decode cX11_readLed 25 = .ok (.getfield 13, 3) := by decide +kernel
theorem dX11_readLed_28 : decode cX11_readLed 28 = .ok (.iload_n 1, 1) := by decide +kernel
theorem dX11_readLed_29 : decode cX11_readLed 29 = .ok (.iaload, 1) := by decide +kernel
theorem dX11_readLed_30 : decode cX11_readLed 30 = .ok (.if_icmp .ge 50, 3) := by decide +kernel
theorem dX11_readLed_33 : decode cX11_readLed 33 = .ok (.bipush 40, 2) := by decide +kernel
theorem dX11_readLed_35 : decode cX11_readLed 35 = .ok (.iload_n 1, 1) := by decide +kernel
theorem dX11_readLed_36 : decode cX11_readLed 36 = .ok (.imul, 1) := by decide +kernel
theorem dX11_readLed_37 : decode cX11_readLed 37 = .ok (.iload_n 2, 1) := by decide +kernel
theorem dX11_readLed_38 : decode cX11_readLed 38 = .ok (.iadd, 1) := by decide +kernel
theorem dX11_readLed_39 : decode cX11_readLed 39 = .ok (.istore_n 3, 1) := by decide +kernel
theorem dX11_readLed_40 : decode cX11_readLed 40 = .ok (.aload_n 0, 1) := by decide +kernel
theorem dX11_readLed_41 : decode cX11_readLed 41 = .ok (.getfield 16, 3) := by decide +kernel
theorem dX11_readLed_44 : decode cX11_readLed 44 = .ok (.iload_n 3, 1) := by decide +kernel
theorem dX11_readLed_45 : decode cX11_readLed 45 = .ok (.iaload, 1) := by decide +kernel
theorem dX11_readLed_46 : decode cX11_readLed 46 = .ok (.bipush 9, 2) := by decide +kernel
theorem dX11_readLed_48 : decode cX11_readLed 48 = .ok (.if_icmp .eq 14, 3) := by decide +kernel
theorem dX11_readLed_51 : decode cX11_readLed 51 = .ok (.aload_n 0, 1) := by decide +kernel
theorem dX11_readLed_52 : decode cX11_readLed 52 = .ok (.getfield 16, 3) := by decide +kernel
theorem dX11_readLed_55 : decode cX11_readLed 55 = .ok (.iload_n 3, 1) := by decide +kernel
theorem dX11_readLed_56 : decode cX11_readLed 56 = .ok (.iaload, 1) := by decide +kernel
theorem dX11_readLed_57 : decode cX11_readLed 57 = .ok (.bipush 10, 2) := by decide +kernel
theorem dX11_readLed_59 : decode cX11_readLed 59 = .ok (.if_icmp .ne 15, 3) := by decide +kernel
theorem dX11_readLed_62 : decode cX11_readLed 62 = .ok (.aload_n 0, 1) := by decide +kernel
theorem dX11_readLed_63 : decode cX11_readLed 63 = .ok (.getfield 94, 3) := by decide +kernel
theorem dX11_readLed_66 : decode cX11_readLed 66 = .ok (.aload_n 0, 1) := by decide +kernel
theorem dX11_readLed_67 : decode cX11_readLed 67 = .ok (.getfield 19, 3) := by decide +kernel
theorem dX11_readLed_70 : decode cX11_readLed 70 = .ok (.iload_n 3, 1) := by decide +kernel
theorem dX11_readLed_71 : decode cX11_readLed 71 = .ok (.iaload, 1) := by decide +kernel
theorem dX11_readLed_72 : decode cX11_readLed 72 = .ok (.iconst 1, 1) := by decide +kernel
theorem dX11_readLed_73 : decode cX11_readLed 73 = .ok (.bastore, 1) := by decide +kernel
theorem dX11_readLed_74 : decode cX11_readLed 74 = .ok (.iinc 2 1, 3) := by decide +kernel
theorem dX11_readLed_77 : decode cX11_readLed 77 = .ok (.goto (-54), 3) := by decide +kernel
theorem dX11_readLed_80 : decode cX11_readLed 80 = .ok (.return_, 1) := by decide +kernel
theorem dX11_stands_0 : decode cX11_stands 0 = .ok (.aload_n 0, 1) := by decide +kernel
theorem dX11_stands_1 : decode cX11_stands 1 = .ok (.getfield 91, 3) := by decide +kernel
theorem dX11_stands_4 : decode cX11_stands 4 = .ok (.iload_n 3, 1) := by decide +kernel
theorem dX11_stands_5 : decode cX11_stands 5 = .ok (.iaload, 1) := by decide +kernel
theorem dX11_stands_6 : decode cX11_stands 6 = .ok (.istore 4, 2) := by decide +kernel
theorem dX11_stands_8 : decode cX11_stands 8 = .ok (.iload_n 2, 1) := by decide +kernel
theorem dX11_stands_9 : decode cX11_stands 9 = .ok (.iload 4, 2) := by decide +kernel
theorem dX11_stands_11 : decode cX11_stands 11 = .ok (.iadd, 1) := by decide +kernel
theorem dX11_stands_12 : decode cX11_stands 12 = .ok (.aload_n 0, 1) := by decide +kernel
theorem dX11_stands_13 : decode cX11_stands 13 = .ok (.getfield 13, 3) := by decide +kernel
theorem dX11_stands_16 : decode cX11_stands 16 = .ok (.iload_n 1, 1) := by decide +kernel
theorem dX11_stands_17 : decode cX11_stands 17 = .ok (.iaload, 1) := by decide +kernel
theorem dX11_stands_18 : decode cX11_stands 18 = .ok (.if_icmp .le 5, 3) := by decide +kernel
theorem dX11_stands_21 : decode cX11_stands 21 = .ok (.iconst 0, 1) := by decide +kernel
theorem dX11_stands_22 : decode cX11_stands 22 = .ok (.ireturn, 1) := by decide +kernel
theorem dX11_stands_23 : decode cX11_stands 23 = .ok (.iconst 0, 1) := by decide +kernel
theorem dX11_stands_24 : decode cX11_stands 24 = .ok (.istore 5, 2) := by decide +kernel
theorem dX11_stands_26 : decode cX11_stands 26 = .ok (.iload 5, 2) := by decide +kernel
theorem dX11_stands_28 : decode cX11_stands 28 = .ok (.iload 4, 2) := by decide +kernel
theorem dX11_stands_30 : decode cX11_stands 30 = .ok (.if_icmp .ge 56, 3) := by decide +kernel
theorem dX11_stands_33 : decode cX11_stands 33 = .ok (.aload_n 0, 1) := by decide +kernel
theorem dX11_stands_34 : decode cX11_stands 34 = .ok (.getfield 16, 3) := by decide +kernel
theorem dX11_stands_37 : decode cX11_stands 37 = .ok (.bipush 40, 2) := by decide +kernel
theorem dX11_stands_39 : decode cX11_stands 39 = .ok (.iload_n 1, 1) := by decide +kernel
theorem dX11_stands_40 : decode cX11_stands 40 = .ok (.imul, 1) := by decide +kernel
theorem dX11_stands_41 : decode cX11_stands 41 = .ok (.iload_n 2, 1) := by decide +kernel
theorem dX11_stands_42 : decode cX11_stands 42 = .ok (.iadd, 1) := by decide +kernel
theorem dX11_stands_43 : decode cX11_stands 43 = .ok (.iload 5, 2) := by decide +kernel
theorem dX11_stands_45 : decode cX11_stands 45 = .ok (.iadd, 1) := by decide +kernel
theorem dX11_stands_46 : decode cX11_stands 46 = .ok (.iaload, 1) := by decide +kernel
theorem dX11_stands_47 : decode cX11_stands 47 = .ok (.aload_n 0, 1) := by decide +kernel
theorem dX11_stands_48 : decode cX11_stands 48 = .ok (.getfield 91, 3) := by decide +kernel
theorem dX11_stands_51 : decode cX11_stands 51 = .ok (.iload_n 3, 1) := by decide +kernel
theorem dX11_stands_52 : decode cX11_stands 52 = .ok (.iconst 1, 1) := by decide +kernel
theorem dX11_stands_53 : decode cX11_stands 53 = .ok (.iadd, 1) := by decide +kernel
theorem dX11_stands_54 : decode cX11_stands 54 = .ok (.iload 5, 2) := by decide +kernel
theorem dX11_stands_56 : decode cX11_stands 56 = .ok (.iadd, 1) := by decide +kernel
theorem dX11_stands_57 : decode cX11_stands 57 = .ok (.iaload, 1) := by decide +kernel
theorem dX11_stands_58 : decode cX11_stands 58 = .ok (.if_icmp .ne 20, 3) := by decide +kernel
theorem dX11_stands_61 : decode cX11_stands 61 = .ok (.iload 5, 2) := by decide +kernel
theorem dX11_stands_63 : decode cX11_stands 63 = .ok (.ifCond .le 17, 3) := by decide +kernel
theorem dX11_stands_66 : decode cX11_stands 66 = .ok (.aload_n 0, 1) := by decide +kernel
theorem dX11_stands_67 : decode cX11_stands 67 = .ok (.getfield 94, 3) := by decide +kernel
theorem dX11_stands_70 : decode cX11_stands 70 = .ok (.iload_n 2, 1) := by decide +kernel
theorem dX11_stands_71 : decode cX11_stands 71 = .ok (.iload 5, 2) := by decide +kernel
theorem dX11_stands_73 : decode cX11_stands 73 = .ok (.iadd, 1) := by decide +kernel
theorem dX11_stands_74 : decode cX11_stands 74 = .ok (.baload, 1) := by decide +kernel
theorem dX11_stands_75 : decode cX11_stands 75 = .ok (.ifCond .eq 5, 3) := by decide +kernel
theorem dX11_stands_78 : decode cX11_stands 78 = .ok (.iconst 0, 1) := by decide +kernel
theorem dX11_stands_79 : decode cX11_stands 79 = .ok (.ireturn, 1) := by decide +kernel
theorem dX11_stands_80 : decode cX11_stands 80 = .ok (.iinc 5 1, 3) := by decide +kernel
theorem dX11_stands_83 : decode cX11_stands 83 = .ok (.goto (-57), 3) := by decide +kernel
theorem dX11_stands_86 : decode cX11_stands 86 = .ok (.iconst 1, 1) := by decide +kernel
theorem dX11_stands_87 : decode cX11_stands 87 = .ok (.ireturn, 1) := by decide +kernel
theorem dX11_findLeast_0 : decode cX11_findLeast 0 = .ok (.aload_n 0, 1) := by decide +kernel
theorem dX11_findLeast_1 : decode cX11_findLeast 1 = .ok (.iload_n 1, 1) := by decide +kernel
theorem dX11_findLeast_2 : decode cX11_findLeast 2 = .ok (.invokevirtual 167, 3) := by decide +kernel
theorem dX11_findLeast_5 : decode cX11_findLeast 5 = .ok (.aload_n 0, 1) := by decide +kernel
theorem dX11_findLeast_6 : decode cX11_findLeast 6 = .ok (.getfield 98, 3) := by decide +kernel
theorem dX11_findLeast_9 : decode cX11_findLeast 9 = .ok (.aload_n 0, 1) := by decide +kernel
theorem dX11_findLeast_10 : decode cX11_findLeast 10 = .ok (.getfield 13, 3) := by decide +kernel
theorem dX11_findLeast_13 : decode cX11_findLeast 13 = .ok (.iload_n 1, 1) := by decide +kernel
theorem dX11_findLeast_14 : decode cX11_findLeast 14 = .ok (.iaload, 1) := by decide +kernel
theorem dX11_findLeast_15 : decode cX11_findLeast 15 = .ok (.iconst 0, 1) := by decide +kernel
theorem dX11_findLeast_16 : decode cX11_findLeast 16 = .ok (.iastore, 1) := by decide +kernel
theorem dX11_findLeast_17 : decode cX11_findLeast 17 = .ok (.aload_n 0, 1) := by decide +kernel
theorem dX11_findLeast_18 : decode cX11_findLeast 18 = .ok (.getfield 13, 3) := by decide +kernel
theorem dX11_findLeast_21 : decode cX11_findLeast 21 = .ok (.iload_n 1, 1) := by decide +kernel
theorem dX11_findLeast_22 : decode cX11_findLeast 22 = .ok (.iaload, 1) := by decide +kernel
theorem dX11_findLeast_23 : decode cX11_findLeast 23 = .ok (.iconst 1, 1) := by decide +kernel
theorem dX11_findLeast_24 : decode cX11_findLeast 24 = .ok (.isub, 1) := by decide +kernel
theorem dX11_findLeast_25 : decode cX11_findLeast 25 = .ok (.istore_n 3, 1) := by decide +kernel
theorem dX11_findLeast_26 : decode cX11_findLeast 26 = .ok (.iload_n 3, 1) := by decide +kernel
theorem dX11_findLeast_27 : decode cX11_findLeast 27 = .ok (.ifCond .lt 120, 3) := by decide +kernel
theorem dX11_findLeast_30 : decode cX11_findLeast 30 = .ok (.iload_n 2, 1) := by decide +kernel
theorem dX11_findLeast_31 : decode cX11_findLeast 31 = .ok (.iconst 1, 1) := by decide +kernel
theorem dX11_findLeast_32 : decode cX11_findLeast 32 = .ok (.if_icmp .ne 17, 3) := by decide +kernel
theorem dX11_findLeast_35 : decode cX11_findLeast 35 = .ok (.aload_n 0, 1) := by decide +kernel
theorem dX11_findLeast_36 : decode cX11_findLeast 36 = .ok (.getfield 22, 3) := by decide +kernel
theorem dX11_findLeast_39 : decode cX11_findLeast 39 = .ok (.bipush 40, 2) := by decide +kernel
theorem dX11_findLeast_41 : decode cX11_findLeast 41 = .ok (.iload_n 1, 1) := by decide +kernel
theorem dX11_findLeast_42 : decode cX11_findLeast 42 = .ok (.imul, 1) := by decide +kernel
theorem dX11_findLeast_43 : decode cX11_findLeast 43 = .ok (.iload_n 3, 1) := by decide +kernel
theorem dX11_findLeast_44 : decode cX11_findLeast 44 = .ok (.iadd, 1) := by decide +kernel
theorem dX11_findLeast_45 : decode cX11_findLeast 45 = .ok (.iaload, 1) := by decide +kernel
theorem dX11_findLeast_46 : decode cX11_findLeast 46 = .ok (.goto 4, 3) := by decide +kernel
theorem dX11_findLeast_49 : decode cX11_findLeast 49 = .ok (.iconst 1, 1) := by decide +kernel
theorem dX11_findLeast_50 : decode cX11_findLeast 50 = .ok (.istore 4, 2) := by decide +kernel
theorem dX11_findLeast_52 : decode cX11_findLeast 52 = .ok (.iload 4, 2) := by decide +kernel
theorem dX11_findLeast_54 : decode cX11_findLeast 54 = .ok (.aload_n 0, 1) := by decide +kernel
theorem dX11_findLeast_55 : decode cX11_findLeast 55 = .ok (.getfield 98, 3) := by decide +kernel
theorem dX11_findLeast_58 : decode cX11_findLeast 58 = .ok (.iload_n 3, 1) := by decide +kernel
theorem dX11_findLeast_59 : decode cX11_findLeast 59 = .ok (.iconst 1, 1) := by decide +kernel
theorem dX11_findLeast_60 : decode cX11_findLeast 60 = .ok (.iadd, 1) := by decide +kernel
theorem dX11_findLeast_61 : decode cX11_findLeast 61 = .ok (.iaload, 1) := by decide +kernel
theorem dX11_findLeast_62 : decode cX11_findLeast 62 = .ok (.iadd, 1) := by decide +kernel
theorem dX11_findLeast_63 : decode cX11_findLeast 63 = .ok (.istore 5, 2) := by decide +kernel
theorem dX11_findLeast_65 : decode cX11_findLeast 65 = .ok (.iconst 0, 1) := by decide +kernel
theorem dX11_findLeast_66 : decode cX11_findLeast 66 = .ok (.istore 6, 2) := by decide +kernel
theorem dX11_findLeast_68 : decode cX11_findLeast 68 = .ok (.iload 6, 2) := by decide +kernel
theorem dX11_findLeast_70 : decode cX11_findLeast 70 = .ok (.aload_n 0, 1) := by decide +kernel
theorem dX11_findLeast_71 : decode cX11_findLeast 71 = .ok (.getfield 170, 3) := by decide +kernel
theorem dX11_findLeast_74 : decode cX11_findLeast 74 = .ok (.if_icmp .ge 59, 3) := by decide +kernel
theorem dX11_findLeast_77 : decode cX11_findLeast 77 = .ok (.aload_n 0, 1) := by decide +kernel
theorem dX11_findLeast_78 : decode cX11_findLeast 78 = .ok (.iload_n 1, 1) := by decide +kernel
theorem dX11_findLeast_79 : decode cX11_findLeast 79 = .ok (.iload_n 3, 1) := by decide +kernel
theorem dX11_findLeast_80 : decode cX11_findLeast 80 = .ok (.iconst 5, 1) := by decide +kernel
theorem dX11_findLeast_81 : decode cX11_findLeast 81 = .ok (.iload 6, 2) := by decide +kernel
theorem dX11_findLeast_83 : decode cX11_findLeast 83 = .ok (.imul, 1) := by decide +kernel
theorem dX11_findLeast_84 : decode cX11_findLeast 84 = .ok (.invokevirtual 173, 3) := by decide +kernel
theorem dX11_findLeast_87 : decode cX11_findLeast 87 = .ok (.ifCond .eq 40, 3) := by decide +kernel
theorem dX11_findLeast_90 : decode cX11_findLeast 90 = .ok (.iload 4, 2) := by decide +kernel
theorem dX11_findLeast_92 : decode cX11_findLeast 92 = .ok (.aload_n 0, 1) := by decide +kernel
theorem dX11_findLeast_93 : decode cX11_findLeast 93 = .ok (.getfield 98, 3) := by decide +kernel
theorem dX11_findLeast_96 : decode cX11_findLeast 96 = .ok (.iload_n 3, 1) := by decide +kernel
theorem dX11_findLeast_97 : decode cX11_findLeast 97 = .ok (.aload_n 0, 1) := by decide +kernel
theorem dX11_findLeast_98 : decode cX11_findLeast 98 = .ok (.getfield 91, 3) := by decide +kernel
theorem dX11_findLeast_101 : decode cX11_findLeast 101 = .ok (.iconst 5, 1) := by decide +kernel
theorem dX11_findLeast_102 : decode cX11_findLeast 102 = .ok (.iload 6, 2) := by decide +kernel
theorem dX11_findLeast_104 : decode cX11_findLeast 104 = .ok (.imul, 1) := by decide +kernel
theorem dX11_findLeast_105 : decode cX11_findLeast 105 = .ok (.iaload, 1) := by decide +kernel
theorem dX11_findLeast_106 : decode cX11_findLeast 106 = .ok (.iadd, 1) := by decide +kernel
theorem dX11_findLeast_107 : decode cX11_findLeast 107 = .ok (.iaload, 1) := by decide +kernel
theorem dX11_findLeast_108 : decode cX11_findLeast 108 = .ok (.iadd, 1) := by decide +kernel
theorem dX11_findLeast_109 : decode cX11_findLeast 109 = .ok (.istore 7, 2) := by decide +kernel
theorem dX11_findLeast_111 : decode cX11_findLeast 111 = .ok (.iload 7, 2) := by decide +kernel
theorem dX11_findLeast_113 : decode cX11_findLeast 113 = .ok (.iload 5, 2) := by decide +kernel
theorem dX11_findLeast_115 : decode cX11_findLeast 115 = .ok (.if_icmp .ge 8, 3) := by decide +kernel
theorem dX11_findLeast_118 : decode cX11_findLeast 118 = .ok (.iload 7, 2) := by decide +kernel
theorem dX11_findLeast_120 : decode cX11_findLeast 120 = .ok (.goto 5, 3) := by decide +kernel
theorem dX11_findLeast_123 : decode cX11_findLeast 123 = .ok (.iload 5, 2) := by decide +kernel
theorem dX11_findLeast_125 : decode cX11_findLeast 125 = .ok (.istore 5, 2) := by decide +kernel
theorem dX11_findLeast_127 : decode cX11_findLeast 127 = .ok (.iinc 6 1, 3) := by decide +kernel
theorem dX11_findLeast_130 : decode cX11_findLeast 130 = .ok (.goto (-62), 3) := by decide +kernel
theorem dX11_findLeast_133 : decode cX11_findLeast 133 = .ok (.aload_n 0, 1) := by decide +kernel
theorem dX11_findLeast_134 : decode cX11_findLeast 134 = .ok (.getfield 98, 3) := by decide +kernel
theorem dX11_findLeast_137 : decode cX11_findLeast 137 = .ok (.iload_n 3, 1) := by decide +kernel
theorem dX11_findLeast_138 : decode cX11_findLeast 138 = .ok (.iload 5, 2) := by decide +kernel
theorem dX11_findLeast_140 : decode cX11_findLeast 140 = .ok (.iastore, 1) := by decide +kernel
theorem dX11_findLeast_141 : decode cX11_findLeast 141 = .ok (.iinc 3 (-1), 3) := by decide +kernel
theorem dX11_findLeast_144 : decode cX11_findLeast 144 = .ok (.goto (-118), 3) := by decide +kernel
theorem dX11_findLeast_147 : decode cX11_findLeast 147 = .ok (.return_, 1) := by decide +kernel
theorem dX11_takeJoins_0 : decode cX11_takeJoins 0 = .ok (.aload_n 0, 1) := by decide +kernel
theorem dX11_takeJoins_1 : decode cX11_takeJoins 1 = .ok (.aload_n 0, 1) := by decide +kernel
theorem dX11_takeJoins_2 : decode cX11_takeJoins 2 = .ok (.getfield 25, 3) := by decide +kernel
theorem dX11_takeJoins_5 : decode cX11_takeJoins 5 = .ok (.iconst 0, 1) := by decide +kernel
theorem dX11_takeJoins_6 : decode cX11_takeJoins 6 = .ok (.iaload, 1) := by decide +kernel
theorem dX11_takeJoins_7 : decode cX11_takeJoins 7 = .ok (.putfield 170, 3) := by decide +kernel
theorem dX11_takeJoins_10 : decode cX11_takeJoins 10 = .ok (.iconst 0, 1) := by decide +kernel
theorem dX11_takeJoins_11 : decode cX11_takeJoins 11 = .ok (.istore_n 1, 1) := by decide +kernel
theorem dX11_takeJoins_12 : decode cX11_takeJoins 12 = .ok (.iload_n 1, 1) := by decide +kernel
theorem dX11_takeJoins_13 : decode cX11_takeJoins 13 = .ok (.iconst 5, 1) := by decide +kernel
theorem dX11_takeJoins_14 : decode cX11_takeJoins 14 = .ok (.aload_n 0, 1) := by decide +kernel
theorem dX11_takeJoins_15 : decode cX11_takeJoins 15 = .ok (.getfield 170, 3) := by decide +kernel
theorem dX11_takeJoins_18 : decode cX11_takeJoins 18 = .ok (.imul, 1) := by decide +kernel
theorem dX11_takeJoins_19 : decode cX11_takeJoins 19 = .ok (.if_icmp .ge 21, 3) := by decide +kernel
theorem dX11_takeJoins_22 : decode cX11_takeJoins 22 = .ok (.aload_n 0, 1) := by decide +kernel
theorem dX11_takeJoins_23 : decode cX11_takeJoins 23 = .ok (.getfield 91, 3) := by decide +kernel
theorem dX11_takeJoins_26 : decode cX11_takeJoins 26 = .ok (.iload_n 1, 1) := by decide +kernel
theorem dX11_takeJoins_27 : decode cX11_takeJoins 27 = .ok (.aload_n 0, 1) := by decide +kernel
theorem dX11_takeJoins_28 : decode cX11_takeJoins 28 = .ok (.getfield 28, 3) := by decide +kernel
theorem dX11_takeJoins_31 : decode cX11_takeJoins 31 = .ok (.iload_n 1, 1) := by decide +kernel
theorem dX11_takeJoins_32 : decode cX11_takeJoins 32 = .ok (.iaload, 1) := by decide +kernel
theorem dX11_takeJoins_33 : decode cX11_takeJoins 33 = .ok (.iastore, 1) := by decide +kernel
theorem dX11_takeJoins_34 : decode cX11_takeJoins 34 = .ok (.iinc 1 1, 3) := by decide +kernel
theorem dX11_takeJoins_37 : decode cX11_takeJoins 37 = .ok (.goto (-25), 3) := by decide +kernel
theorem dX11_takeJoins_40 : decode cX11_takeJoins 40 = .ok (.return_, 1) := by decide +kernel
theorem dX11_costOf_0 : decode cX11_costOf 0 = .ok (.iconst 0, 1) := by decide +kernel
theorem dX11_costOf_1 : decode cX11_costOf 1 = .ok (.istore_n 2, 1) := by decide +kernel
theorem dX11_costOf_2 : decode cX11_costOf 2 = .ok (.iconst 0, 1) := by decide +kernel
theorem dX11_costOf_3 : decode cX11_costOf 3 = .ok (.istore_n 3, 1) := by decide +kernel
theorem dX11_costOf_4 : decode cX11_costOf 4 = .ok (.iload_n 3, 1) := by decide +kernel
theorem dX11_costOf_5 : decode cX11_costOf 5 = .ok (.aload_n 0, 1) := by decide +kernel
theorem dX11_costOf_6 : decode cX11_costOf 6 = .ok (.getfield 7, 3) := by decide +kernel
theorem dX11_costOf_9 : decode cX11_costOf 9 = .ok (.iconst 0, 1) := by decide +kernel
theorem dX11_costOf_10 : decode cX11_costOf 10 = .ok (.iaload, 1) := by decide +kernel
theorem dX11_costOf_11 : decode cX11_costOf 11 = .ok (.if_icmp .ge 24, 3) := by decide +kernel
theorem dX11_costOf_14 : decode cX11_costOf 14 = .ok (.aload_n 0, 1) := by decide +kernel
theorem dX11_costOf_15 : decode cX11_costOf 15 = .ok (.iload_n 3, 1) := by decide +kernel
theorem dX11_costOf_16 : decode cX11_costOf 16 = .ok (.iload_n 1, 1) := by decide +kernel
theorem dX11_costOf_17 : decode cX11_costOf 17 = .ok (.invokevirtual 176, 3) := by decide +kernel
theorem dX11_costOf_20 : decode cX11_costOf 20 = .ok (.iload_n 2, 1) := by decide +kernel
theorem dX11_costOf_21 : decode cX11_costOf 21 = .ok (.aload_n 0, 1) := by decide +kernel
theorem dX11_costOf_22 : decode cX11_costOf 22 = .ok (.getfield 98, 3) := by decide +kernel
theorem dX11_costOf_25 : decode cX11_costOf 25 = .ok (.iconst 0, 1) := by decide +kernel
theorem dX11_costOf_26 : decode cX11_costOf 26 = .ok (.iaload, 1) := by decide +kernel
theorem dX11_costOf_27 : decode cX11_costOf 27 = .ok (.iadd, 1) := by decide +kernel
theorem dX11_costOf_28 : decode cX11_costOf 28 = .ok (.istore_n 2, 1) := by decide +kernel
theorem dX11_costOf_29 : decode cX11_costOf 29 = .ok (.iinc 3 1, 3) := by decide +kernel
theorem dX11_costOf_32 : decode cX11_costOf 32 = .ok (.goto (-28), 3) := by decide +kernel
theorem dX11_costOf_35 : decode cX11_costOf 35 = .ok (.iload_n 2, 1) := by decide +kernel
theorem dX11_costOf_36 : decode cX11_costOf 36 = .ok (.ireturn, 1) := by decide +kernel
theorem dX11_putByte_0 : decode cX11_putByte 0 = .ok (.aload_n 0, 1) := by decide +kernel
theorem dX11_putByte_1 : decode cX11_putByte 1 = .ok (.getfield 49, 3) := by decide +kernel
theorem dX11_putByte_4 : decode cX11_putByte 4 = .ok (.aload_n 0, 1) := by decide +kernel
theorem dX11_putByte_5 : decode cX11_putByte 5 = .ok (.getfield 46, 3) := by decide +kernel
theorem dX11_putByte_8 : decode cX11_putByte 8 = .ok (.iconst 0, 1) := by decide +kernel
theorem dX11_putByte_9 : decode cX11_putByte 9 = .ok (.iaload, 1) := by decide +kernel
theorem dX11_putByte_10 : decode cX11_putByte 10 = .ok (.iload_n 1, 1) := by decide +kernel
theorem dX11_putByte_11 : decode cX11_putByte 11 = .ok (.sipush 255, 3) := by decide +kernel
theorem dX11_putByte_14 : decode cX11_putByte 14 = .ok (.iand, 1) := by decide +kernel
theorem dX11_putByte_15 : decode cX11_putByte 15 = .ok (.iastore, 1) := by decide +kernel
theorem dX11_putByte_16 : decode cX11_putByte 16 = .ok (.aload_n 0, 1) := by decide +kernel
theorem dX11_putByte_17 : decode cX11_putByte 17 = .ok (.getfield 46, 3) := by decide +kernel
theorem dX11_putByte_20 : decode cX11_putByte 20 = .ok (.iconst 0, 1) := by decide +kernel
theorem dX11_putByte_21 : decode cX11_putByte 21 = .ok (.dup2, 1) := by decide +kernel
theorem dX11_putByte_22 : decode cX11_putByte 22 = .ok (.iaload, 1) := by decide +kernel
theorem dX11_putByte_23 : decode cX11_putByte 23 = .ok (.iconst 1, 1) := by decide +kernel
theorem dX11_putByte_24 : decode cX11_putByte 24 = .ok (.iadd, 1) := by decide +kernel
theorem dX11_putByte_25 : decode cX11_putByte 25 = .ok (.iastore, 1) := by decide +kernel
theorem dX11_putByte_26 : decode cX11_putByte 26 = .ok (.return_, 1) := by decide +kernel
theorem dX11_pack_0 : decode cX11_pack 0 = .ok (.aload_n 0, 1) := by decide +kernel
theorem dX11_pack_1 : decode cX11_pack 1 = .ok (.iconst 0, 1) := by decide +kernel
theorem dX11_pack_2 : decode cX11_pack 2 = .ok (.putfield 134, 3) := by decide +kernel
theorem dX11_pack_5 : decode cX11_pack 5 = .ok (.aload_n 0, 1) := by decide +kernel
theorem dX11_pack_6 : decode cX11_pack 6 = .ok (.iload_n 1, 1) := by decide +kernel
theorem dX11_pack_7 : decode cX11_pack 7 = .ok (.invokevirtual 150, 3) := by decide +kernel
theorem dX11_pack_10 : decode cX11_pack 10 = .ok (.ifCond .ne 5, 3) := by decide +kernel
theorem dX11_pack_13 : decode cX11_pack 13 = .ok (.iconst (-1), 1) := by decide +kernel
theorem dX11_pack_14 : decode cX11_pack 14 = .ok (.ireturn, 1) := by decide +kernel
theorem dX11_pack_15 : decode cX11_pack 15 = .ok (.aload_n 0, 1) := by decide +kernel
theorem dX11_pack_16 : decode cX11_pack 16 = .ok (.invokevirtual 180, 3) := by decide +kernel
theorem dX11_pack_19 : decode cX11_pack 19 = .ok (.aload_n 0, 1) := by decide +kernel
theorem dX11_pack_20 : decode cX11_pack 20 = .ok (.iload_n 1, 1) := by decide +kernel
theorem dX11_pack_21 : decode cX11_pack 21 = .ok (.iconst 0, 1) := by decide +kernel
theorem dX11_pack_22 : decode cX11_pack 22 = .ok (.invokevirtual 176, 3) := by decide +kernel
theorem dX11_pack_25 : decode cX11_pack 25 = .ok (.aload_n 0, 1) := by decide +kernel
theorem dX11_pack_26 : decode cX11_pack 26 = .ok (.getfield 13, 3) := by decide +kernel
theorem dX11_pack_29 : decode cX11_pack 29 = .ok (.iload_n 1, 1) := by decide +kernel
theorem dX11_pack_30 : decode cX11_pack 30 = .ok (.iaload, 1) := by decide +kernel
theorem dX11_pack_31 : decode cX11_pack 31 = .ok (.istore_n 2, 1) := by decide +kernel
theorem dX11_pack_32 : decode cX11_pack 32 = .ok (.aload_n 0, 1) := by decide +kernel
theorem dX11_pack_33 : decode cX11_pack 33 = .ok (.getfield 31, 3) := by decide +kernel
theorem dX11_pack_36 : decode cX11_pack 36 = .ok (.iconst 0, 1) := by decide +kernel
theorem dX11_pack_37 : decode cX11_pack 37 = .ok (.iload_n 2, 1) := by decide +kernel
theorem dX11_pack_38 : decode cX11_pack 38 = .ok (.iastore, 1) := by decide +kernel
theorem dX11_pack_39 : decode cX11_pack 39 = .ok (.iconst 0, 1) := by decide +kernel
theorem dX11_pack_40 : decode cX11_pack 40 = .ok (.istore_n 3, 1) := by decide +kernel
theorem dX11_pack_41 : decode cX11_pack 41 = .ok (.iload_n 3, 1) := by decide +kernel
theorem dX11_pack_42 : decode cX11_pack 42 = .ok (.iload_n 2, 1) := by decide +kernel
theorem dX11_pack_43 : decode cX11_pack 43 = .ok (.if_icmp .ge 43, 3) := by decide +kernel
theorem dX11_pack_46 : decode cX11_pack 46 = .ok (.aload_n 0, 1) := by decide +kernel
theorem dX11_pack_47 : decode cX11_pack 47 = .ok (.getfield 34, 3) := by decide +kernel
theorem dX11_pack_50 : decode cX11_pack 50 = .ok (.iload_n 3, 1) := by decide +kernel
theorem dX11_pack_51 : decode cX11_pack 51 = .ok (.aload_n 0, 1) := by decide +kernel
theorem dX11_pack_52 : decode cX11_pack 52 = .ok (.getfield 16, 3) := by decide +kernel
theorem dX11_pack_55 : decode cX11_pack 55 = .ok (.bipush 40, 2) := by decide +kernel
theorem dX11_pack_57 : decode cX11_pack 57 = .ok (.iload_n 1, 1) := by decide +kernel
theorem dX11_pack_58 : decode cX11_pack 58 = .ok (.imul, 1) := by decide +kernel
theorem dX11_pack_59 : decode cX11_pack 59 = .ok (.iload_n 3, 1) := by decide +kernel
theorem dX11_pack_60 : decode cX11_pack 60 = .ok (.iadd, 1) := by decide +kernel
theorem dX11_pack_61 : decode cX11_pack 61 = .ok (.iaload, 1) := by decide +kernel
theorem dX11_pack_62 : decode cX11_pack 62 = .ok (.iastore, 1) := by decide +kernel
theorem dX11_pack_63 : decode cX11_pack 63 = .ok (.aload_n 0, 1) := by decide +kernel
theorem dX11_pack_64 : decode cX11_pack 64 = .ok (.getfield 37, 3) := by decide +kernel
theorem dX11_pack_67 : decode cX11_pack 67 = .ok (.iload_n 3, 1) := by decide +kernel
theorem dX11_pack_68 : decode cX11_pack 68 = .ok (.aload_n 0, 1) := by decide +kernel
theorem dX11_pack_69 : decode cX11_pack 69 = .ok (.getfield 19, 3) := by decide +kernel
theorem dX11_pack_72 : decode cX11_pack 72 = .ok (.bipush 40, 2) := by decide +kernel
theorem dX11_pack_74 : decode cX11_pack 74 = .ok (.iload_n 1, 1) := by decide +kernel
theorem dX11_pack_75 : decode cX11_pack 75 = .ok (.imul, 1) := by decide +kernel
theorem dX11_pack_76 : decode cX11_pack 76 = .ok (.iload_n 3, 1) := by decide +kernel
theorem dX11_pack_77 : decode cX11_pack 77 = .ok (.iadd, 1) := by decide +kernel
theorem dX11_pack_78 : decode cX11_pack 78 = .ok (.iaload, 1) := by decide +kernel
theorem dX11_pack_79 : decode cX11_pack 79 = .ok (.iastore, 1) := by decide +kernel
theorem dX11_pack_80 : decode cX11_pack 80 = .ok (.iinc 3 1, 3) := by decide +kernel
theorem dX11_pack_83 : decode cX11_pack 83 = .ok (.goto (-42), 3) := by decide +kernel
theorem dX11_pack_86 : decode cX11_pack 86 = .ok (.aload_n 0, 1) := by decide +kernel
theorem dX11_pack_87 : decode cX11_pack 87 = .ok (.getfield 40, 3) := by decide +kernel
theorem dX11_pack_90 : decode cX11_pack 90 = .ok (.iconst 0, 1) := by decide +kernel
theorem dX11_pack_91 : decode cX11_pack 91 = .ok (.iconst 0, 1) := by decide +kernel
theorem dX11_pack_92 : decode cX11_pack 92 = .ok (.iastore, 1) := by decide +kernel
theorem dX11_pack_93 : decode cX11_pack 93 = .ok (.aload_n 0, 1) := by decide +kernel
theorem dX11_pack_94 : decode cX11_pack 94 = .ok (.getfield 46, 3) := by decide +kernel
theorem dX11_pack_97 : decode cX11_pack 97 = .ok (.iconst 0, 1) := by decide +kernel
theorem dX11_pack_98 : decode cX11_pack 98 = .ok (.iconst 0, 1) := by decide +kernel
theorem dX11_pack_99 : decode cX11_pack 99 = .ok (.iastore, 1) := by decide +kernel
theorem dX11_pack_100 : decode cX11_pack 100 = .ok (.iconst 0, 1) := by decide +kernel
theorem dX11_pack_101 : decode cX11_pack 101 = .ok (.istore_n 3, 1) := by decide +kernel
theorem dX11_pack_102 : decode cX11_pack 102 = .ok (.iload_n 3, 1) := by decide +kernel
theorem dX11_pack_103 : decode cX11_pack 103 = .ok (.iload_n 2, 1) := by decide +kernel
theorem dX11_pack_104 : decode cX11_pack 104 = .ok (.if_icmp .ge 200, 3) := by decide +kernel
theorem dX11_pack_107 : decode cX11_pack 107 = .ok (.iconst 1, 1) := by decide +kernel
theorem dX11_pack_108 : decode cX11_pack 108 = .ok (.istore 4, 2) := by decide +kernel
theorem dX11_pack_110 : decode cX11_pack 110 = .ok (.aload_n 0, 1) := by decide +kernel
theorem dX11_pack_111 : decode cX11_pack 111 = .ok (.getfield 34, 3) := by decide +kernel
theorem dX11_pack_114 : decode cX11_pack 114 = .ok (.iload_n 3, 1) := by decide +kernel
theorem dX11_pack_115 : decode cX11_pack 115 = .ok (.iaload, 1) := by decide +kernel
theorem dX11_pack_116 : decode cX11_pack 116 = .ok (.istore 5, 2) := by decide +kernel
theorem dX11_pack_118 : decode cX11_pack 118 = .ok (.iconst 0, 1) := by decide +kernel
theorem dX11_pack_119 : decode cX11_pack 119 = .ok (.istore 6, 2) := by decide +kernel
theorem dX11_pack_121 : decode cX11_pack 121 = .ok (.iload 6, 2) := by decide +kernel
theorem dX11_pack_123 : decode cX11_pack 123 = .ok (.aload_n 0, 1) := by decide +kernel
theorem dX11_pack_124 : decode cX11_pack 124 = .ok (.getfield 170, 3) := by decide +kernel
theorem dX11_pack_127 : decode cX11_pack 127 = .ok (.if_icmp .ge 71, 3) := by decide +kernel
theorem dX11_pack_130 : decode cX11_pack 130 = .ok (.aload_n 0, 1) := by decide +kernel
theorem dX11_pack_131 : decode cX11_pack 131 = .ok (.getfield 91, 3) := by decide +kernel
theorem dX11_pack_134 : decode cX11_pack 134 = .ok (.iconst 5, 1) := by decide +kernel
theorem dX11_pack_135 : decode cX11_pack 135 = .ok (.iload 6, 2) := by decide +kernel
theorem dX11_pack_137 : decode cX11_pack 137 = .ok (.imul, 1) := by decide +kernel
theorem dX11_pack_138 : decode cX11_pack 138 = .ok (.iaload, 1) := by decide +kernel
theorem dX11_pack_139 : decode cX11_pack 139 = .ok (.istore 7, 2) := by decide +kernel
theorem dX11_pack_141 : decode cX11_pack 141 = .ok (.iload 7, 2) := by decide +kernel
theorem dX11_pack_143 : decode cX11_pack 143 = .ok (.iload 4, 2) := by decide +kernel
theorem dX11_pack_145 : decode cX11_pack 145 = .ok (.if_icmp .le 47, 3) := by decide +kernel
theorem dX11_pack_148 : decode cX11_pack 148 = .ok (.aload_n 0, 1) := by decide +kernel
theorem dX11_pack_149 : decode cX11_pack 149 = .ok (.iload_n 1, 1) := by decide +kernel
theorem dX11_pack_150 : decode cX11_pack 150 = .ok (.iload_n 3, 1) := by decide +kernel
theorem dX11_pack_151 : decode cX11_pack 151 = .ok (.iconst 5, 1) := by decide +kernel
theorem dX11_pack_152 : decode cX11_pack 152 = .ok (.iload 6, 2) := by decide +kernel
theorem dX11_pack_154 : decode cX11_pack 154 = .ok (.imul, 1) := by decide +kernel
theorem dX11_pack_155 : decode cX11_pack 155 = .ok (.invokevirtual 173, 3) := by decide +kernel
theorem dX11_pack_158 : decode cX11_pack 158 = .ok (.ifCond .eq 34, 3) := by decide +kernel
theorem dX11_pack_161 : decode cX11_pack 161 = .ok (.iconst 1, 1) := by decide +kernel
theorem dX11_pack_162 : decode cX11_pack 162 = .ok (.aload_n 0, 1) := by decide +kernel
theorem dX11_pack_163 : decode cX11_pack 163 = .ok (.getfield 98, 3) := by decide +kernel
theorem dX11_pack_166 : decode cX11_pack 166 = .ok (.iload_n 3, 1) := by decide +kernel
theorem dX11_pack_167 : decode cX11_pack 167 = .ok (.iload 7, 2) := by decide +kernel
theorem dX11_pack_169 : decode cX11_pack 169 = .ok (.iadd, 1) := by decide +kernel
theorem dX11_pack_170 : decode cX11_pack 170 = .ok (.iaload, 1) := by decide +kernel
theorem dX11_pack_171 : decode cX11_pack 171 = .ok (.iadd, 1) := by decide +kernel
theorem dX11_pack_172 : decode cX11_pack 172 = .ok (.aload_n 0, 1) := by decide +kernel
theorem dX11_pack_173 : decode cX11_pack 173 = .ok (.getfield 98, 3) := by decide +kernel
theorem dX11_pack_176 : decode cX11_pack 176 = .ok (.iload_n 3, 1) := by decide +kernel
theorem dX11_pack_177 : decode cX11_pack 177 = .ok (.iaload, 1) := by decide +kernel
theorem dX11_pack_178 : decode cX11_pack 178 = .ok (.if_icmp .ne 14, 3) := by decide +kernel
theorem dX11_pack_181 : decode cX11_pack 181 = .ok (.iload 7, 2) := by decide +kernel
theorem dX11_pack_183 : decode cX11_pack 183 = .ok (.istore 4, 2) := by decide +kernel
theorem dX11_pack_185 : decode cX11_pack 185 = .ok (.bipush 16, 2) := by decide +kernel
theorem dX11_pack_187 : decode cX11_pack 187 = .ok (.iload 6, 2) := by decide +kernel
theorem dX11_pack_189 : decode cX11_pack 189 = .ok (.iadd, 1) := by decide +kernel
theorem dX11_pack_190 : decode cX11_pack 190 = .ok (.istore 5, 2) := by decide +kernel
theorem dX11_pack_192 : decode cX11_pack 192 = .ok (.iinc 6 1, 3) := by decide +kernel
theorem dX11_pack_195 : decode cX11_pack 195 = .ok (.goto (-74), 3) := by decide +kernel
theorem dX11_pack_198 : decode cX11_pack 198 = .ok (.iconst 3, 1) := by decide +kernel
theorem dX11_pack_199 : decode cX11_pack 199 = .ok (.aload_n 0, 1) := by decide +kernel
theorem dX11_pack_200 : decode cX11_pack 200 = .ok (.getfield 40, 3) := by decide +kernel
theorem dX11_pack_203 : decode cX11_pack 203 = .ok (.iconst 0, 1) := by decide +kernel
theorem dX11_pack_204 : decode cX11_pack 204 = .ok (.iaload, 1) := by decide +kernel
theorem dX11_pack_205 : decode cX11_pack 205 = .ok (.imul, 1) := by decide +kernel
theorem dX11_pack_206 : decode cX11_pack 206 = .ok (.istore 6, 2) := by decide +kernel
theorem dX11_pack_208 : decode cX11_pack 208 = .ok (.aload_n 0, 1) := by decide +kernel
theorem dX11_pack_209 : decode cX11_pack 209 = .ok (.getfield 43, 3) := by decide +kernel
theorem dX11_pack_212 : decode cX11_pack 212 = .ok (.iload 6, 2) := by decide +kernel
theorem dX11_pack_214 : decode cX11_pack 214 = .ok (.iload 5, 2) := by decide +kernel
theorem dX11_pack_216 : decode cX11_pack 216 = .ok (.iastore, 1) := by decide +kernel
theorem dX11_pack_217 : decode cX11_pack 217 = .ok (.aload_n 0, 1) := by decide +kernel
theorem dX11_pack_218 : decode cX11_pack 218 = .ok (.getfield 43, 3) := by decide +kernel
theorem dX11_pack_221 : decode cX11_pack 221 = .ok (.iload 6, 2) := by decide +kernel
theorem dX11_pack_223 : decode cX11_pack 223 = .ok (.iconst 1, 1) := by decide +kernel
theorem dX11_pack_224 : decode cX11_pack 224 = .ok (.iadd, 1) := by decide +kernel
theorem dX11_pack_225 : decode cX11_pack 225 = .ok (.iload_n 3, 1) := by decide +kernel
theorem dX11_pack_226 : decode cX11_pack 226 = .ok (.iastore, 1) := by decide +kernel
theorem dX11_pack_227 : decode cX11_pack 227 = .ok (.aload_n 0, 1) := by decide +kernel
theorem dX11_pack_228 : decode cX11_pack 228 = .ok (.getfield 43, 3) := by decide +kernel
theorem dX11_pack_231 : decode cX11_pack 231 = .ok (.iload 6, 2) := by decide +kernel
theorem dX11_pack_233 : decode cX11_pack 233 = .ok (.iconst 2, 1) := by decide +kernel
theorem dX11_pack_234 : decode cX11_pack 234 = .ok (.iadd, 1) := by decide +kernel
theorem dX11_pack_235 : decode cX11_pack 235 = .ok (.iload 4, 2) := by decide +kernel
theorem dX11_pack_237 : decode cX11_pack 237 = .ok (.iastore, 1) := by decide +kernel
theorem dX11_pack_238 : decode cX11_pack 238 = .ok (.aload_n 0, 1) := by decide +kernel
theorem dX11_pack_239 : decode cX11_pack 239 = .ok (.getfield 40, 3) := by decide +kernel
theorem dX11_pack_242 : decode cX11_pack 242 = .ok (.iconst 0, 1) := by decide +kernel
theorem dX11_pack_243 : decode cX11_pack 243 = .ok (.dup2, 1) := by decide +kernel
theorem dX11_pack_244 : decode cX11_pack 244 = .ok (.iaload, 1) := by decide +kernel
theorem dX11_pack_245 : decode cX11_pack 245 = .ok (.iconst 1, 1) := by decide +kernel
theorem dX11_pack_246 : decode cX11_pack 246 = .ok (.iadd, 1) := by decide +kernel
theorem dX11_pack_247 : decode cX11_pack 247 = .ok (.iastore, 1) := by decide +kernel
theorem dX11_pack_248 : decode cX11_pack 248 = .ok (.aload_n 0, 1) := by decide +kernel
theorem dX11_pack_249 : decode cX11_pack 249 = .ok (.iload 5, 2) := by decide +kernel
theorem dX11_pack_251 : decode cX11_pack 251 = .ok (.invokevirtual 183, 3) := by decide +kernel
theorem dX11_pack_254 : decode cX11_pack 254 = .ok (.iload_n 3, 1) := by decide +kernel
theorem dX11_pack_255 : decode cX11_pack 255 = .ok (.istore 7, 2) := by decide +kernel
theorem dX11_pack_257 : decode cX11_pack 257 = .ok (.iload 7, 2) := by decide +kernel
theorem dX11_pack_259 : decode cX11_pack 259 = .ok (.iload_n 3, 1) := by decide +kernel
theorem dX11_pack_260 : decode cX11_pack 260 = .ok (.iload 4, 2) := by decide +kernel
theorem dX11_pack_262 : decode cX11_pack 262 = .ok (.iadd, 1) := by decide +kernel
theorem dX11_pack_263 : decode cX11_pack 263 = .ok (.if_icmp .ge 33, 3) := by decide +kernel
theorem dX11_pack_266 : decode cX11_pack 266 = .ok (.aload_n 0, 1) := by decide +kernel
theorem dX11_pack_267 : decode cX11_pack 267 = .ok (.getfield 34, 3) := by decide +kernel
theorem dX11_pack_270 : decode cX11_pack 270 = .ok (.iload 7, 2) := by decide +kernel
theorem dX11_pack_272 : decode cX11_pack 272 = .ok (.iaload, 1) := by decide +kernel
theorem dX11_pack_273 : decode cX11_pack 273 = .ok (.invokestatic 158, 3) := by decide +kernel
theorem dX11_pack_276 : decode cX11_pack 276 = .ok (.ifCond .eq 14, 3) := by decide +kernel
theorem dX11_pack_279 : decode cX11_pack 279 = .ok (.aload_n 0, 1) := by decide +kernel
theorem dX11_pack_280 : decode cX11_pack 280 = .ok (.aload_n 0, 1) := by decide +kernel
theorem dX11_pack_281 : decode cX11_pack 281 = .ok (.getfield 37, 3) := by decide +kernel
theorem dX11_pack_284 : decode cX11_pack 284 = .ok (.iload 7, 2) := by decide +kernel
theorem dX11_pack_286 : decode cX11_pack 286 = .ok (.iaload, 1) := by decide +kernel
theorem dX11_pack_287 : decode cX11_pack 287 = .ok (.invokevirtual 183, 3) := by decide +kernel
theorem dX11_pack_290 : decode cX11_pack 290 = .ok (.iinc 7 1, 3) := by decide +kernel
theorem dX11_pack_293 : decode cX11_pack 293 = .ok (.goto (-36), 3) := by decide +kernel
theorem dX11_pack_296 : decode cX11_pack 296 = .ok (.iload_n 3, 1) := by decide +kernel
theorem dX11_pack_297 : decode cX11_pack 297 = .ok (.iload 4, 2) := by decide +kernel
theorem dX11_pack_299 : decode cX11_pack 299 = .ok (.iadd, 1) := by decide +kernel
theorem dX11_pack_300 : decode cX11_pack 300 = .ok (.istore_n 3, 1) := by decide +kernel
theorem dX11_pack_301 : decode cX11_pack 301 = .ok (.goto (-199), 3) := by decide +kernel
theorem dX11_pack_304 : decode cX11_pack 304 = .ok (.aload_n 0, 1) := by decide +kernel
theorem dX11_pack_305 : decode cX11_pack 305 = .ok (.getfield 40, 3) := by decide +kernel
theorem dX11_pack_308 : decode cX11_pack 308 = .ok (.iconst 0, 1) := by decide +kernel
theorem dX11_pack_309 : decode cX11_pack 309 = .ok (.iaload, 1) := by decide +kernel
theorem dX11_pack_310 : decode cX11_pack 310 = .ok (.ireturn, 1) := by decide +kernel
theorem dX11_code_0 : decode cX11_code 0 = .ok (.aload_n 0, 1) := by decide +kernel
theorem dX11_code_1 : decode cX11_code 1 = .ok (.iconst 0, 1) := by decide +kernel
theorem dX11_code_2 : decode cX11_code 2 = .ok (.putfield 134, 3) := by decide +kernel
theorem dX11_code_5 : decode cX11_code 5 = .ok (.iload_n 1, 1) := by decide +kernel
theorem dX11_code_6 : decode cX11_code 6 = .ok (.iconst 0, 1) := by decide +kernel
theorem dX11_code_7 : decode cX11_code 7 = .ok (.aload_n 0, 1) := by decide +kernel
theorem dX11_code_8 : decode cX11_code 8 = .ok (.getfield 40, 3) := by decide +kernel
theorem dX11_code_11 : decode cX11_code 11 = .ok (.iconst 0, 1) := by decide +kernel
theorem dX11_code_12 : decode cX11_code 12 = .ok (.iaload, 1) := by decide +kernel
theorem dX11_code_13 : decode cX11_code 13 = .ok (.iconst 1, 1) := by decide +kernel
theorem dX11_code_14 : decode cX11_code 14 = .ok (.isub, 1) := by decide +kernel
theorem dX11_code_15 : decode cX11_code 15 = .ok (.invokestatic 142, 3) := by decide +kernel
theorem dX11_code_18 : decode cX11_code 18 = .ok (.ifCond .eq 25, 3) := by decide +kernel
theorem dX11_code_21 : decode cX11_code 21 = .ok (.iload_n 2, 1) := by decide +kernel
theorem dX11_code_22 : decode cX11_code 22 = .ok (.iconst 0, 1) := by decide +kernel
theorem dX11_code_23 : decode cX11_code 23 = .ok (.iconst 2, 1) := by decide +kernel
theorem dX11_code_24 : decode cX11_code 24 = .ok (.invokestatic 142, 3) := by decide +kernel
theorem dX11_code_27 : decode cX11_code 27 = .ok (.ifCond .eq 16, 3) := by decide +kernel
theorem dX11_code_30 : decode cX11_code 30 = .ok (.aload_n 0, 1) := by decide +kernel
theorem dX11_code_31 : decode cX11_code 31 = .ok (.getfield 43, 3) := by decide +kernel
theorem dX11_code_34 : decode cX11_code 34 = .ok (.iconst 3, 1) := by decide +kernel
theorem dX11_code_35 : decode cX11_code 35 = .ok (.iload_n 1, 1) := by decide +kernel
theorem dX11_code_36 : decode cX11_code 36 = .ok (.imul, 1) := by decide +kernel
theorem dX11_code_37 : decode cX11_code 37 = .ok (.iload_n 2, 1) := by decide +kernel
theorem dX11_code_38 : decode cX11_code 38 = .ok (.iadd, 1) := by decide +kernel
theorem dX11_code_39 : decode cX11_code 39 = .ok (.iaload, 1) := by decide +kernel
theorem dX11_code_40 : decode cX11_code 40 = .ok (.goto 4, 3) := by decide +kernel
theorem dX11_code_43 : decode cX11_code 43 = .ok (.iconst (-1), 1) := by decide +kernel
theorem dX11_code_44 : decode cX11_code 44 = .ok (.ireturn, 1) := by decide +kernel
theorem dX11_bytes_0 : decode cX11_bytes 0 = .ok (.aload_n 0, 1) := by decide +kernel
theorem dX11_bytes_1 : decode cX11_bytes 1 = .ok (.iconst 0, 1) := by decide +kernel
theorem dX11_bytes_2 : decode cX11_bytes 2 = .ok (.putfield 134, 3) := by decide +kernel
theorem dX11_bytes_5 : decode cX11_bytes 5 = .ok (.aload_n 0, 1) := by decide +kernel
theorem dX11_bytes_6 : decode cX11_bytes 6 = .ok (.getfield 40, 3) := by decide +kernel
theorem dX11_bytes_9 : decode cX11_bytes 9 = .ok (.iconst 0, 1) := by decide +kernel
theorem dX11_bytes_10 : decode cX11_bytes 10 = .ok (.iaload, 1) := by decide +kernel
theorem dX11_bytes_11 : decode cX11_bytes 11 = .ok (.iconst (-1), 1) := by decide +kernel
theorem dX11_bytes_12 : decode cX11_bytes 12 = .ok (.if_icmp .eq 28, 3) := by decide +kernel
theorem dX11_bytes_15 : decode cX11_bytes 15 = .ok (.iload_n 1, 1) := by decide +kernel
theorem dX11_bytes_16 : decode cX11_bytes 16 = .ok (.iconst 0, 1) := by decide +kernel
theorem dX11_bytes_17 : decode cX11_bytes 17 = .ok (.aload_n 0, 1) := by decide +kernel
theorem dX11_bytes_18 : decode cX11_bytes 18 = .ok (.getfield 46, 3) := by decide +kernel
theorem dX11_bytes_21 : decode cX11_bytes 21 = .ok (.iconst 0, 1) := by decide +kernel
theorem dX11_bytes_22 : decode cX11_bytes 22 = .ok (.iaload, 1) := by decide +kernel
theorem dX11_bytes_23 : decode cX11_bytes 23 = .ok (.iconst 1, 1) := by decide +kernel
theorem dX11_bytes_24 : decode cX11_bytes 24 = .ok (.isub, 1) := by decide +kernel
theorem dX11_bytes_25 : decode cX11_bytes 25 = .ok (.invokestatic 142, 3) := by decide +kernel
theorem dX11_bytes_28 : decode cX11_bytes 28 = .ok (.ifCond .eq 12, 3) := by decide +kernel
theorem dX11_bytes_31 : decode cX11_bytes 31 = .ok (.aload_n 0, 1) := by decide +kernel
theorem dX11_bytes_32 : decode cX11_bytes 32 = .ok (.getfield 49, 3) := by decide +kernel
theorem dX11_bytes_35 : decode cX11_bytes 35 = .ok (.iload_n 1, 1) := by decide +kernel
theorem dX11_bytes_36 : decode cX11_bytes 36 = .ok (.iaload, 1) := by decide +kernel
theorem dX11_bytes_37 : decode cX11_bytes 37 = .ok (.goto 4, 3) := by decide +kernel
theorem dX11_bytes_40 : decode cX11_bytes 40 = .ok (.iconst (-1), 1) := by decide +kernel
theorem dX11_bytes_41 : decode cX11_bytes 41 = .ok (.ireturn, 1) := by decide +kernel
theorem dX11_wants_0 : decode cX11_wants 0 = .ok (.iload_n 0, 1) := by decide +kernel
theorem dX11_wants_1 : decode cX11_wants 1 = .ok (.tableswitch 67 1 12 #[63, 63, 63, 65, 63, 65, 67, 65, 67, 65, 63, 65], 63) := by decide +kernel
theorem dX11_wants_64 : decode cX11_wants 64 = .ok (.iconst 2, 1) := by decide +kernel
theorem dX11_wants_65 : decode cX11_wants 65 = .ok (.ireturn, 1) := by decide +kernel
theorem dX11_wants_66 : decode cX11_wants 66 = .ok (.iconst 1, 1) := by decide +kernel
theorem dX11_wants_67 : decode cX11_wants 67 = .ok (.ireturn, 1) := by decide +kernel
theorem dX11_wants_68 : decode cX11_wants 68 = .ok (.iconst 0, 1) := by decide +kernel
theorem dX11_wants_69 : decode cX11_wants 69 = .ok (.ireturn, 1) := by decide +kernel
theorem dX11_push_0 : decode cX11_push 0 = .ok (.aload_n 0, 1) := by decide +kernel
theorem dX11_push_1 : decode cX11_push 1 = .ok (.getfield 67, 3) := by decide +kernel
theorem dX11_push_4 : decode cX11_push 4 = .ok (.aload_n 0, 1) := by decide +kernel
theorem dX11_push_5 : decode cX11_push 5 = .ok (.getfield 64, 3) := by decide +kernel
theorem dX11_push_8 : decode cX11_push 8 = .ok (.iconst 0, 1) := by decide +kernel
theorem dX11_push_9 : decode cX11_push 9 = .ok (.iaload, 1) := by decide +kernel
theorem dX11_push_10 : decode cX11_push 10 = .ok (.iload_n 1, 1) := by decide +kernel
theorem dX11_push_11 : decode cX11_push 11 = .ok (.iastore, 1) := by decide +kernel
theorem dX11_push_12 : decode cX11_push 12 = .ok (.aload_n 0, 1) := by decide +kernel
theorem dX11_push_13 : decode cX11_push 13 = .ok (.getfield 64, 3) := by decide +kernel
theorem dX11_push_16 : decode cX11_push 16 = .ok (.iconst 0, 1) := by decide +kernel
theorem dX11_push_17 : decode cX11_push 17 = .ok (.dup2, 1) := by decide +kernel
theorem dX11_push_18 : decode cX11_push 18 = .ok (.iaload, 1) := by decide +kernel
theorem dX11_push_19 : decode cX11_push 19 = .ok (.iconst 1, 1) := by decide +kernel
theorem dX11_push_20 : decode cX11_push 20 = .ok (.iadd, 1) := by decide +kernel
theorem dX11_push_21 : decode cX11_push 21 = .ok (.iastore, 1) := by decide +kernel
theorem dX11_push_22 : decode cX11_push 22 = .ok (.return_, 1) := by decide +kernel
theorem dX11_pop_0 : decode cX11_pop 0 = .ok (.aload_n 0, 1) := by decide +kernel
theorem dX11_pop_1 : decode cX11_pop 1 = .ok (.getfield 64, 3) := by decide +kernel
theorem dX11_pop_4 : decode cX11_pop 4 = .ok (.iconst 0, 1) := by decide +kernel
theorem dX11_pop_5 : decode cX11_pop 5 = .ok (.dup2, 1) := by decide +kernel
theorem dX11_pop_6 : decode cX11_pop 6 = .ok (.iaload, 1) := by decide +kernel
theorem dX11_pop_7 : decode cX11_pop 7 = .ok (.iconst 1, 1) := by decide +kernel
theorem dX11_pop_8 : decode cX11_pop 8 = .ok (.isub, 1) := by decide +kernel
theorem dX11_pop_9 : decode cX11_pop 9 = .ok (.iastore, 1) := by decide +kernel
theorem dX11_pop_10 : decode cX11_pop 10 = .ok (.aload_n 0, 1) := by decide +kernel
theorem dX11_pop_11 : decode cX11_pop 11 = .ok (.getfield 67, 3) := by decide +kernel
theorem dX11_pop_14 : decode cX11_pop 14 = .ok (.aload_n 0, 1) := by decide +kernel
theorem dX11_pop_15 : decode cX11_pop 15 = .ok (.getfield 64, 3) := by decide +kernel
theorem dX11_pop_18 : decode cX11_pop 18 = .ok (.iconst 0, 1) := by decide +kernel
theorem dX11_pop_19 : decode cX11_pop 19 = .ok (.iaload, 1) := by decide +kernel
theorem dX11_pop_20 : decode cX11_pop 20 = .ok (.iaload, 1) := by decide +kernel
theorem dX11_pop_21 : decode cX11_pop 21 = .ok (.ireturn, 1) := by decide +kernel
theorem dX11_worked_0 : decode cX11_worked 0 = .ok (.iload_n 0, 1) := by decide +kernel
theorem dX11_worked_1 : decode cX11_worked 1 = .ok (.iconst 1, 1) := by decide +kernel
theorem dX11_worked_2 : decode cX11_worked 2 = .ok (.if_icmp .ne 9, 3) := by decide +kernel
theorem dX11_worked_5 : decode cX11_worked 5 = .ok (.iload_n 1, 1) := by decide +kernel
theorem dX11_worked_6 : decode cX11_worked 6 = .ok (.iload_n 2, 1) := by decide +kernel
theorem dX11_worked_7 : decode cX11_worked 7 = .ok (.iadd, 1) := by decide +kernel
theorem dX11_worked_8 : decode cX11_worked 8 = .ok (.goto 35, 3) := by decide +kernel
theorem dX11_worked_11 : decode cX11_worked 11 = .ok (.iload_n 0, 1) := by decide +kernel
theorem dX11_worked_12 : decode cX11_worked 12 = .ok (.iconst 2, 1) := by decide +kernel
theorem dX11_worked_13 : decode cX11_worked 13 = .ok (.if_icmp .ne 9, 3) := by decide +kernel
theorem dX11_worked_16 : decode cX11_worked 16 = .ok (.iload_n 1, 1) := by decide +kernel
theorem dX11_worked_17 : decode cX11_worked 17 = .ok (.iload_n 2, 1) := by decide +kernel
theorem dX11_worked_18 : decode cX11_worked 18 = .ok (.isub, 1) := by decide +kernel
theorem dX11_worked_19 : decode cX11_worked 19 = .ok (.goto 24, 3) := by decide +kernel
theorem dX11_worked_22 : decode cX11_worked 22 = .ok (.iload_n 0, 1) := by decide +kernel
theorem dX11_worked_23 : decode cX11_worked 23 = .ok (.iconst 3, 1) := by decide +kernel
theorem dX11_worked_24 : decode cX11_worked 24 = .ok (.if_icmp .ne 9, 3) := by decide +kernel
theorem dX11_worked_27 : decode cX11_worked 27 = .ok (.iload_n 1, 1) := by decide +kernel
theorem dX11_worked_28 : decode cX11_worked 28 = .ok (.iload_n 2, 1) := by decide +kernel
theorem dX11_worked_29 : decode cX11_worked 29 = .ok (.imul, 1) := by decide +kernel
theorem dX11_worked_30 : decode cX11_worked 30 = .ok (.goto 13, 3) := by decide +kernel
theorem dX11_worked_33 : decode cX11_worked 33 = .ok (.iload_n 1, 1) := by decide +kernel
theorem dX11_worked_34 : decode cX11_worked 34 = .ok (.iload_n 2, 1) := by decide +kernel
theorem dX11_worked_35 : decode cX11_worked 35 = .ok (.if_icmp .ge 7, 3) := by decide +kernel
theorem dX11_worked_38 : decode cX11_worked 38 = .ok (.iconst 1, 1) := by decide +kernel
theorem dX11_worked_39 : decode cX11_worked 39 = .ok (.goto 4, 3) := by decide +kernel
theorem dX11_worked_42 : decode cX11_worked 42 = .ok (.iconst 0, 1) := by decide +kernel
theorem dX11_worked_43 : decode cX11_worked 43 = .ok (.ireturn, 1) := by decide +kernel
