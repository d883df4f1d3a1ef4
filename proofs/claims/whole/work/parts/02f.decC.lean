/-! decode rows -/
theorem dX12_init_0 : decode cX12_init 0 = .ok (.aload_n 0, 1) := by decide +kernel
theorem dX12_init_1 : decode cX12_init 1 = .ok (.invokespecial 1, 3) := by decide +kernel
theorem dX12_init_4 : decode cX12_init 4 = .ok (.aload_n 0, 1) := by decide +kernel
theorem dX12_init_5 : decode cX12_init 5 = .ok (.bipush 6, 2) := by decide +kernel
theorem dX12_init_7 : decode cX12_init 7 = .ok (.newarray .int, 2) := by decide +kernel
theorem dX12_init_9 : decode cX12_init 9 = .ok (.putfield 7, 3) := by decide +kernel
theorem dX12_init_12 : decode cX12_init 12 = .ok (.aload_n 0, 1) := by decide +kernel
theorem dX12_init_13 : decode cX12_init 13 = .ok (.bipush 12, 2) := by decide +kernel
theorem dX12_init_15 : decode cX12_init 15 = .ok (.newarray .int, 2) := by decide +kernel
theorem dX12_init_17 : decode cX12_init 17 = .ok (.putfield 13, 3) := by decide +kernel
theorem dX12_init_20 : decode cX12_init 20 = .ok (.aload_n 0, 1) := by decide +kernel
theorem dX12_init_21 : decode cX12_init 21 = .ok (.bipush 12, 2) := by decide +kernel
theorem dX12_init_23 : decode cX12_init 23 = .ok (.newarray .int, 2) := by decide +kernel
theorem dX12_init_25 : decode cX12_init 25 = .ok (.putfield 16, 3) := by decide +kernel
theorem dX12_init_28 : decode cX12_init 28 = .ok (.aload_n 0, 1) := by decide +kernel
theorem dX12_init_29 : decode cX12_init 29 = .ok (.bipush 17, 2) := by decide +kernel
theorem dX12_init_31 : decode cX12_init 31 = .ok (.newarray .int, 2) := by decide +kernel
theorem dX12_init_33 : decode cX12_init 33 = .ok (.putfield 19, 3) := by decide +kernel
theorem dX12_init_36 : decode cX12_init 36 = .ok (.aload_n 0, 1) := by decide +kernel
theorem dX12_init_37 : decode cX12_init 37 = .ok (.bipush 20, 2) := by decide +kernel
theorem dX12_init_39 : decode cX12_init 39 = .ok (.newarray .int, 2) := by decide +kernel
theorem dX12_init_41 : decode cX12_init 41 = .ok (.putfield 22, 3) := by decide +kernel
theorem dX12_init_44 : decode cX12_init 44 = .ok (.aload_n 0, 1) := by decide +kernel
theorem dX12_init_45 : decode cX12_init 45 = .ok (.bipush 16, 2) := by decide +kernel
theorem dX12_init_47 : decode cX12_init 47 = .ok (.newarray .int, 2) := by decide +kernel
theorem dX12_init_49 : decode cX12_init 49 = .ok (.putfield 25, 3) := by decide +kernel
theorem dX12_init_52 : decode cX12_init 52 = .ok (.aload_n 0, 1) := by decide +kernel
theorem dX12_init_53 : decode cX12_init 53 = .ok (.bipush 16, 2) := by decide +kernel
theorem dX12_init_55 : decode cX12_init 55 = .ok (.newarray .int, 2) := by decide +kernel
theorem dX12_init_57 : decode cX12_init 57 = .ok (.putfield 28, 3) := by decide +kernel
theorem dX12_init_60 : decode cX12_init 60 = .ok (.aload_n 0, 1) := by decide +kernel
theorem dX12_init_61 : decode cX12_init 61 = .ok (.bipush 16, 2) := by decide +kernel
theorem dX12_init_63 : decode cX12_init 63 = .ok (.newarray .int, 2) := by decide +kernel
theorem dX12_init_65 : decode cX12_init 65 = .ok (.putfield 31, 3) := by decide +kernel
theorem dX12_init_68 : decode cX12_init 68 = .ok (.aload_n 0, 1) := by decide +kernel
theorem dX12_init_69 : decode cX12_init 69 = .ok (.bipush 60, 2) := by decide +kernel
theorem dX12_init_71 : decode cX12_init 71 = .ok (.newarray .int, 2) := by decide +kernel
theorem dX12_init_73 : decode cX12_init 73 = .ok (.putfield 34, 3) := by decide +kernel
theorem dX12_init_76 : decode cX12_init 76 = .ok (.aload_n 0, 1) := by decide +kernel
theorem dX12_init_77 : decode cX12_init 77 = .ok (.bipush 60, 2) := by decide +kernel
theorem dX12_init_79 : decode cX12_init 79 = .ok (.newarray .int, 2) := by decide +kernel
theorem dX12_init_81 : decode cX12_init 81 = .ok (.putfield 37, 3) := by decide +kernel
theorem dX12_init_84 : decode cX12_init 84 = .ok (.aload_n 0, 1) := by decide +kernel
theorem dX12_init_85 : decode cX12_init 85 = .ok (.bipush 60, 2) := by decide +kernel
theorem dX12_init_87 : decode cX12_init 87 = .ok (.newarray .int, 2) := by decide +kernel
theorem dX12_init_89 : decode cX12_init 89 = .ok (.putfield 40, 3) := by decide +kernel
theorem dX12_init_92 : decode cX12_init 92 = .ok (.aload_n 0, 1) := by decide +kernel
theorem dX12_init_93 : decode cX12_init 93 = .ok (.bipush 60, 2) := by decide +kernel
theorem dX12_init_95 : decode cX12_init 95 = .ok (.newarray .int, 2) := by decide +kernel
theorem dX12_init_97 : decode cX12_init 97 = .ok (.putfield 43, 3) := by decide +kernel
theorem dX12_init_100 : decode cX12_init 100 = .ok (.aload_n 0, 1) := by decide +kernel
theorem dX12_init_101 : decode cX12_init 101 = .ok (.bipush 60, 2) := by decide +kernel
theorem dX12_init_103 : decode cX12_init 103 = .ok (.newarray .int, 2) := by decide +kernel
theorem dX12_init_105 : decode cX12_init 105 = .ok (.putfield 46, 3) := by decide +kernel
theorem dX12_init_108 : decode cX12_init 108 = .ok (.aload_n 0, 1) := by decide +kernel
theorem dX12_init_109 : decode cX12_init 109 = .ok (.bipush 60, 2) := by decide +kernel
theorem dX12_init_111 : decode cX12_init 111 = .ok (.newarray .int, 2) := by decide +kernel
theorem dX12_init_113 : decode cX12_init 113 = .ok (.putfield 49, 3) := by decide +kernel
theorem dX12_init_116 : decode cX12_init 116 = .ok (.aload_n 0, 1) := by decide +kernel
theorem dX12_init_117 : decode cX12_init 117 = .ok (.bipush 8, 2) := by decide +kernel
theorem dX12_init_119 : decode cX12_init 119 = .ok (.newarray .int, 2) := by decide +kernel
theorem dX12_init_121 : decode cX12_init 121 = .ok (.putfield 52, 3) := by decide +kernel
theorem dX12_init_124 : decode cX12_init 124 = .ok (.aload_n 0, 1) := by decide +kernel
theorem dX12_init_125 : decode cX12_init 125 = .ok (.bipush 8, 2) := by decide +kernel
theorem dX12_init_127 : decode cX12_init 127 = .ok (.newarray .int, 2) := by decide +kernel
theorem dX12_init_129 : decode cX12_init 129 = .ok (.putfield 55, 3) := by decide +kernel
theorem dX12_init_132 : decode cX12_init 132 = .ok (.aload_n 0, 1) := by decide +kernel
theorem dX12_init_133 : decode cX12_init 133 = .ok (.bipush 8, 2) := by decide +kernel
theorem dX12_init_135 : decode cX12_init 135 = .ok (.newarray .int, 2) := by decide +kernel
theorem dX12_init_137 : decode cX12_init 137 = .ok (.putfield 58, 3) := by decide +kernel
theorem dX12_init_140 : decode cX12_init 140 = .ok (.aload_n 0, 1) := by decide +kernel
theorem dX12_init_141 : decode cX12_init 141 = .ok (.bipush 8, 2) := by decide +kernel
theorem dX12_init_143 : decode cX12_init 143 = .ok (.newarray .int, 2) := by decide +kernel
theorem dX12_init_145 : decode cX12_init 145 = .ok (.putfield 61, 3) := by decide +kernel
theorem dX12_init_148 : decode cX12_init 148 = .ok (.aload_n 0, 1) := by decide +kernel
theorem dX12_init_149 : decode cX12_init 149 = .ok (.bipush 8, 2) := by decide +kernel
theorem dX12_init_151 : decode cX12_init 151 = .ok (.newarray .int, 2) := by decide +kernel
theorem dX12_init_153 : decode cX12_init 153 = .ok (.putfield 64, 3) := by decide +kernel
theorem dX12_init_156 : decode cX12_init 156 = .ok (.aload_n 0, 1) := by decide +kernel
theorem dX12_init_157 : decode cX12_init 157 = .ok (.bipush 8, 2) := by decide +kernel
theorem dX12_init_159 : decode cX12_init 159 = .ok (.newarray .int, 2) := by decide +kernel
theorem dX12_init_161 : decode cX12_init 161 = .ok (.putfield 67, 3) := by decide +kernel
theorem dX12_init_164 : decode cX12_init 164 = .ok (.aload_n 0, 1) := by decide +kernel
theorem dX12_init_165 : decode cX12_init 165 = .ok (.bipush 8, 2) := by decide +kernel
theorem dX12_init_167 : decode cX12_init 167 = .ok (.newarray .int, 2) := by decide +kernel
theorem dX12_init_169 : decode cX12_init 169 = .ok (.putfield 70, 3) := by decide +kernel
theorem dX12_init_172 : decode cX12_init 172 = .ok (.aload_n 0, 1) := by decide +kernel
theorem dX12_init_173 : decode cX12_init 173 = .ok (.bipush 8, 2) := by decide +kernel
theorem dX12_init_175 : decode cX12_init 175 = .ok (.newarray .int, 2) := by decide +kernel
theorem dX12_init_177 : decode cX12_init 177 = .ok (.putfield 73, 3) := by decide +kernel
theorem dX12_init_180 : decode cX12_init 180 = .ok (.aload_n 0, 1) := by decide +kernel
theorem dX12_init_181 : decode cX12_init 181 = .ok (.bipush 8, 2) := by decide +kernel
theorem dX12_init_183 : decode cX12_init 183 = .ok (.newarray .int, 2) := by decide +kernel
theorem dX12_init_185 : decode cX12_init 185 = .ok (.putfield 76, 3) := by decide +kernel
theorem dX12_init_188 : decode cX12_init 188 = .ok (.aload_n 0, 1) := by decide +kernel
theorem dX12_init_189 : decode cX12_init 189 = .ok (.bipush 24, 2) := by decide +kernel
theorem dX12_init_191 : decode cX12_init 191 = .ok (.newarray .int, 2) := by decide +kernel
theorem dX12_init_193 : decode cX12_init 193 = .ok (.putfield 79, 3) := by decide +kernel
theorem dX12_init_196 : decode cX12_init 196 = .ok (.aload_n 0, 1) := by decide +kernel
theorem dX12_init_197 : decode cX12_init 197 = .ok (.sipush 144, 3) := by decide +kernel
theorem dX12_init_200 : decode cX12_init 200 = .ok (.newarray .int, 2) := by decide +kernel
theorem dX12_init_202 : decode cX12_init 202 = .ok (.putfield 82, 3) := by decide +kernel
theorem dX12_init_205 : decode cX12_init 205 = .ok (.aload_n 0, 1) := by decide +kernel
theorem dX12_init_206 : decode cX12_init 206 = .ok (.bipush 24, 2) := by decide +kernel
theorem dX12_init_208 : decode cX12_init 208 = .ok (.newarray .int, 2) := by decide +kernel
theorem dX12_init_210 : decode cX12_init 210 = .ok (.putfield 85, 3) := by decide +kernel
theorem dX12_init_213 : decode cX12_init 213 = .ok (.aload_n 0, 1) := by decide +kernel
theorem dX12_init_214 : decode cX12_init 214 = .ok (.bipush 60, 2) := by decide +kernel
theorem dX12_init_216 : decode cX12_init 216 = .ok (.newarray .int, 2) := by decide +kernel
theorem dX12_init_218 : decode cX12_init 218 = .ok (.putfield 88, 3) := by decide +kernel
theorem dX12_init_221 : decode cX12_init 221 = .ok (.aload_n 0, 1) := by decide +kernel
theorem dX12_init_222 : decode cX12_init 222 = .ok (.bipush 8, 2) := by decide +kernel
theorem dX12_init_224 : decode cX12_init 224 = .ok (.newarray .int, 2) := by decide +kernel
theorem dX12_init_226 : decode cX12_init 226 = .ok (.putfield 91, 3) := by decide +kernel
theorem dX12_init_229 : decode cX12_init 229 = .ok (.aload_n 0, 1) := by decide +kernel
theorem dX12_init_230 : decode cX12_init 230 = .ok (.sipush 400, 3) := by decide +kernel
theorem dX12_init_233 : decode cX12_init 233 = .ok (.newarray .byte, 2) := by decide +kernel
theorem dX12_init_235 : decode cX12_init 235 = .ok (.putfield 94, 3) := by decide +kernel
theorem dX12_init_238 : decode cX12_init 238 = .ok (.aload_n 0, 1) := by decide +kernel
theorem dX12_init_239 : decode cX12_init 239 = .ok (.sipush 3200, 3) := by decide +kernel
theorem dX12_init_242 : decode cX12_init 242 = .ok (.newarray .int, 2) := by decide +kernel
theorem dX12_init_244 : decode cX12_init 244 = .ok (.putfield 98, 3) := by decide +kernel
theorem dX12_init_247 : decode cX12_init 247 = .ok (.aload_n 0, 1) := by decide +kernel
theorem dX12_init_248 : decode cX12_init 248 = .ok (.sipush 3200, 3) := by decide +kernel
theorem dX12_init_251 : decode cX12_init 251 = .ok (.newarray .int, 2) := by decide +kernel
theorem dX12_init_253 : decode cX12_init 253 = .ok (.putfield 101, 3) := by decide +kernel
theorem dX12_init_256 : decode cX12_init 256 = .ok (.aload_n 0, 1) := by decide +kernel
theorem dX12_init_257 : decode cX12_init 257 = .ok (.bipush 8, 2) := by decide +kernel
theorem dX12_init_259 : decode cX12_init 259 = .ok (.newarray .int, 2) := by decide +kernel
theorem dX12_init_261 : decode cX12_init 261 = .ok (.putfield 104, 3) := by decide +kernel
theorem dX12_init_264 : decode cX12_init 264 = .ok (.aload_n 0, 1) := by decide +kernel
theorem dX12_init_265 : decode cX12_init 265 = .ok (.sipush 402, 3) := by decide +kernel
theorem dX12_init_268 : decode cX12_init 268 = .ok (.newarray .int, 2) := by decide +kernel
theorem dX12_init_270 : decode cX12_init 270 = .ok (.putfield 107, 3) := by decide +kernel
theorem dX12_init_273 : decode cX12_init 273 = .ok (.aload_n 0, 1) := by decide +kernel
theorem dX12_init_274 : decode cX12_init 274 = .ok (.sipush 402, 3) := by decide +kernel
theorem dX12_init_277 : decode cX12_init 277 = .ok (.newarray .int, 2) := by decide +kernel
theorem dX12_init_279 : decode cX12_init 279 = .ok (.putfield 110, 3) := by decide +kernel
theorem dX12_init_282 : decode cX12_init 282 = .ok (.aload_n 0, 1) := by decide +kernel
theorem dX12_init_283 : decode cX12_init 283 = .ok (.sipush 400, 3) := by decide +kernel
theorem dX12_init_286 : decode cX12_init 286 = .ok (.newarray .int, 2) := by decide +kernel
theorem dX12_init_288 : decode cX12_init 288 = .ok (.putfield 113, 3) := by decide +kernel
theorem dX12_init_291 : decode cX12_init 291 = .ok (.aload_n 0, 1) := by decide +kernel
theorem dX12_init_292 : decode cX12_init 292 = .ok (.bipush 8, 2) := by decide +kernel
theorem dX12_init_294 : decode cX12_init 294 = .ok (.newarray .boolean, 2) := by decide +kernel
theorem dX12_init_296 : decode cX12_init 296 = .ok (.putfield 116, 3) := by decide +kernel
theorem dX12_init_299 : decode cX12_init 299 = .ok (.aload_n 0, 1) := by decide +kernel
theorem dX12_init_300 : decode cX12_init 300 = .ok (.bipush 8, 2) := by decide +kernel
theorem dX12_init_302 : decode cX12_init 302 = .ok (.newarray .boolean, 2) := by decide +kernel
theorem dX12_init_304 : decode cX12_init 304 = .ok (.putfield 120, 3) := by decide +kernel
theorem dX12_init_307 : decode cX12_init 307 = .ok (.aload_n 0, 1) := by decide +kernel
theorem dX12_init_308 : decode cX12_init 308 = .ok (.sipush 488, 3) := by decide +kernel
theorem dX12_init_311 : decode cX12_init 311 = .ok (.newarray .int, 2) := by decide +kernel
theorem dX12_init_313 : decode cX12_init 313 = .ok (.putfield 123, 3) := by decide +kernel
theorem dX12_init_316 : decode cX12_init 316 = .ok (.aload_n 0, 1) := by decide +kernel
theorem dX12_init_317 : decode cX12_init 317 = .ok (.sipush 488, 3) := by decide +kernel
theorem dX12_init_320 : decode cX12_init 320 = .ok (.newarray .boolean, 2) := by decide +kernel
theorem dX12_init_322 : decode cX12_init 322 = .ok (.putfield 126, 3) := by decide +kernel
theorem dX12_init_325 : decode cX12_init 325 = .ok (.aload_n 0, 1) := by decide +kernel
theorem dX12_init_326 : decode cX12_init 326 = .ok (.bipush 8, 2) := by decide +kernel
theorem dX12_init_328 : decode cX12_init 328 = .ok (.newarray .int, 2) := by decide +kernel
theorem dX12_init_330 : decode cX12_init 330 = .ok (.putfield 129, 3) := by decide +kernel
theorem dX12_init_333 : decode cX12_init 333 = .ok (.aload_n 0, 1) := by decide +kernel
theorem dX12_init_334 : decode cX12_init 334 = .ok (.sipush 372, 3) := by decide +kernel
theorem dX12_init_337 : decode cX12_init 337 = .ok (.newarray .int, 2) := by decide +kernel
theorem dX12_init_339 : decode cX12_init 339 = .ok (.putfield 132, 3) := by decide +kernel
theorem dX12_init_342 : decode cX12_init 342 = .ok (.aload_n 0, 1) := by decide +kernel
theorem dX12_init_343 : decode cX12_init 343 = .ok (.sipush 1024, 3) := by decide +kernel
theorem dX12_init_346 : decode cX12_init 346 = .ok (.newarray .boolean, 2) := by decide +kernel
theorem dX12_init_348 : decode cX12_init 348 = .ok (.putfield 135, 3) := by decide +kernel
theorem dX12_init_351 : decode cX12_init 351 = .ok (.aload_n 0, 1) := by decide +kernel
theorem dX12_init_352 : decode cX12_init 352 = .ok (.sipush 2280, 3) := by decide +kernel
theorem dX12_init_355 : decode cX12_init 355 = .ok (.newarray .int, 2) := by decide +kernel
theorem dX12_init_357 : decode cX12_init 357 = .ok (.putfield 138, 3) := by decide +kernel
theorem dX12_init_360 : decode cX12_init 360 = .ok (.aload_n 0, 1) := by decide +kernel
theorem dX12_init_361 : decode cX12_init 361 = .ok (.iconst 4, 1) := by decide +kernel
theorem dX12_init_362 : decode cX12_init 362 = .ok (.newarray .boolean, 2) := by decide +kernel
theorem dX12_init_364 : decode cX12_init 364 = .ok (.putfield 141, 3) := by decide +kernel
theorem dX12_init_367 : decode cX12_init 367 = .ok (.iconst 0, 1) := by decide +kernel
theorem dX12_init_368 : decode cX12_init 368 = .ok (.istore_n 1, 1) := by decide +kernel
theorem dX12_init_369 : decode cX12_init 369 = .ok (.iload_n 1, 1) := by decide +kernel
theorem dX12_init_370 : decode cX12_init 370 = .ok (.bipush 16, 2) := by decide +kernel
theorem dX12_init_372 : decode cX12_init 372 = .ok (.if_icmp .gt 16, 3) := by decide +kernel
theorem dX12_init_375 : decode cX12_init 375 = .ok (.aload_n 0, 1) := by decide +kernel
theorem dX12_init_376 : decode cX12_init 376 = .ok (.getfield 19, 3) := by decide +kernel
theorem dX12_init_379 : decode cX12_init 379 = .ok (.iload_n 1, 1) := by decide +kernel
theorem dX12_init_380 : decode cX12_init 380 = .ok (.iconst 1, 1) := by decide +kernel
theorem dX12_init_381 : decode cX12_init 381 = .ok (.iastore, 1) := by decide +kernel
theorem dX12_init_382 : decode cX12_init 382 = .ok (.iinc 1 1, 3) := by decide +kernel
theorem dX12_init_385 : decode cX12_init 385 = .ok (.goto (-16), 3) := by decide +kernel
theorem dX12_init_388 : decode cX12_init 388 = .ok (.return_, 1) := by decide +kernel
theorem dX12_in_0 : decode cX12_in 0 = .ok (.lload_n 0, 1) := by decide +kernel
theorem dX12_in_1 : decode cX12_in 1 = .ok (.lload_n 2, 1) := by decide +kernel
theorem dX12_in_2 : decode cX12_in 2 = .ok (.lcmp, 1) := by decide +kernel
theorem dX12_in_3 : decode cX12_in 3 = .ok (.ifCond .lt 14, 3) := by decide +kernel
theorem dX12_in_6 : decode cX12_in 6 = .ok (.lload_n 0, 1) := by decide +kernel
theorem dX12_in_7 : decode cX12_in 7 = .ok (.lload 4, 2) := by decide +kernel
theorem dX12_in_9 : decode cX12_in 9 = .ok (.lcmp, 1) := by decide +kernel
theorem dX12_in_10 : decode cX12_in 10 = .ok (.ifCond .gt 7, 3) := by decide +kernel
theorem dX12_in_13 : decode cX12_in 13 = .ok (.iconst 1, 1) := by decide +kernel
theorem dX12_in_14 : decode cX12_in 14 = .ok (.goto 4, 3) := by decide +kernel
theorem dX12_in_17 : decode cX12_in 17 = .ok (.iconst 0, 1) := by decide +kernel
theorem dX12_in_18 : decode cX12_in 18 = .ok (.ireturn, 1) := by decide +kernel
theorem dX12_has_0 : decode cX12_has 0 = .ok (.iload_n 0, 1) := by decide +kernel
theorem dX12_has_1 : decode cX12_has 1 = .ok (.iload_n 1, 1) := by decide +kernel
theorem dX12_has_2 : decode cX12_has 2 = .ok (.ishr, 1) := by decide +kernel
theorem dX12_has_3 : decode cX12_has 3 = .ok (.iconst 1, 1) := by decide +kernel
theorem dX12_has_4 : decode cX12_has 4 = .ok (.iand, 1) := by decide +kernel
theorem dX12_has_5 : decode cX12_has 5 = .ok (.iconst 1, 1) := by decide +kernel
theorem dX12_has_6 : decode cX12_has 6 = .ok (.if_icmp .ne 7, 3) := by decide +kernel
theorem dX12_has_9 : decode cX12_has 9 = .ok (.iconst 1, 1) := by decide +kernel
theorem dX12_has_10 : decode cX12_has 10 = .ok (.goto 4, 3) := by decide +kernel
theorem dX12_has_13 : decode cX12_has 13 = .ok (.iconst 0, 1) := by decide +kernel
theorem dX12_has_14 : decode cX12_has 14 = .ok (.ireturn, 1) := by decide +kernel
theorem dX12_bits_0 : decode cX12_bits 0 = .ok (.iconst 0, 1) := by decide +kernel
theorem dX12_bits_1 : decode cX12_bits 1 = .ok (.istore_n 1, 1) := by decide +kernel
theorem dX12_bits_2 : decode cX12_bits 2 = .ok (.iload_n 0, 1) := by decide +kernel
theorem dX12_bits_3 : decode cX12_bits 3 = .ok (.istore_n 2, 1) := by decide +kernel
theorem dX12_bits_4 : decode cX12_bits 4 = .ok (.iload_n 2, 1) := by decide +kernel
theorem dX12_bits_5 : decode cX12_bits 5 = .ok (.ifCond .eq 15, 3) := by decide +kernel
theorem dX12_bits_8 : decode cX12_bits 8 = .ok (.iinc 1 1, 3) := by decide +kernel
theorem dX12_bits_11 : decode cX12_bits 11 = .ok (.iload_n 2, 1) := by decide +kernel
theorem dX12_bits_12 : decode cX12_bits 12 = .ok (.iload_n 2, 1) := by decide +kernel
theorem dX12_bits_13 : decode cX12_bits 13 = .ok (.iconst 1, 1) := by decide +kernel
theorem dX12_bits_14 : decode cX12_bits 14 = .ok (.isub, 1) := by decide +kernel
theorem dX12_bits_15 : decode cX12_bits 15 = .ok (.iand, 1) := by decide +kernel
theorem dX12_bits_16 : decode cX12_bits 16 = .ok (.istore_n 2, 1) := by decide +kernel
theorem dX12_bits_17 : decode cX12_bits 17 = .ok (.goto (-13), 3) := by decide +kernel
theorem dX12_bits_20 : decode cX12_bits 20 = .ok (.iload_n 1, 1) := by decide +kernel
theorem dX12_bits_21 : decode cX12_bits 21 = .ok (.ireturn, 1) := by decide +kernel
theorem dX12_lowest_0 : decode cX12_lowest 0 = .ok (.iconst 0, 1) := by decide +kernel
theorem dX12_lowest_1 : decode cX12_lowest 1 = .ok (.istore_n 1, 1) := by decide +kernel
theorem dX12_lowest_2 : decode cX12_lowest 2 = .ok (.iload_n 0, 1) := by decide +kernel
theorem dX12_lowest_3 : decode cX12_lowest 3 = .ok (.iload_n 1, 1) := by decide +kernel
theorem dX12_lowest_4 : decode cX12_lowest 4 = .ok (.invokestatic 148, 3) := by decide +kernel
theorem dX12_lowest_7 : decode cX12_lowest 7 = .ok (.ifCond .ne 9, 3) := by decide +kernel
theorem dX12_lowest_10 : decode cX12_lowest 10 = .ok (.iinc 1 1, 3) := by decide +kernel
theorem dX12_lowest_13 : decode cX12_lowest 13 = .ok (.goto (-11), 3) := by decide +kernel
theorem dX12_lowest_16 : decode cX12_lowest 16 = .ok (.iload_n 1, 1) := by decide +kernel
theorem dX12_lowest_17 : decode cX12_lowest 17 = .ok (.ireturn, 1) := by decide +kernel
theorem dX12_isPlace_0 : decode cX12_isPlace 0 = .ok (.iload_n 0, 1) := by decide +kernel
theorem dX12_isPlace_1 : decode cX12_isPlace 1 = .ok (.i2l, 1) := by decide +kernel
theorem dX12_isPlace_2 : decode cX12_isPlace 2 = .ok (.lconst 0, 1) := by decide +kernel
theorem dX12_isPlace_3 : decode cX12_isPlace 3 = .ok (.ldc2_w 152, 3) := by decide +kernel
theorem dX12_isPlace_6 : decode cX12_isPlace 6 = .ok (.invokestatic 154, 3) := by decide +kernel
theorem dX12_isPlace_9 : decode cX12_isPlace 9 = .ok (.ireturn, 1) := by decide +kernel
theorem dX12_isPerson_0 : decode cX12_isPerson 0 = .ok (.iload_n 1, 1) := by decide +kernel
theorem dX12_isPerson_1 : decode cX12_isPerson 1 = .ok (.i2l, 1) := by decide +kernel
theorem dX12_isPerson_2 : decode cX12_isPerson 2 = .ok (.lconst 0, 1) := by decide +kernel
theorem dX12_isPerson_3 : decode cX12_isPerson 3 = .ok (.aload_n 0, 1) := by decide +kernel
theorem dX12_isPerson_4 : decode cX12_isPerson 4 = .ok (.getfield 7, 3) := by decide +kernel
theorem dX12_isPerson_7 : decode cX12_isPerson 7 = .ok (.iconst 0, 1) := by decide +kernel
theorem dX12_isPerson_8 : decode cX12_isPerson 8 = .ok (.iaload, 1) := by decide +kernel
theorem dX12_isPerson_9 : decode cX12_isPerson 9 = .ok (.iconst 1, 1) := by decide +kernel
theorem dX12_isPerson_10 : decode cX12_isPerson 10 = .ok (.isub, 1) := by decide +kernel
theorem dX12_isPerson_11 : decode cX12_isPerson 11 = .ok (.i2l, 1) := by decide +kernel
theorem dX12_isPerson_12 : decode cX12_isPerson 12 = .ok (.invokestatic 154, 3) := by decide +kernel
theorem dX12_isPerson_15 : decode cX12_isPerson 15 = .ok (.ireturn, 1) := by decide +kernel
theorem dX12_isDay_0 : decode cX12_isDay 0 = .ok (.iload_n 0, 1) := by decide +kernel
theorem dX12_isDay_1 : decode cX12_isDay 1 = .ok (.i2l, 1) := by decide +kernel
theorem dX12_isDay_2 : decode cX12_isDay 2 = .ok (.lconst 0, 1) := by decide +kernel
theorem dX12_isDay_3 : decode cX12_isDay 3 = .ok (.ldc2_w 158, 3) := by decide +kernel
theorem dX12_isDay_6 : decode cX12_isDay 6 = .ok (.invokestatic 154, 3) := by decide +kernel
theorem dX12_isDay_9 : decode cX12_isDay 9 = .ok (.ireturn, 1) := by decide +kernel
theorem dX12_roadOf_0 : decode cX12_roadOf 0 = .ok (.iconst 0, 1) := by decide +kernel
theorem dX12_roadOf_1 : decode cX12_roadOf 1 = .ok (.istore_n 3, 1) := by decide +kernel
theorem dX12_roadOf_2 : decode cX12_roadOf 2 = .ok (.iload_n 3, 1) := by decide +kernel
theorem dX12_roadOf_3 : decode cX12_roadOf 3 = .ok (.aload_n 0, 1) := by decide +kernel
theorem dX12_roadOf_4 : decode cX12_roadOf 4 = .ok (.getfield 7, 3) := by decide +kernel
theorem dX12_roadOf_7 : decode cX12_roadOf 7 = .ok (.iconst 1, 1) := by decide +kernel
theorem dX12_roadOf_8 : decode cX12_roadOf 8 = .ok (.iaload, 1) := by decide +kernel
theorem dX12_roadOf_9 : decode cX12_roadOf 9 = .ok (.if_icmp .ge 51, 3) := by decide +kernel
theorem dX12_roadOf_12 : decode cX12_roadOf 12 = .ok (.aload_n 0, 1) := by decide +kernel
theorem dX12_roadOf_13 : decode cX12_roadOf 13 = .ok (.getfield 25, 3) := by decide +kernel
theorem dX12_roadOf_16 : decode cX12_roadOf 16 = .ok (.iload_n 3, 1) := by decide +kernel
theorem dX12_roadOf_17 : decode cX12_roadOf 17 = .ok (.iaload, 1) := by decide +kernel
theorem dX12_roadOf_18 : decode cX12_roadOf 18 = .ok (.iload_n 1, 1) := by decide +kernel
theorem dX12_roadOf_19 : decode cX12_roadOf 19 = .ok (.if_icmp .ne 13, 3) := by decide +kernel
theorem dX12_roadOf_22 : decode cX12_roadOf 22 = .ok (.aload_n 0, 1) := by decide +kernel
theorem dX12_roadOf_23 : decode cX12_roadOf 23 = .ok (.getfield 28, 3) := by decide +kernel
theorem dX12_roadOf_26 : decode cX12_roadOf 26 = .ok (.iload_n 3, 1) := by decide +kernel
theorem dX12_roadOf_27 : decode cX12_roadOf 27 = .ok (.iaload, 1) := by decide +kernel
theorem dX12_roadOf_28 : decode cX12_roadOf 28 = .ok (.iload_n 2, 1) := by decide +kernel
theorem dX12_roadOf_29 : decode cX12_roadOf 29 = .ok (.if_icmp .eq 23, 3) := by decide +kernel
theorem dX12_roadOf_32 : decode cX12_roadOf 32 = .ok (.aload_n 0, 1) := by decide +kernel
theorem dX12_roadOf_33 : decode cX12_roadOf 33 = .ok (.getfield 25, 3) := by decide +kernel
theorem dX12_roadOf_36 : decode cX12_roadOf 36 = .ok (.iload_n 3, 1) := by decide +kernel
theorem dX12_roadOf_37 : decode cX12_roadOf 37 = .ok (.iaload, 1) := by decide +kernel
theorem dX12_roadOf_38 : decode cX12_roadOf 38 = .ok (.iload_n 2, 1) := by decide +kernel
theorem dX12_roadOf_39 : decode cX12_roadOf 39 = .ok (.if_icmp .ne 15, 3) := by decide +kernel
theorem dX12_roadOf_42 : decode cX12_roadOf 42 = .ok (.aload_n 0, 1) := by decide +kernel
theorem dX12_roadOf_43 : decode cX12_roadOf 43 = .ok (.getfield 28, 3) := by decide +kernel
theorem dX12_roadOf_46 : decode cX12_roadOf 46 = .ok (.iload_n 3, 1) := by decide +kernel
theorem dX12_roadOf_47 : decode cX12_roadOf 47 = .ok (.iaload, 1) := by decide +kernel
theorem dX12_roadOf_48 : decode cX12_roadOf 48 = .ok (.iload_n 1, 1) := by decide +kernel
theorem dX12_roadOf_49 : decode cX12_roadOf 49 = .ok (.if_icmp .ne 5, 3) := by decide +kernel
theorem dX12_roadOf_52 : decode cX12_roadOf 52 = .ok (.iload_n 3, 1) := by decide +kernel
theorem dX12_roadOf_53 : decode cX12_roadOf 53 = .ok (.ireturn, 1) := by decide +kernel
theorem dX12_roadOf_54 : decode cX12_roadOf 54 = .ok (.iinc 3 1, 3) := by decide +kernel
theorem dX12_roadOf_57 : decode cX12_roadOf 57 = .ok (.goto (-55), 3) := by decide +kernel
theorem dX12_roadOf_60 : decode cX12_roadOf 60 = .ok (.iconst (-1), 1) := by decide +kernel
theorem dX12_roadOf_61 : decode cX12_roadOf 61 = .ok (.ireturn, 1) := by decide +kernel
theorem dX12_road_0 : decode cX12_road 0 = .ok (.aload_n 0, 1) := by decide +kernel
theorem dX12_road_1 : decode cX12_road 1 = .ok (.getfield 7, 3) := by decide +kernel
theorem dX12_road_4 : decode cX12_road 4 = .ok (.iconst 1, 1) := by decide +kernel
theorem dX12_road_5 : decode cX12_road 5 = .ok (.iaload, 1) := by decide +kernel
theorem dX12_road_6 : decode cX12_road 6 = .ok (.istore 4, 2) := by decide +kernel
theorem dX12_road_8 : decode cX12_road 8 = .ok (.iload 4, 2) := by decide +kernel
theorem dX12_road_10 : decode cX12_road 10 = .ok (.bipush 16, 2) := by decide +kernel
theorem dX12_road_12 : decode cX12_road 12 = .ok (.if_icmp .eq 44, 3) := by decide +kernel
theorem dX12_road_15 : decode cX12_road 15 = .ok (.iload_n 1, 1) := by decide +kernel
theorem dX12_road_16 : decode cX12_road 16 = .ok (.invokestatic 160, 3) := by decide +kernel
theorem dX12_road_19 : decode cX12_road 19 = .ok (.ifCond .eq 37, 3) := by decide +kernel
theorem dX12_road_22 : decode cX12_road 22 = .ok (.iload_n 2, 1) := by decide +kernel
theorem dX12_road_23 : decode cX12_road 23 = .ok (.invokestatic 160, 3) := by decide +kernel
theorem dX12_road_26 : decode cX12_road 26 = .ok (.ifCond .eq 30, 3) := by decide +kernel
theorem dX12_road_29 : decode cX12_road 29 = .ok (.iload_n 1, 1) := by decide +kernel
theorem dX12_road_30 : decode cX12_road 30 = .ok (.iload_n 2, 1) := by decide +kernel
theorem dX12_road_31 : decode cX12_road 31 = .ok (.if_icmp .eq 25, 3) := by decide +kernel
theorem dX12_road_34 : decode cX12_road 34 = .ok (.iload_n 3, 1) := by decide +kernel
theorem dX12_road_35 : decode cX12_road 35 = .ok (.i2l, 1) := by decide +kernel
theorem dX12_road_36 : decode cX12_road 36 = .ok (.lconst 1, 1) := by decide +kernel
theorem dX12_road_37 : decode cX12_road 37 = .ok (.ldc2_w 164, 3) := by decide +kernel
theorem dX12_road_40 : decode cX12_road 40 = .ok (.invokestatic 154, 3) := by decide +kernel
theorem dX12_road_43 : decode cX12_road 43 = .ok (.ifCond .eq 13, 3) := by decide +kernel
theorem dX12_road_46 : decode cX12_road 46 = .ok (.aload_n 0, 1) := by decide +kernel
theorem dX12_road_47 : decode cX12_road 47 = .ok (.iload_n 1, 1) := by decide +kernel
theorem dX12_road_48 : decode cX12_road 48 = .ok (.iload_n 2, 1) := by decide +kernel
theorem dX12_road_49 : decode cX12_road 49 = .ok (.invokevirtual 166, 3) := by decide +kernel
theorem dX12_road_52 : decode cX12_road 52 = .ok (.iconst (-1), 1) := by decide +kernel
theorem dX12_road_53 : decode cX12_road 53 = .ok (.if_icmp .eq 5, 3) := by decide +kernel
theorem dX12_road_56 : decode cX12_road 56 = .ok (.iconst (-1), 1) := by decide +kernel
theorem dX12_road_57 : decode cX12_road 57 = .ok (.ireturn, 1) := by decide +kernel
theorem dX12_road_58 : decode cX12_road 58 = .ok (.aload_n 0, 1) := by decide +kernel
theorem dX12_road_59 : decode cX12_road 59 = .ok (.getfield 25, 3) := by decide +kernel
theorem dX12_road_62 : decode cX12_road 62 = .ok (.iload 4, 2) := by decide +kernel
theorem dX12_road_64 : decode cX12_road 64 = .ok (.iload_n 1, 1) := by decide +kernel
theorem dX12_road_65 : decode cX12_road 65 = .ok (.iastore, 1) := by decide +kernel
theorem dX12_road_66 : decode cX12_road 66 = .ok (.aload_n 0, 1) := by decide +kernel
theorem dX12_road_67 : decode cX12_road 67 = .ok (.getfield 28, 3) := by decide +kernel
theorem dX12_road_70 : decode cX12_road 70 = .ok (.iload 4, 2) := by decide +kernel
theorem dX12_road_72 : decode cX12_road 72 = .ok (.iload_n 2, 1) := by decide +kernel
theorem dX12_road_73 : decode cX12_road 73 = .ok (.iastore, 1) := by decide +kernel
theorem dX12_road_74 : decode cX12_road 74 = .ok (.aload_n 0, 1) := by decide +kernel
theorem dX12_road_75 : decode cX12_road 75 = .ok (.getfield 31, 3) := by decide +kernel
theorem dX12_road_78 : decode cX12_road 78 = .ok (.iload 4, 2) := by decide +kernel
theorem dX12_road_80 : decode cX12_road 80 = .ok (.iload_n 3, 1) := by decide +kernel
theorem dX12_road_81 : decode cX12_road 81 = .ok (.iastore, 1) := by decide +kernel
theorem dX12_road_82 : decode cX12_road 82 = .ok (.aload_n 0, 1) := by decide +kernel
theorem dX12_road_83 : decode cX12_road 83 = .ok (.getfield 7, 3) := by decide +kernel
theorem dX12_road_86 : decode cX12_road 86 = .ok (.iconst 1, 1) := by decide +kernel
theorem dX12_road_87 : decode cX12_road 87 = .ok (.dup2, 1) := by decide +kernel
theorem dX12_road_88 : decode cX12_road 88 = .ok (.iaload, 1) := by decide +kernel
theorem dX12_road_89 : decode cX12_road 89 = .ok (.iconst 1, 1) := by decide +kernel
theorem dX12_road_90 : decode cX12_road 90 = .ok (.iadd, 1) := by decide +kernel
theorem dX12_road_91 : decode cX12_road 91 = .ok (.iastore, 1) := by decide +kernel
theorem dX12_road_92 : decode cX12_road 92 = .ok (.iload 4, 2) := by decide +kernel
theorem dX12_road_94 : decode cX12_road 94 = .ok (.ireturn, 1) := by decide +kernel
theorem dX12_person_0 : decode cX12_person 0 = .ok (.aload_n 0, 1) := by decide +kernel
theorem dX12_person_1 : decode cX12_person 1 = .ok (.getfield 7, 3) := by decide +kernel
theorem dX12_person_4 : decode cX12_person 4 = .ok (.iconst 0, 1) := by decide +kernel
theorem dX12_person_5 : decode cX12_person 5 = .ok (.iaload, 1) := by decide +kernel
theorem dX12_person_6 : decode cX12_person 6 = .ok (.istore_n 2, 1) := by decide +kernel
theorem dX12_person_7 : decode cX12_person 7 = .ok (.iload_n 2, 1) := by decide +kernel
theorem dX12_person_8 : decode cX12_person 8 = .ok (.bipush 12, 2) := by decide +kernel
theorem dX12_person_10 : decode cX12_person 10 = .ok (.if_icmp .eq 10, 3) := by decide +kernel
theorem dX12_person_13 : decode cX12_person 13 = .ok (.iload_n 1, 1) := by decide +kernel
theorem dX12_person_14 : decode cX12_person 14 = .ok (.invokestatic 160, 3) := by decide +kernel
theorem dX12_person_17 : decode cX12_person 17 = .ok (.ifCond .ne 5, 3) := by decide +kernel
theorem dX12_person_20 : decode cX12_person 20 = .ok (.iconst (-1), 1) := by decide +kernel
theorem dX12_person_21 : decode cX12_person 21 = .ok (.ireturn, 1) := by decide +kernel
theorem dX12_person_22 : decode cX12_person 22 = .ok (.aload_n 0, 1) := by decide +kernel
theorem dX12_person_23 : decode cX12_person 23 = .ok (.getfield 13, 3) := by decide +kernel
theorem dX12_person_26 : decode cX12_person 26 = .ok (.iload_n 2, 1) := by decide +kernel
theorem dX12_person_27 : decode cX12_person 27 = .ok (.iload_n 1, 1) := by decide +kernel
theorem dX12_person_28 : decode cX12_person 28 = .ok (.iastore, 1) := by decide +kernel
theorem dX12_person_29 : decode cX12_person 29 = .ok (.aload_n 0, 1) := by decide +kernel
theorem dX12_person_30 : decode cX12_person 30 = .ok (.getfield 16, 3) := by decide +kernel
theorem dX12_person_33 : decode cX12_person 33 = .ok (.iload_n 2, 1) := by decide +kernel
theorem dX12_person_34 : decode cX12_person 34 = .ok (.iconst 0, 1) := by decide +kernel
theorem dX12_person_35 : decode cX12_person 35 = .ok (.iastore, 1) := by decide +kernel
theorem dX12_person_36 : decode cX12_person 36 = .ok (.aload_n 0, 1) := by decide +kernel
theorem dX12_person_37 : decode cX12_person 37 = .ok (.getfield 7, 3) := by decide +kernel
theorem dX12_person_40 : decode cX12_person 40 = .ok (.iconst 0, 1) := by decide +kernel
theorem dX12_person_41 : decode cX12_person 41 = .ok (.dup2, 1) := by decide +kernel
theorem dX12_person_42 : decode cX12_person 42 = .ok (.iaload, 1) := by decide +kernel
theorem dX12_person_43 : decode cX12_person 43 = .ok (.iconst 1, 1) := by decide +kernel
theorem dX12_person_44 : decode cX12_person 44 = .ok (.iadd, 1) := by decide +kernel
theorem dX12_person_45 : decode cX12_person 45 = .ok (.iastore, 1) := by decide +kernel
theorem dX12_person_46 : decode cX12_person 46 = .ok (.iload_n 2, 1) := by decide +kernel
theorem dX12_person_47 : decode cX12_person 47 = .ok (.ireturn, 1) := by decide +kernel
theorem dX12_change_0 : decode cX12_change 0 = .ok (.aload_n 0, 1) := by decide +kernel
theorem dX12_change_1 : decode cX12_change 1 = .ok (.getfield 7, 3) := by decide +kernel
theorem dX12_change_4 : decode cX12_change 4 = .ok (.iconst 2, 1) := by decide +kernel
theorem dX12_change_5 : decode cX12_change 5 = .ok (.iaload, 1) := by decide +kernel
theorem dX12_change_6 : decode cX12_change 6 = .ok (.istore 7, 2) := by decide +kernel
theorem dX12_change_8 : decode cX12_change 8 = .ok (.iload 7, 2) := by decide +kernel
theorem dX12_change_10 : decode cX12_change 10 = .ok (.bipush 60, 2) := by decide +kernel
theorem dX12_change_12 : decode cX12_change 12 = .ok (.if_icmp .eq 64, 3) := by decide +kernel
theorem dX12_change_15 : decode cX12_change 15 = .ok (.iload_n 1, 1) := by decide +kernel
theorem dX12_change_16 : decode cX12_change 16 = .ok (.invokestatic 170, 3) := by decide +kernel
theorem dX12_change_19 : decode cX12_change 19 = .ok (.ifCond .eq 57, 3) := by decide +kernel
theorem dX12_change_22 : decode cX12_change 22 = .ok (.iload_n 2, 1) := by decide +kernel
theorem dX12_change_23 : decode cX12_change 23 = .ok (.i2l, 1) := by decide +kernel
theorem dX12_change_24 : decode cX12_change 24 = .ok (.lconst 0, 1) := by decide +kernel
theorem dX12_change_25 : decode cX12_change 25 = .ok (.ldc2_w 173, 3) := by decide +kernel
theorem dX12_change_28 : decode cX12_change 28 = .ok (.invokestatic 154, 3) := by decide +kernel
theorem dX12_change_31 : decode cX12_change 31 = .ok (.ifCond .eq 45, 3) := by decide +kernel
theorem dX12_change_34 : decode cX12_change 34 = .ok (.aload_n 0, 1) := by decide +kernel
theorem dX12_change_35 : decode cX12_change 35 = .ok (.iload_n 3, 1) := by decide +kernel
theorem dX12_change_36 : decode cX12_change 36 = .ok (.invokevirtual 175, 3) := by decide +kernel
theorem dX12_change_39 : decode cX12_change 39 = .ok (.ifCond .eq 37, 3) := by decide +kernel
theorem dX12_change_42 : decode cX12_change 42 = .ok (.iload 4, 2) := by decide +kernel
theorem dX12_change_44 : decode cX12_change 44 = .ok (.i2l, 1) := by decide +kernel
theorem dX12_change_45 : decode cX12_change 45 = .ok (.lconst 0, 1) := by decide +kernel
theorem dX12_change_46 : decode cX12_change 46 = .ok (.iload_n 2, 1) := by decide +kernel
theorem dX12_change_47 : decode cX12_change 47 = .ok (.ifCond .ne 9, 3) := by decide +kernel
theorem dX12_change_50 : decode cX12_change 50 = .ok (.ldc2_w 164, 3) := by decide +kernel
theorem dX12_change_53 : decode cX12_change 53 = .ok (.goto 17, 3) := by decide +kernel
theorem dX12_change_56 : decode cX12_change 56 = .ok (.iload_n 2, 1) := by decide +kernel
theorem dX12_change_57 : decode cX12_change 57 = .ok (.iconst 1, 1) := by decide +kernel
theorem dX12_change_58 : decode cX12_change 58 = .ok (.if_icmp .ne 9, 3) := by decide +kernel
theorem dX12_change_61 : decode cX12_change 61 = .ok (.ldc2_w 178, 3) := by decide +kernel
theorem dX12_change_64 : decode cX12_change 64 = .ok (.goto 6, 3) := by decide +kernel
theorem dX12_change_67 : decode cX12_change 67 = .ok (.ldc2_w 152, 3) := by decide +kernel
theorem dX12_change_70 : decode cX12_change 70 = .ok (.invokestatic 154, 3) := by decide +kernel
theorem dX12_change_73 : decode cX12_change 73 = .ok (.ifCond .ne 5, 3) := by decide +kernel
theorem dX12_change_76 : decode cX12_change 76 = .ok (.iconst (-1), 1) := by decide +kernel
theorem dX12_change_77 : decode cX12_change 77 = .ok (.ireturn, 1) := by decide +kernel
theorem dX12_change_78 : decode cX12_change 78 = .ok (.iload_n 2, 1) := by decide +kernel
theorem dX12_change_79 : decode cX12_change 79 = .ok (.iconst 1, 1) := by decide +kernel
theorem dX12_change_80 : decode cX12_change 80 = .ok (.if_icmp .ne 20, 3) := by decide +kernel
theorem dX12_change_83 : decode cX12_change 83 = .ok (.aload_n 0, 1) := by decide +kernel
theorem dX12_change_84 : decode cX12_change 84 = .ok (.iload 5, 2) := by decide +kernel
theorem dX12_change_86 : decode cX12_change 86 = .ok (.invokevirtual 175, 3) := by decide +kernel
theorem dX12_change_89 : decode cX12_change 89 = .ok (.ifCond .eq 9, 3) := by decide +kernel
theorem dX12_change_92 : decode cX12_change 92 = .ok (.iload 5, 2) := by decide +kernel
theorem dX12_change_94 : decode cX12_change 94 = .ok (.iload_n 3, 1) := by decide +kernel
theorem dX12_change_95 : decode cX12_change 95 = .ok (.if_icmp .ne 5, 3) := by decide +kernel
theorem dX12_change_98 : decode cX12_change 98 = .ok (.iconst (-1), 1) := by decide +kernel
theorem dX12_change_99 : decode cX12_change 99 = .ok (.ireturn, 1) := by decide +kernel
theorem dX12_change_100 : decode cX12_change 100 = .ok (.aload_n 0, 1) := by decide +kernel
theorem dX12_change_101 : decode cX12_change 101 = .ok (.getfield 34, 3) := by decide +kernel
theorem dX12_change_104 : decode cX12_change 104 = .ok (.iload 7, 2) := by decide +kernel
theorem dX12_change_106 : decode cX12_change 106 = .ok (.iload_n 1, 1) := by decide +kernel
theorem dX12_change_107 : decode cX12_change 107 = .ok (.iastore, 1) := by decide +kernel
theorem dX12_change_108 : decode cX12_change 108 = .ok (.aload_n 0, 1) := by decide +kernel
theorem dX12_change_109 : decode cX12_change 109 = .ok (.getfield 37, 3) := by decide +kernel
theorem dX12_change_112 : decode cX12_change 112 = .ok (.iload 7, 2) := by decide +kernel
theorem dX12_change_114 : decode cX12_change 114 = .ok (.iload_n 2, 1) := by decide +kernel
theorem dX12_change_115 : decode cX12_change 115 = .ok (.iastore, 1) := by decide +kernel
theorem dX12_change_116 : decode cX12_change 116 = .ok (.aload_n 0, 1) := by decide +kernel
theorem dX12_change_117 : decode cX12_change 117 = .ok (.getfield 40, 3) := by decide +kernel
theorem dX12_change_120 : decode cX12_change 120 = .ok (.iload 7, 2) := by decide +kernel
theorem dX12_change_122 : decode cX12_change 122 = .ok (.iload_n 3, 1) := by decide +kernel
theorem dX12_change_123 : decode cX12_change 123 = .ok (.iastore, 1) := by decide +kernel
theorem dX12_change_124 : decode cX12_change 124 = .ok (.aload_n 0, 1) := by decide +kernel
theorem dX12_change_125 : decode cX12_change 125 = .ok (.getfield 43, 3) := by decide +kernel
theorem dX12_change_128 : decode cX12_change 128 = .ok (.iload 7, 2) := by decide +kernel
theorem dX12_change_130 : decode cX12_change 130 = .ok (.iload 4, 2) := by decide +kernel
theorem dX12_change_132 : decode cX12_change 132 = .ok (.iastore, 1) := by decide +kernel
theorem dX12_change_133 : decode cX12_change 133 = .ok (.aload_n 0, 1) := by decide +kernel
theorem dX12_change_134 : decode cX12_change 134 = .ok (.getfield 46, 3) := by decide +kernel
theorem dX12_change_137 : decode cX12_change 137 = .ok (.iload 7, 2) := by decide +kernel
theorem dX12_change_139 : decode cX12_change 139 = .ok (.iload 5, 2) := by decide +kernel
theorem dX12_change_141 : decode cX12_change 141 = .ok (.iastore, 1) := by decide +kernel
theorem dX12_change_142 : decode cX12_change 142 = .ok (.aload_n 0, 1) := by decide +kernel
theorem dX12_change_143 : decode cX12_change 143 = .ok (.getfield 49, 3) := by decide +kernel
theorem dX12_change_146 : decode cX12_change 146 = .ok (.iload 7, 2) := by decide +kernel
theorem dX12_change_148 : decode cX12_change 148 = .ok (.iload 6, 2) := by decide +kernel
theorem dX12_change_150 : decode cX12_change 150 = .ok (.ifCond .eq 7, 3) := by decide +kernel
theorem dX12_change_153 : decode cX12_change 153 = .ok (.iconst 1, 1) := by decide +kernel
theorem dX12_change_154 : decode cX12_change 154 = .ok (.goto 4, 3) := by decide +kernel
theorem dX12_change_157 : decode cX12_change 157 = .ok (.iconst 0, 1) := by decide +kernel
theorem dX12_change_158 : decode cX12_change 158 = .ok (.iastore, 1) := by decide +kernel
theorem dX12_change_159 : decode cX12_change 159 = .ok (.aload_n 0, 1) := by decide +kernel
theorem dX12_change_160 : decode cX12_change 160 = .ok (.getfield 7, 3) := by decide +kernel
theorem dX12_change_163 : decode cX12_change 163 = .ok (.iconst 2, 1) := by decide +kernel
theorem dX12_change_164 : decode cX12_change 164 = .ok (.dup2, 1) := by decide +kernel
theorem dX12_change_165 : decode cX12_change 165 = .ok (.iaload, 1) := by decide +kernel
theorem dX12_change_166 : decode cX12_change 166 = .ok (.iconst 1, 1) := by decide +kernel
theorem dX12_change_167 : decode cX12_change 167 = .ok (.iadd, 1) := by decide +kernel
theorem dX12_change_168 : decode cX12_change 168 = .ok (.iastore, 1) := by decide +kernel
theorem dX12_change_169 : decode cX12_change 169 = .ok (.aload_n 0, 1) := by decide +kernel
theorem dX12_change_170 : decode cX12_change 170 = .ok (.invokevirtual 180, 3) := by decide +kernel
theorem dX12_change_173 : decode cX12_change 173 = .ok (.aload_n 0, 1) := by decide +kernel
theorem dX12_change_174 : decode cX12_change 174 = .ok (.getfield 7, 3) := by decide +kernel
theorem dX12_change_177 : decode cX12_change 177 = .ok (.iconst 2, 1) := by decide +kernel
theorem dX12_change_178 : decode cX12_change 178 = .ok (.iaload, 1) := by decide +kernel
theorem dX12_change_179 : decode cX12_change 179 = .ok (.ireturn, 1) := by decide +kernel
theorem dX12_knows_0 : decode cX12_knows 0 = .ok (.aload_n 0, 1) := by decide +kernel
theorem dX12_knows_1 : decode cX12_knows 1 = .ok (.iload_n 1, 1) := by decide +kernel
theorem dX12_knows_2 : decode cX12_knows 2 = .ok (.invokevirtual 175, 3) := by decide +kernel
theorem dX12_knows_5 : decode cX12_knows 5 = .ok (.ifCond .eq 30, 3) := by decide +kernel
theorem dX12_knows_8 : decode cX12_knows 8 = .ok (.aload_n 0, 1) := by decide +kernel
theorem dX12_knows_9 : decode cX12_knows 9 = .ok (.iload_n 2, 1) := by decide +kernel
theorem dX12_knows_10 : decode cX12_knows 10 = .ok (.invokevirtual 175, 3) := by decide +kernel
theorem dX12_knows_13 : decode cX12_knows 13 = .ok (.ifCond .eq 22, 3) := by decide +kernel
theorem dX12_knows_16 : decode cX12_knows 16 = .ok (.iload_n 1, 1) := by decide +kernel
theorem dX12_knows_17 : decode cX12_knows 17 = .ok (.iload_n 2, 1) := by decide +kernel
theorem dX12_knows_18 : decode cX12_knows 18 = .ok (.if_icmp .eq 17, 3) := by decide +kernel
theorem dX12_knows_21 : decode cX12_knows 21 = .ok (.aload_n 0, 1) := by decide +kernel
theorem dX12_knows_22 : decode cX12_knows 22 = .ok (.getfield 16, 3) := by decide +kernel
theorem dX12_knows_25 : decode cX12_knows 25 = .ok (.iload_n 1, 1) := by decide +kernel
theorem dX12_knows_26 : decode cX12_knows 26 = .ok (.iaload, 1) := by decide +kernel
theorem dX12_knows_27 : decode cX12_knows 27 = .ok (.iload_n 2, 1) := by decide +kernel
theorem dX12_knows_28 : decode cX12_knows 28 = .ok (.invokestatic 148, 3) := by decide +kernel
theorem dX12_knows_31 : decode cX12_knows 31 = .ok (.iload_n 3, 1) := by decide +kernel
theorem dX12_knows_32 : decode cX12_knows 32 = .ok (.if_icmp .ne 5, 3) := by decide +kernel
theorem dX12_knows_35 : decode cX12_knows 35 = .ok (.iconst 0, 1) := by decide +kernel
theorem dX12_knows_36 : decode cX12_knows 36 = .ok (.ireturn, 1) := by decide +kernel
theorem dX12_knows_37 : decode cX12_knows 37 = .ok (.aload_n 0, 1) := by decide +kernel
theorem dX12_knows_38 : decode cX12_knows 38 = .ok (.getfield 16, 3) := by decide +kernel
theorem dX12_knows_41 : decode cX12_knows 41 = .ok (.iload_n 1, 1) := by decide +kernel
theorem dX12_knows_42 : decode cX12_knows 42 = .ok (.dup2, 1) := by decide +kernel
theorem dX12_knows_43 : decode cX12_knows 43 = .ok (.iaload, 1) := by decide +kernel
theorem dX12_knows_44 : decode cX12_knows 44 = .ok (.iconst 1, 1) := by decide +kernel
theorem dX12_knows_45 : decode cX12_knows 45 = .ok (.iload_n 2, 1) := by decide +kernel
theorem dX12_knows_46 : decode cX12_knows 46 = .ok (.ishl, 1) := by decide +kernel
theorem dX12_knows_47 : decode cX12_knows 47 = .ok (.ixor, 1) := by decide +kernel
theorem dX12_knows_48 : decode cX12_knows 48 = .ok (.iastore, 1) := by decide +kernel
theorem dX12_knows_49 : decode cX12_knows 49 = .ok (.iconst 1, 1) := by decide +kernel
theorem dX12_knows_50 : decode cX12_knows 50 = .ok (.ireturn, 1) := by decide +kernel
theorem dX12_worth_0 : decode cX12_worth 0 = .ok (.iload_n 1, 1) := by decide +kernel
theorem dX12_worth_1 : decode cX12_worth 1 = .ok (.i2l, 1) := by decide +kernel
theorem dX12_worth_2 : decode cX12_worth 2 = .ok (.lconst 0, 1) := by decide +kernel
theorem dX12_worth_3 : decode cX12_worth 3 = .ok (.ldc2_w 183, 3) := by decide +kernel
theorem dX12_worth_6 : decode cX12_worth 6 = .ok (.invokestatic 154, 3) := by decide +kernel
theorem dX12_worth_9 : decode cX12_worth 9 = .ok (.ifCond .eq 15, 3) := by decide +kernel
theorem dX12_worth_12 : decode cX12_worth 12 = .ok (.iload_n 2, 1) := by decide +kernel
theorem dX12_worth_13 : decode cX12_worth 13 = .ok (.i2l, 1) := by decide +kernel
theorem dX12_worth_14 : decode cX12_worth 14 = .ok (.lconst 0, 1) := by decide +kernel
theorem dX12_worth_15 : decode cX12_worth 15 = .ok (.ldc2_w 185, 3) := by decide +kernel
theorem dX12_worth_18 : decode cX12_worth 18 = .ok (.invokestatic 154, 3) := by decide +kernel
theorem dX12_worth_21 : decode cX12_worth 21 = .ok (.ifCond .ne 5, 3) := by decide +kernel
theorem dX12_worth_24 : decode cX12_worth 24 = .ok (.iconst (-1), 1) := by decide +kernel
theorem dX12_worth_25 : decode cX12_worth 25 = .ok (.ireturn, 1) := by decide +kernel
theorem dX12_worth_26 : decode cX12_worth 26 = .ok (.aload_n 0, 1) := by decide +kernel
theorem dX12_worth_27 : decode cX12_worth 27 = .ok (.getfield 19, 3) := by decide +kernel
theorem dX12_worth_30 : decode cX12_worth 30 = .ok (.iload_n 1, 1) := by decide +kernel
theorem dX12_worth_31 : decode cX12_worth 31 = .ok (.iaload, 1) := by decide +kernel
theorem dX12_worth_32 : decode cX12_worth 32 = .ok (.istore_n 3, 1) := by decide +kernel
theorem dX12_worth_33 : decode cX12_worth 33 = .ok (.aload_n 0, 1) := by decide +kernel
theorem dX12_worth_34 : decode cX12_worth 34 = .ok (.getfield 19, 3) := by decide +kernel
theorem dX12_worth_37 : decode cX12_worth 37 = .ok (.iload_n 1, 1) := by decide +kernel
theorem dX12_worth_38 : decode cX12_worth 38 = .ok (.iload_n 2, 1) := by decide +kernel
theorem dX12_worth_39 : decode cX12_worth 39 = .ok (.iastore, 1) := by decide +kernel
theorem dX12_worth_40 : decode cX12_worth 40 = .ok (.iload_n 3, 1) := by decide +kernel
theorem dX12_worth_41 : decode cX12_worth 41 = .ok (.ireturn, 1) := by decide +kernel
theorem dX12_with_0 : decode cX12_with 0 = .ok (.iload_n 2, 1) := by decide +kernel
theorem dX12_with_1 : decode cX12_with 1 = .ok (.iconst 1, 1) := by decide +kernel
theorem dX12_with_2 : decode cX12_with 2 = .ok (.if_icmp .ne 11, 3) := by decide +kernel
theorem dX12_with_5 : decode cX12_with 5 = .ok (.iload_n 0, 1) := by decide +kernel
theorem dX12_with_6 : decode cX12_with 6 = .ok (.iconst 1, 1) := by decide +kernel
theorem dX12_with_7 : decode cX12_with 7 = .ok (.iload_n 1, 1) := by decide +kernel
theorem dX12_with_8 : decode cX12_with 8 = .ok (.ishl, 1) := by decide +kernel
theorem dX12_with_9 : decode cX12_with 9 = .ok (.ior, 1) := by decide +kernel
theorem dX12_with_10 : decode cX12_with 10 = .ok (.goto 10, 3) := by decide +kernel
theorem dX12_with_13 : decode cX12_with 13 = .ok (.iload_n 0, 1) := by decide +kernel
theorem dX12_with_14 : decode cX12_with 14 = .ok (.iconst 1, 1) := by decide +kernel
theorem dX12_with_15 : decode cX12_with 15 = .ok (.iload_n 1, 1) := by decide +kernel
theorem dX12_with_16 : decode cX12_with 16 = .ok (.ishl, 1) := by decide +kernel
theorem dX12_with_17 : decode cX12_with 17 = .ok (.iconst (-1), 1) := by decide +kernel
theorem dX12_with_18 : decode cX12_with 18 = .ok (.ixor, 1) := by decide +kernel
theorem dX12_with_19 : decode cX12_with 19 = .ok (.iand, 1) := by decide +kernel
theorem dX12_with_20 : decode cX12_with 20 = .ok (.ireturn, 1) := by decide +kernel
theorem dX12_makes_0 : decode cX12_makes 0 = .ok (.bipush 12, 2) := by decide +kernel
theorem dX12_makes_2 : decode cX12_makes 2 = .ok (.iload_n 1, 1) := by decide +kernel
theorem dX12_makes_3 : decode cX12_makes 3 = .ok (.imul, 1) := by decide +kernel
theorem dX12_makes_4 : decode cX12_makes 4 = .ok (.aload_n 0, 1) := by decide +kernel
theorem dX12_makes_5 : decode cX12_makes 5 = .ok (.getfield 40, 3) := by decide +kernel
theorem dX12_makes_8 : decode cX12_makes 8 = .ok (.iload_n 2, 1) := by decide +kernel
theorem dX12_makes_9 : decode cX12_makes 9 = .ok (.iaload, 1) := by decide +kernel
theorem dX12_makes_10 : decode cX12_makes 10 = .ok (.iadd, 1) := by decide +kernel
theorem dX12_makes_11 : decode cX12_makes 11 = .ok (.istore_n 3, 1) := by decide +kernel
theorem dX12_makes_12 : decode cX12_makes 12 = .ok (.aload_n 0, 1) := by decide +kernel
theorem dX12_makes_13 : decode cX12_makes 13 = .ok (.getfield 37, 3) := by decide +kernel
theorem dX12_makes_16 : decode cX12_makes 16 = .ok (.iload_n 2, 1) := by decide +kernel
theorem dX12_makes_17 : decode cX12_makes 17 = .ok (.iaload, 1) := by decide +kernel
theorem dX12_makes_18 : decode cX12_makes 18 = .ok (.ifCond .ne 33, 3) := by decide +kernel
theorem dX12_makes_21 : decode cX12_makes 21 = .ok (.aload_n 0, 1) := by decide +kernel
theorem dX12_makes_22 : decode cX12_makes 22 = .ok (.getfield 79, 3) := by decide +kernel
theorem dX12_makes_25 : decode cX12_makes 25 = .ok (.iload_n 3, 1) := by decide +kernel
theorem dX12_makes_26 : decode cX12_makes 26 = .ok (.aload_n 0, 1) := by decide +kernel
theorem dX12_makes_27 : decode cX12_makes 27 = .ok (.getfield 79, 3) := by decide +kernel
theorem dX12_makes_30 : decode cX12_makes 30 = .ok (.iload_n 3, 1) := by decide +kernel
theorem dX12_makes_31 : decode cX12_makes 31 = .ok (.iaload, 1) := by decide +kernel
theorem dX12_makes_32 : decode cX12_makes 32 = .ok (.aload_n 0, 1) := by decide +kernel
theorem dX12_makes_33 : decode cX12_makes 33 = .ok (.getfield 43, 3) := by decide +kernel
theorem dX12_makes_36 : decode cX12_makes 36 = .ok (.iload_n 2, 1) := by decide +kernel
theorem dX12_makes_37 : decode cX12_makes 37 = .ok (.iaload, 1) := by decide +kernel
theorem dX12_makes_38 : decode cX12_makes 38 = .ok (.aload_n 0, 1) := by decide +kernel
theorem dX12_makes_39 : decode cX12_makes 39 = .ok (.getfield 49, 3) := by decide +kernel
theorem dX12_makes_42 : decode cX12_makes 42 = .ok (.iload_n 2, 1) := by decide +kernel
theorem dX12_makes_43 : decode cX12_makes 43 = .ok (.iaload, 1) := by decide +kernel
theorem dX12_makes_44 : decode cX12_makes 44 = .ok (.invokestatic 187, 3) := by decide +kernel
theorem dX12_makes_47 : decode cX12_makes 47 = .ok (.iastore, 1) := by decide +kernel
theorem dX12_makes_48 : decode cX12_makes 48 = .ok (.goto 75, 3) := by decide +kernel
theorem dX12_makes_51 : decode cX12_makes 51 = .ok (.aload_n 0, 1) := by decide +kernel
theorem dX12_makes_52 : decode cX12_makes 52 = .ok (.getfield 37, 3) := by decide +kernel
theorem dX12_makes_55 : decode cX12_makes 55 = .ok (.iload_n 2, 1) := by decide +kernel
theorem dX12_makes_56 : decode cX12_makes 56 = .ok (.iaload, 1) := by decide +kernel
theorem dX12_makes_57 : decode cX12_makes 57 = .ok (.iconst 1, 1) := by decide +kernel
theorem dX12_makes_58 : decode cX12_makes 58 = .ok (.if_icmp .ne 53, 3) := by decide +kernel
theorem dX12_makes_61 : decode cX12_makes 61 = .ok (.aload_n 0, 1) := by decide +kernel
theorem dX12_makes_62 : decode cX12_makes 62 = .ok (.getfield 82, 3) := by decide +kernel
theorem dX12_makes_65 : decode cX12_makes 65 = .ok (.bipush 6, 2) := by decide +kernel
theorem dX12_makes_67 : decode cX12_makes 67 = .ok (.iload_n 3, 1) := by decide +kernel
theorem dX12_makes_68 : decode cX12_makes 68 = .ok (.imul, 1) := by decide +kernel
theorem dX12_makes_69 : decode cX12_makes 69 = .ok (.aload_n 0, 1) := by decide +kernel
theorem dX12_makes_70 : decode cX12_makes 70 = .ok (.getfield 43, 3) := by decide +kernel
theorem dX12_makes_73 : decode cX12_makes 73 = .ok (.iload_n 2, 1) := by decide +kernel
theorem dX12_makes_74 : decode cX12_makes 74 = .ok (.iaload, 1) := by decide +kernel
theorem dX12_makes_75 : decode cX12_makes 75 = .ok (.iadd, 1) := by decide +kernel
theorem dX12_makes_76 : decode cX12_makes 76 = .ok (.aload_n 0, 1) := by decide +kernel
theorem dX12_makes_77 : decode cX12_makes 77 = .ok (.getfield 82, 3) := by decide +kernel
theorem dX12_makes_80 : decode cX12_makes 80 = .ok (.bipush 6, 2) := by decide +kernel
theorem dX12_makes_82 : decode cX12_makes 82 = .ok (.iload_n 3, 1) := by decide +kernel
theorem dX12_makes_83 : decode cX12_makes 83 = .ok (.imul, 1) := by decide +kernel
theorem dX12_makes_84 : decode cX12_makes 84 = .ok (.aload_n 0, 1) := by decide +kernel
theorem dX12_makes_85 : decode cX12_makes 85 = .ok (.getfield 43, 3) := by decide +kernel
theorem dX12_makes_88 : decode cX12_makes 88 = .ok (.iload_n 2, 1) := by decide +kernel
theorem dX12_makes_89 : decode cX12_makes 89 = .ok (.iaload, 1) := by decide +kernel
theorem dX12_makes_90 : decode cX12_makes 90 = .ok (.iadd, 1) := by decide +kernel
theorem dX12_makes_91 : decode cX12_makes 91 = .ok (.iaload, 1) := by decide +kernel
theorem dX12_makes_92 : decode cX12_makes 92 = .ok (.aload_n 0, 1) := by decide +kernel
theorem dX12_makes_93 : decode cX12_makes 93 = .ok (.getfield 46, 3) := by decide +kernel
theorem dX12_makes_96 : decode cX12_makes 96 = .ok (.iload_n 2, 1) := by decide +kernel
theorem dX12_makes_97 : decode cX12_makes 97 = .ok (.iaload, 1) := by decide +kernel
theorem dX12_makes_98 : decode cX12_makes 98 = .ok (.aload_n 0, 1) := by decide +kernel
theorem dX12_makes_99 : decode cX12_makes 99 = .ok (.getfield 49, 3) := by decide +kernel
theorem dX12_makes_102 : decode cX12_makes 102 = .ok (.iload_n 2, 1) := by decide +kernel
theorem dX12_makes_103 : decode cX12_makes 103 = .ok (.iaload, 1) := by decide +kernel
theorem dX12_makes_104 : decode cX12_makes 104 = .ok (.invokestatic 187, 3) := by decide +kernel
theorem dX12_makes_107 : decode cX12_makes 107 = .ok (.iastore, 1) := by decide +kernel
theorem dX12_makes_108 : decode cX12_makes 108 = .ok (.goto 15, 3) := by decide +kernel
theorem dX12_makes_111 : decode cX12_makes 111 = .ok (.aload_n 0, 1) := by decide +kernel
theorem dX12_makes_112 : decode cX12_makes 112 = .ok (.getfield 85, 3) := by decide +kernel
theorem dX12_makes_115 : decode cX12_makes 115 = .ok (.iload_n 3, 1) := by decide +kernel
theorem dX12_makes_116 : decode cX12_makes 116 = .ok (.aload_n 0, 1) := by decide +kernel
theorem dX12_makes_117 : decode cX12_makes 117 = .ok (.getfield 43, 3) := by decide +kernel
theorem dX12_makes_120 : decode cX12_makes 120 = .ok (.iload_n 2, 1) := by decide +kernel
theorem dX12_makes_121 : decode cX12_makes 121 = .ok (.iaload, 1) := by decide +kernel
theorem dX12_makes_122 : decode cX12_makes 122 = .ok (.iastore, 1) := by decide +kernel
theorem dX12_makes_123 : decode cX12_makes 123 = .ok (.return_, 1) := by decide +kernel
theorem dX12_sorts_0 : decode cX12_sorts 0 = .ok (.iconst 0, 1) := by decide +kernel
theorem dX12_sorts_1 : decode cX12_sorts 1 = .ok (.istore_n 1, 1) := by decide +kernel
theorem dX12_sorts_2 : decode cX12_sorts 2 = .ok (.iload_n 1, 1) := by decide +kernel
theorem dX12_sorts_3 : decode cX12_sorts 3 = .ok (.aload_n 0, 1) := by decide +kernel
theorem dX12_sorts_4 : decode cX12_sorts 4 = .ok (.getfield 7, 3) := by decide +kernel
theorem dX12_sorts_7 : decode cX12_sorts 7 = .ok (.iconst 2, 1) := by decide +kernel
theorem dX12_sorts_8 : decode cX12_sorts 8 = .ok (.iaload, 1) := by decide +kernel
theorem dX12_sorts_9 : decode cX12_sorts 9 = .ok (.if_icmp .ge 64, 3) := by decide +kernel
theorem dX12_sorts_12 : decode cX12_sorts 12 = .ok (.iload_n 1, 1) := by decide +kernel
theorem dX12_sorts_13 : decode cX12_sorts 13 = .ok (.istore_n 2, 1) := by decide +kernel
theorem dX12_sorts_14 : decode cX12_sorts 14 = .ok (.iload_n 2, 1) := by decide +kernel
theorem dX12_sorts_15 : decode cX12_sorts 15 = .ok (.ifCond .le 45, 3) := by decide +kernel
theorem dX12_sorts_18 : decode cX12_sorts 18 = .ok (.aload_n 0, 1) := by decide +kernel
theorem dX12_sorts_19 : decode cX12_sorts 19 = .ok (.getfield 34, 3) := by decide +kernel
theorem dX12_sorts_22 : decode cX12_sorts 22 = .ok (.aload_n 0, 1) := by decide +kernel
theorem dX12_sorts_23 : decode cX12_sorts 23 = .ok (.getfield 88, 3) := by decide +kernel
theorem dX12_sorts_26 : decode cX12_sorts 26 = .ok (.iload_n 2, 1) := by decide +kernel
theorem dX12_sorts_27 : decode cX12_sorts 27 = .ok (.iconst 1, 1) := by decide +kernel
theorem dX12_sorts_28 : decode cX12_sorts 28 = .ok (.isub, 1) := by decide +kernel
theorem dX12_sorts_29 : decode cX12_sorts 29 = .ok (.iaload, 1) := by decide +kernel
theorem dX12_sorts_30 : decode cX12_sorts 30 = .ok (.iaload, 1) := by decide +kernel
theorem dX12_sorts_31 : decode cX12_sorts 31 = .ok (.aload_n 0, 1) := by decide +kernel
theorem dX12_sorts_32 : decode cX12_sorts 32 = .ok (.getfield 34, 3) := by decide +kernel
theorem dX12_sorts_35 : decode cX12_sorts 35 = .ok (.iload_n 1, 1) := by decide +kernel
theorem dX12_sorts_36 : decode cX12_sorts 36 = .ok (.iaload, 1) := by decide +kernel
theorem dX12_sorts_37 : decode cX12_sorts 37 = .ok (.if_icmp .le 23, 3) := by decide +kernel
theorem dX12_sorts_40 : decode cX12_sorts 40 = .ok (.aload_n 0, 1) := by decide +kernel
theorem dX12_sorts_41 : decode cX12_sorts 41 = .ok (.getfield 88, 3) := by decide +kernel
theorem dX12_sorts_44 : decode cX12_sorts 44 = .ok (.iload_n 2, 1) := by decide +kernel
theorem dX12_sorts_45 : decode cX12_sorts 45 = .ok (.aload_n 0, 1) := by decide +kernel
theorem dX12_sorts_46 : decode cX12_sorts 46 = .ok (.getfield 88, 3) := by decide +kernel
theorem dX12_sorts_49 : decode cX12_sorts 49 = .ok (.iload_n 2, 1) := by decide +kernel
theorem dX12_sorts_50 : decode cX12_sorts 50 = .ok (.iconst 1, 1) := by decide +kernel
theorem dX12_sorts_51 : decode cX12_sorts 51 = .ok (.isub, 1) := by decide +kernel
theorem dX12_sorts_52 : decode cX12_sorts 52 = .ok (.iaload, 1) := by decide +kernel
theorem dX12_sorts_53 : decode cX12_sorts 53 = .ok (.iastore, 1) := by decide +kernel
theorem dX12_sorts_54 : decode cX12_sorts 54 = .ok (.iinc 2 (-1), 3) := by decide +kernel
theorem dX12_sorts_57 : decode cX12_sorts 57 = .ok (.goto (-43), 3) := by decide +kernel
theorem dX12_sorts_60 : decode cX12_sorts 60 = .ok (.aload_n 0, 1) := by decide +kernel
theorem dX12_sorts_61 : decode cX12_sorts 61 = .ok (.getfield 88, 3) := by decide +kernel
theorem dX12_sorts_64 : decode cX12_sorts 64 = .ok (.iload_n 2, 1) := by decide +kernel
theorem dX12_sorts_65 : decode cX12_sorts 65 = .ok (.iload_n 1, 1) := by decide +kernel
theorem dX12_sorts_66 : decode cX12_sorts 66 = .ok (.iastore, 1) := by decide +kernel
theorem dX12_sorts_67 : decode cX12_sorts 67 = .ok (.iinc 1 1, 3) := by decide +kernel
theorem dX12_sorts_70 : decode cX12_sorts 70 = .ok (.goto (-68), 3) := by decide +kernel
theorem dX12_sorts_73 : decode cX12_sorts 73 = .ok (.return_, 1) := by decide +kernel
theorem dX12_lays_0 : decode cX12_lays 0 = .ok (.iconst 0, 1) := by decide +kernel
theorem dX12_lays_1 : decode cX12_lays 1 = .ok (.istore_n 3, 1) := by decide +kernel
theorem dX12_lays_2 : decode cX12_lays 2 = .ok (.iload_n 3, 1) := by decide +kernel
theorem dX12_lays_3 : decode cX12_lays 3 = .ok (.bipush 12, 2) := by decide +kernel
theorem dX12_lays_5 : decode cX12_lays 5 = .ok (.if_icmp .ge 72, 3) := by decide +kernel
theorem dX12_lays_8 : decode cX12_lays 8 = .ok (.aload_n 0, 1) := by decide +kernel
theorem dX12_lays_9 : decode cX12_lays 9 = .ok (.getfield 79, 3) := by decide +kernel
theorem dX12_lays_12 : decode cX12_lays 12 = .ok (.bipush 12, 2) := by decide +kernel
theorem dX12_lays_14 : decode cX12_lays 14 = .ok (.iload_n 1, 1) := by decide +kernel
theorem dX12_lays_15 : decode cX12_lays 15 = .ok (.imul, 1) := by decide +kernel
theorem dX12_lays_16 : decode cX12_lays 16 = .ok (.iload_n 3, 1) := by decide +kernel
theorem dX12_lays_17 : decode cX12_lays 17 = .ok (.iadd, 1) := by decide +kernel
theorem dX12_lays_18 : decode cX12_lays 18 = .ok (.iconst 0, 1) := by decide +kernel
theorem dX12_lays_19 : decode cX12_lays 19 = .ok (.iastore, 1) := by decide +kernel
theorem dX12_lays_20 : decode cX12_lays 20 = .ok (.aload_n 0, 1) := by decide +kernel
theorem dX12_lays_21 : decode cX12_lays 21 = .ok (.getfield 85, 3) := by decide +kernel
theorem dX12_lays_24 : decode cX12_lays 24 = .ok (.bipush 12, 2) := by decide +kernel
theorem dX12_lays_26 : decode cX12_lays 26 = .ok (.iload_n 1, 1) := by decide +kernel
theorem dX12_lays_27 : decode cX12_lays 27 = .ok (.imul, 1) := by decide +kernel
theorem dX12_lays_28 : decode cX12_lays 28 = .ok (.iload_n 3, 1) := by decide +kernel
theorem dX12_lays_29 : decode cX12_lays 29 = .ok (.iadd, 1) := by decide +kernel
theorem dX12_lays_30 : decode cX12_lays 30 = .ok (.aload_n 0, 1) := by decide +kernel
theorem dX12_lays_31 : decode cX12_lays 31 = .ok (.getfield 13, 3) := by decide +kernel
theorem dX12_lays_34 : decode cX12_lays 34 = .ok (.iload_n 3, 1) := by decide +kernel
theorem dX12_lays_35 : decode cX12_lays 35 = .ok (.iaload, 1) := by decide +kernel
theorem dX12_lays_36 : decode cX12_lays 36 = .ok (.iastore, 1) := by decide +kernel
theorem dX12_lays_37 : decode cX12_lays 37 = .ok (.iconst 0, 1) := by decide +kernel
theorem dX12_lays_38 : decode cX12_lays 38 = .ok (.istore 4, 2) := by decide +kernel
theorem dX12_lays_40 : decode cX12_lays 40 = .ok (.iload 4, 2) := by decide +kernel
theorem dX12_lays_42 : decode cX12_lays 42 = .ok (.bipush 6, 2) := by decide +kernel
theorem dX12_lays_44 : decode cX12_lays 44 = .ok (.if_icmp .ge 27, 3) := by decide +kernel
theorem dX12_lays_47 : decode cX12_lays 47 = .ok (.aload_n 0, 1) := by decide +kernel
theorem dX12_lays_48 : decode cX12_lays 48 = .ok (.getfield 82, 3) := by decide +kernel
theorem dX12_lays_51 : decode cX12_lays 51 = .ok (.bipush 6, 2) := by decide +kernel
theorem dX12_lays_53 : decode cX12_lays 53 = .ok (.bipush 12, 2) := by decide +kernel
theorem dX12_lays_55 : decode cX12_lays 55 = .ok (.iload_n 1, 1) := by decide +kernel
theorem dX12_lays_56 : decode cX12_lays 56 = .ok (.imul, 1) := by decide +kernel
theorem dX12_lays_57 : decode cX12_lays 57 = .ok (.iload_n 3, 1) := by decide +kernel
theorem dX12_lays_58 : decode cX12_lays 58 = .ok (.iadd, 1) := by decide +kernel
theorem dX12_lays_59 : decode cX12_lays 59 = .ok (.imul, 1) := by decide +kernel
theorem dX12_lays_60 : decode cX12_lays 60 = .ok (.iload 4, 2) := by decide +kernel
theorem dX12_lays_62 : decode cX12_lays 62 = .ok (.iadd, 1) := by decide +kernel
theorem dX12_lays_63 : decode cX12_lays 63 = .ok (.iconst 0, 1) := by decide +kernel
theorem dX12_lays_64 : decode cX12_lays 64 = .ok (.iastore, 1) := by decide +kernel
theorem dX12_lays_65 : decode cX12_lays 65 = .ok (.iinc 4 1, 3) := by decide +kernel
theorem dX12_lays_68 : decode cX12_lays 68 = .ok (.goto (-28), 3) := by decide +kernel
theorem dX12_lays_71 : decode cX12_lays 71 = .ok (.iinc 3 1, 3) := by decide +kernel
theorem dX12_lays_74 : decode cX12_lays 74 = .ok (.goto (-72), 3) := by decide +kernel
theorem dX12_lays_77 : decode cX12_lays 77 = .ok (.iconst 0, 1) := by decide +kernel
theorem dX12_lays_78 : decode cX12_lays 78 = .ok (.istore_n 3, 1) := by decide +kernel
theorem dX12_lays_79 : decode cX12_lays 79 = .ok (.iload_n 3, 1) := by decide +kernel
theorem dX12_lays_80 : decode cX12_lays 80 = .ok (.aload_n 0, 1) := by decide +kernel
theorem dX12_lays_81 : decode cX12_lays 81 = .ok (.getfield 7, 3) := by decide +kernel
theorem dX12_lays_84 : decode cX12_lays 84 = .ok (.iconst 2, 1) := by decide +kernel
theorem dX12_lays_85 : decode cX12_lays 85 = .ok (.iaload, 1) := by decide +kernel
theorem dX12_lays_86 : decode cX12_lays 86 = .ok (.if_icmp .ge 35, 3) := by decide +kernel
theorem dX12_lays_89 : decode cX12_lays 89 = .ok (.aload_n 0, 1) := by decide +kernel
theorem dX12_lays_90 : decode cX12_lays 90 = .ok (.getfield 34, 3) := by decide +kernel
theorem dX12_lays_93 : decode cX12_lays 93 = .ok (.aload_n 0, 1) := by decide +kernel
theorem dX12_lays_94 : decode cX12_lays 94 = .ok (.getfield 88, 3) := by decide +kernel
theorem dX12_lays_97 : decode cX12_lays 97 = .ok (.iload_n 3, 1) := by decide +kernel
theorem dX12_lays_98 : decode cX12_lays 98 = .ok (.iaload, 1) := by decide +kernel
theorem dX12_lays_99 : decode cX12_lays 99 = .ok (.iaload, 1) := by decide +kernel
theorem dX12_lays_100 : decode cX12_lays 100 = .ok (.iload_n 2, 1) := by decide +kernel
theorem dX12_lays_101 : decode cX12_lays 101 = .ok (.if_icmp .gt 20, 3) := by decide +kernel
theorem dX12_lays_104 : decode cX12_lays 104 = .ok (.aload_n 0, 1) := by decide +kernel
theorem dX12_lays_105 : decode cX12_lays 105 = .ok (.iload_n 1, 1) := by decide +kernel
theorem dX12_lays_106 : decode cX12_lays 106 = .ok (.aload_n 0, 1) := by decide +kernel
theorem dX12_lays_107 : decode cX12_lays 107 = .ok (.getfield 88, 3) := by decide +kernel
theorem dX12_lays_110 : decode cX12_lays 110 = .ok (.iload_n 3, 1) := by decide +kernel
theorem dX12_lays_111 : decode cX12_lays 111 = .ok (.iaload, 1) := by decide +kernel
theorem dX12_lays_112 : decode cX12_lays 112 = .ok (.invokevirtual 191, 3) := by decide +kernel
theorem dX12_lays_115 : decode cX12_lays 115 = .ok (.iinc 3 1, 3) := by decide +kernel
theorem dX12_lays_118 : decode cX12_lays 118 = .ok (.goto (-39), 3) := by decide +kernel
theorem dX12_lays_121 : decode cX12_lays 121 = .ok (.return_, 1) := by decide +kernel
theorem dX12_standing_0 : decode cX12_standing 0 = .ok (.iconst 0, 1) := by decide +kernel
theorem dX12_standing_1 : decode cX12_standing 1 = .ok (.istore_n 3, 1) := by decide +kernel
theorem dX12_standing_2 : decode cX12_standing 2 = .ok (.iconst 0, 1) := by decide +kernel
theorem dX12_standing_3 : decode cX12_standing 3 = .ok (.istore 4, 2) := by decide +kernel
theorem dX12_standing_5 : decode cX12_standing 5 = .ok (.iload 4, 2) := by decide +kernel
theorem dX12_standing_7 : decode cX12_standing 7 = .ok (.aload_n 0, 1) := by decide +kernel
theorem dX12_standing_8 : decode cX12_standing 8 = .ok (.getfield 7, 3) := by decide +kernel
theorem dX12_standing_11 : decode cX12_standing 11 = .ok (.iconst 0, 1) := by decide +kernel
theorem dX12_standing_12 : decode cX12_standing 12 = .ok (.iaload, 1) := by decide +kernel
theorem dX12_standing_13 : decode cX12_standing 13 = .ok (.if_icmp .ge 36, 3) := by decide +kernel
theorem dX12_standing_16 : decode cX12_standing 16 = .ok (.iload_n 3, 1) := by decide +kernel
theorem dX12_standing_17 : decode cX12_standing 17 = .ok (.aload_n 0, 1) := by decide +kernel
theorem dX12_standing_18 : decode cX12_standing 18 = .ok (.getfield 85, 3) := by decide +kernel
theorem dX12_standing_21 : decode cX12_standing 21 = .ok (.bipush 12, 2) := by decide +kernel
theorem dX12_standing_23 : decode cX12_standing 23 = .ok (.iload_n 1, 1) := by decide +kernel
theorem dX12_standing_24 : decode cX12_standing 24 = .ok (.imul, 1) := by decide +kernel
theorem dX12_standing_25 : decode cX12_standing 25 = .ok (.iload 4, 2) := by decide +kernel
theorem dX12_standing_27 : decode cX12_standing 27 = .ok (.iadd, 1) := by decide +kernel
theorem dX12_standing_28 : decode cX12_standing 28 = .ok (.iaload, 1) := by decide +kernel
theorem dX12_standing_29 : decode cX12_standing 29 = .ok (.iload_n 2, 1) := by decide +kernel
theorem dX12_standing_30 : decode cX12_standing 30 = .ok (.if_icmp .ne 10, 3) := by decide +kernel
theorem dX12_standing_33 : decode cX12_standing 33 = .ok (.iconst 1, 1) := by decide +kernel
theorem dX12_standing_34 : decode cX12_standing 34 = .ok (.iload 4, 2) := by decide +kernel
theorem dX12_standing_36 : decode cX12_standing 36 = .ok (.ishl, 1) := by decide +kernel
theorem dX12_standing_37 : decode cX12_standing 37 = .ok (.goto 4, 3) := by decide +kernel
theorem dX12_standing_40 : decode cX12_standing 40 = .ok (.iconst 0, 1) := by decide +kernel
theorem dX12_standing_41 : decode cX12_standing 41 = .ok (.ior, 1) := by decide +kernel
theorem dX12_standing_42 : decode cX12_standing 42 = .ok (.istore_n 3, 1) := by decide +kernel
theorem dX12_standing_43 : decode cX12_standing 43 = .ok (.iinc 4 1, 3) := by decide +kernel
theorem dX12_standing_46 : decode cX12_standing 46 = .ok (.goto (-41), 3) := by decide +kernel
theorem dX12_standing_49 : decode cX12_standing 49 = .ok (.iload_n 3, 1) := by decide +kernel
theorem dX12_standing_50 : decode cX12_standing 50 = .ok (.ireturn, 1) := by decide +kernel
theorem dX12_seenBy_0 : decode cX12_seenBy 0 = .ok (.iload_n 1, 1) := by decide +kernel
theorem dX12_seenBy_1 : decode cX12_seenBy 1 = .ok (.iconst (-1), 1) := by decide +kernel
theorem dX12_seenBy_2 : decode cX12_seenBy 2 = .ok (.if_icmp .ne 14, 3) := by decide +kernel
theorem dX12_seenBy_5 : decode cX12_seenBy 5 = .ok (.iconst 1, 1) := by decide +kernel
theorem dX12_seenBy_6 : decode cX12_seenBy 6 = .ok (.aload_n 0, 1) := by decide +kernel
theorem dX12_seenBy_7 : decode cX12_seenBy 7 = .ok (.getfield 7, 3) := by decide +kernel
theorem dX12_seenBy_10 : decode cX12_seenBy 10 = .ok (.iconst 0, 1) := by decide +kernel
theorem dX12_seenBy_11 : decode cX12_seenBy 11 = .ok (.iaload, 1) := by decide +kernel
theorem dX12_seenBy_12 : decode cX12_seenBy 12 = .ok (.ishl, 1) := by decide +kernel
theorem dX12_seenBy_13 : decode cX12_seenBy 13 = .ok (.iconst 1, 1) := by decide +kernel
theorem dX12_seenBy_14 : decode cX12_seenBy 14 = .ok (.isub, 1) := by decide +kernel
theorem dX12_seenBy_15 : decode cX12_seenBy 15 = .ok (.ireturn, 1) := by decide +kernel
theorem dX12_seenBy_16 : decode cX12_seenBy 16 = .ok (.iconst 1, 1) := by decide +kernel
theorem dX12_seenBy_17 : decode cX12_seenBy 17 = .ok (.iload_n 1, 1) := by decide +kernel
theorem dX12_seenBy_18 : decode cX12_seenBy 18 = .ok (.ishl, 1) := by decide +kernel
theorem dX12_seenBy_19 : decode cX12_seenBy 19 = .ok (.aload_n 0, 1) := by decide +kernel
theorem dX12_seenBy_20 : decode cX12_seenBy 20 = .ok (.getfield 16, 3) := by decide +kernel
theorem dX12_seenBy_23 : decode cX12_seenBy 23 = .ok (.iload_n 1, 1) := by decide +kernel
theorem dX12_seenBy_24 : decode cX12_seenBy 24 = .ok (.iaload, 1) := by decide +kernel
theorem dX12_seenBy_25 : decode cX12_seenBy 25 = .ok (.ior, 1) := by decide +kernel
theorem dX12_seenBy_26 : decode cX12_seenBy 26 = .ok (.aload_n 0, 1) := by decide +kernel
theorem dX12_seenBy_27 : decode cX12_seenBy 27 = .ok (.iconst 1, 1) := by decide +kernel
theorem dX12_seenBy_28 : decode cX12_seenBy 28 = .ok (.aload_n 0, 1) := by decide +kernel
theorem dX12_seenBy_29 : decode cX12_seenBy 29 = .ok (.getfield 85, 3) := by decide +kernel
theorem dX12_seenBy_32 : decode cX12_seenBy 32 = .ok (.bipush 12, 2) := by decide +kernel
theorem dX12_seenBy_34 : decode cX12_seenBy 34 = .ok (.iload_n 1, 1) := by decide +kernel
theorem dX12_seenBy_35 : decode cX12_seenBy 35 = .ok (.iadd, 1) := by decide +kernel
theorem dX12_seenBy_36 : decode cX12_seenBy 36 = .ok (.iaload, 1) := by decide +kernel
theorem dX12_seenBy_37 : decode cX12_seenBy 37 = .ok (.invokevirtual 195, 3) := by decide +kernel
theorem dX12_seenBy_40 : decode cX12_seenBy 40 = .ok (.ior, 1) := by decide +kernel
theorem dX12_seenBy_41 : decode cX12_seenBy 41 = .ok (.ireturn, 1) := by decide +kernel
theorem dX12_marks_0 : decode cX12_marks 0 = .ok (.aload_n 0, 1) := by decide +kernel
theorem dX12_marks_1 : decode cX12_marks 1 = .ok (.iload_n 1, 1) := by decide +kernel
theorem dX12_marks_2 : decode cX12_marks 2 = .ok (.invokevirtual 175, 3) := by decide +kernel
theorem dX12_marks_5 : decode cX12_marks 5 = .ok (.ifCond .eq 10, 3) := by decide +kernel
theorem dX12_marks_8 : decode cX12_marks 8 = .ok (.iload_n 2, 1) := by decide +kernel
theorem dX12_marks_9 : decode cX12_marks 9 = .ok (.invokestatic 170, 3) := by decide +kernel
theorem dX12_marks_12 : decode cX12_marks 12 = .ok (.ifCond .ne 5, 3) := by decide +kernel
theorem dX12_marks_15 : decode cX12_marks 15 = .ok (.iconst (-1), 1) := by decide +kernel
theorem dX12_marks_16 : decode cX12_marks 16 = .ok (.ireturn, 1) := by decide +kernel
theorem dX12_marks_17 : decode cX12_marks 17 = .ok (.aload_n 0, 1) := by decide +kernel
theorem dX12_marks_18 : decode cX12_marks 18 = .ok (.iconst 1, 1) := by decide +kernel
theorem dX12_marks_19 : decode cX12_marks 19 = .ok (.iload_n 2, 1) := by decide +kernel
theorem dX12_marks_20 : decode cX12_marks 20 = .ok (.invokevirtual 198, 3) := by decide +kernel
theorem dX12_marks_23 : decode cX12_marks 23 = .ok (.aload_n 0, 1) := by decide +kernel
theorem dX12_marks_24 : decode cX12_marks 24 = .ok (.getfield 79, 3) := by decide +kernel
theorem dX12_marks_27 : decode cX12_marks 27 = .ok (.bipush 12, 2) := by decide +kernel
theorem dX12_marks_29 : decode cX12_marks 29 = .ok (.iload_n 1, 1) := by decide +kernel
theorem dX12_marks_30 : decode cX12_marks 30 = .ok (.iadd, 1) := by decide +kernel
theorem dX12_marks_31 : decode cX12_marks 31 = .ok (.iaload, 1) := by decide +kernel
theorem dX12_marks_32 : decode cX12_marks 32 = .ok (.ireturn, 1) := by decide +kernel
theorem dX12_ties_0 : decode cX12_ties 0 = .ok (.aload_n 0, 1) := by decide +kernel
theorem dX12_ties_1 : decode cX12_ties 1 = .ok (.iload_n 1, 1) := by decide +kernel
theorem dX12_ties_2 : decode cX12_ties 2 = .ok (.invokevirtual 175, 3) := by decide +kernel
theorem dX12_ties_5 : decode cX12_ties 5 = .ok (.ifCond .eq 22, 3) := by decide +kernel
theorem dX12_ties_8 : decode cX12_ties 8 = .ok (.iload_n 2, 1) := by decide +kernel
theorem dX12_ties_9 : decode cX12_ties 9 = .ok (.i2l, 1) := by decide +kernel
theorem dX12_ties_10 : decode cX12_ties 10 = .ok (.lconst 0, 1) := by decide +kernel
theorem dX12_ties_11 : decode cX12_ties 11 = .ok (.ldc2_w 178, 3) := by decide +kernel
theorem dX12_ties_14 : decode cX12_ties 14 = .ok (.invokestatic 154, 3) := by decide +kernel
theorem dX12_ties_17 : decode cX12_ties 17 = .ok (.ifCond .eq 10, 3) := by decide +kernel
theorem dX12_ties_20 : decode cX12_ties 20 = .ok (.iload_n 3, 1) := by decide +kernel
theorem dX12_ties_21 : decode cX12_ties 21 = .ok (.invokestatic 170, 3) := by decide +kernel
theorem dX12_ties_24 : decode cX12_ties 24 = .ok (.ifCond .ne 5, 3) := by decide +kernel
theorem dX12_ties_27 : decode cX12_ties 27 = .ok (.iconst (-1), 1) := by decide +kernel
theorem dX12_ties_28 : decode cX12_ties 28 = .ok (.ireturn, 1) := by decide +kernel
theorem dX12_ties_29 : decode cX12_ties 29 = .ok (.aload_n 0, 1) := by decide +kernel
theorem dX12_ties_30 : decode cX12_ties 30 = .ok (.iconst 1, 1) := by decide +kernel
theorem dX12_ties_31 : decode cX12_ties 31 = .ok (.iload_n 3, 1) := by decide +kernel
theorem dX12_ties_32 : decode cX12_ties 32 = .ok (.invokevirtual 198, 3) := by decide +kernel
theorem dX12_ties_35 : decode cX12_ties 35 = .ok (.aload_n 0, 1) := by decide +kernel
theorem dX12_ties_36 : decode cX12_ties 36 = .ok (.getfield 82, 3) := by decide +kernel
theorem dX12_ties_39 : decode cX12_ties 39 = .ok (.bipush 6, 2) := by decide +kernel
theorem dX12_ties_41 : decode cX12_ties 41 = .ok (.bipush 12, 2) := by decide +kernel
theorem dX12_ties_43 : decode cX12_ties 43 = .ok (.iload_n 1, 1) := by decide +kernel
theorem dX12_ties_44 : decode cX12_ties 44 = .ok (.iadd, 1) := by decide +kernel
theorem dX12_ties_45 : decode cX12_ties 45 = .ok (.imul, 1) := by decide +kernel
theorem dX12_ties_46 : decode cX12_ties 46 = .ok (.iload_n 2, 1) := by decide +kernel
theorem dX12_ties_47 : decode cX12_ties 47 = .ok (.iadd, 1) := by decide +kernel
theorem dX12_ties_48 : decode cX12_ties 48 = .ok (.iaload, 1) := by decide +kernel
theorem dX12_ties_49 : decode cX12_ties 49 = .ok (.ireturn, 1) := by decide +kernel
theorem dX12_lives_0 : decode cX12_lives 0 = .ok (.aload_n 0, 1) := by decide +kernel
theorem dX12_lives_1 : decode cX12_lives 1 = .ok (.iload_n 1, 1) := by decide +kernel
theorem dX12_lives_2 : decode cX12_lives 2 = .ok (.invokevirtual 175, 3) := by decide +kernel
theorem dX12_lives_5 : decode cX12_lives 5 = .ok (.ifCond .eq 10, 3) := by decide +kernel
theorem dX12_lives_8 : decode cX12_lives 8 = .ok (.iload_n 2, 1) := by decide +kernel
theorem dX12_lives_9 : decode cX12_lives 9 = .ok (.invokestatic 170, 3) := by decide +kernel
theorem dX12_lives_12 : decode cX12_lives 12 = .ok (.ifCond .ne 5, 3) := by decide +kernel
theorem dX12_lives_15 : decode cX12_lives 15 = .ok (.iconst (-1), 1) := by decide +kernel
theorem dX12_lives_16 : decode cX12_lives 16 = .ok (.ireturn, 1) := by decide +kernel
theorem dX12_lives_17 : decode cX12_lives 17 = .ok (.aload_n 0, 1) := by decide +kernel
theorem dX12_lives_18 : decode cX12_lives 18 = .ok (.iconst 1, 1) := by decide +kernel
theorem dX12_lives_19 : decode cX12_lives 19 = .ok (.iload_n 2, 1) := by decide +kernel
theorem dX12_lives_20 : decode cX12_lives 20 = .ok (.invokevirtual 198, 3) := by decide +kernel
theorem dX12_lives_23 : decode cX12_lives 23 = .ok (.aload_n 0, 1) := by decide +kernel
theorem dX12_lives_24 : decode cX12_lives 24 = .ok (.getfield 85, 3) := by decide +kernel
theorem dX12_lives_27 : decode cX12_lives 27 = .ok (.bipush 12, 2) := by decide +kernel
theorem dX12_lives_29 : decode cX12_lives 29 = .ok (.iload_n 1, 1) := by decide +kernel
theorem dX12_lives_30 : decode cX12_lives 30 = .ok (.iadd, 1) := by decide +kernel
theorem dX12_lives_31 : decode cX12_lives 31 = .ok (.iaload, 1) := by decide +kernel
theorem dX12_lives_32 : decode cX12_lives 32 = .ok (.ireturn, 1) := by decide +kernel
theorem dX12_sees_0 : decode cX12_sees 0 = .ok (.aload_n 0, 1) := by decide +kernel
theorem dX12_sees_1 : decode cX12_sees 1 = .ok (.iload_n 1, 1) := by decide +kernel
theorem dX12_sees_2 : decode cX12_sees 2 = .ok (.invokevirtual 175, 3) := by decide +kernel
theorem dX12_sees_5 : decode cX12_sees 5 = .ok (.ifCond .eq 10, 3) := by decide +kernel
theorem dX12_sees_8 : decode cX12_sees 8 = .ok (.iload_n 2, 1) := by decide +kernel
theorem dX12_sees_9 : decode cX12_sees 9 = .ok (.invokestatic 170, 3) := by decide +kernel
theorem dX12_sees_12 : decode cX12_sees 12 = .ok (.ifCond .ne 5, 3) := by decide +kernel
theorem dX12_sees_15 : decode cX12_sees 15 = .ok (.iconst (-1), 1) := by decide +kernel
theorem dX12_sees_16 : decode cX12_sees 16 = .ok (.ireturn, 1) := by decide +kernel
theorem dX12_sees_17 : decode cX12_sees 17 = .ok (.aload_n 0, 1) := by decide +kernel
theorem dX12_sees_18 : decode cX12_sees 18 = .ok (.iconst 1, 1) := by decide +kernel
theorem dX12_sees_19 : decode cX12_sees 19 = .ok (.iload_n 2, 1) := by decide +kernel
theorem dX12_sees_20 : decode cX12_sees 20 = .ok (.invokevirtual 198, 3) := by decide +kernel
theorem dX12_sees_23 : decode cX12_sees 23 = .ok (.aload_n 0, 1) := by decide +kernel
theorem dX12_sees_24 : decode cX12_sees 24 = .ok (.iload_n 1, 1) := by decide +kernel
theorem dX12_sees_25 : decode cX12_sees 25 = .ok (.invokevirtual 201, 3) := by decide +kernel
theorem dX12_sees_28 : decode cX12_sees 28 = .ok (.ireturn, 1) := by decide +kernel
theorem dX12_spreads_0 : decode cX12_spreads 0 = .ok (.iconst 0, 1) := by decide +kernel
theorem dX12_spreads_1 : decode cX12_spreads 1 = .ok (.istore_n 2, 1) := by decide +kernel
theorem dX12_spreads_2 : decode cX12_spreads 2 = .ok (.iload_n 2, 1) := by decide +kernel
theorem dX12_spreads_3 : decode cX12_spreads 3 = .ok (.bipush 8, 2) := by decide +kernel
theorem dX12_spreads_5 : decode cX12_spreads 5 = .ok (.if_icmp .ge 27, 3) := by decide +kernel
theorem dX12_spreads_8 : decode cX12_spreads 8 = .ok (.aload_n 0, 1) := by decide +kernel
theorem dX12_spreads_9 : decode cX12_spreads 9 = .ok (.getfield 91, 3) := by decide +kernel
theorem dX12_spreads_12 : decode cX12_spreads 12 = .ok (.iload_n 2, 1) := by decide +kernel
theorem dX12_spreads_13 : decode cX12_spreads 13 = .ok (.iload_n 2, 1) := by decide +kernel
theorem dX12_spreads_14 : decode cX12_spreads 14 = .ok (.iload_n 1, 1) := by decide +kernel
theorem dX12_spreads_15 : decode cX12_spreads 15 = .ok (.if_icmp .ne 7, 3) := by decide +kernel
theorem dX12_spreads_18 : decode cX12_spreads 18 = .ok (.iconst 0, 1) := by decide +kernel
theorem dX12_spreads_19 : decode cX12_spreads 19 = .ok (.goto 6, 3) := by decide +kernel
theorem dX12_spreads_22 : decode cX12_spreads 22 = .ok (.sipush 9999, 3) := by decide +kernel
theorem dX12_spreads_25 : decode cX12_spreads 25 = .ok (.iastore, 1) := by decide +kernel
theorem dX12_spreads_26 : decode cX12_spreads 26 = .ok (.iinc 2 1, 3) := by decide +kernel
theorem dX12_spreads_29 : decode cX12_spreads 29 = .ok (.goto (-27), 3) := by decide +kernel
theorem dX12_spreads_32 : decode cX12_spreads 32 = .ok (.iconst 0, 1) := by decide +kernel
theorem dX12_spreads_33 : decode cX12_spreads 33 = .ok (.istore_n 2, 1) := by decide +kernel
theorem dX12_spreads_34 : decode cX12_spreads 34 = .ok (.iload_n 2, 1) := by decide +kernel
theorem dX12_spreads_35 : decode cX12_spreads 35 = .ok (.bipush 8, 2) := by decide +kernel
theorem dX12_spreads_37 : decode cX12_spreads 37 = .ok (.if_icmp .ge 153, 3) := by decide +kernel
theorem dX12_spreads_40 : decode cX12_spreads 40 = .ok (.iconst 0, 1) := by decide +kernel
theorem dX12_spreads_41 : decode cX12_spreads 41 = .ok (.istore_n 3, 1) := by decide +kernel
theorem dX12_spreads_42 : decode cX12_spreads 42 = .ok (.iload_n 3, 1) := by decide +kernel
theorem dX12_spreads_43 : decode cX12_spreads 43 = .ok (.aload_n 0, 1) := by decide +kernel
theorem dX12_spreads_44 : decode cX12_spreads 44 = .ok (.getfield 7, 3) := by decide +kernel
theorem dX12_spreads_47 : decode cX12_spreads 47 = .ok (.iconst 1, 1) := by decide +kernel
theorem dX12_spreads_48 : decode cX12_spreads 48 = .ok (.iaload, 1) := by decide +kernel
theorem dX12_spreads_49 : decode cX12_spreads 49 = .ok (.if_icmp .ge 135, 3) := by decide +kernel
theorem dX12_spreads_52 : decode cX12_spreads 52 = .ok (.aload_n 0, 1) := by decide +kernel
theorem dX12_spreads_53 : decode cX12_spreads 53 = .ok (.getfield 25, 3) := by decide +kernel
theorem dX12_spreads_56 : decode cX12_spreads 56 = .ok (.iload_n 3, 1) := by decide +kernel
theorem dX12_spreads_57 : decode cX12_spreads 57 = .ok (.iaload, 1) := by decide +kernel
theorem dX12_spreads_58 : decode cX12_spreads 58 = .ok (.istore 4, 2) := by decide +kernel
theorem dX12_spreads_60 : decode cX12_spreads 60 = .ok (.aload_n 0, 1) := by decide +kernel
theorem dX12_spreads_61 : decode cX12_spreads 61 = .ok (.getfield 28, 3) := by decide +kernel
theorem dX12_spreads_64 : decode cX12_spreads 64 = .ok (.iload_n 3, 1) := by decide +kernel
theorem dX12_spreads_65 : decode cX12_spreads 65 = .ok (.iaload, 1) := by decide +kernel
theorem dX12_spreads_66 : decode cX12_spreads 66 = .ok (.istore 5, 2) := by decide +kernel
theorem dX12_spreads_68 : decode cX12_spreads 68 = .ok (.aload_n 0, 1) := by decide +kernel
theorem dX12_spreads_69 : decode cX12_spreads 69 = .ok (.getfield 91, 3) := by decide +kernel
theorem dX12_spreads_72 : decode cX12_spreads 72 = .ok (.iload 5, 2) := by decide +kernel
theorem dX12_spreads_74 : decode cX12_spreads 74 = .ok (.aload_n 0, 1) := by decide +kernel
theorem dX12_spreads_75 : decode cX12_spreads 75 = .ok (.getfield 91, 3) := by decide +kernel
theorem dX12_spreads_78 : decode cX12_spreads 78 = .ok (.iload 4, 2) := by decide +kernel
theorem dX12_spreads_80 : decode cX12_spreads 80 = .ok (.iaload, 1) := by decide +kernel
theorem dX12_spreads_81 : decode cX12_spreads 81 = .ok (.aload_n 0, 1) := by decide +kernel
theorem dX12_spreads_82 : decode cX12_spreads 82 = .ok (.getfield 31, 3) := by decide +kernel
theorem dX12_spreads_85 : decode cX12_spreads 85 = .ok (.iload_n 3, 1) := by decide +kernel
theorem dX12_spreads_86 : decode cX12_spreads 86 = .ok (.iaload, 1) := by decide +kernel
theorem dX12_spreads_87 : decode cX12_spreads 87 = .ok (.iadd, 1) := by decide +kernel
theorem dX12_spreads_88 : decode cX12_spreads 88 = .ok (.aload_n 0, 1) := by decide +kernel
theorem dX12_spreads_89 : decode cX12_spreads 89 = .ok (.getfield 91, 3) := by decide +kernel
theorem dX12_spreads_92 : decode cX12_spreads 92 = .ok (.iload 5, 2) := by decide +kernel
theorem dX12_spreads_94 : decode cX12_spreads 94 = .ok (.iaload, 1) := by decide +kernel
theorem dX12_spreads_95 : decode cX12_spreads 95 = .ok (.if_icmp .ge 20, 3) := by decide +kernel
theorem dX12_spreads_98 : decode cX12_spreads 98 = .ok (.aload_n 0, 1) := by decide +kernel
theorem dX12_spreads_99 : decode cX12_spreads 99 = .ok (.getfield 91, 3) := by decide +kernel
theorem dX12_spreads_102 : decode cX12_spreads 102 = .ok (.iload 4, 2) := by decide +kernel
theorem dX12_spreads_104 : decode cX12_spreads 104 = .ok (.iaload, 1) := by decide +kernel
theorem dX12_spreads_105 : decode cX12_spreads 105 = .ok (.aload_n 0, 1) := by decide +kernel
theorem dX12_spreads_106 : decode cX12_spreads 106 = .ok (.getfield 31, 3) := by decide +kernel
theorem dX12_spreads_109 : decode cX12_spreads 109 = .ok (.iload_n 3, 1) := by decide +kernel
theorem dX12_spreads_110 : decode cX12_spreads 110 = .ok (.iaload, 1) := by decide +kernel
theorem dX12_spreads_111 : decode cX12_spreads 111 = .ok (.iadd, 1) := by decide +kernel
theorem dX12_spreads_112 : decode cX12_spreads 112 = .ok (.goto 10, 3) := by decide +kernel
theorem dX12_spreads_115 : decode cX12_spreads 115 = .ok (.aload_n 0, 1) := by decide +kernel
theorem dX12_spreads_116 : decode cX12_spreads 116 = .ok (.getfield 91, 3) := by decide +kernel
theorem dX12_spreads_119 : decode cX12_spreads 119 = .ok (.iload 5, 2) := by decide +kernel
theorem dX12_spreads_121 : decode cX12_spreads 121 = .ok (.iaload, 1) := by decide +kernel
theorem dX12_spreads_122 : decode cX12_spreads 122 = .ok (.iastore, 1) := by decide +kernel
theorem dX12_spreads_123 : decode cX12_spreads 123 = .ok (.aload_n 0, 1) := by decide +kernel
theorem dX12_spreads_124 : decode cX12_spreads 124 = .ok (.getfield 91, 3) := by decide +kernel
theorem dX12_spreads_127 : decode cX12_spreads 127 = .ok (.iload 4, 2) := by decide +kernel
theorem dX12_spreads_129 : decode cX12_spreads 129 = .ok (.aload_n 0, 1) := by decide +kernel
theorem dX12_spreads_130 : decode cX12_spreads 130 = .ok (.getfield 91, 3) := by decide +kernel
theorem dX12_spreads_133 : decode cX12_spreads 133 = .ok (.iload 5, 2) := by decide +kernel
theorem dX12_spreads_135 : decode cX12_spreads 135 = .ok (.iaload, 1) := by decide +kernel
theorem dX12_spreads_136 : decode cX12_spreads 136 = .ok (.aload_n 0, 1) := by decide +kernel
theorem dX12_spreads_137 : decode cX12_spreads 137 = .ok (.getfield 31, 3) := by decide +kernel
theorem dX12_spreads_140 : decode cX12_spreads 140 = .ok (.iload_n 3, 1) := by decide +kernel
theorem dX12_spreads_141 : decode cX12_spreads 141 = .ok (.iaload, 1) := by decide +kernel
theorem dX12_spreads_142 : decode cX12_spreads 142 = .ok (.iadd, 1) := by decide +kernel
theorem dX12_spreads_143 : decode cX12_spreads 143 = .ok (.aload_n 0, 1) := by decide +kernel
theorem dX12_spreads_144 : decode cX12_spreads 144 = .ok (.getfield 91, 3) := by decide +kernel
theorem dX12_spreads_147 : decode cX12_spreads 147 = .ok (.iload 4, 2) := by decide +kernel
theorem dX12_spreads_149 : decode cX12_spreads 149 = .ok (.iaload, 1) := by decide +kernel
theorem dX12_spreads_150 : decode cX12_spreads 150 = .ok (.if_icmp .ge 20, 3) := by decide +kernel
theorem dX12_spreads_153 : decode cX12_spreads 153 = .ok (.aload_n 0, 1) := by decide +kernel
theorem dX12_spreads_154 : decode cX12_spreads 154 = .ok (.getfield 91, 3) := by decide +kernel
theorem dX12_spreads_157 : decode cX12_spreads 157 = .ok (.iload 5, 2) := by decide +kernel
theorem dX12_spreads_159 : decode cX12_spreads 159 = .ok (.iaload, 1) := by decide +kernel
theorem dX12_spreads_160 : decode cX12_spreads 160 = .ok (.aload_n 0, 1) := by decide +kernel
theorem dX12_spreads_161 : decode cX12_spreads 161 = .ok (.getfield 31, 3) := by decide +kernel
theorem dX12_spreads_164 : decode cX12_spreads 164 = .ok (.iload_n 3, 1) := by decide +kernel
theorem dX12_spreads_165 : decode cX12_spreads 165 = .ok (.iaload, 1) := by decide +kernel
theorem dX12_spreads_166 : decode cX12_spreads 166 = .ok (.iadd, 1) := by decide +kernel
theorem dX12_spreads_167 : decode cX12_spreads 167 = .ok (.goto 10, 3) := by decide +kernel
theorem dX12_spreads_170 : decode cX12_spreads 170 = .ok (.aload_n 0, 1) := by decide +kernel
theorem dX12_spreads_171 : decode cX12_spreads 171 = .ok (.getfield 91, 3) := by decide +kernel
theorem dX12_spreads_174 : decode cX12_spreads 174 = .ok (.iload 4, 2) := by decide +kernel
theorem dX12_spreads_176 : decode cX12_spreads 176 = .ok (.iaload, 1) := by decide +kernel
theorem dX12_spreads_177 : decode cX12_spreads 177 = .ok (.iastore, 1) := by decide +kernel
theorem dX12_spreads_178 : decode cX12_spreads 178 = .ok (.iinc 3 1, 3) := by decide +kernel
theorem dX12_spreads_181 : decode cX12_spreads 181 = .ok (.goto (-139), 3) := by decide +kernel
theorem dX12_spreads_184 : decode cX12_spreads 184 = .ok (.iinc 2 1, 3) := by decide +kernel
theorem dX12_spreads_187 : decode cX12_spreads 187 = .ok (.goto (-153), 3) := by decide +kernel
theorem dX12_spreads_190 : decode cX12_spreads 190 = .ok (.return_, 1) := by decide +kernel
theorem dX12_far_0 : decode cX12_far 0 = .ok (.iload_n 1, 1) := by decide +kernel
theorem dX12_far_1 : decode cX12_far 1 = .ok (.invokestatic 160, 3) := by decide +kernel
theorem dX12_far_4 : decode cX12_far 4 = .ok (.ifCond .eq 10, 3) := by decide +kernel
theorem dX12_far_7 : decode cX12_far 7 = .ok (.iload_n 2, 1) := by decide +kernel
theorem dX12_far_8 : decode cX12_far 8 = .ok (.invokestatic 160, 3) := by decide +kernel
theorem dX12_far_11 : decode cX12_far 11 = .ok (.ifCond .ne 5, 3) := by decide +kernel
theorem dX12_far_14 : decode cX12_far 14 = .ok (.iconst (-1), 1) := by decide +kernel
theorem dX12_far_15 : decode cX12_far 15 = .ok (.ireturn, 1) := by decide +kernel
theorem dX12_far_16 : decode cX12_far 16 = .ok (.aload_n 0, 1) := by decide +kernel
theorem dX12_far_17 : decode cX12_far 17 = .ok (.iload_n 1, 1) := by decide +kernel
theorem dX12_far_18 : decode cX12_far 18 = .ok (.invokevirtual 205, 3) := by decide +kernel
theorem dX12_far_21 : decode cX12_far 21 = .ok (.aload_n 0, 1) := by decide +kernel
theorem dX12_far_22 : decode cX12_far 22 = .ok (.getfield 91, 3) := by decide +kernel
theorem dX12_far_25 : decode cX12_far 25 = .ok (.iload_n 2, 1) := by decide +kernel
theorem dX12_far_26 : decode cX12_far 26 = .ok (.iaload, 1) := by decide +kernel
theorem dX12_far_27 : decode cX12_far 27 = .ok (.sipush 9999, 3) := by decide +kernel
theorem dX12_far_30 : decode cX12_far 30 = .ok (.if_icmp .ne 8, 3) := by decide +kernel
theorem dX12_far_33 : decode cX12_far 33 = .ok (.bipush (-2), 2) := by decide +kernel
theorem dX12_far_35 : decode cX12_far 35 = .ok (.goto 9, 3) := by decide +kernel
theorem dX12_far_38 : decode cX12_far 38 = .ok (.aload_n 0, 1) := by decide +kernel
theorem dX12_far_39 : decode cX12_far 39 = .ok (.getfield 91, 3) := by decide +kernel
theorem dX12_far_42 : decode cX12_far 42 = .ok (.iload_n 2, 1) := by decide +kernel
theorem dX12_far_43 : decode cX12_far 43 = .ok (.iaload, 1) := by decide +kernel
theorem dX12_far_44 : decode cX12_far 44 = .ok (.ireturn, 1) := by decide +kernel
theorem dX12_nextTo_0 : decode cX12_nextTo 0 = .ok (.aload_n 0, 1) := by decide +kernel
theorem dX12_nextTo_1 : decode cX12_nextTo 1 = .ok (.iload_n 2, 1) := by decide +kernel
theorem dX12_nextTo_2 : decode cX12_nextTo 2 = .ok (.invokevirtual 205, 3) := by decide +kernel
theorem dX12_nextTo_5 : decode cX12_nextTo 5 = .ok (.iconst 0, 1) := by decide +kernel
theorem dX12_nextTo_6 : decode cX12_nextTo 6 = .ok (.istore_n 3, 1) := by decide +kernel
theorem dX12_nextTo_7 : decode cX12_nextTo 7 = .ok (.iload_n 3, 1) := by decide +kernel
theorem dX12_nextTo_8 : decode cX12_nextTo 8 = .ok (.bipush 8, 2) := by decide +kernel
theorem dX12_nextTo_10 : decode cX12_nextTo 10 = .ok (.if_icmp .ge 60, 3) := by decide +kernel
theorem dX12_nextTo_13 : decode cX12_nextTo 13 = .ok (.aload_n 0, 1) := by decide +kernel
theorem dX12_nextTo_14 : decode cX12_nextTo 14 = .ok (.iload_n 1, 1) := by decide +kernel
theorem dX12_nextTo_15 : decode cX12_nextTo 15 = .ok (.iload_n 3, 1) := by decide +kernel
theorem dX12_nextTo_16 : decode cX12_nextTo 16 = .ok (.invokevirtual 166, 3) := by decide +kernel
theorem dX12_nextTo_19 : decode cX12_nextTo 19 = .ok (.istore 4, 2) := by decide +kernel
theorem dX12_nextTo_21 : decode cX12_nextTo 21 = .ok (.iload 4, 2) := by decide +kernel
theorem dX12_nextTo_23 : decode cX12_nextTo 23 = .ok (.iconst (-1), 1) := by decide +kernel
theorem dX12_nextTo_24 : decode cX12_nextTo 24 = .ok (.if_icmp .eq 40, 3) := by decide +kernel
theorem dX12_nextTo_27 : decode cX12_nextTo 27 = .ok (.aload_n 0, 1) := by decide +kernel
theorem dX12_nextTo_28 : decode cX12_nextTo 28 = .ok (.getfield 91, 3) := by decide +kernel
theorem dX12_nextTo_31 : decode cX12_nextTo 31 = .ok (.iload_n 3, 1) := by decide +kernel
theorem dX12_nextTo_32 : decode cX12_nextTo 32 = .ok (.iaload, 1) := by decide +kernel
theorem dX12_nextTo_33 : decode cX12_nextTo 33 = .ok (.sipush 9999, 3) := by decide +kernel
theorem dX12_nextTo_36 : decode cX12_nextTo 36 = .ok (.if_icmp .eq 28, 3) := by decide +kernel
theorem dX12_nextTo_39 : decode cX12_nextTo 39 = .ok (.aload_n 0, 1) := by decide +kernel
theorem dX12_nextTo_40 : decode cX12_nextTo 40 = .ok (.getfield 91, 3) := by decide +kernel
theorem dX12_nextTo_43 : decode cX12_nextTo 43 = .ok (.iload_n 3, 1) := by decide +kernel
theorem dX12_nextTo_44 : decode cX12_nextTo 44 = .ok (.iaload, 1) := by decide +kernel
theorem dX12_nextTo_45 : decode cX12_nextTo 45 = .ok (.aload_n 0, 1) := by decide +kernel
theorem dX12_nextTo_46 : decode cX12_nextTo 46 = .ok (.getfield 31, 3) := by decide +kernel
theorem dX12_nextTo_49 : decode cX12_nextTo 49 = .ok (.iload 4, 2) := by decide +kernel
theorem dX12_nextTo_51 : decode cX12_nextTo 51 = .ok (.iaload, 1) := by decide +kernel
theorem dX12_nextTo_52 : decode cX12_nextTo 52 = .ok (.iadd, 1) := by decide +kernel
theorem dX12_nextTo_53 : decode cX12_nextTo 53 = .ok (.aload_n 0, 1) := by decide +kernel
theorem dX12_nextTo_54 : decode cX12_nextTo 54 = .ok (.getfield 91, 3) := by decide +kernel
theorem dX12_nextTo_57 : decode cX12_nextTo 57 = .ok (.iload_n 1, 1) := by decide +kernel
theorem dX12_nextTo_58 : decode cX12_nextTo 58 = .ok (.iaload, 1) := by decide +kernel
theorem dX12_nextTo_59 : decode cX12_nextTo 59 = .ok (.if_icmp .ne 5, 3) := by decide +kernel
theorem dX12_nextTo_62 : decode cX12_nextTo 62 = .ok (.iload_n 3, 1) := by decide +kernel
theorem dX12_nextTo_63 : decode cX12_nextTo 63 = .ok (.ireturn, 1) := by decide +kernel
theorem dX12_nextTo_64 : decode cX12_nextTo 64 = .ok (.iinc 3 1, 3) := by decide +kernel
theorem dX12_nextTo_67 : decode cX12_nextTo 67 = .ok (.goto (-60), 3) := by decide +kernel
theorem dX12_nextTo_70 : decode cX12_nextTo 70 = .ok (.iconst (-1), 1) := by decide +kernel
theorem dX12_nextTo_71 : decode cX12_nextTo 71 = .ok (.ireturn, 1) := by decide +kernel
theorem dX12_feed_0 : decode cX12_feed 0 = .ok (.aload_n 0, 1) := by decide +kernel
theorem dX12_feed_1 : decode cX12_feed 1 = .ok (.getfield 209, 3) := by decide +kernel
theorem dX12_feed_4 : decode cX12_feed 4 = .ok (.bipush 20, 2) := by decide +kernel
theorem dX12_feed_6 : decode cX12_feed 6 = .ok (.iadd, 1) := by decide +kernel
theorem dX12_feed_7 : decode cX12_feed 7 = .ok (.sipush 400, 3) := by decide +kernel
theorem dX12_feed_10 : decode cX12_feed 10 = .ok (.if_icmp .le 5, 3) := by decide +kernel
theorem dX12_feed_13 : decode cX12_feed 13 = .ok (.iconst (-1), 1) := by decide +kernel
theorem dX12_feed_14 : decode cX12_feed 14 = .ok (.ireturn, 1) := by decide +kernel
theorem dX12_feed_15 : decode cX12_feed 15 = .ok (.aload_n 0, 1) := by decide +kernel
theorem dX12_feed_16 : decode cX12_feed 16 = .ok (.iload_n 1, 1) := by decide +kernel
theorem dX12_feed_17 : decode cX12_feed 17 = .ok (.invokevirtual 212, 3) := by decide +kernel
theorem dX12_feed_20 : decode cX12_feed 20 = .ok (.aload_n 0, 1) := by decide +kernel
theorem dX12_feed_21 : decode cX12_feed 21 = .ok (.iload_n 2, 1) := by decide +kernel
theorem dX12_feed_22 : decode cX12_feed 22 = .ok (.invokevirtual 212, 3) := by decide +kernel
theorem dX12_feed_25 : decode cX12_feed 25 = .ok (.aload_n 0, 1) := by decide +kernel
theorem dX12_feed_26 : decode cX12_feed 26 = .ok (.iload_n 3, 1) := by decide +kernel
theorem dX12_feed_27 : decode cX12_feed 27 = .ok (.invokevirtual 212, 3) := by decide +kernel
theorem dX12_feed_30 : decode cX12_feed 30 = .ok (.aload_n 0, 1) := by decide +kernel
theorem dX12_feed_31 : decode cX12_feed 31 = .ok (.iload 4, 2) := by decide +kernel
theorem dX12_feed_33 : decode cX12_feed 33 = .ok (.invokevirtual 212, 3) := by decide +kernel
theorem dX12_feed_36 : decode cX12_feed 36 = .ok (.aload_n 0, 1) := by decide +kernel
theorem dX12_feed_37 : decode cX12_feed 37 = .ok (.iload 5, 2) := by decide +kernel
theorem dX12_feed_39 : decode cX12_feed 39 = .ok (.invokevirtual 212, 3) := by decide +kernel
theorem dX12_feed_42 : decode cX12_feed 42 = .ok (.aload_n 0, 1) := by decide +kernel
theorem dX12_feed_43 : decode cX12_feed 43 = .ok (.getfield 209, 3) := by decide +kernel
theorem dX12_feed_46 : decode cX12_feed 46 = .ok (.ireturn, 1) := by decide +kernel
theorem dX12_put_0 : decode cX12_put 0 = .ok (.bipush 24, 2) := by decide +kernel
theorem dX12_put_2 : decode cX12_put 2 = .ok (.istore_n 2, 1) := by decide +kernel
theorem dX12_put_3 : decode cX12_put 3 = .ok (.iload_n 2, 1) := by decide +kernel
theorem dX12_put_4 : decode cX12_put 4 = .ok (.ifCond .lt 32, 3) := by decide +kernel
theorem dX12_put_7 : decode cX12_put 7 = .ok (.aload_n 0, 1) := by decide +kernel
theorem dX12_put_8 : decode cX12_put 8 = .ok (.getfield 94, 3) := by decide +kernel
theorem dX12_put_11 : decode cX12_put 11 = .ok (.aload_n 0, 1) := by decide +kernel
theorem dX12_put_12 : decode cX12_put 12 = .ok (.getfield 209, 3) := by decide +kernel
theorem dX12_put_15 : decode cX12_put 15 = .ok (.iload_n 1, 1) := by decide +kernel
theorem dX12_put_16 : decode cX12_put 16 = .ok (.iload_n 2, 1) := by decide +kernel
theorem dX12_put_17 : decode cX12_put 17 = .ok (.ishr, 1) := by decide +kernel
theorem dX12_put_18 : decode cX12_put 18 = .ok (.i2b, 1) := by decide +kernel
theorem dX12_put_19 : decode cX12_put 19 = .ok (.bastore, 1) := by decide +kernel
theorem dX12_put_20 : decode cX12_put 20 = .ok (.aload_n 0, 1) := by decide +kernel
theorem dX12_put_21 : decode cX12_put 21 = .ok (.dup, 1) := by decide +kernel
theorem dX12_put_22 : decode cX12_put 22 = .ok (.getfield 209, 3) := by decide +kernel
theorem dX12_put_25 : decode cX12_put 25 = .ok (.iconst 1, 1) := by decide +kernel
theorem dX12_put_26 : decode cX12_put 26 = .ok (.iadd, 1) := by decide +kernel
theorem dX12_put_27 : decode cX12_put 27 = .ok (.putfield 209, 3) := by decide +kernel
theorem dX12_put_30 : decode cX12_put 30 = .ok (.iinc 2 (-8), 3) := by decide +kernel
theorem dX12_put_33 : decode cX12_put 33 = .ok (.goto (-30), 3) := by decide +kernel
theorem dX12_put_36 : decode cX12_put 36 = .ok (.return_, 1) := by decide +kernel
theorem dX12_end_0 : decode cX12_end 0 = .ok (.iload_n 1, 1) := by decide +kernel
theorem dX12_end_1 : decode cX12_end 1 = .ok (.ifCond .lt 11, 3) := by decide +kernel
theorem dX12_end_4 : decode cX12_end 4 = .ok (.iload_n 1, 1) := by decide +kernel
theorem dX12_end_5 : decode cX12_end 5 = .ok (.aload_n 0, 1) := by decide +kernel
theorem dX12_end_6 : decode cX12_end 6 = .ok (.getfield 209, 3) := by decide +kernel
theorem dX12_end_9 : decode cX12_end 9 = .ok (.if_icmp .le 5, 3) := by decide +kernel
theorem dX12_end_12 : decode cX12_end 12 = .ok (.iconst (-1), 1) := by decide +kernel
theorem dX12_end_13 : decode cX12_end 13 = .ok (.ireturn, 1) := by decide +kernel
theorem dX12_end_14 : decode cX12_end 14 = .ok (.aload_n 0, 1) := by decide +kernel
theorem dX12_end_15 : decode cX12_end 15 = .ok (.iload_n 1, 1) := by decide +kernel
theorem dX12_end_16 : decode cX12_end 16 = .ok (.putfield 209, 3) := by decide +kernel
theorem dX12_end_19 : decode cX12_end 19 = .ok (.iload_n 1, 1) := by decide +kernel
theorem dX12_end_20 : decode cX12_end 20 = .ok (.ireturn, 1) := by decide +kernel
theorem dX12_fails_0 : decode cX12_fails 0 = .ok (.aload_n 0, 1) := by decide +kernel
theorem dX12_fails_1 : decode cX12_fails 1 = .ok (.getfield 215, 3) := by decide +kernel
theorem dX12_fails_4 : decode cX12_fails 4 = .ok (.ifCond .ne 15, 3) := by decide +kernel
theorem dX12_fails_7 : decode cX12_fails 7 = .ok (.aload_n 0, 1) := by decide +kernel
theorem dX12_fails_8 : decode cX12_fails 8 = .ok (.iconst 1, 1) := by decide +kernel
theorem dX12_fails_9 : decode cX12_fails 9 = .ok (.bipush 8, 2) := by decide +kernel
theorem dX12_fails_11 : decode cX12_fails 11 = .ok (.iload_n 2, 1) := by decide +kernel
theorem dX12_fails_12 : decode cX12_fails 12 = .ok (.imul, 1) := by decide +kernel
theorem dX12_fails_13 : decode cX12_fails 13 = .ok (.iadd, 1) := by decide +kernel
theorem dX12_fails_14 : decode cX12_fails 14 = .ok (.iload_n 1, 1) := by decide +kernel
theorem dX12_fails_15 : decode cX12_fails 15 = .ok (.iadd, 1) := by decide +kernel
theorem dX12_fails_16 : decode cX12_fails 16 = .ok (.putfield 215, 3) := by decide +kernel
theorem dX12_fails_19 : decode cX12_fails 19 = .ok (.return_, 1) := by decide +kernel
theorem dX12_blanks_0 : decode cX12_blanks 0 = .ok (.aload_n 0, 1) := by decide +kernel
theorem dX12_blanks_1 : decode cX12_blanks 1 = .ok (.getfield 218, 3) := by decide +kernel
theorem dX12_blanks_4 : decode cX12_blanks 4 = .ok (.aload_n 0, 1) := by decide +kernel
theorem dX12_blanks_5 : decode cX12_blanks 5 = .ok (.getfield 209, 3) := by decide +kernel
theorem dX12_blanks_8 : decode cX12_blanks 8 = .ok (.if_icmp .ge 30, 3) := by decide +kernel
theorem dX12_blanks_11 : decode cX12_blanks 11 = .ok (.aload_n 0, 1) := by decide +kernel
theorem dX12_blanks_12 : decode cX12_blanks 12 = .ok (.getfield 94, 3) := by decide +kernel
theorem dX12_blanks_15 : decode cX12_blanks 15 = .ok (.aload_n 0, 1) := by decide +kernel
theorem dX12_blanks_16 : decode cX12_blanks 16 = .ok (.getfield 218, 3) := by decide +kernel
theorem dX12_blanks_19 : decode cX12_blanks 19 = .ok (.baload, 1) := by decide +kernel
theorem dX12_blanks_20 : decode cX12_blanks 20 = .ok (.bipush 32, 2) := by decide +kernel
theorem dX12_blanks_22 : decode cX12_blanks 22 = .ok (.if_icmp .ne 16, 3) := by decide +kernel
theorem dX12_blanks_25 : decode cX12_blanks 25 = .ok (.aload_n 0, 1) := by decide +kernel
theorem dX12_blanks_26 : decode cX12_blanks 26 = .ok (.dup, 1) := by decide +kernel
theorem dX12_blanks_27 : decode cX12_blanks 27 = .ok (.getfield 218, 3) := by decide +kernel
theorem dX12_blanks_30 : decode cX12_blanks 30 = .ok (.iconst 1, 1) := by decide +kernel
theorem dX12_blanks_31 : decode cX12_blanks 31 = .ok (.iadd, 1) := by decide +kernel
theorem dX12_blanks_32 : decode cX12_blanks 32 = .ok (.putfield 218, 3) := by decide +kernel
theorem dX12_blanks_35 : decode cX12_blanks 35 = .ok (.goto (-35), 3) := by decide +kernel
theorem dX12_blanks_38 : decode cX12_blanks 38 = .ok (.return_, 1) := by decide +kernel
theorem dX12_isSmall_0 : decode cX12_isSmall 0 = .ok (.iload_n 0, 1) := by decide +kernel
theorem dX12_isSmall_1 : decode cX12_isSmall 1 = .ok (.i2l, 1) := by decide +kernel
theorem dX12_isSmall_2 : decode cX12_isSmall 2 = .ok (.ldc2_w 221, 3) := by decide +kernel
theorem dX12_isSmall_5 : decode cX12_isSmall 5 = .ok (.ldc2_w 223, 3) := by decide +kernel
theorem dX12_isSmall_8 : decode cX12_isSmall 8 = .ok (.invokestatic 154, 3) := by decide +kernel
theorem dX12_isSmall_11 : decode cX12_isSmall 11 = .ok (.ireturn, 1) := by decide +kernel
theorem dX12_wordLong_0 : decode cX12_wordLong 0 = .ok (.iconst 0, 1) := by decide +kernel
theorem dX12_wordLong_1 : decode cX12_wordLong 1 = .ok (.istore_n 1, 1) := by decide +kernel
theorem dX12_wordLong_2 : decode cX12_wordLong 2 = .ok (.aload_n 0, 1) := by decide +kernel
theorem dX12_wordLong_3 : decode cX12_wordLong 3 = .ok (.getfield 218, 3) := by decide +kernel
theorem dX12_wordLong_6 : decode cX12_wordLong 6 = .ok (.iload_n 1, 1) := by decide +kernel
theorem dX12_wordLong_7 : decode cX12_wordLong 7 = .ok (.iadd, 1) := by decide +kernel
theorem dX12_wordLong_8 : decode cX12_wordLong 8 = .ok (.aload_n 0, 1) := by decide +kernel
theorem dX12_wordLong_9 : decode cX12_wordLong 9 = .ok (.getfield 209, 3) := by decide +kernel
theorem dX12_wordLong_12 : decode cX12_wordLong 12 = .ok (.if_icmp .ge 26, 3) := by decide +kernel
theorem dX12_wordLong_15 : decode cX12_wordLong 15 = .ok (.aload_n 0, 1) := by decide +kernel
theorem dX12_wordLong_16 : decode cX12_wordLong 16 = .ok (.getfield 94, 3) := by decide +kernel
theorem dX12_wordLong_19 : decode cX12_wordLong 19 = .ok (.aload_n 0, 1) := by decide +kernel
theorem dX12_wordLong_20 : decode cX12_wordLong 20 = .ok (.getfield 218, 3) := by decide +kernel
theorem dX12_wordLong_23 : decode cX12_wordLong 23 = .ok (.iload_n 1, 1) := by decide +kernel
theorem dX12_wordLong_24 : decode cX12_wordLong 24 = .ok (.iadd, 1) := by decide +kernel
theorem dX12_wordLong_25 : decode cX12_wordLong 25 = .ok (.baload, 1) := by decide +kernel
theorem dX12_wordLong_26 : decode cX12_wordLong 26 = .ok (.invokestatic 225, 3) := by decide +kernel
theorem dX12_wordLong_29 : decode cX12_wordLong 29 = .ok (.ifCond .eq 9, 3) := by decide +kernel
theorem dX12_wordLong_32 : decode cX12_wordLong 32 = .ok (.iinc 1 1, 3) := by decide +kernel
theorem dX12_wordLong_35 : decode cX12_wordLong 35 = .ok (.goto (-33), 3) := by decide +kernel
theorem dX12_wordLong_38 : decode cX12_wordLong 38 = .ok (.iload_n 1, 1) := by decide +kernel
theorem dX12_wordLong_39 : decode cX12_wordLong 39 = .ok (.ireturn, 1) := by decide +kernel
theorem dX12_isWord_0 : decode cX12_isWord 0 = .ok (.aload_n 0, 1) := by decide +kernel
theorem dX12_isWord_1 : decode cX12_isWord 1 = .ok (.invokevirtual 228, 3) := by decide +kernel
theorem dX12_isWord_4 : decode cX12_isWord 4 = .ok (.aload_n 1, 1) := by decide +kernel
theorem dX12_isWord_5 : decode cX12_isWord 5 = .ok (.invokevirtual 232, 3) := by decide +kernel
theorem dX12_isWord_8 : decode cX12_isWord 8 = .ok (.if_icmp .ne 7, 3) := by decide +kernel
theorem dX12_isWord_11 : decode cX12_isWord 11 = .ok (.iconst 1, 1) := by decide +kernel
theorem dX12_isWord_12 : decode cX12_isWord 12 = .ok (.goto 4, 3) := by decide +kernel
theorem dX12_isWord_15 : decode cX12_isWord 15 = .ok (.iconst 0, 1) := by decide +kernel
theorem dX12_isWord_16 : decode cX12_isWord 16 = .ok (.istore_n 2, 1) := by decide +kernel
theorem dX12_isWord_17 : decode cX12_isWord 17 = .ok (.iconst 0, 1) := by decide +kernel
theorem dX12_isWord_18 : decode cX12_isWord 18 = .ok (.istore_n 3, 1) := by decide +kernel
theorem dX12_isWord_19 : decode cX12_isWord 19 = .ok (.iload_n 3, 1) := by decide +kernel
theorem dX12_isWord_20 : decode cX12_isWord 20 = .ok (.aload_n 1, 1) := by decide +kernel
theorem dX12_isWord_21 : decode cX12_isWord 21 = .ok (.invokevirtual 232, 3) := by decide +kernel
theorem dX12_isWord_24 : decode cX12_isWord 24 = .ok (.if_icmp .ge 38, 3) := by decide +kernel
theorem dX12_isWord_27 : decode cX12_isWord 27 = .ok (.iload_n 2, 1) := by decide +kernel
theorem dX12_isWord_28 : decode cX12_isWord 28 = .ok (.ifCond .eq 34, 3) := by decide +kernel
theorem dX12_isWord_31 : decode cX12_isWord 31 = .ok (.aload_n 0, 1) := by decide +kernel
theorem dX12_isWord_32 : decode cX12_isWord 32 = .ok (.getfield 94, 3) := by decide +kernel
theorem dX12_isWord_35 : decode cX12_isWord 35 = .ok (.aload_n 0, 1) := by decide +kernel
theorem dX12_isWord_36 : decode cX12_isWord 36 = .ok (.getfield 218, 3) := by decide +kernel
theorem dX12_isWord_39 : decode cX12_isWord 39 = .ok (.iload_n 3, 1) := by decide +kernel
theorem dX12_isWord_40 : decode cX12_isWord 40 = .ok (.iadd, 1) := by decide +kernel
theorem dX12_isWord_41 : decode cX12_isWord 41 = .ok (.baload, 1) := by decide +kernel
theorem dX12_isWord_42 : decode cX12_isWord 42 = .ok (.aload_n 1, 1) := by decide +kernel
theorem dX12_isWord_43 : decode cX12_isWord 43 = .ok (.iload_n 3, 1) := by decide +kernel
theorem dX12_isWord_44 : decode cX12_isWord 44 = .ok (.invokevirtual 237, 3) := by decide +kernel
theorem dX12_isWord_47 : decode cX12_isWord 47 = .ok (.if_icmp .ne 7, 3) := by decide +kernel
theorem dX12_isWord_50 : decode cX12_isWord 50 = .ok (.iconst 1, 1) := by decide +kernel
theorem dX12_isWord_51 : decode cX12_isWord 51 = .ok (.goto 4, 3) := by decide +kernel
theorem dX12_isWord_54 : decode cX12_isWord 54 = .ok (.iconst 0, 1) := by decide +kernel
theorem dX12_isWord_55 : decode cX12_isWord 55 = .ok (.istore_n 2, 1) := by decide +kernel
theorem dX12_isWord_56 : decode cX12_isWord 56 = .ok (.iinc 3 1, 3) := by decide +kernel
theorem dX12_isWord_59 : decode cX12_isWord 59 = .ok (.goto (-40), 3) := by decide +kernel
theorem dX12_isWord_62 : decode cX12_isWord 62 = .ok (.iload_n 2, 1) := by decide +kernel
theorem dX12_isWord_63 : decode cX12_isWord 63 = .ok (.ireturn, 1) := by decide +kernel
theorem dX12_emits_0 : decode cX12_emits 0 = .ok (.aload_n 0, 1) := by decide +kernel
theorem dX12_emits_1 : decode cX12_emits 1 = .ok (.getfield 98, 3) := by decide +kernel
theorem dX12_emits_4 : decode cX12_emits 4 = .ok (.sipush 400, 3) := by decide +kernel
theorem dX12_emits_7 : decode cX12_emits 7 = .ok (.aload_n 0, 1) := by decide +kernel
theorem dX12_emits_8 : decode cX12_emits 8 = .ok (.getfield 241, 3) := by decide +kernel
theorem dX12_emits_11 : decode cX12_emits 11 = .ok (.imul, 1) := by decide +kernel
theorem dX12_emits_12 : decode cX12_emits 12 = .ok (.aload_n 0, 1) := by decide +kernel
theorem dX12_emits_13 : decode cX12_emits 13 = .ok (.getfield 244, 3) := by decide +kernel
theorem dX12_emits_16 : decode cX12_emits 16 = .ok (.iadd, 1) := by decide +kernel
theorem dX12_emits_17 : decode cX12_emits 17 = .ok (.iload_n 1, 1) := by decide +kernel
theorem dX12_emits_18 : decode cX12_emits 18 = .ok (.iastore, 1) := by decide +kernel
theorem dX12_emits_19 : decode cX12_emits 19 = .ok (.aload_n 0, 1) := by decide +kernel
theorem dX12_emits_20 : decode cX12_emits 20 = .ok (.getfield 101, 3) := by decide +kernel
theorem dX12_emits_23 : decode cX12_emits 23 = .ok (.sipush 400, 3) := by decide +kernel
theorem dX12_emits_26 : decode cX12_emits 26 = .ok (.aload_n 0, 1) := by decide +kernel
theorem dX12_emits_27 : decode cX12_emits 27 = .ok (.getfield 241, 3) := by decide +kernel
theorem dX12_emits_30 : decode cX12_emits 30 = .ok (.imul, 1) := by decide +kernel
theorem dX12_emits_31 : decode cX12_emits 31 = .ok (.aload_n 0, 1) := by decide +kernel
theorem dX12_emits_32 : decode cX12_emits 32 = .ok (.getfield 244, 3) := by decide +kernel
theorem dX12_emits_35 : decode cX12_emits 35 = .ok (.iadd, 1) := by decide +kernel
theorem dX12_emits_36 : decode cX12_emits 36 = .ok (.iload_n 2, 1) := by decide +kernel
theorem dX12_emits_37 : decode cX12_emits 37 = .ok (.iastore, 1) := by decide +kernel
theorem dX12_emits_38 : decode cX12_emits 38 = .ok (.aload_n 0, 1) := by decide +kernel
theorem dX12_emits_39 : decode cX12_emits 39 = .ok (.dup, 1) := by decide +kernel
theorem dX12_emits_40 : decode cX12_emits 40 = .ok (.getfield 244, 3) := by decide +kernel
theorem dX12_emits_43 : decode cX12_emits 43 = .ok (.iconst 1, 1) := by decide +kernel
theorem dX12_emits_44 : decode cX12_emits 44 = .ok (.iadd, 1) := by decide +kernel
theorem dX12_emits_45 : decode cX12_emits 45 = .ok (.putfield 244, 3) := by decide +kernel
theorem dX12_emits_48 : decode cX12_emits 48 = .ok (.return_, 1) := by decide +kernel
theorem dX12_opens_0 : decode cX12_opens 0 = .ok (.aload_n 0, 1) := by decide +kernel
theorem dX12_opens_1 : decode cX12_opens 1 = .ok (.getfield 107, 3) := by decide +kernel
theorem dX12_opens_4 : decode cX12_opens 4 = .ok (.aload_n 0, 1) := by decide +kernel
theorem dX12_opens_5 : decode cX12_opens 5 = .ok (.getfield 247, 3) := by decide +kernel
theorem dX12_opens_8 : decode cX12_opens 8 = .ok (.iload_n 1, 1) := by decide +kernel
theorem dX12_opens_9 : decode cX12_opens 9 = .ok (.iastore, 1) := by decide +kernel
theorem dX12_opens_10 : decode cX12_opens 10 = .ok (.aload_n 0, 1) := by decide +kernel
theorem dX12_opens_11 : decode cX12_opens 11 = .ok (.getfield 110, 3) := by decide +kernel
theorem dX12_opens_14 : decode cX12_opens 14 = .ok (.aload_n 0, 1) := by decide +kernel
theorem dX12_opens_15 : decode cX12_opens 15 = .ok (.getfield 247, 3) := by decide +kernel
theorem dX12_opens_18 : decode cX12_opens 18 = .ok (.iload_n 2, 1) := by decide +kernel
theorem dX12_opens_19 : decode cX12_opens 19 = .ok (.iastore, 1) := by decide +kernel
theorem dX12_opens_20 : decode cX12_opens 20 = .ok (.aload_n 0, 1) := by decide +kernel
theorem dX12_opens_21 : decode cX12_opens 21 = .ok (.dup, 1) := by decide +kernel
theorem dX12_opens_22 : decode cX12_opens 22 = .ok (.getfield 247, 3) := by decide +kernel
theorem dX12_opens_25 : decode cX12_opens 25 = .ok (.iconst 1, 1) := by decide +kernel
theorem dX12_opens_26 : decode cX12_opens 26 = .ok (.iadd, 1) := by decide +kernel
theorem dX12_opens_27 : decode cX12_opens 27 = .ok (.putfield 247, 3) := by decide +kernel
theorem dX12_opens_30 : decode cX12_opens 30 = .ok (.return_, 1) := by decide +kernel
theorem dX12_counts_0 : decode cX12_counts 0 = .ok (.aload_n 0, 1) := by decide +kernel
theorem dX12_counts_1 : decode cX12_counts 1 = .ok (.getfield 250, 3) := by decide +kernel
theorem dX12_counts_4 : decode cX12_counts 4 = .ok (.bipush 30, 2) := by decide +kernel
theorem dX12_counts_6 : decode cX12_counts 6 = .ok (.if_icmp .ne 12, 3) := by decide +kernel
theorem dX12_counts_9 : decode cX12_counts 9 = .ok (.aload_n 0, 1) := by decide +kernel
theorem dX12_counts_10 : decode cX12_counts 10 = .ok (.iconst 3, 1) := by decide +kernel
theorem dX12_counts_11 : decode cX12_counts 11 = .ok (.aload_n 0, 1) := by decide +kernel
theorem dX12_counts_12 : decode cX12_counts 12 = .ok (.getfield 218, 3) := by decide +kernel
theorem dX12_counts_15 : decode cX12_counts 15 = .ok (.invokevirtual 253, 3) := by decide +kernel
theorem dX12_counts_18 : decode cX12_counts 18 = .ok (.aload_n 0, 1) := by decide +kernel
theorem dX12_counts_19 : decode cX12_counts 19 = .ok (.dup, 1) := by decide +kernel
theorem dX12_counts_20 : decode cX12_counts 20 = .ok (.getfield 250, 3) := by decide +kernel
theorem dX12_counts_23 : decode cX12_counts 23 = .ok (.iconst 1, 1) := by decide +kernel
theorem dX12_counts_24 : decode cX12_counts 24 = .ok (.iadd, 1) := by decide +kernel
theorem dX12_counts_25 : decode cX12_counts 25 = .ok (.putfield 250, 3) := by decide +kernel
theorem dX12_counts_28 : decode cX12_counts 28 = .ok (.return_, 1) := by decide +kernel
theorem dX12_atPlace_0 : decode cX12_atPlace 0 = .ok (.aload_n 0, 1) := by decide +kernel
theorem dX12_atPlace_1 : decode cX12_atPlace 1 = .ok (.dup, 1) := by decide +kernel
theorem dX12_atPlace_2 : decode cX12_atPlace 2 = .ok (.getfield 218, 3) := by decide +kernel
theorem dX12_atPlace_5 : decode cX12_atPlace 5 = .ok (.iconst 2, 1) := by decide +kernel
theorem dX12_atPlace_6 : decode cX12_atPlace 6 = .ok (.iadd, 1) := by decide +kernel
theorem dX12_atPlace_7 : decode cX12_atPlace 7 = .ok (.putfield 218, 3) := by decide +kernel
theorem dX12_atPlace_10 : decode cX12_atPlace 10 = .ok (.aload_n 0, 1) := by decide +kernel
theorem dX12_atPlace_11 : decode cX12_atPlace 11 = .ok (.invokevirtual 256, 3) := by decide +kernel
theorem dX12_atPlace_14 : decode cX12_atPlace 14 = .ok (.aload_n 0, 1) := by decide +kernel
theorem dX12_atPlace_15 : decode cX12_atPlace 15 = .ok (.getfield 218, 3) := by decide +kernel
theorem dX12_atPlace_18 : decode cX12_atPlace 18 = .ok (.istore_n 1, 1) := by decide +kernel
theorem dX12_atPlace_19 : decode cX12_atPlace 19 = .ok (.iconst 0, 1) := by decide +kernel
theorem dX12_atPlace_20 : decode cX12_atPlace 20 = .ok (.istore_n 2, 1) := by decide +kernel
theorem dX12_atPlace_21 : decode cX12_atPlace 21 = .ok (.iconst 0, 1) := by decide +kernel
theorem dX12_atPlace_22 : decode cX12_atPlace 22 = .ok (.istore_n 3, 1) := by decide +kernel
theorem dX12_atPlace_23 : decode cX12_atPlace 23 = .ok (.aload_n 0, 1) := by decide +kernel
theorem dX12_atPlace_24 : decode cX12_atPlace 24 = .ok (.getfield 218, 3) := by decide +kernel
theorem dX12_atPlace_27 : decode cX12_atPlace 27 = .ok (.aload_n 0, 1) := by decide +kernel
theorem dX12_atPlace_28 : decode cX12_atPlace 28 = .ok (.getfield 209, 3) := by decide +kernel
theorem dX12_atPlace_31 : decode cX12_atPlace 31 = .ok (.if_icmp .ge 62, 3) := by decide +kernel
theorem dX12_atPlace_34 : decode cX12_atPlace 34 = .ok (.aload_n 0, 1) := by decide +kernel
theorem dX12_atPlace_35 : decode cX12_atPlace 35 = .ok (.getfield 94, 3) := by decide +kernel
theorem dX12_atPlace_38 : decode cX12_atPlace 38 = .ok (.aload_n 0, 1) := by decide +kernel
theorem dX12_atPlace_39 : decode cX12_atPlace 39 = .ok (.getfield 218, 3) := by decide +kernel
theorem dX12_atPlace_42 : decode cX12_atPlace 42 = .ok (.baload, 1) := by decide +kernel
theorem dX12_atPlace_43 : decode cX12_atPlace 43 = .ok (.i2l, 1) := by decide +kernel
theorem dX12_atPlace_44 : decode cX12_atPlace 44 = .ok (.ldc2_w 259, 3) := by decide +kernel
theorem dX12_atPlace_47 : decode cX12_atPlace 47 = .ok (.ldc2_w 261, 3) := by decide +kernel
theorem dX12_atPlace_50 : decode cX12_atPlace 50 = .ok (.invokestatic 154, 3) := by decide +kernel
theorem dX12_atPlace_53 : decode cX12_atPlace 53 = .ok (.ifCond .eq 40, 3) := by decide +kernel
theorem dX12_atPlace_56 : decode cX12_atPlace 56 = .ok (.iload_n 2, 1) := by decide +kernel
theorem dX12_atPlace_57 : decode cX12_atPlace 57 = .ok (.ifCond .ne 18, 3) := by decide +kernel
theorem dX12_atPlace_60 : decode cX12_atPlace 60 = .ok (.aload_n 0, 1) := by decide +kernel
theorem dX12_atPlace_61 : decode cX12_atPlace 61 = .ok (.getfield 94, 3) := by decide +kernel
theorem dX12_atPlace_64 : decode cX12_atPlace 64 = .ok (.aload_n 0, 1) := by decide +kernel
theorem dX12_atPlace_65 : decode cX12_atPlace 65 = .ok (.getfield 218, 3) := by decide +kernel
theorem dX12_atPlace_68 : decode cX12_atPlace 68 = .ok (.baload, 1) := by decide +kernel
theorem dX12_atPlace_69 : decode cX12_atPlace 69 = .ok (.bipush 48, 2) := by decide +kernel
theorem dX12_atPlace_71 : decode cX12_atPlace 71 = .ok (.isub, 1) := by decide +kernel
theorem dX12_atPlace_72 : decode cX12_atPlace 72 = .ok (.goto 4, 3) := by decide +kernel
theorem dX12_atPlace_75 : decode cX12_atPlace 75 = .ok (.iload_n 3, 1) := by decide +kernel
theorem dX12_atPlace_76 : decode cX12_atPlace 76 = .ok (.istore_n 3, 1) := by decide +kernel
theorem dX12_atPlace_77 : decode cX12_atPlace 77 = .ok (.iinc 2 1, 3) := by decide +kernel
theorem dX12_atPlace_80 : decode cX12_atPlace 80 = .ok (.aload_n 0, 1) := by decide +kernel
theorem dX12_atPlace_81 : decode cX12_atPlace 81 = .ok (.dup, 1) := by decide +kernel
theorem dX12_atPlace_82 : decode cX12_atPlace 82 = .ok (.getfield 218, 3) := by decide +kernel
theorem dX12_atPlace_85 : decode cX12_atPlace 85 = .ok (.iconst 1, 1) := by decide +kernel
theorem dX12_atPlace_86 : decode cX12_atPlace 86 = .ok (.iadd, 1) := by decide +kernel
theorem dX12_atPlace_87 : decode cX12_atPlace 87 = .ok (.putfield 218, 3) := by decide +kernel
theorem dX12_atPlace_90 : decode cX12_atPlace 90 = .ok (.goto (-67), 3) := by decide +kernel
theorem dX12_atPlace_93 : decode cX12_atPlace 93 = .ok (.iload_n 2, 1) := by decide +kernel
theorem dX12_atPlace_94 : decode cX12_atPlace 94 = .ok (.ifCond .ne 12, 3) := by decide +kernel
theorem dX12_atPlace_97 : decode cX12_atPlace 97 = .ok (.aload_n 0, 1) := by decide +kernel
theorem dX12_atPlace_98 : decode cX12_atPlace 98 = .ok (.iconst 0, 1) := by decide +kernel
theorem dX12_atPlace_99 : decode cX12_atPlace 99 = .ok (.iload_n 1, 1) := by decide +kernel
theorem dX12_atPlace_100 : decode cX12_atPlace 100 = .ok (.invokevirtual 253, 3) := by decide +kernel
theorem dX12_atPlace_103 : decode cX12_atPlace 103 = .ok (.goto 20, 3) := by decide +kernel
theorem dX12_atPlace_106 : decode cX12_atPlace 106 = .ok (.iload_n 2, 1) := by decide +kernel
theorem dX12_atPlace_107 : decode cX12_atPlace 107 = .ok (.iconst 1, 1) := by decide +kernel
theorem dX12_atPlace_108 : decode cX12_atPlace 108 = .ok (.if_icmp .gt 9, 3) := by decide +kernel
theorem dX12_atPlace_111 : decode cX12_atPlace 111 = .ok (.iload_n 3, 1) := by decide +kernel
theorem dX12_atPlace_112 : decode cX12_atPlace 112 = .ok (.bipush 8, 2) := by decide +kernel
theorem dX12_atPlace_114 : decode cX12_atPlace 114 = .ok (.if_icmp .lt 9, 3) := by decide +kernel
theorem dX12_atPlace_117 : decode cX12_atPlace 117 = .ok (.aload_n 0, 1) := by decide +kernel
theorem dX12_atPlace_118 : decode cX12_atPlace 118 = .ok (.iconst 1, 1) := by decide +kernel
theorem dX12_atPlace_119 : decode cX12_atPlace 119 = .ok (.iload_n 1, 1) := by decide +kernel
theorem dX12_atPlace_120 : decode cX12_atPlace 120 = .ok (.invokevirtual 253, 3) := by decide +kernel
theorem dX12_atPlace_123 : decode cX12_atPlace 123 = .ok (.aload_n 0, 1) := by decide +kernel
theorem dX12_atPlace_124 : decode cX12_atPlace 124 = .ok (.iconst 1, 1) := by decide +kernel
theorem dX12_atPlace_125 : decode cX12_atPlace 125 = .ok (.iload_n 3, 1) := by decide +kernel
theorem dX12_atPlace_126 : decode cX12_atPlace 126 = .ok (.invokevirtual 263, 3) := by decide +kernel
theorem dX12_atPlace_129 : decode cX12_atPlace 129 = .ok (.return_, 1) := by decide +kernel
theorem dX12_fact_0 : decode cX12_fact 0 = .ok (.aload_n 0, 1) := by decide +kernel
theorem dX12_fact_1 : decode cX12_fact 1 = .ok (.invokevirtual 256, 3) := by decide +kernel
theorem dX12_fact_4 : decode cX12_fact 4 = .ok (.aload_n 0, 1) := by decide +kernel
theorem dX12_fact_5 : decode cX12_fact 5 = .ok (.getfield 218, 3) := by decide +kernel
theorem dX12_fact_8 : decode cX12_fact 8 = .ok (.aload_n 0, 1) := by decide +kernel
theorem dX12_fact_9 : decode cX12_fact 9 = .ok (.getfield 209, 3) := by decide +kernel
theorem dX12_fact_12 : decode cX12_fact 12 = .ok (.if_icmp .ge 21, 3) := by decide +kernel
theorem dX12_fact_15 : decode cX12_fact 15 = .ok (.aload_n 0, 1) := by decide +kernel
theorem dX12_fact_16 : decode cX12_fact 16 = .ok (.getfield 94, 3) := by decide +kernel
theorem dX12_fact_19 : decode cX12_fact 19 = .ok (.aload_n 0, 1) := by decide +kernel
theorem dX12_fact_20 : decode cX12_fact 20 = .ok (.getfield 218, 3) := by decide +kernel
theorem dX12_fact_23 : decode cX12_fact 23 = .ok (.baload, 1) := by decide +kernel
theorem dX12_fact_24 : decode cX12_fact 24 = .ok (.bipush 91, 2) := by decide +kernel
theorem dX12_fact_26 : decode cX12_fact 26 = .ok (.if_icmp .ne 7, 3) := by decide +kernel
theorem dX12_fact_29 : decode cX12_fact 29 = .ok (.iconst 1, 1) := by decide +kernel
theorem dX12_fact_30 : decode cX12_fact 30 = .ok (.goto 4, 3) := by decide +kernel
theorem dX12_fact_33 : decode cX12_fact 33 = .ok (.iconst 0, 1) := by decide +kernel
theorem dX12_fact_34 : decode cX12_fact 34 = .ok (.istore_n 1, 1) := by decide +kernel
theorem dX12_fact_35 : decode cX12_fact 35 = .ok (.iload_n 1, 1) := by decide +kernel
theorem dX12_fact_36 : decode cX12_fact 36 = .ok (.ifCond .ne 13, 3) := by decide +kernel
theorem dX12_fact_39 : decode cX12_fact 39 = .ok (.aload_n 0, 1) := by decide +kernel
theorem dX12_fact_40 : decode cX12_fact 40 = .ok (.ldc_w 266, 3) := by decide +kernel
theorem dX12_fact_43 : decode cX12_fact 43 = .ok (.invokevirtual 268, 3) := by decide +kernel
theorem dX12_fact_46 : decode cX12_fact 46 = .ok (.ifCond .eq 66, 3) := by decide +kernel
theorem dX12_fact_49 : decode cX12_fact 49 = .ok (.aload_n 0, 1) := by decide +kernel
theorem dX12_fact_50 : decode cX12_fact 50 = .ok (.getfield 272, 3) := by decide +kernel
theorem dX12_fact_53 : decode cX12_fact 53 = .ok (.bipush 10, 2) := by decide +kernel
theorem dX12_fact_55 : decode cX12_fact 55 = .ok (.if_icmp .ne 12, 3) := by decide +kernel
theorem dX12_fact_58 : decode cX12_fact 58 = .ok (.aload_n 0, 1) := by decide +kernel
theorem dX12_fact_59 : decode cX12_fact 59 = .ok (.iconst 2, 1) := by decide +kernel
theorem dX12_fact_60 : decode cX12_fact 60 = .ok (.aload_n 0, 1) := by decide +kernel
theorem dX12_fact_61 : decode cX12_fact 61 = .ok (.getfield 218, 3) := by decide +kernel
theorem dX12_fact_64 : decode cX12_fact 64 = .ok (.invokevirtual 253, 3) := by decide +kernel
theorem dX12_fact_67 : decode cX12_fact 67 = .ok (.aload_n 0, 1) := by decide +kernel
theorem dX12_fact_68 : decode cX12_fact 68 = .ok (.dup, 1) := by decide +kernel
theorem dX12_fact_69 : decode cX12_fact 69 = .ok (.getfield 272, 3) := by decide +kernel
theorem dX12_fact_72 : decode cX12_fact 72 = .ok (.iconst 1, 1) := by decide +kernel
theorem dX12_fact_73 : decode cX12_fact 73 = .ok (.iadd, 1) := by decide +kernel
theorem dX12_fact_74 : decode cX12_fact 74 = .ok (.putfield 272, 3) := by decide +kernel
theorem dX12_fact_77 : decode cX12_fact 77 = .ok (.aload_n 0, 1) := by decide +kernel
theorem dX12_fact_78 : decode cX12_fact 78 = .ok (.iload_n 1, 1) := by decide +kernel
theorem dX12_fact_79 : decode cX12_fact 79 = .ok (.ifCond .eq 8, 3) := by decide +kernel
theorem dX12_fact_82 : decode cX12_fact 82 = .ok (.bipush 7, 2) := by decide +kernel
theorem dX12_fact_84 : decode cX12_fact 84 = .ok (.goto 4, 3) := by decide +kernel
theorem dX12_fact_87 : decode cX12_fact 87 = .ok (.iconst 3, 1) := by decide +kernel
theorem dX12_fact_88 : decode cX12_fact 88 = .ok (.iconst 0, 1) := by decide +kernel
theorem dX12_fact_89 : decode cX12_fact 89 = .ok (.invokevirtual 275, 3) := by decide +kernel
theorem dX12_fact_92 : decode cX12_fact 92 = .ok (.aload_n 0, 1) := by decide +kernel
theorem dX12_fact_93 : decode cX12_fact 93 = .ok (.dup, 1) := by decide +kernel
theorem dX12_fact_94 : decode cX12_fact 94 = .ok (.getfield 218, 3) := by decide +kernel
theorem dX12_fact_97 : decode cX12_fact 97 = .ok (.iload_n 1, 1) := by decide +kernel
theorem dX12_fact_98 : decode cX12_fact 98 = .ok (.ifCond .eq 7, 3) := by decide +kernel
theorem dX12_fact_101 : decode cX12_fact 101 = .ok (.iconst 1, 1) := by decide +kernel
theorem dX12_fact_102 : decode cX12_fact 102 = .ok (.goto 4, 3) := by decide +kernel
theorem dX12_fact_105 : decode cX12_fact 105 = .ok (.iconst 3, 1) := by decide +kernel
theorem dX12_fact_106 : decode cX12_fact 106 = .ok (.iadd, 1) := by decide +kernel
theorem dX12_fact_107 : decode cX12_fact 107 = .ok (.putfield 218, 3) := by decide +kernel
theorem dX12_fact_110 : decode cX12_fact 110 = .ok (.iconst 0, 1) := by decide +kernel
theorem dX12_fact_111 : decode cX12_fact 111 = .ok (.ireturn, 1) := by decide +kernel
theorem dX12_fact_112 : decode cX12_fact 112 = .ok (.aload_n 0, 1) := by decide +kernel
theorem dX12_fact_113 : decode cX12_fact 113 = .ok (.invokevirtual 228, 3) := by decide +kernel
theorem dX12_fact_116 : decode cX12_fact 116 = .ok (.iconst 1, 1) := by decide +kernel
theorem dX12_fact_117 : decode cX12_fact 117 = .ok (.if_icmp .ne 15, 3) := by decide +kernel
theorem dX12_fact_120 : decode cX12_fact 120 = .ok (.aload_n 0, 1) := by decide +kernel
theorem dX12_fact_121 : decode cX12_fact 121 = .ok (.getfield 94, 3) := by decide +kernel
theorem dX12_fact_124 : decode cX12_fact 124 = .ok (.aload_n 0, 1) := by decide +kernel
theorem dX12_fact_125 : decode cX12_fact 125 = .ok (.getfield 218, 3) := by decide +kernel
theorem dX12_fact_128 : decode cX12_fact 128 = .ok (.baload, 1) := by decide +kernel
theorem dX12_fact_129 : decode cX12_fact 129 = .ok (.goto 4, 3) := by decide +kernel
theorem dX12_fact_132 : decode cX12_fact 132 = .ok (.iconst 0, 1) := by decide +kernel
theorem dX12_fact_133 : decode cX12_fact 133 = .ok (.istore_n 2, 1) := by decide +kernel
theorem dX12_fact_134 : decode cX12_fact 134 = .ok (.iload_n 2, 1) := by decide +kernel
theorem dX12_fact_135 : decode cX12_fact 135 = .ok (.i2l, 1) := by decide +kernel
theorem dX12_fact_136 : decode cX12_fact 136 = .ok (.ldc2_w 278, 3) := by decide +kernel
theorem dX12_fact_139 : decode cX12_fact 139 = .ok (.ldc2_w 223, 3) := by decide +kernel
theorem dX12_fact_142 : decode cX12_fact 142 = .ok (.invokestatic 154, 3) := by decide +kernel
theorem dX12_fact_145 : decode cX12_fact 145 = .ok (.ifCond .eq 51, 3) := by decide +kernel
theorem dX12_fact_148 : decode cX12_fact 148 = .ok (.aload_n 0, 1) := by decide +kernel
theorem dX12_fact_149 : decode cX12_fact 149 = .ok (.getfield 280, 3) := by decide +kernel
theorem dX12_fact_152 : decode cX12_fact 152 = .ok (.iconst 4, 1) := by decide +kernel
theorem dX12_fact_153 : decode cX12_fact 153 = .ok (.if_icmp .ne 12, 3) := by decide +kernel
theorem dX12_fact_156 : decode cX12_fact 156 = .ok (.aload_n 0, 1) := by decide +kernel
theorem dX12_fact_157 : decode cX12_fact 157 = .ok (.iconst 2, 1) := by decide +kernel
theorem dX12_fact_158 : decode cX12_fact 158 = .ok (.aload_n 0, 1) := by decide +kernel
theorem dX12_fact_159 : decode cX12_fact 159 = .ok (.getfield 218, 3) := by decide +kernel
theorem dX12_fact_162 : decode cX12_fact 162 = .ok (.invokevirtual 253, 3) := by decide +kernel
theorem dX12_fact_165 : decode cX12_fact 165 = .ok (.aload_n 0, 1) := by decide +kernel
theorem dX12_fact_166 : decode cX12_fact 166 = .ok (.dup, 1) := by decide +kernel
theorem dX12_fact_167 : decode cX12_fact 167 = .ok (.getfield 280, 3) := by decide +kernel
theorem dX12_fact_170 : decode cX12_fact 170 = .ok (.iconst 1, 1) := by decide +kernel
theorem dX12_fact_171 : decode cX12_fact 171 = .ok (.iadd, 1) := by decide +kernel
theorem dX12_fact_172 : decode cX12_fact 172 = .ok (.putfield 280, 3) := by decide +kernel
theorem dX12_fact_175 : decode cX12_fact 175 = .ok (.aload_n 0, 1) := by decide +kernel
theorem dX12_fact_176 : decode cX12_fact 176 = .ok (.iconst 4, 1) := by decide +kernel
theorem dX12_fact_177 : decode cX12_fact 177 = .ok (.iload_n 2, 1) := by decide +kernel
theorem dX12_fact_178 : decode cX12_fact 178 = .ok (.bipush 117, 2) := by decide +kernel
theorem dX12_fact_180 : decode cX12_fact 180 = .ok (.isub, 1) := by decide +kernel
theorem dX12_fact_181 : decode cX12_fact 181 = .ok (.invokevirtual 275, 3) := by decide +kernel
theorem dX12_fact_184 : decode cX12_fact 184 = .ok (.aload_n 0, 1) := by decide +kernel
theorem dX12_fact_185 : decode cX12_fact 185 = .ok (.dup, 1) := by decide +kernel
theorem dX12_fact_186 : decode cX12_fact 186 = .ok (.getfield 218, 3) := by decide +kernel
theorem dX12_fact_189 : decode cX12_fact 189 = .ok (.iconst 1, 1) := by decide +kernel
theorem dX12_fact_190 : decode cX12_fact 190 = .ok (.iadd, 1) := by decide +kernel
theorem dX12_fact_191 : decode cX12_fact 191 = .ok (.putfield 218, 3) := by decide +kernel
theorem dX12_fact_194 : decode cX12_fact 194 = .ok (.iconst 0, 1) := by decide +kernel
theorem dX12_fact_195 : decode cX12_fact 195 = .ok (.ireturn, 1) := by decide +kernel
theorem dX12_fact_196 : decode cX12_fact 196 = .ok (.iload_n 2, 1) := by decide +kernel
theorem dX12_fact_197 : decode cX12_fact 197 = .ok (.i2l, 1) := by decide +kernel
theorem dX12_fact_198 : decode cX12_fact 198 = .ok (.ldc2_w 221, 3) := by decide +kernel
theorem dX12_fact_201 : decode cX12_fact 201 = .ok (.ldc2_w 283, 3) := by decide +kernel
theorem dX12_fact_204 : decode cX12_fact 204 = .ok (.invokestatic 154, 3) := by decide +kernel
theorem dX12_fact_207 : decode cX12_fact 207 = .ok (.ifCond .eq 29, 3) := by decide +kernel
theorem dX12_fact_210 : decode cX12_fact 210 = .ok (.aload_n 0, 1) := by decide +kernel
theorem dX12_fact_211 : decode cX12_fact 211 = .ok (.invokevirtual 285, 3) := by decide +kernel
theorem dX12_fact_214 : decode cX12_fact 214 = .ok (.aload_n 0, 1) := by decide +kernel
theorem dX12_fact_215 : decode cX12_fact 215 = .ok (.iconst 0, 1) := by decide +kernel
theorem dX12_fact_216 : decode cX12_fact 216 = .ok (.iload_n 2, 1) := by decide +kernel
theorem dX12_fact_217 : decode cX12_fact 217 = .ok (.bipush 97, 2) := by decide +kernel
theorem dX12_fact_219 : decode cX12_fact 219 = .ok (.isub, 1) := by decide +kernel
theorem dX12_fact_220 : decode cX12_fact 220 = .ok (.invokevirtual 263, 3) := by decide +kernel
theorem dX12_fact_223 : decode cX12_fact 223 = .ok (.aload_n 0, 1) := by decide +kernel
theorem dX12_fact_224 : decode cX12_fact 224 = .ok (.dup, 1) := by decide +kernel
theorem dX12_fact_225 : decode cX12_fact 225 = .ok (.getfield 218, 3) := by decide +kernel
theorem dX12_fact_228 : decode cX12_fact 228 = .ok (.iconst 1, 1) := by decide +kernel
theorem dX12_fact_229 : decode cX12_fact 229 = .ok (.iadd, 1) := by decide +kernel
theorem dX12_fact_230 : decode cX12_fact 230 = .ok (.putfield 218, 3) := by decide +kernel
theorem dX12_fact_233 : decode cX12_fact 233 = .ok (.goto 73, 3) := by decide +kernel
theorem dX12_fact_236 : decode cX12_fact 236 = .ok (.aload_n 0, 1) := by decide +kernel
theorem dX12_fact_237 : decode cX12_fact 237 = .ok (.ldc_w 288, 3) := by decide +kernel
theorem dX12_fact_240 : decode cX12_fact 240 = .ok (.invokevirtual 268, 3) := by decide +kernel
theorem dX12_fact_243 : decode cX12_fact 243 = .ok (.ifCond .eq 26, 3) := by decide +kernel
theorem dX12_fact_246 : decode cX12_fact 246 = .ok (.aload_n 0, 1) := by decide +kernel
theorem dX12_fact_247 : decode cX12_fact 247 = .ok (.invokevirtual 285, 3) := by decide +kernel
theorem dX12_fact_250 : decode cX12_fact 250 = .ok (.aload_n 0, 1) := by decide +kernel
theorem dX12_fact_251 : decode cX12_fact 251 = .ok (.iconst 2, 1) := by decide +kernel
theorem dX12_fact_252 : decode cX12_fact 252 = .ok (.iconst 0, 1) := by decide +kernel
theorem dX12_fact_253 : decode cX12_fact 253 = .ok (.invokevirtual 263, 3) := by decide +kernel
theorem dX12_fact_256 : decode cX12_fact 256 = .ok (.aload_n 0, 1) := by decide +kernel
theorem dX12_fact_257 : decode cX12_fact 257 = .ok (.dup, 1) := by decide +kernel
theorem dX12_fact_258 : decode cX12_fact 258 = .ok (.getfield 218, 3) := by decide +kernel
theorem dX12_fact_261 : decode cX12_fact 261 = .ok (.iconst 2, 1) := by decide +kernel
theorem dX12_fact_262 : decode cX12_fact 262 = .ok (.iadd, 1) := by decide +kernel
theorem dX12_fact_263 : decode cX12_fact 263 = .ok (.putfield 218, 3) := by decide +kernel
theorem dX12_fact_266 : decode cX12_fact 266 = .ok (.goto 40, 3) := by decide +kernel
theorem dX12_fact_269 : decode cX12_fact 269 = .ok (.aload_n 0, 1) := by decide +kernel
theorem dX12_fact_270 : decode cX12_fact 270 = .ok (.ldc_w 290, 3) := by decide +kernel
theorem dX12_fact_273 : decode cX12_fact 273 = .ok (.invokevirtual 268, 3) := by decide +kernel
theorem dX12_fact_276 : decode cX12_fact 276 = .ok (.ifCond .eq 21, 3) := by decide +kernel
theorem dX12_fact_279 : decode cX12_fact 279 = .ok (.aload_n 0, 1) := by decide +kernel
theorem dX12_fact_280 : decode cX12_fact 280 = .ok (.invokevirtual 285, 3) := by decide +kernel
theorem dX12_fact_283 : decode cX12_fact 283 = .ok (.aload_n 0, 1) := by decide +kernel
theorem dX12_fact_284 : decode cX12_fact 284 = .ok (.getfield 215, 3) := by decide +kernel
theorem dX12_fact_287 : decode cX12_fact 287 = .ok (.ifCond .ne 19, 3) := by decide +kernel
theorem dX12_fact_290 : decode cX12_fact 290 = .ok (.aload_n 0, 1) := by decide +kernel
theorem dX12_fact_291 : decode cX12_fact 291 = .ok (.invokevirtual 292, 3) := by decide +kernel
theorem dX12_fact_294 : decode cX12_fact 294 = .ok (.goto 12, 3) := by decide +kernel
theorem dX12_fact_297 : decode cX12_fact 297 = .ok (.aload_n 0, 1) := by decide +kernel
theorem dX12_fact_298 : decode cX12_fact 298 = .ok (.iconst 0, 1) := by decide +kernel
theorem dX12_fact_299 : decode cX12_fact 299 = .ok (.aload_n 0, 1) := by decide +kernel
theorem dX12_fact_300 : decode cX12_fact 300 = .ok (.getfield 218, 3) := by decide +kernel
theorem dX12_fact_303 : decode cX12_fact 303 = .ok (.invokevirtual 253, 3) := by decide +kernel
theorem dX12_fact_306 : decode cX12_fact 306 = .ok (.iconst 1, 1) := by decide +kernel
theorem dX12_fact_307 : decode cX12_fact 307 = .ok (.ireturn, 1) := by decide +kernel
theorem dX12_closes_0 : decode cX12_closes 0 = .ok (.aload_n 0, 1) := by decide +kernel
theorem dX12_closes_1 : decode cX12_closes 1 = .ok (.getfield 247, 3) := by decide +kernel
theorem dX12_closes_4 : decode cX12_closes 4 = .ok (.ifCond .le 122, 3) := by decide +kernel
theorem dX12_closes_7 : decode cX12_closes 7 = .ok (.aload_n 0, 1) := by decide +kernel
theorem dX12_closes_8 : decode cX12_closes 8 = .ok (.getfield 107, 3) := by decide +kernel
theorem dX12_closes_11 : decode cX12_closes 11 = .ok (.aload_n 0, 1) := by decide +kernel
theorem dX12_closes_12 : decode cX12_closes 12 = .ok (.getfield 247, 3) := by decide +kernel
theorem dX12_closes_15 : decode cX12_closes 15 = .ok (.iconst 1, 1) := by decide +kernel
theorem dX12_closes_16 : decode cX12_closes 16 = .ok (.isub, 1) := by decide +kernel
theorem dX12_closes_17 : decode cX12_closes 17 = .ok (.iaload, 1) := by decide +kernel
theorem dX12_closes_18 : decode cX12_closes 18 = .ok (.iconst 3, 1) := by decide +kernel
theorem dX12_closes_19 : decode cX12_closes 19 = .ok (.if_icmp .eq 18, 3) := by decide +kernel
theorem dX12_closes_22 : decode cX12_closes 22 = .ok (.aload_n 0, 1) := by decide +kernel
theorem dX12_closes_23 : decode cX12_closes 23 = .ok (.getfield 107, 3) := by decide +kernel
theorem dX12_closes_26 : decode cX12_closes 26 = .ok (.aload_n 0, 1) := by decide +kernel
theorem dX12_closes_27 : decode cX12_closes 27 = .ok (.getfield 247, 3) := by decide +kernel
theorem dX12_closes_30 : decode cX12_closes 30 = .ok (.iconst 1, 1) := by decide +kernel
theorem dX12_closes_31 : decode cX12_closes 31 = .ok (.isub, 1) := by decide +kernel
theorem dX12_closes_32 : decode cX12_closes 32 = .ok (.iaload, 1) := by decide +kernel
theorem dX12_closes_33 : decode cX12_closes 33 = .ok (.iconst 4, 1) := by decide +kernel
theorem dX12_closes_34 : decode cX12_closes 34 = .ok (.if_icmp .ne 92, 3) := by decide +kernel
theorem dX12_closes_37 : decode cX12_closes 37 = .ok (.aload_n 0, 1) := by decide +kernel
theorem dX12_closes_38 : decode cX12_closes 38 = .ok (.dup, 1) := by decide +kernel
theorem dX12_closes_39 : decode cX12_closes 39 = .ok (.getfield 247, 3) := by decide +kernel
theorem dX12_closes_42 : decode cX12_closes 42 = .ok (.iconst 1, 1) := by decide +kernel
theorem dX12_closes_43 : decode cX12_closes 43 = .ok (.isub, 1) := by decide +kernel
theorem dX12_closes_44 : decode cX12_closes 44 = .ok (.putfield 247, 3) := by decide +kernel
theorem dX12_closes_47 : decode cX12_closes 47 = .ok (.aload_n 0, 1) := by decide +kernel
theorem dX12_closes_48 : decode cX12_closes 48 = .ok (.aload_n 0, 1) := by decide +kernel
theorem dX12_closes_49 : decode cX12_closes 49 = .ok (.getfield 107, 3) := by decide +kernel
theorem dX12_closes_52 : decode cX12_closes 52 = .ok (.aload_n 0, 1) := by decide +kernel
theorem dX12_closes_53 : decode cX12_closes 53 = .ok (.getfield 247, 3) := by decide +kernel
theorem dX12_closes_56 : decode cX12_closes 56 = .ok (.iaload, 1) := by decide +kernel
theorem dX12_closes_57 : decode cX12_closes 57 = .ok (.aload_n 0, 1) := by decide +kernel
theorem dX12_closes_58 : decode cX12_closes 58 = .ok (.getfield 110, 3) := by decide +kernel
theorem dX12_closes_61 : decode cX12_closes 61 = .ok (.aload_n 0, 1) := by decide +kernel
theorem dX12_closes_62 : decode cX12_closes 62 = .ok (.getfield 247, 3) := by decide +kernel
theorem dX12_closes_65 : decode cX12_closes 65 = .ok (.iaload, 1) := by decide +kernel
theorem dX12_closes_66 : decode cX12_closes 66 = .ok (.invokevirtual 263, 3) := by decide +kernel
theorem dX12_closes_69 : decode cX12_closes 69 = .ok (.aload_n 0, 1) := by decide +kernel
theorem dX12_closes_70 : decode cX12_closes 70 = .ok (.dup, 1) := by decide +kernel
theorem dX12_closes_71 : decode cX12_closes 71 = .ok (.getfield 272, 3) := by decide +kernel
theorem dX12_closes_74 : decode cX12_closes 74 = .ok (.aload_n 0, 1) := by decide +kernel
theorem dX12_closes_75 : decode cX12_closes 75 = .ok (.getfield 107, 3) := by decide +kernel
theorem dX12_closes_78 : decode cX12_closes 78 = .ok (.aload_n 0, 1) := by decide +kernel
theorem dX12_closes_79 : decode cX12_closes 79 = .ok (.getfield 247, 3) := by decide +kernel
theorem dX12_closes_82 : decode cX12_closes 82 = .ok (.iaload, 1) := by decide +kernel
theorem dX12_closes_83 : decode cX12_closes 83 = .ok (.iconst 3, 1) := by decide +kernel
theorem dX12_closes_84 : decode cX12_closes 84 = .ok (.if_icmp .ne 7, 3) := by decide +kernel
theorem dX12_closes_87 : decode cX12_closes 87 = .ok (.iconst 1, 1) := by decide +kernel
theorem dX12_closes_88 : decode cX12_closes 88 = .ok (.goto 4, 3) := by decide +kernel
theorem dX12_closes_91 : decode cX12_closes 91 = .ok (.iconst 0, 1) := by decide +kernel
theorem dX12_closes_92 : decode cX12_closes 92 = .ok (.isub, 1) := by decide +kernel
theorem dX12_closes_93 : decode cX12_closes 93 = .ok (.putfield 272, 3) := by decide +kernel
theorem dX12_closes_96 : decode cX12_closes 96 = .ok (.aload_n 0, 1) := by decide +kernel
theorem dX12_closes_97 : decode cX12_closes 97 = .ok (.dup, 1) := by decide +kernel
theorem dX12_closes_98 : decode cX12_closes 98 = .ok (.getfield 280, 3) := by decide +kernel
theorem dX12_closes_101 : decode cX12_closes 101 = .ok (.aload_n 0, 1) := by decide +kernel
theorem dX12_closes_102 : decode cX12_closes 102 = .ok (.getfield 107, 3) := by decide +kernel
theorem dX12_closes_105 : decode cX12_closes 105 = .ok (.aload_n 0, 1) := by decide +kernel
theorem dX12_closes_106 : decode cX12_closes 106 = .ok (.getfield 247, 3) := by decide +kernel
theorem dX12_closes_109 : decode cX12_closes 109 = .ok (.iaload, 1) := by decide +kernel
theorem dX12_closes_110 : decode cX12_closes 110 = .ok (.iconst 4, 1) := by decide +kernel
theorem dX12_closes_111 : decode cX12_closes 111 = .ok (.if_icmp .ne 7, 3) := by decide +kernel
theorem dX12_closes_114 : decode cX12_closes 114 = .ok (.iconst 1, 1) := by decide +kernel
theorem dX12_closes_115 : decode cX12_closes 115 = .ok (.goto 4, 3) := by decide +kernel
theorem dX12_closes_118 : decode cX12_closes 118 = .ok (.iconst 0, 1) := by decide +kernel
theorem dX12_closes_119 : decode cX12_closes 119 = .ok (.isub, 1) := by decide +kernel
theorem dX12_closes_120 : decode cX12_closes 120 = .ok (.putfield 280, 3) := by decide +kernel
theorem dX12_closes_123 : decode cX12_closes 123 = .ok (.goto (-123), 3) := by decide +kernel
theorem dX12_closes_126 : decode cX12_closes 126 = .ok (.return_, 1) := by decide +kernel
theorem dX12_gives_0 : decode cX12_gives 0 = .ok (.aload_n 0, 1) := by decide +kernel
theorem dX12_gives_1 : decode cX12_gives 1 = .ok (.getfield 247, 3) := by decide +kernel
theorem dX12_gives_4 : decode cX12_gives 4 = .ok (.ifCond .le 61, 3) := by decide +kernel
theorem dX12_gives_7 : decode cX12_gives 7 = .ok (.aload_n 0, 1) := by decide +kernel
theorem dX12_gives_8 : decode cX12_gives 8 = .ok (.getfield 107, 3) := by decide +kernel
theorem dX12_gives_11 : decode cX12_gives 11 = .ok (.aload_n 0, 1) := by decide +kernel
theorem dX12_gives_12 : decode cX12_gives 12 = .ok (.getfield 247, 3) := by decide +kernel
theorem dX12_gives_15 : decode cX12_gives 15 = .ok (.iconst 1, 1) := by decide +kernel
theorem dX12_gives_16 : decode cX12_gives 16 = .ok (.isub, 1) := by decide +kernel
theorem dX12_gives_17 : decode cX12_gives 17 = .ok (.iaload, 1) := by decide +kernel
theorem dX12_gives_18 : decode cX12_gives 18 = .ok (.bipush 7, 2) := by decide +kernel
theorem dX12_gives_20 : decode cX12_gives 20 = .ok (.if_icmp .eq 45, 3) := by decide +kernel
theorem dX12_gives_23 : decode cX12_gives 23 = .ok (.aload_n 0, 1) := by decide +kernel
theorem dX12_gives_24 : decode cX12_gives 24 = .ok (.getfield 107, 3) := by decide +kernel
theorem dX12_gives_27 : decode cX12_gives 27 = .ok (.aload_n 0, 1) := by decide +kernel
theorem dX12_gives_28 : decode cX12_gives 28 = .ok (.getfield 247, 3) := by decide +kernel
theorem dX12_gives_31 : decode cX12_gives 31 = .ok (.iconst 1, 1) := by decide +kernel
theorem dX12_gives_32 : decode cX12_gives 32 = .ok (.isub, 1) := by decide +kernel
theorem dX12_gives_33 : decode cX12_gives 33 = .ok (.iaload, 1) := by decide +kernel
theorem dX12_gives_34 : decode cX12_gives 34 = .ok (.iload_n 1, 1) := by decide +kernel
theorem dX12_gives_35 : decode cX12_gives 35 = .ok (.if_icmp .gt 30, 3) := by decide +kernel
theorem dX12_gives_38 : decode cX12_gives 38 = .ok (.aload_n 0, 1) := by decide +kernel
theorem dX12_gives_39 : decode cX12_gives 39 = .ok (.dup, 1) := by decide +kernel
theorem dX12_gives_40 : decode cX12_gives 40 = .ok (.getfield 247, 3) := by decide +kernel
theorem dX12_gives_43 : decode cX12_gives 43 = .ok (.iconst 1, 1) := by decide +kernel
theorem dX12_gives_44 : decode cX12_gives 44 = .ok (.isub, 1) := by decide +kernel
theorem dX12_gives_45 : decode cX12_gives 45 = .ok (.putfield 247, 3) := by decide +kernel
theorem dX12_gives_48 : decode cX12_gives 48 = .ok (.aload_n 0, 1) := by decide +kernel
theorem dX12_gives_49 : decode cX12_gives 49 = .ok (.aload_n 0, 1) := by decide +kernel
theorem dX12_gives_50 : decode cX12_gives 50 = .ok (.getfield 107, 3) := by decide +kernel
theorem dX12_gives_53 : decode cX12_gives 53 = .ok (.aload_n 0, 1) := by decide +kernel
theorem dX12_gives_54 : decode cX12_gives 54 = .ok (.getfield 247, 3) := by decide +kernel
theorem dX12_gives_57 : decode cX12_gives 57 = .ok (.iaload, 1) := by decide +kernel
theorem dX12_gives_58 : decode cX12_gives 58 = .ok (.iconst 0, 1) := by decide +kernel
theorem dX12_gives_59 : decode cX12_gives 59 = .ok (.invokevirtual 263, 3) := by decide +kernel
theorem dX12_gives_62 : decode cX12_gives 62 = .ok (.goto (-62), 3) := by decide +kernel
theorem dX12_gives_65 : decode cX12_gives 65 = .ok (.return_, 1) := by decide +kernel
theorem dX12_follows_0 : decode cX12_follows 0 = .ok (.aload_n 0, 1) := by decide +kernel
theorem dX12_follows_1 : decode cX12_follows 1 = .ok (.invokevirtual 256, 3) := by decide +kernel
theorem dX12_follows_4 : decode cX12_follows 4 = .ok (.aload_n 0, 1) := by decide +kernel
theorem dX12_follows_5 : decode cX12_follows 5 = .ok (.getfield 215, 3) := by decide +kernel
theorem dX12_follows_8 : decode cX12_follows 8 = .ok (.ifCond .ne 94, 3) := by decide +kernel
theorem dX12_follows_11 : decode cX12_follows 11 = .ok (.aload_n 0, 1) := by decide +kernel
theorem dX12_follows_12 : decode cX12_follows 12 = .ok (.getfield 218, 3) := by decide +kernel
theorem dX12_follows_15 : decode cX12_follows 15 = .ok (.aload_n 0, 1) := by decide +kernel
theorem dX12_follows_16 : decode cX12_follows 16 = .ok (.getfield 209, 3) := by decide +kernel
theorem dX12_follows_19 : decode cX12_follows 19 = .ok (.if_icmp .ge 83, 3) := by decide +kernel
theorem dX12_follows_22 : decode cX12_follows 22 = .ok (.aload_n 0, 1) := by decide +kernel
theorem dX12_follows_23 : decode cX12_follows 23 = .ok (.getfield 94, 3) := by decide +kernel
theorem dX12_follows_26 : decode cX12_follows 26 = .ok (.aload_n 0, 1) := by decide +kernel
theorem dX12_follows_27 : decode cX12_follows 27 = .ok (.getfield 218, 3) := by decide +kernel
theorem dX12_follows_30 : decode cX12_follows 30 = .ok (.baload, 1) := by decide +kernel
theorem dX12_follows_31 : decode cX12_follows 31 = .ok (.bipush 93, 2) := by decide +kernel
theorem dX12_follows_33 : decode cX12_follows 33 = .ok (.if_icmp .ne 69, 3) := by decide +kernel
theorem dX12_follows_36 : decode cX12_follows 36 = .ok (.aload_n 0, 1) := by decide +kernel
theorem dX12_follows_37 : decode cX12_follows 37 = .ok (.bipush 6, 2) := by decide +kernel
theorem dX12_follows_39 : decode cX12_follows 39 = .ok (.invokevirtual 295, 3) := by decide +kernel
theorem dX12_follows_42 : decode cX12_follows 42 = .ok (.aload_n 0, 1) := by decide +kernel
theorem dX12_follows_43 : decode cX12_follows 43 = .ok (.getfield 247, 3) := by decide +kernel
theorem dX12_follows_46 : decode cX12_follows 46 = .ok (.ifCond .ne 15, 3) := by decide +kernel
theorem dX12_follows_49 : decode cX12_follows 49 = .ok (.aload_n 0, 1) := by decide +kernel
theorem dX12_follows_50 : decode cX12_follows 50 = .ok (.iconst 0, 1) := by decide +kernel
theorem dX12_follows_51 : decode cX12_follows 51 = .ok (.aload_n 0, 1) := by decide +kernel
theorem dX12_follows_52 : decode cX12_follows 52 = .ok (.getfield 218, 3) := by decide +kernel
theorem dX12_follows_55 : decode cX12_follows 55 = .ok (.invokevirtual 253, 3) := by decide +kernel
theorem dX12_follows_58 : decode cX12_follows 58 = .ok (.goto (-54), 3) := by decide +kernel
theorem dX12_follows_61 : decode cX12_follows 61 = .ok (.aload_n 0, 1) := by decide +kernel
theorem dX12_follows_62 : decode cX12_follows 62 = .ok (.dup, 1) := by decide +kernel
theorem dX12_follows_63 : decode cX12_follows 63 = .ok (.getfield 247, 3) := by decide +kernel
theorem dX12_follows_66 : decode cX12_follows 66 = .ok (.iconst 1, 1) := by decide +kernel
theorem dX12_follows_67 : decode cX12_follows 67 = .ok (.isub, 1) := by decide +kernel
theorem dX12_follows_68 : decode cX12_follows 68 = .ok (.putfield 247, 3) := by decide +kernel
theorem dX12_follows_71 : decode cX12_follows 71 = .ok (.aload_n 0, 1) := by decide +kernel
theorem dX12_follows_72 : decode cX12_follows 72 = .ok (.dup, 1) := by decide +kernel
theorem dX12_follows_73 : decode cX12_follows 73 = .ok (.getfield 272, 3) := by decide +kernel
theorem dX12_follows_76 : decode cX12_follows 76 = .ok (.iconst 1, 1) := by decide +kernel
theorem dX12_follows_77 : decode cX12_follows 77 = .ok (.isub, 1) := by decide +kernel
theorem dX12_follows_78 : decode cX12_follows 78 = .ok (.putfield 272, 3) := by decide +kernel
theorem dX12_follows_81 : decode cX12_follows 81 = .ok (.aload_n 0, 1) := by decide +kernel
theorem dX12_follows_82 : decode cX12_follows 82 = .ok (.dup, 1) := by decide +kernel
theorem dX12_follows_83 : decode cX12_follows 83 = .ok (.getfield 218, 3) := by decide +kernel
theorem dX12_follows_86 : decode cX12_follows 86 = .ok (.iconst 1, 1) := by decide +kernel
theorem dX12_follows_87 : decode cX12_follows 87 = .ok (.iadd, 1) := by decide +kernel
theorem dX12_follows_88 : decode cX12_follows 88 = .ok (.putfield 218, 3) := by decide +kernel
theorem dX12_follows_91 : decode cX12_follows 91 = .ok (.aload_n 0, 1) := by decide +kernel
theorem dX12_follows_92 : decode cX12_follows 92 = .ok (.invokevirtual 298, 3) := by decide +kernel
theorem dX12_follows_95 : decode cX12_follows 95 = .ok (.aload_n 0, 1) := by decide +kernel
theorem dX12_follows_96 : decode cX12_follows 96 = .ok (.invokevirtual 256, 3) := by decide +kernel
theorem dX12_follows_99 : decode cX12_follows 99 = .ok (.goto (-95), 3) := by decide +kernel
theorem dX12_follows_102 : decode cX12_follows 102 = .ok (.aload_n 0, 1) := by decide +kernel
theorem dX12_follows_103 : decode cX12_follows 103 = .ok (.getfield 215, 3) := by decide +kernel
theorem dX12_follows_106 : decode cX12_follows 106 = .ok (.ifCond .ne 14, 3) := by decide +kernel
theorem dX12_follows_109 : decode cX12_follows 109 = .ok (.aload_n 0, 1) := by decide +kernel
theorem dX12_follows_110 : decode cX12_follows 110 = .ok (.getfield 218, 3) := by decide +kernel
theorem dX12_follows_113 : decode cX12_follows 113 = .ok (.aload_n 0, 1) := by decide +kernel
theorem dX12_follows_114 : decode cX12_follows 114 = .ok (.getfield 209, 3) := by decide +kernel
theorem dX12_follows_117 : decode cX12_follows 117 = .ok (.if_icmp .ne 5, 3) := by decide +kernel
theorem dX12_follows_120 : decode cX12_follows 120 = .ok (.iconst 0, 1) := by decide +kernel
theorem dX12_follows_121 : decode cX12_follows 121 = .ok (.ireturn, 1) := by decide +kernel
theorem dX12_follows_122 : decode cX12_follows 122 = .ok (.aload_n 0, 1) := by decide +kernel
theorem dX12_follows_123 : decode cX12_follows 123 = .ok (.ldc_w 301, 3) := by decide +kernel
theorem dX12_follows_126 : decode cX12_follows 126 = .ok (.invokevirtual 268, 3) := by decide +kernel
theorem dX12_follows_129 : decode cX12_follows 129 = .ok (.istore_n 1, 1) := by decide +kernel
theorem dX12_follows_130 : decode cX12_follows 130 = .ok (.iload_n 1, 1) := by decide +kernel
theorem dX12_follows_131 : decode cX12_follows 131 = .ok (.ifCond .ne 24, 3) := by decide +kernel
theorem dX12_follows_134 : decode cX12_follows 134 = .ok (.aload_n 0, 1) := by decide +kernel
theorem dX12_follows_135 : decode cX12_follows 135 = .ok (.ldc_w 303, 3) := by decide +kernel
theorem dX12_follows_138 : decode cX12_follows 138 = .ok (.invokevirtual 268, 3) := by decide +kernel
theorem dX12_follows_141 : decode cX12_follows 141 = .ok (.ifCond .ne 14, 3) := by decide +kernel
theorem dX12_follows_144 : decode cX12_follows 144 = .ok (.aload_n 0, 1) := by decide +kernel
theorem dX12_follows_145 : decode cX12_follows 145 = .ok (.iconst 0, 1) := by decide +kernel
theorem dX12_follows_146 : decode cX12_follows 146 = .ok (.aload_n 0, 1) := by decide +kernel
theorem dX12_follows_147 : decode cX12_follows 147 = .ok (.getfield 218, 3) := by decide +kernel
theorem dX12_follows_150 : decode cX12_follows 150 = .ok (.invokevirtual 253, 3) := by decide +kernel
theorem dX12_follows_153 : decode cX12_follows 153 = .ok (.iconst 0, 1) := by decide +kernel
theorem dX12_follows_154 : decode cX12_follows 154 = .ok (.ireturn, 1) := by decide +kernel
theorem dX12_follows_155 : decode cX12_follows 155 = .ok (.aload_n 0, 1) := by decide +kernel
theorem dX12_follows_156 : decode cX12_follows 156 = .ok (.iload_n 1, 1) := by decide +kernel
theorem dX12_follows_157 : decode cX12_follows 157 = .ok (.ifCond .eq 7, 3) := by decide +kernel
theorem dX12_follows_160 : decode cX12_follows 160 = .ok (.iconst 5, 1) := by decide +kernel
theorem dX12_follows_161 : decode cX12_follows 161 = .ok (.goto 5, 3) := by decide +kernel
theorem dX12_follows_164 : decode cX12_follows 164 = .ok (.bipush 6, 2) := by decide +kernel
theorem dX12_follows_166 : decode cX12_follows 166 = .ok (.invokevirtual 295, 3) := by decide +kernel
theorem dX12_follows_169 : decode cX12_follows 169 = .ok (.aload_n 0, 1) := by decide +kernel
theorem dX12_follows_170 : decode cX12_follows 170 = .ok (.iload_n 1, 1) := by decide +kernel
theorem dX12_follows_171 : decode cX12_follows 171 = .ok (.ifCond .eq 7, 3) := by decide +kernel
theorem dX12_follows_174 : decode cX12_follows 174 = .ok (.iconst 5, 1) := by decide +kernel
theorem dX12_follows_175 : decode cX12_follows 175 = .ok (.goto 5, 3) := by decide +kernel
theorem dX12_follows_178 : decode cX12_follows 178 = .ok (.bipush 6, 2) := by decide +kernel
theorem dX12_follows_180 : decode cX12_follows 180 = .ok (.iconst 0, 1) := by decide +kernel
theorem dX12_follows_181 : decode cX12_follows 181 = .ok (.invokevirtual 275, 3) := by decide +kernel
theorem dX12_follows_184 : decode cX12_follows 184 = .ok (.aload_n 0, 1) := by decide +kernel
theorem dX12_follows_185 : decode cX12_follows 185 = .ok (.dup, 1) := by decide +kernel
theorem dX12_follows_186 : decode cX12_follows 186 = .ok (.getfield 218, 3) := by decide +kernel
theorem dX12_follows_189 : decode cX12_follows 189 = .ok (.iload_n 1, 1) := by decide +kernel
theorem dX12_follows_190 : decode cX12_follows 190 = .ok (.ifCond .eq 7, 3) := by decide +kernel
theorem dX12_follows_193 : decode cX12_follows 193 = .ok (.iconst 3, 1) := by decide +kernel
theorem dX12_follows_194 : decode cX12_follows 194 = .ok (.goto 4, 3) := by decide +kernel
theorem dX12_follows_197 : decode cX12_follows 197 = .ok (.iconst 2, 1) := by decide +kernel
theorem dX12_follows_198 : decode cX12_follows 198 = .ok (.iadd, 1) := by decide +kernel
theorem dX12_follows_199 : decode cX12_follows 199 = .ok (.putfield 218, 3) := by decide +kernel
theorem dX12_follows_202 : decode cX12_follows 202 = .ok (.iconst 1, 1) := by decide +kernel
theorem dX12_follows_203 : decode cX12_follows 203 = .ok (.ireturn, 1) := by decide +kernel
theorem dX12_heads_0 : decode cX12_heads 0 = .ok (.aload_n 0, 1) := by decide +kernel
theorem dX12_heads_1 : decode cX12_heads 1 = .ok (.getfield 116, 3) := by decide +kernel
theorem dX12_heads_4 : decode cX12_heads 4 = .ok (.aload_n 0, 1) := by decide +kernel
theorem dX12_heads_5 : decode cX12_heads 5 = .ok (.getfield 241, 3) := by decide +kernel
theorem dX12_heads_8 : decode cX12_heads 8 = .ok (.iconst 0, 1) := by decide +kernel
theorem dX12_heads_9 : decode cX12_heads 9 = .ok (.bastore, 1) := by decide +kernel
theorem dX12_heads_10 : decode cX12_heads 10 = .ok (.aload_n 0, 1) := by decide +kernel
theorem dX12_heads_11 : decode cX12_heads 11 = .ok (.getfield 120, 3) := by decide +kernel
theorem dX12_heads_14 : decode cX12_heads 14 = .ok (.aload_n 0, 1) := by decide +kernel
theorem dX12_heads_15 : decode cX12_heads 15 = .ok (.getfield 241, 3) := by decide +kernel
theorem dX12_heads_18 : decode cX12_heads 18 = .ok (.iconst 0, 1) := by decide +kernel
theorem dX12_heads_19 : decode cX12_heads 19 = .ok (.bastore, 1) := by decide +kernel
theorem dX12_heads_20 : decode cX12_heads 20 = .ok (.aload_n 0, 1) := by decide +kernel
theorem dX12_heads_21 : decode cX12_heads 21 = .ok (.invokevirtual 256, 3) := by decide +kernel
theorem dX12_heads_24 : decode cX12_heads 24 = .ok (.iconst 1, 1) := by decide +kernel
theorem dX12_heads_25 : decode cX12_heads 25 = .ok (.istore_n 1, 1) := by decide +kernel
theorem dX12_heads_26 : decode cX12_heads 26 = .ok (.iload_n 1, 1) := by decide +kernel
theorem dX12_heads_27 : decode cX12_heads 27 = .ok (.ifCond .eq 158, 3) := by decide +kernel
theorem dX12_heads_30 : decode cX12_heads 30 = .ok (.aload_n 0, 1) := by decide +kernel
theorem dX12_heads_31 : decode cX12_heads 31 = .ok (.ldc_w 305, 3) := by decide +kernel
theorem dX12_heads_34 : decode cX12_heads 34 = .ok (.invokevirtual 268, 3) := by decide +kernel
theorem dX12_heads_37 : decode cX12_heads 37 = .ok (.ifCond .eq 19, 3) := by decide +kernel
theorem dX12_heads_40 : decode cX12_heads 40 = .ok (.aload_n 0, 1) := by decide +kernel
theorem dX12_heads_41 : decode cX12_heads 41 = .ok (.getfield 116, 3) := by decide +kernel
theorem dX12_heads_44 : decode cX12_heads 44 = .ok (.aload_n 0, 1) := by decide +kernel
theorem dX12_heads_45 : decode cX12_heads 45 = .ok (.getfield 241, 3) := by decide +kernel
theorem dX12_heads_48 : decode cX12_heads 48 = .ok (.baload, 1) := by decide +kernel
theorem dX12_heads_49 : decode cX12_heads 49 = .ok (.ifCond .ne 7, 3) := by decide +kernel
theorem dX12_heads_52 : decode cX12_heads 52 = .ok (.iconst 1, 1) := by decide +kernel
theorem dX12_heads_53 : decode cX12_heads 53 = .ok (.goto 4, 3) := by decide +kernel
theorem dX12_heads_56 : decode cX12_heads 56 = .ok (.iconst 0, 1) := by decide +kernel
theorem dX12_heads_57 : decode cX12_heads 57 = .ok (.istore_n 2, 1) := by decide +kernel
theorem dX12_heads_58 : decode cX12_heads 58 = .ok (.aload_n 0, 1) := by decide +kernel
theorem dX12_heads_59 : decode cX12_heads 59 = .ok (.ldc_w 307, 3) := by decide +kernel
theorem dX12_heads_62 : decode cX12_heads 62 = .ok (.invokevirtual 268, 3) := by decide +kernel
theorem dX12_heads_65 : decode cX12_heads 65 = .ok (.ifCond .eq 19, 3) := by decide +kernel
theorem dX12_heads_68 : decode cX12_heads 68 = .ok (.aload_n 0, 1) := by decide +kernel
theorem dX12_heads_69 : decode cX12_heads 69 = .ok (.getfield 120, 3) := by decide +kernel
theorem dX12_heads_72 : decode cX12_heads 72 = .ok (.aload_n 0, 1) := by decide +kernel
theorem dX12_heads_73 : decode cX12_heads 73 = .ok (.getfield 241, 3) := by decide +kernel
theorem dX12_heads_76 : decode cX12_heads 76 = .ok (.baload, 1) := by decide +kernel
theorem dX12_heads_77 : decode cX12_heads 77 = .ok (.ifCond .ne 7, 3) := by decide +kernel
theorem dX12_heads_80 : decode cX12_heads 80 = .ok (.iconst 1, 1) := by decide +kernel
theorem dX12_heads_81 : decode cX12_heads 81 = .ok (.goto 4, 3) := by decide +kernel
theorem dX12_heads_84 : decode cX12_heads 84 = .ok (.iconst 0, 1) := by decide +kernel
theorem dX12_heads_85 : decode cX12_heads 85 = .ok (.istore_n 3, 1) := by decide +kernel
theorem dX12_heads_86 : decode cX12_heads 86 = .ok (.aload_n 0, 1) := by decide +kernel
theorem dX12_heads_87 : decode cX12_heads 87 = .ok (.getfield 116, 3) := by decide +kernel
theorem dX12_heads_90 : decode cX12_heads 90 = .ok (.aload_n 0, 1) := by decide +kernel
theorem dX12_heads_91 : decode cX12_heads 91 = .ok (.getfield 241, 3) := by decide +kernel
theorem dX12_heads_94 : decode cX12_heads 94 = .ok (.aload_n 0, 1) := by decide +kernel
theorem dX12_heads_95 : decode cX12_heads 95 = .ok (.getfield 116, 3) := by decide +kernel
theorem dX12_heads_98 : decode cX12_heads 98 = .ok (.aload_n 0, 1) := by decide +kernel
theorem dX12_heads_99 : decode cX12_heads 99 = .ok (.getfield 241, 3) := by decide +kernel
theorem dX12_heads_102 : decode cX12_heads 102 = .ok (.baload, 1) := by decide +kernel
theorem dX12_heads_103 : decode cX12_heads 103 = .ok (.ifCond .ne 7, 3) := by decide +kernel
theorem dX12_heads_106 : decode cX12_heads 106 = .ok (.iload_n 2, 1) := by decide +kernel
theorem dX12_heads_107 : decode cX12_heads 107 = .ok (.ifCond .eq 7, 3) := by decide +kernel
theorem dX12_heads_110 : decode cX12_heads 110 = .ok (.iconst 1, 1) := by decide +kernel
theorem dX12_heads_111 : decode cX12_heads 111 = .ok (.goto 4, 3) := by decide +kernel
theorem dX12_heads_114 : decode cX12_heads 114 = .ok (.iconst 0, 1) := by decide +kernel
theorem dX12_heads_115 : decode cX12_heads 115 = .ok (.bastore, 1) := by decide +kernel
theorem dX12_heads_116 : decode cX12_heads 116 = .ok (.aload_n 0, 1) := by decide +kernel
theorem dX12_heads_117 : decode cX12_heads 117 = .ok (.getfield 120, 3) := by decide +kernel
theorem dX12_heads_120 : decode cX12_heads 120 = .ok (.aload_n 0, 1) := by decide +kernel
theorem dX12_heads_121 : decode cX12_heads 121 = .ok (.getfield 241, 3) := by decide +kernel
theorem dX12_heads_124 : decode cX12_heads 124 = .ok (.aload_n 0, 1) := by decide +kernel
theorem dX12_heads_125 : decode cX12_heads 125 = .ok (.getfield 120, 3) := by decide +kernel
theorem dX12_heads_128 : decode cX12_heads 128 = .ok (.aload_n 0, 1) := by decide +kernel
theorem dX12_heads_129 : decode cX12_heads 129 = .ok (.getfield 241, 3) := by decide +kernel
theorem dX12_heads_132 : decode cX12_heads 132 = .ok (.baload, 1) := by decide +kernel
theorem dX12_heads_133 : decode cX12_heads 133 = .ok (.ifCond .ne 7, 3) := by decide +kernel
theorem dX12_heads_136 : decode cX12_heads 136 = .ok (.iload_n 3, 1) := by decide +kernel
theorem dX12_heads_137 : decode cX12_heads 137 = .ok (.ifCond .eq 7, 3) := by decide +kernel
theorem dX12_heads_140 : decode cX12_heads 140 = .ok (.iconst 1, 1) := by decide +kernel
theorem dX12_heads_141 : decode cX12_heads 141 = .ok (.goto 4, 3) := by decide +kernel
theorem dX12_heads_144 : decode cX12_heads 144 = .ok (.iconst 0, 1) := by decide +kernel
theorem dX12_heads_145 : decode cX12_heads 145 = .ok (.bastore, 1) := by decide +kernel
theorem dX12_heads_146 : decode cX12_heads 146 = .ok (.iload_n 2, 1) := by decide +kernel
theorem dX12_heads_147 : decode cX12_heads 147 = .ok (.ifCond .ne 7, 3) := by decide +kernel
theorem dX12_heads_150 : decode cX12_heads 150 = .ok (.iload_n 3, 1) := by decide +kernel
theorem dX12_heads_151 : decode cX12_heads 151 = .ok (.ifCond .eq 7, 3) := by decide +kernel
theorem dX12_heads_154 : decode cX12_heads 154 = .ok (.iconst 1, 1) := by decide +kernel
theorem dX12_heads_155 : decode cX12_heads 155 = .ok (.goto 4, 3) := by decide +kernel
theorem dX12_heads_158 : decode cX12_heads 158 = .ok (.iconst 0, 1) := by decide +kernel
theorem dX12_heads_159 : decode cX12_heads 159 = .ok (.istore_n 1, 1) := by decide +kernel
theorem dX12_heads_160 : decode cX12_heads 160 = .ok (.aload_n 0, 1) := by decide +kernel
theorem dX12_heads_161 : decode cX12_heads 161 = .ok (.dup, 1) := by decide +kernel
theorem dX12_heads_162 : decode cX12_heads 162 = .ok (.getfield 218, 3) := by decide +kernel
theorem dX12_heads_165 : decode cX12_heads 165 = .ok (.iload_n 1, 1) := by decide +kernel
theorem dX12_heads_166 : decode cX12_heads 166 = .ok (.ifCond .eq 7, 3) := by decide +kernel
theorem dX12_heads_169 : decode cX12_heads 169 = .ok (.iconst 4, 1) := by decide +kernel
theorem dX12_heads_170 : decode cX12_heads 170 = .ok (.goto 4, 3) := by decide +kernel
theorem dX12_heads_173 : decode cX12_heads 173 = .ok (.iconst 0, 1) := by decide +kernel
theorem dX12_heads_174 : decode cX12_heads 174 = .ok (.iadd, 1) := by decide +kernel
theorem dX12_heads_175 : decode cX12_heads 175 = .ok (.putfield 218, 3) := by decide +kernel
theorem dX12_heads_178 : decode cX12_heads 178 = .ok (.aload_n 0, 1) := by decide +kernel
theorem dX12_heads_179 : decode cX12_heads 179 = .ok (.invokevirtual 256, 3) := by decide +kernel
theorem dX12_heads_182 : decode cX12_heads 182 = .ok (.goto (-156), 3) := by decide +kernel
theorem dX12_heads_185 : decode cX12_heads 185 = .ok (.return_, 1) := by decide +kernel
theorem dX12_cover_0 : decode cX12_cover 0 = .ok (.aload_n 0, 1) := by decide +kernel
theorem dX12_cover_1 : decode cX12_cover 1 = .ok (.getfield 309, 3) := by decide +kernel
theorem dX12_cover_4 : decode cX12_cover 4 = .ok (.bipush 8, 2) := by decide +kernel
theorem dX12_cover_6 : decode cX12_cover 6 = .ok (.if_icmp .ne 5, 3) := by decide +kernel
theorem dX12_cover_9 : decode cX12_cover 9 = .ok (.iconst (-1), 1) := by decide +kernel
theorem dX12_cover_10 : decode cX12_cover 10 = .ok (.ireturn, 1) := by decide +kernel
theorem dX12_cover_11 : decode cX12_cover 11 = .ok (.aload_n 0, 1) := by decide +kernel
theorem dX12_cover_12 : decode cX12_cover 12 = .ok (.aload_n 0, 1) := by decide +kernel
theorem dX12_cover_13 : decode cX12_cover 13 = .ok (.getfield 309, 3) := by decide +kernel
theorem dX12_cover_16 : decode cX12_cover 16 = .ok (.putfield 241, 3) := by decide +kernel
theorem dX12_cover_19 : decode cX12_cover 19 = .ok (.aload_n 0, 1) := by decide +kernel
theorem dX12_cover_20 : decode cX12_cover 20 = .ok (.iconst 0, 1) := by decide +kernel
theorem dX12_cover_21 : decode cX12_cover 21 = .ok (.putfield 218, 3) := by decide +kernel
theorem dX12_cover_24 : decode cX12_cover 24 = .ok (.aload_n 0, 1) := by decide +kernel
theorem dX12_cover_25 : decode cX12_cover 25 = .ok (.iconst 0, 1) := by decide +kernel
theorem dX12_cover_26 : decode cX12_cover 26 = .ok (.putfield 215, 3) := by decide +kernel
theorem dX12_cover_29 : decode cX12_cover 29 = .ok (.aload_n 0, 1) := by decide +kernel
theorem dX12_cover_30 : decode cX12_cover 30 = .ok (.iconst 0, 1) := by decide +kernel
theorem dX12_cover_31 : decode cX12_cover 31 = .ok (.putfield 244, 3) := by decide +kernel
theorem dX12_cover_34 : decode cX12_cover 34 = .ok (.aload_n 0, 1) := by decide +kernel
theorem dX12_cover_35 : decode cX12_cover 35 = .ok (.iconst 0, 1) := by decide +kernel
theorem dX12_cover_36 : decode cX12_cover 36 = .ok (.putfield 272, 3) := by decide +kernel
theorem dX12_cover_39 : decode cX12_cover 39 = .ok (.aload_n 0, 1) := by decide +kernel
theorem dX12_cover_40 : decode cX12_cover 40 = .ok (.iconst 0, 1) := by decide +kernel
theorem dX12_cover_41 : decode cX12_cover 41 = .ok (.putfield 280, 3) := by decide +kernel
theorem dX12_cover_44 : decode cX12_cover 44 = .ok (.aload_n 0, 1) := by decide +kernel
theorem dX12_cover_45 : decode cX12_cover 45 = .ok (.iconst 0, 1) := by decide +kernel
theorem dX12_cover_46 : decode cX12_cover 46 = .ok (.putfield 250, 3) := by decide +kernel
theorem dX12_cover_49 : decode cX12_cover 49 = .ok (.aload_n 0, 1) := by decide +kernel
theorem dX12_cover_50 : decode cX12_cover 50 = .ok (.iconst 0, 1) := by decide +kernel
theorem dX12_cover_51 : decode cX12_cover 51 = .ok (.putfield 247, 3) := by decide +kernel
theorem dX12_cover_54 : decode cX12_cover 54 = .ok (.aload_n 0, 1) := by decide +kernel
theorem dX12_cover_55 : decode cX12_cover 55 = .ok (.invokevirtual 312, 3) := by decide +kernel
theorem dX12_cover_58 : decode cX12_cover 58 = .ok (.iconst 1, 1) := by decide +kernel
theorem dX12_cover_59 : decode cX12_cover 59 = .ok (.istore_n 1, 1) := by decide +kernel
theorem dX12_cover_60 : decode cX12_cover 60 = .ok (.iload_n 1, 1) := by decide +kernel
theorem dX12_cover_61 : decode cX12_cover 61 = .ok (.ifCond .eq 50, 3) := by decide +kernel
theorem dX12_cover_64 : decode cX12_cover 64 = .ok (.aload_n 0, 1) := by decide +kernel
theorem dX12_cover_65 : decode cX12_cover 65 = .ok (.getfield 215, 3) := by decide +kernel
theorem dX12_cover_68 : decode cX12_cover 68 = .ok (.ifCond .ne 43, 3) := by decide +kernel
theorem dX12_cover_71 : decode cX12_cover 71 = .ok (.aload_n 0, 1) := by decide +kernel
theorem dX12_cover_72 : decode cX12_cover 72 = .ok (.getfield 215, 3) := by decide +kernel
theorem dX12_cover_75 : decode cX12_cover 75 = .ok (.ifCond .ne 17, 3) := by decide +kernel
theorem dX12_cover_78 : decode cX12_cover 78 = .ok (.aload_n 0, 1) := by decide +kernel
theorem dX12_cover_79 : decode cX12_cover 79 = .ok (.invokevirtual 315, 3) := by decide +kernel
theorem dX12_cover_82 : decode cX12_cover 82 = .ok (.ifCond .ne 10, 3) := by decide +kernel
theorem dX12_cover_85 : decode cX12_cover 85 = .ok (.aload_n 0, 1) := by decide +kernel
theorem dX12_cover_86 : decode cX12_cover 86 = .ok (.invokevirtual 256, 3) := by decide +kernel
theorem dX12_cover_89 : decode cX12_cover 89 = .ok (.goto (-18), 3) := by decide +kernel
theorem dX12_cover_92 : decode cX12_cover 92 = .ok (.aload_n 0, 1) := by decide +kernel
theorem dX12_cover_93 : decode cX12_cover 93 = .ok (.getfield 215, 3) := by decide +kernel
theorem dX12_cover_96 : decode cX12_cover 96 = .ok (.ifCond .ne (-36), 3) := by decide +kernel
theorem dX12_cover_99 : decode cX12_cover 99 = .ok (.aload_n 0, 1) := by decide +kernel
theorem dX12_cover_100 : decode cX12_cover 100 = .ok (.invokevirtual 298, 3) := by decide +kernel
theorem dX12_cover_103 : decode cX12_cover 103 = .ok (.aload_n 0, 1) := by decide +kernel
theorem dX12_cover_104 : decode cX12_cover 104 = .ok (.invokevirtual 319, 3) := by decide +kernel
theorem dX12_cover_107 : decode cX12_cover 107 = .ok (.istore_n 1, 1) := by decide +kernel
theorem dX12_cover_108 : decode cX12_cover 108 = .ok (.goto (-48), 3) := by decide +kernel
theorem dX12_cover_111 : decode cX12_cover 111 = .ok (.aload_n 0, 1) := by decide +kernel
theorem dX12_cover_112 : decode cX12_cover 112 = .ok (.bipush 6, 2) := by decide +kernel
theorem dX12_cover_114 : decode cX12_cover 114 = .ok (.invokevirtual 295, 3) := by decide +kernel
theorem dX12_cover_117 : decode cX12_cover 117 = .ok (.aload_n 0, 1) := by decide +kernel
theorem dX12_cover_118 : decode cX12_cover 118 = .ok (.getfield 215, 3) := by decide +kernel
theorem dX12_cover_121 : decode cX12_cover 121 = .ok (.ifCond .ne 19, 3) := by decide +kernel
theorem dX12_cover_124 : decode cX12_cover 124 = .ok (.aload_n 0, 1) := by decide +kernel
theorem dX12_cover_125 : decode cX12_cover 125 = .ok (.getfield 247, 3) := by decide +kernel
theorem dX12_cover_128 : decode cX12_cover 128 = .ok (.ifCond .le 12, 3) := by decide +kernel
theorem dX12_cover_131 : decode cX12_cover 131 = .ok (.aload_n 0, 1) := by decide +kernel
theorem dX12_cover_132 : decode cX12_cover 132 = .ok (.iconst 0, 1) := by decide +kernel
theorem dX12_cover_133 : decode cX12_cover 133 = .ok (.aload_n 0, 1) := by decide +kernel
theorem dX12_cover_134 : decode cX12_cover 134 = .ok (.getfield 209, 3) := by decide +kernel
theorem dX12_cover_137 : decode cX12_cover 137 = .ok (.invokevirtual 253, 3) := by decide +kernel
theorem dX12_cover_140 : decode cX12_cover 140 = .ok (.aload_n 0, 1) := by decide +kernel
theorem dX12_cover_141 : decode cX12_cover 141 = .ok (.iconst 0, 1) := by decide +kernel
theorem dX12_cover_142 : decode cX12_cover 142 = .ok (.putfield 209, 3) := by decide +kernel
theorem dX12_cover_145 : decode cX12_cover 145 = .ok (.aload_n 0, 1) := by decide +kernel
theorem dX12_cover_146 : decode cX12_cover 146 = .ok (.getfield 104, 3) := by decide +kernel
theorem dX12_cover_149 : decode cX12_cover 149 = .ok (.aload_n 0, 1) := by decide +kernel
theorem dX12_cover_150 : decode cX12_cover 150 = .ok (.getfield 241, 3) := by decide +kernel
theorem dX12_cover_153 : decode cX12_cover 153 = .ok (.aload_n 0, 1) := by decide +kernel
theorem dX12_cover_154 : decode cX12_cover 154 = .ok (.getfield 244, 3) := by decide +kernel
theorem dX12_cover_157 : decode cX12_cover 157 = .ok (.iastore, 1) := by decide +kernel
theorem dX12_cover_158 : decode cX12_cover 158 = .ok (.aload_n 0, 1) := by decide +kernel
theorem dX12_cover_159 : decode cX12_cover 159 = .ok (.dup, 1) := by decide +kernel
theorem dX12_cover_160 : decode cX12_cover 160 = .ok (.getfield 309, 3) := by decide +kernel
theorem dX12_cover_163 : decode cX12_cover 163 = .ok (.aload_n 0, 1) := by decide +kernel
theorem dX12_cover_164 : decode cX12_cover 164 = .ok (.getfield 215, 3) := by decide +kernel
theorem dX12_cover_167 : decode cX12_cover 167 = .ok (.ifCond .ne 7, 3) := by decide +kernel
theorem dX12_cover_170 : decode cX12_cover 170 = .ok (.iconst 1, 1) := by decide +kernel
theorem dX12_cover_171 : decode cX12_cover 171 = .ok (.goto 4, 3) := by decide +kernel
theorem dX12_cover_174 : decode cX12_cover 174 = .ok (.iconst 0, 1) := by decide +kernel
theorem dX12_cover_175 : decode cX12_cover 175 = .ok (.iadd, 1) := by decide +kernel
theorem dX12_cover_176 : decode cX12_cover 176 = .ok (.putfield 309, 3) := by decide +kernel
theorem dX12_cover_179 : decode cX12_cover 179 = .ok (.aload_n 0, 1) := by decide +kernel
theorem dX12_cover_180 : decode cX12_cover 180 = .ok (.getfield 215, 3) := by decide +kernel
theorem dX12_cover_183 : decode cX12_cover 183 = .ok (.ifCond .le 13, 3) := by decide +kernel
theorem dX12_cover_186 : decode cX12_cover 186 = .ok (.bipush (-2), 2) := by decide +kernel
theorem dX12_cover_188 : decode cX12_cover 188 = .ok (.aload_n 0, 1) := by decide +kernel
theorem dX12_cover_189 : decode cX12_cover 189 = .ok (.getfield 215, 3) := by decide +kernel
theorem dX12_cover_192 : decode cX12_cover 192 = .ok (.isub, 1) := by decide +kernel
theorem dX12_cover_193 : decode cX12_cover 193 = .ok (.goto 9, 3) := by decide +kernel
theorem dX12_cover_196 : decode cX12_cover 196 = .ok (.aload_n 0, 1) := by decide +kernel
theorem dX12_cover_197 : decode cX12_cover 197 = .ok (.getfield 309, 3) := by decide +kernel
theorem dX12_cover_200 : decode cX12_cover 200 = .ok (.iconst 1, 1) := by decide +kernel
theorem dX12_cover_201 : decode cX12_cover 201 = .ok (.isub, 1) := by decide +kernel
theorem dX12_cover_202 : decode cX12_cover 202 = .ok (.ireturn, 1) := by decide +kernel
theorem dX12_isCover_0 : decode cX12_isCover 0 = .ok (.iload_n 1, 1) := by decide +kernel
theorem dX12_isCover_1 : decode cX12_isCover 1 = .ok (.i2l, 1) := by decide +kernel
theorem dX12_isCover_2 : decode cX12_isCover 2 = .ok (.lconst 0, 1) := by decide +kernel
theorem dX12_isCover_3 : decode cX12_isCover 3 = .ok (.aload_n 0, 1) := by decide +kernel
theorem dX12_isCover_4 : decode cX12_isCover 4 = .ok (.getfield 309, 3) := by decide +kernel
theorem dX12_isCover_7 : decode cX12_isCover 7 = .ok (.iconst 1, 1) := by decide +kernel
theorem dX12_isCover_8 : decode cX12_isCover 8 = .ok (.isub, 1) := by decide +kernel
theorem dX12_isCover_9 : decode cX12_isCover 9 = .ok (.i2l, 1) := by decide +kernel
theorem dX12_isCover_10 : decode cX12_isCover 10 = .ok (.invokestatic 154, 3) := by decide +kernel
theorem dX12_isCover_13 : decode cX12_isCover 13 = .ok (.ireturn, 1) := by decide +kernel
theorem dX12_markedSet_0 : decode cX12_markedSet 0 = .ok (.iconst 0, 1) := by decide +kernel
theorem dX12_markedSet_1 : decode cX12_markedSet 1 = .ok (.istore_n 3, 1) := by decide +kernel
theorem dX12_markedSet_2 : decode cX12_markedSet 2 = .ok (.iconst 0, 1) := by decide +kernel
theorem dX12_markedSet_3 : decode cX12_markedSet 3 = .ok (.istore 4, 2) := by decide +kernel
theorem dX12_markedSet_5 : decode cX12_markedSet 5 = .ok (.iload 4, 2) := by decide +kernel
theorem dX12_markedSet_7 : decode cX12_markedSet 7 = .ok (.aload_n 0, 1) := by decide +kernel
theorem dX12_markedSet_8 : decode cX12_markedSet 8 = .ok (.getfield 7, 3) := by decide +kernel
theorem dX12_markedSet_11 : decode cX12_markedSet 11 = .ok (.iconst 0, 1) := by decide +kernel
theorem dX12_markedSet_12 : decode cX12_markedSet 12 = .ok (.iaload, 1) := by decide +kernel
theorem dX12_markedSet_13 : decode cX12_markedSet 13 = .ok (.if_icmp .ge 39, 3) := by decide +kernel
theorem dX12_markedSet_16 : decode cX12_markedSet 16 = .ok (.iload_n 3, 1) := by decide +kernel
theorem dX12_markedSet_17 : decode cX12_markedSet 17 = .ok (.aload_n 0, 1) := by decide +kernel
theorem dX12_markedSet_18 : decode cX12_markedSet 18 = .ok (.getfield 79, 3) := by decide +kernel
theorem dX12_markedSet_21 : decode cX12_markedSet 21 = .ok (.bipush 12, 2) := by decide +kernel
theorem dX12_markedSet_23 : decode cX12_markedSet 23 = .ok (.iload_n 1, 1) := by decide +kernel
theorem dX12_markedSet_24 : decode cX12_markedSet 24 = .ok (.imul, 1) := by decide +kernel
theorem dX12_markedSet_25 : decode cX12_markedSet 25 = .ok (.iload 4, 2) := by decide +kernel
theorem dX12_markedSet_27 : decode cX12_markedSet 27 = .ok (.iadd, 1) := by decide +kernel
theorem dX12_markedSet_28 : decode cX12_markedSet 28 = .ok (.iaload, 1) := by decide +kernel
theorem dX12_markedSet_29 : decode cX12_markedSet 29 = .ok (.iload_n 2, 1) := by decide +kernel
theorem dX12_markedSet_30 : decode cX12_markedSet 30 = .ok (.invokestatic 148, 3) := by decide +kernel
theorem dX12_markedSet_33 : decode cX12_markedSet 33 = .ok (.ifCond .eq 10, 3) := by decide +kernel
theorem dX12_markedSet_36 : decode cX12_markedSet 36 = .ok (.iconst 1, 1) := by decide +kernel
theorem dX12_markedSet_37 : decode cX12_markedSet 37 = .ok (.iload 4, 2) := by decide +kernel
theorem dX12_markedSet_39 : decode cX12_markedSet 39 = .ok (.ishl, 1) := by decide +kernel
theorem dX12_markedSet_40 : decode cX12_markedSet 40 = .ok (.goto 4, 3) := by decide +kernel
theorem dX12_markedSet_43 : decode cX12_markedSet 43 = .ok (.iconst 0, 1) := by decide +kernel
theorem dX12_markedSet_44 : decode cX12_markedSet 44 = .ok (.ior, 1) := by decide +kernel
theorem dX12_markedSet_45 : decode cX12_markedSet 45 = .ok (.istore_n 3, 1) := by decide +kernel
theorem dX12_markedSet_46 : decode cX12_markedSet 46 = .ok (.iinc 4 1, 3) := by decide +kernel
theorem dX12_markedSet_49 : decode cX12_markedSet 49 = .ok (.goto (-44), 3) := by decide +kernel
theorem dX12_markedSet_52 : decode cX12_markedSet 52 = .ok (.iload_n 3, 1) := by decide +kernel
theorem dX12_markedSet_53 : decode cX12_markedSet 53 = .ok (.ireturn, 1) := by decide +kernel
theorem dX12_tiedSet_0 : decode cX12_tiedSet 0 = .ok (.iconst 0, 1) := by decide +kernel
theorem dX12_tiedSet_1 : decode cX12_tiedSet 1 = .ok (.istore 4, 2) := by decide +kernel
theorem dX12_tiedSet_3 : decode cX12_tiedSet 3 = .ok (.iconst 0, 1) := by decide +kernel
theorem dX12_tiedSet_4 : decode cX12_tiedSet 4 = .ok (.istore 5, 2) := by decide +kernel
theorem dX12_tiedSet_6 : decode cX12_tiedSet 6 = .ok (.iload 5, 2) := by decide +kernel
theorem dX12_tiedSet_8 : decode cX12_tiedSet 8 = .ok (.aload_n 0, 1) := by decide +kernel
theorem dX12_tiedSet_9 : decode cX12_tiedSet 9 = .ok (.getfield 7, 3) := by decide +kernel
theorem dX12_tiedSet_12 : decode cX12_tiedSet 12 = .ok (.iconst 0, 1) := by decide +kernel
theorem dX12_tiedSet_13 : decode cX12_tiedSet 13 = .ok (.iaload, 1) := by decide +kernel
theorem dX12_tiedSet_14 : decode cX12_tiedSet 14 = .ok (.if_icmp .ge 44, 3) := by decide +kernel
theorem dX12_tiedSet_17 : decode cX12_tiedSet 17 = .ok (.iload 4, 2) := by decide +kernel
theorem dX12_tiedSet_19 : decode cX12_tiedSet 19 = .ok (.aload_n 0, 1) := by decide +kernel
theorem dX12_tiedSet_20 : decode cX12_tiedSet 20 = .ok (.getfield 82, 3) := by decide +kernel
theorem dX12_tiedSet_23 : decode cX12_tiedSet 23 = .ok (.bipush 6, 2) := by decide +kernel
theorem dX12_tiedSet_25 : decode cX12_tiedSet 25 = .ok (.bipush 12, 2) := by decide +kernel
theorem dX12_tiedSet_27 : decode cX12_tiedSet 27 = .ok (.iload_n 1, 1) := by decide +kernel
theorem dX12_tiedSet_28 : decode cX12_tiedSet 28 = .ok (.imul, 1) := by decide +kernel
theorem dX12_tiedSet_29 : decode cX12_tiedSet 29 = .ok (.iload 5, 2) := by decide +kernel
theorem dX12_tiedSet_31 : decode cX12_tiedSet 31 = .ok (.iadd, 1) := by decide +kernel
theorem dX12_tiedSet_32 : decode cX12_tiedSet 32 = .ok (.imul, 1) := by decide +kernel
theorem dX12_tiedSet_33 : decode cX12_tiedSet 33 = .ok (.iload_n 2, 1) := by decide +kernel
theorem dX12_tiedSet_34 : decode cX12_tiedSet 34 = .ok (.iadd, 1) := by decide +kernel
theorem dX12_tiedSet_35 : decode cX12_tiedSet 35 = .ok (.iaload, 1) := by decide +kernel
theorem dX12_tiedSet_36 : decode cX12_tiedSet 36 = .ok (.iload_n 3, 1) := by decide +kernel
theorem dX12_tiedSet_37 : decode cX12_tiedSet 37 = .ok (.iand, 1) := by decide +kernel
theorem dX12_tiedSet_38 : decode cX12_tiedSet 38 = .ok (.ifCond .eq 10, 3) := by decide +kernel
theorem dX12_tiedSet_41 : decode cX12_tiedSet 41 = .ok (.iconst 1, 1) := by decide +kernel
theorem dX12_tiedSet_42 : decode cX12_tiedSet 42 = .ok (.iload 5, 2) := by decide +kernel
theorem dX12_tiedSet_44 : decode cX12_tiedSet 44 = .ok (.ishl, 1) := by decide +kernel
theorem dX12_tiedSet_45 : decode cX12_tiedSet 45 = .ok (.goto 4, 3) := by decide +kernel
theorem dX12_tiedSet_48 : decode cX12_tiedSet 48 = .ok (.iconst 0, 1) := by decide +kernel
theorem dX12_tiedSet_49 : decode cX12_tiedSet 49 = .ok (.ior, 1) := by decide +kernel
theorem dX12_tiedSet_50 : decode cX12_tiedSet 50 = .ok (.istore 4, 2) := by decide +kernel
theorem dX12_tiedSet_52 : decode cX12_tiedSet 52 = .ok (.iinc 5 1, 3) := by decide +kernel
theorem dX12_tiedSet_55 : decode cX12_tiedSet 55 = .ok (.goto (-49), 3) := by decide +kernel
theorem dX12_tiedSet_58 : decode cX12_tiedSet 58 = .ok (.iload 4, 2) := by decide +kernel
theorem dX12_tiedSet_60 : decode cX12_tiedSet 60 = .ok (.ireturn, 1) := by decide +kernel
theorem dX12_fitting_0 : decode cX12_fitting 0 = .ok (.aload_n 0, 1) := by decide +kernel
theorem dX12_fitting_1 : decode cX12_fitting 1 = .ok (.getfield 120, 3) := by decide +kernel
theorem dX12_fitting_4 : decode cX12_fitting 4 = .ok (.iload_n 1, 1) := by decide +kernel
theorem dX12_fitting_5 : decode cX12_fitting 5 = .ok (.baload, 1) := by decide +kernel
theorem dX12_fitting_6 : decode cX12_fitting 6 = .ok (.ifCond .eq 7, 3) := by decide +kernel
theorem dX12_fitting_9 : decode cX12_fitting 9 = .ok (.iconst 1, 1) := by decide +kernel
theorem dX12_fitting_10 : decode cX12_fitting 10 = .ok (.goto 4, 3) := by decide +kernel
theorem dX12_fitting_13 : decode cX12_fitting 13 = .ok (.iconst 0, 1) := by decide +kernel
theorem dX12_fitting_14 : decode cX12_fitting 14 = .ok (.istore 4, 2) := by decide +kernel
theorem dX12_fitting_16 : decode cX12_fitting 16 = .ok (.aload_n 0, 1) := by decide +kernel
theorem dX12_fitting_17 : decode cX12_fitting 17 = .ok (.iload_n 3, 1) := by decide +kernel
theorem dX12_fitting_18 : decode cX12_fitting 18 = .ok (.invokevirtual 201, 3) := by decide +kernel
theorem dX12_fitting_21 : decode cX12_fitting 21 = .ok (.istore 5, 2) := by decide +kernel
theorem dX12_fitting_23 : decode cX12_fitting 23 = .ok (.iconst 0, 1) := by decide +kernel
theorem dX12_fitting_24 : decode cX12_fitting 24 = .ok (.istore 6, 2) := by decide +kernel
theorem dX12_fitting_26 : decode cX12_fitting 26 = .ok (.sipush 400, 3) := by decide +kernel
theorem dX12_fitting_29 : decode cX12_fitting 29 = .ok (.iload_n 1, 1) := by decide +kernel
theorem dX12_fitting_30 : decode cX12_fitting 30 = .ok (.imul, 1) := by decide +kernel
theorem dX12_fitting_31 : decode cX12_fitting 31 = .ok (.istore 7, 2) := by decide +kernel
theorem dX12_fitting_33 : decode cX12_fitting 33 = .ok (.iload 7, 2) := by decide +kernel
theorem dX12_fitting_35 : decode cX12_fitting 35 = .ok (.sipush 400, 3) := by decide +kernel
theorem dX12_fitting_38 : decode cX12_fitting 38 = .ok (.iload_n 1, 1) := by decide +kernel
theorem dX12_fitting_39 : decode cX12_fitting 39 = .ok (.imul, 1) := by decide +kernel
theorem dX12_fitting_40 : decode cX12_fitting 40 = .ok (.aload_n 0, 1) := by decide +kernel
theorem dX12_fitting_41 : decode cX12_fitting 41 = .ok (.getfield 104, 3) := by decide +kernel
theorem dX12_fitting_44 : decode cX12_fitting 44 = .ok (.iload_n 1, 1) := by decide +kernel
theorem dX12_fitting_45 : decode cX12_fitting 45 = .ok (.iaload, 1) := by decide +kernel
theorem dX12_fitting_46 : decode cX12_fitting 46 = .ok (.iadd, 1) := by decide +kernel
theorem dX12_fitting_47 : decode cX12_fitting 47 = .ok (.if_icmp .ge 235, 3) := by decide +kernel
theorem dX12_fitting_50 : decode cX12_fitting 50 = .ok (.aload_n 0, 1) := by decide +kernel
theorem dX12_fitting_51 : decode cX12_fitting 51 = .ok (.getfield 101, 3) := by decide +kernel
theorem dX12_fitting_54 : decode cX12_fitting 54 = .ok (.iload 7, 2) := by decide +kernel
theorem dX12_fitting_56 : decode cX12_fitting 56 = .ok (.iaload, 1) := by decide +kernel
theorem dX12_fitting_57 : decode cX12_fitting 57 = .ok (.istore 8, 2) := by decide +kernel
theorem dX12_fitting_59 : decode cX12_fitting 59 = .ok (.aload_n 0, 1) := by decide +kernel
theorem dX12_fitting_60 : decode cX12_fitting 60 = .ok (.getfield 98, 3) := by decide +kernel
theorem dX12_fitting_63 : decode cX12_fitting 63 = .ok (.iload 7, 2) := by decide +kernel
theorem dX12_fitting_65 : decode cX12_fitting 65 = .ok (.iaload, 1) := by decide +kernel
theorem dX12_fitting_66 : decode cX12_fitting 66 = .ok (.tableswitch 188 0 5 #[38, 62, 86, 105, 131, 163], 38) := by decide +kernel
theorem dX12_fitting_104 : decode cX12_fitting 104 = .ok (.aload_n 0, 1) := by decide +kernel
theorem dX12_fitting_105 : decode cX12_fitting 105 = .ok (.getfield 113, 3) := by decide +kernel
theorem dX12_fitting_108 : decode cX12_fitting 108 = .ok (.iload 6, 2) := by decide +kernel
theorem dX12_fitting_110 : decode cX12_fitting 110 = .ok (.aload_n 0, 1) := by decide +kernel
theorem dX12_fitting_111 : decode cX12_fitting 111 = .ok (.iload 4, 2) := by decide +kernel
theorem dX12_fitting_113 : decode cX12_fitting 113 = .ok (.iload 8, 2) := by decide +kernel
theorem dX12_fitting_115 : decode cX12_fitting 115 = .ok (.invokevirtual 322, 3) := by decide +kernel
theorem dX12_fitting_118 : decode cX12_fitting 118 = .ok (.iload 5, 2) := by decide +kernel
theorem dX12_fitting_120 : decode cX12_fitting 120 = .ok (.iand, 1) := by decide +kernel
theorem dX12_fitting_121 : decode cX12_fitting 121 = .ok (.iastore, 1) := by decide +kernel
theorem dX12_fitting_122 : decode cX12_fitting 122 = .ok (.iinc 6 1, 3) := by decide +kernel
theorem dX12_fitting_125 : decode cX12_fitting 125 = .ok (.goto 151, 3) := by decide +kernel
theorem dX12_fitting_128 : decode cX12_fitting 128 = .ok (.aload_n 0, 1) := by decide +kernel
theorem dX12_fitting_129 : decode cX12_fitting 129 = .ok (.getfield 113, 3) := by decide +kernel
theorem dX12_fitting_132 : decode cX12_fitting 132 = .ok (.iload 6, 2) := by decide +kernel
theorem dX12_fitting_134 : decode cX12_fitting 134 = .ok (.aload_n 0, 1) := by decide +kernel
theorem dX12_fitting_135 : decode cX12_fitting 135 = .ok (.iload 4, 2) := by decide +kernel
theorem dX12_fitting_137 : decode cX12_fitting 137 = .ok (.iload 8, 2) := by decide +kernel
theorem dX12_fitting_139 : decode cX12_fitting 139 = .ok (.invokevirtual 195, 3) := by decide +kernel
theorem dX12_fitting_142 : decode cX12_fitting 142 = .ok (.iload 5, 2) := by decide +kernel
theorem dX12_fitting_144 : decode cX12_fitting 144 = .ok (.iand, 1) := by decide +kernel
theorem dX12_fitting_145 : decode cX12_fitting 145 = .ok (.iastore, 1) := by decide +kernel
theorem dX12_fitting_146 : decode cX12_fitting 146 = .ok (.iinc 6 1, 3) := by decide +kernel
theorem dX12_fitting_149 : decode cX12_fitting 149 = .ok (.goto 127, 3) := by decide +kernel
theorem dX12_fitting_152 : decode cX12_fitting 152 = .ok (.aload_n 0, 1) := by decide +kernel
theorem dX12_fitting_153 : decode cX12_fitting 153 = .ok (.getfield 113, 3) := by decide +kernel
theorem dX12_fitting_156 : decode cX12_fitting 156 = .ok (.iload 6, 2) := by decide +kernel
theorem dX12_fitting_158 : decode cX12_fitting 158 = .ok (.iconst 1, 1) := by decide +kernel
theorem dX12_fitting_159 : decode cX12_fitting 159 = .ok (.iload_n 2, 1) := by decide +kernel
theorem dX12_fitting_160 : decode cX12_fitting 160 = .ok (.ishl, 1) := by decide +kernel
theorem dX12_fitting_161 : decode cX12_fitting 161 = .ok (.iload 5, 2) := by decide +kernel
theorem dX12_fitting_163 : decode cX12_fitting 163 = .ok (.iand, 1) := by decide +kernel
theorem dX12_fitting_164 : decode cX12_fitting 164 = .ok (.iastore, 1) := by decide +kernel
theorem dX12_fitting_165 : decode cX12_fitting 165 = .ok (.iinc 6 1, 3) := by decide +kernel
theorem dX12_fitting_168 : decode cX12_fitting 168 = .ok (.goto 108, 3) := by decide +kernel
theorem dX12_fitting_171 : decode cX12_fitting 171 = .ok (.aload_n 0, 1) := by decide +kernel
theorem dX12_fitting_172 : decode cX12_fitting 172 = .ok (.getfield 113, 3) := by decide +kernel
theorem dX12_fitting_175 : decode cX12_fitting 175 = .ok (.iload 6, 2) := by decide +kernel
theorem dX12_fitting_177 : decode cX12_fitting 177 = .ok (.iconst 1, 1) := by decide +kernel
theorem dX12_fitting_178 : decode cX12_fitting 178 = .ok (.isub, 1) := by decide +kernel
theorem dX12_fitting_179 : decode cX12_fitting 179 = .ok (.iload 5, 2) := by decide +kernel
theorem dX12_fitting_181 : decode cX12_fitting 181 = .ok (.aload_n 0, 1) := by decide +kernel
theorem dX12_fitting_182 : decode cX12_fitting 182 = .ok (.getfield 113, 3) := by decide +kernel
theorem dX12_fitting_185 : decode cX12_fitting 185 = .ok (.iload 6, 2) := by decide +kernel
theorem dX12_fitting_187 : decode cX12_fitting 187 = .ok (.iconst 1, 1) := by decide +kernel
theorem dX12_fitting_188 : decode cX12_fitting 188 = .ok (.isub, 1) := by decide +kernel
theorem dX12_fitting_189 : decode cX12_fitting 189 = .ok (.iaload, 1) := by decide +kernel
theorem dX12_fitting_190 : decode cX12_fitting 190 = .ok (.iconst (-1), 1) := by decide +kernel
theorem dX12_fitting_191 : decode cX12_fitting 191 = .ok (.ixor, 1) := by decide +kernel
theorem dX12_fitting_192 : decode cX12_fitting 192 = .ok (.iand, 1) := by decide +kernel
theorem dX12_fitting_193 : decode cX12_fitting 193 = .ok (.iastore, 1) := by decide +kernel
theorem dX12_fitting_194 : decode cX12_fitting 194 = .ok (.goto 82, 3) := by decide +kernel
theorem dX12_fitting_197 : decode cX12_fitting 197 = .ok (.aload_n 0, 1) := by decide +kernel
theorem dX12_fitting_198 : decode cX12_fitting 198 = .ok (.getfield 113, 3) := by decide +kernel
theorem dX12_fitting_201 : decode cX12_fitting 201 = .ok (.iload 6, 2) := by decide +kernel
theorem dX12_fitting_203 : decode cX12_fitting 203 = .ok (.iconst 1, 1) := by decide +kernel
theorem dX12_fitting_204 : decode cX12_fitting 204 = .ok (.isub, 1) := by decide +kernel
theorem dX12_fitting_205 : decode cX12_fitting 205 = .ok (.aload_n 0, 1) := by decide +kernel
theorem dX12_fitting_206 : decode cX12_fitting 206 = .ok (.iload 4, 2) := by decide +kernel
theorem dX12_fitting_208 : decode cX12_fitting 208 = .ok (.iload 8, 2) := by decide +kernel
theorem dX12_fitting_210 : decode cX12_fitting 210 = .ok (.aload_n 0, 1) := by decide +kernel
theorem dX12_fitting_211 : decode cX12_fitting 211 = .ok (.getfield 113, 3) := by decide +kernel
theorem dX12_fitting_214 : decode cX12_fitting 214 = .ok (.iload 6, 2) := by decide +kernel
theorem dX12_fitting_216 : decode cX12_fitting 216 = .ok (.iconst 1, 1) := by decide +kernel
theorem dX12_fitting_217 : decode cX12_fitting 217 = .ok (.isub, 1) := by decide +kernel
theorem dX12_fitting_218 : decode cX12_fitting 218 = .ok (.iaload, 1) := by decide +kernel
theorem dX12_fitting_219 : decode cX12_fitting 219 = .ok (.invokevirtual 325, 3) := by decide +kernel
theorem dX12_fitting_222 : decode cX12_fitting 222 = .ok (.iload 5, 2) := by decide +kernel
theorem dX12_fitting_224 : decode cX12_fitting 224 = .ok (.iand, 1) := by decide +kernel
theorem dX12_fitting_225 : decode cX12_fitting 225 = .ok (.iastore, 1) := by decide +kernel
theorem dX12_fitting_226 : decode cX12_fitting 226 = .ok (.goto 50, 3) := by decide +kernel
theorem dX12_fitting_229 : decode cX12_fitting 229 = .ok (.iinc 6 (-1), 3) := by decide +kernel
theorem dX12_fitting_232 : decode cX12_fitting 232 = .ok (.aload_n 0, 1) := by decide +kernel
theorem dX12_fitting_233 : decode cX12_fitting 233 = .ok (.getfield 113, 3) := by decide +kernel
theorem dX12_fitting_236 : decode cX12_fitting 236 = .ok (.iload 6, 2) := by decide +kernel
theorem dX12_fitting_238 : decode cX12_fitting 238 = .ok (.iconst 1, 1) := by decide +kernel
theorem dX12_fitting_239 : decode cX12_fitting 239 = .ok (.isub, 1) := by decide +kernel
theorem dX12_fitting_240 : decode cX12_fitting 240 = .ok (.dup2, 1) := by decide +kernel
theorem dX12_fitting_241 : decode cX12_fitting 241 = .ok (.iaload, 1) := by decide +kernel
theorem dX12_fitting_242 : decode cX12_fitting 242 = .ok (.aload_n 0, 1) := by decide +kernel
theorem dX12_fitting_243 : decode cX12_fitting 243 = .ok (.getfield 113, 3) := by decide +kernel
theorem dX12_fitting_246 : decode cX12_fitting 246 = .ok (.iload 6, 2) := by decide +kernel
theorem dX12_fitting_248 : decode cX12_fitting 248 = .ok (.iaload, 1) := by decide +kernel
theorem dX12_fitting_249 : decode cX12_fitting 249 = .ok (.iand, 1) := by decide +kernel
theorem dX12_fitting_250 : decode cX12_fitting 250 = .ok (.iastore, 1) := by decide +kernel
theorem dX12_fitting_251 : decode cX12_fitting 251 = .ok (.goto 25, 3) := by decide +kernel
theorem dX12_fitting_254 : decode cX12_fitting 254 = .ok (.iinc 6 (-1), 3) := by decide +kernel
theorem dX12_fitting_257 : decode cX12_fitting 257 = .ok (.aload_n 0, 1) := by decide +kernel
theorem dX12_fitting_258 : decode cX12_fitting 258 = .ok (.getfield 113, 3) := by decide +kernel
theorem dX12_fitting_261 : decode cX12_fitting 261 = .ok (.iload 6, 2) := by decide +kernel
theorem dX12_fitting_263 : decode cX12_fitting 263 = .ok (.iconst 1, 1) := by decide +kernel
theorem dX12_fitting_264 : decode cX12_fitting 264 = .ok (.isub, 1) := by decide +kernel
theorem dX12_fitting_265 : decode cX12_fitting 265 = .ok (.dup2, 1) := by decide +kernel
theorem dX12_fitting_266 : decode cX12_fitting 266 = .ok (.iaload, 1) := by decide +kernel
theorem dX12_fitting_267 : decode cX12_fitting 267 = .ok (.aload_n 0, 1) := by decide +kernel
theorem dX12_fitting_268 : decode cX12_fitting 268 = .ok (.getfield 113, 3) := by decide +kernel
theorem dX12_fitting_271 : decode cX12_fitting 271 = .ok (.iload 6, 2) := by decide +kernel
theorem dX12_fitting_273 : decode cX12_fitting 273 = .ok (.iaload, 1) := by decide +kernel
theorem dX12_fitting_274 : decode cX12_fitting 274 = .ok (.ior, 1) := by decide +kernel
theorem dX12_fitting_275 : decode cX12_fitting 275 = .ok (.iastore, 1) := by decide +kernel
theorem dX12_fitting_276 : decode cX12_fitting 276 = .ok (.iinc 7 1, 3) := by decide +kernel
theorem dX12_fitting_279 : decode cX12_fitting 279 = .ok (.goto (-246), 3) := by decide +kernel
theorem dX12_fitting_282 : decode cX12_fitting 282 = .ok (.aload_n 0, 1) := by decide +kernel
theorem dX12_fitting_283 : decode cX12_fitting 283 = .ok (.getfield 113, 3) := by decide +kernel
theorem dX12_fitting_286 : decode cX12_fitting 286 = .ok (.iconst 0, 1) := by decide +kernel
theorem dX12_fitting_287 : decode cX12_fitting 287 = .ok (.iaload, 1) := by decide +kernel
theorem dX12_fitting_288 : decode cX12_fitting 288 = .ok (.istore 7, 2) := by decide +kernel
theorem dX12_fitting_290 : decode cX12_fitting 290 = .ok (.aload_n 0, 1) := by decide +kernel
theorem dX12_fitting_291 : decode cX12_fitting 291 = .ok (.getfield 116, 3) := by decide +kernel
theorem dX12_fitting_294 : decode cX12_fitting 294 = .ok (.iload_n 1, 1) := by decide +kernel
theorem dX12_fitting_295 : decode cX12_fitting 295 = .ok (.baload, 1) := by decide +kernel
theorem dX12_fitting_296 : decode cX12_fitting 296 = .ok (.ifCond .eq 16, 3) := by decide +kernel
theorem dX12_fitting_299 : decode cX12_fitting 299 = .ok (.iload 7, 2) := by decide +kernel
theorem dX12_fitting_301 : decode cX12_fitting 301 = .ok (.invokestatic 328, 3) := by decide +kernel
theorem dX12_fitting_304 : decode cX12_fitting 304 = .ok (.iconst 1, 1) := by decide +kernel
theorem dX12_fitting_305 : decode cX12_fitting 305 = .ok (.if_icmp .le 7, 3) := by decide +kernel
theorem dX12_fitting_308 : decode cX12_fitting 308 = .ok (.iconst 0, 1) := by decide +kernel
theorem dX12_fitting_309 : decode cX12_fitting 309 = .ok (.goto 5, 3) := by decide +kernel
theorem dX12_fitting_312 : decode cX12_fitting 312 = .ok (.iload 7, 2) := by decide +kernel
theorem dX12_fitting_314 : decode cX12_fitting 314 = .ok (.ireturn, 1) := by decide +kernel
theorem dX12_fits_0 : decode cX12_fits 0 = .ok (.aload_n 0, 1) := by decide +kernel
theorem dX12_fits_1 : decode cX12_fits 1 = .ok (.iload_n 1, 1) := by decide +kernel
theorem dX12_fits_2 : decode cX12_fits 2 = .ok (.invokevirtual 331, 3) := by decide +kernel
theorem dX12_fits_5 : decode cX12_fits 5 = .ok (.ifCond .eq 41, 3) := by decide +kernel
theorem dX12_fits_8 : decode cX12_fits 8 = .ok (.aload_n 0, 1) := by decide +kernel
theorem dX12_fits_9 : decode cX12_fits 9 = .ok (.iload_n 2, 1) := by decide +kernel
theorem dX12_fits_10 : decode cX12_fits 10 = .ok (.invokevirtual 175, 3) := by decide +kernel
theorem dX12_fits_13 : decode cX12_fits 13 = .ok (.ifCond .eq 33, 3) := by decide +kernel
theorem dX12_fits_16 : decode cX12_fits 16 = .ok (.iload_n 3, 1) := by decide +kernel
theorem dX12_fits_17 : decode cX12_fits 17 = .ok (.invokestatic 170, 3) := by decide +kernel
theorem dX12_fits_20 : decode cX12_fits 20 = .ok (.ifCond .eq 26, 3) := by decide +kernel
theorem dX12_fits_23 : decode cX12_fits 23 = .ok (.iload 4, 2) := by decide +kernel
theorem dX12_fits_25 : decode cX12_fits 25 = .ok (.invokestatic 170, 3) := by decide +kernel
theorem dX12_fits_28 : decode cX12_fits 28 = .ok (.ifCond .eq 18, 3) := by decide +kernel
theorem dX12_fits_31 : decode cX12_fits 31 = .ok (.iload 5, 2) := by decide +kernel
theorem dX12_fits_33 : decode cX12_fits 33 = .ok (.iconst (-1), 1) := by decide +kernel
theorem dX12_fits_34 : decode cX12_fits 34 = .ok (.if_icmp .eq 15, 3) := by decide +kernel
theorem dX12_fits_37 : decode cX12_fits 37 = .ok (.aload_n 0, 1) := by decide +kernel
theorem dX12_fits_38 : decode cX12_fits 38 = .ok (.iload 5, 2) := by decide +kernel
theorem dX12_fits_40 : decode cX12_fits 40 = .ok (.invokevirtual 175, 3) := by decide +kernel
theorem dX12_fits_43 : decode cX12_fits 43 = .ok (.ifCond .ne 6, 3) := by decide +kernel
theorem dX12_fits_46 : decode cX12_fits 46 = .ok (.bipush (-2), 2) := by decide +kernel
theorem dX12_fits_48 : decode cX12_fits 48 = .ok (.ireturn, 1) := by decide +kernel
theorem dX12_fits_49 : decode cX12_fits 49 = .ok (.aload_n 0, 1) := by decide +kernel
theorem dX12_fits_50 : decode cX12_fits 50 = .ok (.iconst 0, 1) := by decide +kernel
theorem dX12_fits_51 : decode cX12_fits 51 = .ok (.iload_n 3, 1) := by decide +kernel
theorem dX12_fits_52 : decode cX12_fits 52 = .ok (.invokevirtual 198, 3) := by decide +kernel
theorem dX12_fits_55 : decode cX12_fits 55 = .ok (.aload_n 0, 1) := by decide +kernel
theorem dX12_fits_56 : decode cX12_fits 56 = .ok (.iconst 1, 1) := by decide +kernel
theorem dX12_fits_57 : decode cX12_fits 57 = .ok (.iload 4, 2) := by decide +kernel
theorem dX12_fits_59 : decode cX12_fits 59 = .ok (.invokevirtual 198, 3) := by decide +kernel
theorem dX12_fits_62 : decode cX12_fits 62 = .ok (.aload_n 0, 1) := by decide +kernel
theorem dX12_fits_63 : decode cX12_fits 63 = .ok (.iload_n 1, 1) := by decide +kernel
theorem dX12_fits_64 : decode cX12_fits 64 = .ok (.iload_n 2, 1) := by decide +kernel
theorem dX12_fits_65 : decode cX12_fits 65 = .ok (.iload 5, 2) := by decide +kernel
theorem dX12_fits_67 : decode cX12_fits 67 = .ok (.invokevirtual 334, 3) := by decide +kernel
theorem dX12_fits_70 : decode cX12_fits 70 = .ok (.ireturn, 1) := by decide +kernel
theorem dX12_asks_0 : decode cX12_asks 0 = .ok (.aload_n 0, 1) := by decide +kernel
theorem dX12_asks_1 : decode cX12_asks 1 = .ok (.iconst (-1), 1) := by decide +kernel
theorem dX12_asks_2 : decode cX12_asks 2 = .ok (.putfield 337, 3) := by decide +kernel
theorem dX12_asks_5 : decode cX12_asks 5 = .ok (.aload_n 0, 1) := by decide +kernel
theorem dX12_asks_6 : decode cX12_asks 6 = .ok (.iconst (-1), 1) := by decide +kernel
theorem dX12_asks_7 : decode cX12_asks 7 = .ok (.putfield 340, 3) := by decide +kernel
theorem dX12_asks_10 : decode cX12_asks 10 = .ok (.aload_n 0, 1) := by decide +kernel
theorem dX12_asks_11 : decode cX12_asks 11 = .ok (.iconst (-1), 1) := by decide +kernel
theorem dX12_asks_12 : decode cX12_asks 12 = .ok (.putfield 343, 3) := by decide +kernel
theorem dX12_asks_15 : decode cX12_asks 15 = .ok (.aload_n 0, 1) := by decide +kernel
theorem dX12_asks_16 : decode cX12_asks 16 = .ok (.iconst 1, 1) := by decide +kernel
theorem dX12_asks_17 : decode cX12_asks 17 = .ok (.iload_n 3, 1) := by decide +kernel
theorem dX12_asks_18 : decode cX12_asks 18 = .ok (.invokevirtual 195, 3) := by decide +kernel
theorem dX12_asks_21 : decode cX12_asks 21 = .ok (.istore 4, 2) := by decide +kernel
theorem dX12_asks_23 : decode cX12_asks 23 = .ok (.iconst 0, 1) := by decide +kernel
theorem dX12_asks_24 : decode cX12_asks 24 = .ok (.istore 5, 2) := by decide +kernel
theorem dX12_asks_26 : decode cX12_asks 26 = .ok (.iload 5, 2) := by decide +kernel
theorem dX12_asks_28 : decode cX12_asks 28 = .ok (.aload_n 0, 1) := by decide +kernel
theorem dX12_asks_29 : decode cX12_asks 29 = .ok (.getfield 7, 3) := by decide +kernel
theorem dX12_asks_32 : decode cX12_asks 32 = .ok (.iconst 0, 1) := by decide +kernel
theorem dX12_asks_33 : decode cX12_asks 33 = .ok (.iaload, 1) := by decide +kernel
theorem dX12_asks_34 : decode cX12_asks 34 = .ok (.if_icmp .ge 118, 3) := by decide +kernel
theorem dX12_asks_37 : decode cX12_asks 37 = .ok (.iload 4, 2) := by decide +kernel
theorem dX12_asks_39 : decode cX12_asks 39 = .ok (.iload 5, 2) := by decide +kernel
theorem dX12_asks_41 : decode cX12_asks 41 = .ok (.invokestatic 148, 3) := by decide +kernel
theorem dX12_asks_44 : decode cX12_asks 44 = .ok (.ifCond .eq 14, 3) := by decide +kernel
theorem dX12_asks_47 : decode cX12_asks 47 = .ok (.aload_n 0, 1) := by decide +kernel
theorem dX12_asks_48 : decode cX12_asks 48 = .ok (.iload_n 1, 1) := by decide +kernel
theorem dX12_asks_49 : decode cX12_asks 49 = .ok (.iload_n 2, 1) := by decide +kernel
theorem dX12_asks_50 : decode cX12_asks 50 = .ok (.iload 5, 2) := by decide +kernel
theorem dX12_asks_52 : decode cX12_asks 52 = .ok (.invokevirtual 334, 3) := by decide +kernel
theorem dX12_asks_55 : decode cX12_asks 55 = .ok (.goto 4, 3) := by decide +kernel
theorem dX12_asks_58 : decode cX12_asks 58 = .ok (.iconst 0, 1) := by decide +kernel
theorem dX12_asks_59 : decode cX12_asks 59 = .ok (.istore 6, 2) := by decide +kernel
theorem dX12_asks_61 : decode cX12_asks 61 = .ok (.iload 6, 2) := by decide +kernel
theorem dX12_asks_63 : decode cX12_asks 63 = .ok (.ifCond .eq 83, 3) := by decide +kernel
theorem dX12_asks_66 : decode cX12_asks 66 = .ok (.iload 6, 2) := by decide +kernel
theorem dX12_asks_68 : decode cX12_asks 68 = .ok (.iload 5, 2) := by decide +kernel
theorem dX12_asks_70 : decode cX12_asks 70 = .ok (.invokestatic 148, 3) := by decide +kernel
theorem dX12_asks_73 : decode cX12_asks 73 = .ok (.ifCond .eq 8, 3) := by decide +kernel
theorem dX12_asks_76 : decode cX12_asks 76 = .ok (.iload 5, 2) := by decide +kernel
theorem dX12_asks_78 : decode cX12_asks 78 = .ok (.goto 8, 3) := by decide +kernel
theorem dX12_asks_81 : decode cX12_asks 81 = .ok (.iload 6, 2) := by decide +kernel
theorem dX12_asks_83 : decode cX12_asks 83 = .ok (.invokestatic 346, 3) := by decide +kernel
theorem dX12_asks_86 : decode cX12_asks 86 = .ok (.istore 7, 2) := by decide +kernel
theorem dX12_asks_88 : decode cX12_asks 88 = .ok (.aload_n 0, 1) := by decide +kernel
theorem dX12_asks_89 : decode cX12_asks 89 = .ok (.iload 5, 2) := by decide +kernel
theorem dX12_asks_91 : decode cX12_asks 91 = .ok (.putfield 343, 3) := by decide +kernel
theorem dX12_asks_94 : decode cX12_asks 94 = .ok (.iload 4, 2) := by decide +kernel
theorem dX12_asks_96 : decode cX12_asks 96 = .ok (.iload 7, 2) := by decide +kernel
theorem dX12_asks_98 : decode cX12_asks 98 = .ok (.invokestatic 148, 3) := by decide +kernel
theorem dX12_asks_101 : decode cX12_asks 101 = .ok (.ifCond .eq 11, 3) := by decide +kernel
theorem dX12_asks_104 : decode cX12_asks 104 = .ok (.aload_n 0, 1) := by decide +kernel
theorem dX12_asks_105 : decode cX12_asks 105 = .ok (.iload 7, 2) := by decide +kernel
theorem dX12_asks_107 : decode cX12_asks 107 = .ok (.putfield 337, 3) := by decide +kernel
theorem dX12_asks_110 : decode cX12_asks 110 = .ok (.iconst 0, 1) := by decide +kernel
theorem dX12_asks_111 : decode cX12_asks 111 = .ok (.ireturn, 1) := by decide +kernel
theorem dX12_asks_112 : decode cX12_asks 112 = .ok (.aload_n 0, 1) := by decide +kernel
theorem dX12_asks_113 : decode cX12_asks 113 = .ok (.aload_n 0, 1) := by decide +kernel
theorem dX12_asks_114 : decode cX12_asks 114 = .ok (.iload_n 3, 1) := by decide +kernel
theorem dX12_asks_115 : decode cX12_asks 115 = .ok (.aload_n 0, 1) := by decide +kernel
theorem dX12_asks_116 : decode cX12_asks 116 = .ok (.getfield 85, 3) := by decide +kernel
theorem dX12_asks_119 : decode cX12_asks 119 = .ok (.bipush 12, 2) := by decide +kernel
theorem dX12_asks_121 : decode cX12_asks 121 = .ok (.iload 7, 2) := by decide +kernel
theorem dX12_asks_123 : decode cX12_asks 123 = .ok (.iadd, 1) := by decide +kernel
theorem dX12_asks_124 : decode cX12_asks 124 = .ok (.iaload, 1) := by decide +kernel
theorem dX12_asks_125 : decode cX12_asks 125 = .ok (.invokevirtual 349, 3) := by decide +kernel
theorem dX12_asks_128 : decode cX12_asks 128 = .ok (.putfield 340, 3) := by decide +kernel
theorem dX12_asks_131 : decode cX12_asks 131 = .ok (.aload_n 0, 1) := by decide +kernel
theorem dX12_asks_132 : decode cX12_asks 132 = .ok (.getfield 340, 3) := by decide +kernel
theorem dX12_asks_135 : decode cX12_asks 135 = .ok (.iconst (-1), 1) := by decide +kernel
theorem dX12_asks_136 : decode cX12_asks 136 = .ok (.if_icmp .eq 5, 3) := by decide +kernel
theorem dX12_asks_139 : decode cX12_asks 139 = .ok (.iconst 1, 1) := by decide +kernel
theorem dX12_asks_140 : decode cX12_asks 140 = .ok (.ireturn, 1) := by decide +kernel
theorem dX12_asks_141 : decode cX12_asks 141 = .ok (.aload_n 0, 1) := by decide +kernel
theorem dX12_asks_142 : decode cX12_asks 142 = .ok (.iconst (-1), 1) := by decide +kernel
theorem dX12_asks_143 : decode cX12_asks 143 = .ok (.putfield 343, 3) := by decide +kernel
theorem dX12_asks_146 : decode cX12_asks 146 = .ok (.iinc 5 1, 3) := by decide +kernel
theorem dX12_asks_149 : decode cX12_asks 149 = .ok (.goto (-123), 3) := by decide +kernel
theorem dX12_asks_152 : decode cX12_asks 152 = .ok (.iconst 2, 1) := by decide +kernel
theorem dX12_asks_153 : decode cX12_asks 153 = .ok (.ireturn, 1) := by decide +kernel
theorem dX12_asked_0 : decode cX12_asked 0 = .ok (.aload_n 0, 1) := by decide +kernel
theorem dX12_asked_1 : decode cX12_asked 1 = .ok (.iload_n 1, 1) := by decide +kernel
theorem dX12_asked_2 : decode cX12_asked 2 = .ok (.invokevirtual 331, 3) := by decide +kernel
theorem dX12_asked_5 : decode cX12_asked 5 = .ok (.ifCond .eq 47, 3) := by decide +kernel
theorem dX12_asked_8 : decode cX12_asked 8 = .ok (.aload_n 0, 1) := by decide +kernel
theorem dX12_asked_9 : decode cX12_asked 9 = .ok (.iload_n 2, 1) := by decide +kernel
theorem dX12_asked_10 : decode cX12_asked 10 = .ok (.invokevirtual 175, 3) := by decide +kernel
theorem dX12_asked_13 : decode cX12_asked 13 = .ok (.ifCond .eq 39, 3) := by decide +kernel
theorem dX12_asked_16 : decode cX12_asked 16 = .ok (.iload_n 3, 1) := by decide +kernel
theorem dX12_asked_17 : decode cX12_asked 17 = .ok (.invokestatic 170, 3) := by decide +kernel
theorem dX12_asked_20 : decode cX12_asked 20 = .ok (.ifCond .eq 32, 3) := by decide +kernel
theorem dX12_asked_23 : decode cX12_asked 23 = .ok (.iload 4, 2) := by decide +kernel
theorem dX12_asked_25 : decode cX12_asked 25 = .ok (.invokestatic 170, 3) := by decide +kernel
theorem dX12_asked_28 : decode cX12_asked 28 = .ok (.ifCond .eq 24, 3) := by decide +kernel
theorem dX12_asked_31 : decode cX12_asked 31 = .ok (.iload 5, 2) := by decide +kernel
theorem dX12_asked_33 : decode cX12_asked 33 = .ok (.invokestatic 160, 3) := by decide +kernel
theorem dX12_asked_36 : decode cX12_asked 36 = .ok (.ifCond .eq 16, 3) := by decide +kernel
theorem dX12_asked_39 : decode cX12_asked 39 = .ok (.iload 6, 2) := by decide +kernel
theorem dX12_asked_41 : decode cX12_asked 41 = .ok (.i2l, 1) := by decide +kernel
theorem dX12_asked_42 : decode cX12_asked 42 = .ok (.lconst 0, 1) := by decide +kernel
theorem dX12_asked_43 : decode cX12_asked 43 = .ok (.ldc2_w 173, 3) := by decide +kernel
theorem dX12_asked_46 : decode cX12_asked 46 = .ok (.invokestatic 154, 3) := by decide +kernel
theorem dX12_asked_49 : decode cX12_asked 49 = .ok (.ifCond .ne 6, 3) := by decide +kernel
theorem dX12_asked_52 : decode cX12_asked 52 = .ok (.bipush (-2), 2) := by decide +kernel
theorem dX12_asked_54 : decode cX12_asked 54 = .ok (.ireturn, 1) := by decide +kernel
theorem dX12_asked_55 : decode cX12_asked 55 = .ok (.aload_n 0, 1) := by decide +kernel
theorem dX12_asked_56 : decode cX12_asked 56 = .ok (.iconst 0, 1) := by decide +kernel
theorem dX12_asked_57 : decode cX12_asked 57 = .ok (.iload_n 3, 1) := by decide +kernel
theorem dX12_asked_58 : decode cX12_asked 58 = .ok (.invokevirtual 198, 3) := by decide +kernel
theorem dX12_asked_61 : decode cX12_asked 61 = .ok (.aload_n 0, 1) := by decide +kernel
theorem dX12_asked_62 : decode cX12_asked 62 = .ok (.iconst 1, 1) := by decide +kernel
theorem dX12_asked_63 : decode cX12_asked 63 = .ok (.iload 4, 2) := by decide +kernel
theorem dX12_asked_65 : decode cX12_asked 65 = .ok (.invokevirtual 198, 3) := by decide +kernel
theorem dX12_asked_68 : decode cX12_asked 68 = .ok (.aload_n 0, 1) := by decide +kernel
theorem dX12_asked_69 : decode cX12_asked 69 = .ok (.iload_n 1, 1) := by decide +kernel
theorem dX12_asked_70 : decode cX12_asked 70 = .ok (.iload_n 2, 1) := by decide +kernel
theorem dX12_asked_71 : decode cX12_asked 71 = .ok (.iload 5, 2) := by decide +kernel
theorem dX12_asked_73 : decode cX12_asked 73 = .ok (.invokevirtual 352, 3) := by decide +kernel
theorem dX12_asked_76 : decode cX12_asked 76 = .ok (.istore 7, 2) := by decide +kernel
theorem dX12_asked_78 : decode cX12_asked 78 = .ok (.iload 6, 2) := by decide +kernel
theorem dX12_asked_80 : decode cX12_asked 80 = .ok (.ifCond .ne 8, 3) := by decide +kernel
theorem dX12_asked_83 : decode cX12_asked 83 = .ok (.iload 7, 2) := by decide +kernel
theorem dX12_asked_85 : decode cX12_asked 85 = .ok (.goto 32, 3) := by decide +kernel
theorem dX12_asked_88 : decode cX12_asked 88 = .ok (.iload 6, 2) := by decide +kernel
theorem dX12_asked_90 : decode cX12_asked 90 = .ok (.iconst 2, 1) := by decide +kernel
theorem dX12_asked_91 : decode cX12_asked 91 = .ok (.if_icmp .ne 10, 3) := by decide +kernel
theorem dX12_asked_94 : decode cX12_asked 94 = .ok (.aload_n 0, 1) := by decide +kernel
theorem dX12_asked_95 : decode cX12_asked 95 = .ok (.getfield 343, 3) := by decide +kernel
theorem dX12_asked_98 : decode cX12_asked 98 = .ok (.goto 19, 3) := by decide +kernel
theorem dX12_asked_101 : decode cX12_asked 101 = .ok (.iload 7, 2) := by decide +kernel
theorem dX12_asked_103 : decode cX12_asked 103 = .ok (.ifCond .ne 10, 3) := by decide +kernel
theorem dX12_asked_106 : decode cX12_asked 106 = .ok (.aload_n 0, 1) := by decide +kernel
theorem dX12_asked_107 : decode cX12_asked 107 = .ok (.getfield 337, 3) := by decide +kernel
theorem dX12_asked_110 : decode cX12_asked 110 = .ok (.goto 7, 3) := by decide +kernel
theorem dX12_asked_113 : decode cX12_asked 113 = .ok (.aload_n 0, 1) := by decide +kernel
theorem dX12_asked_114 : decode cX12_asked 114 = .ok (.getfield 340, 3) := by decide +kernel
theorem dX12_asked_117 : decode cX12_asked 117 = .ok (.ireturn, 1) := by decide +kernel
theorem dX12_stale_0 : decode cX12_stale 0 = .ok (.aload_n 0, 1) := by decide +kernel
theorem dX12_stale_1 : decode cX12_stale 1 = .ok (.iload_n 1, 1) := by decide +kernel
theorem dX12_stale_2 : decode cX12_stale 2 = .ok (.invokevirtual 331, 3) := by decide +kernel
theorem dX12_stale_5 : decode cX12_stale 5 = .ok (.ifCond .eq 27, 3) := by decide +kernel
theorem dX12_stale_8 : decode cX12_stale 8 = .ok (.aload_n 0, 1) := by decide +kernel
theorem dX12_stale_9 : decode cX12_stale 9 = .ok (.iload_n 2, 1) := by decide +kernel
theorem dX12_stale_10 : decode cX12_stale 10 = .ok (.invokevirtual 175, 3) := by decide +kernel
theorem dX12_stale_13 : decode cX12_stale 13 = .ok (.ifCond .eq 19, 3) := by decide +kernel
theorem dX12_stale_16 : decode cX12_stale 16 = .ok (.aload_n 0, 1) := by decide +kernel
theorem dX12_stale_17 : decode cX12_stale 17 = .ok (.iload_n 3, 1) := by decide +kernel
theorem dX12_stale_18 : decode cX12_stale 18 = .ok (.invokevirtual 175, 3) := by decide +kernel
theorem dX12_stale_21 : decode cX12_stale 21 = .ok (.ifCond .eq 11, 3) := by decide +kernel
theorem dX12_stale_24 : decode cX12_stale 24 = .ok (.iload 4, 2) := by decide +kernel
theorem dX12_stale_26 : decode cX12_stale 26 = .ok (.invokestatic 170, 3) := by decide +kernel
theorem dX12_stale_29 : decode cX12_stale 29 = .ok (.ifCond .ne 5, 3) := by decide +kernel
theorem dX12_stale_32 : decode cX12_stale 32 = .ok (.iconst (-1), 1) := by decide +kernel
theorem dX12_stale_33 : decode cX12_stale 33 = .ok (.ireturn, 1) := by decide +kernel
theorem dX12_stale_34 : decode cX12_stale 34 = .ok (.aload_n 0, 1) := by decide +kernel
theorem dX12_stale_35 : decode cX12_stale 35 = .ok (.iconst 0, 1) := by decide +kernel
theorem dX12_stale_36 : decode cX12_stale 36 = .ok (.iload 4, 2) := by decide +kernel
theorem dX12_stale_38 : decode cX12_stale 38 = .ok (.invokevirtual 198, 3) := by decide +kernel
theorem dX12_stale_41 : decode cX12_stale 41 = .ok (.iload 4, 2) := by decide +kernel
theorem dX12_stale_43 : decode cX12_stale 43 = .ok (.istore 5, 2) := by decide +kernel
theorem dX12_stale_45 : decode cX12_stale 45 = .ok (.iload 5, 2) := by decide +kernel
theorem dX12_stale_47 : decode cX12_stale 47 = .ok (.iload 4, 2) := by decide +kernel
theorem dX12_stale_49 : decode cX12_stale 49 = .ok (.bipush 99, 2) := by decide +kernel
theorem dX12_stale_51 : decode cX12_stale 51 = .ok (.iadd, 1) := by decide +kernel
theorem dX12_stale_52 : decode cX12_stale 52 = .ok (.if_icmp .gt 40, 3) := by decide +kernel
theorem dX12_stale_55 : decode cX12_stale 55 = .ok (.iload 5, 2) := by decide +kernel
theorem dX12_stale_57 : decode cX12_stale 57 = .ok (.sipush 999, 3) := by decide +kernel
theorem dX12_stale_60 : decode cX12_stale 60 = .ok (.if_icmp .gt 32, 3) := by decide +kernel
theorem dX12_stale_63 : decode cX12_stale 63 = .ok (.aload_n 0, 1) := by decide +kernel
theorem dX12_stale_64 : decode cX12_stale 64 = .ok (.iconst 1, 1) := by decide +kernel
theorem dX12_stale_65 : decode cX12_stale 65 = .ok (.iload 5, 2) := by decide +kernel
theorem dX12_stale_67 : decode cX12_stale 67 = .ok (.invokevirtual 198, 3) := by decide +kernel
theorem dX12_stale_70 : decode cX12_stale 70 = .ok (.aload_n 0, 1) := by decide +kernel
theorem dX12_stale_71 : decode cX12_stale 71 = .ok (.iload_n 1, 1) := by decide +kernel
theorem dX12_stale_72 : decode cX12_stale 72 = .ok (.iload_n 2, 1) := by decide +kernel
theorem dX12_stale_73 : decode cX12_stale 73 = .ok (.iconst (-1), 1) := by decide +kernel
theorem dX12_stale_74 : decode cX12_stale 74 = .ok (.invokevirtual 334, 3) := by decide +kernel
theorem dX12_stale_77 : decode cX12_stale 77 = .ok (.iconst 1, 1) := by decide +kernel
theorem dX12_stale_78 : decode cX12_stale 78 = .ok (.iload_n 3, 1) := by decide +kernel
theorem dX12_stale_79 : decode cX12_stale 79 = .ok (.ishl, 1) := by decide +kernel
theorem dX12_stale_80 : decode cX12_stale 80 = .ok (.if_icmp .eq 6, 3) := by decide +kernel
theorem dX12_stale_83 : decode cX12_stale 83 = .ok (.iload 5, 2) := by decide +kernel
theorem dX12_stale_85 : decode cX12_stale 85 = .ok (.ireturn, 1) := by decide +kernel
theorem dX12_stale_86 : decode cX12_stale 86 = .ok (.iinc 5 1, 3) := by decide +kernel
theorem dX12_stale_89 : decode cX12_stale 89 = .ok (.goto (-44), 3) := by decide +kernel
theorem dX12_stale_92 : decode cX12_stale 92 = .ok (.bipush (-2), 2) := by decide +kernel
theorem dX12_stale_94 : decode cX12_stale 94 = .ok (.ireturn, 1) := by decide +kernel
theorem dX12_letter_0 : decode cX12_letter 0 = .ok (.aload_n 0, 1) := by decide +kernel
theorem dX12_letter_1 : decode cX12_letter 1 = .ok (.getfield 7, 3) := by decide +kernel
theorem dX12_letter_4 : decode cX12_letter 4 = .ok (.iconst 3, 1) := by decide +kernel
theorem dX12_letter_5 : decode cX12_letter 5 = .ok (.iaload, 1) := by decide +kernel
theorem dX12_letter_6 : decode cX12_letter 6 = .ok (.istore 5, 2) := by decide +kernel
theorem dX12_letter_8 : decode cX12_letter 8 = .ok (.iload 5, 2) := by decide +kernel
theorem dX12_letter_10 : decode cX12_letter 10 = .ok (.bipush 8, 2) := by decide +kernel
theorem dX12_letter_12 : decode cX12_letter 12 = .ok (.if_icmp .eq 40, 3) := by decide +kernel
theorem dX12_letter_15 : decode cX12_letter 15 = .ok (.aload_n 0, 1) := by decide +kernel
theorem dX12_letter_16 : decode cX12_letter 16 = .ok (.iload_n 1, 1) := by decide +kernel
theorem dX12_letter_17 : decode cX12_letter 17 = .ok (.invokevirtual 175, 3) := by decide +kernel
theorem dX12_letter_20 : decode cX12_letter 20 = .ok (.ifCond .eq 32, 3) := by decide +kernel
theorem dX12_letter_23 : decode cX12_letter 23 = .ok (.aload_n 0, 1) := by decide +kernel
theorem dX12_letter_24 : decode cX12_letter 24 = .ok (.iload_n 2, 1) := by decide +kernel
theorem dX12_letter_25 : decode cX12_letter 25 = .ok (.invokevirtual 331, 3) := by decide +kernel
theorem dX12_letter_28 : decode cX12_letter 28 = .ok (.ifCond .eq 24, 3) := by decide +kernel
theorem dX12_letter_31 : decode cX12_letter 31 = .ok (.aload_n 0, 1) := by decide +kernel
theorem dX12_letter_32 : decode cX12_letter 32 = .ok (.iload_n 3, 1) := by decide +kernel
theorem dX12_letter_33 : decode cX12_letter 33 = .ok (.invokevirtual 175, 3) := by decide +kernel
theorem dX12_letter_36 : decode cX12_letter 36 = .ok (.ifCond .eq 16, 3) := by decide +kernel
theorem dX12_letter_39 : decode cX12_letter 39 = .ok (.iload_n 3, 1) := by decide +kernel
theorem dX12_letter_40 : decode cX12_letter 40 = .ok (.iload_n 1, 1) := by decide +kernel
theorem dX12_letter_41 : decode cX12_letter 41 = .ok (.if_icmp .eq 11, 3) := by decide +kernel
theorem dX12_letter_44 : decode cX12_letter 44 = .ok (.iload 4, 2) := by decide +kernel
theorem dX12_letter_46 : decode cX12_letter 46 = .ok (.invokestatic 160, 3) := by decide +kernel
theorem dX12_letter_49 : decode cX12_letter 49 = .ok (.ifCond .ne 5, 3) := by decide +kernel
theorem dX12_letter_52 : decode cX12_letter 52 = .ok (.iconst (-1), 1) := by decide +kernel
theorem dX12_letter_53 : decode cX12_letter 53 = .ok (.ireturn, 1) := by decide +kernel
theorem dX12_letter_54 : decode cX12_letter 54 = .ok (.aload_n 0, 1) := by decide +kernel
theorem dX12_letter_55 : decode cX12_letter 55 = .ok (.getfield 52, 3) := by decide +kernel
theorem dX12_letter_58 : decode cX12_letter 58 = .ok (.iload 5, 2) := by decide +kernel
theorem dX12_letter_60 : decode cX12_letter 60 = .ok (.iload_n 1, 1) := by decide +kernel
theorem dX12_letter_61 : decode cX12_letter 61 = .ok (.iastore, 1) := by decide +kernel
theorem dX12_letter_62 : decode cX12_letter 62 = .ok (.aload_n 0, 1) := by decide +kernel
theorem dX12_letter_63 : decode cX12_letter 63 = .ok (.getfield 55, 3) := by decide +kernel
theorem dX12_letter_66 : decode cX12_letter 66 = .ok (.iload 5, 2) := by decide +kernel
theorem dX12_letter_68 : decode cX12_letter 68 = .ok (.iload_n 2, 1) := by decide +kernel
theorem dX12_letter_69 : decode cX12_letter 69 = .ok (.iastore, 1) := by decide +kernel
theorem dX12_letter_70 : decode cX12_letter 70 = .ok (.aload_n 0, 1) := by decide +kernel
theorem dX12_letter_71 : decode cX12_letter 71 = .ok (.getfield 58, 3) := by decide +kernel
theorem dX12_letter_74 : decode cX12_letter 74 = .ok (.iload 5, 2) := by decide +kernel
theorem dX12_letter_76 : decode cX12_letter 76 = .ok (.iload_n 3, 1) := by decide +kernel
theorem dX12_letter_77 : decode cX12_letter 77 = .ok (.iastore, 1) := by decide +kernel
theorem dX12_letter_78 : decode cX12_letter 78 = .ok (.aload_n 0, 1) := by decide +kernel
theorem dX12_letter_79 : decode cX12_letter 79 = .ok (.getfield 61, 3) := by decide +kernel
theorem dX12_letter_82 : decode cX12_letter 82 = .ok (.iload 5, 2) := by decide +kernel
theorem dX12_letter_84 : decode cX12_letter 84 = .ok (.aload_n 0, 1) := by decide +kernel
theorem dX12_letter_85 : decode cX12_letter 85 = .ok (.getfield 7, 3) := by decide +kernel
theorem dX12_letter_88 : decode cX12_letter 88 = .ok (.iconst 5, 1) := by decide +kernel
theorem dX12_letter_89 : decode cX12_letter 89 = .ok (.iaload, 1) := by decide +kernel
theorem dX12_letter_90 : decode cX12_letter 90 = .ok (.iastore, 1) := by decide +kernel
theorem dX12_letter_91 : decode cX12_letter 91 = .ok (.aload_n 0, 1) := by decide +kernel
theorem dX12_letter_92 : decode cX12_letter 92 = .ok (.getfield 64, 3) := by decide +kernel
theorem dX12_letter_95 : decode cX12_letter 95 = .ok (.iload 5, 2) := by decide +kernel
theorem dX12_letter_97 : decode cX12_letter 97 = .ok (.iconst 0, 1) := by decide +kernel
theorem dX12_letter_98 : decode cX12_letter 98 = .ok (.iastore, 1) := by decide +kernel
theorem dX12_letter_99 : decode cX12_letter 99 = .ok (.aload_n 0, 1) := by decide +kernel
theorem dX12_letter_100 : decode cX12_letter 100 = .ok (.getfield 67, 3) := by decide +kernel
theorem dX12_letter_103 : decode cX12_letter 103 = .ok (.iload 5, 2) := by decide +kernel
theorem dX12_letter_105 : decode cX12_letter 105 = .ok (.iload 4, 2) := by decide +kernel
theorem dX12_letter_107 : decode cX12_letter 107 = .ok (.iastore, 1) := by decide +kernel
theorem dX12_letter_108 : decode cX12_letter 108 = .ok (.aload_n 0, 1) := by decide +kernel
theorem dX12_letter_109 : decode cX12_letter 109 = .ok (.getfield 70, 3) := by decide +kernel
theorem dX12_letter_112 : decode cX12_letter 112 = .ok (.iload 5, 2) := by decide +kernel
theorem dX12_letter_114 : decode cX12_letter 114 = .ok (.aload_n 0, 1) := by decide +kernel
theorem dX12_letter_115 : decode cX12_letter 115 = .ok (.getfield 7, 3) := by decide +kernel
theorem dX12_letter_118 : decode cX12_letter 118 = .ok (.iconst 5, 1) := by decide +kernel
theorem dX12_letter_119 : decode cX12_letter 119 = .ok (.iaload, 1) := by decide +kernel
theorem dX12_letter_120 : decode cX12_letter 120 = .ok (.iastore, 1) := by decide +kernel
theorem dX12_letter_121 : decode cX12_letter 121 = .ok (.aload_n 0, 1) := by decide +kernel
theorem dX12_letter_122 : decode cX12_letter 122 = .ok (.getfield 73, 3) := by decide +kernel
theorem dX12_letter_125 : decode cX12_letter 125 = .ok (.iload 5, 2) := by decide +kernel
theorem dX12_letter_127 : decode cX12_letter 127 = .ok (.iconst (-1), 1) := by decide +kernel
theorem dX12_letter_128 : decode cX12_letter 128 = .ok (.iastore, 1) := by decide +kernel
theorem dX12_letter_129 : decode cX12_letter 129 = .ok (.aload_n 0, 1) := by decide +kernel
theorem dX12_letter_130 : decode cX12_letter 130 = .ok (.getfield 76, 3) := by decide +kernel
theorem dX12_letter_133 : decode cX12_letter 133 = .ok (.iload 5, 2) := by decide +kernel
theorem dX12_letter_135 : decode cX12_letter 135 = .ok (.iconst 1, 1) := by decide +kernel
theorem dX12_letter_136 : decode cX12_letter 136 = .ok (.iload 4, 2) := by decide +kernel
theorem dX12_letter_138 : decode cX12_letter 138 = .ok (.ishl, 1) := by decide +kernel
theorem dX12_letter_139 : decode cX12_letter 139 = .ok (.iastore, 1) := by decide +kernel
theorem dX12_letter_140 : decode cX12_letter 140 = .ok (.aload_n 0, 1) := by decide +kernel
theorem dX12_letter_141 : decode cX12_letter 141 = .ok (.getfield 7, 3) := by decide +kernel
theorem dX12_letter_144 : decode cX12_letter 144 = .ok (.iconst 3, 1) := by decide +kernel
theorem dX12_letter_145 : decode cX12_letter 145 = .ok (.dup2, 1) := by decide +kernel
theorem dX12_letter_146 : decode cX12_letter 146 = .ok (.iaload, 1) := by decide +kernel
theorem dX12_letter_147 : decode cX12_letter 147 = .ok (.iconst 1, 1) := by decide +kernel
theorem dX12_letter_148 : decode cX12_letter 148 = .ok (.iadd, 1) := by decide +kernel
theorem dX12_letter_149 : decode cX12_letter 149 = .ok (.iastore, 1) := by decide +kernel
theorem dX12_letter_150 : decode cX12_letter 150 = .ok (.iload 5, 2) := by decide +kernel
theorem dX12_letter_152 : decode cX12_letter 152 = .ok (.ireturn, 1) := by decide +kernel
theorem dX12_unseen_0 : decode cX12_unseen 0 = .ok (.iconst (-1), 1) := by decide +kernel
theorem dX12_unseen_1 : decode cX12_unseen 1 = .ok (.istore_n 3, 1) := by decide +kernel
theorem dX12_unseen_2 : decode cX12_unseen 2 = .ok (.iconst 0, 1) := by decide +kernel
theorem dX12_unseen_3 : decode cX12_unseen 3 = .ok (.istore 4, 2) := by decide +kernel
theorem dX12_unseen_5 : decode cX12_unseen 5 = .ok (.iload 4, 2) := by decide +kernel
theorem dX12_unseen_7 : decode cX12_unseen 7 = .ok (.bipush 8, 2) := by decide +kernel
theorem dX12_unseen_9 : decode cX12_unseen 9 = .ok (.if_icmp .ge 62, 3) := by decide +kernel
theorem dX12_unseen_12 : decode cX12_unseen 12 = .ok (.aload_n 0, 1) := by decide +kernel
theorem dX12_unseen_13 : decode cX12_unseen 13 = .ok (.iload_n 1, 1) := by decide +kernel
theorem dX12_unseen_14 : decode cX12_unseen 14 = .ok (.iload 4, 2) := by decide +kernel
theorem dX12_unseen_16 : decode cX12_unseen 16 = .ok (.invokevirtual 166, 3) := by decide +kernel
theorem dX12_unseen_19 : decode cX12_unseen 19 = .ok (.istore 5, 2) := by decide +kernel
theorem dX12_unseen_21 : decode cX12_unseen 21 = .ok (.iload 5, 2) := by decide +kernel
theorem dX12_unseen_23 : decode cX12_unseen 23 = .ok (.iconst (-1), 1) := by decide +kernel
theorem dX12_unseen_24 : decode cX12_unseen 24 = .ok (.if_icmp .eq 41, 3) := by decide +kernel
theorem dX12_unseen_27 : decode cX12_unseen 27 = .ok (.iload_n 2, 1) := by decide +kernel
theorem dX12_unseen_28 : decode cX12_unseen 28 = .ok (.iload 4, 2) := by decide +kernel
theorem dX12_unseen_30 : decode cX12_unseen 30 = .ok (.invokestatic 148, 3) := by decide +kernel
theorem dX12_unseen_33 : decode cX12_unseen 33 = .ok (.ifCond .ne 32, 3) := by decide +kernel
theorem dX12_unseen_36 : decode cX12_unseen 36 = .ok (.iload_n 3, 1) := by decide +kernel
theorem dX12_unseen_37 : decode cX12_unseen 37 = .ok (.iconst (-1), 1) := by decide +kernel
theorem dX12_unseen_38 : decode cX12_unseen 38 = .ok (.if_icmp .eq 24, 3) := by decide +kernel
theorem dX12_unseen_41 : decode cX12_unseen 41 = .ok (.aload_n 0, 1) := by decide +kernel
theorem dX12_unseen_42 : decode cX12_unseen 42 = .ok (.getfield 31, 3) := by decide +kernel
theorem dX12_unseen_45 : decode cX12_unseen 45 = .ok (.iload 5, 2) := by decide +kernel
theorem dX12_unseen_47 : decode cX12_unseen 47 = .ok (.iaload, 1) := by decide +kernel
theorem dX12_unseen_48 : decode cX12_unseen 48 = .ok (.aload_n 0, 1) := by decide +kernel
theorem dX12_unseen_49 : decode cX12_unseen 49 = .ok (.getfield 31, 3) := by decide +kernel
theorem dX12_unseen_52 : decode cX12_unseen 52 = .ok (.aload_n 0, 1) := by decide +kernel
theorem dX12_unseen_53 : decode cX12_unseen 53 = .ok (.iload_n 1, 1) := by decide +kernel
theorem dX12_unseen_54 : decode cX12_unseen 54 = .ok (.iload_n 3, 1) := by decide +kernel
theorem dX12_unseen_55 : decode cX12_unseen 55 = .ok (.invokevirtual 166, 3) := by decide +kernel
theorem dX12_unseen_58 : decode cX12_unseen 58 = .ok (.iaload, 1) := by decide +kernel
theorem dX12_unseen_59 : decode cX12_unseen 59 = .ok (.if_icmp .ge 6, 3) := by decide +kernel
theorem dX12_unseen_62 : decode cX12_unseen 62 = .ok (.iload 4, 2) := by decide +kernel
theorem dX12_unseen_64 : decode cX12_unseen 64 = .ok (.istore_n 3, 1) := by decide +kernel
theorem dX12_unseen_65 : decode cX12_unseen 65 = .ok (.iinc 4 1, 3) := by decide +kernel
theorem dX12_unseen_68 : decode cX12_unseen 68 = .ok (.goto (-63), 3) := by decide +kernel
theorem dX12_unseen_71 : decode cX12_unseen 71 = .ok (.iload_n 3, 1) := by decide +kernel
theorem dX12_unseen_72 : decode cX12_unseen 72 = .ok (.ireturn, 1) := by decide +kernel
theorem dX12_goesOn_0 : decode cX12_goesOn 0 = .ok (.aload_n 0, 1) := by decide +kernel
theorem dX12_goesOn_1 : decode cX12_goesOn 1 = .ok (.iconst 0, 1) := by decide +kernel
theorem dX12_goesOn_2 : decode cX12_goesOn 2 = .ok (.aload_n 0, 1) := by decide +kernel
theorem dX12_goesOn_3 : decode cX12_goesOn 3 = .ok (.getfield 61, 3) := by decide +kernel
theorem dX12_goesOn_6 : decode cX12_goesOn 6 = .ok (.iload_n 1, 1) := by decide +kernel
theorem dX12_goesOn_7 : decode cX12_goesOn 7 = .ok (.iaload, 1) := by decide +kernel
theorem dX12_goesOn_8 : decode cX12_goesOn 8 = .ok (.invokevirtual 198, 3) := by decide +kernel
theorem dX12_goesOn_11 : decode cX12_goesOn 11 = .ok (.aload_n 0, 1) := by decide +kernel
theorem dX12_goesOn_12 : decode cX12_goesOn 12 = .ok (.iconst 1, 1) := by decide +kernel
theorem dX12_goesOn_13 : decode cX12_goesOn 13 = .ok (.aload_n 0, 1) := by decide +kernel
theorem dX12_goesOn_14 : decode cX12_goesOn 14 = .ok (.getfield 7, 3) := by decide +kernel
theorem dX12_goesOn_17 : decode cX12_goesOn 17 = .ok (.iconst 5, 1) := by decide +kernel
theorem dX12_goesOn_18 : decode cX12_goesOn 18 = .ok (.iaload, 1) := by decide +kernel
theorem dX12_goesOn_19 : decode cX12_goesOn 19 = .ok (.invokevirtual 198, 3) := by decide +kernel
theorem dX12_goesOn_22 : decode cX12_goesOn 22 = .ok (.aload_n 0, 1) := by decide +kernel
theorem dX12_goesOn_23 : decode cX12_goesOn 23 = .ok (.aload_n 0, 1) := by decide +kernel
theorem dX12_goesOn_24 : decode cX12_goesOn 24 = .ok (.getfield 55, 3) := by decide +kernel
theorem dX12_goesOn_27 : decode cX12_goesOn 27 = .ok (.iload_n 1, 1) := by decide +kernel
theorem dX12_goesOn_28 : decode cX12_goesOn 28 = .ok (.iaload, 1) := by decide +kernel
theorem dX12_goesOn_29 : decode cX12_goesOn 29 = .ok (.aload_n 0, 1) := by decide +kernel
theorem dX12_goesOn_30 : decode cX12_goesOn 30 = .ok (.getfield 52, 3) := by decide +kernel
theorem dX12_goesOn_33 : decode cX12_goesOn 33 = .ok (.iload_n 1, 1) := by decide +kernel
theorem dX12_goesOn_34 : decode cX12_goesOn 34 = .ok (.iaload, 1) := by decide +kernel
theorem dX12_goesOn_35 : decode cX12_goesOn 35 = .ok (.aload_n 0, 1) := by decide +kernel
theorem dX12_goesOn_36 : decode cX12_goesOn 36 = .ok (.getfield 67, 3) := by decide +kernel
theorem dX12_goesOn_39 : decode cX12_goesOn 39 = .ok (.iload_n 1, 1) := by decide +kernel
theorem dX12_goesOn_40 : decode cX12_goesOn 40 = .ok (.iaload, 1) := by decide +kernel
theorem dX12_goesOn_41 : decode cX12_goesOn 41 = .ok (.invokevirtual 352, 3) := by decide +kernel
theorem dX12_goesOn_44 : decode cX12_goesOn 44 = .ok (.istore_n 2, 1) := by decide +kernel
theorem dX12_goesOn_45 : decode cX12_goesOn 45 = .ok (.iload_n 2, 1) := by decide +kernel
theorem dX12_goesOn_46 : decode cX12_goesOn 46 = .ok (.ifCond .ne 21, 3) := by decide +kernel
theorem dX12_goesOn_49 : decode cX12_goesOn 49 = .ok (.aload_n 0, 1) := by decide +kernel
theorem dX12_goesOn_50 : decode cX12_goesOn 50 = .ok (.getfield 64, 3) := by decide +kernel
theorem dX12_goesOn_53 : decode cX12_goesOn 53 = .ok (.iload_n 1, 1) := by decide +kernel
theorem dX12_goesOn_54 : decode cX12_goesOn 54 = .ok (.iconst 1, 1) := by decide +kernel
theorem dX12_goesOn_55 : decode cX12_goesOn 55 = .ok (.iastore, 1) := by decide +kernel
theorem dX12_goesOn_56 : decode cX12_goesOn 56 = .ok (.aload_n 0, 1) := by decide +kernel
theorem dX12_goesOn_57 : decode cX12_goesOn 57 = .ok (.getfield 73, 3) := by decide +kernel
theorem dX12_goesOn_60 : decode cX12_goesOn 60 = .ok (.iload_n 1, 1) := by decide +kernel
theorem dX12_goesOn_61 : decode cX12_goesOn 61 = .ok (.aload_n 0, 1) := by decide +kernel
theorem dX12_goesOn_62 : decode cX12_goesOn 62 = .ok (.getfield 337, 3) := by decide +kernel
theorem dX12_goesOn_65 : decode cX12_goesOn 65 = .ok (.iastore, 1) := by decide +kernel
theorem dX12_goesOn_66 : decode cX12_goesOn 66 = .ok (.return_, 1) := by decide +kernel
theorem dX12_goesOn_67 : decode cX12_goesOn 67 = .ok (.iload_n 2, 1) := by decide +kernel
theorem dX12_goesOn_68 : decode cX12_goesOn 68 = .ok (.iconst 1, 1) := by decide +kernel
theorem dX12_goesOn_69 : decode cX12_goesOn 69 = .ok (.if_icmp .ne 10, 3) := by decide +kernel
theorem dX12_goesOn_72 : decode cX12_goesOn 72 = .ok (.aload_n 0, 1) := by decide +kernel
theorem dX12_goesOn_73 : decode cX12_goesOn 73 = .ok (.getfield 340, 3) := by decide +kernel
theorem dX12_goesOn_76 : decode cX12_goesOn 76 = .ok (.goto 19, 3) := by decide +kernel
theorem dX12_goesOn_79 : decode cX12_goesOn 79 = .ok (.aload_n 0, 1) := by decide +kernel
theorem dX12_goesOn_80 : decode cX12_goesOn 80 = .ok (.aload_n 0, 1) := by decide +kernel
theorem dX12_goesOn_81 : decode cX12_goesOn 81 = .ok (.getfield 67, 3) := by decide +kernel
theorem dX12_goesOn_84 : decode cX12_goesOn 84 = .ok (.iload_n 1, 1) := by decide +kernel
theorem dX12_goesOn_85 : decode cX12_goesOn 85 = .ok (.iaload, 1) := by decide +kernel
theorem dX12_goesOn_86 : decode cX12_goesOn 86 = .ok (.aload_n 0, 1) := by decide +kernel
theorem dX12_goesOn_87 : decode cX12_goesOn 87 = .ok (.getfield 76, 3) := by decide +kernel
theorem dX12_goesOn_90 : decode cX12_goesOn 90 = .ok (.iload_n 1, 1) := by decide +kernel
theorem dX12_goesOn_91 : decode cX12_goesOn 91 = .ok (.iaload, 1) := by decide +kernel
theorem dX12_goesOn_92 : decode cX12_goesOn 92 = .ok (.invokevirtual 355, 3) := by decide +kernel
theorem dX12_goesOn_95 : decode cX12_goesOn 95 = .ok (.istore_n 3, 1) := by decide +kernel
theorem dX12_goesOn_96 : decode cX12_goesOn 96 = .ok (.iload_n 3, 1) := by decide +kernel
theorem dX12_goesOn_97 : decode cX12_goesOn 97 = .ok (.iconst (-1), 1) := by decide +kernel
theorem dX12_goesOn_98 : decode cX12_goesOn 98 = .ok (.if_icmp .ne 11, 3) := by decide +kernel
theorem dX12_goesOn_101 : decode cX12_goesOn 101 = .ok (.aload_n 0, 1) := by decide +kernel
theorem dX12_goesOn_102 : decode cX12_goesOn 102 = .ok (.getfield 64, 3) := by decide +kernel
theorem dX12_goesOn_105 : decode cX12_goesOn 105 = .ok (.iload_n 1, 1) := by decide +kernel
theorem dX12_goesOn_106 : decode cX12_goesOn 106 = .ok (.iconst 2, 1) := by decide +kernel
theorem dX12_goesOn_107 : decode cX12_goesOn 107 = .ok (.iastore, 1) := by decide +kernel
theorem dX12_goesOn_108 : decode cX12_goesOn 108 = .ok (.return_, 1) := by decide +kernel
theorem dX12_goesOn_109 : decode cX12_goesOn 109 = .ok (.aload_n 0, 1) := by decide +kernel
theorem dX12_goesOn_110 : decode cX12_goesOn 110 = .ok (.getfield 70, 3) := by decide +kernel
theorem dX12_goesOn_113 : decode cX12_goesOn 113 = .ok (.iload_n 1, 1) := by decide +kernel
theorem dX12_goesOn_114 : decode cX12_goesOn 114 = .ok (.aload_n 0, 1) := by decide +kernel
theorem dX12_goesOn_115 : decode cX12_goesOn 115 = .ok (.getfield 7, 3) := by decide +kernel
theorem dX12_goesOn_118 : decode cX12_goesOn 118 = .ok (.iconst 5, 1) := by decide +kernel
theorem dX12_goesOn_119 : decode cX12_goesOn 119 = .ok (.iaload, 1) := by decide +kernel
theorem dX12_goesOn_120 : decode cX12_goesOn 120 = .ok (.aload_n 0, 1) := by decide +kernel
theorem dX12_goesOn_121 : decode cX12_goesOn 121 = .ok (.getfield 31, 3) := by decide +kernel
theorem dX12_goesOn_124 : decode cX12_goesOn 124 = .ok (.aload_n 0, 1) := by decide +kernel
theorem dX12_goesOn_125 : decode cX12_goesOn 125 = .ok (.aload_n 0, 1) := by decide +kernel
theorem dX12_goesOn_126 : decode cX12_goesOn 126 = .ok (.getfield 67, 3) := by decide +kernel
theorem dX12_goesOn_129 : decode cX12_goesOn 129 = .ok (.iload_n 1, 1) := by decide +kernel
theorem dX12_goesOn_130 : decode cX12_goesOn 130 = .ok (.iaload, 1) := by decide +kernel
theorem dX12_goesOn_131 : decode cX12_goesOn 131 = .ok (.iload_n 3, 1) := by decide +kernel
theorem dX12_goesOn_132 : decode cX12_goesOn 132 = .ok (.invokevirtual 166, 3) := by decide +kernel
theorem dX12_goesOn_135 : decode cX12_goesOn 135 = .ok (.iaload, 1) := by decide +kernel
theorem dX12_goesOn_136 : decode cX12_goesOn 136 = .ok (.iadd, 1) := by decide +kernel
theorem dX12_goesOn_137 : decode cX12_goesOn 137 = .ok (.iastore, 1) := by decide +kernel
theorem dX12_goesOn_138 : decode cX12_goesOn 138 = .ok (.aload_n 0, 1) := by decide +kernel
theorem dX12_goesOn_139 : decode cX12_goesOn 139 = .ok (.getfield 67, 3) := by decide +kernel
theorem dX12_goesOn_142 : decode cX12_goesOn 142 = .ok (.iload_n 1, 1) := by decide +kernel
theorem dX12_goesOn_143 : decode cX12_goesOn 143 = .ok (.iload_n 3, 1) := by decide +kernel
theorem dX12_goesOn_144 : decode cX12_goesOn 144 = .ok (.iastore, 1) := by decide +kernel
theorem dX12_goesOn_145 : decode cX12_goesOn 145 = .ok (.aload_n 0, 1) := by decide +kernel
theorem dX12_goesOn_146 : decode cX12_goesOn 146 = .ok (.getfield 76, 3) := by decide +kernel
theorem dX12_goesOn_149 : decode cX12_goesOn 149 = .ok (.iload_n 1, 1) := by decide +kernel
theorem dX12_goesOn_150 : decode cX12_goesOn 150 = .ok (.dup2, 1) := by decide +kernel
theorem dX12_goesOn_151 : decode cX12_goesOn 151 = .ok (.iaload, 1) := by decide +kernel
theorem dX12_goesOn_152 : decode cX12_goesOn 152 = .ok (.iconst 1, 1) := by decide +kernel
theorem dX12_goesOn_153 : decode cX12_goesOn 153 = .ok (.iload_n 3, 1) := by decide +kernel
theorem dX12_goesOn_154 : decode cX12_goesOn 154 = .ok (.ishl, 1) := by decide +kernel
theorem dX12_goesOn_155 : decode cX12_goesOn 155 = .ok (.ior, 1) := by decide +kernel
theorem dX12_goesOn_156 : decode cX12_goesOn 156 = .ok (.iastore, 1) := by decide +kernel
theorem dX12_goesOn_157 : decode cX12_goesOn 157 = .ok (.return_, 1) := by decide +kernel
theorem dX12_underWay_0 : decode cX12_underWay 0 = .ok (.iconst 0, 1) := by decide +kernel
theorem dX12_underWay_1 : decode cX12_underWay 1 = .ok (.istore_n 1, 1) := by decide +kernel
theorem dX12_underWay_2 : decode cX12_underWay 2 = .ok (.iconst 0, 1) := by decide +kernel
theorem dX12_underWay_3 : decode cX12_underWay 3 = .ok (.istore_n 2, 1) := by decide +kernel
theorem dX12_underWay_4 : decode cX12_underWay 4 = .ok (.iload_n 2, 1) := by decide +kernel
theorem dX12_underWay_5 : decode cX12_underWay 5 = .ok (.aload_n 0, 1) := by decide +kernel
theorem dX12_underWay_6 : decode cX12_underWay 6 = .ok (.getfield 7, 3) := by decide +kernel
theorem dX12_underWay_9 : decode cX12_underWay 9 = .ok (.iconst 3, 1) := by decide +kernel
theorem dX12_underWay_10 : decode cX12_underWay 10 = .ok (.iaload, 1) := by decide +kernel
theorem dX12_underWay_11 : decode cX12_underWay 11 = .ok (.if_icmp .ge 26, 3) := by decide +kernel
theorem dX12_underWay_14 : decode cX12_underWay 14 = .ok (.iload_n 1, 1) := by decide +kernel
theorem dX12_underWay_15 : decode cX12_underWay 15 = .ok (.aload_n 0, 1) := by decide +kernel
theorem dX12_underWay_16 : decode cX12_underWay 16 = .ok (.getfield 64, 3) := by decide +kernel
theorem dX12_underWay_19 : decode cX12_underWay 19 = .ok (.iload_n 2, 1) := by decide +kernel
theorem dX12_underWay_20 : decode cX12_underWay 20 = .ok (.iaload, 1) := by decide +kernel
theorem dX12_underWay_21 : decode cX12_underWay 21 = .ok (.ifCond .ne 7, 3) := by decide +kernel
theorem dX12_underWay_24 : decode cX12_underWay 24 = .ok (.iconst 1, 1) := by decide +kernel
theorem dX12_underWay_25 : decode cX12_underWay 25 = .ok (.goto 4, 3) := by decide +kernel
theorem dX12_underWay_28 : decode cX12_underWay 28 = .ok (.iconst 0, 1) := by decide +kernel
theorem dX12_underWay_29 : decode cX12_underWay 29 = .ok (.iadd, 1) := by decide +kernel
theorem dX12_underWay_30 : decode cX12_underWay 30 = .ok (.istore_n 1, 1) := by decide +kernel
theorem dX12_underWay_31 : decode cX12_underWay 31 = .ok (.iinc 2 1, 3) := by decide +kernel
theorem dX12_underWay_34 : decode cX12_underWay 34 = .ok (.goto (-30), 3) := by decide +kernel
theorem dX12_underWay_37 : decode cX12_underWay 37 = .ok (.iload_n 1, 1) := by decide +kernel
theorem dX12_underWay_38 : decode cX12_underWay 38 = .ok (.ireturn, 1) := by decide +kernel
theorem dX12_days_0 : decode cX12_days 0 = .ok (.iload_n 1, 1) := by decide +kernel
theorem dX12_days_1 : decode cX12_days 1 = .ok (.i2l, 1) := by decide +kernel
theorem dX12_days_2 : decode cX12_days 2 = .ok (.lconst 1, 1) := by decide +kernel
theorem dX12_days_3 : decode cX12_days 3 = .ok (.ldc2_w 358, 3) := by decide +kernel
theorem dX12_days_6 : decode cX12_days 6 = .ok (.invokestatic 154, 3) := by decide +kernel
theorem dX12_days_9 : decode cX12_days 9 = .ok (.ifCond .eq 17, 3) := by decide +kernel
theorem dX12_days_12 : decode cX12_days 12 = .ok (.aload_n 0, 1) := by decide +kernel
theorem dX12_days_13 : decode cX12_days 13 = .ok (.getfield 7, 3) := by decide +kernel
theorem dX12_days_16 : decode cX12_days 16 = .ok (.iconst 5, 1) := by decide +kernel
theorem dX12_days_17 : decode cX12_days 17 = .ok (.iaload, 1) := by decide +kernel
theorem dX12_days_18 : decode cX12_days 18 = .ok (.iload_n 1, 1) := by decide +kernel
theorem dX12_days_19 : decode cX12_days 19 = .ok (.iadd, 1) := by decide +kernel
theorem dX12_days_20 : decode cX12_days 20 = .ok (.sipush 999, 3) := by decide +kernel
theorem dX12_days_23 : decode cX12_days 23 = .ok (.if_icmp .le 5, 3) := by decide +kernel
theorem dX12_days_26 : decode cX12_days 26 = .ok (.iconst (-1), 1) := by decide +kernel
theorem dX12_days_27 : decode cX12_days 27 = .ok (.ireturn, 1) := by decide +kernel
theorem dX12_days_28 : decode cX12_days 28 = .ok (.iconst 0, 1) := by decide +kernel
theorem dX12_days_29 : decode cX12_days 29 = .ok (.istore_n 2, 1) := by decide +kernel
theorem dX12_days_30 : decode cX12_days 30 = .ok (.iload_n 2, 1) := by decide +kernel
theorem dX12_days_31 : decode cX12_days 31 = .ok (.iload_n 1, 1) := by decide +kernel
theorem dX12_days_32 : decode cX12_days 32 = .ok (.if_icmp .ge 66, 3) := by decide +kernel
theorem dX12_days_35 : decode cX12_days 35 = .ok (.iconst 0, 1) := by decide +kernel
theorem dX12_days_36 : decode cX12_days 36 = .ok (.istore_n 3, 1) := by decide +kernel
theorem dX12_days_37 : decode cX12_days 37 = .ok (.iload_n 3, 1) := by decide +kernel
theorem dX12_days_38 : decode cX12_days 38 = .ok (.aload_n 0, 1) := by decide +kernel
theorem dX12_days_39 : decode cX12_days 39 = .ok (.getfield 7, 3) := by decide +kernel
theorem dX12_days_42 : decode cX12_days 42 = .ok (.iconst 3, 1) := by decide +kernel
theorem dX12_days_43 : decode cX12_days 43 = .ok (.iaload, 1) := by decide +kernel
theorem dX12_days_44 : decode cX12_days 44 = .ok (.if_icmp .ge 38, 3) := by decide +kernel
theorem dX12_days_47 : decode cX12_days 47 = .ok (.aload_n 0, 1) := by decide +kernel
theorem dX12_days_48 : decode cX12_days 48 = .ok (.getfield 64, 3) := by decide +kernel
theorem dX12_days_51 : decode cX12_days 51 = .ok (.iload_n 3, 1) := by decide +kernel
theorem dX12_days_52 : decode cX12_days 52 = .ok (.iaload, 1) := by decide +kernel
theorem dX12_days_53 : decode cX12_days 53 = .ok (.ifCond .ne 23, 3) := by decide +kernel
theorem dX12_days_56 : decode cX12_days 56 = .ok (.aload_n 0, 1) := by decide +kernel
theorem dX12_days_57 : decode cX12_days 57 = .ok (.getfield 70, 3) := by decide +kernel
theorem dX12_days_60 : decode cX12_days 60 = .ok (.iload_n 3, 1) := by decide +kernel
theorem dX12_days_61 : decode cX12_days 61 = .ok (.iaload, 1) := by decide +kernel
theorem dX12_days_62 : decode cX12_days 62 = .ok (.aload_n 0, 1) := by decide +kernel
theorem dX12_days_63 : decode cX12_days 63 = .ok (.getfield 7, 3) := by decide +kernel
theorem dX12_days_66 : decode cX12_days 66 = .ok (.iconst 5, 1) := by decide +kernel
theorem dX12_days_67 : decode cX12_days 67 = .ok (.iaload, 1) := by decide +kernel
theorem dX12_days_68 : decode cX12_days 68 = .ok (.if_icmp .ne 8, 3) := by decide +kernel
theorem dX12_days_71 : decode cX12_days 71 = .ok (.aload_n 0, 1) := by decide +kernel
theorem dX12_days_72 : decode cX12_days 72 = .ok (.iload_n 3, 1) := by decide +kernel
theorem dX12_days_73 : decode cX12_days 73 = .ok (.invokevirtual 360, 3) := by decide +kernel
theorem dX12_days_76 : decode cX12_days 76 = .ok (.iinc 3 1, 3) := by decide +kernel
theorem dX12_days_79 : decode cX12_days 79 = .ok (.goto (-42), 3) := by decide +kernel
theorem dX12_days_82 : decode cX12_days 82 = .ok (.aload_n 0, 1) := by decide +kernel
theorem dX12_days_83 : decode cX12_days 83 = .ok (.getfield 7, 3) := by decide +kernel
theorem dX12_days_86 : decode cX12_days 86 = .ok (.iconst 5, 1) := by decide +kernel
theorem dX12_days_87 : decode cX12_days 87 = .ok (.dup2, 1) := by decide +kernel
theorem dX12_days_88 : decode cX12_days 88 = .ok (.iaload, 1) := by decide +kernel
theorem dX12_days_89 : decode cX12_days 89 = .ok (.iconst 1, 1) := by decide +kernel
theorem dX12_days_90 : decode cX12_days 90 = .ok (.iadd, 1) := by decide +kernel
theorem dX12_days_91 : decode cX12_days 91 = .ok (.iastore, 1) := by decide +kernel
theorem dX12_days_92 : decode cX12_days 92 = .ok (.iinc 2 1, 3) := by decide +kernel
theorem dX12_days_95 : decode cX12_days 95 = .ok (.goto (-65), 3) := by decide +kernel
theorem dX12_days_98 : decode cX12_days 98 = .ok (.aload_n 0, 1) := by decide +kernel
theorem dX12_days_99 : decode cX12_days 99 = .ok (.invokevirtual 363, 3) := by decide +kernel
theorem dX12_days_102 : decode cX12_days 102 = .ok (.ireturn, 1) := by decide +kernel
theorem dX12_isRight_0 : decode cX12_isRight 0 = .ok (.aload_n 0, 1) := by decide +kernel
theorem dX12_isRight_1 : decode cX12_isRight 1 = .ok (.getfield 64, 3) := by decide +kernel
theorem dX12_isRight_4 : decode cX12_isRight 4 = .ok (.iload_n 1, 1) := by decide +kernel
theorem dX12_isRight_5 : decode cX12_isRight 5 = .ok (.iaload, 1) := by decide +kernel
theorem dX12_isRight_6 : decode cX12_isRight 6 = .ok (.iconst 1, 1) := by decide +kernel
theorem dX12_isRight_7 : decode cX12_isRight 7 = .ok (.if_icmp .ne 22, 3) := by decide +kernel
theorem dX12_isRight_10 : decode cX12_isRight 10 = .ok (.aload_n 0, 1) := by decide +kernel
theorem dX12_isRight_11 : decode cX12_isRight 11 = .ok (.getfield 73, 3) := by decide +kernel
theorem dX12_isRight_14 : decode cX12_isRight 14 = .ok (.iload_n 1, 1) := by decide +kernel
theorem dX12_isRight_15 : decode cX12_isRight 15 = .ok (.iaload, 1) := by decide +kernel
theorem dX12_isRight_16 : decode cX12_isRight 16 = .ok (.aload_n 0, 1) := by decide +kernel
theorem dX12_isRight_17 : decode cX12_isRight 17 = .ok (.getfield 58, 3) := by decide +kernel
theorem dX12_isRight_20 : decode cX12_isRight 20 = .ok (.iload_n 1, 1) := by decide +kernel
theorem dX12_isRight_21 : decode cX12_isRight 21 = .ok (.iaload, 1) := by decide +kernel
theorem dX12_isRight_22 : decode cX12_isRight 22 = .ok (.if_icmp .ne 7, 3) := by decide +kernel
theorem dX12_isRight_25 : decode cX12_isRight 25 = .ok (.iconst 1, 1) := by decide +kernel
theorem dX12_isRight_26 : decode cX12_isRight 26 = .ok (.goto 4, 3) := by decide +kernel
theorem dX12_isRight_29 : decode cX12_isRight 29 = .ok (.iconst 0, 1) := by decide +kernel
theorem dX12_isRight_30 : decode cX12_isRight 30 = .ok (.ireturn, 1) := by decide +kernel
theorem dX12_letters_0 : decode cX12_letters 0 = .ok (.iload_n 1, 1) := by decide +kernel
theorem dX12_letters_1 : decode cX12_letters 1 = .ok (.i2l, 1) := by decide +kernel
theorem dX12_letters_2 : decode cX12_letters 2 = .ok (.lconst 0, 1) := by decide +kernel
theorem dX12_letters_3 : decode cX12_letters 3 = .ok (.aload_n 0, 1) := by decide +kernel
theorem dX12_letters_4 : decode cX12_letters 4 = .ok (.getfield 7, 3) := by decide +kernel
theorem dX12_letters_7 : decode cX12_letters 7 = .ok (.iconst 3, 1) := by decide +kernel
theorem dX12_letters_8 : decode cX12_letters 8 = .ok (.iaload, 1) := by decide +kernel
theorem dX12_letters_9 : decode cX12_letters 9 = .ok (.iconst 1, 1) := by decide +kernel
theorem dX12_letters_10 : decode cX12_letters 10 = .ok (.isub, 1) := by decide +kernel
theorem dX12_letters_11 : decode cX12_letters 11 = .ok (.i2l, 1) := by decide +kernel
theorem dX12_letters_12 : decode cX12_letters 12 = .ok (.invokestatic 154, 3) := by decide +kernel
theorem dX12_letters_15 : decode cX12_letters 15 = .ok (.ifCond .ne 6, 3) := by decide +kernel
theorem dX12_letters_18 : decode cX12_letters 18 = .ok (.bipush (-2), 2) := by decide +kernel
theorem dX12_letters_20 : decode cX12_letters 20 = .ok (.ireturn, 1) := by decide +kernel
theorem dX12_letters_21 : decode cX12_letters 21 = .ok (.iload_n 2, 1) := by decide +kernel
theorem dX12_letters_22 : decode cX12_letters 22 = .ok (.tableswitch 87 0 5 #[38, 45, 52, 59, 66, 80], 38) := by decide +kernel
theorem dX12_letters_60 : decode cX12_letters 60 = .ok (.aload_n 0, 1) := by decide +kernel
theorem dX12_letters_61 : decode cX12_letters 61 = .ok (.getfield 64, 3) := by decide +kernel
theorem dX12_letters_64 : decode cX12_letters 64 = .ok (.iload_n 1, 1) := by decide +kernel
theorem dX12_letters_65 : decode cX12_letters 65 = .ok (.iaload, 1) := by decide +kernel
theorem dX12_letters_66 : decode cX12_letters 66 = .ok (.ireturn, 1) := by decide +kernel
theorem dX12_letters_67 : decode cX12_letters 67 = .ok (.aload_n 0, 1) := by decide +kernel
theorem dX12_letters_68 : decode cX12_letters 68 = .ok (.getfield 67, 3) := by decide +kernel
theorem dX12_letters_71 : decode cX12_letters 71 = .ok (.iload_n 1, 1) := by decide +kernel
theorem dX12_letters_72 : decode cX12_letters 72 = .ok (.iaload, 1) := by decide +kernel
theorem dX12_letters_73 : decode cX12_letters 73 = .ok (.ireturn, 1) := by decide +kernel
theorem dX12_letters_74 : decode cX12_letters 74 = .ok (.aload_n 0, 1) := by decide +kernel
theorem dX12_letters_75 : decode cX12_letters 75 = .ok (.getfield 70, 3) := by decide +kernel
theorem dX12_letters_78 : decode cX12_letters 78 = .ok (.iload_n 1, 1) := by decide +kernel
theorem dX12_letters_79 : decode cX12_letters 79 = .ok (.iaload, 1) := by decide +kernel
theorem dX12_letters_80 : decode cX12_letters 80 = .ok (.ireturn, 1) := by decide +kernel
theorem dX12_letters_81 : decode cX12_letters 81 = .ok (.aload_n 0, 1) := by decide +kernel
theorem dX12_letters_82 : decode cX12_letters 82 = .ok (.getfield 73, 3) := by decide +kernel
theorem dX12_letters_85 : decode cX12_letters 85 = .ok (.iload_n 1, 1) := by decide +kernel
theorem dX12_letters_86 : decode cX12_letters 86 = .ok (.iaload, 1) := by decide +kernel
theorem dX12_letters_87 : decode cX12_letters 87 = .ok (.ireturn, 1) := by decide +kernel
theorem dX12_letters_88 : decode cX12_letters 88 = .ok (.aload_n 0, 1) := by decide +kernel
theorem dX12_letters_89 : decode cX12_letters 89 = .ok (.iload_n 1, 1) := by decide +kernel
theorem dX12_letters_90 : decode cX12_letters 90 = .ok (.invokevirtual 366, 3) := by decide +kernel
theorem dX12_letters_93 : decode cX12_letters 93 = .ok (.ifCond .eq 7, 3) := by decide +kernel
theorem dX12_letters_96 : decode cX12_letters 96 = .ok (.iconst 1, 1) := by decide +kernel
theorem dX12_letters_97 : decode cX12_letters 97 = .ok (.goto 4, 3) := by decide +kernel
theorem dX12_letters_100 : decode cX12_letters 100 = .ok (.iconst 0, 1) := by decide +kernel
theorem dX12_letters_101 : decode cX12_letters 101 = .ok (.ireturn, 1) := by decide +kernel
theorem dX12_letters_102 : decode cX12_letters 102 = .ok (.aload_n 0, 1) := by decide +kernel
theorem dX12_letters_103 : decode cX12_letters 103 = .ok (.getfield 76, 3) := by decide +kernel
theorem dX12_letters_106 : decode cX12_letters 106 = .ok (.iload_n 1, 1) := by decide +kernel
theorem dX12_letters_107 : decode cX12_letters 107 = .ok (.iaload, 1) := by decide +kernel
theorem dX12_letters_108 : decode cX12_letters 108 = .ok (.ireturn, 1) := by decide +kernel
theorem dX12_letters_109 : decode cX12_letters 109 = .ok (.bipush (-2), 2) := by decide +kernel
theorem dX12_letters_111 : decode cX12_letters 111 = .ok (.ireturn, 1) := by decide +kernel
theorem dX12_at_0 : decode cX12_at 0 = .ok (.bipush 8, 2) := by decide +kernel
theorem dX12_at_2 : decode cX12_at 2 = .ok (.iload_n 1, 1) := by decide +kernel
theorem dX12_at_3 : decode cX12_at 3 = .ok (.imul, 1) := by decide +kernel
theorem dX12_at_4 : decode cX12_at 4 = .ok (.iload_n 2, 1) := by decide +kernel
theorem dX12_at_5 : decode cX12_at 5 = .ok (.iadd, 1) := by decide +kernel
theorem dX12_at_6 : decode cX12_at 6 = .ok (.ireturn, 1) := by decide +kernel
theorem dX12_chooses_0 : decode cX12_chooses 0 = .ok (.aload_n 0, 1) := by decide +kernel
theorem dX12_chooses_1 : decode cX12_chooses 1 = .ok (.getfield 126, 3) := by decide +kernel
theorem dX12_chooses_4 : decode cX12_chooses 4 = .ok (.iload_n 1, 1) := by decide +kernel
theorem dX12_chooses_5 : decode cX12_chooses 5 = .ok (.aload_n 0, 1) := by decide +kernel
theorem dX12_chooses_6 : decode cX12_chooses 6 = .ok (.getfield 126, 3) := by decide +kernel
theorem dX12_chooses_9 : decode cX12_chooses 9 = .ok (.iload_n 1, 1) := by decide +kernel
theorem dX12_chooses_10 : decode cX12_chooses 10 = .ok (.baload, 1) := by decide +kernel
theorem dX12_chooses_11 : decode cX12_chooses 11 = .ok (.ifCond .eq 11, 3) := by decide +kernel
theorem dX12_chooses_14 : decode cX12_chooses 14 = .ok (.iload_n 2, 1) := by decide +kernel
theorem dX12_chooses_15 : decode cX12_chooses 15 = .ok (.ifCond .eq 7, 3) := by decide +kernel
theorem dX12_chooses_18 : decode cX12_chooses 18 = .ok (.iconst 1, 1) := by decide +kernel
theorem dX12_chooses_19 : decode cX12_chooses 19 = .ok (.goto 4, 3) := by decide +kernel
theorem dX12_chooses_22 : decode cX12_chooses 22 = .ok (.iconst 0, 1) := by decide +kernel
theorem dX12_chooses_23 : decode cX12_chooses 23 = .ok (.bastore, 1) := by decide +kernel
theorem dX12_chooses_24 : decode cX12_chooses 24 = .ok (.aload_n 0, 1) := by decide +kernel
theorem dX12_chooses_25 : decode cX12_chooses 25 = .ok (.getfield 123, 3) := by decide +kernel
theorem dX12_chooses_28 : decode cX12_chooses 28 = .ok (.iload_n 1, 1) := by decide +kernel
theorem dX12_chooses_29 : decode cX12_chooses 29 = .ok (.iload_n 3, 1) := by decide +kernel
theorem dX12_chooses_30 : decode cX12_chooses 30 = .ok (.ifCond .lt 26, 3) := by decide +kernel
theorem dX12_chooses_33 : decode cX12_chooses 33 = .ok (.aload_n 0, 1) := by decide +kernel
theorem dX12_chooses_34 : decode cX12_chooses 34 = .ok (.getfield 123, 3) := by decide +kernel
theorem dX12_chooses_37 : decode cX12_chooses 37 = .ok (.iload_n 1, 1) := by decide +kernel
theorem dX12_chooses_38 : decode cX12_chooses 38 = .ok (.iaload, 1) := by decide +kernel
theorem dX12_chooses_39 : decode cX12_chooses 39 = .ok (.ifCond .lt 13, 3) := by decide +kernel
theorem dX12_chooses_42 : decode cX12_chooses 42 = .ok (.iload_n 3, 1) := by decide +kernel
theorem dX12_chooses_43 : decode cX12_chooses 43 = .ok (.aload_n 0, 1) := by decide +kernel
theorem dX12_chooses_44 : decode cX12_chooses 44 = .ok (.getfield 123, 3) := by decide +kernel
theorem dX12_chooses_47 : decode cX12_chooses 47 = .ok (.iload_n 1, 1) := by decide +kernel
theorem dX12_chooses_48 : decode cX12_chooses 48 = .ok (.iaload, 1) := by decide +kernel
theorem dX12_chooses_49 : decode cX12_chooses 49 = .ok (.if_icmp .ge 7, 3) := by decide +kernel
theorem dX12_chooses_52 : decode cX12_chooses 52 = .ok (.iload_n 3, 1) := by decide +kernel
theorem dX12_chooses_53 : decode cX12_chooses 53 = .ok (.goto 9, 3) := by decide +kernel
theorem dX12_chooses_56 : decode cX12_chooses 56 = .ok (.aload_n 0, 1) := by decide +kernel
theorem dX12_chooses_57 : decode cX12_chooses 57 = .ok (.getfield 123, 3) := by decide +kernel
theorem dX12_chooses_60 : decode cX12_chooses 60 = .ok (.iload_n 1, 1) := by decide +kernel
theorem dX12_chooses_61 : decode cX12_chooses 61 = .ok (.iaload, 1) := by decide +kernel
theorem dX12_chooses_62 : decode cX12_chooses 62 = .ok (.iastore, 1) := by decide +kernel
theorem dX12_chooses_63 : decode cX12_chooses 63 = .ok (.return_, 1) := by decide +kernel
theorem dX12_looks_0 : decode cX12_looks 0 = .ok (.aload_n 0, 1) := by decide +kernel
theorem dX12_looks_1 : decode cX12_looks 1 = .ok (.iload 5, 2) := by decide +kernel
theorem dX12_looks_3 : decode cX12_looks 3 = .ok (.iload 4, 2) := by decide +kernel
theorem dX12_looks_5 : decode cX12_looks 5 = .ok (.invokevirtual 369, 3) := by decide +kernel
theorem dX12_looks_8 : decode cX12_looks 8 = .ok (.istore 6, 2) := by decide +kernel
theorem dX12_looks_10 : decode cX12_looks 10 = .ok (.aload_n 0, 1) := by decide +kernel
theorem dX12_looks_11 : decode cX12_looks 11 = .ok (.iconst 1, 1) := by decide +kernel
theorem dX12_looks_12 : decode cX12_looks 12 = .ok (.iload 4, 2) := by decide +kernel
theorem dX12_looks_14 : decode cX12_looks 14 = .ok (.invokevirtual 195, 3) := by decide +kernel
theorem dX12_looks_17 : decode cX12_looks 17 = .ok (.istore 7, 2) := by decide +kernel
theorem dX12_looks_19 : decode cX12_looks 19 = .ok (.aload_n 0, 1) := by decide +kernel
theorem dX12_looks_20 : decode cX12_looks 20 = .ok (.getfield 126, 3) := by decide +kernel
theorem dX12_looks_23 : decode cX12_looks 23 = .ok (.iload 6, 2) := by decide +kernel
theorem dX12_looks_25 : decode cX12_looks 25 = .ok (.iconst 0, 1) := by decide +kernel
theorem dX12_looks_26 : decode cX12_looks 26 = .ok (.bastore, 1) := by decide +kernel
theorem dX12_looks_27 : decode cX12_looks 27 = .ok (.aload_n 0, 1) := by decide +kernel
theorem dX12_looks_28 : decode cX12_looks 28 = .ok (.getfield 123, 3) := by decide +kernel
theorem dX12_looks_31 : decode cX12_looks 31 = .ok (.iload 6, 2) := by decide +kernel
theorem dX12_looks_33 : decode cX12_looks 33 = .ok (.bipush (-2), 2) := by decide +kernel
theorem dX12_looks_35 : decode cX12_looks 35 = .ok (.iastore, 1) := by decide +kernel
theorem dX12_looks_36 : decode cX12_looks 36 = .ok (.iconst 0, 1) := by decide +kernel
theorem dX12_looks_37 : decode cX12_looks 37 = .ok (.istore 8, 2) := by decide +kernel
theorem dX12_looks_39 : decode cX12_looks 39 = .ok (.iload 8, 2) := by decide +kernel
theorem dX12_looks_41 : decode cX12_looks 41 = .ok (.aload_n 0, 1) := by decide +kernel
theorem dX12_looks_42 : decode cX12_looks 42 = .ok (.getfield 7, 3) := by decide +kernel
theorem dX12_looks_45 : decode cX12_looks 45 = .ok (.iconst 0, 1) := by decide +kernel
theorem dX12_looks_46 : decode cX12_looks 46 = .ok (.iaload, 1) := by decide +kernel
theorem dX12_looks_47 : decode cX12_looks 47 = .ok (.if_icmp .ge 310, 3) := by decide +kernel
theorem dX12_looks_50 : decode cX12_looks 50 = .ok (.iload 7, 2) := by decide +kernel
theorem dX12_looks_52 : decode cX12_looks 52 = .ok (.iload 8, 2) := by decide +kernel
theorem dX12_looks_54 : decode cX12_looks 54 = .ok (.invokestatic 148, 3) := by decide +kernel
theorem dX12_looks_57 : decode cX12_looks 57 = .ok (.ifCond .eq 14, 3) := by decide +kernel
theorem dX12_looks_60 : decode cX12_looks 60 = .ok (.aload_n 0, 1) := by decide +kernel
theorem dX12_looks_61 : decode cX12_looks 61 = .ok (.iload_n 1, 1) := by decide +kernel
theorem dX12_looks_62 : decode cX12_looks 62 = .ok (.iload_n 2, 1) := by decide +kernel
theorem dX12_looks_63 : decode cX12_looks 63 = .ok (.iload 8, 2) := by decide +kernel
theorem dX12_looks_65 : decode cX12_looks 65 = .ok (.invokevirtual 334, 3) := by decide +kernel
theorem dX12_looks_68 : decode cX12_looks 68 = .ok (.goto 4, 3) := by decide +kernel
theorem dX12_looks_71 : decode cX12_looks 71 = .ok (.iconst 0, 1) := by decide +kernel
theorem dX12_looks_72 : decode cX12_looks 72 = .ok (.istore 9, 2) := by decide +kernel
theorem dX12_looks_74 : decode cX12_looks 74 = .ok (.iload 9, 2) := by decide +kernel
theorem dX12_looks_76 : decode cX12_looks 76 = .ok (.iload 8, 2) := by decide +kernel
theorem dX12_looks_78 : decode cX12_looks 78 = .ok (.invokestatic 148, 3) := by decide +kernel
theorem dX12_looks_81 : decode cX12_looks 81 = .ok (.ifCond .eq 10, 3) := by decide +kernel
theorem dX12_looks_84 : decode cX12_looks 84 = .ok (.iconst 1, 1) := by decide +kernel
theorem dX12_looks_85 : decode cX12_looks 85 = .ok (.iload 8, 2) := by decide +kernel
theorem dX12_looks_87 : decode cX12_looks 87 = .ok (.ishl, 1) := by decide +kernel
theorem dX12_looks_88 : decode cX12_looks 88 = .ok (.goto 5, 3) := by decide +kernel
theorem dX12_looks_91 : decode cX12_looks 91 = .ok (.iload 9, 2) := by decide +kernel
theorem dX12_looks_93 : decode cX12_looks 93 = .ok (.istore 9, 2) := by decide +kernel
theorem dX12_looks_95 : decode cX12_looks 95 = .ok (.iconst 0, 1) := by decide +kernel
theorem dX12_looks_96 : decode cX12_looks 96 = .ok (.istore 10, 2) := by decide +kernel
theorem dX12_looks_98 : decode cX12_looks 98 = .ok (.iconst 0, 1) := by decide +kernel
theorem dX12_looks_99 : decode cX12_looks 99 = .ok (.istore 11, 2) := by decide +kernel
theorem dX12_looks_101 : decode cX12_looks 101 = .ok (.iload 11, 2) := by decide +kernel
theorem dX12_looks_103 : decode cX12_looks 103 = .ok (.aload_n 0, 1) := by decide +kernel
theorem dX12_looks_104 : decode cX12_looks 104 = .ok (.getfield 7, 3) := by decide +kernel
theorem dX12_looks_107 : decode cX12_looks 107 = .ok (.iconst 0, 1) := by decide +kernel
theorem dX12_looks_108 : decode cX12_looks 108 = .ok (.iaload, 1) := by decide +kernel
theorem dX12_looks_109 : decode cX12_looks 109 = .ok (.if_icmp .ge 236, 3) := by decide +kernel
theorem dX12_looks_112 : decode cX12_looks 112 = .ok (.iload 7, 2) := by decide +kernel
theorem dX12_looks_114 : decode cX12_looks 114 = .ok (.iload 11, 2) := by decide +kernel
theorem dX12_looks_116 : decode cX12_looks 116 = .ok (.invokestatic 148, 3) := by decide +kernel
theorem dX12_looks_119 : decode cX12_looks 119 = .ok (.istore 12, 2) := by decide +kernel
theorem dX12_looks_121 : decode cX12_looks 121 = .ok (.iload 9, 2) := by decide +kernel
theorem dX12_looks_123 : decode cX12_looks 123 = .ok (.iload 11, 2) := by decide +kernel
theorem dX12_looks_125 : decode cX12_looks 125 = .ok (.invokestatic 148, 3) := by decide +kernel
theorem dX12_looks_128 : decode cX12_looks 128 = .ok (.ifCond .eq 27, 3) := by decide +kernel
theorem dX12_looks_131 : decode cX12_looks 131 = .ok (.iload 12, 2) := by decide +kernel
theorem dX12_looks_133 : decode cX12_looks 133 = .ok (.ifCond .ne 22, 3) := by decide +kernel
theorem dX12_looks_136 : decode cX12_looks 136 = .ok (.aload_n 0, 1) := by decide +kernel
theorem dX12_looks_137 : decode cX12_looks 137 = .ok (.iload 4, 2) := by decide +kernel
theorem dX12_looks_139 : decode cX12_looks 139 = .ok (.aload_n 0, 1) := by decide +kernel
theorem dX12_looks_140 : decode cX12_looks 140 = .ok (.getfield 85, 3) := by decide +kernel
theorem dX12_looks_143 : decode cX12_looks 143 = .ok (.bipush 12, 2) := by decide +kernel
theorem dX12_looks_145 : decode cX12_looks 145 = .ok (.iload 11, 2) := by decide +kernel
theorem dX12_looks_147 : decode cX12_looks 147 = .ok (.iadd, 1) := by decide +kernel
theorem dX12_looks_148 : decode cX12_looks 148 = .ok (.iaload, 1) := by decide +kernel
theorem dX12_looks_149 : decode cX12_looks 149 = .ok (.invokevirtual 349, 3) := by decide +kernel
theorem dX12_looks_152 : decode cX12_looks 152 = .ok (.goto 4, 3) := by decide +kernel
theorem dX12_looks_155 : decode cX12_looks 155 = .ok (.iconst (-1), 1) := by decide +kernel
theorem dX12_looks_156 : decode cX12_looks 156 = .ok (.istore 13, 2) := by decide +kernel
theorem dX12_looks_158 : decode cX12_looks 158 = .ok (.iload 9, 2) := by decide +kernel
theorem dX12_looks_160 : decode cX12_looks 160 = .ok (.iload 11, 2) := by decide +kernel
theorem dX12_looks_162 : decode cX12_looks 162 = .ok (.invokestatic 148, 3) := by decide +kernel
theorem dX12_looks_165 : decode cX12_looks 165 = .ok (.ifCond .eq 174, 3) := by decide +kernel
theorem dX12_looks_168 : decode cX12_looks 168 = .ok (.iload 12, 2) := by decide +kernel
theorem dX12_looks_170 : decode cX12_looks 170 = .ok (.ifCond .ne 9, 3) := by decide +kernel
theorem dX12_looks_173 : decode cX12_looks 173 = .ok (.iload 13, 2) := by decide +kernel
theorem dX12_looks_175 : decode cX12_looks 175 = .ok (.iconst (-1), 1) := by decide +kernel
theorem dX12_looks_176 : decode cX12_looks 176 = .ok (.if_icmp .eq 163, 3) := by decide +kernel
theorem dX12_looks_179 : decode cX12_looks 179 = .ok (.aload_n 0, 1) := by decide +kernel
theorem dX12_looks_180 : decode cX12_looks 180 = .ok (.getfield 126, 3) := by decide +kernel
theorem dX12_looks_183 : decode cX12_looks 183 = .ok (.iload 6, 2) := by decide +kernel
theorem dX12_looks_185 : decode cX12_looks 185 = .ok (.iload 10, 2) := by decide +kernel
theorem dX12_looks_187 : decode cX12_looks 187 = .ok (.ifCond .eq 13, 3) := by decide +kernel
theorem dX12_looks_190 : decode cX12_looks 190 = .ok (.aload_n 0, 1) := by decide +kernel
theorem dX12_looks_191 : decode cX12_looks 191 = .ok (.getfield 126, 3) := by decide +kernel
theorem dX12_looks_194 : decode cX12_looks 194 = .ok (.iload 6, 2) := by decide +kernel
theorem dX12_looks_196 : decode cX12_looks 196 = .ok (.baload, 1) := by decide +kernel
theorem dX12_looks_197 : decode cX12_looks 197 = .ok (.goto 4, 3) := by decide +kernel
theorem dX12_looks_200 : decode cX12_looks 200 = .ok (.iconst 1, 1) := by decide +kernel
theorem dX12_looks_201 : decode cX12_looks 201 = .ok (.bastore, 1) := by decide +kernel
theorem dX12_looks_202 : decode cX12_looks 202 = .ok (.iconst 1, 1) := by decide +kernel
theorem dX12_looks_203 : decode cX12_looks 203 = .ok (.istore 10, 2) := by decide +kernel
theorem dX12_looks_205 : decode cX12_looks 205 = .ok (.iload 12, 2) := by decide +kernel
theorem dX12_looks_207 : decode cX12_looks 207 = .ok (.ifCond .eq 36, 3) := by decide +kernel
theorem dX12_looks_210 : decode cX12_looks 210 = .ok (.aload_n 0, 1) := by decide +kernel
theorem dX12_looks_211 : decode cX12_looks 211 = .ok (.iload 6, 2) := by decide +kernel
theorem dX12_looks_213 : decode cX12_looks 213 = .ok (.iload 11, 2) := by decide +kernel
theorem dX12_looks_215 : decode cX12_looks 215 = .ok (.iload_n 3, 1) := by decide +kernel
theorem dX12_looks_216 : decode cX12_looks 216 = .ok (.if_icmp .ne 7, 3) := by decide +kernel
theorem dX12_looks_219 : decode cX12_looks 219 = .ok (.iconst 1, 1) := by decide +kernel
theorem dX12_looks_220 : decode cX12_looks 220 = .ok (.goto 4, 3) := by decide +kernel
theorem dX12_looks_223 : decode cX12_looks 223 = .ok (.iconst 0, 1) := by decide +kernel
theorem dX12_looks_224 : decode cX12_looks 224 = .ok (.iload 11, 2) := by decide +kernel
theorem dX12_looks_226 : decode cX12_looks 226 = .ok (.iload_n 3, 1) := by decide +kernel
theorem dX12_looks_227 : decode cX12_looks 227 = .ok (.if_icmp .ne 8, 3) := by decide +kernel
theorem dX12_looks_230 : decode cX12_looks 230 = .ok (.iload 5, 2) := by decide +kernel
theorem dX12_looks_232 : decode cX12_looks 232 = .ok (.goto 5, 3) := by decide +kernel
theorem dX12_looks_235 : decode cX12_looks 235 = .ok (.bipush (-2), 2) := by decide +kernel
theorem dX12_looks_237 : decode cX12_looks 237 = .ok (.invokevirtual 371, 3) := by decide +kernel
theorem dX12_looks_240 : decode cX12_looks 240 = .ok (.goto 99, 3) := by decide +kernel
theorem dX12_looks_243 : decode cX12_looks 243 = .ok (.iload 5, 2) := by decide +kernel
theorem dX12_looks_245 : decode cX12_looks 245 = .ok (.aload_n 0, 1) := by decide +kernel
theorem dX12_looks_246 : decode cX12_looks 246 = .ok (.getfield 31, 3) := by decide +kernel
theorem dX12_looks_249 : decode cX12_looks 249 = .ok (.aload_n 0, 1) := by decide +kernel
theorem dX12_looks_250 : decode cX12_looks 250 = .ok (.iload 4, 2) := by decide +kernel
theorem dX12_looks_252 : decode cX12_looks 252 = .ok (.iload 13, 2) := by decide +kernel
theorem dX12_looks_254 : decode cX12_looks 254 = .ok (.invokevirtual 166, 3) := by decide +kernel
theorem dX12_looks_257 : decode cX12_looks 257 = .ok (.iaload, 1) := by decide +kernel
theorem dX12_looks_258 : decode cX12_looks 258 = .ok (.iadd, 1) := by decide +kernel
theorem dX12_looks_259 : decode cX12_looks 259 = .ok (.istore 14, 2) := by decide +kernel
theorem dX12_looks_261 : decode cX12_looks 261 = .ok (.iload 14, 2) := by decide +kernel
theorem dX12_looks_263 : decode cX12_looks 263 = .ok (.bipush 60, 2) := by decide +kernel
theorem dX12_looks_265 : decode cX12_looks 265 = .ok (.if_icmp .gt 7, 3) := by decide +kernel
theorem dX12_looks_268 : decode cX12_looks 268 = .ok (.iconst 1, 1) := by decide +kernel
theorem dX12_looks_269 : decode cX12_looks 269 = .ok (.goto 4, 3) := by decide +kernel
theorem dX12_looks_272 : decode cX12_looks 272 = .ok (.iconst 0, 1) := by decide +kernel
theorem dX12_looks_273 : decode cX12_looks 273 = .ok (.istore 15, 2) := by decide +kernel
theorem dX12_looks_275 : decode cX12_looks 275 = .ok (.aload_n 0, 1) := by decide +kernel
theorem dX12_looks_276 : decode cX12_looks 276 = .ok (.iload 6, 2) := by decide +kernel
theorem dX12_looks_278 : decode cX12_looks 278 = .ok (.iload 15, 2) := by decide +kernel
theorem dX12_looks_280 : decode cX12_looks 280 = .ok (.ifCond .eq 32, 3) := by decide +kernel
theorem dX12_looks_283 : decode cX12_looks 283 = .ok (.aload_n 0, 1) := by decide +kernel
theorem dX12_looks_284 : decode cX12_looks 284 = .ok (.getfield 126, 3) := by decide +kernel
theorem dX12_looks_287 : decode cX12_looks 287 = .ok (.aload_n 0, 1) := by decide +kernel
theorem dX12_looks_288 : decode cX12_looks 288 = .ok (.iload 15, 2) := by decide +kernel
theorem dX12_looks_290 : decode cX12_looks 290 = .ok (.ifCond .eq 8, 3) := by decide +kernel
theorem dX12_looks_293 : decode cX12_looks 293 = .ok (.iload 14, 2) := by decide +kernel
theorem dX12_looks_295 : decode cX12_looks 295 = .ok (.goto 4, 3) := by decide +kernel
theorem dX12_looks_298 : decode cX12_looks 298 = .ok (.iconst 0, 1) := by decide +kernel
theorem dX12_looks_299 : decode cX12_looks 299 = .ok (.iload 13, 2) := by decide +kernel
theorem dX12_looks_301 : decode cX12_looks 301 = .ok (.invokevirtual 369, 3) := by decide +kernel
theorem dX12_looks_304 : decode cX12_looks 304 = .ok (.baload, 1) := by decide +kernel
theorem dX12_looks_305 : decode cX12_looks 305 = .ok (.ifCond .eq 7, 3) := by decide +kernel
theorem dX12_looks_308 : decode cX12_looks 308 = .ok (.iconst 1, 1) := by decide +kernel
theorem dX12_looks_309 : decode cX12_looks 309 = .ok (.goto 4, 3) := by decide +kernel
theorem dX12_looks_312 : decode cX12_looks 312 = .ok (.iconst 0, 1) := by decide +kernel
theorem dX12_looks_313 : decode cX12_looks 313 = .ok (.iload 15, 2) := by decide +kernel
theorem dX12_looks_315 : decode cX12_looks 315 = .ok (.ifCond .eq 19, 3) := by decide +kernel
theorem dX12_looks_318 : decode cX12_looks 318 = .ok (.aload_n 0, 1) := by decide +kernel
theorem dX12_looks_319 : decode cX12_looks 319 = .ok (.getfield 123, 3) := by decide +kernel
theorem dX12_looks_322 : decode cX12_looks 322 = .ok (.aload_n 0, 1) := by decide +kernel
theorem dX12_looks_323 : decode cX12_looks 323 = .ok (.iload 14, 2) := by decide +kernel
theorem dX12_looks_325 : decode cX12_looks 325 = .ok (.iload 13, 2) := by decide +kernel
theorem dX12_looks_327 : decode cX12_looks 327 = .ok (.invokevirtual 369, 3) := by decide +kernel
theorem dX12_looks_330 : decode cX12_looks 330 = .ok (.iaload, 1) := by decide +kernel
theorem dX12_looks_331 : decode cX12_looks 331 = .ok (.goto 5, 3) := by decide +kernel
theorem dX12_looks_334 : decode cX12_looks 334 = .ok (.bipush (-2), 2) := by decide +kernel
theorem dX12_looks_336 : decode cX12_looks 336 = .ok (.invokevirtual 371, 3) := by decide +kernel
theorem dX12_looks_339 : decode cX12_looks 339 = .ok (.iinc 11 1, 3) := by decide +kernel
theorem dX12_looks_342 : decode cX12_looks 342 = .ok (.goto (-241), 3) := by decide +kernel
theorem dX12_looks_345 : decode cX12_looks 345 = .ok (.iload 10, 2) := by decide +kernel
theorem dX12_looks_347 : decode cX12_looks 347 = .ok (.ifCond .eq 4, 3) := by decide +kernel
theorem dX12_looks_350 : decode cX12_looks 350 = .ok (.return_, 1) := by decide +kernel
theorem dX12_looks_351 : decode cX12_looks 351 = .ok (.iinc 8 1, 3) := by decide +kernel
theorem dX12_looks_354 : decode cX12_looks 354 = .ok (.goto (-315), 3) := by decide +kernel
theorem dX12_looks_357 : decode cX12_looks 357 = .ok (.return_, 1) := by decide +kernel
theorem dX12_sure_0 : decode cX12_sure 0 = .ok (.aload_n 0, 1) := by decide +kernel
theorem dX12_sure_1 : decode cX12_sure 1 = .ok (.iload_n 1, 1) := by decide +kernel
theorem dX12_sure_2 : decode cX12_sure 2 = .ok (.invokevirtual 175, 3) := by decide +kernel
theorem dX12_sure_5 : decode cX12_sure 5 = .ok (.ifCond .eq 51, 3) := by decide +kernel
theorem dX12_sure_8 : decode cX12_sure 8 = .ok (.aload_n 0, 1) := by decide +kernel
theorem dX12_sure_9 : decode cX12_sure 9 = .ok (.iload_n 2, 1) := by decide +kernel
theorem dX12_sure_10 : decode cX12_sure 10 = .ok (.invokevirtual 331, 3) := by decide +kernel
theorem dX12_sure_13 : decode cX12_sure 13 = .ok (.ifCond .eq 43, 3) := by decide +kernel
theorem dX12_sure_16 : decode cX12_sure 16 = .ok (.aload_n 0, 1) := by decide +kernel
theorem dX12_sure_17 : decode cX12_sure 17 = .ok (.iload_n 3, 1) := by decide +kernel
theorem dX12_sure_18 : decode cX12_sure 18 = .ok (.invokevirtual 175, 3) := by decide +kernel
theorem dX12_sure_21 : decode cX12_sure 21 = .ok (.ifCond .eq 35, 3) := by decide +kernel
theorem dX12_sure_24 : decode cX12_sure 24 = .ok (.iload_n 3, 1) := by decide +kernel
theorem dX12_sure_25 : decode cX12_sure 25 = .ok (.iload_n 1, 1) := by decide +kernel
theorem dX12_sure_26 : decode cX12_sure 26 = .ok (.if_icmp .eq 30, 3) := by decide +kernel
theorem dX12_sure_29 : decode cX12_sure 29 = .ok (.iload 4, 2) := by decide +kernel
theorem dX12_sure_31 : decode cX12_sure 31 = .ok (.invokestatic 160, 3) := by decide +kernel
theorem dX12_sure_34 : decode cX12_sure 34 = .ok (.ifCond .eq 22, 3) := by decide +kernel
theorem dX12_sure_37 : decode cX12_sure 37 = .ok (.iload 5, 2) := by decide +kernel
theorem dX12_sure_39 : decode cX12_sure 39 = .ok (.invokestatic 170, 3) := by decide +kernel
theorem dX12_sure_42 : decode cX12_sure 42 = .ok (.ifCond .eq 14, 3) := by decide +kernel
theorem dX12_sure_45 : decode cX12_sure 45 = .ok (.iload 6, 2) := by decide +kernel
theorem dX12_sure_47 : decode cX12_sure 47 = .ok (.i2l, 1) := by decide +kernel
theorem dX12_sure_48 : decode cX12_sure 48 = .ok (.lconst 0, 1) := by decide +kernel
theorem dX12_sure_49 : decode cX12_sure 49 = .ok (.lconst 1, 1) := by decide +kernel
theorem dX12_sure_50 : decode cX12_sure 50 = .ok (.invokestatic 154, 3) := by decide +kernel
theorem dX12_sure_53 : decode cX12_sure 53 = .ok (.ifCond .ne 5, 3) := by decide +kernel
theorem dX12_sure_56 : decode cX12_sure 56 = .ok (.iconst (-1), 1) := by decide +kernel
theorem dX12_sure_57 : decode cX12_sure 57 = .ok (.ireturn, 1) := by decide +kernel
theorem dX12_sure_58 : decode cX12_sure 58 = .ok (.aload_n 0, 1) := by decide +kernel
theorem dX12_sure_59 : decode cX12_sure 59 = .ok (.iconst 0, 1) := by decide +kernel
theorem dX12_sure_60 : decode cX12_sure 60 = .ok (.iload 5, 2) := by decide +kernel
theorem dX12_sure_62 : decode cX12_sure 62 = .ok (.invokevirtual 198, 3) := by decide +kernel
theorem dX12_sure_65 : decode cX12_sure 65 = .ok (.bipush 60, 2) := by decide +kernel
theorem dX12_sure_67 : decode cX12_sure 67 = .ok (.istore 7, 2) := by decide +kernel
theorem dX12_sure_69 : decode cX12_sure 69 = .ok (.iload 7, 2) := by decide +kernel
theorem dX12_sure_71 : decode cX12_sure 71 = .ok (.ifCond .lt 63, 3) := by decide +kernel
theorem dX12_sure_74 : decode cX12_sure 74 = .ok (.aload_n 0, 1) := by decide +kernel
theorem dX12_sure_75 : decode cX12_sure 75 = .ok (.iconst 1, 1) := by decide +kernel
theorem dX12_sure_76 : decode cX12_sure 76 = .ok (.iload 5, 2) := by decide +kernel
theorem dX12_sure_78 : decode cX12_sure 78 = .ok (.iload 7, 2) := by decide +kernel
theorem dX12_sure_80 : decode cX12_sure 80 = .ok (.iadd, 1) := by decide +kernel
theorem dX12_sure_81 : decode cX12_sure 81 = .ok (.sipush 999, 3) := by decide +kernel
theorem dX12_sure_84 : decode cX12_sure 84 = .ok (.if_icmp .gt 11, 3) := by decide +kernel
theorem dX12_sure_87 : decode cX12_sure 87 = .ok (.iload 5, 2) := by decide +kernel
theorem dX12_sure_89 : decode cX12_sure 89 = .ok (.iload 7, 2) := by decide +kernel
theorem dX12_sure_91 : decode cX12_sure 91 = .ok (.iadd, 1) := by decide +kernel
theorem dX12_sure_92 : decode cX12_sure 92 = .ok (.goto 6, 3) := by decide +kernel
theorem dX12_sure_95 : decode cX12_sure 95 = .ok (.sipush 999, 3) := by decide +kernel
theorem dX12_sure_98 : decode cX12_sure 98 = .ok (.invokevirtual 198, 3) := by decide +kernel
theorem dX12_sure_101 : decode cX12_sure 101 = .ok (.iconst 0, 1) := by decide +kernel
theorem dX12_sure_102 : decode cX12_sure 102 = .ok (.istore 8, 2) := by decide +kernel
theorem dX12_sure_104 : decode cX12_sure 104 = .ok (.iload 8, 2) := by decide +kernel
theorem dX12_sure_106 : decode cX12_sure 106 = .ok (.bipush 8, 2) := by decide +kernel
theorem dX12_sure_108 : decode cX12_sure 108 = .ok (.if_icmp .ge 20, 3) := by decide +kernel
theorem dX12_sure_111 : decode cX12_sure 111 = .ok (.aload_n 0, 1) := by decide +kernel
theorem dX12_sure_112 : decode cX12_sure 112 = .ok (.iload_n 2, 1) := by decide +kernel
theorem dX12_sure_113 : decode cX12_sure 113 = .ok (.iload_n 1, 1) := by decide +kernel
theorem dX12_sure_114 : decode cX12_sure 114 = .ok (.iload_n 3, 1) := by decide +kernel
theorem dX12_sure_115 : decode cX12_sure 115 = .ok (.iload 8, 2) := by decide +kernel
theorem dX12_sure_117 : decode cX12_sure 117 = .ok (.iload 7, 2) := by decide +kernel
theorem dX12_sure_119 : decode cX12_sure 119 = .ok (.invokevirtual 375, 3) := by decide +kernel
theorem dX12_sure_122 : decode cX12_sure 122 = .ok (.iinc 8 1, 3) := by decide +kernel
theorem dX12_sure_125 : decode cX12_sure 125 = .ok (.goto (-21), 3) := by decide +kernel
theorem dX12_sure_128 : decode cX12_sure 128 = .ok (.iinc 7 (-1), 3) := by decide +kernel
theorem dX12_sure_131 : decode cX12_sure 131 = .ok (.goto (-62), 3) := by decide +kernel
theorem dX12_sure_134 : decode cX12_sure 134 = .ok (.iload 6, 2) := by decide +kernel
theorem dX12_sure_136 : decode cX12_sure 136 = .ok (.ifCond .ne 26, 3) := by decide +kernel
theorem dX12_sure_139 : decode cX12_sure 139 = .ok (.aload_n 0, 1) := by decide +kernel
theorem dX12_sure_140 : decode cX12_sure 140 = .ok (.getfield 126, 3) := by decide +kernel
theorem dX12_sure_143 : decode cX12_sure 143 = .ok (.aload_n 0, 1) := by decide +kernel
theorem dX12_sure_144 : decode cX12_sure 144 = .ok (.iconst 0, 1) := by decide +kernel
theorem dX12_sure_145 : decode cX12_sure 145 = .ok (.iload 4, 2) := by decide +kernel
theorem dX12_sure_147 : decode cX12_sure 147 = .ok (.invokevirtual 369, 3) := by decide +kernel
theorem dX12_sure_150 : decode cX12_sure 150 = .ok (.baload, 1) := by decide +kernel
theorem dX12_sure_151 : decode cX12_sure 151 = .ok (.ifCond .eq 7, 3) := by decide +kernel
theorem dX12_sure_154 : decode cX12_sure 154 = .ok (.iconst 1, 1) := by decide +kernel
theorem dX12_sure_155 : decode cX12_sure 155 = .ok (.goto 19, 3) := by decide +kernel
theorem dX12_sure_158 : decode cX12_sure 158 = .ok (.iconst 0, 1) := by decide +kernel
theorem dX12_sure_159 : decode cX12_sure 159 = .ok (.goto 15, 3) := by decide +kernel
theorem dX12_sure_162 : decode cX12_sure 162 = .ok (.aload_n 0, 1) := by decide +kernel
theorem dX12_sure_163 : decode cX12_sure 163 = .ok (.getfield 123, 3) := by decide +kernel
theorem dX12_sure_166 : decode cX12_sure 166 = .ok (.aload_n 0, 1) := by decide +kernel
theorem dX12_sure_167 : decode cX12_sure 167 = .ok (.iconst 0, 1) := by decide +kernel
theorem dX12_sure_168 : decode cX12_sure 168 = .ok (.iload 4, 2) := by decide +kernel
theorem dX12_sure_170 : decode cX12_sure 170 = .ok (.invokevirtual 369, 3) := by decide +kernel
theorem dX12_sure_173 : decode cX12_sure 173 = .ok (.iaload, 1) := by decide +kernel
theorem dX12_sure_174 : decode cX12_sure 174 = .ok (.ireturn, 1) := by decide +kernel
theorem dX12_rings_0 : decode cX12_rings 0 = .ok (.aload_n 0, 1) := by decide +kernel
theorem dX12_rings_1 : decode cX12_rings 1 = .ok (.iload_n 1, 1) := by decide +kernel
theorem dX12_rings_2 : decode cX12_rings 2 = .ok (.invokevirtual 331, 3) := by decide +kernel
theorem dX12_rings_5 : decode cX12_rings 5 = .ok (.ifCond .eq 29, 3) := by decide +kernel
theorem dX12_rings_8 : decode cX12_rings 8 = .ok (.aload_n 0, 1) := by decide +kernel
theorem dX12_rings_9 : decode cX12_rings 9 = .ok (.iload_n 2, 1) := by decide +kernel
theorem dX12_rings_10 : decode cX12_rings 10 = .ok (.invokevirtual 175, 3) := by decide +kernel
theorem dX12_rings_13 : decode cX12_rings 13 = .ok (.ifCond .eq 21, 3) := by decide +kernel
theorem dX12_rings_16 : decode cX12_rings 16 = .ok (.iload_n 3, 1) := by decide +kernel
theorem dX12_rings_17 : decode cX12_rings 17 = .ok (.invokestatic 170, 3) := by decide +kernel
theorem dX12_rings_20 : decode cX12_rings 20 = .ok (.ifCond .eq 14, 3) := by decide +kernel
theorem dX12_rings_23 : decode cX12_rings 23 = .ok (.iload 4, 2) := by decide +kernel
theorem dX12_rings_25 : decode cX12_rings 25 = .ok (.i2l, 1) := by decide +kernel
theorem dX12_rings_26 : decode cX12_rings 26 = .ok (.lconst 0, 1) := by decide +kernel
theorem dX12_rings_27 : decode cX12_rings 27 = .ok (.lconst 1, 1) := by decide +kernel
theorem dX12_rings_28 : decode cX12_rings 28 = .ok (.invokestatic 154, 3) := by decide +kernel
theorem dX12_rings_31 : decode cX12_rings 31 = .ok (.ifCond .ne 5, 3) := by decide +kernel
theorem dX12_rings_34 : decode cX12_rings 34 = .ok (.iconst (-1), 1) := by decide +kernel
theorem dX12_rings_35 : decode cX12_rings 35 = .ok (.ireturn, 1) := by decide +kernel
theorem dX12_rings_36 : decode cX12_rings 36 = .ok (.aload_n 0, 1) := by decide +kernel
theorem dX12_rings_37 : decode cX12_rings 37 = .ok (.iconst 0, 1) := by decide +kernel
theorem dX12_rings_38 : decode cX12_rings 38 = .ok (.iload_n 3, 1) := by decide +kernel
theorem dX12_rings_39 : decode cX12_rings 39 = .ok (.invokevirtual 198, 3) := by decide +kernel
theorem dX12_rings_42 : decode cX12_rings 42 = .ok (.aload_n 0, 1) := by decide +kernel
theorem dX12_rings_43 : decode cX12_rings 43 = .ok (.iconst 1, 1) := by decide +kernel
theorem dX12_rings_44 : decode cX12_rings 44 = .ok (.iload_n 3, 1) := by decide +kernel
theorem dX12_rings_45 : decode cX12_rings 45 = .ok (.invokevirtual 198, 3) := by decide +kernel
theorem dX12_rings_48 : decode cX12_rings 48 = .ok (.iconst 0, 1) := by decide +kernel
theorem dX12_rings_49 : decode cX12_rings 49 = .ok (.istore 5, 2) := by decide +kernel
theorem dX12_rings_51 : decode cX12_rings 51 = .ok (.iload 5, 2) := by decide +kernel
theorem dX12_rings_53 : decode cX12_rings 53 = .ok (.bipush 8, 2) := by decide +kernel
theorem dX12_rings_55 : decode cX12_rings 55 = .ok (.if_icmp .ge 36, 3) := by decide +kernel
theorem dX12_rings_58 : decode cX12_rings 58 = .ok (.aload_n 0, 1) := by decide +kernel
theorem dX12_rings_59 : decode cX12_rings 59 = .ok (.getfield 129, 3) := by decide +kernel
theorem dX12_rings_62 : decode cX12_rings 62 = .ok (.iload 5, 2) := by decide +kernel
theorem dX12_rings_64 : decode cX12_rings 64 = .ok (.aload_n 0, 1) := by decide +kernel
theorem dX12_rings_65 : decode cX12_rings 65 = .ok (.iload_n 1, 1) := by decide +kernel
theorem dX12_rings_66 : decode cX12_rings 66 = .ok (.iload_n 2, 1) := by decide +kernel
theorem dX12_rings_67 : decode cX12_rings 67 = .ok (.iload 5, 2) := by decide +kernel
theorem dX12_rings_69 : decode cX12_rings 69 = .ok (.invokevirtual 352, 3) := by decide +kernel
theorem dX12_rings_72 : decode cX12_rings 72 = .ok (.iconst 1, 1) := by decide +kernel
theorem dX12_rings_73 : decode cX12_rings 73 = .ok (.if_icmp .ne 10, 3) := by decide +kernel
theorem dX12_rings_76 : decode cX12_rings 76 = .ok (.aload_n 0, 1) := by decide +kernel
theorem dX12_rings_77 : decode cX12_rings 77 = .ok (.getfield 340, 3) := by decide +kernel
theorem dX12_rings_80 : decode cX12_rings 80 = .ok (.goto 4, 3) := by decide +kernel
theorem dX12_rings_83 : decode cX12_rings 83 = .ok (.iconst (-1), 1) := by decide +kernel
theorem dX12_rings_84 : decode cX12_rings 84 = .ok (.iastore, 1) := by decide +kernel
theorem dX12_rings_85 : decode cX12_rings 85 = .ok (.iinc 5 1, 3) := by decide +kernel
theorem dX12_rings_88 : decode cX12_rings 88 = .ok (.goto (-37), 3) := by decide +kernel
theorem dX12_rings_91 : decode cX12_rings 91 = .ok (.iconst 0, 1) := by decide +kernel
theorem dX12_rings_92 : decode cX12_rings 92 = .ok (.istore 5, 2) := by decide +kernel
theorem dX12_rings_94 : decode cX12_rings 94 = .ok (.iconst 0, 1) := by decide +kernel
theorem dX12_rings_95 : decode cX12_rings 95 = .ok (.istore 6, 2) := by decide +kernel
theorem dX12_rings_97 : decode cX12_rings 97 = .ok (.iconst 0, 1) := by decide +kernel
theorem dX12_rings_98 : decode cX12_rings 98 = .ok (.istore 7, 2) := by decide +kernel
theorem dX12_rings_100 : decode cX12_rings 100 = .ok (.iload 7, 2) := by decide +kernel
theorem dX12_rings_102 : decode cX12_rings 102 = .ok (.bipush 8, 2) := by decide +kernel
theorem dX12_rings_104 : decode cX12_rings 104 = .ok (.if_icmp .ge 150, 3) := by decide +kernel
theorem dX12_rings_107 : decode cX12_rings 107 = .ok (.aload_n 0, 1) := by decide +kernel
theorem dX12_rings_108 : decode cX12_rings 108 = .ok (.getfield 129, 3) := by decide +kernel
theorem dX12_rings_111 : decode cX12_rings 111 = .ok (.iload 7, 2) := by decide +kernel
theorem dX12_rings_113 : decode cX12_rings 113 = .ok (.iaload, 1) := by decide +kernel
theorem dX12_rings_114 : decode cX12_rings 114 = .ok (.istore 8, 2) := by decide +kernel
theorem dX12_rings_116 : decode cX12_rings 116 = .ok (.iload 8, 2) := by decide +kernel
theorem dX12_rings_118 : decode cX12_rings 118 = .ok (.iconst (-1), 1) := by decide +kernel
theorem dX12_rings_119 : decode cX12_rings 119 = .ok (.if_icmp .ne 7, 3) := by decide +kernel
theorem dX12_rings_122 : decode cX12_rings 122 = .ok (.iconst 0, 1) := by decide +kernel
theorem dX12_rings_123 : decode cX12_rings 123 = .ok (.goto 16, 3) := by decide +kernel
theorem dX12_rings_126 : decode cX12_rings 126 = .ok (.aload_n 0, 1) := by decide +kernel
theorem dX12_rings_127 : decode cX12_rings 127 = .ok (.getfield 31, 3) := by decide +kernel
theorem dX12_rings_130 : decode cX12_rings 130 = .ok (.aload_n 0, 1) := by decide +kernel
theorem dX12_rings_131 : decode cX12_rings 131 = .ok (.iload 7, 2) := by decide +kernel
theorem dX12_rings_133 : decode cX12_rings 133 = .ok (.iload 8, 2) := by decide +kernel
theorem dX12_rings_135 : decode cX12_rings 135 = .ok (.invokevirtual 166, 3) := by decide +kernel
theorem dX12_rings_138 : decode cX12_rings 138 = .ok (.iaload, 1) := by decide +kernel
theorem dX12_rings_139 : decode cX12_rings 139 = .ok (.istore 9, 2) := by decide +kernel
theorem dX12_rings_141 : decode cX12_rings 141 = .ok (.iconst 0, 1) := by decide +kernel
theorem dX12_rings_142 : decode cX12_rings 142 = .ok (.istore 10, 2) := by decide +kernel
theorem dX12_rings_144 : decode cX12_rings 144 = .ok (.iload 10, 2) := by decide +kernel
theorem dX12_rings_146 : decode cX12_rings 146 = .ok (.bipush 8, 2) := by decide +kernel
theorem dX12_rings_148 : decode cX12_rings 148 = .ok (.if_icmp .ge 63, 3) := by decide +kernel
theorem dX12_rings_151 : decode cX12_rings 151 = .ok (.iload 8, 2) := by decide +kernel
theorem dX12_rings_153 : decode cX12_rings 153 = .ok (.iconst (-1), 1) := by decide +kernel
theorem dX12_rings_154 : decode cX12_rings 154 = .ok (.if_icmp .eq 57, 3) := by decide +kernel
theorem dX12_rings_157 : decode cX12_rings 157 = .ok (.iload 8, 2) := by decide +kernel
theorem dX12_rings_159 : decode cX12_rings 159 = .ok (.iload 7, 2) := by decide +kernel
theorem dX12_rings_161 : decode cX12_rings 161 = .ok (.if_icmp .eq 50, 3) := by decide +kernel
theorem dX12_rings_164 : decode cX12_rings 164 = .ok (.aload_n 0, 1) := by decide +kernel
theorem dX12_rings_165 : decode cX12_rings 165 = .ok (.getfield 129, 3) := by decide +kernel
theorem dX12_rings_168 : decode cX12_rings 168 = .ok (.iload 8, 2) := by decide +kernel
theorem dX12_rings_170 : decode cX12_rings 170 = .ok (.iaload, 1) := by decide +kernel
theorem dX12_rings_171 : decode cX12_rings 171 = .ok (.istore 11, 2) := by decide +kernel
theorem dX12_rings_173 : decode cX12_rings 173 = .ok (.iload 9, 2) := by decide +kernel
theorem dX12_rings_175 : decode cX12_rings 175 = .ok (.iload 11, 2) := by decide +kernel
theorem dX12_rings_177 : decode cX12_rings 177 = .ok (.iconst (-1), 1) := by decide +kernel
theorem dX12_rings_178 : decode cX12_rings 178 = .ok (.if_icmp .ne 7, 3) := by decide +kernel
theorem dX12_rings_181 : decode cX12_rings 181 = .ok (.iconst 0, 1) := by decide +kernel
theorem dX12_rings_182 : decode cX12_rings 182 = .ok (.goto 16, 3) := by decide +kernel
theorem dX12_rings_185 : decode cX12_rings 185 = .ok (.aload_n 0, 1) := by decide +kernel
theorem dX12_rings_186 : decode cX12_rings 186 = .ok (.getfield 31, 3) := by decide +kernel
theorem dX12_rings_189 : decode cX12_rings 189 = .ok (.aload_n 0, 1) := by decide +kernel
theorem dX12_rings_190 : decode cX12_rings 190 = .ok (.iload 8, 2) := by decide +kernel
theorem dX12_rings_192 : decode cX12_rings 192 = .ok (.iload 11, 2) := by decide +kernel
theorem dX12_rings_194 : decode cX12_rings 194 = .ok (.invokevirtual 166, 3) := by decide +kernel
theorem dX12_rings_197 : decode cX12_rings 197 = .ok (.iaload, 1) := by decide +kernel
theorem dX12_rings_198 : decode cX12_rings 198 = .ok (.iadd, 1) := by decide +kernel
theorem dX12_rings_199 : decode cX12_rings 199 = .ok (.istore 9, 2) := by decide +kernel
theorem dX12_rings_201 : decode cX12_rings 201 = .ok (.iload 11, 2) := by decide +kernel
theorem dX12_rings_203 : decode cX12_rings 203 = .ok (.istore 8, 2) := by decide +kernel
theorem dX12_rings_205 : decode cX12_rings 205 = .ok (.iinc 10 1, 3) := by decide +kernel
theorem dX12_rings_208 : decode cX12_rings 208 = .ok (.goto (-64), 3) := by decide +kernel
theorem dX12_rings_211 : decode cX12_rings 211 = .ok (.iload 8, 2) := by decide +kernel
theorem dX12_rings_213 : decode cX12_rings 213 = .ok (.iload 7, 2) := by decide +kernel
theorem dX12_rings_215 : decode cX12_rings 215 = .ok (.if_icmp .ne 33, 3) := by decide +kernel
theorem dX12_rings_218 : decode cX12_rings 218 = .ok (.iload 5, 2) := by decide +kernel
theorem dX12_rings_220 : decode cX12_rings 220 = .ok (.iconst 1, 1) := by decide +kernel
theorem dX12_rings_221 : decode cX12_rings 221 = .ok (.iload 7, 2) := by decide +kernel
theorem dX12_rings_223 : decode cX12_rings 223 = .ok (.ishl, 1) := by decide +kernel
theorem dX12_rings_224 : decode cX12_rings 224 = .ok (.ior, 1) := by decide +kernel
theorem dX12_rings_225 : decode cX12_rings 225 = .ok (.istore 5, 2) := by decide +kernel
theorem dX12_rings_227 : decode cX12_rings 227 = .ok (.iload 6, 2) := by decide +kernel
theorem dX12_rings_229 : decode cX12_rings 229 = .ok (.ifCond .eq 10, 3) := by decide +kernel
theorem dX12_rings_232 : decode cX12_rings 232 = .ok (.iload 9, 2) := by decide +kernel
theorem dX12_rings_234 : decode cX12_rings 234 = .ok (.iload 6, 2) := by decide +kernel
theorem dX12_rings_236 : decode cX12_rings 236 = .ok (.if_icmp .ge 8, 3) := by decide +kernel
theorem dX12_rings_239 : decode cX12_rings 239 = .ok (.iload 9, 2) := by decide +kernel
theorem dX12_rings_241 : decode cX12_rings 241 = .ok (.goto 5, 3) := by decide +kernel
theorem dX12_rings_244 : decode cX12_rings 244 = .ok (.iload 6, 2) := by decide +kernel
theorem dX12_rings_246 : decode cX12_rings 246 = .ok (.istore 6, 2) := by decide +kernel
theorem dX12_rings_248 : decode cX12_rings 248 = .ok (.iinc 7 1, 3) := by decide +kernel
theorem dX12_rings_251 : decode cX12_rings 251 = .ok (.goto (-151), 3) := by decide +kernel
theorem dX12_rings_254 : decode cX12_rings 254 = .ok (.iload 4, 2) := by decide +kernel
theorem dX12_rings_256 : decode cX12_rings 256 = .ok (.ifCond .ne 8, 3) := by decide +kernel
theorem dX12_rings_259 : decode cX12_rings 259 = .ok (.iload 5, 2) := by decide +kernel
theorem dX12_rings_261 : decode cX12_rings 261 = .ok (.goto 5, 3) := by decide +kernel
theorem dX12_rings_264 : decode cX12_rings 264 = .ok (.iload 6, 2) := by decide +kernel
theorem dX12_rings_266 : decode cX12_rings 266 = .ok (.ireturn, 1) := by decide +kernel
theorem dX12_told_0 : decode cX12_told 0 = .ok (.iload_n 1, 1) := by decide +kernel
theorem dX12_told_1 : decode cX12_told 1 = .ok (.iconst (-1), 1) := by decide +kernel
theorem dX12_told_2 : decode cX12_told 2 = .ok (.if_icmp .ne 12, 3) := by decide +kernel
theorem dX12_told_5 : decode cX12_told 5 = .ok (.aload_n 0, 1) := by decide +kernel
theorem dX12_told_6 : decode cX12_told 6 = .ok (.getfield 7, 3) := by decide +kernel
theorem dX12_told_9 : decode cX12_told 9 = .ok (.iconst 4, 1) := by decide +kernel
theorem dX12_told_10 : decode cX12_told 10 = .ok (.iconst 0, 1) := by decide +kernel
theorem dX12_told_11 : decode cX12_told 11 = .ok (.iastore, 1) := by decide +kernel
theorem dX12_told_12 : decode cX12_told 12 = .ok (.iconst 0, 1) := by decide +kernel
theorem dX12_told_13 : decode cX12_told 13 = .ok (.ireturn, 1) := by decide +kernel
theorem dX12_told_14 : decode cX12_told 14 = .ok (.iload_n 1, 1) := by decide +kernel
theorem dX12_told_15 : decode cX12_told 15 = .ok (.invokestatic 160, 3) := by decide +kernel
theorem dX12_told_18 : decode cX12_told 18 = .ok (.ifCond .eq 14, 3) := by decide +kernel
theorem dX12_told_21 : decode cX12_told 21 = .ok (.aload_n 0, 1) := by decide +kernel
theorem dX12_told_22 : decode cX12_told 22 = .ok (.getfield 7, 3) := by decide +kernel
theorem dX12_told_25 : decode cX12_told 25 = .ok (.iconst 4, 1) := by decide +kernel
theorem dX12_told_26 : decode cX12_told 26 = .ok (.iaload, 1) := by decide +kernel
theorem dX12_told_27 : decode cX12_told 27 = .ok (.bipush 20, 2) := by decide +kernel
theorem dX12_told_29 : decode cX12_told 29 = .ok (.if_icmp .ne 6, 3) := by decide +kernel
theorem dX12_told_32 : decode cX12_told 32 = .ok (.bipush (-2), 2) := by decide +kernel
theorem dX12_told_34 : decode cX12_told 34 = .ok (.ireturn, 1) := by decide +kernel
theorem dX12_told_35 : decode cX12_told 35 = .ok (.aload_n 0, 1) := by decide +kernel
theorem dX12_told_36 : decode cX12_told 36 = .ok (.getfield 22, 3) := by decide +kernel
theorem dX12_told_39 : decode cX12_told 39 = .ok (.aload_n 0, 1) := by decide +kernel
theorem dX12_told_40 : decode cX12_told 40 = .ok (.getfield 7, 3) := by decide +kernel
theorem dX12_told_43 : decode cX12_told 43 = .ok (.iconst 4, 1) := by decide +kernel
theorem dX12_told_44 : decode cX12_told 44 = .ok (.iaload, 1) := by decide +kernel
theorem dX12_told_45 : decode cX12_told 45 = .ok (.iload_n 1, 1) := by decide +kernel
theorem dX12_told_46 : decode cX12_told 46 = .ok (.iastore, 1) := by decide +kernel
theorem dX12_told_47 : decode cX12_told 47 = .ok (.aload_n 0, 1) := by decide +kernel
theorem dX12_told_48 : decode cX12_told 48 = .ok (.getfield 7, 3) := by decide +kernel
theorem dX12_told_51 : decode cX12_told 51 = .ok (.iconst 4, 1) := by decide +kernel
theorem dX12_told_52 : decode cX12_told 52 = .ok (.dup2, 1) := by decide +kernel
theorem dX12_told_53 : decode cX12_told 53 = .ok (.iaload, 1) := by decide +kernel
theorem dX12_told_54 : decode cX12_told 54 = .ok (.iconst 1, 1) := by decide +kernel
theorem dX12_told_55 : decode cX12_told 55 = .ok (.iadd, 1) := by decide +kernel
theorem dX12_told_56 : decode cX12_told 56 = .ok (.iastore, 1) := by decide +kernel
theorem dX12_told_57 : decode cX12_told 57 = .ok (.aload_n 0, 1) := by decide +kernel
theorem dX12_told_58 : decode cX12_told 58 = .ok (.getfield 7, 3) := by decide +kernel
theorem dX12_told_61 : decode cX12_told 61 = .ok (.iconst 4, 1) := by decide +kernel
theorem dX12_told_62 : decode cX12_told 62 = .ok (.iaload, 1) := by decide +kernel
theorem dX12_told_63 : decode cX12_told 63 = .ok (.ireturn, 1) := by decide +kernel
theorem dX12_judged_0 : decode cX12_judged 0 = .ok (.aload_n 0, 1) := by decide +kernel
theorem dX12_judged_1 : decode cX12_judged 1 = .ok (.iload_n 1, 1) := by decide +kernel
theorem dX12_judged_2 : decode cX12_judged 2 = .ok (.invokevirtual 331, 3) := by decide +kernel
theorem dX12_judged_5 : decode cX12_judged 5 = .ok (.ifCond .eq 26, 3) := by decide +kernel
theorem dX12_judged_8 : decode cX12_judged 8 = .ok (.aload_n 0, 1) := by decide +kernel
theorem dX12_judged_9 : decode cX12_judged 9 = .ok (.iload_n 2, 1) := by decide +kernel
theorem dX12_judged_10 : decode cX12_judged 10 = .ok (.invokevirtual 175, 3) := by decide +kernel
theorem dX12_judged_13 : decode cX12_judged 13 = .ok (.ifCond .eq 18, 3) := by decide +kernel
theorem dX12_judged_16 : decode cX12_judged 16 = .ok (.iload_n 3, 1) := by decide +kernel
theorem dX12_judged_17 : decode cX12_judged 17 = .ok (.invokestatic 160, 3) := by decide +kernel
theorem dX12_judged_20 : decode cX12_judged 20 = .ok (.ifCond .eq 11, 3) := by decide +kernel
theorem dX12_judged_23 : decode cX12_judged 23 = .ok (.iload 4, 2) := by decide +kernel
theorem dX12_judged_25 : decode cX12_judged 25 = .ok (.invokestatic 170, 3) := by decide +kernel
theorem dX12_judged_28 : decode cX12_judged 28 = .ok (.ifCond .ne 5, 3) := by decide +kernel
theorem dX12_judged_31 : decode cX12_judged 31 = .ok (.iconst (-1), 1) := by decide +kernel
theorem dX12_judged_32 : decode cX12_judged 32 = .ok (.ireturn, 1) := by decide +kernel
theorem dX12_judged_33 : decode cX12_judged 33 = .ok (.aload_n 0, 1) := by decide +kernel
theorem dX12_judged_34 : decode cX12_judged 34 = .ok (.iconst 0, 1) := by decide +kernel
theorem dX12_judged_35 : decode cX12_judged 35 = .ok (.iload 4, 2) := by decide +kernel
theorem dX12_judged_37 : decode cX12_judged 37 = .ok (.invokevirtual 198, 3) := by decide +kernel
theorem dX12_judged_40 : decode cX12_judged 40 = .ok (.iload_n 3, 1) := by decide +kernel
theorem dX12_judged_41 : decode cX12_judged 41 = .ok (.istore 5, 2) := by decide +kernel
theorem dX12_judged_43 : decode cX12_judged 43 = .ok (.iconst 1, 1) := by decide +kernel
theorem dX12_judged_44 : decode cX12_judged 44 = .ok (.iload_n 3, 1) := by decide +kernel
theorem dX12_judged_45 : decode cX12_judged 45 = .ok (.ishl, 1) := by decide +kernel
theorem dX12_judged_46 : decode cX12_judged 46 = .ok (.istore 6, 2) := by decide +kernel
theorem dX12_judged_48 : decode cX12_judged 48 = .ok (.iload 4, 2) := by decide +kernel
theorem dX12_judged_50 : decode cX12_judged 50 = .ok (.istore 7, 2) := by decide +kernel
theorem dX12_judged_52 : decode cX12_judged 52 = .ok (.iconst 0, 1) := by decide +kernel
theorem dX12_judged_53 : decode cX12_judged 53 = .ok (.istore 8, 2) := by decide +kernel
theorem dX12_judged_55 : decode cX12_judged 55 = .ok (.iload 8, 2) := by decide +kernel
theorem dX12_judged_57 : decode cX12_judged 57 = .ok (.aload_n 0, 1) := by decide +kernel
theorem dX12_judged_58 : decode cX12_judged 58 = .ok (.getfield 7, 3) := by decide +kernel
theorem dX12_judged_61 : decode cX12_judged 61 = .ok (.iconst 4, 1) := by decide +kernel
theorem dX12_judged_62 : decode cX12_judged 62 = .ok (.iaload, 1) := by decide +kernel
theorem dX12_judged_63 : decode cX12_judged 63 = .ok (.if_icmp .ge 144, 3) := by decide +kernel
theorem dX12_judged_66 : decode cX12_judged 66 = .ok (.iconst (-1), 1) := by decide +kernel
theorem dX12_judged_67 : decode cX12_judged 67 = .ok (.istore 9, 2) := by decide +kernel
theorem dX12_judged_69 : decode cX12_judged 69 = .ok (.iload 7, 2) := by decide +kernel
theorem dX12_judged_71 : decode cX12_judged 71 = .ok (.sipush 999, 3) := by decide +kernel
theorem dX12_judged_74 : decode cX12_judged 74 = .ok (.if_icmp .gt 53, 3) := by decide +kernel
theorem dX12_judged_77 : decode cX12_judged 77 = .ok (.aload_n 0, 1) := by decide +kernel
theorem dX12_judged_78 : decode cX12_judged 78 = .ok (.iconst 1, 1) := by decide +kernel
theorem dX12_judged_79 : decode cX12_judged 79 = .ok (.iload 7, 2) := by decide +kernel
theorem dX12_judged_81 : decode cX12_judged 81 = .ok (.invokevirtual 198, 3) := by decide +kernel
theorem dX12_judged_84 : decode cX12_judged 84 = .ok (.aload_n 0, 1) := by decide +kernel
theorem dX12_judged_85 : decode cX12_judged 85 = .ok (.iload_n 1, 1) := by decide +kernel
theorem dX12_judged_86 : decode cX12_judged 86 = .ok (.iload_n 2, 1) := by decide +kernel
theorem dX12_judged_87 : decode cX12_judged 87 = .ok (.iload 5, 2) := by decide +kernel
theorem dX12_judged_89 : decode cX12_judged 89 = .ok (.invokevirtual 352, 3) := by decide +kernel
theorem dX12_judged_92 : decode cX12_judged 92 = .ok (.istore 10, 2) := by decide +kernel
theorem dX12_judged_94 : decode cX12_judged 94 = .ok (.iload 10, 2) := by decide +kernel
theorem dX12_judged_96 : decode cX12_judged 96 = .ok (.iconst 1, 1) := by decide +kernel
theorem dX12_judged_97 : decode cX12_judged 97 = .ok (.if_icmp .ne 10, 3) := by decide +kernel
theorem dX12_judged_100 : decode cX12_judged 100 = .ok (.aload_n 0, 1) := by decide +kernel
theorem dX12_judged_101 : decode cX12_judged 101 = .ok (.getfield 340, 3) := by decide +kernel
theorem dX12_judged_104 : decode cX12_judged 104 = .ok (.goto 21, 3) := by decide +kernel
theorem dX12_judged_107 : decode cX12_judged 107 = .ok (.iload 10, 2) := by decide +kernel
theorem dX12_judged_109 : decode cX12_judged 109 = .ok (.iconst 2, 1) := by decide +kernel
theorem dX12_judged_110 : decode cX12_judged 110 = .ok (.if_icmp .ne 14, 3) := by decide +kernel
theorem dX12_judged_113 : decode cX12_judged 113 = .ok (.aload_n 0, 1) := by decide +kernel
theorem dX12_judged_114 : decode cX12_judged 114 = .ok (.iload 5, 2) := by decide +kernel
theorem dX12_judged_116 : decode cX12_judged 116 = .ok (.iload 6, 2) := by decide +kernel
theorem dX12_judged_118 : decode cX12_judged 118 = .ok (.invokevirtual 355, 3) := by decide +kernel
theorem dX12_judged_121 : decode cX12_judged 121 = .ok (.goto 4, 3) := by decide +kernel
theorem dX12_judged_124 : decode cX12_judged 124 = .ok (.iconst (-1), 1) := by decide +kernel
theorem dX12_judged_125 : decode cX12_judged 125 = .ok (.istore 9, 2) := by decide +kernel
theorem dX12_judged_127 : decode cX12_judged 127 = .ok (.iload 9, 2) := by decide +kernel
theorem dX12_judged_129 : decode cX12_judged 129 = .ok (.iconst (-1), 1) := by decide +kernel
theorem dX12_judged_130 : decode cX12_judged 130 = .ok (.if_icmp .eq 37, 3) := by decide +kernel
theorem dX12_judged_133 : decode cX12_judged 133 = .ok (.iload 9, 2) := by decide +kernel
theorem dX12_judged_135 : decode cX12_judged 135 = .ok (.aload_n 0, 1) := by decide +kernel
theorem dX12_judged_136 : decode cX12_judged 136 = .ok (.getfield 22, 3) := by decide +kernel
theorem dX12_judged_139 : decode cX12_judged 139 = .ok (.iload 8, 2) := by decide +kernel
theorem dX12_judged_141 : decode cX12_judged 141 = .ok (.iaload, 1) := by decide +kernel
theorem dX12_judged_142 : decode cX12_judged 142 = .ok (.if_icmp .ne 25, 3) := by decide +kernel
theorem dX12_judged_145 : decode cX12_judged 145 = .ok (.iload 7, 2) := by decide +kernel
theorem dX12_judged_147 : decode cX12_judged 147 = .ok (.aload_n 0, 1) := by decide +kernel
theorem dX12_judged_148 : decode cX12_judged 148 = .ok (.getfield 31, 3) := by decide +kernel
theorem dX12_judged_151 : decode cX12_judged 151 = .ok (.aload_n 0, 1) := by decide +kernel
theorem dX12_judged_152 : decode cX12_judged 152 = .ok (.iload 5, 2) := by decide +kernel
theorem dX12_judged_154 : decode cX12_judged 154 = .ok (.iload 9, 2) := by decide +kernel
theorem dX12_judged_156 : decode cX12_judged 156 = .ok (.invokevirtual 166, 3) := by decide +kernel
theorem dX12_judged_159 : decode cX12_judged 159 = .ok (.iaload, 1) := by decide +kernel
theorem dX12_judged_160 : decode cX12_judged 160 = .ok (.iadd, 1) := by decide +kernel
theorem dX12_judged_161 : decode cX12_judged 161 = .ok (.sipush 999, 3) := by decide +kernel
theorem dX12_judged_164 : decode cX12_judged 164 = .ok (.if_icmp .le 6, 3) := by decide +kernel
theorem dX12_judged_167 : decode cX12_judged 167 = .ok (.iload 8, 2) := by decide +kernel
theorem dX12_judged_169 : decode cX12_judged 169 = .ok (.ireturn, 1) := by decide +kernel
theorem dX12_judged_170 : decode cX12_judged 170 = .ok (.iload 7, 2) := by decide +kernel
theorem dX12_judged_172 : decode cX12_judged 172 = .ok (.aload_n 0, 1) := by decide +kernel
theorem dX12_judged_173 : decode cX12_judged 173 = .ok (.getfield 31, 3) := by decide +kernel
theorem dX12_judged_176 : decode cX12_judged 176 = .ok (.aload_n 0, 1) := by decide +kernel
theorem dX12_judged_177 : decode cX12_judged 177 = .ok (.iload 5, 2) := by decide +kernel
theorem dX12_judged_179 : decode cX12_judged 179 = .ok (.iload 9, 2) := by decide +kernel
theorem dX12_judged_181 : decode cX12_judged 181 = .ok (.invokevirtual 166, 3) := by decide +kernel
theorem dX12_judged_184 : decode cX12_judged 184 = .ok (.iaload, 1) := by decide +kernel
theorem dX12_judged_185 : decode cX12_judged 185 = .ok (.iadd, 1) := by decide +kernel
theorem dX12_judged_186 : decode cX12_judged 186 = .ok (.istore 7, 2) := by decide +kernel
theorem dX12_judged_188 : decode cX12_judged 188 = .ok (.iload 9, 2) := by decide +kernel
theorem dX12_judged_190 : decode cX12_judged 190 = .ok (.istore 5, 2) := by decide +kernel
theorem dX12_judged_192 : decode cX12_judged 192 = .ok (.iload 6, 2) := by decide +kernel
theorem dX12_judged_194 : decode cX12_judged 194 = .ok (.iconst 1, 1) := by decide +kernel
theorem dX12_judged_195 : decode cX12_judged 195 = .ok (.iload 9, 2) := by decide +kernel
theorem dX12_judged_197 : decode cX12_judged 197 = .ok (.ishl, 1) := by decide +kernel
theorem dX12_judged_198 : decode cX12_judged 198 = .ok (.ior, 1) := by decide +kernel
theorem dX12_judged_199 : decode cX12_judged 199 = .ok (.istore 6, 2) := by decide +kernel
theorem dX12_judged_201 : decode cX12_judged 201 = .ok (.iinc 8 1, 3) := by decide +kernel
theorem dX12_judged_204 : decode cX12_judged 204 = .ok (.goto (-149), 3) := by decide +kernel
theorem dX12_judged_207 : decode cX12_judged 207 = .ok (.bipush (-2), 2) := by decide +kernel
theorem dX12_judged_209 : decode cX12_judged 209 = .ok (.ireturn, 1) := by decide +kernel
theorem dX12_wordsOf_0 : decode cX12_wordsOf 0 = .ok (.aload_n 0, 1) := by decide +kernel
theorem dX12_wordsOf_1 : decode cX12_wordsOf 1 = .ok (.getfield 79, 3) := by decide +kernel
theorem dX12_wordsOf_4 : decode cX12_wordsOf 4 = .ok (.bipush 12, 2) := by decide +kernel
theorem dX12_wordsOf_6 : decode cX12_wordsOf 6 = .ok (.iload_n 1, 1) := by decide +kernel
theorem dX12_wordsOf_7 : decode cX12_wordsOf 7 = .ok (.iadd, 1) := by decide +kernel
theorem dX12_wordsOf_8 : decode cX12_wordsOf 8 = .ok (.iaload, 1) := by decide +kernel
theorem dX12_wordsOf_9 : decode cX12_wordsOf 9 = .ok (.istore_n 3, 1) := by decide +kernel
theorem dX12_wordsOf_10 : decode cX12_wordsOf 10 = .ok (.iconst 0, 1) := by decide +kernel
theorem dX12_wordsOf_11 : decode cX12_wordsOf 11 = .ok (.istore 4, 2) := by decide +kernel
theorem dX12_wordsOf_13 : decode cX12_wordsOf 13 = .ok (.iload 4, 2) := by decide +kernel
theorem dX12_wordsOf_15 : decode cX12_wordsOf 15 = .ok (.bipush 6, 2) := by decide +kernel
theorem dX12_wordsOf_17 : decode cX12_wordsOf 17 = .ok (.if_icmp .ge 45, 3) := by decide +kernel
theorem dX12_wordsOf_20 : decode cX12_wordsOf 20 = .ok (.iload_n 3, 1) := by decide +kernel
theorem dX12_wordsOf_21 : decode cX12_wordsOf 21 = .ok (.aload_n 0, 1) := by decide +kernel
theorem dX12_wordsOf_22 : decode cX12_wordsOf 22 = .ok (.getfield 82, 3) := by decide +kernel
theorem dX12_wordsOf_25 : decode cX12_wordsOf 25 = .ok (.bipush 6, 2) := by decide +kernel
theorem dX12_wordsOf_27 : decode cX12_wordsOf 27 = .ok (.bipush 12, 2) := by decide +kernel
theorem dX12_wordsOf_29 : decode cX12_wordsOf 29 = .ok (.iload_n 1, 1) := by decide +kernel
theorem dX12_wordsOf_30 : decode cX12_wordsOf 30 = .ok (.iadd, 1) := by decide +kernel
theorem dX12_wordsOf_31 : decode cX12_wordsOf 31 = .ok (.imul, 1) := by decide +kernel
theorem dX12_wordsOf_32 : decode cX12_wordsOf 32 = .ok (.iload 4, 2) := by decide +kernel
theorem dX12_wordsOf_34 : decode cX12_wordsOf 34 = .ok (.iadd, 1) := by decide +kernel
theorem dX12_wordsOf_35 : decode cX12_wordsOf 35 = .ok (.iaload, 1) := by decide +kernel
theorem dX12_wordsOf_36 : decode cX12_wordsOf 36 = .ok (.iload_n 2, 1) := by decide +kernel
theorem dX12_wordsOf_37 : decode cX12_wordsOf 37 = .ok (.invokestatic 148, 3) := by decide +kernel
theorem dX12_wordsOf_40 : decode cX12_wordsOf 40 = .ok (.ifCond .eq 13, 3) := by decide +kernel
theorem dX12_wordsOf_43 : decode cX12_wordsOf 43 = .ok (.iconst 1, 1) := by decide +kernel
theorem dX12_wordsOf_44 : decode cX12_wordsOf 44 = .ok (.bipush 10, 2) := by decide +kernel
theorem dX12_wordsOf_46 : decode cX12_wordsOf 46 = .ok (.iload 4, 2) := by decide +kernel
theorem dX12_wordsOf_48 : decode cX12_wordsOf 48 = .ok (.iadd, 1) := by decide +kernel
theorem dX12_wordsOf_49 : decode cX12_wordsOf 49 = .ok (.ishl, 1) := by decide +kernel
theorem dX12_wordsOf_50 : decode cX12_wordsOf 50 = .ok (.goto 4, 3) := by decide +kernel
theorem dX12_wordsOf_53 : decode cX12_wordsOf 53 = .ok (.iconst 0, 1) := by decide +kernel
theorem dX12_wordsOf_54 : decode cX12_wordsOf 54 = .ok (.ior, 1) := by decide +kernel
theorem dX12_wordsOf_55 : decode cX12_wordsOf 55 = .ok (.istore_n 3, 1) := by decide +kernel
theorem dX12_wordsOf_56 : decode cX12_wordsOf 56 = .ok (.iinc 4 1, 3) := by decide +kernel
theorem dX12_wordsOf_59 : decode cX12_wordsOf 59 = .ok (.goto (-46), 3) := by decide +kernel
theorem dX12_wordsOf_62 : decode cX12_wordsOf 62 = .ok (.iload_n 3, 1) := by decide +kernel
theorem dX12_wordsOf_63 : decode cX12_wordsOf 63 = .ok (.ireturn, 1) := by decide +kernel
theorem dX12_price_0 : decode cX12_price 0 = .ok (.iconst 0, 1) := by decide +kernel
theorem dX12_price_1 : decode cX12_price 1 = .ok (.istore_n 3, 1) := by decide +kernel
theorem dX12_price_2 : decode cX12_price 2 = .ok (.iconst 0, 1) := by decide +kernel
theorem dX12_price_3 : decode cX12_price 3 = .ok (.istore 4, 2) := by decide +kernel
theorem dX12_price_5 : decode cX12_price 5 = .ok (.iload 4, 2) := by decide +kernel
theorem dX12_price_7 : decode cX12_price 7 = .ok (.bipush 16, 2) := by decide +kernel
theorem dX12_price_9 : decode cX12_price 9 = .ok (.if_icmp .ge 53, 3) := by decide +kernel
theorem dX12_price_12 : decode cX12_price 12 = .ok (.iload_n 3, 1) := by decide +kernel
theorem dX12_price_13 : decode cX12_price 13 = .ok (.iload_n 1, 1) := by decide +kernel
theorem dX12_price_14 : decode cX12_price 14 = .ok (.iload 4, 2) := by decide +kernel
theorem dX12_price_16 : decode cX12_price 16 = .ok (.invokestatic 148, 3) := by decide +kernel
theorem dX12_price_19 : decode cX12_price 19 = .ok (.ifCond .eq 34, 3) := by decide +kernel
theorem dX12_price_22 : decode cX12_price 22 = .ok (.aload_n 0, 1) := by decide +kernel
theorem dX12_price_23 : decode cX12_price 23 = .ok (.getfield 19, 3) := by decide +kernel
theorem dX12_price_26 : decode cX12_price 26 = .ok (.iload 4, 2) := by decide +kernel
theorem dX12_price_28 : decode cX12_price 28 = .ok (.iaload, 1) := by decide +kernel
theorem dX12_price_29 : decode cX12_price 29 = .ok (.iload_n 2, 1) := by decide +kernel
theorem dX12_price_30 : decode cX12_price 30 = .ok (.iload 4, 2) := by decide +kernel
theorem dX12_price_32 : decode cX12_price 32 = .ok (.invokestatic 148, 3) := by decide +kernel
theorem dX12_price_35 : decode cX12_price 35 = .ok (.ifCond .eq 13, 3) := by decide +kernel
theorem dX12_price_38 : decode cX12_price 38 = .ok (.aload_n 0, 1) := by decide +kernel
theorem dX12_price_39 : decode cX12_price 39 = .ok (.getfield 19, 3) := by decide +kernel
theorem dX12_price_42 : decode cX12_price 42 = .ok (.bipush 16, 2) := by decide +kernel
theorem dX12_price_44 : decode cX12_price 44 = .ok (.iaload, 1) := by decide +kernel
theorem dX12_price_45 : decode cX12_price 45 = .ok (.goto 4, 3) := by decide +kernel
theorem dX12_price_48 : decode cX12_price 48 = .ok (.iconst 0, 1) := by decide +kernel
theorem dX12_price_49 : decode cX12_price 49 = .ok (.iadd, 1) := by decide +kernel
theorem dX12_price_50 : decode cX12_price 50 = .ok (.goto 4, 3) := by decide +kernel
theorem dX12_price_53 : decode cX12_price 53 = .ok (.iconst 0, 1) := by decide +kernel
theorem dX12_price_54 : decode cX12_price 54 = .ok (.iadd, 1) := by decide +kernel
theorem dX12_price_55 : decode cX12_price 55 = .ok (.istore_n 3, 1) := by decide +kernel
theorem dX12_price_56 : decode cX12_price 56 = .ok (.iinc 4 1, 3) := by decide +kernel
theorem dX12_price_59 : decode cX12_price 59 = .ok (.goto (-54), 3) := by decide +kernel
theorem dX12_price_62 : decode cX12_price 62 = .ok (.iload_n 3, 1) := by decide +kernel
theorem dX12_price_63 : decode cX12_price 63 = .ok (.ireturn, 1) := by decide +kernel
theorem dX12_isClear_0 : decode cX12_isClear 0 = .ok (.iconst 1, 1) := by decide +kernel
theorem dX12_isClear_1 : decode cX12_isClear 1 = .ok (.istore_n 3, 1) := by decide +kernel
theorem dX12_isClear_2 : decode cX12_isClear 2 = .ok (.iconst 0, 1) := by decide +kernel
theorem dX12_isClear_3 : decode cX12_isClear 3 = .ok (.istore 4, 2) := by decide +kernel
theorem dX12_isClear_5 : decode cX12_isClear 5 = .ok (.iload 4, 2) := by decide +kernel
theorem dX12_isClear_7 : decode cX12_isClear 7 = .ok (.iload_n 2, 1) := by decide +kernel
theorem dX12_isClear_8 : decode cX12_isClear 8 = .ok (.if_icmp .ge 31, 3) := by decide +kernel
theorem dX12_isClear_11 : decode cX12_isClear 11 = .ok (.iload_n 3, 1) := by decide +kernel
theorem dX12_isClear_12 : decode cX12_isClear 12 = .ok (.ifCond .eq 27, 3) := by decide +kernel
theorem dX12_isClear_15 : decode cX12_isClear 15 = .ok (.aload_n 0, 1) := by decide +kernel
theorem dX12_isClear_16 : decode cX12_isClear 16 = .ok (.getfield 132, 3) := by decide +kernel
theorem dX12_isClear_19 : decode cX12_isClear 19 = .ok (.iload 4, 2) := by decide +kernel
theorem dX12_isClear_21 : decode cX12_isClear 21 = .ok (.iaload, 1) := by decide +kernel
theorem dX12_isClear_22 : decode cX12_isClear 22 = .ok (.iload_n 1, 1) := by decide +kernel
theorem dX12_isClear_23 : decode cX12_isClear 23 = .ok (.iand, 1) := by decide +kernel
theorem dX12_isClear_24 : decode cX12_isClear 24 = .ok (.ifCond .eq 7, 3) := by decide +kernel
theorem dX12_isClear_27 : decode cX12_isClear 27 = .ok (.iconst 1, 1) := by decide +kernel
theorem dX12_isClear_28 : decode cX12_isClear 28 = .ok (.goto 4, 3) := by decide +kernel
theorem dX12_isClear_31 : decode cX12_isClear 31 = .ok (.iconst 0, 1) := by decide +kernel
theorem dX12_isClear_32 : decode cX12_isClear 32 = .ok (.istore_n 3, 1) := by decide +kernel
theorem dX12_isClear_33 : decode cX12_isClear 33 = .ok (.iinc 4 1, 3) := by decide +kernel
theorem dX12_isClear_36 : decode cX12_isClear 36 = .ok (.goto (-31), 3) := by decide +kernel
theorem dX12_isClear_39 : decode cX12_isClear 39 = .ok (.iload_n 3, 1) := by decide +kernel
theorem dX12_isClear_40 : decode cX12_isClear 40 = .ok (.ireturn, 1) := by decide +kernel
theorem dX12_cheapest_0 : decode cX12_cheapest 0 = .ok (.aload_n 0, 1) := by decide +kernel
theorem dX12_cheapest_1 : decode cX12_cheapest 1 = .ok (.iload_n 1, 1) := by decide +kernel
theorem dX12_cheapest_2 : decode cX12_cheapest 2 = .ok (.invokevirtual 175, 3) := by decide +kernel
theorem dX12_cheapest_5 : decode cX12_cheapest 5 = .ok (.ifCond .eq 59, 3) := by decide +kernel
theorem dX12_cheapest_8 : decode cX12_cheapest 8 = .ok (.aload_n 0, 1) := by decide +kernel
theorem dX12_cheapest_9 : decode cX12_cheapest 9 = .ok (.iload_n 2, 1) := by decide +kernel
theorem dX12_cheapest_10 : decode cX12_cheapest 10 = .ok (.invokevirtual 175, 3) := by decide +kernel
theorem dX12_cheapest_13 : decode cX12_cheapest 13 = .ok (.ifCond .eq 51, 3) := by decide +kernel
theorem dX12_cheapest_16 : decode cX12_cheapest 16 = .ok (.iload_n 1, 1) := by decide +kernel
theorem dX12_cheapest_17 : decode cX12_cheapest 17 = .ok (.iload_n 2, 1) := by decide +kernel
theorem dX12_cheapest_18 : decode cX12_cheapest 18 = .ok (.if_icmp .eq 46, 3) := by decide +kernel
theorem dX12_cheapest_21 : decode cX12_cheapest 21 = .ok (.iload_n 3, 1) := by decide +kernel
theorem dX12_cheapest_22 : decode cX12_cheapest 22 = .ok (.invokestatic 170, 3) := by decide +kernel
theorem dX12_cheapest_25 : decode cX12_cheapest 25 = .ok (.ifCond .eq 39, 3) := by decide +kernel
theorem dX12_cheapest_28 : decode cX12_cheapest 28 = .ok (.iload 4, 2) := by decide +kernel
theorem dX12_cheapest_30 : decode cX12_cheapest 30 = .ok (.invokestatic 170, 3) := by decide +kernel
theorem dX12_cheapest_33 : decode cX12_cheapest 33 = .ok (.ifCond .eq 31, 3) := by decide +kernel
theorem dX12_cheapest_36 : decode cX12_cheapest 36 = .ok (.iload 4, 2) := by decide +kernel
theorem dX12_cheapest_38 : decode cX12_cheapest 38 = .ok (.iload_n 3, 1) := by decide +kernel
theorem dX12_cheapest_39 : decode cX12_cheapest 39 = .ok (.isub, 1) := by decide +kernel
theorem dX12_cheapest_40 : decode cX12_cheapest 40 = .ok (.i2l, 1) := by decide +kernel
theorem dX12_cheapest_41 : decode cX12_cheapest 41 = .ok (.lconst 0, 1) := by decide +kernel
theorem dX12_cheapest_42 : decode cX12_cheapest 42 = .ok (.ldc2_w 379, 3) := by decide +kernel
theorem dX12_cheapest_45 : decode cX12_cheapest 45 = .ok (.invokestatic 154, 3) := by decide +kernel
theorem dX12_cheapest_48 : decode cX12_cheapest 48 = .ok (.ifCond .eq 16, 3) := by decide +kernel
theorem dX12_cheapest_51 : decode cX12_cheapest 51 = .ok (.iload 5, 2) := by decide +kernel
theorem dX12_cheapest_53 : decode cX12_cheapest 53 = .ok (.i2l, 1) := by decide +kernel
theorem dX12_cheapest_54 : decode cX12_cheapest 54 = .ok (.lconst 0, 1) := by decide +kernel
theorem dX12_cheapest_55 : decode cX12_cheapest 55 = .ok (.ldc2_w 381, 3) := by decide +kernel
theorem dX12_cheapest_58 : decode cX12_cheapest 58 = .ok (.invokestatic 154, 3) := by decide +kernel
theorem dX12_cheapest_61 : decode cX12_cheapest 61 = .ok (.ifCond .ne 5, 3) := by decide +kernel
theorem dX12_cheapest_64 : decode cX12_cheapest 64 = .ok (.iconst (-1), 1) := by decide +kernel
theorem dX12_cheapest_65 : decode cX12_cheapest 65 = .ok (.ireturn, 1) := by decide +kernel
theorem dX12_cheapest_66 : decode cX12_cheapest 66 = .ok (.ldc_w 383, 3) := by decide +kernel
theorem dX12_cheapest_69 : decode cX12_cheapest 69 = .ok (.istore 6, 2) := by decide +kernel
theorem dX12_cheapest_71 : decode cX12_cheapest 71 = .ok (.iconst 0, 1) := by decide +kernel
theorem dX12_cheapest_72 : decode cX12_cheapest 72 = .ok (.istore 7, 2) := by decide +kernel
theorem dX12_cheapest_74 : decode cX12_cheapest 74 = .ok (.iload_n 3, 1) := by decide +kernel
theorem dX12_cheapest_75 : decode cX12_cheapest 75 = .ok (.istore 8, 2) := by decide +kernel
theorem dX12_cheapest_77 : decode cX12_cheapest 77 = .ok (.iload 8, 2) := by decide +kernel
theorem dX12_cheapest_79 : decode cX12_cheapest 79 = .ok (.iload 4, 2) := by decide +kernel
theorem dX12_cheapest_81 : decode cX12_cheapest 81 = .ok (.if_icmp .gt 38, 3) := by decide +kernel
theorem dX12_cheapest_84 : decode cX12_cheapest 84 = .ok (.aload_n 0, 1) := by decide +kernel
theorem dX12_cheapest_85 : decode cX12_cheapest 85 = .ok (.iconst 1, 1) := by decide +kernel
theorem dX12_cheapest_86 : decode cX12_cheapest 86 = .ok (.iload 8, 2) := by decide +kernel
theorem dX12_cheapest_88 : decode cX12_cheapest 88 = .ok (.invokevirtual 198, 3) := by decide +kernel
theorem dX12_cheapest_91 : decode cX12_cheapest 91 = .ok (.iload 6, 2) := by decide +kernel
theorem dX12_cheapest_93 : decode cX12_cheapest 93 = .ok (.aload_n 0, 1) := by decide +kernel
theorem dX12_cheapest_94 : decode cX12_cheapest 94 = .ok (.iload_n 2, 1) := by decide +kernel
theorem dX12_cheapest_95 : decode cX12_cheapest 95 = .ok (.iload_n 1, 1) := by decide +kernel
theorem dX12_cheapest_96 : decode cX12_cheapest 96 = .ok (.invokevirtual 384, 3) := by decide +kernel
theorem dX12_cheapest_99 : decode cX12_cheapest 99 = .ok (.iand, 1) := by decide +kernel
theorem dX12_cheapest_100 : decode cX12_cheapest 100 = .ok (.istore 6, 2) := by decide +kernel
theorem dX12_cheapest_102 : decode cX12_cheapest 102 = .ok (.iload 7, 2) := by decide +kernel
theorem dX12_cheapest_104 : decode cX12_cheapest 104 = .ok (.aload_n 0, 1) := by decide +kernel
theorem dX12_cheapest_105 : decode cX12_cheapest 105 = .ok (.iload_n 2, 1) := by decide +kernel
theorem dX12_cheapest_106 : decode cX12_cheapest 106 = .ok (.iload_n 1, 1) := by decide +kernel
theorem dX12_cheapest_107 : decode cX12_cheapest 107 = .ok (.invokevirtual 384, 3) := by decide +kernel
theorem dX12_cheapest_110 : decode cX12_cheapest 110 = .ok (.ior, 1) := by decide +kernel
theorem dX12_cheapest_111 : decode cX12_cheapest 111 = .ok (.istore 7, 2) := by decide +kernel
theorem dX12_cheapest_113 : decode cX12_cheapest 113 = .ok (.iinc 8 1, 3) := by decide +kernel
theorem dX12_cheapest_116 : decode cX12_cheapest 116 = .ok (.goto (-39), 3) := by decide +kernel
theorem dX12_cheapest_119 : decode cX12_cheapest 119 = .ok (.ldc_w 383, 3) := by decide +kernel
theorem dX12_cheapest_122 : decode cX12_cheapest 122 = .ok (.iload 7, 2) := by decide +kernel
theorem dX12_cheapest_124 : decode cX12_cheapest 124 = .ok (.iconst (-1), 1) := by decide +kernel
theorem dX12_cheapest_125 : decode cX12_cheapest 125 = .ok (.ixor, 1) := by decide +kernel
theorem dX12_cheapest_126 : decode cX12_cheapest 126 = .ok (.iand, 1) := by decide +kernel
theorem dX12_cheapest_127 : decode cX12_cheapest 127 = .ok (.istore 8, 2) := by decide +kernel
theorem dX12_cheapest_129 : decode cX12_cheapest 129 = .ok (.iload 6, 2) := by decide +kernel
theorem dX12_cheapest_131 : decode cX12_cheapest 131 = .ok (.iload 8, 2) := by decide +kernel
theorem dX12_cheapest_133 : decode cX12_cheapest 133 = .ok (.ior, 1) := by decide +kernel
theorem dX12_cheapest_134 : decode cX12_cheapest 134 = .ok (.istore 9, 2) := by decide +kernel
theorem dX12_cheapest_136 : decode cX12_cheapest 136 = .ok (.iconst 0, 1) := by decide +kernel
theorem dX12_cheapest_137 : decode cX12_cheapest 137 = .ok (.istore 10, 2) := by decide +kernel
theorem dX12_cheapest_139 : decode cX12_cheapest 139 = .ok (.iload_n 3, 1) := by decide +kernel
theorem dX12_cheapest_140 : decode cX12_cheapest 140 = .ok (.istore 11, 2) := by decide +kernel
theorem dX12_cheapest_142 : decode cX12_cheapest 142 = .ok (.iload 11, 2) := by decide +kernel
theorem dX12_cheapest_144 : decode cX12_cheapest 144 = .ok (.iload 4, 2) := by decide +kernel
theorem dX12_cheapest_146 : decode cX12_cheapest 146 = .ok (.if_icmp .gt 65, 3) := by decide +kernel
theorem dX12_cheapest_149 : decode cX12_cheapest 149 = .ok (.aload_n 0, 1) := by decide +kernel
theorem dX12_cheapest_150 : decode cX12_cheapest 150 = .ok (.iconst 1, 1) := by decide +kernel
theorem dX12_cheapest_151 : decode cX12_cheapest 151 = .ok (.iload 11, 2) := by decide +kernel
theorem dX12_cheapest_153 : decode cX12_cheapest 153 = .ok (.invokevirtual 198, 3) := by decide +kernel
theorem dX12_cheapest_156 : decode cX12_cheapest 156 = .ok (.iconst 0, 1) := by decide +kernel
theorem dX12_cheapest_157 : decode cX12_cheapest 157 = .ok (.istore 12, 2) := by decide +kernel
theorem dX12_cheapest_159 : decode cX12_cheapest 159 = .ok (.iload 12, 2) := by decide +kernel
theorem dX12_cheapest_161 : decode cX12_cheapest 161 = .ok (.aload_n 0, 1) := by decide +kernel
theorem dX12_cheapest_162 : decode cX12_cheapest 162 = .ok (.getfield 7, 3) := by decide +kernel
theorem dX12_cheapest_165 : decode cX12_cheapest 165 = .ok (.iconst 0, 1) := by decide +kernel
theorem dX12_cheapest_166 : decode cX12_cheapest 166 = .ok (.iaload, 1) := by decide +kernel
theorem dX12_cheapest_167 : decode cX12_cheapest 167 = .ok (.if_icmp .ge 38, 3) := by decide +kernel
theorem dX12_cheapest_170 : decode cX12_cheapest 170 = .ok (.iload 12, 2) := by decide +kernel
theorem dX12_cheapest_172 : decode cX12_cheapest 172 = .ok (.iload_n 2, 1) := by decide +kernel
theorem dX12_cheapest_173 : decode cX12_cheapest 173 = .ok (.if_icmp .eq 26, 3) := by decide +kernel
theorem dX12_cheapest_176 : decode cX12_cheapest 176 = .ok (.aload_n 0, 1) := by decide +kernel
theorem dX12_cheapest_177 : decode cX12_cheapest 177 = .ok (.getfield 132, 3) := by decide +kernel
theorem dX12_cheapest_180 : decode cX12_cheapest 180 = .ok (.iload 10, 2) := by decide +kernel
theorem dX12_cheapest_182 : decode cX12_cheapest 182 = .ok (.iload 9, 2) := by decide +kernel
theorem dX12_cheapest_184 : decode cX12_cheapest 184 = .ok (.aload_n 0, 1) := by decide +kernel
theorem dX12_cheapest_185 : decode cX12_cheapest 185 = .ok (.iload 12, 2) := by decide +kernel
theorem dX12_cheapest_187 : decode cX12_cheapest 187 = .ok (.iload_n 1, 1) := by decide +kernel
theorem dX12_cheapest_188 : decode cX12_cheapest 188 = .ok (.invokevirtual 384, 3) := by decide +kernel
theorem dX12_cheapest_191 : decode cX12_cheapest 191 = .ok (.iload 6, 2) := by decide +kernel
theorem dX12_cheapest_193 : decode cX12_cheapest 193 = .ok (.ixor, 1) := by decide +kernel
theorem dX12_cheapest_194 : decode cX12_cheapest 194 = .ok (.iand, 1) := by decide +kernel
theorem dX12_cheapest_195 : decode cX12_cheapest 195 = .ok (.iastore, 1) := by decide +kernel
theorem dX12_cheapest_196 : decode cX12_cheapest 196 = .ok (.iinc 10 1, 3) := by decide +kernel
theorem dX12_cheapest_199 : decode cX12_cheapest 199 = .ok (.iinc 12 1, 3) := by decide +kernel
theorem dX12_cheapest_202 : decode cX12_cheapest 202 = .ok (.goto (-43), 3) := by decide +kernel
theorem dX12_cheapest_205 : decode cX12_cheapest 205 = .ok (.iinc 11 1, 3) := by decide +kernel
theorem dX12_cheapest_208 : decode cX12_cheapest 208 = .ok (.goto (-66), 3) := by decide +kernel
theorem dX12_cheapest_211 : decode cX12_cheapest 211 = .ok (.aload_n 0, 1) := by decide +kernel
theorem dX12_cheapest_212 : decode cX12_cheapest 212 = .ok (.getfield 7, 3) := by decide +kernel
theorem dX12_cheapest_215 : decode cX12_cheapest 215 = .ok (.iconst 0, 1) := by decide +kernel
theorem dX12_cheapest_216 : decode cX12_cheapest 216 = .ok (.iaload, 1) := by decide +kernel
theorem dX12_cheapest_217 : decode cX12_cheapest 217 = .ok (.iconst 1, 1) := by decide +kernel
theorem dX12_cheapest_218 : decode cX12_cheapest 218 = .ok (.isub, 1) := by decide +kernel
theorem dX12_cheapest_219 : decode cX12_cheapest 219 = .ok (.istore 11, 2) := by decide +kernel
theorem dX12_cheapest_221 : decode cX12_cheapest 221 = .ok (.iconst 0, 1) := by decide +kernel
theorem dX12_cheapest_222 : decode cX12_cheapest 222 = .ok (.istore 12, 2) := by decide +kernel
theorem dX12_cheapest_224 : decode cX12_cheapest 224 = .ok (.iload 12, 2) := by decide +kernel
theorem dX12_cheapest_226 : decode cX12_cheapest 226 = .ok (.iload 10, 2) := by decide +kernel
theorem dX12_cheapest_228 : decode cX12_cheapest 228 = .ok (.if_icmp .ge 69, 3) := by decide +kernel
theorem dX12_cheapest_231 : decode cX12_cheapest 231 = .ok (.aload_n 0, 1) := by decide +kernel
theorem dX12_cheapest_232 : decode cX12_cheapest 232 = .ok (.getfield 132, 3) := by decide +kernel
theorem dX12_cheapest_235 : decode cX12_cheapest 235 = .ok (.iload 12, 2) := by decide +kernel
theorem dX12_cheapest_237 : decode cX12_cheapest 237 = .ok (.iaload, 1) := by decide +kernel
theorem dX12_cheapest_238 : decode cX12_cheapest 238 = .ok (.ifCond .ne 53, 3) := by decide +kernel
theorem dX12_cheapest_241 : decode cX12_cheapest 241 = .ok (.iload 12, 2) := by decide +kernel
theorem dX12_cheapest_243 : decode cX12_cheapest 243 = .ok (.iload 11, 2) := by decide +kernel
theorem dX12_cheapest_245 : decode cX12_cheapest 245 = .ok (.irem, 1) := by decide +kernel
theorem dX12_cheapest_246 : decode cX12_cheapest 246 = .ok (.istore 13, 2) := by decide +kernel
theorem dX12_cheapest_248 : decode cX12_cheapest 248 = .ok (.iload 5, 2) := by decide +kernel
theorem dX12_cheapest_250 : decode cX12_cheapest 250 = .ok (.iconst 3, 1) := by decide +kernel
theorem dX12_cheapest_251 : decode cX12_cheapest 251 = .ok (.if_icmp .ge 8, 3) := by decide +kernel
theorem dX12_cheapest_254 : decode cX12_cheapest 254 = .ok (.bipush (-2), 2) := by decide +kernel
theorem dX12_cheapest_256 : decode cX12_cheapest 256 = .ok (.goto 34, 3) := by decide +kernel
theorem dX12_cheapest_259 : decode cX12_cheapest 259 = .ok (.iload 5, 2) := by decide +kernel
theorem dX12_cheapest_261 : decode cX12_cheapest 261 = .ok (.iconst 3, 1) := by decide +kernel
theorem dX12_cheapest_262 : decode cX12_cheapest 262 = .ok (.if_icmp .ne 13, 3) := by decide +kernel
theorem dX12_cheapest_265 : decode cX12_cheapest 265 = .ok (.iload_n 3, 1) := by decide +kernel
theorem dX12_cheapest_266 : decode cX12_cheapest 266 = .ok (.iload 12, 2) := by decide +kernel
theorem dX12_cheapest_268 : decode cX12_cheapest 268 = .ok (.iload 11, 2) := by decide +kernel
theorem dX12_cheapest_270 : decode cX12_cheapest 270 = .ok (.idiv, 1) := by decide +kernel
theorem dX12_cheapest_271 : decode cX12_cheapest 271 = .ok (.iadd, 1) := by decide +kernel
theorem dX12_cheapest_272 : decode cX12_cheapest 272 = .ok (.goto 18, 3) := by decide +kernel
theorem dX12_cheapest_275 : decode cX12_cheapest 275 = .ok (.iload 13, 2) := by decide +kernel
theorem dX12_cheapest_277 : decode cX12_cheapest 277 = .ok (.iload_n 2, 1) := by decide +kernel
theorem dX12_cheapest_278 : decode cX12_cheapest 278 = .ok (.if_icmp .ge 8, 3) := by decide +kernel
theorem dX12_cheapest_281 : decode cX12_cheapest 281 = .ok (.iload 13, 2) := by decide +kernel
theorem dX12_cheapest_283 : decode cX12_cheapest 283 = .ok (.goto 7, 3) := by decide +kernel
theorem dX12_cheapest_286 : decode cX12_cheapest 286 = .ok (.iload 13, 2) := by decide +kernel
theorem dX12_cheapest_288 : decode cX12_cheapest 288 = .ok (.iconst 1, 1) := by decide +kernel
theorem dX12_cheapest_289 : decode cX12_cheapest 289 = .ok (.iadd, 1) := by decide +kernel
theorem dX12_cheapest_290 : decode cX12_cheapest 290 = .ok (.ireturn, 1) := by decide +kernel
theorem dX12_cheapest_291 : decode cX12_cheapest 291 = .ok (.iinc 12 1, 3) := by decide +kernel
theorem dX12_cheapest_294 : decode cX12_cheapest 294 = .ok (.goto (-70), 3) := by decide +kernel
theorem dX12_cheapest_297 : decode cX12_cheapest 297 = .ok (.iconst (-1), 1) := by decide +kernel
theorem dX12_cheapest_298 : decode cX12_cheapest 298 = .ok (.istore 12, 2) := by decide +kernel
theorem dX12_cheapest_300 : decode cX12_cheapest 300 = .ok (.iconst 0, 1) := by decide +kernel
theorem dX12_cheapest_301 : decode cX12_cheapest 301 = .ok (.istore 13, 2) := by decide +kernel
theorem dX12_cheapest_303 : decode cX12_cheapest 303 = .ok (.iload 13, 2) := by decide +kernel
theorem dX12_cheapest_305 : decode cX12_cheapest 305 = .ok (.ldc_w 387, 3) := by decide +kernel
theorem dX12_cheapest_308 : decode cX12_cheapest 308 = .ok (.if_icmp .ge 53, 3) := by decide +kernel
theorem dX12_cheapest_311 : decode cX12_cheapest 311 = .ok (.iload 13, 2) := by decide +kernel
theorem dX12_cheapest_313 : decode cX12_cheapest 313 = .ok (.iload 9, 2) := by decide +kernel
theorem dX12_cheapest_315 : decode cX12_cheapest 315 = .ok (.iconst (-1), 1) := by decide +kernel
theorem dX12_cheapest_316 : decode cX12_cheapest 316 = .ok (.ixor, 1) := by decide +kernel
theorem dX12_cheapest_317 : decode cX12_cheapest 317 = .ok (.iand, 1) := by decide +kernel
theorem dX12_cheapest_318 : decode cX12_cheapest 318 = .ok (.ifCond .ne 37, 3) := by decide +kernel
theorem dX12_cheapest_321 : decode cX12_cheapest 321 = .ok (.aload_n 0, 1) := by decide +kernel
theorem dX12_cheapest_322 : decode cX12_cheapest 322 = .ok (.iload 13, 2) := by decide +kernel
theorem dX12_cheapest_324 : decode cX12_cheapest 324 = .ok (.iload 10, 2) := by decide +kernel
theorem dX12_cheapest_326 : decode cX12_cheapest 326 = .ok (.invokevirtual 388, 3) := by decide +kernel
theorem dX12_cheapest_329 : decode cX12_cheapest 329 = .ok (.ifCond .eq 26, 3) := by decide +kernel
theorem dX12_cheapest_332 : decode cX12_cheapest 332 = .ok (.iload 12, 2) := by decide +kernel
theorem dX12_cheapest_334 : decode cX12_cheapest 334 = .ok (.iconst (-1), 1) := by decide +kernel
theorem dX12_cheapest_335 : decode cX12_cheapest 335 = .ok (.if_icmp .eq 16, 3) := by decide +kernel
theorem dX12_cheapest_338 : decode cX12_cheapest 338 = .ok (.aload_n 0, 1) := by decide +kernel
theorem dX12_cheapest_339 : decode cX12_cheapest 339 = .ok (.iload 13, 2) := by decide +kernel
theorem dX12_cheapest_341 : decode cX12_cheapest 341 = .ok (.iload 12, 2) := by decide +kernel
theorem dX12_cheapest_343 : decode cX12_cheapest 343 = .ok (.iload 8, 2) := by decide +kernel
theorem dX12_cheapest_345 : decode cX12_cheapest 345 = .ok (.invokevirtual 391, 3) := by decide +kernel
theorem dX12_cheapest_348 : decode cX12_cheapest 348 = .ok (.ifCond .eq 7, 3) := by decide +kernel
theorem dX12_cheapest_351 : decode cX12_cheapest 351 = .ok (.iload 13, 2) := by decide +kernel
theorem dX12_cheapest_353 : decode cX12_cheapest 353 = .ok (.istore 12, 2) := by decide +kernel
theorem dX12_cheapest_355 : decode cX12_cheapest 355 = .ok (.iinc 13 1, 3) := by decide +kernel
theorem dX12_cheapest_358 : decode cX12_cheapest 358 = .ok (.goto (-55), 3) := by decide +kernel
theorem dX12_cheapest_361 : decode cX12_cheapest 361 = .ok (.iload 5, 2) := by decide +kernel
theorem dX12_cheapest_363 : decode cX12_cheapest 363 = .ok (.ifCond .ne 14, 3) := by decide +kernel
theorem dX12_cheapest_366 : decode cX12_cheapest 366 = .ok (.aload_n 0, 1) := by decide +kernel
theorem dX12_cheapest_367 : decode cX12_cheapest 367 = .ok (.iload 12, 2) := by decide +kernel
theorem dX12_cheapest_369 : decode cX12_cheapest 369 = .ok (.iload 8, 2) := by decide +kernel
theorem dX12_cheapest_371 : decode cX12_cheapest 371 = .ok (.invokevirtual 395, 3) := by decide +kernel
theorem dX12_cheapest_374 : decode cX12_cheapest 374 = .ok (.goto 30, 3) := by decide +kernel
theorem dX12_cheapest_377 : decode cX12_cheapest 377 = .ok (.iload 5, 2) := by decide +kernel
theorem dX12_cheapest_379 : decode cX12_cheapest 379 = .ok (.iconst 1, 1) := by decide +kernel
theorem dX12_cheapest_380 : decode cX12_cheapest 380 = .ok (.if_icmp .ne 8, 3) := by decide +kernel
theorem dX12_cheapest_383 : decode cX12_cheapest 383 = .ok (.iload 12, 2) := by decide +kernel
theorem dX12_cheapest_385 : decode cX12_cheapest 385 = .ok (.goto 19, 3) := by decide +kernel
theorem dX12_cheapest_388 : decode cX12_cheapest 388 = .ok (.iload 5, 2) := by decide +kernel
theorem dX12_cheapest_390 : decode cX12_cheapest 390 = .ok (.iconst 2, 1) := by decide +kernel
theorem dX12_cheapest_391 : decode cX12_cheapest 391 = .ok (.if_icmp .ne 11, 3) := by decide +kernel
theorem dX12_cheapest_394 : decode cX12_cheapest 394 = .ok (.iload 12, 2) := by decide +kernel
theorem dX12_cheapest_396 : decode cX12_cheapest 396 = .ok (.iload 8, 2) := by decide +kernel
theorem dX12_cheapest_398 : decode cX12_cheapest 398 = .ok (.iand, 1) := by decide +kernel
theorem dX12_cheapest_399 : decode cX12_cheapest 399 = .ok (.goto 5, 3) := by decide +kernel
theorem dX12_cheapest_402 : decode cX12_cheapest 402 = .ok (.bipush (-2), 2) := by decide +kernel
theorem dX12_cheapest_404 : decode cX12_cheapest 404 = .ok (.ireturn, 1) := by decide +kernel
theorem dX12_isLess_0 : decode cX12_isLess 0 = .ok (.aload_n 0, 1) := by decide +kernel
theorem dX12_isLess_1 : decode cX12_isLess 1 = .ok (.iload_n 1, 1) := by decide +kernel
theorem dX12_isLess_2 : decode cX12_isLess 2 = .ok (.iload_n 3, 1) := by decide +kernel
theorem dX12_isLess_3 : decode cX12_isLess 3 = .ok (.invokevirtual 395, 3) := by decide +kernel
theorem dX12_isLess_6 : decode cX12_isLess 6 = .ok (.aload_n 0, 1) := by decide +kernel
theorem dX12_isLess_7 : decode cX12_isLess 7 = .ok (.iload_n 2, 1) := by decide +kernel
theorem dX12_isLess_8 : decode cX12_isLess 8 = .ok (.iload_n 3, 1) := by decide +kernel
theorem dX12_isLess_9 : decode cX12_isLess 9 = .ok (.invokevirtual 395, 3) := by decide +kernel
theorem dX12_isLess_12 : decode cX12_isLess 12 = .ok (.isub, 1) := by decide +kernel
theorem dX12_isLess_13 : decode cX12_isLess 13 = .ok (.istore 4, 2) := by decide +kernel
theorem dX12_isLess_15 : decode cX12_isLess 15 = .ok (.iload 4, 2) := by decide +kernel
theorem dX12_isLess_17 : decode cX12_isLess 17 = .ok (.ifCond .lt 19, 3) := by decide +kernel
theorem dX12_isLess_20 : decode cX12_isLess 20 = .ok (.iload 4, 2) := by decide +kernel
theorem dX12_isLess_22 : decode cX12_isLess 22 = .ok (.ifCond .ne 18, 3) := by decide +kernel
theorem dX12_isLess_25 : decode cX12_isLess 25 = .ok (.iload_n 1, 1) := by decide +kernel
theorem dX12_isLess_26 : decode cX12_isLess 26 = .ok (.invokestatic 328, 3) := by decide +kernel
theorem dX12_isLess_29 : decode cX12_isLess 29 = .ok (.iload_n 2, 1) := by decide +kernel
theorem dX12_isLess_30 : decode cX12_isLess 30 = .ok (.invokestatic 328, 3) := by decide +kernel
theorem dX12_isLess_33 : decode cX12_isLess 33 = .ok (.if_icmp .ge 7, 3) := by decide +kernel
theorem dX12_isLess_36 : decode cX12_isLess 36 = .ok (.iconst 1, 1) := by decide +kernel
theorem dX12_isLess_37 : decode cX12_isLess 37 = .ok (.goto 4, 3) := by decide +kernel
theorem dX12_isLess_40 : decode cX12_isLess 40 = .ok (.iconst 0, 1) := by decide +kernel
theorem dX12_isLess_41 : decode cX12_isLess 41 = .ok (.ireturn, 1) := by decide +kernel
theorem dX12_apart_0 : decode cX12_apart 0 = .ok (.iload_n 1, 1) := by decide +kernel
theorem dX12_apart_1 : decode cX12_apart 1 = .ok (.invokestatic 170, 3) := by decide +kernel
theorem dX12_apart_4 : decode cX12_apart 4 = .ok (.ifCond .eq 34, 3) := by decide +kernel
theorem dX12_apart_7 : decode cX12_apart 7 = .ok (.iload_n 2, 1) := by decide +kernel
theorem dX12_apart_8 : decode cX12_apart 8 = .ok (.invokestatic 170, 3) := by decide +kernel
theorem dX12_apart_11 : decode cX12_apart 11 = .ok (.ifCond .eq 27, 3) := by decide +kernel
theorem dX12_apart_14 : decode cX12_apart 14 = .ok (.iload_n 2, 1) := by decide +kernel
theorem dX12_apart_15 : decode cX12_apart 15 = .ok (.iload_n 1, 1) := by decide +kernel
theorem dX12_apart_16 : decode cX12_apart 16 = .ok (.isub, 1) := by decide +kernel
theorem dX12_apart_17 : decode cX12_apart 17 = .ok (.i2l, 1) := by decide +kernel
theorem dX12_apart_18 : decode cX12_apart 18 = .ok (.lconst 0, 1) := by decide +kernel
theorem dX12_apart_19 : decode cX12_apart 19 = .ok (.ldc2_w 379, 3) := by decide +kernel
theorem dX12_apart_22 : decode cX12_apart 22 = .ok (.invokestatic 154, 3) := by decide +kernel
theorem dX12_apart_25 : decode cX12_apart 25 = .ok (.ifCond .eq 13, 3) := by decide +kernel
theorem dX12_apart_28 : decode cX12_apart 28 = .ok (.iload_n 3, 1) := by decide +kernel
theorem dX12_apart_29 : decode cX12_apart 29 = .ok (.i2l, 1) := by decide +kernel
theorem dX12_apart_30 : decode cX12_apart 30 = .ok (.lconst 0, 1) := by decide +kernel
theorem dX12_apart_31 : decode cX12_apart 31 = .ok (.lconst 1, 1) := by decide +kernel
theorem dX12_apart_32 : decode cX12_apart 32 = .ok (.invokestatic 154, 3) := by decide +kernel
theorem dX12_apart_35 : decode cX12_apart 35 = .ok (.ifCond .ne 5, 3) := by decide +kernel
theorem dX12_apart_38 : decode cX12_apart 38 = .ok (.iconst (-1), 1) := by decide +kernel
theorem dX12_apart_39 : decode cX12_apart 39 = .ok (.ireturn, 1) := by decide +kernel
theorem dX12_apart_40 : decode cX12_apart 40 = .ok (.iconst 0, 1) := by decide +kernel
theorem dX12_apart_41 : decode cX12_apart 41 = .ok (.istore 4, 2) := by decide +kernel
theorem dX12_apart_43 : decode cX12_apart 43 = .ok (.iconst 0, 1) := by decide +kernel
theorem dX12_apart_44 : decode cX12_apart 44 = .ok (.istore 5, 2) := by decide +kernel
theorem dX12_apart_46 : decode cX12_apart 46 = .ok (.iload 5, 2) := by decide +kernel
theorem dX12_apart_48 : decode cX12_apart 48 = .ok (.sipush 1024, 3) := by decide +kernel
theorem dX12_apart_51 : decode cX12_apart 51 = .ok (.if_icmp .ge 17, 3) := by decide +kernel
theorem dX12_apart_54 : decode cX12_apart 54 = .ok (.aload_n 0, 1) := by decide +kernel
theorem dX12_apart_55 : decode cX12_apart 55 = .ok (.getfield 135, 3) := by decide +kernel
theorem dX12_apart_58 : decode cX12_apart 58 = .ok (.iload 5, 2) := by decide +kernel
theorem dX12_apart_60 : decode cX12_apart 60 = .ok (.iconst 1, 1) := by decide +kernel
theorem dX12_apart_61 : decode cX12_apart 61 = .ok (.bastore, 1) := by decide +kernel
theorem dX12_apart_62 : decode cX12_apart 62 = .ok (.iinc 5 1, 3) := by decide +kernel
theorem dX12_apart_65 : decode cX12_apart 65 = .ok (.goto (-19), 3) := by decide +kernel
theorem dX12_apart_68 : decode cX12_apart 68 = .ok (.iload_n 1, 1) := by decide +kernel
theorem dX12_apart_69 : decode cX12_apart 69 = .ok (.istore 5, 2) := by decide +kernel
theorem dX12_apart_71 : decode cX12_apart 71 = .ok (.iload 5, 2) := by decide +kernel
theorem dX12_apart_73 : decode cX12_apart 73 = .ok (.iload_n 2, 1) := by decide +kernel
theorem dX12_apart_74 : decode cX12_apart 74 = .ok (.if_icmp .gt 101, 3) := by decide +kernel
theorem dX12_apart_77 : decode cX12_apart 77 = .ok (.aload_n 0, 1) := by decide +kernel
theorem dX12_apart_78 : decode cX12_apart 78 = .ok (.iconst 1, 1) := by decide +kernel
theorem dX12_apart_79 : decode cX12_apart 79 = .ok (.iload 5, 2) := by decide +kernel
theorem dX12_apart_81 : decode cX12_apart 81 = .ok (.invokevirtual 198, 3) := by decide +kernel
theorem dX12_apart_84 : decode cX12_apart 84 = .ok (.iconst 0, 1) := by decide +kernel
theorem dX12_apart_85 : decode cX12_apart 85 = .ok (.istore 6, 2) := by decide +kernel
theorem dX12_apart_87 : decode cX12_apart 87 = .ok (.iload 6, 2) := by decide +kernel
theorem dX12_apart_89 : decode cX12_apart 89 = .ok (.aload_n 0, 1) := by decide +kernel
theorem dX12_apart_90 : decode cX12_apart 90 = .ok (.getfield 7, 3) := by decide +kernel
theorem dX12_apart_93 : decode cX12_apart 93 = .ok (.iconst 0, 1) := by decide +kernel
theorem dX12_apart_94 : decode cX12_apart 94 = .ok (.iaload, 1) := by decide +kernel
theorem dX12_apart_95 : decode cX12_apart 95 = .ok (.if_icmp .ge 74, 3) := by decide +kernel
theorem dX12_apart_98 : decode cX12_apart 98 = .ok (.iconst 0, 1) := by decide +kernel
theorem dX12_apart_99 : decode cX12_apart 99 = .ok (.istore 7, 2) := by decide +kernel
theorem dX12_apart_101 : decode cX12_apart 101 = .ok (.iload 7, 2) := by decide +kernel
theorem dX12_apart_103 : decode cX12_apart 103 = .ok (.iload 6, 2) := by decide +kernel
theorem dX12_apart_105 : decode cX12_apart 105 = .ok (.if_icmp .ge 58, 3) := by decide +kernel
theorem dX12_apart_108 : decode cX12_apart 108 = .ok (.aload_n 0, 1) := by decide +kernel
theorem dX12_apart_109 : decode cX12_apart 109 = .ok (.getfield 79, 3) := by decide +kernel
theorem dX12_apart_112 : decode cX12_apart 112 = .ok (.bipush 12, 2) := by decide +kernel
theorem dX12_apart_114 : decode cX12_apart 114 = .ok (.iload 6, 2) := by decide +kernel
theorem dX12_apart_116 : decode cX12_apart 116 = .ok (.iadd, 1) := by decide +kernel
theorem dX12_apart_117 : decode cX12_apart 117 = .ok (.iaload, 1) := by decide +kernel
theorem dX12_apart_118 : decode cX12_apart 118 = .ok (.aload_n 0, 1) := by decide +kernel
theorem dX12_apart_119 : decode cX12_apart 119 = .ok (.getfield 79, 3) := by decide +kernel
theorem dX12_apart_122 : decode cX12_apart 122 = .ok (.bipush 12, 2) := by decide +kernel
theorem dX12_apart_124 : decode cX12_apart 124 = .ok (.iload 7, 2) := by decide +kernel
theorem dX12_apart_126 : decode cX12_apart 126 = .ok (.iadd, 1) := by decide +kernel
theorem dX12_apart_127 : decode cX12_apart 127 = .ok (.iaload, 1) := by decide +kernel
theorem dX12_apart_128 : decode cX12_apart 128 = .ok (.ixor, 1) := by decide +kernel
theorem dX12_apart_129 : decode cX12_apart 129 = .ok (.istore 8, 2) := by decide +kernel
theorem dX12_apart_131 : decode cX12_apart 131 = .ok (.iload 4, 2) := by decide +kernel
theorem dX12_apart_133 : decode cX12_apart 133 = .ok (.iload 8, 2) := by decide +kernel
theorem dX12_apart_135 : decode cX12_apart 135 = .ok (.invokestatic 328, 3) := by decide +kernel
theorem dX12_apart_138 : decode cX12_apart 138 = .ok (.iconst 1, 1) := by decide +kernel
theorem dX12_apart_139 : decode cX12_apart 139 = .ok (.if_icmp .ne 8, 3) := by decide +kernel
theorem dX12_apart_142 : decode cX12_apart 142 = .ok (.iload 8, 2) := by decide +kernel
theorem dX12_apart_144 : decode cX12_apart 144 = .ok (.goto 4, 3) := by decide +kernel
theorem dX12_apart_147 : decode cX12_apart 147 = .ok (.iconst 0, 1) := by decide +kernel
theorem dX12_apart_148 : decode cX12_apart 148 = .ok (.ior, 1) := by decide +kernel
theorem dX12_apart_149 : decode cX12_apart 149 = .ok (.istore 4, 2) := by decide +kernel
theorem dX12_apart_151 : decode cX12_apart 151 = .ok (.aload_n 0, 1) := by decide +kernel
theorem dX12_apart_152 : decode cX12_apart 152 = .ok (.iload 8, 2) := by decide +kernel
theorem dX12_apart_154 : decode cX12_apart 154 = .ok (.invokevirtual 398, 3) := by decide +kernel
theorem dX12_apart_157 : decode cX12_apart 157 = .ok (.iinc 7 1, 3) := by decide +kernel
theorem dX12_apart_160 : decode cX12_apart 160 = .ok (.goto (-59), 3) := by decide +kernel
theorem dX12_apart_163 : decode cX12_apart 163 = .ok (.iinc 6 1, 3) := by decide +kernel
theorem dX12_apart_166 : decode cX12_apart 166 = .ok (.goto (-79), 3) := by decide +kernel
theorem dX12_apart_169 : decode cX12_apart 169 = .ok (.iinc 5 1, 3) := by decide +kernel
theorem dX12_apart_172 : decode cX12_apart 172 = .ok (.goto (-101), 3) := by decide +kernel
theorem dX12_apart_175 : decode cX12_apart 175 = .ok (.iload_n 3, 1) := by decide +kernel
theorem dX12_apart_176 : decode cX12_apart 176 = .ok (.iconst 1, 1) := by decide +kernel
theorem dX12_apart_177 : decode cX12_apart 177 = .ok (.if_icmp .ne 6, 3) := by decide +kernel
theorem dX12_apart_180 : decode cX12_apart 180 = .ok (.iload 4, 2) := by decide +kernel
theorem dX12_apart_182 : decode cX12_apart 182 = .ok (.ireturn, 1) := by decide +kernel
theorem dX12_apart_183 : decode cX12_apart 183 = .ok (.bipush (-2), 2) := by decide +kernel
theorem dX12_apart_185 : decode cX12_apart 185 = .ok (.istore 5, 2) := by decide +kernel
theorem dX12_apart_187 : decode cX12_apart 187 = .ok (.iconst 0, 1) := by decide +kernel
theorem dX12_apart_188 : decode cX12_apart 188 = .ok (.istore 6, 2) := by decide +kernel
theorem dX12_apart_190 : decode cX12_apart 190 = .ok (.iload 6, 2) := by decide +kernel
theorem dX12_apart_192 : decode cX12_apart 192 = .ok (.sipush 1024, 3) := by decide +kernel
theorem dX12_apart_195 : decode cX12_apart 195 = .ok (.if_icmp .ge 43, 3) := by decide +kernel
theorem dX12_apart_198 : decode cX12_apart 198 = .ok (.aload_n 0, 1) := by decide +kernel
theorem dX12_apart_199 : decode cX12_apart 199 = .ok (.getfield 135, 3) := by decide +kernel
theorem dX12_apart_202 : decode cX12_apart 202 = .ok (.iload 6, 2) := by decide +kernel
theorem dX12_apart_204 : decode cX12_apart 204 = .ok (.baload, 1) := by decide +kernel
theorem dX12_apart_205 : decode cX12_apart 205 = .ok (.ifCond .eq 27, 3) := by decide +kernel
theorem dX12_apart_208 : decode cX12_apart 208 = .ok (.iload 5, 2) := by decide +kernel
theorem dX12_apart_210 : decode cX12_apart 210 = .ok (.bipush (-2), 2) := by decide +kernel
theorem dX12_apart_212 : decode cX12_apart 212 = .ok (.if_icmp .eq 16, 3) := by decide +kernel
theorem dX12_apart_215 : decode cX12_apart 215 = .ok (.iload 6, 2) := by decide +kernel
theorem dX12_apart_217 : decode cX12_apart 217 = .ok (.invokestatic 328, 3) := by decide +kernel
theorem dX12_apart_220 : decode cX12_apart 220 = .ok (.iload 5, 2) := by decide +kernel
theorem dX12_apart_222 : decode cX12_apart 222 = .ok (.invokestatic 328, 3) := by decide +kernel
theorem dX12_apart_225 : decode cX12_apart 225 = .ok (.if_icmp .ge 7, 3) := by decide +kernel
theorem dX12_apart_228 : decode cX12_apart 228 = .ok (.iload 6, 2) := by decide +kernel
theorem dX12_apart_230 : decode cX12_apart 230 = .ok (.istore 5, 2) := by decide +kernel
theorem dX12_apart_232 : decode cX12_apart 232 = .ok (.iinc 6 1, 3) := by decide +kernel
theorem dX12_apart_235 : decode cX12_apart 235 = .ok (.goto (-45), 3) := by decide +kernel
theorem dX12_apart_238 : decode cX12_apart 238 = .ok (.iload 5, 2) := by decide +kernel
theorem dX12_apart_240 : decode cX12_apart 240 = .ok (.ireturn, 1) := by decide +kernel
theorem dX12_parts_0 : decode cX12_parts 0 = .ok (.iconst 0, 1) := by decide +kernel
theorem dX12_parts_1 : decode cX12_parts 1 = .ok (.istore_n 2, 1) := by decide +kernel
theorem dX12_parts_2 : decode cX12_parts 2 = .ok (.iload_n 2, 1) := by decide +kernel
theorem dX12_parts_3 : decode cX12_parts 3 = .ok (.sipush 1024, 3) := by decide +kernel
theorem dX12_parts_6 : decode cX12_parts 6 = .ok (.if_icmp .ge 35, 3) := by decide +kernel
theorem dX12_parts_9 : decode cX12_parts 9 = .ok (.aload_n 0, 1) := by decide +kernel
theorem dX12_parts_10 : decode cX12_parts 10 = .ok (.getfield 135, 3) := by decide +kernel
theorem dX12_parts_13 : decode cX12_parts 13 = .ok (.iload_n 2, 1) := by decide +kernel
theorem dX12_parts_14 : decode cX12_parts 14 = .ok (.aload_n 0, 1) := by decide +kernel
theorem dX12_parts_15 : decode cX12_parts 15 = .ok (.getfield 135, 3) := by decide +kernel
theorem dX12_parts_18 : decode cX12_parts 18 = .ok (.iload_n 2, 1) := by decide +kernel
theorem dX12_parts_19 : decode cX12_parts 19 = .ok (.baload, 1) := by decide +kernel
theorem dX12_parts_20 : decode cX12_parts 20 = .ok (.ifCond .eq 13, 3) := by decide +kernel
theorem dX12_parts_23 : decode cX12_parts 23 = .ok (.iload_n 2, 1) := by decide +kernel
theorem dX12_parts_24 : decode cX12_parts 24 = .ok (.iload_n 1, 1) := by decide +kernel
theorem dX12_parts_25 : decode cX12_parts 25 = .ok (.iand, 1) := by decide +kernel
theorem dX12_parts_26 : decode cX12_parts 26 = .ok (.ifCond .eq 7, 3) := by decide +kernel
theorem dX12_parts_29 : decode cX12_parts 29 = .ok (.iconst 1, 1) := by decide +kernel
theorem dX12_parts_30 : decode cX12_parts 30 = .ok (.goto 4, 3) := by decide +kernel
theorem dX12_parts_33 : decode cX12_parts 33 = .ok (.iconst 0, 1) := by decide +kernel
theorem dX12_parts_34 : decode cX12_parts 34 = .ok (.bastore, 1) := by decide +kernel
theorem dX12_parts_35 : decode cX12_parts 35 = .ok (.iinc 2 1, 3) := by decide +kernel
theorem dX12_parts_38 : decode cX12_parts 38 = .ok (.goto (-36), 3) := by decide +kernel
theorem dX12_parts_41 : decode cX12_parts 41 = .ok (.return_, 1) := by decide +kernel
theorem dX12_endsFrom_0 : decode cX12_endsFrom 0 = .ok (.aload_n 0, 1) := by decide +kernel
theorem dX12_endsFrom_1 : decode cX12_endsFrom 1 = .ok (.iconst 0, 1) := by decide +kernel
theorem dX12_endsFrom_2 : decode cX12_endsFrom 2 = .ok (.iload 4, 2) := by decide +kernel
theorem dX12_endsFrom_4 : decode cX12_endsFrom 4 = .ok (.invokevirtual 198, 3) := by decide +kernel
theorem dX12_endsFrom_7 : decode cX12_endsFrom 7 = .ok (.aload_n 0, 1) := by decide +kernel
theorem dX12_endsFrom_8 : decode cX12_endsFrom 8 = .ok (.iconst 0, 1) := by decide +kernel
theorem dX12_endsFrom_9 : decode cX12_endsFrom 9 = .ok (.putfield 401, 3) := by decide +kernel
theorem dX12_endsFrom_12 : decode cX12_endsFrom 12 = .ok (.aload_n 0, 1) := by decide +kernel
theorem dX12_endsFrom_13 : decode cX12_endsFrom 13 = .ok (.iconst (-1), 1) := by decide +kernel
theorem dX12_endsFrom_14 : decode cX12_endsFrom 14 = .ok (.putfield 404, 3) := by decide +kernel
theorem dX12_endsFrom_17 : decode cX12_endsFrom 17 = .ok (.aload_n 0, 1) := by decide +kernel
theorem dX12_endsFrom_18 : decode cX12_endsFrom 18 = .ok (.iload 4, 2) := by decide +kernel
theorem dX12_endsFrom_20 : decode cX12_endsFrom 20 = .ok (.putfield 407, 3) := by decide +kernel
theorem dX12_endsFrom_23 : decode cX12_endsFrom 23 = .ok (.aload_n 0, 1) := by decide +kernel
theorem dX12_endsFrom_24 : decode cX12_endsFrom 24 = .ok (.iload_n 3, 1) := by decide +kernel
theorem dX12_endsFrom_25 : decode cX12_endsFrom 25 = .ok (.putfield 410, 3) := by decide +kernel
theorem dX12_endsFrom_28 : decode cX12_endsFrom 28 = .ok (.aload_n 0, 1) := by decide +kernel
theorem dX12_endsFrom_29 : decode cX12_endsFrom 29 = .ok (.iconst 0, 1) := by decide +kernel
theorem dX12_endsFrom_30 : decode cX12_endsFrom 30 = .ok (.putfield 413, 3) := by decide +kernel
theorem dX12_endsFrom_33 : decode cX12_endsFrom 33 = .ok (.iconst 1, 1) := by decide +kernel
theorem dX12_endsFrom_34 : decode cX12_endsFrom 34 = .ok (.iload_n 3, 1) := by decide +kernel
theorem dX12_endsFrom_35 : decode cX12_endsFrom 35 = .ok (.ishl, 1) := by decide +kernel
theorem dX12_endsFrom_36 : decode cX12_endsFrom 36 = .ok (.istore 5, 2) := by decide +kernel
theorem dX12_endsFrom_38 : decode cX12_endsFrom 38 = .ok (.iconst 1, 1) := by decide +kernel
theorem dX12_endsFrom_39 : decode cX12_endsFrom 39 = .ok (.istore 6, 2) := by decide +kernel
theorem dX12_endsFrom_41 : decode cX12_endsFrom 41 = .ok (.iload 6, 2) := by decide +kernel
theorem dX12_endsFrom_43 : decode cX12_endsFrom 43 = .ok (.ifCond .eq 197, 3) := by decide +kernel
theorem dX12_endsFrom_46 : decode cX12_endsFrom 46 = .ok (.aload_n 0, 1) := by decide +kernel
theorem dX12_endsFrom_47 : decode cX12_endsFrom 47 = .ok (.getfield 413, 3) := by decide +kernel
theorem dX12_endsFrom_50 : decode cX12_endsFrom 50 = .ok (.bipush 100, 2) := by decide +kernel
theorem dX12_endsFrom_52 : decode cX12_endsFrom 52 = .ok (.if_icmp .ge 188, 3) := by decide +kernel
theorem dX12_endsFrom_55 : decode cX12_endsFrom 55 = .ok (.aload_n 0, 1) := by decide +kernel
theorem dX12_endsFrom_56 : decode cX12_endsFrom 56 = .ok (.iconst 1, 1) := by decide +kernel
theorem dX12_endsFrom_57 : decode cX12_endsFrom 57 = .ok (.aload_n 0, 1) := by decide +kernel
theorem dX12_endsFrom_58 : decode cX12_endsFrom 58 = .ok (.getfield 407, 3) := by decide +kernel
theorem dX12_endsFrom_61 : decode cX12_endsFrom 61 = .ok (.invokevirtual 198, 3) := by decide +kernel
theorem dX12_endsFrom_64 : decode cX12_endsFrom 64 = .ok (.aload_n 0, 1) := by decide +kernel
theorem dX12_endsFrom_65 : decode cX12_endsFrom 65 = .ok (.iload_n 2, 1) := by decide +kernel
theorem dX12_endsFrom_66 : decode cX12_endsFrom 66 = .ok (.iload_n 1, 1) := by decide +kernel
theorem dX12_endsFrom_67 : decode cX12_endsFrom 67 = .ok (.aload_n 0, 1) := by decide +kernel
theorem dX12_endsFrom_68 : decode cX12_endsFrom 68 = .ok (.getfield 410, 3) := by decide +kernel
theorem dX12_endsFrom_71 : decode cX12_endsFrom 71 = .ok (.invokevirtual 352, 3) := by decide +kernel
theorem dX12_endsFrom_74 : decode cX12_endsFrom 74 = .ok (.istore 7, 2) := by decide +kernel
theorem dX12_endsFrom_76 : decode cX12_endsFrom 76 = .ok (.iload 7, 2) := by decide +kernel
theorem dX12_endsFrom_78 : decode cX12_endsFrom 78 = .ok (.iconst 1, 1) := by decide +kernel
theorem dX12_endsFrom_79 : decode cX12_endsFrom 79 = .ok (.if_icmp .ne 10, 3) := by decide +kernel
theorem dX12_endsFrom_82 : decode cX12_endsFrom 82 = .ok (.aload_n 0, 1) := by decide +kernel
theorem dX12_endsFrom_83 : decode cX12_endsFrom 83 = .ok (.getfield 340, 3) := by decide +kernel
theorem dX12_endsFrom_86 : decode cX12_endsFrom 86 = .ok (.goto 23, 3) := by decide +kernel
theorem dX12_endsFrom_89 : decode cX12_endsFrom 89 = .ok (.iload 7, 2) := by decide +kernel
theorem dX12_endsFrom_91 : decode cX12_endsFrom 91 = .ok (.iconst 2, 1) := by decide +kernel
theorem dX12_endsFrom_92 : decode cX12_endsFrom 92 = .ok (.if_icmp .ne 16, 3) := by decide +kernel
theorem dX12_endsFrom_95 : decode cX12_endsFrom 95 = .ok (.aload_n 0, 1) := by decide +kernel
theorem dX12_endsFrom_96 : decode cX12_endsFrom 96 = .ok (.aload_n 0, 1) := by decide +kernel
theorem dX12_endsFrom_97 : decode cX12_endsFrom 97 = .ok (.getfield 410, 3) := by decide +kernel
theorem dX12_endsFrom_100 : decode cX12_endsFrom 100 = .ok (.iload 5, 2) := by decide +kernel
theorem dX12_endsFrom_102 : decode cX12_endsFrom 102 = .ok (.invokevirtual 355, 3) := by decide +kernel
theorem dX12_endsFrom_105 : decode cX12_endsFrom 105 = .ok (.goto 4, 3) := by decide +kernel
theorem dX12_endsFrom_108 : decode cX12_endsFrom 108 = .ok (.iconst (-1), 1) := by decide +kernel
theorem dX12_endsFrom_109 : decode cX12_endsFrom 109 = .ok (.istore 8, 2) := by decide +kernel
theorem dX12_endsFrom_111 : decode cX12_endsFrom 111 = .ok (.aload_n 0, 1) := by decide +kernel
theorem dX12_endsFrom_112 : decode cX12_endsFrom 112 = .ok (.iload 7, 2) := by decide +kernel
theorem dX12_endsFrom_114 : decode cX12_endsFrom 114 = .ok (.ifCond .ne 7, 3) := by decide +kernel
theorem dX12_endsFrom_117 : decode cX12_endsFrom 117 = .ok (.iconst 1, 1) := by decide +kernel
theorem dX12_endsFrom_118 : decode cX12_endsFrom 118 = .ok (.goto 14, 3) := by decide +kernel
theorem dX12_endsFrom_121 : decode cX12_endsFrom 121 = .ok (.iload 8, 2) := by decide +kernel
theorem dX12_endsFrom_123 : decode cX12_endsFrom 123 = .ok (.iconst (-1), 1) := by decide +kernel
theorem dX12_endsFrom_124 : decode cX12_endsFrom 124 = .ok (.if_icmp .ne 7, 3) := by decide +kernel
theorem dX12_endsFrom_127 : decode cX12_endsFrom 127 = .ok (.iconst 2, 1) := by decide +kernel
theorem dX12_endsFrom_128 : decode cX12_endsFrom 128 = .ok (.goto 4, 3) := by decide +kernel
theorem dX12_endsFrom_131 : decode cX12_endsFrom 131 = .ok (.iconst 0, 1) := by decide +kernel
theorem dX12_endsFrom_132 : decode cX12_endsFrom 132 = .ok (.putfield 401, 3) := by decide +kernel
theorem dX12_endsFrom_135 : decode cX12_endsFrom 135 = .ok (.aload_n 0, 1) := by decide +kernel
theorem dX12_endsFrom_136 : decode cX12_endsFrom 136 = .ok (.aload_n 0, 1) := by decide +kernel
theorem dX12_endsFrom_137 : decode cX12_endsFrom 137 = .ok (.getfield 337, 3) := by decide +kernel
theorem dX12_endsFrom_140 : decode cX12_endsFrom 140 = .ok (.putfield 404, 3) := by decide +kernel
theorem dX12_endsFrom_143 : decode cX12_endsFrom 143 = .ok (.aload_n 0, 1) := by decide +kernel
theorem dX12_endsFrom_144 : decode cX12_endsFrom 144 = .ok (.getfield 401, 3) := by decide +kernel
theorem dX12_endsFrom_147 : decode cX12_endsFrom 147 = .ok (.ifCond .ne 33, 3) := by decide +kernel
theorem dX12_endsFrom_150 : decode cX12_endsFrom 150 = .ok (.aload_n 0, 1) := by decide +kernel
theorem dX12_endsFrom_151 : decode cX12_endsFrom 151 = .ok (.getfield 407, 3) := by decide +kernel
theorem dX12_endsFrom_154 : decode cX12_endsFrom 154 = .ok (.aload_n 0, 1) := by decide +kernel
theorem dX12_endsFrom_155 : decode cX12_endsFrom 155 = .ok (.getfield 31, 3) := by decide +kernel
theorem dX12_endsFrom_158 : decode cX12_endsFrom 158 = .ok (.aload_n 0, 1) := by decide +kernel
theorem dX12_endsFrom_159 : decode cX12_endsFrom 159 = .ok (.aload_n 0, 1) := by decide +kernel
theorem dX12_endsFrom_160 : decode cX12_endsFrom 160 = .ok (.getfield 410, 3) := by decide +kernel
theorem dX12_endsFrom_163 : decode cX12_endsFrom 163 = .ok (.iload 8, 2) := by decide +kernel
theorem dX12_endsFrom_165 : decode cX12_endsFrom 165 = .ok (.invokevirtual 166, 3) := by decide +kernel
theorem dX12_endsFrom_168 : decode cX12_endsFrom 168 = .ok (.iaload, 1) := by decide +kernel
theorem dX12_endsFrom_169 : decode cX12_endsFrom 169 = .ok (.iadd, 1) := by decide +kernel
theorem dX12_endsFrom_170 : decode cX12_endsFrom 170 = .ok (.sipush 999, 3) := by decide +kernel
theorem dX12_endsFrom_173 : decode cX12_endsFrom 173 = .ok (.if_icmp .gt 7, 3) := by decide +kernel
theorem dX12_endsFrom_176 : decode cX12_endsFrom 176 = .ok (.iconst 1, 1) := by decide +kernel
theorem dX12_endsFrom_177 : decode cX12_endsFrom 177 = .ok (.goto 4, 3) := by decide +kernel
theorem dX12_endsFrom_180 : decode cX12_endsFrom 180 = .ok (.iconst 0, 1) := by decide +kernel
theorem dX12_endsFrom_181 : decode cX12_endsFrom 181 = .ok (.istore 6, 2) := by decide +kernel
theorem dX12_endsFrom_183 : decode cX12_endsFrom 183 = .ok (.iload 6, 2) := by decide +kernel
theorem dX12_endsFrom_185 : decode cX12_endsFrom 185 = .ok (.ifCond .eq 52, 3) := by decide +kernel
theorem dX12_endsFrom_188 : decode cX12_endsFrom 188 = .ok (.aload_n 0, 1) := by decide +kernel
theorem dX12_endsFrom_189 : decode cX12_endsFrom 189 = .ok (.dup, 1) := by decide +kernel
theorem dX12_endsFrom_190 : decode cX12_endsFrom 190 = .ok (.getfield 407, 3) := by decide +kernel
theorem dX12_endsFrom_193 : decode cX12_endsFrom 193 = .ok (.aload_n 0, 1) := by decide +kernel
theorem dX12_endsFrom_194 : decode cX12_endsFrom 194 = .ok (.getfield 31, 3) := by decide +kernel
theorem dX12_endsFrom_197 : decode cX12_endsFrom 197 = .ok (.aload_n 0, 1) := by decide +kernel
theorem dX12_endsFrom_198 : decode cX12_endsFrom 198 = .ok (.aload_n 0, 1) := by decide +kernel
theorem dX12_endsFrom_199 : decode cX12_endsFrom 199 = .ok (.getfield 410, 3) := by decide +kernel
theorem dX12_endsFrom_202 : decode cX12_endsFrom 202 = .ok (.iload 8, 2) := by decide +kernel
theorem dX12_endsFrom_204 : decode cX12_endsFrom 204 = .ok (.invokevirtual 166, 3) := by decide +kernel
theorem dX12_endsFrom_207 : decode cX12_endsFrom 207 = .ok (.iaload, 1) := by decide +kernel
theorem dX12_endsFrom_208 : decode cX12_endsFrom 208 = .ok (.iadd, 1) := by decide +kernel
theorem dX12_endsFrom_209 : decode cX12_endsFrom 209 = .ok (.putfield 407, 3) := by decide +kernel
theorem dX12_endsFrom_212 : decode cX12_endsFrom 212 = .ok (.aload_n 0, 1) := by decide +kernel
theorem dX12_endsFrom_213 : decode cX12_endsFrom 213 = .ok (.iload 8, 2) := by decide +kernel
theorem dX12_endsFrom_215 : decode cX12_endsFrom 215 = .ok (.putfield 410, 3) := by decide +kernel
theorem dX12_endsFrom_218 : decode cX12_endsFrom 218 = .ok (.iload 5, 2) := by decide +kernel
theorem dX12_endsFrom_220 : decode cX12_endsFrom 220 = .ok (.iconst 1, 1) := by decide +kernel
theorem dX12_endsFrom_221 : decode cX12_endsFrom 221 = .ok (.iload 8, 2) := by decide +kernel
theorem dX12_endsFrom_223 : decode cX12_endsFrom 223 = .ok (.ishl, 1) := by decide +kernel
theorem dX12_endsFrom_224 : decode cX12_endsFrom 224 = .ok (.ior, 1) := by decide +kernel
theorem dX12_endsFrom_225 : decode cX12_endsFrom 225 = .ok (.istore 5, 2) := by decide +kernel
theorem dX12_endsFrom_227 : decode cX12_endsFrom 227 = .ok (.aload_n 0, 1) := by decide +kernel
theorem dX12_endsFrom_228 : decode cX12_endsFrom 228 = .ok (.dup, 1) := by decide +kernel
theorem dX12_endsFrom_229 : decode cX12_endsFrom 229 = .ok (.getfield 413, 3) := by decide +kernel
theorem dX12_endsFrom_232 : decode cX12_endsFrom 232 = .ok (.iconst 1, 1) := by decide +kernel
theorem dX12_endsFrom_233 : decode cX12_endsFrom 233 = .ok (.iadd, 1) := by decide +kernel
theorem dX12_endsFrom_234 : decode cX12_endsFrom 234 = .ok (.putfield 413, 3) := by decide +kernel
theorem dX12_endsFrom_237 : decode cX12_endsFrom 237 = .ok (.goto (-196), 3) := by decide +kernel
theorem dX12_endsFrom_240 : decode cX12_endsFrom 240 = .ok (.return_, 1) := by decide +kernel
theorem dX12_isLetter_0 : decode cX12_isLetter 0 = .ok (.aload_n 0, 1) := by decide +kernel
theorem dX12_isLetter_1 : decode cX12_isLetter 1 = .ok (.iload_n 1, 1) := by decide +kernel
theorem dX12_isLetter_2 : decode cX12_isLetter 2 = .ok (.invokevirtual 175, 3) := by decide +kernel
theorem dX12_isLetter_5 : decode cX12_isLetter 5 = .ok (.ifCond .eq 30, 3) := by decide +kernel
theorem dX12_isLetter_8 : decode cX12_isLetter 8 = .ok (.aload_n 0, 1) := by decide +kernel
theorem dX12_isLetter_9 : decode cX12_isLetter 9 = .ok (.iload_n 2, 1) := by decide +kernel
theorem dX12_isLetter_10 : decode cX12_isLetter 10 = .ok (.invokevirtual 331, 3) := by decide +kernel
theorem dX12_isLetter_13 : decode cX12_isLetter 13 = .ok (.ifCond .eq 22, 3) := by decide +kernel
theorem dX12_isLetter_16 : decode cX12_isLetter 16 = .ok (.iload_n 3, 1) := by decide +kernel
theorem dX12_isLetter_17 : decode cX12_isLetter 17 = .ok (.invokestatic 160, 3) := by decide +kernel
theorem dX12_isLetter_20 : decode cX12_isLetter 20 = .ok (.ifCond .eq 15, 3) := by decide +kernel
theorem dX12_isLetter_23 : decode cX12_isLetter 23 = .ok (.iload 4, 2) := by decide +kernel
theorem dX12_isLetter_25 : decode cX12_isLetter 25 = .ok (.invokestatic 170, 3) := by decide +kernel
theorem dX12_isLetter_28 : decode cX12_isLetter 28 = .ok (.ifCond .eq 7, 3) := by decide +kernel
theorem dX12_isLetter_31 : decode cX12_isLetter 31 = .ok (.iconst 1, 1) := by decide +kernel
theorem dX12_isLetter_32 : decode cX12_isLetter 32 = .ok (.goto 4, 3) := by decide +kernel
theorem dX12_isLetter_35 : decode cX12_isLetter 35 = .ok (.iconst 0, 1) := by decide +kernel
theorem dX12_isLetter_36 : decode cX12_isLetter 36 = .ok (.ireturn, 1) := by decide +kernel
theorem dX12_ends_0 : decode cX12_ends 0 = .ok (.aload_n 0, 1) := by decide +kernel
theorem dX12_ends_1 : decode cX12_ends 1 = .ok (.iload_n 1, 1) := by decide +kernel
theorem dX12_ends_2 : decode cX12_ends 2 = .ok (.iload_n 2, 1) := by decide +kernel
theorem dX12_ends_3 : decode cX12_ends 3 = .ok (.iload_n 3, 1) := by decide +kernel
theorem dX12_ends_4 : decode cX12_ends 4 = .ok (.iload 4, 2) := by decide +kernel
theorem dX12_ends_6 : decode cX12_ends 6 = .ok (.invokevirtual 416, 3) := by decide +kernel
theorem dX12_ends_9 : decode cX12_ends 9 = .ok (.ifCond .eq 16, 3) := by decide +kernel
theorem dX12_ends_12 : decode cX12_ends 12 = .ok (.iload 5, 2) := by decide +kernel
theorem dX12_ends_14 : decode cX12_ends 14 = .ok (.i2l, 1) := by decide +kernel
theorem dX12_ends_15 : decode cX12_ends 15 = .ok (.lconst 0, 1) := by decide +kernel
theorem dX12_ends_16 : decode cX12_ends 16 = .ok (.ldc2_w 381, 3) := by decide +kernel
theorem dX12_ends_19 : decode cX12_ends 19 = .ok (.invokestatic 154, 3) := by decide +kernel
theorem dX12_ends_22 : decode cX12_ends 22 = .ok (.ifCond .ne 6, 3) := by decide +kernel
theorem dX12_ends_25 : decode cX12_ends 25 = .ok (.bipush (-2), 2) := by decide +kernel
theorem dX12_ends_27 : decode cX12_ends 27 = .ok (.ireturn, 1) := by decide +kernel
theorem dX12_ends_28 : decode cX12_ends 28 = .ok (.aload_n 0, 1) := by decide +kernel
theorem dX12_ends_29 : decode cX12_ends 29 = .ok (.iload_n 1, 1) := by decide +kernel
theorem dX12_ends_30 : decode cX12_ends 30 = .ok (.iload_n 2, 1) := by decide +kernel
theorem dX12_ends_31 : decode cX12_ends 31 = .ok (.iload_n 3, 1) := by decide +kernel
theorem dX12_ends_32 : decode cX12_ends 32 = .ok (.iload 4, 2) := by decide +kernel
theorem dX12_ends_34 : decode cX12_ends 34 = .ok (.invokevirtual 420, 3) := by decide +kernel
theorem dX12_ends_37 : decode cX12_ends 37 = .ok (.iload 5, 2) := by decide +kernel
theorem dX12_ends_39 : decode cX12_ends 39 = .ok (.ifCond .ne 10, 3) := by decide +kernel
theorem dX12_ends_42 : decode cX12_ends 42 = .ok (.aload_n 0, 1) := by decide +kernel
theorem dX12_ends_43 : decode cX12_ends 43 = .ok (.getfield 401, 3) := by decide +kernel
theorem dX12_ends_46 : decode cX12_ends 46 = .ok (.goto 46, 3) := by decide +kernel
theorem dX12_ends_49 : decode cX12_ends 49 = .ok (.iload 5, 2) := by decide +kernel
theorem dX12_ends_51 : decode cX12_ends 51 = .ok (.iconst 1, 1) := by decide +kernel
theorem dX12_ends_52 : decode cX12_ends 52 = .ok (.if_icmp .ne 10, 3) := by decide +kernel
theorem dX12_ends_55 : decode cX12_ends 55 = .ok (.aload_n 0, 1) := by decide +kernel
theorem dX12_ends_56 : decode cX12_ends 56 = .ok (.getfield 404, 3) := by decide +kernel
theorem dX12_ends_59 : decode cX12_ends 59 = .ok (.goto 33, 3) := by decide +kernel
theorem dX12_ends_62 : decode cX12_ends 62 = .ok (.iload 5, 2) := by decide +kernel
theorem dX12_ends_64 : decode cX12_ends 64 = .ok (.iconst 2, 1) := by decide +kernel
theorem dX12_ends_65 : decode cX12_ends 65 = .ok (.if_icmp .ne 10, 3) := by decide +kernel
theorem dX12_ends_68 : decode cX12_ends 68 = .ok (.aload_n 0, 1) := by decide +kernel
theorem dX12_ends_69 : decode cX12_ends 69 = .ok (.getfield 407, 3) := by decide +kernel
theorem dX12_ends_72 : decode cX12_ends 72 = .ok (.goto 20, 3) := by decide +kernel
theorem dX12_ends_75 : decode cX12_ends 75 = .ok (.iload 5, 2) := by decide +kernel
theorem dX12_ends_77 : decode cX12_ends 77 = .ok (.iconst 3, 1) := by decide +kernel
theorem dX12_ends_78 : decode cX12_ends 78 = .ok (.if_icmp .ne 10, 3) := by decide +kernel
theorem dX12_ends_81 : decode cX12_ends 81 = .ok (.aload_n 0, 1) := by decide +kernel
theorem dX12_ends_82 : decode cX12_ends 82 = .ok (.getfield 410, 3) := by decide +kernel
theorem dX12_ends_85 : decode cX12_ends 85 = .ok (.goto 7, 3) := by decide +kernel
theorem dX12_ends_88 : decode cX12_ends 88 = .ok (.aload_n 0, 1) := by decide +kernel
theorem dX12_ends_89 : decode cX12_ends 89 = .ok (.getfield 413, 3) := by decide +kernel
theorem dX12_ends_92 : decode cX12_ends 92 = .ok (.ireturn, 1) := by decide +kernel
theorem dX12_endsRight_0 : decode cX12_endsRight 0 = .ok (.aload_n 0, 1) := by decide +kernel
theorem dX12_endsRight_1 : decode cX12_endsRight 1 = .ok (.iload_n 1, 1) := by decide +kernel
theorem dX12_endsRight_2 : decode cX12_endsRight 2 = .ok (.iload_n 2, 1) := by decide +kernel
theorem dX12_endsRight_3 : decode cX12_endsRight 3 = .ok (.iload 4, 2) := by decide +kernel
theorem dX12_endsRight_5 : decode cX12_endsRight 5 = .ok (.iload 5, 2) := by decide +kernel
theorem dX12_endsRight_7 : decode cX12_endsRight 7 = .ok (.invokevirtual 420, 3) := by decide +kernel
theorem dX12_endsRight_10 : decode cX12_endsRight 10 = .ok (.aload_n 0, 1) := by decide +kernel
theorem dX12_endsRight_11 : decode cX12_endsRight 11 = .ok (.getfield 401, 3) := by decide +kernel
theorem dX12_endsRight_14 : decode cX12_endsRight 14 = .ok (.iconst 1, 1) := by decide +kernel
theorem dX12_endsRight_15 : decode cX12_endsRight 15 = .ok (.if_icmp .ne 15, 3) := by decide +kernel
theorem dX12_endsRight_18 : decode cX12_endsRight 18 = .ok (.aload_n 0, 1) := by decide +kernel
theorem dX12_endsRight_19 : decode cX12_endsRight 19 = .ok (.getfield 404, 3) := by decide +kernel
theorem dX12_endsRight_22 : decode cX12_endsRight 22 = .ok (.iload_n 3, 1) := by decide +kernel
theorem dX12_endsRight_23 : decode cX12_endsRight 23 = .ok (.if_icmp .ne 7, 3) := by decide +kernel
theorem dX12_endsRight_26 : decode cX12_endsRight 26 = .ok (.iconst 1, 1) := by decide +kernel
theorem dX12_endsRight_27 : decode cX12_endsRight 27 = .ok (.goto 4, 3) := by decide +kernel
theorem dX12_endsRight_30 : decode cX12_endsRight 30 = .ok (.iconst 0, 1) := by decide +kernel
theorem dX12_endsRight_31 : decode cX12_endsRight 31 = .ok (.ireturn, 1) := by decide +kernel
theorem dX12_isStrange_0 : decode cX12_isStrange 0 = .ok (.iload_n 1, 1) := by decide +kernel
theorem dX12_isStrange_1 : decode cX12_isStrange 1 = .ok (.bipush 12, 2) := by decide +kernel
theorem dX12_isStrange_3 : decode cX12_isStrange 3 = .ok (.idiv, 1) := by decide +kernel
theorem dX12_isStrange_4 : decode cX12_isStrange 4 = .ok (.istore_n 2, 1) := by decide +kernel
theorem dX12_isStrange_5 : decode cX12_isStrange 5 = .ok (.iload_n 1, 1) := by decide +kernel
theorem dX12_isStrange_6 : decode cX12_isStrange 6 = .ok (.bipush 12, 2) := by decide +kernel
theorem dX12_isStrange_8 : decode cX12_isStrange 8 = .ok (.irem, 1) := by decide +kernel
theorem dX12_isStrange_9 : decode cX12_isStrange 9 = .ok (.istore_n 3, 1) := by decide +kernel
theorem dX12_isStrange_10 : decode cX12_isStrange 10 = .ok (.aload_n 0, 1) := by decide +kernel
theorem dX12_isStrange_11 : decode cX12_isStrange 11 = .ok (.iload_n 2, 1) := by decide +kernel
theorem dX12_isStrange_12 : decode cX12_isStrange 12 = .ok (.invokevirtual 175, 3) := by decide +kernel
theorem dX12_isStrange_15 : decode cX12_isStrange 15 = .ok (.ifCond .eq 33, 3) := by decide +kernel
theorem dX12_isStrange_18 : decode cX12_isStrange 18 = .ok (.aload_n 0, 1) := by decide +kernel
theorem dX12_isStrange_19 : decode cX12_isStrange 19 = .ok (.iload_n 3, 1) := by decide +kernel
theorem dX12_isStrange_20 : decode cX12_isStrange 20 = .ok (.invokevirtual 175, 3) := by decide +kernel
theorem dX12_isStrange_23 : decode cX12_isStrange 23 = .ok (.ifCond .eq 25, 3) := by decide +kernel
theorem dX12_isStrange_26 : decode cX12_isStrange 26 = .ok (.iload_n 2, 1) := by decide +kernel
theorem dX12_isStrange_27 : decode cX12_isStrange 27 = .ok (.iload_n 3, 1) := by decide +kernel
theorem dX12_isStrange_28 : decode cX12_isStrange 28 = .ok (.if_icmp .eq 20, 3) := by decide +kernel
theorem dX12_isStrange_31 : decode cX12_isStrange 31 = .ok (.aload_n 0, 1) := by decide +kernel
theorem dX12_isStrange_32 : decode cX12_isStrange 32 = .ok (.getfield 16, 3) := by decide +kernel
theorem dX12_isStrange_35 : decode cX12_isStrange 35 = .ok (.iload_n 2, 1) := by decide +kernel
theorem dX12_isStrange_36 : decode cX12_isStrange 36 = .ok (.iaload, 1) := by decide +kernel
theorem dX12_isStrange_37 : decode cX12_isStrange 37 = .ok (.iload_n 3, 1) := by decide +kernel
theorem dX12_isStrange_38 : decode cX12_isStrange 38 = .ok (.invokestatic 148, 3) := by decide +kernel
theorem dX12_isStrange_41 : decode cX12_isStrange 41 = .ok (.ifCond .ne 7, 3) := by decide +kernel
theorem dX12_isStrange_44 : decode cX12_isStrange 44 = .ok (.iconst 1, 1) := by decide +kernel
theorem dX12_isStrange_45 : decode cX12_isStrange 45 = .ok (.goto 4, 3) := by decide +kernel
theorem dX12_isStrange_48 : decode cX12_isStrange 48 = .ok (.iconst 0, 1) := by decide +kernel
theorem dX12_isStrange_49 : decode cX12_isStrange 49 = .ok (.ireturn, 1) := by decide +kernel
theorem dX12_turns_0 : decode cX12_turns 0 = .ok (.aload_n 0, 1) := by decide +kernel
theorem dX12_turns_1 : decode cX12_turns 1 = .ok (.getfield 16, 3) := by decide +kernel
theorem dX12_turns_4 : decode cX12_turns 4 = .ok (.iload_n 1, 1) := by decide +kernel
theorem dX12_turns_5 : decode cX12_turns 5 = .ok (.bipush 12, 2) := by decide +kernel
theorem dX12_turns_7 : decode cX12_turns 7 = .ok (.idiv, 1) := by decide +kernel
theorem dX12_turns_8 : decode cX12_turns 8 = .ok (.dup2, 1) := by decide +kernel
theorem dX12_turns_9 : decode cX12_turns 9 = .ok (.iaload, 1) := by decide +kernel
theorem dX12_turns_10 : decode cX12_turns 10 = .ok (.iconst 1, 1) := by decide +kernel
theorem dX12_turns_11 : decode cX12_turns 11 = .ok (.iload_n 1, 1) := by decide +kernel
theorem dX12_turns_12 : decode cX12_turns 12 = .ok (.bipush 12, 2) := by decide +kernel
theorem dX12_turns_14 : decode cX12_turns 14 = .ok (.irem, 1) := by decide +kernel
theorem dX12_turns_15 : decode cX12_turns 15 = .ok (.ishl, 1) := by decide +kernel
theorem dX12_turns_16 : decode cX12_turns 16 = .ok (.ixor, 1) := by decide +kernel
theorem dX12_turns_17 : decode cX12_turns 17 = .ok (.iastore, 1) := by decide +kernel
theorem dX12_turns_18 : decode cX12_turns 18 = .ok (.return_, 1) := by decide +kernel
theorem dX12_finds_0 : decode cX12_finds 0 = .ok (.aload_n 0, 1) := by decide +kernel
theorem dX12_finds_1 : decode cX12_finds 1 = .ok (.iconst 0, 1) := by decide +kernel
theorem dX12_finds_2 : decode cX12_finds 2 = .ok (.putfield 424, 3) := by decide +kernel
theorem dX12_finds_5 : decode cX12_finds 5 = .ok (.aload_n 0, 1) := by decide +kernel
theorem dX12_finds_6 : decode cX12_finds 6 = .ok (.bipush (-2), 2) := by decide +kernel
theorem dX12_finds_8 : decode cX12_finds 8 = .ok (.putfield 427, 3) := by decide +kernel
theorem dX12_finds_11 : decode cX12_finds 11 = .ok (.aload_n 0, 1) := by decide +kernel
theorem dX12_finds_12 : decode cX12_finds 12 = .ok (.bipush (-2), 2) := by decide +kernel
theorem dX12_finds_14 : decode cX12_finds 14 = .ok (.putfield 430, 3) := by decide +kernel
theorem dX12_finds_17 : decode cX12_finds 17 = .ok (.aload_n 0, 1) := by decide +kernel
theorem dX12_finds_18 : decode cX12_finds 18 = .ok (.iload_n 1, 1) := by decide +kernel
theorem dX12_finds_19 : decode cX12_finds 19 = .ok (.iload_n 2, 1) := by decide +kernel
theorem dX12_finds_20 : decode cX12_finds 20 = .ok (.iload_n 3, 1) := by decide +kernel
theorem dX12_finds_21 : decode cX12_finds 21 = .ok (.iload 4, 2) := by decide +kernel
theorem dX12_finds_23 : decode cX12_finds 23 = .ok (.iload 5, 2) := by decide +kernel
theorem dX12_finds_25 : decode cX12_finds 25 = .ok (.invokevirtual 433, 3) := by decide +kernel
theorem dX12_finds_28 : decode cX12_finds 28 = .ok (.ifCond .eq 4, 3) := by decide +kernel
theorem dX12_finds_31 : decode cX12_finds 31 = .ok (.return_, 1) := by decide +kernel
theorem dX12_finds_32 : decode cX12_finds 32 = .ok (.aload_n 0, 1) := by decide +kernel
theorem dX12_finds_33 : decode cX12_finds 33 = .ok (.iconst 1, 1) := by decide +kernel
theorem dX12_finds_34 : decode cX12_finds 34 = .ok (.putfield 424, 3) := by decide +kernel
theorem dX12_finds_37 : decode cX12_finds 37 = .ok (.iconst 0, 1) := by decide +kernel
theorem dX12_finds_38 : decode cX12_finds 38 = .ok (.istore 6, 2) := by decide +kernel
theorem dX12_finds_40 : decode cX12_finds 40 = .ok (.iload 6, 2) := by decide +kernel
theorem dX12_finds_42 : decode cX12_finds 42 = .ok (.sipush 144, 3) := by decide +kernel
theorem dX12_finds_45 : decode cX12_finds 45 = .ok (.if_icmp .ge 55, 3) := by decide +kernel
theorem dX12_finds_48 : decode cX12_finds 48 = .ok (.aload_n 0, 1) := by decide +kernel
theorem dX12_finds_49 : decode cX12_finds 49 = .ok (.iload 6, 2) := by decide +kernel
theorem dX12_finds_51 : decode cX12_finds 51 = .ok (.invokevirtual 437, 3) := by decide +kernel
theorem dX12_finds_54 : decode cX12_finds 54 = .ok (.ifCond .eq 40, 3) := by decide +kernel
theorem dX12_finds_57 : decode cX12_finds 57 = .ok (.aload_n 0, 1) := by decide +kernel
theorem dX12_finds_58 : decode cX12_finds 58 = .ok (.iload 6, 2) := by decide +kernel
theorem dX12_finds_60 : decode cX12_finds 60 = .ok (.invokevirtual 440, 3) := by decide +kernel
theorem dX12_finds_63 : decode cX12_finds 63 = .ok (.aload_n 0, 1) := by decide +kernel
theorem dX12_finds_64 : decode cX12_finds 64 = .ok (.iload_n 1, 1) := by decide +kernel
theorem dX12_finds_65 : decode cX12_finds 65 = .ok (.iload_n 2, 1) := by decide +kernel
theorem dX12_finds_66 : decode cX12_finds 66 = .ok (.iload_n 3, 1) := by decide +kernel
theorem dX12_finds_67 : decode cX12_finds 67 = .ok (.iload 4, 2) := by decide +kernel
theorem dX12_finds_69 : decode cX12_finds 69 = .ok (.iload 5, 2) := by decide +kernel
theorem dX12_finds_71 : decode cX12_finds 71 = .ok (.invokevirtual 433, 3) := by decide +kernel
theorem dX12_finds_74 : decode cX12_finds 74 = .ok (.istore 7, 2) := by decide +kernel
theorem dX12_finds_76 : decode cX12_finds 76 = .ok (.aload_n 0, 1) := by decide +kernel
theorem dX12_finds_77 : decode cX12_finds 77 = .ok (.iload 6, 2) := by decide +kernel
theorem dX12_finds_79 : decode cX12_finds 79 = .ok (.invokevirtual 440, 3) := by decide +kernel
theorem dX12_finds_82 : decode cX12_finds 82 = .ok (.iload 7, 2) := by decide +kernel
theorem dX12_finds_84 : decode cX12_finds 84 = .ok (.ifCond .eq 10, 3) := by decide +kernel
theorem dX12_finds_87 : decode cX12_finds 87 = .ok (.aload_n 0, 1) := by decide +kernel
theorem dX12_finds_88 : decode cX12_finds 88 = .ok (.iload 6, 2) := by decide +kernel
theorem dX12_finds_90 : decode cX12_finds 90 = .ok (.putfield 427, 3) := by decide +kernel
theorem dX12_finds_93 : decode cX12_finds 93 = .ok (.return_, 1) := by decide +kernel
theorem dX12_finds_94 : decode cX12_finds 94 = .ok (.iinc 6 1, 3) := by decide +kernel
theorem dX12_finds_97 : decode cX12_finds 97 = .ok (.goto (-57), 3) := by decide +kernel
theorem dX12_finds_100 : decode cX12_finds 100 = .ok (.aload_n 0, 1) := by decide +kernel
theorem dX12_finds_101 : decode cX12_finds 101 = .ok (.iconst 2, 1) := by decide +kernel
theorem dX12_finds_102 : decode cX12_finds 102 = .ok (.putfield 424, 3) := by decide +kernel
theorem dX12_finds_105 : decode cX12_finds 105 = .ok (.iconst 0, 1) := by decide +kernel
theorem dX12_finds_106 : decode cX12_finds 106 = .ok (.istore 6, 2) := by decide +kernel
theorem dX12_finds_108 : decode cX12_finds 108 = .ok (.iload 6, 2) := by decide +kernel
theorem dX12_finds_110 : decode cX12_finds 110 = .ok (.sipush 144, 3) := by decide +kernel
theorem dX12_finds_113 : decode cX12_finds 113 = .ok (.if_icmp .ge 102, 3) := by decide +kernel
theorem dX12_finds_116 : decode cX12_finds 116 = .ok (.iload 6, 2) := by decide +kernel
theorem dX12_finds_118 : decode cX12_finds 118 = .ok (.iconst 1, 1) := by decide +kernel
theorem dX12_finds_119 : decode cX12_finds 119 = .ok (.iadd, 1) := by decide +kernel
theorem dX12_finds_120 : decode cX12_finds 120 = .ok (.istore 7, 2) := by decide +kernel
theorem dX12_finds_122 : decode cX12_finds 122 = .ok (.iload 7, 2) := by decide +kernel
theorem dX12_finds_124 : decode cX12_finds 124 = .ok (.sipush 144, 3) := by decide +kernel
theorem dX12_finds_127 : decode cX12_finds 127 = .ok (.if_icmp .ge 82, 3) := by decide +kernel
theorem dX12_finds_130 : decode cX12_finds 130 = .ok (.aload_n 0, 1) := by decide +kernel
theorem dX12_finds_131 : decode cX12_finds 131 = .ok (.iload 6, 2) := by decide +kernel
theorem dX12_finds_133 : decode cX12_finds 133 = .ok (.invokevirtual 437, 3) := by decide +kernel
theorem dX12_finds_136 : decode cX12_finds 136 = .ok (.ifCond .eq 73, 3) := by decide +kernel
theorem dX12_finds_139 : decode cX12_finds 139 = .ok (.aload_n 0, 1) := by decide +kernel
theorem dX12_finds_140 : decode cX12_finds 140 = .ok (.iload 7, 2) := by decide +kernel
theorem dX12_finds_142 : decode cX12_finds 142 = .ok (.invokevirtual 437, 3) := by decide +kernel
theorem dX12_finds_145 : decode cX12_finds 145 = .ok (.ifCond .eq 58, 3) := by decide +kernel
theorem dX12_finds_148 : decode cX12_finds 148 = .ok (.aload_n 0, 1) := by decide +kernel
theorem dX12_finds_149 : decode cX12_finds 149 = .ok (.iload 6, 2) := by decide +kernel
theorem dX12_finds_151 : decode cX12_finds 151 = .ok (.invokevirtual 440, 3) := by decide +kernel
theorem dX12_finds_154 : decode cX12_finds 154 = .ok (.aload_n 0, 1) := by decide +kernel
theorem dX12_finds_155 : decode cX12_finds 155 = .ok (.iload 7, 2) := by decide +kernel
theorem dX12_finds_157 : decode cX12_finds 157 = .ok (.invokevirtual 440, 3) := by decide +kernel
theorem dX12_finds_160 : decode cX12_finds 160 = .ok (.aload_n 0, 1) := by decide +kernel
theorem dX12_finds_161 : decode cX12_finds 161 = .ok (.iload_n 1, 1) := by decide +kernel
theorem dX12_finds_162 : decode cX12_finds 162 = .ok (.iload_n 2, 1) := by decide +kernel
theorem dX12_finds_163 : decode cX12_finds 163 = .ok (.iload_n 3, 1) := by decide +kernel
theorem dX12_finds_164 : decode cX12_finds 164 = .ok (.iload 4, 2) := by decide +kernel
theorem dX12_finds_166 : decode cX12_finds 166 = .ok (.iload 5, 2) := by decide +kernel
theorem dX12_finds_168 : decode cX12_finds 168 = .ok (.invokevirtual 433, 3) := by decide +kernel
theorem dX12_finds_171 : decode cX12_finds 171 = .ok (.istore 8, 2) := by decide +kernel
theorem dX12_finds_173 : decode cX12_finds 173 = .ok (.aload_n 0, 1) := by decide +kernel
theorem dX12_finds_174 : decode cX12_finds 174 = .ok (.iload 6, 2) := by decide +kernel
theorem dX12_finds_176 : decode cX12_finds 176 = .ok (.invokevirtual 440, 3) := by decide +kernel
theorem dX12_finds_179 : decode cX12_finds 179 = .ok (.aload_n 0, 1) := by decide +kernel
theorem dX12_finds_180 : decode cX12_finds 180 = .ok (.iload 7, 2) := by decide +kernel
theorem dX12_finds_182 : decode cX12_finds 182 = .ok (.invokevirtual 440, 3) := by decide +kernel
theorem dX12_finds_185 : decode cX12_finds 185 = .ok (.iload 8, 2) := by decide +kernel
theorem dX12_finds_187 : decode cX12_finds 187 = .ok (.ifCond .eq 16, 3) := by decide +kernel
theorem dX12_finds_190 : decode cX12_finds 190 = .ok (.aload_n 0, 1) := by decide +kernel
theorem dX12_finds_191 : decode cX12_finds 191 = .ok (.iload 6, 2) := by decide +kernel
theorem dX12_finds_193 : decode cX12_finds 193 = .ok (.putfield 427, 3) := by decide +kernel
theorem dX12_finds_196 : decode cX12_finds 196 = .ok (.aload_n 0, 1) := by decide +kernel
theorem dX12_finds_197 : decode cX12_finds 197 = .ok (.iload 7, 2) := by decide +kernel
theorem dX12_finds_199 : decode cX12_finds 199 = .ok (.putfield 430, 3) := by decide +kernel
theorem dX12_finds_202 : decode cX12_finds 202 = .ok (.return_, 1) := by decide +kernel
theorem dX12_finds_203 : decode cX12_finds 203 = .ok (.iinc 7 1, 3) := by decide +kernel
theorem dX12_finds_206 : decode cX12_finds 206 = .ok (.goto (-84), 3) := by decide +kernel
theorem dX12_finds_209 : decode cX12_finds 209 = .ok (.iinc 6 1, 3) := by decide +kernel
theorem dX12_finds_212 : decode cX12_finds 212 = .ok (.goto (-104), 3) := by decide +kernel
theorem dX12_finds_215 : decode cX12_finds 215 = .ok (.aload_n 0, 1) := by decide +kernel
theorem dX12_finds_216 : decode cX12_finds 216 = .ok (.bipush (-2), 2) := by decide +kernel
theorem dX12_finds_218 : decode cX12_finds 218 = .ok (.putfield 424, 3) := by decide +kernel
theorem dX12_finds_221 : decode cX12_finds 221 = .ok (.return_, 1) := by decide +kernel
theorem dX12_needs_0 : decode cX12_needs 0 = .ok (.aload_n 0, 1) := by decide +kernel
theorem dX12_needs_1 : decode cX12_needs 1 = .ok (.iload_n 1, 1) := by decide +kernel
theorem dX12_needs_2 : decode cX12_needs 2 = .ok (.iload_n 2, 1) := by decide +kernel
theorem dX12_needs_3 : decode cX12_needs 3 = .ok (.iload 4, 2) := by decide +kernel
theorem dX12_needs_5 : decode cX12_needs 5 = .ok (.iload 5, 2) := by decide +kernel
theorem dX12_needs_7 : decode cX12_needs 7 = .ok (.invokevirtual 416, 3) := by decide +kernel
theorem dX12_needs_10 : decode cX12_needs 10 = .ok (.ifCond .eq 29, 3) := by decide +kernel
theorem dX12_needs_13 : decode cX12_needs 13 = .ok (.aload_n 0, 1) := by decide +kernel
theorem dX12_needs_14 : decode cX12_needs 14 = .ok (.iload_n 3, 1) := by decide +kernel
theorem dX12_needs_15 : decode cX12_needs 15 = .ok (.invokevirtual 175, 3) := by decide +kernel
theorem dX12_needs_18 : decode cX12_needs 18 = .ok (.ifCond .eq 21, 3) := by decide +kernel
theorem dX12_needs_21 : decode cX12_needs 21 = .ok (.iload_n 3, 1) := by decide +kernel
theorem dX12_needs_22 : decode cX12_needs 22 = .ok (.iload_n 1, 1) := by decide +kernel
theorem dX12_needs_23 : decode cX12_needs 23 = .ok (.if_icmp .eq 16, 3) := by decide +kernel
theorem dX12_needs_26 : decode cX12_needs 26 = .ok (.iload 6, 2) := by decide +kernel
theorem dX12_needs_28 : decode cX12_needs 28 = .ok (.i2l, 1) := by decide +kernel
theorem dX12_needs_29 : decode cX12_needs 29 = .ok (.lconst 0, 1) := by decide +kernel
theorem dX12_needs_30 : decode cX12_needs 30 = .ok (.ldc2_w 173, 3) := by decide +kernel
theorem dX12_needs_33 : decode cX12_needs 33 = .ok (.invokestatic 154, 3) := by decide +kernel
theorem dX12_needs_36 : decode cX12_needs 36 = .ok (.ifCond .ne 5, 3) := by decide +kernel
theorem dX12_needs_39 : decode cX12_needs 39 = .ok (.iconst (-1), 1) := by decide +kernel
theorem dX12_needs_40 : decode cX12_needs 40 = .ok (.ireturn, 1) := by decide +kernel
theorem dX12_needs_41 : decode cX12_needs 41 = .ok (.aload_n 0, 1) := by decide +kernel
theorem dX12_needs_42 : decode cX12_needs 42 = .ok (.iload_n 1, 1) := by decide +kernel
theorem dX12_needs_43 : decode cX12_needs 43 = .ok (.iload_n 2, 1) := by decide +kernel
theorem dX12_needs_44 : decode cX12_needs 44 = .ok (.iload_n 3, 1) := by decide +kernel
theorem dX12_needs_45 : decode cX12_needs 45 = .ok (.iload 4, 2) := by decide +kernel
theorem dX12_needs_47 : decode cX12_needs 47 = .ok (.iload 5, 2) := by decide +kernel
theorem dX12_needs_49 : decode cX12_needs 49 = .ok (.invokevirtual 443, 3) := by decide +kernel
theorem dX12_needs_52 : decode cX12_needs 52 = .ok (.iload 6, 2) := by decide +kernel
theorem dX12_needs_54 : decode cX12_needs 54 = .ok (.ifCond .ne 10, 3) := by decide +kernel
theorem dX12_needs_57 : decode cX12_needs 57 = .ok (.aload_n 0, 1) := by decide +kernel
theorem dX12_needs_58 : decode cX12_needs 58 = .ok (.getfield 424, 3) := by decide +kernel
theorem dX12_needs_61 : decode cX12_needs 61 = .ok (.goto 20, 3) := by decide +kernel
theorem dX12_needs_64 : decode cX12_needs 64 = .ok (.iload 6, 2) := by decide +kernel
theorem dX12_needs_66 : decode cX12_needs 66 = .ok (.iconst 1, 1) := by decide +kernel
theorem dX12_needs_67 : decode cX12_needs 67 = .ok (.if_icmp .ne 10, 3) := by decide +kernel
theorem dX12_needs_70 : decode cX12_needs 70 = .ok (.aload_n 0, 1) := by decide +kernel
theorem dX12_needs_71 : decode cX12_needs 71 = .ok (.getfield 427, 3) := by decide +kernel
theorem dX12_needs_74 : decode cX12_needs 74 = .ok (.goto 7, 3) := by decide +kernel
theorem dX12_needs_77 : decode cX12_needs 77 = .ok (.aload_n 0, 1) := by decide +kernel
theorem dX12_needs_78 : decode cX12_needs 78 = .ok (.getfield 430, 3) := by decide +kernel
theorem dX12_needs_81 : decode cX12_needs 81 = .ok (.ireturn, 1) := by decide +kernel
theorem dX12_fittingAll_0 : decode cX12_fittingAll 0 = .ok (.aload_n 0, 1) := by decide +kernel
theorem dX12_fittingAll_1 : decode cX12_fittingAll 1 = .ok (.getfield 116, 3) := by decide +kernel
theorem dX12_fittingAll_4 : decode cX12_fittingAll 4 = .ok (.iload_n 1, 1) := by decide +kernel
theorem dX12_fittingAll_5 : decode cX12_fittingAll 5 = .ok (.baload, 1) := by decide +kernel
theorem dX12_fittingAll_6 : decode cX12_fittingAll 6 = .ok (.istore_n 3, 1) := by decide +kernel
theorem dX12_fittingAll_7 : decode cX12_fittingAll 7 = .ok (.aload_n 0, 1) := by decide +kernel
theorem dX12_fittingAll_8 : decode cX12_fittingAll 8 = .ok (.getfield 116, 3) := by decide +kernel
theorem dX12_fittingAll_11 : decode cX12_fittingAll 11 = .ok (.iload_n 1, 1) := by decide +kernel
theorem dX12_fittingAll_12 : decode cX12_fittingAll 12 = .ok (.iconst 0, 1) := by decide +kernel
theorem dX12_fittingAll_13 : decode cX12_fittingAll 13 = .ok (.bastore, 1) := by decide +kernel
theorem dX12_fittingAll_14 : decode cX12_fittingAll 14 = .ok (.aload_n 0, 1) := by decide +kernel
theorem dX12_fittingAll_15 : decode cX12_fittingAll 15 = .ok (.iload_n 1, 1) := by decide +kernel
theorem dX12_fittingAll_16 : decode cX12_fittingAll 16 = .ok (.iload_n 2, 1) := by decide +kernel
theorem dX12_fittingAll_17 : decode cX12_fittingAll 17 = .ok (.iconst (-1), 1) := by decide +kernel
theorem dX12_fittingAll_18 : decode cX12_fittingAll 18 = .ok (.invokevirtual 334, 3) := by decide +kernel
theorem dX12_fittingAll_21 : decode cX12_fittingAll 21 = .ok (.istore 4, 2) := by decide +kernel
theorem dX12_fittingAll_23 : decode cX12_fittingAll 23 = .ok (.aload_n 0, 1) := by decide +kernel
theorem dX12_fittingAll_24 : decode cX12_fittingAll 24 = .ok (.getfield 116, 3) := by decide +kernel
theorem dX12_fittingAll_27 : decode cX12_fittingAll 27 = .ok (.iload_n 1, 1) := by decide +kernel
theorem dX12_fittingAll_28 : decode cX12_fittingAll 28 = .ok (.iload_n 3, 1) := by decide +kernel
theorem dX12_fittingAll_29 : decode cX12_fittingAll 29 = .ok (.bastore, 1) := by decide +kernel
theorem dX12_fittingAll_30 : decode cX12_fittingAll 30 = .ok (.iload 4, 2) := by decide +kernel
theorem dX12_fittingAll_32 : decode cX12_fittingAll 32 = .ok (.ireturn, 1) := by decide +kernel
theorem dX12_mends_0 : decode cX12_mends 0 = .ok (.aload_n 0, 1) := by decide +kernel
theorem dX12_mends_1 : decode cX12_mends 1 = .ok (.iload_n 1, 1) := by decide +kernel
theorem dX12_mends_2 : decode cX12_mends 2 = .ok (.invokevirtual 331, 3) := by decide +kernel
theorem dX12_mends_5 : decode cX12_mends 5 = .ok (.ifCond .eq 27, 3) := by decide +kernel
theorem dX12_mends_8 : decode cX12_mends 8 = .ok (.aload_n 0, 1) := by decide +kernel
theorem dX12_mends_9 : decode cX12_mends 9 = .ok (.iload_n 2, 1) := by decide +kernel
theorem dX12_mends_10 : decode cX12_mends 10 = .ok (.invokevirtual 175, 3) := by decide +kernel
theorem dX12_mends_13 : decode cX12_mends 13 = .ok (.ifCond .eq 19, 3) := by decide +kernel
theorem dX12_mends_16 : decode cX12_mends 16 = .ok (.aload_n 0, 1) := by decide +kernel
theorem dX12_mends_17 : decode cX12_mends 17 = .ok (.iload_n 3, 1) := by decide +kernel
theorem dX12_mends_18 : decode cX12_mends 18 = .ok (.invokevirtual 175, 3) := by decide +kernel
theorem dX12_mends_21 : decode cX12_mends 21 = .ok (.ifCond .eq 11, 3) := by decide +kernel
theorem dX12_mends_24 : decode cX12_mends 24 = .ok (.iload 4, 2) := by decide +kernel
theorem dX12_mends_26 : decode cX12_mends 26 = .ok (.invokestatic 170, 3) := by decide +kernel
theorem dX12_mends_29 : decode cX12_mends 29 = .ok (.ifCond .ne 5, 3) := by decide +kernel
theorem dX12_mends_32 : decode cX12_mends 32 = .ok (.iconst (-1), 1) := by decide +kernel
theorem dX12_mends_33 : decode cX12_mends 33 = .ok (.ireturn, 1) := by decide +kernel
theorem dX12_mends_34 : decode cX12_mends 34 = .ok (.aload_n 0, 1) := by decide +kernel
theorem dX12_mends_35 : decode cX12_mends 35 = .ok (.iconst 0, 1) := by decide +kernel
theorem dX12_mends_36 : decode cX12_mends 36 = .ok (.iload 4, 2) := by decide +kernel
theorem dX12_mends_38 : decode cX12_mends 38 = .ok (.invokevirtual 198, 3) := by decide +kernel
theorem dX12_mends_41 : decode cX12_mends 41 = .ok (.aload_n 0, 1) := by decide +kernel
theorem dX12_mends_42 : decode cX12_mends 42 = .ok (.iconst 1, 1) := by decide +kernel
theorem dX12_mends_43 : decode cX12_mends 43 = .ok (.iload 4, 2) := by decide +kernel
theorem dX12_mends_45 : decode cX12_mends 45 = .ok (.invokevirtual 198, 3) := by decide +kernel
theorem dX12_mends_48 : decode cX12_mends 48 = .ok (.aload_n 0, 1) := by decide +kernel
theorem dX12_mends_49 : decode cX12_mends 49 = .ok (.iload_n 1, 1) := by decide +kernel
theorem dX12_mends_50 : decode cX12_mends 50 = .ok (.iload_n 2, 1) := by decide +kernel
theorem dX12_mends_51 : decode cX12_mends 51 = .ok (.invokevirtual 446, 3) := by decide +kernel
theorem dX12_mends_54 : decode cX12_mends 54 = .ok (.istore 5, 2) := by decide +kernel
theorem dX12_mends_56 : decode cX12_mends 56 = .ok (.iload 5, 2) := by decide +kernel
theorem dX12_mends_58 : decode cX12_mends 58 = .ok (.iconst 1, 1) := by decide +kernel
theorem dX12_mends_59 : decode cX12_mends 59 = .ok (.iload_n 3, 1) := by decide +kernel
theorem dX12_mends_60 : decode cX12_mends 60 = .ok (.ishl, 1) := by decide +kernel
theorem dX12_mends_61 : decode cX12_mends 61 = .ok (.if_icmp .ne 6, 3) := by decide +kernel
theorem dX12_mends_64 : decode cX12_mends 64 = .ok (.bipush 32, 2) := by decide +kernel
theorem dX12_mends_66 : decode cX12_mends 66 = .ok (.ireturn, 1) := by decide +kernel
theorem dX12_mends_67 : decode cX12_mends 67 = .ok (.bipush (-2), 2) := by decide +kernel
theorem dX12_mends_69 : decode cX12_mends 69 = .ok (.istore 6, 2) := by decide +kernel
theorem dX12_mends_71 : decode cX12_mends 71 = .ok (.iconst 0, 1) := by decide +kernel
theorem dX12_mends_72 : decode cX12_mends 72 = .ok (.istore 7, 2) := by decide +kernel
theorem dX12_mends_74 : decode cX12_mends 74 = .ok (.iconst 0, 1) := by decide +kernel
theorem dX12_mends_75 : decode cX12_mends 75 = .ok (.istore 8, 2) := by decide +kernel
theorem dX12_mends_77 : decode cX12_mends 77 = .ok (.iload 8, 2) := by decide +kernel
theorem dX12_mends_79 : decode cX12_mends 79 = .ok (.bipush 32, 2) := by decide +kernel
theorem dX12_mends_81 : decode cX12_mends 81 = .ok (.if_icmp .ge 138, 3) := by decide +kernel
theorem dX12_mends_84 : decode cX12_mends 84 = .ok (.iload 8, 2) := by decide +kernel
theorem dX12_mends_86 : decode cX12_mends 86 = .ok (.bipush 16, 2) := by decide +kernel
theorem dX12_mends_88 : decode cX12_mends 88 = .ok (.irem, 1) := by decide +kernel
theorem dX12_mends_89 : decode cX12_mends 89 = .ok (.istore 9, 2) := by decide +kernel
theorem dX12_mends_91 : decode cX12_mends 91 = .ok (.iload 9, 2) := by decide +kernel
theorem dX12_mends_93 : decode cX12_mends 93 = .ok (.bipush 10, 2) := by decide +kernel
theorem dX12_mends_95 : decode cX12_mends 95 = .ok (.if_icmp .ge 13, 3) := by decide +kernel
theorem dX12_mends_98 : decode cX12_mends 98 = .ok (.aload_n 0, 1) := by decide +kernel
theorem dX12_mends_99 : decode cX12_mends 99 = .ok (.iconst 1, 1) := by decide +kernel
theorem dX12_mends_100 : decode cX12_mends 100 = .ok (.iload 9, 2) := by decide +kernel
theorem dX12_mends_102 : decode cX12_mends 102 = .ok (.invokevirtual 322, 3) := by decide +kernel
theorem dX12_mends_105 : decode cX12_mends 105 = .ok (.goto 16, 3) := by decide +kernel
theorem dX12_mends_108 : decode cX12_mends 108 = .ok (.aload_n 0, 1) := by decide +kernel
theorem dX12_mends_109 : decode cX12_mends 109 = .ok (.iconst 1, 1) := by decide +kernel
theorem dX12_mends_110 : decode cX12_mends 110 = .ok (.iload 9, 2) := by decide +kernel
theorem dX12_mends_112 : decode cX12_mends 112 = .ok (.bipush 10, 2) := by decide +kernel
theorem dX12_mends_114 : decode cX12_mends 114 = .ok (.isub, 1) := by decide +kernel
theorem dX12_mends_115 : decode cX12_mends 115 = .ok (.iconst 1, 1) := by decide +kernel
theorem dX12_mends_116 : decode cX12_mends 116 = .ok (.iload_n 2, 1) := by decide +kernel
theorem dX12_mends_117 : decode cX12_mends 117 = .ok (.ishl, 1) := by decide +kernel
theorem dX12_mends_118 : decode cX12_mends 118 = .ok (.invokevirtual 325, 3) := by decide +kernel
theorem dX12_mends_121 : decode cX12_mends 121 = .ok (.istore 10, 2) := by decide +kernel
theorem dX12_mends_123 : decode cX12_mends 123 = .ok (.aload_n 0, 1) := by decide +kernel
theorem dX12_mends_124 : decode cX12_mends 124 = .ok (.getfield 19, 3) := by decide +kernel
theorem dX12_mends_127 : decode cX12_mends 127 = .ok (.iload 9, 2) := by decide +kernel
theorem dX12_mends_129 : decode cX12_mends 129 = .ok (.iaload, 1) := by decide +kernel
theorem dX12_mends_130 : decode cX12_mends 130 = .ok (.iload 8, 2) := by decide +kernel
theorem dX12_mends_132 : decode cX12_mends 132 = .ok (.bipush 16, 2) := by decide +kernel
theorem dX12_mends_134 : decode cX12_mends 134 = .ok (.if_icmp .ge 7, 3) := by decide +kernel
theorem dX12_mends_137 : decode cX12_mends 137 = .ok (.iconst 0, 1) := by decide +kernel
theorem dX12_mends_138 : decode cX12_mends 138 = .ok (.goto 10, 3) := by decide +kernel
theorem dX12_mends_141 : decode cX12_mends 141 = .ok (.aload_n 0, 1) := by decide +kernel
theorem dX12_mends_142 : decode cX12_mends 142 = .ok (.getfield 19, 3) := by decide +kernel
theorem dX12_mends_145 : decode cX12_mends 145 = .ok (.bipush 16, 2) := by decide +kernel
theorem dX12_mends_147 : decode cX12_mends 147 = .ok (.iaload, 1) := by decide +kernel
theorem dX12_mends_148 : decode cX12_mends 148 = .ok (.iadd, 1) := by decide +kernel
theorem dX12_mends_149 : decode cX12_mends 149 = .ok (.istore 11, 2) := by decide +kernel
theorem dX12_mends_151 : decode cX12_mends 151 = .ok (.iload 8, 2) := by decide +kernel
theorem dX12_mends_153 : decode cX12_mends 153 = .ok (.bipush 16, 2) := by decide +kernel
theorem dX12_mends_155 : decode cX12_mends 155 = .ok (.if_icmp .ge 11, 3) := by decide +kernel
theorem dX12_mends_158 : decode cX12_mends 158 = .ok (.iload 5, 2) := by decide +kernel
theorem dX12_mends_160 : decode cX12_mends 160 = .ok (.iload 10, 2) := by decide +kernel
theorem dX12_mends_162 : decode cX12_mends 162 = .ok (.iand, 1) := by decide +kernel
theorem dX12_mends_163 : decode cX12_mends 163 = .ok (.goto 10, 3) := by decide +kernel
theorem dX12_mends_166 : decode cX12_mends 166 = .ok (.iload 5, 2) := by decide +kernel
theorem dX12_mends_168 : decode cX12_mends 168 = .ok (.iload 10, 2) := by decide +kernel
theorem dX12_mends_170 : decode cX12_mends 170 = .ok (.iconst (-1), 1) := by decide +kernel
theorem dX12_mends_171 : decode cX12_mends 171 = .ok (.ixor, 1) := by decide +kernel
theorem dX12_mends_172 : decode cX12_mends 172 = .ok (.iand, 1) := by decide +kernel
theorem dX12_mends_173 : decode cX12_mends 173 = .ok (.iconst 1, 1) := by decide +kernel
theorem dX12_mends_174 : decode cX12_mends 174 = .ok (.iload_n 3, 1) := by decide +kernel
theorem dX12_mends_175 : decode cX12_mends 175 = .ok (.ishl, 1) := by decide +kernel
theorem dX12_mends_176 : decode cX12_mends 176 = .ok (.if_icmp .ne 7, 3) := by decide +kernel
theorem dX12_mends_179 : decode cX12_mends 179 = .ok (.iconst 1, 1) := by decide +kernel
theorem dX12_mends_180 : decode cX12_mends 180 = .ok (.goto 4, 3) := by decide +kernel
theorem dX12_mends_183 : decode cX12_mends 183 = .ok (.iconst 0, 1) := by decide +kernel
theorem dX12_mends_184 : decode cX12_mends 184 = .ok (.istore 12, 2) := by decide +kernel
theorem dX12_mends_186 : decode cX12_mends 186 = .ok (.iload 12, 2) := by decide +kernel
theorem dX12_mends_188 : decode cX12_mends 188 = .ok (.ifCond .eq 25, 3) := by decide +kernel
theorem dX12_mends_191 : decode cX12_mends 191 = .ok (.iload 6, 2) := by decide +kernel
theorem dX12_mends_193 : decode cX12_mends 193 = .ok (.bipush (-2), 2) := by decide +kernel
theorem dX12_mends_195 : decode cX12_mends 195 = .ok (.if_icmp .eq 10, 3) := by decide +kernel
theorem dX12_mends_198 : decode cX12_mends 198 = .ok (.iload 11, 2) := by decide +kernel
theorem dX12_mends_200 : decode cX12_mends 200 = .ok (.iload 7, 2) := by decide +kernel
theorem dX12_mends_202 : decode cX12_mends 202 = .ok (.if_icmp .ge 11, 3) := by decide +kernel
theorem dX12_mends_205 : decode cX12_mends 205 = .ok (.iload 8, 2) := by decide +kernel
theorem dX12_mends_207 : decode cX12_mends 207 = .ok (.istore 6, 2) := by decide +kernel
theorem dX12_mends_209 : decode cX12_mends 209 = .ok (.iload 11, 2) := by decide +kernel
theorem dX12_mends_211 : decode cX12_mends 211 = .ok (.istore 7, 2) := by decide +kernel
theorem dX12_mends_213 : decode cX12_mends 213 = .ok (.iinc 8 1, 3) := by decide +kernel
theorem dX12_mends_216 : decode cX12_mends 216 = .ok (.goto (-139), 3) := by decide +kernel
theorem dX12_mends_219 : decode cX12_mends 219 = .ok (.iload 6, 2) := by decide +kernel
theorem dX12_mends_221 : decode cX12_mends 221 = .ok (.ireturn, 1) := by decide +kernel
theorem dX12_isRead_0 : decode cX12_isRead 0 = .ok (.aload_n 0, 1) := by decide +kernel
theorem dX12_isRead_1 : decode cX12_isRead 1 = .ok (.iload_n 1, 1) := by decide +kernel
theorem dX12_isRead_2 : decode cX12_isRead 2 = .ok (.invokevirtual 331, 3) := by decide +kernel
theorem dX12_isRead_5 : decode cX12_isRead 5 = .ok (.ifCond .eq 22, 3) := by decide +kernel
theorem dX12_isRead_8 : decode cX12_isRead 8 = .ok (.aload_n 0, 1) := by decide +kernel
theorem dX12_isRead_9 : decode cX12_isRead 9 = .ok (.iload_n 2, 1) := by decide +kernel
theorem dX12_isRead_10 : decode cX12_isRead 10 = .ok (.invokevirtual 175, 3) := by decide +kernel
theorem dX12_isRead_13 : decode cX12_isRead 13 = .ok (.ifCond .eq 14, 3) := by decide +kernel
theorem dX12_isRead_16 : decode cX12_isRead 16 = .ok (.iload_n 3, 1) := by decide +kernel
theorem dX12_isRead_17 : decode cX12_isRead 17 = .ok (.invokestatic 170, 3) := by decide +kernel
theorem dX12_isRead_20 : decode cX12_isRead 20 = .ok (.ifCond .eq 7, 3) := by decide +kernel
theorem dX12_isRead_23 : decode cX12_isRead 23 = .ok (.iconst 1, 1) := by decide +kernel
theorem dX12_isRead_24 : decode cX12_isRead 24 = .ok (.goto 4, 3) := by decide +kernel
theorem dX12_isRead_27 : decode cX12_isRead 27 = .ok (.iconst 0, 1) := by decide +kernel
theorem dX12_isRead_28 : decode cX12_isRead 28 = .ok (.ireturn, 1) := by decide +kernel
theorem dX12_tellers_0 : decode cX12_tellers 0 = .ok (.aload_n 0, 1) := by decide +kernel
theorem dX12_tellers_1 : decode cX12_tellers 1 = .ok (.iload_n 1, 1) := by decide +kernel
theorem dX12_tellers_2 : decode cX12_tellers 2 = .ok (.iload_n 2, 1) := by decide +kernel
theorem dX12_tellers_3 : decode cX12_tellers 3 = .ok (.iload_n 3, 1) := by decide +kernel
theorem dX12_tellers_4 : decode cX12_tellers 4 = .ok (.invokevirtual 449, 3) := by decide +kernel
theorem dX12_tellers_7 : decode cX12_tellers 7 = .ok (.ifCond .ne 5, 3) := by decide +kernel
theorem dX12_tellers_10 : decode cX12_tellers 10 = .ok (.iconst (-1), 1) := by decide +kernel
theorem dX12_tellers_11 : decode cX12_tellers 11 = .ok (.ireturn, 1) := by decide +kernel
theorem dX12_tellers_12 : decode cX12_tellers 12 = .ok (.aload_n 0, 1) := by decide +kernel
theorem dX12_tellers_13 : decode cX12_tellers 13 = .ok (.iconst 0, 1) := by decide +kernel
theorem dX12_tellers_14 : decode cX12_tellers 14 = .ok (.iload_n 3, 1) := by decide +kernel
theorem dX12_tellers_15 : decode cX12_tellers 15 = .ok (.invokevirtual 198, 3) := by decide +kernel
theorem dX12_tellers_18 : decode cX12_tellers 18 = .ok (.aload_n 0, 1) := by decide +kernel
theorem dX12_tellers_19 : decode cX12_tellers 19 = .ok (.iconst 1, 1) := by decide +kernel
theorem dX12_tellers_20 : decode cX12_tellers 20 = .ok (.iload_n 3, 1) := by decide +kernel
theorem dX12_tellers_21 : decode cX12_tellers 21 = .ok (.invokevirtual 198, 3) := by decide +kernel
theorem dX12_tellers_24 : decode cX12_tellers 24 = .ok (.iconst 0, 1) := by decide +kernel
theorem dX12_tellers_25 : decode cX12_tellers 25 = .ok (.istore 4, 2) := by decide +kernel
theorem dX12_tellers_27 : decode cX12_tellers 27 = .ok (.iconst 0, 1) := by decide +kernel
theorem dX12_tellers_28 : decode cX12_tellers 28 = .ok (.istore 5, 2) := by decide +kernel
theorem dX12_tellers_30 : decode cX12_tellers 30 = .ok (.iload 5, 2) := by decide +kernel
theorem dX12_tellers_32 : decode cX12_tellers 32 = .ok (.aload_n 0, 1) := by decide +kernel
theorem dX12_tellers_33 : decode cX12_tellers 33 = .ok (.getfield 7, 3) := by decide +kernel
theorem dX12_tellers_36 : decode cX12_tellers 36 = .ok (.iconst 0, 1) := by decide +kernel
theorem dX12_tellers_37 : decode cX12_tellers 37 = .ok (.iaload, 1) := by decide +kernel
theorem dX12_tellers_38 : decode cX12_tellers 38 = .ok (.if_icmp .ge 33, 3) := by decide +kernel
theorem dX12_tellers_41 : decode cX12_tellers 41 = .ok (.iload 4, 2) := by decide +kernel
theorem dX12_tellers_43 : decode cX12_tellers 43 = .ok (.aload_n 0, 1) := by decide +kernel
theorem dX12_tellers_44 : decode cX12_tellers 44 = .ok (.iload_n 1, 1) := by decide +kernel
theorem dX12_tellers_45 : decode cX12_tellers 45 = .ok (.iload_n 2, 1) := by decide +kernel
theorem dX12_tellers_46 : decode cX12_tellers 46 = .ok (.iload 5, 2) := by decide +kernel
theorem dX12_tellers_48 : decode cX12_tellers 48 = .ok (.invokevirtual 334, 3) := by decide +kernel
theorem dX12_tellers_51 : decode cX12_tellers 51 = .ok (.ifCond .eq 10, 3) := by decide +kernel
theorem dX12_tellers_54 : decode cX12_tellers 54 = .ok (.iconst 1, 1) := by decide +kernel
theorem dX12_tellers_55 : decode cX12_tellers 55 = .ok (.iload 5, 2) := by decide +kernel
theorem dX12_tellers_57 : decode cX12_tellers 57 = .ok (.ishl, 1) := by decide +kernel
theorem dX12_tellers_58 : decode cX12_tellers 58 = .ok (.goto 4, 3) := by decide +kernel
theorem dX12_tellers_61 : decode cX12_tellers 61 = .ok (.iconst 0, 1) := by decide +kernel
theorem dX12_tellers_62 : decode cX12_tellers 62 = .ok (.ior, 1) := by decide +kernel
theorem dX12_tellers_63 : decode cX12_tellers 63 = .ok (.istore 4, 2) := by decide +kernel
theorem dX12_tellers_65 : decode cX12_tellers 65 = .ok (.iinc 5 1, 3) := by decide +kernel
theorem dX12_tellers_68 : decode cX12_tellers 68 = .ok (.goto (-38), 3) := by decide +kernel
theorem dX12_tellers_71 : decode cX12_tellers 71 = .ok (.iload 4, 2) := by decide +kernel
theorem dX12_tellers_73 : decode cX12_tellers 73 = .ok (.ireturn, 1) := by decide +kernel
theorem dX12_lied_0 : decode cX12_lied 0 = .ok (.aload_n 0, 1) := by decide +kernel
theorem dX12_lied_1 : decode cX12_lied 1 = .ok (.iload_n 1, 1) := by decide +kernel
theorem dX12_lied_2 : decode cX12_lied 2 = .ok (.iload_n 2, 1) := by decide +kernel
theorem dX12_lied_3 : decode cX12_lied 3 = .ok (.iload_n 3, 1) := by decide +kernel
theorem dX12_lied_4 : decode cX12_lied 4 = .ok (.invokevirtual 449, 3) := by decide +kernel
theorem dX12_lied_7 : decode cX12_lied 7 = .ok (.ifCond .ne 5, 3) := by decide +kernel
theorem dX12_lied_10 : decode cX12_lied 10 = .ok (.iconst (-1), 1) := by decide +kernel
theorem dX12_lied_11 : decode cX12_lied 11 = .ok (.ireturn, 1) := by decide +kernel
theorem dX12_lied_12 : decode cX12_lied 12 = .ok (.aload_n 0, 1) := by decide +kernel
theorem dX12_lied_13 : decode cX12_lied 13 = .ok (.iconst 0, 1) := by decide +kernel
theorem dX12_lied_14 : decode cX12_lied 14 = .ok (.iload_n 3, 1) := by decide +kernel
theorem dX12_lied_15 : decode cX12_lied 15 = .ok (.invokevirtual 198, 3) := by decide +kernel
theorem dX12_lied_18 : decode cX12_lied 18 = .ok (.aload_n 0, 1) := by decide +kernel
theorem dX12_lied_19 : decode cX12_lied 19 = .ok (.iconst 1, 1) := by decide +kernel
theorem dX12_lied_20 : decode cX12_lied 20 = .ok (.iload_n 3, 1) := by decide +kernel
theorem dX12_lied_21 : decode cX12_lied 21 = .ok (.invokevirtual 198, 3) := by decide +kernel
theorem dX12_lied_24 : decode cX12_lied 24 = .ok (.aload_n 0, 1) := by decide +kernel
theorem dX12_lied_25 : decode cX12_lied 25 = .ok (.iload_n 1, 1) := by decide +kernel
theorem dX12_lied_26 : decode cX12_lied 26 = .ok (.iload_n 2, 1) := by decide +kernel
theorem dX12_lied_27 : decode cX12_lied 27 = .ok (.iconst (-1), 1) := by decide +kernel
theorem dX12_lied_28 : decode cX12_lied 28 = .ok (.invokevirtual 334, 3) := by decide +kernel
theorem dX12_lied_31 : decode cX12_lied 31 = .ok (.istore 4, 2) := by decide +kernel
theorem dX12_lied_33 : decode cX12_lied 33 = .ok (.iconst 0, 1) := by decide +kernel
theorem dX12_lied_34 : decode cX12_lied 34 = .ok (.istore 5, 2) := by decide +kernel
theorem dX12_lied_36 : decode cX12_lied 36 = .ok (.iconst 0, 1) := by decide +kernel
theorem dX12_lied_37 : decode cX12_lied 37 = .ok (.istore 6, 2) := by decide +kernel
theorem dX12_lied_39 : decode cX12_lied 39 = .ok (.iload 6, 2) := by decide +kernel
theorem dX12_lied_41 : decode cX12_lied 41 = .ok (.aload_n 0, 1) := by decide +kernel
theorem dX12_lied_42 : decode cX12_lied 42 = .ok (.getfield 7, 3) := by decide +kernel
theorem dX12_lied_45 : decode cX12_lied 45 = .ok (.iconst 0, 1) := by decide +kernel
theorem dX12_lied_46 : decode cX12_lied 46 = .ok (.iaload, 1) := by decide +kernel
theorem dX12_lied_47 : decode cX12_lied 47 = .ok (.if_icmp .ge 42, 3) := by decide +kernel
theorem dX12_lied_50 : decode cX12_lied 50 = .ok (.iload 5, 2) := by decide +kernel
theorem dX12_lied_52 : decode cX12_lied 52 = .ok (.aload_n 0, 1) := by decide +kernel
theorem dX12_lied_53 : decode cX12_lied 53 = .ok (.iload_n 1, 1) := by decide +kernel
theorem dX12_lied_54 : decode cX12_lied 54 = .ok (.iload_n 2, 1) := by decide +kernel
theorem dX12_lied_55 : decode cX12_lied 55 = .ok (.iload 6, 2) := by decide +kernel
theorem dX12_lied_57 : decode cX12_lied 57 = .ok (.invokevirtual 334, 3) := by decide +kernel
theorem dX12_lied_60 : decode cX12_lied 60 = .ok (.iload 4, 2) := by decide +kernel
theorem dX12_lied_62 : decode cX12_lied 62 = .ok (.aload_n 0, 1) := by decide +kernel
theorem dX12_lied_63 : decode cX12_lied 63 = .ok (.iload 6, 2) := by decide +kernel
theorem dX12_lied_65 : decode cX12_lied 65 = .ok (.invokevirtual 201, 3) := by decide +kernel
theorem dX12_lied_68 : decode cX12_lied 68 = .ok (.iand, 1) := by decide +kernel
theorem dX12_lied_69 : decode cX12_lied 69 = .ok (.if_icmp .eq 10, 3) := by decide +kernel
theorem dX12_lied_72 : decode cX12_lied 72 = .ok (.iconst 1, 1) := by decide +kernel
theorem dX12_lied_73 : decode cX12_lied 73 = .ok (.iload 6, 2) := by decide +kernel
theorem dX12_lied_75 : decode cX12_lied 75 = .ok (.ishl, 1) := by decide +kernel
theorem dX12_lied_76 : decode cX12_lied 76 = .ok (.goto 4, 3) := by decide +kernel
theorem dX12_lied_79 : decode cX12_lied 79 = .ok (.iconst 0, 1) := by decide +kernel
theorem dX12_lied_80 : decode cX12_lied 80 = .ok (.ior, 1) := by decide +kernel
theorem dX12_lied_81 : decode cX12_lied 81 = .ok (.istore 5, 2) := by decide +kernel
theorem dX12_lied_83 : decode cX12_lied 83 = .ok (.iinc 6 1, 3) := by decide +kernel
theorem dX12_lied_86 : decode cX12_lied 86 = .ok (.goto (-47), 3) := by decide +kernel
theorem dX12_lied_89 : decode cX12_lied 89 = .ok (.iload 5, 2) := by decide +kernel
theorem dX12_lied_91 : decode cX12_lied 91 = .ok (.ireturn, 1) := by decide +kernel
theorem dX12_alone_0 : decode cX12_alone 0 = .ok (.aload_n 0, 1) := by decide +kernel
theorem dX12_alone_1 : decode cX12_alone 1 = .ok (.iload_n 1, 1) := by decide +kernel
theorem dX12_alone_2 : decode cX12_alone 2 = .ok (.iload_n 2, 1) := by decide +kernel
theorem dX12_alone_3 : decode cX12_alone 3 = .ok (.iload 4, 2) := by decide +kernel
theorem dX12_alone_5 : decode cX12_alone 5 = .ok (.invokevirtual 449, 3) := by decide +kernel
theorem dX12_alone_8 : decode cX12_alone 8 = .ok (.ifCond .eq 11, 3) := by decide +kernel
theorem dX12_alone_11 : decode cX12_alone 11 = .ok (.aload_n 0, 1) := by decide +kernel
theorem dX12_alone_12 : decode cX12_alone 12 = .ok (.iload_n 3, 1) := by decide +kernel
theorem dX12_alone_13 : decode cX12_alone 13 = .ok (.invokevirtual 175, 3) := by decide +kernel
theorem dX12_alone_16 : decode cX12_alone 16 = .ok (.ifCond .ne 5, 3) := by decide +kernel
theorem dX12_alone_19 : decode cX12_alone 19 = .ok (.iconst (-1), 1) := by decide +kernel
theorem dX12_alone_20 : decode cX12_alone 20 = .ok (.ireturn, 1) := by decide +kernel
theorem dX12_alone_21 : decode cX12_alone 21 = .ok (.aload_n 0, 1) := by decide +kernel
theorem dX12_alone_22 : decode cX12_alone 22 = .ok (.iconst 0, 1) := by decide +kernel
theorem dX12_alone_23 : decode cX12_alone 23 = .ok (.iload 4, 2) := by decide +kernel
theorem dX12_alone_25 : decode cX12_alone 25 = .ok (.invokevirtual 198, 3) := by decide +kernel
theorem dX12_alone_28 : decode cX12_alone 28 = .ok (.iconst 0, 1) := by decide +kernel
theorem dX12_alone_29 : decode cX12_alone 29 = .ok (.istore 5, 2) := by decide +kernel
theorem dX12_alone_31 : decode cX12_alone 31 = .ok (.iload 4, 2) := by decide +kernel
theorem dX12_alone_33 : decode cX12_alone 33 = .ok (.istore 6, 2) := by decide +kernel
theorem dX12_alone_35 : decode cX12_alone 35 = .ok (.iload 6, 2) := by decide +kernel
theorem dX12_alone_37 : decode cX12_alone 37 = .ok (.iload 4, 2) := by decide +kernel
theorem dX12_alone_39 : decode cX12_alone 39 = .ok (.bipush 100, 2) := by decide +kernel
theorem dX12_alone_41 : decode cX12_alone 41 = .ok (.iadd, 1) := by decide +kernel
theorem dX12_alone_42 : decode cX12_alone 42 = .ok (.if_icmp .ge 47, 3) := by decide +kernel
theorem dX12_alone_45 : decode cX12_alone 45 = .ok (.iload 6, 2) := by decide +kernel
theorem dX12_alone_47 : decode cX12_alone 47 = .ok (.sipush 999, 3) := by decide +kernel
theorem dX12_alone_50 : decode cX12_alone 50 = .ok (.if_icmp .gt 39, 3) := by decide +kernel
theorem dX12_alone_53 : decode cX12_alone 53 = .ok (.aload_n 0, 1) := by decide +kernel
theorem dX12_alone_54 : decode cX12_alone 54 = .ok (.iconst 1, 1) := by decide +kernel
theorem dX12_alone_55 : decode cX12_alone 55 = .ok (.iload 6, 2) := by decide +kernel
theorem dX12_alone_57 : decode cX12_alone 57 = .ok (.invokevirtual 198, 3) := by decide +kernel
theorem dX12_alone_60 : decode cX12_alone 60 = .ok (.iload 5, 2) := by decide +kernel
theorem dX12_alone_62 : decode cX12_alone 62 = .ok (.aload_n 0, 1) := by decide +kernel
theorem dX12_alone_63 : decode cX12_alone 63 = .ok (.iload_n 1, 1) := by decide +kernel
theorem dX12_alone_64 : decode cX12_alone 64 = .ok (.iload_n 2, 1) := by decide +kernel
theorem dX12_alone_65 : decode cX12_alone 65 = .ok (.iconst (-1), 1) := by decide +kernel
theorem dX12_alone_66 : decode cX12_alone 66 = .ok (.invokevirtual 334, 3) := by decide +kernel
theorem dX12_alone_69 : decode cX12_alone 69 = .ok (.iconst 1, 1) := by decide +kernel
theorem dX12_alone_70 : decode cX12_alone 70 = .ok (.iload_n 3, 1) := by decide +kernel
theorem dX12_alone_71 : decode cX12_alone 71 = .ok (.ishl, 1) := by decide +kernel
theorem dX12_alone_72 : decode cX12_alone 72 = .ok (.if_icmp .ne 7, 3) := by decide +kernel
theorem dX12_alone_75 : decode cX12_alone 75 = .ok (.iconst 1, 1) := by decide +kernel
theorem dX12_alone_76 : decode cX12_alone 76 = .ok (.goto 4, 3) := by decide +kernel
theorem dX12_alone_79 : decode cX12_alone 79 = .ok (.iconst 0, 1) := by decide +kernel
theorem dX12_alone_80 : decode cX12_alone 80 = .ok (.iadd, 1) := by decide +kernel
theorem dX12_alone_81 : decode cX12_alone 81 = .ok (.istore 5, 2) := by decide +kernel
theorem dX12_alone_83 : decode cX12_alone 83 = .ok (.iinc 6 1, 3) := by decide +kernel
theorem dX12_alone_86 : decode cX12_alone 86 = .ok (.goto (-51), 3) := by decide +kernel
theorem dX12_alone_89 : decode cX12_alone 89 = .ok (.iload 5, 2) := by decide +kernel
theorem dX12_alone_91 : decode cX12_alone 91 = .ok (.ireturn, 1) := by decide +kernel
theorem dX12_knownBy_0 : decode cX12_knownBy 0 = .ok (.iload_n 1, 1) := by decide +kernel
theorem dX12_knownBy_1 : decode cX12_knownBy 1 = .ok (.istore_n 2, 1) := by decide +kernel
theorem dX12_knownBy_2 : decode cX12_knownBy 2 = .ok (.iconst 0, 1) := by decide +kernel
theorem dX12_knownBy_3 : decode cX12_knownBy 3 = .ok (.istore_n 3, 1) := by decide +kernel
theorem dX12_knownBy_4 : decode cX12_knownBy 4 = .ok (.iload_n 3, 1) := by decide +kernel
theorem dX12_knownBy_5 : decode cX12_knownBy 5 = .ok (.aload_n 0, 1) := by decide +kernel
theorem dX12_knownBy_6 : decode cX12_knownBy 6 = .ok (.getfield 7, 3) := by decide +kernel
theorem dX12_knownBy_9 : decode cX12_knownBy 9 = .ok (.iconst 0, 1) := by decide +kernel
theorem dX12_knownBy_10 : decode cX12_knownBy 10 = .ok (.iaload, 1) := by decide +kernel
theorem dX12_knownBy_11 : decode cX12_knownBy 11 = .ok (.if_icmp .ge 30, 3) := by decide +kernel
theorem dX12_knownBy_14 : decode cX12_knownBy 14 = .ok (.iload_n 2, 1) := by decide +kernel
theorem dX12_knownBy_15 : decode cX12_knownBy 15 = .ok (.iload_n 1, 1) := by decide +kernel
theorem dX12_knownBy_16 : decode cX12_knownBy 16 = .ok (.iload_n 3, 1) := by decide +kernel
theorem dX12_knownBy_17 : decode cX12_knownBy 17 = .ok (.invokestatic 148, 3) := by decide +kernel
theorem dX12_knownBy_20 : decode cX12_knownBy 20 = .ok (.ifCond .eq 12, 3) := by decide +kernel
theorem dX12_knownBy_23 : decode cX12_knownBy 23 = .ok (.aload_n 0, 1) := by decide +kernel
theorem dX12_knownBy_24 : decode cX12_knownBy 24 = .ok (.getfield 16, 3) := by decide +kernel
theorem dX12_knownBy_27 : decode cX12_knownBy 27 = .ok (.iload_n 3, 1) := by decide +kernel
theorem dX12_knownBy_28 : decode cX12_knownBy 28 = .ok (.iaload, 1) := by decide +kernel
theorem dX12_knownBy_29 : decode cX12_knownBy 29 = .ok (.goto 4, 3) := by decide +kernel
theorem dX12_knownBy_32 : decode cX12_knownBy 32 = .ok (.iconst 0, 1) := by decide +kernel
theorem dX12_knownBy_33 : decode cX12_knownBy 33 = .ok (.ior, 1) := by decide +kernel
theorem dX12_knownBy_34 : decode cX12_knownBy 34 = .ok (.istore_n 2, 1) := by decide +kernel
theorem dX12_knownBy_35 : decode cX12_knownBy 35 = .ok (.iinc 3 1, 3) := by decide +kernel
theorem dX12_knownBy_38 : decode cX12_knownBy 38 = .ok (.goto (-34), 3) := by decide +kernel
theorem dX12_knownBy_41 : decode cX12_knownBy 41 = .ok (.iload_n 2, 1) := by decide +kernel
theorem dX12_knownBy_42 : decode cX12_knownBy 42 = .ok (.ireturn, 1) := by decide +kernel
theorem dX12_chain_0 : decode cX12_chain 0 = .ok (.aload_n 0, 1) := by decide +kernel
theorem dX12_chain_1 : decode cX12_chain 1 = .ok (.iload_n 1, 1) := by decide +kernel
theorem dX12_chain_2 : decode cX12_chain 2 = .ok (.invokevirtual 175, 3) := by decide +kernel
theorem dX12_chain_5 : decode cX12_chain 5 = .ok (.ifCond .eq 11, 3) := by decide +kernel
theorem dX12_chain_8 : decode cX12_chain 8 = .ok (.aload_n 0, 1) := by decide +kernel
theorem dX12_chain_9 : decode cX12_chain 9 = .ok (.iload_n 2, 1) := by decide +kernel
theorem dX12_chain_10 : decode cX12_chain 10 = .ok (.invokevirtual 175, 3) := by decide +kernel
theorem dX12_chain_13 : decode cX12_chain 13 = .ok (.ifCond .ne 5, 3) := by decide +kernel
theorem dX12_chain_16 : decode cX12_chain 16 = .ok (.iconst (-1), 1) := by decide +kernel
theorem dX12_chain_17 : decode cX12_chain 17 = .ok (.ireturn, 1) := by decide +kernel
theorem dX12_chain_18 : decode cX12_chain 18 = .ok (.iconst 1, 1) := by decide +kernel
theorem dX12_chain_19 : decode cX12_chain 19 = .ok (.iload_n 1, 1) := by decide +kernel
theorem dX12_chain_20 : decode cX12_chain 20 = .ok (.ishl, 1) := by decide +kernel
theorem dX12_chain_21 : decode cX12_chain 21 = .ok (.istore_n 3, 1) := by decide +kernel
theorem dX12_chain_22 : decode cX12_chain 22 = .ok (.iconst 0, 1) := by decide +kernel
theorem dX12_chain_23 : decode cX12_chain 23 = .ok (.istore 4, 2) := by decide +kernel
theorem dX12_chain_25 : decode cX12_chain 25 = .ok (.iload 4, 2) := by decide +kernel
theorem dX12_chain_27 : decode cX12_chain 27 = .ok (.bipush 12, 2) := by decide +kernel
theorem dX12_chain_29 : decode cX12_chain 29 = .ok (.if_icmp .gt 26, 3) := by decide +kernel
theorem dX12_chain_32 : decode cX12_chain 32 = .ok (.iload_n 3, 1) := by decide +kernel
theorem dX12_chain_33 : decode cX12_chain 33 = .ok (.iload_n 2, 1) := by decide +kernel
theorem dX12_chain_34 : decode cX12_chain 34 = .ok (.invokestatic 148, 3) := by decide +kernel
theorem dX12_chain_37 : decode cX12_chain 37 = .ok (.ifCond .eq 6, 3) := by decide +kernel
theorem dX12_chain_40 : decode cX12_chain 40 = .ok (.iload 4, 2) := by decide +kernel
theorem dX12_chain_42 : decode cX12_chain 42 = .ok (.ireturn, 1) := by decide +kernel
theorem dX12_chain_43 : decode cX12_chain 43 = .ok (.aload_n 0, 1) := by decide +kernel
theorem dX12_chain_44 : decode cX12_chain 44 = .ok (.iload_n 3, 1) := by decide +kernel
theorem dX12_chain_45 : decode cX12_chain 45 = .ok (.invokevirtual 452, 3) := by decide +kernel
theorem dX12_chain_48 : decode cX12_chain 48 = .ok (.istore_n 3, 1) := by decide +kernel
theorem dX12_chain_49 : decode cX12_chain 49 = .ok (.iinc 4 1, 3) := by decide +kernel
theorem dX12_chain_52 : decode cX12_chain 52 = .ok (.goto (-27), 3) := by decide +kernel
theorem dX12_chain_55 : decode cX12_chain 55 = .ok (.bipush (-2), 2) := by decide +kernel
theorem dX12_chain_57 : decode cX12_chain 57 = .ok (.ireturn, 1) := by decide +kernel
theorem dX12_circle_0 : decode cX12_circle 0 = .ok (.aload_n 0, 1) := by decide +kernel
theorem dX12_circle_1 : decode cX12_circle 1 = .ok (.iload_n 1, 1) := by decide +kernel
theorem dX12_circle_2 : decode cX12_circle 2 = .ok (.invokevirtual 175, 3) := by decide +kernel
theorem dX12_circle_5 : decode cX12_circle 5 = .ok (.ifCond .ne 5, 3) := by decide +kernel
theorem dX12_circle_8 : decode cX12_circle 8 = .ok (.iconst (-1), 1) := by decide +kernel
theorem dX12_circle_9 : decode cX12_circle 9 = .ok (.ireturn, 1) := by decide +kernel
theorem dX12_circle_10 : decode cX12_circle 10 = .ok (.iconst 1, 1) := by decide +kernel
theorem dX12_circle_11 : decode cX12_circle 11 = .ok (.iload_n 1, 1) := by decide +kernel
theorem dX12_circle_12 : decode cX12_circle 12 = .ok (.ishl, 1) := by decide +kernel
theorem dX12_circle_13 : decode cX12_circle 13 = .ok (.istore_n 2, 1) := by decide +kernel
theorem dX12_circle_14 : decode cX12_circle 14 = .ok (.iconst 0, 1) := by decide +kernel
theorem dX12_circle_15 : decode cX12_circle 15 = .ok (.istore_n 3, 1) := by decide +kernel
theorem dX12_circle_16 : decode cX12_circle 16 = .ok (.iload_n 3, 1) := by decide +kernel
theorem dX12_circle_17 : decode cX12_circle 17 = .ok (.bipush 12, 2) := by decide +kernel
theorem dX12_circle_19 : decode cX12_circle 19 = .ok (.if_icmp .ge 15, 3) := by decide +kernel
theorem dX12_circle_22 : decode cX12_circle 22 = .ok (.aload_n 0, 1) := by decide +kernel
theorem dX12_circle_23 : decode cX12_circle 23 = .ok (.iload_n 2, 1) := by decide +kernel
theorem dX12_circle_24 : decode cX12_circle 24 = .ok (.invokevirtual 452, 3) := by decide +kernel
theorem dX12_circle_27 : decode cX12_circle 27 = .ok (.istore_n 2, 1) := by decide +kernel
theorem dX12_circle_28 : decode cX12_circle 28 = .ok (.iinc 3 1, 3) := by decide +kernel
theorem dX12_circle_31 : decode cX12_circle 31 = .ok (.goto (-15), 3) := by decide +kernel
theorem dX12_circle_34 : decode cX12_circle 34 = .ok (.iload_n 2, 1) := by decide +kernel
theorem dX12_circle_35 : decode cX12_circle 35 = .ok (.ireturn, 1) := by decide +kernel
theorem dX12_strangers_0 : decode cX12_strangers 0 = .ok (.iload_n 1, 1) := by decide +kernel
theorem dX12_strangers_1 : decode cX12_strangers 1 = .ok (.invokestatic 170, 3) := by decide +kernel
theorem dX12_strangers_4 : decode cX12_strangers 4 = .ok (.ifCond .ne 5, 3) := by decide +kernel
theorem dX12_strangers_7 : decode cX12_strangers 7 = .ok (.iconst (-1), 1) := by decide +kernel
theorem dX12_strangers_8 : decode cX12_strangers 8 = .ok (.ireturn, 1) := by decide +kernel
theorem dX12_strangers_9 : decode cX12_strangers 9 = .ok (.aload_n 0, 1) := by decide +kernel
theorem dX12_strangers_10 : decode cX12_strangers 10 = .ok (.iconst 1, 1) := by decide +kernel
theorem dX12_strangers_11 : decode cX12_strangers 11 = .ok (.iload_n 1, 1) := by decide +kernel
theorem dX12_strangers_12 : decode cX12_strangers 12 = .ok (.invokevirtual 198, 3) := by decide +kernel
theorem dX12_strangers_15 : decode cX12_strangers 15 = .ok (.iconst 0, 1) := by decide +kernel
theorem dX12_strangers_16 : decode cX12_strangers 16 = .ok (.istore_n 2, 1) := by decide +kernel
theorem dX12_strangers_17 : decode cX12_strangers 17 = .ok (.iconst 0, 1) := by decide +kernel
theorem dX12_strangers_18 : decode cX12_strangers 18 = .ok (.istore_n 3, 1) := by decide +kernel
theorem dX12_strangers_19 : decode cX12_strangers 19 = .ok (.iload_n 3, 1) := by decide +kernel
theorem dX12_strangers_20 : decode cX12_strangers 20 = .ok (.aload_n 0, 1) := by decide +kernel
theorem dX12_strangers_21 : decode cX12_strangers 21 = .ok (.getfield 7, 3) := by decide +kernel
theorem dX12_strangers_24 : decode cX12_strangers 24 = .ok (.iconst 0, 1) := by decide +kernel
theorem dX12_strangers_25 : decode cX12_strangers 25 = .ok (.iaload, 1) := by decide +kernel
theorem dX12_strangers_26 : decode cX12_strangers 26 = .ok (.if_icmp .ge 58, 3) := by decide +kernel
theorem dX12_strangers_29 : decode cX12_strangers 29 = .ok (.iconst 0, 1) := by decide +kernel
theorem dX12_strangers_30 : decode cX12_strangers 30 = .ok (.istore 4, 2) := by decide +kernel
theorem dX12_strangers_32 : decode cX12_strangers 32 = .ok (.iload 4, 2) := by decide +kernel
theorem dX12_strangers_34 : decode cX12_strangers 34 = .ok (.iload_n 3, 1) := by decide +kernel
theorem dX12_strangers_35 : decode cX12_strangers 35 = .ok (.if_icmp .ge 43, 3) := by decide +kernel
theorem dX12_strangers_38 : decode cX12_strangers 38 = .ok (.iload_n 2, 1) := by decide +kernel
theorem dX12_strangers_39 : decode cX12_strangers 39 = .ok (.aload_n 0, 1) := by decide +kernel
theorem dX12_strangers_40 : decode cX12_strangers 40 = .ok (.iload_n 3, 1) := by decide +kernel
theorem dX12_strangers_41 : decode cX12_strangers 41 = .ok (.invokevirtual 201, 3) := by decide +kernel
theorem dX12_strangers_44 : decode cX12_strangers 44 = .ok (.iload 4, 2) := by decide +kernel
theorem dX12_strangers_46 : decode cX12_strangers 46 = .ok (.invokestatic 148, 3) := by decide +kernel
theorem dX12_strangers_49 : decode cX12_strangers 49 = .ok (.ifCond .ne 16, 3) := by decide +kernel
theorem dX12_strangers_52 : decode cX12_strangers 52 = .ok (.aload_n 0, 1) := by decide +kernel
theorem dX12_strangers_53 : decode cX12_strangers 53 = .ok (.iload 4, 2) := by decide +kernel
theorem dX12_strangers_55 : decode cX12_strangers 55 = .ok (.invokevirtual 201, 3) := by decide +kernel
theorem dX12_strangers_58 : decode cX12_strangers 58 = .ok (.iload_n 3, 1) := by decide +kernel
theorem dX12_strangers_59 : decode cX12_strangers 59 = .ok (.invokestatic 148, 3) := by decide +kernel
theorem dX12_strangers_62 : decode cX12_strangers 62 = .ok (.ifCond .eq 7, 3) := by decide +kernel
theorem dX12_strangers_65 : decode cX12_strangers 65 = .ok (.iconst 0, 1) := by decide +kernel
theorem dX12_strangers_66 : decode cX12_strangers 66 = .ok (.goto 4, 3) := by decide +kernel
theorem dX12_strangers_69 : decode cX12_strangers 69 = .ok (.iconst 1, 1) := by decide +kernel
theorem dX12_strangers_70 : decode cX12_strangers 70 = .ok (.iadd, 1) := by decide +kernel
theorem dX12_strangers_71 : decode cX12_strangers 71 = .ok (.istore_n 2, 1) := by decide +kernel
theorem dX12_strangers_72 : decode cX12_strangers 72 = .ok (.iinc 4 1, 3) := by decide +kernel
theorem dX12_strangers_75 : decode cX12_strangers 75 = .ok (.goto (-43), 3) := by decide +kernel
theorem dX12_strangers_78 : decode cX12_strangers 78 = .ok (.iinc 3 1, 3) := by decide +kernel
theorem dX12_strangers_81 : decode cX12_strangers 81 = .ok (.goto (-62), 3) := by decide +kernel
theorem dX12_strangers_84 : decode cX12_strangers 84 = .ok (.iload_n 2, 1) := by decide +kernel
theorem dX12_strangers_85 : decode cX12_strangers 85 = .ok (.ireturn, 1) := by decide +kernel
theorem dX12_copies_0 : decode cX12_copies 0 = .ok (.aload_n 0, 1) := by decide +kernel
theorem dX12_copies_1 : decode cX12_copies 1 = .ok (.iload_n 1, 1) := by decide +kernel
theorem dX12_copies_2 : decode cX12_copies 2 = .ok (.iload_n 2, 1) := by decide +kernel
theorem dX12_copies_3 : decode cX12_copies 3 = .ok (.iload 4, 2) := by decide +kernel
theorem dX12_copies_5 : decode cX12_copies 5 = .ok (.iload 6, 2) := by decide +kernel
theorem dX12_copies_7 : decode cX12_copies 7 = .ok (.invokevirtual 416, 3) := by decide +kernel
theorem dX12_copies_10 : decode cX12_copies 10 = .ok (.ifCond .eq 35, 3) := by decide +kernel
theorem dX12_copies_13 : decode cX12_copies 13 = .ok (.iload 5, 2) := by decide +kernel
theorem dX12_copies_15 : decode cX12_copies 15 = .ok (.invokestatic 160, 3) := by decide +kernel
theorem dX12_copies_18 : decode cX12_copies 18 = .ok (.ifCond .eq 27, 3) := by decide +kernel
theorem dX12_copies_21 : decode cX12_copies 21 = .ok (.aload_n 0, 1) := by decide +kernel
theorem dX12_copies_22 : decode cX12_copies 22 = .ok (.iload_n 3, 1) := by decide +kernel
theorem dX12_copies_23 : decode cX12_copies 23 = .ok (.invokevirtual 175, 3) := by decide +kernel
theorem dX12_copies_26 : decode cX12_copies 26 = .ok (.ifCond .eq 19, 3) := by decide +kernel
theorem dX12_copies_29 : decode cX12_copies 29 = .ok (.iload_n 3, 1) := by decide +kernel
theorem dX12_copies_30 : decode cX12_copies 30 = .ok (.iload_n 1, 1) := by decide +kernel
theorem dX12_copies_31 : decode cX12_copies 31 = .ok (.if_icmp .eq 14, 3) := by decide +kernel
theorem dX12_copies_34 : decode cX12_copies 34 = .ok (.iload 7, 2) := by decide +kernel
theorem dX12_copies_36 : decode cX12_copies 36 = .ok (.i2l, 1) := by decide +kernel
theorem dX12_copies_37 : decode cX12_copies 37 = .ok (.lconst 0, 1) := by decide +kernel
theorem dX12_copies_38 : decode cX12_copies 38 = .ok (.lconst 1, 1) := by decide +kernel
theorem dX12_copies_39 : decode cX12_copies 39 = .ok (.invokestatic 154, 3) := by decide +kernel
theorem dX12_copies_42 : decode cX12_copies 42 = .ok (.ifCond .ne 5, 3) := by decide +kernel
theorem dX12_copies_45 : decode cX12_copies 45 = .ok (.iconst (-1), 1) := by decide +kernel
theorem dX12_copies_46 : decode cX12_copies 46 = .ok (.ireturn, 1) := by decide +kernel
theorem dX12_copies_47 : decode cX12_copies 47 = .ok (.aload_n 0, 1) := by decide +kernel
theorem dX12_copies_48 : decode cX12_copies 48 = .ok (.iload_n 1, 1) := by decide +kernel
theorem dX12_copies_49 : decode cX12_copies 49 = .ok (.iload_n 2, 1) := by decide +kernel
theorem dX12_copies_50 : decode cX12_copies 50 = .ok (.iload_n 3, 1) := by decide +kernel
theorem dX12_copies_51 : decode cX12_copies 51 = .ok (.iload 4, 2) := by decide +kernel
theorem dX12_copies_53 : decode cX12_copies 53 = .ok (.iload 6, 2) := by decide +kernel
theorem dX12_copies_55 : decode cX12_copies 55 = .ok (.invokevirtual 433, 3) := by decide +kernel
theorem dX12_copies_58 : decode cX12_copies 58 = .ok (.ifCond .eq 10, 3) := by decide +kernel
theorem dX12_copies_61 : decode cX12_copies 61 = .ok (.aload_n 0, 1) := by decide +kernel
theorem dX12_copies_62 : decode cX12_copies 62 = .ok (.getfield 407, 3) := by decide +kernel
theorem dX12_copies_65 : decode cX12_copies 65 = .ok (.goto 6, 3) := by decide +kernel
theorem dX12_copies_68 : decode cX12_copies 68 = .ok (.sipush 1000, 3) := by decide +kernel
theorem dX12_copies_71 : decode cX12_copies 71 = .ok (.istore 8, 2) := by decide +kernel
theorem dX12_copies_73 : decode cX12_copies 73 = .ok (.aload_n 0, 1) := by decide +kernel
theorem dX12_copies_74 : decode cX12_copies 74 = .ok (.iload_n 1, 1) := by decide +kernel
theorem dX12_copies_75 : decode cX12_copies 75 = .ok (.iload_n 2, 1) := by decide +kernel
theorem dX12_copies_76 : decode cX12_copies 76 = .ok (.iload_n 3, 1) := by decide +kernel
theorem dX12_copies_77 : decode cX12_copies 77 = .ok (.iload 5, 2) := by decide +kernel
theorem dX12_copies_79 : decode cX12_copies 79 = .ok (.iload 6, 2) := by decide +kernel
theorem dX12_copies_81 : decode cX12_copies 81 = .ok (.invokevirtual 433, 3) := by decide +kernel
theorem dX12_copies_84 : decode cX12_copies 84 = .ok (.ifCond .eq 10, 3) := by decide +kernel
theorem dX12_copies_87 : decode cX12_copies 87 = .ok (.aload_n 0, 1) := by decide +kernel
theorem dX12_copies_88 : decode cX12_copies 88 = .ok (.getfield 407, 3) := by decide +kernel
theorem dX12_copies_91 : decode cX12_copies 91 = .ok (.goto 6, 3) := by decide +kernel
theorem dX12_copies_94 : decode cX12_copies 94 = .ok (.sipush 1000, 3) := by decide +kernel
theorem dX12_copies_97 : decode cX12_copies 97 = .ok (.istore 9, 2) := by decide +kernel
theorem dX12_copies_99 : decode cX12_copies 99 = .ok (.iload 8, 2) := by decide +kernel
theorem dX12_copies_101 : decode cX12_copies 101 = .ok (.iload 9, 2) := by decide +kernel
theorem dX12_copies_103 : decode cX12_copies 103 = .ok (.if_icmp .ge 8, 3) := by decide +kernel
theorem dX12_copies_106 : decode cX12_copies 106 = .ok (.iload 8, 2) := by decide +kernel
theorem dX12_copies_108 : decode cX12_copies 108 = .ok (.goto 5, 3) := by decide +kernel
theorem dX12_copies_111 : decode cX12_copies 111 = .ok (.iload 9, 2) := by decide +kernel
theorem dX12_copies_113 : decode cX12_copies 113 = .ok (.istore 10, 2) := by decide +kernel
theorem dX12_copies_115 : decode cX12_copies 115 = .ok (.iload 10, 2) := by decide +kernel
theorem dX12_copies_117 : decode cX12_copies 117 = .ok (.sipush 999, 3) := by decide +kernel
theorem dX12_copies_120 : decode cX12_copies 120 = .ok (.if_icmp .le 6, 3) := by decide +kernel
theorem dX12_copies_123 : decode cX12_copies 123 = .ok (.bipush (-2), 2) := by decide +kernel
theorem dX12_copies_125 : decode cX12_copies 125 = .ok (.ireturn, 1) := by decide +kernel
theorem dX12_copies_126 : decode cX12_copies 126 = .ok (.iload 7, 2) := by decide +kernel
theorem dX12_copies_128 : decode cX12_copies 128 = .ok (.iconst 1, 1) := by decide +kernel
theorem dX12_copies_129 : decode cX12_copies 129 = .ok (.if_icmp .ne 8, 3) := by decide +kernel
theorem dX12_copies_132 : decode cX12_copies 132 = .ok (.iload 10, 2) := by decide +kernel
theorem dX12_copies_134 : decode cX12_copies 134 = .ok (.goto 26, 3) := by decide +kernel
theorem dX12_copies_137 : decode cX12_copies 137 = .ok (.iload 8, 2) := by decide +kernel
theorem dX12_copies_139 : decode cX12_copies 139 = .ok (.iload 9, 2) := by decide +kernel
theorem dX12_copies_141 : decode cX12_copies 141 = .ok (.if_icmp .ne 7, 3) := by decide +kernel
theorem dX12_copies_144 : decode cX12_copies 144 = .ok (.iconst 2, 1) := by decide +kernel
theorem dX12_copies_145 : decode cX12_copies 145 = .ok (.goto 15, 3) := by decide +kernel
theorem dX12_copies_148 : decode cX12_copies 148 = .ok (.iload 8, 2) := by decide +kernel
theorem dX12_copies_150 : decode cX12_copies 150 = .ok (.iload 9, 2) := by decide +kernel
theorem dX12_copies_152 : decode cX12_copies 152 = .ok (.if_icmp .ge 7, 3) := by decide +kernel
theorem dX12_copies_155 : decode cX12_copies 155 = .ok (.iconst 0, 1) := by decide +kernel
theorem dX12_copies_156 : decode cX12_copies 156 = .ok (.goto 4, 3) := by decide +kernel
theorem dX12_copies_159 : decode cX12_copies 159 = .ok (.iconst 1, 1) := by decide +kernel
theorem dX12_copies_160 : decode cX12_copies 160 = .ok (.ireturn, 1) := by decide +kernel
theorem dX12_often_0 : decode cX12_often 0 = .ok (.bipush (-2), 2) := by decide +kernel
theorem dX12_often_2 : decode cX12_often 2 = .ok (.istore_n 1, 1) := by decide +kernel
theorem dX12_often_3 : decode cX12_often 3 = .ok (.iconst 0, 1) := by decide +kernel
theorem dX12_often_4 : decode cX12_often 4 = .ok (.istore_n 2, 1) := by decide +kernel
theorem dX12_often_5 : decode cX12_often 5 = .ok (.iconst 0, 1) := by decide +kernel
theorem dX12_often_6 : decode cX12_often 6 = .ok (.istore_n 3, 1) := by decide +kernel
theorem dX12_often_7 : decode cX12_often 7 = .ok (.iload_n 3, 1) := by decide +kernel
theorem dX12_often_8 : decode cX12_often 8 = .ok (.aload_n 0, 1) := by decide +kernel
theorem dX12_often_9 : decode cX12_often 9 = .ok (.getfield 7, 3) := by decide +kernel
theorem dX12_often_12 : decode cX12_often 12 = .ok (.iconst 0, 1) := by decide +kernel
theorem dX12_often_13 : decode cX12_often 13 = .ok (.iaload, 1) := by decide +kernel
theorem dX12_often_14 : decode cX12_often 14 = .ok (.if_icmp .ge 89, 3) := by decide +kernel
theorem dX12_often_17 : decode cX12_often 17 = .ok (.iconst 0, 1) := by decide +kernel
theorem dX12_often_18 : decode cX12_often 18 = .ok (.istore 4, 2) := by decide +kernel
theorem dX12_often_20 : decode cX12_often 20 = .ok (.iconst 0, 1) := by decide +kernel
theorem dX12_often_21 : decode cX12_often 21 = .ok (.istore 5, 2) := by decide +kernel
theorem dX12_often_23 : decode cX12_often 23 = .ok (.iload 5, 2) := by decide +kernel
theorem dX12_often_25 : decode cX12_often 25 = .ok (.aload_n 0, 1) := by decide +kernel
theorem dX12_often_26 : decode cX12_often 26 = .ok (.getfield 7, 3) := by decide +kernel
theorem dX12_often_29 : decode cX12_often 29 = .ok (.iconst 3, 1) := by decide +kernel
theorem dX12_often_30 : decode cX12_often 30 = .ok (.iaload, 1) := by decide +kernel
theorem dX12_often_31 : decode cX12_often 31 = .ok (.if_icmp .ge 41, 3) := by decide +kernel
theorem dX12_often_34 : decode cX12_often 34 = .ok (.iload 4, 2) := by decide +kernel
theorem dX12_often_36 : decode cX12_often 36 = .ok (.aload_n 0, 1) := by decide +kernel
theorem dX12_often_37 : decode cX12_often 37 = .ok (.getfield 64, 3) := by decide +kernel
theorem dX12_often_40 : decode cX12_often 40 = .ok (.iload 5, 2) := by decide +kernel
theorem dX12_often_42 : decode cX12_often 42 = .ok (.iaload, 1) := by decide +kernel
theorem dX12_often_43 : decode cX12_often 43 = .ok (.iconst 1, 1) := by decide +kernel
theorem dX12_often_44 : decode cX12_often 44 = .ok (.if_icmp .ne 18, 3) := by decide +kernel
theorem dX12_often_47 : decode cX12_often 47 = .ok (.aload_n 0, 1) := by decide +kernel
theorem dX12_often_48 : decode cX12_often 48 = .ok (.getfield 73, 3) := by decide +kernel
theorem dX12_often_51 : decode cX12_often 51 = .ok (.iload 5, 2) := by decide +kernel
theorem dX12_often_53 : decode cX12_often 53 = .ok (.iaload, 1) := by decide +kernel
theorem dX12_often_54 : decode cX12_often 54 = .ok (.iload_n 3, 1) := by decide +kernel
theorem dX12_often_55 : decode cX12_often 55 = .ok (.if_icmp .ne 7, 3) := by decide +kernel
theorem dX12_often_58 : decode cX12_often 58 = .ok (.iconst 1, 1) := by decide +kernel
theorem dX12_often_59 : decode cX12_often 59 = .ok (.goto 4, 3) := by decide +kernel
theorem dX12_often_62 : decode cX12_often 62 = .ok (.iconst 0, 1) := by decide +kernel
theorem dX12_often_63 : decode cX12_often 63 = .ok (.iadd, 1) := by decide +kernel
theorem dX12_often_64 : decode cX12_often 64 = .ok (.istore 4, 2) := by decide +kernel
theorem dX12_often_66 : decode cX12_often 66 = .ok (.iinc 5 1, 3) := by decide +kernel
theorem dX12_often_69 : decode cX12_often 69 = .ok (.goto (-46), 3) := by decide +kernel
theorem dX12_often_72 : decode cX12_often 72 = .ok (.iload 4, 2) := by decide +kernel
theorem dX12_often_74 : decode cX12_often 74 = .ok (.iload_n 2, 1) := by decide +kernel
theorem dX12_often_75 : decode cX12_often 75 = .ok (.if_icmp .le 7, 3) := by decide +kernel
theorem dX12_often_78 : decode cX12_often 78 = .ok (.iload_n 3, 1) := by decide +kernel
theorem dX12_often_79 : decode cX12_often 79 = .ok (.goto 4, 3) := by decide +kernel
theorem dX12_often_82 : decode cX12_often 82 = .ok (.iload_n 1, 1) := by decide +kernel
theorem dX12_often_83 : decode cX12_often 83 = .ok (.istore_n 1, 1) := by decide +kernel
theorem dX12_often_84 : decode cX12_often 84 = .ok (.iload 4, 2) := by decide +kernel
theorem dX12_often_86 : decode cX12_often 86 = .ok (.iload_n 2, 1) := by decide +kernel
theorem dX12_often_87 : decode cX12_often 87 = .ok (.if_icmp .le 8, 3) := by decide +kernel
theorem dX12_often_90 : decode cX12_often 90 = .ok (.iload 4, 2) := by decide +kernel
theorem dX12_often_92 : decode cX12_often 92 = .ok (.goto 4, 3) := by decide +kernel
theorem dX12_often_95 : decode cX12_often 95 = .ok (.iload_n 2, 1) := by decide +kernel
theorem dX12_often_96 : decode cX12_often 96 = .ok (.istore_n 2, 1) := by decide +kernel
theorem dX12_often_97 : decode cX12_often 97 = .ok (.iinc 3 1, 3) := by decide +kernel
theorem dX12_often_100 : decode cX12_often 100 = .ok (.goto (-93), 3) := by decide +kernel
theorem dX12_often_103 : decode cX12_often 103 = .ok (.iload_n 1, 1) := by decide +kernel
theorem dX12_often_104 : decode cX12_often 104 = .ok (.ireturn, 1) := by decide +kernel
theorem dX12_count_0 : decode cX12_count 0 = .ok (.iconst 0, 1) := by decide +kernel
theorem dX12_count_1 : decode cX12_count 1 = .ok (.istore_n 2, 1) := by decide +kernel
theorem dX12_count_2 : decode cX12_count 2 = .ok (.iconst 0, 1) := by decide +kernel
theorem dX12_count_3 : decode cX12_count 3 = .ok (.istore_n 3, 1) := by decide +kernel
theorem dX12_count_4 : decode cX12_count 4 = .ok (.iload_n 3, 1) := by decide +kernel
theorem dX12_count_5 : decode cX12_count 5 = .ok (.aload_n 0, 1) := by decide +kernel
theorem dX12_count_6 : decode cX12_count 6 = .ok (.getfield 7, 3) := by decide +kernel
theorem dX12_count_9 : decode cX12_count 9 = .ok (.iconst 3, 1) := by decide +kernel
theorem dX12_count_10 : decode cX12_count 10 = .ok (.iaload, 1) := by decide +kernel
theorem dX12_count_11 : decode cX12_count 11 = .ok (.if_icmp .ge 25, 3) := by decide +kernel
theorem dX12_count_14 : decode cX12_count 14 = .ok (.iload_n 2, 1) := by decide +kernel
theorem dX12_count_15 : decode cX12_count 15 = .ok (.aload_n 0, 1) := by decide +kernel
theorem dX12_count_16 : decode cX12_count 16 = .ok (.iload_n 3, 1) := by decide +kernel
theorem dX12_count_17 : decode cX12_count 17 = .ok (.invokevirtual 366, 3) := by decide +kernel
theorem dX12_count_20 : decode cX12_count 20 = .ok (.ifCond .eq 7, 3) := by decide +kernel
theorem dX12_count_23 : decode cX12_count 23 = .ok (.iconst 1, 1) := by decide +kernel
theorem dX12_count_24 : decode cX12_count 24 = .ok (.goto 4, 3) := by decide +kernel
theorem dX12_count_27 : decode cX12_count 27 = .ok (.iconst 0, 1) := by decide +kernel
theorem dX12_count_28 : decode cX12_count 28 = .ok (.iadd, 1) := by decide +kernel
theorem dX12_count_29 : decode cX12_count 29 = .ok (.istore_n 2, 1) := by decide +kernel
theorem dX12_count_30 : decode cX12_count 30 = .ok (.iinc 3 1, 3) := by decide +kernel
theorem dX12_count_33 : decode cX12_count 33 = .ok (.goto (-29), 3) := by decide +kernel
theorem dX12_count_36 : decode cX12_count 36 = .ok (.iload_n 1, 1) := by decide +kernel
theorem dX12_count_37 : decode cX12_count 37 = .ok (.tableswitch 114 0 9 #[55, 62, 69, 76, 81, 88, 93, 95, 102, 109], 55) := by decide +kernel
theorem dX12_count_92 : decode cX12_count 92 = .ok (.aload_n 0, 1) := by decide +kernel
theorem dX12_count_93 : decode cX12_count 93 = .ok (.getfield 7, 3) := by decide +kernel
theorem dX12_count_96 : decode cX12_count 96 = .ok (.iconst 0, 1) := by decide +kernel
theorem dX12_count_97 : decode cX12_count 97 = .ok (.iaload, 1) := by decide +kernel
theorem dX12_count_98 : decode cX12_count 98 = .ok (.ireturn, 1) := by decide +kernel
theorem dX12_count_99 : decode cX12_count 99 = .ok (.aload_n 0, 1) := by decide +kernel
theorem dX12_count_100 : decode cX12_count 100 = .ok (.getfield 7, 3) := by decide +kernel
theorem dX12_count_103 : decode cX12_count 103 = .ok (.iconst 1, 1) := by decide +kernel
theorem dX12_count_104 : decode cX12_count 104 = .ok (.iaload, 1) := by decide +kernel
theorem dX12_count_105 : decode cX12_count 105 = .ok (.ireturn, 1) := by decide +kernel
theorem dX12_count_106 : decode cX12_count 106 = .ok (.aload_n 0, 1) := by decide +kernel
theorem dX12_count_107 : decode cX12_count 107 = .ok (.getfield 7, 3) := by decide +kernel
theorem dX12_count_110 : decode cX12_count 110 = .ok (.iconst 2, 1) := by decide +kernel
theorem dX12_count_111 : decode cX12_count 111 = .ok (.iaload, 1) := by decide +kernel
theorem dX12_count_112 : decode cX12_count 112 = .ok (.ireturn, 1) := by decide +kernel
theorem dX12_count_113 : decode cX12_count 113 = .ok (.aload_n 0, 1) := by decide +kernel
theorem dX12_count_114 : decode cX12_count 114 = .ok (.getfield 309, 3) := by decide +kernel
theorem dX12_count_117 : decode cX12_count 117 = .ok (.ireturn, 1) := by decide +kernel
theorem dX12_count_118 : decode cX12_count 118 = .ok (.aload_n 0, 1) := by decide +kernel
theorem dX12_count_119 : decode cX12_count 119 = .ok (.getfield 7, 3) := by decide +kernel
theorem dX12_count_122 : decode cX12_count 122 = .ok (.iconst 3, 1) := by decide +kernel
theorem dX12_count_123 : decode cX12_count 123 = .ok (.iaload, 1) := by decide +kernel
theorem dX12_count_124 : decode cX12_count 124 = .ok (.ireturn, 1) := by decide +kernel
theorem dX12_count_125 : decode cX12_count 125 = .ok (.aload_n 0, 1) := by decide +kernel
theorem dX12_count_126 : decode cX12_count 126 = .ok (.invokevirtual 363, 3) := by decide +kernel
theorem dX12_count_129 : decode cX12_count 129 = .ok (.ireturn, 1) := by decide +kernel
theorem dX12_count_130 : decode cX12_count 130 = .ok (.iload_n 2, 1) := by decide +kernel
theorem dX12_count_131 : decode cX12_count 131 = .ok (.ireturn, 1) := by decide +kernel
theorem dX12_count_132 : decode cX12_count 132 = .ok (.aload_n 0, 1) := by decide +kernel
theorem dX12_count_133 : decode cX12_count 133 = .ok (.getfield 7, 3) := by decide +kernel
theorem dX12_count_136 : decode cX12_count 136 = .ok (.iconst 5, 1) := by decide +kernel
theorem dX12_count_137 : decode cX12_count 137 = .ok (.iaload, 1) := by decide +kernel
theorem dX12_count_138 : decode cX12_count 138 = .ok (.ireturn, 1) := by decide +kernel
theorem dX12_count_139 : decode cX12_count 139 = .ok (.aload_n 0, 1) := by decide +kernel
theorem dX12_count_140 : decode cX12_count 140 = .ok (.getfield 7, 3) := by decide +kernel
theorem dX12_count_143 : decode cX12_count 143 = .ok (.iconst 4, 1) := by decide +kernel
theorem dX12_count_144 : decode cX12_count 144 = .ok (.iaload, 1) := by decide +kernel
theorem dX12_count_145 : decode cX12_count 145 = .ok (.ireturn, 1) := by decide +kernel
theorem dX12_count_146 : decode cX12_count 146 = .ok (.aload_n 0, 1) := by decide +kernel
theorem dX12_count_147 : decode cX12_count 147 = .ok (.getfield 209, 3) := by decide +kernel
theorem dX12_count_150 : decode cX12_count 150 = .ok (.ireturn, 1) := by decide +kernel
theorem dX12_count_151 : decode cX12_count 151 = .ok (.iconst (-1), 1) := by decide +kernel
theorem dX12_count_152 : decode cX12_count 152 = .ok (.ireturn, 1) := by decide +kernel
theorem dX12_carry_0 : decode cX12_carry 0 = .ok (.iconst 0, 1) := by decide +kernel
theorem dX12_carry_1 : decode cX12_carry 1 = .ok (.istore_n 2, 1) := by decide +kernel
theorem dX12_carry_2 : decode cX12_carry 2 = .ok (.iload_n 2, 1) := by decide +kernel
theorem dX12_carry_3 : decode cX12_carry 3 = .ok (.aload_n 1, 1) := by decide +kernel
theorem dX12_carry_4 : decode cX12_carry 4 = .ok (.arraylength, 1) := by decide +kernel
theorem dX12_carry_5 : decode cX12_carry 5 = .ok (.if_icmp .ge 53, 3) := by decide +kernel
theorem dX12_carry_8 : decode cX12_carry 8 = .ok (.aload_n 0, 1) := by decide +kernel
theorem dX12_carry_9 : decode cX12_carry 9 = .ok (.getfield 455, 3) := by decide +kernel
theorem dX12_carry_12 : decode cX12_carry 12 = .ok (.ifCond .eq 18, 3) := by decide +kernel
theorem dX12_carry_15 : decode cX12_carry 15 = .ok (.aload_n 1, 1) := by decide +kernel
theorem dX12_carry_16 : decode cX12_carry 16 = .ok (.iload_n 2, 1) := by decide +kernel
theorem dX12_carry_17 : decode cX12_carry 17 = .ok (.aload_n 0, 1) := by decide +kernel
theorem dX12_carry_18 : decode cX12_carry 18 = .ok (.getfield 138, 3) := by decide +kernel
theorem dX12_carry_21 : decode cX12_carry 21 = .ok (.aload_n 0, 1) := by decide +kernel
theorem dX12_carry_22 : decode cX12_carry 22 = .ok (.getfield 459, 3) := by decide +kernel
theorem dX12_carry_25 : decode cX12_carry 25 = .ok (.iaload, 1) := by decide +kernel
theorem dX12_carry_26 : decode cX12_carry 26 = .ok (.iastore, 1) := by decide +kernel
theorem dX12_carry_27 : decode cX12_carry 27 = .ok (.goto 15, 3) := by decide +kernel
theorem dX12_carry_30 : decode cX12_carry 30 = .ok (.aload_n 0, 1) := by decide +kernel
theorem dX12_carry_31 : decode cX12_carry 31 = .ok (.getfield 138, 3) := by decide +kernel
theorem dX12_carry_34 : decode cX12_carry 34 = .ok (.aload_n 0, 1) := by decide +kernel
theorem dX12_carry_35 : decode cX12_carry 35 = .ok (.getfield 459, 3) := by decide +kernel
theorem dX12_carry_38 : decode cX12_carry 38 = .ok (.aload_n 1, 1) := by decide +kernel
theorem dX12_carry_39 : decode cX12_carry 39 = .ok (.iload_n 2, 1) := by decide +kernel
theorem dX12_carry_40 : decode cX12_carry 40 = .ok (.iaload, 1) := by decide +kernel
theorem dX12_carry_41 : decode cX12_carry 41 = .ok (.iastore, 1) := by decide +kernel
theorem dX12_carry_42 : decode cX12_carry 42 = .ok (.aload_n 0, 1) := by decide +kernel
theorem dX12_carry_43 : decode cX12_carry 43 = .ok (.dup, 1) := by decide +kernel
theorem dX12_carry_44 : decode cX12_carry 44 = .ok (.getfield 459, 3) := by decide +kernel
theorem dX12_carry_47 : decode cX12_carry 47 = .ok (.iconst 1, 1) := by decide +kernel
theorem dX12_carry_48 : decode cX12_carry 48 = .ok (.iadd, 1) := by decide +kernel
theorem dX12_carry_49 : decode cX12_carry 49 = .ok (.putfield 459, 3) := by decide +kernel
theorem dX12_carry_52 : decode cX12_carry 52 = .ok (.iinc 2 1, 3) := by decide +kernel
theorem dX12_carry_55 : decode cX12_carry 55 = .ok (.goto (-53), 3) := by decide +kernel
theorem dX12_carry_58 : decode cX12_carry 58 = .ok (.return_, 1) := by decide +kernel
theorem dX12_carriesAll_0 : decode cX12_carriesAll 0 = .ok (.aload_n 0, 1) := by decide +kernel
theorem dX12_carriesAll_1 : decode cX12_carriesAll 1 = .ok (.sipush 570, 3) := by decide +kernel
theorem dX12_carriesAll_4 : decode cX12_carriesAll 4 = .ok (.iload_n 1, 1) := by decide +kernel
theorem dX12_carriesAll_5 : decode cX12_carriesAll 5 = .ok (.imul, 1) := by decide +kernel
theorem dX12_carriesAll_6 : decode cX12_carriesAll 6 = .ok (.putfield 459, 3) := by decide +kernel
theorem dX12_carriesAll_9 : decode cX12_carriesAll 9 = .ok (.aload_n 0, 1) := by decide +kernel
theorem dX12_carriesAll_10 : decode cX12_carriesAll 10 = .ok (.iload_n 2, 1) := by decide +kernel
theorem dX12_carriesAll_11 : decode cX12_carriesAll 11 = .ok (.putfield 455, 3) := by decide +kernel
theorem dX12_carriesAll_14 : decode cX12_carriesAll 14 = .ok (.aload_n 0, 1) := by decide +kernel
theorem dX12_carriesAll_15 : decode cX12_carriesAll 15 = .ok (.aload_n 0, 1) := by decide +kernel
theorem dX12_carriesAll_16 : decode cX12_carriesAll 16 = .ok (.getfield 7, 3) := by decide +kernel
theorem dX12_carriesAll_19 : decode cX12_carriesAll 19 = .ok (.invokevirtual 462, 3) := by decide +kernel
theorem dX12_carriesAll_22 : decode cX12_carriesAll 22 = .ok (.aload_n 0, 1) := by decide +kernel
theorem dX12_carriesAll_23 : decode cX12_carriesAll 23 = .ok (.aload_n 0, 1) := by decide +kernel
theorem dX12_carriesAll_24 : decode cX12_carriesAll 24 = .ok (.getfield 13, 3) := by decide +kernel
theorem dX12_carriesAll_27 : decode cX12_carriesAll 27 = .ok (.invokevirtual 462, 3) := by decide +kernel
theorem dX12_carriesAll_30 : decode cX12_carriesAll 30 = .ok (.aload_n 0, 1) := by decide +kernel
theorem dX12_carriesAll_31 : decode cX12_carriesAll 31 = .ok (.aload_n 0, 1) := by decide +kernel
theorem dX12_carriesAll_32 : decode cX12_carriesAll 32 = .ok (.getfield 16, 3) := by decide +kernel
theorem dX12_carriesAll_35 : decode cX12_carriesAll 35 = .ok (.invokevirtual 462, 3) := by decide +kernel
theorem dX12_carriesAll_38 : decode cX12_carriesAll 38 = .ok (.aload_n 0, 1) := by decide +kernel
theorem dX12_carriesAll_39 : decode cX12_carriesAll 39 = .ok (.aload_n 0, 1) := by decide +kernel
theorem dX12_carriesAll_40 : decode cX12_carriesAll 40 = .ok (.getfield 19, 3) := by decide +kernel
theorem dX12_carriesAll_43 : decode cX12_carriesAll 43 = .ok (.invokevirtual 462, 3) := by decide +kernel
theorem dX12_carriesAll_46 : decode cX12_carriesAll 46 = .ok (.aload_n 0, 1) := by decide +kernel
theorem dX12_carriesAll_47 : decode cX12_carriesAll 47 = .ok (.aload_n 0, 1) := by decide +kernel
theorem dX12_carriesAll_48 : decode cX12_carriesAll 48 = .ok (.getfield 22, 3) := by decide +kernel
theorem dX12_carriesAll_51 : decode cX12_carriesAll 51 = .ok (.invokevirtual 462, 3) := by decide +kernel
theorem dX12_carriesAll_54 : decode cX12_carriesAll 54 = .ok (.aload_n 0, 1) := by decide +kernel
theorem dX12_carriesAll_55 : decode cX12_carriesAll 55 = .ok (.aload_n 0, 1) := by decide +kernel
theorem dX12_carriesAll_56 : decode cX12_carriesAll 56 = .ok (.getfield 25, 3) := by decide +kernel
theorem dX12_carriesAll_59 : decode cX12_carriesAll 59 = .ok (.invokevirtual 462, 3) := by decide +kernel
theorem dX12_carriesAll_62 : decode cX12_carriesAll 62 = .ok (.aload_n 0, 1) := by decide +kernel
theorem dX12_carriesAll_63 : decode cX12_carriesAll 63 = .ok (.aload_n 0, 1) := by decide +kernel
theorem dX12_carriesAll_64 : decode cX12_carriesAll 64 = .ok (.getfield 28, 3) := by decide +kernel
theorem dX12_carriesAll_67 : decode cX12_carriesAll 67 = .ok (.invokevirtual 462, 3) := by decide +kernel
theorem dX12_carriesAll_70 : decode cX12_carriesAll 70 = .ok (.aload_n 0, 1) := by decide +kernel
theorem dX12_carriesAll_71 : decode cX12_carriesAll 71 = .ok (.aload_n 0, 1) := by decide +kernel
theorem dX12_carriesAll_72 : decode cX12_carriesAll 72 = .ok (.getfield 31, 3) := by decide +kernel
theorem dX12_carriesAll_75 : decode cX12_carriesAll 75 = .ok (.invokevirtual 462, 3) := by decide +kernel
theorem dX12_carriesAll_78 : decode cX12_carriesAll 78 = .ok (.aload_n 0, 1) := by decide +kernel
theorem dX12_carriesAll_79 : decode cX12_carriesAll 79 = .ok (.aload_n 0, 1) := by decide +kernel
theorem dX12_carriesAll_80 : decode cX12_carriesAll 80 = .ok (.getfield 34, 3) := by decide +kernel
theorem dX12_carriesAll_83 : decode cX12_carriesAll 83 = .ok (.invokevirtual 462, 3) := by decide +kernel
theorem dX12_carriesAll_86 : decode cX12_carriesAll 86 = .ok (.aload_n 0, 1) := by decide +kernel
theorem dX12_carriesAll_87 : decode cX12_carriesAll 87 = .ok (.aload_n 0, 1) := by decide +kernel
theorem dX12_carriesAll_88 : decode cX12_carriesAll 88 = .ok (.getfield 37, 3) := by decide +kernel
theorem dX12_carriesAll_91 : decode cX12_carriesAll 91 = .ok (.invokevirtual 462, 3) := by decide +kernel
theorem dX12_carriesAll_94 : decode cX12_carriesAll 94 = .ok (.aload_n 0, 1) := by decide +kernel
theorem dX12_carriesAll_95 : decode cX12_carriesAll 95 = .ok (.aload_n 0, 1) := by decide +kernel
theorem dX12_carriesAll_96 : decode cX12_carriesAll 96 = .ok (.getfield 40, 3) := by decide +kernel
theorem dX12_carriesAll_99 : decode cX12_carriesAll 99 = .ok (.invokevirtual 462, 3) := by decide +kernel
theorem dX12_carriesAll_102 : decode cX12_carriesAll 102 = .ok (.aload_n 0, 1) := by decide +kernel
theorem dX12_carriesAll_103 : decode cX12_carriesAll 103 = .ok (.aload_n 0, 1) := by decide +kernel
theorem dX12_carriesAll_104 : decode cX12_carriesAll 104 = .ok (.getfield 43, 3) := by decide +kernel
theorem dX12_carriesAll_107 : decode cX12_carriesAll 107 = .ok (.invokevirtual 462, 3) := by decide +kernel
theorem dX12_carriesAll_110 : decode cX12_carriesAll 110 = .ok (.aload_n 0, 1) := by decide +kernel
theorem dX12_carriesAll_111 : decode cX12_carriesAll 111 = .ok (.aload_n 0, 1) := by decide +kernel
theorem dX12_carriesAll_112 : decode cX12_carriesAll 112 = .ok (.getfield 46, 3) := by decide +kernel
theorem dX12_carriesAll_115 : decode cX12_carriesAll 115 = .ok (.invokevirtual 462, 3) := by decide +kernel
theorem dX12_carriesAll_118 : decode cX12_carriesAll 118 = .ok (.aload_n 0, 1) := by decide +kernel
theorem dX12_carriesAll_119 : decode cX12_carriesAll 119 = .ok (.aload_n 0, 1) := by decide +kernel
theorem dX12_carriesAll_120 : decode cX12_carriesAll 120 = .ok (.getfield 49, 3) := by decide +kernel
theorem dX12_carriesAll_123 : decode cX12_carriesAll 123 = .ok (.invokevirtual 462, 3) := by decide +kernel
theorem dX12_carriesAll_126 : decode cX12_carriesAll 126 = .ok (.aload_n 0, 1) := by decide +kernel
theorem dX12_carriesAll_127 : decode cX12_carriesAll 127 = .ok (.aload_n 0, 1) := by decide +kernel
theorem dX12_carriesAll_128 : decode cX12_carriesAll 128 = .ok (.getfield 52, 3) := by decide +kernel
theorem dX12_carriesAll_131 : decode cX12_carriesAll 131 = .ok (.invokevirtual 462, 3) := by decide +kernel
theorem dX12_carriesAll_134 : decode cX12_carriesAll 134 = .ok (.aload_n 0, 1) := by decide +kernel
theorem dX12_carriesAll_135 : decode cX12_carriesAll 135 = .ok (.aload_n 0, 1) := by decide +kernel
theorem dX12_carriesAll_136 : decode cX12_carriesAll 136 = .ok (.getfield 55, 3) := by decide +kernel
theorem dX12_carriesAll_139 : decode cX12_carriesAll 139 = .ok (.invokevirtual 462, 3) := by decide +kernel
theorem dX12_carriesAll_142 : decode cX12_carriesAll 142 = .ok (.aload_n 0, 1) := by decide +kernel
theorem dX12_carriesAll_143 : decode cX12_carriesAll 143 = .ok (.aload_n 0, 1) := by decide +kernel
theorem dX12_carriesAll_144 : decode cX12_carriesAll 144 = .ok (.getfield 58, 3) := by decide +kernel
theorem dX12_carriesAll_147 : decode cX12_carriesAll 147 = .ok (.invokevirtual 462, 3) := by decide +kernel
theorem dX12_carriesAll_150 : decode cX12_carriesAll 150 = .ok (.aload_n 0, 1) := by decide +kernel
theorem dX12_carriesAll_151 : decode cX12_carriesAll 151 = .ok (.aload_n 0, 1) := by decide +kernel
theorem dX12_carriesAll_152 : decode cX12_carriesAll 152 = .ok (.getfield 61, 3) := by decide +kernel
theorem dX12_carriesAll_155 : decode cX12_carriesAll 155 = .ok (.invokevirtual 462, 3) := by decide +kernel
theorem dX12_carriesAll_158 : decode cX12_carriesAll 158 = .ok (.aload_n 0, 1) := by decide +kernel
theorem dX12_carriesAll_159 : decode cX12_carriesAll 159 = .ok (.aload_n 0, 1) := by decide +kernel
theorem dX12_carriesAll_160 : decode cX12_carriesAll 160 = .ok (.getfield 64, 3) := by decide +kernel
theorem dX12_carriesAll_163 : decode cX12_carriesAll 163 = .ok (.invokevirtual 462, 3) := by decide +kernel
theorem dX12_carriesAll_166 : decode cX12_carriesAll 166 = .ok (.aload_n 0, 1) := by decide +kernel
theorem dX12_carriesAll_167 : decode cX12_carriesAll 167 = .ok (.aload_n 0, 1) := by decide +kernel
theorem dX12_carriesAll_168 : decode cX12_carriesAll 168 = .ok (.getfield 67, 3) := by decide +kernel
theorem dX12_carriesAll_171 : decode cX12_carriesAll 171 = .ok (.invokevirtual 462, 3) := by decide +kernel
theorem dX12_carriesAll_174 : decode cX12_carriesAll 174 = .ok (.aload_n 0, 1) := by decide +kernel
theorem dX12_carriesAll_175 : decode cX12_carriesAll 175 = .ok (.aload_n 0, 1) := by decide +kernel
theorem dX12_carriesAll_176 : decode cX12_carriesAll 176 = .ok (.getfield 70, 3) := by decide +kernel
theorem dX12_carriesAll_179 : decode cX12_carriesAll 179 = .ok (.invokevirtual 462, 3) := by decide +kernel
theorem dX12_carriesAll_182 : decode cX12_carriesAll 182 = .ok (.aload_n 0, 1) := by decide +kernel
theorem dX12_carriesAll_183 : decode cX12_carriesAll 183 = .ok (.aload_n 0, 1) := by decide +kernel
theorem dX12_carriesAll_184 : decode cX12_carriesAll 184 = .ok (.getfield 73, 3) := by decide +kernel
theorem dX12_carriesAll_187 : decode cX12_carriesAll 187 = .ok (.invokevirtual 462, 3) := by decide +kernel
theorem dX12_carriesAll_190 : decode cX12_carriesAll 190 = .ok (.aload_n 0, 1) := by decide +kernel
theorem dX12_carriesAll_191 : decode cX12_carriesAll 191 = .ok (.aload_n 0, 1) := by decide +kernel
theorem dX12_carriesAll_192 : decode cX12_carriesAll 192 = .ok (.getfield 76, 3) := by decide +kernel
theorem dX12_carriesAll_195 : decode cX12_carriesAll 195 = .ok (.invokevirtual 462, 3) := by decide +kernel
theorem dX12_carriesAll_198 : decode cX12_carriesAll 198 = .ok (.return_, 1) := by decide +kernel
theorem dX12_image_0 : decode cX12_image 0 = .ok (.iload_n 1, 1) := by decide +kernel
theorem dX12_image_1 : decode cX12_image 1 = .ok (.i2l, 1) := by decide +kernel
theorem dX12_image_2 : decode cX12_image 2 = .ok (.lconst 0, 1) := by decide +kernel
theorem dX12_image_3 : decode cX12_image 3 = .ok (.ldc2_w 466, 3) := by decide +kernel
theorem dX12_image_6 : decode cX12_image 6 = .ok (.invokestatic 154, 3) := by decide +kernel
theorem dX12_image_9 : decode cX12_image 9 = .ok (.ifCond .ne 5, 3) := by decide +kernel
theorem dX12_image_12 : decode cX12_image 12 = .ok (.iconst (-1), 1) := by decide +kernel
theorem dX12_image_13 : decode cX12_image 13 = .ok (.ireturn, 1) := by decide +kernel
theorem dX12_image_14 : decode cX12_image 14 = .ok (.aload_n 0, 1) := by decide +kernel
theorem dX12_image_15 : decode cX12_image 15 = .ok (.getfield 141, 3) := by decide +kernel
theorem dX12_image_18 : decode cX12_image 18 = .ok (.iload_n 1, 1) := by decide +kernel
theorem dX12_image_19 : decode cX12_image 19 = .ok (.iconst 1, 1) := by decide +kernel
theorem dX12_image_20 : decode cX12_image 20 = .ok (.bastore, 1) := by decide +kernel
theorem dX12_image_21 : decode cX12_image 21 = .ok (.aload_n 0, 1) := by decide +kernel
theorem dX12_image_22 : decode cX12_image 22 = .ok (.iload_n 1, 1) := by decide +kernel
theorem dX12_image_23 : decode cX12_image 23 = .ok (.iconst 0, 1) := by decide +kernel
theorem dX12_image_24 : decode cX12_image 24 = .ok (.invokevirtual 468, 3) := by decide +kernel
theorem dX12_image_27 : decode cX12_image 27 = .ok (.aload_n 0, 1) := by decide +kernel
theorem dX12_image_28 : decode cX12_image 28 = .ok (.getfield 7, 3) := by decide +kernel
theorem dX12_image_31 : decode cX12_image 31 = .ok (.iconst 5, 1) := by decide +kernel
theorem dX12_image_32 : decode cX12_image 32 = .ok (.iaload, 1) := by decide +kernel
theorem dX12_image_33 : decode cX12_image 33 = .ok (.ireturn, 1) := by decide +kernel
theorem dX12_back_0 : decode cX12_back 0 = .ok (.iload_n 1, 1) := by decide +kernel
theorem dX12_back_1 : decode cX12_back 1 = .ok (.i2l, 1) := by decide +kernel
theorem dX12_back_2 : decode cX12_back 2 = .ok (.lconst 0, 1) := by decide +kernel
theorem dX12_back_3 : decode cX12_back 3 = .ok (.ldc2_w 466, 3) := by decide +kernel
theorem dX12_back_6 : decode cX12_back 6 = .ok (.invokestatic 154, 3) := by decide +kernel
theorem dX12_back_9 : decode cX12_back 9 = .ok (.ifCond .eq 12, 3) := by decide +kernel
theorem dX12_back_12 : decode cX12_back 12 = .ok (.aload_n 0, 1) := by decide +kernel
theorem dX12_back_13 : decode cX12_back 13 = .ok (.getfield 141, 3) := by decide +kernel
theorem dX12_back_16 : decode cX12_back 16 = .ok (.iload_n 1, 1) := by decide +kernel
theorem dX12_back_17 : decode cX12_back 17 = .ok (.baload, 1) := by decide +kernel
theorem dX12_back_18 : decode cX12_back 18 = .ok (.ifCond .ne 5, 3) := by decide +kernel
theorem dX12_back_21 : decode cX12_back 21 = .ok (.iconst (-1), 1) := by decide +kernel
theorem dX12_back_22 : decode cX12_back 22 = .ok (.ireturn, 1) := by decide +kernel
theorem dX12_back_23 : decode cX12_back 23 = .ok (.aload_n 0, 1) := by decide +kernel
theorem dX12_back_24 : decode cX12_back 24 = .ok (.iload_n 1, 1) := by decide +kernel
theorem dX12_back_25 : decode cX12_back 25 = .ok (.iconst 1, 1) := by decide +kernel
theorem dX12_back_26 : decode cX12_back 26 = .ok (.invokevirtual 468, 3) := by decide +kernel
theorem dX12_back_29 : decode cX12_back 29 = .ok (.aload_n 0, 1) := by decide +kernel
theorem dX12_back_30 : decode cX12_back 30 = .ok (.invokevirtual 180, 3) := by decide +kernel
theorem dX12_back_33 : decode cX12_back 33 = .ok (.aload_n 0, 1) := by decide +kernel
theorem dX12_back_34 : decode cX12_back 34 = .ok (.getfield 7, 3) := by decide +kernel
theorem dX12_back_37 : decode cX12_back 37 = .ok (.iconst 5, 1) := by decide +kernel
theorem dX12_back_38 : decode cX12_back 38 = .ok (.iaload, 1) := by decide +kernel
theorem dX12_back_39 : decode cX12_back 39 = .ok (.ireturn, 1) := by decide +kernel
