theorem dX10_init_0 : decode cX10_init 0 = .ok (.aload_n 0, 1) := by decide +kernel
theorem dX10_init_1 : decode cX10_init 1 = .ok (.invokespecial 1, 3) := by decide +kernel
theorem dX10_init_4 : decode cX10_init 4 = .ok (.aload_n 0, 1) := by decide +kernel
theorem dX10_init_5 : decode cX10_init 5 = .ok (.sipush 400, 3) := by decide +kernel
theorem dX10_init_8 : decode cX10_init 8 = .ok (.newarray .byte, 2) := by decide +kernel
theorem dX10_init_10 : decode cX10_init 10 = .ok (.putfield 7, 3) := by decide +kernel
theorem dX10_init_13 : decode cX10_init 13 = .ok (.aload_n 0, 1) := by decide +kernel
theorem dX10_init_14 : decode cX10_init 14 = .ok (.iconst 4, 1) := by decide +kernel
theorem dX10_init_15 : decode cX10_init 15 = .ok (.newarray .int, 2) := by decide +kernel
theorem dX10_init_17 : decode cX10_init 17 = .ok (.putfield 13, 3) := by decide +kernel
theorem dX10_init_20 : decode cX10_init 20 = .ok (.aload_n 0, 1) := by decide +kernel
theorem dX10_init_21 : decode cX10_init 21 = .ok (.bipush 36, 2) := by decide +kernel
theorem dX10_init_23 : decode cX10_init 23 = .ok (.newarray .int, 2) := by decide +kernel
theorem dX10_init_25 : decode cX10_init 25 = .ok (.putfield 17, 3) := by decide +kernel
theorem dX10_init_28 : decode cX10_init 28 = .ok (.aload_n 0, 1) := by decide +kernel
theorem dX10_init_29 : decode cX10_init 29 = .ok (.bipush 36, 2) := by decide +kernel
theorem dX10_init_31 : decode cX10_init 31 = .ok (.newarray .int, 2) := by decide +kernel
theorem dX10_init_33 : decode cX10_init 33 = .ok (.putfield 20, 3) := by decide +kernel
theorem dX10_init_36 : decode cX10_init 36 = .ok (.aload_n 0, 1) := by decide +kernel
theorem dX10_init_37 : decode cX10_init 37 = .ok (.bipush 24, 2) := by decide +kernel
theorem dX10_init_39 : decode cX10_init 39 = .ok (.newarray .int, 2) := by decide +kernel
theorem dX10_init_41 : decode cX10_init 41 = .ok (.putfield 23, 3) := by decide +kernel
theorem dX10_init_44 : decode cX10_init 44 = .ok (.aload_n 0, 1) := by decide +kernel
theorem dX10_init_45 : decode cX10_init 45 = .ok (.bipush 40, 2) := by decide +kernel
theorem dX10_init_47 : decode cX10_init 47 = .ok (.newarray .int, 2) := by decide +kernel
theorem dX10_init_49 : decode cX10_init 49 = .ok (.putfield 26, 3) := by decide +kernel
theorem dX10_init_52 : decode cX10_init 52 = .ok (.aload_n 0, 1) := by decide +kernel
theorem dX10_init_53 : decode cX10_init 53 = .ok (.sipush 240, 3) := by decide +kernel
theorem dX10_init_56 : decode cX10_init 56 = .ok (.newarray .int, 2) := by decide +kernel
theorem dX10_init_58 : decode cX10_init 58 = .ok (.putfield 29, 3) := by decide +kernel
theorem dX10_init_61 : decode cX10_init 61 = .ok (.aload_n 0, 1) := by decide +kernel
theorem dX10_init_62 : decode cX10_init 62 = .ok (.sipush 2400, 3) := by decide +kernel
theorem dX10_init_65 : decode cX10_init 65 = .ok (.newarray .int, 2) := by decide +kernel
theorem dX10_init_67 : decode cX10_init 67 = .ok (.putfield 32, 3) := by decide +kernel
theorem dX10_init_70 : decode cX10_init 70 = .ok (.aload_n 0, 1) := by decide +kernel
theorem dX10_init_71 : decode cX10_init 71 = .ok (.sipush 21600, 3) := by decide +kernel
theorem dX10_init_74 : decode cX10_init 74 = .ok (.newarray .int, 2) := by decide +kernel
theorem dX10_init_76 : decode cX10_init 76 = .ok (.putfield 35, 3) := by decide +kernel
theorem dX10_init_79 : decode cX10_init 79 = .ok (.aload_n 0, 1) := by decide +kernel
theorem dX10_init_80 : decode cX10_init 80 = .ok (.iconst 4, 1) := by decide +kernel
theorem dX10_init_81 : decode cX10_init 81 = .ok (.newarray .int, 2) := by decide +kernel
theorem dX10_init_83 : decode cX10_init 83 = .ok (.putfield 38, 3) := by decide +kernel
theorem dX10_init_86 : decode cX10_init 86 = .ok (.aload_n 0, 1) := by decide +kernel
theorem dX10_init_87 : decode cX10_init 87 = .ok (.sipush 1200, 3) := by decide +kernel
theorem dX10_init_90 : decode cX10_init 90 = .ok (.newarray .int, 2) := by decide +kernel
theorem dX10_init_92 : decode cX10_init 92 = .ok (.putfield 41, 3) := by decide +kernel
theorem dX10_init_95 : decode cX10_init 95 = .ok (.aload_n 0, 1) := by decide +kernel
theorem dX10_init_96 : decode cX10_init 96 = .ok (.sipush 1200, 3) := by decide +kernel
theorem dX10_init_99 : decode cX10_init 99 = .ok (.newarray .int, 2) := by decide +kernel
theorem dX10_init_101 : decode cX10_init 101 = .ok (.putfield 44, 3) := by decide +kernel
theorem dX10_init_104 : decode cX10_init 104 = .ok (.aload_n 0, 1) := by decide +kernel
theorem dX10_init_105 : decode cX10_init 105 = .ok (.sipush 1200, 3) := by decide +kernel
theorem dX10_init_108 : decode cX10_init 108 = .ok (.newarray .int, 2) := by decide +kernel
theorem dX10_init_110 : decode cX10_init 110 = .ok (.putfield 47, 3) := by decide +kernel
theorem dX10_init_113 : decode cX10_init 113 = .ok (.aload_n 0, 1) := by decide +kernel
theorem dX10_init_114 : decode cX10_init 114 = .ok (.sipush 1200, 3) := by decide +kernel
theorem dX10_init_117 : decode cX10_init 117 = .ok (.newarray .int, 2) := by decide +kernel
theorem dX10_init_119 : decode cX10_init 119 = .ok (.putfield 50, 3) := by decide +kernel
theorem dX10_init_122 : decode cX10_init 122 = .ok (.aload_n 0, 1) := by decide +kernel
theorem dX10_init_123 : decode cX10_init 123 = .ok (.sipush 1200, 3) := by decide +kernel
theorem dX10_init_126 : decode cX10_init 126 = .ok (.newarray .int, 2) := by decide +kernel
theorem dX10_init_128 : decode cX10_init 128 = .ok (.putfield 53, 3) := by decide +kernel
theorem dX10_init_131 : decode cX10_init 131 = .ok (.aload_n 0, 1) := by decide +kernel
theorem dX10_init_132 : decode cX10_init 132 = .ok (.sipush 1200, 3) := by decide +kernel
theorem dX10_init_135 : decode cX10_init 135 = .ok (.newarray .int, 2) := by decide +kernel
theorem dX10_init_137 : decode cX10_init 137 = .ok (.putfield 56, 3) := by decide +kernel
theorem dX10_init_140 : decode cX10_init 140 = .ok (.aload_n 0, 1) := by decide +kernel
theorem dX10_init_141 : decode cX10_init 141 = .ok (.iconst 4, 1) := by decide +kernel
theorem dX10_init_142 : decode cX10_init 142 = .ok (.newarray .int, 2) := by decide +kernel
theorem dX10_init_144 : decode cX10_init 144 = .ok (.putfield 59, 3) := by decide +kernel
theorem dX10_init_147 : decode cX10_init 147 = .ok (.aload_n 0, 1) := by decide +kernel
theorem dX10_init_148 : decode cX10_init 148 = .ok (.sipush 400, 3) := by decide +kernel
theorem dX10_init_151 : decode cX10_init 151 = .ok (.newarray .int, 2) := by decide +kernel
theorem dX10_init_153 : decode cX10_init 153 = .ok (.putfield 62, 3) := by decide +kernel
theorem dX10_init_156 : decode cX10_init 156 = .ok (.aload_n 0, 1) := by decide +kernel
theorem dX10_init_157 : decode cX10_init 157 = .ok (.sipush 400, 3) := by decide +kernel
theorem dX10_init_160 : decode cX10_init 160 = .ok (.newarray .int, 2) := by decide +kernel
theorem dX10_init_162 : decode cX10_init 162 = .ok (.putfield 65, 3) := by decide +kernel
theorem dX10_init_165 : decode cX10_init 165 = .ok (.aload_n 0, 1) := by decide +kernel
theorem dX10_init_166 : decode cX10_init 166 = .ok (.sipush 400, 3) := by decide +kernel
theorem dX10_init_169 : decode cX10_init 169 = .ok (.newarray .int, 2) := by decide +kernel
theorem dX10_init_171 : decode cX10_init 171 = .ok (.putfield 68, 3) := by decide +kernel
theorem dX10_init_174 : decode cX10_init 174 = .ok (.aload_n 0, 1) := by decide +kernel
theorem dX10_init_175 : decode cX10_init 175 = .ok (.sipush 400, 3) := by decide +kernel
theorem dX10_init_178 : decode cX10_init 178 = .ok (.newarray .int, 2) := by decide +kernel
theorem dX10_init_180 : decode cX10_init 180 = .ok (.putfield 71, 3) := by decide +kernel
theorem dX10_init_183 : decode cX10_init 183 = .ok (.aload_n 0, 1) := by decide +kernel
theorem dX10_init_184 : decode cX10_init 184 = .ok (.sipush 400, 3) := by decide +kernel
theorem dX10_init_187 : decode cX10_init 187 = .ok (.newarray .int, 2) := by decide +kernel
theorem dX10_init_189 : decode cX10_init 189 = .ok (.putfield 74, 3) := by decide +kernel
theorem dX10_init_192 : decode cX10_init 192 = .ok (.aload_n 0, 1) := by decide +kernel
theorem dX10_init_193 : decode cX10_init 193 = .ok (.sipush 400, 3) := by decide +kernel
theorem dX10_init_196 : decode cX10_init 196 = .ok (.newarray .int, 2) := by decide +kernel
theorem dX10_init_198 : decode cX10_init 198 = .ok (.putfield 77, 3) := by decide +kernel
theorem dX10_init_201 : decode cX10_init 201 = .ok (.aload_n 0, 1) := by decide +kernel
theorem dX10_init_202 : decode cX10_init 202 = .ok (.sipush 400, 3) := by decide +kernel
theorem dX10_init_205 : decode cX10_init 205 = .ok (.newarray .int, 2) := by decide +kernel
theorem dX10_init_207 : decode cX10_init 207 = .ok (.putfield 80, 3) := by decide +kernel
theorem dX10_init_210 : decode cX10_init 210 = .ok (.aload_n 0, 1) := by decide +kernel
theorem dX10_init_211 : decode cX10_init 211 = .ok (.iconst 4, 1) := by decide +kernel
theorem dX10_init_212 : decode cX10_init 212 = .ok (.newarray .int, 2) := by decide +kernel
theorem dX10_init_214 : decode cX10_init 214 = .ok (.putfield 83, 3) := by decide +kernel
theorem dX10_init_217 : decode cX10_init 217 = .ok (.aload_n 0, 1) := by decide +kernel
theorem dX10_init_218 : decode cX10_init 218 = .ok (.iconst 4, 1) := by decide +kernel
theorem dX10_init_219 : decode cX10_init 219 = .ok (.newarray .int, 2) := by decide +kernel
theorem dX10_init_221 : decode cX10_init 221 = .ok (.putfield 86, 3) := by decide +kernel
theorem dX10_init_224 : decode cX10_init 224 = .ok (.aload_n 0, 1) := by decide +kernel
theorem dX10_init_225 : decode cX10_init 225 = .ok (.bipush 64, 2) := by decide +kernel
theorem dX10_init_227 : decode cX10_init 227 = .ok (.newarray .int, 2) := by decide +kernel
theorem dX10_init_229 : decode cX10_init 229 = .ok (.putfield 89, 3) := by decide +kernel
theorem dX10_init_232 : decode cX10_init 232 = .ok (.aload_n 0, 1) := by decide +kernel
theorem dX10_init_233 : decode cX10_init 233 = .ok (.sipush 256, 3) := by decide +kernel
theorem dX10_init_236 : decode cX10_init 236 = .ok (.newarray .int, 2) := by decide +kernel
theorem dX10_init_238 : decode cX10_init 238 = .ok (.putfield 92, 3) := by decide +kernel
theorem dX10_init_241 : decode cX10_init 241 = .ok (.aload_n 0, 1) := by decide +kernel
theorem dX10_init_242 : decode cX10_init 242 = .ok (.sipush 256, 3) := by decide +kernel
theorem dX10_init_245 : decode cX10_init 245 = .ok (.newarray .int, 2) := by decide +kernel
theorem dX10_init_247 : decode cX10_init 247 = .ok (.putfield 95, 3) := by decide +kernel
theorem dX10_init_250 : decode cX10_init 250 = .ok (.aload_n 0, 1) := by decide +kernel
theorem dX10_init_251 : decode cX10_init 251 = .ok (.sipush 256, 3) := by decide +kernel
theorem dX10_init_254 : decode cX10_init 254 = .ok (.newarray .int, 2) := by decide +kernel
theorem dX10_init_256 : decode cX10_init 256 = .ok (.putfield 98, 3) := by decide +kernel
theorem dX10_init_259 : decode cX10_init 259 = .ok (.aload_n 0, 1) := by decide +kernel
theorem dX10_init_260 : decode cX10_init 260 = .ok (.bipush 64, 2) := by decide +kernel
theorem dX10_init_262 : decode cX10_init 262 = .ok (.newarray .int, 2) := by decide +kernel
theorem dX10_init_264 : decode cX10_init 264 = .ok (.putfield 101, 3) := by decide +kernel
theorem dX10_init_267 : decode cX10_init 267 = .ok (.aload_n 0, 1) := by decide +kernel
theorem dX10_init_268 : decode cX10_init 268 = .ok (.bipush 64, 2) := by decide +kernel
theorem dX10_init_270 : decode cX10_init 270 = .ok (.newarray .int, 2) := by decide +kernel
theorem dX10_init_272 : decode cX10_init 272 = .ok (.putfield 104, 3) := by decide +kernel
theorem dX10_init_275 : decode cX10_init 275 = .ok (.aload_n 0, 1) := by decide +kernel
theorem dX10_init_276 : decode cX10_init 276 = .ok (.bipush 10, 2) := by decide +kernel
theorem dX10_init_278 : decode cX10_init 278 = .ok (.newarray .int, 2) := by decide +kernel
theorem dX10_init_280 : decode cX10_init 280 = .ok (.putfield 107, 3) := by decide +kernel
theorem dX10_init_283 : decode cX10_init 283 = .ok (.aload_n 0, 1) := by decide +kernel
theorem dX10_init_284 : decode cX10_init 284 = .ok (.sipush 300, 3) := by decide +kernel
theorem dX10_init_287 : decode cX10_init 287 = .ok (.newarray .int, 2) := by decide +kernel
theorem dX10_init_289 : decode cX10_init 289 = .ok (.putfield 110, 3) := by decide +kernel
theorem dX10_init_292 : decode cX10_init 292 = .ok (.aload_n 0, 1) := by decide +kernel
theorem dX10_init_293 : decode cX10_init 293 = .ok (.iconst (-1), 1) := by decide +kernel
theorem dX10_init_294 : decode cX10_init 294 = .ok (.putfield 113, 3) := by decide +kernel
theorem dX10_init_297 : decode cX10_init 297 = .ok (.aload_n 0, 1) := by decide +kernel
theorem dX10_init_298 : decode cX10_init 298 = .ok (.bipush 17, 2) := by decide +kernel
theorem dX10_init_300 : decode cX10_init 300 = .ok (.newarray .int, 2) := by decide +kernel
theorem dX10_init_302 : decode cX10_init 302 = .ok (.putfield 117, 3) := by decide +kernel
theorem dX10_init_305 : decode cX10_init 305 = .ok (.aload_n 0, 1) := by decide +kernel
theorem dX10_init_306 : decode cX10_init 306 = .ok (.bipush 64, 2) := by decide +kernel
theorem dX10_init_308 : decode cX10_init 308 = .ok (.newarray .int, 2) := by decide +kernel
theorem dX10_init_310 : decode cX10_init 310 = .ok (.putfield 120, 3) := by decide +kernel
theorem dX10_init_313 : decode cX10_init 313 = .ok (.aload_n 0, 1) := by decide +kernel
theorem dX10_init_314 : decode cX10_init 314 = .ok (.bipush 64, 2) := by decide +kernel
theorem dX10_init_316 : decode cX10_init 316 = .ok (.newarray .int, 2) := by decide +kernel
theorem dX10_init_318 : decode cX10_init 318 = .ok (.putfield 123, 3) := by decide +kernel
theorem dX10_init_321 : decode cX10_init 321 = .ok (.aload_n 0, 1) := by decide +kernel
theorem dX10_init_322 : decode cX10_init 322 = .ok (.bipush 64, 2) := by decide +kernel
theorem dX10_init_324 : decode cX10_init 324 = .ok (.newarray .int, 2) := by decide +kernel
theorem dX10_init_326 : decode cX10_init 326 = .ok (.putfield 126, 3) := by decide +kernel
theorem dX10_init_329 : decode cX10_init 329 = .ok (.aload_n 0, 1) := by decide +kernel
theorem dX10_init_330 : decode cX10_init 330 = .ok (.bipush 17, 2) := by decide +kernel
theorem dX10_init_332 : decode cX10_init 332 = .ok (.newarray .int, 2) := by decide +kernel
theorem dX10_init_334 : decode cX10_init 334 = .ok (.putfield 129, 3) := by decide +kernel
theorem dX10_init_337 : decode cX10_init 337 = .ok (.aload_n 0, 1) := by decide +kernel
theorem dX10_init_338 : decode cX10_init 338 = .ok (.bipush 17, 2) := by decide +kernel
theorem dX10_init_340 : decode cX10_init 340 = .ok (.newarray .int, 2) := by decide +kernel
theorem dX10_init_342 : decode cX10_init 342 = .ok (.putfield 132, 3) := by decide +kernel
theorem dX10_init_345 : decode cX10_init 345 = .ok (.aload_n 0, 1) := by decide +kernel
theorem dX10_init_346 : decode cX10_init 346 = .ok (.iconst 3, 1) := by decide +kernel
theorem dX10_init_347 : decode cX10_init 347 = .ok (.newarray .boolean, 2) := by decide +kernel
theorem dX10_init_349 : decode cX10_init 349 = .ok (.putfield 135, 3) := by decide +kernel
theorem dX10_init_352 : decode cX10_init 352 = .ok (.aload_n 0, 1) := by decide +kernel
theorem dX10_init_353 : decode cX10_init 353 = .ok (.getfield 13, 3) := by decide +kernel
theorem dX10_init_356 : decode cX10_init 356 = .ok (.iconst 0, 1) := by decide +kernel
theorem dX10_init_357 : decode cX10_init 357 = .ok (.iconst 2, 1) := by decide +kernel
theorem dX10_init_358 : decode cX10_init 358 = .ok (.iastore, 1) := by decide +kernel
theorem dX10_init_359 : decode cX10_init 359 = .ok (.iconst 0, 1) := by decide +kernel
theorem dX10_init_360 : decode cX10_init 360 = .ok (.istore_n 1, 1) := by decide +kernel
theorem dX10_init_361 : decode cX10_init 361 = .ok (.iload_n 1, 1) := by decide +kernel
theorem dX10_init_362 : decode cX10_init 362 = .ok (.bipush 9, 2) := by decide +kernel
theorem dX10_init_364 : decode cX10_init 364 = .ok (.if_icmp .ge 23, 3) := by decide +kernel
theorem dX10_init_367 : decode cX10_init 367 = .ok (.aload_n 0, 1) := by decide +kernel
theorem dX10_init_368 : decode cX10_init 368 = .ok (.getfield 17, 3) := by decide +kernel
theorem dX10_init_371 : decode cX10_init 371 = .ok (.iload_n 1, 1) := by decide +kernel
theorem dX10_init_372 : decode cX10_init 372 = .ok (.iconst 1, 1) := by decide +kernel
theorem dX10_init_373 : decode cX10_init 373 = .ok (.iastore, 1) := by decide +kernel
theorem dX10_init_374 : decode cX10_init 374 = .ok (.aload_n 0, 1) := by decide +kernel
theorem dX10_init_375 : decode cX10_init 375 = .ok (.getfield 20, 3) := by decide +kernel
theorem dX10_init_378 : decode cX10_init 378 = .ok (.iload_n 1, 1) := by decide +kernel
theorem dX10_init_379 : decode cX10_init 379 = .ok (.iconst 1, 1) := by decide +kernel
theorem dX10_init_380 : decode cX10_init 380 = .ok (.iastore, 1) := by decide +kernel
theorem dX10_init_381 : decode cX10_init 381 = .ok (.iinc 1 1, 3) := by decide +kernel
theorem dX10_init_384 : decode cX10_init 384 = .ok (.goto (-23), 3) := by decide +kernel
theorem dX10_init_387 : decode cX10_init 387 = .ok (.iconst 0, 1) := by decide +kernel
theorem dX10_init_388 : decode cX10_init 388 = .ok (.istore_n 1, 1) := by decide +kernel
theorem dX10_init_389 : decode cX10_init 389 = .ok (.iload_n 1, 1) := by decide +kernel
theorem dX10_init_390 : decode cX10_init 390 = .ok (.sipush 5400, 3) := by decide +kernel
theorem dX10_init_393 : decode cX10_init 393 = .ok (.if_icmp .ge 16, 3) := by decide +kernel
theorem dX10_init_396 : decode cX10_init 396 = .ok (.aload_n 0, 1) := by decide +kernel
theorem dX10_init_397 : decode cX10_init 397 = .ok (.getfield 35, 3) := by decide +kernel
theorem dX10_init_400 : decode cX10_init 400 = .ok (.iload_n 1, 1) := by decide +kernel
theorem dX10_init_401 : decode cX10_init 401 = .ok (.iconst (-1), 1) := by decide +kernel
theorem dX10_init_402 : decode cX10_init 402 = .ok (.iastore, 1) := by decide +kernel
theorem dX10_init_403 : decode cX10_init 403 = .ok (.iinc 1 1, 3) := by decide +kernel
theorem dX10_init_406 : decode cX10_init 406 = .ok (.goto (-17), 3) := by decide +kernel
theorem dX10_init_409 : decode cX10_init 409 = .ok (.return_, 1) := by decide +kernel
theorem dX10_in_0 : decode cX10_in 0 = .ok (.iload_n 0, 1) := by decide +kernel
theorem dX10_in_1 : decode cX10_in 1 = .ok (.iload_n 1, 1) := by decide +kernel
theorem dX10_in_2 : decode cX10_in 2 = .ok (.if_icmp .lt 12, 3) := by decide +kernel
theorem dX10_in_5 : decode cX10_in 5 = .ok (.iload_n 0, 1) := by decide +kernel
theorem dX10_in_6 : decode cX10_in 6 = .ok (.iload_n 2, 1) := by decide +kernel
theorem dX10_in_7 : decode cX10_in 7 = .ok (.if_icmp .gt 7, 3) := by decide +kernel
theorem dX10_in_10 : decode cX10_in 10 = .ok (.iconst 1, 1) := by decide +kernel
theorem dX10_in_11 : decode cX10_in 11 = .ok (.goto 4, 3) := by decide +kernel
theorem dX10_in_14 : decode cX10_in 14 = .ok (.iconst 0, 1) := by decide +kernel
theorem dX10_in_15 : decode cX10_in 15 = .ok (.ireturn, 1) := by decide +kernel
theorem dX10_move_0 : decode cX10_move 0 = .ok (.iconst 0, 1) := by decide +kernel
theorem dX10_move_1 : decode cX10_move 1 = .ok (.istore 4, 2) := by decide +kernel
theorem dX10_move_3 : decode cX10_move 3 = .ok (.iload 4, 2) := by decide +kernel
theorem dX10_move_5 : decode cX10_move 5 = .ok (.iload_n 1, 1) := by decide +kernel
theorem dX10_move_6 : decode cX10_move 6 = .ok (.if_icmp .ge 25, 3) := by decide +kernel
theorem dX10_move_9 : decode cX10_move 9 = .ok (.aload_n 0, 1) := by decide +kernel
theorem dX10_move_10 : decode cX10_move 10 = .ok (.iload_n 1, 1) := by decide +kernel
theorem dX10_move_11 : decode cX10_move 11 = .ok (.iload_n 3, 1) := by decide +kernel
theorem dX10_move_12 : decode cX10_move 12 = .ok (.imul, 1) := by decide +kernel
theorem dX10_move_13 : decode cX10_move 13 = .ok (.iload 4, 2) := by decide +kernel
theorem dX10_move_15 : decode cX10_move 15 = .ok (.iadd, 1) := by decide +kernel
theorem dX10_move_16 : decode cX10_move 16 = .ok (.aload_n 0, 1) := by decide +kernel
theorem dX10_move_17 : decode cX10_move 17 = .ok (.iload_n 1, 1) := by decide +kernel
theorem dX10_move_18 : decode cX10_move 18 = .ok (.iload_n 2, 1) := by decide +kernel
theorem dX10_move_19 : decode cX10_move 19 = .ok (.imul, 1) := by decide +kernel
theorem dX10_move_20 : decode cX10_move 20 = .ok (.iload 4, 2) := by decide +kernel
theorem dX10_move_22 : decode cX10_move 22 = .ok (.iadd, 1) := by decide +kernel
theorem dX10_move_23 : decode cX10_move 23 = .ok (.iaload, 1) := by decide +kernel
theorem dX10_move_24 : decode cX10_move 24 = .ok (.iastore, 1) := by decide +kernel
theorem dX10_move_25 : decode cX10_move 25 = .ok (.iinc 4 1, 3) := by decide +kernel
theorem dX10_move_28 : decode cX10_move 28 = .ok (.goto (-25), 3) := by decide +kernel
theorem dX10_move_31 : decode cX10_move 31 = .ok (.return_, 1) := by decide +kernel
set_option maxRecDepth 20000 in
theorem ggX10_copy_X10_move : GoodIn wsX10_copy wsX10_move := goodIn_sub (gw_c (gw_X10_copy_X10_copy_r2 _ (gw_g 10 rfl)) gw_n) (by decide +kernel)
set_option maxRecDepth 20000 in
theorem gX10_copy_X10_move : GoodIn wsX10_copy (va_wsS RX10 142 yX10_move wsX10_move) := goodIn_app (goodIn_sub (gw_c (gw_X10_copy_X10_copy_r2 _ (gw_g 7 rfl)) (gw_c (gw_X10_copy_X10_copy_r2 _ (gw_g 8 rfl)) (gw_c (gw_X10_copy_X10_copy_r2 _ (gw_g 9 rfl)) gw_n))) (by decide +kernel)) ggX10_copy_X10_move
theorem dX10_copy_0 : decode cX10_copy 0 = .ok (.aload_n 0, 1) := by decide +kernel
theorem dX10_copy_1 : decode cX10_copy 1 = .ok (.getfield 13, 3) := by decide +kernel
theorem dX10_copy_4 : decode cX10_copy 4 = .ok (.iconst 1, 1) := by decide +kernel
theorem dX10_copy_5 : decode cX10_copy 5 = .ok (.iload_n 1, 1) := by decide +kernel
theorem dX10_copy_6 : decode cX10_copy 6 = .ok (.iload_n 2, 1) := by decide +kernel
theorem dX10_copy_7 : decode cX10_copy 7 = .ok (.invokestatic 142, 3) := by decide +kernel
theorem dX10_copy_10 : decode cX10_copy 10 = .ok (.aload_n 0, 1) := by decide +kernel
theorem dX10_copy_11 : decode cX10_copy 11 = .ok (.getfield 17, 3) := by decide +kernel
theorem dX10_copy_14 : decode cX10_copy 14 = .ok (.bipush 9, 2) := by decide +kernel
theorem dX10_copy_16 : decode cX10_copy 16 = .ok (.iload_n 1, 1) := by decide +kernel
theorem dX10_copy_17 : decode cX10_copy 17 = .ok (.iload_n 2, 1) := by decide +kernel
theorem dX10_copy_18 : decode cX10_copy 18 = .ok (.invokestatic 142, 3) := by decide +kernel
theorem dX10_copy_21 : decode cX10_copy 21 = .ok (.aload_n 0, 1) := by decide +kernel
theorem dX10_copy_22 : decode cX10_copy 22 = .ok (.getfield 20, 3) := by decide +kernel
theorem dX10_copy_25 : decode cX10_copy 25 = .ok (.bipush 9, 2) := by decide +kernel
theorem dX10_copy_27 : decode cX10_copy 27 = .ok (.iload_n 1, 1) := by decide +kernel
theorem dX10_copy_28 : decode cX10_copy 28 = .ok (.iload_n 2, 1) := by decide +kernel
theorem dX10_copy_29 : decode cX10_copy 29 = .ok (.invokestatic 142, 3) := by decide +kernel
theorem dX10_copy_32 : decode cX10_copy 32 = .ok (.aload_n 0, 1) := by decide +kernel
theorem dX10_copy_33 : decode cX10_copy 33 = .ok (.getfield 23, 3) := by decide +kernel
theorem dX10_copy_36 : decode cX10_copy 36 = .ok (.bipush 6, 2) := by decide +kernel
theorem dX10_copy_38 : decode cX10_copy 38 = .ok (.iload_n 1, 1) := by decide +kernel
theorem dX10_copy_39 : decode cX10_copy 39 = .ok (.iload_n 2, 1) := by decide +kernel
theorem dX10_copy_40 : decode cX10_copy 40 = .ok (.invokestatic 142, 3) := by decide +kernel
theorem dX10_copy_43 : decode cX10_copy 43 = .ok (.aload_n 0, 1) := by decide +kernel
theorem dX10_copy_44 : decode cX10_copy 44 = .ok (.getfield 26, 3) := by decide +kernel
theorem dX10_copy_47 : decode cX10_copy 47 = .ok (.bipush 10, 2) := by decide +kernel
theorem dX10_copy_49 : decode cX10_copy 49 = .ok (.iload_n 1, 1) := by decide +kernel
theorem dX10_copy_50 : decode cX10_copy 50 = .ok (.iload_n 2, 1) := by decide +kernel
theorem dX10_copy_51 : decode cX10_copy 51 = .ok (.invokestatic 142, 3) := by decide +kernel
theorem dX10_copy_54 : decode cX10_copy 54 = .ok (.aload_n 0, 1) := by decide +kernel
theorem dX10_copy_55 : decode cX10_copy 55 = .ok (.getfield 29, 3) := by decide +kernel
theorem dX10_copy_58 : decode cX10_copy 58 = .ok (.bipush 60, 2) := by decide +kernel
theorem dX10_copy_60 : decode cX10_copy 60 = .ok (.iload_n 1, 1) := by decide +kernel
theorem dX10_copy_61 : decode cX10_copy 61 = .ok (.iload_n 2, 1) := by decide +kernel
theorem dX10_copy_62 : decode cX10_copy 62 = .ok (.invokestatic 142, 3) := by decide +kernel
theorem dX10_copy_65 : decode cX10_copy 65 = .ok (.aload_n 0, 1) := by decide +kernel
theorem dX10_copy_66 : decode cX10_copy 66 = .ok (.getfield 32, 3) := by decide +kernel
theorem dX10_copy_69 : decode cX10_copy 69 = .ok (.sipush 600, 3) := by decide +kernel
theorem dX10_copy_72 : decode cX10_copy 72 = .ok (.iload_n 1, 1) := by decide +kernel
theorem dX10_copy_73 : decode cX10_copy 73 = .ok (.iload_n 2, 1) := by decide +kernel
theorem dX10_copy_74 : decode cX10_copy 74 = .ok (.invokestatic 142, 3) := by decide +kernel
theorem dX10_copy_77 : decode cX10_copy 77 = .ok (.aload_n 0, 1) := by decide +kernel
theorem dX10_copy_78 : decode cX10_copy 78 = .ok (.getfield 35, 3) := by decide +kernel
theorem dX10_copy_81 : decode cX10_copy 81 = .ok (.sipush 5400, 3) := by decide +kernel
theorem dX10_copy_84 : decode cX10_copy 84 = .ok (.iload_n 1, 1) := by decide +kernel
theorem dX10_copy_85 : decode cX10_copy 85 = .ok (.iload_n 2, 1) := by decide +kernel
theorem dX10_copy_86 : decode cX10_copy 86 = .ok (.invokestatic 142, 3) := by decide +kernel
theorem dX10_copy_89 : decode cX10_copy 89 = .ok (.aload_n 0, 1) := by decide +kernel
theorem dX10_copy_90 : decode cX10_copy 90 = .ok (.getfield 38, 3) := by decide +kernel
theorem dX10_copy_93 : decode cX10_copy 93 = .ok (.iconst 1, 1) := by decide +kernel
theorem dX10_copy_94 : decode cX10_copy 94 = .ok (.iload_n 1, 1) := by decide +kernel
theorem dX10_copy_95 : decode cX10_copy 95 = .ok (.iload_n 2, 1) := by decide +kernel
theorem dX10_copy_96 : decode cX10_copy 96 = .ok (.invokestatic 142, 3) := by decide +kernel
theorem dX10_copy_99 : decode cX10_copy 99 = .ok (.aload_n 0, 1) := by decide +kernel
theorem dX10_copy_100 : decode cX10_copy 100 = .ok (.getfield 41, 3) := by decide +kernel
theorem dX10_copy_103 : decode cX10_copy 103 = .ok (.sipush 300, 3) := by decide +kernel
theorem dX10_copy_106 : decode cX10_copy 106 = .ok (.iload_n 1, 1) := by decide +kernel
theorem dX10_copy_107 : decode cX10_copy 107 = .ok (.iload_n 2, 1) := by decide +kernel
theorem dX10_copy_108 : decode cX10_copy 108 = .ok (.invokestatic 142, 3) := by decide +kernel
theorem dX10_copy_111 : decode cX10_copy 111 = .ok (.aload_n 0, 1) := by decide +kernel
theorem dX10_copy_112 : decode cX10_copy 112 = .ok (.getfield 44, 3) := by decide +kernel
theorem dX10_copy_115 : decode cX10_copy 115 = .ok (.sipush 300, 3) := by decide +kernel
theorem dX10_copy_118 : decode cX10_copy 118 = .ok (.iload_n 1, 1) := by decide +kernel
theorem dX10_copy_119 : decode cX10_copy 119 = .ok (.iload_n 2, 1) := by decide +kernel
theorem dX10_copy_120 : decode cX10_copy 120 = .ok (.invokestatic 142, 3) := by decide +kernel
theorem dX10_copy_123 : decode cX10_copy 123 = .ok (.aload_n 0, 1) := by decide +kernel
theorem dX10_copy_124 : decode cX10_copy 124 = .ok (.getfield 47, 3) := by decide +kernel
theorem dX10_copy_127 : decode cX10_copy 127 = .ok (.sipush 300, 3) := by decide +kernel
theorem dX10_copy_130 : decode cX10_copy 130 = .ok (.iload_n 1, 1) := by decide +kernel
theorem dX10_copy_131 : decode cX10_copy 131 = .ok (.iload_n 2, 1) := by decide +kernel
theorem dX10_copy_132 : decode cX10_copy 132 = .ok (.invokestatic 142, 3) := by decide +kernel
theorem dX10_copy_135 : decode cX10_copy 135 = .ok (.aload_n 0, 1) := by decide +kernel
theorem dX10_copy_136 : decode cX10_copy 136 = .ok (.getfield 50, 3) := by decide +kernel
theorem dX10_copy_139 : decode cX10_copy 139 = .ok (.sipush 300, 3) := by decide +kernel
theorem dX10_copy_142 : decode cX10_copy 142 = .ok (.iload_n 1, 1) := by decide +kernel
theorem dX10_copy_143 : decode cX10_copy 143 = .ok (.iload_n 2, 1) := by decide +kernel
theorem dX10_copy_144 : decode cX10_copy 144 = .ok (.invokestatic 142, 3) := by decide +kernel
theorem dX10_copy_147 : decode cX10_copy 147 = .ok (.aload_n 0, 1) := by decide +kernel
theorem dX10_copy_148 : decode cX10_copy 148 = .ok (.getfield 53, 3) := by decide +kernel
theorem dX10_copy_151 : decode cX10_copy 151 = .ok (.sipush 300, 3) := by decide +kernel
theorem dX10_copy_154 : decode cX10_copy 154 = .ok (.iload_n 1, 1) := by decide +kernel
theorem dX10_copy_155 : decode cX10_copy 155 = .ok (.iload_n 2, 1) := by decide +kernel
theorem dX10_copy_156 : decode cX10_copy 156 = .ok (.invokestatic 142, 3) := by decide +kernel
theorem dX10_copy_159 : decode cX10_copy 159 = .ok (.aload_n 0, 1) := by decide +kernel
theorem dX10_copy_160 : decode cX10_copy 160 = .ok (.getfield 56, 3) := by decide +kernel
theorem dX10_copy_163 : decode cX10_copy 163 = .ok (.sipush 300, 3) := by decide +kernel
theorem dX10_copy_166 : decode cX10_copy 166 = .ok (.iload_n 1, 1) := by decide +kernel
theorem dX10_copy_167 : decode cX10_copy 167 = .ok (.iload_n 2, 1) := by decide +kernel
theorem dX10_copy_168 : decode cX10_copy 168 = .ok (.invokestatic 142, 3) := by decide +kernel
theorem dX10_copy_171 : decode cX10_copy 171 = .ok (.aload_n 0, 1) := by decide +kernel
theorem dX10_copy_172 : decode cX10_copy 172 = .ok (.getfield 59, 3) := by decide +kernel
theorem dX10_copy_175 : decode cX10_copy 175 = .ok (.iconst 1, 1) := by decide +kernel
theorem dX10_copy_176 : decode cX10_copy 176 = .ok (.iload_n 1, 1) := by decide +kernel
theorem dX10_copy_177 : decode cX10_copy 177 = .ok (.iload_n 2, 1) := by decide +kernel
theorem dX10_copy_178 : decode cX10_copy 178 = .ok (.invokestatic 142, 3) := by decide +kernel
theorem dX10_copy_181 : decode cX10_copy 181 = .ok (.aload_n 0, 1) := by decide +kernel
theorem dX10_copy_182 : decode cX10_copy 182 = .ok (.getfield 62, 3) := by decide +kernel
theorem dX10_copy_185 : decode cX10_copy 185 = .ok (.bipush 100, 2) := by decide +kernel
theorem dX10_copy_187 : decode cX10_copy 187 = .ok (.iload_n 1, 1) := by decide +kernel
theorem dX10_copy_188 : decode cX10_copy 188 = .ok (.iload_n 2, 1) := by decide +kernel
theorem dX10_copy_189 : decode cX10_copy 189 = .ok (.invokestatic 142, 3) := by decide +kernel
theorem dX10_copy_192 : decode cX10_copy 192 = .ok (.aload_n 0, 1) := by decide +kernel
theorem dX10_copy_193 : decode cX10_copy 193 = .ok (.getfield 65, 3) := by decide +kernel
theorem dX10_copy_196 : decode cX10_copy 196 = .ok (.bipush 100, 2) := by decide +kernel
theorem dX10_copy_198 : decode cX10_copy 198 = .ok (.iload_n 1, 1) := by decide +kernel
theorem dX10_copy_199 : decode cX10_copy 199 = .ok (.iload_n 2, 1) := by decide +kernel
theorem dX10_copy_200 : decode cX10_copy 200 = .ok (.invokestatic 142, 3) := by decide +kernel
theorem dX10_copy_203 : decode cX10_copy 203 = .ok (.aload_n 0, 1) := by decide +kernel
theorem dX10_copy_204 : decode cX10_copy 204 = .ok (.getfield 68, 3) := by decide +kernel
theorem dX10_copy_207 : decode cX10_copy 207 = .ok (.bipush 100, 2) := by decide +kernel
theorem dX10_copy_209 : decode cX10_copy 209 = .ok (.iload_n 1, 1) := by decide +kernel
theorem dX10_copy_210 : decode cX10_copy 210 = .ok (.iload_n 2, 1) := by decide +kernel
theorem dX10_copy_211 : decode cX10_copy 211 = .ok (.invokestatic 142, 3) := by decide +kernel
theorem dX10_copy_214 : decode cX10_copy 214 = .ok (.aload_n 0, 1) := by decide +kernel
theorem dX10_copy_215 : decode cX10_copy 215 = .ok (.getfield 71, 3) := by decide +kernel
theorem dX10_copy_218 : decode cX10_copy 218 = .ok (.bipush 100, 2) := by decide +kernel
theorem dX10_copy_220 : decode cX10_copy 220 = .ok (.iload_n 1, 1) := by decide +kernel
theorem dX10_copy_221 : decode cX10_copy 221 = .ok (.iload_n 2, 1) := by decide +kernel
theorem dX10_copy_222 : decode cX10_copy 222 = .ok (.invokestatic 142, 3) := by decide +kernel
theorem dX10_copy_225 : decode cX10_copy 225 = .ok (.aload_n 0, 1) := by decide +kernel
theorem dX10_copy_226 : decode cX10_copy 226 = .ok (.getfield 74, 3) := by decide +kernel
theorem dX10_copy_229 : decode cX10_copy 229 = .ok (.bipush 100, 2) := by decide +kernel
theorem dX10_copy_231 : decode cX10_copy 231 = .ok (.iload_n 1, 1) := by decide +kernel
theorem dX10_copy_232 : decode cX10_copy 232 = .ok (.iload_n 2, 1) := by decide +kernel
theorem dX10_copy_233 : decode cX10_copy 233 = .ok (.invokestatic 142, 3) := by decide +kernel
theorem dX10_copy_236 : decode cX10_copy 236 = .ok (.aload_n 0, 1) := by decide +kernel
theorem dX10_copy_237 : decode cX10_copy 237 = .ok (.getfield 77, 3) := by decide +kernel
theorem dX10_copy_240 : decode cX10_copy 240 = .ok (.bipush 100, 2) := by decide +kernel
theorem dX10_copy_242 : decode cX10_copy 242 = .ok (.iload_n 1, 1) := by decide +kernel
theorem dX10_copy_243 : decode cX10_copy 243 = .ok (.iload_n 2, 1) := by decide +kernel
theorem dX10_copy_244 : decode cX10_copy 244 = .ok (.invokestatic 142, 3) := by decide +kernel
theorem dX10_copy_247 : decode cX10_copy 247 = .ok (.aload_n 0, 1) := by decide +kernel
theorem dX10_copy_248 : decode cX10_copy 248 = .ok (.getfield 80, 3) := by decide +kernel
theorem dX10_copy_251 : decode cX10_copy 251 = .ok (.bipush 100, 2) := by decide +kernel
theorem dX10_copy_253 : decode cX10_copy 253 = .ok (.iload_n 1, 1) := by decide +kernel
theorem dX10_copy_254 : decode cX10_copy 254 = .ok (.iload_n 2, 1) := by decide +kernel
theorem dX10_copy_255 : decode cX10_copy 255 = .ok (.invokestatic 142, 3) := by decide +kernel
theorem dX10_copy_258 : decode cX10_copy 258 = .ok (.aload_n 0, 1) := by decide +kernel
theorem dX10_copy_259 : decode cX10_copy 259 = .ok (.getfield 83, 3) := by decide +kernel
theorem dX10_copy_262 : decode cX10_copy 262 = .ok (.iconst 1, 1) := by decide +kernel
theorem dX10_copy_263 : decode cX10_copy 263 = .ok (.iload_n 1, 1) := by decide +kernel
theorem dX10_copy_264 : decode cX10_copy 264 = .ok (.iload_n 2, 1) := by decide +kernel
theorem dX10_copy_265 : decode cX10_copy 265 = .ok (.invokestatic 142, 3) := by decide +kernel
theorem dX10_copy_268 : decode cX10_copy 268 = .ok (.aload_n 0, 1) := by decide +kernel
theorem dX10_copy_269 : decode cX10_copy 269 = .ok (.getfield 86, 3) := by decide +kernel
theorem dX10_copy_272 : decode cX10_copy 272 = .ok (.iconst 1, 1) := by decide +kernel
theorem dX10_copy_273 : decode cX10_copy 273 = .ok (.iload_n 1, 1) := by decide +kernel
theorem dX10_copy_274 : decode cX10_copy 274 = .ok (.iload_n 2, 1) := by decide +kernel
theorem dX10_copy_275 : decode cX10_copy 275 = .ok (.invokestatic 142, 3) := by decide +kernel
theorem dX10_copy_278 : decode cX10_copy 278 = .ok (.aload_n 0, 1) := by decide +kernel
theorem dX10_copy_279 : decode cX10_copy 279 = .ok (.getfield 89, 3) := by decide +kernel
theorem dX10_copy_282 : decode cX10_copy 282 = .ok (.bipush 16, 2) := by decide +kernel
theorem dX10_copy_284 : decode cX10_copy 284 = .ok (.iload_n 1, 1) := by decide +kernel
theorem dX10_copy_285 : decode cX10_copy 285 = .ok (.iload_n 2, 1) := by decide +kernel
theorem dX10_copy_286 : decode cX10_copy 286 = .ok (.invokestatic 142, 3) := by decide +kernel
theorem dX10_copy_289 : decode cX10_copy 289 = .ok (.aload_n 0, 1) := by decide +kernel
theorem dX10_copy_290 : decode cX10_copy 290 = .ok (.getfield 92, 3) := by decide +kernel
theorem dX10_copy_293 : decode cX10_copy 293 = .ok (.bipush 64, 2) := by decide +kernel
theorem dX10_copy_295 : decode cX10_copy 295 = .ok (.iload_n 1, 1) := by decide +kernel
theorem dX10_copy_296 : decode cX10_copy 296 = .ok (.iload_n 2, 1) := by decide +kernel
theorem dX10_copy_297 : decode cX10_copy 297 = .ok (.invokestatic 142, 3) := by decide +kernel
theorem dX10_copy_300 : decode cX10_copy 300 = .ok (.aload_n 0, 1) := by decide +kernel
theorem dX10_copy_301 : decode cX10_copy 301 = .ok (.getfield 95, 3) := by decide +kernel
theorem dX10_copy_304 : decode cX10_copy 304 = .ok (.bipush 64, 2) := by decide +kernel
theorem dX10_copy_306 : decode cX10_copy 306 = .ok (.iload_n 1, 1) := by decide +kernel
theorem dX10_copy_307 : decode cX10_copy 307 = .ok (.iload_n 2, 1) := by decide +kernel
theorem dX10_copy_308 : decode cX10_copy 308 = .ok (.invokestatic 142, 3) := by decide +kernel
theorem dX10_copy_311 : decode cX10_copy 311 = .ok (.aload_n 0, 1) := by decide +kernel
theorem dX10_copy_312 : decode cX10_copy 312 = .ok (.getfield 98, 3) := by decide +kernel
theorem dX10_copy_315 : decode cX10_copy 315 = .ok (.bipush 64, 2) := by decide +kernel
theorem dX10_copy_317 : decode cX10_copy 317 = .ok (.iload_n 1, 1) := by decide +kernel
theorem dX10_copy_318 : decode cX10_copy 318 = .ok (.iload_n 2, 1) := by decide +kernel
theorem dX10_copy_319 : decode cX10_copy 319 = .ok (.invokestatic 142, 3) := by decide +kernel
theorem dX10_copy_322 : decode cX10_copy 322 = .ok (.aload_n 0, 1) := by decide +kernel
theorem dX10_copy_323 : decode cX10_copy 323 = .ok (.getfield 101, 3) := by decide +kernel
theorem dX10_copy_326 : decode cX10_copy 326 = .ok (.bipush 16, 2) := by decide +kernel
theorem dX10_copy_328 : decode cX10_copy 328 = .ok (.iload_n 1, 1) := by decide +kernel
theorem dX10_copy_329 : decode cX10_copy 329 = .ok (.iload_n 2, 1) := by decide +kernel
theorem dX10_copy_330 : decode cX10_copy 330 = .ok (.invokestatic 142, 3) := by decide +kernel
theorem dX10_copy_333 : decode cX10_copy 333 = .ok (.aload_n 0, 1) := by decide +kernel
theorem dX10_copy_334 : decode cX10_copy 334 = .ok (.getfield 104, 3) := by decide +kernel
theorem dX10_copy_337 : decode cX10_copy 337 = .ok (.bipush 16, 2) := by decide +kernel
theorem dX10_copy_339 : decode cX10_copy 339 = .ok (.iload_n 1, 1) := by decide +kernel
theorem dX10_copy_340 : decode cX10_copy 340 = .ok (.iload_n 2, 1) := by decide +kernel
theorem dX10_copy_341 : decode cX10_copy 341 = .ok (.invokestatic 142, 3) := by decide +kernel
theorem dX10_copy_344 : decode cX10_copy 344 = .ok (.return_, 1) := by decide +kernel
theorem dX10_runs_0 : decode cX10_runs 0 = .ok (.iconst 0, 1) := by decide +kernel
theorem dX10_runs_1 : decode cX10_runs 1 = .ok (.istore_n 1, 1) := by decide +kernel
theorem dX10_runs_2 : decode cX10_runs 2 = .ok (.iconst 0, 1) := by decide +kernel
theorem dX10_runs_3 : decode cX10_runs 3 = .ok (.istore_n 2, 1) := by decide +kernel
theorem dX10_runs_4 : decode cX10_runs 4 = .ok (.iload_n 2, 1) := by decide +kernel
theorem dX10_runs_5 : decode cX10_runs 5 = .ok (.bipush 60, 2) := by decide +kernel
theorem dX10_runs_7 : decode cX10_runs 7 = .ok (.if_icmp .ge 26, 3) := by decide +kernel
theorem dX10_runs_10 : decode cX10_runs 10 = .ok (.iload_n 1, 1) := by decide +kernel
theorem dX10_runs_11 : decode cX10_runs 11 = .ok (.aload_n 0, 1) := by decide +kernel
theorem dX10_runs_12 : decode cX10_runs 12 = .ok (.getfield 29, 3) := by decide +kernel
theorem dX10_runs_15 : decode cX10_runs 15 = .ok (.iload_n 2, 1) := by decide +kernel
theorem dX10_runs_16 : decode cX10_runs 16 = .ok (.iaload, 1) := by decide +kernel
theorem dX10_runs_17 : decode cX10_runs 17 = .ok (.ifCond .le 7, 3) := by decide +kernel
theorem dX10_runs_20 : decode cX10_runs 20 = .ok (.iconst 1, 1) := by decide +kernel
theorem dX10_runs_21 : decode cX10_runs 21 = .ok (.goto 4, 3) := by decide +kernel
theorem dX10_runs_24 : decode cX10_runs 24 = .ok (.iconst 0, 1) := by decide +kernel
theorem dX10_runs_25 : decode cX10_runs 25 = .ok (.iadd, 1) := by decide +kernel
theorem dX10_runs_26 : decode cX10_runs 26 = .ok (.istore_n 1, 1) := by decide +kernel
theorem dX10_runs_27 : decode cX10_runs 27 = .ok (.iinc 2 1, 3) := by decide +kernel
theorem dX10_runs_30 : decode cX10_runs 30 = .ok (.goto (-26), 3) := by decide +kernel
theorem dX10_runs_33 : decode cX10_runs 33 = .ok (.iload_n 1, 1) := by decide +kernel
theorem dX10_runs_34 : decode cX10_runs 34 = .ok (.ireturn, 1) := by decide +kernel
set_option maxRecDepth 20000 in
theorem ggX10_isRun_X10_in : GoodIn wsX10_isRun wsX10_in := goodIn_sub (gw_c (gw_t (gw_l (gw_g 4 rfl))) gw_n) (by decide +kernel)
set_option maxRecDepth 20000 in
theorem gX10_isRun_X10_in : GoodIn wsX10_isRun (va_wsS RX10 146 yX10_in wsX10_in) := goodIn_app (goodIn_sub (gw_c (gw_t (gw_l (gw_g 1 rfl))) (gw_c (gw_t (gw_l (gw_g 2 rfl))) (gw_c (gw_t (gw_l (gw_g 3 rfl))) gw_n))) (by decide +kernel)) ggX10_isRun_X10_in
theorem dX10_isRun_0 : decode cX10_isRun 0 = .ok (.iload_n 1, 1) := by decide +kernel
theorem dX10_isRun_1 : decode cX10_isRun 1 = .ok (.iconst 0, 1) := by decide +kernel
theorem dX10_isRun_2 : decode cX10_isRun 2 = .ok (.bipush 59, 2) := by decide +kernel
theorem dX10_isRun_4 : decode cX10_isRun 4 = .ok (.invokestatic 146, 3) := by decide +kernel
theorem dX10_isRun_7 : decode cX10_isRun 7 = .ok (.ifCond .eq 16, 3) := by decide +kernel
theorem dX10_isRun_10 : decode cX10_isRun 10 = .ok (.aload_n 0, 1) := by decide +kernel
theorem dX10_isRun_11 : decode cX10_isRun 11 = .ok (.getfield 29, 3) := by decide +kernel
theorem dX10_isRun_14 : decode cX10_isRun 14 = .ok (.iload_n 1, 1) := by decide +kernel
theorem dX10_isRun_15 : decode cX10_isRun 15 = .ok (.iaload, 1) := by decide +kernel
theorem dX10_isRun_16 : decode cX10_isRun 16 = .ok (.ifCond .le 7, 3) := by decide +kernel
theorem dX10_isRun_19 : decode cX10_isRun 19 = .ok (.iconst 1, 1) := by decide +kernel
theorem dX10_isRun_20 : decode cX10_isRun 20 = .ok (.goto 4, 3) := by decide +kernel
theorem dX10_isRun_23 : decode cX10_isRun 23 = .ok (.iconst 0, 1) := by decide +kernel
theorem dX10_isRun_24 : decode cX10_isRun 24 = .ok (.ireturn, 1) := by decide +kernel
set_option maxRecDepth 20000 in
theorem ggX10_isOffice_X10_in : GoodIn wsX10_isOffice wsX10_in := goodIn_sub (gw_c (gw_t (gw_g 3 rfl)) gw_n) (by decide +kernel)
set_option maxRecDepth 20000 in
theorem gX10_isOffice_X10_in : GoodIn wsX10_isOffice (va_wsS RX10 146 yX10_in wsX10_in) := goodIn_app (goodIn_sub (gw_c (gw_t (gw_g 0 rfl)) (gw_c (gw_t (gw_g 1 rfl)) (gw_c (gw_t (gw_g 2 rfl)) gw_n))) (by decide +kernel)) ggX10_isOffice_X10_in
theorem dX10_isOffice_0 : decode cX10_isOffice 0 = .ok (.iload_n 1, 1) := by decide +kernel
theorem dX10_isOffice_1 : decode cX10_isOffice 1 = .ok (.iconst 0, 1) := by decide +kernel
theorem dX10_isOffice_2 : decode cX10_isOffice 2 = .ok (.iconst 5, 1) := by decide +kernel
theorem dX10_isOffice_3 : decode cX10_isOffice 3 = .ok (.invokestatic 146, 3) := by decide +kernel
theorem dX10_isOffice_6 : decode cX10_isOffice 6 = .ok (.ireturn, 1) := by decide +kernel
theorem dX10_upTo_0 : decode cX10_upTo 0 = .ok (.iconst 0, 1) := by decide +kernel
theorem dX10_upTo_1 : decode cX10_upTo 1 = .ok (.istore_n 2, 1) := by decide +kernel
theorem dX10_upTo_2 : decode cX10_upTo 2 = .ok (.iconst 0, 1) := by decide +kernel
theorem dX10_upTo_3 : decode cX10_upTo 3 = .ok (.istore_n 3, 1) := by decide +kernel
theorem dX10_upTo_4 : decode cX10_upTo 4 = .ok (.iload_n 3, 1) := by decide +kernel
theorem dX10_upTo_5 : decode cX10_upTo 5 = .ok (.iload_n 1, 1) := by decide +kernel
theorem dX10_upTo_6 : decode cX10_upTo 6 = .ok (.if_icmp .ge 18, 3) := by decide +kernel
theorem dX10_upTo_9 : decode cX10_upTo 9 = .ok (.iload_n 2, 1) := by decide +kernel
theorem dX10_upTo_10 : decode cX10_upTo 10 = .ok (.aload_n 0, 1) := by decide +kernel
theorem dX10_upTo_11 : decode cX10_upTo 11 = .ok (.getfield 20, 3) := by decide +kernel
theorem dX10_upTo_14 : decode cX10_upTo 14 = .ok (.iload_n 3, 1) := by decide +kernel
theorem dX10_upTo_15 : decode cX10_upTo 15 = .ok (.iaload, 1) := by decide +kernel
theorem dX10_upTo_16 : decode cX10_upTo 16 = .ok (.iadd, 1) := by decide +kernel
theorem dX10_upTo_17 : decode cX10_upTo 17 = .ok (.istore_n 2, 1) := by decide +kernel
theorem dX10_upTo_18 : decode cX10_upTo 18 = .ok (.iinc 3 1, 3) := by decide +kernel
theorem dX10_upTo_21 : decode cX10_upTo 21 = .ok (.goto (-17), 3) := by decide +kernel
theorem dX10_upTo_24 : decode cX10_upTo 24 = .ok (.iload_n 2, 1) := by decide +kernel
theorem dX10_upTo_25 : decode cX10_upTo 25 = .ok (.ireturn, 1) := by decide +kernel
set_option maxRecDepth 20000 in
theorem ggX10_leaves_X10_upTo : GoodIn wsX10_leaves wsX10_upTo := goodIn_sub (gw_c (gw_t (gw_l (gw_g 4 rfl))) (gw_a (gw_c (gw_t (gw_l (gw_g 5 rfl))) gw_n) gw_X10_leaves_X100)) (by decide +kernel)
set_option maxRecDepth 20000 in
theorem gX10_leaves_X10_upTo : GoodIn wsX10_leaves (wsV RX10 150 RX10 yX10_upTo wsX10_upTo) := goodIn_app (goodIn_sub (gw_c (gw_t (gw_l (gw_g 0 rfl))) (gw_c (gw_t (gw_l (gw_g 1 rfl))) (gw_c (gw_t (gw_l (gw_g 2 rfl))) (gw_c (gw_t (gw_l (gw_g 3 rfl))) gw_n)))) (by decide +kernel)) ggX10_leaves_X10_upTo
theorem dX10_leaves_0 : decode cX10_leaves 0 = .ok (.bipush 24, 2) := by decide +kernel
theorem dX10_leaves_2 : decode cX10_leaves 2 = .ok (.iload_n 1, 1) := by decide +kernel
theorem dX10_leaves_3 : decode cX10_leaves 3 = .ok (.imul, 1) := by decide +kernel
theorem dX10_leaves_4 : decode cX10_leaves 4 = .ok (.aload_n 0, 1) := by decide +kernel
theorem dX10_leaves_5 : decode cX10_leaves 5 = .ok (.iload_n 2, 1) := by decide +kernel
theorem dX10_leaves_6 : decode cX10_leaves 6 = .ok (.invokevirtual 150, 3) := by decide +kernel
theorem dX10_leaves_9 : decode cX10_leaves 9 = .ok (.iadd, 1) := by decide +kernel
theorem dX10_leaves_10 : decode cX10_leaves 10 = .ok (.ireturn, 1) := by decide +kernel
theorem dX10_at_0 : decode cX10_at 0 = .ok (.bipush 9, 2) := by decide +kernel
theorem dX10_at_2 : decode cX10_at 2 = .ok (.bipush 10, 2) := by decide +kernel
theorem dX10_at_4 : decode cX10_at 4 = .ok (.iload_n 1, 1) := by decide +kernel
theorem dX10_at_5 : decode cX10_at 5 = .ok (.imul, 1) := by decide +kernel
theorem dX10_at_6 : decode cX10_at 6 = .ok (.iload_n 2, 1) := by decide +kernel
theorem dX10_at_7 : decode cX10_at 7 = .ok (.iadd, 1) := by decide +kernel
theorem dX10_at_8 : decode cX10_at 8 = .ok (.imul, 1) := by decide +kernel
theorem dX10_at_9 : decode cX10_at 9 = .ok (.iload_n 3, 1) := by decide +kernel
theorem dX10_at_10 : decode cX10_at 10 = .ok (.iadd, 1) := by decide +kernel
theorem dX10_at_11 : decode cX10_at 11 = .ok (.ireturn, 1) := by decide +kernel
set_option maxRecDepth 20000 in
theorem ggX10_line_X10_runs : GoodIn wsX10_line wsX10_runs := goodIn_sub (gw_c (gw_t (gw_l (gw_g 9 rfl))) (gw_a (gw_c (gw_t (gw_l (gw_g 10 rfl))) gw_n) gw_X10_line_X100)) (by decide +kernel)
set_option maxRecDepth 20000 in
theorem gX10_line_X10_runs : GoodIn wsX10_line (wsV RX10 154 RX10 yX10_runs wsX10_runs) := goodIn_app (goodIn_sub (gw_c (gw_t (gw_l (gw_g 5 rfl))) (gw_c (gw_t (gw_l (gw_g 6 rfl))) (gw_c (gw_t (gw_l (gw_g 7 rfl))) (gw_c (gw_t (gw_l (gw_g 8 rfl))) gw_n)))) (by decide +kernel)) ggX10_line_X10_runs
set_option maxRecDepth 20000 in
theorem ggX10_line_X10_in : GoodIn wsX10_line wsX10_in := goodIn_sub (gw_c (gw_t (gw_l (gw_g 13 rfl))) gw_n) (by decide +kernel)
set_option maxRecDepth 20000 in
theorem gX10_line_X10_in : GoodIn wsX10_line (va_wsS RX10 146 yX10_in wsX10_in) := goodIn_app (goodIn_sub (gw_c (gw_t (gw_l (gw_g 11 rfl))) (gw_c (gw_t (gw_l (gw_g 12 rfl))) (gw_c (gw_t (gw_l (gw_g 8 rfl))) gw_n))) (by decide +kernel)) ggX10_line_X10_in
theorem dX10_line_0 : decode cX10_line 0 = .ok (.aload_n 0, 1) := by decide +kernel
theorem dX10_line_1 : decode cX10_line 1 = .ok (.iconst 0, 1) := by decide +kernel
theorem dX10_line_2 : decode cX10_line 2 = .ok (.putfield 139, 3) := by decide +kernel
theorem dX10_line_5 : decode cX10_line 5 = .ok (.aload_n 0, 1) := by decide +kernel
theorem dX10_line_6 : decode cX10_line 6 = .ok (.invokevirtual 154, 3) := by decide +kernel
theorem dX10_line_9 : decode cX10_line 9 = .ok (.ifCond .gt 13, 3) := by decide +kernel
theorem dX10_line_12 : decode cX10_line 12 = .ok (.iload_n 1, 1) := by decide +kernel
theorem dX10_line_13 : decode cX10_line 13 = .ok (.iconst 2, 1) := by decide +kernel
theorem dX10_line_14 : decode cX10_line 14 = .ok (.bipush 10, 2) := by decide +kernel
theorem dX10_line_16 : decode cX10_line 16 = .ok (.invokestatic 146, 3) := by decide +kernel
theorem dX10_line_19 : decode cX10_line 19 = .ok (.ifCond .ne 5, 3) := by decide +kernel
theorem dX10_line_22 : decode cX10_line 22 = .ok (.iconst 0, 1) := by decide +kernel
theorem dX10_line_23 : decode cX10_line 23 = .ok (.ireturn, 1) := by decide +kernel
theorem dX10_line_24 : decode cX10_line 24 = .ok (.aload_n 0, 1) := by decide +kernel
theorem dX10_line_25 : decode cX10_line 25 = .ok (.getfield 13, 3) := by decide +kernel
theorem dX10_line_28 : decode cX10_line 28 = .ok (.iconst 0, 1) := by decide +kernel
theorem dX10_line_29 : decode cX10_line 29 = .ok (.iload_n 1, 1) := by decide +kernel
theorem dX10_line_30 : decode cX10_line 30 = .ok (.iastore, 1) := by decide +kernel
theorem dX10_line_31 : decode cX10_line 31 = .ok (.iconst 0, 1) := by decide +kernel
theorem dX10_line_32 : decode cX10_line 32 = .ok (.istore_n 2, 1) := by decide +kernel
theorem dX10_line_33 : decode cX10_line 33 = .ok (.iload_n 2, 1) := by decide +kernel
theorem dX10_line_34 : decode cX10_line 34 = .ok (.bipush 9, 2) := by decide +kernel
theorem dX10_line_36 : decode cX10_line 36 = .ok (.if_icmp .ge 23, 3) := by decide +kernel
theorem dX10_line_39 : decode cX10_line 39 = .ok (.aload_n 0, 1) := by decide +kernel
theorem dX10_line_40 : decode cX10_line 40 = .ok (.getfield 17, 3) := by decide +kernel
theorem dX10_line_43 : decode cX10_line 43 = .ok (.iload_n 2, 1) := by decide +kernel
theorem dX10_line_44 : decode cX10_line 44 = .ok (.iconst 1, 1) := by decide +kernel
theorem dX10_line_45 : decode cX10_line 45 = .ok (.iastore, 1) := by decide +kernel
theorem dX10_line_46 : decode cX10_line 46 = .ok (.aload_n 0, 1) := by decide +kernel
theorem dX10_line_47 : decode cX10_line 47 = .ok (.getfield 20, 3) := by decide +kernel
theorem dX10_line_50 : decode cX10_line 50 = .ok (.iload_n 2, 1) := by decide +kernel
theorem dX10_line_51 : decode cX10_line 51 = .ok (.iconst 1, 1) := by decide +kernel
theorem dX10_line_52 : decode cX10_line 52 = .ok (.iastore, 1) := by decide +kernel
theorem dX10_line_53 : decode cX10_line 53 = .ok (.iinc 2 1, 3) := by decide +kernel
theorem dX10_line_56 : decode cX10_line 56 = .ok (.goto (-23), 3) := by decide +kernel
theorem dX10_line_59 : decode cX10_line 59 = .ok (.iconst 0, 1) := by decide +kernel
theorem dX10_line_60 : decode cX10_line 60 = .ok (.istore_n 2, 1) := by decide +kernel
theorem dX10_line_61 : decode cX10_line 61 = .ok (.iload_n 2, 1) := by decide +kernel
theorem dX10_line_62 : decode cX10_line 62 = .ok (.bipush 6, 2) := by decide +kernel
theorem dX10_line_64 : decode cX10_line 64 = .ok (.if_icmp .ge 16, 3) := by decide +kernel
theorem dX10_line_67 : decode cX10_line 67 = .ok (.aload_n 0, 1) := by decide +kernel
theorem dX10_line_68 : decode cX10_line 68 = .ok (.getfield 23, 3) := by decide +kernel
theorem dX10_line_71 : decode cX10_line 71 = .ok (.iload_n 2, 1) := by decide +kernel
theorem dX10_line_72 : decode cX10_line 72 = .ok (.iconst 0, 1) := by decide +kernel
theorem dX10_line_73 : decode cX10_line 73 = .ok (.iastore, 1) := by decide +kernel
theorem dX10_line_74 : decode cX10_line 74 = .ok (.iinc 2 1, 3) := by decide +kernel
theorem dX10_line_77 : decode cX10_line 77 = .ok (.goto (-16), 3) := by decide +kernel
theorem dX10_line_80 : decode cX10_line 80 = .ok (.iconst 1, 1) := by decide +kernel
theorem dX10_line_81 : decode cX10_line 81 = .ok (.ireturn, 1) := by decide +kernel
set_option maxRecDepth 20000 in
theorem ggX10_stretch_X10_runs : GoodIn wsX10_stretch wsX10_runs := goodIn_sub (gw_c (gw_t (gw_l (gw_g 8 rfl))) (gw_a (gw_c (gw_t (gw_l (gw_g 9 rfl))) gw_n) gw_X10_stretch_X100)) (by decide +kernel)
set_option maxRecDepth 20000 in
theorem gX10_stretch_X10_runs : GoodIn wsX10_stretch (wsV RX10 154 RX10 yX10_runs wsX10_runs) := goodIn_app (goodIn_sub (gw_c (gw_t (gw_l (gw_g 4 rfl))) (gw_c (gw_t (gw_l (gw_g 5 rfl))) (gw_c (gw_t (gw_l (gw_g 6 rfl))) (gw_c (gw_t (gw_l (gw_g 7 rfl))) gw_n)))) (by decide +kernel)) ggX10_stretch_X10_runs
set_option maxRecDepth 20000 in
theorem ggX10_stretch_X10_in : GoodIn wsX10_stretch wsX10_in := goodIn_sub (gw_c (gw_t (gw_l (gw_g 12 rfl))) gw_n) (by decide +kernel)
set_option maxRecDepth 20000 in
theorem gX10_stretch_X10_in : GoodIn wsX10_stretch (va_wsS RX10 146 yX10_in wsX10_in) := goodIn_app (goodIn_sub (gw_c (gw_t (gw_l (gw_g 10 rfl))) (gw_c (gw_t (gw_l (gw_g 11 rfl))) (gw_c (gw_t (gw_l (gw_g 7 rfl))) gw_n))) (by decide +kernel)) ggX10_stretch_X10_in
theorem dX10_stretch_0 : decode cX10_stretch 0 = .ok (.aload_n 0, 1) := by decide +kernel
theorem dX10_stretch_1 : decode cX10_stretch 1 = .ok (.iconst 0, 1) := by decide +kernel
theorem dX10_stretch_2 : decode cX10_stretch 2 = .ok (.putfield 139, 3) := by decide +kernel
theorem dX10_stretch_5 : decode cX10_stretch 5 = .ok (.aload_n 0, 1) := by decide +kernel
theorem dX10_stretch_6 : decode cX10_stretch 6 = .ok (.invokevirtual 154, 3) := by decide +kernel
theorem dX10_stretch_9 : decode cX10_stretch 9 = .ok (.ifCond .gt 40, 3) := by decide +kernel
theorem dX10_stretch_12 : decode cX10_stretch 12 = .ok (.iload_n 1, 1) := by decide +kernel
theorem dX10_stretch_13 : decode cX10_stretch 13 = .ok (.iconst 0, 1) := by decide +kernel
theorem dX10_stretch_14 : decode cX10_stretch 14 = .ok (.aload_n 0, 1) := by decide +kernel
theorem dX10_stretch_15 : decode cX10_stretch 15 = .ok (.getfield 13, 3) := by decide +kernel
theorem dX10_stretch_18 : decode cX10_stretch 18 = .ok (.iconst 0, 1) := by decide +kernel
theorem dX10_stretch_19 : decode cX10_stretch 19 = .ok (.iaload, 1) := by decide +kernel
theorem dX10_stretch_20 : decode cX10_stretch 20 = .ok (.iconst 2, 1) := by decide +kernel
theorem dX10_stretch_21 : decode cX10_stretch 21 = .ok (.isub, 1) := by decide +kernel
theorem dX10_stretch_22 : decode cX10_stretch 22 = .ok (.invokestatic 146, 3) := by decide +kernel
theorem dX10_stretch_25 : decode cX10_stretch 25 = .ok (.ifCond .eq 24, 3) := by decide +kernel
theorem dX10_stretch_28 : decode cX10_stretch 28 = .ok (.iload_n 2, 1) := by decide +kernel
theorem dX10_stretch_29 : decode cX10_stretch 29 = .ok (.iconst 1, 1) := by decide +kernel
theorem dX10_stretch_30 : decode cX10_stretch 30 = .ok (.sipush 500, 3) := by decide +kernel
theorem dX10_stretch_33 : decode cX10_stretch 33 = .ok (.invokestatic 146, 3) := by decide +kernel
theorem dX10_stretch_36 : decode cX10_stretch 36 = .ok (.ifCond .eq 13, 3) := by decide +kernel
theorem dX10_stretch_39 : decode cX10_stretch 39 = .ok (.iload_n 3, 1) := by decide +kernel
theorem dX10_stretch_40 : decode cX10_stretch 40 = .ok (.iconst 1, 1) := by decide +kernel
theorem dX10_stretch_41 : decode cX10_stretch 41 = .ok (.bipush 24, 2) := by decide +kernel
theorem dX10_stretch_43 : decode cX10_stretch 43 = .ok (.invokestatic 146, 3) := by decide +kernel
theorem dX10_stretch_46 : decode cX10_stretch 46 = .ok (.ifCond .ne 5, 3) := by decide +kernel
theorem dX10_stretch_49 : decode cX10_stretch 49 = .ok (.iconst 0, 1) := by decide +kernel
theorem dX10_stretch_50 : decode cX10_stretch 50 = .ok (.ireturn, 1) := by decide +kernel
theorem dX10_stretch_51 : decode cX10_stretch 51 = .ok (.aload_n 0, 1) := by decide +kernel
theorem dX10_stretch_52 : decode cX10_stretch 52 = .ok (.getfield 17, 3) := by decide +kernel
theorem dX10_stretch_55 : decode cX10_stretch 55 = .ok (.iload_n 1, 1) := by decide +kernel
theorem dX10_stretch_56 : decode cX10_stretch 56 = .ok (.iload_n 2, 1) := by decide +kernel
theorem dX10_stretch_57 : decode cX10_stretch 57 = .ok (.iastore, 1) := by decide +kernel
theorem dX10_stretch_58 : decode cX10_stretch 58 = .ok (.aload_n 0, 1) := by decide +kernel
theorem dX10_stretch_59 : decode cX10_stretch 59 = .ok (.getfield 20, 3) := by decide +kernel
theorem dX10_stretch_62 : decode cX10_stretch 62 = .ok (.iload_n 1, 1) := by decide +kernel
theorem dX10_stretch_63 : decode cX10_stretch 63 = .ok (.iload_n 3, 1) := by decide +kernel
theorem dX10_stretch_64 : decode cX10_stretch 64 = .ok (.iastore, 1) := by decide +kernel
theorem dX10_stretch_65 : decode cX10_stretch 65 = .ok (.iconst 1, 1) := by decide +kernel
theorem dX10_stretch_66 : decode cX10_stretch 66 = .ok (.ireturn, 1) := by decide +kernel
set_option maxRecDepth 20000 in
theorem ggX10_office_X10_runs : GoodIn wsX10_office wsX10_runs := goodIn_sub (gw_c (gw_t (gw_l (gw_g 7 rfl))) (gw_a (gw_c (gw_t (gw_l (gw_g 8 rfl))) gw_n) gw_X10_office_X100)) (by decide +kernel)
set_option maxRecDepth 20000 in
theorem gX10_office_X10_runs : GoodIn wsX10_office (wsV RX10 154 RX10 yX10_runs wsX10_runs) := goodIn_app (goodIn_sub (gw_c (gw_t (gw_l (gw_g 3 rfl))) (gw_c (gw_t (gw_l (gw_g 4 rfl))) (gw_c (gw_t (gw_l (gw_g 5 rfl))) (gw_c (gw_t (gw_l (gw_g 6 rfl))) gw_n)))) (by decide +kernel)) ggX10_office_X10_runs
set_option maxRecDepth 20000 in
theorem ggX10_office_X10_isOffice : GoodIn wsX10_office wsX10_isOffice := goodIn_sub (gw_c (gw_t (gw_l (gw_g 12 rfl))) (gw_c (gw_t (gw_l (gw_g 13 rfl))) (gw_c (gw_t (gw_l (gw_g 14 rfl))) (gw_c (gw_t (gw_l (gw_g 6 rfl))) (gw_c (gw_t (gw_l (gw_g 15 rfl))) gw_n))))) (by decide +kernel)
set_option maxRecDepth 20000 in
theorem gX10_office_X10_isOffice : GoodIn wsX10_office (wsV RX10 158 RX10 yX10_isOffice wsX10_isOffice) := goodIn_app (goodIn_sub (gw_c (gw_t (gw_l (gw_g 9 rfl))) (gw_c (gw_t (gw_l (gw_g 10 rfl))) (gw_c (gw_t (gw_l (gw_g 11 rfl))) (gw_c (gw_t (gw_l (gw_g 6 rfl))) gw_n)))) (by decide +kernel)) ggX10_office_X10_isOffice
set_option maxRecDepth 20000 in
theorem ggX10_office_X10_in : GoodIn wsX10_office wsX10_in := goodIn_sub (gw_c (gw_t (gw_l (gw_g 15 rfl))) gw_n) (by decide +kernel)
set_option maxRecDepth 20000 in
theorem gX10_office_X10_in : GoodIn wsX10_office (va_wsS RX10 146 yX10_in wsX10_in) := goodIn_app (goodIn_sub (gw_c (gw_t (gw_l (gw_g 13 rfl))) (gw_c (gw_t (gw_l (gw_g 14 rfl))) (gw_c (gw_t (gw_l (gw_g 6 rfl))) gw_n))) (by decide +kernel)) ggX10_office_X10_in
theorem dX10_office_0 : decode cX10_office 0 = .ok (.aload_n 0, 1) := by decide +kernel
theorem dX10_office_1 : decode cX10_office 1 = .ok (.iconst 0, 1) := by decide +kernel
theorem dX10_office_2 : decode cX10_office 2 = .ok (.putfield 139, 3) := by decide +kernel
theorem dX10_office_5 : decode cX10_office 5 = .ok (.aload_n 0, 1) := by decide +kernel
theorem dX10_office_6 : decode cX10_office 6 = .ok (.invokevirtual 154, 3) := by decide +kernel
theorem dX10_office_9 : decode cX10_office 9 = .ok (.ifCond .gt 27, 3) := by decide +kernel
theorem dX10_office_12 : decode cX10_office 12 = .ok (.aload_n 0, 1) := by decide +kernel
theorem dX10_office_13 : decode cX10_office 13 = .ok (.iload_n 1, 1) := by decide +kernel
theorem dX10_office_14 : decode cX10_office 14 = .ok (.invokevirtual 158, 3) := by decide +kernel
theorem dX10_office_17 : decode cX10_office 17 = .ok (.ifCond .eq 19, 3) := by decide +kernel
theorem dX10_office_20 : decode cX10_office 20 = .ok (.iload_n 2, 1) := by decide +kernel
theorem dX10_office_21 : decode cX10_office 21 = .ok (.iconst 0, 1) := by decide +kernel
theorem dX10_office_22 : decode cX10_office 22 = .ok (.aload_n 0, 1) := by decide +kernel
theorem dX10_office_23 : decode cX10_office 23 = .ok (.getfield 13, 3) := by decide +kernel
theorem dX10_office_26 : decode cX10_office 26 = .ok (.iconst 0, 1) := by decide +kernel
theorem dX10_office_27 : decode cX10_office 27 = .ok (.iaload, 1) := by decide +kernel
theorem dX10_office_28 : decode cX10_office 28 = .ok (.iconst 1, 1) := by decide +kernel
theorem dX10_office_29 : decode cX10_office 29 = .ok (.isub, 1) := by decide +kernel
theorem dX10_office_30 : decode cX10_office 30 = .ok (.invokestatic 146, 3) := by decide +kernel
theorem dX10_office_33 : decode cX10_office 33 = .ok (.ifCond .ne 5, 3) := by decide +kernel
theorem dX10_office_36 : decode cX10_office 36 = .ok (.iconst 0, 1) := by decide +kernel
theorem dX10_office_37 : decode cX10_office 37 = .ok (.ireturn, 1) := by decide +kernel
theorem dX10_office_38 : decode cX10_office 38 = .ok (.aload_n 0, 1) := by decide +kernel
theorem dX10_office_39 : decode cX10_office 39 = .ok (.getfield 23, 3) := by decide +kernel
theorem dX10_office_42 : decode cX10_office 42 = .ok (.iload_n 1, 1) := by decide +kernel
theorem dX10_office_43 : decode cX10_office 43 = .ok (.iload_n 2, 1) := by decide +kernel
theorem dX10_office_44 : decode cX10_office 44 = .ok (.iastore, 1) := by decide +kernel
theorem dX10_office_45 : decode cX10_office 45 = .ok (.iconst 1, 1) := by decide +kernel
theorem dX10_office_46 : decode cX10_office 46 = .ok (.ireturn, 1) := by decide +kernel
set_option maxRecDepth 20000 in
theorem ggX10_share_X10_in : GoodIn wsX10_share wsX10_in := goodIn_sub (gw_c (gw_t (gw_l (gw_g 5 rfl))) gw_n) (by decide +kernel)
set_option maxRecDepth 20000 in
theorem gX10_share_X10_in : GoodIn wsX10_share (va_wsS RX10 146 yX10_in wsX10_in) := goodIn_app (goodIn_sub (gw_c (gw_t (gw_l (gw_g 2 rfl))) (gw_c (gw_t (gw_l (gw_g 3 rfl))) (gw_c (gw_t (gw_l (gw_g 4 rfl))) gw_n))) (by decide +kernel)) ggX10_share_X10_in
set_option maxRecDepth 20000 in
theorem ggX10_share_X10_isOffice : GoodIn wsX10_share wsX10_isOffice := goodIn_sub (gw_c (gw_t (gw_l (gw_g 9 rfl))) (gw_c (gw_t (gw_l (gw_g 2 rfl))) (gw_c (gw_t (gw_l (gw_g 3 rfl))) (gw_c (gw_t (gw_l (gw_g 4 rfl))) (gw_c (gw_t (gw_l (gw_g 5 rfl))) gw_n))))) (by decide +kernel)
set_option maxRecDepth 20000 in
theorem gX10_share_X10_isOffice : GoodIn wsX10_share (wsV RX10 158 RX10 yX10_isOffice wsX10_isOffice) := goodIn_app (goodIn_sub (gw_c (gw_t (gw_l (gw_g 6 rfl))) (gw_c (gw_t (gw_l (gw_g 7 rfl))) (gw_c (gw_t (gw_l (gw_g 8 rfl))) (gw_c (gw_t (gw_l (gw_g 4 rfl))) gw_n)))) (by decide +kernel)) ggX10_share_X10_isOffice
theorem dX10_share_0 : decode cX10_share 0 = .ok (.aload_n 0, 1) := by decide +kernel
theorem dX10_share_1 : decode cX10_share 1 = .ok (.iconst 0, 1) := by decide +kernel
theorem dX10_share_2 : decode cX10_share 2 = .ok (.putfield 139, 3) := by decide +kernel
theorem dX10_share_5 : decode cX10_share 5 = .ok (.iload_n 1, 1) := by decide +kernel
theorem dX10_share_6 : decode cX10_share 6 = .ok (.iconst 0, 1) := by decide +kernel
theorem dX10_share_7 : decode cX10_share 7 = .ok (.bipush 9, 2) := by decide +kernel
theorem dX10_share_9 : decode cX10_share 9 = .ok (.invokestatic 146, 3) := by decide +kernel
theorem dX10_share_12 : decode cX10_share 12 = .ok (.ifCond .eq 11, 3) := by decide +kernel
theorem dX10_share_15 : decode cX10_share 15 = .ok (.aload_n 0, 1) := by decide +kernel
theorem dX10_share_16 : decode cX10_share 16 = .ok (.iload_n 2, 1) := by decide +kernel
theorem dX10_share_17 : decode cX10_share 17 = .ok (.invokevirtual 158, 3) := by decide +kernel
theorem dX10_share_20 : decode cX10_share 20 = .ok (.ifCond .ne 5, 3) := by decide +kernel
theorem dX10_share_23 : decode cX10_share 23 = .ok (.iconst 0, 1) := by decide +kernel
theorem dX10_share_24 : decode cX10_share 24 = .ok (.ireturn, 1) := by decide +kernel
theorem dX10_share_25 : decode cX10_share 25 = .ok (.aload_n 0, 1) := by decide +kernel
theorem dX10_share_26 : decode cX10_share 26 = .ok (.getfield 26, 3) := by decide +kernel
theorem dX10_share_29 : decode cX10_share 29 = .ok (.iload_n 1, 1) := by decide +kernel
theorem dX10_share_30 : decode cX10_share 30 = .ok (.iload_n 2, 1) := by decide +kernel
theorem dX10_share_31 : decode cX10_share 31 = .ok (.iastore, 1) := by decide +kernel
theorem dX10_share_32 : decode cX10_share 32 = .ok (.iconst 1, 1) := by decide +kernel
theorem dX10_share_33 : decode cX10_share 33 = .ok (.ireturn, 1) := by decide +kernel
set_option maxRecDepth 20000 in
theorem ggX10_run_X10_in : GoodIn wsX10_run wsX10_in := goodIn_sub (gw_c (gw_t (gw_l (gw_g 8 rfl))) gw_n) (by decide +kernel)
set_option maxRecDepth 20000 in
theorem gX10_run_X10_in : GoodIn wsX10_run (va_wsS RX10 146 yX10_in wsX10_in) := goodIn_app (goodIn_sub (gw_c (gw_t (gw_l (gw_g 5 rfl))) (gw_c (gw_t (gw_l (gw_g 6 rfl))) (gw_c (gw_t (gw_l (gw_g 7 rfl))) gw_n))) (by decide +kernel)) ggX10_run_X10_in
theorem dX10_run_0 : decode cX10_run 0 = .ok (.aload_n 0, 1) := by decide +kernel
theorem dX10_run_1 : decode cX10_run 1 = .ok (.iconst 0, 1) := by decide +kernel
theorem dX10_run_2 : decode cX10_run 2 = .ok (.putfield 139, 3) := by decide +kernel
theorem dX10_run_5 : decode cX10_run 5 = .ok (.iload_n 1, 1) := by decide +kernel
theorem dX10_run_6 : decode cX10_run 6 = .ok (.iconst 0, 1) := by decide +kernel
theorem dX10_run_7 : decode cX10_run 7 = .ok (.bipush 59, 2) := by decide +kernel
theorem dX10_run_9 : decode cX10_run 9 = .ok (.invokestatic 146, 3) := by decide +kernel
theorem dX10_run_12 : decode cX10_run 12 = .ok (.ifCond .eq 35, 3) := by decide +kernel
theorem dX10_run_15 : decode cX10_run 15 = .ok (.aload_n 0, 1) := by decide +kernel
theorem dX10_run_16 : decode cX10_run 16 = .ok (.getfield 29, 3) := by decide +kernel
theorem dX10_run_19 : decode cX10_run 19 = .ok (.iload_n 1, 1) := by decide +kernel
theorem dX10_run_20 : decode cX10_run 20 = .ok (.iaload, 1) := by decide +kernel
theorem dX10_run_21 : decode cX10_run 21 = .ok (.ifCond .gt 26, 3) := by decide +kernel
theorem dX10_run_24 : decode cX10_run 24 = .ok (.aload_n 0, 1) := by decide +kernel
theorem dX10_run_25 : decode cX10_run 25 = .ok (.getfield 83, 3) := by decide +kernel
theorem dX10_run_28 : decode cX10_run 28 = .ok (.iconst 0, 1) := by decide +kernel
theorem dX10_run_29 : decode cX10_run 29 = .ok (.iaload, 1) := by decide +kernel
theorem dX10_run_30 : decode cX10_run 30 = .ok (.bipush 24, 2) := by decide +kernel
theorem dX10_run_32 : decode cX10_run 32 = .ok (.iload_n 1, 1) := by decide +kernel
theorem dX10_run_33 : decode cX10_run 33 = .ok (.imul, 1) := by decide +kernel
theorem dX10_run_34 : decode cX10_run 34 = .ok (.if_icmp .ge 13, 3) := by decide +kernel
theorem dX10_run_37 : decode cX10_run 37 = .ok (.iload_n 2, 1) := by decide +kernel
theorem dX10_run_38 : decode cX10_run 38 = .ok (.iconst 1, 1) := by decide +kernel
theorem dX10_run_39 : decode cX10_run 39 = .ok (.bipush 10, 2) := by decide +kernel
theorem dX10_run_41 : decode cX10_run 41 = .ok (.invokestatic 146, 3) := by decide +kernel
theorem dX10_run_44 : decode cX10_run 44 = .ok (.ifCond .ne 5, 3) := by decide +kernel
theorem dX10_run_47 : decode cX10_run 47 = .ok (.iconst 0, 1) := by decide +kernel
theorem dX10_run_48 : decode cX10_run 48 = .ok (.ireturn, 1) := by decide +kernel
theorem dX10_run_49 : decode cX10_run 49 = .ok (.aload_n 0, 1) := by decide +kernel
theorem dX10_run_50 : decode cX10_run 50 = .ok (.getfield 29, 3) := by decide +kernel
theorem dX10_run_53 : decode cX10_run 53 = .ok (.iload_n 1, 1) := by decide +kernel
theorem dX10_run_54 : decode cX10_run 54 = .ok (.iload_n 2, 1) := by decide +kernel
theorem dX10_run_55 : decode cX10_run 55 = .ok (.iastore, 1) := by decide +kernel
theorem dX10_run_56 : decode cX10_run 56 = .ok (.iconst 0, 1) := by decide +kernel
theorem dX10_run_57 : decode cX10_run 57 = .ok (.istore_n 3, 1) := by decide +kernel
theorem dX10_run_58 : decode cX10_run 58 = .ok (.iload_n 3, 1) := by decide +kernel
theorem dX10_run_59 : decode cX10_run 59 = .ok (.bipush 10, 2) := by decide +kernel
theorem dX10_run_61 : decode cX10_run 61 = .ok (.if_icmp .ge 26, 3) := by decide +kernel
theorem dX10_run_64 : decode cX10_run 64 = .ok (.aload_n 0, 1) := by decide +kernel
theorem dX10_run_65 : decode cX10_run 65 = .ok (.getfield 32, 3) := by decide +kernel
theorem dX10_run_68 : decode cX10_run 68 = .ok (.bipush 10, 2) := by decide +kernel
theorem dX10_run_70 : decode cX10_run 70 = .ok (.iload_n 1, 1) := by decide +kernel
theorem dX10_run_71 : decode cX10_run 71 = .ok (.imul, 1) := by decide +kernel
theorem dX10_run_72 : decode cX10_run 72 = .ok (.iload_n 3, 1) := by decide +kernel
theorem dX10_run_73 : decode cX10_run 73 = .ok (.iadd, 1) := by decide +kernel
theorem dX10_run_74 : decode cX10_run 74 = .ok (.aload_n 0, 1) := by decide +kernel
theorem dX10_run_75 : decode cX10_run 75 = .ok (.getfield 26, 3) := by decide +kernel
theorem dX10_run_78 : decode cX10_run 78 = .ok (.iload_n 3, 1) := by decide +kernel
theorem dX10_run_79 : decode cX10_run 79 = .ok (.iaload, 1) := by decide +kernel
theorem dX10_run_80 : decode cX10_run 80 = .ok (.iastore, 1) := by decide +kernel
theorem dX10_run_81 : decode cX10_run 81 = .ok (.iinc 3 1, 3) := by decide +kernel
theorem dX10_run_84 : decode cX10_run 84 = .ok (.goto (-26), 3) := by decide +kernel
theorem dX10_run_87 : decode cX10_run 87 = .ok (.iconst 1, 1) := by decide +kernel
theorem dX10_run_88 : decode cX10_run 88 = .ok (.ireturn, 1) := by decide +kernel
theorem dX10_isStretch_0 : decode cX10_isStretch 0 = .ok (.iload_n 1, 1) := by decide +kernel
theorem dX10_isStretch_1 : decode cX10_isStretch 1 = .ok (.ifCond .lt 22, 3) := by decide +kernel
theorem dX10_isStretch_4 : decode cX10_isStretch 4 = .ok (.iload_n 1, 1) := by decide +kernel
theorem dX10_isStretch_5 : decode cX10_isStretch 5 = .ok (.iload_n 2, 1) := by decide +kernel
theorem dX10_isStretch_6 : decode cX10_isStretch 6 = .ok (.if_icmp .ge 17, 3) := by decide +kernel
theorem dX10_isStretch_9 : decode cX10_isStretch 9 = .ok (.iload_n 2, 1) := by decide +kernel
theorem dX10_isStretch_10 : decode cX10_isStretch 10 = .ok (.aload_n 0, 1) := by decide +kernel
theorem dX10_isStretch_11 : decode cX10_isStretch 11 = .ok (.getfield 13, 3) := by decide +kernel
theorem dX10_isStretch_14 : decode cX10_isStretch 14 = .ok (.iconst 0, 1) := by decide +kernel
theorem dX10_isStretch_15 : decode cX10_isStretch 15 = .ok (.iaload, 1) := by decide +kernel
theorem dX10_isStretch_16 : decode cX10_isStretch 16 = .ok (.if_icmp .ge 7, 3) := by decide +kernel
theorem dX10_isStretch_19 : decode cX10_isStretch 19 = .ok (.iconst 1, 1) := by decide +kernel
theorem dX10_isStretch_20 : decode cX10_isStretch 20 = .ok (.goto 4, 3) := by decide +kernel
theorem dX10_isStretch_23 : decode cX10_isStretch 23 = .ok (.iconst 0, 1) := by decide +kernel
theorem dX10_isStretch_24 : decode cX10_isStretch 24 = .ok (.ireturn, 1) := by decide +kernel
set_option maxRecDepth 20000 in
theorem ggX10_isFree_X10_at : GoodIn wsX10_isFree wsX10_at := goodIn_sub (gw_c (gw_t (gw_l (gw_g 5 rfl))) gw_n) (by decide +kernel)
set_option maxRecDepth 20000 in
theorem gX10_isFree_X10_at : GoodIn wsX10_isFree (wsV RX10 162 RX10 yX10_at wsX10_at) := goodIn_app (goodIn_sub (gw_c (gw_t (gw_l (gw_g 1 rfl))) (gw_c (gw_t (gw_l (gw_g 2 rfl))) (gw_c (gw_t (gw_l (gw_g 3 rfl))) (gw_c (gw_t (gw_l (gw_g 4 rfl))) gw_n)))) (by decide +kernel)) ggX10_isFree_X10_at
theorem dX10_isFree_0 : decode cX10_isFree 0 = .ok (.iload_n 3, 1) := by decide +kernel
theorem dX10_isFree_1 : decode cX10_isFree 1 = .ok (.istore 5, 2) := by decide +kernel
theorem dX10_isFree_3 : decode cX10_isFree 3 = .ok (.iload 5, 2) := by decide +kernel
theorem dX10_isFree_5 : decode cX10_isFree 5 = .ok (.iload 4, 2) := by decide +kernel
theorem dX10_isFree_7 : decode cX10_isFree 7 = .ok (.if_icmp .ge 28, 3) := by decide +kernel
theorem dX10_isFree_10 : decode cX10_isFree 10 = .ok (.aload_n 0, 1) := by decide +kernel
theorem dX10_isFree_11 : decode cX10_isFree 11 = .ok (.getfield 35, 3) := by decide +kernel
theorem dX10_isFree_14 : decode cX10_isFree 14 = .ok (.aload_n 0, 1) := by decide +kernel
theorem dX10_isFree_15 : decode cX10_isFree 15 = .ok (.iload_n 1, 1) := by decide +kernel
theorem dX10_isFree_16 : decode cX10_isFree 16 = .ok (.iload_n 2, 1) := by decide +kernel
theorem dX10_isFree_17 : decode cX10_isFree 17 = .ok (.iload 5, 2) := by decide +kernel
theorem dX10_isFree_19 : decode cX10_isFree 19 = .ok (.invokevirtual 162, 3) := by decide +kernel
theorem dX10_isFree_22 : decode cX10_isFree 22 = .ok (.iaload, 1) := by decide +kernel
theorem dX10_isFree_23 : decode cX10_isFree 23 = .ok (.iconst (-1), 1) := by decide +kernel
theorem dX10_isFree_24 : decode cX10_isFree 24 = .ok (.if_icmp .eq 5, 3) := by decide +kernel
theorem dX10_isFree_27 : decode cX10_isFree 27 = .ok (.iconst 0, 1) := by decide +kernel
theorem dX10_isFree_28 : decode cX10_isFree 28 = .ok (.ireturn, 1) := by decide +kernel
theorem dX10_isFree_29 : decode cX10_isFree 29 = .ok (.iinc 5 1, 3) := by decide +kernel
theorem dX10_isFree_32 : decode cX10_isFree 32 = .ok (.goto (-29), 3) := by decide +kernel
theorem dX10_isFree_35 : decode cX10_isFree 35 = .ok (.iconst 1, 1) := by decide +kernel
theorem dX10_isFree_36 : decode cX10_isFree 36 = .ok (.ireturn, 1) := by decide +kernel
set_option maxRecDepth 20000 in
theorem ggX10_gap_X10_at : GoodIn wsX10_gap wsX10_at := goodIn_sub (gw_c (gw_t (gw_l (gw_g 6 rfl))) gw_n) (by decide +kernel)
set_option maxRecDepth 20000 in
theorem gX10_gap_X10_at : GoodIn wsX10_gap (wsV RX10 162 RX10 yX10_at wsX10_at) := goodIn_app (goodIn_sub (gw_c (gw_t (gw_l (gw_g 2 rfl))) (gw_c (gw_t (gw_l (gw_g 3 rfl))) (gw_c (gw_t (gw_l (gw_g 4 rfl))) (gw_c (gw_t (gw_l (gw_g 5 rfl))) gw_n)))) (by decide +kernel)) ggX10_gap_X10_at
theorem dX10_gap_0 : decode cX10_gap 0 = .ok (.iload_n 3, 1) := by decide +kernel
theorem dX10_gap_1 : decode cX10_gap 1 = .ok (.istore 5, 2) := by decide +kernel
theorem dX10_gap_3 : decode cX10_gap 3 = .ok (.iload 5, 2) := by decide +kernel
theorem dX10_gap_5 : decode cX10_gap 5 = .ok (.ifCond .le 28, 3) := by decide +kernel
theorem dX10_gap_8 : decode cX10_gap 8 = .ok (.aload_n 0, 1) := by decide +kernel
theorem dX10_gap_9 : decode cX10_gap 9 = .ok (.getfield 35, 3) := by decide +kernel
theorem dX10_gap_12 : decode cX10_gap 12 = .ok (.aload_n 0, 1) := by decide +kernel
theorem dX10_gap_13 : decode cX10_gap 13 = .ok (.iload_n 1, 1) := by decide +kernel
theorem dX10_gap_14 : decode cX10_gap 14 = .ok (.iload_n 2, 1) := by decide +kernel
theorem dX10_gap_15 : decode cX10_gap 15 = .ok (.iload 5, 2) := by decide +kernel
theorem dX10_gap_17 : decode cX10_gap 17 = .ok (.iconst 1, 1) := by decide +kernel
theorem dX10_gap_18 : decode cX10_gap 18 = .ok (.isub, 1) := by decide +kernel
theorem dX10_gap_19 : decode cX10_gap 19 = .ok (.invokevirtual 162, 3) := by decide +kernel
theorem dX10_gap_22 : decode cX10_gap 22 = .ok (.iaload, 1) := by decide +kernel
theorem dX10_gap_23 : decode cX10_gap 23 = .ok (.iconst (-1), 1) := by decide +kernel
theorem dX10_gap_24 : decode cX10_gap 24 = .ok (.if_icmp .ne 9, 3) := by decide +kernel
theorem dX10_gap_27 : decode cX10_gap 27 = .ok (.iinc 5 (-1), 3) := by decide +kernel
theorem dX10_gap_30 : decode cX10_gap 30 = .ok (.goto (-27), 3) := by decide +kernel
theorem dX10_gap_33 : decode cX10_gap 33 = .ok (.iload 4, 2) := by decide +kernel
theorem dX10_gap_35 : decode cX10_gap 35 = .ok (.istore 6, 2) := by decide +kernel
theorem dX10_gap_37 : decode cX10_gap 37 = .ok (.iload 6, 2) := by decide +kernel
theorem dX10_gap_39 : decode cX10_gap 39 = .ok (.aload_n 0, 1) := by decide +kernel
theorem dX10_gap_40 : decode cX10_gap 40 = .ok (.getfield 13, 3) := by decide +kernel
theorem dX10_gap_43 : decode cX10_gap 43 = .ok (.iconst 0, 1) := by decide +kernel
theorem dX10_gap_44 : decode cX10_gap 44 = .ok (.iaload, 1) := by decide +kernel
theorem dX10_gap_45 : decode cX10_gap 45 = .ok (.iconst 1, 1) := by decide +kernel
theorem dX10_gap_46 : decode cX10_gap 46 = .ok (.isub, 1) := by decide +kernel
theorem dX10_gap_47 : decode cX10_gap 47 = .ok (.if_icmp .ge 26, 3) := by decide +kernel
theorem dX10_gap_50 : decode cX10_gap 50 = .ok (.aload_n 0, 1) := by decide +kernel
theorem dX10_gap_51 : decode cX10_gap 51 = .ok (.getfield 35, 3) := by decide +kernel
theorem dX10_gap_54 : decode cX10_gap 54 = .ok (.aload_n 0, 1) := by decide +kernel
theorem dX10_gap_55 : decode cX10_gap 55 = .ok (.iload_n 1, 1) := by decide +kernel
theorem dX10_gap_56 : decode cX10_gap 56 = .ok (.iload_n 2, 1) := by decide +kernel
theorem dX10_gap_57 : decode cX10_gap 57 = .ok (.iload 6, 2) := by decide +kernel
theorem dX10_gap_59 : decode cX10_gap 59 = .ok (.invokevirtual 162, 3) := by decide +kernel
theorem dX10_gap_62 : decode cX10_gap 62 = .ok (.iaload, 1) := by decide +kernel
theorem dX10_gap_63 : decode cX10_gap 63 = .ok (.iconst (-1), 1) := by decide +kernel
theorem dX10_gap_64 : decode cX10_gap 64 = .ok (.if_icmp .ne 9, 3) := by decide +kernel
theorem dX10_gap_67 : decode cX10_gap 67 = .ok (.iinc 6 1, 3) := by decide +kernel
theorem dX10_gap_70 : decode cX10_gap 70 = .ok (.goto (-33), 3) := by decide +kernel
theorem dX10_gap_73 : decode cX10_gap 73 = .ok (.iload 6, 2) := by decide +kernel
theorem dX10_gap_75 : decode cX10_gap 75 = .ok (.iload 5, 2) := by decide +kernel
theorem dX10_gap_77 : decode cX10_gap 77 = .ok (.isub, 1) := by decide +kernel
theorem dX10_gap_78 : decode cX10_gap 78 = .ok (.ireturn, 1) := by decide +kernel
set_option maxRecDepth 20000 in
theorem ggX10_canAsk_X10_isOffice : GoodIn wsX10_canAsk wsX10_isOffice := goodIn_sub (gw_c (gw_t (gw_l (gw_g 5 rfl))) (gw_c (gw_t (gw_l (gw_g 6 rfl))) (gw_c (gw_t (gw_l (gw_g 7 rfl))) (gw_c (gw_t (gw_l (gw_g 4 rfl))) (gw_c (gw_t (gw_l (gw_g 8 rfl))) gw_n))))) (by decide +kernel)
set_option maxRecDepth 20000 in
theorem gX10_canAsk_X10_isOffice : GoodIn wsX10_canAsk (wsV RX10 158 RX10 yX10_isOffice wsX10_isOffice) := goodIn_app (goodIn_sub (gw_c (gw_t (gw_l (gw_g 1 rfl))) (gw_c (gw_t (gw_l (gw_g 2 rfl))) (gw_c (gw_t (gw_l (gw_g 3 rfl))) (gw_c (gw_t (gw_l (gw_g 4 rfl))) gw_n)))) (by decide +kernel)) ggX10_canAsk_X10_isOffice
set_option maxRecDepth 20000 in
theorem ggX10_canAsk_X10_isRun : GoodIn wsX10_canAsk wsX10_isRun := goodIn_sub (gw_c (gw_t (gw_l (gw_g 12 rfl))) (gw_a (gw_c (gw_t (gw_l (gw_g 13 rfl))) (gw_c (gw_t (gw_l (gw_g 6 rfl))) (gw_c (gw_t (gw_l (gw_g 7 rfl))) (gw_c (gw_t (gw_l (gw_g 4 rfl))) (gw_c (gw_t (gw_l (gw_g 8 rfl))) gw_n))))) gw_X10_canAsk_X100)) (by decide +kernel)
set_option maxRecDepth 20000 in
theorem gX10_canAsk_X10_isRun : GoodIn wsX10_canAsk (wsV RX10 166 RX10 yX10_isRun wsX10_isRun) := goodIn_app (goodIn_sub (gw_c (gw_t (gw_l (gw_g 9 rfl))) (gw_c (gw_t (gw_l (gw_g 10 rfl))) (gw_c (gw_t (gw_l (gw_g 11 rfl))) (gw_c (gw_t (gw_l (gw_g 4 rfl))) gw_n)))) (by decide +kernel)) ggX10_canAsk_X10_isRun
set_option maxRecDepth 20000 in
theorem ggX10_canAsk_X10_isStretch : GoodIn wsX10_canAsk wsX10_isStretch := goodIn_sub (gw_c (gw_t (gw_l (gw_g 17 rfl))) (gw_a (gw_c (gw_t (gw_l (gw_g 18 rfl))) gw_n) gw_X10_canAsk_X100)) (by decide +kernel)
set_option maxRecDepth 20000 in
theorem gX10_canAsk_X10_isStretch : GoodIn wsX10_canAsk (wsV RX10 169 RX10 yX10_isStretch wsX10_isStretch) := goodIn_app (goodIn_sub (gw_c (gw_t (gw_l (gw_g 14 rfl))) (gw_c (gw_t (gw_l (gw_g 15 rfl))) (gw_c (gw_t (gw_l (gw_g 16 rfl))) (gw_c (gw_t (gw_l (gw_g 4 rfl))) gw_n)))) (by decide +kernel)) ggX10_canAsk_X10_isStretch
theorem dX10_canAsk_0 : decode cX10_canAsk 0 = .ok (.aload_n 0, 1) := by decide +kernel
theorem dX10_canAsk_1 : decode cX10_canAsk 1 = .ok (.iload_n 1, 1) := by decide +kernel
theorem dX10_canAsk_2 : decode cX10_canAsk 2 = .ok (.invokevirtual 158, 3) := by decide +kernel
theorem dX10_canAsk_5 : decode cX10_canAsk 5 = .ok (.ifCond .eq 37, 3) := by decide +kernel
theorem dX10_canAsk_8 : decode cX10_canAsk 8 = .ok (.aload_n 0, 1) := by decide +kernel
theorem dX10_canAsk_9 : decode cX10_canAsk 9 = .ok (.iload_n 2, 1) := by decide +kernel
theorem dX10_canAsk_10 : decode cX10_canAsk 10 = .ok (.invokevirtual 166, 3) := by decide +kernel
theorem dX10_canAsk_13 : decode cX10_canAsk 13 = .ok (.ifCond .eq 29, 3) := by decide +kernel
theorem dX10_canAsk_16 : decode cX10_canAsk 16 = .ok (.aload_n 0, 1) := by decide +kernel
theorem dX10_canAsk_17 : decode cX10_canAsk 17 = .ok (.iload_n 3, 1) := by decide +kernel
theorem dX10_canAsk_18 : decode cX10_canAsk 18 = .ok (.iload 4, 2) := by decide +kernel
theorem dX10_canAsk_20 : decode cX10_canAsk 20 = .ok (.invokevirtual 169, 3) := by decide +kernel
theorem dX10_canAsk_23 : decode cX10_canAsk 23 = .ok (.ifCond .eq 19, 3) := by decide +kernel
theorem dX10_canAsk_26 : decode cX10_canAsk 26 = .ok (.aload_n 0, 1) := by decide +kernel
theorem dX10_canAsk_27 : decode cX10_canAsk 27 = .ok (.getfield 38, 3) := by decide +kernel
theorem dX10_canAsk_30 : decode cX10_canAsk 30 = .ok (.iconst 0, 1) := by decide +kernel
theorem dX10_canAsk_31 : decode cX10_canAsk 31 = .ok (.iaload, 1) := by decide +kernel
theorem dX10_canAsk_32 : decode cX10_canAsk 32 = .ok (.sipush 300, 3) := by decide +kernel
theorem dX10_canAsk_35 : decode cX10_canAsk 35 = .ok (.if_icmp .ge 7, 3) := by decide +kernel
theorem dX10_canAsk_38 : decode cX10_canAsk 38 = .ok (.iconst 1, 1) := by decide +kernel
theorem dX10_canAsk_39 : decode cX10_canAsk 39 = .ok (.goto 4, 3) := by decide +kernel
theorem dX10_canAsk_42 : decode cX10_canAsk 42 = .ok (.iconst 0, 1) := by decide +kernel
theorem dX10_canAsk_43 : decode cX10_canAsk 43 = .ok (.ireturn, 1) := by decide +kernel
set_option maxRecDepth 20000 in
theorem ggX10_sells_X10_leaves : GoodIn wsX10_sells wsX10_leaves := goodIn_sub (gw_c (gw_X10_sells_X10_sells_r1 _ (gw_g 15 rfl)) (gw_a (gw_c (gw_X10_sells_X10_sells_r1 _ (gw_g 16 rfl)) (gw_c (gw_X10_sells_X10_sells_r1 _ (gw_g 17 rfl)) (gw_c (gw_X10_sells_X10_sells_r1 _ (gw_g 18 rfl)) (gw_c (gw_X10_sells_X10_sells_r1 _ (gw_g 14 rfl)) (gw_c (gw_X10_sells_X10_sells_r1 _ (gw_g 19 rfl)) (gw_c (gw_X10_sells_X10_sells_r1 _ (gw_g 20 rfl)) gw_n)))))) gw_X10_sells_X100)) (by decide +kernel)
set_option maxRecDepth 20000 in
theorem gX10_sells_X10_leaves : GoodIn wsX10_sells (wsV RX10 173 RX10 yX10_leaves wsX10_leaves) := goodIn_app (goodIn_sub (gw_c (gw_X10_sells_X10_sells_r1 _ (gw_g 11 rfl)) (gw_c (gw_X10_sells_X10_sells_r1 _ (gw_g 12 rfl)) (gw_c (gw_X10_sells_X10_sells_r1 _ (gw_g 13 rfl)) (gw_c (gw_X10_sells_X10_sells_r1 _ (gw_g 14 rfl)) gw_n)))) (by decide +kernel)) ggX10_sells_X10_leaves
set_option maxRecDepth 20000 in
theorem ggX10_sells_X10_isFree : GoodIn wsX10_sells wsX10_isFree := goodIn_sub (gw_c (gw_X10_sells_X10_sells_r2 _ (gw_g 0 rfl)) (gw_a (gw_c (gw_X10_sells_X10_sells_r1 _ (gw_g 10 rfl)) (gw_c (gw_X10_sells_X10_sells_r2 _ (gw_g 1 rfl)) (gw_c (gw_X10_sells_X10_sells_r2 _ (gw_g 2 rfl)) (gw_c (gw_X10_sells_X10_sells_r2 _ (gw_g 3 rfl)) (gw_c (gw_X10_sells_X10_sells_r1 _ (gw_g 14 rfl)) (gw_c (gw_X10_sells_X10_sells_r2 _ (gw_g 4 rfl)) gw_n)))))) gw_X10_sells_X100)) (by decide +kernel)
set_option maxRecDepth 20000 in
theorem gX10_sells_X10_isFree : GoodIn wsX10_sells (wsV RX10 177 RX10 yX10_isFree wsX10_isFree) := goodIn_app (goodIn_sub (gw_c (gw_X10_sells_X10_sells_r1 _ (gw_g 21 rfl)) (gw_c (gw_X10_sells_X10_sells_r1 _ (gw_g 22 rfl)) (gw_c (gw_X10_sells_X10_sells_r1 _ (gw_g 23 rfl)) (gw_c (gw_X10_sells_X10_sells_r1 _ (gw_g 14 rfl)) gw_n)))) (by decide +kernel)) ggX10_sells_X10_isFree
set_option maxRecDepth 20000 in
theorem ggX10_sells_X10_gap : GoodIn wsX10_sells wsX10_gap := goodIn_sub (gw_c (gw_X10_sells_X10_sells_r2 _ (gw_g 8 rfl)) (gw_a (gw_c (gw_X10_sells_X10_sells_r1 _ (gw_g 10 rfl)) (gw_c (gw_X10_sells_X10_sells_r2 _ (gw_g 9 rfl)) (gw_c (gw_X10_sells_X10_sells_r2 _ (gw_g 1 rfl)) (gw_c (gw_X10_sells_X10_sells_r2 _ (gw_g 2 rfl)) (gw_c (gw_X10_sells_X10_sells_r2 _ (gw_g 3 rfl)) (gw_c (gw_X10_sells_X10_sells_r1 _ (gw_g 14 rfl)) (gw_c (gw_X10_sells_X10_sells_r2 _ (gw_g 4 rfl)) gw_n))))))) gw_X10_sells_X100)) (by decide +kernel)
set_option maxRecDepth 20000 in
theorem gX10_sells_X10_gap : GoodIn wsX10_sells (wsV RX10 181 RX10 yX10_gap wsX10_gap) := goodIn_app (goodIn_sub (gw_c (gw_X10_sells_X10_sells_r2 _ (gw_g 5 rfl)) (gw_c (gw_X10_sells_X10_sells_r2 _ (gw_g 6 rfl)) (gw_c (gw_X10_sells_X10_sells_r2 _ (gw_g 7 rfl)) (gw_c (gw_X10_sells_X10_sells_r1 _ (gw_g 14 rfl)) gw_n)))) (by decide +kernel)) ggX10_sells_X10_gap
set_option maxRecDepth 20000 in
theorem ggX10_sells_X10_at : GoodIn wsX10_sells wsX10_at := goodIn_sub (gw_c (gw_X10_sells_X10_sells_r2 _ (gw_g 4 rfl)) gw_n) (by decide +kernel)
set_option maxRecDepth 20000 in
theorem gX10_sells_X10_at : GoodIn wsX10_sells (wsV RX10 162 RX10 yX10_at wsX10_at) := goodIn_app (goodIn_sub (gw_c (gw_X10_sells_X10_sells_r2 _ (gw_g 1 rfl)) (gw_c (gw_X10_sells_X10_sells_r2 _ (gw_g 2 rfl)) (gw_c (gw_X10_sells_X10_sells_r2 _ (gw_g 3 rfl)) (gw_c (gw_X10_sells_X10_sells_r1 _ (gw_g 14 rfl)) gw_n)))) (by decide +kernel)) ggX10_sells_X10_at
theorem dX10_sells_0 : decode cX10_sells 0 = .ok (.aload_n 0, 1) := by decide +kernel
theorem dX10_sells_1 : decode cX10_sells 1 = .ok (.getfield 38, 3) := by decide +kernel
theorem dX10_sells_4 : decode cX10_sells 4 = .ok (.iconst 0, 1) := by decide +kernel
theorem dX10_sells_5 : decode cX10_sells 5 = .ok (.iaload, 1) := by decide +kernel
theorem dX10_sells_6 : decode cX10_sells 6 = .ok (.sipush 300, 3) := by decide +kernel
theorem dX10_sells_9 : decode cX10_sells 9 = .ok (.if_icmp .eq 18, 3) := by decide +kernel
theorem dX10_sells_12 : decode cX10_sells 12 = .ok (.aload_n 0, 1) := by decide +kernel
theorem dX10_sells_13 : decode cX10_sells 13 = .ok (.getfield 83, 3) := by decide +kernel
theorem dX10_sells_16 : decode cX10_sells 16 = .ok (.iconst 0, 1) := by decide +kernel
theorem dX10_sells_17 : decode cX10_sells 17 = .ok (.iaload, 1) := by decide +kernel
theorem dX10_sells_18 : decode cX10_sells 18 = .ok (.aload_n 0, 1) := by decide +kernel
theorem dX10_sells_19 : decode cX10_sells 19 = .ok (.iload_n 2, 1) := by decide +kernel
theorem dX10_sells_20 : decode cX10_sells 20 = .ok (.iload_n 3, 1) := by decide +kernel
theorem dX10_sells_21 : decode cX10_sells 21 = .ok (.invokevirtual 173, 3) := by decide +kernel
theorem dX10_sells_24 : decode cX10_sells 24 = .ok (.if_icmp .lt 5, 3) := by decide +kernel
theorem dX10_sells_27 : decode cX10_sells 27 = .ok (.iconst (-1), 1) := by decide +kernel
theorem dX10_sells_28 : decode cX10_sells 28 = .ok (.ireturn, 1) := by decide +kernel
theorem dX10_sells_29 : decode cX10_sells 29 = .ok (.aload_n 0, 1) := by decide +kernel
theorem dX10_sells_30 : decode cX10_sells 30 = .ok (.getfield 83, 3) := by decide +kernel
theorem dX10_sells_33 : decode cX10_sells 33 = .ok (.iconst 0, 1) := by decide +kernel
theorem dX10_sells_34 : decode cX10_sells 34 = .ok (.iaload, 1) := by decide +kernel
theorem dX10_sells_35 : decode cX10_sells 35 = .ok (.bipush 24, 2) := by decide +kernel
theorem dX10_sells_37 : decode cX10_sells 37 = .ok (.iload_n 2, 1) := by decide +kernel
theorem dX10_sells_38 : decode cX10_sells 38 = .ok (.imul, 1) := by decide +kernel
theorem dX10_sells_39 : decode cX10_sells 39 = .ok (.bipush 12, 2) := by decide +kernel
theorem dX10_sells_41 : decode cX10_sells 41 = .ok (.isub, 1) := by decide +kernel
theorem dX10_sells_42 : decode cX10_sells 42 = .ok (.if_icmp .lt 7, 3) := by decide +kernel
theorem dX10_sells_45 : decode cX10_sells 45 = .ok (.iconst 1, 1) := by decide +kernel
theorem dX10_sells_46 : decode cX10_sells 46 = .ok (.goto 4, 3) := by decide +kernel
theorem dX10_sells_49 : decode cX10_sells 49 = .ok (.iconst 0, 1) := by decide +kernel
theorem dX10_sells_50 : decode cX10_sells 50 = .ok (.istore 5, 2) := by decide +kernel
theorem dX10_sells_52 : decode cX10_sells 52 = .ok (.iconst (-1), 1) := by decide +kernel
theorem dX10_sells_53 : decode cX10_sells 53 = .ok (.istore 6, 2) := by decide +kernel
theorem dX10_sells_55 : decode cX10_sells 55 = .ok (.bipush 99, 2) := by decide +kernel
theorem dX10_sells_57 : decode cX10_sells 57 = .ok (.istore 7, 2) := by decide +kernel
theorem dX10_sells_59 : decode cX10_sells 59 = .ok (.iconst 0, 1) := by decide +kernel
theorem dX10_sells_60 : decode cX10_sells 60 = .ok (.istore 8, 2) := by decide +kernel
theorem dX10_sells_62 : decode cX10_sells 62 = .ok (.iload 8, 2) := by decide +kernel
theorem dX10_sells_64 : decode cX10_sells 64 = .ok (.aload_n 0, 1) := by decide +kernel
theorem dX10_sells_65 : decode cX10_sells 65 = .ok (.getfield 29, 3) := by decide +kernel
theorem dX10_sells_68 : decode cX10_sells 68 = .ok (.iload_n 2, 1) := by decide +kernel
theorem dX10_sells_69 : decode cX10_sells 69 = .ok (.iaload, 1) := by decide +kernel
theorem dX10_sells_70 : decode cX10_sells 70 = .ok (.if_icmp .ge 74, 3) := by decide +kernel
theorem dX10_sells_73 : decode cX10_sells 73 = .ok (.iload 5, 2) := by decide +kernel
theorem dX10_sells_75 : decode cX10_sells 75 = .ok (.ifCond .ne 19, 3) := by decide +kernel
theorem dX10_sells_78 : decode cX10_sells 78 = .ok (.aload_n 0, 1) := by decide +kernel
theorem dX10_sells_79 : decode cX10_sells 79 = .ok (.getfield 32, 3) := by decide +kernel
theorem dX10_sells_82 : decode cX10_sells 82 = .ok (.bipush 10, 2) := by decide +kernel
theorem dX10_sells_84 : decode cX10_sells 84 = .ok (.iload_n 2, 1) := by decide +kernel
theorem dX10_sells_85 : decode cX10_sells 85 = .ok (.imul, 1) := by decide +kernel
theorem dX10_sells_86 : decode cX10_sells 86 = .ok (.iload 8, 2) := by decide +kernel
theorem dX10_sells_88 : decode cX10_sells 88 = .ok (.iadd, 1) := by decide +kernel
theorem dX10_sells_89 : decode cX10_sells 89 = .ok (.iaload, 1) := by decide +kernel
theorem dX10_sells_90 : decode cX10_sells 90 = .ok (.iload_n 1, 1) := by decide +kernel
theorem dX10_sells_91 : decode cX10_sells 91 = .ok (.if_icmp .ne 47, 3) := by decide +kernel
theorem dX10_sells_94 : decode cX10_sells 94 = .ok (.aload_n 0, 1) := by decide +kernel
theorem dX10_sells_95 : decode cX10_sells 95 = .ok (.iload_n 2, 1) := by decide +kernel
theorem dX10_sells_96 : decode cX10_sells 96 = .ok (.iload 8, 2) := by decide +kernel
