/-! ===== the law: instructions ===== -/
theorem d_L_law_7 : dec m_L_law 7 = .ok (.astore_n 1, 1) := by decide +kernel
theorem d_L_law_8 : dec m_L_law 8 = .ok (.new 31, 3) := by decide +kernel
theorem d_L_law_11 : dec m_L_law 11 = .ok (.dup, 1) := by decide +kernel
theorem d_L_law_12 : dec m_L_law 12 = .ok (.invokespecial 144, 3) := by decide +kernel
theorem d_L_law_15 : dec m_L_law 15 = .ok (.astore_n 2, 1) := by decide +kernel
theorem d_L_law_16 : dec m_L_law 16 = .ok (.aconst_null, 1) := by decide +kernel
theorem d_L_law_17 : dec m_L_law 17 = .ok (.astore_n 3, 1) := by decide +kernel
theorem d_L_law_18 : dec m_L_law 18 = .ok (.aload_n 1, 1) := by decide +kernel
theorem d_L_law_19 : dec m_L_law 19 = .ok (.aload_n 2, 1) := by decide +kernel
theorem d_L_law_20 : dec m_L_law 20 = .ok (.invokestatic 145, 3) := by decide +kernel
theorem d_L_law_23 : dec m_L_law 23 = .ok (.ifCond .eq 53, 3) := by decide +kernel
theorem d_L_law_26 : dec m_L_law 26 = .ok (.aload_n 1, 1) := by decide +kernel
theorem d_L_law_27 : dec m_L_law 27 = .ok (.invokevirtual 149, 3) := by decide +kernel
theorem d_L_law_30 : dec m_L_law 30 = .ok (.iconst (-1), 1) := by decide +kernel
theorem d_L_law_31 : dec m_L_law 31 = .ok (.if_icmp .ne 45, 3) := by decide +kernel
theorem d_L_law_34 : dec m_L_law 34 = .ok (.aload_n 1, 1) := by decide +kernel
theorem d_L_law_35 : dec m_L_law 35 = .ok (.iconst 1, 1) := by decide +kernel
theorem d_L_law_36 : dec m_L_law 36 = .ok (.invokevirtual 152, 3) := by decide +kernel
theorem d_L_law_39 : dec m_L_law 39 = .ok (.bipush (-2), 2) := by decide +kernel
theorem d_L_law_41 : dec m_L_law 41 = .ok (.if_icmp .ne 35, 3) := by decide +kernel
theorem d_L_law_44 : dec m_L_law 44 = .ok (.aload_n 1, 1) := by decide +kernel
theorem d_L_law_45 : dec m_L_law 45 = .ok (.iconst 2, 1) := by decide +kernel
theorem d_L_law_46 : dec m_L_law 46 = .ok (.invokevirtual 155, 3) := by decide +kernel
theorem d_L_law_49 : dec m_L_law 49 = .ok (.iconst (-1), 1) := by decide +kernel
theorem d_L_law_50 : dec m_L_law 50 = .ok (.if_icmp .ne 26, 3) := by decide +kernel
theorem d_L_law_53 : dec m_L_law 53 = .ok (.aload_n 1, 1) := by decide +kernel
theorem d_L_law_54 : dec m_L_law 54 = .ok (.iconst 4, 1) := by decide +kernel
theorem d_L_law_55 : dec m_L_law 55 = .ok (.invokevirtual 158, 3) := by decide +kernel
theorem d_L_law_58 : dec m_L_law 58 = .ok (.iconst (-1), 1) := by decide +kernel
theorem d_L_law_59 : dec m_L_law 59 = .ok (.if_icmp .ne 17, 3) := by decide +kernel
theorem d_L_law_62 : dec m_L_law 62 = .ok (.aload_n 1, 1) := by decide +kernel
theorem d_L_law_63 : dec m_L_law 63 = .ok (.iconst 0, 1) := by decide +kernel
theorem d_L_law_64 : dec m_L_law 64 = .ok (.invokevirtual 158, 3) := by decide +kernel
theorem d_L_law_67 : dec m_L_law 67 = .ok (.bipush (-2), 2) := by decide +kernel
theorem d_L_law_69 : dec m_L_law 69 = .ok (.if_icmp .ne 7, 3) := by decide +kernel
theorem d_L_law_72 : dec m_L_law 72 = .ok (.iconst 1, 1) := by decide +kernel
theorem d_L_law_73 : dec m_L_law 73 = .ok (.goto 4, 3) := by decide +kernel
theorem d_L_law_76 : dec m_L_law 76 = .ok (.iconst 0, 1) := by decide +kernel
theorem d_L_law_77 : dec m_L_law 77 = .ok (.istore 4, 2) := by decide +kernel
theorem d_L_law_79 : dec m_L_law 79 = .ok (.iconst 0, 1) := by decide +kernel
theorem d_L_law_80 : dec m_L_law 80 = .ok (.istore 5, 2) := by decide +kernel
theorem d_L_law_82 : dec m_L_law 82 = .ok (.iload 5, 2) := by decide +kernel
theorem d_L_law_84 : dec m_L_law 84 = .ok (.bipush 26, 2) := by decide +kernel
theorem d_L_law_86 : dec m_L_law 86 = .ok (.if_icmp .ge 1199, 3) := by decide +kernel
theorem d_L_law_89 : dec m_L_law 89 = .ok (.iload 4, 2) := by decide +kernel
theorem d_L_law_91 : dec m_L_law 91 = .ok (.ifCond .eq 1194, 3) := by decide +kernel
theorem d_L_law_94 : dec m_L_law 94 = .ok (.aload_n 0, 1) := by decide +kernel
theorem d_L_law_95 : dec m_L_law 95 = .ok (.iload 5, 2) := by decide +kernel
theorem d_L_law_97 : dec m_L_law 97 = .ok (.invokestatic 161, 3) := by decide +kernel
theorem d_L_law_100 : dec m_L_law 100 = .ok (.iconst 1, 1) := by decide +kernel
theorem d_L_law_101 : dec m_L_law 101 = .ok (.iushr, 1) := by decide +kernel
theorem d_L_law_102 : dec m_L_law 102 = .ok (.istore 6, 2) := by decide +kernel
theorem d_L_law_104 : dec m_L_law 104 = .ok (.aload_n 2, 1) := by decide +kernel
theorem d_L_law_105 : dec m_L_law 105 = .ok (.invokevirtual 60, 3) := by decide +kernel
theorem d_L_law_108 : dec m_L_law 108 = .ok (.astore 7, 2) := by decide +kernel
theorem d_L_law_110 : dec m_L_law 110 = .ok (.aload_n 2, 1) := by decide +kernel
theorem d_L_law_111 : dec m_L_law 111 = .ok (.getfield 80, 3) := by decide +kernel
theorem d_L_law_114 : dec m_L_law 114 = .ok (.ifCond .ne 7, 3) := by decide +kernel
theorem d_L_law_117 : dec m_L_law 117 = .ok (.iconst 0, 1) := by decide +kernel
theorem d_L_law_118 : dec m_L_law 118 = .ok (.goto 14, 3) := by decide +kernel
theorem d_L_law_121 : dec m_L_law 121 = .ok (.iload 6, 2) := by decide +kernel
theorem d_L_law_123 : dec m_L_law 123 = .ok (.iconst 4, 1) := by decide +kernel
theorem d_L_law_124 : dec m_L_law 124 = .ok (.iushr, 1) := by decide +kernel
theorem d_L_law_125 : dec m_L_law 125 = .ok (.aload_n 2, 1) := by decide +kernel
theorem d_L_law_126 : dec m_L_law 126 = .ok (.getfield 80, 3) := by decide +kernel
theorem d_L_law_129 : dec m_L_law 129 = .ok (.iconst 1, 1) := by decide +kernel
theorem d_L_law_130 : dec m_L_law 130 = .ok (.iadd, 1) := by decide +kernel
theorem d_L_law_131 : dec m_L_law 131 = .ok (.irem, 1) := by decide +kernel
theorem d_L_law_132 : dec m_L_law 132 = .ok (.istore 8, 2) := by decide +kernel
theorem d_L_law_134 : dec m_L_law 134 = .ok (.iload 8, 2) := by decide +kernel
theorem d_L_law_136 : dec m_L_law 136 = .ok (.aload_n 2, 1) := by decide +kernel
theorem d_L_law_137 : dec m_L_law 137 = .ok (.getfield 80, 3) := by decide +kernel
theorem d_L_law_140 : dec m_L_law 140 = .ok (.if_icmp .ge 7, 3) := by decide +kernel
theorem d_L_law_143 : dec m_L_law 143 = .ok (.iconst 1, 1) := by decide +kernel
theorem d_L_law_144 : dec m_L_law 144 = .ok (.goto 4, 3) := by decide +kernel
theorem d_L_law_147 : dec m_L_law 147 = .ok (.iconst 0, 1) := by decide +kernel
theorem d_L_law_148 : dec m_L_law 148 = .ok (.istore 9, 2) := by decide +kernel
theorem d_L_law_150 : dec m_L_law 150 = .ok (.iload 9, 2) := by decide +kernel
theorem d_L_law_152 : dec m_L_law 152 = .ok (.ifCond .eq 14, 3) := by decide +kernel
theorem d_L_law_155 : dec m_L_law 155 = .ok (.aload_n 2, 1) := by decide +kernel
theorem d_L_law_156 : dec m_L_law 156 = .ok (.getfield 64, 3) := by decide +kernel
theorem d_L_law_159 : dec m_L_law 159 = .ok (.iload 8, 2) := by decide +kernel
theorem d_L_law_161 : dec m_L_law 161 = .ok (.aaload, 1) := by decide +kernel
theorem d_L_law_162 : dec m_L_law 162 = .ok (.arraylength, 1) := by decide +kernel
theorem d_L_law_163 : dec m_L_law 163 = .ok (.goto 4, 3) := by decide +kernel
theorem d_L_law_166 : dec m_L_law 166 = .ok (.iconst 0, 1) := by decide +kernel
theorem d_L_law_167 : dec m_L_law 167 = .ok (.istore 10, 2) := by decide +kernel
theorem d_L_law_169 : dec m_L_law 169 = .ok (.iload 6, 2) := by decide +kernel
theorem d_L_law_171 : dec m_L_law 171 = .ok (.bipush 8, 2) := by decide +kernel
theorem d_L_law_173 : dec m_L_law 173 = .ok (.iushr, 1) := by decide +kernel
theorem d_L_law_174 : dec m_L_law 174 = .ok (.bipush 60, 2) := by decide +kernel
theorem d_L_law_176 : dec m_L_law 176 = .ok (.irem, 1) := by decide +kernel
theorem d_L_law_177 : dec m_L_law 177 = .ok (.istore 11, 2) := by decide +kernel
theorem d_L_law_179 : dec m_L_law 179 = .ok (.iconst 1, 1) := by decide +kernel
theorem d_L_law_180 : dec m_L_law 180 = .ok (.istore 12, 2) := by decide +kernel
theorem d_L_law_182 : dec m_L_law 182 = .ok (.iload 5, 2) := by decide +kernel
theorem d_L_law_184 : dec m_L_law 184 = .ok (.ifCond .ne 7, 3) := by decide +kernel
theorem d_L_law_187 : dec m_L_law 187 = .ok (.iconst 0, 1) := by decide +kernel
theorem d_L_law_188 : dec m_L_law 188 = .ok (.goto 8, 3) := by decide +kernel
theorem d_L_law_191 : dec m_L_law 191 = .ok (.iload 6, 2) := by decide +kernel
theorem d_L_law_193 : dec m_L_law 193 = .ok (.bipush 11, 2) := by decide +kernel
theorem d_L_law_195 : dec m_L_law 195 = .ok (.irem, 1) := by decide +kernel
theorem d_L_law_196 : dec m_L_law 196 = .ok (.tableswitch 919 0 9 #[56, 123, 238, 238, 408, 663, 720, 795, 868, 868], 56) := by decide +kernel
theorem d_L_law_252 : dec m_L_law 252 = .ok (.aload_n 0, 1) := by decide +kernel
theorem d_L_law_253 : dec m_L_law 253 = .ok (.bipush 40, 2) := by decide +kernel
theorem d_L_law_255 : dec m_L_law 255 = .ok (.bipush 30, 2) := by decide +kernel
theorem d_L_law_257 : dec m_L_law 257 = .ok (.iload 5, 2) := by decide +kernel
theorem d_L_law_259 : dec m_L_law 259 = .ok (.imul, 1) := by decide +kernel
theorem d_L_law_260 : dec m_L_law 260 = .ok (.iadd, 1) := by decide +kernel
theorem d_L_law_261 : dec m_L_law 261 = .ok (.bipush 6, 2) := by decide +kernel
theorem d_L_law_263 : dec m_L_law 263 = .ok (.iconst 3, 1) := by decide +kernel
theorem d_L_law_264 : dec m_L_law 264 = .ok (.invokestatic 165, 3) := by decide +kernel
theorem d_L_law_267 : dec m_L_law 267 = .ok (.astore_n 2, 1) := by decide +kernel
theorem d_L_law_268 : dec m_L_law 268 = .ok (.iconst 0, 1) := by decide +kernel
theorem d_L_law_269 : dec m_L_law 269 = .ok (.istore 12, 2) := by decide +kernel
theorem d_L_law_271 : dec m_L_law 271 = .ok (.aload_n 1, 1) := by decide +kernel
theorem d_L_law_272 : dec m_L_law 272 = .ok (.aload_n 2, 1) := by decide +kernel
theorem d_L_law_273 : dec m_L_law 273 = .ok (.invokevirtual 99, 3) := by decide +kernel
theorem d_L_law_276 : dec m_L_law 276 = .ok (.invokestatic 169, 3) := by decide +kernel
theorem d_L_law_279 : dec m_L_law 279 = .ok (.ifCond .eq 34, 3) := by decide +kernel
theorem d_L_law_282 : dec m_L_law 282 = .ok (.aload_n 1, 1) := by decide +kernel
theorem d_L_law_283 : dec m_L_law 283 = .ok (.invokevirtual 173, 3) := by decide +kernel
theorem d_L_law_286 : dec m_L_law 286 = .ok (.aload_n 2, 1) := by decide +kernel
theorem d_L_law_287 : dec m_L_law 287 = .ok (.getfield 80, 3) := by decide +kernel
theorem d_L_law_290 : dec m_L_law 290 = .ok (.if_icmp .ne 23, 3) := by decide +kernel
theorem d_L_law_293 : dec m_L_law 293 = .ok (.aload_n 1, 1) := by decide +kernel
theorem d_L_law_294 : dec m_L_law 294 = .ok (.iconst 4, 1) := by decide +kernel
theorem d_L_law_295 : dec m_L_law 295 = .ok (.invokevirtual 83, 3) := by decide +kernel
theorem d_L_law_298 : dec m_L_law 298 = .ok (.ifCond .ne 15, 3) := by decide +kernel
theorem d_L_law_301 : dec m_L_law 301 = .ok (.aload_n 1, 1) := by decide +kernel
theorem d_L_law_302 : dec m_L_law 302 = .ok (.iconst 5, 1) := by decide +kernel
theorem d_L_law_303 : dec m_L_law 303 = .ok (.invokevirtual 83, 3) := by decide +kernel
theorem d_L_law_306 : dec m_L_law 306 = .ok (.ifCond .ne 7, 3) := by decide +kernel
theorem d_L_law_309 : dec m_L_law 309 = .ok (.iconst 1, 1) := by decide +kernel
theorem d_L_law_310 : dec m_L_law 310 = .ok (.goto 4, 3) := by decide +kernel
theorem d_L_law_313 : dec m_L_law 313 = .ok (.iconst 0, 1) := by decide +kernel
theorem d_L_law_314 : dec m_L_law 314 = .ok (.istore 4, 2) := by decide +kernel
theorem d_L_law_316 : dec m_L_law 316 = .ok (.goto 875, 3) := by decide +kernel
theorem d_L_law_319 : dec m_L_law 319 = .ok (.aload_n 2, 1) := by decide +kernel
theorem d_L_law_320 : dec m_L_law 320 = .ok (.getfield 80, 3) := by decide +kernel
theorem d_L_law_323 : dec m_L_law 323 = .ok (.bipush 20, 2) := by decide +kernel
theorem d_L_law_325 : dec m_L_law 325 = .ok (.if_icmp .ge 7, 3) := by decide +kernel
theorem d_L_law_328 : dec m_L_law 328 = .ok (.iconst 1, 1) := by decide +kernel
theorem d_L_law_329 : dec m_L_law 329 = .ok (.goto 4, 3) := by decide +kernel
theorem d_L_law_332 : dec m_L_law 332 = .ok (.iconst 0, 1) := by decide +kernel
theorem d_L_law_333 : dec m_L_law 333 = .ok (.istore 12, 2) := by decide +kernel
theorem d_L_law_335 : dec m_L_law 335 = .ok (.aload_n 1, 1) := by decide +kernel
theorem d_L_law_336 : dec m_L_law 336 = .ok (.iload 6, 2) := by decide +kernel
theorem d_L_law_338 : dec m_L_law 338 = .ok (.bipush 8, 2) := by decide +kernel
theorem d_L_law_340 : dec m_L_law 340 = .ok (.iushr, 1) := by decide +kernel
theorem d_L_law_341 : dec m_L_law 341 = .ok (.iconst 1, 1) := by decide +kernel
theorem d_L_law_342 : dec m_L_law 342 = .ok (.iand, 1) := by decide +kernel
theorem d_L_law_343 : dec m_L_law 343 = .ok (.iconst 1, 1) := by decide +kernel
theorem d_L_law_344 : dec m_L_law 344 = .ok (.if_icmp .ne 7, 3) := by decide +kernel
theorem d_L_law_347 : dec m_L_law 347 = .ok (.iconst 1, 1) := by decide +kernel
theorem d_L_law_348 : dec m_L_law 348 = .ok (.goto 4, 3) := by decide +kernel
theorem d_L_law_351 : dec m_L_law 351 = .ok (.iconst 0, 1) := by decide +kernel
theorem d_L_law_352 : dec m_L_law 352 = .ok (.iload 6, 2) := by decide +kernel
theorem d_L_law_354 : dec m_L_law 354 = .ok (.bipush 9, 2) := by decide +kernel
theorem d_L_law_356 : dec m_L_law 356 = .ok (.iushr, 1) := by decide +kernel
theorem d_L_law_357 : dec m_L_law 357 = .ok (.iconst 4, 1) := by decide +kernel
theorem d_L_law_358 : dec m_L_law 358 = .ok (.irem, 1) := by decide +kernel
theorem d_L_law_359 : dec m_L_law 359 = .ok (.invokevirtual 176, 3) := by decide +kernel
theorem d_L_law_362 : dec m_L_law 362 = .ok (.iload 12, 2) := by decide +kernel
theorem d_L_law_364 : dec m_L_law 364 = .ok (.ifCond .eq 10, 3) := by decide +kernel
theorem d_L_law_367 : dec m_L_law 367 = .ok (.aload_n 2, 1) := by decide +kernel
theorem d_L_law_368 : dec m_L_law 368 = .ok (.getfield 80, 3) := by decide +kernel
theorem d_L_law_371 : dec m_L_law 371 = .ok (.goto 5, 3) := by decide +kernel
theorem d_L_law_374 : dec m_L_law 374 = .ok (.bipush (-2), 2) := by decide +kernel
theorem d_L_law_376 : dec m_L_law 376 = .ok (.if_icmp .ne 17, 3) := by decide +kernel
theorem d_L_law_379 : dec m_L_law 379 = .ok (.aload_n 1, 1) := by decide +kernel
theorem d_L_law_380 : dec m_L_law 380 = .ok (.iconst 1, 1) := by decide +kernel
theorem d_L_law_381 : dec m_L_law 381 = .ok (.iconst 4, 1) := by decide +kernel
theorem d_L_law_382 : dec m_L_law 382 = .ok (.invokevirtual 176, 3) := by decide +kernel
theorem d_L_law_385 : dec m_L_law 385 = .ok (.iconst (-1), 1) := by decide +kernel
theorem d_L_law_386 : dec m_L_law 386 = .ok (.if_icmp .ne 7, 3) := by decide +kernel
theorem d_L_law_389 : dec m_L_law 389 = .ok (.iconst 1, 1) := by decide +kernel
theorem d_L_law_390 : dec m_L_law 390 = .ok (.goto 4, 3) := by decide +kernel
theorem d_L_law_393 : dec m_L_law 393 = .ok (.iconst 0, 1) := by decide +kernel
theorem d_L_law_394 : dec m_L_law 394 = .ok (.istore 4, 2) := by decide +kernel
theorem d_L_law_396 : dec m_L_law 396 = .ok (.iload 12, 2) := by decide +kernel
theorem d_L_law_398 : dec m_L_law 398 = .ok (.ifCond .eq 793, 3) := by decide +kernel
theorem d_L_law_401 : dec m_L_law 401 = .ok (.aload_n 2, 1) := by decide +kernel
theorem d_L_law_402 : dec m_L_law 402 = .ok (.iload 6, 2) := by decide +kernel
theorem d_L_law_404 : dec m_L_law 404 = .ok (.bipush 8, 2) := by decide +kernel
theorem d_L_law_406 : dec m_L_law 406 = .ok (.iushr, 1) := by decide +kernel
theorem d_L_law_407 : dec m_L_law 407 = .ok (.iconst 1, 1) := by decide +kernel
theorem d_L_law_408 : dec m_L_law 408 = .ok (.iand, 1) := by decide +kernel
theorem d_L_law_409 : dec m_L_law 409 = .ok (.iconst 1, 1) := by decide +kernel
theorem d_L_law_410 : dec m_L_law 410 = .ok (.if_icmp .ne 7, 3) := by decide +kernel
theorem d_L_law_413 : dec m_L_law 413 = .ok (.iconst 1, 1) := by decide +kernel
theorem d_L_law_414 : dec m_L_law 414 = .ok (.goto 4, 3) := by decide +kernel
theorem d_L_law_417 : dec m_L_law 417 = .ok (.iconst 0, 1) := by decide +kernel
theorem d_L_law_418 : dec m_L_law 418 = .ok (.iload 6, 2) := by decide +kernel
theorem d_L_law_420 : dec m_L_law 420 = .ok (.bipush 9, 2) := by decide +kernel
theorem d_L_law_422 : dec m_L_law 422 = .ok (.iushr, 1) := by decide +kernel
theorem d_L_law_423 : dec m_L_law 423 = .ok (.iconst 4, 1) := by decide +kernel
theorem d_L_law_424 : dec m_L_law 424 = .ok (.irem, 1) := by decide +kernel
theorem d_L_law_425 : dec m_L_law 425 = .ok (.iconst 0, 1) := by decide +kernel
theorem d_L_law_426 : dec m_L_law 426 = .ok (.newarray .int, 2) := by decide +kernel
theorem d_L_law_428 : dec m_L_law 428 = .ok (.invokevirtual 180, 3) := by decide +kernel
theorem d_L_law_431 : dec m_L_law 431 = .ok (.goto 760, 3) := by decide +kernel
theorem d_L_law_434 : dec m_L_law 434 = .ok (.iload 9, 2) := by decide +kernel
theorem d_L_law_436 : dec m_L_law 436 = .ok (.ifCond .eq 45, 3) := by decide +kernel
theorem d_L_law_439 : dec m_L_law 439 = .ok (.iload 10, 2) := by decide +kernel
theorem d_L_law_441 : dec m_L_law 441 = .ok (.iconst 4, 1) := by decide +kernel
theorem d_L_law_442 : dec m_L_law 442 = .ok (.if_icmp .ge 39, 3) := by decide +kernel
theorem d_L_law_445 : dec m_L_law 445 = .ok (.iload 10, 2) := by decide +kernel
theorem d_L_law_447 : dec m_L_law 447 = .ok (.ifCond .eq 30, 3) := by decide +kernel
theorem d_L_law_450 : dec m_L_law 450 = .ok (.aload_n 2, 1) := by decide +kernel
theorem d_L_law_451 : dec m_L_law 451 = .ok (.getfield 50, 3) := by decide +kernel
theorem d_L_law_454 : dec m_L_law 454 = .ok (.iload 8, 2) := by decide +kernel
theorem d_L_law_456 : dec m_L_law 456 = .ok (.baload, 1) := by decide +kernel
theorem d_L_law_457 : dec m_L_law 457 = .ok (.aload_n 2, 1) := by decide +kernel
theorem d_L_law_458 : dec m_L_law 458 = .ok (.getfield 64, 3) := by decide +kernel
theorem d_L_law_461 : dec m_L_law 461 = .ok (.iload 8, 2) := by decide +kernel
theorem d_L_law_463 : dec m_L_law 463 = .ok (.aaload, 1) := by decide +kernel
theorem d_L_law_464 : dec m_L_law 464 = .ok (.iload 10, 2) := by decide +kernel
theorem d_L_law_466 : dec m_L_law 466 = .ok (.iconst 1, 1) := by decide +kernel
theorem d_L_law_467 : dec m_L_law 467 = .ok (.isub, 1) := by decide +kernel
theorem d_L_law_468 : dec m_L_law 468 = .ok (.iaload, 1) := by decide +kernel
theorem d_L_law_469 : dec m_L_law 469 = .ok (.iload 11, 2) := by decide +kernel
theorem d_L_law_471 : dec m_L_law 471 = .ok (.invokestatic 184, 3) := by decide +kernel
theorem d_L_law_474 : dec m_L_law 474 = .ok (.ifCond .eq 7, 3) := by decide +kernel
theorem d_L_law_477 : dec m_L_law 477 = .ok (.iconst 1, 1) := by decide +kernel
theorem d_L_law_478 : dec m_L_law 478 = .ok (.goto 4, 3) := by decide +kernel
theorem d_L_law_481 : dec m_L_law 481 = .ok (.iconst 0, 1) := by decide +kernel
theorem d_L_law_482 : dec m_L_law 482 = .ok (.istore 13, 2) := by decide +kernel
theorem d_L_law_484 : dec m_L_law 484 = .ok (.iload 13, 2) := by decide +kernel
theorem d_L_law_486 : dec m_L_law 486 = .ok (.istore 12, 2) := by decide +kernel
theorem d_L_law_488 : dec m_L_law 488 = .ok (.aload_n 1, 1) := by decide +kernel
theorem d_L_law_489 : dec m_L_law 489 = .ok (.iload 8, 2) := by decide +kernel
theorem d_L_law_491 : dec m_L_law 491 = .ok (.iload 11, 2) := by decide +kernel
theorem d_L_law_493 : dec m_L_law 493 = .ok (.invokevirtual 188, 3) := by decide +kernel
theorem d_L_law_496 : dec m_L_law 496 = .ok (.iload 9, 2) := by decide +kernel
theorem d_L_law_498 : dec m_L_law 498 = .ok (.ifCond .ne 7, 3) := by decide +kernel
theorem d_L_law_501 : dec m_L_law 501 = .ok (.iconst (-1), 1) := by decide +kernel
theorem d_L_law_502 : dec m_L_law 502 = .ok (.goto 28, 3) := by decide +kernel
theorem d_L_law_505 : dec m_L_law 505 = .ok (.iload 10, 2) := by decide +kernel
theorem d_L_law_507 : dec m_L_law 507 = .ok (.iconst 4, 1) := by decide +kernel
theorem d_L_law_508 : dec m_L_law 508 = .ok (.if_icmp .ne 8, 3) := by decide +kernel
theorem d_L_law_511 : dec m_L_law 511 = .ok (.bipush (-2), 2) := by decide +kernel
theorem d_L_law_513 : dec m_L_law 513 = .ok (.goto 17, 3) := by decide +kernel
theorem d_L_law_516 : dec m_L_law 516 = .ok (.iload 13, 2) := by decide +kernel
theorem d_L_law_518 : dec m_L_law 518 = .ok (.ifCond .eq 10, 3) := by decide +kernel
theorem d_L_law_521 : dec m_L_law 521 = .ok (.iload 10, 2) := by decide +kernel
theorem d_L_law_523 : dec m_L_law 523 = .ok (.iconst 1, 1) := by decide +kernel
theorem d_L_law_524 : dec m_L_law 524 = .ok (.iadd, 1) := by decide +kernel
theorem d_L_law_525 : dec m_L_law 525 = .ok (.goto 5, 3) := by decide +kernel
theorem d_L_law_528 : dec m_L_law 528 = .ok (.bipush (-3), 2) := by decide +kernel
theorem d_L_law_530 : dec m_L_law 530 = .ok (.if_icmp .ne 20, 3) := by decide +kernel
theorem d_L_law_533 : dec m_L_law 533 = .ok (.aload_n 1, 1) := by decide +kernel
theorem d_L_law_534 : dec m_L_law 534 = .ok (.iload 8, 2) := by decide +kernel
theorem d_L_law_536 : dec m_L_law 536 = .ok (.sipush 10000, 3) := by decide +kernel
theorem d_L_law_539 : dec m_L_law 539 = .ok (.invokevirtual 188, 3) := by decide +kernel
theorem d_L_law_542 : dec m_L_law 542 = .ok (.iconst (-1), 1) := by decide +kernel
theorem d_L_law_543 : dec m_L_law 543 = .ok (.if_icmp .ne 7, 3) := by decide +kernel
theorem d_L_law_546 : dec m_L_law 546 = .ok (.iconst 1, 1) := by decide +kernel
theorem d_L_law_547 : dec m_L_law 547 = .ok (.goto 4, 3) := by decide +kernel
theorem d_L_law_550 : dec m_L_law 550 = .ok (.iconst 0, 1) := by decide +kernel
theorem d_L_law_551 : dec m_L_law 551 = .ok (.istore 4, 2) := by decide +kernel
theorem d_L_law_553 : dec m_L_law 553 = .ok (.iload 13, 2) := by decide +kernel
theorem d_L_law_555 : dec m_L_law 555 = .ok (.ifCond .ne 6, 3) := by decide +kernel
theorem d_L_law_558 : dec m_L_law 558 = .ok (.goto 633, 3) := by decide +kernel
theorem d_L_law_561 : dec m_L_law 561 = .ok (.iload 10, 2) := by decide +kernel
theorem d_L_law_563 : dec m_L_law 563 = .ok (.iconst 1, 1) := by decide +kernel
theorem d_L_law_564 : dec m_L_law 564 = .ok (.iadd, 1) := by decide +kernel
theorem d_L_law_565 : dec m_L_law 565 = .ok (.newarray .int, 2) := by decide +kernel
theorem d_L_law_567 : dec m_L_law 567 = .ok (.astore 14, 2) := by decide +kernel
theorem d_L_law_569 : dec m_L_law 569 = .ok (.aload_n 2, 1) := by decide +kernel
theorem d_L_law_570 : dec m_L_law 570 = .ok (.getfield 64, 3) := by decide +kernel
theorem d_L_law_573 : dec m_L_law 573 = .ok (.iload 8, 2) := by decide +kernel
theorem d_L_law_575 : dec m_L_law 575 = .ok (.aaload, 1) := by decide +kernel
theorem d_L_law_576 : dec m_L_law 576 = .ok (.iconst 0, 1) := by decide +kernel
theorem d_L_law_577 : dec m_L_law 577 = .ok (.aload 14, 2) := by decide +kernel
theorem d_L_law_579 : dec m_L_law 579 = .ok (.iconst 0, 1) := by decide +kernel
theorem d_L_law_580 : dec m_L_law 580 = .ok (.iload 10, 2) := by decide +kernel
theorem d_L_law_582 : dec m_L_law 582 = .ok (.invokestatic 132, 3) := by decide +kernel
theorem d_L_law_585 : dec m_L_law 585 = .ok (.aload 14, 2) := by decide +kernel
theorem d_L_law_587 : dec m_L_law 587 = .ok (.iload 10, 2) := by decide +kernel
theorem d_L_law_589 : dec m_L_law 589 = .ok (.iload 11, 2) := by decide +kernel
theorem d_L_law_591 : dec m_L_law 591 = .ok (.iastore, 1) := by decide +kernel
theorem d_L_law_592 : dec m_L_law 592 = .ok (.aload_n 2, 1) := by decide +kernel
theorem d_L_law_593 : dec m_L_law 593 = .ok (.getfield 64, 3) := by decide +kernel
theorem d_L_law_596 : dec m_L_law 596 = .ok (.iload 8, 2) := by decide +kernel
theorem d_L_law_598 : dec m_L_law 598 = .ok (.aload 14, 2) := by decide +kernel
theorem d_L_law_600 : dec m_L_law 600 = .ok (.aastore, 1) := by decide +kernel
theorem d_L_law_601 : dec m_L_law 601 = .ok (.goto 590, 3) := by decide +kernel
theorem d_L_law_604 : dec m_L_law 604 = .ok (.iload 6, 2) := by decide +kernel
theorem d_L_law_606 : dec m_L_law 606 = .ok (.bipush 14, 2) := by decide +kernel
theorem d_L_law_608 : dec m_L_law 608 = .ok (.iushr, 1) := by decide +kernel
theorem d_L_law_609 : dec m_L_law 609 = .ok (.iconst 4, 1) := by decide +kernel
theorem d_L_law_610 : dec m_L_law 610 = .ok (.irem, 1) := by decide +kernel
theorem d_L_law_611 : dec m_L_law 611 = .ok (.istore 13, 2) := by decide +kernel
theorem d_L_law_613 : dec m_L_law 613 = .ok (.iload 9, 2) := by decide +kernel
theorem d_L_law_615 : dec m_L_law 615 = .ok (.ifCond .eq 14, 3) := by decide +kernel
theorem d_L_law_618 : dec m_L_law 618 = .ok (.iload 13, 2) := by decide +kernel
theorem d_L_law_620 : dec m_L_law 620 = .ok (.iload 10, 2) := by decide +kernel
theorem d_L_law_622 : dec m_L_law 622 = .ok (.if_icmp .ge 7, 3) := by decide +kernel
theorem d_L_law_625 : dec m_L_law 625 = .ok (.iconst 1, 1) := by decide +kernel
theorem d_L_law_626 : dec m_L_law 626 = .ok (.goto 4, 3) := by decide +kernel
theorem d_L_law_629 : dec m_L_law 629 = .ok (.iconst 0, 1) := by decide +kernel
theorem d_L_law_630 : dec m_L_law 630 = .ok (.istore 14, 2) := by decide +kernel
theorem d_L_law_632 : dec m_L_law 632 = .ok (.iload 14, 2) := by decide +kernel
theorem d_L_law_634 : dec m_L_law 634 = .ok (.ifCond .eq 22, 3) := by decide +kernel
theorem d_L_law_637 : dec m_L_law 637 = .ok (.aload_n 2, 1) := by decide +kernel
theorem d_L_law_638 : dec m_L_law 638 = .ok (.getfield 64, 3) := by decide +kernel
theorem d_L_law_641 : dec m_L_law 641 = .ok (.iload 8, 2) := by decide +kernel
theorem d_L_law_643 : dec m_L_law 643 = .ok (.aaload, 1) := by decide +kernel
theorem d_L_law_644 : dec m_L_law 644 = .ok (.iload 13, 2) := by decide +kernel
theorem d_L_law_646 : dec m_L_law 646 = .ok (.iaload, 1) := by decide +kernel
theorem d_L_law_647 : dec m_L_law 647 = .ok (.iload 11, 2) := by decide +kernel
theorem d_L_law_649 : dec m_L_law 649 = .ok (.if_icmp .ne 7, 3) := by decide +kernel
theorem d_L_law_652 : dec m_L_law 652 = .ok (.iconst 1, 1) := by decide +kernel
theorem d_L_law_653 : dec m_L_law 653 = .ok (.goto 4, 3) := by decide +kernel
theorem d_L_law_656 : dec m_L_law 656 = .ok (.iconst 0, 1) := by decide +kernel
theorem d_L_law_657 : dec m_L_law 657 = .ok (.istore 15, 2) := by decide +kernel
theorem d_L_law_659 : dec m_L_law 659 = .ok (.iload 14, 2) := by decide +kernel
theorem d_L_law_661 : dec m_L_law 661 = .ok (.ifCond .eq 80, 3) := by decide +kernel
theorem d_L_law_664 : dec m_L_law 664 = .ok (.iload 15, 2) := by decide +kernel
theorem d_L_law_666 : dec m_L_law 666 = .ok (.ifCond .ne 75, 3) := by decide +kernel
theorem d_L_law_669 : dec m_L_law 669 = .ok (.iload 13, 2) := by decide +kernel
theorem d_L_law_671 : dec m_L_law 671 = .ok (.ifCond .eq 30, 3) := by decide +kernel
theorem d_L_law_674 : dec m_L_law 674 = .ok (.aload_n 2, 1) := by decide +kernel
theorem d_L_law_675 : dec m_L_law 675 = .ok (.getfield 50, 3) := by decide +kernel
theorem d_L_law_678 : dec m_L_law 678 = .ok (.iload 8, 2) := by decide +kernel
theorem d_L_law_680 : dec m_L_law 680 = .ok (.baload, 1) := by decide +kernel
theorem d_L_law_681 : dec m_L_law 681 = .ok (.aload_n 2, 1) := by decide +kernel
theorem d_L_law_682 : dec m_L_law 682 = .ok (.getfield 64, 3) := by decide +kernel
theorem d_L_law_685 : dec m_L_law 685 = .ok (.iload 8, 2) := by decide +kernel
theorem d_L_law_687 : dec m_L_law 687 = .ok (.aaload, 1) := by decide +kernel
theorem d_L_law_688 : dec m_L_law 688 = .ok (.iload 13, 2) := by decide +kernel
theorem d_L_law_690 : dec m_L_law 690 = .ok (.iconst 1, 1) := by decide +kernel
theorem d_L_law_691 : dec m_L_law 691 = .ok (.isub, 1) := by decide +kernel
theorem d_L_law_692 : dec m_L_law 692 = .ok (.iaload, 1) := by decide +kernel
theorem d_L_law_693 : dec m_L_law 693 = .ok (.iload 11, 2) := by decide +kernel
theorem d_L_law_695 : dec m_L_law 695 = .ok (.invokestatic 184, 3) := by decide +kernel
theorem d_L_law_698 : dec m_L_law 698 = .ok (.ifCond .eq 43, 3) := by decide +kernel
theorem d_L_law_701 : dec m_L_law 701 = .ok (.iload 13, 2) := by decide +kernel
theorem d_L_law_703 : dec m_L_law 703 = .ok (.iconst 1, 1) := by decide +kernel
theorem d_L_law_704 : dec m_L_law 704 = .ok (.iadd, 1) := by decide +kernel
theorem d_L_law_705 : dec m_L_law 705 = .ok (.iload 10, 2) := by decide +kernel
theorem d_L_law_707 : dec m_L_law 707 = .ok (.if_icmp .eq 30, 3) := by decide +kernel
theorem d_L_law_710 : dec m_L_law 710 = .ok (.aload_n 2, 1) := by decide +kernel
theorem d_L_law_711 : dec m_L_law 711 = .ok (.getfield 50, 3) := by decide +kernel
theorem d_L_law_714 : dec m_L_law 714 = .ok (.iload 8, 2) := by decide +kernel
theorem d_L_law_716 : dec m_L_law 716 = .ok (.baload, 1) := by decide +kernel
theorem d_L_law_717 : dec m_L_law 717 = .ok (.iload 11, 2) := by decide +kernel
theorem d_L_law_719 : dec m_L_law 719 = .ok (.aload_n 2, 1) := by decide +kernel
theorem d_L_law_720 : dec m_L_law 720 = .ok (.getfield 64, 3) := by decide +kernel
theorem d_L_law_723 : dec m_L_law 723 = .ok (.iload 8, 2) := by decide +kernel
theorem d_L_law_725 : dec m_L_law 725 = .ok (.aaload, 1) := by decide +kernel
theorem d_L_law_726 : dec m_L_law 726 = .ok (.iload 13, 2) := by decide +kernel
theorem d_L_law_728 : dec m_L_law 728 = .ok (.iconst 1, 1) := by decide +kernel
theorem d_L_law_729 : dec m_L_law 729 = .ok (.iadd, 1) := by decide +kernel
theorem d_L_law_730 : dec m_L_law 730 = .ok (.iaload, 1) := by decide +kernel
theorem d_L_law_731 : dec m_L_law 731 = .ok (.invokestatic 184, 3) := by decide +kernel
theorem d_L_law_734 : dec m_L_law 734 = .ok (.ifCond .eq 7, 3) := by decide +kernel
theorem d_L_law_737 : dec m_L_law 737 = .ok (.iconst 1, 1) := by decide +kernel
theorem d_L_law_738 : dec m_L_law 738 = .ok (.goto 4, 3) := by decide +kernel
theorem d_L_law_741 : dec m_L_law 741 = .ok (.iconst 0, 1) := by decide +kernel
theorem d_L_law_742 : dec m_L_law 742 = .ok (.istore 12, 2) := by decide +kernel
theorem d_L_law_744 : dec m_L_law 744 = .ok (.aload_n 1, 1) := by decide +kernel
theorem d_L_law_745 : dec m_L_law 745 = .ok (.iload 8, 2) := by decide +kernel
theorem d_L_law_747 : dec m_L_law 747 = .ok (.iload 13, 2) := by decide +kernel
theorem d_L_law_749 : dec m_L_law 749 = .ok (.iload 11, 2) := by decide +kernel
theorem d_L_law_751 : dec m_L_law 751 = .ok (.invokevirtual 191, 3) := by decide +kernel
theorem d_L_law_754 : dec m_L_law 754 = .ok (.iload 14, 2) := by decide +kernel
theorem d_L_law_756 : dec m_L_law 756 = .ok (.ifCond .ne 7, 3) := by decide +kernel
theorem d_L_law_759 : dec m_L_law 759 = .ok (.iconst (-1), 1) := by decide +kernel
theorem d_L_law_760 : dec m_L_law 760 = .ok (.goto 33, 3) := by decide +kernel
theorem d_L_law_763 : dec m_L_law 763 = .ok (.iload 15, 2) := by decide +kernel
theorem d_L_law_765 : dec m_L_law 765 = .ok (.ifCond .eq 8, 3) := by decide +kernel
theorem d_L_law_768 : dec m_L_law 768 = .ok (.bipush (-2), 2) := by decide +kernel
theorem d_L_law_770 : dec m_L_law 770 = .ok (.goto 23, 3) := by decide +kernel
theorem d_L_law_773 : dec m_L_law 773 = .ok (.iload 12, 2) := by decide +kernel
theorem d_L_law_775 : dec m_L_law 775 = .ok (.ifCond .eq 16, 3) := by decide +kernel
theorem d_L_law_778 : dec m_L_law 778 = .ok (.aload_n 2, 1) := by decide +kernel
theorem d_L_law_779 : dec m_L_law 779 = .ok (.getfield 64, 3) := by decide +kernel
theorem d_L_law_782 : dec m_L_law 782 = .ok (.iload 8, 2) := by decide +kernel
theorem d_L_law_784 : dec m_L_law 784 = .ok (.aaload, 1) := by decide +kernel
theorem d_L_law_785 : dec m_L_law 785 = .ok (.iload 13, 2) := by decide +kernel
theorem d_L_law_787 : dec m_L_law 787 = .ok (.iaload, 1) := by decide +kernel
theorem d_L_law_788 : dec m_L_law 788 = .ok (.goto 5, 3) := by decide +kernel
theorem d_L_law_791 : dec m_L_law 791 = .ok (.bipush (-3), 2) := by decide +kernel
theorem d_L_law_793 : dec m_L_law 793 = .ok (.if_icmp .ne 20, 3) := by decide +kernel
theorem d_L_law_796 : dec m_L_law 796 = .ok (.aload_n 1, 1) := by decide +kernel
theorem d_L_law_797 : dec m_L_law 797 = .ok (.iload 8, 2) := by decide +kernel
theorem d_L_law_799 : dec m_L_law 799 = .ok (.iload 13, 2) := by decide +kernel
theorem d_L_law_801 : dec m_L_law 801 = .ok (.iconst (-1), 1) := by decide +kernel
theorem d_L_law_802 : dec m_L_law 802 = .ok (.invokevirtual 191, 3) := by decide +kernel
theorem d_L_law_805 : dec m_L_law 805 = .ok (.iconst (-1), 1) := by decide +kernel
theorem d_L_law_806 : dec m_L_law 806 = .ok (.if_icmp .ne 7, 3) := by decide +kernel
theorem d_L_law_809 : dec m_L_law 809 = .ok (.iconst 1, 1) := by decide +kernel
theorem d_L_law_810 : dec m_L_law 810 = .ok (.goto 4, 3) := by decide +kernel
theorem d_L_law_813 : dec m_L_law 813 = .ok (.iconst 0, 1) := by decide +kernel
theorem d_L_law_814 : dec m_L_law 814 = .ok (.istore 4, 2) := by decide +kernel
theorem d_L_law_816 : dec m_L_law 816 = .ok (.iload 12, 2) := by decide +kernel
theorem d_L_law_818 : dec m_L_law 818 = .ok (.ifCond .ne 6, 3) := by decide +kernel
theorem d_L_law_821 : dec m_L_law 821 = .ok (.goto 370, 3) := by decide +kernel
theorem d_L_law_824 : dec m_L_law 824 = .ok (.aload_n 2, 1) := by decide +kernel
theorem d_L_law_825 : dec m_L_law 825 = .ok (.getfield 64, 3) := by decide +kernel
theorem d_L_law_828 : dec m_L_law 828 = .ok (.iload 8, 2) := by decide +kernel
theorem d_L_law_830 : dec m_L_law 830 = .ok (.aload_n 2, 1) := by decide +kernel
theorem d_L_law_831 : dec m_L_law 831 = .ok (.getfield 64, 3) := by decide +kernel
theorem d_L_law_834 : dec m_L_law 834 = .ok (.iload 8, 2) := by decide +kernel
theorem d_L_law_836 : dec m_L_law 836 = .ok (.aaload, 1) := by decide +kernel
theorem d_L_law_837 : dec m_L_law 837 = .ok (.invokevirtual 195, 3) := by decide +kernel
theorem d_L_law_840 : dec m_L_law 840 = .ok (.checkcast 196, 3) := by decide +kernel
theorem d_L_law_843 : dec m_L_law 843 = .ok (.aastore, 1) := by decide +kernel
theorem d_L_law_844 : dec m_L_law 844 = .ok (.aload_n 2, 1) := by decide +kernel
theorem d_L_law_845 : dec m_L_law 845 = .ok (.getfield 64, 3) := by decide +kernel
theorem d_L_law_848 : dec m_L_law 848 = .ok (.iload 8, 2) := by decide +kernel
theorem d_L_law_850 : dec m_L_law 850 = .ok (.aaload, 1) := by decide +kernel
theorem d_L_law_851 : dec m_L_law 851 = .ok (.iload 13, 2) := by decide +kernel
theorem d_L_law_853 : dec m_L_law 853 = .ok (.iload 11, 2) := by decide +kernel
theorem d_L_law_855 : dec m_L_law 855 = .ok (.iastore, 1) := by decide +kernel
theorem d_L_law_856 : dec m_L_law 856 = .ok (.goto 335, 3) := by decide +kernel
theorem d_L_law_859 : dec m_L_law 859 = .ok (.iload 10, 2) := by decide +kernel
theorem d_L_law_861 : dec m_L_law 861 = .ok (.ifCond .le 7, 3) := by decide +kernel
theorem d_L_law_864 : dec m_L_law 864 = .ok (.iconst 1, 1) := by decide +kernel
theorem d_L_law_865 : dec m_L_law 865 = .ok (.goto 4, 3) := by decide +kernel
theorem d_L_law_868 : dec m_L_law 868 = .ok (.iconst 0, 1) := by decide +kernel
theorem d_L_law_869 : dec m_L_law 869 = .ok (.istore 12, 2) := by decide +kernel
theorem d_L_law_871 : dec m_L_law 871 = .ok (.aload_n 1, 1) := by decide +kernel
theorem d_L_law_872 : dec m_L_law 872 = .ok (.iload 8, 2) := by decide +kernel
theorem d_L_law_874 : dec m_L_law 874 = .ok (.invokevirtual 200, 3) := by decide +kernel
theorem d_L_law_877 : dec m_L_law 877 = .ok (.iload 12, 2) := by decide +kernel
theorem d_L_law_879 : dec m_L_law 879 = .ok (.ifCond .eq 8, 3) := by decide +kernel
theorem d_L_law_882 : dec m_L_law 882 = .ok (.iload 10, 2) := by decide +kernel
theorem d_L_law_884 : dec m_L_law 884 = .ok (.goto 4, 3) := by decide +kernel
theorem d_L_law_887 : dec m_L_law 887 = .ok (.iconst (-1), 1) := by decide +kernel
theorem d_L_law_888 : dec m_L_law 888 = .ok (.if_icmp .ne 7, 3) := by decide +kernel
theorem d_L_law_891 : dec m_L_law 891 = .ok (.iconst 1, 1) := by decide +kernel
theorem d_L_law_892 : dec m_L_law 892 = .ok (.goto 4, 3) := by decide +kernel
theorem d_L_law_895 : dec m_L_law 895 = .ok (.iconst 0, 1) := by decide +kernel
theorem d_L_law_896 : dec m_L_law 896 = .ok (.istore 4, 2) := by decide +kernel
theorem d_L_law_898 : dec m_L_law 898 = .ok (.iload 12, 2) := by decide +kernel
theorem d_L_law_900 : dec m_L_law 900 = .ok (.ifCond .eq 291, 3) := by decide +kernel
theorem d_L_law_903 : dec m_L_law 903 = .ok (.aload_n 2, 1) := by decide +kernel
theorem d_L_law_904 : dec m_L_law 904 = .ok (.getfield 64, 3) := by decide +kernel
theorem d_L_law_907 : dec m_L_law 907 = .ok (.iload 8, 2) := by decide +kernel
theorem d_L_law_909 : dec m_L_law 909 = .ok (.iconst 0, 1) := by decide +kernel
theorem d_L_law_910 : dec m_L_law 910 = .ok (.newarray .int, 2) := by decide +kernel
theorem d_L_law_912 : dec m_L_law 912 = .ok (.aastore, 1) := by decide +kernel
theorem d_L_law_913 : dec m_L_law 913 = .ok (.goto 278, 3) := by decide +kernel
theorem d_L_law_916 : dec m_L_law 916 = .ok (.iload 6, 2) := by decide +kernel
theorem d_L_law_918 : dec m_L_law 918 = .ok (.bipush 8, 2) := by decide +kernel
theorem d_L_law_920 : dec m_L_law 920 = .ok (.iushr, 1) := by decide +kernel
theorem d_L_law_921 : dec m_L_law 921 = .ok (.iconst 5, 1) := by decide +kernel
theorem d_L_law_922 : dec m_L_law 922 = .ok (.irem, 1) := by decide +kernel
theorem d_L_law_923 : dec m_L_law 923 = .ok (.istore 13, 2) := by decide +kernel
theorem d_L_law_925 : dec m_L_law 925 = .ok (.iload 13, 2) := by decide +kernel
theorem d_L_law_927 : dec m_L_law 927 = .ok (.aload_n 2, 1) := by decide +kernel
theorem d_L_law_928 : dec m_L_law 928 = .ok (.getfield 39, 3) := by decide +kernel
theorem d_L_law_931 : dec m_L_law 931 = .ok (.if_icmp .eq 7, 3) := by decide +kernel
theorem d_L_law_934 : dec m_L_law 934 = .ok (.iconst 1, 1) := by decide +kernel
theorem d_L_law_935 : dec m_L_law 935 = .ok (.goto 4, 3) := by decide +kernel
theorem d_L_law_938 : dec m_L_law 938 = .ok (.iconst 0, 1) := by decide +kernel
theorem d_L_law_939 : dec m_L_law 939 = .ok (.istore 12, 2) := by decide +kernel
theorem d_L_law_941 : dec m_L_law 941 = .ok (.aload_n 1, 1) := by decide +kernel
theorem d_L_law_942 : dec m_L_law 942 = .ok (.iload 13, 2) := by decide +kernel
theorem d_L_law_944 : dec m_L_law 944 = .ok (.invokevirtual 203, 3) := by decide +kernel
theorem d_L_law_947 : dec m_L_law 947 = .ok (.iload 12, 2) := by decide +kernel
theorem d_L_law_949 : dec m_L_law 949 = .ok (.ifCond .eq 10, 3) := by decide +kernel
theorem d_L_law_952 : dec m_L_law 952 = .ok (.aload_n 2, 1) := by decide +kernel
theorem d_L_law_953 : dec m_L_law 953 = .ok (.getfield 39, 3) := by decide +kernel
theorem d_L_law_956 : dec m_L_law 956 = .ok (.goto 5, 3) := by decide +kernel
theorem d_L_law_959 : dec m_L_law 959 = .ok (.bipush (-2), 2) := by decide +kernel
theorem d_L_law_961 : dec m_L_law 961 = .ok (.if_icmp .ne 18, 3) := by decide +kernel
theorem d_L_law_964 : dec m_L_law 964 = .ok (.aload_n 1, 1) := by decide +kernel
theorem d_L_law_965 : dec m_L_law 965 = .ok (.sipush 501, 3) := by decide +kernel
theorem d_L_law_968 : dec m_L_law 968 = .ok (.invokevirtual 203, 3) := by decide +kernel
theorem d_L_law_971 : dec m_L_law 971 = .ok (.iconst (-1), 1) := by decide +kernel
theorem d_L_law_972 : dec m_L_law 972 = .ok (.if_icmp .ne 7, 3) := by decide +kernel
theorem d_L_law_975 : dec m_L_law 975 = .ok (.iconst 1, 1) := by decide +kernel
theorem d_L_law_976 : dec m_L_law 976 = .ok (.goto 4, 3) := by decide +kernel
theorem d_L_law_979 : dec m_L_law 979 = .ok (.iconst 0, 1) := by decide +kernel
theorem d_L_law_980 : dec m_L_law 980 = .ok (.istore 4, 2) := by decide +kernel
theorem d_L_law_982 : dec m_L_law 982 = .ok (.aload_n 2, 1) := by decide +kernel
theorem d_L_law_983 : dec m_L_law 983 = .ok (.iload 13, 2) := by decide +kernel
theorem d_L_law_985 : dec m_L_law 985 = .ok (.putfield 39, 3) := by decide +kernel
theorem d_L_law_988 : dec m_L_law 988 = .ok (.goto 203, 3) := by decide +kernel
theorem d_L_law_991 : dec m_L_law 991 = .ok (.iload 6, 2) := by decide +kernel
theorem d_L_law_993 : dec m_L_law 993 = .ok (.bipush 8, 2) := by decide +kernel
theorem d_L_law_995 : dec m_L_law 995 = .ok (.iushr, 1) := by decide +kernel
theorem d_L_law_996 : dec m_L_law 996 = .ok (.iconst 4, 1) := by decide +kernel
theorem d_L_law_997 : dec m_L_law 997 = .ok (.irem, 1) := by decide +kernel
theorem d_L_law_998 : dec m_L_law 998 = .ok (.istore 13, 2) := by decide +kernel
theorem d_L_law_1000 : dec m_L_law 1000 = .ok (.iload 13, 2) := by decide +kernel
theorem d_L_law_1002 : dec m_L_law 1002 = .ok (.aload_n 2, 1) := by decide +kernel
theorem d_L_law_1003 : dec m_L_law 1003 = .ok (.getfield 71, 3) := by decide +kernel
theorem d_L_law_1006 : dec m_L_law 1006 = .ok (.if_icmp .eq 7, 3) := by decide +kernel
theorem d_L_law_1009 : dec m_L_law 1009 = .ok (.iconst 1, 1) := by decide +kernel
theorem d_L_law_1010 : dec m_L_law 1010 = .ok (.goto 4, 3) := by decide +kernel
theorem d_L_law_1013 : dec m_L_law 1013 = .ok (.iconst 0, 1) := by decide +kernel
theorem d_L_law_1014 : dec m_L_law 1014 = .ok (.istore 12, 2) := by decide +kernel
theorem d_L_law_1016 : dec m_L_law 1016 = .ok (.aload_n 1, 1) := by decide +kernel
theorem d_L_law_1017 : dec m_L_law 1017 = .ok (.iload 13, 2) := by decide +kernel
theorem d_L_law_1019 : dec m_L_law 1019 = .ok (.invokevirtual 205, 3) := by decide +kernel
theorem d_L_law_1022 : dec m_L_law 1022 = .ok (.iload 12, 2) := by decide +kernel
theorem d_L_law_1024 : dec m_L_law 1024 = .ok (.ifCond .eq 10, 3) := by decide +kernel
theorem d_L_law_1027 : dec m_L_law 1027 = .ok (.aload_n 2, 1) := by decide +kernel
theorem d_L_law_1028 : dec m_L_law 1028 = .ok (.getfield 71, 3) := by decide +kernel
theorem d_L_law_1031 : dec m_L_law 1031 = .ok (.goto 5, 3) := by decide +kernel
theorem d_L_law_1034 : dec m_L_law 1034 = .ok (.bipush (-2), 2) := by decide +kernel
theorem d_L_law_1036 : dec m_L_law 1036 = .ok (.if_icmp .ne 16, 3) := by decide +kernel
theorem d_L_law_1039 : dec m_L_law 1039 = .ok (.aload_n 1, 1) := by decide +kernel
theorem d_L_law_1040 : dec m_L_law 1040 = .ok (.iconst (-1), 1) := by decide +kernel
theorem d_L_law_1041 : dec m_L_law 1041 = .ok (.invokevirtual 205, 3) := by decide +kernel
theorem d_L_law_1044 : dec m_L_law 1044 = .ok (.iconst (-1), 1) := by decide +kernel
theorem d_L_law_1045 : dec m_L_law 1045 = .ok (.if_icmp .ne 7, 3) := by decide +kernel
theorem d_L_law_1048 : dec m_L_law 1048 = .ok (.iconst 1, 1) := by decide +kernel
theorem d_L_law_1049 : dec m_L_law 1049 = .ok (.goto 4, 3) := by decide +kernel
theorem d_L_law_1052 : dec m_L_law 1052 = .ok (.iconst 0, 1) := by decide +kernel
theorem d_L_law_1053 : dec m_L_law 1053 = .ok (.istore 4, 2) := by decide +kernel
theorem d_L_law_1055 : dec m_L_law 1055 = .ok (.aload_n 2, 1) := by decide +kernel
theorem d_L_law_1056 : dec m_L_law 1056 = .ok (.iload 13, 2) := by decide +kernel
theorem d_L_law_1058 : dec m_L_law 1058 = .ok (.putfield 71, 3) := by decide +kernel
theorem d_L_law_1061 : dec m_L_law 1061 = .ok (.goto 130, 3) := by decide +kernel
theorem d_L_law_1064 : dec m_L_law 1064 = .ok (.aload_n 2, 1) := by decide +kernel
theorem d_L_law_1065 : dec m_L_law 1065 = .ok (.iload 6, 2) := by decide +kernel
theorem d_L_law_1067 : dec m_L_law 1067 = .ok (.bipush 8, 2) := by decide +kernel
theorem d_L_law_1069 : dec m_L_law 1069 = .ok (.iushr, 1) := by decide +kernel
theorem d_L_law_1070 : dec m_L_law 1070 = .ok (.iconst 2, 1) := by decide +kernel
theorem d_L_law_1071 : dec m_L_law 1071 = .ok (.irem, 1) := by decide +kernel
theorem d_L_law_1072 : dec m_L_law 1072 = .ok (.invokestatic 207, 3) := by decide +kernel
theorem d_L_law_1075 : dec m_L_law 1075 = .ok (.istore 13, 2) := by decide +kernel
theorem d_L_law_1077 : dec m_L_law 1077 = .ok (.iload 13, 2) := by decide +kernel
theorem d_L_law_1079 : dec m_L_law 1079 = .ok (.ifCond .le 7, 3) := by decide +kernel
theorem d_L_law_1082 : dec m_L_law 1082 = .ok (.iconst 1, 1) := by decide +kernel
theorem d_L_law_1083 : dec m_L_law 1083 = .ok (.goto 4, 3) := by decide +kernel
theorem d_L_law_1086 : dec m_L_law 1086 = .ok (.iconst 0, 1) := by decide +kernel
theorem d_L_law_1087 : dec m_L_law 1087 = .ok (.istore 12, 2) := by decide +kernel
theorem d_L_law_1089 : dec m_L_law 1089 = .ok (.aload_n 1, 1) := by decide +kernel
theorem d_L_law_1090 : dec m_L_law 1090 = .ok (.iload 6, 2) := by decide +kernel
theorem d_L_law_1092 : dec m_L_law 1092 = .ok (.bipush 8, 2) := by decide +kernel
theorem d_L_law_1094 : dec m_L_law 1094 = .ok (.iushr, 1) := by decide +kernel
theorem d_L_law_1095 : dec m_L_law 1095 = .ok (.iconst 2, 1) := by decide +kernel
theorem d_L_law_1096 : dec m_L_law 1096 = .ok (.irem, 1) := by decide +kernel
theorem d_L_law_1097 : dec m_L_law 1097 = .ok (.invokevirtual 158, 3) := by decide +kernel
theorem d_L_law_1100 : dec m_L_law 1100 = .ok (.iload 13, 2) := by decide +kernel
theorem d_L_law_1102 : dec m_L_law 1102 = .ok (.if_icmp .ne 7, 3) := by decide +kernel
theorem d_L_law_1105 : dec m_L_law 1105 = .ok (.iconst 1, 1) := by decide +kernel
theorem d_L_law_1106 : dec m_L_law 1106 = .ok (.goto 4, 3) := by decide +kernel
theorem d_L_law_1109 : dec m_L_law 1109 = .ok (.iconst 0, 1) := by decide +kernel
theorem d_L_law_1110 : dec m_L_law 1110 = .ok (.istore 4, 2) := by decide +kernel
theorem d_L_law_1112 : dec m_L_law 1112 = .ok (.goto 79, 3) := by decide +kernel
theorem d_L_law_1115 : dec m_L_law 1115 = .ok (.iconst 0, 1) := by decide +kernel
theorem d_L_law_1116 : dec m_L_law 1116 = .ok (.istore 12, 2) := by decide +kernel
theorem d_L_law_1118 : dec m_L_law 1118 = .ok (.iload 6, 2) := by decide +kernel
theorem d_L_law_1120 : dec m_L_law 1120 = .ok (.bipush 8, 2) := by decide +kernel
theorem d_L_law_1122 : dec m_L_law 1122 = .ok (.iushr, 1) := by decide +kernel
theorem d_L_law_1123 : dec m_L_law 1123 = .ok (.iconst 1, 1) := by decide +kernel
theorem d_L_law_1124 : dec m_L_law 1124 = .ok (.iand, 1) := by decide +kernel
theorem d_L_law_1125 : dec m_L_law 1125 = .ok (.ifCond .eq 7, 3) := by decide +kernel
theorem d_L_law_1128 : dec m_L_law 1128 = .ok (.aload_n 3, 1) := by decide +kernel
theorem d_L_law_1129 : dec m_L_law 1129 = .ok (.ifnonnull 30, 3) := by decide +kernel
theorem d_L_law_1132 : dec m_L_law 1132 = .ok (.aload_n 1, 1) := by decide +kernel
theorem d_L_law_1133 : dec m_L_law 1133 = .ok (.iconst 0, 1) := by decide +kernel
theorem d_L_law_1134 : dec m_L_law 1134 = .ok (.invokevirtual 155, 3) := by decide +kernel
theorem d_L_law_1137 : dec m_L_law 1137 = .ok (.aload_n 2, 1) := by decide +kernel
theorem d_L_law_1138 : dec m_L_law 1138 = .ok (.getfield 80, 3) := by decide +kernel
theorem d_L_law_1141 : dec m_L_law 1141 = .ok (.if_icmp .ne 7, 3) := by decide +kernel
theorem d_L_law_1144 : dec m_L_law 1144 = .ok (.iconst 1, 1) := by decide +kernel
theorem d_L_law_1145 : dec m_L_law 1145 = .ok (.goto 4, 3) := by decide +kernel
theorem d_L_law_1148 : dec m_L_law 1148 = .ok (.iconst 0, 1) := by decide +kernel
theorem d_L_law_1149 : dec m_L_law 1149 = .ok (.istore 4, 2) := by decide +kernel
theorem d_L_law_1151 : dec m_L_law 1151 = .ok (.aload_n 2, 1) := by decide +kernel
theorem d_L_law_1152 : dec m_L_law 1152 = .ok (.invokevirtual 60, 3) := by decide +kernel
theorem d_L_law_1155 : dec m_L_law 1155 = .ok (.astore_n 3, 1) := by decide +kernel
theorem d_L_law_1156 : dec m_L_law 1156 = .ok (.goto 35, 3) := by decide +kernel
theorem d_L_law_1159 : dec m_L_law 1159 = .ok (.aload_n 1, 1) := by decide +kernel
theorem d_L_law_1160 : dec m_L_law 1160 = .ok (.iconst 0, 1) := by decide +kernel
theorem d_L_law_1161 : dec m_L_law 1161 = .ok (.invokevirtual 152, 3) := by decide +kernel
theorem d_L_law_1164 : dec m_L_law 1164 = .ok (.aload_n 3, 1) := by decide +kernel
theorem d_L_law_1165 : dec m_L_law 1165 = .ok (.getfield 80, 3) := by decide +kernel
theorem d_L_law_1168 : dec m_L_law 1168 = .ok (.if_icmp .ne 15, 3) := by decide +kernel
theorem d_L_law_1171 : dec m_L_law 1171 = .ok (.aload_n 1, 1) := by decide +kernel
theorem d_L_law_1172 : dec m_L_law 1172 = .ok (.iconst 4, 1) := by decide +kernel
theorem d_L_law_1173 : dec m_L_law 1173 = .ok (.invokevirtual 83, 3) := by decide +kernel
theorem d_L_law_1176 : dec m_L_law 1176 = .ok (.ifCond .ne 7, 3) := by decide +kernel
theorem d_L_law_1179 : dec m_L_law 1179 = .ok (.iconst 1, 1) := by decide +kernel
theorem d_L_law_1180 : dec m_L_law 1180 = .ok (.goto 4, 3) := by decide +kernel
theorem d_L_law_1183 : dec m_L_law 1183 = .ok (.iconst 0, 1) := by decide +kernel
theorem d_L_law_1184 : dec m_L_law 1184 = .ok (.istore 4, 2) := by decide +kernel
theorem d_L_law_1186 : dec m_L_law 1186 = .ok (.aload_n 3, 1) := by decide +kernel
theorem d_L_law_1187 : dec m_L_law 1187 = .ok (.invokevirtual 60, 3) := by decide +kernel
theorem d_L_law_1190 : dec m_L_law 1190 = .ok (.astore_n 2, 1) := by decide +kernel
theorem d_L_law_1191 : dec m_L_law 1191 = .ok (.iload 4, 2) := by decide +kernel
theorem d_L_law_1193 : dec m_L_law 1193 = .ok (.ifCond .eq 15, 3) := by decide +kernel
theorem d_L_law_1196 : dec m_L_law 1196 = .ok (.aload_n 1, 1) := by decide +kernel
theorem d_L_law_1197 : dec m_L_law 1197 = .ok (.aload_n 2, 1) := by decide +kernel
theorem d_L_law_1198 : dec m_L_law 1198 = .ok (.invokestatic 145, 3) := by decide +kernel
theorem d_L_law_1201 : dec m_L_law 1201 = .ok (.ifCond .eq 7, 3) := by decide +kernel
theorem d_L_law_1204 : dec m_L_law 1204 = .ok (.iconst 1, 1) := by decide +kernel
theorem d_L_law_1205 : dec m_L_law 1205 = .ok (.goto 4, 3) := by decide +kernel
theorem d_L_law_1208 : dec m_L_law 1208 = .ok (.iconst 0, 1) := by decide +kernel
theorem d_L_law_1209 : dec m_L_law 1209 = .ok (.istore 4, 2) := by decide +kernel
theorem d_L_law_1211 : dec m_L_law 1211 = .ok (.iload 12, 2) := by decide +kernel
theorem d_L_law_1213 : dec m_L_law 1213 = .ok (.ifCond .eq 66, 3) := by decide +kernel
theorem d_L_law_1216 : dec m_L_law 1216 = .ok (.iload 4, 2) := by decide +kernel
theorem d_L_law_1218 : dec m_L_law 1218 = .ok (.ifCond .eq 61, 3) := by decide +kernel
theorem d_L_law_1221 : dec m_L_law 1221 = .ok (.iload 6, 2) := by decide +kernel
theorem d_L_law_1223 : dec m_L_law 1223 = .ok (.bipush 25, 2) := by decide +kernel
theorem d_L_law_1225 : dec m_L_law 1225 = .ok (.iushr, 1) := by decide +kernel
theorem d_L_law_1226 : dec m_L_law 1226 = .ok (.iconst 3, 1) := by decide +kernel
theorem d_L_law_1227 : dec m_L_law 1227 = .ok (.iand, 1) := by decide +kernel
theorem d_L_law_1228 : dec m_L_law 1228 = .ok (.ifCond .ne 51, 3) := by decide +kernel
theorem d_L_law_1231 : dec m_L_law 1231 = .ok (.aload_n 1, 1) := by decide +kernel
theorem d_L_law_1232 : dec m_L_law 1232 = .ok (.iconst 4, 1) := by decide +kernel
theorem d_L_law_1233 : dec m_L_law 1233 = .ok (.invokevirtual 83, 3) := by decide +kernel
theorem d_L_law_1236 : dec m_L_law 1236 = .ok (.istore 13, 2) := by decide +kernel
theorem d_L_law_1238 : dec m_L_law 1238 = .ok (.aload_n 1, 1) := by decide +kernel
theorem d_L_law_1239 : dec m_L_law 1239 = .ok (.invokevirtual 149, 3) := by decide +kernel
theorem d_L_law_1242 : dec m_L_law 1242 = .ok (.iload 13, 2) := by decide +kernel
theorem d_L_law_1244 : dec m_L_law 1244 = .ok (.iconst 1, 1) := by decide +kernel
theorem d_L_law_1245 : dec m_L_law 1245 = .ok (.isub, 1) := by decide +kernel
theorem d_L_law_1246 : dec m_L_law 1246 = .ok (.if_icmp .ne 7, 3) := by decide +kernel
theorem d_L_law_1249 : dec m_L_law 1249 = .ok (.iconst 1, 1) := by decide +kernel
theorem d_L_law_1250 : dec m_L_law 1250 = .ok (.goto 4, 3) := by decide +kernel
theorem d_L_law_1253 : dec m_L_law 1253 = .ok (.iconst 0, 1) := by decide +kernel
theorem d_L_law_1254 : dec m_L_law 1254 = .ok (.istore 4, 2) := by decide +kernel
theorem d_L_law_1256 : dec m_L_law 1256 = .ok (.aload 7, 2) := by decide +kernel
theorem d_L_law_1258 : dec m_L_law 1258 = .ok (.astore_n 2, 1) := by decide +kernel
theorem d_L_law_1259 : dec m_L_law 1259 = .ok (.iload 4, 2) := by decide +kernel
theorem d_L_law_1261 : dec m_L_law 1261 = .ok (.ifCond .eq 15, 3) := by decide +kernel
theorem d_L_law_1264 : dec m_L_law 1264 = .ok (.aload_n 1, 1) := by decide +kernel
theorem d_L_law_1265 : dec m_L_law 1265 = .ok (.aload_n 2, 1) := by decide +kernel
theorem d_L_law_1266 : dec m_L_law 1266 = .ok (.invokestatic 145, 3) := by decide +kernel
theorem d_L_law_1269 : dec m_L_law 1269 = .ok (.ifCond .eq 7, 3) := by decide +kernel
theorem d_L_law_1272 : dec m_L_law 1272 = .ok (.iconst 1, 1) := by decide +kernel
theorem d_L_law_1273 : dec m_L_law 1273 = .ok (.goto 4, 3) := by decide +kernel
theorem d_L_law_1276 : dec m_L_law 1276 = .ok (.iconst 0, 1) := by decide +kernel
theorem d_L_law_1277 : dec m_L_law 1277 = .ok (.istore 4, 2) := by decide +kernel
theorem d_L_law_1279 : dec m_L_law 1279 = .ok (.iinc 5 1, 3) := by decide +kernel
theorem d_L_law_1282 : dec m_L_law 1282 = .ok (.goto (-1200), 3) := by decide +kernel
theorem d_L_law_1285 : dec m_L_law 1285 = .ok (.iload 4, 2) := by decide +kernel
theorem d_L_law_1287 : dec m_L_law 1287 = .ok (.ireturn, 1) := by decide +kernel
