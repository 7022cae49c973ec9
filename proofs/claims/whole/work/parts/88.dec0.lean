set_option maxRecDepth 100000
theorem d_L_law_0 : dec m_L_law 0 = .ok (.new 7, 3) := by decide +kernel
theorem d_L_law_3 : dec m_L_law 3 = .ok (.dup, 1) := by decide +kernel
theorem d_L_law_4 : dec m_L_law 4 = .ok (.invokespecial 9, 3) := by decide +kernel
theorem d_L_law_7 : dec m_L_law 7 = .ok (.astore_n 1, 1) := by decide +kernel
theorem d_L_law_8 : dec m_L_law 8 = .ok (.new 10, 3) := by decide +kernel
theorem d_L_law_11 : dec m_L_law 11 = .ok (.dup, 1) := by decide +kernel
theorem d_L_law_12 : dec m_L_law 12 = .ok (.invokespecial 12, 3) := by decide +kernel
theorem d_L_law_15 : dec m_L_law 15 = .ok (.astore_n 2, 1) := by decide +kernel
theorem d_L_law_16 : dec m_L_law 16 = .ok (.iconst 0, 1) := by decide +kernel
theorem d_L_law_17 : dec m_L_law 17 = .ok (.istore_n 3, 1) := by decide +kernel
theorem d_L_law_18 : dec m_L_law 18 = .ok (.iload_n 3, 1) := by decide +kernel
theorem d_L_law_19 : dec m_L_law 19 = .ok (.aload_n 0, 1) := by decide +kernel
theorem d_L_law_20 : dec m_L_law 20 = .ok (.arraylength, 1) := by decide +kernel
theorem d_L_law_21 : dec m_L_law 21 = .ok (.bipush 6, 2) := by decide +kernel
theorem d_L_law_23 : dec m_L_law 23 = .ok (.isub, 1) := by decide +kernel
theorem d_L_law_24 : dec m_L_law 24 = .ok (.if_icmp .gt 1591, 3) := by decide +kernel
theorem d_L_law_27 : dec m_L_law 27 = .ok (.aload_n 0, 1) := by decide +kernel
theorem d_L_law_28 : dec m_L_law 28 = .ok (.iload_n 3, 1) := by decide +kernel
theorem d_L_law_29 : dec m_L_law 29 = .ok (.iaload, 1) := by decide +kernel
theorem d_L_law_30 : dec m_L_law 30 = .ok (.bipush 63, 2) := by decide +kernel
theorem d_L_law_32 : dec m_L_law 32 = .ok (.iand, 1) := by decide +kernel
theorem d_L_law_33 : dec m_L_law 33 = .ok (.tableswitch 1576 0 42 #[187, 250, 273, 286, 335, 368, 411, 434, 457, 480, 503, 516, 539, 562, 595, 664, 697, 730, 763, 796, 819, 852, 876, 919, 962, 985, 1008, 1022, 1045, 1094, 1117, 1160, 1203, 1236, 1259, 1292, 1325, 1368, 1401, 1444, 1477, 1510, 1553], 187) := by decide +kernel
theorem d_L_law_220 : dec m_L_law 220 = .ok (.aload_n 1, 1) := by decide +kernel
theorem d_L_law_221 : dec m_L_law 221 = .ok (.aload_n 0, 1) := by decide +kernel
theorem d_L_law_222 : dec m_L_law 222 = .ok (.iload_n 3, 1) := by decide +kernel
theorem d_L_law_223 : dec m_L_law 223 = .ok (.iconst 1, 1) := by decide +kernel
theorem d_L_law_224 : dec m_L_law 224 = .ok (.iadd, 1) := by decide +kernel
theorem d_L_law_225 : dec m_L_law 225 = .ok (.iaload, 1) := by decide +kernel
theorem d_L_law_226 : dec m_L_law 226 = .ok (.aload_n 0, 1) := by decide +kernel
theorem d_L_law_227 : dec m_L_law 227 = .ok (.iload_n 3, 1) := by decide +kernel
theorem d_L_law_228 : dec m_L_law 228 = .ok (.iconst 2, 1) := by decide +kernel
theorem d_L_law_229 : dec m_L_law 229 = .ok (.iadd, 1) := by decide +kernel
theorem d_L_law_230 : dec m_L_law 230 = .ok (.iaload, 1) := by decide +kernel
theorem d_L_law_231 : dec m_L_law 231 = .ok (.aload_n 0, 1) := by decide +kernel
theorem d_L_law_232 : dec m_L_law 232 = .ok (.iload_n 3, 1) := by decide +kernel
theorem d_L_law_233 : dec m_L_law 233 = .ok (.iconst 3, 1) := by decide +kernel
theorem d_L_law_234 : dec m_L_law 234 = .ok (.iadd, 1) := by decide +kernel
theorem d_L_law_235 : dec m_L_law 235 = .ok (.iaload, 1) := by decide +kernel
theorem d_L_law_236 : dec m_L_law 236 = .ok (.aload_n 0, 1) := by decide +kernel
theorem d_L_law_237 : dec m_L_law 237 = .ok (.iload_n 3, 1) := by decide +kernel
theorem d_L_law_238 : dec m_L_law 238 = .ok (.iconst 4, 1) := by decide +kernel
theorem d_L_law_239 : dec m_L_law 239 = .ok (.iadd, 1) := by decide +kernel
theorem d_L_law_240 : dec m_L_law 240 = .ok (.iaload, 1) := by decide +kernel
theorem d_L_law_241 : dec m_L_law 241 = .ok (.aload_n 0, 1) := by decide +kernel
theorem d_L_law_242 : dec m_L_law 242 = .ok (.iload_n 3, 1) := by decide +kernel
theorem d_L_law_243 : dec m_L_law 243 = .ok (.iconst 5, 1) := by decide +kernel
theorem d_L_law_244 : dec m_L_law 244 = .ok (.iadd, 1) := by decide +kernel
theorem d_L_law_245 : dec m_L_law 245 = .ok (.iaload, 1) := by decide +kernel
theorem d_L_law_246 : dec m_L_law 246 = .ok (.invokevirtual 13, 3) := by decide +kernel
theorem d_L_law_249 : dec m_L_law 249 = .ok (.aload_n 2, 1) := by decide +kernel
theorem d_L_law_250 : dec m_L_law 250 = .ok (.aload_n 0, 1) := by decide +kernel
theorem d_L_law_251 : dec m_L_law 251 = .ok (.iload_n 3, 1) := by decide +kernel
theorem d_L_law_252 : dec m_L_law 252 = .ok (.iconst 1, 1) := by decide +kernel
theorem d_L_law_253 : dec m_L_law 253 = .ok (.iadd, 1) := by decide +kernel
theorem d_L_law_254 : dec m_L_law 254 = .ok (.iaload, 1) := by decide +kernel
theorem d_L_law_255 : dec m_L_law 255 = .ok (.aload_n 0, 1) := by decide +kernel
theorem d_L_law_256 : dec m_L_law 256 = .ok (.iload_n 3, 1) := by decide +kernel
theorem d_L_law_257 : dec m_L_law 257 = .ok (.iconst 2, 1) := by decide +kernel
theorem d_L_law_258 : dec m_L_law 258 = .ok (.iadd, 1) := by decide +kernel
theorem d_L_law_259 : dec m_L_law 259 = .ok (.iaload, 1) := by decide +kernel
theorem d_L_law_260 : dec m_L_law 260 = .ok (.aload_n 0, 1) := by decide +kernel
theorem d_L_law_261 : dec m_L_law 261 = .ok (.iload_n 3, 1) := by decide +kernel
theorem d_L_law_262 : dec m_L_law 262 = .ok (.iconst 3, 1) := by decide +kernel
theorem d_L_law_263 : dec m_L_law 263 = .ok (.iadd, 1) := by decide +kernel
theorem d_L_law_264 : dec m_L_law 264 = .ok (.iaload, 1) := by decide +kernel
theorem d_L_law_265 : dec m_L_law 265 = .ok (.aload_n 0, 1) := by decide +kernel
theorem d_L_law_266 : dec m_L_law 266 = .ok (.iload_n 3, 1) := by decide +kernel
theorem d_L_law_267 : dec m_L_law 267 = .ok (.iconst 4, 1) := by decide +kernel
theorem d_L_law_268 : dec m_L_law 268 = .ok (.iadd, 1) := by decide +kernel
theorem d_L_law_269 : dec m_L_law 269 = .ok (.iaload, 1) := by decide +kernel
theorem d_L_law_270 : dec m_L_law 270 = .ok (.aload_n 0, 1) := by decide +kernel
theorem d_L_law_271 : dec m_L_law 271 = .ok (.iload_n 3, 1) := by decide +kernel
theorem d_L_law_272 : dec m_L_law 272 = .ok (.iconst 5, 1) := by decide +kernel
theorem d_L_law_273 : dec m_L_law 273 = .ok (.iadd, 1) := by decide +kernel
theorem d_L_law_274 : dec m_L_law 274 = .ok (.iaload, 1) := by decide +kernel
theorem d_L_law_275 : dec m_L_law 275 = .ok (.invokevirtual 17, 3) := by decide +kernel
theorem d_L_law_278 : dec m_L_law 278 = .ok (.if_icmp .eq 1331, 3) := by decide +kernel
theorem d_L_law_281 : dec m_L_law 281 = .ok (.iconst 0, 1) := by decide +kernel
theorem d_L_law_282 : dec m_L_law 282 = .ok (.ireturn, 1) := by decide +kernel
theorem d_L_law_283 : dec m_L_law 283 = .ok (.aload_n 1, 1) := by decide +kernel
theorem d_L_law_284 : dec m_L_law 284 = .ok (.aload_n 0, 1) := by decide +kernel
theorem d_L_law_285 : dec m_L_law 285 = .ok (.iload_n 3, 1) := by decide +kernel
theorem d_L_law_286 : dec m_L_law 286 = .ok (.iconst 1, 1) := by decide +kernel
theorem d_L_law_287 : dec m_L_law 287 = .ok (.iadd, 1) := by decide +kernel
theorem d_L_law_288 : dec m_L_law 288 = .ok (.iaload, 1) := by decide +kernel
theorem d_L_law_289 : dec m_L_law 289 = .ok (.invokevirtual 18, 3) := by decide +kernel
theorem d_L_law_292 : dec m_L_law 292 = .ok (.aload_n 2, 1) := by decide +kernel
theorem d_L_law_293 : dec m_L_law 293 = .ok (.aload_n 0, 1) := by decide +kernel
theorem d_L_law_294 : dec m_L_law 294 = .ok (.iload_n 3, 1) := by decide +kernel
theorem d_L_law_295 : dec m_L_law 295 = .ok (.iconst 1, 1) := by decide +kernel
theorem d_L_law_296 : dec m_L_law 296 = .ok (.iadd, 1) := by decide +kernel
theorem d_L_law_297 : dec m_L_law 297 = .ok (.iaload, 1) := by decide +kernel
theorem d_L_law_298 : dec m_L_law 298 = .ok (.invokevirtual 22, 3) := by decide +kernel
theorem d_L_law_301 : dec m_L_law 301 = .ok (.if_icmp .eq 1308, 3) := by decide +kernel
theorem d_L_law_304 : dec m_L_law 304 = .ok (.iconst 0, 1) := by decide +kernel
theorem d_L_law_305 : dec m_L_law 305 = .ok (.ireturn, 1) := by decide +kernel
theorem d_L_law_306 : dec m_L_law 306 = .ok (.aload_n 1, 1) := by decide +kernel
theorem d_L_law_307 : dec m_L_law 307 = .ok (.invokevirtual 23, 3) := by decide +kernel
theorem d_L_law_310 : dec m_L_law 310 = .ok (.aload_n 2, 1) := by decide +kernel
theorem d_L_law_311 : dec m_L_law 311 = .ok (.invokevirtual 27, 3) := by decide +kernel
theorem d_L_law_314 : dec m_L_law 314 = .ok (.if_icmp .eq 1295, 3) := by decide +kernel
theorem d_L_law_317 : dec m_L_law 317 = .ok (.iconst 0, 1) := by decide +kernel
theorem d_L_law_318 : dec m_L_law 318 = .ok (.ireturn, 1) := by decide +kernel
theorem d_L_law_319 : dec m_L_law 319 = .ok (.aload_n 1, 1) := by decide +kernel
theorem d_L_law_320 : dec m_L_law 320 = .ok (.aload_n 0, 1) := by decide +kernel
theorem d_L_law_321 : dec m_L_law 321 = .ok (.iload_n 3, 1) := by decide +kernel
theorem d_L_law_322 : dec m_L_law 322 = .ok (.iconst 1, 1) := by decide +kernel
theorem d_L_law_323 : dec m_L_law 323 = .ok (.iadd, 1) := by decide +kernel
theorem d_L_law_324 : dec m_L_law 324 = .ok (.iaload, 1) := by decide +kernel
theorem d_L_law_325 : dec m_L_law 325 = .ok (.ifCond .eq 7, 3) := by decide +kernel
theorem d_L_law_328 : dec m_L_law 328 = .ok (.iconst 1, 1) := by decide +kernel
theorem d_L_law_329 : dec m_L_law 329 = .ok (.goto 4, 3) := by decide +kernel
theorem d_L_law_332 : dec m_L_law 332 = .ok (.iconst 0, 1) := by decide +kernel
theorem d_L_law_333 : dec m_L_law 333 = .ok (.aload_n 0, 1) := by decide +kernel
theorem d_L_law_334 : dec m_L_law 334 = .ok (.iload_n 3, 1) := by decide +kernel
theorem d_L_law_335 : dec m_L_law 335 = .ok (.iconst 2, 1) := by decide +kernel
theorem d_L_law_336 : dec m_L_law 336 = .ok (.iadd, 1) := by decide +kernel
theorem d_L_law_337 : dec m_L_law 337 = .ok (.iaload, 1) := by decide +kernel
theorem d_L_law_338 : dec m_L_law 338 = .ok (.invokevirtual 28, 3) := by decide +kernel
theorem d_L_law_341 : dec m_L_law 341 = .ok (.aload_n 2, 1) := by decide +kernel
theorem d_L_law_342 : dec m_L_law 342 = .ok (.aload_n 0, 1) := by decide +kernel
theorem d_L_law_343 : dec m_L_law 343 = .ok (.iload_n 3, 1) := by decide +kernel
theorem d_L_law_344 : dec m_L_law 344 = .ok (.iconst 1, 1) := by decide +kernel
theorem d_L_law_345 : dec m_L_law 345 = .ok (.iadd, 1) := by decide +kernel
theorem d_L_law_346 : dec m_L_law 346 = .ok (.iaload, 1) := by decide +kernel
theorem d_L_law_347 : dec m_L_law 347 = .ok (.ifCond .eq 7, 3) := by decide +kernel
theorem d_L_law_350 : dec m_L_law 350 = .ok (.iconst 1, 1) := by decide +kernel
theorem d_L_law_351 : dec m_L_law 351 = .ok (.goto 4, 3) := by decide +kernel
theorem d_L_law_354 : dec m_L_law 354 = .ok (.iconst 0, 1) := by decide +kernel
theorem d_L_law_355 : dec m_L_law 355 = .ok (.aload_n 0, 1) := by decide +kernel
theorem d_L_law_356 : dec m_L_law 356 = .ok (.iload_n 3, 1) := by decide +kernel
theorem d_L_law_357 : dec m_L_law 357 = .ok (.iconst 2, 1) := by decide +kernel
theorem d_L_law_358 : dec m_L_law 358 = .ok (.iadd, 1) := by decide +kernel
theorem d_L_law_359 : dec m_L_law 359 = .ok (.iaload, 1) := by decide +kernel
theorem d_L_law_360 : dec m_L_law 360 = .ok (.invokevirtual 32, 3) := by decide +kernel
theorem d_L_law_363 : dec m_L_law 363 = .ok (.if_icmp .eq 1246, 3) := by decide +kernel
theorem d_L_law_366 : dec m_L_law 366 = .ok (.iconst 0, 1) := by decide +kernel
theorem d_L_law_367 : dec m_L_law 367 = .ok (.ireturn, 1) := by decide +kernel
theorem d_L_law_368 : dec m_L_law 368 = .ok (.aload_n 1, 1) := by decide +kernel
theorem d_L_law_369 : dec m_L_law 369 = .ok (.aload_n 0, 1) := by decide +kernel
theorem d_L_law_370 : dec m_L_law 370 = .ok (.iload_n 3, 1) := by decide +kernel
theorem d_L_law_371 : dec m_L_law 371 = .ok (.iconst 1, 1) := by decide +kernel
theorem d_L_law_372 : dec m_L_law 372 = .ok (.iadd, 1) := by decide +kernel
theorem d_L_law_373 : dec m_L_law 373 = .ok (.iaload, 1) := by decide +kernel
theorem d_L_law_374 : dec m_L_law 374 = .ok (.aload_n 0, 1) := by decide +kernel
theorem d_L_law_375 : dec m_L_law 375 = .ok (.iload_n 3, 1) := by decide +kernel
theorem d_L_law_376 : dec m_L_law 376 = .ok (.iconst 2, 1) := by decide +kernel
theorem d_L_law_377 : dec m_L_law 377 = .ok (.iadd, 1) := by decide +kernel
theorem d_L_law_378 : dec m_L_law 378 = .ok (.iaload, 1) := by decide +kernel
theorem d_L_law_379 : dec m_L_law 379 = .ok (.invokevirtual 33, 3) := by decide +kernel
theorem d_L_law_382 : dec m_L_law 382 = .ok (.aload_n 2, 1) := by decide +kernel
theorem d_L_law_383 : dec m_L_law 383 = .ok (.aload_n 0, 1) := by decide +kernel
theorem d_L_law_384 : dec m_L_law 384 = .ok (.iload_n 3, 1) := by decide +kernel
theorem d_L_law_385 : dec m_L_law 385 = .ok (.iconst 1, 1) := by decide +kernel
theorem d_L_law_386 : dec m_L_law 386 = .ok (.iadd, 1) := by decide +kernel
theorem d_L_law_387 : dec m_L_law 387 = .ok (.iaload, 1) := by decide +kernel
theorem d_L_law_388 : dec m_L_law 388 = .ok (.aload_n 0, 1) := by decide +kernel
theorem d_L_law_389 : dec m_L_law 389 = .ok (.iload_n 3, 1) := by decide +kernel
theorem d_L_law_390 : dec m_L_law 390 = .ok (.iconst 2, 1) := by decide +kernel
theorem d_L_law_391 : dec m_L_law 391 = .ok (.iadd, 1) := by decide +kernel
theorem d_L_law_392 : dec m_L_law 392 = .ok (.iaload, 1) := by decide +kernel
theorem d_L_law_393 : dec m_L_law 393 = .ok (.invokevirtual 37, 3) := by decide +kernel
theorem d_L_law_396 : dec m_L_law 396 = .ok (.if_icmp .eq 1213, 3) := by decide +kernel
theorem d_L_law_399 : dec m_L_law 399 = .ok (.iconst 0, 1) := by decide +kernel
theorem d_L_law_400 : dec m_L_law 400 = .ok (.ireturn, 1) := by decide +kernel
theorem d_L_law_401 : dec m_L_law 401 = .ok (.aload_n 1, 1) := by decide +kernel
theorem d_L_law_402 : dec m_L_law 402 = .ok (.aload_n 0, 1) := by decide +kernel
theorem d_L_law_403 : dec m_L_law 403 = .ok (.iload_n 3, 1) := by decide +kernel
theorem d_L_law_404 : dec m_L_law 404 = .ok (.iconst 1, 1) := by decide +kernel
theorem d_L_law_405 : dec m_L_law 405 = .ok (.iadd, 1) := by decide +kernel
theorem d_L_law_406 : dec m_L_law 406 = .ok (.iaload, 1) := by decide +kernel
theorem d_L_law_407 : dec m_L_law 407 = .ok (.aload_n 0, 1) := by decide +kernel
theorem d_L_law_408 : dec m_L_law 408 = .ok (.iload_n 3, 1) := by decide +kernel
theorem d_L_law_409 : dec m_L_law 409 = .ok (.iconst 2, 1) := by decide +kernel
theorem d_L_law_410 : dec m_L_law 410 = .ok (.iadd, 1) := by decide +kernel
theorem d_L_law_411 : dec m_L_law 411 = .ok (.iaload, 1) := by decide +kernel
theorem d_L_law_412 : dec m_L_law 412 = .ok (.aload_n 0, 1) := by decide +kernel
theorem d_L_law_413 : dec m_L_law 413 = .ok (.iload_n 3, 1) := by decide +kernel
theorem d_L_law_414 : dec m_L_law 414 = .ok (.iconst 3, 1) := by decide +kernel
theorem d_L_law_415 : dec m_L_law 415 = .ok (.iadd, 1) := by decide +kernel
theorem d_L_law_416 : dec m_L_law 416 = .ok (.iaload, 1) := by decide +kernel
theorem d_L_law_417 : dec m_L_law 417 = .ok (.invokevirtual 38, 3) := by decide +kernel
theorem d_L_law_420 : dec m_L_law 420 = .ok (.aload_n 2, 1) := by decide +kernel
theorem d_L_law_421 : dec m_L_law 421 = .ok (.aload_n 0, 1) := by decide +kernel
theorem d_L_law_422 : dec m_L_law 422 = .ok (.iload_n 3, 1) := by decide +kernel
theorem d_L_law_423 : dec m_L_law 423 = .ok (.iconst 1, 1) := by decide +kernel
theorem d_L_law_424 : dec m_L_law 424 = .ok (.iadd, 1) := by decide +kernel
theorem d_L_law_425 : dec m_L_law 425 = .ok (.iaload, 1) := by decide +kernel
theorem d_L_law_426 : dec m_L_law 426 = .ok (.aload_n 0, 1) := by decide +kernel
theorem d_L_law_427 : dec m_L_law 427 = .ok (.iload_n 3, 1) := by decide +kernel
theorem d_L_law_428 : dec m_L_law 428 = .ok (.iconst 2, 1) := by decide +kernel
theorem d_L_law_429 : dec m_L_law 429 = .ok (.iadd, 1) := by decide +kernel
theorem d_L_law_430 : dec m_L_law 430 = .ok (.iaload, 1) := by decide +kernel
theorem d_L_law_431 : dec m_L_law 431 = .ok (.aload_n 0, 1) := by decide +kernel
theorem d_L_law_432 : dec m_L_law 432 = .ok (.iload_n 3, 1) := by decide +kernel
theorem d_L_law_433 : dec m_L_law 433 = .ok (.iconst 3, 1) := by decide +kernel
theorem d_L_law_434 : dec m_L_law 434 = .ok (.iadd, 1) := by decide +kernel
theorem d_L_law_435 : dec m_L_law 435 = .ok (.iaload, 1) := by decide +kernel
theorem d_L_law_436 : dec m_L_law 436 = .ok (.invokevirtual 42, 3) := by decide +kernel
theorem d_L_law_439 : dec m_L_law 439 = .ok (.if_icmp .eq 1170, 3) := by decide +kernel
theorem d_L_law_442 : dec m_L_law 442 = .ok (.iconst 0, 1) := by decide +kernel
theorem d_L_law_443 : dec m_L_law 443 = .ok (.ireturn, 1) := by decide +kernel
theorem d_L_law_444 : dec m_L_law 444 = .ok (.aload_n 1, 1) := by decide +kernel
theorem d_L_law_445 : dec m_L_law 445 = .ok (.aload_n 0, 1) := by decide +kernel
theorem d_L_law_446 : dec m_L_law 446 = .ok (.iload_n 3, 1) := by decide +kernel
theorem d_L_law_447 : dec m_L_law 447 = .ok (.iconst 1, 1) := by decide +kernel
theorem d_L_law_448 : dec m_L_law 448 = .ok (.iadd, 1) := by decide +kernel
theorem d_L_law_449 : dec m_L_law 449 = .ok (.iaload, 1) := by decide +kernel
theorem d_L_law_450 : dec m_L_law 450 = .ok (.invokevirtual 43, 3) := by decide +kernel
theorem d_L_law_453 : dec m_L_law 453 = .ok (.aload_n 2, 1) := by decide +kernel
theorem d_L_law_454 : dec m_L_law 454 = .ok (.aload_n 0, 1) := by decide +kernel
theorem d_L_law_455 : dec m_L_law 455 = .ok (.iload_n 3, 1) := by decide +kernel
theorem d_L_law_456 : dec m_L_law 456 = .ok (.iconst 1, 1) := by decide +kernel
theorem d_L_law_457 : dec m_L_law 457 = .ok (.iadd, 1) := by decide +kernel
theorem d_L_law_458 : dec m_L_law 458 = .ok (.iaload, 1) := by decide +kernel
theorem d_L_law_459 : dec m_L_law 459 = .ok (.invokevirtual 46, 3) := by decide +kernel
theorem d_L_law_462 : dec m_L_law 462 = .ok (.if_icmp .eq 1147, 3) := by decide +kernel
theorem d_L_law_465 : dec m_L_law 465 = .ok (.iconst 0, 1) := by decide +kernel
theorem d_L_law_466 : dec m_L_law 466 = .ok (.ireturn, 1) := by decide +kernel
theorem d_L_law_467 : dec m_L_law 467 = .ok (.aload_n 1, 1) := by decide +kernel
theorem d_L_law_468 : dec m_L_law 468 = .ok (.aload_n 0, 1) := by decide +kernel
theorem d_L_law_469 : dec m_L_law 469 = .ok (.iload_n 3, 1) := by decide +kernel
theorem d_L_law_470 : dec m_L_law 470 = .ok (.iconst 1, 1) := by decide +kernel
theorem d_L_law_471 : dec m_L_law 471 = .ok (.iadd, 1) := by decide +kernel
theorem d_L_law_472 : dec m_L_law 472 = .ok (.iaload, 1) := by decide +kernel
theorem d_L_law_473 : dec m_L_law 473 = .ok (.invokevirtual 47, 3) := by decide +kernel
theorem d_L_law_476 : dec m_L_law 476 = .ok (.aload_n 2, 1) := by decide +kernel
theorem d_L_law_477 : dec m_L_law 477 = .ok (.aload_n 0, 1) := by decide +kernel
theorem d_L_law_478 : dec m_L_law 478 = .ok (.iload_n 3, 1) := by decide +kernel
theorem d_L_law_479 : dec m_L_law 479 = .ok (.iconst 1, 1) := by decide +kernel
theorem d_L_law_480 : dec m_L_law 480 = .ok (.iadd, 1) := by decide +kernel
theorem d_L_law_481 : dec m_L_law 481 = .ok (.iaload, 1) := by decide +kernel
theorem d_L_law_482 : dec m_L_law 482 = .ok (.invokevirtual 50, 3) := by decide +kernel
theorem d_L_law_485 : dec m_L_law 485 = .ok (.if_icmp .eq 1124, 3) := by decide +kernel
theorem d_L_law_488 : dec m_L_law 488 = .ok (.iconst 0, 1) := by decide +kernel
theorem d_L_law_489 : dec m_L_law 489 = .ok (.ireturn, 1) := by decide +kernel
theorem d_L_law_490 : dec m_L_law 490 = .ok (.aload_n 1, 1) := by decide +kernel
theorem d_L_law_491 : dec m_L_law 491 = .ok (.aload_n 0, 1) := by decide +kernel
theorem d_L_law_492 : dec m_L_law 492 = .ok (.iload_n 3, 1) := by decide +kernel
theorem d_L_law_493 : dec m_L_law 493 = .ok (.iconst 1, 1) := by decide +kernel
theorem d_L_law_494 : dec m_L_law 494 = .ok (.iadd, 1) := by decide +kernel
theorem d_L_law_495 : dec m_L_law 495 = .ok (.iaload, 1) := by decide +kernel
theorem d_L_law_496 : dec m_L_law 496 = .ok (.invokevirtual 51, 3) := by decide +kernel
theorem d_L_law_499 : dec m_L_law 499 = .ok (.aload_n 2, 1) := by decide +kernel
theorem d_L_law_500 : dec m_L_law 500 = .ok (.aload_n 0, 1) := by decide +kernel
theorem d_L_law_501 : dec m_L_law 501 = .ok (.iload_n 3, 1) := by decide +kernel
theorem d_L_law_502 : dec m_L_law 502 = .ok (.iconst 1, 1) := by decide +kernel
theorem d_L_law_503 : dec m_L_law 503 = .ok (.iadd, 1) := by decide +kernel
theorem d_L_law_504 : dec m_L_law 504 = .ok (.iaload, 1) := by decide +kernel
theorem d_L_law_505 : dec m_L_law 505 = .ok (.invokevirtual 54, 3) := by decide +kernel
theorem d_L_law_508 : dec m_L_law 508 = .ok (.if_icmp .eq 1101, 3) := by decide +kernel
theorem d_L_law_511 : dec m_L_law 511 = .ok (.iconst 0, 1) := by decide +kernel
theorem d_L_law_512 : dec m_L_law 512 = .ok (.ireturn, 1) := by decide +kernel
theorem d_L_law_513 : dec m_L_law 513 = .ok (.aload_n 1, 1) := by decide +kernel
theorem d_L_law_514 : dec m_L_law 514 = .ok (.aload_n 0, 1) := by decide +kernel
theorem d_L_law_515 : dec m_L_law 515 = .ok (.iload_n 3, 1) := by decide +kernel
theorem d_L_law_516 : dec m_L_law 516 = .ok (.iconst 1, 1) := by decide +kernel
theorem d_L_law_517 : dec m_L_law 517 = .ok (.iadd, 1) := by decide +kernel
theorem d_L_law_518 : dec m_L_law 518 = .ok (.iaload, 1) := by decide +kernel
theorem d_L_law_519 : dec m_L_law 519 = .ok (.invokevirtual 55, 3) := by decide +kernel
theorem d_L_law_522 : dec m_L_law 522 = .ok (.aload_n 2, 1) := by decide +kernel
theorem d_L_law_523 : dec m_L_law 523 = .ok (.aload_n 0, 1) := by decide +kernel
theorem d_L_law_524 : dec m_L_law 524 = .ok (.iload_n 3, 1) := by decide +kernel
theorem d_L_law_525 : dec m_L_law 525 = .ok (.iconst 1, 1) := by decide +kernel
theorem d_L_law_526 : dec m_L_law 526 = .ok (.iadd, 1) := by decide +kernel
theorem d_L_law_527 : dec m_L_law 527 = .ok (.iaload, 1) := by decide +kernel
theorem d_L_law_528 : dec m_L_law 528 = .ok (.invokevirtual 58, 3) := by decide +kernel
theorem d_L_law_531 : dec m_L_law 531 = .ok (.if_icmp .eq 1078, 3) := by decide +kernel
theorem d_L_law_534 : dec m_L_law 534 = .ok (.iconst 0, 1) := by decide +kernel
theorem d_L_law_535 : dec m_L_law 535 = .ok (.ireturn, 1) := by decide +kernel
theorem d_L_law_536 : dec m_L_law 536 = .ok (.aload_n 1, 1) := by decide +kernel
theorem d_L_law_537 : dec m_L_law 537 = .ok (.invokevirtual 59, 3) := by decide +kernel
theorem d_L_law_540 : dec m_L_law 540 = .ok (.aload_n 2, 1) := by decide +kernel
theorem d_L_law_541 : dec m_L_law 541 = .ok (.invokevirtual 62, 3) := by decide +kernel
theorem d_L_law_544 : dec m_L_law 544 = .ok (.if_icmp .eq 1065, 3) := by decide +kernel
theorem d_L_law_547 : dec m_L_law 547 = .ok (.iconst 0, 1) := by decide +kernel
theorem d_L_law_548 : dec m_L_law 548 = .ok (.ireturn, 1) := by decide +kernel
theorem d_L_law_549 : dec m_L_law 549 = .ok (.aload_n 1, 1) := by decide +kernel
theorem d_L_law_550 : dec m_L_law 550 = .ok (.aload_n 0, 1) := by decide +kernel
theorem d_L_law_551 : dec m_L_law 551 = .ok (.iload_n 3, 1) := by decide +kernel
theorem d_L_law_552 : dec m_L_law 552 = .ok (.iconst 1, 1) := by decide +kernel
theorem d_L_law_553 : dec m_L_law 553 = .ok (.iadd, 1) := by decide +kernel
theorem d_L_law_554 : dec m_L_law 554 = .ok (.iaload, 1) := by decide +kernel
theorem d_L_law_555 : dec m_L_law 555 = .ok (.invokevirtual 63, 3) := by decide +kernel
theorem d_L_law_558 : dec m_L_law 558 = .ok (.aload_n 2, 1) := by decide +kernel
theorem d_L_law_559 : dec m_L_law 559 = .ok (.aload_n 0, 1) := by decide +kernel
theorem d_L_law_560 : dec m_L_law 560 = .ok (.iload_n 3, 1) := by decide +kernel
theorem d_L_law_561 : dec m_L_law 561 = .ok (.iconst 1, 1) := by decide +kernel
theorem d_L_law_562 : dec m_L_law 562 = .ok (.iadd, 1) := by decide +kernel
theorem d_L_law_563 : dec m_L_law 563 = .ok (.iaload, 1) := by decide +kernel
theorem d_L_law_564 : dec m_L_law 564 = .ok (.invokevirtual 66, 3) := by decide +kernel
theorem d_L_law_567 : dec m_L_law 567 = .ok (.if_icmp .eq 1042, 3) := by decide +kernel
theorem d_L_law_570 : dec m_L_law 570 = .ok (.iconst 0, 1) := by decide +kernel
theorem d_L_law_571 : dec m_L_law 571 = .ok (.ireturn, 1) := by decide +kernel
theorem d_L_law_572 : dec m_L_law 572 = .ok (.aload_n 1, 1) := by decide +kernel
theorem d_L_law_573 : dec m_L_law 573 = .ok (.aload_n 0, 1) := by decide +kernel
theorem d_L_law_574 : dec m_L_law 574 = .ok (.iload_n 3, 1) := by decide +kernel
theorem d_L_law_575 : dec m_L_law 575 = .ok (.iconst 1, 1) := by decide +kernel
theorem d_L_law_576 : dec m_L_law 576 = .ok (.iadd, 1) := by decide +kernel
theorem d_L_law_577 : dec m_L_law 577 = .ok (.iaload, 1) := by decide +kernel
