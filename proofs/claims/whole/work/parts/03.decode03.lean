theorem dX11_paid_218 : decode cX11_paid 218 = .ok (.aload_n 0, 1) := by decide +kernel
theorem dX11_paid_219 : decode cX11_paid 219 = .ok (.getfield 100, 3) := by decide +kernel
theorem dX11_paid_222 : decode cX11_paid 222 = .ok (.iload 7, 2) := by decide +kernel
theorem dX11_paid_224 : decode cX11_paid 224 = .ok (.iaload, 1) := by decide +kernel
theorem dX11_paid_225 : decode cX11_paid 225 = .ok (.iastore, 1) := by decide +kernel
theorem dX11_paid_226 : decode cX11_paid 226 = .ok (.iinc 7 1, 3) := by decide +kernel
theorem dX11_paid_229 : decode cX11_paid 229 = .ok (.goto (-73), 3) := by decide +kernel
theorem dX11_paid_232 : decode cX11_paid 232 = .ok (.iconst 0, 1) := by decide +kernel
theorem dX11_paid_233 : decode cX11_paid 233 = .ok (.istore 7, 2) := by decide +kernel
theorem dX11_paid_235 : decode cX11_paid 235 = .ok (.iconst 1, 1) := by decide +kernel
theorem dX11_paid_236 : decode cX11_paid 236 = .ok (.istore 8, 2) := by decide +kernel
theorem dX11_paid_238 : decode cX11_paid 238 = .ok (.iload 8, 2) := by decide +kernel
theorem dX11_paid_240 : decode cX11_paid 240 = .ok (.ifCond .eq 207, 3) := by decide +kernel
theorem dX11_paid_243 : decode cX11_paid 243 = .ok (.iconst 0, 1) := by decide +kernel
theorem dX11_paid_244 : decode cX11_paid 244 = .ok (.istore 8, 2) := by decide +kernel
theorem dX11_paid_246 : decode cX11_paid 246 = .ok (.iconst 0, 1) := by decide +kernel
theorem dX11_paid_247 : decode cX11_paid 247 = .ok (.istore 9, 2) := by decide +kernel
theorem dX11_paid_249 : decode cX11_paid 249 = .ok (.iload 9, 2) := by decide +kernel
theorem dX11_paid_251 : decode cX11_paid 251 = .ok (.iload_n 3, 1) := by decide +kernel
theorem dX11_paid_252 : decode cX11_paid 252 = .ok (.if_icmp .ge 119, 3) := by decide +kernel
theorem dX11_paid_255 : decode cX11_paid 255 = .ok (.aload_n 0, 1) := by decide +kernel
theorem dX11_paid_256 : decode cX11_paid 256 = .ok (.getfield 24, 3) := by decide +kernel
theorem dX11_paid_259 : decode cX11_paid 259 = .ok (.iload 6, 2) := by decide +kernel
theorem dX11_paid_261 : decode cX11_paid 261 = .ok (.iload 9, 2) := by decide +kernel
theorem dX11_paid_263 : decode cX11_paid 263 = .ok (.iadd, 1) := by decide +kernel
theorem dX11_paid_264 : decode cX11_paid 264 = .ok (.iaload, 1) := by decide +kernel
theorem dX11_paid_265 : decode cX11_paid 265 = .ok (.istore 10, 2) := by decide +kernel
theorem dX11_paid_267 : decode cX11_paid 267 = .ok (.iconst 0, 1) := by decide +kernel
theorem dX11_paid_268 : decode cX11_paid 268 = .ok (.istore 11, 2) := by decide +kernel
theorem dX11_paid_270 : decode cX11_paid 270 = .ok (.iload 11, 2) := by decide +kernel
theorem dX11_paid_272 : decode cX11_paid 272 = .ok (.iload_n 3, 1) := by decide +kernel
theorem dX11_paid_273 : decode cX11_paid 273 = .ok (.if_icmp .ge 61, 3) := by decide +kernel
theorem dX11_paid_276 : decode cX11_paid 276 = .ok (.iload 10, 2) := by decide +kernel
theorem dX11_paid_278 : decode cX11_paid 278 = .ok (.aload_n 0, 1) := by decide +kernel
theorem dX11_paid_279 : decode cX11_paid 279 = .ok (.getfield 100, 3) := by decide +kernel
theorem dX11_paid_282 : decode cX11_paid 282 = .ok (.iload 11, 2) := by decide +kernel
theorem dX11_paid_284 : decode cX11_paid 284 = .ok (.iaload, 1) := by decide +kernel
theorem dX11_paid_285 : decode cX11_paid 285 = .ok (.ifCond .ne 7, 3) := by decide +kernel
theorem dX11_paid_288 : decode cX11_paid 288 = .ok (.iconst 0, 1) := by decide +kernel
theorem dX11_paid_289 : decode cX11_paid 289 = .ok (.goto 36, 3) := by decide +kernel
theorem dX11_paid_292 : decode cX11_paid 292 = .ok (.aload_n 0, 1) := by decide +kernel
theorem dX11_paid_293 : decode cX11_paid 293 = .ok (.getfield 94, 3) := by decide +kernel
theorem dX11_paid_296 : decode cX11_paid 296 = .ok (.iload 11, 2) := by decide +kernel
theorem dX11_paid_298 : decode cX11_paid 298 = .ok (.iaload, 1) := by decide +kernel
theorem dX11_paid_299 : decode cX11_paid 299 = .ok (.aload_n 0, 1) := by decide +kernel
theorem dX11_paid_300 : decode cX11_paid 300 = .ok (.getfield 24, 3) := by decide +kernel
theorem dX11_paid_303 : decode cX11_paid 303 = .ok (.iload 6, 2) := by decide +kernel
theorem dX11_paid_305 : decode cX11_paid 305 = .ok (.iload_n 3, 1) := by decide +kernel
theorem dX11_paid_306 : decode cX11_paid 306 = .ok (.iadd, 1) := by decide +kernel
theorem dX11_paid_307 : decode cX11_paid 307 = .ok (.iload_n 3, 1) := by decide +kernel
theorem dX11_paid_308 : decode cX11_paid 308 = .ok (.iload 11, 2) := by decide +kernel
theorem dX11_paid_310 : decode cX11_paid 310 = .ok (.imul, 1) := by decide +kernel
theorem dX11_paid_311 : decode cX11_paid 311 = .ok (.iadd, 1) := by decide +kernel
theorem dX11_paid_312 : decode cX11_paid 312 = .ok (.iload 9, 2) := by decide +kernel
theorem dX11_paid_314 : decode cX11_paid 314 = .ok (.iadd, 1) := by decide +kernel
theorem dX11_paid_315 : decode cX11_paid 315 = .ok (.iaload, 1) := by decide +kernel
theorem dX11_paid_316 : decode cX11_paid 316 = .ok (.imul, 1) := by decide +kernel
theorem dX11_paid_317 : decode cX11_paid 317 = .ok (.aload_n 0, 1) := by decide +kernel
theorem dX11_paid_318 : decode cX11_paid 318 = .ok (.getfield 100, 3) := by decide +kernel
theorem dX11_paid_321 : decode cX11_paid 321 = .ok (.iload 11, 2) := by decide +kernel
theorem dX11_paid_323 : decode cX11_paid 323 = .ok (.iaload, 1) := by decide +kernel
theorem dX11_paid_324 : decode cX11_paid 324 = .ok (.idiv, 1) := by decide +kernel
theorem dX11_paid_325 : decode cX11_paid 325 = .ok (.iadd, 1) := by decide +kernel
theorem dX11_paid_326 : decode cX11_paid 326 = .ok (.istore 10, 2) := by decide +kernel
theorem dX11_paid_328 : decode cX11_paid 328 = .ok (.iinc 11 1, 3) := by decide +kernel
theorem dX11_paid_331 : decode cX11_paid 331 = .ok (.goto (-61), 3) := by decide +kernel
theorem dX11_paid_334 : decode cX11_paid 334 = .ok (.aload_n 0, 1) := by decide +kernel
theorem dX11_paid_335 : decode cX11_paid 335 = .ok (.getfield 97, 3) := by decide +kernel
theorem dX11_paid_338 : decode cX11_paid 338 = .ok (.iload 9, 2) := by decide +kernel
theorem dX11_paid_340 : decode cX11_paid 340 = .ok (.iload 10, 2) := by decide +kernel
theorem dX11_paid_342 : decode cX11_paid 342 = .ok (.aload_n 0, 1) := by decide +kernel
theorem dX11_paid_343 : decode cX11_paid 343 = .ok (.getfield 100, 3) := by decide +kernel
theorem dX11_paid_346 : decode cX11_paid 346 = .ok (.iload 9, 2) := by decide +kernel
theorem dX11_paid_348 : decode cX11_paid 348 = .ok (.iaload, 1) := by decide +kernel
theorem dX11_paid_349 : decode cX11_paid 349 = .ok (.if_icmp .ge 8, 3) := by decide +kernel
theorem dX11_paid_352 : decode cX11_paid 352 = .ok (.iload 10, 2) := by decide +kernel
theorem dX11_paid_354 : decode cX11_paid 354 = .ok (.goto 10, 3) := by decide +kernel
theorem dX11_paid_357 : decode cX11_paid 357 = .ok (.aload_n 0, 1) := by decide +kernel
theorem dX11_paid_358 : decode cX11_paid 358 = .ok (.getfield 100, 3) := by decide +kernel
theorem dX11_paid_361 : decode cX11_paid 361 = .ok (.iload 9, 2) := by decide +kernel
theorem dX11_paid_363 : decode cX11_paid 363 = .ok (.iaload, 1) := by decide +kernel
theorem dX11_paid_364 : decode cX11_paid 364 = .ok (.iastore, 1) := by decide +kernel
theorem dX11_paid_365 : decode cX11_paid 365 = .ok (.iinc 9 1, 3) := by decide +kernel
theorem dX11_paid_368 : decode cX11_paid 368 = .ok (.goto (-119), 3) := by decide +kernel
theorem dX11_paid_371 : decode cX11_paid 371 = .ok (.iconst 0, 1) := by decide +kernel
theorem dX11_paid_372 : decode cX11_paid 372 = .ok (.istore 9, 2) := by decide +kernel
theorem dX11_paid_374 : decode cX11_paid 374 = .ok (.iload 9, 2) := by decide +kernel
theorem dX11_paid_376 : decode cX11_paid 376 = .ok (.iload_n 3, 1) := by decide +kernel
theorem dX11_paid_377 : decode cX11_paid 377 = .ok (.if_icmp .ge 52, 3) := by decide +kernel
theorem dX11_paid_380 : decode cX11_paid 380 = .ok (.iload 8, 2) := by decide +kernel
theorem dX11_paid_382 : decode cX11_paid 382 = .ok (.ifCond .ne 20, 3) := by decide +kernel
theorem dX11_paid_385 : decode cX11_paid 385 = .ok (.aload_n 0, 1) := by decide +kernel
theorem dX11_paid_386 : decode cX11_paid 386 = .ok (.getfield 97, 3) := by decide +kernel
theorem dX11_paid_389 : decode cX11_paid 389 = .ok (.iload 9, 2) := by decide +kernel
theorem dX11_paid_391 : decode cX11_paid 391 = .ok (.iaload, 1) := by decide +kernel
theorem dX11_paid_392 : decode cX11_paid 392 = .ok (.aload_n 0, 1) := by decide +kernel
theorem dX11_paid_393 : decode cX11_paid 393 = .ok (.getfield 94, 3) := by decide +kernel
theorem dX11_paid_396 : decode cX11_paid 396 = .ok (.iload 9, 2) := by decide +kernel
theorem dX11_paid_398 : decode cX11_paid 398 = .ok (.iaload, 1) := by decide +kernel
theorem dX11_paid_399 : decode cX11_paid 399 = .ok (.if_icmp .eq 7, 3) := by decide +kernel
theorem dX11_paid_402 : decode cX11_paid 402 = .ok (.iconst 1, 1) := by decide +kernel
theorem dX11_paid_403 : decode cX11_paid 403 = .ok (.goto 4, 3) := by decide +kernel
theorem dX11_paid_406 : decode cX11_paid 406 = .ok (.iconst 0, 1) := by decide +kernel
theorem dX11_paid_407 : decode cX11_paid 407 = .ok (.istore 8, 2) := by decide +kernel
theorem dX11_paid_409 : decode cX11_paid 409 = .ok (.aload_n 0, 1) := by decide +kernel
theorem dX11_paid_410 : decode cX11_paid 410 = .ok (.getfield 94, 3) := by decide +kernel
theorem dX11_paid_413 : decode cX11_paid 413 = .ok (.iload 9, 2) := by decide +kernel
theorem dX11_paid_415 : decode cX11_paid 415 = .ok (.aload_n 0, 1) := by decide +kernel
theorem dX11_paid_416 : decode cX11_paid 416 = .ok (.getfield 97, 3) := by decide +kernel
theorem dX11_paid_419 : decode cX11_paid 419 = .ok (.iload 9, 2) := by decide +kernel
theorem dX11_paid_421 : decode cX11_paid 421 = .ok (.iaload, 1) := by decide +kernel
theorem dX11_paid_422 : decode cX11_paid 422 = .ok (.iastore, 1) := by decide +kernel
theorem dX11_paid_423 : decode cX11_paid 423 = .ok (.iinc 9 1, 3) := by decide +kernel
theorem dX11_paid_426 : decode cX11_paid 426 = .ok (.goto (-52), 3) := by decide +kernel
theorem dX11_paid_429 : decode cX11_paid 429 = .ok (.iload 7, 2) := by decide +kernel
theorem dX11_paid_431 : decode cX11_paid 431 = .ok (.iload 8, 2) := by decide +kernel
theorem dX11_paid_433 : decode cX11_paid 433 = .ok (.ifCond .eq 7, 3) := by decide +kernel
theorem dX11_paid_436 : decode cX11_paid 436 = .ok (.iconst 1, 1) := by decide +kernel
theorem dX11_paid_437 : decode cX11_paid 437 = .ok (.goto 4, 3) := by decide +kernel
theorem dX11_paid_440 : decode cX11_paid 440 = .ok (.iconst 0, 1) := by decide +kernel
theorem dX11_paid_441 : decode cX11_paid 441 = .ok (.iadd, 1) := by decide +kernel
theorem dX11_paid_442 : decode cX11_paid 442 = .ok (.istore 7, 2) := by decide +kernel
theorem dX11_paid_444 : decode cX11_paid 444 = .ok (.goto (-206), 3) := by decide +kernel
theorem dX11_paid_447 : decode cX11_paid 447 = .ok (.iload 4, 2) := by decide +kernel
theorem dX11_paid_449 : decode cX11_paid 449 = .ok (.iload_n 3, 1) := by decide +kernel
theorem dX11_paid_450 : decode cX11_paid 450 = .ok (.if_icmp .ne 8, 3) := by decide +kernel
theorem dX11_paid_453 : decode cX11_paid 453 = .ok (.iload 7, 2) := by decide +kernel
theorem dX11_paid_455 : decode cX11_paid 455 = .ok (.goto 10, 3) := by decide +kernel
theorem dX11_paid_458 : decode cX11_paid 458 = .ok (.aload_n 0, 1) := by decide +kernel
theorem dX11_paid_459 : decode cX11_paid 459 = .ok (.getfield 94, 3) := by decide +kernel
theorem dX11_paid_462 : decode cX11_paid 462 = .ok (.iload 4, 2) := by decide +kernel
theorem dX11_paid_464 : decode cX11_paid 464 = .ok (.iaload, 1) := by decide +kernel
theorem dX11_paid_465 : decode cX11_paid 465 = .ok (.ireturn, 1) := by decide +kernel
theorem dX11_isThing_0 : decode cX11_isThing 0 = .ok (.iload_n 1, 1) := by decide +kernel
theorem dX11_isThing_1 : decode cX11_isThing 1 = .ok (.i2l, 1) := by decide +kernel
theorem dX11_isThing_2 : decode cX11_isThing 2 = .ok (.lconst 0, 1) := by decide +kernel
theorem dX11_isThing_3 : decode cX11_isThing 3 = .ok (.aload_n 0, 1) := by decide +kernel
theorem dX11_isThing_4 : decode cX11_isThing 4 = .ok (.getfield 326, 3) := by decide +kernel
theorem dX11_isThing_7 : decode cX11_isThing 7 = .ok (.iconst 1, 1) := by decide +kernel
theorem dX11_isThing_8 : decode cX11_isThing 8 = .ok (.isub, 1) := by decide +kernel
theorem dX11_isThing_9 : decode cX11_isThing 9 = .ok (.i2l, 1) := by decide +kernel
theorem dX11_isThing_10 : decode cX11_isThing 10 = .ok (.invokestatic 126, 3) := by decide +kernel
theorem dX11_isThing_13 : decode cX11_isThing 13 = .ok (.ireturn, 1) := by decide +kernel
theorem dX11_thing_0 : decode cX11_thing 0 = .ok (.aload_n 0, 1) := by decide +kernel
theorem dX11_thing_1 : decode cX11_thing 1 = .ok (.iconst 0, 1) := by decide +kernel
theorem dX11_thing_2 : decode cX11_thing 2 = .ok (.putfield 1, 3) := by decide +kernel
theorem dX11_thing_5 : decode cX11_thing 5 = .ok (.iload_n 1, 1) := by decide +kernel
theorem dX11_thing_6 : decode cX11_thing 6 = .ok (.iconst 2, 1) := by decide +kernel
theorem dX11_thing_7 : decode cX11_thing 7 = .ok (.if_icmp .eq 8, 3) := by decide +kernel
theorem dX11_thing_10 : decode cX11_thing 10 = .ok (.iload_n 1, 1) := by decide +kernel
theorem dX11_thing_11 : decode cX11_thing 11 = .ok (.iconst 3, 1) := by decide +kernel
theorem dX11_thing_12 : decode cX11_thing 12 = .ok (.if_icmp .ne 7, 3) := by decide +kernel
theorem dX11_thing_15 : decode cX11_thing 15 = .ok (.iconst 1, 1) := by decide +kernel
theorem dX11_thing_16 : decode cX11_thing 16 = .ok (.goto 4, 3) := by decide +kernel
theorem dX11_thing_19 : decode cX11_thing 19 = .ok (.iconst 0, 1) := by decide +kernel
theorem dX11_thing_20 : decode cX11_thing 20 = .ok (.istore 4, 2) := by decide +kernel
theorem dX11_thing_22 : decode cX11_thing 22 = .ok (.iload_n 1, 1) := by decide +kernel
theorem dX11_thing_23 : decode cX11_thing 23 = .ok (.i2l, 1) := by decide +kernel
theorem dX11_thing_24 : decode cX11_thing 24 = .ok (.lconst 0, 1) := by decide +kernel
theorem dX11_thing_25 : decode cX11_thing 25 = .ok (.ldc2_w 213, 3) := by decide +kernel
theorem dX11_thing_28 : decode cX11_thing 28 = .ok (.invokestatic 126, 3) := by decide +kernel
theorem dX11_thing_31 : decode cX11_thing 31 = .ok (.ifCond .eq 51, 3) := by decide +kernel
theorem dX11_thing_34 : decode cX11_thing 34 = .ok (.iload_n 2, 1) := by decide +kernel
theorem dX11_thing_35 : decode cX11_thing 35 = .ok (.i2l, 1) := by decide +kernel
theorem dX11_thing_36 : decode cX11_thing 36 = .ok (.lconst 0, 1) := by decide +kernel
theorem dX11_thing_37 : decode cX11_thing 37 = .ok (.ldc2_w 321, 3) := by decide +kernel
theorem dX11_thing_40 : decode cX11_thing 40 = .ok (.invokestatic 126, 3) := by decide +kernel
theorem dX11_thing_43 : decode cX11_thing 43 = .ok (.ifCond .eq 39, 3) := by decide +kernel
theorem dX11_thing_46 : decode cX11_thing 46 = .ok (.iload 4, 2) := by decide +kernel
theorem dX11_thing_48 : decode cX11_thing 48 = .ok (.ifCond .ne 9, 3) := by decide +kernel
theorem dX11_thing_51 : decode cX11_thing 51 = .ok (.iload_n 3, 1) := by decide +kernel
theorem dX11_thing_52 : decode cX11_thing 52 = .ok (.ldc 69, 2) := by decide +kernel
theorem dX11_thing_54 : decode cX11_thing 54 = .ok (.if_icmp .ne 28, 3) := by decide +kernel
theorem dX11_thing_57 : decode cX11_thing 57 = .ok (.iload 4, 2) := by decide +kernel
theorem dX11_thing_59 : decode cX11_thing 59 = .ok (.ifCond .eq 26, 3) := by decide +kernel
theorem dX11_thing_62 : decode cX11_thing 62 = .ok (.aload_n 0, 1) := by decide +kernel
theorem dX11_thing_63 : decode cX11_thing 63 = .ok (.iload_n 3, 1) := by decide +kernel
theorem dX11_thing_64 : decode cX11_thing 64 = .ok (.invokevirtual 329, 3) := by decide +kernel
theorem dX11_thing_67 : decode cX11_thing 67 = .ok (.ifCond .eq 15, 3) := by decide +kernel
theorem dX11_thing_70 : decode cX11_thing 70 = .ok (.aload_n 0, 1) := by decide +kernel
theorem dX11_thing_71 : decode cX11_thing 71 = .ok (.getfield 103, 3) := by decide +kernel
theorem dX11_thing_74 : decode cX11_thing 74 = .ok (.iload_n 3, 1) := by decide +kernel
theorem dX11_thing_75 : decode cX11_thing 75 = .ok (.iaload, 1) := by decide +kernel
theorem dX11_thing_76 : decode cX11_thing 76 = .ok (.iload_n 1, 1) := by decide +kernel
theorem dX11_thing_77 : decode cX11_thing 77 = .ok (.iconst 1, 1) := by decide +kernel
theorem dX11_thing_78 : decode cX11_thing 78 = .ok (.isub, 1) := by decide +kernel
theorem dX11_thing_79 : decode cX11_thing 79 = .ok (.if_icmp .eq 6, 3) := by decide +kernel
theorem dX11_thing_82 : decode cX11_thing 82 = .ok (.ldc 136, 2) := by decide +kernel
theorem dX11_thing_84 : decode cX11_thing 84 = .ok (.ireturn, 1) := by decide +kernel
theorem dX11_thing_85 : decode cX11_thing 85 = .ok (.aload_n 0, 1) := by decide +kernel
theorem dX11_thing_86 : decode cX11_thing 86 = .ok (.getfield 326, 3) := by decide +kernel
theorem dX11_thing_89 : decode cX11_thing 89 = .ok (.bipush 16, 2) := by decide +kernel
theorem dX11_thing_91 : decode cX11_thing 91 = .ok (.if_icmp .ne 6, 3) := by decide +kernel
theorem dX11_thing_94 : decode cX11_thing 94 = .ok (.ldc 172, 2) := by decide +kernel
theorem dX11_thing_96 : decode cX11_thing 96 = .ok (.ireturn, 1) := by decide +kernel
theorem dX11_thing_97 : decode cX11_thing 97 = .ok (.aload_n 0, 1) := by decide +kernel
theorem dX11_thing_98 : decode cX11_thing 98 = .ok (.getfield 103, 3) := by decide +kernel
theorem dX11_thing_101 : decode cX11_thing 101 = .ok (.aload_n 0, 1) := by decide +kernel
theorem dX11_thing_102 : decode cX11_thing 102 = .ok (.getfield 326, 3) := by decide +kernel
theorem dX11_thing_105 : decode cX11_thing 105 = .ok (.iload_n 1, 1) := by decide +kernel
theorem dX11_thing_106 : decode cX11_thing 106 = .ok (.iastore, 1) := by decide +kernel
theorem dX11_thing_107 : decode cX11_thing 107 = .ok (.aload_n 0, 1) := by decide +kernel
theorem dX11_thing_108 : decode cX11_thing 108 = .ok (.getfield 106, 3) := by decide +kernel
theorem dX11_thing_111 : decode cX11_thing 111 = .ok (.aload_n 0, 1) := by decide +kernel
theorem dX11_thing_112 : decode cX11_thing 112 = .ok (.getfield 326, 3) := by decide +kernel
theorem dX11_thing_115 : decode cX11_thing 115 = .ok (.iload_n 2, 1) := by decide +kernel
theorem dX11_thing_116 : decode cX11_thing 116 = .ok (.iastore, 1) := by decide +kernel
theorem dX11_thing_117 : decode cX11_thing 117 = .ok (.aload_n 0, 1) := by decide +kernel
theorem dX11_thing_118 : decode cX11_thing 118 = .ok (.getfield 109, 3) := by decide +kernel
theorem dX11_thing_121 : decode cX11_thing 121 = .ok (.aload_n 0, 1) := by decide +kernel
theorem dX11_thing_122 : decode cX11_thing 122 = .ok (.getfield 326, 3) := by decide +kernel
theorem dX11_thing_125 : decode cX11_thing 125 = .ok (.iload_n 3, 1) := by decide +kernel
theorem dX11_thing_126 : decode cX11_thing 126 = .ok (.iastore, 1) := by decide +kernel
theorem dX11_thing_127 : decode cX11_thing 127 = .ok (.aload_n 0, 1) := by decide +kernel
theorem dX11_thing_128 : decode cX11_thing 128 = .ok (.dup, 1) := by decide +kernel
theorem dX11_thing_129 : decode cX11_thing 129 = .ok (.getfield 326, 3) := by decide +kernel
theorem dX11_thing_132 : decode cX11_thing 132 = .ok (.iconst 1, 1) := by decide +kernel
theorem dX11_thing_133 : decode cX11_thing 133 = .ok (.iadd, 1) := by decide +kernel
theorem dX11_thing_134 : decode cX11_thing 134 = .ok (.putfield 326, 3) := by decide +kernel
theorem dX11_thing_137 : decode cX11_thing 137 = .ok (.aload_n 0, 1) := by decide +kernel
theorem dX11_thing_138 : decode cX11_thing 138 = .ok (.getfield 326, 3) := by decide +kernel
theorem dX11_thing_141 : decode cX11_thing 141 = .ok (.iconst 1, 1) := by decide +kernel
theorem dX11_thing_142 : decode cX11_thing 142 = .ok (.isub, 1) := by decide +kernel
theorem dX11_thing_143 : decode cX11_thing 143 = .ok (.ireturn, 1) := by decide +kernel
theorem dX11_works_0 : decode cX11_works 0 = .ok (.aload_n 0, 1) := by decide +kernel
theorem dX11_works_1 : decode cX11_works 1 = .ok (.iconst 0, 1) := by decide +kernel
theorem dX11_works_2 : decode cX11_works 2 = .ok (.putfield 1, 3) := by decide +kernel
theorem dX11_works_5 : decode cX11_works 5 = .ok (.iload_n 1, 1) := by decide +kernel
theorem dX11_works_6 : decode cX11_works 6 = .ok (.invokestatic 130, 3) := by decide +kernel
theorem dX11_works_9 : decode cX11_works 9 = .ok (.ifCond .eq 41, 3) := by decide +kernel
theorem dX11_works_12 : decode cX11_works 12 = .ok (.iload_n 3, 1) := by decide +kernel
theorem dX11_works_13 : decode cX11_works 13 = .ok (.i2l, 1) := by decide +kernel
theorem dX11_works_14 : decode cX11_works 14 = .ok (.lconst 1, 1) := by decide +kernel
theorem dX11_works_15 : decode cX11_works 15 = .ok (.ldc2_w 308, 3) := by decide +kernel
theorem dX11_works_18 : decode cX11_works 18 = .ok (.invokestatic 126, 3) := by decide +kernel
theorem dX11_works_21 : decode cX11_works 21 = .ok (.ifCond .eq 29, 3) := by decide +kernel
theorem dX11_works_24 : decode cX11_works 24 = .ok (.iload 4, 2) := by decide +kernel
theorem dX11_works_26 : decode cX11_works 26 = .ok (.i2l, 1) := by decide +kernel
theorem dX11_works_27 : decode cX11_works 27 = .ok (.lconst 0, 1) := by decide +kernel
theorem dX11_works_28 : decode cX11_works 28 = .ok (.ldc2_w 167, 3) := by decide +kernel
theorem dX11_works_31 : decode cX11_works 31 = .ok (.invokestatic 126, 3) := by decide +kernel
theorem dX11_works_34 : decode cX11_works 34 = .ok (.ifCond .eq 16, 3) := by decide +kernel
theorem dX11_works_37 : decode cX11_works 37 = .ok (.iload 5, 2) := by decide +kernel
theorem dX11_works_39 : decode cX11_works 39 = .ok (.i2l, 1) := by decide +kernel
theorem dX11_works_40 : decode cX11_works 40 = .ok (.lconst 0, 1) := by decide +kernel
theorem dX11_works_41 : decode cX11_works 41 = .ok (.ldc2_w 134, 3) := by decide +kernel
theorem dX11_works_44 : decode cX11_works 44 = .ok (.invokestatic 126, 3) := by decide +kernel
theorem dX11_works_47 : decode cX11_works 47 = .ok (.ifCond .ne 6, 3) := by decide +kernel
theorem dX11_works_50 : decode cX11_works 50 = .ok (.ldc 136, 2) := by decide +kernel
theorem dX11_works_52 : decode cX11_works 52 = .ok (.ireturn, 1) := by decide +kernel
theorem dX11_works_53 : decode cX11_works 53 = .ok (.aload_n 0, 1) := by decide +kernel
theorem dX11_works_54 : decode cX11_works 54 = .ok (.iload_n 1, 1) := by decide +kernel
theorem dX11_works_55 : decode cX11_works 55 = .ok (.iload_n 2, 1) := by decide +kernel
theorem dX11_works_56 : decode cX11_works 56 = .ok (.iconst 2, 1) := by decide +kernel
theorem dX11_works_57 : decode cX11_works 57 = .ok (.iload_n 3, 1) := by decide +kernel
theorem dX11_works_58 : decode cX11_works 58 = .ok (.imul, 1) := by decide +kernel
theorem dX11_works_59 : decode cX11_works 59 = .ok (.invokevirtual 316, 3) := by decide +kernel
theorem dX11_works_62 : decode cX11_works 62 = .ok (.istore 6, 2) := by decide +kernel
theorem dX11_works_64 : decode cX11_works 64 = .ok (.iload 6, 2) := by decide +kernel
theorem dX11_works_66 : decode cX11_works 66 = .ok (.ifCond .ge 6, 3) := by decide +kernel
theorem dX11_works_69 : decode cX11_works 69 = .ok (.iload 6, 2) := by decide +kernel
theorem dX11_works_71 : decode cX11_works 71 = .ok (.ireturn, 1) := by decide +kernel
theorem dX11_works_72 : decode cX11_works 72 = .ok (.bipush 80, 2) := by decide +kernel
theorem dX11_works_74 : decode cX11_works 74 = .ok (.iload_n 1, 1) := by decide +kernel
theorem dX11_works_75 : decode cX11_works 75 = .ok (.imul, 1) := by decide +kernel
theorem dX11_works_76 : decode cX11_works 76 = .ok (.iload_n 2, 1) := by decide +kernel
theorem dX11_works_77 : decode cX11_works 77 = .ok (.iadd, 1) := by decide +kernel
theorem dX11_works_78 : decode cX11_works 78 = .ok (.istore 7, 2) := by decide +kernel
theorem dX11_works_80 : decode cX11_works 80 = .ok (.iconst 0, 1) := by decide +kernel
theorem dX11_works_81 : decode cX11_works 81 = .ok (.istore 8, 2) := by decide +kernel
theorem dX11_works_83 : decode cX11_works 83 = .ok (.iload 8, 2) := by decide +kernel
theorem dX11_works_85 : decode cX11_works 85 = .ok (.iload_n 3, 1) := by decide +kernel
theorem dX11_works_86 : decode cX11_works 86 = .ok (.if_icmp .ge 60, 3) := by decide +kernel
theorem dX11_works_89 : decode cX11_works 89 = .ok (.aload_n 0, 1) := by decide +kernel
theorem dX11_works_90 : decode cX11_works 90 = .ok (.getfield 24, 3) := by decide +kernel
theorem dX11_works_93 : decode cX11_works 93 = .ok (.iload 7, 2) := by decide +kernel
theorem dX11_works_95 : decode cX11_works 95 = .ok (.iconst 2, 1) := by decide +kernel
theorem dX11_works_96 : decode cX11_works 96 = .ok (.iload 8, 2) := by decide +kernel
theorem dX11_works_98 : decode cX11_works 98 = .ok (.imul, 1) := by decide +kernel
theorem dX11_works_99 : decode cX11_works 99 = .ok (.iadd, 1) := by decide +kernel
theorem dX11_works_100 : decode cX11_works 100 = .ok (.iaload, 1) := by decide +kernel
theorem dX11_works_101 : decode cX11_works 101 = .ok (.i2l, 1) := by decide +kernel
theorem dX11_works_102 : decode cX11_works 102 = .ok (.lconst 1, 1) := by decide +kernel
theorem dX11_works_103 : decode cX11_works 103 = .ok (.ldc2_w 159, 3) := by decide +kernel
theorem dX11_works_106 : decode cX11_works 106 = .ok (.invokestatic 126, 3) := by decide +kernel
theorem dX11_works_109 : decode cX11_works 109 = .ok (.ifCond .eq 28, 3) := by decide +kernel
theorem dX11_works_112 : decode cX11_works 112 = .ok (.aload_n 0, 1) := by decide +kernel
theorem dX11_works_113 : decode cX11_works 113 = .ok (.getfield 24, 3) := by decide +kernel
theorem dX11_works_116 : decode cX11_works 116 = .ok (.iload 7, 2) := by decide +kernel
theorem dX11_works_118 : decode cX11_works 118 = .ok (.iconst 2, 1) := by decide +kernel
theorem dX11_works_119 : decode cX11_works 119 = .ok (.iload 8, 2) := by decide +kernel
theorem dX11_works_121 : decode cX11_works 121 = .ok (.imul, 1) := by decide +kernel
theorem dX11_works_122 : decode cX11_works 122 = .ok (.iadd, 1) := by decide +kernel
theorem dX11_works_123 : decode cX11_works 123 = .ok (.iconst 1, 1) := by decide +kernel
theorem dX11_works_124 : decode cX11_works 124 = .ok (.iadd, 1) := by decide +kernel
theorem dX11_works_125 : decode cX11_works 125 = .ok (.iaload, 1) := by decide +kernel
theorem dX11_works_126 : decode cX11_works 126 = .ok (.i2l, 1) := by decide +kernel
theorem dX11_works_127 : decode cX11_works 127 = .ok (.lconst 0, 1) := by decide +kernel
theorem dX11_works_128 : decode cX11_works 128 = .ok (.ldc2_w 159, 3) := by decide +kernel
theorem dX11_works_131 : decode cX11_works 131 = .ok (.invokestatic 126, 3) := by decide +kernel
theorem dX11_works_134 : decode cX11_works 134 = .ok (.ifCond .ne 6, 3) := by decide +kernel
theorem dX11_works_137 : decode cX11_works 137 = .ok (.ldc 136, 2) := by decide +kernel
theorem dX11_works_139 : decode cX11_works 139 = .ok (.ireturn, 1) := by decide +kernel
theorem dX11_works_140 : decode cX11_works 140 = .ok (.iinc 8 1, 3) := by decide +kernel
theorem dX11_works_143 : decode cX11_works 143 = .ok (.goto (-60), 3) := by decide +kernel
theorem dX11_works_146 : decode cX11_works 146 = .ok (.aload_n 0, 1) := by decide +kernel
theorem dX11_works_147 : decode cX11_works 147 = .ok (.iconst 0, 1) := by decide +kernel
theorem dX11_works_148 : decode cX11_works 148 = .ok (.putfield 7, 3) := by decide +kernel
theorem dX11_works_151 : decode cX11_works 151 = .ok (.iconst 0, 1) := by decide +kernel
theorem dX11_works_152 : decode cX11_works 152 = .ok (.istore 8, 2) := by decide +kernel
theorem dX11_works_154 : decode cX11_works 154 = .ok (.iconst 0, 1) := by decide +kernel
theorem dX11_works_155 : decode cX11_works 155 = .ok (.istore 9, 2) := by decide +kernel
theorem dX11_works_157 : decode cX11_works 157 = .ok (.iconst 0, 1) := by decide +kernel
theorem dX11_works_158 : decode cX11_works 158 = .ok (.istore 10, 2) := by decide +kernel
theorem dX11_works_160 : decode cX11_works 160 = .ok (.iconst 1, 1) := by decide +kernel
theorem dX11_works_161 : decode cX11_works 161 = .ok (.istore 11, 2) := by decide +kernel
theorem dX11_works_163 : decode cX11_works 163 = .ok (.iload 11, 2) := by decide +kernel
theorem dX11_works_165 : decode cX11_works 165 = .ok (.iconst 1, 1) := by decide +kernel
theorem dX11_works_166 : decode cX11_works 166 = .ok (.iload_n 3, 1) := by decide +kernel
theorem dX11_works_167 : decode cX11_works 167 = .ok (.ishl, 1) := by decide +kernel
theorem dX11_works_168 : decode cX11_works 168 = .ok (.if_icmp .ge 117, 3) := by decide +kernel
theorem dX11_works_171 : decode cX11_works 171 = .ok (.iconst 0, 1) := by decide +kernel
theorem dX11_works_172 : decode cX11_works 172 = .ok (.istore 12, 2) := by decide +kernel
theorem dX11_works_174 : decode cX11_works 174 = .ok (.iconst 0, 1) := by decide +kernel
theorem dX11_works_175 : decode cX11_works 175 = .ok (.istore 13, 2) := by decide +kernel
theorem dX11_works_177 : decode cX11_works 177 = .ok (.iconst 0, 1) := by decide +kernel
theorem dX11_works_178 : decode cX11_works 178 = .ok (.istore 14, 2) := by decide +kernel
theorem dX11_works_180 : decode cX11_works 180 = .ok (.iload 14, 2) := by decide +kernel
theorem dX11_works_182 : decode cX11_works 182 = .ok (.iload_n 3, 1) := by decide +kernel
theorem dX11_works_183 : decode cX11_works 183 = .ok (.if_icmp .ge 56, 3) := by decide +kernel
theorem dX11_works_186 : decode cX11_works 186 = .ok (.iload 11, 2) := by decide +kernel
theorem dX11_works_188 : decode cX11_works 188 = .ok (.iload 14, 2) := by decide +kernel
theorem dX11_works_190 : decode cX11_works 190 = .ok (.ishr, 1) := by decide +kernel
theorem dX11_works_191 : decode cX11_works 191 = .ok (.iconst 1, 1) := by decide +kernel
theorem dX11_works_192 : decode cX11_works 192 = .ok (.iand, 1) := by decide +kernel
theorem dX11_works_193 : decode cX11_works 193 = .ok (.iconst 1, 1) := by decide +kernel
theorem dX11_works_194 : decode cX11_works 194 = .ok (.if_icmp .ne 39, 3) := by decide +kernel
theorem dX11_works_197 : decode cX11_works 197 = .ok (.iload 12, 2) := by decide +kernel
theorem dX11_works_199 : decode cX11_works 199 = .ok (.aload_n 0, 1) := by decide +kernel
theorem dX11_works_200 : decode cX11_works 200 = .ok (.getfield 24, 3) := by decide +kernel
theorem dX11_works_203 : decode cX11_works 203 = .ok (.iload 7, 2) := by decide +kernel
theorem dX11_works_205 : decode cX11_works 205 = .ok (.iconst 2, 1) := by decide +kernel
theorem dX11_works_206 : decode cX11_works 206 = .ok (.iload 14, 2) := by decide +kernel
theorem dX11_works_208 : decode cX11_works 208 = .ok (.imul, 1) := by decide +kernel
theorem dX11_works_209 : decode cX11_works 209 = .ok (.iadd, 1) := by decide +kernel
theorem dX11_works_210 : decode cX11_works 210 = .ok (.iaload, 1) := by decide +kernel
theorem dX11_works_211 : decode cX11_works 211 = .ok (.iadd, 1) := by decide +kernel
theorem dX11_works_212 : decode cX11_works 212 = .ok (.istore 12, 2) := by decide +kernel
theorem dX11_works_214 : decode cX11_works 214 = .ok (.iload 13, 2) := by decide +kernel
theorem dX11_works_216 : decode cX11_works 216 = .ok (.aload_n 0, 1) := by decide +kernel
theorem dX11_works_217 : decode cX11_works 217 = .ok (.getfield 24, 3) := by decide +kernel
theorem dX11_works_220 : decode cX11_works 220 = .ok (.iload 7, 2) := by decide +kernel
theorem dX11_works_222 : decode cX11_works 222 = .ok (.iconst 2, 1) := by decide +kernel
theorem dX11_works_223 : decode cX11_works 223 = .ok (.iload 14, 2) := by decide +kernel
theorem dX11_works_225 : decode cX11_works 225 = .ok (.imul, 1) := by decide +kernel
theorem dX11_works_226 : decode cX11_works 226 = .ok (.iadd, 1) := by decide +kernel
theorem dX11_works_227 : decode cX11_works 227 = .ok (.iconst 1, 1) := by decide +kernel
theorem dX11_works_228 : decode cX11_works 228 = .ok (.iadd, 1) := by decide +kernel
theorem dX11_works_229 : decode cX11_works 229 = .ok (.iaload, 1) := by decide +kernel
theorem dX11_works_230 : decode cX11_works 230 = .ok (.iadd, 1) := by decide +kernel
theorem dX11_works_231 : decode cX11_works 231 = .ok (.istore 13, 2) := by decide +kernel
theorem dX11_works_233 : decode cX11_works 233 = .ok (.iinc 14 1, 3) := by decide +kernel
theorem dX11_works_236 : decode cX11_works 236 = .ok (.goto (-56), 3) := by decide +kernel
theorem dX11_works_239 : decode cX11_works 239 = .ok (.iload 12, 2) := by decide +kernel
theorem dX11_works_241 : decode cX11_works 241 = .ok (.iload 4, 2) := by decide +kernel
theorem dX11_works_243 : decode cX11_works 243 = .ok (.if_icmp .gt 36, 3) := by decide +kernel
theorem dX11_works_246 : decode cX11_works 246 = .ok (.iload 13, 2) := by decide +kernel
theorem dX11_works_248 : decode cX11_works 248 = .ok (.iload 10, 2) := by decide +kernel
theorem dX11_works_250 : decode cX11_works 250 = .ok (.if_icmp .gt 17, 3) := by decide +kernel
theorem dX11_works_253 : decode cX11_works 253 = .ok (.iload 13, 2) := by decide +kernel
theorem dX11_works_255 : decode cX11_works 255 = .ok (.iload 10, 2) := by decide +kernel
theorem dX11_works_257 : decode cX11_works 257 = .ok (.if_icmp .ne 22, 3) := by decide +kernel
theorem dX11_works_260 : decode cX11_works 260 = .ok (.iload 12, 2) := by decide +kernel
theorem dX11_works_262 : decode cX11_works 262 = .ok (.iload 9, 2) := by decide +kernel
theorem dX11_works_264 : decode cX11_works 264 = .ok (.if_icmp .ge 15, 3) := by decide +kernel
theorem dX11_works_267 : decode cX11_works 267 = .ok (.iload 11, 2) := by decide +kernel
theorem dX11_works_269 : decode cX11_works 269 = .ok (.istore 8, 2) := by decide +kernel
theorem dX11_works_271 : decode cX11_works 271 = .ok (.iload 12, 2) := by decide +kernel
theorem dX11_works_273 : decode cX11_works 273 = .ok (.istore 9, 2) := by decide +kernel
theorem dX11_works_275 : decode cX11_works 275 = .ok (.iload 13, 2) := by decide +kernel
theorem dX11_works_277 : decode cX11_works 277 = .ok (.istore 10, 2) := by decide +kernel
theorem dX11_works_279 : decode cX11_works 279 = .ok (.iinc 11 1, 3) := by decide +kernel
theorem dX11_works_282 : decode cX11_works 282 = .ok (.goto (-119), 3) := by decide +kernel
theorem dX11_works_285 : decode cX11_works 285 = .ok (.iload 5, 2) := by decide +kernel
theorem dX11_works_287 : decode cX11_works 287 = .ok (.ifCond .ne 8, 3) := by decide +kernel
theorem dX11_works_290 : decode cX11_works 290 = .ok (.iload 8, 2) := by decide +kernel
theorem dX11_works_292 : decode cX11_works 292 = .ok (.goto 16, 3) := by decide +kernel
theorem dX11_works_295 : decode cX11_works 295 = .ok (.iload 5, 2) := by decide +kernel
theorem dX11_works_297 : decode cX11_works 297 = .ok (.iconst 1, 1) := by decide +kernel
theorem dX11_works_298 : decode cX11_works 298 = .ok (.if_icmp .ne 8, 3) := by decide +kernel
theorem dX11_works_301 : decode cX11_works 301 = .ok (.iload 9, 2) := by decide +kernel
theorem dX11_works_303 : decode cX11_works 303 = .ok (.goto 5, 3) := by decide +kernel
theorem dX11_works_306 : decode cX11_works 306 = .ok (.iload 10, 2) := by decide +kernel
theorem dX11_works_308 : decode cX11_works 308 = .ok (.ireturn, 1) := by decide +kernel
theorem dX11_news_0 : decode cX11_news 0 = .ok (.aload_n 0, 1) := by decide +kernel
theorem dX11_news_1 : decode cX11_news 1 = .ok (.iconst 0, 1) := by decide +kernel
theorem dX11_news_2 : decode cX11_news 2 = .ok (.putfield 1, 3) := by decide +kernel
theorem dX11_news_5 : decode cX11_news 5 = .ok (.iload_n 1, 1) := by decide +kernel
theorem dX11_news_6 : decode cX11_news 6 = .ok (.i2l, 1) := by decide +kernel
theorem dX11_news_7 : decode cX11_news 7 = .ok (.lconst 0, 1) := by decide +kernel
theorem dX11_news_8 : decode cX11_news 8 = .ok (.ldc2_w 180, 3) := by decide +kernel
theorem dX11_news_11 : decode cX11_news 11 = .ok (.invokestatic 126, 3) := by decide +kernel
theorem dX11_news_14 : decode cX11_news 14 = .ok (.ifCond .eq 35, 3) := by decide +kernel
theorem dX11_news_17 : decode cX11_news 17 = .ok (.iload_n 2, 1) := by decide +kernel
theorem dX11_news_18 : decode cX11_news 18 = .ok (.invokestatic 164, 3) := by decide +kernel
theorem dX11_news_21 : decode cX11_news 21 = .ok (.ifCond .eq 28, 3) := by decide +kernel
theorem dX11_news_24 : decode cX11_news 24 = .ok (.iload_n 3, 1) := by decide +kernel
theorem dX11_news_25 : decode cX11_news 25 = .ok (.i2l, 1) := by decide +kernel
theorem dX11_news_26 : decode cX11_news 26 = .ok (.lconst 0, 1) := by decide +kernel
theorem dX11_news_27 : decode cX11_news 27 = .ok (.ldc2_w 141, 3) := by decide +kernel
theorem dX11_news_30 : decode cX11_news 30 = .ok (.invokestatic 126, 3) := by decide +kernel
theorem dX11_news_33 : decode cX11_news 33 = .ok (.ifCond .eq 16, 3) := by decide +kernel
theorem dX11_news_36 : decode cX11_news 36 = .ok (.iload 4, 2) := by decide +kernel
theorem dX11_news_38 : decode cX11_news 38 = .ok (.i2l, 1) := by decide +kernel
theorem dX11_news_39 : decode cX11_news 39 = .ok (.lconst 0, 1) := by decide +kernel
theorem dX11_news_40 : decode cX11_news 40 = .ok (.ldc2_w 332, 3) := by decide +kernel
theorem dX11_news_43 : decode cX11_news 43 = .ok (.invokestatic 126, 3) := by decide +kernel
theorem dX11_news_46 : decode cX11_news 46 = .ok (.ifCond .ne 6, 3) := by decide +kernel
theorem dX11_news_49 : decode cX11_news 49 = .ok (.ldc 136, 2) := by decide +kernel
theorem dX11_news_51 : decode cX11_news 51 = .ok (.ireturn, 1) := by decide +kernel
theorem dX11_news_52 : decode cX11_news 52 = .ok (.aload_n 0, 1) := by decide +kernel
theorem dX11_news_53 : decode cX11_news 53 = .ok (.getfield 334, 3) := by decide +kernel
theorem dX11_news_56 : decode cX11_news 56 = .ok (.bipush 20, 2) := by decide +kernel
theorem dX11_news_58 : decode cX11_news 58 = .ok (.if_icmp .ne 6, 3) := by decide +kernel
theorem dX11_news_61 : decode cX11_news 61 = .ok (.ldc 172, 2) := by decide +kernel
theorem dX11_news_63 : decode cX11_news 63 = .ok (.ireturn, 1) := by decide +kernel
theorem dX11_news_64 : decode cX11_news 64 = .ok (.aload_n 0, 1) := by decide +kernel
theorem dX11_news_65 : decode cX11_news 65 = .ok (.getfield 112, 3) := by decide +kernel
theorem dX11_news_68 : decode cX11_news 68 = .ok (.aload_n 0, 1) := by decide +kernel
theorem dX11_news_69 : decode cX11_news 69 = .ok (.getfield 334, 3) := by decide +kernel
theorem dX11_news_72 : decode cX11_news 72 = .ok (.iload_n 1, 1) := by decide +kernel
theorem dX11_news_73 : decode cX11_news 73 = .ok (.iastore, 1) := by decide +kernel
theorem dX11_news_74 : decode cX11_news 74 = .ok (.aload_n 0, 1) := by decide +kernel
theorem dX11_news_75 : decode cX11_news 75 = .ok (.getfield 115, 3) := by decide +kernel
theorem dX11_news_78 : decode cX11_news 78 = .ok (.aload_n 0, 1) := by decide +kernel
theorem dX11_news_79 : decode cX11_news 79 = .ok (.getfield 334, 3) := by decide +kernel
theorem dX11_news_82 : decode cX11_news 82 = .ok (.iload_n 2, 1) := by decide +kernel
theorem dX11_news_83 : decode cX11_news 83 = .ok (.iload 4, 2) := by decide +kernel
theorem dX11_news_85 : decode cX11_news 85 = .ok (.iadd, 1) := by decide +kernel
theorem dX11_news_86 : decode cX11_news 86 = .ok (.iastore, 1) := by decide +kernel
theorem dX11_news_87 : decode cX11_news 87 = .ok (.aload_n 0, 1) := by decide +kernel
theorem dX11_news_88 : decode cX11_news 88 = .ok (.getfield 118, 3) := by decide +kernel
theorem dX11_news_91 : decode cX11_news 91 = .ok (.aload_n 0, 1) := by decide +kernel
theorem dX11_news_92 : decode cX11_news 92 = .ok (.getfield 334, 3) := by decide +kernel
theorem dX11_news_95 : decode cX11_news 95 = .ok (.iload_n 3, 1) := by decide +kernel
theorem dX11_news_96 : decode cX11_news 96 = .ok (.iastore, 1) := by decide +kernel
theorem dX11_news_97 : decode cX11_news 97 = .ok (.aload_n 0, 1) := by decide +kernel
theorem dX11_news_98 : decode cX11_news 98 = .ok (.dup, 1) := by decide +kernel
theorem dX11_news_99 : decode cX11_news 99 = .ok (.getfield 334, 3) := by decide +kernel
theorem dX11_news_102 : decode cX11_news 102 = .ok (.iconst 1, 1) := by decide +kernel
theorem dX11_news_103 : decode cX11_news 103 = .ok (.iadd, 1) := by decide +kernel
theorem dX11_news_104 : decode cX11_news 104 = .ok (.putfield 334, 3) := by decide +kernel
theorem dX11_news_107 : decode cX11_news 107 = .ok (.aload_n 0, 1) := by decide +kernel
theorem dX11_news_108 : decode cX11_news 108 = .ok (.getfield 334, 3) := by decide +kernel
theorem dX11_news_111 : decode cX11_news 111 = .ok (.ireturn, 1) := by decide +kernel
theorem dX11_known_0 : decode cX11_known 0 = .ok (.aload_n 0, 1) := by decide +kernel
theorem dX11_known_1 : decode cX11_known 1 = .ok (.iconst 0, 1) := by decide +kernel
theorem dX11_known_2 : decode cX11_known 2 = .ok (.putfield 1, 3) := by decide +kernel
theorem dX11_known_5 : decode cX11_known 5 = .ok (.iload_n 1, 1) := by decide +kernel
theorem dX11_known_6 : decode cX11_known 6 = .ok (.i2l, 1) := by decide +kernel
theorem dX11_known_7 : decode cX11_known 7 = .ok (.lconst 0, 1) := by decide +kernel
theorem dX11_known_8 : decode cX11_known 8 = .ok (.ldc2_w 141, 3) := by decide +kernel
theorem dX11_known_11 : decode cX11_known 11 = .ok (.invokestatic 126, 3) := by decide +kernel
theorem dX11_known_14 : decode cX11_known 14 = .ok (.ifCond .eq 10, 3) := by decide +kernel
theorem dX11_known_17 : decode cX11_known 17 = .ok (.iload_n 2, 1) := by decide +kernel
theorem dX11_known_18 : decode cX11_known 18 = .ok (.invokestatic 164, 3) := by decide +kernel
theorem dX11_known_21 : decode cX11_known 21 = .ok (.ifCond .ne 6, 3) := by decide +kernel
theorem dX11_known_24 : decode cX11_known 24 = .ok (.ldc 136, 2) := by decide +kernel
theorem dX11_known_26 : decode cX11_known 26 = .ok (.ireturn, 1) := by decide +kernel
theorem dX11_known_27 : decode cX11_known 27 = .ok (.iconst 0, 1) := by decide +kernel
theorem dX11_known_28 : decode cX11_known 28 = .ok (.istore_n 3, 1) := by decide +kernel
theorem dX11_known_29 : decode cX11_known 29 = .ok (.iconst 0, 1) := by decide +kernel
theorem dX11_known_30 : decode cX11_known 30 = .ok (.istore 4, 2) := by decide +kernel
theorem dX11_known_32 : decode cX11_known 32 = .ok (.iload 4, 2) := by decide +kernel
theorem dX11_known_34 : decode cX11_known 34 = .ok (.aload_n 0, 1) := by decide +kernel
theorem dX11_known_35 : decode cX11_known 35 = .ok (.getfield 334, 3) := by decide +kernel
theorem dX11_known_38 : decode cX11_known 38 = .ok (.if_icmp .ge 47, 3) := by decide +kernel
theorem dX11_known_41 : decode cX11_known 41 = .ok (.iload_n 3, 1) := by decide +kernel
theorem dX11_known_42 : decode cX11_known 42 = .ok (.aload_n 0, 1) := by decide +kernel
theorem dX11_known_43 : decode cX11_known 43 = .ok (.getfield 118, 3) := by decide +kernel
theorem dX11_known_46 : decode cX11_known 46 = .ok (.iload 4, 2) := by decide +kernel
theorem dX11_known_48 : decode cX11_known 48 = .ok (.iaload, 1) := by decide +kernel
theorem dX11_known_49 : decode cX11_known 49 = .ok (.iload_n 1, 1) := by decide +kernel
theorem dX11_known_50 : decode cX11_known 50 = .ok (.if_icmp .ne 26, 3) := by decide +kernel
theorem dX11_known_53 : decode cX11_known 53 = .ok (.aload_n 0, 1) := by decide +kernel
theorem dX11_known_54 : decode cX11_known 54 = .ok (.getfield 115, 3) := by decide +kernel
theorem dX11_known_57 : decode cX11_known 57 = .ok (.iload 4, 2) := by decide +kernel
theorem dX11_known_59 : decode cX11_known 59 = .ok (.iaload, 1) := by decide +kernel
theorem dX11_known_60 : decode cX11_known 60 = .ok (.iload_n 2, 1) := by decide +kernel
theorem dX11_known_61 : decode cX11_known 61 = .ok (.if_icmp .gt 15, 3) := by decide +kernel
theorem dX11_known_64 : decode cX11_known 64 = .ok (.iconst 1, 1) := by decide +kernel
theorem dX11_known_65 : decode cX11_known 65 = .ok (.aload_n 0, 1) := by decide +kernel
theorem dX11_known_66 : decode cX11_known 66 = .ok (.getfield 112, 3) := by decide +kernel
theorem dX11_known_69 : decode cX11_known 69 = .ok (.iload 4, 2) := by decide +kernel
theorem dX11_known_71 : decode cX11_known 71 = .ok (.iaload, 1) := by decide +kernel
theorem dX11_known_72 : decode cX11_known 72 = .ok (.ishl, 1) := by decide +kernel
theorem dX11_known_73 : decode cX11_known 73 = .ok (.goto 4, 3) := by decide +kernel
theorem dX11_known_76 : decode cX11_known 76 = .ok (.iconst 0, 1) := by decide +kernel
theorem dX11_known_77 : decode cX11_known 77 = .ok (.ior, 1) := by decide +kernel
theorem dX11_known_78 : decode cX11_known 78 = .ok (.istore_n 3, 1) := by decide +kernel
theorem dX11_known_79 : decode cX11_known 79 = .ok (.iinc 4 1, 3) := by decide +kernel
theorem dX11_known_82 : decode cX11_known 82 = .ok (.goto (-50), 3) := by decide +kernel
theorem dX11_known_85 : decode cX11_known 85 = .ok (.iload_n 3, 1) := by decide +kernel
theorem dX11_known_86 : decode cX11_known 86 = .ok (.ireturn, 1) := by decide +kernel
theorem dX11_isOf_0 : decode cX11_isOf 0 = .ok (.iload_n 1, 1) := by decide +kernel
theorem dX11_isOf_1 : decode cX11_isOf 1 = .ok (.ifCond .eq 43, 3) := by decide +kernel
theorem dX11_isOf_4 : decode cX11_isOf 4 = .ok (.iload_n 0, 1) := by decide +kernel
theorem dX11_isOf_5 : decode cX11_isOf 5 = .ok (.iload_n 1, 1) := by decide +kernel
theorem dX11_isOf_6 : decode cX11_isOf 6 = .ok (.if_icmp .eq 38, 3) := by decide +kernel
theorem dX11_isOf_9 : decode cX11_isOf 9 = .ok (.iload_n 1, 1) := by decide +kernel
theorem dX11_isOf_10 : decode cX11_isOf 10 = .ok (.iconst 1, 1) := by decide +kernel
theorem dX11_isOf_11 : decode cX11_isOf 11 = .ok (.if_icmp .ne 13, 3) := by decide +kernel
theorem dX11_isOf_14 : decode cX11_isOf 14 = .ok (.iload_n 0, 1) := by decide +kernel
theorem dX11_isOf_15 : decode cX11_isOf 15 = .ok (.iconst 2, 1) := by decide +kernel
theorem dX11_isOf_16 : decode cX11_isOf 16 = .ok (.if_icmp .eq 28, 3) := by decide +kernel
theorem dX11_isOf_19 : decode cX11_isOf 19 = .ok (.iload_n 0, 1) := by decide +kernel
theorem dX11_isOf_20 : decode cX11_isOf 20 = .ok (.iconst 3, 1) := by decide +kernel
theorem dX11_isOf_21 : decode cX11_isOf 21 = .ok (.if_icmp .eq 23, 3) := by decide +kernel
theorem dX11_isOf_24 : decode cX11_isOf 24 = .ok (.iload_n 1, 1) := by decide +kernel
theorem dX11_isOf_25 : decode cX11_isOf 25 = .ok (.iconst 2, 1) := by decide +kernel
theorem dX11_isOf_26 : decode cX11_isOf 26 = .ok (.if_icmp .ne 8, 3) := by decide +kernel
theorem dX11_isOf_29 : decode cX11_isOf 29 = .ok (.iload_n 0, 1) := by decide +kernel
theorem dX11_isOf_30 : decode cX11_isOf 30 = .ok (.iconst 3, 1) := by decide +kernel
theorem dX11_isOf_31 : decode cX11_isOf 31 = .ok (.if_icmp .eq 13, 3) := by decide +kernel
theorem dX11_isOf_34 : decode cX11_isOf 34 = .ok (.iload_n 1, 1) := by decide +kernel
theorem dX11_isOf_35 : decode cX11_isOf 35 = .ok (.iconst 4, 1) := by decide +kernel
theorem dX11_isOf_36 : decode cX11_isOf 36 = .ok (.if_icmp .ne 12, 3) := by decide +kernel
theorem dX11_isOf_39 : decode cX11_isOf 39 = .ok (.iload_n 0, 1) := by decide +kernel
theorem dX11_isOf_40 : decode cX11_isOf 40 = .ok (.iconst 5, 1) := by decide +kernel
theorem dX11_isOf_41 : decode cX11_isOf 41 = .ok (.if_icmp .ne 7, 3) := by decide +kernel
theorem dX11_isOf_44 : decode cX11_isOf 44 = .ok (.iconst 1, 1) := by decide +kernel
theorem dX11_isOf_45 : decode cX11_isOf 45 = .ok (.goto 4, 3) := by decide +kernel
theorem dX11_isOf_48 : decode cX11_isOf 48 = .ok (.iconst 0, 1) := by decide +kernel
theorem dX11_isOf_49 : decode cX11_isOf 49 = .ok (.ireturn, 1) := by decide +kernel
theorem dX11_kind_0 : decode cX11_kind 0 = .ok (.aload_n 0, 1) := by decide +kernel
theorem dX11_kind_1 : decode cX11_kind 1 = .ok (.iconst 0, 1) := by decide +kernel
theorem dX11_kind_2 : decode cX11_kind 2 = .ok (.putfield 1, 3) := by decide +kernel
theorem dX11_kind_5 : decode cX11_kind 5 = .ok (.aload_n 0, 1) := by decide +kernel
theorem dX11_kind_6 : decode cX11_kind 6 = .ok (.iload_n 1, 1) := by decide +kernel
theorem dX11_kind_7 : decode cX11_kind 7 = .ok (.invokevirtual 329, 3) := by decide +kernel
theorem dX11_kind_10 : decode cX11_kind 10 = .ok (.ifCond .eq 12, 3) := by decide +kernel
theorem dX11_kind_13 : decode cX11_kind 13 = .ok (.aload_n 0, 1) := by decide +kernel
theorem dX11_kind_14 : decode cX11_kind 14 = .ok (.getfield 103, 3) := by decide +kernel
theorem dX11_kind_17 : decode cX11_kind 17 = .ok (.iload_n 1, 1) := by decide +kernel
theorem dX11_kind_18 : decode cX11_kind 18 = .ok (.iaload, 1) := by decide +kernel
theorem dX11_kind_19 : decode cX11_kind 19 = .ok (.goto 5, 3) := by decide +kernel
theorem dX11_kind_22 : decode cX11_kind 22 = .ok (.ldc 136, 2) := by decide +kernel
theorem dX11_kind_24 : decode cX11_kind 24 = .ok (.ireturn, 1) := by decide +kernel
theorem dX11_as_0 : decode cX11_as 0 = .ok (.aload_n 0, 1) := by decide +kernel
theorem dX11_as_1 : decode cX11_as 1 = .ok (.iconst 0, 1) := by decide +kernel
theorem dX11_as_2 : decode cX11_as 2 = .ok (.putfield 1, 3) := by decide +kernel
theorem dX11_as_5 : decode cX11_as 5 = .ok (.aload_n 0, 1) := by decide +kernel
theorem dX11_as_6 : decode cX11_as 6 = .ok (.iload_n 1, 1) := by decide +kernel
theorem dX11_as_7 : decode cX11_as 7 = .ok (.invokevirtual 329, 3) := by decide +kernel
theorem dX11_as_10 : decode cX11_as 10 = .ok (.ifCond .eq 15, 3) := by decide +kernel
theorem dX11_as_13 : decode cX11_as 13 = .ok (.iload_n 2, 1) := by decide +kernel
theorem dX11_as_14 : decode cX11_as 14 = .ok (.i2l, 1) := by decide +kernel
theorem dX11_as_15 : decode cX11_as 15 = .ok (.lconst 0, 1) := by decide +kernel
theorem dX11_as_16 : decode cX11_as 16 = .ok (.ldc2_w 213, 3) := by decide +kernel
theorem dX11_as_19 : decode cX11_as 19 = .ok (.invokestatic 126, 3) := by decide +kernel
theorem dX11_as_22 : decode cX11_as 22 = .ok (.ifCond .ne 6, 3) := by decide +kernel
theorem dX11_as_25 : decode cX11_as 25 = .ok (.ldc 136, 2) := by decide +kernel
theorem dX11_as_27 : decode cX11_as 27 = .ok (.ireturn, 1) := by decide +kernel
theorem dX11_as_28 : decode cX11_as 28 = .ok (.aload_n 0, 1) := by decide +kernel
theorem dX11_as_29 : decode cX11_as 29 = .ok (.iconst 0, 1) := by decide +kernel
theorem dX11_as_30 : decode cX11_as 30 = .ok (.putfield 7, 3) := by decide +kernel
theorem dX11_as_33 : decode cX11_as 33 = .ok (.aload_n 0, 1) := by decide +kernel
theorem dX11_as_34 : decode cX11_as 34 = .ok (.getfield 103, 3) := by decide +kernel
theorem dX11_as_37 : decode cX11_as 37 = .ok (.iload_n 1, 1) := by decide +kernel
theorem dX11_as_38 : decode cX11_as 38 = .ok (.iaload, 1) := by decide +kernel
theorem dX11_as_39 : decode cX11_as 39 = .ok (.iload_n 2, 1) := by decide +kernel
theorem dX11_as_40 : decode cX11_as 40 = .ok (.invokestatic 337, 3) := by decide +kernel
theorem dX11_as_43 : decode cX11_as 43 = .ok (.ifCond .eq 12, 3) := by decide +kernel
theorem dX11_as_46 : decode cX11_as 46 = .ok (.aload_n 0, 1) := by decide +kernel
theorem dX11_as_47 : decode cX11_as 47 = .ok (.getfield 106, 3) := by decide +kernel
theorem dX11_as_50 : decode cX11_as 50 = .ok (.iload_n 1, 1) := by decide +kernel
theorem dX11_as_51 : decode cX11_as 51 = .ok (.iaload, 1) := by decide +kernel
theorem dX11_as_52 : decode cX11_as 52 = .ok (.goto 8, 3) := by decide +kernel
theorem dX11_as_55 : decode cX11_as 55 = .ok (.aload_n 0, 1) := by decide +kernel
theorem dX11_as_56 : decode cX11_as 56 = .ok (.iconst 3, 1) := by decide +kernel
theorem dX11_as_57 : decode cX11_as 57 = .ok (.invokevirtual 137, 3) := by decide +kernel
theorem dX11_as_60 : decode cX11_as 60 = .ok (.ireturn, 1) := by decide +kernel
theorem dX11_began_0 : decode cX11_began 0 = .ok (.aload_n 0, 1) := by decide +kernel
theorem dX11_began_1 : decode cX11_began 1 = .ok (.getfield 341, 3) := by decide +kernel
theorem dX11_began_4 : decode cX11_began 4 = .ok (.bipush 16, 2) := by decide +kernel
theorem dX11_began_6 : decode cX11_began 6 = .ok (.if_icmp .ge 23, 3) := by decide +kernel
theorem dX11_began_9 : decode cX11_began 9 = .ok (.aload_n 0, 1) := by decide +kernel
theorem dX11_began_10 : decode cX11_began 10 = .ok (.getfield 121, 3) := by decide +kernel
theorem dX11_began_13 : decode cX11_began 13 = .ok (.aload_n 0, 1) := by decide +kernel
theorem dX11_began_14 : decode cX11_began 14 = .ok (.getfield 341, 3) := by decide +kernel
theorem dX11_began_17 : decode cX11_began 17 = .ok (.iload_n 1, 1) := by decide +kernel
theorem dX11_began_18 : decode cX11_began 18 = .ok (.iastore, 1) := by decide +kernel
theorem dX11_began_19 : decode cX11_began 19 = .ok (.aload_n 0, 1) := by decide +kernel
theorem dX11_began_20 : decode cX11_began 20 = .ok (.dup, 1) := by decide +kernel
theorem dX11_began_21 : decode cX11_began 21 = .ok (.getfield 341, 3) := by decide +kernel
theorem dX11_began_24 : decode cX11_began 24 = .ok (.iconst 1, 1) := by decide +kernel
theorem dX11_began_25 : decode cX11_began 25 = .ok (.iadd, 1) := by decide +kernel
theorem dX11_began_26 : decode cX11_began 26 = .ok (.putfield 341, 3) := by decide +kernel
theorem dX11_began_29 : decode cX11_began 29 = .ok (.return_, 1) := by decide +kernel
theorem dX11_loanSize_0 : decode cX11_loanSize 0 = .ok (.aload_n 0, 1) := by decide +kernel
theorem dX11_loanSize_1 : decode cX11_loanSize 1 = .ok (.bipush 14, 2) := by decide +kernel
theorem dX11_loanSize_3 : decode cX11_loanSize 3 = .ok (.invokevirtual 344, 3) := by decide +kernel
theorem dX11_loanSize_6 : decode cX11_loanSize 6 = .ok (.aload_n 0, 1) := by decide +kernel
theorem dX11_loanSize_7 : decode cX11_loanSize 7 = .ok (.bipush 10, 2) := by decide +kernel
theorem dX11_loanSize_9 : decode cX11_loanSize 9 = .ok (.invokevirtual 344, 3) := by decide +kernel
theorem dX11_loanSize_12 : decode cX11_loanSize 12 = .ok (.aload_n 0, 1) := by decide +kernel
theorem dX11_loanSize_13 : decode cX11_loanSize 13 = .ok (.getfield 106, 3) := by decide +kernel
theorem dX11_loanSize_16 : decode cX11_loanSize 16 = .ok (.iload_n 1, 1) := by decide +kernel
theorem dX11_loanSize_17 : decode cX11_loanSize 17 = .ok (.iaload, 1) := by decide +kernel
theorem dX11_loanSize_18 : decode cX11_loanSize 18 = .ok (.iconst 2, 1) := by decide +kernel
theorem dX11_loanSize_19 : decode cX11_loanSize 19 = .ok (.idiv, 1) := by decide +kernel
theorem dX11_loanSize_20 : decode cX11_loanSize 20 = .ok (.ireturn, 1) := by decide +kernel
theorem dX11_markOf_0 : decode cX11_markOf 0 = .ok (.aload_n 0, 1) := by decide +kernel
theorem dX11_markOf_1 : decode cX11_markOf 1 = .ok (.getfield 103, 3) := by decide +kernel
theorem dX11_markOf_4 : decode cX11_markOf 4 = .ok (.iload_n 1, 1) := by decide +kernel
theorem dX11_markOf_5 : decode cX11_markOf 5 = .ok (.iaload, 1) := by decide +kernel
theorem dX11_markOf_6 : decode cX11_markOf 6 = .ok (.istore_n 2, 1) := by decide +kernel
theorem dX11_markOf_7 : decode cX11_markOf 7 = .ok (.iload_n 2, 1) := by decide +kernel
theorem dX11_markOf_8 : decode cX11_markOf 8 = .ok (.iconst 5, 1) := by decide +kernel
theorem dX11_markOf_9 : decode cX11_markOf 9 = .ok (.if_icmp .ne 9, 3) := by decide +kernel
theorem dX11_markOf_12 : decode cX11_markOf 12 = .ok (.aload_n 0, 1) := by decide +kernel
theorem dX11_markOf_13 : decode cX11_markOf 13 = .ok (.bipush 23, 2) := by decide +kernel
theorem dX11_markOf_15 : decode cX11_markOf 15 = .ok (.invokevirtual 344, 3) := by decide +kernel
theorem dX11_markOf_18 : decode cX11_markOf 18 = .ok (.iload_n 2, 1) := by decide +kernel
theorem dX11_markOf_19 : decode cX11_markOf 19 = .ok (.iconst 4, 1) := by decide +kernel
theorem dX11_markOf_20 : decode cX11_markOf 20 = .ok (.invokestatic 337, 3) := by decide +kernel
theorem dX11_markOf_23 : decode cX11_markOf 23 = .ok (.ifCond .eq 9, 3) := by decide +kernel
theorem dX11_markOf_26 : decode cX11_markOf 26 = .ok (.aload_n 0, 1) := by decide +kernel
theorem dX11_markOf_27 : decode cX11_markOf 27 = .ok (.bipush 22, 2) := by decide +kernel
theorem dX11_markOf_29 : decode cX11_markOf 29 = .ok (.invokevirtual 344, 3) := by decide +kernel
theorem dX11_markOf_32 : decode cX11_markOf 32 = .ok (.iload_n 2, 1) := by decide +kernel
theorem dX11_markOf_33 : decode cX11_markOf 33 = .ok (.iconst 2, 1) := by decide +kernel
theorem dX11_markOf_34 : decode cX11_markOf 34 = .ok (.invokestatic 337, 3) := by decide +kernel
theorem dX11_markOf_37 : decode cX11_markOf 37 = .ok (.ifCond .eq 9, 3) := by decide +kernel
theorem dX11_markOf_40 : decode cX11_markOf 40 = .ok (.aload_n 0, 1) := by decide +kernel
theorem dX11_markOf_41 : decode cX11_markOf 41 = .ok (.bipush 21, 2) := by decide +kernel
theorem dX11_markOf_43 : decode cX11_markOf 43 = .ok (.invokevirtual 344, 3) := by decide +kernel
theorem dX11_markOf_46 : decode cX11_markOf 46 = .ok (.aload_n 0, 1) := by decide +kernel
theorem dX11_markOf_47 : decode cX11_markOf 47 = .ok (.bipush 20, 2) := by decide +kernel
theorem dX11_markOf_49 : decode cX11_markOf 49 = .ok (.invokevirtual 344, 3) := by decide +kernel
theorem dX11_markOf_52 : decode cX11_markOf 52 = .ok (.aload_n 0, 1) := by decide +kernel
theorem dX11_markOf_53 : decode cX11_markOf 53 = .ok (.getfield 188, 3) := by decide +kernel
theorem dX11_markOf_56 : decode cX11_markOf 56 = .ok (.iload_n 2, 1) := by decide +kernel
theorem dX11_markOf_57 : decode cX11_markOf 57 = .ok (.iconst 2, 1) := by decide +kernel
theorem dX11_markOf_58 : decode cX11_markOf 58 = .ok (.invokestatic 337, 3) := by decide +kernel
theorem dX11_markOf_61 : decode cX11_markOf 61 = .ok (.ifCond .eq 8, 3) := by decide +kernel
theorem dX11_markOf_64 : decode cX11_markOf 64 = .ok (.bipush 100, 2) := by decide +kernel
theorem dX11_markOf_66 : decode cX11_markOf 66 = .ok (.goto 25, 3) := by decide +kernel
theorem dX11_markOf_69 : decode cX11_markOf 69 = .ok (.iload_n 2, 1) := by decide +kernel
theorem dX11_markOf_70 : decode cX11_markOf 70 = .ok (.iconst 4, 1) := by decide +kernel
theorem dX11_markOf_71 : decode cX11_markOf 71 = .ok (.invokestatic 337, 3) := by decide +kernel
theorem dX11_markOf_74 : decode cX11_markOf 74 = .ok (.ifCond .eq 16, 3) := by decide +kernel
theorem dX11_markOf_77 : decode cX11_markOf 77 = .ok (.aload_n 0, 1) := by decide +kernel
theorem dX11_markOf_78 : decode cX11_markOf 78 = .ok (.aload_n 0, 1) := by decide +kernel
theorem dX11_markOf_79 : decode cX11_markOf 79 = .ok (.getfield 188, 3) := by decide +kernel
theorem dX11_markOf_82 : decode cX11_markOf 82 = .ok (.iconst 1, 1) := by decide +kernel
theorem dX11_markOf_83 : decode cX11_markOf 83 = .ok (.iconst 0, 1) := by decide +kernel
theorem dX11_markOf_84 : decode cX11_markOf 84 = .ok (.invokevirtual 298, 3) := by decide +kernel
theorem dX11_markOf_87 : decode cX11_markOf 87 = .ok (.goto 4, 3) := by decide +kernel
theorem dX11_markOf_90 : decode cX11_markOf 90 = .ok (.iconst 0, 1) := by decide +kernel
theorem dX11_markOf_91 : decode cX11_markOf 91 = .ok (.iadd, 1) := by decide +kernel
theorem dX11_markOf_92 : decode cX11_markOf 92 = .ok (.istore_n 3, 1) := by decide +kernel
theorem dX11_markOf_93 : decode cX11_markOf 93 = .ok (.iload_n 2, 1) := by decide +kernel
theorem dX11_markOf_94 : decode cX11_markOf 94 = .ok (.iconst 5, 1) := by decide +kernel
theorem dX11_markOf_95 : decode cX11_markOf 95 = .ok (.if_icmp .ne 13, 3) := by decide +kernel
theorem dX11_markOf_98 : decode cX11_markOf 98 = .ok (.iload_n 3, 1) := by decide +kernel
theorem dX11_markOf_99 : decode cX11_markOf 99 = .ok (.aload_n 0, 1) := by decide +kernel
theorem dX11_markOf_100 : decode cX11_markOf 100 = .ok (.iload_n 1, 1) := by decide +kernel
theorem dX11_markOf_101 : decode cX11_markOf 101 = .ok (.invokevirtual 347, 3) := by decide +kernel
theorem dX11_markOf_104 : decode cX11_markOf 104 = .ok (.iadd, 1) := by decide +kernel
theorem dX11_markOf_105 : decode cX11_markOf 105 = .ok (.goto 4, 3) := by decide +kernel
theorem dX11_markOf_108 : decode cX11_markOf 108 = .ok (.iload_n 3, 1) := by decide +kernel
theorem dX11_markOf_109 : decode cX11_markOf 109 = .ok (.ireturn, 1) := by decide +kernel
theorem dX11_sizeBy_0 : decode cX11_sizeBy 0 = .ok (.aload_n 0, 1) := by decide +kernel
theorem dX11_sizeBy_1 : decode cX11_sizeBy 1 = .ok (.getfield 103, 3) := by decide +kernel
theorem dX11_sizeBy_4 : decode cX11_sizeBy 4 = .ok (.iload_n 1, 1) := by decide +kernel
theorem dX11_sizeBy_5 : decode cX11_sizeBy 5 = .ok (.iaload, 1) := by decide +kernel
theorem dX11_sizeBy_6 : decode cX11_sizeBy 6 = .ok (.istore_n 2, 1) := by decide +kernel
theorem dX11_sizeBy_7 : decode cX11_sizeBy 7 = .ok (.iload_n 2, 1) := by decide +kernel
theorem dX11_sizeBy_8 : decode cX11_sizeBy 8 = .ok (.iconst 5, 1) := by decide +kernel
theorem dX11_sizeBy_9 : decode cX11_sizeBy 9 = .ok (.if_icmp .ne 9, 3) := by decide +kernel
theorem dX11_sizeBy_12 : decode cX11_sizeBy 12 = .ok (.aload_n 0, 1) := by decide +kernel
theorem dX11_sizeBy_13 : decode cX11_sizeBy 13 = .ok (.iload_n 1, 1) := by decide +kernel
theorem dX11_sizeBy_14 : decode cX11_sizeBy 14 = .ok (.invokevirtual 347, 3) := by decide +kernel
theorem dX11_sizeBy_17 : decode cX11_sizeBy 17 = .ok (.ireturn, 1) := by decide +kernel
theorem dX11_sizeBy_18 : decode cX11_sizeBy 18 = .ok (.iload_n 2, 1) := by decide +kernel
theorem dX11_sizeBy_19 : decode cX11_sizeBy 19 = .ok (.iconst 3, 1) := by decide +kernel
theorem dX11_sizeBy_20 : decode cX11_sizeBy 20 = .ok (.if_icmp .ne 9, 3) := by decide +kernel
theorem dX11_sizeBy_23 : decode cX11_sizeBy 23 = .ok (.aload_n 0, 1) := by decide +kernel
theorem dX11_sizeBy_24 : decode cX11_sizeBy 24 = .ok (.bipush 13, 2) := by decide +kernel
theorem dX11_sizeBy_26 : decode cX11_sizeBy 26 = .ok (.invokevirtual 344, 3) := by decide +kernel
theorem dX11_sizeBy_29 : decode cX11_sizeBy 29 = .ok (.iload_n 2, 1) := by decide +kernel
theorem dX11_sizeBy_30 : decode cX11_sizeBy 30 = .ok (.iconst 2, 1) := by decide +kernel
theorem dX11_sizeBy_31 : decode cX11_sizeBy 31 = .ok (.invokestatic 337, 3) := by decide +kernel
theorem dX11_sizeBy_34 : decode cX11_sizeBy 34 = .ok (.ifCond .eq 9, 3) := by decide +kernel
theorem dX11_sizeBy_37 : decode cX11_sizeBy 37 = .ok (.aload_n 0, 1) := by decide +kernel
theorem dX11_sizeBy_38 : decode cX11_sizeBy 38 = .ok (.bipush 12, 2) := by decide +kernel
theorem dX11_sizeBy_40 : decode cX11_sizeBy 40 = .ok (.invokevirtual 344, 3) := by decide +kernel
theorem dX11_sizeBy_43 : decode cX11_sizeBy 43 = .ok (.iload_n 2, 1) := by decide +kernel
theorem dX11_sizeBy_44 : decode cX11_sizeBy 44 = .ok (.iconst 1, 1) := by decide +kernel
theorem dX11_sizeBy_45 : decode cX11_sizeBy 45 = .ok (.invokestatic 337, 3) := by decide +kernel
theorem dX11_sizeBy_48 : decode cX11_sizeBy 48 = .ok (.ifCond .eq 9, 3) := by decide +kernel
theorem dX11_sizeBy_51 : decode cX11_sizeBy 51 = .ok (.aload_n 0, 1) := by decide +kernel
theorem dX11_sizeBy_52 : decode cX11_sizeBy 52 = .ok (.bipush 11, 2) := by decide +kernel
theorem dX11_sizeBy_54 : decode cX11_sizeBy 54 = .ok (.invokevirtual 344, 3) := by decide +kernel
theorem dX11_sizeBy_57 : decode cX11_sizeBy 57 = .ok (.aload_n 0, 1) := by decide +kernel
theorem dX11_sizeBy_58 : decode cX11_sizeBy 58 = .ok (.bipush 10, 2) := by decide +kernel
theorem dX11_sizeBy_60 : decode cX11_sizeBy 60 = .ok (.invokevirtual 344, 3) := by decide +kernel
theorem dX11_sizeBy_63 : decode cX11_sizeBy 63 = .ok (.aload_n 0, 1) := by decide +kernel
theorem dX11_sizeBy_64 : decode cX11_sizeBy 64 = .ok (.getfield 106, 3) := by decide +kernel
theorem dX11_sizeBy_67 : decode cX11_sizeBy 67 = .ok (.iload_n 1, 1) := by decide +kernel
theorem dX11_sizeBy_68 : decode cX11_sizeBy 68 = .ok (.iaload, 1) := by decide +kernel
theorem dX11_sizeBy_69 : decode cX11_sizeBy 69 = .ok (.iload_n 2, 1) := by decide +kernel
theorem dX11_sizeBy_70 : decode cX11_sizeBy 70 = .ok (.iconst 1, 1) := by decide +kernel
theorem dX11_sizeBy_71 : decode cX11_sizeBy 71 = .ok (.invokestatic 337, 3) := by decide +kernel
theorem dX11_sizeBy_74 : decode cX11_sizeBy 74 = .ok (.ifCond .eq 11, 3) := by decide +kernel
theorem dX11_sizeBy_77 : decode cX11_sizeBy 77 = .ok (.aload_n 0, 1) := by decide +kernel
theorem dX11_sizeBy_78 : decode cX11_sizeBy 78 = .ok (.iload_n 1, 1) := by decide +kernel
theorem dX11_sizeBy_79 : decode cX11_sizeBy 79 = .ok (.invokevirtual 350, 3) := by decide +kernel
theorem dX11_sizeBy_82 : decode cX11_sizeBy 82 = .ok (.goto 4, 3) := by decide +kernel
theorem dX11_sizeBy_85 : decode cX11_sizeBy 85 = .ok (.iconst 0, 1) := by decide +kernel
theorem dX11_sizeBy_86 : decode cX11_sizeBy 86 = .ok (.iadd, 1) := by decide +kernel
theorem dX11_sizeBy_87 : decode cX11_sizeBy 87 = .ok (.istore_n 3, 1) := by decide +kernel
theorem dX11_sizeBy_88 : decode cX11_sizeBy 88 = .ok (.iload_n 3, 1) := by decide +kernel
theorem dX11_sizeBy_89 : decode cX11_sizeBy 89 = .ok (.iload_n 2, 1) := by decide +kernel
theorem dX11_sizeBy_90 : decode cX11_sizeBy 90 = .ok (.iconst 2, 1) := by decide +kernel
theorem dX11_sizeBy_91 : decode cX11_sizeBy 91 = .ok (.invokestatic 337, 3) := by decide +kernel
theorem dX11_sizeBy_94 : decode cX11_sizeBy 94 = .ok (.ifCond .eq 17, 3) := by decide +kernel
theorem dX11_sizeBy_97 : decode cX11_sizeBy 97 = .ok (.aload_n 0, 1) := by decide +kernel
theorem dX11_sizeBy_98 : decode cX11_sizeBy 98 = .ok (.getfield 106, 3) := by decide +kernel
theorem dX11_sizeBy_101 : decode cX11_sizeBy 101 = .ok (.aload_n 0, 1) := by decide +kernel
theorem dX11_sizeBy_102 : decode cX11_sizeBy 102 = .ok (.getfield 109, 3) := by decide +kernel
theorem dX11_sizeBy_105 : decode cX11_sizeBy 105 = .ok (.iload_n 1, 1) := by decide +kernel
theorem dX11_sizeBy_106 : decode cX11_sizeBy 106 = .ok (.iaload, 1) := by decide +kernel
theorem dX11_sizeBy_107 : decode cX11_sizeBy 107 = .ok (.iaload, 1) := by decide +kernel
theorem dX11_sizeBy_108 : decode cX11_sizeBy 108 = .ok (.goto 4, 3) := by decide +kernel
theorem dX11_sizeBy_111 : decode cX11_sizeBy 111 = .ok (.iconst 0, 1) := by decide +kernel
theorem dX11_sizeBy_112 : decode cX11_sizeBy 112 = .ok (.iadd, 1) := by decide +kernel
theorem dX11_sizeBy_113 : decode cX11_sizeBy 113 = .ok (.istore_n 3, 1) := by decide +kernel
theorem dX11_sizeBy_114 : decode cX11_sizeBy 114 = .ok (.iload_n 2, 1) := by decide +kernel
theorem dX11_sizeBy_115 : decode cX11_sizeBy 115 = .ok (.iconst 3, 1) := by decide +kernel
theorem dX11_sizeBy_116 : decode cX11_sizeBy 116 = .ok (.if_icmp .ne 9, 3) := by decide +kernel
theorem dX11_sizeBy_119 : decode cX11_sizeBy 119 = .ok (.iconst 2, 1) := by decide +kernel
theorem dX11_sizeBy_120 : decode cX11_sizeBy 120 = .ok (.iload_n 3, 1) := by decide +kernel
theorem dX11_sizeBy_121 : decode cX11_sizeBy 121 = .ok (.imul, 1) := by decide +kernel
theorem dX11_sizeBy_122 : decode cX11_sizeBy 122 = .ok (.goto 4, 3) := by decide +kernel
theorem dX11_sizeBy_125 : decode cX11_sizeBy 125 = .ok (.iload_n 3, 1) := by decide +kernel
theorem dX11_sizeBy_126 : decode cX11_sizeBy 126 = .ok (.ireturn, 1) := by decide +kernel
theorem dX11_ask_0 : decode cX11_ask 0 = .ok (.aload_n 0, 1) := by decide +kernel
theorem dX11_ask_1 : decode cX11_ask 1 = .ok (.iconst 0, 1) := by decide +kernel
theorem dX11_ask_2 : decode cX11_ask 2 = .ok (.putfield 1, 3) := by decide +kernel
theorem dX11_ask_5 : decode cX11_ask 5 = .ok (.aload_n 0, 1) := by decide +kernel
theorem dX11_ask_6 : decode cX11_ask 6 = .ok (.iload_n 1, 1) := by decide +kernel
theorem dX11_ask_7 : decode cX11_ask 7 = .ok (.invokevirtual 329, 3) := by decide +kernel
theorem dX11_ask_10 : decode cX11_ask 10 = .ok (.ifCond .eq 13, 3) := by decide +kernel
theorem dX11_ask_13 : decode cX11_ask 13 = .ok (.iload_n 2, 1) := by decide +kernel
theorem dX11_ask_14 : decode cX11_ask 14 = .ok (.i2l, 1) := by decide +kernel
theorem dX11_ask_15 : decode cX11_ask 15 = .ok (.lconst 0, 1) := by decide +kernel
theorem dX11_ask_16 : decode cX11_ask 16 = .ok (.lconst 1, 1) := by decide +kernel
theorem dX11_ask_17 : decode cX11_ask 17 = .ok (.invokestatic 126, 3) := by decide +kernel
theorem dX11_ask_20 : decode cX11_ask 20 = .ok (.ifCond .ne 6, 3) := by decide +kernel
theorem dX11_ask_23 : decode cX11_ask 23 = .ok (.ldc 136, 2) := by decide +kernel
theorem dX11_ask_25 : decode cX11_ask 25 = .ok (.ireturn, 1) := by decide +kernel
theorem dX11_ask_26 : decode cX11_ask 26 = .ok (.aload_n 0, 1) := by decide +kernel
theorem dX11_ask_27 : decode cX11_ask 27 = .ok (.iconst 0, 1) := by decide +kernel
theorem dX11_ask_28 : decode cX11_ask 28 = .ok (.putfield 341, 3) := by decide +kernel
theorem dX11_ask_31 : decode cX11_ask 31 = .ok (.iload_n 2, 1) := by decide +kernel
theorem dX11_ask_32 : decode cX11_ask 32 = .ok (.ifCond .ne 11, 3) := by decide +kernel
theorem dX11_ask_35 : decode cX11_ask 35 = .ok (.aload_n 0, 1) := by decide +kernel
theorem dX11_ask_36 : decode cX11_ask 36 = .ok (.iload_n 1, 1) := by decide +kernel
theorem dX11_ask_37 : decode cX11_ask 37 = .ok (.invokevirtual 353, 3) := by decide +kernel
theorem dX11_ask_40 : decode cX11_ask 40 = .ok (.goto 8, 3) := by decide +kernel
theorem dX11_ask_43 : decode cX11_ask 43 = .ok (.aload_n 0, 1) := by decide +kernel
theorem dX11_ask_44 : decode cX11_ask 44 = .ok (.iload_n 1, 1) := by decide +kernel
theorem dX11_ask_45 : decode cX11_ask 45 = .ok (.invokevirtual 350, 3) := by decide +kernel
theorem dX11_ask_48 : decode cX11_ask 48 = .ok (.ireturn, 1) := by decide +kernel
theorem dX11_trace_0 : decode cX11_trace 0 = .ok (.aload_n 0, 1) := by decide +kernel
theorem dX11_trace_1 : decode cX11_trace 1 = .ok (.iconst 0, 1) := by decide +kernel
theorem dX11_trace_2 : decode cX11_trace 2 = .ok (.putfield 1, 3) := by decide +kernel
theorem dX11_trace_5 : decode cX11_trace 5 = .ok (.iload_n 1, 1) := by decide +kernel
theorem dX11_trace_6 : decode cX11_trace 6 = .ok (.i2l, 1) := by decide +kernel
theorem dX11_trace_7 : decode cX11_trace 7 = .ok (.lconst 0, 1) := by decide +kernel
theorem dX11_trace_8 : decode cX11_trace 8 = .ok (.aload_n 0, 1) := by decide +kernel
theorem dX11_trace_9 : decode cX11_trace 9 = .ok (.getfield 341, 3) := by decide +kernel
theorem dX11_trace_12 : decode cX11_trace 12 = .ok (.iconst 1, 1) := by decide +kernel
theorem dX11_trace_13 : decode cX11_trace 13 = .ok (.isub, 1) := by decide +kernel
theorem dX11_trace_14 : decode cX11_trace 14 = .ok (.i2l, 1) := by decide +kernel
theorem dX11_trace_15 : decode cX11_trace 15 = .ok (.invokestatic 126, 3) := by decide +kernel
theorem dX11_trace_18 : decode cX11_trace 18 = .ok (.ifCond .eq 12, 3) := by decide +kernel
theorem dX11_trace_21 : decode cX11_trace 21 = .ok (.aload_n 0, 1) := by decide +kernel
theorem dX11_trace_22 : decode cX11_trace 22 = .ok (.getfield 121, 3) := by decide +kernel
theorem dX11_trace_25 : decode cX11_trace 25 = .ok (.iload_n 1, 1) := by decide +kernel
theorem dX11_trace_26 : decode cX11_trace 26 = .ok (.iaload, 1) := by decide +kernel
theorem dX11_trace_27 : decode cX11_trace 27 = .ok (.goto 5, 3) := by decide +kernel
theorem dX11_trace_30 : decode cX11_trace 30 = .ok (.ldc 69, 2) := by decide +kernel
theorem dX11_trace_32 : decode cX11_trace 32 = .ok (.ireturn, 1) := by decide +kernel
theorem dX11_count_0 : decode cX11_count 0 = .ok (.aload_n 0, 1) := by decide +kernel
theorem dX11_count_1 : decode cX11_count 1 = .ok (.iconst 0, 1) := by decide +kernel
theorem dX11_count_2 : decode cX11_count 2 = .ok (.putfield 1, 3) := by decide +kernel
theorem dX11_count_5 : decode cX11_count 5 = .ok (.iconst 0, 1) := by decide +kernel
theorem dX11_count_6 : decode cX11_count 6 = .ok (.istore_n 2, 1) := by decide +kernel
theorem dX11_count_7 : decode cX11_count 7 = .ok (.iload_n 1, 1) := by decide +kernel
theorem dX11_count_8 : decode cX11_count 8 = .ok (.tableswitch 186 0 9 #[56, 89, 94, 99, 104, 109, 114, 153, 158, 163], 56) := by decide +kernel
theorem dX11_count_64 : decode cX11_count 64 = .ok (.iconst 0, 1) := by decide +kernel
theorem dX11_count_65 : decode cX11_count 65 = .ok (.istore_n 3, 1) := by decide +kernel
theorem dX11_count_66 : decode cX11_count 66 = .ok (.iload_n 3, 1) := by decide +kernel
theorem dX11_count_67 : decode cX11_count 67 = .ok (.bipush 8, 2) := by decide +kernel
theorem dX11_count_69 : decode cX11_count 69 = .ok (.if_icmp .ge 26, 3) := by decide +kernel
theorem dX11_count_72 : decode cX11_count 72 = .ok (.iload_n 2, 1) := by decide +kernel
theorem dX11_count_73 : decode cX11_count 73 = .ok (.aload_n 0, 1) := by decide +kernel
theorem dX11_count_74 : decode cX11_count 74 = .ok (.getfield 17, 3) := by decide +kernel
theorem dX11_count_77 : decode cX11_count 77 = .ok (.iload_n 3, 1) := by decide +kernel
theorem dX11_count_78 : decode cX11_count 78 = .ok (.iaload, 1) := by decide +kernel
theorem dX11_count_79 : decode cX11_count 79 = .ok (.ifCond .lt 7, 3) := by decide +kernel
theorem dX11_count_82 : decode cX11_count 82 = .ok (.iconst 1, 1) := by decide +kernel
theorem dX11_count_83 : decode cX11_count 83 = .ok (.goto 4, 3) := by decide +kernel
theorem dX11_count_86 : decode cX11_count 86 = .ok (.iconst 0, 1) := by decide +kernel
theorem dX11_count_87 : decode cX11_count 87 = .ok (.iadd, 1) := by decide +kernel
theorem dX11_count_88 : decode cX11_count 88 = .ok (.istore_n 2, 1) := by decide +kernel
theorem dX11_count_89 : decode cX11_count 89 = .ok (.iinc 3 1, 3) := by decide +kernel
theorem dX11_count_92 : decode cX11_count 92 = .ok (.goto (-26), 3) := by decide +kernel
theorem dX11_count_95 : decode cX11_count 95 = .ok (.iload_n 2, 1) := by decide +kernel
theorem dX11_count_96 : decode cX11_count 96 = .ok (.ireturn, 1) := by decide +kernel
theorem dX11_count_97 : decode cX11_count 97 = .ok (.aload_n 0, 1) := by decide +kernel
theorem dX11_count_98 : decode cX11_count 98 = .ok (.getfield 145, 3) := by decide +kernel
theorem dX11_count_101 : decode cX11_count 101 = .ok (.ireturn, 1) := by decide +kernel
theorem dX11_count_102 : decode cX11_count 102 = .ok (.aload_n 0, 1) := by decide +kernel
theorem dX11_count_103 : decode cX11_count 103 = .ok (.getfield 202, 3) := by decide +kernel
theorem dX11_count_106 : decode cX11_count 106 = .ok (.ireturn, 1) := by decide +kernel
theorem dX11_count_107 : decode cX11_count 107 = .ok (.aload_n 0, 1) := by decide +kernel
theorem dX11_count_108 : decode cX11_count 108 = .ok (.getfield 169, 3) := by decide +kernel
theorem dX11_count_111 : decode cX11_count 111 = .ok (.ireturn, 1) := by decide +kernel
theorem dX11_count_112 : decode cX11_count 112 = .ok (.aload_n 0, 1) := by decide +kernel
theorem dX11_count_113 : decode cX11_count 113 = .ok (.getfield 286, 3) := by decide +kernel
theorem dX11_count_116 : decode cX11_count 116 = .ok (.ireturn, 1) := by decide +kernel
theorem dX11_count_117 : decode cX11_count 117 = .ok (.aload_n 0, 1) := by decide +kernel
theorem dX11_count_118 : decode cX11_count 118 = .ok (.getfield 326, 3) := by decide +kernel
theorem dX11_count_121 : decode cX11_count 121 = .ok (.ireturn, 1) := by decide +kernel
theorem dX11_count_122 : decode cX11_count 122 = .ok (.iconst 0, 1) := by decide +kernel
theorem dX11_count_123 : decode cX11_count 123 = .ok (.istore_n 3, 1) := by decide +kernel
theorem dX11_count_124 : decode cX11_count 124 = .ok (.iload_n 3, 1) := by decide +kernel
theorem dX11_count_125 : decode cX11_count 125 = .ok (.aload_n 0, 1) := by decide +kernel
theorem dX11_count_126 : decode cX11_count 126 = .ok (.getfield 326, 3) := by decide +kernel
theorem dX11_count_129 : decode cX11_count 129 = .ok (.if_icmp .ge 30, 3) := by decide +kernel
theorem dX11_count_132 : decode cX11_count 132 = .ok (.iload_n 2, 1) := by decide +kernel
theorem dX11_count_133 : decode cX11_count 133 = .ok (.aload_n 0, 1) := by decide +kernel
theorem dX11_count_134 : decode cX11_count 134 = .ok (.getfield 103, 3) := by decide +kernel
theorem dX11_count_137 : decode cX11_count 137 = .ok (.iload_n 3, 1) := by decide +kernel
theorem dX11_count_138 : decode cX11_count 138 = .ok (.iaload, 1) := by decide +kernel
theorem dX11_count_139 : decode cX11_count 139 = .ok (.iconst 2, 1) := by decide +kernel
theorem dX11_count_140 : decode cX11_count 140 = .ok (.invokestatic 337, 3) := by decide +kernel
theorem dX11_count_143 : decode cX11_count 143 = .ok (.ifCond .eq 7, 3) := by decide +kernel
theorem dX11_count_146 : decode cX11_count 146 = .ok (.iconst 1, 1) := by decide +kernel
theorem dX11_count_147 : decode cX11_count 147 = .ok (.goto 4, 3) := by decide +kernel
theorem dX11_count_150 : decode cX11_count 150 = .ok (.iconst 0, 1) := by decide +kernel
theorem dX11_count_151 : decode cX11_count 151 = .ok (.iadd, 1) := by decide +kernel
theorem dX11_count_152 : decode cX11_count 152 = .ok (.istore_n 2, 1) := by decide +kernel
theorem dX11_count_153 : decode cX11_count 153 = .ok (.iinc 3 1, 3) := by decide +kernel
theorem dX11_count_156 : decode cX11_count 156 = .ok (.goto (-32), 3) := by decide +kernel
theorem dX11_count_159 : decode cX11_count 159 = .ok (.iload_n 2, 1) := by decide +kernel
theorem dX11_count_160 : decode cX11_count 160 = .ok (.ireturn, 1) := by decide +kernel
theorem dX11_count_161 : decode cX11_count 161 = .ok (.aload_n 0, 1) := by decide +kernel
theorem dX11_count_162 : decode cX11_count 162 = .ok (.getfield 188, 3) := by decide +kernel
theorem dX11_count_165 : decode cX11_count 165 = .ok (.ireturn, 1) := by decide +kernel
theorem dX11_count_166 : decode cX11_count 166 = .ok (.aload_n 0, 1) := by decide +kernel
theorem dX11_count_167 : decode cX11_count 167 = .ok (.getfield 217, 3) := by decide +kernel
theorem dX11_count_170 : decode cX11_count 170 = .ok (.ireturn, 1) := by decide +kernel
theorem dX11_count_171 : decode cX11_count 171 = .ok (.iconst 0, 1) := by decide +kernel
theorem dX11_count_172 : decode cX11_count 172 = .ok (.istore_n 3, 1) := by decide +kernel
theorem dX11_count_173 : decode cX11_count 173 = .ok (.iload_n 3, 1) := by decide +kernel
theorem dX11_count_174 : decode cX11_count 174 = .ok (.iconst 4, 1) := by decide +kernel
theorem dX11_count_175 : decode cX11_count 175 = .ok (.if_icmp .ge 17, 3) := by decide +kernel
theorem dX11_count_178 : decode cX11_count 178 = .ok (.iload_n 2, 1) := by decide +kernel
theorem dX11_count_179 : decode cX11_count 179 = .ok (.aload_n 0, 1) := by decide +kernel
theorem dX11_count_180 : decode cX11_count 180 = .ok (.iload_n 3, 1) := by decide +kernel
theorem dX11_count_181 : decode cX11_count 181 = .ok (.invokevirtual 182, 3) := by decide +kernel
theorem dX11_count_184 : decode cX11_count 184 = .ok (.iadd, 1) := by decide +kernel
theorem dX11_count_185 : decode cX11_count 185 = .ok (.istore_n 2, 1) := by decide +kernel
theorem dX11_count_186 : decode cX11_count 186 = .ok (.iinc 3 1, 3) := by decide +kernel
theorem dX11_count_189 : decode cX11_count 189 = .ok (.goto (-16), 3) := by decide +kernel
theorem dX11_count_192 : decode cX11_count 192 = .ok (.iload_n 2, 1) := by decide +kernel
theorem dX11_count_193 : decode cX11_count 193 = .ok (.ireturn, 1) := by decide +kernel
theorem dX11_count_194 : decode cX11_count 194 = .ok (.ldc 136, 2) := by decide +kernel
theorem dX11_count_196 : decode cX11_count 196 = .ok (.ireturn, 1) := by decide +kernel
theorem dX11_status_0 : decode cX11_status 0 = .ok (.aload_n 0, 1) := by decide +kernel
theorem dX11_status_1 : decode cX11_status 1 = .ok (.iconst 0, 1) := by decide +kernel
theorem dX11_status_2 : decode cX11_status 2 = .ok (.putfield 1, 3) := by decide +kernel
theorem dX11_status_5 : decode cX11_status 5 = .ok (.aload_n 0, 1) := by decide +kernel
theorem dX11_status_6 : decode cX11_status 6 = .ok (.getfield 7, 3) := by decide +kernel
theorem dX11_status_9 : decode cX11_status 9 = .ok (.ireturn, 1) := by decide +kernel
theorem dJ0_length_8abf5_0 : decode cJ0_length_8abf5 0 = .ok (.aload_n 0, 1) := by decide +kernel
theorem dJ0_length_8abf5_1 : decode cJ0_length_8abf5 1 = .ok (.getfield 9, 3) := by decide +kernel
theorem dJ0_length_8abf5_4 : decode cJ0_length_8abf5 4 = .ok (.arraylength, 1) := by decide +kernel
theorem dJ0_length_8abf5_5 : decode cJ0_length_8abf5 5 = .ok (.aload_n 0, 1) := by decide +kernel
theorem dJ0_length_8abf5_6 : decode cJ0_length_8abf5 6 = .ok (.invokevirtual 335, 3) := by decide +kernel
theorem dJ0_length_8abf5_9 : decode cJ0_length_8abf5 9 = .ok (.ishr, 1) := by decide +kernel
theorem dJ0_length_8abf5_10 : decode cJ0_length_8abf5 10 = .ok (.ireturn, 1) := by decide +kernel
theorem dJ0_charAt_5068e_0 : decode cJ0_charAt_5068e 0 = .ok (.aload_n 0, 1) := by decide +kernel
theorem dJ0_charAt_5068e_1 : decode cJ0_charAt_5068e 1 = .ok (.invokevirtual 492, 3) := by decide +kernel
theorem dJ0_charAt_5068e_4 : decode cJ0_charAt_5068e 4 = .ok (.ifCond .eq 12, 3) := by decide +kernel
theorem dJ0_charAt_5068e_7 : decode cJ0_charAt_5068e 7 = .ok (.aload_n 0, 1) := by decide +kernel
theorem dJ0_charAt_5068e_8 : decode cJ0_charAt_5068e 8 = .ok (.getfield 9, 3) := by decide +kernel
theorem dJ0_charAt_5068e_11 : decode cJ0_charAt_5068e 11 = .ok (.iload_n 1, 1) := by decide +kernel
theorem dJ0_charAt_5068e_12 : decode cJ0_charAt_5068e 12 = .ok (.invokestatic 495, 3) := by decide +kernel
theorem dJ0_charAt_5068e_15 : decode cJ0_charAt_5068e 15 = .ok (.ireturn, 1) := by decide +kernel
theorem dJ0_charAt_5068e_16 : decode cJ0_charAt_5068e 16 = .ok (.aload_n 0, 1) := by decide +kernel
theorem dJ0_charAt_5068e_17 : decode cJ0_charAt_5068e 17 = .ok (.getfield 9, 3) := by decide +kernel
theorem dJ0_charAt_5068e_20 : decode cJ0_charAt_5068e 20 = .ok (.iload_n 1, 1) := by decide +kernel
theorem dJ0_charAt_5068e_21 : decode cJ0_charAt_5068e 21 = .ok (.invokestatic 498, 3) := by decide +kernel
theorem dJ0_charAt_5068e_24 : decode cJ0_charAt_5068e 24 = .ok (.ireturn, 1) := by decide +kernel
theorem dJ0_coder_7d493_0 : decode cJ0_coder_7d493 0 = .ok (.getstatic 38, 3) := by decide +kernel
theorem dJ0_coder_7d493_3 : decode cJ0_coder_7d493 3 = .ok (.ifCond .eq 10, 3) := by decide +kernel
theorem dJ0_coder_7d493_6 : decode cJ0_coder_7d493 6 = .ok (.aload_n 0, 1) := by decide +kernel
theorem dJ0_coder_7d493_7 : decode cJ0_coder_7d493 7 = .ok (.getfield 15, 3) := by decide +kernel
theorem dJ0_coder_7d493_10 : decode cJ0_coder_7d493 10 = .ok (.goto 4, 3) := by decide +kernel
theorem dJ0_coder_7d493_13 : decode cJ0_coder_7d493 13 = .ok (.iconst 1, 1) := by decide +kernel
theorem dJ0_coder_7d493_14 : decode cJ0_coder_7d493 14 = .ok (.ireturn, 1) := by decide +kernel
theorem dJ0_isLatin1_aae02_0 : decode cJ0_isLatin1_aae02 0 = .ok (.getstatic 38, 3) := by decide +kernel
theorem dJ0_isLatin1_aae02_3 : decode cJ0_isLatin1_aae02 3 = .ok (.ifCond .eq 14, 3) := by decide +kernel
theorem dJ0_isLatin1_aae02_6 : decode cJ0_isLatin1_aae02 6 = .ok (.aload_n 0, 1) := by decide +kernel
theorem dJ0_isLatin1_aae02_7 : decode cJ0_isLatin1_aae02 7 = .ok (.getfield 15, 3) := by decide +kernel
theorem dJ0_isLatin1_aae02_10 : decode cJ0_isLatin1_aae02 10 = .ok (.ifCond .ne 7, 3) := by decide +kernel
theorem dJ0_isLatin1_aae02_13 : decode cJ0_isLatin1_aae02 13 = .ok (.iconst 1, 1) := by decide +kernel
theorem dJ0_isLatin1_aae02_14 : decode cJ0_isLatin1_aae02 14 = .ok (.goto 4, 3) := by decide +kernel
theorem dJ0_isLatin1_aae02_17 : decode cJ0_isLatin1_aae02 17 = .ok (.iconst 0, 1) := by decide +kernel
theorem dJ0_isLatin1_aae02_18 : decode cJ0_isLatin1_aae02 18 = .ok (.ireturn, 1) := by decide +kernel
theorem dJ0_checkIndex_df160_0 : decode cJ0_checkIndex_df160 0 = .ok (.iload_n 0, 1) := by decide +kernel
theorem dJ0_checkIndex_df160_1 : decode cJ0_checkIndex_df160 1 = .ok (.iload_n 1, 1) := by decide +kernel
theorem dJ0_checkIndex_df160_2 : decode cJ0_checkIndex_df160 2 = .ok (.getstatic 1053, 3) := by decide +kernel
theorem dJ0_checkIndex_df160_5 : decode cJ0_checkIndex_df160 5 = .ok (.invokestatic 1059, 3) := by decide +kernel
theorem dJ0_checkIndex_df160_8 : decode cJ0_checkIndex_df160 8 = .ok (.pop, 1) := by decide +kernel
theorem dJ0_checkIndex_df160_9 : decode cJ0_checkIndex_df160 9 = .ok (.return_, 1) := by decide +kernel
theorem dJ1_charAt_3b067_0 : decode cJ1_charAt_3b067 0 = .ok (.iload_n 1, 1) := by decide +kernel
theorem dJ1_charAt_3b067_1 : decode cJ1_charAt_3b067 1 = .ok (.aload_n 0, 1) := by decide +kernel
theorem dJ1_charAt_3b067_2 : decode cJ1_charAt_3b067 2 = .ok (.arraylength, 1) := by decide +kernel
theorem dJ1_charAt_3b067_3 : decode cJ1_charAt_3b067 3 = .ok (.invokestatic 9, 3) := by decide +kernel
theorem dJ1_charAt_3b067_6 : decode cJ1_charAt_3b067 6 = .ok (.aload_n 0, 1) := by decide +kernel
theorem dJ1_charAt_3b067_7 : decode cJ1_charAt_3b067 7 = .ok (.iload_n 1, 1) := by decide +kernel
theorem dJ1_charAt_3b067_8 : decode cJ1_charAt_3b067 8 = .ok (.baload, 1) := by decide +kernel
theorem dJ1_charAt_3b067_9 : decode cJ1_charAt_3b067 9 = .ok (.sipush 255, 3) := by decide +kernel
theorem dJ1_charAt_3b067_12 : decode cJ1_charAt_3b067 12 = .ok (.iand, 1) := by decide +kernel
theorem dJ1_charAt_3b067_13 : decode cJ1_charAt_3b067 13 = .ok (.i2c, 1) := by decide +kernel
theorem dJ1_charAt_3b067_14 : decode cJ1_charAt_3b067 14 = .ok (.ireturn, 1) := by decide +kernel
theorem dJ7_fill_53178_0 : decode cJ7_fill_53178 0 = .ok (.iconst 0, 1) := by decide +kernel
theorem dJ7_fill_53178_1 : decode cJ7_fill_53178 1 = .ok (.istore_n 2, 1) := by decide +kernel
theorem dJ7_fill_53178_2 : decode cJ7_fill_53178 2 = .ok (.aload_n 0, 1) := by decide +kernel
theorem dJ7_fill_53178_3 : decode cJ7_fill_53178 3 = .ok (.arraylength, 1) := by decide +kernel
theorem dJ7_fill_53178_4 : decode cJ7_fill_53178 4 = .ok (.istore_n 3, 1) := by decide +kernel
theorem dJ7_fill_53178_5 : decode cJ7_fill_53178 5 = .ok (.iload_n 2, 1) := by decide +kernel
theorem dJ7_fill_53178_6 : decode cJ7_fill_53178 6 = .ok (.iload_n 3, 1) := by decide +kernel
theorem dJ7_fill_53178_7 : decode cJ7_fill_53178 7 = .ok (.if_icmp .ge 13, 3) := by decide +kernel
theorem dJ7_fill_53178_10 : decode cJ7_fill_53178 10 = .ok (.aload_n 0, 1) := by decide +kernel
theorem dJ7_fill_53178_11 : decode cJ7_fill_53178 11 = .ok (.iload_n 2, 1) := by decide +kernel
theorem dJ7_fill_53178_12 : decode cJ7_fill_53178 12 = .ok (.iload_n 1, 1) := by decide +kernel
theorem dJ7_fill_53178_13 : decode cJ7_fill_53178 13 = .ok (.iastore, 1) := by decide +kernel
theorem dJ7_fill_53178_14 : decode cJ7_fill_53178 14 = .ok (.iinc 2 1, 3) := by decide +kernel
theorem dJ7_fill_53178_17 : decode cJ7_fill_53178 17 = .ok (.goto (-12), 3) := by decide +kernel
theorem dJ7_fill_53178_20 : decode cJ7_fill_53178 20 = .ok (.return_, 1) := by decide +kernel
theorem dJ3_checkIndex_8e157_0 : decode cJ3_checkIndex_8e157 0 = .ok (.iload_n 0, 1) := by decide +kernel
theorem dJ3_checkIndex_8e157_1 : decode cJ3_checkIndex_8e157 1 = .ok (.ifCond .lt 8, 3) := by decide +kernel
theorem dJ3_checkIndex_8e157_4 : decode cJ3_checkIndex_8e157 4 = .ok (.iload_n 0, 1) := by decide +kernel
theorem dJ3_checkIndex_8e157_5 : decode cJ3_checkIndex_8e157 5 = .ok (.iload_n 1, 1) := by decide +kernel
theorem dJ3_checkIndex_8e157_6 : decode cJ3_checkIndex_8e157 6 = .ok (.if_icmp .lt 10, 3) := by decide +kernel
theorem dJ3_checkIndex_8e157_9 : decode cJ3_checkIndex_8e157 9 = .ok (.aload_n 2, 1) := by decide +kernel
theorem dJ3_checkIndex_8e157_10 : decode cJ3_checkIndex_8e157 10 = .ok (.iload_n 0, 1) := by decide +kernel
theorem dJ3_checkIndex_8e157_11 : decode cJ3_checkIndex_8e157 11 = .ok (.iload_n 1, 1) := by decide +kernel
theorem dJ3_checkIndex_8e157_12 : decode cJ3_checkIndex_8e157 12 = .ok (.invokestatic 95, 3) := by decide +kernel
theorem dJ3_checkIndex_8e157_15 : decode cJ3_checkIndex_8e157 15 = .ok (.athrow, 1) := by decide +kernel
theorem dJ3_checkIndex_8e157_16 : decode cJ3_checkIndex_8e157 16 = .ok (.iload_n 0, 1) := by decide +kernel
theorem dJ3_checkIndex_8e157_17 : decode cJ3_checkIndex_8e157 17 = .ok (.ireturn, 1) := by decide +kernel
