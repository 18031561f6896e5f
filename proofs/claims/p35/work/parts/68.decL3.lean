theorem dL_keeps_0 : decode cL_keeps 0 = .ok (.iload_n 1, 1) := by decide +kernel
theorem dL_keeps_1 : decode cL_keeps 1 = .ok (.bipush 6, 2) := by decide +kernel
theorem dL_keeps_3 : decode cL_keeps 3 = .ok (.if_icmp .lt 10, 3) := by decide +kernel
theorem dL_keeps_6 : decode cL_keeps 6 = .ok (.aload 13, 2) := by decide +kernel
theorem dL_keeps_8 : decode cL_keeps 8 = .ok (.iconst 0, 1) := by decide +kernel
theorem dL_keeps_9 : decode cL_keeps 9 = .ok (.iaload, 1) := by decide +kernel
theorem dL_keeps_10 : decode cL_keeps 10 = .ok (.ifCond .ne 15, 3) := by decide +kernel
theorem dL_keeps_13 : decode cL_keeps 13 = .ok (.aload_n 0, 1) := by decide +kernel
theorem dL_keeps_14 : decode cL_keeps 14 = .ok (.iload_n 1, 1) := by decide +kernel
theorem dL_keeps_15 : decode cL_keeps 15 = .ok (.iload_n 2, 1) := by decide +kernel
theorem dL_keeps_16 : decode cL_keeps 16 = .ok (.aload_n 3, 1) := by decide +kernel
theorem dL_keeps_17 : decode cL_keeps 17 = .ok (.aload 4, 2) := by decide +kernel
theorem dL_keeps_19 : decode cL_keeps 19 = .ok (.aload 13, 2) := by decide +kernel
theorem dL_keeps_21 : decode cL_keeps 21 = .ok (.invokestatic 141, 3) := by decide +kernel
theorem dL_keeps_24 : decode cL_keeps 24 = .ok (.ireturn, 1) := by decide +kernel
theorem dL_keeps_25 : decode cL_keeps 25 = .ok (.aload 5, 2) := by decide +kernel
theorem dL_keeps_27 : decode cL_keeps 27 = .ok (.invokestatic 145, 3) := by decide +kernel
theorem dL_keeps_30 : decode cL_keeps 30 = .ok (.istore 14, 2) := by decide +kernel
theorem dL_keeps_32 : decode cL_keeps 32 = .ok (.iload_n 2, 1) := by decide +kernel
theorem dL_keeps_33 : decode cL_keeps 33 = .ok (.aload 13, 2) := by decide +kernel
theorem dL_keeps_35 : decode cL_keeps 35 = .ok (.iconst 0, 1) := by decide +kernel
theorem dL_keeps_36 : decode cL_keeps 36 = .ok (.iaload, 1) := by decide +kernel
theorem dL_keeps_37 : decode cL_keeps 37 = .ok (.invokestatic 129, 3) := by decide +kernel
theorem dL_keeps_40 : decode cL_keeps 40 = .ok (.istore 15, 2) := by decide +kernel
theorem dL_keeps_42 : decode cL_keeps 42 = .ok (.iload_n 2, 1) := by decide +kernel
theorem dL_keeps_43 : decode cL_keeps 43 = .ok (.iconst 3, 1) := by decide +kernel
theorem dL_keeps_44 : decode cL_keeps 44 = .ok (.ishr, 1) := by decide +kernel
theorem dL_keeps_45 : decode cL_keeps 45 = .ok (.iconst 5, 1) := by decide +kernel
theorem dL_keeps_46 : decode cL_keeps 46 = .ok (.invokestatic 129, 3) := by decide +kernel
theorem dL_keeps_49 : decode cL_keeps 49 = .ok (.istore 16, 2) := by decide +kernel
theorem dL_keeps_51 : decode cL_keeps 51 = .ok (.iconst 0, 1) := by decide +kernel
theorem dL_keeps_52 : decode cL_keeps 52 = .ok (.istore 17, 2) := by decide +kernel
theorem dL_keeps_54 : decode cL_keeps 54 = .ok (.iload 17, 2) := by decide +kernel
theorem dL_keeps_56 : decode cL_keeps 56 = .ok (.iconst 5, 1) := by decide +kernel
theorem dL_keeps_57 : decode cL_keeps 57 = .ok (.if_icmp .ge 25, 3) := by decide +kernel
theorem dL_keeps_60 : decode cL_keeps 60 = .ok (.aload 5, 2) := by decide +kernel
theorem dL_keeps_62 : decode cL_keeps 62 = .ok (.iload 16, 2) := by decide +kernel
theorem dL_keeps_64 : decode cL_keeps 64 = .ok (.iaload, 1) := by decide +kernel
theorem dL_keeps_65 : decode cL_keeps 65 = .ok (.ifCond .ne 17, 3) := by decide +kernel
theorem dL_keeps_68 : decode cL_keeps 68 = .ok (.iload 16, 2) := by decide +kernel
theorem dL_keeps_70 : decode cL_keeps 70 = .ok (.iconst 1, 1) := by decide +kernel
theorem dL_keeps_71 : decode cL_keeps 71 = .ok (.iadd, 1) := by decide +kernel
theorem dL_keeps_72 : decode cL_keeps 72 = .ok (.iconst 5, 1) := by decide +kernel
theorem dL_keeps_73 : decode cL_keeps 73 = .ok (.irem, 1) := by decide +kernel
theorem dL_keeps_74 : decode cL_keeps 74 = .ok (.istore 16, 2) := by decide +kernel
theorem dL_keeps_76 : decode cL_keeps 76 = .ok (.iinc 17 1, 3) := by decide +kernel
theorem dL_keeps_79 : decode cL_keeps 79 = .ok (.goto (-25), 3) := by decide +kernel
theorem dL_keeps_82 : decode cL_keeps 82 = .ok (.iload_n 1, 1) := by decide +kernel
theorem dL_keeps_83 : decode cL_keeps 83 = .ok (.bipush 6, 2) := by decide +kernel
theorem dL_keeps_85 : decode cL_keeps 85 = .ok (.if_icmp .eq 11, 3) := by decide +kernel
theorem dL_keeps_88 : decode cL_keeps 88 = .ok (.aload 5, 2) := by decide +kernel
theorem dL_keeps_90 : decode cL_keeps 90 = .ok (.iload 16, 2) := by decide +kernel
theorem dL_keeps_92 : decode cL_keeps 92 = .ok (.iaload, 1) := by decide +kernel
theorem dL_keeps_93 : decode cL_keeps 93 = .ok (.ifCond .ne 69, 3) := by decide +kernel
theorem dL_keeps_96 : decode cL_keeps 96 = .ok (.iload 14, 2) := by decide +kernel
theorem dL_keeps_98 : decode cL_keeps 98 = .ok (.ifCond .ge 19, 3) := by decide +kernel
theorem dL_keeps_101 : decode cL_keeps 101 = .ok (.aload_n 0, 1) := by decide +kernel
theorem dL_keeps_102 : decode cL_keeps 102 = .ok (.iconst (-1), 1) := by decide +kernel
theorem dL_keeps_103 : decode cL_keeps 103 = .ok (.invokestatic 149, 3) := by decide +kernel
theorem dL_keeps_106 : decode cL_keeps 106 = .ok (.bipush (-71), 2) := by decide +kernel
theorem dL_keeps_108 : decode cL_keeps 108 = .ok (.if_icmp .ne 7, 3) := by decide +kernel
theorem dL_keeps_111 : decode cL_keeps 111 = .ok (.iconst 1, 1) := by decide +kernel
theorem dL_keeps_112 : decode cL_keeps 112 = .ok (.goto 4, 3) := by decide +kernel
theorem dL_keeps_115 : decode cL_keeps 115 = .ok (.iconst 0, 1) := by decide +kernel
theorem dL_keeps_116 : decode cL_keeps 116 = .ok (.ireturn, 1) := by decide +kernel
theorem dL_keeps_117 : decode cL_keeps 117 = .ok (.aload 5, 2) := by decide +kernel
theorem dL_keeps_119 : decode cL_keeps 119 = .ok (.iload 14, 2) := by decide +kernel
theorem dL_keeps_121 : decode cL_keeps 121 = .ok (.iload 15, 2) := by decide +kernel
theorem dL_keeps_123 : decode cL_keeps 123 = .ok (.iconst 1, 1) := by decide +kernel
theorem dL_keeps_124 : decode cL_keeps 124 = .ok (.iadd, 1) := by decide +kernel
theorem dL_keeps_125 : decode cL_keeps 125 = .ok (.iastore, 1) := by decide +kernel
theorem dL_keeps_126 : decode cL_keeps 126 = .ok (.aload 6, 2) := by decide +kernel
theorem dL_keeps_128 : decode cL_keeps 128 = .ok (.iload 14, 2) := by decide +kernel
theorem dL_keeps_130 : decode cL_keeps 130 = .ok (.iconst 0, 1) := by decide +kernel
theorem dL_keeps_131 : decode cL_keeps 131 = .ok (.iastore, 1) := by decide +kernel
theorem dL_keeps_132 : decode cL_keeps 132 = .ok (.aload_n 0, 1) := by decide +kernel
theorem dL_keeps_133 : decode cL_keeps 133 = .ok (.aload 13, 2) := by decide +kernel
theorem dL_keeps_135 : decode cL_keeps 135 = .ok (.iconst 0, 1) := by decide +kernel
theorem dL_keeps_136 : decode cL_keeps 136 = .ok (.iaload, 1) := by decide +kernel
theorem dL_keeps_137 : decode cL_keeps 137 = .ok (.invokestatic 149, 3) := by decide +kernel
theorem dL_keeps_140 : decode cL_keeps 140 = .ok (.bipush (-71), 2) := by decide +kernel
theorem dL_keeps_142 : decode cL_keeps 142 = .ok (.if_icmp .ne 18, 3) := by decide +kernel
theorem dL_keeps_145 : decode cL_keeps 145 = .ok (.aload_n 0, 1) := by decide +kernel
theorem dL_keeps_146 : decode cL_keeps 146 = .ok (.iload 15, 2) := by decide +kernel
theorem dL_keeps_148 : decode cL_keeps 148 = .ok (.invokestatic 149, 3) := by decide +kernel
theorem dL_keeps_151 : decode cL_keeps 151 = .ok (.iload 14, 2) := by decide +kernel
theorem dL_keeps_153 : decode cL_keeps 153 = .ok (.if_icmp .ne 7, 3) := by decide +kernel
theorem dL_keeps_156 : decode cL_keeps 156 = .ok (.iconst 1, 1) := by decide +kernel
theorem dL_keeps_157 : decode cL_keeps 157 = .ok (.goto 4, 3) := by decide +kernel
theorem dL_keeps_160 : decode cL_keeps 160 = .ok (.iconst 0, 1) := by decide +kernel
theorem dL_keeps_161 : decode cL_keeps 161 = .ok (.ireturn, 1) := by decide +kernel
theorem dL_keeps_162 : decode cL_keeps 162 = .ok (.iload_n 2, 1) := by decide +kernel
theorem dL_keeps_163 : decode cL_keeps 163 = .ok (.bipush 7, 2) := by decide +kernel
theorem dL_keeps_165 : decode cL_keeps 165 = .ok (.ishr, 1) := by decide +kernel
theorem dL_keeps_166 : decode cL_keeps 166 = .ok (.bipush 6, 2) := by decide +kernel
theorem dL_keeps_168 : decode cL_keeps 168 = .ok (.invokestatic 129, 3) := by decide +kernel
theorem dL_keeps_171 : decode cL_keeps 171 = .ok (.invokestatic 64, 3) := by decide +kernel
theorem dL_keeps_174 : decode cL_keeps 174 = .ok (.istore 17, 2) := by decide +kernel
theorem dL_keeps_176 : decode cL_keeps 176 = .ok (.aload_n 3, 1) := by decide +kernel
theorem dL_keeps_177 : decode cL_keeps 177 = .ok (.aload 5, 2) := by decide +kernel
theorem dL_keeps_179 : decode cL_keeps 179 = .ok (.iload 16, 2) := by decide +kernel
theorem dL_keeps_181 : decode cL_keeps 181 = .ok (.iaload, 1) := by decide +kernel
theorem dL_keeps_182 : decode cL_keeps 182 = .ok (.iconst 1, 1) := by decide +kernel
theorem dL_keeps_183 : decode cL_keeps 183 = .ok (.isub, 1) := by decide +kernel
theorem dL_keeps_184 : decode cL_keeps 184 = .ok (.iload 17, 2) := by decide +kernel
theorem dL_keeps_186 : decode cL_keeps 186 = .ok (.invokestatic 69, 3) := by decide +kernel
theorem dL_keeps_189 : decode cL_keeps 189 = .ok (.istore 18, 2) := by decide +kernel
theorem dL_keeps_191 : decode cL_keeps 191 = .ok (.aload_n 3, 1) := by decide +kernel
theorem dL_keeps_192 : decode cL_keeps 192 = .ok (.aload 5, 2) := by decide +kernel
theorem dL_keeps_194 : decode cL_keeps 194 = .ok (.aload 6, 2) := by decide +kernel
theorem dL_keeps_196 : decode cL_keeps 196 = .ok (.aload 7, 2) := by decide +kernel
theorem dL_keeps_198 : decode cL_keeps 198 = .ok (.iload 16, 2) := by decide +kernel
theorem dL_keeps_200 : decode cL_keeps 200 = .ok (.iload 17, 2) := by decide +kernel
theorem dL_keeps_202 : decode cL_keeps 202 = .ok (.invokestatic 86, 3) := by decide +kernel
theorem dL_keeps_205 : decode cL_keeps 205 = .ok (.istore 19, 2) := by decide +kernel
theorem dL_keeps_207 : decode cL_keeps 207 = .ok (.iload_n 2, 1) := by decide +kernel
theorem dL_keeps_208 : decode cL_keeps 208 = .ok (.bipush 12, 2) := by decide +kernel
theorem dL_keeps_210 : decode cL_keeps 210 = .ok (.ishr, 1) := by decide +kernel
theorem dL_keeps_211 : decode cL_keeps 211 = .ok (.iconst 5, 1) := by decide +kernel
theorem dL_keeps_212 : decode cL_keeps 212 = .ok (.invokestatic 129, 3) := by decide +kernel
theorem dL_keeps_215 : decode cL_keeps 215 = .ok (.istore 20, 2) := by decide +kernel
theorem dL_keeps_217 : decode cL_keeps 217 = .ok (.iconst 0, 1) := by decide +kernel
theorem dL_keeps_218 : decode cL_keeps 218 = .ok (.istore 21, 2) := by decide +kernel
theorem dL_keeps_220 : decode cL_keeps 220 = .ok (.iload 21, 2) := by decide +kernel
theorem dL_keeps_222 : decode cL_keeps 222 = .ok (.iconst 5, 1) := by decide +kernel
theorem dL_keeps_223 : decode cL_keeps 223 = .ok (.if_icmp .ge 25, 3) := by decide +kernel
theorem dL_keeps_226 : decode cL_keeps 226 = .ok (.aload 5, 2) := by decide +kernel
theorem dL_keeps_228 : decode cL_keeps 228 = .ok (.iload 20, 2) := by decide +kernel
theorem dL_keeps_230 : decode cL_keeps 230 = .ok (.iaload, 1) := by decide +kernel
theorem dL_keeps_231 : decode cL_keeps 231 = .ok (.ifCond .ne 17, 3) := by decide +kernel
theorem dL_keeps_234 : decode cL_keeps 234 = .ok (.iload 20, 2) := by decide +kernel
theorem dL_keeps_236 : decode cL_keeps 236 = .ok (.iconst 1, 1) := by decide +kernel
theorem dL_keeps_237 : decode cL_keeps 237 = .ok (.iadd, 1) := by decide +kernel
theorem dL_keeps_238 : decode cL_keeps 238 = .ok (.iconst 5, 1) := by decide +kernel
theorem dL_keeps_239 : decode cL_keeps 239 = .ok (.irem, 1) := by decide +kernel
theorem dL_keeps_240 : decode cL_keeps 240 = .ok (.istore 20, 2) := by decide +kernel
theorem dL_keeps_242 : decode cL_keeps 242 = .ok (.iinc 21 1, 3) := by decide +kernel
theorem dL_keeps_245 : decode cL_keeps 245 = .ok (.goto (-25), 3) := by decide +kernel
theorem dL_keeps_248 : decode cL_keeps 248 = .ok (.iload_n 1, 1) := by decide +kernel
theorem dL_keeps_249 : decode cL_keeps 249 = .ok (.tableswitch 1801 7 22 #[79, 245, 324, 324, 324, 324, 324, 621, 621, 621, 950, 1286, 1386, 1485, 1485, 1691], 79) := by decide +kernel
theorem dL_keeps_328 : decode cL_keeps 328 = .ok (.iload 14, 2) := by decide +kernel
theorem dL_keeps_330 : decode cL_keeps 330 = .ok (.ifCond .ge 19, 3) := by decide +kernel
theorem dL_keeps_333 : decode cL_keeps 333 = .ok (.aload_n 0, 1) := by decide +kernel
theorem dL_keeps_334 : decode cL_keeps 334 = .ok (.iconst 5, 1) := by decide +kernel
theorem dL_keeps_335 : decode cL_keeps 335 = .ok (.invokestatic 152, 3) := by decide +kernel
theorem dL_keeps_338 : decode cL_keeps 338 = .ok (.bipush (-71), 2) := by decide +kernel
theorem dL_keeps_340 : decode cL_keeps 340 = .ok (.if_icmp .ne 7, 3) := by decide +kernel
theorem dL_keeps_343 : decode cL_keeps 343 = .ok (.iconst 1, 1) := by decide +kernel
theorem dL_keeps_344 : decode cL_keeps 344 = .ok (.goto 4, 3) := by decide +kernel
theorem dL_keeps_347 : decode cL_keeps 347 = .ok (.iconst 0, 1) := by decide +kernel
theorem dL_keeps_348 : decode cL_keeps 348 = .ok (.ireturn, 1) := by decide +kernel
theorem dL_keeps_349 : decode cL_keeps 349 = .ok (.aload 5, 2) := by decide +kernel
theorem dL_keeps_351 : decode cL_keeps 351 = .ok (.iload 14, 2) := by decide +kernel
theorem dL_keeps_353 : decode cL_keeps 353 = .ok (.iload 15, 2) := by decide +kernel
theorem dL_keeps_355 : decode cL_keeps 355 = .ok (.iconst 1, 1) := by decide +kernel
theorem dL_keeps_356 : decode cL_keeps 356 = .ok (.iadd, 1) := by decide +kernel
theorem dL_keeps_357 : decode cL_keeps 357 = .ok (.iastore, 1) := by decide +kernel
theorem dL_keeps_358 : decode cL_keeps 358 = .ok (.aload 6, 2) := by decide +kernel
theorem dL_keeps_360 : decode cL_keeps 360 = .ok (.iload 14, 2) := by decide +kernel
theorem dL_keeps_362 : decode cL_keeps 362 = .ok (.aload 6, 2) := by decide +kernel
theorem dL_keeps_364 : decode cL_keeps 364 = .ok (.iload 16, 2) := by decide +kernel
theorem dL_keeps_366 : decode cL_keeps 366 = .ok (.iaload, 1) := by decide +kernel
theorem dL_keeps_367 : decode cL_keeps 367 = .ok (.iastore, 1) := by decide +kernel
theorem dL_keeps_368 : decode cL_keeps 368 = .ok (.iconst 0, 1) := by decide +kernel
theorem dL_keeps_369 : decode cL_keeps 369 = .ok (.istore 21, 2) := by decide +kernel
theorem dL_keeps_371 : decode cL_keeps 371 = .ok (.iload 21, 2) := by decide +kernel
theorem dL_keeps_373 : decode cL_keeps 373 = .ok (.aload 6, 2) := by decide +kernel
theorem dL_keeps_375 : decode cL_keeps 375 = .ok (.iload 16, 2) := by decide +kernel
theorem dL_keeps_377 : decode cL_keeps 377 = .ok (.iaload, 1) := by decide +kernel
theorem dL_keeps_378 : decode cL_keeps 378 = .ok (.if_icmp .ge 97, 3) := by decide +kernel
theorem dL_keeps_381 : decode cL_keeps 381 = .ok (.aload 7, 2) := by decide +kernel
theorem dL_keeps_383 : decode cL_keeps 383 = .ok (.bipush 12, 2) := by decide +kernel
theorem dL_keeps_385 : decode cL_keeps 385 = .ok (.iload 14, 2) := by decide +kernel
theorem dL_keeps_387 : decode cL_keeps 387 = .ok (.imul, 1) := by decide +kernel
theorem dL_keeps_388 : decode cL_keeps 388 = .ok (.iload 21, 2) := by decide +kernel
theorem dL_keeps_390 : decode cL_keeps 390 = .ok (.iadd, 1) := by decide +kernel
theorem dL_keeps_391 : decode cL_keeps 391 = .ok (.aload 7, 2) := by decide +kernel
theorem dL_keeps_393 : decode cL_keeps 393 = .ok (.bipush 12, 2) := by decide +kernel
theorem dL_keeps_395 : decode cL_keeps 395 = .ok (.iload 16, 2) := by decide +kernel
theorem dL_keeps_397 : decode cL_keeps 397 = .ok (.imul, 1) := by decide +kernel
theorem dL_keeps_398 : decode cL_keeps 398 = .ok (.iload 21, 2) := by decide +kernel
theorem dL_keeps_400 : decode cL_keeps 400 = .ok (.iadd, 1) := by decide +kernel
theorem dL_keeps_401 : decode cL_keeps 401 = .ok (.iaload, 1) := by decide +kernel
theorem dL_keeps_402 : decode cL_keeps 402 = .ok (.iastore, 1) := by decide +kernel
theorem dL_keeps_403 : decode cL_keeps 403 = .ok (.aload 8, 2) := by decide +kernel
theorem dL_keeps_405 : decode cL_keeps 405 = .ok (.bipush 12, 2) := by decide +kernel
theorem dL_keeps_407 : decode cL_keeps 407 = .ok (.iload 14, 2) := by decide +kernel
theorem dL_keeps_409 : decode cL_keeps 409 = .ok (.imul, 1) := by decide +kernel
theorem dL_keeps_410 : decode cL_keeps 410 = .ok (.iload 21, 2) := by decide +kernel
theorem dL_keeps_412 : decode cL_keeps 412 = .ok (.iadd, 1) := by decide +kernel
theorem dL_keeps_413 : decode cL_keeps 413 = .ok (.aload 8, 2) := by decide +kernel
theorem dL_keeps_415 : decode cL_keeps 415 = .ok (.bipush 12, 2) := by decide +kernel
theorem dL_keeps_417 : decode cL_keeps 417 = .ok (.iload 16, 2) := by decide +kernel
theorem dL_keeps_419 : decode cL_keeps 419 = .ok (.imul, 1) := by decide +kernel
theorem dL_keeps_420 : decode cL_keeps 420 = .ok (.iload 21, 2) := by decide +kernel
theorem dL_keeps_422 : decode cL_keeps 422 = .ok (.iadd, 1) := by decide +kernel
theorem dL_keeps_423 : decode cL_keeps 423 = .ok (.iaload, 1) := by decide +kernel
theorem dL_keeps_424 : decode cL_keeps 424 = .ok (.iastore, 1) := by decide +kernel
theorem dL_keeps_425 : decode cL_keeps 425 = .ok (.aload 9, 2) := by decide +kernel
theorem dL_keeps_427 : decode cL_keeps 427 = .ok (.bipush 12, 2) := by decide +kernel
theorem dL_keeps_429 : decode cL_keeps 429 = .ok (.iload 14, 2) := by decide +kernel
theorem dL_keeps_431 : decode cL_keeps 431 = .ok (.imul, 1) := by decide +kernel
theorem dL_keeps_432 : decode cL_keeps 432 = .ok (.iload 21, 2) := by decide +kernel
theorem dL_keeps_434 : decode cL_keeps 434 = .ok (.iadd, 1) := by decide +kernel
theorem dL_keeps_435 : decode cL_keeps 435 = .ok (.aload 9, 2) := by decide +kernel
theorem dL_keeps_437 : decode cL_keeps 437 = .ok (.bipush 12, 2) := by decide +kernel
theorem dL_keeps_439 : decode cL_keeps 439 = .ok (.iload 16, 2) := by decide +kernel
theorem dL_keeps_441 : decode cL_keeps 441 = .ok (.imul, 1) := by decide +kernel
theorem dL_keeps_442 : decode cL_keeps 442 = .ok (.iload 21, 2) := by decide +kernel
theorem dL_keeps_444 : decode cL_keeps 444 = .ok (.iadd, 1) := by decide +kernel
theorem dL_keeps_445 : decode cL_keeps 445 = .ok (.laload, 1) := by decide +kernel
theorem dL_keeps_446 : decode cL_keeps 446 = .ok (.lastore, 1) := by decide +kernel
theorem dL_keeps_447 : decode cL_keeps 447 = .ok (.aload 10, 2) := by decide +kernel
theorem dL_keeps_449 : decode cL_keeps 449 = .ok (.bipush 12, 2) := by decide +kernel
theorem dL_keeps_451 : decode cL_keeps 451 = .ok (.iload 14, 2) := by decide +kernel
theorem dL_keeps_453 : decode cL_keeps 453 = .ok (.imul, 1) := by decide +kernel
theorem dL_keeps_454 : decode cL_keeps 454 = .ok (.iload 21, 2) := by decide +kernel
theorem dL_keeps_456 : decode cL_keeps 456 = .ok (.iadd, 1) := by decide +kernel
theorem dL_keeps_457 : decode cL_keeps 457 = .ok (.aload 10, 2) := by decide +kernel
theorem dL_keeps_459 : decode cL_keeps 459 = .ok (.bipush 12, 2) := by decide +kernel
theorem dL_keeps_461 : decode cL_keeps 461 = .ok (.iload 16, 2) := by decide +kernel
theorem dL_keeps_463 : decode cL_keeps 463 = .ok (.imul, 1) := by decide +kernel
theorem dL_keeps_464 : decode cL_keeps 464 = .ok (.iload 21, 2) := by decide +kernel
theorem dL_keeps_466 : decode cL_keeps 466 = .ok (.iadd, 1) := by decide +kernel
theorem dL_keeps_467 : decode cL_keeps 467 = .ok (.laload, 1) := by decide +kernel
theorem dL_keeps_468 : decode cL_keeps 468 = .ok (.lastore, 1) := by decide +kernel
theorem dL_keeps_469 : decode cL_keeps 469 = .ok (.iinc 21 1, 3) := by decide +kernel
theorem dL_keeps_472 : decode cL_keeps 472 = .ok (.goto (-101), 3) := by decide +kernel
theorem dL_keeps_475 : decode cL_keeps 475 = .ok (.aload_n 0, 1) := by decide +kernel
theorem dL_keeps_476 : decode cL_keeps 476 = .ok (.iload 16, 2) := by decide +kernel
theorem dL_keeps_478 : decode cL_keeps 478 = .ok (.iload 15, 2) := by decide +kernel
theorem dL_keeps_480 : decode cL_keeps 480 = .ok (.invokevirtual 154, 3) := by decide +kernel
theorem dL_keeps_483 : decode cL_keeps 483 = .ok (.iload 14, 2) := by decide +kernel
theorem dL_keeps_485 : decode cL_keeps 485 = .ok (.if_icmp .ne 7, 3) := by decide +kernel
theorem dL_keeps_488 : decode cL_keeps 488 = .ok (.iconst 1, 1) := by decide +kernel
theorem dL_keeps_489 : decode cL_keeps 489 = .ok (.goto 4, 3) := by decide +kernel
theorem dL_keeps_492 : decode cL_keeps 492 = .ok (.iconst 0, 1) := by decide +kernel
theorem dL_keeps_493 : decode cL_keeps 493 = .ok (.ireturn, 1) := by decide +kernel
theorem dL_keeps_494 : decode cL_keeps 494 = .ok (.iload_n 2, 1) := by decide +kernel
theorem dL_keeps_495 : decode cL_keeps 495 = .ok (.sipush 12288, 3) := by decide +kernel
theorem dL_keeps_498 : decode cL_keeps 498 = .ok (.iand, 1) := by decide +kernel
theorem dL_keeps_499 : decode cL_keeps 499 = .ok (.ifCond .le 24, 3) := by decide +kernel
theorem dL_keeps_502 : decode cL_keeps 502 = .ok (.iload 14, 2) := by decide +kernel
theorem dL_keeps_504 : decode cL_keeps 504 = .ok (.ifCond .lt 19, 3) := by decide +kernel
theorem dL_keeps_507 : decode cL_keeps 507 = .ok (.aload_n 0, 1) := by decide +kernel
theorem dL_keeps_508 : decode cL_keeps 508 = .ok (.iconst (-1), 1) := by decide +kernel
theorem dL_keeps_509 : decode cL_keeps 509 = .ok (.invokestatic 152, 3) := by decide +kernel
theorem dL_keeps_512 : decode cL_keeps 512 = .ok (.bipush (-71), 2) := by decide +kernel
theorem dL_keeps_514 : decode cL_keeps 514 = .ok (.if_icmp .ne 7, 3) := by decide +kernel
theorem dL_keeps_517 : decode cL_keeps 517 = .ok (.iconst 1, 1) := by decide +kernel
theorem dL_keeps_518 : decode cL_keeps 518 = .ok (.goto 4, 3) := by decide +kernel
theorem dL_keeps_521 : decode cL_keeps 521 = .ok (.iconst 0, 1) := by decide +kernel
theorem dL_keeps_522 : decode cL_keeps 522 = .ok (.ireturn, 1) := by decide +kernel
theorem dL_keeps_523 : decode cL_keeps 523 = .ok (.aload 5, 2) := by decide +kernel
theorem dL_keeps_525 : decode cL_keeps 525 = .ok (.iload 16, 2) := by decide +kernel
theorem dL_keeps_527 : decode cL_keeps 527 = .ok (.iconst 0, 1) := by decide +kernel
theorem dL_keeps_528 : decode cL_keeps 528 = .ok (.iastore, 1) := by decide +kernel
theorem dL_keeps_529 : decode cL_keeps 529 = .ok (.aload_n 0, 1) := by decide +kernel
theorem dL_keeps_530 : decode cL_keeps 530 = .ok (.iload 16, 2) := by decide +kernel
theorem dL_keeps_532 : decode cL_keeps 532 = .ok (.invokevirtual 157, 3) := by decide +kernel
theorem dL_keeps_535 : decode cL_keeps 535 = .ok (.aload 6, 2) := by decide +kernel
theorem dL_keeps_537 : decode cL_keeps 537 = .ok (.iload 16, 2) := by decide +kernel
theorem dL_keeps_539 : decode cL_keeps 539 = .ok (.iaload, 1) := by decide +kernel
theorem dL_keeps_540 : decode cL_keeps 540 = .ok (.if_icmp .ne 31, 3) := by decide +kernel
theorem dL_keeps_543 : decode cL_keeps 543 = .ok (.aload_n 0, 1) := by decide +kernel
theorem dL_keeps_544 : decode cL_keeps 544 = .ok (.iload 16, 2) := by decide +kernel
theorem dL_keeps_546 : decode cL_keeps 546 = .ok (.invokestatic 152, 3) := by decide +kernel
theorem dL_keeps_549 : decode cL_keeps 549 = .ok (.bipush (-71), 2) := by decide +kernel
theorem dL_keeps_551 : decode cL_keeps 551 = .ok (.if_icmp .ne 20, 3) := by decide +kernel
theorem dL_keeps_554 : decode cL_keeps 554 = .ok (.aload_n 0, 1) := by decide +kernel
theorem dL_keeps_555 : decode cL_keeps 555 = .ok (.iload 16, 2) := by decide +kernel
theorem dL_keeps_557 : decode cL_keeps 557 = .ok (.iconst 1, 1) := by decide +kernel
theorem dL_keeps_558 : decode cL_keeps 558 = .ok (.iconst 1, 1) := by decide +kernel
theorem dL_keeps_559 : decode cL_keeps 559 = .ok (.invokestatic 160, 3) := by decide +kernel
theorem dL_keeps_562 : decode cL_keeps 562 = .ok (.bipush (-71), 2) := by decide +kernel
theorem dL_keeps_564 : decode cL_keeps 564 = .ok (.if_icmp .ne 7, 3) := by decide +kernel
theorem dL_keeps_567 : decode cL_keeps 567 = .ok (.iconst 1, 1) := by decide +kernel
theorem dL_keeps_568 : decode cL_keeps 568 = .ok (.goto 4, 3) := by decide +kernel
theorem dL_keeps_571 : decode cL_keeps 571 = .ok (.iconst 0, 1) := by decide +kernel
theorem dL_keeps_572 : decode cL_keeps 572 = .ok (.ireturn, 1) := by decide +kernel
theorem dL_keeps_573 : decode cL_keeps 573 = .ok (.iload_n 2, 1) := by decide +kernel
theorem dL_keeps_574 : decode cL_keeps 574 = .ok (.ldc 162, 2) := by decide +kernel
theorem dL_keeps_576 : decode cL_keeps 576 = .ok (.iand, 1) := by decide +kernel
theorem dL_keeps_577 : decode cL_keeps 577 = .ok (.ifCond .ne 9, 3) := by decide +kernel
theorem dL_keeps_580 : decode cL_keeps 580 = .ok (.iload_n 2, 1) := by decide +kernel
theorem dL_keeps_581 : decode cL_keeps 581 = .ok (.iconst 3, 1) := by decide +kernel
theorem dL_keeps_582 : decode cL_keeps 582 = .ok (.ishr, 1) := by decide +kernel
theorem dL_keeps_583 : decode cL_keeps 583 = .ok (.goto 16, 3) := by decide +kernel
theorem dL_keeps_586 : decode cL_keeps 586 = .ok (.iload_n 2, 1) := by decide +kernel
theorem dL_keeps_587 : decode cL_keeps 587 = .ok (.bipush 16, 2) := by decide +kernel
theorem dL_keeps_589 : decode cL_keeps 589 = .ok (.ishr, 1) := by decide +kernel
theorem dL_keeps_590 : decode cL_keeps 590 = .ok (.sipush 200, 3) := by decide +kernel
theorem dL_keeps_593 : decode cL_keeps 593 = .ok (.invokestatic 129, 3) := by decide +kernel
theorem dL_keeps_596 : decode cL_keeps 596 = .ok (.bipush 60, 2) := by decide +kernel
theorem dL_keeps_598 : decode cL_keeps 598 = .ok (.isub, 1) := by decide +kernel
theorem dL_keeps_599 : decode cL_keeps 599 = .ok (.istore 21, 2) := by decide +kernel
theorem dL_keeps_601 : decode cL_keeps 601 = .ok (.iload 18, 2) := by decide +kernel
theorem dL_keeps_603 : decode cL_keeps 603 = .ok (.ifCond .lt 9, 3) := by decide +kernel
theorem dL_keeps_606 : decode cL_keeps 606 = .ok (.iload 18, 2) := by decide +kernel
theorem dL_keeps_608 : decode cL_keeps 608 = .ok (.iconst 2, 1) := by decide +kernel
theorem dL_keeps_609 : decode cL_keeps 609 = .ok (.if_icmp .le 35, 3) := by decide +kernel
theorem dL_keeps_612 : decode cL_keeps 612 = .ok (.aload_n 0, 1) := by decide +kernel
theorem dL_keeps_613 : decode cL_keeps 613 = .ok (.iload 16, 2) := by decide +kernel
theorem dL_keeps_615 : decode cL_keeps 615 = .ok (.iload 17, 2) := by decide +kernel
theorem dL_keeps_617 : decode cL_keeps 617 = .ok (.iload 21, 2) := by decide +kernel
theorem dL_keeps_619 : decode cL_keeps 619 = .ok (.invokestatic 160, 3) := by decide +kernel
theorem dL_keeps_622 : decode cL_keeps 622 = .ok (.bipush (-72), 2) := by decide +kernel
theorem dL_keeps_624 : decode cL_keeps 624 = .ok (.if_icmp .ne 18, 3) := by decide +kernel
theorem dL_keeps_627 : decode cL_keeps 627 = .ok (.aload_n 0, 1) := by decide +kernel
theorem dL_keeps_628 : decode cL_keeps 628 = .ok (.iload 16, 2) := by decide +kernel
theorem dL_keeps_630 : decode cL_keeps 630 = .ok (.iload 17, 2) := by decide +kernel
theorem dL_keeps_632 : decode cL_keeps 632 = .ok (.invokestatic 163, 3) := by decide +kernel
theorem dL_keeps_635 : decode cL_keeps 635 = .ok (.ifCond .eq 7, 3) := by decide +kernel
theorem dL_keeps_638 : decode cL_keeps 638 = .ok (.iconst 1, 1) := by decide +kernel
theorem dL_keeps_639 : decode cL_keeps 639 = .ok (.goto 4, 3) := by decide +kernel
theorem dL_keeps_642 : decode cL_keeps 642 = .ok (.iconst 0, 1) := by decide +kernel
theorem dL_keeps_643 : decode cL_keeps 643 = .ok (.ireturn, 1) := by decide +kernel
theorem dL_keeps_644 : decode cL_keeps 644 = .ok (.iload 18, 2) := by decide +kernel
theorem dL_keeps_646 : decode cL_keeps 646 = .ok (.iconst 1, 1) := by decide +kernel
theorem dL_keeps_647 : decode cL_keeps 647 = .ok (.if_icmp .ne 26, 3) := by decide +kernel
theorem dL_keeps_650 : decode cL_keeps 650 = .ok (.iload 21, 2) := by decide +kernel
theorem dL_keeps_652 : decode cL_keeps 652 = .ok (.ifCond .ge 14, 3) := by decide +kernel
theorem dL_keeps_655 : decode cL_keeps 655 = .ok (.iconst 2, 1) := by decide +kernel
theorem dL_keeps_656 : decode cL_keeps 656 = .ok (.iload 21, 2) := by decide +kernel
theorem dL_keeps_658 : decode cL_keeps 658 = .ok (.iconst (-1), 1) := by decide +kernel
theorem dL_keeps_659 : decode cL_keeps 659 = .ok (.ixor, 1) := by decide +kernel
theorem dL_keeps_660 : decode cL_keeps 660 = .ok (.imul, 1) := by decide +kernel
theorem dL_keeps_661 : decode cL_keeps 661 = .ok (.iconst 1, 1) := by decide +kernel
theorem dL_keeps_662 : decode cL_keeps 662 = .ok (.iadd, 1) := by decide +kernel
theorem dL_keeps_663 : decode cL_keeps 663 = .ok (.goto 12, 3) := by decide +kernel
theorem dL_keeps_666 : decode cL_keeps 666 = .ok (.iconst 2, 1) := by decide +kernel
theorem dL_keeps_667 : decode cL_keeps 667 = .ok (.iload 21, 2) := by decide +kernel
theorem dL_keeps_669 : decode cL_keeps 669 = .ok (.imul, 1) := by decide +kernel
theorem dL_keeps_670 : decode cL_keeps 670 = .ok (.goto 5, 3) := by decide +kernel
theorem dL_keeps_673 : decode cL_keeps 673 = .ok (.iload 21, 2) := by decide +kernel
theorem dL_keeps_675 : decode cL_keeps 675 = .ok (.istore 22, 2) := by decide +kernel
theorem dL_keeps_677 : decode cL_keeps 677 = .ok (.bipush 8, 2) := by decide +kernel
theorem dL_keeps_679 : decode cL_keeps 679 = .ok (.iload 17, 2) := by decide +kernel
theorem dL_keeps_681 : decode cL_keeps 681 = .ok (.imul, 1) := by decide +kernel
theorem dL_keeps_682 : decode cL_keeps 682 = .ok (.iload 18, 2) := by decide +kernel
theorem dL_keeps_684 : decode cL_keeps 684 = .ok (.iconst 2, 1) := by decide +kernel
theorem dL_keeps_685 : decode cL_keeps 685 = .ok (.if_icmp .ne 7, 3) := by decide +kernel
theorem dL_keeps_688 : decode cL_keeps 688 = .ok (.iconst 5, 1) := by decide +kernel
theorem dL_keeps_689 : decode cL_keeps 689 = .ok (.goto 4, 3) := by decide +kernel
theorem dL_keeps_692 : decode cL_keeps 692 = .ok (.iconst 0, 1) := by decide +kernel
theorem dL_keeps_693 : decode cL_keeps 693 = .ok (.iadd, 1) := by decide +kernel
theorem dL_keeps_694 : decode cL_keeps 694 = .ok (.istore 23, 2) := by decide +kernel
theorem dL_keeps_696 : decode cL_keeps 696 = .ok (.aload_n 3, 1) := by decide +kernel
theorem dL_keeps_697 : decode cL_keeps 697 = .ok (.aload 5, 2) := by decide +kernel
theorem dL_keeps_699 : decode cL_keeps 699 = .ok (.aload 6, 2) := by decide +kernel
theorem dL_keeps_701 : decode cL_keeps 701 = .ok (.aload 7, 2) := by decide +kernel
theorem dL_keeps_703 : decode cL_keeps 703 = .ok (.aload 8, 2) := by decide +kernel
theorem dL_keeps_705 : decode cL_keeps 705 = .ok (.iload 16, 2) := by decide +kernel
theorem dL_keeps_707 : decode cL_keeps 707 = .ok (.iload 17, 2) := by decide +kernel
theorem dL_keeps_709 : decode cL_keeps 709 = .ok (.invokestatic 167, 3) := by decide +kernel
theorem dL_keeps_712 : decode cL_keeps 712 = .ok (.iload 23, 2) := by decide +kernel
theorem dL_keeps_714 : decode cL_keeps 714 = .ok (.invokestatic 73, 3) := by decide +kernel
theorem dL_keeps_717 : decode cL_keeps 717 = .ok (.iadd, 1) := by decide +kernel
theorem dL_keeps_718 : decode cL_keeps 718 = .ok (.iload 18, 2) := by decide +kernel
theorem dL_keeps_720 : decode cL_keeps 720 = .ok (.iconst 2, 1) := by decide +kernel
theorem dL_keeps_721 : decode cL_keeps 721 = .ok (.if_icmp .ne 7, 3) := by decide +kernel
theorem dL_keeps_724 : decode cL_keeps 724 = .ok (.iconst 4, 1) := by decide +kernel
theorem dL_keeps_725 : decode cL_keeps 725 = .ok (.goto 8, 3) := by decide +kernel
theorem dL_keeps_728 : decode cL_keeps 728 = .ok (.iload 22, 2) := by decide +kernel
theorem dL_keeps_730 : decode cL_keeps 730 = .ok (.invokestatic 73, 3) := by decide +kernel
theorem dL_keeps_733 : decode cL_keeps 733 = .ok (.iadd, 1) := by decide +kernel
theorem dL_keeps_734 : decode cL_keeps 734 = .ok (.istore 24, 2) := by decide +kernel
theorem dL_keeps_736 : decode cL_keeps 736 = .ok (.iload 24, 2) := by decide +kernel
theorem dL_keeps_738 : decode cL_keeps 738 = .ok (.bipush 120, 2) := by decide +kernel
theorem dL_keeps_740 : decode cL_keeps 740 = .ok (.if_icmp .le 24, 3) := by decide +kernel
theorem dL_keeps_743 : decode cL_keeps 743 = .ok (.aload_n 0, 1) := by decide +kernel
theorem dL_keeps_744 : decode cL_keeps 744 = .ok (.iload 16, 2) := by decide +kernel
theorem dL_keeps_746 : decode cL_keeps 746 = .ok (.iload 17, 2) := by decide +kernel
theorem dL_keeps_748 : decode cL_keeps 748 = .ok (.iload 21, 2) := by decide +kernel
theorem dL_keeps_750 : decode cL_keeps 750 = .ok (.invokestatic 160, 3) := by decide +kernel
theorem dL_keeps_753 : decode cL_keeps 753 = .ok (.bipush (-73), 2) := by decide +kernel
theorem dL_keeps_755 : decode cL_keeps 755 = .ok (.if_icmp .ne 7, 3) := by decide +kernel
theorem dL_keeps_758 : decode cL_keeps 758 = .ok (.iconst 1, 1) := by decide +kernel
theorem dL_keeps_759 : decode cL_keeps 759 = .ok (.goto 4, 3) := by decide +kernel
theorem dL_keeps_762 : decode cL_keeps 762 = .ok (.iconst 0, 1) := by decide +kernel
theorem dL_keeps_763 : decode cL_keeps 763 = .ok (.ireturn, 1) := by decide +kernel
theorem dL_keeps_764 : decode cL_keeps 764 = .ok (.aload_n 3, 1) := by decide +kernel
theorem dL_keeps_765 : decode cL_keeps 765 = .ok (.aload 5, 2) := by decide +kernel
theorem dL_keeps_767 : decode cL_keeps 767 = .ok (.aload 6, 2) := by decide +kernel
theorem dL_keeps_769 : decode cL_keeps 769 = .ok (.aload 7, 2) := by decide +kernel
theorem dL_keeps_771 : decode cL_keeps 771 = .ok (.iload 16, 2) := by decide +kernel
theorem dL_keeps_773 : decode cL_keeps 773 = .ok (.iload 17, 2) := by decide +kernel
theorem dL_keeps_775 : decode cL_keeps 775 = .ok (.invokestatic 171, 3) := by decide +kernel
theorem dL_keeps_778 : decode cL_keeps 778 = .ok (.bipush 12, 2) := by decide +kernel
theorem dL_keeps_780 : decode cL_keeps 780 = .ok (.if_icmp .ne 23, 3) := by decide +kernel
theorem dL_keeps_783 : decode cL_keeps 783 = .ok (.aload_n 0, 1) := by decide +kernel
theorem dL_keeps_784 : decode cL_keeps 784 = .ok (.iload 16, 2) := by decide +kernel
theorem dL_keeps_786 : decode cL_keeps 786 = .ok (.iconst 0, 1) := by decide +kernel
theorem dL_keeps_787 : decode cL_keeps 787 = .ok (.iload 21, 2) := by decide +kernel
theorem dL_keeps_789 : decode cL_keeps 789 = .ok (.invokestatic 160, 3) := by decide +kernel
theorem dL_keeps_792 : decode cL_keeps 792 = .ok (.bipush (-72), 2) := by decide +kernel
theorem dL_keeps_794 : decode cL_keeps 794 = .ok (.if_icmp .ne 7, 3) := by decide +kernel
theorem dL_keeps_797 : decode cL_keeps 797 = .ok (.iconst 1, 1) := by decide +kernel
theorem dL_keeps_798 : decode cL_keeps 798 = .ok (.goto 4, 3) := by decide +kernel
theorem dL_keeps_801 : decode cL_keeps 801 = .ok (.iconst 0, 1) := by decide +kernel
theorem dL_keeps_802 : decode cL_keeps 802 = .ok (.ireturn, 1) := by decide +kernel
theorem dL_keeps_803 : decode cL_keeps 803 = .ok (.aload_n 3, 1) := by decide +kernel
theorem dL_keeps_804 : decode cL_keeps 804 = .ok (.aload 5, 2) := by decide +kernel
theorem dL_keeps_806 : decode cL_keeps 806 = .ok (.aload 6, 2) := by decide +kernel
theorem dL_keeps_808 : decode cL_keeps 808 = .ok (.aload 7, 2) := by decide +kernel
theorem dL_keeps_810 : decode cL_keeps 810 = .ok (.aload 8, 2) := by decide +kernel
theorem dL_keeps_812 : decode cL_keeps 812 = .ok (.aload 9, 2) := by decide +kernel
theorem dL_keeps_814 : decode cL_keeps 814 = .ok (.aload 10, 2) := by decide +kernel
theorem dL_keeps_816 : decode cL_keeps 816 = .ok (.iload 16, 2) := by decide +kernel
theorem dL_keeps_818 : decode cL_keeps 818 = .ok (.iload 23, 2) := by decide +kernel
theorem dL_keeps_820 : decode cL_keeps 820 = .ok (.iload 22, 2) := by decide +kernel
theorem dL_keeps_822 : decode cL_keeps 822 = .ok (.lconst 0, 1) := by decide +kernel
theorem dL_keeps_823 : decode cL_keeps 823 = .ok (.lconst 0, 1) := by decide +kernel
theorem dL_keeps_824 : decode cL_keeps 824 = .ok (.invokestatic 174, 3) := by decide +kernel
theorem dL_keeps_827 : decode cL_keeps 827 = .ok (.aload_n 0, 1) := by decide +kernel
theorem dL_keeps_828 : decode cL_keeps 828 = .ok (.iload 16, 2) := by decide +kernel
theorem dL_keeps_830 : decode cL_keeps 830 = .ok (.iload 17, 2) := by decide +kernel
theorem dL_keeps_832 : decode cL_keeps 832 = .ok (.iload 21, 2) := by decide +kernel
theorem dL_keeps_834 : decode cL_keeps 834 = .ok (.invokestatic 160, 3) := by decide +kernel
theorem dL_keeps_837 : decode cL_keeps 837 = .ok (.ifCond .ne 31, 3) := by decide +kernel
theorem dL_keeps_840 : decode cL_keeps 840 = .ok (.aload_n 0, 1) := by decide +kernel
theorem dL_keeps_841 : decode cL_keeps 841 = .ok (.iload 16, 2) := by decide +kernel
theorem dL_keeps_843 : decode cL_keeps 843 = .ok (.iload 17, 2) := by decide +kernel
theorem dL_keeps_845 : decode cL_keeps 845 = .ok (.invokevirtual 52, 3) := by decide +kernel
theorem dL_keeps_848 : decode cL_keeps 848 = .ok (.iload 21, 2) := by decide +kernel
theorem dL_keeps_850 : decode cL_keeps 850 = .ok (.if_icmp .ne 18, 3) := by decide +kernel
theorem dL_keeps_853 : decode cL_keeps 853 = .ok (.aload_n 0, 1) := by decide +kernel
theorem dL_keeps_854 : decode cL_keeps 854 = .ok (.iload 16, 2) := by decide +kernel
theorem dL_keeps_856 : decode cL_keeps 856 = .ok (.invokevirtual 55, 3) := by decide +kernel
theorem dL_keeps_859 : decode cL_keeps 859 = .ok (.iload 24, 2) := by decide +kernel
theorem dL_keeps_861 : decode cL_keeps 861 = .ok (.if_icmp .ne 7, 3) := by decide +kernel
theorem dL_keeps_864 : decode cL_keeps 864 = .ok (.iconst 1, 1) := by decide +kernel
theorem dL_keeps_865 : decode cL_keeps 865 = .ok (.goto 4, 3) := by decide +kernel
theorem dL_keeps_868 : decode cL_keeps 868 = .ok (.iconst 0, 1) := by decide +kernel
theorem dL_keeps_869 : decode cL_keeps 869 = .ok (.ireturn, 1) := by decide +kernel
theorem dL_keeps_870 : decode cL_keeps 870 = .ok (.iload_n 2, 1) := by decide +kernel
theorem dL_keeps_871 : decode cL_keeps 871 = .ok (.ldc 162, 2) := by decide +kernel
theorem dL_keeps_873 : decode cL_keeps 873 = .ok (.iand, 1) := by decide +kernel
theorem dL_keeps_874 : decode cL_keeps 874 = .ok (.ifCond .ne 14, 3) := by decide +kernel
theorem dL_keeps_877 : decode cL_keeps 877 = .ok (.iload_n 2, 1) := by decide +kernel
theorem dL_keeps_878 : decode cL_keeps 878 = .ok (.bipush 16, 2) := by decide +kernel
theorem dL_keeps_880 : decode cL_keeps 880 = .ok (.ishr, 1) := by decide +kernel
theorem dL_keeps_881 : decode cL_keeps 881 = .ok (.sipush 255, 3) := by decide +kernel
theorem dL_keeps_884 : decode cL_keeps 884 = .ok (.iand, 1) := by decide +kernel
theorem dL_keeps_885 : decode cL_keeps 885 = .ok (.goto 12, 3) := by decide +kernel
theorem dL_keeps_888 : decode cL_keeps 888 = .ok (.iload_n 2, 1) := by decide +kernel
theorem dL_keeps_889 : decode cL_keeps 889 = .ok (.bipush 16, 2) := by decide +kernel
theorem dL_keeps_891 : decode cL_keeps 891 = .ok (.ishr, 1) := by decide +kernel
theorem dL_keeps_892 : decode cL_keeps 892 = .ok (.bipush 40, 2) := by decide +kernel
theorem dL_keeps_894 : decode cL_keeps 894 = .ok (.invokestatic 129, 3) := by decide +kernel
theorem dL_keeps_897 : decode cL_keeps 897 = .ok (.istore 25, 2) := by decide +kernel
theorem dL_keeps_899 : decode cL_keeps 899 = .ok (.iload 18, 2) := by decide +kernel
theorem dL_keeps_901 : decode cL_keeps 901 = .ok (.iconst 3, 1) := by decide +kernel
theorem dL_keeps_902 : decode cL_keeps 902 = .ok (.if_icmp .ge 39, 3) := by decide +kernel
theorem dL_keeps_905 : decode cL_keeps 905 = .ok (.aload_n 0, 1) := by decide +kernel
theorem dL_keeps_906 : decode cL_keeps 906 = .ok (.iload 16, 2) := by decide +kernel
theorem dL_keeps_908 : decode cL_keeps 908 = .ok (.iload 17, 2) := by decide +kernel
theorem dL_keeps_910 : decode cL_keeps 910 = .ok (.iload 25, 2) := by decide +kernel
theorem dL_keeps_912 : decode cL_keeps 912 = .ok (.invokestatic 178, 3) := by decide +kernel
theorem dL_keeps_915 : decode cL_keeps 915 = .ok (.bipush (-72), 2) := by decide +kernel
theorem dL_keeps_917 : decode cL_keeps 917 = .ok (.if_icmp .ne 22, 3) := by decide +kernel
theorem dL_keeps_920 : decode cL_keeps 920 = .ok (.aload_n 0, 1) := by decide +kernel
theorem dL_keeps_921 : decode cL_keeps 921 = .ok (.iload 16, 2) := by decide +kernel
theorem dL_keeps_923 : decode cL_keeps 923 = .ok (.iload 17, 2) := by decide +kernel
theorem dL_keeps_925 : decode cL_keeps 925 = .ok (.iconst 0, 1) := by decide +kernel
theorem dL_keeps_926 : decode cL_keeps 926 = .ok (.invokestatic 180, 3) := by decide +kernel
theorem dL_keeps_929 : decode cL_keeps 929 = .ok (.sipush (-1072), 3) := by decide +kernel
theorem dL_keeps_932 : decode cL_keeps 932 = .ok (.if_icmp .ne 7, 3) := by decide +kernel
theorem dL_keeps_935 : decode cL_keeps 935 = .ok (.iconst 1, 1) := by decide +kernel
theorem dL_keeps_936 : decode cL_keeps 936 = .ok (.goto 4, 3) := by decide +kernel
theorem dL_keeps_939 : decode cL_keeps 939 = .ok (.iconst 0, 1) := by decide +kernel
theorem dL_keeps_940 : decode cL_keeps 940 = .ok (.ireturn, 1) := by decide +kernel
theorem dL_keeps_941 : decode cL_keeps 941 = .ok (.iload 19, 2) := by decide +kernel
theorem dL_keeps_943 : decode cL_keeps 943 = .ok (.ifCond .ge 7, 3) := by decide +kernel
theorem dL_keeps_946 : decode cL_keeps 946 = .ok (.iconst 0, 1) := by decide +kernel
theorem dL_keeps_947 : decode cL_keeps 947 = .ok (.goto 8, 3) := by decide +kernel
theorem dL_keeps_950 : decode cL_keeps 950 = .ok (.aload 8, 2) := by decide +kernel
theorem dL_keeps_952 : decode cL_keeps 952 = .ok (.iload 19, 2) := by decide +kernel
theorem dL_keeps_954 : decode cL_keeps 954 = .ok (.iaload, 1) := by decide +kernel
theorem dL_keeps_955 : decode cL_keeps 955 = .ok (.istore 26, 2) := by decide +kernel
theorem dL_keeps_957 : decode cL_keeps 957 = .ok (.aload_n 3, 1) := by decide +kernel
theorem dL_keeps_958 : decode cL_keeps 958 = .ok (.aload 5, 2) := by decide +kernel
theorem dL_keeps_960 : decode cL_keeps 960 = .ok (.aload 6, 2) := by decide +kernel
theorem dL_keeps_962 : decode cL_keeps 962 = .ok (.aload 7, 2) := by decide +kernel
theorem dL_keeps_964 : decode cL_keeps 964 = .ok (.aload 8, 2) := by decide +kernel
theorem dL_keeps_966 : decode cL_keeps 966 = .ok (.iload 16, 2) := by decide +kernel
theorem dL_keeps_968 : decode cL_keeps 968 = .ok (.iload 17, 2) := by decide +kernel
theorem dL_keeps_970 : decode cL_keeps 970 = .ok (.invokestatic 167, 3) := by decide +kernel
theorem dL_keeps_973 : decode cL_keeps 973 = .ok (.bipush 8, 2) := by decide +kernel
theorem dL_keeps_975 : decode cL_keeps 975 = .ok (.iload 17, 2) := by decide +kernel
theorem dL_keeps_977 : decode cL_keeps 977 = .ok (.imul, 1) := by decide +kernel
theorem dL_keeps_978 : decode cL_keeps 978 = .ok (.iconst 2, 1) := by decide +kernel
theorem dL_keeps_979 : decode cL_keeps 979 = .ok (.iadd, 1) := by decide +kernel
theorem dL_keeps_980 : decode cL_keeps 980 = .ok (.invokestatic 73, 3) := by decide +kernel
theorem dL_keeps_983 : decode cL_keeps 983 = .ok (.iadd, 1) := by decide +kernel
theorem dL_keeps_984 : decode cL_keeps 984 = .ok (.iload 26, 2) := by decide +kernel
theorem dL_keeps_986 : decode cL_keeps 986 = .ok (.iconst 1, 1) := by decide +kernel
theorem dL_keeps_987 : decode cL_keeps 987 = .ok (.iadd, 1) := by decide +kernel
theorem dL_keeps_988 : decode cL_keeps 988 = .ok (.invokestatic 73, 3) := by decide +kernel
theorem dL_keeps_991 : decode cL_keeps 991 = .ok (.iadd, 1) := by decide +kernel
theorem dL_keeps_992 : decode cL_keeps 992 = .ok (.iload 26, 2) := by decide +kernel
theorem dL_keeps_994 : decode cL_keeps 994 = .ok (.iadd, 1) := by decide +kernel
theorem dL_keeps_995 : decode cL_keeps 995 = .ok (.iconst 1, 1) := by decide +kernel
theorem dL_keeps_996 : decode cL_keeps 996 = .ok (.iadd, 1) := by decide +kernel
theorem dL_keeps_997 : decode cL_keeps 997 = .ok (.bipush 120, 2) := by decide +kernel
theorem dL_keeps_999 : decode cL_keeps 999 = .ok (.if_icmp .le 24, 3) := by decide +kernel
theorem dL_keeps_1002 : decode cL_keeps 1002 = .ok (.aload_n 0, 1) := by decide +kernel
theorem dL_keeps_1003 : decode cL_keeps 1003 = .ok (.iload 16, 2) := by decide +kernel
theorem dL_keeps_1005 : decode cL_keeps 1005 = .ok (.iload 17, 2) := by decide +kernel
theorem dL_keeps_1007 : decode cL_keeps 1007 = .ok (.iload 25, 2) := by decide +kernel
theorem dL_keeps_1009 : decode cL_keeps 1009 = .ok (.invokestatic 178, 3) := by decide +kernel
theorem dL_keeps_1012 : decode cL_keeps 1012 = .ok (.bipush (-73), 2) := by decide +kernel
theorem dL_keeps_1014 : decode cL_keeps 1014 = .ok (.if_icmp .ne 7, 3) := by decide +kernel
theorem dL_keeps_1017 : decode cL_keeps 1017 = .ok (.iconst 1, 1) := by decide +kernel
theorem dL_keeps_1018 : decode cL_keeps 1018 = .ok (.goto 4, 3) := by decide +kernel
theorem dL_keeps_1021 : decode cL_keeps 1021 = .ok (.iconst 0, 1) := by decide +kernel
theorem dL_keeps_1022 : decode cL_keeps 1022 = .ok (.ireturn, 1) := by decide +kernel
theorem dL_keeps_1023 : decode cL_keeps 1023 = .ok (.iload 26, 2) := by decide +kernel
theorem dL_keeps_1025 : decode cL_keeps 1025 = .ok (.bipush 16, 2) := by decide +kernel
theorem dL_keeps_1027 : decode cL_keeps 1027 = .ok (.if_icmp .eq 22, 3) := by decide +kernel
theorem dL_keeps_1030 : decode cL_keeps 1030 = .ok (.aload_n 3, 1) := by decide +kernel
theorem dL_keeps_1031 : decode cL_keeps 1031 = .ok (.aload 5, 2) := by decide +kernel
theorem dL_keeps_1033 : decode cL_keeps 1033 = .ok (.aload 6, 2) := by decide +kernel
theorem dL_keeps_1035 : decode cL_keeps 1035 = .ok (.aload 7, 2) := by decide +kernel
theorem dL_keeps_1037 : decode cL_keeps 1037 = .ok (.iload 16, 2) := by decide +kernel
theorem dL_keeps_1039 : decode cL_keeps 1039 = .ok (.iload 17, 2) := by decide +kernel
theorem dL_keeps_1041 : decode cL_keeps 1041 = .ok (.invokestatic 171, 3) := by decide +kernel
theorem dL_keeps_1044 : decode cL_keeps 1044 = .ok (.bipush 12, 2) := by decide +kernel
theorem dL_keeps_1046 : decode cL_keeps 1046 = .ok (.if_icmp .ne 24, 3) := by decide +kernel
theorem dL_keeps_1049 : decode cL_keeps 1049 = .ok (.aload_n 0, 1) := by decide +kernel
theorem dL_keeps_1050 : decode cL_keeps 1050 = .ok (.iload 16, 2) := by decide +kernel
theorem dL_keeps_1052 : decode cL_keeps 1052 = .ok (.bipush 32, 2) := by decide +kernel
theorem dL_keeps_1054 : decode cL_keeps 1054 = .ok (.iload 25, 2) := by decide +kernel
theorem dL_keeps_1056 : decode cL_keeps 1056 = .ok (.invokestatic 178, 3) := by decide +kernel
theorem dL_keeps_1059 : decode cL_keeps 1059 = .ok (.bipush (-72), 2) := by decide +kernel
theorem dL_keeps_1061 : decode cL_keeps 1061 = .ok (.if_icmp .ne 7, 3) := by decide +kernel
theorem dL_keeps_1064 : decode cL_keeps 1064 = .ok (.iconst 1, 1) := by decide +kernel
theorem dL_keeps_1065 : decode cL_keeps 1065 = .ok (.goto 4, 3) := by decide +kernel
theorem dL_keeps_1068 : decode cL_keeps 1068 = .ok (.iconst 0, 1) := by decide +kernel
theorem dL_keeps_1069 : decode cL_keeps 1069 = .ok (.ireturn, 1) := by decide +kernel
theorem dL_keeps_1070 : decode cL_keeps 1070 = .ok (.iload 19, 2) := by decide +kernel
theorem dL_keeps_1072 : decode cL_keeps 1072 = .ok (.ifCond .ge 7, 3) := by decide +kernel
theorem dL_keeps_1075 : decode cL_keeps 1075 = .ok (.lconst 0, 1) := by decide +kernel
theorem dL_keeps_1076 : decode cL_keeps 1076 = .ok (.goto 8, 3) := by decide +kernel
theorem dL_keeps_1079 : decode cL_keeps 1079 = .ok (.aload 9, 2) := by decide +kernel
theorem dL_keeps_1081 : decode cL_keeps 1081 = .ok (.iload 19, 2) := by decide +kernel
theorem dL_keeps_1083 : decode cL_keeps 1083 = .ok (.laload, 1) := by decide +kernel
theorem dL_keeps_1084 : decode cL_keeps 1084 = .ok (.lstore 27, 2) := by decide +kernel
theorem dL_keeps_1086 : decode cL_keeps 1086 = .ok (.iload 19, 2) := by decide +kernel
theorem dL_keeps_1088 : decode cL_keeps 1088 = .ok (.ifCond .ge 7, 3) := by decide +kernel
theorem dL_keeps_1091 : decode cL_keeps 1091 = .ok (.lconst 0, 1) := by decide +kernel
theorem dL_keeps_1092 : decode cL_keeps 1092 = .ok (.goto 8, 3) := by decide +kernel
theorem dL_keeps_1095 : decode cL_keeps 1095 = .ok (.aload 10, 2) := by decide +kernel
theorem dL_keeps_1097 : decode cL_keeps 1097 = .ok (.iload 19, 2) := by decide +kernel
theorem dL_keeps_1099 : decode cL_keeps 1099 = .ok (.laload, 1) := by decide +kernel
theorem dL_keeps_1100 : decode cL_keeps 1100 = .ok (.lstore 29, 2) := by decide +kernel
theorem dL_keeps_1102 : decode cL_keeps 1102 = .ok (.iload 26, 2) := by decide +kernel
theorem dL_keeps_1104 : decode cL_keeps 1104 = .ok (.bipush 8, 2) := by decide +kernel
theorem dL_keeps_1106 : decode cL_keeps 1106 = .ok (.if_icmp .ge 20, 3) := by decide +kernel
theorem dL_keeps_1109 : decode cL_keeps 1109 = .ok (.lload 27, 2) := by decide +kernel
theorem dL_keeps_1111 : decode cL_keeps 1111 = .ok (.iload 25, 2) := by decide +kernel
theorem dL_keeps_1113 : decode cL_keeps 1113 = .ok (.i2l, 1) := by decide +kernel
theorem dL_keeps_1114 : decode cL_keeps 1114 = .ok (.bipush 8, 2) := by decide +kernel
theorem dL_keeps_1116 : decode cL_keeps 1116 = .ok (.iload 26, 2) := by decide +kernel
theorem dL_keeps_1118 : decode cL_keeps 1118 = .ok (.imul, 1) := by decide +kernel
theorem dL_keeps_1119 : decode cL_keeps 1119 = .ok (.lshl, 1) := by decide +kernel
theorem dL_keeps_1120 : decode cL_keeps 1120 = .ok (.lor, 1) := by decide +kernel
theorem dL_keeps_1121 : decode cL_keeps 1121 = .ok (.lstore 27, 2) := by decide +kernel
theorem dL_keeps_1123 : decode cL_keeps 1123 = .ok (.goto 20, 3) := by decide +kernel
theorem dL_keeps_1126 : decode cL_keeps 1126 = .ok (.lload 29, 2) := by decide +kernel
theorem dL_keeps_1128 : decode cL_keeps 1128 = .ok (.iload 25, 2) := by decide +kernel
theorem dL_keeps_1130 : decode cL_keeps 1130 = .ok (.i2l, 1) := by decide +kernel
theorem dL_keeps_1131 : decode cL_keeps 1131 = .ok (.bipush 8, 2) := by decide +kernel
theorem dL_keeps_1133 : decode cL_keeps 1133 = .ok (.iload 26, 2) := by decide +kernel
theorem dL_keeps_1135 : decode cL_keeps 1135 = .ok (.bipush 8, 2) := by decide +kernel
theorem dL_keeps_1137 : decode cL_keeps 1137 = .ok (.isub, 1) := by decide +kernel
theorem dL_keeps_1138 : decode cL_keeps 1138 = .ok (.imul, 1) := by decide +kernel
theorem dL_keeps_1139 : decode cL_keeps 1139 = .ok (.lshl, 1) := by decide +kernel
theorem dL_keeps_1140 : decode cL_keeps 1140 = .ok (.lor, 1) := by decide +kernel
theorem dL_keeps_1141 : decode cL_keeps 1141 = .ok (.lstore 29, 2) := by decide +kernel
theorem dL_keeps_1143 : decode cL_keeps 1143 = .ok (.aload_n 3, 1) := by decide +kernel
theorem dL_keeps_1144 : decode cL_keeps 1144 = .ok (.aload 5, 2) := by decide +kernel
theorem dL_keeps_1146 : decode cL_keeps 1146 = .ok (.aload 6, 2) := by decide +kernel
theorem dL_keeps_1148 : decode cL_keeps 1148 = .ok (.aload 7, 2) := by decide +kernel
theorem dL_keeps_1150 : decode cL_keeps 1150 = .ok (.aload 8, 2) := by decide +kernel
theorem dL_keeps_1152 : decode cL_keeps 1152 = .ok (.aload 9, 2) := by decide +kernel
theorem dL_keeps_1154 : decode cL_keeps 1154 = .ok (.aload 10, 2) := by decide +kernel
theorem dL_keeps_1156 : decode cL_keeps 1156 = .ok (.iload 16, 2) := by decide +kernel
theorem dL_keeps_1158 : decode cL_keeps 1158 = .ok (.bipush 8, 2) := by decide +kernel
theorem dL_keeps_1160 : decode cL_keeps 1160 = .ok (.iload 17, 2) := by decide +kernel
theorem dL_keeps_1162 : decode cL_keeps 1162 = .ok (.imul, 1) := by decide +kernel
theorem dL_keeps_1163 : decode cL_keeps 1163 = .ok (.iconst 2, 1) := by decide +kernel
theorem dL_keeps_1164 : decode cL_keeps 1164 = .ok (.iadd, 1) := by decide +kernel
theorem dL_keeps_1165 : decode cL_keeps 1165 = .ok (.iload 26, 2) := by decide +kernel
theorem dL_keeps_1167 : decode cL_keeps 1167 = .ok (.iconst 1, 1) := by decide +kernel
theorem dL_keeps_1168 : decode cL_keeps 1168 = .ok (.iadd, 1) := by decide +kernel
theorem dL_keeps_1169 : decode cL_keeps 1169 = .ok (.lload 27, 2) := by decide +kernel
theorem dL_keeps_1171 : decode cL_keeps 1171 = .ok (.lload 29, 2) := by decide +kernel
theorem dL_keeps_1173 : decode cL_keeps 1173 = .ok (.invokestatic 174, 3) := by decide +kernel
theorem dL_keeps_1176 : decode cL_keeps 1176 = .ok (.aload_n 0, 1) := by decide +kernel
theorem dL_keeps_1177 : decode cL_keeps 1177 = .ok (.iload 16, 2) := by decide +kernel
theorem dL_keeps_1179 : decode cL_keeps 1179 = .ok (.iload 17, 2) := by decide +kernel
theorem dL_keeps_1181 : decode cL_keeps 1181 = .ok (.iload 25, 2) := by decide +kernel
theorem dL_keeps_1183 : decode cL_keeps 1183 = .ok (.invokestatic 178, 3) := by decide +kernel
theorem dL_keeps_1186 : decode cL_keeps 1186 = .ok (.iload 26, 2) := by decide +kernel
theorem dL_keeps_1188 : decode cL_keeps 1188 = .ok (.iconst 1, 1) := by decide +kernel
theorem dL_keeps_1189 : decode cL_keeps 1189 = .ok (.iadd, 1) := by decide +kernel
theorem dL_keeps_1190 : decode cL_keeps 1190 = .ok (.if_icmp .ne 7, 3) := by decide +kernel
theorem dL_keeps_1193 : decode cL_keeps 1193 = .ok (.iconst 1, 1) := by decide +kernel
theorem dL_keeps_1194 : decode cL_keeps 1194 = .ok (.goto 4, 3) := by decide +kernel
theorem dL_keeps_1197 : decode cL_keeps 1197 = .ok (.iconst 0, 1) := by decide +kernel
theorem dL_keeps_1198 : decode cL_keeps 1198 = .ok (.ireturn, 1) := by decide +kernel
theorem dL_keeps_1199 : decode cL_keeps 1199 = .ok (.iload 18, 2) := by decide +kernel
theorem dL_keeps_1201 : decode cL_keeps 1201 = .ok (.iconst 4, 1) := by decide +kernel
theorem dL_keeps_1202 : decode cL_keeps 1202 = .ok (.if_icmp .ne 34, 3) := by decide +kernel
theorem dL_keeps_1205 : decode cL_keeps 1205 = .ok (.aload_n 3, 1) := by decide +kernel
theorem dL_keeps_1206 : decode cL_keeps 1206 = .ok (.aload 5, 2) := by decide +kernel
theorem dL_keeps_1208 : decode cL_keeps 1208 = .ok (.iload 16, 2) := by decide +kernel
theorem dL_keeps_1210 : decode cL_keeps 1210 = .ok (.iaload, 1) := by decide +kernel
theorem dL_keeps_1211 : decode cL_keeps 1211 = .ok (.iconst 1, 1) := by decide +kernel
theorem dL_keeps_1212 : decode cL_keeps 1212 = .ok (.isub, 1) := by decide +kernel
theorem dL_keeps_1213 : decode cL_keeps 1213 = .ok (.iload 17, 2) := by decide +kernel
theorem dL_keeps_1215 : decode cL_keeps 1215 = .ok (.invokestatic 93, 3) := by decide +kernel
theorem dL_keeps_1218 : decode cL_keeps 1218 = .ok (.iaload, 1) := by decide +kernel
theorem dL_keeps_1219 : decode cL_keeps 1219 = .ok (.bipush 8, 2) := by decide +kernel
theorem dL_keeps_1221 : decode cL_keeps 1221 = .ok (.idiv, 1) := by decide +kernel
theorem dL_keeps_1222 : decode cL_keeps 1222 = .ok (.aload 5, 2) := by decide +kernel
theorem dL_keeps_1224 : decode cL_keeps 1224 = .ok (.iload 20, 2) := by decide +kernel
theorem dL_keeps_1226 : decode cL_keeps 1226 = .ok (.iaload, 1) := by decide +kernel
theorem dL_keeps_1227 : decode cL_keeps 1227 = .ok (.iconst 1, 1) := by decide +kernel
theorem dL_keeps_1228 : decode cL_keeps 1228 = .ok (.isub, 1) := by decide +kernel
theorem dL_keeps_1229 : decode cL_keeps 1229 = .ok (.if_icmp .ne 7, 3) := by decide +kernel
theorem dL_keeps_1232 : decode cL_keeps 1232 = .ok (.iconst 1, 1) := by decide +kernel
theorem dL_keeps_1233 : decode cL_keeps 1233 = .ok (.goto 4, 3) := by decide +kernel
theorem dL_keeps_1236 : decode cL_keeps 1236 = .ok (.iconst 0, 1) := by decide +kernel
theorem dL_keeps_1237 : decode cL_keeps 1237 = .ok (.istore 31, 2) := by decide +kernel
theorem dL_keeps_1239 : decode cL_keeps 1239 = .ok (.iload 31, 2) := by decide +kernel
theorem dL_keeps_1241 : decode cL_keeps 1241 = .ok (.ifCond .ne 39, 3) := by decide +kernel
theorem dL_keeps_1244 : decode cL_keeps 1244 = .ok (.aload_n 0, 1) := by decide +kernel
theorem dL_keeps_1245 : decode cL_keeps 1245 = .ok (.iload 16, 2) := by decide +kernel
theorem dL_keeps_1247 : decode cL_keeps 1247 = .ok (.iload 17, 2) := by decide +kernel
theorem dL_keeps_1249 : decode cL_keeps 1249 = .ok (.iload 20, 2) := by decide +kernel
theorem dL_keeps_1251 : decode cL_keeps 1251 = .ok (.invokestatic 182, 3) := by decide +kernel
theorem dL_keeps_1254 : decode cL_keeps 1254 = .ok (.bipush (-72), 2) := by decide +kernel
theorem dL_keeps_1256 : decode cL_keeps 1256 = .ok (.if_icmp .ne 22, 3) := by decide +kernel
theorem dL_keeps_1259 : decode cL_keeps 1259 = .ok (.aload_n 0, 1) := by decide +kernel
theorem dL_keeps_1260 : decode cL_keeps 1260 = .ok (.iload 16, 2) := by decide +kernel
theorem dL_keeps_1262 : decode cL_keeps 1262 = .ok (.iload 17, 2) := by decide +kernel
theorem dL_keeps_1264 : decode cL_keeps 1264 = .ok (.bipush 12, 2) := by decide +kernel
theorem dL_keeps_1266 : decode cL_keeps 1266 = .ok (.invokestatic 182, 3) := by decide +kernel
theorem dL_keeps_1269 : decode cL_keeps 1269 = .ok (.bipush (-71), 2) := by decide +kernel
theorem dL_keeps_1271 : decode cL_keeps 1271 = .ok (.if_icmp .ne 7, 3) := by decide +kernel
theorem dL_keeps_1274 : decode cL_keeps 1274 = .ok (.iconst 1, 1) := by decide +kernel
theorem dL_keeps_1275 : decode cL_keeps 1275 = .ok (.goto 4, 3) := by decide +kernel
theorem dL_keeps_1278 : decode cL_keeps 1278 = .ok (.iconst 0, 1) := by decide +kernel
theorem dL_keeps_1279 : decode cL_keeps 1279 = .ok (.ireturn, 1) := by decide +kernel
theorem dL_keeps_1280 : decode cL_keeps 1280 = .ok (.aload_n 3, 1) := by decide +kernel
theorem dL_keeps_1281 : decode cL_keeps 1281 = .ok (.aload 4, 2) := by decide +kernel
theorem dL_keeps_1283 : decode cL_keeps 1283 = .ok (.aload 5, 2) := by decide +kernel
theorem dL_keeps_1285 : decode cL_keeps 1285 = .ok (.aload 6, 2) := by decide +kernel
theorem dL_keeps_1287 : decode cL_keeps 1287 = .ok (.aload 7, 2) := by decide +kernel
theorem dL_keeps_1289 : decode cL_keeps 1289 = .ok (.aload 8, 2) := by decide +kernel
theorem dL_keeps_1291 : decode cL_keeps 1291 = .ok (.aload 9, 2) := by decide +kernel
theorem dL_keeps_1293 : decode cL_keeps 1293 = .ok (.aload 10, 2) := by decide +kernel
theorem dL_keeps_1295 : decode cL_keeps 1295 = .ok (.aload 12, 2) := by decide +kernel
theorem dL_keeps_1297 : decode cL_keeps 1297 = .ok (.aload 13, 2) := by decide +kernel
theorem dL_keeps_1299 : decode cL_keeps 1299 = .ok (.iload 20, 2) := by decide +kernel
