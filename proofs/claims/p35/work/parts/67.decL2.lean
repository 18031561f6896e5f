theorem dL_reads_0 : decode cL_reads 0 = .ok (.aload 7, 2) := by decide +kernel
theorem dL_reads_2 : decode cL_reads 2 = .ok (.iconst 3, 1) := by decide +kernel
theorem dL_reads_3 : decode cL_reads 3 = .ok (.iconst 0, 1) := by decide +kernel
theorem dL_reads_4 : decode cL_reads 4 = .ok (.iastore, 1) := by decide +kernel
theorem dL_reads_5 : decode cL_reads 5 = .ok (.aload 7, 2) := by decide +kernel
theorem dL_reads_7 : decode cL_reads 7 = .ok (.iconst 4, 1) := by decide +kernel
theorem dL_reads_8 : decode cL_reads 8 = .ok (.iconst 0, 1) := by decide +kernel
theorem dL_reads_9 : decode cL_reads 9 = .ok (.iastore, 1) := by decide +kernel
theorem dL_reads_10 : decode cL_reads 10 = .ok (.iconst 0, 1) := by decide +kernel
theorem dL_reads_11 : decode cL_reads 11 = .ok (.istore 9, 2) := by decide +kernel
theorem dL_reads_13 : decode cL_reads 13 = .ok (.iconst 0, 1) := by decide +kernel
theorem dL_reads_14 : decode cL_reads 14 = .ok (.istore 10, 2) := by decide +kernel
theorem dL_reads_16 : decode cL_reads 16 = .ok (.aload 7, 2) := by decide +kernel
theorem dL_reads_18 : decode cL_reads 18 = .ok (.iconst 3, 1) := by decide +kernel
theorem dL_reads_19 : decode cL_reads 19 = .ok (.iaload, 1) := by decide +kernel
theorem dL_reads_20 : decode cL_reads 20 = .ok (.iload_n 1, 1) := by decide +kernel
theorem dL_reads_21 : decode cL_reads 21 = .ok (.if_icmp .ge 460, 3) := by decide +kernel
theorem dL_reads_24 : decode cL_reads 24 = .ok (.aload 7, 2) := by decide +kernel
theorem dL_reads_26 : decode cL_reads 26 = .ok (.iconst 3, 1) := by decide +kernel
theorem dL_reads_27 : decode cL_reads 27 = .ok (.iaload, 1) := by decide +kernel
theorem dL_reads_28 : decode cL_reads 28 = .ok (.istore 11, 2) := by decide +kernel
theorem dL_reads_30 : decode cL_reads 30 = .ok (.aload_n 0, 1) := by decide +kernel
theorem dL_reads_31 : decode cL_reads 31 = .ok (.aload 7, 2) := by decide +kernel
theorem dL_reads_33 : decode cL_reads 33 = .ok (.iload_n 1, 1) := by decide +kernel
theorem dL_reads_34 : decode cL_reads 34 = .ok (.invokestatic 119, 3) := by decide +kernel
theorem dL_reads_37 : decode cL_reads 37 = .ok (.aload 7, 2) := by decide +kernel
theorem dL_reads_39 : decode cL_reads 39 = .ok (.iconst 5, 1) := by decide +kernel
theorem dL_reads_40 : decode cL_reads 40 = .ok (.iaload, 1) := by decide +kernel
theorem dL_reads_41 : decode cL_reads 41 = .ok (.istore 12, 2) := by decide +kernel
theorem dL_reads_43 : decode cL_reads 43 = .ok (.aload 7, 2) := by decide +kernel
theorem dL_reads_45 : decode cL_reads 45 = .ok (.iconst 4, 1) := by decide +kernel
theorem dL_reads_46 : decode cL_reads 46 = .ok (.iaload, 1) := by decide +kernel
theorem dL_reads_47 : decode cL_reads 47 = .ok (.ifCond .ne 24, 3) := by decide +kernel
theorem dL_reads_50 : decode cL_reads 50 = .ok (.iload 12, 2) := by decide +kernel
theorem dL_reads_52 : decode cL_reads 52 = .ok (.iconst 3, 1) := by decide +kernel
theorem dL_reads_53 : decode cL_reads 53 = .ok (.iushr, 1) := by decide +kernel
theorem dL_reads_54 : decode cL_reads 54 = .ok (.ifCond .eq 12, 3) := by decide +kernel
theorem dL_reads_57 : decode cL_reads 57 = .ok (.iload 12, 2) := by decide +kernel
theorem dL_reads_59 : decode cL_reads 59 = .ok (.iconst 3, 1) := by decide +kernel
theorem dL_reads_60 : decode cL_reads 60 = .ok (.iushr, 1) := by decide +kernel
theorem dL_reads_61 : decode cL_reads 61 = .ok (.bipush 31, 2) := by decide +kernel
theorem dL_reads_63 : decode cL_reads 63 = .ok (.if_icmp .le 8, 3) := by decide +kernel
theorem dL_reads_66 : decode cL_reads 66 = .ok (.aload 7, 2) := by decide +kernel
theorem dL_reads_68 : decode cL_reads 68 = .ok (.iconst 4, 1) := by decide +kernel
theorem dL_reads_69 : decode cL_reads 69 = .ok (.iconst 3, 1) := by decide +kernel
theorem dL_reads_70 : decode cL_reads 70 = .ok (.iastore, 1) := by decide +kernel
theorem dL_reads_71 : decode cL_reads 71 = .ok (.aload 7, 2) := by decide +kernel
theorem dL_reads_73 : decode cL_reads 73 = .ok (.iconst 4, 1) := by decide +kernel
theorem dL_reads_74 : decode cL_reads 74 = .ok (.iaload, 1) := by decide +kernel
theorem dL_reads_75 : decode cL_reads 75 = .ok (.ifCond .ne 34, 3) := by decide +kernel
theorem dL_reads_78 : decode cL_reads 78 = .ok (.iload 12, 2) := by decide +kernel
theorem dL_reads_80 : decode cL_reads 80 = .ok (.bipush 7, 2) := by decide +kernel
theorem dL_reads_82 : decode cL_reads 82 = .ok (.iand, 1) := by decide +kernel
theorem dL_reads_83 : decode cL_reads 83 = .ok (.ifCond .eq 26, 3) := by decide +kernel
theorem dL_reads_86 : decode cL_reads 86 = .ok (.iload 12, 2) := by decide +kernel
theorem dL_reads_88 : decode cL_reads 88 = .ok (.bipush 7, 2) := by decide +kernel
theorem dL_reads_90 : decode cL_reads 90 = .ok (.iand, 1) := by decide +kernel
theorem dL_reads_91 : decode cL_reads 91 = .ok (.iconst 2, 1) := by decide +kernel
theorem dL_reads_92 : decode cL_reads 92 = .ok (.if_icmp .eq 17, 3) := by decide +kernel
theorem dL_reads_95 : decode cL_reads 95 = .ok (.iload 12, 2) := by decide +kernel
theorem dL_reads_97 : decode cL_reads 97 = .ok (.bipush 7, 2) := by decide +kernel
theorem dL_reads_99 : decode cL_reads 99 = .ok (.iand, 1) := by decide +kernel
theorem dL_reads_100 : decode cL_reads 100 = .ok (.iconst 5, 1) := by decide +kernel
theorem dL_reads_101 : decode cL_reads 101 = .ok (.if_icmp .eq 8, 3) := by decide +kernel
theorem dL_reads_104 : decode cL_reads 104 = .ok (.aload 7, 2) := by decide +kernel
theorem dL_reads_106 : decode cL_reads 106 = .ok (.iconst 4, 1) := by decide +kernel
theorem dL_reads_107 : decode cL_reads 107 = .ok (.iconst 4, 1) := by decide +kernel
theorem dL_reads_108 : decode cL_reads 108 = .ok (.iastore, 1) := by decide +kernel
theorem dL_reads_109 : decode cL_reads 109 = .ok (.iconst 0, 1) := by decide +kernel
theorem dL_reads_110 : decode cL_reads 110 = .ok (.istore 13, 2) := by decide +kernel
theorem dL_reads_112 : decode cL_reads 112 = .ok (.aload 7, 2) := by decide +kernel
theorem dL_reads_114 : decode cL_reads 114 = .ok (.iconst 4, 1) := by decide +kernel
theorem dL_reads_115 : decode cL_reads 115 = .ok (.iaload, 1) := by decide +kernel
theorem dL_reads_116 : decode cL_reads 116 = .ok (.ifCond .ne 97, 3) := by decide +kernel
theorem dL_reads_119 : decode cL_reads 119 = .ok (.iload 12, 2) := by decide +kernel
theorem dL_reads_121 : decode cL_reads 121 = .ok (.bipush 7, 2) := by decide +kernel
theorem dL_reads_123 : decode cL_reads 123 = .ok (.iand, 1) := by decide +kernel
theorem dL_reads_124 : decode cL_reads 124 = .ok (.iconst 5, 1) := by decide +kernel
theorem dL_reads_125 : decode cL_reads 125 = .ok (.if_icmp .ne 88, 3) := by decide +kernel
theorem dL_reads_128 : decode cL_reads 128 = .ok (.iconst 0, 1) := by decide +kernel
theorem dL_reads_129 : decode cL_reads 129 = .ok (.istore 14, 2) := by decide +kernel
theorem dL_reads_131 : decode cL_reads 131 = .ok (.iload 14, 2) := by decide +kernel
theorem dL_reads_133 : decode cL_reads 133 = .ok (.iconst 4, 1) := by decide +kernel
theorem dL_reads_134 : decode cL_reads 134 = .ok (.if_icmp .ge 76, 3) := by decide +kernel
theorem dL_reads_137 : decode cL_reads 137 = .ok (.aload 7, 2) := by decide +kernel
theorem dL_reads_139 : decode cL_reads 139 = .ok (.iconst 4, 1) := by decide +kernel
theorem dL_reads_140 : decode cL_reads 140 = .ok (.iaload, 1) := by decide +kernel
theorem dL_reads_141 : decode cL_reads 141 = .ok (.ifCond .ne 69, 3) := by decide +kernel
theorem dL_reads_144 : decode cL_reads 144 = .ok (.aload 7, 2) := by decide +kernel
theorem dL_reads_146 : decode cL_reads 146 = .ok (.iconst 4, 1) := by decide +kernel
theorem dL_reads_147 : decode cL_reads 147 = .ok (.aload 7, 2) := by decide +kernel
theorem dL_reads_149 : decode cL_reads 149 = .ok (.iconst 3, 1) := by decide +kernel
theorem dL_reads_150 : decode cL_reads 150 = .ok (.iaload, 1) := by decide +kernel
theorem dL_reads_151 : decode cL_reads 151 = .ok (.iload_n 1, 1) := by decide +kernel
theorem dL_reads_152 : decode cL_reads 152 = .ok (.if_icmp .ne 7, 3) := by decide +kernel
theorem dL_reads_155 : decode cL_reads 155 = .ok (.iconst 1, 1) := by decide +kernel
theorem dL_reads_156 : decode cL_reads 156 = .ok (.goto 4, 3) := by decide +kernel
theorem dL_reads_159 : decode cL_reads 159 = .ok (.iconst 0, 1) := by decide +kernel
theorem dL_reads_160 : decode cL_reads 160 = .ok (.iastore, 1) := by decide +kernel
theorem dL_reads_161 : decode cL_reads 161 = .ok (.aload 7, 2) := by decide +kernel
theorem dL_reads_163 : decode cL_reads 163 = .ok (.iconst 4, 1) := by decide +kernel
theorem dL_reads_164 : decode cL_reads 164 = .ok (.iaload, 1) := by decide +kernel
theorem dL_reads_165 : decode cL_reads 165 = .ok (.ifCond .ne 20, 3) := by decide +kernel
theorem dL_reads_168 : decode cL_reads 168 = .ok (.iload 13, 2) := by decide +kernel
theorem dL_reads_170 : decode cL_reads 170 = .ok (.aload_n 0, 1) := by decide +kernel
theorem dL_reads_171 : decode cL_reads 171 = .ok (.aload 7, 2) := by decide +kernel
theorem dL_reads_173 : decode cL_reads 173 = .ok (.iconst 3, 1) := by decide +kernel
theorem dL_reads_174 : decode cL_reads 174 = .ok (.iaload, 1) := by decide +kernel
theorem dL_reads_175 : decode cL_reads 175 = .ok (.iaload, 1) := by decide +kernel
theorem dL_reads_176 : decode cL_reads 176 = .ok (.bipush 8, 2) := by decide +kernel
theorem dL_reads_178 : decode cL_reads 178 = .ok (.iload 14, 2) := by decide +kernel
theorem dL_reads_180 : decode cL_reads 180 = .ok (.imul, 1) := by decide +kernel
theorem dL_reads_181 : decode cL_reads 181 = .ok (.ishl, 1) := by decide +kernel
theorem dL_reads_182 : decode cL_reads 182 = .ok (.ior, 1) := by decide +kernel
theorem dL_reads_183 : decode cL_reads 183 = .ok (.istore 13, 2) := by decide +kernel
theorem dL_reads_185 : decode cL_reads 185 = .ok (.aload 7, 2) := by decide +kernel
theorem dL_reads_187 : decode cL_reads 187 = .ok (.iconst 3, 1) := by decide +kernel
theorem dL_reads_188 : decode cL_reads 188 = .ok (.dup2, 1) := by decide +kernel
theorem dL_reads_189 : decode cL_reads 189 = .ok (.iaload, 1) := by decide +kernel
theorem dL_reads_190 : decode cL_reads 190 = .ok (.aload 7, 2) := by decide +kernel
theorem dL_reads_192 : decode cL_reads 192 = .ok (.iconst 4, 1) := by decide +kernel
theorem dL_reads_193 : decode cL_reads 193 = .ok (.iaload, 1) := by decide +kernel
theorem dL_reads_194 : decode cL_reads 194 = .ok (.ifCond .ne 7, 3) := by decide +kernel
theorem dL_reads_197 : decode cL_reads 197 = .ok (.iconst 1, 1) := by decide +kernel
theorem dL_reads_198 : decode cL_reads 198 = .ok (.goto 4, 3) := by decide +kernel
theorem dL_reads_201 : decode cL_reads 201 = .ok (.iconst 0, 1) := by decide +kernel
theorem dL_reads_202 : decode cL_reads 202 = .ok (.iadd, 1) := by decide +kernel
theorem dL_reads_203 : decode cL_reads 203 = .ok (.iastore, 1) := by decide +kernel
theorem dL_reads_204 : decode cL_reads 204 = .ok (.iinc 14 1, 3) := by decide +kernel
theorem dL_reads_207 : decode cL_reads 207 = .ok (.goto (-76), 3) := by decide +kernel
theorem dL_reads_210 : decode cL_reads 210 = .ok (.goto 60, 3) := by decide +kernel
theorem dL_reads_213 : decode cL_reads 213 = .ok (.aload 7, 2) := by decide +kernel
theorem dL_reads_215 : decode cL_reads 215 = .ok (.iconst 4, 1) := by decide +kernel
theorem dL_reads_216 : decode cL_reads 216 = .ok (.iaload, 1) := by decide +kernel
theorem dL_reads_217 : decode cL_reads 217 = .ok (.ifCond .ne 53, 3) := by decide +kernel
theorem dL_reads_220 : decode cL_reads 220 = .ok (.aload_n 0, 1) := by decide +kernel
theorem dL_reads_221 : decode cL_reads 221 = .ok (.aload 7, 2) := by decide +kernel
theorem dL_reads_223 : decode cL_reads 223 = .ok (.iload_n 1, 1) := by decide +kernel
theorem dL_reads_224 : decode cL_reads 224 = .ok (.invokestatic 119, 3) := by decide +kernel
theorem dL_reads_227 : decode cL_reads 227 = .ok (.aload 7, 2) := by decide +kernel
theorem dL_reads_229 : decode cL_reads 229 = .ok (.iconst 5, 1) := by decide +kernel
theorem dL_reads_230 : decode cL_reads 230 = .ok (.iaload, 1) := by decide +kernel
theorem dL_reads_231 : decode cL_reads 231 = .ok (.istore 13, 2) := by decide +kernel
theorem dL_reads_233 : decode cL_reads 233 = .ok (.aload 7, 2) := by decide +kernel
theorem dL_reads_235 : decode cL_reads 235 = .ok (.iconst 4, 1) := by decide +kernel
theorem dL_reads_236 : decode cL_reads 236 = .ok (.iaload, 1) := by decide +kernel
theorem dL_reads_237 : decode cL_reads 237 = .ok (.ifCond .ne 33, 3) := by decide +kernel
theorem dL_reads_240 : decode cL_reads 240 = .ok (.iload 12, 2) := by decide +kernel
theorem dL_reads_242 : decode cL_reads 242 = .ok (.bipush 7, 2) := by decide +kernel
theorem dL_reads_244 : decode cL_reads 244 = .ok (.iand, 1) := by decide +kernel
theorem dL_reads_245 : decode cL_reads 245 = .ok (.iconst 2, 1) := by decide +kernel
theorem dL_reads_246 : decode cL_reads 246 = .ok (.if_icmp .ne 24, 3) := by decide +kernel
theorem dL_reads_249 : decode cL_reads 249 = .ok (.iload 13, 2) := by decide +kernel
theorem dL_reads_251 : decode cL_reads 251 = .ok (.ifCond .lt 14, 3) := by decide +kernel
theorem dL_reads_254 : decode cL_reads 254 = .ok (.iload 13, 2) := by decide +kernel
theorem dL_reads_256 : decode cL_reads 256 = .ok (.iload_n 1, 1) := by decide +kernel
theorem dL_reads_257 : decode cL_reads 257 = .ok (.aload 7, 2) := by decide +kernel
theorem dL_reads_259 : decode cL_reads 259 = .ok (.iconst 3, 1) := by decide +kernel
theorem dL_reads_260 : decode cL_reads 260 = .ok (.iaload, 1) := by decide +kernel
theorem dL_reads_261 : decode cL_reads 261 = .ok (.isub, 1) := by decide +kernel
theorem dL_reads_262 : decode cL_reads 262 = .ok (.if_icmp .le 8, 3) := by decide +kernel
theorem dL_reads_265 : decode cL_reads 265 = .ok (.aload 7, 2) := by decide +kernel
theorem dL_reads_267 : decode cL_reads 267 = .ok (.iconst 4, 1) := by decide +kernel
theorem dL_reads_268 : decode cL_reads 268 = .ok (.iconst 1, 1) := by decide +kernel
theorem dL_reads_269 : decode cL_reads 269 = .ok (.iastore, 1) := by decide +kernel
theorem dL_reads_270 : decode cL_reads 270 = .ok (.aload 7, 2) := by decide +kernel
theorem dL_reads_272 : decode cL_reads 272 = .ok (.iconst 4, 1) := by decide +kernel
theorem dL_reads_273 : decode cL_reads 273 = .ok (.iaload, 1) := by decide +kernel
theorem dL_reads_274 : decode cL_reads 274 = .ok (.ifCond .le 14, 3) := by decide +kernel
theorem dL_reads_277 : decode cL_reads 277 = .ok (.aload 7, 2) := by decide +kernel
theorem dL_reads_279 : decode cL_reads 279 = .ok (.iconst 3, 1) := by decide +kernel
theorem dL_reads_280 : decode cL_reads 280 = .ok (.iload 11, 2) := by decide +kernel
theorem dL_reads_282 : decode cL_reads 282 = .ok (.iastore, 1) := by decide +kernel
theorem dL_reads_283 : decode cL_reads 283 = .ok (.aload 7, 2) := by decide +kernel
theorem dL_reads_285 : decode cL_reads 285 = .ok (.iconst 4, 1) := by decide +kernel
theorem dL_reads_286 : decode cL_reads 286 = .ok (.iaload, 1) := by decide +kernel
theorem dL_reads_287 : decode cL_reads 287 = .ok (.ireturn, 1) := by decide +kernel
theorem dL_reads_288 : decode cL_reads 288 = .ok (.aload 7, 2) := by decide +kernel
theorem dL_reads_290 : decode cL_reads 290 = .ok (.iconst 3, 1) := by decide +kernel
theorem dL_reads_291 : decode cL_reads 291 = .ok (.iaload, 1) := by decide +kernel
theorem dL_reads_292 : decode cL_reads 292 = .ok (.istore 14, 2) := by decide +kernel
theorem dL_reads_294 : decode cL_reads 294 = .ok (.iload 12, 2) := by decide +kernel
theorem dL_reads_296 : decode cL_reads 296 = .ok (.bipush 7, 2) := by decide +kernel
theorem dL_reads_298 : decode cL_reads 298 = .ok (.iand, 1) := by decide +kernel
theorem dL_reads_299 : decode cL_reads 299 = .ok (.iconst 2, 1) := by decide +kernel
theorem dL_reads_300 : decode cL_reads 300 = .ok (.if_icmp .ne 12, 3) := by decide +kernel
theorem dL_reads_303 : decode cL_reads 303 = .ok (.aload 7, 2) := by decide +kernel
theorem dL_reads_305 : decode cL_reads 305 = .ok (.iconst 3, 1) := by decide +kernel
theorem dL_reads_306 : decode cL_reads 306 = .ok (.dup2, 1) := by decide +kernel
theorem dL_reads_307 : decode cL_reads 307 = .ok (.iaload, 1) := by decide +kernel
theorem dL_reads_308 : decode cL_reads 308 = .ok (.iload 13, 2) := by decide +kernel
theorem dL_reads_310 : decode cL_reads 310 = .ok (.iadd, 1) := by decide +kernel
theorem dL_reads_311 : decode cL_reads 311 = .ok (.iastore, 1) := by decide +kernel
theorem dL_reads_312 : decode cL_reads 312 = .ok (.iload 10, 2) := by decide +kernel
theorem dL_reads_314 : decode cL_reads 314 = .ok (.iload 9, 2) := by decide +kernel
theorem dL_reads_316 : decode cL_reads 316 = .ok (.bipush 12, 2) := by decide +kernel
theorem dL_reads_318 : decode cL_reads 318 = .ok (.if_icmp .eq 19, 3) := by decide +kernel
theorem dL_reads_321 : decode cL_reads 321 = .ok (.iload 12, 2) := by decide +kernel
theorem dL_reads_323 : decode cL_reads 323 = .ok (.bipush 7, 2) := by decide +kernel
theorem dL_reads_325 : decode cL_reads 325 = .ok (.iand, 1) := by decide +kernel
theorem dL_reads_326 : decode cL_reads 326 = .ok (.iconst 2, 1) := by decide +kernel
theorem dL_reads_327 : decode cL_reads 327 = .ok (.if_icmp .ne 14, 3) := by decide +kernel
theorem dL_reads_330 : decode cL_reads 330 = .ok (.iload 13, 2) := by decide +kernel
theorem dL_reads_332 : decode cL_reads 332 = .ok (.bipush 16, 2) := by decide +kernel
theorem dL_reads_334 : decode cL_reads 334 = .ok (.if_icmp .le 7, 3) := by decide +kernel
theorem dL_reads_337 : decode cL_reads 337 = .ok (.iconst 1, 1) := by decide +kernel
theorem dL_reads_338 : decode cL_reads 338 = .ok (.goto 4, 3) := by decide +kernel
theorem dL_reads_341 : decode cL_reads 341 = .ok (.iconst 0, 1) := by decide +kernel
theorem dL_reads_342 : decode cL_reads 342 = .ok (.ior, 1) := by decide +kernel
theorem dL_reads_343 : decode cL_reads 343 = .ok (.istore 10, 2) := by decide +kernel
theorem dL_reads_345 : decode cL_reads 345 = .ok (.iload 10, 2) := by decide +kernel
theorem dL_reads_347 : decode cL_reads 347 = .ok (.ifCond .ne (-331), 3) := by decide +kernel
theorem dL_reads_350 : decode cL_reads 350 = .ok (.iload 8, 2) := by decide +kernel
theorem dL_reads_352 : decode cL_reads 352 = .ok (.ifCond .ge 6, 3) := by decide +kernel
theorem dL_reads_355 : decode cL_reads 355 = .ok (.goto (-339), 3) := by decide +kernel
theorem dL_reads_358 : decode cL_reads 358 = .ok (.bipush 12, 2) := by decide +kernel
theorem dL_reads_360 : decode cL_reads 360 = .ok (.iload 8, 2) := by decide +kernel
theorem dL_reads_362 : decode cL_reads 362 = .ok (.imul, 1) := by decide +kernel
theorem dL_reads_363 : decode cL_reads 363 = .ok (.iload 9, 2) := by decide +kernel
theorem dL_reads_365 : decode cL_reads 365 = .ok (.iadd, 1) := by decide +kernel
theorem dL_reads_366 : decode cL_reads 366 = .ok (.istore 15, 2) := by decide +kernel
theorem dL_reads_368 : decode cL_reads 368 = .ok (.aload_n 3, 1) := by decide +kernel
theorem dL_reads_369 : decode cL_reads 369 = .ok (.iload 15, 2) := by decide +kernel
theorem dL_reads_371 : decode cL_reads 371 = .ok (.iload 12, 2) := by decide +kernel
theorem dL_reads_373 : decode cL_reads 373 = .ok (.iastore, 1) := by decide +kernel
theorem dL_reads_374 : decode cL_reads 374 = .ok (.aload 4, 2) := by decide +kernel
theorem dL_reads_376 : decode cL_reads 376 = .ok (.iload 15, 2) := by decide +kernel
theorem dL_reads_378 : decode cL_reads 378 = .ok (.iload 13, 2) := by decide +kernel
theorem dL_reads_380 : decode cL_reads 380 = .ok (.iastore, 1) := by decide +kernel
theorem dL_reads_381 : decode cL_reads 381 = .ok (.aload 5, 2) := by decide +kernel
theorem dL_reads_383 : decode cL_reads 383 = .ok (.iload 15, 2) := by decide +kernel
theorem dL_reads_385 : decode cL_reads 385 = .ok (.lconst 0, 1) := by decide +kernel
theorem dL_reads_386 : decode cL_reads 386 = .ok (.lastore, 1) := by decide +kernel
theorem dL_reads_387 : decode cL_reads 387 = .ok (.aload 6, 2) := by decide +kernel
theorem dL_reads_389 : decode cL_reads 389 = .ok (.iload 15, 2) := by decide +kernel
theorem dL_reads_391 : decode cL_reads 391 = .ok (.lconst 0, 1) := by decide +kernel
theorem dL_reads_392 : decode cL_reads 392 = .ok (.lastore, 1) := by decide +kernel
theorem dL_reads_393 : decode cL_reads 393 = .ok (.iconst 0, 1) := by decide +kernel
theorem dL_reads_394 : decode cL_reads 394 = .ok (.istore 16, 2) := by decide +kernel
theorem dL_reads_396 : decode cL_reads 396 = .ok (.iload 12, 2) := by decide +kernel
theorem dL_reads_398 : decode cL_reads 398 = .ok (.bipush 7, 2) := by decide +kernel
theorem dL_reads_400 : decode cL_reads 400 = .ok (.iand, 1) := by decide +kernel
theorem dL_reads_401 : decode cL_reads 401 = .ok (.iconst 2, 1) := by decide +kernel
theorem dL_reads_402 : decode cL_reads 402 = .ok (.if_icmp .ne 73, 3) := by decide +kernel
theorem dL_reads_405 : decode cL_reads 405 = .ok (.iload 16, 2) := by decide +kernel
theorem dL_reads_407 : decode cL_reads 407 = .ok (.iload 13, 2) := by decide +kernel
theorem dL_reads_409 : decode cL_reads 409 = .ok (.if_icmp .ge 66, 3) := by decide +kernel
theorem dL_reads_412 : decode cL_reads 412 = .ok (.iload 16, 2) := by decide +kernel
theorem dL_reads_414 : decode cL_reads 414 = .ok (.bipush 8, 2) := by decide +kernel
theorem dL_reads_416 : decode cL_reads 416 = .ok (.if_icmp .ge 28, 3) := by decide +kernel
theorem dL_reads_419 : decode cL_reads 419 = .ok (.aload 5, 2) := by decide +kernel
theorem dL_reads_421 : decode cL_reads 421 = .ok (.iload 15, 2) := by decide +kernel
theorem dL_reads_423 : decode cL_reads 423 = .ok (.dup2, 1) := by decide +kernel
theorem dL_reads_424 : decode cL_reads 424 = .ok (.laload, 1) := by decide +kernel
theorem dL_reads_425 : decode cL_reads 425 = .ok (.aload_n 0, 1) := by decide +kernel
theorem dL_reads_426 : decode cL_reads 426 = .ok (.iload 14, 2) := by decide +kernel
theorem dL_reads_428 : decode cL_reads 428 = .ok (.iload 16, 2) := by decide +kernel
theorem dL_reads_430 : decode cL_reads 430 = .ok (.iadd, 1) := by decide +kernel
theorem dL_reads_431 : decode cL_reads 431 = .ok (.iaload, 1) := by decide +kernel
theorem dL_reads_432 : decode cL_reads 432 = .ok (.i2l, 1) := by decide +kernel
theorem dL_reads_433 : decode cL_reads 433 = .ok (.bipush 8, 2) := by decide +kernel
theorem dL_reads_435 : decode cL_reads 435 = .ok (.iload 16, 2) := by decide +kernel
theorem dL_reads_437 : decode cL_reads 437 = .ok (.imul, 1) := by decide +kernel
theorem dL_reads_438 : decode cL_reads 438 = .ok (.lshl, 1) := by decide +kernel
theorem dL_reads_439 : decode cL_reads 439 = .ok (.lor, 1) := by decide +kernel
theorem dL_reads_440 : decode cL_reads 440 = .ok (.lastore, 1) := by decide +kernel
theorem dL_reads_441 : decode cL_reads 441 = .ok (.goto 28, 3) := by decide +kernel
theorem dL_reads_444 : decode cL_reads 444 = .ok (.aload 6, 2) := by decide +kernel
theorem dL_reads_446 : decode cL_reads 446 = .ok (.iload 15, 2) := by decide +kernel
theorem dL_reads_448 : decode cL_reads 448 = .ok (.dup2, 1) := by decide +kernel
theorem dL_reads_449 : decode cL_reads 449 = .ok (.laload, 1) := by decide +kernel
theorem dL_reads_450 : decode cL_reads 450 = .ok (.aload_n 0, 1) := by decide +kernel
theorem dL_reads_451 : decode cL_reads 451 = .ok (.iload 14, 2) := by decide +kernel
theorem dL_reads_453 : decode cL_reads 453 = .ok (.iload 16, 2) := by decide +kernel
theorem dL_reads_455 : decode cL_reads 455 = .ok (.iadd, 1) := by decide +kernel
theorem dL_reads_456 : decode cL_reads 456 = .ok (.iaload, 1) := by decide +kernel
theorem dL_reads_457 : decode cL_reads 457 = .ok (.i2l, 1) := by decide +kernel
theorem dL_reads_458 : decode cL_reads 458 = .ok (.bipush 8, 2) := by decide +kernel
theorem dL_reads_460 : decode cL_reads 460 = .ok (.iload 16, 2) := by decide +kernel
theorem dL_reads_462 : decode cL_reads 462 = .ok (.bipush 8, 2) := by decide +kernel
theorem dL_reads_464 : decode cL_reads 464 = .ok (.isub, 1) := by decide +kernel
theorem dL_reads_465 : decode cL_reads 465 = .ok (.imul, 1) := by decide +kernel
theorem dL_reads_466 : decode cL_reads 466 = .ok (.lshl, 1) := by decide +kernel
theorem dL_reads_467 : decode cL_reads 467 = .ok (.lor, 1) := by decide +kernel
theorem dL_reads_468 : decode cL_reads 468 = .ok (.lastore, 1) := by decide +kernel
theorem dL_reads_469 : decode cL_reads 469 = .ok (.iinc 16 1, 3) := by decide +kernel
theorem dL_reads_472 : decode cL_reads 472 = .ok (.goto (-76), 3) := by decide +kernel
theorem dL_reads_475 : decode cL_reads 475 = .ok (.iinc 9 1, 3) := by decide +kernel
theorem dL_reads_478 : decode cL_reads 478 = .ok (.goto (-462), 3) := by decide +kernel
theorem dL_reads_481 : decode cL_reads 481 = .ok (.iload 8, 2) := by decide +kernel
theorem dL_reads_483 : decode cL_reads 483 = .ok (.ifCond .lt 14, 3) := by decide +kernel
theorem dL_reads_486 : decode cL_reads 486 = .ok (.iload 10, 2) := by decide +kernel
theorem dL_reads_488 : decode cL_reads 488 = .ok (.ifCond .ne 9, 3) := by decide +kernel
theorem dL_reads_491 : decode cL_reads 491 = .ok (.aload_n 2, 1) := by decide +kernel
theorem dL_reads_492 : decode cL_reads 492 = .ok (.iload 8, 2) := by decide +kernel
theorem dL_reads_494 : decode cL_reads 494 = .ok (.iload 9, 2) := by decide +kernel
theorem dL_reads_496 : decode cL_reads 496 = .ok (.iastore, 1) := by decide +kernel
theorem dL_reads_497 : decode cL_reads 497 = .ok (.iload 10, 2) := by decide +kernel
theorem dL_reads_499 : decode cL_reads 499 = .ok (.ifCond .eq 8, 3) := by decide +kernel
theorem dL_reads_502 : decode cL_reads 502 = .ok (.bipush 9, 2) := by decide +kernel
theorem dL_reads_504 : decode cL_reads 504 = .ok (.goto 4, 3) := by decide +kernel
theorem dL_reads_507 : decode cL_reads 507 = .ok (.iconst 0, 1) := by decide +kernel
theorem dL_reads_508 : decode cL_reads 508 = .ok (.ireturn, 1) := by decide +kernel
theorem dL_schemas_0 : decode cL_schemas 0 = .ok (.iload_n 1, 1) := by decide +kernel
theorem dL_schemas_1 : decode cL_schemas 1 = .ok (.ifCond .eq 10, 3) := by decide +kernel
theorem dL_schemas_4 : decode cL_schemas 4 = .ok (.aload 5, 2) := by decide +kernel
theorem dL_schemas_6 : decode cL_schemas 6 = .ok (.iconst 0, 1) := by decide +kernel
theorem dL_schemas_7 : decode cL_schemas 7 = .ok (.iaload, 1) := by decide +kernel
theorem dL_schemas_8 : decode cL_schemas 8 = .ok (.ifCond .ne 57, 3) := by decide +kernel
theorem dL_schemas_11 : decode cL_schemas 11 = .ok (.aload 5, 2) := by decide +kernel
theorem dL_schemas_13 : decode cL_schemas 13 = .ok (.iconst 0, 1) := by decide +kernel
theorem dL_schemas_14 : decode cL_schemas 14 = .ok (.iaload, 1) := by decide +kernel
theorem dL_schemas_15 : decode cL_schemas 15 = .ok (.iconst 4, 1) := by decide +kernel
theorem dL_schemas_16 : decode cL_schemas 16 = .ok (.if_icmp .ne 22, 3) := by decide +kernel
theorem dL_schemas_19 : decode cL_schemas 19 = .ok (.aload_n 0, 1) := by decide +kernel
theorem dL_schemas_20 : decode cL_schemas 20 = .ok (.iconst 4, 1) := by decide +kernel
theorem dL_schemas_21 : decode cL_schemas 21 = .ok (.iconst 1, 1) := by decide +kernel
theorem dL_schemas_22 : decode cL_schemas 22 = .ok (.iconst 0, 1) := by decide +kernel
theorem dL_schemas_23 : decode cL_schemas 23 = .ok (.iconst 0, 1) := by decide +kernel
theorem dL_schemas_24 : decode cL_schemas 24 = .ok (.invokestatic 122, 3) := by decide +kernel
theorem dL_schemas_27 : decode cL_schemas 27 = .ok (.bipush (-71), 2) := by decide +kernel
theorem dL_schemas_29 : decode cL_schemas 29 = .ok (.if_icmp .ne 7, 3) := by decide +kernel
theorem dL_schemas_32 : decode cL_schemas 32 = .ok (.iconst 1, 1) := by decide +kernel
theorem dL_schemas_33 : decode cL_schemas 33 = .ok (.goto 4, 3) := by decide +kernel
theorem dL_schemas_36 : decode cL_schemas 36 = .ok (.iconst 0, 1) := by decide +kernel
theorem dL_schemas_37 : decode cL_schemas 37 = .ok (.ireturn, 1) := by decide +kernel
theorem dL_schemas_38 : decode cL_schemas 38 = .ok (.aload 5, 2) := by decide +kernel
theorem dL_schemas_40 : decode cL_schemas 40 = .ok (.iconst 0, 1) := by decide +kernel
theorem dL_schemas_41 : decode cL_schemas 41 = .ok (.dup2, 1) := by decide +kernel
theorem dL_schemas_42 : decode cL_schemas 42 = .ok (.iaload, 1) := by decide +kernel
theorem dL_schemas_43 : decode cL_schemas 43 = .ok (.iconst 1, 1) := by decide +kernel
theorem dL_schemas_44 : decode cL_schemas 44 = .ok (.iadd, 1) := by decide +kernel
theorem dL_schemas_45 : decode cL_schemas 45 = .ok (.iastore, 1) := by decide +kernel
theorem dL_schemas_46 : decode cL_schemas 46 = .ok (.aload_n 0, 1) := by decide +kernel
theorem dL_schemas_47 : decode cL_schemas 47 = .ok (.invokevirtual 125, 3) := by decide +kernel
theorem dL_schemas_50 : decode cL_schemas 50 = .ok (.aload 5, 2) := by decide +kernel
theorem dL_schemas_52 : decode cL_schemas 52 = .ok (.iconst 0, 1) := by decide +kernel
theorem dL_schemas_53 : decode cL_schemas 53 = .ok (.iaload, 1) := by decide +kernel
theorem dL_schemas_54 : decode cL_schemas 54 = .ok (.iconst 1, 1) := by decide +kernel
theorem dL_schemas_55 : decode cL_schemas 55 = .ok (.isub, 1) := by decide +kernel
theorem dL_schemas_56 : decode cL_schemas 56 = .ok (.if_icmp .ne 7, 3) := by decide +kernel
theorem dL_schemas_59 : decode cL_schemas 59 = .ok (.iconst 1, 1) := by decide +kernel
theorem dL_schemas_60 : decode cL_schemas 60 = .ok (.goto 4, 3) := by decide +kernel
theorem dL_schemas_63 : decode cL_schemas 63 = .ok (.iconst 0, 1) := by decide +kernel
theorem dL_schemas_64 : decode cL_schemas 64 = .ok (.ireturn, 1) := by decide +kernel
theorem dL_schemas_65 : decode cL_schemas 65 = .ok (.iload_n 2, 1) := by decide +kernel
theorem dL_schemas_66 : decode cL_schemas 66 = .ok (.aload 5, 2) := by decide +kernel
theorem dL_schemas_68 : decode cL_schemas 68 = .ok (.iconst 0, 1) := by decide +kernel
theorem dL_schemas_69 : decode cL_schemas 69 = .ok (.iaload, 1) := by decide +kernel
theorem dL_schemas_70 : decode cL_schemas 70 = .ok (.invokestatic 129, 3) := by decide +kernel
theorem dL_schemas_73 : decode cL_schemas 73 = .ok (.istore 6, 2) := by decide +kernel
theorem dL_schemas_75 : decode cL_schemas 75 = .ok (.iload_n 2, 1) := by decide +kernel
theorem dL_schemas_76 : decode cL_schemas 76 = .ok (.iconst 4, 1) := by decide +kernel
theorem dL_schemas_77 : decode cL_schemas 77 = .ok (.ishr, 1) := by decide +kernel
theorem dL_schemas_78 : decode cL_schemas 78 = .ok (.bipush 6, 2) := by decide +kernel
theorem dL_schemas_80 : decode cL_schemas 80 = .ok (.invokestatic 129, 3) := by decide +kernel
theorem dL_schemas_83 : decode cL_schemas 83 = .ok (.istore 7, 2) := by decide +kernel
theorem dL_schemas_85 : decode cL_schemas 85 = .ok (.iload 7, 2) := by decide +kernel
theorem dL_schemas_87 : decode cL_schemas 87 = .ok (.invokestatic 64, 3) := by decide +kernel
theorem dL_schemas_90 : decode cL_schemas 90 = .ok (.istore 8, 2) := by decide +kernel
theorem dL_schemas_92 : decode cL_schemas 92 = .ok (.aload_n 3, 1) := by decide +kernel
theorem dL_schemas_93 : decode cL_schemas 93 = .ok (.bipush 6, 2) := by decide +kernel
theorem dL_schemas_95 : decode cL_schemas 95 = .ok (.iload 6, 2) := by decide +kernel
theorem dL_schemas_97 : decode cL_schemas 97 = .ok (.imul, 1) := by decide +kernel
theorem dL_schemas_98 : decode cL_schemas 98 = .ok (.iload 7, 2) := by decide +kernel
theorem dL_schemas_100 : decode cL_schemas 100 = .ok (.iadd, 1) := by decide +kernel
theorem dL_schemas_101 : decode cL_schemas 101 = .ok (.iaload, 1) := by decide +kernel
theorem dL_schemas_102 : decode cL_schemas 102 = .ok (.bipush 8, 2) := by decide +kernel
theorem dL_schemas_104 : decode cL_schemas 104 = .ok (.irem, 1) := by decide +kernel
theorem dL_schemas_105 : decode cL_schemas 105 = .ok (.iconst 1, 1) := by decide +kernel
theorem dL_schemas_106 : decode cL_schemas 106 = .ok (.isub, 1) := by decide +kernel
theorem dL_schemas_107 : decode cL_schemas 107 = .ok (.istore 9, 2) := by decide +kernel
theorem dL_schemas_109 : decode cL_schemas 109 = .ok (.iload_n 1, 1) := by decide +kernel
theorem dL_schemas_110 : decode cL_schemas 110 = .ok (.iconst 4, 1) := by decide +kernel
theorem dL_schemas_111 : decode cL_schemas 111 = .ok (.if_icmp .ge 145, 3) := by decide +kernel
theorem dL_schemas_114 : decode cL_schemas 114 = .ok (.iload_n 2, 1) := by decide +kernel
theorem dL_schemas_115 : decode cL_schemas 115 = .ok (.bipush 8, 2) := by decide +kernel
theorem dL_schemas_117 : decode cL_schemas 117 = .ok (.ishr, 1) := by decide +kernel
theorem dL_schemas_118 : decode cL_schemas 118 = .ok (.iconst 5, 1) := by decide +kernel
theorem dL_schemas_119 : decode cL_schemas 119 = .ok (.invokestatic 129, 3) := by decide +kernel
theorem dL_schemas_122 : decode cL_schemas 122 = .ok (.istore 10, 2) := by decide +kernel
theorem dL_schemas_124 : decode cL_schemas 124 = .ok (.iload_n 2, 1) := by decide +kernel
theorem dL_schemas_125 : decode cL_schemas 125 = .ok (.bipush 12, 2) := by decide +kernel
theorem dL_schemas_127 : decode cL_schemas 127 = .ok (.ishr, 1) := by decide +kernel
theorem dL_schemas_128 : decode cL_schemas 128 = .ok (.aload 5, 2) := by decide +kernel
theorem dL_schemas_130 : decode cL_schemas 130 = .ok (.iconst 0, 1) := by decide +kernel
theorem dL_schemas_131 : decode cL_schemas 131 = .ok (.iaload, 1) := by decide +kernel
theorem dL_schemas_132 : decode cL_schemas 132 = .ok (.invokestatic 129, 3) := by decide +kernel
theorem dL_schemas_135 : decode cL_schemas 135 = .ok (.istore 11, 2) := by decide +kernel
theorem dL_schemas_137 : decode cL_schemas 137 = .ok (.aload_n 3, 1) := by decide +kernel
theorem dL_schemas_138 : decode cL_schemas 138 = .ok (.bipush 6, 2) := by decide +kernel
theorem dL_schemas_140 : decode cL_schemas 140 = .ok (.iload 6, 2) := by decide +kernel
theorem dL_schemas_142 : decode cL_schemas 142 = .ok (.imul, 1) := by decide +kernel
theorem dL_schemas_143 : decode cL_schemas 143 = .ok (.iload 7, 2) := by decide +kernel
theorem dL_schemas_145 : decode cL_schemas 145 = .ok (.iadd, 1) := by decide +kernel
theorem dL_schemas_146 : decode cL_schemas 146 = .ok (.iload 10, 2) := by decide +kernel
theorem dL_schemas_148 : decode cL_schemas 148 = .ok (.iconst 1, 1) := by decide +kernel
theorem dL_schemas_149 : decode cL_schemas 149 = .ok (.iadd, 1) := by decide +kernel
theorem dL_schemas_150 : decode cL_schemas 150 = .ok (.bipush 8, 2) := by decide +kernel
theorem dL_schemas_152 : decode cL_schemas 152 = .ok (.iload 11, 2) := by decide +kernel
theorem dL_schemas_154 : decode cL_schemas 154 = .ok (.imul, 1) := by decide +kernel
theorem dL_schemas_155 : decode cL_schemas 155 = .ok (.iadd, 1) := by decide +kernel
theorem dL_schemas_156 : decode cL_schemas 156 = .ok (.iastore, 1) := by decide +kernel
theorem dL_schemas_157 : decode cL_schemas 157 = .ok (.aload 4, 2) := by decide +kernel
theorem dL_schemas_159 : decode cL_schemas 159 = .ok (.bipush 6, 2) := by decide +kernel
theorem dL_schemas_161 : decode cL_schemas 161 = .ok (.iload 6, 2) := by decide +kernel
theorem dL_schemas_163 : decode cL_schemas 163 = .ok (.imul, 1) := by decide +kernel
theorem dL_schemas_164 : decode cL_schemas 164 = .ok (.iload 7, 2) := by decide +kernel
theorem dL_schemas_166 : decode cL_schemas 166 = .ok (.iadd, 1) := by decide +kernel
theorem dL_schemas_167 : decode cL_schemas 167 = .ok (.iconst 0, 1) := by decide +kernel
theorem dL_schemas_168 : decode cL_schemas 168 = .ok (.iastore, 1) := by decide +kernel
theorem dL_schemas_169 : decode cL_schemas 169 = .ok (.aload_n 0, 1) := by decide +kernel
theorem dL_schemas_170 : decode cL_schemas 170 = .ok (.iload 6, 2) := by decide +kernel
theorem dL_schemas_172 : decode cL_schemas 172 = .ok (.bipush 32, 2) := by decide +kernel
theorem dL_schemas_174 : decode cL_schemas 174 = .ok (.iload 10, 2) := by decide +kernel
theorem dL_schemas_176 : decode cL_schemas 176 = .ok (.iload 11, 2) := by decide +kernel
theorem dL_schemas_178 : decode cL_schemas 178 = .ok (.invokestatic 122, 3) := by decide +kernel
theorem dL_schemas_181 : decode cL_schemas 181 = .ok (.bipush (-72), 2) := by decide +kernel
theorem dL_schemas_183 : decode cL_schemas 183 = .ok (.if_icmp .ne 71, 3) := by decide +kernel
theorem dL_schemas_186 : decode cL_schemas 186 = .ok (.aload_n 0, 1) := by decide +kernel
theorem dL_schemas_187 : decode cL_schemas 187 = .ok (.iload 6, 2) := by decide +kernel
theorem dL_schemas_189 : decode cL_schemas 189 = .ok (.iload 8, 2) := by decide +kernel
theorem dL_schemas_191 : decode cL_schemas 191 = .ok (.iconst 5, 1) := by decide +kernel
theorem dL_schemas_192 : decode cL_schemas 192 = .ok (.iload 11, 2) := by decide +kernel
theorem dL_schemas_194 : decode cL_schemas 194 = .ok (.invokestatic 122, 3) := by decide +kernel
theorem dL_schemas_197 : decode cL_schemas 197 = .ok (.bipush (-72), 2) := by decide +kernel
theorem dL_schemas_199 : decode cL_schemas 199 = .ok (.if_icmp .ne 55, 3) := by decide +kernel
theorem dL_schemas_202 : decode cL_schemas 202 = .ok (.aload_n 0, 1) := by decide +kernel
theorem dL_schemas_203 : decode cL_schemas 203 = .ok (.iload 6, 2) := by decide +kernel
theorem dL_schemas_205 : decode cL_schemas 205 = .ok (.iconst 0, 1) := by decide +kernel
theorem dL_schemas_206 : decode cL_schemas 206 = .ok (.iconst 4, 1) := by decide +kernel
theorem dL_schemas_207 : decode cL_schemas 207 = .ok (.aload 5, 2) := by decide +kernel
theorem dL_schemas_209 : decode cL_schemas 209 = .ok (.iconst 0, 1) := by decide +kernel
theorem dL_schemas_210 : decode cL_schemas 210 = .ok (.iaload, 1) := by decide +kernel
theorem dL_schemas_211 : decode cL_schemas 211 = .ok (.invokestatic 122, 3) := by decide +kernel
theorem dL_schemas_214 : decode cL_schemas 214 = .ok (.bipush (-71), 2) := by decide +kernel
theorem dL_schemas_216 : decode cL_schemas 216 = .ok (.if_icmp .ne 38, 3) := by decide +kernel
theorem dL_schemas_219 : decode cL_schemas 219 = .ok (.aload_n 0, 1) := by decide +kernel
theorem dL_schemas_220 : decode cL_schemas 220 = .ok (.iconst (-1), 1) := by decide +kernel
theorem dL_schemas_221 : decode cL_schemas 221 = .ok (.iconst 0, 1) := by decide +kernel
theorem dL_schemas_222 : decode cL_schemas 222 = .ok (.bipush 9, 2) := by decide +kernel
theorem dL_schemas_224 : decode cL_schemas 224 = .ok (.iconst 0, 1) := by decide +kernel
theorem dL_schemas_225 : decode cL_schemas 225 = .ok (.invokestatic 122, 3) := by decide +kernel
theorem dL_schemas_228 : decode cL_schemas 228 = .ok (.bipush (-71), 2) := by decide +kernel
theorem dL_schemas_230 : decode cL_schemas 230 = .ok (.if_icmp .ne 24, 3) := by decide +kernel
theorem dL_schemas_233 : decode cL_schemas 233 = .ok (.aload_n 0, 1) := by decide +kernel
theorem dL_schemas_234 : decode cL_schemas 234 = .ok (.iload 6, 2) := by decide +kernel
theorem dL_schemas_236 : decode cL_schemas 236 = .ok (.iload 8, 2) := by decide +kernel
theorem dL_schemas_238 : decode cL_schemas 238 = .ok (.iload 10, 2) := by decide +kernel
theorem dL_schemas_240 : decode cL_schemas 240 = .ok (.iload 11, 2) := by decide +kernel
theorem dL_schemas_242 : decode cL_schemas 242 = .ok (.invokestatic 122, 3) := by decide +kernel
theorem dL_schemas_245 : decode cL_schemas 245 = .ok (.iload 9, 2) := by decide +kernel
theorem dL_schemas_247 : decode cL_schemas 247 = .ok (.if_icmp .ne 7, 3) := by decide +kernel
theorem dL_schemas_250 : decode cL_schemas 250 = .ok (.iconst 1, 1) := by decide +kernel
theorem dL_schemas_251 : decode cL_schemas 251 = .ok (.goto 4, 3) := by decide +kernel
theorem dL_schemas_254 : decode cL_schemas 254 = .ok (.iconst 0, 1) := by decide +kernel
theorem dL_schemas_255 : decode cL_schemas 255 = .ok (.ireturn, 1) := by decide +kernel
theorem dL_schemas_256 : decode cL_schemas 256 = .ok (.iload_n 1, 1) := by decide +kernel
theorem dL_schemas_257 : decode cL_schemas 257 = .ok (.iconst 4, 1) := by decide +kernel
theorem dL_schemas_258 : decode cL_schemas 258 = .ok (.if_icmp .ne 82, 3) := by decide +kernel
theorem dL_schemas_261 : decode cL_schemas 261 = .ok (.iload_n 2, 1) := by decide +kernel
theorem dL_schemas_262 : decode cL_schemas 262 = .ok (.sipush 12288, 3) := by decide +kernel
theorem dL_schemas_265 : decode cL_schemas 265 = .ok (.iand, 1) := by decide +kernel
theorem dL_schemas_266 : decode cL_schemas 266 = .ok (.ifCond .ne 14, 3) := by decide +kernel
theorem dL_schemas_269 : decode cL_schemas 269 = .ok (.aload_n 3, 1) := by decide +kernel
theorem dL_schemas_270 : decode cL_schemas 270 = .ok (.bipush 6, 2) := by decide +kernel
theorem dL_schemas_272 : decode cL_schemas 272 = .ok (.iload 6, 2) := by decide +kernel
theorem dL_schemas_274 : decode cL_schemas 274 = .ok (.imul, 1) := by decide +kernel
theorem dL_schemas_275 : decode cL_schemas 275 = .ok (.iload 7, 2) := by decide +kernel
theorem dL_schemas_277 : decode cL_schemas 277 = .ok (.iadd, 1) := by decide +kernel
theorem dL_schemas_278 : decode cL_schemas 278 = .ok (.iconst 0, 1) := by decide +kernel
theorem dL_schemas_279 : decode cL_schemas 279 = .ok (.iastore, 1) := by decide +kernel
theorem dL_schemas_280 : decode cL_schemas 280 = .ok (.iload_n 2, 1) := by decide +kernel
theorem dL_schemas_281 : decode cL_schemas 281 = .ok (.sipush 12288, 3) := by decide +kernel
theorem dL_schemas_284 : decode cL_schemas 284 = .ok (.iand, 1) := by decide +kernel
theorem dL_schemas_285 : decode cL_schemas 285 = .ok (.ifCond .le 36, 3) := by decide +kernel
theorem dL_schemas_288 : decode cL_schemas 288 = .ok (.aload_n 0, 1) := by decide +kernel
theorem dL_schemas_289 : decode cL_schemas 289 = .ok (.iload 6, 2) := by decide +kernel
theorem dL_schemas_291 : decode cL_schemas 291 = .ok (.iload 8, 2) := by decide +kernel
theorem dL_schemas_293 : decode cL_schemas 293 = .ok (.invokevirtual 132, 3) := by decide +kernel
theorem dL_schemas_296 : decode cL_schemas 296 = .ok (.iload 9, 2) := by decide +kernel
theorem dL_schemas_298 : decode cL_schemas 298 = .ok (.if_icmp .ne 19, 3) := by decide +kernel
theorem dL_schemas_301 : decode cL_schemas 301 = .ok (.aload_n 0, 1) := by decide +kernel
theorem dL_schemas_302 : decode cL_schemas 302 = .ok (.iload 6, 2) := by decide +kernel
theorem dL_schemas_304 : decode cL_schemas 304 = .ok (.bipush 9, 2) := by decide +kernel
theorem dL_schemas_306 : decode cL_schemas 306 = .ok (.invokevirtual 132, 3) := by decide +kernel
theorem dL_schemas_309 : decode cL_schemas 309 = .ok (.iconst (-1), 1) := by decide +kernel
theorem dL_schemas_310 : decode cL_schemas 310 = .ok (.if_icmp .ne 7, 3) := by decide +kernel
theorem dL_schemas_313 : decode cL_schemas 313 = .ok (.iconst 1, 1) := by decide +kernel
theorem dL_schemas_314 : decode cL_schemas 314 = .ok (.goto 25, 3) := by decide +kernel
theorem dL_schemas_317 : decode cL_schemas 317 = .ok (.iconst 0, 1) := by decide +kernel
theorem dL_schemas_318 : decode cL_schemas 318 = .ok (.goto 21, 3) := by decide +kernel
theorem dL_schemas_321 : decode cL_schemas 321 = .ok (.aload_n 0, 1) := by decide +kernel
theorem dL_schemas_322 : decode cL_schemas 322 = .ok (.iload 6, 2) := by decide +kernel
theorem dL_schemas_324 : decode cL_schemas 324 = .ok (.iload 8, 2) := by decide +kernel
theorem dL_schemas_326 : decode cL_schemas 326 = .ok (.invokevirtual 135, 3) := by decide +kernel
theorem dL_schemas_329 : decode cL_schemas 329 = .ok (.iload 9, 2) := by decide +kernel
theorem dL_schemas_331 : decode cL_schemas 331 = .ok (.if_icmp .ne 7, 3) := by decide +kernel
theorem dL_schemas_334 : decode cL_schemas 334 = .ok (.iconst 1, 1) := by decide +kernel
theorem dL_schemas_335 : decode cL_schemas 335 = .ok (.goto 4, 3) := by decide +kernel
theorem dL_schemas_338 : decode cL_schemas 338 = .ok (.iconst 0, 1) := by decide +kernel
theorem dL_schemas_339 : decode cL_schemas 339 = .ok (.ireturn, 1) := by decide +kernel
theorem dL_schemas_340 : decode cL_schemas 340 = .ok (.iload_n 2, 1) := by decide +kernel
theorem dL_schemas_341 : decode cL_schemas 341 = .ok (.sipush 768, 3) := by decide +kernel
theorem dL_schemas_344 : decode cL_schemas 344 = .ok (.iand, 1) := by decide +kernel
theorem dL_schemas_345 : decode cL_schemas 345 = .ok (.ifCond .ne 10, 3) := by decide +kernel
theorem dL_schemas_348 : decode cL_schemas 348 = .ok (.iload_n 2, 1) := by decide +kernel
theorem dL_schemas_349 : decode cL_schemas 349 = .ok (.bipush 11, 2) := by decide +kernel
theorem dL_schemas_351 : decode cL_schemas 351 = .ok (.ishr, 1) := by decide +kernel
theorem dL_schemas_352 : decode cL_schemas 352 = .ok (.goto 11, 3) := by decide +kernel
theorem dL_schemas_355 : decode cL_schemas 355 = .ok (.iload_n 2, 1) := by decide +kernel
theorem dL_schemas_356 : decode cL_schemas 356 = .ok (.bipush 11, 2) := by decide +kernel
theorem dL_schemas_358 : decode cL_schemas 358 = .ok (.ishr, 1) := by decide +kernel
theorem dL_schemas_359 : decode cL_schemas 359 = .ok (.iconst 3, 1) := by decide +kernel
theorem dL_schemas_360 : decode cL_schemas 360 = .ok (.invokestatic 129, 3) := by decide +kernel
theorem dL_schemas_363 : decode cL_schemas 363 = .ok (.istore 10, 2) := by decide +kernel
theorem dL_schemas_365 : decode cL_schemas 365 = .ok (.iload 9, 2) := by decide +kernel
theorem dL_schemas_367 : decode cL_schemas 367 = .ok (.ifCond .lt 9, 3) := by decide +kernel
theorem dL_schemas_370 : decode cL_schemas 370 = .ok (.iload 9, 2) := by decide +kernel
theorem dL_schemas_372 : decode cL_schemas 372 = .ok (.iconst 2, 1) := by decide +kernel
theorem dL_schemas_373 : decode cL_schemas 373 = .ok (.if_icmp .le 55, 3) := by decide +kernel
theorem dL_schemas_376 : decode cL_schemas 376 = .ok (.aload_n 0, 1) := by decide +kernel
theorem dL_schemas_377 : decode cL_schemas 377 = .ok (.iload 6, 2) := by decide +kernel
theorem dL_schemas_379 : decode cL_schemas 379 = .ok (.iload 8, 2) := by decide +kernel
theorem dL_schemas_381 : decode cL_schemas 381 = .ok (.iload 10, 2) := by decide +kernel
theorem dL_schemas_383 : decode cL_schemas 383 = .ok (.invokestatic 138, 3) := by decide +kernel
theorem dL_schemas_386 : decode cL_schemas 386 = .ok (.bipush (-73), 2) := by decide +kernel
theorem dL_schemas_388 : decode cL_schemas 388 = .ok (.if_icmp .ne 38, 3) := by decide +kernel
theorem dL_schemas_391 : decode cL_schemas 391 = .ok (.aload_n 0, 1) := by decide +kernel
theorem dL_schemas_392 : decode cL_schemas 392 = .ok (.iload 6, 2) := by decide +kernel
theorem dL_schemas_394 : decode cL_schemas 394 = .ok (.bipush 32, 2) := by decide +kernel
theorem dL_schemas_396 : decode cL_schemas 396 = .ok (.iload 10, 2) := by decide +kernel
theorem dL_schemas_398 : decode cL_schemas 398 = .ok (.invokestatic 138, 3) := by decide +kernel
theorem dL_schemas_401 : decode cL_schemas 401 = .ok (.bipush (-72), 2) := by decide +kernel
theorem dL_schemas_403 : decode cL_schemas 403 = .ok (.if_icmp .ne 23, 3) := by decide +kernel
theorem dL_schemas_406 : decode cL_schemas 406 = .ok (.aload_n 0, 1) := by decide +kernel
theorem dL_schemas_407 : decode cL_schemas 407 = .ok (.aload 5, 2) := by decide +kernel
theorem dL_schemas_409 : decode cL_schemas 409 = .ok (.iconst 0, 1) := by decide +kernel
theorem dL_schemas_410 : decode cL_schemas 410 = .ok (.iaload, 1) := by decide +kernel
theorem dL_schemas_411 : decode cL_schemas 411 = .ok (.iconst 0, 1) := by decide +kernel
theorem dL_schemas_412 : decode cL_schemas 412 = .ok (.iload 10, 2) := by decide +kernel
theorem dL_schemas_414 : decode cL_schemas 414 = .ok (.invokestatic 138, 3) := by decide +kernel
theorem dL_schemas_417 : decode cL_schemas 417 = .ok (.bipush (-71), 2) := by decide +kernel
theorem dL_schemas_419 : decode cL_schemas 419 = .ok (.if_icmp .ne 7, 3) := by decide +kernel
theorem dL_schemas_422 : decode cL_schemas 422 = .ok (.iconst 1, 1) := by decide +kernel
theorem dL_schemas_423 : decode cL_schemas 423 = .ok (.goto 4, 3) := by decide +kernel
theorem dL_schemas_426 : decode cL_schemas 426 = .ok (.iconst 0, 1) := by decide +kernel
theorem dL_schemas_427 : decode cL_schemas 427 = .ok (.ireturn, 1) := by decide +kernel
theorem dL_schemas_428 : decode cL_schemas 428 = .ok (.aload 4, 2) := by decide +kernel
theorem dL_schemas_430 : decode cL_schemas 430 = .ok (.bipush 6, 2) := by decide +kernel
theorem dL_schemas_432 : decode cL_schemas 432 = .ok (.iload 6, 2) := by decide +kernel
theorem dL_schemas_434 : decode cL_schemas 434 = .ok (.imul, 1) := by decide +kernel
theorem dL_schemas_435 : decode cL_schemas 435 = .ok (.iload 7, 2) := by decide +kernel
theorem dL_schemas_437 : decode cL_schemas 437 = .ok (.iadd, 1) := by decide +kernel
theorem dL_schemas_438 : decode cL_schemas 438 = .ok (.iaload, 1) := by decide +kernel
theorem dL_schemas_439 : decode cL_schemas 439 = .ok (.istore 11, 2) := by decide +kernel
theorem dL_schemas_441 : decode cL_schemas 441 = .ok (.aload 4, 2) := by decide +kernel
theorem dL_schemas_443 : decode cL_schemas 443 = .ok (.bipush 6, 2) := by decide +kernel
theorem dL_schemas_445 : decode cL_schemas 445 = .ok (.iload 6, 2) := by decide +kernel
theorem dL_schemas_447 : decode cL_schemas 447 = .ok (.imul, 1) := by decide +kernel
theorem dL_schemas_448 : decode cL_schemas 448 = .ok (.iload 7, 2) := by decide +kernel
theorem dL_schemas_450 : decode cL_schemas 450 = .ok (.iadd, 1) := by decide +kernel
theorem dL_schemas_451 : decode cL_schemas 451 = .ok (.iload 10, 2) := by decide +kernel
theorem dL_schemas_453 : decode cL_schemas 453 = .ok (.iastore, 1) := by decide +kernel
theorem dL_schemas_454 : decode cL_schemas 454 = .ok (.aload_n 0, 1) := by decide +kernel
theorem dL_schemas_455 : decode cL_schemas 455 = .ok (.iload 6, 2) := by decide +kernel
theorem dL_schemas_457 : decode cL_schemas 457 = .ok (.iload 8, 2) := by decide +kernel
theorem dL_schemas_459 : decode cL_schemas 459 = .ok (.iload 10, 2) := by decide +kernel
theorem dL_schemas_461 : decode cL_schemas 461 = .ok (.invokevirtual 18, 3) := by decide +kernel
theorem dL_schemas_464 : decode cL_schemas 464 = .ok (.iload 11, 2) := by decide +kernel
theorem dL_schemas_466 : decode cL_schemas 466 = .ok (.if_icmp .ne 7, 3) := by decide +kernel
theorem dL_schemas_469 : decode cL_schemas 469 = .ok (.iconst 1, 1) := by decide +kernel
theorem dL_schemas_470 : decode cL_schemas 470 = .ok (.goto 4, 3) := by decide +kernel
theorem dL_schemas_473 : decode cL_schemas 473 = .ok (.iconst 0, 1) := by decide +kernel
theorem dL_schemas_474 : decode cL_schemas 474 = .ok (.ireturn, 1) := by decide +kernel
theorem dL_isReason_0 : decode cL_isReason 0 = .ok (.aload_n 0, 1) := by decide +kernel
theorem dL_isReason_1 : decode cL_isReason 1 = .ok (.bipush 6, 2) := by decide +kernel
theorem dL_isReason_3 : decode cL_isReason 3 = .ok (.iload_n 2, 1) := by decide +kernel
theorem dL_isReason_4 : decode cL_isReason 4 = .ok (.imul, 1) := by decide +kernel
theorem dL_isReason_5 : decode cL_isReason 5 = .ok (.iload 4, 2) := by decide +kernel
theorem dL_isReason_7 : decode cL_isReason 7 = .ok (.iadd, 1) := by decide +kernel
theorem dL_isReason_8 : decode cL_isReason 8 = .ok (.iaload, 1) := by decide +kernel
theorem dL_isReason_9 : decode cL_isReason 9 = .ok (.bipush 8, 2) := by decide +kernel
theorem dL_isReason_11 : decode cL_isReason 11 = .ok (.irem, 1) := by decide +kernel
theorem dL_isReason_12 : decode cL_isReason 12 = .ok (.iconst 1, 1) := by decide +kernel
theorem dL_isReason_13 : decode cL_isReason 13 = .ok (.isub, 1) := by decide +kernel
theorem dL_isReason_14 : decode cL_isReason 14 = .ok (.istore 5, 2) := by decide +kernel
theorem dL_isReason_16 : decode cL_isReason 16 = .ok (.aload_n 0, 1) := by decide +kernel
theorem dL_isReason_17 : decode cL_isReason 17 = .ok (.bipush 6, 2) := by decide +kernel
theorem dL_isReason_19 : decode cL_isReason 19 = .ok (.iload_n 3, 1) := by decide +kernel
theorem dL_isReason_20 : decode cL_isReason 20 = .ok (.imul, 1) := by decide +kernel
theorem dL_isReason_21 : decode cL_isReason 21 = .ok (.iload 4, 2) := by decide +kernel
theorem dL_isReason_23 : decode cL_isReason 23 = .ok (.iadd, 1) := by decide +kernel
theorem dL_isReason_24 : decode cL_isReason 24 = .ok (.iaload, 1) := by decide +kernel
theorem dL_isReason_25 : decode cL_isReason 25 = .ok (.bipush 8, 2) := by decide +kernel
theorem dL_isReason_27 : decode cL_isReason 27 = .ok (.irem, 1) := by decide +kernel
theorem dL_isReason_28 : decode cL_isReason 28 = .ok (.iconst 1, 1) := by decide +kernel
theorem dL_isReason_29 : decode cL_isReason 29 = .ok (.isub, 1) := by decide +kernel
theorem dL_isReason_30 : decode cL_isReason 30 = .ok (.istore 6, 2) := by decide +kernel
theorem dL_isReason_32 : decode cL_isReason 32 = .ok (.iload 5, 2) := by decide +kernel
theorem dL_isReason_34 : decode cL_isReason 34 = .ok (.ifCond .lt 8, 3) := by decide +kernel
theorem dL_isReason_37 : decode cL_isReason 37 = .ok (.iload 6, 2) := by decide +kernel
theorem dL_isReason_39 : decode cL_isReason 39 = .ok (.ifCond .ge 5, 3) := by decide +kernel
theorem dL_isReason_42 : decode cL_isReason 42 = .ok (.iconst 0, 1) := by decide +kernel
theorem dL_isReason_43 : decode cL_isReason 43 = .ok (.ireturn, 1) := by decide +kernel
theorem dL_isReason_44 : decode cL_isReason 44 = .ok (.iload 5, 2) := by decide +kernel
theorem dL_isReason_46 : decode cL_isReason 46 = .ok (.iconst 3, 1) := by decide +kernel
theorem dL_isReason_47 : decode cL_isReason 47 = .ok (.if_icmp .lt 9, 3) := by decide +kernel
theorem dL_isReason_50 : decode cL_isReason 50 = .ok (.iload 6, 2) := by decide +kernel
theorem dL_isReason_52 : decode cL_isReason 52 = .ok (.iconst 3, 1) := by decide +kernel
theorem dL_isReason_53 : decode cL_isReason 53 = .ok (.if_icmp .ge 16, 3) := by decide +kernel
theorem dL_isReason_56 : decode cL_isReason 56 = .ok (.iload 5, 2) := by decide +kernel
theorem dL_isReason_58 : decode cL_isReason 58 = .ok (.iload 6, 2) := by decide +kernel
theorem dL_isReason_60 : decode cL_isReason 60 = .ok (.if_icmp .eq 7, 3) := by decide +kernel
theorem dL_isReason_63 : decode cL_isReason 63 = .ok (.iconst 1, 1) := by decide +kernel
theorem dL_isReason_64 : decode cL_isReason 64 = .ok (.goto 4, 3) := by decide +kernel
theorem dL_isReason_67 : decode cL_isReason 67 = .ok (.iconst 0, 1) := by decide +kernel
theorem dL_isReason_68 : decode cL_isReason 68 = .ok (.ireturn, 1) := by decide +kernel
theorem dL_isReason_69 : decode cL_isReason 69 = .ok (.iload 5, 2) := by decide +kernel
theorem dL_isReason_71 : decode cL_isReason 71 = .ok (.iconst 4, 1) := by decide +kernel
theorem dL_isReason_72 : decode cL_isReason 72 = .ok (.if_icmp .ne 9, 3) := by decide +kernel
theorem dL_isReason_75 : decode cL_isReason 75 = .ok (.iload 6, 2) := by decide +kernel
theorem dL_isReason_77 : decode cL_isReason 77 = .ok (.iconst 4, 1) := by decide +kernel
theorem dL_isReason_78 : decode cL_isReason 78 = .ok (.if_icmp .eq 5, 3) := by decide +kernel
theorem dL_isReason_81 : decode cL_isReason 81 = .ok (.iconst 0, 1) := by decide +kernel
theorem dL_isReason_82 : decode cL_isReason 82 = .ok (.ireturn, 1) := by decide +kernel
theorem dL_isReason_83 : decode cL_isReason 83 = .ok (.lconst 1, 1) := by decide +kernel
theorem dL_isReason_84 : decode cL_isReason 84 = .ok (.bipush 6, 2) := by decide +kernel
theorem dL_isReason_86 : decode cL_isReason 86 = .ok (.aload_n 0, 1) := by decide +kernel
theorem dL_isReason_87 : decode cL_isReason 87 = .ok (.bipush 6, 2) := by decide +kernel
theorem dL_isReason_89 : decode cL_isReason 89 = .ok (.iload_n 2, 1) := by decide +kernel
theorem dL_isReason_90 : decode cL_isReason 90 = .ok (.imul, 1) := by decide +kernel
theorem dL_isReason_91 : decode cL_isReason 91 = .ok (.iload 4, 2) := by decide +kernel
theorem dL_isReason_93 : decode cL_isReason 93 = .ok (.iadd, 1) := by decide +kernel
theorem dL_isReason_94 : decode cL_isReason 94 = .ok (.iaload, 1) := by decide +kernel
theorem dL_isReason_95 : decode cL_isReason 95 = .ok (.bipush 8, 2) := by decide +kernel
theorem dL_isReason_97 : decode cL_isReason 97 = .ok (.idiv, 1) := by decide +kernel
theorem dL_isReason_98 : decode cL_isReason 98 = .ok (.imul, 1) := by decide +kernel
theorem dL_isReason_99 : decode cL_isReason 99 = .ok (.aload_n 0, 1) := by decide +kernel
theorem dL_isReason_100 : decode cL_isReason 100 = .ok (.bipush 6, 2) := by decide +kernel
theorem dL_isReason_102 : decode cL_isReason 102 = .ok (.iload_n 3, 1) := by decide +kernel
theorem dL_isReason_103 : decode cL_isReason 103 = .ok (.imul, 1) := by decide +kernel
theorem dL_isReason_104 : decode cL_isReason 104 = .ok (.iload 4, 2) := by decide +kernel
theorem dL_isReason_106 : decode cL_isReason 106 = .ok (.iadd, 1) := by decide +kernel
theorem dL_isReason_107 : decode cL_isReason 107 = .ok (.iaload, 1) := by decide +kernel
theorem dL_isReason_108 : decode cL_isReason 108 = .ok (.bipush 8, 2) := by decide +kernel
theorem dL_isReason_110 : decode cL_isReason 110 = .ok (.idiv, 1) := by decide +kernel
theorem dL_isReason_111 : decode cL_isReason 111 = .ok (.iadd, 1) := by decide +kernel
theorem dL_isReason_112 : decode cL_isReason 112 = .ok (.lshl, 1) := by decide +kernel
theorem dL_isReason_113 : decode cL_isReason 113 = .ok (.lconst 1, 1) := by decide +kernel
theorem dL_isReason_114 : decode cL_isReason 114 = .ok (.bipush 6, 2) := by decide +kernel
theorem dL_isReason_116 : decode cL_isReason 116 = .ok (.iload_n 2, 1) := by decide +kernel
theorem dL_isReason_117 : decode cL_isReason 117 = .ok (.imul, 1) := by decide +kernel
theorem dL_isReason_118 : decode cL_isReason 118 = .ok (.iload_n 3, 1) := by decide +kernel
theorem dL_isReason_119 : decode cL_isReason 119 = .ok (.iadd, 1) := by decide +kernel
theorem dL_isReason_120 : decode cL_isReason 120 = .ok (.lshl, 1) := by decide +kernel
theorem dL_isReason_121 : decode cL_isReason 121 = .ok (.ldc2_w 221, 3) := by decide +kernel
theorem dL_isReason_124 : decode cL_isReason 124 = .ok (.lxor, 1) := by decide +kernel
theorem dL_isReason_125 : decode cL_isReason 125 = .ok (.land, 1) := by decide +kernel
theorem dL_isReason_126 : decode cL_isReason 126 = .ok (.lstore 7, 2) := by decide +kernel
theorem dL_isReason_128 : decode cL_isReason 128 = .ok (.iconst 0, 1) := by decide +kernel
theorem dL_isReason_129 : decode cL_isReason 129 = .ok (.istore 9, 2) := by decide +kernel
theorem dL_isReason_131 : decode cL_isReason 131 = .ok (.iload 9, 2) := by decide +kernel
theorem dL_isReason_133 : decode cL_isReason 133 = .ok (.bipush 36, 2) := by decide +kernel
theorem dL_isReason_135 : decode cL_isReason 135 = .ok (.if_icmp .ge 195, 3) := by decide +kernel
theorem dL_isReason_138 : decode cL_isReason 138 = .ok (.iconst 0, 1) := by decide +kernel
theorem dL_isReason_139 : decode cL_isReason 139 = .ok (.istore 10, 2) := by decide +kernel
theorem dL_isReason_141 : decode cL_isReason 141 = .ok (.iload 10, 2) := by decide +kernel
theorem dL_isReason_143 : decode cL_isReason 143 = .ok (.bipush 36, 2) := by decide +kernel
theorem dL_isReason_145 : decode cL_isReason 145 = .ok (.if_icmp .ge 179, 3) := by decide +kernel
theorem dL_isReason_148 : decode cL_isReason 148 = .ok (.lload 7, 2) := by decide +kernel
theorem dL_isReason_150 : decode cL_isReason 150 = .ok (.iload 10, 2) := by decide +kernel
theorem dL_isReason_152 : decode cL_isReason 152 = .ok (.lshr, 1) := by decide +kernel
theorem dL_isReason_153 : decode cL_isReason 153 = .ok (.lconst 1, 1) := by decide +kernel
theorem dL_isReason_154 : decode cL_isReason 154 = .ok (.land, 1) := by decide +kernel
theorem dL_isReason_155 : decode cL_isReason 155 = .ok (.lconst 0, 1) := by decide +kernel
theorem dL_isReason_156 : decode cL_isReason 156 = .ok (.lcmp, 1) := by decide +kernel
theorem dL_isReason_157 : decode cL_isReason 157 = .ok (.ifCond .ne 6, 3) := by decide +kernel
theorem dL_isReason_160 : decode cL_isReason 160 = .ok (.goto 158, 3) := by decide +kernel
theorem dL_isReason_163 : decode cL_isReason 163 = .ok (.iconst 0, 1) := by decide +kernel
theorem dL_isReason_164 : decode cL_isReason 164 = .ok (.istore 11, 2) := by decide +kernel
theorem dL_isReason_166 : decode cL_isReason 166 = .ok (.iload 11, 2) := by decide +kernel
theorem dL_isReason_168 : decode cL_isReason 168 = .ok (.bipush 6, 2) := by decide +kernel
theorem dL_isReason_170 : decode cL_isReason 170 = .ok (.if_icmp .ge 148, 3) := by decide +kernel
theorem dL_isReason_173 : decode cL_isReason 173 = .ok (.aload_n 0, 1) := by decide +kernel
theorem dL_isReason_174 : decode cL_isReason 174 = .ok (.bipush 6, 2) := by decide +kernel
theorem dL_isReason_176 : decode cL_isReason 176 = .ok (.iload 10, 2) := by decide +kernel
theorem dL_isReason_178 : decode cL_isReason 178 = .ok (.bipush 6, 2) := by decide +kernel
theorem dL_isReason_180 : decode cL_isReason 180 = .ok (.idiv, 1) := by decide +kernel
theorem dL_isReason_181 : decode cL_isReason 181 = .ok (.imul, 1) := by decide +kernel
theorem dL_isReason_182 : decode cL_isReason 182 = .ok (.iload 11, 2) := by decide +kernel
theorem dL_isReason_184 : decode cL_isReason 184 = .ok (.iadd, 1) := by decide +kernel
theorem dL_isReason_185 : decode cL_isReason 185 = .ok (.iaload, 1) := by decide +kernel
theorem dL_isReason_186 : decode cL_isReason 186 = .ok (.bipush 8, 2) := by decide +kernel
theorem dL_isReason_188 : decode cL_isReason 188 = .ok (.irem, 1) := by decide +kernel
theorem dL_isReason_189 : decode cL_isReason 189 = .ok (.iconst 1, 1) := by decide +kernel
theorem dL_isReason_190 : decode cL_isReason 190 = .ok (.isub, 1) := by decide +kernel
theorem dL_isReason_191 : decode cL_isReason 191 = .ok (.istore 12, 2) := by decide +kernel
theorem dL_isReason_193 : decode cL_isReason 193 = .ok (.aload_n 0, 1) := by decide +kernel
theorem dL_isReason_194 : decode cL_isReason 194 = .ok (.bipush 6, 2) := by decide +kernel
theorem dL_isReason_196 : decode cL_isReason 196 = .ok (.iload 10, 2) := by decide +kernel
theorem dL_isReason_198 : decode cL_isReason 198 = .ok (.bipush 6, 2) := by decide +kernel
theorem dL_isReason_200 : decode cL_isReason 200 = .ok (.irem, 1) := by decide +kernel
theorem dL_isReason_201 : decode cL_isReason 201 = .ok (.imul, 1) := by decide +kernel
theorem dL_isReason_202 : decode cL_isReason 202 = .ok (.iload 11, 2) := by decide +kernel
theorem dL_isReason_204 : decode cL_isReason 204 = .ok (.iadd, 1) := by decide +kernel
theorem dL_isReason_205 : decode cL_isReason 205 = .ok (.iaload, 1) := by decide +kernel
theorem dL_isReason_206 : decode cL_isReason 206 = .ok (.bipush 8, 2) := by decide +kernel
theorem dL_isReason_208 : decode cL_isReason 208 = .ok (.irem, 1) := by decide +kernel
theorem dL_isReason_209 : decode cL_isReason 209 = .ok (.iconst 1, 1) := by decide +kernel
theorem dL_isReason_210 : decode cL_isReason 210 = .ok (.isub, 1) := by decide +kernel
theorem dL_isReason_211 : decode cL_isReason 211 = .ok (.istore 13, 2) := by decide +kernel
theorem dL_isReason_213 : decode cL_isReason 213 = .ok (.iload 12, 2) := by decide +kernel
theorem dL_isReason_215 : decode cL_isReason 215 = .ok (.ifCond .lt 29, 3) := by decide +kernel
theorem dL_isReason_218 : decode cL_isReason 218 = .ok (.iload 13, 2) := by decide +kernel
theorem dL_isReason_220 : decode cL_isReason 220 = .ok (.ifCond .lt 24, 3) := by decide +kernel
theorem dL_isReason_223 : decode cL_isReason 223 = .ok (.iload 12, 2) := by decide +kernel
theorem dL_isReason_225 : decode cL_isReason 225 = .ok (.iconst 3, 1) := by decide +kernel
theorem dL_isReason_226 : decode cL_isReason 226 = .ok (.if_icmp .lt 9, 3) := by decide +kernel
theorem dL_isReason_229 : decode cL_isReason 229 = .ok (.iload 13, 2) := by decide +kernel
theorem dL_isReason_231 : decode cL_isReason 231 = .ok (.iconst 3, 1) := by decide +kernel
theorem dL_isReason_232 : decode cL_isReason 232 = .ok (.if_icmp .ge 12, 3) := by decide +kernel
theorem dL_isReason_235 : decode cL_isReason 235 = .ok (.iload 12, 2) := by decide +kernel
theorem dL_isReason_237 : decode cL_isReason 237 = .ok (.iload 13, 2) := by decide +kernel
theorem dL_isReason_239 : decode cL_isReason 239 = .ok (.if_icmp .eq 5, 3) := by decide +kernel
theorem dL_isReason_242 : decode cL_isReason 242 = .ok (.iconst 1, 1) := by decide +kernel
theorem dL_isReason_243 : decode cL_isReason 243 = .ok (.ireturn, 1) := by decide +kernel
theorem dL_isReason_244 : decode cL_isReason 244 = .ok (.iload 12, 2) := by decide +kernel
theorem dL_isReason_246 : decode cL_isReason 246 = .ok (.iconst 4, 1) := by decide +kernel
theorem dL_isReason_247 : decode cL_isReason 247 = .ok (.if_icmp .ne 65, 3) := by decide +kernel
theorem dL_isReason_250 : decode cL_isReason 250 = .ok (.iload 13, 2) := by decide +kernel
theorem dL_isReason_252 : decode cL_isReason 252 = .ok (.iconst 4, 1) := by decide +kernel
theorem dL_isReason_253 : decode cL_isReason 253 = .ok (.if_icmp .ne 59, 3) := by decide +kernel
theorem dL_isReason_256 : decode cL_isReason 256 = .ok (.lload 7, 2) := by decide +kernel
theorem dL_isReason_258 : decode cL_isReason 258 = .ok (.lconst 1, 1) := by decide +kernel
theorem dL_isReason_259 : decode cL_isReason 259 = .ok (.bipush 6, 2) := by decide +kernel
theorem dL_isReason_261 : decode cL_isReason 261 = .ok (.aload_n 0, 1) := by decide +kernel
theorem dL_isReason_262 : decode cL_isReason 262 = .ok (.bipush 6, 2) := by decide +kernel
theorem dL_isReason_264 : decode cL_isReason 264 = .ok (.iload 10, 2) := by decide +kernel
theorem dL_isReason_266 : decode cL_isReason 266 = .ok (.bipush 6, 2) := by decide +kernel
theorem dL_isReason_268 : decode cL_isReason 268 = .ok (.idiv, 1) := by decide +kernel
theorem dL_isReason_269 : decode cL_isReason 269 = .ok (.imul, 1) := by decide +kernel
theorem dL_isReason_270 : decode cL_isReason 270 = .ok (.iload 11, 2) := by decide +kernel
theorem dL_isReason_272 : decode cL_isReason 272 = .ok (.iadd, 1) := by decide +kernel
theorem dL_isReason_273 : decode cL_isReason 273 = .ok (.iaload, 1) := by decide +kernel
theorem dL_isReason_274 : decode cL_isReason 274 = .ok (.bipush 8, 2) := by decide +kernel
theorem dL_isReason_276 : decode cL_isReason 276 = .ok (.idiv, 1) := by decide +kernel
theorem dL_isReason_277 : decode cL_isReason 277 = .ok (.imul, 1) := by decide +kernel
theorem dL_isReason_278 : decode cL_isReason 278 = .ok (.aload_n 0, 1) := by decide +kernel
theorem dL_isReason_279 : decode cL_isReason 279 = .ok (.bipush 6, 2) := by decide +kernel
theorem dL_isReason_281 : decode cL_isReason 281 = .ok (.iload 10, 2) := by decide +kernel
theorem dL_isReason_283 : decode cL_isReason 283 = .ok (.bipush 6, 2) := by decide +kernel
theorem dL_isReason_285 : decode cL_isReason 285 = .ok (.irem, 1) := by decide +kernel
theorem dL_isReason_286 : decode cL_isReason 286 = .ok (.imul, 1) := by decide +kernel
theorem dL_isReason_287 : decode cL_isReason 287 = .ok (.iload 11, 2) := by decide +kernel
theorem dL_isReason_289 : decode cL_isReason 289 = .ok (.iadd, 1) := by decide +kernel
theorem dL_isReason_290 : decode cL_isReason 290 = .ok (.iaload, 1) := by decide +kernel
theorem dL_isReason_291 : decode cL_isReason 291 = .ok (.bipush 8, 2) := by decide +kernel
theorem dL_isReason_293 : decode cL_isReason 293 = .ok (.idiv, 1) := by decide +kernel
theorem dL_isReason_294 : decode cL_isReason 294 = .ok (.iadd, 1) := by decide +kernel
theorem dL_isReason_295 : decode cL_isReason 295 = .ok (.lshl, 1) := by decide +kernel
theorem dL_isReason_296 : decode cL_isReason 296 = .ok (.lconst 1, 1) := by decide +kernel
theorem dL_isReason_297 : decode cL_isReason 297 = .ok (.bipush 6, 2) := by decide +kernel
theorem dL_isReason_299 : decode cL_isReason 299 = .ok (.iload_n 2, 1) := by decide +kernel
theorem dL_isReason_300 : decode cL_isReason 300 = .ok (.imul, 1) := by decide +kernel
theorem dL_isReason_301 : decode cL_isReason 301 = .ok (.iload_n 3, 1) := by decide +kernel
theorem dL_isReason_302 : decode cL_isReason 302 = .ok (.iadd, 1) := by decide +kernel
theorem dL_isReason_303 : decode cL_isReason 303 = .ok (.lshl, 1) := by decide +kernel
theorem dL_isReason_304 : decode cL_isReason 304 = .ok (.ldc2_w 221, 3) := by decide +kernel
theorem dL_isReason_307 : decode cL_isReason 307 = .ok (.lxor, 1) := by decide +kernel
theorem dL_isReason_308 : decode cL_isReason 308 = .ok (.land, 1) := by decide +kernel
theorem dL_isReason_309 : decode cL_isReason 309 = .ok (.lor, 1) := by decide +kernel
theorem dL_isReason_310 : decode cL_isReason 310 = .ok (.lstore 7, 2) := by decide +kernel
theorem dL_isReason_312 : decode cL_isReason 312 = .ok (.iinc 11 1, 3) := by decide +kernel
theorem dL_isReason_315 : decode cL_isReason 315 = .ok (.goto (-149), 3) := by decide +kernel
theorem dL_isReason_318 : decode cL_isReason 318 = .ok (.iinc 10 1, 3) := by decide +kernel
theorem dL_isReason_321 : decode cL_isReason 321 = .ok (.goto (-180), 3) := by decide +kernel
theorem dL_isReason_324 : decode cL_isReason 324 = .ok (.iinc 9 1, 3) := by decide +kernel
theorem dL_isReason_327 : decode cL_isReason 327 = .ok (.goto (-196), 3) := by decide +kernel
theorem dL_isReason_330 : decode cL_isReason 330 = .ok (.iconst 0, 1) := by decide +kernel
theorem dL_isReason_331 : decode cL_isReason 331 = .ok (.ireturn, 1) := by decide +kernel
theorem dL_isMessage_0 : decode cL_isMessage 0 = .ok (.aload 4, 2) := by decide +kernel
theorem dL_isMessage_2 : decode cL_isMessage 2 = .ok (.iload_n 1, 1) := by decide +kernel
theorem dL_isMessage_3 : decode cL_isMessage 3 = .ok (.iaload, 1) := by decide +kernel
theorem dL_isMessage_4 : decode cL_isMessage 4 = .ok (.ifCond .ne 19, 3) := by decide +kernel
theorem dL_isMessage_7 : decode cL_isMessage 7 = .ok (.aload_n 0, 1) := by decide +kernel
theorem dL_isMessage_8 : decode cL_isMessage 8 = .ok (.iload_n 1, 1) := by decide +kernel
theorem dL_isMessage_9 : decode cL_isMessage 9 = .ok (.invokestatic 152, 3) := by decide +kernel
theorem dL_isMessage_12 : decode cL_isMessage 12 = .ok (.bipush (-71), 2) := by decide +kernel
theorem dL_isMessage_14 : decode cL_isMessage 14 = .ok (.if_icmp .ne 7, 3) := by decide +kernel
theorem dL_isMessage_17 : decode cL_isMessage 17 = .ok (.iconst 1, 1) := by decide +kernel
theorem dL_isMessage_18 : decode cL_isMessage 18 = .ok (.goto 4, 3) := by decide +kernel
theorem dL_isMessage_21 : decode cL_isMessage 21 = .ok (.iconst 0, 1) := by decide +kernel
theorem dL_isMessage_22 : decode cL_isMessage 22 = .ok (.ireturn, 1) := by decide +kernel
theorem dL_isMessage_23 : decode cL_isMessage 23 = .ok (.iconst 0, 1) := by decide +kernel
theorem dL_isMessage_24 : decode cL_isMessage 24 = .ok (.istore 10, 2) := by decide +kernel
theorem dL_isMessage_26 : decode cL_isMessage 26 = .ok (.bipush 12, 2) := by decide +kernel
theorem dL_isMessage_28 : decode cL_isMessage 28 = .ok (.iload_n 1, 1) := by decide +kernel
theorem dL_isMessage_29 : decode cL_isMessage 29 = .ok (.imul, 1) := by decide +kernel
theorem dL_isMessage_30 : decode cL_isMessage 30 = .ok (.istore 11, 2) := by decide +kernel
theorem dL_isMessage_32 : decode cL_isMessage 32 = .ok (.iload 11, 2) := by decide +kernel
theorem dL_isMessage_34 : decode cL_isMessage 34 = .ok (.bipush 12, 2) := by decide +kernel
theorem dL_isMessage_36 : decode cL_isMessage 36 = .ok (.iload_n 1, 1) := by decide +kernel
theorem dL_isMessage_37 : decode cL_isMessage 37 = .ok (.imul, 1) := by decide +kernel
theorem dL_isMessage_38 : decode cL_isMessage 38 = .ok (.aload 5, 2) := by decide +kernel
theorem dL_isMessage_40 : decode cL_isMessage 40 = .ok (.iload_n 1, 1) := by decide +kernel
theorem dL_isMessage_41 : decode cL_isMessage 41 = .ok (.iaload, 1) := by decide +kernel
theorem dL_isMessage_42 : decode cL_isMessage 42 = .ok (.iadd, 1) := by decide +kernel
theorem dL_isMessage_43 : decode cL_isMessage 43 = .ok (.if_icmp .ge 53, 3) := by decide +kernel
theorem dL_isMessage_46 : decode cL_isMessage 46 = .ok (.aload_n 2, 1) := by decide +kernel
theorem dL_isMessage_47 : decode cL_isMessage 47 = .ok (.aload 4, 2) := by decide +kernel
theorem dL_isMessage_49 : decode cL_isMessage 49 = .ok (.iload_n 1, 1) := by decide +kernel
theorem dL_isMessage_50 : decode cL_isMessage 50 = .ok (.iaload, 1) := by decide +kernel
theorem dL_isMessage_51 : decode cL_isMessage 51 = .ok (.iconst 1, 1) := by decide +kernel
theorem dL_isMessage_52 : decode cL_isMessage 52 = .ok (.isub, 1) := by decide +kernel
theorem dL_isMessage_53 : decode cL_isMessage 53 = .ok (.aload 6, 2) := by decide +kernel
theorem dL_isMessage_55 : decode cL_isMessage 55 = .ok (.iload 11, 2) := by decide +kernel
theorem dL_isMessage_57 : decode cL_isMessage 57 = .ok (.iaload, 1) := by decide +kernel
theorem dL_isMessage_58 : decode cL_isMessage 58 = .ok (.invokestatic 82, 3) := by decide +kernel
theorem dL_isMessage_61 : decode cL_isMessage 61 = .ok (.ifCond .eq 6, 3) := by decide +kernel
theorem dL_isMessage_64 : decode cL_isMessage 64 = .ok (.goto 26, 3) := by decide +kernel
theorem dL_isMessage_67 : decode cL_isMessage 67 = .ok (.aload_n 0, 1) := by decide +kernel
theorem dL_isMessage_68 : decode cL_isMessage 68 = .ok (.iload_n 1, 1) := by decide +kernel
theorem dL_isMessage_69 : decode cL_isMessage 69 = .ok (.iload 10, 2) := by decide +kernel
theorem dL_isMessage_71 : decode cL_isMessage 71 = .ok (.invokestatic 223, 3) := by decide +kernel
theorem dL_isMessage_74 : decode cL_isMessage 74 = .ok (.aload 6, 2) := by decide +kernel
theorem dL_isMessage_76 : decode cL_isMessage 76 = .ok (.iload 11, 2) := by decide +kernel
theorem dL_isMessage_78 : decode cL_isMessage 78 = .ok (.iaload, 1) := by decide +kernel
theorem dL_isMessage_79 : decode cL_isMessage 79 = .ok (.bipush 8, 2) := by decide +kernel
theorem dL_isMessage_81 : decode cL_isMessage 81 = .ok (.idiv, 1) := by decide +kernel
theorem dL_isMessage_82 : decode cL_isMessage 82 = .ok (.if_icmp .eq 5, 3) := by decide +kernel
theorem dL_isMessage_85 : decode cL_isMessage 85 = .ok (.iconst 0, 1) := by decide +kernel
theorem dL_isMessage_86 : decode cL_isMessage 86 = .ok (.ireturn, 1) := by decide +kernel
theorem dL_isMessage_87 : decode cL_isMessage 87 = .ok (.iinc 10 1, 3) := by decide +kernel
theorem dL_isMessage_90 : decode cL_isMessage 90 = .ok (.iinc 11 1, 3) := by decide +kernel
theorem dL_isMessage_93 : decode cL_isMessage 93 = .ok (.goto (-61), 3) := by decide +kernel
theorem dL_isMessage_96 : decode cL_isMessage 96 = .ok (.iconst 0, 1) := by decide +kernel
theorem dL_isMessage_97 : decode cL_isMessage 97 = .ok (.istore 11, 2) := by decide +kernel
theorem dL_isMessage_99 : decode cL_isMessage 99 = .ok (.iload 11, 2) := by decide +kernel
theorem dL_isMessage_101 : decode cL_isMessage 101 = .ok (.bipush 6, 2) := by decide +kernel
theorem dL_isMessage_103 : decode cL_isMessage 103 = .ok (.if_icmp .ge 212, 3) := by decide +kernel
theorem dL_isMessage_106 : decode cL_isMessage 106 = .ok (.iload 11, 2) := by decide +kernel
theorem dL_isMessage_108 : decode cL_isMessage 108 = .ok (.invokestatic 64, 3) := by decide +kernel
theorem dL_isMessage_111 : decode cL_isMessage 111 = .ok (.istore 12, 2) := by decide +kernel
theorem dL_isMessage_113 : decode cL_isMessage 113 = .ok (.aload_n 2, 1) := by decide +kernel
theorem dL_isMessage_114 : decode cL_isMessage 114 = .ok (.aload 4, 2) := by decide +kernel
theorem dL_isMessage_116 : decode cL_isMessage 116 = .ok (.iload_n 1, 1) := by decide +kernel
theorem dL_isMessage_117 : decode cL_isMessage 117 = .ok (.iaload, 1) := by decide +kernel
theorem dL_isMessage_118 : decode cL_isMessage 118 = .ok (.iconst 1, 1) := by decide +kernel
theorem dL_isMessage_119 : decode cL_isMessage 119 = .ok (.isub, 1) := by decide +kernel
theorem dL_isMessage_120 : decode cL_isMessage 120 = .ok (.iload 12, 2) := by decide +kernel
theorem dL_isMessage_122 : decode cL_isMessage 122 = .ok (.invokestatic 69, 3) := by decide +kernel
theorem dL_isMessage_125 : decode cL_isMessage 125 = .ok (.istore 13, 2) := by decide +kernel
theorem dL_isMessage_127 : decode cL_isMessage 127 = .ok (.aload_n 2, 1) := by decide +kernel
theorem dL_isMessage_128 : decode cL_isMessage 128 = .ok (.aload 4, 2) := by decide +kernel
theorem dL_isMessage_130 : decode cL_isMessage 130 = .ok (.aload 5, 2) := by decide +kernel
theorem dL_isMessage_132 : decode cL_isMessage 132 = .ok (.aload 6, 2) := by decide +kernel
theorem dL_isMessage_134 : decode cL_isMessage 134 = .ok (.iload_n 1, 1) := by decide +kernel
theorem dL_isMessage_135 : decode cL_isMessage 135 = .ok (.iload 12, 2) := by decide +kernel
theorem dL_isMessage_137 : decode cL_isMessage 137 = .ok (.invokestatic 86, 3) := by decide +kernel
theorem dL_isMessage_140 : decode cL_isMessage 140 = .ok (.istore 14, 2) := by decide +kernel
theorem dL_isMessage_142 : decode cL_isMessage 142 = .ok (.aload_n 0, 1) := by decide +kernel
theorem dL_isMessage_143 : decode cL_isMessage 143 = .ok (.iload_n 1, 1) := by decide +kernel
theorem dL_isMessage_144 : decode cL_isMessage 144 = .ok (.iload 12, 2) := by decide +kernel
theorem dL_isMessage_146 : decode cL_isMessage 146 = .ok (.invokevirtual 191, 3) := by decide +kernel
theorem dL_isMessage_149 : decode cL_isMessage 149 = .ok (.iload 14, 2) := by decide +kernel
theorem dL_isMessage_151 : decode cL_isMessage 151 = .ok (.ifCond .lt 7, 3) := by decide +kernel
theorem dL_isMessage_154 : decode cL_isMessage 154 = .ok (.iconst 1, 1) := by decide +kernel
theorem dL_isMessage_155 : decode cL_isMessage 155 = .ok (.goto 4, 3) := by decide +kernel
theorem dL_isMessage_158 : decode cL_isMessage 158 = .ok (.iconst 0, 1) := by decide +kernel
theorem dL_isMessage_159 : decode cL_isMessage 159 = .ok (.if_icmp .eq 5, 3) := by decide +kernel
theorem dL_isMessage_162 : decode cL_isMessage 162 = .ok (.iconst 0, 1) := by decide +kernel
theorem dL_isMessage_163 : decode cL_isMessage 163 = .ok (.ireturn, 1) := by decide +kernel
theorem dL_isMessage_164 : decode cL_isMessage 164 = .ok (.iload 13, 2) := by decide +kernel
theorem dL_isMessage_166 : decode cL_isMessage 166 = .ok (.ifCond .lt 52, 3) := by decide +kernel
theorem dL_isMessage_169 : decode cL_isMessage 169 = .ok (.iload 13, 2) := by decide +kernel
theorem dL_isMessage_171 : decode cL_isMessage 171 = .ok (.iconst 3, 1) := by decide +kernel
theorem dL_isMessage_172 : decode cL_isMessage 172 = .ok (.if_icmp .ge 46, 3) := by decide +kernel
theorem dL_isMessage_175 : decode cL_isMessage 175 = .ok (.aload_n 0, 1) := by decide +kernel
theorem dL_isMessage_176 : decode cL_isMessage 176 = .ok (.iload_n 1, 1) := by decide +kernel
theorem dL_isMessage_177 : decode cL_isMessage 177 = .ok (.iload 12, 2) := by decide +kernel
theorem dL_isMessage_179 : decode cL_isMessage 179 = .ok (.invokevirtual 52, 3) := by decide +kernel
theorem dL_isMessage_182 : decode cL_isMessage 182 = .ok (.iload 14, 2) := by decide +kernel
theorem dL_isMessage_184 : decode cL_isMessage 184 = .ok (.ifCond .ge 19, 3) := by decide +kernel
theorem dL_isMessage_187 : decode cL_isMessage 187 = .ok (.aload_n 3, 1) := by decide +kernel
theorem dL_isMessage_188 : decode cL_isMessage 188 = .ok (.aload 4, 2) := by decide +kernel
theorem dL_isMessage_190 : decode cL_isMessage 190 = .ok (.iload_n 1, 1) := by decide +kernel
theorem dL_isMessage_191 : decode cL_isMessage 191 = .ok (.iaload, 1) := by decide +kernel
theorem dL_isMessage_192 : decode cL_isMessage 192 = .ok (.iconst 1, 1) := by decide +kernel
theorem dL_isMessage_193 : decode cL_isMessage 193 = .ok (.isub, 1) := by decide +kernel
theorem dL_isMessage_194 : decode cL_isMessage 194 = .ok (.iload 12, 2) := by decide +kernel
theorem dL_isMessage_196 : decode cL_isMessage 196 = .ok (.invokestatic 93, 3) := by decide +kernel
theorem dL_isMessage_199 : decode cL_isMessage 199 = .ok (.iaload, 1) := by decide +kernel
theorem dL_isMessage_200 : decode cL_isMessage 200 = .ok (.goto 13, 3) := by decide +kernel
theorem dL_isMessage_203 : decode cL_isMessage 203 = .ok (.iload 13, 2) := by decide +kernel
theorem dL_isMessage_205 : decode cL_isMessage 205 = .ok (.aload 7, 2) := by decide +kernel
theorem dL_isMessage_207 : decode cL_isMessage 207 = .ok (.iload 14, 2) := by decide +kernel
theorem dL_isMessage_209 : decode cL_isMessage 209 = .ok (.iaload, 1) := by decide +kernel
theorem dL_isMessage_210 : decode cL_isMessage 210 = .ok (.invokestatic 90, 3) := by decide +kernel
theorem dL_isMessage_213 : decode cL_isMessage 213 = .ok (.if_icmp .eq 5, 3) := by decide +kernel
theorem dL_isMessage_216 : decode cL_isMessage 216 = .ok (.iconst 0, 1) := by decide +kernel
theorem dL_isMessage_217 : decode cL_isMessage 217 = .ok (.ireturn, 1) := by decide +kernel
theorem dL_isMessage_218 : decode cL_isMessage 218 = .ok (.iconst 0, 1) := by decide +kernel
theorem dL_isMessage_219 : decode cL_isMessage 219 = .ok (.istore 15, 2) := by decide +kernel
theorem dL_isMessage_221 : decode cL_isMessage 221 = .ok (.iload 13, 2) := by decide +kernel
theorem dL_isMessage_223 : decode cL_isMessage 223 = .ok (.iconst 2, 1) := by decide +kernel
theorem dL_isMessage_224 : decode cL_isMessage 224 = .ok (.if_icmp .le 50, 3) := by decide +kernel
theorem dL_isMessage_227 : decode cL_isMessage 227 = .ok (.iload 14, 2) := by decide +kernel
theorem dL_isMessage_229 : decode cL_isMessage 229 = .ok (.ifCond .lt 45, 3) := by decide +kernel
theorem dL_isMessage_232 : decode cL_isMessage 232 = .ok (.iload 15, 2) := by decide +kernel
theorem dL_isMessage_234 : decode cL_isMessage 234 = .ok (.aload 7, 2) := by decide +kernel
theorem dL_isMessage_236 : decode cL_isMessage 236 = .ok (.iload 14, 2) := by decide +kernel
theorem dL_isMessage_238 : decode cL_isMessage 238 = .ok (.iaload, 1) := by decide +kernel
theorem dL_isMessage_239 : decode cL_isMessage 239 = .ok (.if_icmp .ge 35, 3) := by decide +kernel
theorem dL_isMessage_242 : decode cL_isMessage 242 = .ok (.aload_n 0, 1) := by decide +kernel
theorem dL_isMessage_243 : decode cL_isMessage 243 = .ok (.iload_n 1, 1) := by decide +kernel
theorem dL_isMessage_244 : decode cL_isMessage 244 = .ok (.iload 12, 2) := by decide +kernel
theorem dL_isMessage_246 : decode cL_isMessage 246 = .ok (.iload 15, 2) := by decide +kernel
theorem dL_isMessage_248 : decode cL_isMessage 248 = .ok (.invokestatic 180, 3) := by decide +kernel
theorem dL_isMessage_251 : decode cL_isMessage 251 = .ok (.aload 8, 2) := by decide +kernel
theorem dL_isMessage_253 : decode cL_isMessage 253 = .ok (.aload 9, 2) := by decide +kernel
theorem dL_isMessage_255 : decode cL_isMessage 255 = .ok (.iload 14, 2) := by decide +kernel
theorem dL_isMessage_257 : decode cL_isMessage 257 = .ok (.iload 15, 2) := by decide +kernel
theorem dL_isMessage_259 : decode cL_isMessage 259 = .ok (.invokestatic 103, 3) := by decide +kernel
theorem dL_isMessage_262 : decode cL_isMessage 262 = .ok (.i2b, 1) := by decide +kernel
theorem dL_isMessage_263 : decode cL_isMessage 263 = .ok (.if_icmp .eq 5, 3) := by decide +kernel
theorem dL_isMessage_266 : decode cL_isMessage 266 = .ok (.iconst 0, 1) := by decide +kernel
theorem dL_isMessage_267 : decode cL_isMessage 267 = .ok (.ireturn, 1) := by decide +kernel
theorem dL_isMessage_268 : decode cL_isMessage 268 = .ok (.iinc 15 1, 3) := by decide +kernel
theorem dL_isMessage_271 : decode cL_isMessage 271 = .ok (.goto (-50), 3) := by decide +kernel
theorem dL_isMessage_274 : decode cL_isMessage 274 = .ok (.iload 13, 2) := by decide +kernel
theorem dL_isMessage_276 : decode cL_isMessage 276 = .ok (.iconst 2, 1) := by decide +kernel
theorem dL_isMessage_277 : decode cL_isMessage 277 = .ok (.if_icmp .le 32, 3) := by decide +kernel
theorem dL_isMessage_280 : decode cL_isMessage 280 = .ok (.aload_n 0, 1) := by decide +kernel
theorem dL_isMessage_281 : decode cL_isMessage 281 = .ok (.iload_n 1, 1) := by decide +kernel
theorem dL_isMessage_282 : decode cL_isMessage 282 = .ok (.iload 12, 2) := by decide +kernel
theorem dL_isMessage_284 : decode cL_isMessage 284 = .ok (.iload 14, 2) := by decide +kernel
theorem dL_isMessage_286 : decode cL_isMessage 286 = .ok (.ifCond .ge 7, 3) := by decide +kernel
theorem dL_isMessage_289 : decode cL_isMessage 289 = .ok (.iconst 0, 1) := by decide +kernel
theorem dL_isMessage_290 : decode cL_isMessage 290 = .ok (.goto 8, 3) := by decide +kernel
theorem dL_isMessage_293 : decode cL_isMessage 293 = .ok (.aload 7, 2) := by decide +kernel
theorem dL_isMessage_295 : decode cL_isMessage 295 = .ok (.iload 14, 2) := by decide +kernel
theorem dL_isMessage_297 : decode cL_isMessage 297 = .ok (.iaload, 1) := by decide +kernel
theorem dL_isMessage_298 : decode cL_isMessage 298 = .ok (.invokestatic 180, 3) := by decide +kernel
theorem dL_isMessage_301 : decode cL_isMessage 301 = .ok (.sipush (-1074), 3) := by decide +kernel
theorem dL_isMessage_304 : decode cL_isMessage 304 = .ok (.if_icmp .eq 5, 3) := by decide +kernel
theorem dL_isMessage_307 : decode cL_isMessage 307 = .ok (.iconst 0, 1) := by decide +kernel
theorem dL_isMessage_308 : decode cL_isMessage 308 = .ok (.ireturn, 1) := by decide +kernel
theorem dL_isMessage_309 : decode cL_isMessage 309 = .ok (.iinc 11 1, 3) := by decide +kernel
theorem dL_isMessage_312 : decode cL_isMessage 312 = .ok (.goto (-213), 3) := by decide +kernel
theorem dL_isMessage_315 : decode cL_isMessage 315 = .ok (.aload_n 0, 1) := by decide +kernel
theorem dL_isMessage_316 : decode cL_isMessage 316 = .ok (.iload_n 1, 1) := by decide +kernel
theorem dL_isMessage_317 : decode cL_isMessage 317 = .ok (.invokevirtual 225, 3) := by decide +kernel
theorem dL_isMessage_320 : decode cL_isMessage 320 = .ok (.aload 4, 2) := by decide +kernel
theorem dL_isMessage_322 : decode cL_isMessage 322 = .ok (.iload_n 1, 1) := by decide +kernel
theorem dL_isMessage_323 : decode cL_isMessage 323 = .ok (.iaload, 1) := by decide +kernel
theorem dL_isMessage_324 : decode cL_isMessage 324 = .ok (.iconst 1, 1) := by decide +kernel
theorem dL_isMessage_325 : decode cL_isMessage 325 = .ok (.isub, 1) := by decide +kernel
theorem dL_isMessage_326 : decode cL_isMessage 326 = .ok (.if_icmp .ne 47, 3) := by decide +kernel
theorem dL_isMessage_329 : decode cL_isMessage 329 = .ok (.aload_n 0, 1) := by decide +kernel
theorem dL_isMessage_330 : decode cL_isMessage 330 = .ok (.iload_n 1, 1) := by decide +kernel
theorem dL_isMessage_331 : decode cL_isMessage 331 = .ok (.invokevirtual 228, 3) := by decide +kernel
theorem dL_isMessage_334 : decode cL_isMessage 334 = .ok (.iload 10, 2) := by decide +kernel
theorem dL_isMessage_336 : decode cL_isMessage 336 = .ok (.if_icmp .ne 37, 3) := by decide +kernel
theorem dL_isMessage_339 : decode cL_isMessage 339 = .ok (.aload_n 0, 1) := by decide +kernel
theorem dL_isMessage_340 : decode cL_isMessage 340 = .ok (.iload_n 1, 1) := by decide +kernel
theorem dL_isMessage_341 : decode cL_isMessage 341 = .ok (.iload 10, 2) := by decide +kernel
theorem dL_isMessage_343 : decode cL_isMessage 343 = .ok (.invokestatic 223, 3) := by decide +kernel
theorem dL_isMessage_346 : decode cL_isMessage 346 = .ok (.bipush (-71), 2) := by decide +kernel
theorem dL_isMessage_348 : decode cL_isMessage 348 = .ok (.if_icmp .ne 25, 3) := by decide +kernel
theorem dL_isMessage_351 : decode cL_isMessage 351 = .ok (.aload_n 0, 1) := by decide +kernel
theorem dL_isMessage_352 : decode cL_isMessage 352 = .ok (.iload_n 1, 1) := by decide +kernel
theorem dL_isMessage_353 : decode cL_isMessage 353 = .ok (.invokestatic 152, 3) := by decide +kernel
theorem dL_isMessage_356 : decode cL_isMessage 356 = .ok (.aload 6, 2) := by decide +kernel
theorem dL_isMessage_358 : decode cL_isMessage 358 = .ok (.aload 7, 2) := by decide +kernel
theorem dL_isMessage_360 : decode cL_isMessage 360 = .ok (.aload 5, 2) := by decide +kernel
theorem dL_isMessage_362 : decode cL_isMessage 362 = .ok (.iload_n 1, 1) := by decide +kernel
theorem dL_isMessage_363 : decode cL_isMessage 363 = .ok (.invokestatic 231, 3) := by decide +kernel
theorem dL_isMessage_366 : decode cL_isMessage 366 = .ok (.if_icmp .ne 7, 3) := by decide +kernel
theorem dL_isMessage_369 : decode cL_isMessage 369 = .ok (.iconst 1, 1) := by decide +kernel
theorem dL_isMessage_370 : decode cL_isMessage 370 = .ok (.goto 4, 3) := by decide +kernel
theorem dL_isMessage_373 : decode cL_isMessage 373 = .ok (.iconst 0, 1) := by decide +kernel
theorem dL_isMessage_374 : decode cL_isMessage 374 = .ok (.ireturn, 1) := by decide +kernel
theorem dL_isTold_0 : decode cL_isTold 0 = .ok (.iconst 0, 1) := by decide +kernel
theorem dL_isTold_1 : decode cL_isTold 1 = .ok (.istore 14, 2) := by decide +kernel
theorem dL_isTold_3 : decode cL_isTold 3 = .ok (.iload 14, 2) := by decide +kernel
theorem dL_isTold_5 : decode cL_isTold 5 = .ok (.iconst 5, 1) := by decide +kernel
theorem dL_isTold_6 : decode cL_isTold 6 = .ok (.if_icmp .ge 34, 3) := by decide +kernel
theorem dL_isTold_9 : decode cL_isTold 9 = .ok (.aload_n 0, 1) := by decide +kernel
theorem dL_isTold_10 : decode cL_isTold 10 = .ok (.iload 14, 2) := by decide +kernel
theorem dL_isTold_12 : decode cL_isTold 12 = .ok (.aload_n 2, 1) := by decide +kernel
theorem dL_isTold_13 : decode cL_isTold 13 = .ok (.aload_n 3, 1) := by decide +kernel
theorem dL_isTold_14 : decode cL_isTold 14 = .ok (.aload 4, 2) := by decide +kernel
theorem dL_isTold_16 : decode cL_isTold 16 = .ok (.aload 5, 2) := by decide +kernel
theorem dL_isTold_18 : decode cL_isTold 18 = .ok (.aload 6, 2) := by decide +kernel
theorem dL_isTold_20 : decode cL_isTold 20 = .ok (.aload 7, 2) := by decide +kernel
theorem dL_isTold_22 : decode cL_isTold 22 = .ok (.aload 8, 2) := by decide +kernel
theorem dL_isTold_24 : decode cL_isTold 24 = .ok (.aload 9, 2) := by decide +kernel
theorem dL_isTold_26 : decode cL_isTold 26 = .ok (.invokestatic 235, 3) := by decide +kernel
theorem dL_isTold_29 : decode cL_isTold 29 = .ok (.ifCond .ne 5, 3) := by decide +kernel
theorem dL_isTold_32 : decode cL_isTold 32 = .ok (.iconst 0, 1) := by decide +kernel
theorem dL_isTold_33 : decode cL_isTold 33 = .ok (.ireturn, 1) := by decide +kernel
theorem dL_isTold_34 : decode cL_isTold 34 = .ok (.iinc 14 1, 3) := by decide +kernel
theorem dL_isTold_37 : decode cL_isTold 37 = .ok (.goto (-34), 3) := by decide +kernel
theorem dL_isTold_40 : decode cL_isTold 40 = .ok (.aload_n 0, 1) := by decide +kernel
theorem dL_isTold_41 : decode cL_isTold 41 = .ok (.invokevirtual 195, 3) := by decide +kernel
theorem dL_isTold_44 : decode cL_isTold 44 = .ok (.aload 13, 2) := by decide +kernel
theorem dL_isTold_46 : decode cL_isTold 46 = .ok (.iconst 1, 1) := by decide +kernel
theorem dL_isTold_47 : decode cL_isTold 47 = .ok (.iaload, 1) := by decide +kernel
theorem dL_isTold_48 : decode cL_isTold 48 = .ok (.if_icmp .eq 5, 3) := by decide +kernel
theorem dL_isTold_51 : decode cL_isTold 51 = .ok (.iconst 0, 1) := by decide +kernel
theorem dL_isTold_52 : decode cL_isTold 52 = .ok (.ireturn, 1) := by decide +kernel
theorem dL_isTold_53 : decode cL_isTold 53 = .ok (.iconst 0, 1) := by decide +kernel
theorem dL_isTold_54 : decode cL_isTold 54 = .ok (.istore 14, 2) := by decide +kernel
theorem dL_isTold_56 : decode cL_isTold 56 = .ok (.iload 14, 2) := by decide +kernel
theorem dL_isTold_58 : decode cL_isTold 58 = .ok (.aload 13, 2) := by decide +kernel
theorem dL_isTold_60 : decode cL_isTold 60 = .ok (.iconst 1, 1) := by decide +kernel
theorem dL_isTold_61 : decode cL_isTold 61 = .ok (.iaload, 1) := by decide +kernel
theorem dL_isTold_62 : decode cL_isTold 62 = .ok (.if_icmp .ge 26, 3) := by decide +kernel
theorem dL_isTold_65 : decode cL_isTold 65 = .ok (.aload_n 0, 1) := by decide +kernel
theorem dL_isTold_66 : decode cL_isTold 66 = .ok (.iload 14, 2) := by decide +kernel
theorem dL_isTold_68 : decode cL_isTold 68 = .ok (.invokevirtual 239, 3) := by decide +kernel
theorem dL_isTold_71 : decode cL_isTold 71 = .ok (.aload 10, 2) := by decide +kernel
theorem dL_isTold_73 : decode cL_isTold 73 = .ok (.iload 14, 2) := by decide +kernel
theorem dL_isTold_75 : decode cL_isTold 75 = .ok (.iaload, 1) := by decide +kernel
theorem dL_isTold_76 : decode cL_isTold 76 = .ok (.i2b, 1) := by decide +kernel
theorem dL_isTold_77 : decode cL_isTold 77 = .ok (.if_icmp .eq 5, 3) := by decide +kernel
theorem dL_isTold_80 : decode cL_isTold 80 = .ok (.iconst 0, 1) := by decide +kernel
theorem dL_isTold_81 : decode cL_isTold 81 = .ok (.ireturn, 1) := by decide +kernel
theorem dL_isTold_82 : decode cL_isTold 82 = .ok (.iinc 14 1, 3) := by decide +kernel
theorem dL_isTold_85 : decode cL_isTold 85 = .ok (.goto (-29), 3) := by decide +kernel
theorem dL_isTold_88 : decode cL_isTold 88 = .ok (.aload 10, 2) := by decide +kernel
theorem dL_isTold_90 : decode cL_isTold 90 = .ok (.aload 13, 2) := by decide +kernel
theorem dL_isTold_92 : decode cL_isTold 92 = .ok (.iconst 1, 1) := by decide +kernel
theorem dL_isTold_93 : decode cL_isTold 93 = .ok (.iaload, 1) := by decide +kernel
theorem dL_isTold_94 : decode cL_isTold 94 = .ok (.aload 5, 2) := by decide +kernel
theorem dL_isTold_96 : decode cL_isTold 96 = .ok (.aload 6, 2) := by decide +kernel
theorem dL_isTold_98 : decode cL_isTold 98 = .ok (.aload 7, 2) := by decide +kernel
theorem dL_isTold_100 : decode cL_isTold 100 = .ok (.aload 8, 2) := by decide +kernel
theorem dL_isTold_102 : decode cL_isTold 102 = .ok (.aload 9, 2) := by decide +kernel
theorem dL_isTold_104 : decode cL_isTold 104 = .ok (.aload 13, 2) := by decide +kernel
theorem dL_isTold_106 : decode cL_isTold 106 = .ok (.iconst (-1), 1) := by decide +kernel
theorem dL_isTold_107 : decode cL_isTold 107 = .ok (.invokestatic 211, 3) := by decide +kernel
theorem dL_isTold_110 : decode cL_isTold 110 = .ok (.istore 14, 2) := by decide +kernel
theorem dL_isTold_112 : decode cL_isTold 112 = .ok (.aload_n 0, 1) := by decide +kernel
theorem dL_isTold_113 : decode cL_isTold 113 = .ok (.invokevirtual 215, 3) := by decide +kernel
theorem dL_isTold_116 : decode cL_isTold 116 = .ok (.iload 14, 2) := by decide +kernel
theorem dL_isTold_118 : decode cL_isTold 118 = .ok (.bipush 9, 2) := by decide +kernel
theorem dL_isTold_120 : decode cL_isTold 120 = .ok (.irem, 1) := by decide +kernel
theorem dL_isTold_121 : decode cL_isTold 121 = .ok (.if_icmp .ne 26, 3) := by decide +kernel
theorem dL_isTold_124 : decode cL_isTold 124 = .ok (.aload_n 0, 1) := by decide +kernel
theorem dL_isTold_125 : decode cL_isTold 125 = .ok (.invokevirtual 242, 3) := by decide +kernel
theorem dL_isTold_128 : decode cL_isTold 128 = .ok (.iload 14, 2) := by decide +kernel
theorem dL_isTold_130 : decode cL_isTold 130 = .ok (.bipush 9, 2) := by decide +kernel
theorem dL_isTold_132 : decode cL_isTold 132 = .ok (.irem, 1) := by decide +kernel
theorem dL_isTold_133 : decode cL_isTold 133 = .ok (.ifCond .ne 7, 3) := by decide +kernel
theorem dL_isTold_136 : decode cL_isTold 136 = .ok (.iconst (-1), 1) := by decide +kernel
theorem dL_isTold_137 : decode cL_isTold 137 = .ok (.goto 7, 3) := by decide +kernel
theorem dL_isTold_140 : decode cL_isTold 140 = .ok (.aload 13, 2) := by decide +kernel
theorem dL_isTold_142 : decode cL_isTold 142 = .ok (.iconst 3, 1) := by decide +kernel
theorem dL_isTold_143 : decode cL_isTold 143 = .ok (.iaload, 1) := by decide +kernel
theorem dL_isTold_144 : decode cL_isTold 144 = .ok (.if_icmp .eq 5, 3) := by decide +kernel
theorem dL_isTold_147 : decode cL_isTold 147 = .ok (.iconst 0, 1) := by decide +kernel
theorem dL_isTold_148 : decode cL_isTold 148 = .ok (.ireturn, 1) := by decide +kernel
theorem dL_isTold_149 : decode cL_isTold 149 = .ok (.aload 13, 2) := by decide +kernel
theorem dL_isTold_151 : decode cL_isTold 151 = .ok (.iconst 0, 1) := by decide +kernel
theorem dL_isTold_152 : decode cL_isTold 152 = .ok (.iaload, 1) := by decide +kernel
theorem dL_isTold_153 : decode cL_isTold 153 = .ok (.ifCond .ne 5, 3) := by decide +kernel
theorem dL_isTold_156 : decode cL_isTold 156 = .ok (.iconst 1, 1) := by decide +kernel
theorem dL_isTold_157 : decode cL_isTold 157 = .ok (.ireturn, 1) := by decide +kernel
theorem dL_isTold_158 : decode cL_isTold 158 = .ok (.iload_n 1, 1) := by decide +kernel
theorem dL_isTold_159 : decode cL_isTold 159 = .ok (.aload 13, 2) := by decide +kernel
theorem dL_isTold_161 : decode cL_isTold 161 = .ok (.iconst 0, 1) := by decide +kernel
theorem dL_isTold_162 : decode cL_isTold 162 = .ok (.iaload, 1) := by decide +kernel
theorem dL_isTold_163 : decode cL_isTold 163 = .ok (.invokestatic 129, 3) := by decide +kernel
theorem dL_isTold_166 : decode cL_isTold 166 = .ok (.istore 15, 2) := by decide +kernel
theorem dL_isTold_168 : decode cL_isTold 168 = .ok (.iload_n 1, 1) := by decide +kernel
theorem dL_isTold_169 : decode cL_isTold 169 = .ok (.iconst 3, 1) := by decide +kernel
theorem dL_isTold_170 : decode cL_isTold 170 = .ok (.ishr, 1) := by decide +kernel
theorem dL_isTold_171 : decode cL_isTold 171 = .ok (.aload 13, 2) := by decide +kernel
theorem dL_isTold_173 : decode cL_isTold 173 = .ok (.iconst 0, 1) := by decide +kernel
theorem dL_isTold_174 : decode cL_isTold 174 = .ok (.iaload, 1) := by decide +kernel
theorem dL_isTold_175 : decode cL_isTold 175 = .ok (.invokestatic 129, 3) := by decide +kernel
theorem dL_isTold_178 : decode cL_isTold 178 = .ok (.istore 16, 2) := by decide +kernel
theorem dL_isTold_180 : decode cL_isTold 180 = .ok (.iconst (-1), 1) := by decide +kernel
theorem dL_isTold_181 : decode cL_isTold 181 = .ok (.istore 17, 2) := by decide +kernel
theorem dL_isTold_183 : decode cL_isTold 183 = .ok (.iconst 5, 1) := by decide +kernel
theorem dL_isTold_184 : decode cL_isTold 184 = .ok (.istore 18, 2) := by decide +kernel
theorem dL_isTold_186 : decode cL_isTold 186 = .ok (.iload 18, 2) := by decide +kernel
theorem dL_isTold_188 : decode cL_isTold 188 = .ok (.ifCond .lt 31, 3) := by decide +kernel
theorem dL_isTold_191 : decode cL_isTold 191 = .ok (.aload_n 2, 1) := by decide +kernel
theorem dL_isTold_192 : decode cL_isTold 192 = .ok (.aload 13, 2) := by decide +kernel
theorem dL_isTold_194 : decode cL_isTold 194 = .ok (.iload 15, 2) := by decide +kernel
theorem dL_isTold_196 : decode cL_isTold 196 = .ok (.iload 16, 2) := by decide +kernel
theorem dL_isTold_198 : decode cL_isTold 198 = .ok (.iload 18, 2) := by decide +kernel
theorem dL_isTold_200 : decode cL_isTold 200 = .ok (.invokestatic 245, 3) := by decide +kernel
theorem dL_isTold_203 : decode cL_isTold 203 = .ok (.ifCond .eq 10, 3) := by decide +kernel
theorem dL_isTold_206 : decode cL_isTold 206 = .ok (.iload 18, 2) := by decide +kernel
theorem dL_isTold_208 : decode cL_isTold 208 = .ok (.invokestatic 64, 3) := by decide +kernel
theorem dL_isTold_211 : decode cL_isTold 211 = .ok (.istore 17, 2) := by decide +kernel
theorem dL_isTold_213 : decode cL_isTold 213 = .ok (.iinc 18 (-1), 3) := by decide +kernel
theorem dL_isTold_216 : decode cL_isTold 216 = .ok (.goto (-30), 3) := by decide +kernel
theorem dL_isTold_219 : decode cL_isTold 219 = .ok (.aload_n 0, 1) := by decide +kernel
theorem dL_isTold_220 : decode cL_isTold 220 = .ok (.iload 15, 2) := by decide +kernel
theorem dL_isTold_222 : decode cL_isTold 222 = .ok (.iload 16, 2) := by decide +kernel
theorem dL_isTold_224 : decode cL_isTold 224 = .ok (.invokevirtual 249, 3) := by decide +kernel
theorem dL_isTold_227 : decode cL_isTold 227 = .ok (.iload 17, 2) := by decide +kernel
theorem dL_isTold_229 : decode cL_isTold 229 = .ok (.if_icmp .eq 5, 3) := by decide +kernel
theorem dL_isTold_232 : decode cL_isTold 232 = .ok (.iconst 0, 1) := by decide +kernel
theorem dL_isTold_233 : decode cL_isTold 233 = .ok (.ireturn, 1) := by decide +kernel
theorem dL_isTold_234 : decode cL_isTold 234 = .ok (.iload_n 1, 1) := by decide +kernel
theorem dL_isTold_235 : decode cL_isTold 235 = .ok (.bipush 6, 2) := by decide +kernel
theorem dL_isTold_237 : decode cL_isTold 237 = .ok (.ishr, 1) := by decide +kernel
theorem dL_isTold_238 : decode cL_isTold 238 = .ok (.iconst 5, 1) := by decide +kernel
theorem dL_isTold_239 : decode cL_isTold 239 = .ok (.invokestatic 129, 3) := by decide +kernel
theorem dL_isTold_242 : decode cL_isTold 242 = .ok (.istore 18, 2) := by decide +kernel
theorem dL_isTold_244 : decode cL_isTold 244 = .ok (.iload_n 1, 1) := by decide +kernel
theorem dL_isTold_245 : decode cL_isTold 245 = .ok (.bipush 9, 2) := by decide +kernel
theorem dL_isTold_247 : decode cL_isTold 247 = .ok (.ishr, 1) := by decide +kernel
theorem dL_isTold_248 : decode cL_isTold 248 = .ok (.iconst 5, 1) := by decide +kernel
theorem dL_isTold_249 : decode cL_isTold 249 = .ok (.invokestatic 129, 3) := by decide +kernel
theorem dL_isTold_252 : decode cL_isTold 252 = .ok (.istore 19, 2) := by decide +kernel
theorem dL_isTold_254 : decode cL_isTold 254 = .ok (.aload 4, 2) := by decide +kernel
theorem dL_isTold_256 : decode cL_isTold 256 = .ok (.iload 18, 2) := by decide +kernel
theorem dL_isTold_258 : decode cL_isTold 258 = .ok (.iaload, 1) := by decide +kernel
theorem dL_isTold_259 : decode cL_isTold 259 = .ok (.ifCond .le 185, 3) := by decide +kernel
theorem dL_isTold_262 : decode cL_isTold 262 = .ok (.aload 4, 2) := by decide +kernel
theorem dL_isTold_264 : decode cL_isTold 264 = .ok (.iload 19, 2) := by decide +kernel
theorem dL_isTold_266 : decode cL_isTold 266 = .ok (.iaload, 1) := by decide +kernel
theorem dL_isTold_267 : decode cL_isTold 267 = .ok (.ifCond .le 177, 3) := by decide +kernel
theorem dL_isTold_270 : decode cL_isTold 270 = .ok (.aload_n 2, 1) := by decide +kernel
theorem dL_isTold_271 : decode cL_isTold 271 = .ok (.aload_n 3, 1) := by decide +kernel
theorem dL_isTold_272 : decode cL_isTold 272 = .ok (.aload 4, 2) := by decide +kernel
theorem dL_isTold_274 : decode cL_isTold 274 = .ok (.aload 5, 2) := by decide +kernel
theorem dL_isTold_276 : decode cL_isTold 276 = .ok (.aload 6, 2) := by decide +kernel
theorem dL_isTold_278 : decode cL_isTold 278 = .ok (.aload 7, 2) := by decide +kernel
theorem dL_isTold_280 : decode cL_isTold 280 = .ok (.aload 8, 2) := by decide +kernel
theorem dL_isTold_282 : decode cL_isTold 282 = .ok (.aload 9, 2) := by decide +kernel
theorem dL_isTold_284 : decode cL_isTold 284 = .ok (.aload 11, 2) := by decide +kernel
theorem dL_isTold_286 : decode cL_isTold 286 = .ok (.aload 13, 2) := by decide +kernel
theorem dL_isTold_288 : decode cL_isTold 288 = .ok (.iload 18, 2) := by decide +kernel
theorem dL_isTold_290 : decode cL_isTold 290 = .ok (.invokestatic 184, 3) := by decide +kernel
theorem dL_isTold_293 : decode cL_isTold 293 = .ok (.istore 20, 2) := by decide +kernel
theorem dL_isTold_295 : decode cL_isTold 295 = .ok (.iconst 0, 1) := by decide +kernel
theorem dL_isTold_296 : decode cL_isTold 296 = .ok (.istore 21, 2) := by decide +kernel
theorem dL_isTold_298 : decode cL_isTold 298 = .ok (.iload 21, 2) := by decide +kernel
theorem dL_isTold_300 : decode cL_isTold 300 = .ok (.iload 20, 2) := by decide +kernel
theorem dL_isTold_302 : decode cL_isTold 302 = .ok (.if_icmp .ge 26, 3) := by decide +kernel
theorem dL_isTold_305 : decode cL_isTold 305 = .ok (.iload 21, 2) := by decide +kernel
theorem dL_isTold_307 : decode cL_isTold 307 = .ok (.bipush 64, 2) := by decide +kernel
theorem dL_isTold_309 : decode cL_isTold 309 = .ok (.if_icmp .ge 19, 3) := by decide +kernel
theorem dL_isTold_312 : decode cL_isTold 312 = .ok (.aload 12, 2) := by decide +kernel
theorem dL_isTold_314 : decode cL_isTold 314 = .ok (.iload 21, 2) := by decide +kernel
theorem dL_isTold_316 : decode cL_isTold 316 = .ok (.aload 11, 2) := by decide +kernel
theorem dL_isTold_318 : decode cL_isTold 318 = .ok (.iload 21, 2) := by decide +kernel
theorem dL_isTold_320 : decode cL_isTold 320 = .ok (.iaload, 1) := by decide +kernel
theorem dL_isTold_321 : decode cL_isTold 321 = .ok (.iastore, 1) := by decide +kernel
theorem dL_isTold_322 : decode cL_isTold 322 = .ok (.iinc 21 1, 3) := by decide +kernel
theorem dL_isTold_325 : decode cL_isTold 325 = .ok (.goto (-27), 3) := by decide +kernel
theorem dL_isTold_328 : decode cL_isTold 328 = .ok (.aload_n 2, 1) := by decide +kernel
theorem dL_isTold_329 : decode cL_isTold 329 = .ok (.aload_n 3, 1) := by decide +kernel
theorem dL_isTold_330 : decode cL_isTold 330 = .ok (.aload 4, 2) := by decide +kernel
theorem dL_isTold_332 : decode cL_isTold 332 = .ok (.aload 5, 2) := by decide +kernel
theorem dL_isTold_334 : decode cL_isTold 334 = .ok (.aload 6, 2) := by decide +kernel
theorem dL_isTold_336 : decode cL_isTold 336 = .ok (.aload 7, 2) := by decide +kernel
theorem dL_isTold_338 : decode cL_isTold 338 = .ok (.aload 8, 2) := by decide +kernel
theorem dL_isTold_340 : decode cL_isTold 340 = .ok (.aload 9, 2) := by decide +kernel
theorem dL_isTold_342 : decode cL_isTold 342 = .ok (.aload 11, 2) := by decide +kernel
theorem dL_isTold_344 : decode cL_isTold 344 = .ok (.aload 13, 2) := by decide +kernel
theorem dL_isTold_346 : decode cL_isTold 346 = .ok (.iload 19, 2) := by decide +kernel
theorem dL_isTold_348 : decode cL_isTold 348 = .ok (.invokestatic 184, 3) := by decide +kernel
theorem dL_isTold_351 : decode cL_isTold 351 = .ok (.iload 20, 2) := by decide +kernel
theorem dL_isTold_353 : decode cL_isTold 353 = .ok (.if_icmp .ne 7, 3) := by decide +kernel
theorem dL_isTold_356 : decode cL_isTold 356 = .ok (.iconst 1, 1) := by decide +kernel
theorem dL_isTold_357 : decode cL_isTold 357 = .ok (.goto 4, 3) := by decide +kernel
theorem dL_isTold_360 : decode cL_isTold 360 = .ok (.iconst 0, 1) := by decide +kernel
theorem dL_isTold_361 : decode cL_isTold 361 = .ok (.istore 21, 2) := by decide +kernel
theorem dL_isTold_363 : decode cL_isTold 363 = .ok (.iconst 0, 1) := by decide +kernel
theorem dL_isTold_364 : decode cL_isTold 364 = .ok (.istore 22, 2) := by decide +kernel
theorem dL_isTold_366 : decode cL_isTold 366 = .ok (.iload 22, 2) := by decide +kernel
theorem dL_isTold_368 : decode cL_isTold 368 = .ok (.iload 20, 2) := by decide +kernel
theorem dL_isTold_370 : decode cL_isTold 370 = .ok (.if_icmp .ge 39, 3) := by decide +kernel
theorem dL_isTold_373 : decode cL_isTold 373 = .ok (.iload 22, 2) := by decide +kernel
theorem dL_isTold_375 : decode cL_isTold 375 = .ok (.bipush 64, 2) := by decide +kernel
theorem dL_isTold_377 : decode cL_isTold 377 = .ok (.if_icmp .ge 32, 3) := by decide +kernel
theorem dL_isTold_380 : decode cL_isTold 380 = .ok (.iload 21, 2) := by decide +kernel
theorem dL_isTold_382 : decode cL_isTold 382 = .ok (.aload 12, 2) := by decide +kernel
theorem dL_isTold_384 : decode cL_isTold 384 = .ok (.iload 22, 2) := by decide +kernel
theorem dL_isTold_386 : decode cL_isTold 386 = .ok (.iaload, 1) := by decide +kernel
theorem dL_isTold_387 : decode cL_isTold 387 = .ok (.aload 11, 2) := by decide +kernel
theorem dL_isTold_389 : decode cL_isTold 389 = .ok (.iload 22, 2) := by decide +kernel
theorem dL_isTold_391 : decode cL_isTold 391 = .ok (.iaload, 1) := by decide +kernel
theorem dL_isTold_392 : decode cL_isTold 392 = .ok (.if_icmp .ne 7, 3) := by decide +kernel
theorem dL_isTold_395 : decode cL_isTold 395 = .ok (.iconst 1, 1) := by decide +kernel
theorem dL_isTold_396 : decode cL_isTold 396 = .ok (.goto 4, 3) := by decide +kernel
theorem dL_isTold_399 : decode cL_isTold 399 = .ok (.iconst 0, 1) := by decide +kernel
theorem dL_isTold_400 : decode cL_isTold 400 = .ok (.iand, 1) := by decide +kernel
theorem dL_isTold_401 : decode cL_isTold 401 = .ok (.istore 21, 2) := by decide +kernel
theorem dL_isTold_403 : decode cL_isTold 403 = .ok (.iinc 22 1, 3) := by decide +kernel
theorem dL_isTold_406 : decode cL_isTold 406 = .ok (.goto (-40), 3) := by decide +kernel
theorem dL_isTold_409 : decode cL_isTold 409 = .ok (.iload 20, 2) := by decide +kernel
theorem dL_isTold_411 : decode cL_isTold 411 = .ok (.bipush 65, 2) := by decide +kernel
theorem dL_isTold_413 : decode cL_isTold 413 = .ok (.if_icmp .ge 31, 3) := by decide +kernel
theorem dL_isTold_416 : decode cL_isTold 416 = .ok (.aload_n 0, 1) := by decide +kernel
theorem dL_isTold_417 : decode cL_isTold 417 = .ok (.iload 18, 2) := by decide +kernel
theorem dL_isTold_419 : decode cL_isTold 419 = .ok (.iload 19, 2) := by decide +kernel
theorem dL_isTold_421 : decode cL_isTold 421 = .ok (.invokevirtual 252, 3) := by decide +kernel
theorem dL_isTold_424 : decode cL_isTold 424 = .ok (.iload 21, 2) := by decide +kernel
theorem dL_isTold_426 : decode cL_isTold 426 = .ok (.if_icmp .ne 16, 3) := by decide +kernel
theorem dL_isTold_429 : decode cL_isTold 429 = .ok (.aload_n 0, 1) := by decide +kernel
theorem dL_isTold_430 : decode cL_isTold 430 = .ok (.iload 18, 2) := by decide +kernel
theorem dL_isTold_432 : decode cL_isTold 432 = .ok (.iload 19, 2) := by decide +kernel
theorem dL_isTold_434 : decode cL_isTold 434 = .ok (.invokevirtual 255, 3) := by decide +kernel
theorem dL_isTold_437 : decode cL_isTold 437 = .ok (.iload 21, 2) := by decide +kernel
theorem dL_isTold_439 : decode cL_isTold 439 = .ok (.if_icmp .eq 5, 3) := by decide +kernel
theorem dL_isTold_442 : decode cL_isTold 442 = .ok (.iconst 0, 1) := by decide +kernel
theorem dL_isTold_443 : decode cL_isTold 443 = .ok (.ireturn, 1) := by decide +kernel
theorem dL_isTold_444 : decode cL_isTold 444 = .ok (.aload 4, 2) := by decide +kernel
theorem dL_isTold_446 : decode cL_isTold 446 = .ok (.invokestatic 145, 3) := by decide +kernel
theorem dL_isTold_449 : decode cL_isTold 449 = .ok (.istore 20, 2) := by decide +kernel
theorem dL_isTold_451 : decode cL_isTold 451 = .ok (.iload 20, 2) := by decide +kernel
theorem dL_isTold_453 : decode cL_isTold 453 = .ok (.ifCond .lt 8, 3) := by decide +kernel
theorem dL_isTold_456 : decode cL_isTold 456 = .ok (.iload 14, 2) := by decide +kernel
theorem dL_isTold_458 : decode cL_isTold 458 = .ok (.ifCond .le 30, 3) := by decide +kernel
theorem dL_isTold_461 : decode cL_isTold 461 = .ok (.iload 14, 2) := by decide +kernel
theorem dL_isTold_463 : decode cL_isTold 463 = .ok (.ifCond .eq 19, 3) := by decide +kernel
theorem dL_isTold_466 : decode cL_isTold 466 = .ok (.iload 14, 2) := by decide +kernel
theorem dL_isTold_468 : decode cL_isTold 468 = .ok (.bipush 9, 2) := by decide +kernel
theorem dL_isTold_470 : decode cL_isTold 470 = .ok (.if_icmp .eq 12, 3) := by decide +kernel
theorem dL_isTold_473 : decode cL_isTold 473 = .ok (.aload_n 0, 1) := by decide +kernel
theorem dL_isTold_474 : decode cL_isTold 474 = .ok (.iload 15, 2) := by decide +kernel
theorem dL_isTold_476 : decode cL_isTold 476 = .ok (.invokevirtual 258, 3) := by decide +kernel
theorem dL_isTold_479 : decode cL_isTold 479 = .ok (.ifCond .ne 7, 3) := by decide +kernel
theorem dL_isTold_482 : decode cL_isTold 482 = .ok (.iconst 1, 1) := by decide +kernel
theorem dL_isTold_483 : decode cL_isTold 483 = .ok (.goto 4, 3) := by decide +kernel
theorem dL_isTold_486 : decode cL_isTold 486 = .ok (.iconst 0, 1) := by decide +kernel
theorem dL_isTold_487 : decode cL_isTold 487 = .ok (.ireturn, 1) := by decide +kernel
theorem dL_isTold_488 : decode cL_isTold 488 = .ok (.aload 10, 2) := by decide +kernel
theorem dL_isTold_490 : decode cL_isTold 490 = .ok (.aload 13, 2) := by decide +kernel
theorem dL_isTold_492 : decode cL_isTold 492 = .ok (.iconst 1, 1) := by decide +kernel
theorem dL_isTold_493 : decode cL_isTold 493 = .ok (.iaload, 1) := by decide +kernel
theorem dL_isTold_494 : decode cL_isTold 494 = .ok (.aload 5, 2) := by decide +kernel
theorem dL_isTold_496 : decode cL_isTold 496 = .ok (.aload 6, 2) := by decide +kernel
theorem dL_isTold_498 : decode cL_isTold 498 = .ok (.aload 7, 2) := by decide +kernel
theorem dL_isTold_500 : decode cL_isTold 500 = .ok (.aload 8, 2) := by decide +kernel
theorem dL_isTold_502 : decode cL_isTold 502 = .ok (.aload 9, 2) := by decide +kernel
theorem dL_isTold_504 : decode cL_isTold 504 = .ok (.aload 13, 2) := by decide +kernel
theorem dL_isTold_506 : decode cL_isTold 506 = .ok (.iload 20, 2) := by decide +kernel
theorem dL_isTold_508 : decode cL_isTold 508 = .ok (.invokestatic 211, 3) := by decide +kernel
theorem dL_isTold_511 : decode cL_isTold 511 = .ok (.ifCond .eq 5, 3) := by decide +kernel
theorem dL_isTold_514 : decode cL_isTold 514 = .ok (.iconst 1, 1) := by decide +kernel
theorem dL_isTold_515 : decode cL_isTold 515 = .ok (.ireturn, 1) := by decide +kernel
theorem dL_isTold_516 : decode cL_isTold 516 = .ok (.aload 4, 2) := by decide +kernel
theorem dL_isTold_518 : decode cL_isTold 518 = .ok (.iload 20, 2) := by decide +kernel
theorem dL_isTold_520 : decode cL_isTold 520 = .ok (.iload 15, 2) := by decide +kernel
theorem dL_isTold_522 : decode cL_isTold 522 = .ok (.iconst 1, 1) := by decide +kernel
theorem dL_isTold_523 : decode cL_isTold 523 = .ok (.iadd, 1) := by decide +kernel
theorem dL_isTold_524 : decode cL_isTold 524 = .ok (.iastore, 1) := by decide +kernel
theorem dL_isTold_525 : decode cL_isTold 525 = .ok (.aload_n 2, 1) := by decide +kernel
theorem dL_isTold_526 : decode cL_isTold 526 = .ok (.aload_n 3, 1) := by decide +kernel
theorem dL_isTold_527 : decode cL_isTold 527 = .ok (.aload 4, 2) := by decide +kernel
theorem dL_isTold_529 : decode cL_isTold 529 = .ok (.aload 5, 2) := by decide +kernel
theorem dL_isTold_531 : decode cL_isTold 531 = .ok (.aload 6, 2) := by decide +kernel
theorem dL_isTold_533 : decode cL_isTold 533 = .ok (.aload 7, 2) := by decide +kernel
theorem dL_isTold_535 : decode cL_isTold 535 = .ok (.aload 8, 2) := by decide +kernel
theorem dL_isTold_537 : decode cL_isTold 537 = .ok (.aload 9, 2) := by decide +kernel
theorem dL_isTold_539 : decode cL_isTold 539 = .ok (.aload 11, 2) := by decide +kernel
theorem dL_isTold_541 : decode cL_isTold 541 = .ok (.aload 13, 2) := by decide +kernel
theorem dL_isTold_543 : decode cL_isTold 543 = .ok (.iload 20, 2) := by decide +kernel
theorem dL_isTold_545 : decode cL_isTold 545 = .ok (.invokestatic 184, 3) := by decide +kernel
theorem dL_isTold_548 : decode cL_isTold 548 = .ok (.aload 13, 2) := by decide +kernel
theorem dL_isTold_550 : decode cL_isTold 550 = .ok (.iconst 1, 1) := by decide +kernel
theorem dL_isTold_551 : decode cL_isTold 551 = .ok (.iaload, 1) := by decide +kernel
theorem dL_isTold_552 : decode cL_isTold 552 = .ok (.if_icmp .ne 7, 3) := by decide +kernel
theorem dL_isTold_555 : decode cL_isTold 555 = .ok (.iconst 1, 1) := by decide +kernel
theorem dL_isTold_556 : decode cL_isTold 556 = .ok (.goto 4, 3) := by decide +kernel
theorem dL_isTold_559 : decode cL_isTold 559 = .ok (.iconst 0, 1) := by decide +kernel
theorem dL_isTold_560 : decode cL_isTold 560 = .ok (.istore 21, 2) := by decide +kernel
theorem dL_isTold_562 : decode cL_isTold 562 = .ok (.iconst 0, 1) := by decide +kernel
theorem dL_isTold_563 : decode cL_isTold 563 = .ok (.istore 22, 2) := by decide +kernel
theorem dL_isTold_565 : decode cL_isTold 565 = .ok (.iload 22, 2) := by decide +kernel
theorem dL_isTold_567 : decode cL_isTold 567 = .ok (.aload 13, 2) := by decide +kernel
theorem dL_isTold_569 : decode cL_isTold 569 = .ok (.iconst 1, 1) := by decide +kernel
theorem dL_isTold_570 : decode cL_isTold 570 = .ok (.iaload, 1) := by decide +kernel
theorem dL_isTold_571 : decode cL_isTold 571 = .ok (.if_icmp .ge 32, 3) := by decide +kernel
theorem dL_isTold_574 : decode cL_isTold 574 = .ok (.iload 21, 2) := by decide +kernel
theorem dL_isTold_576 : decode cL_isTold 576 = .ok (.aload 11, 2) := by decide +kernel
theorem dL_isTold_578 : decode cL_isTold 578 = .ok (.iload 22, 2) := by decide +kernel
theorem dL_isTold_580 : decode cL_isTold 580 = .ok (.iaload, 1) := by decide +kernel
theorem dL_isTold_581 : decode cL_isTold 581 = .ok (.aload 10, 2) := by decide +kernel
theorem dL_isTold_583 : decode cL_isTold 583 = .ok (.iload 22, 2) := by decide +kernel
theorem dL_isTold_585 : decode cL_isTold 585 = .ok (.iaload, 1) := by decide +kernel
theorem dL_isTold_586 : decode cL_isTold 586 = .ok (.if_icmp .ne 7, 3) := by decide +kernel
theorem dL_isTold_589 : decode cL_isTold 589 = .ok (.iconst 1, 1) := by decide +kernel
theorem dL_isTold_590 : decode cL_isTold 590 = .ok (.goto 4, 3) := by decide +kernel
theorem dL_isTold_593 : decode cL_isTold 593 = .ok (.iconst 0, 1) := by decide +kernel
theorem dL_isTold_594 : decode cL_isTold 594 = .ok (.iand, 1) := by decide +kernel
theorem dL_isTold_595 : decode cL_isTold 595 = .ok (.istore 21, 2) := by decide +kernel
theorem dL_isTold_597 : decode cL_isTold 597 = .ok (.iinc 22 1, 3) := by decide +kernel
theorem dL_isTold_600 : decode cL_isTold 600 = .ok (.goto (-35), 3) := by decide +kernel
theorem dL_isTold_603 : decode cL_isTold 603 = .ok (.aload 4, 2) := by decide +kernel
theorem dL_isTold_605 : decode cL_isTold 605 = .ok (.iload 20, 2) := by decide +kernel
theorem dL_isTold_607 : decode cL_isTold 607 = .ok (.iconst 0, 1) := by decide +kernel
theorem dL_isTold_608 : decode cL_isTold 608 = .ok (.iastore, 1) := by decide +kernel
theorem dL_isTold_609 : decode cL_isTold 609 = .ok (.aload_n 0, 1) := by decide +kernel
theorem dL_isTold_610 : decode cL_isTold 610 = .ok (.iload 15, 2) := by decide +kernel
theorem dL_isTold_612 : decode cL_isTold 612 = .ok (.invokevirtual 258, 3) := by decide +kernel
theorem dL_isTold_615 : decode cL_isTold 615 = .ok (.iload 21, 2) := by decide +kernel
theorem dL_isTold_617 : decode cL_isTold 617 = .ok (.if_icmp .ne 7, 3) := by decide +kernel
theorem dL_isTold_620 : decode cL_isTold 620 = .ok (.iconst 1, 1) := by decide +kernel
theorem dL_isTold_621 : decode cL_isTold 621 = .ok (.goto 4, 3) := by decide +kernel
theorem dL_isTold_624 : decode cL_isTold 624 = .ok (.iconst 0, 1) := by decide +kernel
theorem dL_isTold_625 : decode cL_isTold 625 = .ok (.ireturn, 1) := by decide +kernel
