theorem dL_known_0 : decode cL_known 0 = .ok (.new 14, 3) := by decide +kernel
theorem dL_known_3 : decode cL_known 3 = .ok (.dup, 1) := by decide +kernel
theorem dL_known_4 : decode cL_known 4 = .ok (.invokespecial 117, 3) := by decide +kernel
theorem dL_known_7 : decode cL_known 7 = .ok (.astore_n 0, 1) := by decide +kernel
theorem dL_known_8 : decode cL_known 8 = .ok (.aload_n 0, 1) := by decide +kernel
theorem dL_known_9 : decode cL_known 9 = .ok (.invokestatic 176, 3) := by decide +kernel
theorem dL_known_12 : decode cL_known 12 = .ok (.ifCond .eq 223, 3) := by decide +kernel
theorem dL_known_15 : decode cL_known 15 = .ok (.aload_n 0, 1) := by decide +kernel
theorem dL_known_16 : decode cL_known 16 = .ok (.invokevirtual 179, 3) := by decide +kernel
theorem dL_known_19 : decode cL_known 19 = .ok (.ldc 84, 2) := by decide +kernel
theorem dL_known_21 : decode cL_known 21 = .ok (.if_icmp .ne 214, 3) := by decide +kernel
theorem dL_known_24 : decode cL_known 24 = .ok (.aload_n 0, 1) := by decide +kernel
theorem dL_known_25 : decode cL_known 25 = .ok (.sipush 1000, 3) := by decide +kernel
theorem dL_known_28 : decode cL_known 28 = .ok (.sipush 1000, 3) := by decide +kernel
theorem dL_known_31 : decode cL_known 31 = .ok (.invokevirtual 32, 3) := by decide +kernel
theorem dL_known_34 : decode cL_known 34 = .ok (.ifCond .ne 201, 3) := by decide +kernel
theorem dL_known_37 : decode cL_known 37 = .ok (.aload_n 0, 1) := by decide +kernel
theorem dL_known_38 : decode cL_known 38 = .ok (.sipush 2000, 3) := by decide +kernel
theorem dL_known_41 : decode cL_known 41 = .ok (.sipush 500, 3) := by decide +kernel
theorem dL_known_44 : decode cL_known 44 = .ok (.invokevirtual 32, 3) := by decide +kernel
theorem dL_known_47 : decode cL_known 47 = .ok (.iconst 1, 1) := by decide +kernel
theorem dL_known_48 : decode cL_known 48 = .ok (.if_icmp .ne 187, 3) := by decide +kernel
theorem dL_known_51 : decode cL_known 51 = .ok (.aload_n 0, 1) := by decide +kernel
theorem dL_known_52 : decode cL_known 52 = .ok (.iconst 0, 1) := by decide +kernel
theorem dL_known_53 : decode cL_known 53 = .ok (.iconst 5, 1) := by decide +kernel
theorem dL_known_54 : decode cL_known 54 = .ok (.invokevirtual 25, 3) := by decide +kernel
theorem dL_known_57 : decode cL_known 57 = .ok (.sipush 1000, 3) := by decide +kernel
theorem dL_known_60 : decode cL_known 60 = .ok (.if_icmp .ne 175, 3) := by decide +kernel
theorem dL_known_63 : decode cL_known 63 = .ok (.aload_n 0, 1) := by decide +kernel
theorem dL_known_64 : decode cL_known 64 = .ok (.iconst 0, 1) := by decide +kernel
theorem dL_known_65 : decode cL_known 65 = .ok (.iconst 4, 1) := by decide +kernel
theorem dL_known_66 : decode cL_known 66 = .ok (.invokevirtual 25, 3) := by decide +kernel
theorem dL_known_69 : decode cL_known 69 = .ok (.sipush 1000, 3) := by decide +kernel
theorem dL_known_72 : decode cL_known 72 = .ok (.if_icmp .ne 163, 3) := by decide +kernel
theorem dL_known_75 : decode cL_known 75 = .ok (.aload_n 0, 1) := by decide +kernel
theorem dL_known_76 : decode cL_known 76 = .ok (.iconst 0, 1) := by decide +kernel
theorem dL_known_77 : decode cL_known 77 = .ok (.bipush 100, 2) := by decide +kernel
theorem dL_known_79 : decode cL_known 79 = .ok (.invokevirtual 42, 3) := by decide +kernel
theorem dL_known_82 : decode cL_known 82 = .ok (.bipush 100, 2) := by decide +kernel
theorem dL_known_84 : decode cL_known 84 = .ok (.if_icmp .ne 151, 3) := by decide +kernel
theorem dL_known_87 : decode cL_known 87 = .ok (.aload_n 0, 1) := by decide +kernel
theorem dL_known_88 : decode cL_known 88 = .ok (.iconst 0, 1) := by decide +kernel
theorem dL_known_89 : decode cL_known 89 = .ok (.iconst 5, 1) := by decide +kernel
theorem dL_known_90 : decode cL_known 90 = .ok (.invokevirtual 25, 3) := by decide +kernel
theorem dL_known_93 : decode cL_known 93 = .ok (.sipush 990, 3) := by decide +kernel
theorem dL_known_96 : decode cL_known 96 = .ok (.if_icmp .ne 139, 3) := by decide +kernel
theorem dL_known_99 : decode cL_known 99 = .ok (.aload_n 0, 1) := by decide +kernel
theorem dL_known_100 : decode cL_known 100 = .ok (.iconst 0, 1) := by decide +kernel
theorem dL_known_101 : decode cL_known 101 = .ok (.sipush 901, 3) := by decide +kernel
theorem dL_known_104 : decode cL_known 104 = .ok (.invokevirtual 42, 3) := by decide +kernel
theorem dL_known_107 : decode cL_known 107 = .ok (.ldc 175, 2) := by decide +kernel
theorem dL_known_109 : decode cL_known 109 = .ok (.if_icmp .ne 126, 3) := by decide +kernel
theorem dL_known_112 : decode cL_known 112 = .ok (.aload_n 0, 1) := by decide +kernel
theorem dL_known_113 : decode cL_known 113 = .ok (.iconst 0, 1) := by decide +kernel
theorem dL_known_114 : decode cL_known 114 = .ok (.bipush 101, 2) := by decide +kernel
theorem dL_known_116 : decode cL_known 116 = .ok (.invokevirtual 45, 3) := by decide +kernel
theorem dL_known_119 : decode cL_known 119 = .ok (.ldc 84, 2) := by decide +kernel
theorem dL_known_121 : decode cL_known 121 = .ok (.if_icmp .ne 114, 3) := by decide +kernel
theorem dL_known_124 : decode cL_known 124 = .ok (.aload_n 0, 1) := by decide +kernel
theorem dL_known_125 : decode cL_known 125 = .ok (.iconst 0, 1) := by decide +kernel
theorem dL_known_126 : decode cL_known 126 = .ok (.iconst 1, 1) := by decide +kernel
theorem dL_known_127 : decode cL_known 127 = .ok (.invokevirtual 45, 3) := by decide +kernel
theorem dL_known_130 : decode cL_known 130 = .ok (.bipush 99, 2) := by decide +kernel
theorem dL_known_132 : decode cL_known 132 = .ok (.if_icmp .ne 103, 3) := by decide +kernel
theorem dL_known_135 : decode cL_known 135 = .ok (.aload_n 0, 1) := by decide +kernel
theorem dL_known_136 : decode cL_known 136 = .ok (.iconst 0, 1) := by decide +kernel
theorem dL_known_137 : decode cL_known 137 = .ok (.iconst 5, 1) := by decide +kernel
theorem dL_known_138 : decode cL_known 138 = .ok (.invokevirtual 25, 3) := by decide +kernel
theorem dL_known_141 : decode cL_known 141 = .ok (.sipush 991, 3) := by decide +kernel
theorem dL_known_144 : decode cL_known 144 = .ok (.if_icmp .ne 91, 3) := by decide +kernel
theorem dL_known_147 : decode cL_known 147 = .ok (.aload_n 0, 1) := by decide +kernel
theorem dL_known_148 : decode cL_known 148 = .ok (.iconst 0, 1) := by decide +kernel
theorem dL_known_149 : decode cL_known 149 = .ok (.bipush 50, 2) := by decide +kernel
theorem dL_known_151 : decode cL_known 151 = .ok (.invokevirtual 48, 3) := by decide +kernel
theorem dL_known_154 : decode cL_known 154 = .ok (.bipush 49, 2) := by decide +kernel
theorem dL_known_156 : decode cL_known 156 = .ok (.if_icmp .ne 79, 3) := by decide +kernel
theorem dL_known_159 : decode cL_known 159 = .ok (.aload_n 0, 1) := by decide +kernel
theorem dL_known_160 : decode cL_known 160 = .ok (.iconst 0, 1) := by decide +kernel
theorem dL_known_161 : decode cL_known 161 = .ok (.iconst 5, 1) := by decide +kernel
theorem dL_known_162 : decode cL_known 162 = .ok (.invokevirtual 25, 3) := by decide +kernel
theorem dL_known_165 : decode cL_known 165 = .ok (.sipush 998, 3) := by decide +kernel
theorem dL_known_168 : decode cL_known 168 = .ok (.if_icmp .ne 67, 3) := by decide +kernel
theorem dL_known_171 : decode cL_known 171 = .ok (.aload_n 0, 1) := by decide +kernel
theorem dL_known_172 : decode cL_known 172 = .ok (.iconst 0, 1) := by decide +kernel
theorem dL_known_173 : decode cL_known 173 = .ok (.bipush 10, 2) := by decide +kernel
theorem dL_known_175 : decode cL_known 175 = .ok (.invokevirtual 42, 3) := by decide +kernel
theorem dL_known_178 : decode cL_known 178 = .ok (.bipush 50, 2) := by decide +kernel
theorem dL_known_180 : decode cL_known 180 = .ok (.if_icmp .ne 55, 3) := by decide +kernel
theorem dL_known_183 : decode cL_known 183 = .ok (.aload_n 0, 1) := by decide +kernel
theorem dL_known_184 : decode cL_known 184 = .ok (.bipush 20, 2) := by decide +kernel
theorem dL_known_186 : decode cL_known 186 = .ok (.invokevirtual 13, 3) := by decide +kernel
theorem dL_known_189 : decode cL_known 189 = .ok (.bipush 110, 2) := by decide +kernel
theorem dL_known_191 : decode cL_known 191 = .ok (.if_icmp .ne 44, 3) := by decide +kernel
theorem dL_known_194 : decode cL_known 194 = .ok (.aload_n 0, 1) := by decide +kernel
theorem dL_known_195 : decode cL_known 195 = .ok (.bipush 21, 2) := by decide +kernel
theorem dL_known_197 : decode cL_known 197 = .ok (.invokevirtual 13, 3) := by decide +kernel
theorem dL_known_200 : decode cL_known 200 = .ok (.bipush 50, 2) := by decide +kernel
theorem dL_known_202 : decode cL_known 202 = .ok (.if_icmp .ne 33, 3) := by decide +kernel
theorem dL_known_205 : decode cL_known 205 = .ok (.aload_n 0, 1) := by decide +kernel
theorem dL_known_206 : decode cL_known 206 = .ok (.bipush 22, 2) := by decide +kernel
theorem dL_known_208 : decode cL_known 208 = .ok (.invokevirtual 13, 3) := by decide +kernel
theorem dL_known_211 : decode cL_known 211 = .ok (.ifCond .ne 24, 3) := by decide +kernel
theorem dL_known_214 : decode cL_known 214 = .ok (.aload_n 0, 1) := by decide +kernel
theorem dL_known_215 : decode cL_known 215 = .ok (.bipush 23, 2) := by decide +kernel
theorem dL_known_217 : decode cL_known 217 = .ok (.invokevirtual 13, 3) := by decide +kernel
theorem dL_known_220 : decode cL_known 220 = .ok (.bipush 59, 2) := by decide +kernel
theorem dL_known_222 : decode cL_known 222 = .ok (.if_icmp .ne 13, 3) := by decide +kernel
theorem dL_known_225 : decode cL_known 225 = .ok (.aload_n 0, 1) := by decide +kernel
theorem dL_known_226 : decode cL_known 226 = .ok (.bipush 24, 2) := by decide +kernel
theorem dL_known_228 : decode cL_known 228 = .ok (.invokevirtual 13, 3) := by decide +kernel
theorem dL_known_231 : decode cL_known 231 = .ok (.iconst 1, 1) := by decide +kernel
theorem dL_known_232 : decode cL_known 232 = .ok (.if_icmp .eq 5, 3) := by decide +kernel
theorem dL_known_235 : decode cL_known 235 = .ok (.iconst 0, 1) := by decide +kernel
theorem dL_known_236 : decode cL_known 236 = .ok (.ireturn, 1) := by decide +kernel
theorem dL_known_237 : decode cL_known 237 = .ok (.aload_n 0, 1) := by decide +kernel
theorem dL_known_238 : decode cL_known 238 = .ok (.iconst 0, 1) := by decide +kernel
theorem dL_known_239 : decode cL_known 239 = .ok (.sipush 998, 3) := by decide +kernel
theorem dL_known_242 : decode cL_known 242 = .ok (.invokevirtual 54, 3) := by decide +kernel
theorem dL_known_245 : decode cL_known 245 = .ok (.bipush 45, 2) := by decide +kernel
theorem dL_known_247 : decode cL_known 247 = .ok (.if_icmp .ne 149, 3) := by decide +kernel
theorem dL_known_250 : decode cL_known 250 = .ok (.aload_n 0, 1) := by decide +kernel
theorem dL_known_251 : decode cL_known 251 = .ok (.iconst 0, 1) := by decide +kernel
theorem dL_known_252 : decode cL_known 252 = .ok (.sipush (-3000), 3) := by decide +kernel
theorem dL_known_255 : decode cL_known 255 = .ok (.invokevirtual 54, 3) := by decide +kernel
theorem dL_known_258 : decode cL_known 258 = .ok (.bipush 45, 2) := by decide +kernel
theorem dL_known_260 : decode cL_known 260 = .ok (.if_icmp .ne 136, 3) := by decide +kernel
theorem dL_known_263 : decode cL_known 263 = .ok (.aload_n 0, 1) := by decide +kernel
theorem dL_known_264 : decode cL_known 264 = .ok (.iconst 0, 1) := by decide +kernel
theorem dL_known_265 : decode cL_known 265 = .ok (.sipush 6000, 3) := by decide +kernel
theorem dL_known_268 : decode cL_known 268 = .ok (.invokevirtual 54, 3) := by decide +kernel
theorem dL_known_271 : decode cL_known 271 = .ok (.ifCond .ne 125, 3) := by decide +kernel
theorem dL_known_274 : decode cL_known 274 = .ok (.aload_n 0, 1) := by decide +kernel
theorem dL_known_275 : decode cL_known 275 = .ok (.sipush 1500, 3) := by decide +kernel
theorem dL_known_278 : decode cL_known 278 = .ok (.invokevirtual 36, 3) := by decide +kernel
theorem dL_known_281 : decode cL_known 281 = .ok (.iconst 1, 1) := by decide +kernel
theorem dL_known_282 : decode cL_known 282 = .ok (.if_icmp .ne 114, 3) := by decide +kernel
theorem dL_known_285 : decode cL_known 285 = .ok (.aload_n 0, 1) := by decide +kernel
theorem dL_known_286 : decode cL_known 286 = .ok (.sipush 1499, 3) := by decide +kernel
theorem dL_known_289 : decode cL_known 289 = .ok (.invokevirtual 36, 3) := by decide +kernel
theorem dL_known_292 : decode cL_known 292 = .ok (.ifCond .ne 104, 3) := by decide +kernel
theorem dL_known_295 : decode cL_known 295 = .ok (.aload_n 0, 1) := by decide +kernel
theorem dL_known_296 : decode cL_known 296 = .ok (.iconst 5, 1) := by decide +kernel
theorem dL_known_297 : decode cL_known 297 = .ok (.sipush 1000, 3) := by decide +kernel
theorem dL_known_300 : decode cL_known 300 = .ok (.invokevirtual 68, 3) := by decide +kernel
theorem dL_known_303 : decode cL_known 303 = .ok (.ifCond .ne 93, 3) := by decide +kernel
theorem dL_known_306 : decode cL_known 306 = .ok (.aload_n 0, 1) := by decide +kernel
theorem dL_known_307 : decode cL_known 307 = .ok (.iconst 2, 1) := by decide +kernel
theorem dL_known_308 : decode cL_known 308 = .ok (.sipush 2010, 3) := by decide +kernel
theorem dL_known_311 : decode cL_known 311 = .ok (.invokevirtual 68, 3) := by decide +kernel
theorem dL_known_314 : decode cL_known 314 = .ok (.ifCond .ne 82, 3) := by decide +kernel
theorem dL_known_317 : decode cL_known 317 = .ok (.aload_n 0, 1) := by decide +kernel
theorem dL_known_318 : decode cL_known 318 = .ok (.iconst 5, 1) := by decide +kernel
theorem dL_known_319 : decode cL_known 319 = .ok (.iconst 1, 1) := by decide +kernel
theorem dL_known_320 : decode cL_known 320 = .ok (.invokevirtual 68, 3) := by decide +kernel
theorem dL_known_323 : decode cL_known 323 = .ok (.ldc 84, 2) := by decide +kernel
theorem dL_known_325 : decode cL_known 325 = .ok (.if_icmp .ne 71, 3) := by decide +kernel
theorem dL_known_328 : decode cL_known 328 = .ok (.aload_n 0, 1) := by decide +kernel
theorem dL_known_329 : decode cL_known 329 = .ok (.iconst 0, 1) := by decide +kernel
theorem dL_known_330 : decode cL_known 330 = .ok (.iconst 0, 1) := by decide +kernel
theorem dL_known_331 : decode cL_known 331 = .ok (.invokevirtual 29, 3) := by decide +kernel
theorem dL_known_334 : decode cL_known 334 = .ok (.iconst 2, 1) := by decide +kernel
theorem dL_known_335 : decode cL_known 335 = .ok (.if_icmp .ne 61, 3) := by decide +kernel
theorem dL_known_338 : decode cL_known 338 = .ok (.aload_n 0, 1) := by decide +kernel
theorem dL_known_339 : decode cL_known 339 = .ok (.iconst 1, 1) := by decide +kernel
theorem dL_known_340 : decode cL_known 340 = .ok (.iconst 0, 1) := by decide +kernel
theorem dL_known_341 : decode cL_known 341 = .ok (.invokevirtual 29, 3) := by decide +kernel
theorem dL_known_344 : decode cL_known 344 = .ok (.iconst 5, 1) := by decide +kernel
theorem dL_known_345 : decode cL_known 345 = .ok (.if_icmp .ne 51, 3) := by decide +kernel
theorem dL_known_348 : decode cL_known 348 = .ok (.aload_n 0, 1) := by decide +kernel
theorem dL_known_349 : decode cL_known 349 = .ok (.iconst 3, 1) := by decide +kernel
theorem dL_known_350 : decode cL_known 350 = .ok (.invokevirtual 13, 3) := by decide +kernel
theorem dL_known_353 : decode cL_known 353 = .ok (.iconst 1, 1) := by decide +kernel
theorem dL_known_354 : decode cL_known 354 = .ok (.if_icmp .ne 42, 3) := by decide +kernel
theorem dL_known_357 : decode cL_known 357 = .ok (.aload_n 0, 1) := by decide +kernel
theorem dL_known_358 : decode cL_known 358 = .ok (.iconst 1, 1) := by decide +kernel
theorem dL_known_359 : decode cL_known 359 = .ok (.iconst 2, 1) := by decide +kernel
theorem dL_known_360 : decode cL_known 360 = .ok (.invokevirtual 29, 3) := by decide +kernel
theorem dL_known_363 : decode cL_known 363 = .ok (.ifCond .ne 33, 3) := by decide +kernel
theorem dL_known_366 : decode cL_known 366 = .ok (.aload_n 0, 1) := by decide +kernel
theorem dL_known_367 : decode cL_known 367 = .ok (.iconst 1, 1) := by decide +kernel
theorem dL_known_368 : decode cL_known 368 = .ok (.iconst 3, 1) := by decide +kernel
theorem dL_known_369 : decode cL_known 369 = .ok (.invokevirtual 96, 3) := by decide +kernel
theorem dL_known_372 : decode cL_known 372 = .ok (.bipush 10, 2) := by decide +kernel
theorem dL_known_374 : decode cL_known 374 = .ok (.if_icmp .ne 22, 3) := by decide +kernel
theorem dL_known_377 : decode cL_known 377 = .ok (.aload_n 0, 1) := by decide +kernel
theorem dL_known_378 : decode cL_known 378 = .ok (.iconst 3, 1) := by decide +kernel
theorem dL_known_379 : decode cL_known 379 = .ok (.invokevirtual 13, 3) := by decide +kernel
theorem dL_known_382 : decode cL_known 382 = .ok (.iconst 2, 1) := by decide +kernel
theorem dL_known_383 : decode cL_known 383 = .ok (.if_icmp .ne 13, 3) := by decide +kernel
theorem dL_known_386 : decode cL_known 386 = .ok (.aload_n 0, 1) := by decide +kernel
theorem dL_known_387 : decode cL_known 387 = .ok (.iconst 1, 1) := by decide +kernel
theorem dL_known_388 : decode cL_known 388 = .ok (.iconst 2, 1) := by decide +kernel
theorem dL_known_389 : decode cL_known 389 = .ok (.invokevirtual 29, 3) := by decide +kernel
theorem dL_known_392 : decode cL_known 392 = .ok (.iconst 1, 1) := by decide +kernel
theorem dL_known_393 : decode cL_known 393 = .ok (.if_icmp .eq 5, 3) := by decide +kernel
theorem dL_known_396 : decode cL_known 396 = .ok (.iconst 0, 1) := by decide +kernel
theorem dL_known_397 : decode cL_known 397 = .ok (.ireturn, 1) := by decide +kernel
theorem dL_known_398 : decode cL_known 398 = .ok (.aload_n 0, 1) := by decide +kernel
theorem dL_known_399 : decode cL_known 399 = .ok (.iconst 0, 1) := by decide +kernel
theorem dL_known_400 : decode cL_known 400 = .ok (.invokevirtual 81, 3) := by decide +kernel
theorem dL_known_403 : decode cL_known 403 = .ok (.bipush (-10), 2) := by decide +kernel
theorem dL_known_405 : decode cL_known 405 = .ok (.if_icmp .ne 203, 3) := by decide +kernel
theorem dL_known_408 : decode cL_known 408 = .ok (.aload_n 0, 1) := by decide +kernel
theorem dL_known_409 : decode cL_known 409 = .ok (.iconst 1, 1) := by decide +kernel
theorem dL_known_410 : decode cL_known 410 = .ok (.invokevirtual 81, 3) := by decide +kernel
theorem dL_known_413 : decode cL_known 413 = .ok (.bipush (-2), 2) := by decide +kernel
theorem dL_known_415 : decode cL_known 415 = .ok (.if_icmp .ne 193, 3) := by decide +kernel
theorem dL_known_418 : decode cL_known 418 = .ok (.aload_n 0, 1) := by decide +kernel
theorem dL_known_419 : decode cL_known 419 = .ok (.invokevirtual 61, 3) := by decide +kernel
theorem dL_known_422 : decode cL_known 422 = .ok (.ldc 60, 2) := by decide +kernel
theorem dL_known_424 : decode cL_known 424 = .ok (.if_icmp .ne 184, 3) := by decide +kernel
theorem dL_known_427 : decode cL_known 427 = .ok (.aload_n 0, 1) := by decide +kernel
theorem dL_known_428 : decode cL_known 428 = .ok (.iconst 2, 1) := by decide +kernel
theorem dL_known_429 : decode cL_known 429 = .ok (.bipush 9, 2) := by decide +kernel
theorem dL_known_431 : decode cL_known 431 = .ok (.invokevirtual 96, 3) := by decide +kernel
theorem dL_known_434 : decode cL_known 434 = .ok (.bipush 10, 2) := by decide +kernel
theorem dL_known_436 : decode cL_known 436 = .ok (.if_icmp .ne 172, 3) := by decide +kernel
theorem dL_known_439 : decode cL_known 439 = .ok (.aload_n 0, 1) := by decide +kernel
theorem dL_known_440 : decode cL_known 440 = .ok (.invokevirtual 61, 3) := by decide +kernel
theorem dL_known_443 : decode cL_known 443 = .ok (.ifCond .ne 165, 3) := by decide +kernel
theorem dL_known_446 : decode cL_known 446 = .ok (.aload_n 0, 1) := by decide +kernel
theorem dL_known_447 : decode cL_known 447 = .ok (.invokevirtual 65, 3) := by decide +kernel
theorem dL_known_450 : decode cL_known 450 = .ok (.bipush 10, 2) := by decide +kernel
theorem dL_known_452 : decode cL_known 452 = .ok (.if_icmp .ne 156, 3) := by decide +kernel
theorem dL_known_455 : decode cL_known 455 = .ok (.aload_n 0, 1) := by decide +kernel
theorem dL_known_456 : decode cL_known 456 = .ok (.iconst 0, 1) := by decide +kernel
theorem dL_known_457 : decode cL_known 457 = .ok (.iconst 3, 1) := by decide +kernel
theorem dL_known_458 : decode cL_known 458 = .ok (.invokevirtual 29, 3) := by decide +kernel
theorem dL_known_461 : decode cL_known 461 = .ok (.ifCond .ne 147, 3) := by decide +kernel
theorem dL_known_464 : decode cL_known 464 = .ok (.aload_n 0, 1) := by decide +kernel
theorem dL_known_465 : decode cL_known 465 = .ok (.iconst 4, 1) := by decide +kernel
theorem dL_known_466 : decode cL_known 466 = .ok (.invokevirtual 99, 3) := by decide +kernel
theorem dL_known_469 : decode cL_known 469 = .ok (.iconst 1, 1) := by decide +kernel
theorem dL_known_470 : decode cL_known 470 = .ok (.if_icmp .ne 138, 3) := by decide +kernel
theorem dL_known_473 : decode cL_known 473 = .ok (.aload_n 0, 1) := by decide +kernel
theorem dL_known_474 : decode cL_known 474 = .ok (.iconst 0, 1) := by decide +kernel
theorem dL_known_475 : decode cL_known 475 = .ok (.iconst 3, 1) := by decide +kernel
theorem dL_known_476 : decode cL_known 476 = .ok (.invokevirtual 29, 3) := by decide +kernel
theorem dL_known_479 : decode cL_known 479 = .ok (.iconst 1, 1) := by decide +kernel
theorem dL_known_480 : decode cL_known 480 = .ok (.if_icmp .ne 128, 3) := by decide +kernel
theorem dL_known_483 : decode cL_known 483 = .ok (.aload_n 0, 1) := by decide +kernel
theorem dL_known_484 : decode cL_known 484 = .ok (.iconst 0, 1) := by decide +kernel
theorem dL_known_485 : decode cL_known 485 = .ok (.iconst 4, 1) := by decide +kernel
theorem dL_known_486 : decode cL_known 486 = .ok (.invokevirtual 29, 3) := by decide +kernel
theorem dL_known_489 : decode cL_known 489 = .ok (.iconst 1, 1) := by decide +kernel
theorem dL_known_490 : decode cL_known 490 = .ok (.if_icmp .ne 118, 3) := by decide +kernel
theorem dL_known_493 : decode cL_known 493 = .ok (.aload_n 0, 1) := by decide +kernel
theorem dL_known_494 : decode cL_known 494 = .ok (.iconst 0, 1) := by decide +kernel
theorem dL_known_495 : decode cL_known 495 = .ok (.iconst 5, 1) := by decide +kernel
theorem dL_known_496 : decode cL_known 496 = .ok (.invokevirtual 29, 3) := by decide +kernel
theorem dL_known_499 : decode cL_known 499 = .ok (.bipush (-10), 2) := by decide +kernel
theorem dL_known_501 : decode cL_known 501 = .ok (.if_icmp .ne 107, 3) := by decide +kernel
theorem dL_known_504 : decode cL_known 504 = .ok (.aload_n 0, 1) := by decide +kernel
theorem dL_known_505 : decode cL_known 505 = .ok (.iconst 0, 1) := by decide +kernel
theorem dL_known_506 : decode cL_known 506 = .ok (.bipush 6, 2) := by decide +kernel
theorem dL_known_508 : decode cL_known 508 = .ok (.invokevirtual 29, 3) := by decide +kernel
theorem dL_known_511 : decode cL_known 511 = .ok (.ifCond .ne 97, 3) := by decide +kernel
theorem dL_known_514 : decode cL_known 514 = .ok (.aload_n 0, 1) := by decide +kernel
theorem dL_known_515 : decode cL_known 515 = .ok (.iconst 1, 1) := by decide +kernel
theorem dL_known_516 : decode cL_known 516 = .ok (.iconst 4, 1) := by decide +kernel
theorem dL_known_517 : decode cL_known 517 = .ok (.invokevirtual 29, 3) := by decide +kernel
theorem dL_known_520 : decode cL_known 520 = .ok (.ldc 60, 2) := by decide +kernel
theorem dL_known_522 : decode cL_known 522 = .ok (.if_icmp .ne 86, 3) := by decide +kernel
theorem dL_known_525 : decode cL_known 525 = .ok (.aload_n 0, 1) := by decide +kernel
theorem dL_known_526 : decode cL_known 526 = .ok (.iconst 1, 1) := by decide +kernel
theorem dL_known_527 : decode cL_known 527 = .ok (.bipush 6, 2) := by decide +kernel
theorem dL_known_529 : decode cL_known 529 = .ok (.invokevirtual 29, 3) := by decide +kernel
theorem dL_known_532 : decode cL_known 532 = .ok (.ldc 60, 2) := by decide +kernel
theorem dL_known_534 : decode cL_known 534 = .ok (.if_icmp .ne 74, 3) := by decide +kernel
theorem dL_known_537 : decode cL_known 537 = .ok (.aload_n 0, 1) := by decide +kernel
theorem dL_known_538 : decode cL_known 538 = .ok (.iconst 0, 1) := by decide +kernel
theorem dL_known_539 : decode cL_known 539 = .ok (.invokevirtual 81, 3) := by decide +kernel
theorem dL_known_542 : decode cL_known 542 = .ok (.ldc 84, 2) := by decide +kernel
theorem dL_known_544 : decode cL_known 544 = .ok (.if_icmp .ne 64, 3) := by decide +kernel
theorem dL_known_547 : decode cL_known 547 = .ok (.aload_n 0, 1) := by decide +kernel
theorem dL_known_548 : decode cL_known 548 = .ok (.iconst 4, 1) := by decide +kernel
theorem dL_known_549 : decode cL_known 549 = .ok (.invokevirtual 13, 3) := by decide +kernel
theorem dL_known_552 : decode cL_known 552 = .ok (.iconst 1, 1) := by decide +kernel
theorem dL_known_553 : decode cL_known 553 = .ok (.if_icmp .ne 55, 3) := by decide +kernel
theorem dL_known_556 : decode cL_known 556 = .ok (.aload_n 0, 1) := by decide +kernel
theorem dL_known_557 : decode cL_known 557 = .ok (.iconst 5, 1) := by decide +kernel
theorem dL_known_558 : decode cL_known 558 = .ok (.invokevirtual 13, 3) := by decide +kernel
theorem dL_known_561 : decode cL_known 561 = .ok (.ifCond .ne 47, 3) := by decide +kernel
theorem dL_known_564 : decode cL_known 564 = .ok (.aload_n 0, 1) := by decide +kernel
theorem dL_known_565 : decode cL_known 565 = .ok (.bipush 6, 2) := by decide +kernel
theorem dL_known_567 : decode cL_known 567 = .ok (.invokevirtual 13, 3) := by decide +kernel
theorem dL_known_570 : decode cL_known 570 = .ok (.ifCond .ne 38, 3) := by decide +kernel
theorem dL_known_573 : decode cL_known 573 = .ok (.aload_n 0, 1) := by decide +kernel
theorem dL_known_574 : decode cL_known 574 = .ok (.iconst 0, 1) := by decide +kernel
theorem dL_known_575 : decode cL_known 575 = .ok (.invokevirtual 75, 3) := by decide +kernel
theorem dL_known_578 : decode cL_known 578 = .ok (.ifCond .ne 30, 3) := by decide +kernel
theorem dL_known_581 : decode cL_known 581 = .ok (.aload_n 0, 1) := by decide +kernel
theorem dL_known_582 : decode cL_known 582 = .ok (.iconst 1, 1) := by decide +kernel
theorem dL_known_583 : decode cL_known 583 = .ok (.invokevirtual 75, 3) := by decide +kernel
theorem dL_known_586 : decode cL_known 586 = .ok (.ldc 60, 2) := by decide +kernel
theorem dL_known_588 : decode cL_known 588 = .ok (.if_icmp .ne 20, 3) := by decide +kernel
theorem dL_known_591 : decode cL_known 591 = .ok (.aload_n 0, 1) := by decide +kernel
theorem dL_known_592 : decode cL_known 592 = .ok (.invokevirtual 61, 3) := by decide +kernel
theorem dL_known_595 : decode cL_known 595 = .ok (.ldc 60, 2) := by decide +kernel
theorem dL_known_597 : decode cL_known 597 = .ok (.if_icmp .ne 11, 3) := by decide +kernel
theorem dL_known_600 : decode cL_known 600 = .ok (.aload_n 0, 1) := by decide +kernel
theorem dL_known_601 : decode cL_known 601 = .ok (.invokevirtual 65, 3) := by decide +kernel
theorem dL_known_604 : decode cL_known 604 = .ok (.iconst 2, 1) := by decide +kernel
theorem dL_known_605 : decode cL_known 605 = .ok (.if_icmp .eq 5, 3) := by decide +kernel
theorem dL_known_608 : decode cL_known 608 = .ok (.iconst 0, 1) := by decide +kernel
theorem dL_known_609 : decode cL_known 609 = .ok (.ireturn, 1) := by decide +kernel
theorem dL_known_610 : decode cL_known 610 = .ok (.aload_n 0, 1) := by decide +kernel
theorem dL_known_611 : decode cL_known 611 = .ok (.iconst 3, 1) := by decide +kernel
theorem dL_known_612 : decode cL_known 612 = .ok (.sipush 500, 3) := by decide +kernel
theorem dL_known_615 : decode cL_known 615 = .ok (.invokevirtual 68, 3) := by decide +kernel
theorem dL_known_618 : decode cL_known 618 = .ok (.iconst 1, 1) := by decide +kernel
theorem dL_known_619 : decode cL_known 619 = .ok (.if_icmp .ne 180, 3) := by decide +kernel
theorem dL_known_622 : decode cL_known 622 = .ok (.aload_n 0, 1) := by decide +kernel
theorem dL_known_623 : decode cL_known 623 = .ok (.iconst 3, 1) := by decide +kernel
theorem dL_known_624 : decode cL_known 624 = .ok (.invokevirtual 13, 3) := by decide +kernel
theorem dL_known_627 : decode cL_known 627 = .ok (.iconst 1, 1) := by decide +kernel
theorem dL_known_628 : decode cL_known 628 = .ok (.if_icmp .ne 171, 3) := by decide +kernel
theorem dL_known_631 : decode cL_known 631 = .ok (.aload_n 0, 1) := by decide +kernel
theorem dL_known_632 : decode cL_known 632 = .ok (.iconst 1, 1) := by decide +kernel
theorem dL_known_633 : decode cL_known 633 = .ok (.invokevirtual 78, 3) := by decide +kernel
theorem dL_known_636 : decode cL_known 636 = .ok (.iconst 2, 1) := by decide +kernel
theorem dL_known_637 : decode cL_known 637 = .ok (.if_icmp .ne 162, 3) := by decide +kernel
theorem dL_known_640 : decode cL_known 640 = .ok (.aload_n 0, 1) := by decide +kernel
theorem dL_known_641 : decode cL_known 641 = .ok (.iconst 0, 1) := by decide +kernel
theorem dL_known_642 : decode cL_known 642 = .ok (.bipush 60, 2) := by decide +kernel
theorem dL_known_644 : decode cL_known 644 = .ok (.invokevirtual 51, 3) := by decide +kernel
theorem dL_known_647 : decode cL_known 647 = .ok (.ifCond .ne 152, 3) := by decide +kernel
theorem dL_known_650 : decode cL_known 650 = .ok (.aload_n 0, 1) := by decide +kernel
theorem dL_known_651 : decode cL_known 651 = .ok (.iconst 0, 1) := by decide +kernel
theorem dL_known_652 : decode cL_known 652 = .ok (.bipush 6, 2) := by decide +kernel
theorem dL_known_654 : decode cL_known 654 = .ok (.invokevirtual 25, 3) := by decide +kernel
theorem dL_known_657 : decode cL_known 657 = .ok (.sipush 998, 3) := by decide +kernel
theorem dL_known_660 : decode cL_known 660 = .ok (.if_icmp .ne 139, 3) := by decide +kernel
theorem dL_known_663 : decode cL_known 663 = .ok (.aload_n 0, 1) := by decide +kernel
theorem dL_known_664 : decode cL_known 664 = .ok (.iconst 3, 1) := by decide +kernel
theorem dL_known_665 : decode cL_known 665 = .ok (.iconst 1, 1) := by decide +kernel
theorem dL_known_666 : decode cL_known 666 = .ok (.invokevirtual 96, 3) := by decide +kernel
theorem dL_known_669 : decode cL_known 669 = .ok (.ifCond .ne 130, 3) := by decide +kernel
theorem dL_known_672 : decode cL_known 672 = .ok (.aload_n 0, 1) := by decide +kernel
theorem dL_known_673 : decode cL_known 673 = .ok (.iconst 1, 1) := by decide +kernel
theorem dL_known_674 : decode cL_known 674 = .ok (.invokevirtual 99, 3) := by decide +kernel
theorem dL_known_677 : decode cL_known 677 = .ok (.iconst 1, 1) := by decide +kernel
theorem dL_known_678 : decode cL_known 678 = .ok (.if_icmp .ne 121, 3) := by decide +kernel
theorem dL_known_681 : decode cL_known 681 = .ok (.aload_n 0, 1) := by decide +kernel
theorem dL_known_682 : decode cL_known 682 = .ok (.iconst 1, 1) := by decide +kernel
theorem dL_known_683 : decode cL_known 683 = .ok (.iconst 4, 1) := by decide +kernel
theorem dL_known_684 : decode cL_known 684 = .ok (.invokevirtual 29, 3) := by decide +kernel
theorem dL_known_687 : decode cL_known 687 = .ok (.ifCond .ne 112, 3) := by decide +kernel
theorem dL_known_690 : decode cL_known 690 = .ok (.aload_n 0, 1) := by decide +kernel
theorem dL_known_691 : decode cL_known 691 = .ok (.iconst 1, 1) := by decide +kernel
theorem dL_known_692 : decode cL_known 692 = .ok (.iconst 5, 1) := by decide +kernel
theorem dL_known_693 : decode cL_known 693 = .ok (.invokevirtual 29, 3) := by decide +kernel
theorem dL_known_696 : decode cL_known 696 = .ok (.bipush (-2), 2) := by decide +kernel
theorem dL_known_698 : decode cL_known 698 = .ok (.if_icmp .ne 101, 3) := by decide +kernel
theorem dL_known_701 : decode cL_known 701 = .ok (.aload_n 0, 1) := by decide +kernel
theorem dL_known_702 : decode cL_known 702 = .ok (.iconst 1, 1) := by decide +kernel
theorem dL_known_703 : decode cL_known 703 = .ok (.bipush 6, 2) := by decide +kernel
theorem dL_known_705 : decode cL_known 705 = .ok (.invokevirtual 29, 3) := by decide +kernel
theorem dL_known_708 : decode cL_known 708 = .ok (.iconst 1, 1) := by decide +kernel
theorem dL_known_709 : decode cL_known 709 = .ok (.if_icmp .ne 90, 3) := by decide +kernel
theorem dL_known_712 : decode cL_known 712 = .ok (.aload_n 0, 1) := by decide +kernel
theorem dL_known_713 : decode cL_known 713 = .ok (.bipush 20, 2) := by decide +kernel
theorem dL_known_715 : decode cL_known 715 = .ok (.invokevirtual 13, 3) := by decide +kernel
theorem dL_known_718 : decode cL_known 718 = .ok (.bipush 120, 2) := by decide +kernel
theorem dL_known_720 : decode cL_known 720 = .ok (.if_icmp .ne 79, 3) := by decide +kernel
theorem dL_known_723 : decode cL_known 723 = .ok (.aload_n 0, 1) := by decide +kernel
theorem dL_known_724 : decode cL_known 724 = .ok (.bipush 23, 2) := by decide +kernel
theorem dL_known_726 : decode cL_known 726 = .ok (.invokevirtual 13, 3) := by decide +kernel
theorem dL_known_729 : decode cL_known 729 = .ok (.bipush 69, 2) := by decide +kernel
theorem dL_known_731 : decode cL_known 731 = .ok (.if_icmp .ne 68, 3) := by decide +kernel
theorem dL_known_734 : decode cL_known 734 = .ok (.aload_n 0, 1) := by decide +kernel
theorem dL_known_735 : decode cL_known 735 = .ok (.iconst 0, 1) := by decide +kernel
theorem dL_known_736 : decode cL_known 736 = .ok (.invokevirtual 75, 3) := by decide +kernel
theorem dL_known_739 : decode cL_known 739 = .ok (.ifCond .ne 60, 3) := by decide +kernel
theorem dL_known_742 : decode cL_known 742 = .ok (.aload_n 0, 1) := by decide +kernel
theorem dL_known_743 : decode cL_known 743 = .ok (.iconst 1, 1) := by decide +kernel
theorem dL_known_744 : decode cL_known 744 = .ok (.invokevirtual 75, 3) := by decide +kernel
theorem dL_known_747 : decode cL_known 747 = .ok (.iconst 1, 1) := by decide +kernel
theorem dL_known_748 : decode cL_known 748 = .ok (.if_icmp .ne 51, 3) := by decide +kernel
theorem dL_known_751 : decode cL_known 751 = .ok (.aload_n 0, 1) := by decide +kernel
theorem dL_known_752 : decode cL_known 752 = .ok (.iconst 0, 1) := by decide +kernel
theorem dL_known_753 : decode cL_known 753 = .ok (.iconst 1, 1) := by decide +kernel
theorem dL_known_754 : decode cL_known 754 = .ok (.sipush (-1001), 3) := by decide +kernel
theorem dL_known_757 : decode cL_known 757 = .ok (.invokevirtual 71, 3) := by decide +kernel
theorem dL_known_760 : decode cL_known 760 = .ok (.ldc 84, 2) := by decide +kernel
theorem dL_known_762 : decode cL_known 762 = .ok (.if_icmp .ne 37, 3) := by decide +kernel
theorem dL_known_765 : decode cL_known 765 = .ok (.aload_n 0, 1) := by decide +kernel
theorem dL_known_766 : decode cL_known 766 = .ok (.iconst 0, 1) := by decide +kernel
theorem dL_known_767 : decode cL_known 767 = .ok (.iconst 1, 1) := by decide +kernel
theorem dL_known_768 : decode cL_known 768 = .ok (.iconst 5, 1) := by decide +kernel
theorem dL_known_769 : decode cL_known 769 = .ok (.invokevirtual 71, 3) := by decide +kernel
theorem dL_known_772 : decode cL_known 772 = .ok (.iconst 2, 1) := by decide +kernel
theorem dL_known_773 : decode cL_known 773 = .ok (.if_icmp .ne 26, 3) := by decide +kernel
theorem dL_known_776 : decode cL_known 776 = .ok (.aload_n 0, 1) := by decide +kernel
theorem dL_known_777 : decode cL_known 777 = .ok (.iconst 1, 1) := by decide +kernel
theorem dL_known_778 : decode cL_known 778 = .ok (.iconst 1, 1) := by decide +kernel
theorem dL_known_779 : decode cL_known 779 = .ok (.invokevirtual 29, 3) := by decide +kernel
theorem dL_known_782 : decode cL_known 782 = .ok (.sipush 1005, 3) := by decide +kernel
theorem dL_known_785 : decode cL_known 785 = .ok (.if_icmp .ne 14, 3) := by decide +kernel
theorem dL_known_788 : decode cL_known 788 = .ok (.aload_n 0, 1) := by decide +kernel
theorem dL_known_789 : decode cL_known 789 = .ok (.iconst 1, 1) := by decide +kernel
theorem dL_known_790 : decode cL_known 790 = .ok (.iconst 5, 1) := by decide +kernel
theorem dL_known_791 : decode cL_known 791 = .ok (.invokevirtual 29, 3) := by decide +kernel
theorem dL_known_794 : decode cL_known 794 = .ok (.bipush (-2), 2) := by decide +kernel
theorem dL_known_796 : decode cL_known 796 = .ok (.if_icmp .eq 5, 3) := by decide +kernel
theorem dL_known_799 : decode cL_known 799 = .ok (.iconst 0, 1) := by decide +kernel
theorem dL_known_800 : decode cL_known 800 = .ok (.ireturn, 1) := by decide +kernel
theorem dL_known_801 : decode cL_known 801 = .ok (.aload_n 0, 1) := by decide +kernel
theorem dL_known_802 : decode cL_known 802 = .ok (.invokevirtual 65, 3) := by decide +kernel
theorem dL_known_805 : decode cL_known 805 = .ok (.ldc 60, 2) := by decide +kernel
theorem dL_known_807 : decode cL_known 807 = .ok (.if_icmp .ne 192, 3) := by decide +kernel
theorem dL_known_810 : decode cL_known 810 = .ok (.aload_n 0, 1) := by decide +kernel
theorem dL_known_811 : decode cL_known 811 = .ok (.invokevirtual 182, 3) := by decide +kernel
theorem dL_known_814 : decode cL_known 814 = .ok (.iconst 5, 1) := by decide +kernel
theorem dL_known_815 : decode cL_known 815 = .ok (.if_icmp .ne 184, 3) := by decide +kernel
theorem dL_known_818 : decode cL_known 818 = .ok (.aload_n 0, 1) := by decide +kernel
theorem dL_known_819 : decode cL_known 819 = .ok (.iconst 0, 1) := by decide +kernel
theorem dL_known_820 : decode cL_known 820 = .ok (.invokevirtual 13, 3) := by decide +kernel
theorem dL_known_823 : decode cL_known 823 = .ok (.ifCond .ne 176, 3) := by decide +kernel
theorem dL_known_826 : decode cL_known 826 = .ok (.aload_n 0, 1) := by decide +kernel
theorem dL_known_827 : decode cL_known 827 = .ok (.iconst 0, 1) := by decide +kernel
theorem dL_known_828 : decode cL_known 828 = .ok (.iconst 3, 1) := by decide +kernel
theorem dL_known_829 : decode cL_known 829 = .ok (.invokevirtual 29, 3) := by decide +kernel
theorem dL_known_832 : decode cL_known 832 = .ok (.ifCond .ne 167, 3) := by decide +kernel
theorem dL_known_835 : decode cL_known 835 = .ok (.aload_n 0, 1) := by decide +kernel
theorem dL_known_836 : decode cL_known 836 = .ok (.iconst 0, 1) := by decide +kernel
theorem dL_known_837 : decode cL_known 837 = .ok (.iconst 4, 1) := by decide +kernel
theorem dL_known_838 : decode cL_known 838 = .ok (.invokevirtual 29, 3) := by decide +kernel
theorem dL_known_841 : decode cL_known 841 = .ok (.ldc 60, 2) := by decide +kernel
theorem dL_known_843 : decode cL_known 843 = .ok (.if_icmp .ne 156, 3) := by decide +kernel
theorem dL_known_846 : decode cL_known 846 = .ok (.aload_n 0, 1) := by decide +kernel
theorem dL_known_847 : decode cL_known 847 = .ok (.iconst 0, 1) := by decide +kernel
theorem dL_known_848 : decode cL_known 848 = .ok (.invokevirtual 75, 3) := by decide +kernel
theorem dL_known_851 : decode cL_known 851 = .ok (.ldc 60, 2) := by decide +kernel
theorem dL_known_853 : decode cL_known 853 = .ok (.if_icmp .ne 146, 3) := by decide +kernel
theorem dL_known_856 : decode cL_known 856 = .ok (.aload_n 0, 1) := by decide +kernel
theorem dL_known_857 : decode cL_known 857 = .ok (.iconst 0, 1) := by decide +kernel
theorem dL_known_858 : decode cL_known 858 = .ok (.iconst 2, 1) := by decide +kernel
theorem dL_known_859 : decode cL_known 859 = .ok (.invokevirtual 96, 3) := by decide +kernel
theorem dL_known_862 : decode cL_known 862 = .ok (.bipush 60, 2) := by decide +kernel
theorem dL_known_864 : decode cL_known 864 = .ok (.if_icmp .ne 135, 3) := by decide +kernel
theorem dL_known_867 : decode cL_known 867 = .ok (.aload_n 0, 1) := by decide +kernel
theorem dL_known_868 : decode cL_known 868 = .ok (.iconst 0, 1) := by decide +kernel
theorem dL_known_869 : decode cL_known 869 = .ok (.iconst 2, 1) := by decide +kernel
theorem dL_known_870 : decode cL_known 870 = .ok (.invokevirtual 57, 3) := by decide +kernel
theorem dL_known_873 : decode cL_known 873 = .ok (.sipush 998, 3) := by decide +kernel
theorem dL_known_876 : decode cL_known 876 = .ok (.if_icmp .ne 123, 3) := by decide +kernel
theorem dL_known_879 : decode cL_known 879 = .ok (.aload_n 0, 1) := by decide +kernel
theorem dL_known_880 : decode cL_known 880 = .ok (.iconst 1, 1) := by decide +kernel
theorem dL_known_881 : decode cL_known 881 = .ok (.sipush 3600, 3) := by decide +kernel
theorem dL_known_884 : decode cL_known 884 = .ok (.invokevirtual 57, 3) := by decide +kernel
theorem dL_known_887 : decode cL_known 887 = .ok (.sipush 2000, 3) := by decide +kernel
theorem dL_known_890 : decode cL_known 890 = .ok (.if_icmp .ne 109, 3) := by decide +kernel
theorem dL_known_893 : decode cL_known 893 = .ok (.aload_n 0, 1) := by decide +kernel
theorem dL_known_894 : decode cL_known 894 = .ok (.iconst 4, 1) := by decide +kernel
theorem dL_known_895 : decode cL_known 895 = .ok (.invokevirtual 99, 3) := by decide +kernel
theorem dL_known_898 : decode cL_known 898 = .ok (.iconst 1, 1) := by decide +kernel
theorem dL_known_899 : decode cL_known 899 = .ok (.if_icmp .ne 100, 3) := by decide +kernel
theorem dL_known_902 : decode cL_known 902 = .ok (.aload_n 0, 1) := by decide +kernel
theorem dL_known_903 : decode cL_known 903 = .ok (.iconst 0, 1) := by decide +kernel
theorem dL_known_904 : decode cL_known 904 = .ok (.iconst 2, 1) := by decide +kernel
theorem dL_known_905 : decode cL_known 905 = .ok (.invokevirtual 25, 3) := by decide +kernel
theorem dL_known_908 : decode cL_known 908 = .ok (.bipush 49, 2) := by decide +kernel
theorem dL_known_910 : decode cL_known 910 = .ok (.if_icmp .ne 89, 3) := by decide +kernel
theorem dL_known_913 : decode cL_known 913 = .ok (.aload_n 0, 1) := by decide +kernel
theorem dL_known_914 : decode cL_known 914 = .ok (.bipush 20, 2) := by decide +kernel
theorem dL_known_916 : decode cL_known 916 = .ok (.invokevirtual 13, 3) := by decide +kernel
theorem dL_known_919 : decode cL_known 919 = .ok (.sipush 131, 3) := by decide +kernel
theorem dL_known_922 : decode cL_known 922 = .ok (.if_icmp .ne 77, 3) := by decide +kernel
theorem dL_known_925 : decode cL_known 925 = .ok (.aload_n 0, 1) := by decide +kernel
theorem dL_known_926 : decode cL_known 926 = .ok (.bipush 21, 2) := by decide +kernel
theorem dL_known_928 : decode cL_known 928 = .ok (.invokevirtual 13, 3) := by decide +kernel
theorem dL_known_931 : decode cL_known 931 = .ok (.bipush 49, 2) := by decide +kernel
theorem dL_known_933 : decode cL_known 933 = .ok (.if_icmp .ne 66, 3) := by decide +kernel
theorem dL_known_936 : decode cL_known 936 = .ok (.aload_n 0, 1) := by decide +kernel
theorem dL_known_937 : decode cL_known 937 = .ok (.bipush 22, 2) := by decide +kernel
theorem dL_known_939 : decode cL_known 939 = .ok (.invokevirtual 13, 3) := by decide +kernel
theorem dL_known_942 : decode cL_known 942 = .ok (.iconst 2, 1) := by decide +kernel
theorem dL_known_943 : decode cL_known 943 = .ok (.if_icmp .ne 56, 3) := by decide +kernel
theorem dL_known_946 : decode cL_known 946 = .ok (.aload_n 0, 1) := by decide +kernel
theorem dL_known_947 : decode cL_known 947 = .ok (.bipush 23, 2) := by decide +kernel
theorem dL_known_949 : decode cL_known 949 = .ok (.invokevirtual 13, 3) := by decide +kernel
theorem dL_known_952 : decode cL_known 952 = .ok (.bipush 79, 2) := by decide +kernel
theorem dL_known_954 : decode cL_known 954 = .ok (.if_icmp .ne 45, 3) := by decide +kernel
theorem dL_known_957 : decode cL_known 957 = .ok (.aload_n 0, 1) := by decide +kernel
theorem dL_known_958 : decode cL_known 958 = .ok (.iconst 0, 1) := by decide +kernel
theorem dL_known_959 : decode cL_known 959 = .ok (.invokevirtual 39, 3) := by decide +kernel
theorem dL_known_962 : decode cL_known 962 = .ok (.iconst 1, 1) := by decide +kernel
theorem dL_known_963 : decode cL_known 963 = .ok (.if_icmp .ne 36, 3) := by decide +kernel
theorem dL_known_966 : decode cL_known 966 = .ok (.aload_n 0, 1) := by decide +kernel
theorem dL_known_967 : decode cL_known 967 = .ok (.bipush 24, 2) := by decide +kernel
theorem dL_known_969 : decode cL_known 969 = .ok (.invokevirtual 13, 3) := by decide +kernel
theorem dL_known_972 : decode cL_known 972 = .ok (.bipush 50, 2) := by decide +kernel
theorem dL_known_974 : decode cL_known 974 = .ok (.if_icmp .ne 25, 3) := by decide +kernel
theorem dL_known_977 : decode cL_known 977 = .ok (.aload_n 0, 1) := by decide +kernel
theorem dL_known_978 : decode cL_known 978 = .ok (.iconst 0, 1) := by decide +kernel
theorem dL_known_979 : decode cL_known 979 = .ok (.iconst 4, 1) := by decide +kernel
theorem dL_known_980 : decode cL_known 980 = .ok (.invokevirtual 29, 3) := by decide +kernel
theorem dL_known_983 : decode cL_known 983 = .ok (.iconst 1, 1) := by decide +kernel
theorem dL_known_984 : decode cL_known 984 = .ok (.if_icmp .ne 15, 3) := by decide +kernel
theorem dL_known_987 : decode cL_known 987 = .ok (.aload_n 0, 1) := by decide +kernel
theorem dL_known_988 : decode cL_known 988 = .ok (.iconst 0, 1) := by decide +kernel
theorem dL_known_989 : decode cL_known 989 = .ok (.iconst 0, 1) := by decide +kernel
theorem dL_known_990 : decode cL_known 990 = .ok (.invokevirtual 25, 3) := by decide +kernel
theorem dL_known_993 : decode cL_known 993 = .ok (.sipush 2000, 3) := by decide +kernel
theorem dL_known_996 : decode cL_known 996 = .ok (.if_icmp .eq 5, 3) := by decide +kernel
theorem dL_known_999 : decode cL_known 999 = .ok (.iconst 0, 1) := by decide +kernel
theorem dL_known_1000 : decode cL_known 1000 = .ok (.ireturn, 1) := by decide +kernel
theorem dL_known_1001 : decode cL_known 1001 = .ok (.aload_n 0, 1) := by decide +kernel
theorem dL_known_1002 : decode cL_known 1002 = .ok (.iconst 0, 1) := by decide +kernel
theorem dL_known_1003 : decode cL_known 1003 = .ok (.invokevirtual 39, 3) := by decide +kernel
theorem dL_known_1006 : decode cL_known 1006 = .ok (.ifCond .ne 95, 3) := by decide +kernel
theorem dL_known_1009 : decode cL_known 1009 = .ok (.aload_n 0, 1) := by decide +kernel
theorem dL_known_1010 : decode cL_known 1010 = .ok (.iconst 1, 1) := by decide +kernel
theorem dL_known_1011 : decode cL_known 1011 = .ok (.invokevirtual 81, 3) := by decide +kernel
theorem dL_known_1014 : decode cL_known 1014 = .ok (.ldc 60, 2) := by decide +kernel
theorem dL_known_1016 : decode cL_known 1016 = .ok (.if_icmp .ne 85, 3) := by decide +kernel
theorem dL_known_1019 : decode cL_known 1019 = .ok (.aload_n 0, 1) := by decide +kernel
theorem dL_known_1020 : decode cL_known 1020 = .ok (.iconst 1, 1) := by decide +kernel
theorem dL_known_1021 : decode cL_known 1021 = .ok (.invokevirtual 99, 3) := by decide +kernel
theorem dL_known_1024 : decode cL_known 1024 = .ok (.iconst 1, 1) := by decide +kernel
theorem dL_known_1025 : decode cL_known 1025 = .ok (.if_icmp .ne 76, 3) := by decide +kernel
theorem dL_known_1028 : decode cL_known 1028 = .ok (.aload_n 0, 1) := by decide +kernel
theorem dL_known_1029 : decode cL_known 1029 = .ok (.iconst 1, 1) := by decide +kernel
theorem dL_known_1030 : decode cL_known 1030 = .ok (.iconst 3, 1) := by decide +kernel
theorem dL_known_1031 : decode cL_known 1031 = .ok (.invokevirtual 29, 3) := by decide +kernel
theorem dL_known_1034 : decode cL_known 1034 = .ok (.iconst 1, 1) := by decide +kernel
theorem dL_known_1035 : decode cL_known 1035 = .ok (.if_icmp .ne 66, 3) := by decide +kernel
theorem dL_known_1038 : decode cL_known 1038 = .ok (.aload_n 0, 1) := by decide +kernel
theorem dL_known_1039 : decode cL_known 1039 = .ok (.iconst 1, 1) := by decide +kernel
theorem dL_known_1040 : decode cL_known 1040 = .ok (.iconst 4, 1) := by decide +kernel
theorem dL_known_1041 : decode cL_known 1041 = .ok (.invokevirtual 29, 3) := by decide +kernel
theorem dL_known_1044 : decode cL_known 1044 = .ok (.ldc 60, 2) := by decide +kernel
theorem dL_known_1046 : decode cL_known 1046 = .ok (.if_icmp .ne 55, 3) := by decide +kernel
theorem dL_known_1049 : decode cL_known 1049 = .ok (.aload_n 0, 1) := by decide +kernel
theorem dL_known_1050 : decode cL_known 1050 = .ok (.iconst 1, 1) := by decide +kernel
theorem dL_known_1051 : decode cL_known 1051 = .ok (.iconst 5, 1) := by decide +kernel
theorem dL_known_1052 : decode cL_known 1052 = .ok (.invokevirtual 29, 3) := by decide +kernel
theorem dL_known_1055 : decode cL_known 1055 = .ok (.ldc 60, 2) := by decide +kernel
theorem dL_known_1057 : decode cL_known 1057 = .ok (.if_icmp .ne 44, 3) := by decide +kernel
theorem dL_known_1060 : decode cL_known 1060 = .ok (.aload_n 0, 1) := by decide +kernel
theorem dL_known_1061 : decode cL_known 1061 = .ok (.iconst 4, 1) := by decide +kernel
theorem dL_known_1062 : decode cL_known 1062 = .ok (.invokevirtual 13, 3) := by decide +kernel
theorem dL_known_1065 : decode cL_known 1065 = .ok (.iconst 2, 1) := by decide +kernel
theorem dL_known_1066 : decode cL_known 1066 = .ok (.if_icmp .ne 35, 3) := by decide +kernel
theorem dL_known_1069 : decode cL_known 1069 = .ok (.aload_n 0, 1) := by decide +kernel
theorem dL_known_1070 : decode cL_known 1070 = .ok (.bipush 6, 2) := by decide +kernel
theorem dL_known_1072 : decode cL_known 1072 = .ok (.invokevirtual 13, 3) := by decide +kernel
theorem dL_known_1075 : decode cL_known 1075 = .ok (.iconst 1, 1) := by decide +kernel
theorem dL_known_1076 : decode cL_known 1076 = .ok (.if_icmp .ne 25, 3) := by decide +kernel
theorem dL_known_1079 : decode cL_known 1079 = .ok (.aload_n 0, 1) := by decide +kernel
theorem dL_known_1080 : decode cL_known 1080 = .ok (.iconst 5, 1) := by decide +kernel
theorem dL_known_1081 : decode cL_known 1081 = .ok (.invokevirtual 13, 3) := by decide +kernel
theorem dL_known_1084 : decode cL_known 1084 = .ok (.ifCond .ne 17, 3) := by decide +kernel
theorem dL_known_1087 : decode cL_known 1087 = .ok (.aload_n 0, 1) := by decide +kernel
theorem dL_known_1088 : decode cL_known 1088 = .ok (.iconst 0, 1) := by decide +kernel
theorem dL_known_1089 : decode cL_known 1089 = .ok (.invokevirtual 36, 3) := by decide +kernel
theorem dL_known_1092 : decode cL_known 1092 = .ok (.ldc 60, 2) := by decide +kernel
theorem dL_known_1094 : decode cL_known 1094 = .ok (.if_icmp .ne 7, 3) := by decide +kernel
theorem dL_known_1097 : decode cL_known 1097 = .ok (.iconst 1, 1) := by decide +kernel
theorem dL_known_1098 : decode cL_known 1098 = .ok (.goto 4, 3) := by decide +kernel
theorem dL_known_1101 : decode cL_known 1101 = .ok (.iconst 0, 1) := by decide +kernel
theorem dL_known_1102 : decode cL_known 1102 = .ok (.ireturn, 1) := by decide +kernel
theorem dL_law_0 : decode cL_law 0 = .ok (.invokestatic 185, 3) := by decide +kernel
theorem dL_law_3 : decode cL_law 3 = .ok (.ifCond .eq 9, 3) := by decide +kernel
theorem dL_law_6 : decode cL_law 6 = .ok (.invokestatic 189, 3) := by decide +kernel
theorem dL_law_9 : decode cL_law 9 = .ok (.ifCond .ne 5, 3) := by decide +kernel
theorem dL_law_12 : decode cL_law 12 = .ok (.iconst 0, 1) := by decide +kernel
theorem dL_law_13 : decode cL_law 13 = .ok (.ireturn, 1) := by decide +kernel
theorem dL_law_14 : decode cL_law 14 = .ok (.new 14, 3) := by decide +kernel
theorem dL_law_17 : decode cL_law 17 = .ok (.dup, 1) := by decide +kernel
theorem dL_law_18 : decode cL_law 18 = .ok (.invokespecial 117, 3) := by decide +kernel
theorem dL_law_21 : decode cL_law 21 = .ok (.astore_n 1, 1) := by decide +kernel
theorem dL_law_22 : decode cL_law 22 = .ok (.iconst 0, 1) := by decide +kernel
theorem dL_law_23 : decode cL_law 23 = .ok (.istore_n 2, 1) := by decide +kernel
theorem dL_law_24 : decode cL_law 24 = .ok (.iload_n 2, 1) := by decide +kernel
theorem dL_law_25 : decode cL_law 25 = .ok (.bipush 10, 2) := by decide +kernel
theorem dL_law_27 : decode cL_law 27 = .ok (.if_icmp .ge 46, 3) := by decide +kernel
theorem dL_law_30 : decode cL_law 30 = .ok (.aload_n 1, 1) := by decide +kernel
theorem dL_law_31 : decode cL_law 31 = .ok (.aload_n 0, 1) := by decide +kernel
theorem dL_law_32 : decode cL_law 32 = .ok (.iload_n 2, 1) := by decide +kernel
theorem dL_law_33 : decode cL_law 33 = .ok (.invokestatic 192, 3) := by decide +kernel
theorem dL_law_36 : decode cL_law 36 = .ok (.sipush 6001, 3) := by decide +kernel
theorem dL_law_39 : decode cL_law 39 = .ok (.invokestatic 196, 3) := by decide +kernel
theorem dL_law_42 : decode cL_law 42 = .ok (.iconst 1, 1) := by decide +kernel
theorem dL_law_43 : decode cL_law 43 = .ok (.aload_n 0, 1) := by decide +kernel
theorem dL_law_44 : decode cL_law 44 = .ok (.bipush 10, 2) := by decide +kernel
theorem dL_law_46 : decode cL_law 46 = .ok (.iload_n 2, 1) := by decide +kernel
theorem dL_law_47 : decode cL_law 47 = .ok (.iadd, 1) := by decide +kernel
theorem dL_law_48 : decode cL_law 48 = .ok (.invokestatic 192, 3) := by decide +kernel
theorem dL_law_51 : decode cL_law 51 = .ok (.sipush 2400, 3) := by decide +kernel
theorem dL_law_54 : decode cL_law 54 = .ok (.invokestatic 196, 3) := by decide +kernel
theorem dL_law_57 : decode cL_law 57 = .ok (.iadd, 1) := by decide +kernel
theorem dL_law_58 : decode cL_law 58 = .ok (.invokevirtual 32, 3) := by decide +kernel
theorem dL_law_61 : decode cL_law 61 = .ok (.iload_n 2, 1) := by decide +kernel
theorem dL_law_62 : decode cL_law 62 = .ok (.if_icmp .eq 5, 3) := by decide +kernel
theorem dL_law_65 : decode cL_law 65 = .ok (.iconst 0, 1) := by decide +kernel
theorem dL_law_66 : decode cL_law 66 = .ok (.ireturn, 1) := by decide +kernel
theorem dL_law_67 : decode cL_law 67 = .ok (.iinc 2 1, 3) := by decide +kernel
theorem dL_law_70 : decode cL_law 70 = .ok (.goto (-46), 3) := by decide +kernel
theorem dL_law_73 : decode cL_law 73 = .ok (.aload_n 1, 1) := by decide +kernel
theorem dL_law_74 : decode cL_law 74 = .ok (.iconst 0, 1) := by decide +kernel
theorem dL_law_75 : decode cL_law 75 = .ok (.iconst 1, 1) := by decide +kernel
theorem dL_law_76 : decode cL_law 76 = .ok (.invokevirtual 32, 3) := by decide +kernel
theorem dL_law_79 : decode cL_law 79 = .ok (.ldc 175, 2) := by decide +kernel
theorem dL_law_81 : decode cL_law 81 = .ok (.if_icmp .ne 14, 3) := by decide +kernel
theorem dL_law_84 : decode cL_law 84 = .ok (.aload_n 1, 1) := by decide +kernel
theorem dL_law_85 : decode cL_law 85 = .ok (.iconst 0, 1) := by decide +kernel
theorem dL_law_86 : decode cL_law 86 = .ok (.iconst 0, 1) := by decide +kernel
theorem dL_law_87 : decode cL_law 87 = .ok (.invokevirtual 32, 3) := by decide +kernel
theorem dL_law_90 : decode cL_law 90 = .ok (.ldc 35, 2) := by decide +kernel
theorem dL_law_92 : decode cL_law 92 = .ok (.if_icmp .eq 5, 3) := by decide +kernel
theorem dL_law_95 : decode cL_law 95 = .ok (.iconst 0, 1) := by decide +kernel
theorem dL_law_96 : decode cL_law 96 = .ok (.ireturn, 1) := by decide +kernel
theorem dL_law_97 : decode cL_law 97 = .ok (.iconst 0, 1) := by decide +kernel
theorem dL_law_98 : decode cL_law 98 = .ok (.istore_n 2, 1) := by decide +kernel
theorem dL_law_99 : decode cL_law 99 = .ok (.iload_n 2, 1) := by decide +kernel
theorem dL_law_100 : decode cL_law 100 = .ok (.bipush 14, 2) := by decide +kernel
theorem dL_law_102 : decode cL_law 102 = .ok (.if_icmp .ge 42, 3) := by decide +kernel
theorem dL_law_105 : decode cL_law 105 = .ok (.aload_n 1, 1) := by decide +kernel
theorem dL_law_106 : decode cL_law 106 = .ok (.aload_n 0, 1) := by decide +kernel
theorem dL_law_107 : decode cL_law 107 = .ok (.bipush 20, 2) := by decide +kernel
theorem dL_law_109 : decode cL_law 109 = .ok (.iload_n 2, 1) := by decide +kernel
theorem dL_law_110 : decode cL_law 110 = .ok (.iadd, 1) := by decide +kernel
theorem dL_law_111 : decode cL_law 111 = .ok (.invokestatic 192, 3) := by decide +kernel
theorem dL_law_114 : decode cL_law 114 = .ok (.sipush 600, 3) := by decide +kernel
theorem dL_law_117 : decode cL_law 117 = .ok (.invokestatic 196, 3) := by decide +kernel
theorem dL_law_120 : decode cL_law 120 = .ok (.aload_n 0, 1) := by decide +kernel
theorem dL_law_121 : decode cL_law 121 = .ok (.bipush 40, 2) := by decide +kernel
theorem dL_law_123 : decode cL_law 123 = .ok (.iload_n 2, 1) := by decide +kernel
theorem dL_law_124 : decode cL_law 124 = .ok (.iadd, 1) := by decide +kernel
theorem dL_law_125 : decode cL_law 125 = .ok (.invokestatic 192, 3) := by decide +kernel
theorem dL_law_128 : decode cL_law 128 = .ok (.sipush 6001, 3) := by decide +kernel
theorem dL_law_131 : decode cL_law 131 = .ok (.invokestatic 196, 3) := by decide +kernel
theorem dL_law_134 : decode cL_law 134 = .ok (.invokevirtual 68, 3) := by decide +kernel
theorem dL_law_137 : decode cL_law 137 = .ok (.istore_n 3, 1) := by decide +kernel
theorem dL_law_138 : decode cL_law 138 = .ok (.iinc 2 1, 3) := by decide +kernel
theorem dL_law_141 : decode cL_law 141 = .ok (.goto (-42), 3) := by decide +kernel
theorem dL_law_144 : decode cL_law 144 = .ok (.aload_n 1, 1) := by decide +kernel
theorem dL_law_145 : decode cL_law 145 = .ok (.invokestatic 176, 3) := by decide +kernel
theorem dL_law_148 : decode cL_law 148 = .ok (.ifCond .ne 5, 3) := by decide +kernel
theorem dL_law_151 : decode cL_law 151 = .ok (.iconst 0, 1) := by decide +kernel
theorem dL_law_152 : decode cL_law 152 = .ok (.ireturn, 1) := by decide +kernel
theorem dL_law_153 : decode cL_law 153 = .ok (.bipush 32, 2) := by decide +kernel
theorem dL_law_155 : decode cL_law 155 = .ok (.newarray .long, 2) := by decide +kernel
theorem dL_law_157 : decode cL_law 157 = .ok (.astore_n 2, 1) := by decide +kernel
theorem dL_law_158 : decode cL_law 158 = .ok (.iconst 0, 1) := by decide +kernel
theorem dL_law_159 : decode cL_law 159 = .ok (.istore_n 3, 1) := by decide +kernel
theorem dL_law_160 : decode cL_law 160 = .ok (.iconst 0, 1) := by decide +kernel
theorem dL_law_161 : decode cL_law 161 = .ok (.istore 4, 2) := by decide +kernel
theorem dL_law_163 : decode cL_law 163 = .ok (.iload 4, 2) := by decide +kernel
theorem dL_law_165 : decode cL_law 165 = .ok (.bipush 24, 2) := by decide +kernel
theorem dL_law_167 : decode cL_law 167 = .ok (.if_icmp .ge 384, 3) := by decide +kernel
theorem dL_law_170 : decode cL_law 170 = .ok (.aload_n 0, 1) := by decide +kernel
theorem dL_law_171 : decode cL_law 171 = .ok (.bipush 60, 2) := by decide +kernel
theorem dL_law_173 : decode cL_law 173 = .ok (.iload 4, 2) := by decide +kernel
theorem dL_law_175 : decode cL_law 175 = .ok (.iadd, 1) := by decide +kernel
theorem dL_law_176 : decode cL_law 176 = .ok (.invokestatic 192, 3) := by decide +kernel
theorem dL_law_179 : decode cL_law 179 = .ok (.istore 5, 2) := by decide +kernel
theorem dL_law_181 : decode cL_law 181 = .ok (.iload 5, 2) := by decide +kernel
theorem dL_law_183 : decode cL_law 183 = .ok (.iconst 4, 1) := by decide +kernel
theorem dL_law_184 : decode cL_law 184 = .ok (.ishr, 1) := by decide +kernel
theorem dL_law_185 : decode cL_law 185 = .ok (.bipush 10, 2) := by decide +kernel
theorem dL_law_187 : decode cL_law 187 = .ok (.invokestatic 196, 3) := by decide +kernel
theorem dL_law_190 : decode cL_law 190 = .ok (.istore 6, 2) := by decide +kernel
theorem dL_law_192 : decode cL_law 192 = .ok (.iload 5, 2) := by decide +kernel
theorem dL_law_194 : decode cL_law 194 = .ok (.bipush 12, 2) := by decide +kernel
theorem dL_law_196 : decode cL_law 196 = .ok (.invokestatic 196, 3) := by decide +kernel
theorem dL_law_199 : decode cL_law 199 = .ok (.istore 7, 2) := by decide +kernel
theorem dL_law_201 : decode cL_law 201 = .ok (.aload_n 2, 1) := by decide +kernel
theorem dL_law_202 : decode cL_law 202 = .ok (.iload_n 3, 1) := by decide +kernel
theorem dL_law_203 : decode cL_law 203 = .ok (.aload_n 1, 1) := by decide +kernel
theorem dL_law_204 : decode cL_law 204 = .ok (.invokestatic 85, 3) := by decide +kernel
theorem dL_law_207 : decode cL_law 207 = .ok (.lastore, 1) := by decide +kernel
theorem dL_law_208 : decode cL_law 208 = .ok (.iload 7, 2) := by decide +kernel
theorem dL_law_210 : decode cL_law 210 = .ok (.iconst 2, 1) := by decide +kernel
theorem dL_law_211 : decode cL_law 211 = .ok (.if_icmp .ge 25, 3) := by decide +kernel
theorem dL_law_214 : decode cL_law 214 = .ok (.aload_n 1, 1) := by decide +kernel
theorem dL_law_215 : decode cL_law 215 = .ok (.iload 6, 2) := by decide +kernel
theorem dL_law_217 : decode cL_law 217 = .ok (.iconst 1, 1) := by decide +kernel
theorem dL_law_218 : decode cL_law 218 = .ok (.iload 5, 2) := by decide +kernel
theorem dL_law_220 : decode cL_law 220 = .ok (.bipush 7, 2) := by decide +kernel
theorem dL_law_222 : decode cL_law 222 = .ok (.ishr, 1) := by decide +kernel
theorem dL_law_223 : decode cL_law 223 = .ok (.sipush 600, 3) := by decide +kernel
theorem dL_law_226 : decode cL_law 226 = .ok (.invokestatic 196, 3) := by decide +kernel
theorem dL_law_229 : decode cL_law 229 = .ok (.iadd, 1) := by decide +kernel
theorem dL_law_230 : decode cL_law 230 = .ok (.invokevirtual 42, 3) := by decide +kernel
theorem dL_law_233 : decode cL_law 233 = .ok (.goto 239, 3) := by decide +kernel
theorem dL_law_236 : decode cL_law 236 = .ok (.iload 7, 2) := by decide +kernel
theorem dL_law_238 : decode cL_law 238 = .ok (.iconst 2, 1) := by decide +kernel
theorem dL_law_239 : decode cL_law 239 = .ok (.if_icmp .ne 25, 3) := by decide +kernel
theorem dL_law_242 : decode cL_law 242 = .ok (.aload_n 1, 1) := by decide +kernel
theorem dL_law_243 : decode cL_law 243 = .ok (.iload 6, 2) := by decide +kernel
theorem dL_law_245 : decode cL_law 245 = .ok (.iconst 1, 1) := by decide +kernel
theorem dL_law_246 : decode cL_law 246 = .ok (.iload 5, 2) := by decide +kernel
theorem dL_law_248 : decode cL_law 248 = .ok (.bipush 7, 2) := by decide +kernel
theorem dL_law_250 : decode cL_law 250 = .ok (.ishr, 1) := by decide +kernel
theorem dL_law_251 : decode cL_law 251 = .ok (.sipush 300, 3) := by decide +kernel
theorem dL_law_254 : decode cL_law 254 = .ok (.invokestatic 196, 3) := by decide +kernel
theorem dL_law_257 : decode cL_law 257 = .ok (.iadd, 1) := by decide +kernel
theorem dL_law_258 : decode cL_law 258 = .ok (.invokevirtual 45, 3) := by decide +kernel
theorem dL_law_261 : decode cL_law 261 = .ok (.goto 211, 3) := by decide +kernel
theorem dL_law_264 : decode cL_law 264 = .ok (.iload 7, 2) := by decide +kernel
theorem dL_law_266 : decode cL_law 266 = .ok (.iconst 3, 1) := by decide +kernel
theorem dL_law_267 : decode cL_law 267 = .ok (.if_icmp .ne 23, 3) := by decide +kernel
theorem dL_law_270 : decode cL_law 270 = .ok (.aload_n 1, 1) := by decide +kernel
theorem dL_law_271 : decode cL_law 271 = .ok (.iload 6, 2) := by decide +kernel
theorem dL_law_273 : decode cL_law 273 = .ok (.iload 5, 2) := by decide +kernel
theorem dL_law_275 : decode cL_law 275 = .ok (.bipush 7, 2) := by decide +kernel
theorem dL_law_277 : decode cL_law 277 = .ok (.ishr, 1) := by decide +kernel
theorem dL_law_278 : decode cL_law 278 = .ok (.sipush 1001, 3) := by decide +kernel
theorem dL_law_281 : decode cL_law 281 = .ok (.invokestatic 196, 3) := by decide +kernel
theorem dL_law_284 : decode cL_law 284 = .ok (.invokevirtual 48, 3) := by decide +kernel
theorem dL_law_287 : decode cL_law 287 = .ok (.goto 185, 3) := by decide +kernel
theorem dL_law_290 : decode cL_law 290 = .ok (.iload 7, 2) := by decide +kernel
theorem dL_law_292 : decode cL_law 292 = .ok (.iconst 4, 1) := by decide +kernel
theorem dL_law_293 : decode cL_law 293 = .ok (.if_icmp .ne 23, 3) := by decide +kernel
theorem dL_law_296 : decode cL_law 296 = .ok (.aload_n 1, 1) := by decide +kernel
theorem dL_law_297 : decode cL_law 297 = .ok (.iload 6, 2) := by decide +kernel
theorem dL_law_299 : decode cL_law 299 = .ok (.iload 5, 2) := by decide +kernel
theorem dL_law_301 : decode cL_law 301 = .ok (.bipush 7, 2) := by decide +kernel
theorem dL_law_303 : decode cL_law 303 = .ok (.ishr, 1) := by decide +kernel
theorem dL_law_304 : decode cL_law 304 = .ok (.sipush 1001, 3) := by decide +kernel
theorem dL_law_307 : decode cL_law 307 = .ok (.invokestatic 196, 3) := by decide +kernel
theorem dL_law_310 : decode cL_law 310 = .ok (.invokevirtual 51, 3) := by decide +kernel
theorem dL_law_313 : decode cL_law 313 = .ok (.goto 159, 3) := by decide +kernel
theorem dL_law_316 : decode cL_law 316 = .ok (.iload 7, 2) := by decide +kernel
theorem dL_law_318 : decode cL_law 318 = .ok (.iconst 5, 1) := by decide +kernel
theorem dL_law_319 : decode cL_law 319 = .ok (.if_icmp .ne 24, 3) := by decide +kernel
theorem dL_law_322 : decode cL_law 322 = .ok (.aload_n 1, 1) := by decide +kernel
theorem dL_law_323 : decode cL_law 323 = .ok (.iload 6, 2) := by decide +kernel
theorem dL_law_325 : decode cL_law 325 = .ok (.iconst 4, 1) := by decide +kernel
theorem dL_law_326 : decode cL_law 326 = .ok (.irem, 1) := by decide +kernel
theorem dL_law_327 : decode cL_law 327 = .ok (.iload 5, 2) := by decide +kernel
theorem dL_law_329 : decode cL_law 329 = .ok (.bipush 7, 2) := by decide +kernel
theorem dL_law_331 : decode cL_law 331 = .ok (.ishr, 1) := by decide +kernel
theorem dL_law_332 : decode cL_law 332 = .ok (.bipush 30, 2) := by decide +kernel
theorem dL_law_334 : decode cL_law 334 = .ok (.invokestatic 196, 3) := by decide +kernel
theorem dL_law_337 : decode cL_law 337 = .ok (.invokevirtual 96, 3) := by decide +kernel
theorem dL_law_340 : decode cL_law 340 = .ok (.goto 132, 3) := by decide +kernel
theorem dL_law_343 : decode cL_law 343 = .ok (.iload 7, 2) := by decide +kernel
theorem dL_law_345 : decode cL_law 345 = .ok (.bipush 6, 2) := by decide +kernel
theorem dL_law_347 : decode cL_law 347 = .ok (.if_icmp .ne 32, 3) := by decide +kernel
theorem dL_law_350 : decode cL_law 350 = .ok (.aload_n 1, 1) := by decide +kernel
theorem dL_law_351 : decode cL_law 351 = .ok (.iload 5, 2) := by decide +kernel
theorem dL_law_353 : decode cL_law 353 = .ok (.bipush 7, 2) := by decide +kernel
theorem dL_law_355 : decode cL_law 355 = .ok (.ishr, 1) := by decide +kernel
theorem dL_law_356 : decode cL_law 356 = .ok (.sipush 3601, 3) := by decide +kernel
theorem dL_law_359 : decode cL_law 359 = .ok (.invokestatic 196, 3) := by decide +kernel
theorem dL_law_362 : decode cL_law 362 = .ok (.iload 5, 2) := by decide +kernel
theorem dL_law_364 : decode cL_law 364 = .ok (.bipush 8, 2) := by decide +kernel
theorem dL_law_366 : decode cL_law 366 = .ok (.ishr, 1) := by decide +kernel
theorem dL_law_367 : decode cL_law 367 = .ok (.sipush 6001, 3) := by decide +kernel
theorem dL_law_370 : decode cL_law 370 = .ok (.invokestatic 196, 3) := by decide +kernel
theorem dL_law_373 : decode cL_law 373 = .ok (.invokevirtual 68, 3) := by decide +kernel
theorem dL_law_376 : decode cL_law 376 = .ok (.goto 96, 3) := by decide +kernel
theorem dL_law_379 : decode cL_law 379 = .ok (.iload 7, 2) := by decide +kernel
theorem dL_law_381 : decode cL_law 381 = .ok (.bipush 7, 2) := by decide +kernel
theorem dL_law_383 : decode cL_law 383 = .ok (.if_icmp .ne 12, 3) := by decide +kernel
theorem dL_law_386 : decode cL_law 386 = .ok (.aload_n 1, 1) := by decide +kernel
theorem dL_law_387 : decode cL_law 387 = .ok (.iload 6, 2) := by decide +kernel
theorem dL_law_389 : decode cL_law 389 = .ok (.invokevirtual 78, 3) := by decide +kernel
theorem dL_law_392 : decode cL_law 392 = .ok (.goto 80, 3) := by decide +kernel
theorem dL_law_395 : decode cL_law 395 = .ok (.iload 7, 2) := by decide +kernel
theorem dL_law_397 : decode cL_law 397 = .ok (.bipush 8, 2) := by decide +kernel
theorem dL_law_399 : decode cL_law 399 = .ok (.if_icmp .ne 26, 3) := by decide +kernel
theorem dL_law_402 : decode cL_law 402 = .ok (.aload_n 1, 1) := by decide +kernel
theorem dL_law_403 : decode cL_law 403 = .ok (.iconst 0, 1) := by decide +kernel
theorem dL_law_404 : decode cL_law 404 = .ok (.iload 6, 2) := by decide +kernel
theorem dL_law_406 : decode cL_law 406 = .ok (.iconst 1, 1) := by decide +kernel
theorem dL_law_407 : decode cL_law 407 = .ok (.iload 5, 2) := by decide +kernel
theorem dL_law_409 : decode cL_law 409 = .ok (.bipush 7, 2) := by decide +kernel
theorem dL_law_411 : decode cL_law 411 = .ok (.ishr, 1) := by decide +kernel
theorem dL_law_412 : decode cL_law 412 = .ok (.sipush 200, 3) := by decide +kernel
theorem dL_law_415 : decode cL_law 415 = .ok (.invokestatic 196, 3) := by decide +kernel
theorem dL_law_418 : decode cL_law 418 = .ok (.isub, 1) := by decide +kernel
theorem dL_law_419 : decode cL_law 419 = .ok (.invokevirtual 71, 3) := by decide +kernel
theorem dL_law_422 : decode cL_law 422 = .ok (.goto 50, 3) := by decide +kernel
theorem dL_law_425 : decode cL_law 425 = .ok (.iload 7, 2) := by decide +kernel
theorem dL_law_427 : decode cL_law 427 = .ok (.bipush 9, 2) := by decide +kernel
theorem dL_law_429 : decode cL_law 429 = .ok (.if_icmp .ne 10, 3) := by decide +kernel
theorem dL_law_432 : decode cL_law 432 = .ok (.aload_n 1, 1) := by decide +kernel
theorem dL_law_433 : decode cL_law 433 = .ok (.invokevirtual 182, 3) := by decide +kernel
theorem dL_law_436 : decode cL_law 436 = .ok (.goto 36, 3) := by decide +kernel
theorem dL_law_439 : decode cL_law 439 = .ok (.iload 7, 2) := by decide +kernel
theorem dL_law_441 : decode cL_law 441 = .ok (.bipush 10, 2) := by decide +kernel
theorem dL_law_443 : decode cL_law 443 = .ok (.if_icmp .ne 12, 3) := by decide +kernel
theorem dL_law_446 : decode cL_law 446 = .ok (.aload_n 1, 1) := by decide +kernel
theorem dL_law_447 : decode cL_law 447 = .ok (.iload 6, 2) := by decide +kernel
theorem dL_law_449 : decode cL_law 449 = .ok (.invokevirtual 39, 3) := by decide +kernel
theorem dL_law_452 : decode cL_law 452 = .ok (.goto 20, 3) := by decide +kernel
theorem dL_law_455 : decode cL_law 455 = .ok (.aload_n 1, 1) := by decide +kernel
theorem dL_law_456 : decode cL_law 456 = .ok (.iconst 1, 1) := by decide +kernel
theorem dL_law_457 : decode cL_law 457 = .ok (.iload 5, 2) := by decide +kernel
theorem dL_law_459 : decode cL_law 459 = .ok (.bipush 7, 2) := by decide +kernel
theorem dL_law_461 : decode cL_law 461 = .ok (.ishr, 1) := by decide +kernel
theorem dL_law_462 : decode cL_law 462 = .ok (.sipush 200, 3) := by decide +kernel
theorem dL_law_465 : decode cL_law 465 = .ok (.invokestatic 196, 3) := by decide +kernel
theorem dL_law_468 : decode cL_law 468 = .ok (.iadd, 1) := by decide +kernel
theorem dL_law_469 : decode cL_law 469 = .ok (.invokevirtual 99, 3) := by decide +kernel
theorem dL_law_472 : decode cL_law 472 = .ok (.istore 8, 2) := by decide +kernel
theorem dL_law_474 : decode cL_law 474 = .ok (.iload_n 3, 1) := by decide +kernel
theorem dL_law_475 : decode cL_law 475 = .ok (.iload 8, 2) := by decide +kernel
theorem dL_law_477 : decode cL_law 477 = .ok (.ldc 199, 2) := by decide +kernel
theorem dL_law_479 : decode cL_law 479 = .ok (.if_icmp .le 7, 3) := by decide +kernel
theorem dL_law_482 : decode cL_law 482 = .ok (.iconst 1, 1) := by decide +kernel
theorem dL_law_483 : decode cL_law 483 = .ok (.goto 4, 3) := by decide +kernel
theorem dL_law_486 : decode cL_law 486 = .ok (.iconst 0, 1) := by decide +kernel
theorem dL_law_487 : decode cL_law 487 = .ok (.iadd, 1) := by decide +kernel
theorem dL_law_488 : decode cL_law 488 = .ok (.istore_n 3, 1) := by decide +kernel
theorem dL_law_489 : decode cL_law 489 = .ok (.iload 8, 2) := by decide +kernel
theorem dL_law_491 : decode cL_law 491 = .ok (.ldc 199, 2) := by decide +kernel
theorem dL_law_493 : decode cL_law 493 = .ok (.if_icmp .ge 14, 3) := by decide +kernel
theorem dL_law_496 : decode cL_law 496 = .ok (.aload_n 1, 1) := by decide +kernel
theorem dL_law_497 : decode cL_law 497 = .ok (.invokestatic 85, 3) := by decide +kernel
theorem dL_law_500 : decode cL_law 500 = .ok (.aload_n 2, 1) := by decide +kernel
theorem dL_law_501 : decode cL_law 501 = .ok (.iload_n 3, 1) := by decide +kernel
theorem dL_law_502 : decode cL_law 502 = .ok (.laload, 1) := by decide +kernel
theorem dL_law_503 : decode cL_law 503 = .ok (.lcmp, 1) := by decide +kernel
theorem dL_law_504 : decode cL_law 504 = .ok (.ifCond .ne 39, 3) := by decide +kernel
theorem dL_law_507 : decode cL_law 507 = .ok (.aload_n 1, 1) := by decide +kernel
theorem dL_law_508 : decode cL_law 508 = .ok (.bipush 20, 2) := by decide +kernel
theorem dL_law_510 : decode cL_law 510 = .ok (.invokevirtual 13, 3) := by decide +kernel
theorem dL_law_513 : decode cL_law 513 = .ok (.aload_n 1, 1) := by decide +kernel
theorem dL_law_514 : decode cL_law 514 = .ok (.bipush 21, 2) := by decide +kernel
theorem dL_law_516 : decode cL_law 516 = .ok (.invokevirtual 13, 3) := by decide +kernel
theorem dL_law_519 : decode cL_law 519 = .ok (.aload_n 1, 1) := by decide +kernel
theorem dL_law_520 : decode cL_law 520 = .ok (.bipush 22, 2) := by decide +kernel
theorem dL_law_522 : decode cL_law 522 = .ok (.invokevirtual 13, 3) := by decide +kernel
theorem dL_law_525 : decode cL_law 525 = .ok (.iadd, 1) := by decide +kernel
theorem dL_law_526 : decode cL_law 526 = .ok (.aload_n 1, 1) := by decide +kernel
theorem dL_law_527 : decode cL_law 527 = .ok (.bipush 23, 2) := by decide +kernel
theorem dL_law_529 : decode cL_law 529 = .ok (.invokevirtual 13, 3) := by decide +kernel
theorem dL_law_532 : decode cL_law 532 = .ok (.iadd, 1) := by decide +kernel
theorem dL_law_533 : decode cL_law 533 = .ok (.aload_n 1, 1) := by decide +kernel
theorem dL_law_534 : decode cL_law 534 = .ok (.bipush 24, 2) := by decide +kernel
theorem dL_law_536 : decode cL_law 536 = .ok (.invokevirtual 13, 3) := by decide +kernel
theorem dL_law_539 : decode cL_law 539 = .ok (.iadd, 1) := by decide +kernel
theorem dL_law_540 : decode cL_law 540 = .ok (.if_icmp .eq 5, 3) := by decide +kernel
theorem dL_law_543 : decode cL_law 543 = .ok (.iconst 0, 1) := by decide +kernel
theorem dL_law_544 : decode cL_law 544 = .ok (.ireturn, 1) := by decide +kernel
theorem dL_law_545 : decode cL_law 545 = .ok (.iinc 4 1, 3) := by decide +kernel
theorem dL_law_548 : decode cL_law 548 = .ok (.goto (-385), 3) := by decide +kernel
theorem dL_law_551 : decode cL_law 551 = .ok (.aload_n 1, 1) := by decide +kernel
theorem dL_law_552 : decode cL_law 552 = .ok (.invokestatic 176, 3) := by decide +kernel
theorem dL_law_555 : decode cL_law 555 = .ok (.ifCond .ne 5, 3) := by decide +kernel
theorem dL_law_558 : decode cL_law 558 = .ok (.iconst 0, 1) := by decide +kernel
theorem dL_law_559 : decode cL_law 559 = .ok (.ireturn, 1) := by decide +kernel
theorem dL_law_560 : decode cL_law 560 = .ok (.iconst 1, 1) := by decide +kernel
theorem dL_law_561 : decode cL_law 561 = .ok (.istore 4, 2) := by decide +kernel
theorem dL_law_563 : decode cL_law 563 = .ok (.iload 4, 2) := by decide +kernel
theorem dL_law_565 : decode cL_law 565 = .ok (.iconst 5, 1) := by decide +kernel
theorem dL_law_566 : decode cL_law 566 = .ok (.if_icmp .gt 56, 3) := by decide +kernel
theorem dL_law_569 : decode cL_law 569 = .ok (.iload 4, 2) := by decide +kernel
theorem dL_law_571 : decode cL_law 571 = .ok (.iload_n 3, 1) := by decide +kernel
theorem dL_law_572 : decode cL_law 572 = .ok (.if_icmp .gt 50, 3) := by decide +kernel
theorem dL_law_575 : decode cL_law 575 = .ok (.aload_n 1, 1) := by decide +kernel
theorem dL_law_576 : decode cL_law 576 = .ok (.invokevirtual 179, 3) := by decide +kernel
theorem dL_law_579 : decode cL_law 579 = .ok (.istore 5, 2) := by decide +kernel
theorem dL_law_581 : decode cL_law 581 = .ok (.iload 5, 2) := by decide +kernel
theorem dL_law_583 : decode cL_law 583 = .ok (.ifCond .lt 31, 3) := by decide +kernel
theorem dL_law_586 : decode cL_law 586 = .ok (.aload_n 1, 1) := by decide +kernel
theorem dL_law_587 : decode cL_law 587 = .ok (.invokestatic 85, 3) := by decide +kernel
theorem dL_law_590 : decode cL_law 590 = .ok (.aload_n 2, 1) := by decide +kernel
theorem dL_law_591 : decode cL_law 591 = .ok (.iload_n 3, 1) := by decide +kernel
theorem dL_law_592 : decode cL_law 592 = .ok (.iload 4, 2) := by decide +kernel
theorem dL_law_594 : decode cL_law 594 = .ok (.isub, 1) := by decide +kernel
theorem dL_law_595 : decode cL_law 595 = .ok (.laload, 1) := by decide +kernel
theorem dL_law_596 : decode cL_law 596 = .ok (.lcmp, 1) := by decide +kernel
theorem dL_law_597 : decode cL_law 597 = .ok (.ifCond .ne 17, 3) := by decide +kernel
theorem dL_law_600 : decode cL_law 600 = .ok (.iload_n 3, 1) := by decide +kernel
theorem dL_law_601 : decode cL_law 601 = .ok (.iconst 4, 1) := by decide +kernel
theorem dL_law_602 : decode cL_law 602 = .ok (.if_icmp .le 14, 3) := by decide +kernel
theorem dL_law_605 : decode cL_law 605 = .ok (.iload 5, 2) := by decide +kernel
theorem dL_law_607 : decode cL_law 607 = .ok (.iconst 5, 1) := by decide +kernel
theorem dL_law_608 : decode cL_law 608 = .ok (.iload 4, 2) := by decide +kernel
theorem dL_law_610 : decode cL_law 610 = .ok (.isub, 1) := by decide +kernel
theorem dL_law_611 : decode cL_law 611 = .ok (.if_icmp .eq 5, 3) := by decide +kernel
theorem dL_law_614 : decode cL_law 614 = .ok (.iconst 0, 1) := by decide +kernel
theorem dL_law_615 : decode cL_law 615 = .ok (.ireturn, 1) := by decide +kernel
theorem dL_law_616 : decode cL_law 616 = .ok (.iinc 4 1, 3) := by decide +kernel
theorem dL_law_619 : decode cL_law 619 = .ok (.goto (-56), 3) := by decide +kernel
theorem dL_law_622 : decode cL_law 622 = .ok (.iload_n 3, 1) := by decide +kernel
theorem dL_law_623 : decode cL_law 623 = .ok (.iconst 4, 1) := by decide +kernel
theorem dL_law_624 : decode cL_law 624 = .ok (.if_icmp .le 14, 3) := by decide +kernel
theorem dL_law_627 : decode cL_law 627 = .ok (.aload_n 1, 1) := by decide +kernel
theorem dL_law_628 : decode cL_law 628 = .ok (.invokevirtual 179, 3) := by decide +kernel
theorem dL_law_631 : decode cL_law 631 = .ok (.ldc 84, 2) := by decide +kernel
theorem dL_law_633 : decode cL_law 633 = .ok (.if_icmp .eq 5, 3) := by decide +kernel
theorem dL_law_636 : decode cL_law 636 = .ok (.iconst 0, 1) := by decide +kernel
theorem dL_law_637 : decode cL_law 637 = .ok (.ireturn, 1) := by decide +kernel
theorem dL_law_638 : decode cL_law 638 = .ok (.new 14, 3) := by decide +kernel
theorem dL_law_641 : decode cL_law 641 = .ok (.dup, 1) := by decide +kernel
theorem dL_law_642 : decode cL_law 642 = .ok (.invokespecial 117, 3) := by decide +kernel
theorem dL_law_645 : decode cL_law 645 = .ok (.astore 4, 2) := by decide +kernel
theorem dL_law_647 : decode cL_law 647 = .ok (.iconst 0, 1) := by decide +kernel
theorem dL_law_648 : decode cL_law 648 = .ok (.istore 5, 2) := by decide +kernel
theorem dL_law_650 : decode cL_law 650 = .ok (.iload 5, 2) := by decide +kernel
theorem dL_law_652 : decode cL_law 652 = .ok (.bipush 6, 2) := by decide +kernel
theorem dL_law_654 : decode cL_law 654 = .ok (.if_icmp .ge 22, 3) := by decide +kernel
theorem dL_law_657 : decode cL_law 657 = .ok (.aload 4, 2) := by decide +kernel
theorem dL_law_659 : decode cL_law 659 = .ok (.sipush 600, 3) := by decide +kernel
theorem dL_law_662 : decode cL_law 662 = .ok (.invokevirtual 99, 3) := by decide +kernel
theorem dL_law_665 : decode cL_law 665 = .ok (.ifCond .eq 5, 3) := by decide +kernel
theorem dL_law_668 : decode cL_law 668 = .ok (.iconst 0, 1) := by decide +kernel
theorem dL_law_669 : decode cL_law 669 = .ok (.ireturn, 1) := by decide +kernel
theorem dL_law_670 : decode cL_law 670 = .ok (.iinc 5 1, 3) := by decide +kernel
theorem dL_law_673 : decode cL_law 673 = .ok (.goto (-23), 3) := by decide +kernel
theorem dL_law_676 : decode cL_law 676 = .ok (.aload 4, 2) := by decide +kernel
theorem dL_law_678 : decode cL_law 678 = .ok (.iconst 1, 1) := by decide +kernel
theorem dL_law_679 : decode cL_law 679 = .ok (.invokevirtual 99, 3) := by decide +kernel
theorem dL_law_682 : decode cL_law 682 = .ok (.ldc 175, 2) := by decide +kernel
theorem dL_law_684 : decode cL_law 684 = .ok (.if_icmp .ne 61, 3) := by decide +kernel
theorem dL_law_687 : decode cL_law 687 = .ok (.aload 4, 2) := by decide +kernel
theorem dL_law_689 : decode cL_law 689 = .ok (.iconst 0, 1) := by decide +kernel
theorem dL_law_690 : decode cL_law 690 = .ok (.invokevirtual 99, 3) := by decide +kernel
theorem dL_law_693 : decode cL_law 693 = .ok (.ldc 35, 2) := by decide +kernel
theorem dL_law_695 : decode cL_law 695 = .ok (.if_icmp .ne 50, 3) := by decide +kernel
theorem dL_law_698 : decode cL_law 698 = .ok (.aload 4, 2) := by decide +kernel
theorem dL_law_700 : decode cL_law 700 = .ok (.iconst 0, 1) := by decide +kernel
theorem dL_law_701 : decode cL_law 701 = .ok (.invokevirtual 13, 3) := by decide +kernel
theorem dL_law_704 : decode cL_law 704 = .ok (.sipush 3600, 3) := by decide +kernel
theorem dL_law_707 : decode cL_law 707 = .ok (.if_icmp .ne 38, 3) := by decide +kernel
theorem dL_law_710 : decode cL_law 710 = .ok (.aload 4, 2) := by decide +kernel
theorem dL_law_712 : decode cL_law 712 = .ok (.invokevirtual 182, 3) := by decide +kernel
theorem dL_law_715 : decode cL_law 715 = .ok (.sipush 3600, 3) := by decide +kernel
theorem dL_law_718 : decode cL_law 718 = .ok (.if_icmp .ne 27, 3) := by decide +kernel
theorem dL_law_721 : decode cL_law 721 = .ok (.aload 4, 2) := by decide +kernel
theorem dL_law_723 : decode cL_law 723 = .ok (.sipush 600, 3) := by decide +kernel
theorem dL_law_726 : decode cL_law 726 = .ok (.invokevirtual 99, 3) := by decide +kernel
theorem dL_law_729 : decode cL_law 729 = .ok (.ifCond .ne 16, 3) := by decide +kernel
theorem dL_law_732 : decode cL_law 732 = .ok (.aload 4, 2) := by decide +kernel
theorem dL_law_734 : decode cL_law 734 = .ok (.invokevirtual 179, 3) := by decide +kernel
theorem dL_law_737 : decode cL_law 737 = .ok (.iconst 4, 1) := by decide +kernel
theorem dL_law_738 : decode cL_law 738 = .ok (.if_icmp .ne 7, 3) := by decide +kernel
theorem dL_law_741 : decode cL_law 741 = .ok (.iconst 1, 1) := by decide +kernel
theorem dL_law_742 : decode cL_law 742 = .ok (.goto 4, 3) := by decide +kernel
theorem dL_law_745 : decode cL_law 745 = .ok (.iconst 0, 1) := by decide +kernel
theorem dL_law_746 : decode cL_law 746 = .ok (.ireturn, 1) := by decide +kernel
