/-! the decode rows of the law -/
theorem dL_law_0 : decode cL_law 0 = .ok (.new 29, 3) := by decide +kernel
theorem dL_law_3 : decode cL_law 3 = .ok (.dup, 1) := by decide +kernel
theorem dL_law_4 : decode cL_law 4 = .ok (.invokespecial 84, 3) := by decide +kernel
theorem dL_law_7 : decode cL_law 7 = .ok (.astore_n 1, 1) := by decide +kernel
theorem dL_law_8 : decode cL_law 8 = .ok (.bipush 48, 2) := by decide +kernel
theorem dL_law_10 : decode cL_law 10 = .ok (.newarray .int, 2) := by decide +kernel
theorem dL_law_12 : decode cL_law 12 = .ok (.astore_n 2, 1) := by decide +kernel
theorem dL_law_13 : decode cL_law 13 = .ok (.bipush 48, 2) := by decide +kernel
theorem dL_law_15 : decode cL_law 15 = .ok (.newarray .int, 2) := by decide +kernel
theorem dL_law_17 : decode cL_law 17 = .ok (.astore_n 3, 1) := by decide +kernel
theorem dL_law_18 : decode cL_law 18 = .ok (.bipush 48, 2) := by decide +kernel
theorem dL_law_20 : decode cL_law 20 = .ok (.newarray .int, 2) := by decide +kernel
theorem dL_law_22 : decode cL_law 22 = .ok (.astore 4, 2) := by decide +kernel
theorem dL_law_24 : decode cL_law 24 = .ok (.bipush 48, 2) := by decide +kernel
theorem dL_law_26 : decode cL_law 26 = .ok (.newarray .int, 2) := by decide +kernel
theorem dL_law_28 : decode cL_law 28 = .ok (.astore 5, 2) := by decide +kernel
theorem dL_law_30 : decode cL_law 30 = .ok (.bipush 30, 2) := by decide +kernel
theorem dL_law_32 : decode cL_law 32 = .ok (.newarray .int, 2) := by decide +kernel
theorem dL_law_34 : decode cL_law 34 = .ok (.astore 6, 2) := by decide +kernel
theorem dL_law_36 : decode cL_law 36 = .ok (.bipush 9, 2) := by decide +kernel
theorem dL_law_38 : decode cL_law 38 = .ok (.newarray .int, 2) := by decide +kernel
theorem dL_law_40 : decode cL_law 40 = .ok (.astore 7, 2) := by decide +kernel
theorem dL_law_42 : decode cL_law 42 = .ok (.bipush 8, 2) := by decide +kernel
theorem dL_law_44 : decode cL_law 44 = .ok (.newarray .int, 2) := by decide +kernel
theorem dL_law_46 : decode cL_law 46 = .ok (.astore 8, 2) := by decide +kernel
theorem dL_law_48 : decode cL_law 48 = .ok (.iconst 0, 1) := by decide +kernel
theorem dL_law_49 : decode cL_law 49 = .ok (.istore 9, 2) := by decide +kernel
theorem dL_law_51 : decode cL_law 51 = .ok (.iload 9, 2) := by decide +kernel
theorem dL_law_53 : decode cL_law 53 = .ok (.bipush 48, 2) := by decide +kernel
theorem dL_law_55 : decode cL_law 55 = .ok (.if_icmp .ge 15, 3) := by decide +kernel
theorem dL_law_58 : decode cL_law 58 = .ok (.aload 4, 2) := by decide +kernel
theorem dL_law_60 : decode cL_law 60 = .ok (.iload 9, 2) := by decide +kernel
theorem dL_law_62 : decode cL_law 62 = .ok (.iconst (-1), 1) := by decide +kernel
theorem dL_law_63 : decode cL_law 63 = .ok (.iastore, 1) := by decide +kernel
theorem dL_law_64 : decode cL_law 64 = .ok (.iinc 9 1, 3) := by decide +kernel
theorem dL_law_67 : decode cL_law 67 = .ok (.goto (-16), 3) := by decide +kernel
theorem dL_law_70 : decode cL_law 70 = .ok (.iconst 0, 1) := by decide +kernel
theorem dL_law_71 : decode cL_law 71 = .ok (.istore 9, 2) := by decide +kernel
theorem dL_law_73 : decode cL_law 73 = .ok (.iload 9, 2) := by decide +kernel
theorem dL_law_75 : decode cL_law 75 = .ok (.bipush 60, 2) := by decide +kernel
theorem dL_law_77 : decode cL_law 77 = .ok (.if_icmp .ge 702, 3) := by decide +kernel
theorem dL_law_80 : decode cL_law 80 = .ok (.aload_n 0, 1) := by decide +kernel
theorem dL_law_81 : decode cL_law 81 = .ok (.iconst 2, 1) := by decide +kernel
theorem dL_law_82 : decode cL_law 82 = .ok (.iload 9, 2) := by decide +kernel
theorem dL_law_84 : decode cL_law 84 = .ok (.imul, 1) := by decide +kernel
theorem dL_law_85 : decode cL_law 85 = .ok (.invokestatic 85, 3) := by decide +kernel
theorem dL_law_88 : decode cL_law 88 = .ok (.istore 10, 2) := by decide +kernel
theorem dL_law_90 : decode cL_law 90 = .ok (.aload_n 0, 1) := by decide +kernel
theorem dL_law_91 : decode cL_law 91 = .ok (.iconst 2, 1) := by decide +kernel
theorem dL_law_92 : decode cL_law 92 = .ok (.iload 9, 2) := by decide +kernel
theorem dL_law_94 : decode cL_law 94 = .ok (.imul, 1) := by decide +kernel
theorem dL_law_95 : decode cL_law 95 = .ok (.iconst 1, 1) := by decide +kernel
theorem dL_law_96 : decode cL_law 96 = .ok (.iadd, 1) := by decide +kernel
theorem dL_law_97 : decode cL_law 97 = .ok (.invokestatic 85, 3) := by decide +kernel
theorem dL_law_100 : decode cL_law 100 = .ok (.istore 11, 2) := by decide +kernel
theorem dL_law_102 : decode cL_law 102 = .ok (.iload 10, 2) := by decide +kernel
theorem dL_law_104 : decode cL_law 104 = .ok (.bipush 12, 2) := by decide +kernel
theorem dL_law_106 : decode cL_law 106 = .ok (.invokestatic 89, 3) := by decide +kernel
theorem dL_law_109 : decode cL_law 109 = .ok (.istore 12, 2) := by decide +kernel
theorem dL_law_111 : decode cL_law 111 = .ok (.iload 11, 2) := by decide +kernel
theorem dL_law_113 : decode cL_law 113 = .ok (.bipush 8, 2) := by decide +kernel
theorem dL_law_115 : decode cL_law 115 = .ok (.invokestatic 89, 3) := by decide +kernel
theorem dL_law_118 : decode cL_law 118 = .ok (.istore 13, 2) := by decide +kernel
theorem dL_law_120 : decode cL_law 120 = .ok (.iload 11, 2) := by decide +kernel
theorem dL_law_122 : decode cL_law 122 = .ok (.iconst 3, 1) := by decide +kernel
theorem dL_law_123 : decode cL_law 123 = .ok (.ishr, 1) := by decide +kernel
theorem dL_law_124 : decode cL_law 124 = .ok (.bipush 6, 2) := by decide +kernel
theorem dL_law_126 : decode cL_law 126 = .ok (.invokestatic 89, 3) := by decide +kernel
theorem dL_law_129 : decode cL_law 129 = .ok (.istore 14, 2) := by decide +kernel
theorem dL_law_131 : decode cL_law 131 = .ok (.iconst 1, 1) := by decide +kernel
theorem dL_law_132 : decode cL_law 132 = .ok (.iload 11, 2) := by decide +kernel
theorem dL_law_134 : decode cL_law 134 = .ok (.bipush 6, 2) := by decide +kernel
theorem dL_law_136 : decode cL_law 136 = .ok (.ishr, 1) := by decide +kernel
theorem dL_law_137 : decode cL_law 137 = .ok (.iload 10, 2) := by decide +kernel
theorem dL_law_139 : decode cL_law 139 = .ok (.bipush 20, 2) := by decide +kernel
theorem dL_law_141 : decode cL_law 141 = .ok (.ishr, 1) := by decide +kernel
theorem dL_law_142 : decode cL_law 142 = .ok (.iconst 3, 1) := by decide +kernel
theorem dL_law_143 : decode cL_law 143 = .ok (.invokestatic 89, 3) := by decide +kernel
theorem dL_law_146 : decode cL_law 146 = .ok (.ifCond .ne 11, 3) := by decide +kernel
theorem dL_law_149 : decode cL_law 149 = .ok (.bipush 8, 2) := by decide +kernel
theorem dL_law_151 : decode cL_law 151 = .ok (.iload 13, 2) := by decide +kernel
theorem dL_law_153 : decode cL_law 153 = .ok (.isub, 1) := by decide +kernel
theorem dL_law_154 : decode cL_law 154 = .ok (.goto 15, 3) := by decide +kernel
theorem dL_law_157 : decode cL_law 157 = .ok (.iload 13, 2) := by decide +kernel
theorem dL_law_159 : decode cL_law 159 = .ok (.bipush 6, 2) := by decide +kernel
theorem dL_law_161 : decode cL_law 161 = .ok (.if_icmp .ge 7, 3) := by decide +kernel
theorem dL_law_164 : decode cL_law 164 = .ok (.iconst 2, 1) := by decide +kernel
theorem dL_law_165 : decode cL_law 165 = .ok (.goto 4, 3) := by decide +kernel
theorem dL_law_168 : decode cL_law 168 = .ok (.iconst 1, 1) := by decide +kernel
theorem dL_law_169 : decode cL_law 169 = .ok (.invokestatic 89, 3) := by decide +kernel
theorem dL_law_172 : decode cL_law 172 = .ok (.iadd, 1) := by decide +kernel
theorem dL_law_173 : decode cL_law 173 = .ok (.istore 15, 2) := by decide +kernel
theorem dL_law_175 : decode cL_law 175 = .ok (.iconst 1, 1) := by decide +kernel
theorem dL_law_176 : decode cL_law 176 = .ok (.iload 11, 2) := by decide +kernel
theorem dL_law_178 : decode cL_law 178 = .ok (.bipush 9, 2) := by decide +kernel
theorem dL_law_180 : decode cL_law 180 = .ok (.ishr, 1) := by decide +kernel
theorem dL_law_181 : decode cL_law 181 = .ok (.iload 14, 2) := by decide +kernel
theorem dL_law_183 : decode cL_law 183 = .ok (.iconst 5, 1) := by decide +kernel
theorem dL_law_184 : decode cL_law 184 = .ok (.if_icmp .ge 7, 3) := by decide +kernel
theorem dL_law_187 : decode cL_law 187 = .ok (.iconst 2, 1) := by decide +kernel
theorem dL_law_188 : decode cL_law 188 = .ok (.goto 4, 3) := by decide +kernel
theorem dL_law_191 : decode cL_law 191 = .ok (.iconst 1, 1) := by decide +kernel
theorem dL_law_192 : decode cL_law 192 = .ok (.invokestatic 89, 3) := by decide +kernel
theorem dL_law_195 : decode cL_law 195 = .ok (.iadd, 1) := by decide +kernel
theorem dL_law_196 : decode cL_law 196 = .ok (.istore 16, 2) := by decide +kernel
theorem dL_law_198 : decode cL_law 198 = .ok (.iload 12, 2) := by decide +kernel
theorem dL_law_200 : decode cL_law 200 = .ok (.iconst 5, 1) := by decide +kernel
theorem dL_law_201 : decode cL_law 201 = .ok (.if_icmp .ge 167, 3) := by decide +kernel
theorem dL_law_204 : decode cL_law 204 = .ok (.iload 10, 2) := by decide +kernel
theorem dL_law_206 : decode cL_law 206 = .ok (.iconst 5, 1) := by decide +kernel
theorem dL_law_207 : decode cL_law 207 = .ok (.ishr, 1) := by decide +kernel
theorem dL_law_208 : decode cL_law 208 = .ok (.iload 10, 2) := by decide +kernel
theorem dL_law_210 : decode cL_law 210 = .ok (.bipush 13, 2) := by decide +kernel
theorem dL_law_212 : decode cL_law 212 = .ok (.ishr, 1) := by decide +kernel
theorem dL_law_213 : decode cL_law 213 = .ok (.iconst 2, 1) := by decide +kernel
theorem dL_law_214 : decode cL_law 214 = .ok (.invokestatic 89, 3) := by decide +kernel
theorem dL_law_217 : decode cL_law 217 = .ok (.ifCond .ne 9, 3) := by decide +kernel
theorem dL_law_220 : decode cL_law 220 = .ok (.sipush 256, 3) := by decide +kernel
theorem dL_law_223 : decode cL_law 223 = .ok (.goto 4, 3) := by decide +kernel
theorem dL_law_226 : decode cL_law 226 = .ok (.iconst 3, 1) := by decide +kernel
theorem dL_law_227 : decode cL_law 227 = .ok (.invokestatic 89, 3) := by decide +kernel
theorem dL_law_230 : decode cL_law 230 = .ok (.iload 10, 2) := by decide +kernel
theorem dL_law_232 : decode cL_law 232 = .ok (.bipush 14, 2) := by decide +kernel
theorem dL_law_234 : decode cL_law 234 = .ok (.ishr, 1) := by decide +kernel
theorem dL_law_235 : decode cL_law 235 = .ok (.iconst 2, 1) := by decide +kernel
theorem dL_law_236 : decode cL_law 236 = .ok (.invokestatic 89, 3) := by decide +kernel
theorem dL_law_239 : decode cL_law 239 = .ok (.ifCond .ne 7, 3) := by decide +kernel
theorem dL_law_242 : decode cL_law 242 = .ok (.iconst 1, 1) := by decide +kernel
theorem dL_law_243 : decode cL_law 243 = .ok (.goto 5, 3) := by decide +kernel
theorem dL_law_246 : decode cL_law 246 = .ok (.bipush 85, 2) := by decide +kernel
theorem dL_law_248 : decode cL_law 248 = .ok (.imul, 1) := by decide +kernel
theorem dL_law_249 : decode cL_law 249 = .ok (.sipush 256, 3) := by decide +kernel
theorem dL_law_252 : decode cL_law 252 = .ok (.irem, 1) := by decide +kernel
theorem dL_law_253 : decode cL_law 253 = .ok (.istore 17, 2) := by decide +kernel
theorem dL_law_255 : decode cL_law 255 = .ok (.iconst 0, 1) := by decide +kernel
theorem dL_law_256 : decode cL_law 256 = .ok (.istore 18, 2) := by decide +kernel
theorem dL_law_258 : decode cL_law 258 = .ok (.iconst 0, 1) := by decide +kernel
theorem dL_law_259 : decode cL_law 259 = .ok (.istore 19, 2) := by decide +kernel
theorem dL_law_261 : decode cL_law 261 = .ok (.iload 19, 2) := by decide +kernel
theorem dL_law_263 : decode cL_law 263 = .ok (.iload 15, 2) := by decide +kernel
theorem dL_law_265 : decode cL_law 265 = .ok (.iload 16, 2) := by decide +kernel
theorem dL_law_267 : decode cL_law 267 = .ok (.imul, 1) := by decide +kernel
theorem dL_law_268 : decode cL_law 268 = .ok (.if_icmp .ge 42, 3) := by decide +kernel
theorem dL_law_271 : decode cL_law 271 = .ok (.bipush 8, 2) := by decide +kernel
theorem dL_law_273 : decode cL_law 273 = .ok (.iload 14, 2) := by decide +kernel
theorem dL_law_275 : decode cL_law 275 = .ok (.iload 19, 2) := by decide +kernel
theorem dL_law_277 : decode cL_law 277 = .ok (.iload 15, 2) := by decide +kernel
theorem dL_law_279 : decode cL_law 279 = .ok (.idiv, 1) := by decide +kernel
theorem dL_law_280 : decode cL_law 280 = .ok (.iadd, 1) := by decide +kernel
theorem dL_law_281 : decode cL_law 281 = .ok (.imul, 1) := by decide +kernel
theorem dL_law_282 : decode cL_law 282 = .ok (.iload 13, 2) := by decide +kernel
theorem dL_law_284 : decode cL_law 284 = .ok (.iadd, 1) := by decide +kernel
theorem dL_law_285 : decode cL_law 285 = .ok (.iload 19, 2) := by decide +kernel
theorem dL_law_287 : decode cL_law 287 = .ok (.iload 15, 2) := by decide +kernel
theorem dL_law_289 : decode cL_law 289 = .ok (.irem, 1) := by decide +kernel
theorem dL_law_290 : decode cL_law 290 = .ok (.iadd, 1) := by decide +kernel
theorem dL_law_291 : decode cL_law 291 = .ok (.iload 17, 2) := by decide +kernel
theorem dL_law_293 : decode cL_law 293 = .ok (.aload_n 2, 1) := by decide +kernel
theorem dL_law_294 : decode cL_law 294 = .ok (.aload_n 3, 1) := by decide +kernel
theorem dL_law_295 : decode cL_law 295 = .ok (.aload 4, 2) := by decide +kernel
theorem dL_law_297 : decode cL_law 297 = .ok (.aload 5, 2) := by decide +kernel
theorem dL_law_299 : decode cL_law 299 = .ok (.aload 8, 2) := by decide +kernel
theorem dL_law_301 : decode cL_law 301 = .ok (.invokestatic 92, 3) := by decide +kernel
theorem dL_law_304 : decode cL_law 304 = .ok (.iinc 19 1, 3) := by decide +kernel
theorem dL_law_307 : decode cL_law 307 = .ok (.goto (-46), 3) := by decide +kernel
theorem dL_law_310 : decode cL_law 310 = .ok (.iconst 0, 1) := by decide +kernel
theorem dL_law_311 : decode cL_law 311 = .ok (.istore 19, 2) := by decide +kernel
theorem dL_law_313 : decode cL_law 313 = .ok (.iload 19, 2) := by decide +kernel
theorem dL_law_315 : decode cL_law 315 = .ok (.bipush 48, 2) := by decide +kernel
theorem dL_law_317 : decode cL_law 317 = .ok (.if_icmp .ge 27, 3) := by decide +kernel
theorem dL_law_320 : decode cL_law 320 = .ok (.iload 18, 2) := by decide +kernel
theorem dL_law_322 : decode cL_law 322 = .ok (.aload 4, 2) := by decide +kernel
theorem dL_law_324 : decode cL_law 324 = .ok (.iload 19, 2) := by decide +kernel
theorem dL_law_326 : decode cL_law 326 = .ok (.iaload, 1) := by decide +kernel
theorem dL_law_327 : decode cL_law 327 = .ok (.ifCond .ge 7, 3) := by decide +kernel
theorem dL_law_330 : decode cL_law 330 = .ok (.iconst 0, 1) := by decide +kernel
theorem dL_law_331 : decode cL_law 331 = .ok (.goto 4, 3) := by decide +kernel
theorem dL_law_334 : decode cL_law 334 = .ok (.iconst 1, 1) := by decide +kernel
theorem dL_law_335 : decode cL_law 335 = .ok (.iadd, 1) := by decide +kernel
theorem dL_law_336 : decode cL_law 336 = .ok (.istore 18, 2) := by decide +kernel
theorem dL_law_338 : decode cL_law 338 = .ok (.iinc 19 1, 3) := by decide +kernel
theorem dL_law_341 : decode cL_law 341 = .ok (.goto (-28), 3) := by decide +kernel
theorem dL_law_344 : decode cL_law 344 = .ok (.aload_n 1, 1) := by decide +kernel
theorem dL_law_345 : decode cL_law 345 = .ok (.iload 13, 2) := by decide +kernel
theorem dL_law_347 : decode cL_law 347 = .ok (.iload 14, 2) := by decide +kernel
theorem dL_law_349 : decode cL_law 349 = .ok (.iload 15, 2) := by decide +kernel
theorem dL_law_351 : decode cL_law 351 = .ok (.iload 16, 2) := by decide +kernel
theorem dL_law_353 : decode cL_law 353 = .ok (.iload 17, 2) := by decide +kernel
theorem dL_law_355 : decode cL_law 355 = .ok (.invokevirtual 96, 3) := by decide +kernel
theorem dL_law_358 : decode cL_law 358 = .ok (.iload 18, 2) := by decide +kernel
theorem dL_law_360 : decode cL_law 360 = .ok (.if_icmp .eq 5, 3) := by decide +kernel
theorem dL_law_363 : decode cL_law 363 = .ok (.iconst 0, 1) := by decide +kernel
theorem dL_law_364 : decode cL_law 364 = .ok (.ireturn, 1) := by decide +kernel
theorem dL_law_365 : decode cL_law 365 = .ok (.goto 389, 3) := by decide +kernel
theorem dL_law_368 : decode cL_law 368 = .ok (.iload 12, 2) := by decide +kernel
theorem dL_law_370 : decode cL_law 370 = .ok (.bipush 7, 2) := by decide +kernel
theorem dL_law_372 : decode cL_law 372 = .ok (.if_icmp .ge 269, 3) := by decide +kernel
theorem dL_law_375 : decode cL_law 375 = .ok (.aload 8, 2) := by decide +kernel
theorem dL_law_377 : decode cL_law 377 = .ok (.iconst 2, 1) := by decide +kernel
theorem dL_law_378 : decode cL_law 378 = .ok (.iaload, 1) := by decide +kernel
theorem dL_law_379 : decode cL_law 379 = .ok (.iconst 4, 1) := by decide +kernel
theorem dL_law_380 : decode cL_law 380 = .ok (.if_icmp .ge 13, 3) := by decide +kernel
theorem dL_law_383 : decode cL_law 383 = .ok (.bipush 6, 2) := by decide +kernel
theorem dL_law_385 : decode cL_law 385 = .ok (.aload 8, 2) := by decide +kernel
theorem dL_law_387 : decode cL_law 387 = .ok (.iconst 2, 1) := by decide +kernel
theorem dL_law_388 : decode cL_law 388 = .ok (.iaload, 1) := by decide +kernel
theorem dL_law_389 : decode cL_law 389 = .ok (.imul, 1) := by decide +kernel
theorem dL_law_390 : decode cL_law 390 = .ok (.goto 5, 3) := by decide +kernel
theorem dL_law_393 : decode cL_law 393 = .ok (.bipush 24, 2) := by decide +kernel
theorem dL_law_395 : decode cL_law 395 = .ok (.istore 17, 2) := by decide +kernel
theorem dL_law_397 : decode cL_law 397 = .ok (.aload 6, 2) := by decide +kernel
theorem dL_law_399 : decode cL_law 399 = .ok (.iload 17, 2) := by decide +kernel
theorem dL_law_401 : decode cL_law 401 = .ok (.iload 13, 2) := by decide +kernel
theorem dL_law_403 : decode cL_law 403 = .ok (.iastore, 1) := by decide +kernel
theorem dL_law_404 : decode cL_law 404 = .ok (.aload 6, 2) := by decide +kernel
theorem dL_law_406 : decode cL_law 406 = .ok (.iload 17, 2) := by decide +kernel
theorem dL_law_408 : decode cL_law 408 = .ok (.iconst 1, 1) := by decide +kernel
theorem dL_law_409 : decode cL_law 409 = .ok (.iadd, 1) := by decide +kernel
theorem dL_law_410 : decode cL_law 410 = .ok (.iload 14, 2) := by decide +kernel
theorem dL_law_412 : decode cL_law 412 = .ok (.iastore, 1) := by decide +kernel
theorem dL_law_413 : decode cL_law 413 = .ok (.aload 6, 2) := by decide +kernel
theorem dL_law_415 : decode cL_law 415 = .ok (.iload 17, 2) := by decide +kernel
theorem dL_law_417 : decode cL_law 417 = .ok (.iconst 2, 1) := by decide +kernel
theorem dL_law_418 : decode cL_law 418 = .ok (.iadd, 1) := by decide +kernel
theorem dL_law_419 : decode cL_law 419 = .ok (.iload 15, 2) := by decide +kernel
theorem dL_law_421 : decode cL_law 421 = .ok (.iastore, 1) := by decide +kernel
theorem dL_law_422 : decode cL_law 422 = .ok (.aload 6, 2) := by decide +kernel
theorem dL_law_424 : decode cL_law 424 = .ok (.iload 17, 2) := by decide +kernel
theorem dL_law_426 : decode cL_law 426 = .ok (.iconst 3, 1) := by decide +kernel
theorem dL_law_427 : decode cL_law 427 = .ok (.iadd, 1) := by decide +kernel
theorem dL_law_428 : decode cL_law 428 = .ok (.iload 16, 2) := by decide +kernel
theorem dL_law_430 : decode cL_law 430 = .ok (.iastore, 1) := by decide +kernel
theorem dL_law_431 : decode cL_law 431 = .ok (.aload 6, 2) := by decide +kernel
theorem dL_law_433 : decode cL_law 433 = .ok (.iload 17, 2) := by decide +kernel
theorem dL_law_435 : decode cL_law 435 = .ok (.iconst 4, 1) := by decide +kernel
theorem dL_law_436 : decode cL_law 436 = .ok (.iadd, 1) := by decide +kernel
theorem dL_law_437 : decode cL_law 437 = .ok (.iload 10, 2) := by decide +kernel
theorem dL_law_439 : decode cL_law 439 = .ok (.iconst 5, 1) := by decide +kernel
theorem dL_law_440 : decode cL_law 440 = .ok (.ishr, 1) := by decide +kernel
theorem dL_law_441 : decode cL_law 441 = .ok (.bipush 9, 2) := by decide +kernel
theorem dL_law_443 : decode cL_law 443 = .ok (.iload 15, 2) := by decide +kernel
theorem dL_law_445 : decode cL_law 445 = .ok (.isub, 1) := by decide +kernel
theorem dL_law_446 : decode cL_law 446 = .ok (.invokestatic 89, 3) := by decide +kernel
theorem dL_law_449 : decode cL_law 449 = .ok (.iastore, 1) := by decide +kernel
theorem dL_law_450 : decode cL_law 450 = .ok (.aload 6, 2) := by decide +kernel
theorem dL_law_452 : decode cL_law 452 = .ok (.iload 17, 2) := by decide +kernel
theorem dL_law_454 : decode cL_law 454 = .ok (.iconst 5, 1) := by decide +kernel
theorem dL_law_455 : decode cL_law 455 = .ok (.iadd, 1) := by decide +kernel
theorem dL_law_456 : decode cL_law 456 = .ok (.iload 10, 2) := by decide +kernel
theorem dL_law_458 : decode cL_law 458 = .ok (.bipush 8, 2) := by decide +kernel
theorem dL_law_460 : decode cL_law 460 = .ok (.ishr, 1) := by decide +kernel
theorem dL_law_461 : decode cL_law 461 = .ok (.bipush 7, 2) := by decide +kernel
theorem dL_law_463 : decode cL_law 463 = .ok (.iload 16, 2) := by decide +kernel
theorem dL_law_465 : decode cL_law 465 = .ok (.isub, 1) := by decide +kernel
theorem dL_law_466 : decode cL_law 466 = .ok (.invokestatic 89, 3) := by decide +kernel
theorem dL_law_469 : decode cL_law 469 = .ok (.iastore, 1) := by decide +kernel
theorem dL_law_470 : decode cL_law 470 = .ok (.aload 6, 2) := by decide +kernel
theorem dL_law_472 : decode cL_law 472 = .ok (.iload 17, 2) := by decide +kernel
theorem dL_law_474 : decode cL_law 474 = .ok (.iconst 4, 1) := by decide +kernel
theorem dL_law_475 : decode cL_law 475 = .ok (.iadd, 1) := by decide +kernel
theorem dL_law_476 : decode cL_law 476 = .ok (.iaload, 1) := by decide +kernel
theorem dL_law_477 : decode cL_law 477 = .ok (.iload 13, 2) := by decide +kernel
theorem dL_law_479 : decode cL_law 479 = .ok (.if_icmp .ne 30, 3) := by decide +kernel
theorem dL_law_482 : decode cL_law 482 = .ok (.aload 6, 2) := by decide +kernel
theorem dL_law_484 : decode cL_law 484 = .ok (.iload 17, 2) := by decide +kernel
theorem dL_law_486 : decode cL_law 486 = .ok (.iconst 5, 1) := by decide +kernel
theorem dL_law_487 : decode cL_law 487 = .ok (.iadd, 1) := by decide +kernel
theorem dL_law_488 : decode cL_law 488 = .ok (.iaload, 1) := by decide +kernel
theorem dL_law_489 : decode cL_law 489 = .ok (.iload 14, 2) := by decide +kernel
theorem dL_law_491 : decode cL_law 491 = .ok (.if_icmp .ne 18, 3) := by decide +kernel
theorem dL_law_494 : decode cL_law 494 = .ok (.aload_n 1, 1) := by decide +kernel
theorem dL_law_495 : decode cL_law 495 = .ok (.iconst 2, 1) := by decide +kernel
theorem dL_law_496 : decode cL_law 496 = .ok (.iload 13, 2) := by decide +kernel
theorem dL_law_498 : decode cL_law 498 = .ok (.iload 14, 2) := by decide +kernel
theorem dL_law_500 : decode cL_law 500 = .ok (.invokestatic 71, 3) := by decide +kernel
theorem dL_law_503 : decode cL_law 503 = .ok (.iconst 2, 1) := by decide +kernel
theorem dL_law_504 : decode cL_law 504 = .ok (.if_icmp .eq 269, 3) := by decide +kernel
theorem dL_law_507 : decode cL_law 507 = .ok (.iconst 0, 1) := by decide +kernel
theorem dL_law_508 : decode cL_law 508 = .ok (.ireturn, 1) := by decide +kernel
theorem dL_law_509 : decode cL_law 509 = .ok (.bipush 48, 2) := by decide +kernel
theorem dL_law_511 : decode cL_law 511 = .ok (.newarray .int, 2) := by decide +kernel
theorem dL_law_513 : decode cL_law 513 = .ok (.astore 18, 2) := by decide +kernel
theorem dL_law_515 : decode cL_law 515 = .ok (.iconst 0, 1) := by decide +kernel
theorem dL_law_516 : decode cL_law 516 = .ok (.istore 19, 2) := by decide +kernel
theorem dL_law_518 : decode cL_law 518 = .ok (.iload 19, 2) := by decide +kernel
theorem dL_law_520 : decode cL_law 520 = .ok (.bipush 48, 2) := by decide +kernel
theorem dL_law_522 : decode cL_law 522 = .ok (.if_icmp .ge 18, 3) := by decide +kernel
theorem dL_law_525 : decode cL_law 525 = .ok (.aload 18, 2) := by decide +kernel
theorem dL_law_527 : decode cL_law 527 = .ok (.iload 19, 2) := by decide +kernel
theorem dL_law_529 : decode cL_law 529 = .ok (.aload_n 2, 1) := by decide +kernel
theorem dL_law_530 : decode cL_law 530 = .ok (.iload 19, 2) := by decide +kernel
theorem dL_law_532 : decode cL_law 532 = .ok (.iaload, 1) := by decide +kernel
theorem dL_law_533 : decode cL_law 533 = .ok (.iastore, 1) := by decide +kernel
theorem dL_law_534 : decode cL_law 534 = .ok (.iinc 19 1, 3) := by decide +kernel
theorem dL_law_537 : decode cL_law 537 = .ok (.goto (-19), 3) := by decide +kernel
theorem dL_law_540 : decode cL_law 540 = .ok (.aload 18, 2) := by decide +kernel
theorem dL_law_542 : decode cL_law 542 = .ok (.aload 6, 2) := by decide +kernel
theorem dL_law_544 : decode cL_law 544 = .ok (.iload 17, 2) := by decide +kernel
theorem dL_law_546 : decode cL_law 546 = .ok (.invokestatic 16, 3) := by decide +kernel
theorem dL_law_549 : decode cL_law 549 = .ok (.iconst 0, 1) := by decide +kernel
theorem dL_law_550 : decode cL_law 550 = .ok (.istore 19, 2) := by decide +kernel
theorem dL_law_552 : decode cL_law 552 = .ok (.iload 19, 2) := by decide +kernel
theorem dL_law_554 : decode cL_law 554 = .ok (.bipush 48, 2) := by decide +kernel
theorem dL_law_556 : decode cL_law 556 = .ok (.if_icmp .ge 27, 3) := by decide +kernel
theorem dL_law_559 : decode cL_law 559 = .ok (.iload 19, 2) := by decide +kernel
theorem dL_law_561 : decode cL_law 561 = .ok (.aload 18, 2) := by decide +kernel
theorem dL_law_563 : decode cL_law 563 = .ok (.iload 19, 2) := by decide +kernel
theorem dL_law_565 : decode cL_law 565 = .ok (.iaload, 1) := by decide +kernel
theorem dL_law_566 : decode cL_law 566 = .ok (.aload_n 2, 1) := by decide +kernel
theorem dL_law_567 : decode cL_law 567 = .ok (.aload_n 3, 1) := by decide +kernel
theorem dL_law_568 : decode cL_law 568 = .ok (.aload 4, 2) := by decide +kernel
theorem dL_law_570 : decode cL_law 570 = .ok (.aload 5, 2) := by decide +kernel
theorem dL_law_572 : decode cL_law 572 = .ok (.aload 8, 2) := by decide +kernel
theorem dL_law_574 : decode cL_law 574 = .ok (.invokestatic 92, 3) := by decide +kernel
theorem dL_law_577 : decode cL_law 577 = .ok (.iinc 19 1, 3) := by decide +kernel
theorem dL_law_580 : decode cL_law 580 = .ok (.goto (-28), 3) := by decide +kernel
theorem dL_law_583 : decode cL_law 583 = .ok (.aload 8, 2) := by decide +kernel
theorem dL_law_585 : decode cL_law 585 = .ok (.iconst 2, 1) := by decide +kernel
theorem dL_law_586 : decode cL_law 586 = .ok (.dup2, 1) := by decide +kernel
theorem dL_law_587 : decode cL_law 587 = .ok (.iaload, 1) := by decide +kernel
theorem dL_law_588 : decode cL_law 588 = .ok (.aload 8, 2) := by decide +kernel
theorem dL_law_590 : decode cL_law 590 = .ok (.iconst 2, 1) := by decide +kernel
theorem dL_law_591 : decode cL_law 591 = .ok (.iaload, 1) := by decide +kernel
theorem dL_law_592 : decode cL_law 592 = .ok (.iconst 4, 1) := by decide +kernel
theorem dL_law_593 : decode cL_law 593 = .ok (.if_icmp .ge 7, 3) := by decide +kernel
theorem dL_law_596 : decode cL_law 596 = .ok (.iconst 1, 1) := by decide +kernel
theorem dL_law_597 : decode cL_law 597 = .ok (.goto 4, 3) := by decide +kernel
theorem dL_law_600 : decode cL_law 600 = .ok (.iconst 0, 1) := by decide +kernel
theorem dL_law_601 : decode cL_law 601 = .ok (.iadd, 1) := by decide +kernel
theorem dL_law_602 : decode cL_law 602 = .ok (.iastore, 1) := by decide +kernel
theorem dL_law_603 : decode cL_law 603 = .ok (.aload_n 1, 1) := by decide +kernel
theorem dL_law_604 : decode cL_law 604 = .ok (.iload 13, 2) := by decide +kernel
theorem dL_law_606 : decode cL_law 606 = .ok (.iload 14, 2) := by decide +kernel
theorem dL_law_608 : decode cL_law 608 = .ok (.iload 15, 2) := by decide +kernel
theorem dL_law_610 : decode cL_law 610 = .ok (.iload 16, 2) := by decide +kernel
theorem dL_law_612 : decode cL_law 612 = .ok (.aload 6, 2) := by decide +kernel
theorem dL_law_614 : decode cL_law 614 = .ok (.iload 17, 2) := by decide +kernel
theorem dL_law_616 : decode cL_law 616 = .ok (.iconst 4, 1) := by decide +kernel
theorem dL_law_617 : decode cL_law 617 = .ok (.iadd, 1) := by decide +kernel
theorem dL_law_618 : decode cL_law 618 = .ok (.iaload, 1) := by decide +kernel
theorem dL_law_619 : decode cL_law 619 = .ok (.aload 6, 2) := by decide +kernel
theorem dL_law_621 : decode cL_law 621 = .ok (.iload 17, 2) := by decide +kernel
theorem dL_law_623 : decode cL_law 623 = .ok (.iconst 5, 1) := by decide +kernel
theorem dL_law_624 : decode cL_law 624 = .ok (.iadd, 1) := by decide +kernel
theorem dL_law_625 : decode cL_law 625 = .ok (.iaload, 1) := by decide +kernel
theorem dL_law_626 : decode cL_law 626 = .ok (.invokevirtual 38, 3) := by decide +kernel
theorem dL_law_629 : decode cL_law 629 = .ok (.aload 8, 2) := by decide +kernel
theorem dL_law_631 : decode cL_law 631 = .ok (.iconst 2, 1) := by decide +kernel
theorem dL_law_632 : decode cL_law 632 = .ok (.iaload, 1) := by decide +kernel
theorem dL_law_633 : decode cL_law 633 = .ok (.if_icmp .eq 5, 3) := by decide +kernel
theorem dL_law_636 : decode cL_law 636 = .ok (.iconst 0, 1) := by decide +kernel
theorem dL_law_637 : decode cL_law 637 = .ok (.ireturn, 1) := by decide +kernel
theorem dL_law_638 : decode cL_law 638 = .ok (.goto 116, 3) := by decide +kernel
theorem dL_law_641 : decode cL_law 641 = .ok (.iload 12, 2) := by decide +kernel
theorem dL_law_643 : decode cL_law 643 = .ok (.bipush 7, 2) := by decide +kernel
theorem dL_law_645 : decode cL_law 645 = .ok (.if_icmp .ne 39, 3) := by decide +kernel
theorem dL_law_648 : decode cL_law 648 = .ok (.aload 8, 2) := by decide +kernel
theorem dL_law_650 : decode cL_law 650 = .ok (.iconst 1, 1) := by decide +kernel
theorem dL_law_651 : decode cL_law 651 = .ok (.iaload, 1) := by decide +kernel
theorem dL_law_652 : decode cL_law 652 = .ok (.istore 17, 2) := by decide +kernel
theorem dL_law_654 : decode cL_law 654 = .ok (.aload 8, 2) := by decide +kernel
theorem dL_law_656 : decode cL_law 656 = .ok (.iconst 1, 1) := by decide +kernel
theorem dL_law_657 : decode cL_law 657 = .ok (.bipush 8, 2) := by decide +kernel
theorem dL_law_659 : decode cL_law 659 = .ok (.iload 14, 2) := by decide +kernel
theorem dL_law_661 : decode cL_law 661 = .ok (.imul, 1) := by decide +kernel
theorem dL_law_662 : decode cL_law 662 = .ok (.iload 13, 2) := by decide +kernel
theorem dL_law_664 : decode cL_law 664 = .ok (.iadd, 1) := by decide +kernel
theorem dL_law_665 : decode cL_law 665 = .ok (.iastore, 1) := by decide +kernel
theorem dL_law_666 : decode cL_law 666 = .ok (.aload_n 1, 1) := by decide +kernel
theorem dL_law_667 : decode cL_law 667 = .ok (.iload 13, 2) := by decide +kernel
theorem dL_law_669 : decode cL_law 669 = .ok (.iload 14, 2) := by decide +kernel
theorem dL_law_671 : decode cL_law 671 = .ok (.invokevirtual 100, 3) := by decide +kernel
theorem dL_law_674 : decode cL_law 674 = .ok (.iload 17, 2) := by decide +kernel
theorem dL_law_676 : decode cL_law 676 = .ok (.if_icmp .eq 5, 3) := by decide +kernel
theorem dL_law_679 : decode cL_law 679 = .ok (.iconst 0, 1) := by decide +kernel
theorem dL_law_680 : decode cL_law 680 = .ok (.ireturn, 1) := by decide +kernel
theorem dL_law_681 : decode cL_law 681 = .ok (.goto 73, 3) := by decide +kernel
theorem dL_law_684 : decode cL_law 684 = .ok (.iload 10, 2) := by decide +kernel
theorem dL_law_686 : decode cL_law 686 = .ok (.iconst 5, 1) := by decide +kernel
theorem dL_law_687 : decode cL_law 687 = .ok (.ishr, 1) := by decide +kernel
theorem dL_law_688 : decode cL_law 688 = .ok (.iload 10, 2) := by decide +kernel
theorem dL_law_690 : decode cL_law 690 = .ok (.bipush 13, 2) := by decide +kernel
theorem dL_law_692 : decode cL_law 692 = .ok (.ishr, 1) := by decide +kernel
theorem dL_law_693 : decode cL_law 693 = .ok (.iconst 3, 1) := by decide +kernel
theorem dL_law_694 : decode cL_law 694 = .ok (.invokestatic 89, 3) := by decide +kernel
theorem dL_law_697 : decode cL_law 697 = .ok (.ifCond .ne 9, 3) := by decide +kernel
theorem dL_law_700 : decode cL_law 700 = .ok (.sipush 301, 3) := by decide +kernel
theorem dL_law_703 : decode cL_law 703 = .ok (.goto 5, 3) := by decide +kernel
theorem dL_law_706 : decode cL_law 706 = .ok (.bipush 12, 2) := by decide +kernel
theorem dL_law_708 : decode cL_law 708 = .ok (.invokestatic 89, 3) := by decide +kernel
theorem dL_law_711 : decode cL_law 711 = .ok (.istore 17, 2) := by decide +kernel
theorem dL_law_713 : decode cL_law 713 = .ok (.iload 17, 2) := by decide +kernel
theorem dL_law_715 : decode cL_law 715 = .ok (.aload_n 2, 1) := by decide +kernel
theorem dL_law_716 : decode cL_law 716 = .ok (.aload_n 3, 1) := by decide +kernel
theorem dL_law_717 : decode cL_law 717 = .ok (.aload 4, 2) := by decide +kernel
theorem dL_law_719 : decode cL_law 719 = .ok (.aload 5, 2) := by decide +kernel
theorem dL_law_721 : decode cL_law 721 = .ok (.aload 6, 2) := by decide +kernel
theorem dL_law_723 : decode cL_law 723 = .ok (.aload 7, 2) := by decide +kernel
theorem dL_law_725 : decode cL_law 725 = .ok (.aload 8, 2) := by decide +kernel
theorem dL_law_727 : decode cL_law 727 = .ok (.invokestatic 103, 3) := by decide +kernel
theorem dL_law_730 : decode cL_law 730 = .ok (.istore 18, 2) := by decide +kernel
theorem dL_law_732 : decode cL_law 732 = .ok (.aload 8, 2) := by decide +kernel
theorem dL_law_734 : decode cL_law 734 = .ok (.iconst 3, 1) := by decide +kernel
theorem dL_law_735 : decode cL_law 735 = .ok (.dup2, 1) := by decide +kernel
theorem dL_law_736 : decode cL_law 736 = .ok (.iaload, 1) := by decide +kernel
theorem dL_law_737 : decode cL_law 737 = .ok (.iload 18, 2) := by decide +kernel
theorem dL_law_739 : decode cL_law 739 = .ok (.iadd, 1) := by decide +kernel
theorem dL_law_740 : decode cL_law 740 = .ok (.iastore, 1) := by decide +kernel
theorem dL_law_741 : decode cL_law 741 = .ok (.aload_n 1, 1) := by decide +kernel
theorem dL_law_742 : decode cL_law 742 = .ok (.iload 17, 2) := by decide +kernel
theorem dL_law_744 : decode cL_law 744 = .ok (.invokevirtual 107, 3) := by decide +kernel
theorem dL_law_747 : decode cL_law 747 = .ok (.iload 18, 2) := by decide +kernel
theorem dL_law_749 : decode cL_law 749 = .ok (.if_icmp .eq 5, 3) := by decide +kernel
theorem dL_law_752 : decode cL_law 752 = .ok (.iconst 0, 1) := by decide +kernel
theorem dL_law_753 : decode cL_law 753 = .ok (.ireturn, 1) := by decide +kernel
theorem dL_law_754 : decode cL_law 754 = .ok (.aload_n 1, 1) := by decide +kernel
theorem dL_law_755 : decode cL_law 755 = .ok (.aload_n 2, 1) := by decide +kernel
theorem dL_law_756 : decode cL_law 756 = .ok (.aload_n 3, 1) := by decide +kernel
theorem dL_law_757 : decode cL_law 757 = .ok (.aload 4, 2) := by decide +kernel
theorem dL_law_759 : decode cL_law 759 = .ok (.aload 5, 2) := by decide +kernel
theorem dL_law_761 : decode cL_law 761 = .ok (.aload 7, 2) := by decide +kernel
theorem dL_law_763 : decode cL_law 763 = .ok (.aload 8, 2) := by decide +kernel
theorem dL_law_765 : decode cL_law 765 = .ok (.invokestatic 109, 3) := by decide +kernel
theorem dL_law_768 : decode cL_law 768 = .ok (.ifCond .ne 5, 3) := by decide +kernel
theorem dL_law_771 : decode cL_law 771 = .ok (.iconst 0, 1) := by decide +kernel
theorem dL_law_772 : decode cL_law 772 = .ok (.ireturn, 1) := by decide +kernel
theorem dL_law_773 : decode cL_law 773 = .ok (.iinc 9 1, 3) := by decide +kernel
theorem dL_law_776 : decode cL_law 776 = .ok (.goto (-703), 3) := by decide +kernel
theorem dL_law_779 : decode cL_law 779 = .ok (.aload_n 1, 1) := by decide +kernel
theorem dL_law_780 : decode cL_law 780 = .ok (.sipush 300, 3) := by decide +kernel
theorem dL_law_783 : decode cL_law 783 = .ok (.invokevirtual 113, 3) := by decide +kernel
theorem dL_law_786 : decode cL_law 786 = .ok (.istore 9, 2) := by decide +kernel
theorem dL_law_788 : decode cL_law 788 = .ok (.iconst 0, 1) := by decide +kernel
theorem dL_law_789 : decode cL_law 789 = .ok (.istore 10, 2) := by decide +kernel
theorem dL_law_791 : decode cL_law 791 = .ok (.iload 10, 2) := by decide +kernel
theorem dL_law_793 : decode cL_law 793 = .ok (.iload 9, 2) := by decide +kernel
theorem dL_law_795 : decode cL_law 795 = .ok (.if_icmp .ge 35, 3) := by decide +kernel
theorem dL_law_798 : decode cL_law 798 = .ok (.aload_n 1, 1) := by decide +kernel
theorem dL_law_799 : decode cL_law 799 = .ok (.invokevirtual 57, 3) := by decide +kernel
theorem dL_law_802 : decode cL_law 802 = .ok (.lconst 0, 1) := by decide +kernel
theorem dL_law_803 : decode cL_law 803 = .ok (.lcmp, 1) := by decide +kernel
theorem dL_law_804 : decode cL_law 804 = .ok (.ifCond .ne 12, 3) := by decide +kernel
theorem dL_law_807 : decode cL_law 807 = .ok (.aload_n 1, 1) := by decide +kernel
theorem dL_law_808 : decode cL_law 808 = .ok (.invokevirtual 75, 3) := by decide +kernel
theorem dL_law_811 : decode cL_law 811 = .ok (.ifCond .ne 5, 3) := by decide +kernel
theorem dL_law_814 : decode cL_law 814 = .ok (.iconst 0, 1) := by decide +kernel
theorem dL_law_815 : decode cL_law 815 = .ok (.ireturn, 1) := by decide +kernel
theorem dL_law_816 : decode cL_law 816 = .ok (.aload_n 1, 1) := by decide +kernel
theorem dL_law_817 : decode cL_law 817 = .ok (.sipush 300, 3) := by decide +kernel
theorem dL_law_820 : decode cL_law 820 = .ok (.invokevirtual 107, 3) := by decide +kernel
theorem dL_law_823 : decode cL_law 823 = .ok (.pop, 1) := by decide +kernel
theorem dL_law_824 : decode cL_law 824 = .ok (.iinc 10 1, 3) := by decide +kernel
theorem dL_law_827 : decode cL_law 827 = .ok (.goto (-36), 3) := by decide +kernel
theorem dL_law_830 : decode cL_law 830 = .ok (.iload 9, 2) := by decide +kernel
theorem dL_law_832 : decode cL_law 832 = .ok (.ifCond .lt 43, 3) := by decide +kernel
theorem dL_law_835 : decode cL_law 835 = .ok (.aload_n 1, 1) := by decide +kernel
theorem dL_law_836 : decode cL_law 836 = .ok (.invokevirtual 57, 3) := by decide +kernel
theorem dL_law_839 : decode cL_law 839 = .ok (.lconst 0, 1) := by decide +kernel
theorem dL_law_840 : decode cL_law 840 = .ok (.lcmp, 1) := by decide +kernel
theorem dL_law_841 : decode cL_law 841 = .ok (.ifCond .ne 34, 3) := by decide +kernel
theorem dL_law_844 : decode cL_law 844 = .ok (.aload_n 1, 1) := by decide +kernel
theorem dL_law_845 : decode cL_law 845 = .ok (.invokevirtual 75, 3) := by decide +kernel
theorem dL_law_848 : decode cL_law 848 = .ok (.ifCond .ne 27, 3) := by decide +kernel
theorem dL_law_851 : decode cL_law 851 = .ok (.aload_n 1, 1) := by decide +kernel
theorem dL_law_852 : decode cL_law 852 = .ok (.iconst 0, 1) := by decide +kernel
theorem dL_law_853 : decode cL_law 853 = .ok (.invokevirtual 113, 3) := by decide +kernel
theorem dL_law_856 : decode cL_law 856 = .ok (.ifCond .ne 19, 3) := by decide +kernel
theorem dL_law_859 : decode cL_law 859 = .ok (.aload_n 1, 1) := by decide +kernel
theorem dL_law_860 : decode cL_law 860 = .ok (.iconst 1, 1) := by decide +kernel
theorem dL_law_861 : decode cL_law 861 = .ok (.bipush 8, 2) := by decide +kernel
theorem dL_law_863 : decode cL_law 863 = .ok (.iconst 0, 1) := by decide +kernel
theorem dL_law_864 : decode cL_law 864 = .ok (.invokestatic 71, 3) := by decide +kernel
theorem dL_law_867 : decode cL_law 867 = .ok (.iconst 1, 1) := by decide +kernel
theorem dL_law_868 : decode cL_law 868 = .ok (.if_icmp .ne 7, 3) := by decide +kernel
theorem dL_law_871 : decode cL_law 871 = .ok (.iconst 1, 1) := by decide +kernel
theorem dL_law_872 : decode cL_law 872 = .ok (.goto 4, 3) := by decide +kernel
theorem dL_law_875 : decode cL_law 875 = .ok (.iconst 0, 1) := by decide +kernel
theorem dL_law_876 : decode cL_law 876 = .ok (.ireturn, 1) := by decide +kernel
