theorem dL_isWell_48 : decode cL_isWell 48 = .ok (.aload_n 0, 1) := by decide +kernel
theorem dL_isWell_49 : decode cL_isWell 49 = .ok (.iload 6, 2) := by decide +kernel
theorem dL_isWell_51 : decode cL_isWell 51 = .ok (.bipush 7, 2) := by decide +kernel
theorem dL_isWell_53 : decode cL_isWell 53 = .ok (.invokevirtual 103, 3) := by decide +kernel
theorem dL_isWell_56 : decode cL_isWell 56 = .ok (.iadd, 1) := by decide +kernel
theorem dL_isWell_57 : decode cL_isWell 57 = .ok (.istore_n 1, 1) := by decide +kernel
theorem dL_isWell_58 : decode cL_isWell 58 = .ok (.iload_n 2, 1) := by decide +kernel
theorem dL_isWell_59 : decode cL_isWell 59 = .ok (.aload_n 0, 1) := by decide +kernel
theorem dL_isWell_60 : decode cL_isWell 60 = .ok (.iload 6, 2) := by decide +kernel
theorem dL_isWell_62 : decode cL_isWell 62 = .ok (.bipush 9, 2) := by decide +kernel
theorem dL_isWell_64 : decode cL_isWell 64 = .ok (.invokevirtual 103, 3) := by decide +kernel
theorem dL_isWell_67 : decode cL_isWell 67 = .ok (.iadd, 1) := by decide +kernel
theorem dL_isWell_68 : decode cL_isWell 68 = .ok (.istore_n 2, 1) := by decide +kernel
theorem dL_isWell_69 : decode cL_isWell 69 = .ok (.iload_n 3, 1) := by decide +kernel
theorem dL_isWell_70 : decode cL_isWell 70 = .ok (.aload_n 0, 1) := by decide +kernel
theorem dL_isWell_71 : decode cL_isWell 71 = .ok (.iload 6, 2) := by decide +kernel
theorem dL_isWell_73 : decode cL_isWell 73 = .ok (.bipush 10, 2) := by decide +kernel
theorem dL_isWell_75 : decode cL_isWell 75 = .ok (.invokevirtual 103, 3) := by decide +kernel
theorem dL_isWell_78 : decode cL_isWell 78 = .ok (.iadd, 1) := by decide +kernel
theorem dL_isWell_79 : decode cL_isWell 79 = .ok (.istore_n 3, 1) := by decide +kernel
theorem dL_isWell_80 : decode cL_isWell 80 = .ok (.iload 4, 2) := by decide +kernel
theorem dL_isWell_82 : decode cL_isWell 82 = .ok (.aload_n 0, 1) := by decide +kernel
theorem dL_isWell_83 : decode cL_isWell 83 = .ok (.iload 6, 2) := by decide +kernel
theorem dL_isWell_85 : decode cL_isWell 85 = .ok (.bipush 6, 2) := by decide +kernel
theorem dL_isWell_87 : decode cL_isWell 87 = .ok (.invokevirtual 103, 3) := by decide +kernel
theorem dL_isWell_90 : decode cL_isWell 90 = .ok (.invokestatic 110, 3) := by decide +kernel
theorem dL_isWell_93 : decode cL_isWell 93 = .ok (.istore 4, 2) := by decide +kernel
theorem dL_isWell_95 : decode cL_isWell 95 = .ok (.aload_n 0, 1) := by decide +kernel
theorem dL_isWell_96 : decode cL_isWell 96 = .ok (.iload 6, 2) := by decide +kernel
theorem dL_isWell_98 : decode cL_isWell 98 = .ok (.bipush 6, 2) := by decide +kernel
theorem dL_isWell_100 : decode cL_isWell 100 = .ok (.invokevirtual 103, 3) := by decide +kernel
theorem dL_isWell_103 : decode cL_isWell 103 = .ok (.aload_n 0, 1) := by decide +kernel
theorem dL_isWell_104 : decode cL_isWell 104 = .ok (.iload 6, 2) := by decide +kernel
theorem dL_isWell_106 : decode cL_isWell 106 = .ok (.iconst 5, 1) := by decide +kernel
theorem dL_isWell_107 : decode cL_isWell 107 = .ok (.invokevirtual 103, 3) := by decide +kernel
theorem dL_isWell_110 : decode cL_isWell 110 = .ok (.if_icmp .gt 53, 3) := by decide +kernel
theorem dL_isWell_113 : decode cL_isWell 113 = .ok (.aload_n 0, 1) := by decide +kernel
theorem dL_isWell_114 : decode cL_isWell 114 = .ok (.iload 6, 2) := by decide +kernel
theorem dL_isWell_116 : decode cL_isWell 116 = .ok (.iconst 5, 1) := by decide +kernel
theorem dL_isWell_117 : decode cL_isWell 117 = .ok (.invokevirtual 103, 3) := by decide +kernel
theorem dL_isWell_120 : decode cL_isWell 120 = .ok (.bipush 12, 2) := by decide +kernel
theorem dL_isWell_122 : decode cL_isWell 122 = .ok (.if_icmp .gt 41, 3) := by decide +kernel
theorem dL_isWell_125 : decode cL_isWell 125 = .ok (.iload 8, 2) := by decide +kernel
theorem dL_isWell_127 : decode cL_isWell 127 = .ok (.aload_n 0, 1) := by decide +kernel
theorem dL_isWell_128 : decode cL_isWell 128 = .ok (.iconst 4, 1) := by decide +kernel
theorem dL_isWell_129 : decode cL_isWell 129 = .ok (.invokevirtual 47, 3) := by decide +kernel
theorem dL_isWell_132 : decode cL_isWell 132 = .ok (.if_icmp .gt 31, 3) := by decide +kernel
theorem dL_isWell_135 : decode cL_isWell 135 = .ok (.iload 7, 2) := by decide +kernel
theorem dL_isWell_137 : decode cL_isWell 137 = .ok (.ifCond .le 28, 3) := by decide +kernel
theorem dL_isWell_140 : decode cL_isWell 140 = .ok (.aload_n 0, 1) := by decide +kernel
theorem dL_isWell_141 : decode cL_isWell 141 = .ok (.iload 6, 2) := by decide +kernel
theorem dL_isWell_143 : decode cL_isWell 143 = .ok (.iconst 4, 1) := by decide +kernel
theorem dL_isWell_144 : decode cL_isWell 144 = .ok (.invokevirtual 103, 3) := by decide +kernel
theorem dL_isWell_147 : decode cL_isWell 147 = .ok (.iload 6, 2) := by decide +kernel
theorem dL_isWell_149 : decode cL_isWell 149 = .ok (.if_icmp .ne 14, 3) := by decide +kernel
theorem dL_isWell_152 : decode cL_isWell 152 = .ok (.aload_n 0, 1) := by decide +kernel
theorem dL_isWell_153 : decode cL_isWell 153 = .ok (.iload 6, 2) := by decide +kernel
theorem dL_isWell_155 : decode cL_isWell 155 = .ok (.bipush 7, 2) := by decide +kernel
theorem dL_isWell_157 : decode cL_isWell 157 = .ok (.invokevirtual 103, 3) := by decide +kernel
theorem dL_isWell_160 : decode cL_isWell 160 = .ok (.ifCond .ne 5, 3) := by decide +kernel
theorem dL_isWell_163 : decode cL_isWell 163 = .ok (.iconst 0, 1) := by decide +kernel
theorem dL_isWell_164 : decode cL_isWell 164 = .ok (.ireturn, 1) := by decide +kernel
theorem dL_isWell_165 : decode cL_isWell 165 = .ok (.iconst 0, 1) := by decide +kernel
theorem dL_isWell_166 : decode cL_isWell 166 = .ok (.istore 10, 2) := by decide +kernel
theorem dL_isWell_168 : decode cL_isWell 168 = .ok (.iconst 1, 1) := by decide +kernel
theorem dL_isWell_169 : decode cL_isWell 169 = .ok (.istore 11, 2) := by decide +kernel
theorem dL_isWell_171 : decode cL_isWell 171 = .ok (.iload 11, 2) := by decide +kernel
theorem dL_isWell_173 : decode cL_isWell 173 = .ok (.aload_n 0, 1) := by decide +kernel
theorem dL_isWell_174 : decode cL_isWell 174 = .ok (.iload 6, 2) := by decide +kernel
theorem dL_isWell_176 : decode cL_isWell 176 = .ok (.iconst 5, 1) := by decide +kernel
theorem dL_isWell_177 : decode cL_isWell 177 = .ok (.invokevirtual 103, 3) := by decide +kernel
theorem dL_isWell_180 : decode cL_isWell 180 = .ok (.if_icmp .gt 40, 3) := by decide +kernel
theorem dL_isWell_183 : decode cL_isWell 183 = .ok (.aload_n 0, 1) := by decide +kernel
theorem dL_isWell_184 : decode cL_isWell 184 = .ok (.iload 6, 2) := by decide +kernel
theorem dL_isWell_186 : decode cL_isWell 186 = .ok (.iload 11, 2) := by decide +kernel
theorem dL_isWell_188 : decode cL_isWell 188 = .ok (.iconst 0, 1) := by decide +kernel
theorem dL_isWell_189 : decode cL_isWell 189 = .ok (.invokevirtual 106, 3) := by decide +kernel
theorem dL_isWell_192 : decode cL_isWell 192 = .ok (.istore 12, 2) := by decide +kernel
theorem dL_isWell_194 : decode cL_isWell 194 = .ok (.iload 12, 2) := by decide +kernel
theorem dL_isWell_196 : decode cL_isWell 196 = .ok (.iload 10, 2) := by decide +kernel
theorem dL_isWell_198 : decode cL_isWell 198 = .ok (.if_icmp .lt 10, 3) := by decide +kernel
theorem dL_isWell_201 : decode cL_isWell 201 = .ok (.iload 12, 2) := by decide +kernel
theorem dL_isWell_203 : decode cL_isWell 203 = .ok (.iload 8, 2) := by decide +kernel
theorem dL_isWell_205 : decode cL_isWell 205 = .ok (.if_icmp .le 5, 3) := by decide +kernel
theorem dL_isWell_208 : decode cL_isWell 208 = .ok (.iconst 0, 1) := by decide +kernel
theorem dL_isWell_209 : decode cL_isWell 209 = .ok (.ireturn, 1) := by decide +kernel
theorem dL_isWell_210 : decode cL_isWell 210 = .ok (.iload 12, 2) := by decide +kernel
theorem dL_isWell_212 : decode cL_isWell 212 = .ok (.istore 10, 2) := by decide +kernel
theorem dL_isWell_214 : decode cL_isWell 214 = .ok (.iinc 11 1, 3) := by decide +kernel
theorem dL_isWell_217 : decode cL_isWell 217 = .ok (.goto (-46), 3) := by decide +kernel
theorem dL_isWell_220 : decode cL_isWell 220 = .ok (.iconst 0, 1) := by decide +kernel
theorem dL_isWell_221 : decode cL_isWell 221 = .ok (.istore 11, 2) := by decide +kernel
theorem dL_isWell_223 : decode cL_isWell 223 = .ok (.iload 11, 2) := by decide +kernel
theorem dL_isWell_225 : decode cL_isWell 225 = .ok (.aload_n 0, 1) := by decide +kernel
theorem dL_isWell_226 : decode cL_isWell 226 = .ok (.iconst 1, 1) := by decide +kernel
theorem dL_isWell_227 : decode cL_isWell 227 = .ok (.invokevirtual 47, 3) := by decide +kernel
theorem dL_isWell_230 : decode cL_isWell 230 = .ok (.if_icmp .ge 138, 3) := by decide +kernel
theorem dL_isWell_233 : decode cL_isWell 233 = .ok (.iload 9, 2) := by decide +kernel
theorem dL_isWell_235 : decode cL_isWell 235 = .ok (.aload_n 0, 1) := by decide +kernel
theorem dL_isWell_236 : decode cL_isWell 236 = .ok (.iload 6, 2) := by decide +kernel
theorem dL_isWell_238 : decode cL_isWell 238 = .ok (.iload 11, 2) := by decide +kernel
theorem dL_isWell_240 : decode cL_isWell 240 = .ok (.invokevirtual 115, 3) := by decide +kernel
theorem dL_isWell_243 : decode cL_isWell 243 = .ok (.ifCond .eq 7, 3) := by decide +kernel
theorem dL_isWell_246 : decode cL_isWell 246 = .ok (.iconst 1, 1) := by decide +kernel
theorem dL_isWell_247 : decode cL_isWell 247 = .ok (.goto 4, 3) := by decide +kernel
theorem dL_isWell_250 : decode cL_isWell 250 = .ok (.iconst 0, 1) := by decide +kernel
theorem dL_isWell_251 : decode cL_isWell 251 = .ok (.iadd, 1) := by decide +kernel
theorem dL_isWell_252 : decode cL_isWell 252 = .ok (.istore 9, 2) := by decide +kernel
theorem dL_isWell_254 : decode cL_isWell 254 = .ok (.iload 11, 2) := by decide +kernel
theorem dL_isWell_256 : decode cL_isWell 256 = .ok (.iload 6, 2) := by decide +kernel
theorem dL_isWell_258 : decode cL_isWell 258 = .ok (.if_icmp .eq 36, 3) := by decide +kernel
theorem dL_isWell_261 : decode cL_isWell 261 = .ok (.iload 7, 2) := by decide +kernel
theorem dL_isWell_263 : decode cL_isWell 263 = .ok (.iconst 2, 1) := by decide +kernel
theorem dL_isWell_264 : decode cL_isWell 264 = .ok (.if_icmp .ne 30, 3) := by decide +kernel
theorem dL_isWell_267 : decode cL_isWell 267 = .ok (.aload_n 0, 1) := by decide +kernel
theorem dL_isWell_268 : decode cL_isWell 268 = .ok (.iload 11, 2) := by decide +kernel
theorem dL_isWell_270 : decode cL_isWell 270 = .ok (.iconst 0, 1) := by decide +kernel
theorem dL_isWell_271 : decode cL_isWell 271 = .ok (.invokevirtual 103, 3) := by decide +kernel
theorem dL_isWell_274 : decode cL_isWell 274 = .ok (.iconst 2, 1) := by decide +kernel
theorem dL_isWell_275 : decode cL_isWell 275 = .ok (.if_icmp .ne 19, 3) := by decide +kernel
theorem dL_isWell_278 : decode cL_isWell 278 = .ok (.aload_n 0, 1) := by decide +kernel
theorem dL_isWell_279 : decode cL_isWell 279 = .ok (.iload 11, 2) := by decide +kernel
theorem dL_isWell_281 : decode cL_isWell 281 = .ok (.iconst 1, 1) := by decide +kernel
theorem dL_isWell_282 : decode cL_isWell 282 = .ok (.invokevirtual 103, 3) := by decide +kernel
theorem dL_isWell_285 : decode cL_isWell 285 = .ok (.iload 8, 2) := by decide +kernel
theorem dL_isWell_287 : decode cL_isWell 287 = .ok (.if_icmp .ne 7, 3) := by decide +kernel
theorem dL_isWell_290 : decode cL_isWell 290 = .ok (.iconst 1, 1) := by decide +kernel
theorem dL_isWell_291 : decode cL_isWell 291 = .ok (.goto 4, 3) := by decide +kernel
theorem dL_isWell_294 : decode cL_isWell 294 = .ok (.iconst 0, 1) := by decide +kernel
theorem dL_isWell_295 : decode cL_isWell 295 = .ok (.istore 12, 2) := by decide +kernel
theorem dL_isWell_297 : decode cL_isWell 297 = .ok (.iload 12, 2) := by decide +kernel
theorem dL_isWell_299 : decode cL_isWell 299 = .ok (.ifCond .ne 61, 3) := by decide +kernel
theorem dL_isWell_302 : decode cL_isWell 302 = .ok (.aload_n 0, 1) := by decide +kernel
theorem dL_isWell_303 : decode cL_isWell 303 = .ok (.iload 6, 2) := by decide +kernel
theorem dL_isWell_305 : decode cL_isWell 305 = .ok (.iload 11, 2) := by decide +kernel
theorem dL_isWell_307 : decode cL_isWell 307 = .ok (.invokevirtual 115, 3) := by decide +kernel
theorem dL_isWell_310 : decode cL_isWell 310 = .ok (.aload_n 0, 1) := by decide +kernel
theorem dL_isWell_311 : decode cL_isWell 311 = .ok (.iload 11, 2) := by decide +kernel
theorem dL_isWell_313 : decode cL_isWell 313 = .ok (.iload 6, 2) := by decide +kernel
theorem dL_isWell_315 : decode cL_isWell 315 = .ok (.invokevirtual 115, 3) := by decide +kernel
theorem dL_isWell_318 : decode cL_isWell 318 = .ok (.if_icmp .ne 42, 3) := by decide +kernel
theorem dL_isWell_321 : decode cL_isWell 321 = .ok (.aload_n 0, 1) := by decide +kernel
theorem dL_isWell_322 : decode cL_isWell 322 = .ok (.iload 6, 2) := by decide +kernel
theorem dL_isWell_324 : decode cL_isWell 324 = .ok (.iload 11, 2) := by decide +kernel
theorem dL_isWell_326 : decode cL_isWell 326 = .ok (.invokevirtual 119, 3) := by decide +kernel
theorem dL_isWell_329 : decode cL_isWell 329 = .ok (.aload_n 0, 1) := by decide +kernel
theorem dL_isWell_330 : decode cL_isWell 330 = .ok (.iload 11, 2) := by decide +kernel
theorem dL_isWell_332 : decode cL_isWell 332 = .ok (.iload 6, 2) := by decide +kernel
theorem dL_isWell_334 : decode cL_isWell 334 = .ok (.invokevirtual 119, 3) := by decide +kernel
theorem dL_isWell_337 : decode cL_isWell 337 = .ok (.ineg, 1) := by decide +kernel
theorem dL_isWell_338 : decode cL_isWell 338 = .ok (.if_icmp .ne 22, 3) := by decide +kernel
theorem dL_isWell_341 : decode cL_isWell 341 = .ok (.aload_n 0, 1) := by decide +kernel
theorem dL_isWell_342 : decode cL_isWell 342 = .ok (.iload 6, 2) := by decide +kernel
theorem dL_isWell_344 : decode cL_isWell 344 = .ok (.iload 11, 2) := by decide +kernel
theorem dL_isWell_346 : decode cL_isWell 346 = .ok (.invokevirtual 122, 3) := by decide +kernel
theorem dL_isWell_349 : decode cL_isWell 349 = .ok (.aload_n 0, 1) := by decide +kernel
theorem dL_isWell_350 : decode cL_isWell 350 = .ok (.iload 11, 2) := by decide +kernel
theorem dL_isWell_352 : decode cL_isWell 352 = .ok (.iload 6, 2) := by decide +kernel
theorem dL_isWell_354 : decode cL_isWell 354 = .ok (.invokevirtual 122, 3) := by decide +kernel
theorem dL_isWell_357 : decode cL_isWell 357 = .ok (.if_icmp .eq 5, 3) := by decide +kernel
theorem dL_isWell_360 : decode cL_isWell 360 = .ok (.iconst 0, 1) := by decide +kernel
theorem dL_isWell_361 : decode cL_isWell 361 = .ok (.ireturn, 1) := by decide +kernel
theorem dL_isWell_362 : decode cL_isWell 362 = .ok (.iinc 11 1, 3) := by decide +kernel
theorem dL_isWell_365 : decode cL_isWell 365 = .ok (.goto (-142), 3) := by decide +kernel
theorem dL_isWell_368 : decode cL_isWell 368 = .ok (.iload 9, 2) := by decide +kernel
theorem dL_isWell_370 : decode cL_isWell 370 = .ok (.aload_n 0, 1) := by decide +kernel
theorem dL_isWell_371 : decode cL_isWell 371 = .ok (.iload 6, 2) := by decide +kernel
theorem dL_isWell_373 : decode cL_isWell 373 = .ok (.bipush 8, 2) := by decide +kernel
theorem dL_isWell_375 : decode cL_isWell 375 = .ok (.invokevirtual 103, 3) := by decide +kernel
theorem dL_isWell_378 : decode cL_isWell 378 = .ok (.if_icmp .eq 5, 3) := by decide +kernel
theorem dL_isWell_381 : decode cL_isWell 381 = .ok (.iconst 0, 1) := by decide +kernel
theorem dL_isWell_382 : decode cL_isWell 382 = .ok (.ireturn, 1) := by decide +kernel
theorem dL_isWell_383 : decode cL_isWell 383 = .ok (.iload 7, 2) := by decide +kernel
theorem dL_isWell_385 : decode cL_isWell 385 = .ok (.iconst 2, 1) := by decide +kernel
theorem dL_isWell_386 : decode cL_isWell 386 = .ok (.if_icmp .ne 25, 3) := by decide +kernel
theorem dL_isWell_389 : decode cL_isWell 389 = .ok (.iload 5, 2) := by decide +kernel
theorem dL_isWell_391 : decode cL_isWell 391 = .ok (.ifCond .lt 15, 3) := by decide +kernel
theorem dL_isWell_394 : decode cL_isWell 394 = .ok (.iload 8, 2) := by decide +kernel
theorem dL_isWell_396 : decode cL_isWell 396 = .ok (.aload_n 0, 1) := by decide +kernel
theorem dL_isWell_397 : decode cL_isWell 397 = .ok (.iload 5, 2) := by decide +kernel
theorem dL_isWell_399 : decode cL_isWell 399 = .ok (.iconst 1, 1) := by decide +kernel
theorem dL_isWell_400 : decode cL_isWell 400 = .ok (.invokevirtual 103, 3) := by decide +kernel
theorem dL_isWell_403 : decode cL_isWell 403 = .ok (.if_icmp .le 8, 3) := by decide +kernel
theorem dL_isWell_406 : decode cL_isWell 406 = .ok (.iload 6, 2) := by decide +kernel
theorem dL_isWell_408 : decode cL_isWell 408 = .ok (.goto 5, 3) := by decide +kernel
theorem dL_isWell_411 : decode cL_isWell 411 = .ok (.iload 5, 2) := by decide +kernel
theorem dL_isWell_413 : decode cL_isWell 413 = .ok (.istore 5, 2) := by decide +kernel
theorem dL_isWell_415 : decode cL_isWell 415 = .ok (.iinc 6 1, 3) := by decide +kernel
theorem dL_isWell_418 : decode cL_isWell 418 = .ok (.goto (-402), 3) := by decide +kernel
theorem dL_isWell_421 : decode cL_isWell 421 = .ok (.iload_n 1, 1) := by decide +kernel
theorem dL_isWell_422 : decode cL_isWell 422 = .ok (.aload_n 0, 1) := by decide +kernel
theorem dL_isWell_423 : decode cL_isWell 423 = .ok (.iconst 2, 1) := by decide +kernel
theorem dL_isWell_424 : decode cL_isWell 424 = .ok (.invokevirtual 47, 3) := by decide +kernel
theorem dL_isWell_427 : decode cL_isWell 427 = .ok (.if_icmp .ne 61, 3) := by decide +kernel
theorem dL_isWell_430 : decode cL_isWell 430 = .ok (.iload_n 2, 1) := by decide +kernel
theorem dL_isWell_431 : decode cL_isWell 431 = .ok (.aload_n 0, 1) := by decide +kernel
theorem dL_isWell_432 : decode cL_isWell 432 = .ok (.iconst 5, 1) := by decide +kernel
theorem dL_isWell_433 : decode cL_isWell 433 = .ok (.invokevirtual 47, 3) := by decide +kernel
theorem dL_isWell_436 : decode cL_isWell 436 = .ok (.if_icmp .ne 52, 3) := by decide +kernel
theorem dL_isWell_439 : decode cL_isWell 439 = .ok (.iload_n 3, 1) := by decide +kernel
