theorem dL_does_237 : decode cL_does 237 = .ok (.ireturn, 1) := by decide +kernel
theorem dL_does_238 : decode cL_does 238 = .ok (.aload_n 0, 1) := by decide +kernel
theorem dL_does_239 : decode cL_does 239 = .ok (.new 76, 3) := by decide +kernel
theorem dL_does_242 : decode cL_does 242 = .ok (.dup, 1) := by decide +kernel
theorem dL_does_243 : decode cL_does 243 = .ok (.invokespecial 78, 3) := by decide +kernel
theorem dL_does_246 : decode cL_does 246 = .ok (.ldc 79, 2) := by decide +kernel
theorem dL_does_248 : decode cL_does 248 = .ok (.invokevirtual 81, 3) := by decide +kernel
theorem dL_does_251 : decode cL_does 251 = .ok (.iconst 1, 1) := by decide +kernel
theorem dL_does_252 : decode cL_does 252 = .ok (.iload_n 3, 1) := by decide +kernel
theorem dL_does_253 : decode cL_does 253 = .ok (.iconst 4, 1) := by decide +kernel
theorem dL_does_254 : decode cL_does 254 = .ok (.irem, 1) := by decide +kernel
theorem dL_does_255 : decode cL_does 255 = .ok (.iadd, 1) := by decide +kernel
theorem dL_does_256 : decode cL_does 256 = .ok (.invokevirtual 84, 3) := by decide +kernel
theorem dL_does_259 : decode cL_does 259 = .ok (.ldc 87, 2) := by decide +kernel
theorem dL_does_261 : decode cL_does 261 = .ok (.invokevirtual 81, 3) := by decide +kernel
theorem dL_does_264 : decode cL_does 264 = .ok (.iload 4, 2) := by decide +kernel
theorem dL_does_266 : decode cL_does 266 = .ok (.bipush 6, 2) := by decide +kernel
theorem dL_does_268 : decode cL_does 268 = .ok (.irem, 1) := by decide +kernel
theorem dL_does_269 : decode cL_does 269 = .ok (.invokevirtual 84, 3) := by decide +kernel
theorem dL_does_272 : decode cL_does 272 = .ok (.iload_n 3, 1) := by decide +kernel
theorem dL_does_273 : decode cL_does 273 = .ok (.iconst 3, 1) := by decide +kernel
theorem dL_does_274 : decode cL_does 274 = .ok (.irem, 1) := by decide +kernel
theorem dL_does_275 : decode cL_does 275 = .ok (.ifCond .ne 28, 3) := by decide +kernel
theorem dL_does_278 : decode cL_does 278 = .ok (.new 76, 3) := by decide +kernel
theorem dL_does_281 : decode cL_does 281 = .ok (.dup, 1) := by decide +kernel
theorem dL_does_282 : decode cL_does 282 = .ok (.invokespecial 78, 3) := by decide +kernel
theorem dL_does_285 : decode cL_does 285 = .ok (.ldc 89, 2) := by decide +kernel
theorem dL_does_287 : decode cL_does 287 = .ok (.invokevirtual 81, 3) := by decide +kernel
theorem dL_does_290 : decode cL_does 290 = .ok (.iload 4, 2) := by decide +kernel
theorem dL_does_292 : decode cL_does 292 = .ok (.iconst 3, 1) := by decide +kernel
theorem dL_does_293 : decode cL_does 293 = .ok (.irem, 1) := by decide +kernel
theorem dL_does_294 : decode cL_does 294 = .ok (.invokevirtual 84, 3) := by decide +kernel
theorem dL_does_297 : decode cL_does 297 = .ok (.invokevirtual 91, 3) := by decide +kernel
theorem dL_does_300 : decode cL_does 300 = .ok (.goto 30, 3) := by decide +kernel
theorem dL_does_303 : decode cL_does 303 = .ok (.new 76, 3) := by decide +kernel
theorem dL_does_306 : decode cL_does 306 = .ok (.dup, 1) := by decide +kernel
theorem dL_does_307 : decode cL_does 307 = .ok (.invokespecial 78, 3) := by decide +kernel
theorem dL_does_310 : decode cL_does 310 = .ok (.ldc 95, 2) := by decide +kernel
theorem dL_does_312 : decode cL_does 312 = .ok (.invokevirtual 81, 3) := by decide +kernel
theorem dL_does_315 : decode cL_does 315 = .ok (.iload 4, 2) := by decide +kernel
theorem dL_does_317 : decode cL_does 317 = .ok (.iconst 5, 1) := by decide +kernel
theorem dL_does_318 : decode cL_does 318 = .ok (.irem, 1) := by decide +kernel
theorem dL_does_319 : decode cL_does 319 = .ok (.invokevirtual 84, 3) := by decide +kernel
theorem dL_does_322 : decode cL_does 322 = .ok (.ldc 97, 2) := by decide +kernel
theorem dL_does_324 : decode cL_does 324 = .ok (.invokevirtual 81, 3) := by decide +kernel
theorem dL_does_327 : decode cL_does 327 = .ok (.invokevirtual 91, 3) := by decide +kernel
theorem dL_does_330 : decode cL_does 330 = .ok (.invokevirtual 81, 3) := by decide +kernel
theorem dL_does_333 : decode cL_does 333 = .ok (.invokevirtual 91, 3) := by decide +kernel
theorem dL_does_336 : decode cL_does 336 = .ok (.invokestatic 99, 3) := by decide +kernel
theorem dL_does_339 : decode cL_does 339 = .ok (.ireturn, 1) := by decide +kernel
theorem dL_does_340 : decode cL_does 340 = .ok (.aload_n 0, 1) := by decide +kernel
theorem dL_does_341 : decode cL_does 341 = .ok (.iconst 1, 1) := by decide +kernel
theorem dL_does_342 : decode cL_does 342 = .ok (.iload_n 3, 1) := by decide +kernel
theorem dL_does_343 : decode cL_does 343 = .ok (.bipush 9, 2) := by decide +kernel
theorem dL_does_345 : decode cL_does 345 = .ok (.irem, 1) := by decide +kernel
theorem dL_does_346 : decode cL_does 346 = .ok (.iadd, 1) := by decide +kernel
theorem dL_does_347 : decode cL_does 347 = .ok (.invokevirtual 44, 3) := by decide +kernel
theorem dL_does_350 : decode cL_does 350 = .ok (.ireturn, 1) := by decide +kernel
theorem dL_seen_0 : decode cL_seen 0 = .ok (.sipush 220, 3) := by decide +kernel
theorem dL_seen_3 : decode cL_seen 3 = .ok (.newarray .int, 2) := by decide +kernel
theorem dL_seen_5 : decode cL_seen 5 = .ok (.astore_n 1, 1) := by decide +kernel
theorem dL_seen_6 : decode cL_seen 6 = .ok (.iconst 0, 1) := by decide +kernel
theorem dL_seen_7 : decode cL_seen 7 = .ok (.istore_n 2, 1) := by decide +kernel
theorem dL_seen_8 : decode cL_seen 8 = .ok (.iload_n 2, 1) := by decide +kernel
theorem dL_seen_9 : decode cL_seen 9 = .ok (.bipush 11, 2) := by decide +kernel
theorem dL_seen_11 : decode cL_seen 11 = .ok (.if_icmp .ge 17, 3) := by decide +kernel
theorem dL_seen_14 : decode cL_seen 14 = .ok (.aload_n 1, 1) := by decide +kernel
theorem dL_seen_15 : decode cL_seen 15 = .ok (.iload_n 2, 1) := by decide +kernel
theorem dL_seen_16 : decode cL_seen 16 = .ok (.aload_n 0, 1) := by decide +kernel
theorem dL_seen_17 : decode cL_seen 17 = .ok (.iload_n 2, 1) := by decide +kernel
theorem dL_seen_18 : decode cL_seen 18 = .ok (.invokevirtual 47, 3) := by decide +kernel
theorem dL_seen_21 : decode cL_seen 21 = .ok (.iastore, 1) := by decide +kernel
theorem dL_seen_22 : decode cL_seen 22 = .ok (.iinc 2 1, 3) := by decide +kernel
theorem dL_seen_25 : decode cL_seen 25 = .ok (.goto (-17), 3) := by decide +kernel
theorem dL_seen_28 : decode cL_seen 28 = .ok (.iconst 0, 1) := by decide +kernel
theorem dL_seen_29 : decode cL_seen 29 = .ok (.istore_n 2, 1) := by decide +kernel
theorem dL_seen_30 : decode cL_seen 30 = .ok (.iload_n 2, 1) := by decide +kernel
theorem dL_seen_31 : decode cL_seen 31 = .ok (.aload_n 0, 1) := by decide +kernel
theorem dL_seen_32 : decode cL_seen 32 = .ok (.iconst 1, 1) := by decide +kernel
theorem dL_seen_33 : decode cL_seen 33 = .ok (.invokevirtual 47, 3) := by decide +kernel
theorem dL_seen_36 : decode cL_seen 36 = .ok (.if_icmp .ge 102, 3) := by decide +kernel
theorem dL_seen_39 : decode cL_seen 39 = .ok (.iconst 0, 1) := by decide +kernel
theorem dL_seen_40 : decode cL_seen 40 = .ok (.istore_n 3, 1) := by decide +kernel
theorem dL_seen_41 : decode cL_seen 41 = .ok (.iload_n 3, 1) := by decide +kernel
theorem dL_seen_42 : decode cL_seen 42 = .ok (.bipush 11, 2) := by decide +kernel
theorem dL_seen_44 : decode cL_seen 44 = .ok (.if_icmp .ge 26, 3) := by decide +kernel
theorem dL_seen_47 : decode cL_seen 47 = .ok (.aload_n 1, 1) := by decide +kernel
theorem dL_seen_48 : decode cL_seen 48 = .ok (.bipush 12, 2) := by decide +kernel
theorem dL_seen_50 : decode cL_seen 50 = .ok (.bipush 36, 2) := by decide +kernel
theorem dL_seen_52 : decode cL_seen 52 = .ok (.iload_n 2, 1) := by decide +kernel
theorem dL_seen_53 : decode cL_seen 53 = .ok (.imul, 1) := by decide +kernel
theorem dL_seen_54 : decode cL_seen 54 = .ok (.iadd, 1) := by decide +kernel
theorem dL_seen_55 : decode cL_seen 55 = .ok (.iload_n 3, 1) := by decide +kernel
theorem dL_seen_56 : decode cL_seen 56 = .ok (.iadd, 1) := by decide +kernel
theorem dL_seen_57 : decode cL_seen 57 = .ok (.aload_n 0, 1) := by decide +kernel
theorem dL_seen_58 : decode cL_seen 58 = .ok (.iload_n 2, 1) := by decide +kernel
theorem dL_seen_59 : decode cL_seen 59 = .ok (.iload_n 3, 1) := by decide +kernel
theorem dL_seen_60 : decode cL_seen 60 = .ok (.invokevirtual 103, 3) := by decide +kernel
theorem dL_seen_63 : decode cL_seen 63 = .ok (.iastore, 1) := by decide +kernel
theorem dL_seen_64 : decode cL_seen 64 = .ok (.iinc 3 1, 3) := by decide +kernel
theorem dL_seen_67 : decode cL_seen 67 = .ok (.goto (-26), 3) := by decide +kernel
theorem dL_seen_70 : decode cL_seen 70 = .ok (.iconst 1, 1) := by decide +kernel
theorem dL_seen_71 : decode cL_seen 71 = .ok (.istore_n 3, 1) := by decide +kernel
theorem dL_seen_72 : decode cL_seen 72 = .ok (.iload_n 3, 1) := by decide +kernel
theorem dL_seen_73 : decode cL_seen 73 = .ok (.aload_n 0, 1) := by decide +kernel
theorem dL_seen_74 : decode cL_seen 74 = .ok (.iload_n 2, 1) := by decide +kernel
theorem dL_seen_75 : decode cL_seen 75 = .ok (.iconst 5, 1) := by decide +kernel
theorem dL_seen_76 : decode cL_seen 76 = .ok (.invokevirtual 103, 3) := by decide +kernel
theorem dL_seen_79 : decode cL_seen 79 = .ok (.if_icmp .gt 53, 3) := by decide +kernel
theorem dL_seen_82 : decode cL_seen 82 = .ok (.aload_n 1, 1) := by decide +kernel
theorem dL_seen_83 : decode cL_seen 83 = .ok (.bipush 24, 2) := by decide +kernel
theorem dL_seen_85 : decode cL_seen 85 = .ok (.bipush 36, 2) := by decide +kernel
theorem dL_seen_87 : decode cL_seen 87 = .ok (.iload_n 2, 1) := by decide +kernel
theorem dL_seen_88 : decode cL_seen 88 = .ok (.imul, 1) := by decide +kernel
theorem dL_seen_89 : decode cL_seen 89 = .ok (.iadd, 1) := by decide +kernel
theorem dL_seen_90 : decode cL_seen 90 = .ok (.iconst 2, 1) := by decide +kernel
theorem dL_seen_91 : decode cL_seen 91 = .ok (.iload_n 3, 1) := by decide +kernel
theorem dL_seen_92 : decode cL_seen 92 = .ok (.imul, 1) := by decide +kernel
theorem dL_seen_93 : decode cL_seen 93 = .ok (.iadd, 1) := by decide +kernel
theorem dL_seen_94 : decode cL_seen 94 = .ok (.iconst 2, 1) := by decide +kernel
theorem dL_seen_95 : decode cL_seen 95 = .ok (.isub, 1) := by decide +kernel
theorem dL_seen_96 : decode cL_seen 96 = .ok (.aload_n 0, 1) := by decide +kernel
theorem dL_seen_97 : decode cL_seen 97 = .ok (.iload_n 2, 1) := by decide +kernel
theorem dL_seen_98 : decode cL_seen 98 = .ok (.iload_n 3, 1) := by decide +kernel
theorem dL_seen_99 : decode cL_seen 99 = .ok (.iconst 0, 1) := by decide +kernel
theorem dL_seen_100 : decode cL_seen 100 = .ok (.invokevirtual 106, 3) := by decide +kernel
theorem dL_seen_103 : decode cL_seen 103 = .ok (.iastore, 1) := by decide +kernel
theorem dL_seen_104 : decode cL_seen 104 = .ok (.aload_n 1, 1) := by decide +kernel
theorem dL_seen_105 : decode cL_seen 105 = .ok (.bipush 24, 2) := by decide +kernel
theorem dL_seen_107 : decode cL_seen 107 = .ok (.bipush 36, 2) := by decide +kernel
theorem dL_seen_109 : decode cL_seen 109 = .ok (.iload_n 2, 1) := by decide +kernel
theorem dL_seen_110 : decode cL_seen 110 = .ok (.imul, 1) := by decide +kernel
theorem dL_seen_111 : decode cL_seen 111 = .ok (.iadd, 1) := by decide +kernel
theorem dL_seen_112 : decode cL_seen 112 = .ok (.iconst 2, 1) := by decide +kernel
theorem dL_seen_113 : decode cL_seen 113 = .ok (.iload_n 3, 1) := by decide +kernel
theorem dL_seen_114 : decode cL_seen 114 = .ok (.imul, 1) := by decide +kernel
theorem dL_seen_115 : decode cL_seen 115 = .ok (.iadd, 1) := by decide +kernel
theorem dL_seen_116 : decode cL_seen 116 = .ok (.iconst 1, 1) := by decide +kernel
theorem dL_seen_117 : decode cL_seen 117 = .ok (.isub, 1) := by decide +kernel
theorem dL_seen_118 : decode cL_seen 118 = .ok (.aload_n 0, 1) := by decide +kernel
theorem dL_seen_119 : decode cL_seen 119 = .ok (.iload_n 2, 1) := by decide +kernel
theorem dL_seen_120 : decode cL_seen 120 = .ok (.iload_n 3, 1) := by decide +kernel
theorem dL_seen_121 : decode cL_seen 121 = .ok (.iconst 1, 1) := by decide +kernel
theorem dL_seen_122 : decode cL_seen 122 = .ok (.invokevirtual 106, 3) := by decide +kernel
theorem dL_seen_125 : decode cL_seen 125 = .ok (.iastore, 1) := by decide +kernel
theorem dL_seen_126 : decode cL_seen 126 = .ok (.iinc 3 1, 3) := by decide +kernel
theorem dL_seen_129 : decode cL_seen 129 = .ok (.goto (-57), 3) := by decide +kernel
theorem dL_seen_132 : decode cL_seen 132 = .ok (.iinc 2 1, 3) := by decide +kernel
theorem dL_seen_135 : decode cL_seen 135 = .ok (.goto (-105), 3) := by decide +kernel
theorem dL_seen_138 : decode cL_seen 138 = .ok (.aload_n 1, 1) := by decide +kernel
theorem dL_seen_139 : decode cL_seen 139 = .ok (.areturn, 1) := by decide +kernel
theorem dL_areAlike_0 : decode cL_areAlike 0 = .ok (.iconst 0, 1) := by decide +kernel
theorem dL_areAlike_1 : decode cL_areAlike 1 = .ok (.istore_n 2, 1) := by decide +kernel
theorem dL_areAlike_2 : decode cL_areAlike 2 = .ok (.iload_n 2, 1) := by decide +kernel
theorem dL_areAlike_3 : decode cL_areAlike 3 = .ok (.aload_n 0, 1) := by decide +kernel
theorem dL_areAlike_4 : decode cL_areAlike 4 = .ok (.arraylength, 1) := by decide +kernel
theorem dL_areAlike_5 : decode cL_areAlike 5 = .ok (.if_icmp .ge 20, 3) := by decide +kernel
theorem dL_areAlike_8 : decode cL_areAlike 8 = .ok (.aload_n 0, 1) := by decide +kernel
theorem dL_areAlike_9 : decode cL_areAlike 9 = .ok (.iload_n 2, 1) := by decide +kernel
theorem dL_areAlike_10 : decode cL_areAlike 10 = .ok (.iaload, 1) := by decide +kernel
theorem dL_areAlike_11 : decode cL_areAlike 11 = .ok (.aload_n 1, 1) := by decide +kernel
theorem dL_areAlike_12 : decode cL_areAlike 12 = .ok (.iload_n 2, 1) := by decide +kernel
theorem dL_areAlike_13 : decode cL_areAlike 13 = .ok (.iaload, 1) := by decide +kernel
theorem dL_areAlike_14 : decode cL_areAlike 14 = .ok (.if_icmp .eq 5, 3) := by decide +kernel
theorem dL_areAlike_17 : decode cL_areAlike 17 = .ok (.iconst 0, 1) := by decide +kernel
theorem dL_areAlike_18 : decode cL_areAlike 18 = .ok (.ireturn, 1) := by decide +kernel
theorem dL_areAlike_19 : decode cL_areAlike 19 = .ok (.iinc 2 1, 3) := by decide +kernel
theorem dL_areAlike_22 : decode cL_areAlike 22 = .ok (.goto (-20), 3) := by decide +kernel
theorem dL_areAlike_25 : decode cL_areAlike 25 = .ok (.iconst 1, 1) := by decide +kernel
theorem dL_areAlike_26 : decode cL_areAlike 26 = .ok (.ireturn, 1) := by decide +kernel
theorem dL_isWell_0 : decode cL_isWell 0 = .ok (.iconst 0, 1) := by decide +kernel
theorem dL_isWell_1 : decode cL_isWell 1 = .ok (.istore_n 1, 1) := by decide +kernel
theorem dL_isWell_2 : decode cL_isWell 2 = .ok (.iconst 0, 1) := by decide +kernel
theorem dL_isWell_3 : decode cL_isWell 3 = .ok (.istore_n 2, 1) := by decide +kernel
theorem dL_isWell_4 : decode cL_isWell 4 = .ok (.iconst 0, 1) := by decide +kernel
theorem dL_isWell_5 : decode cL_isWell 5 = .ok (.istore_n 3, 1) := by decide +kernel
theorem dL_isWell_6 : decode cL_isWell 6 = .ok (.iconst 0, 1) := by decide +kernel
theorem dL_isWell_7 : decode cL_isWell 7 = .ok (.istore 4, 2) := by decide +kernel
theorem dL_isWell_9 : decode cL_isWell 9 = .ok (.bipush (-4), 2) := by decide +kernel
theorem dL_isWell_11 : decode cL_isWell 11 = .ok (.istore 5, 2) := by decide +kernel
theorem dL_isWell_13 : decode cL_isWell 13 = .ok (.iconst 0, 1) := by decide +kernel
theorem dL_isWell_14 : decode cL_isWell 14 = .ok (.istore 6, 2) := by decide +kernel
theorem dL_isWell_16 : decode cL_isWell 16 = .ok (.iload 6, 2) := by decide +kernel
theorem dL_isWell_18 : decode cL_isWell 18 = .ok (.aload_n 0, 1) := by decide +kernel
theorem dL_isWell_19 : decode cL_isWell 19 = .ok (.iconst 1, 1) := by decide +kernel
theorem dL_isWell_20 : decode cL_isWell 20 = .ok (.invokevirtual 47, 3) := by decide +kernel
theorem dL_isWell_23 : decode cL_isWell 23 = .ok (.if_icmp .ge 398, 3) := by decide +kernel
theorem dL_isWell_26 : decode cL_isWell 26 = .ok (.aload_n 0, 1) := by decide +kernel
theorem dL_isWell_27 : decode cL_isWell 27 = .ok (.iload 6, 2) := by decide +kernel
theorem dL_isWell_29 : decode cL_isWell 29 = .ok (.iconst 0, 1) := by decide +kernel
theorem dL_isWell_30 : decode cL_isWell 30 = .ok (.invokevirtual 103, 3) := by decide +kernel
theorem dL_isWell_33 : decode cL_isWell 33 = .ok (.istore 7, 2) := by decide +kernel
theorem dL_isWell_35 : decode cL_isWell 35 = .ok (.aload_n 0, 1) := by decide +kernel
theorem dL_isWell_36 : decode cL_isWell 36 = .ok (.iload 6, 2) := by decide +kernel
theorem dL_isWell_38 : decode cL_isWell 38 = .ok (.iconst 1, 1) := by decide +kernel
theorem dL_isWell_39 : decode cL_isWell 39 = .ok (.invokevirtual 103, 3) := by decide +kernel
theorem dL_isWell_42 : decode cL_isWell 42 = .ok (.istore 8, 2) := by decide +kernel
theorem dL_isWell_44 : decode cL_isWell 44 = .ok (.iconst 0, 1) := by decide +kernel
theorem dL_isWell_45 : decode cL_isWell 45 = .ok (.istore 9, 2) := by decide +kernel
theorem dL_isWell_47 : decode cL_isWell 47 = .ok (.iload_n 1, 1) := by decide +kernel
