theorem my_83 : Cond.initialized RX8 ∈ TW := tw_of (i := 83) (by decide +kernel) rfl
theorem my_84 : Cond.initialized RX4 ∈ TW := tw_of (i := 84) (by decide +kernel) rfl
theorem my_85 : Cond.initialized RX2 ∈ TW := tw_of (i := 85) (by decide +kernel) rfl
theorem my_86 : Cond.initialized RX3 ∈ TW := tw_of (i := 86) (by decide +kernel) rfl
theorem my_87 : Cond.initialized RX5 ∈ TW := tw_of (i := 87) (by decide +kernel) rfl
theorem my_88 : Cond.initialized RX6 ∈ TW := tw_of (i := 88) (by decide +kernel) rfl
theorem my_89 : Cond.initialized RJ5 ∈ TW := tw_of (i := 89) (by decide +kernel) rfl
theorem my_90 : Cond.initialized RJ4 ∈ TW := tw_of (i := 90) (by decide +kernel) rfl
theorem my_93 : Cond.initialized RX1 ∈ TW := tw_of (i := 93) (by decide +kernel) rfl
theorem my_94 : Cond.initialized RX9 ∈ TW := tw_of (i := 94) (by decide +kernel) rfl
theorem my_105 : Cond.classLink RL 7 RX8 ∈ TW := tw_of (i := 105) (by decide +kernel) rfl
theorem my_106 : Cond.instantiable RX8 9 ∈ TW := tw_of (i := 106) (by decide +kernel) rfl
theorem my_107 : Cond.methodLink RL 9 yX8_init ∈ TW := tw_of (i := 107) (by decide +kernel) rfl
theorem my_108 : Cond.instanceMethod yX8_init ∈ TW := tw_of (i := 108) (by decide +kernel) rfl
theorem my_109 : Cond.code yX8_init cX8_init 1 none ∈ TW := tw_of (i := 109) (by decide +kernel) rfl
theorem my_110 : Cond.methodLink RX8 3 Lib.objectInit ∈ TW := tw_of (i := 110) (by decide +kernel) rfl
theorem my_111 : Cond.instanceMethod Lib.objectInit ∈ TW := tw_of (i := 111) (by decide +kernel) rfl
theorem my_112 : Cond.code Lib.objectInit ⟨#[0xb1]⟩ 1 none ∈ TW := tw_of (i := 112) (by decide +kernel) rfl
theorem my_113 : Cond.classLink RX8 9 RX4 ∈ TW := tw_of (i := 113) (by decide +kernel) rfl
theorem my_114 : Cond.instantiable RX4 10 ∈ TW := tw_of (i := 114) (by decide +kernel) rfl
theorem my_115 : Cond.methodLink RX8 11 yX4_init ∈ TW := tw_of (i := 115) (by decide +kernel) rfl
theorem my_116 : Cond.instanceMethod yX4_init ∈ TW := tw_of (i := 116) (by decide +kernel) rfl
theorem my_117 : Cond.code yX4_init cX4_init 2 none ∈ TW := tw_of (i := 117) (by decide +kernel) rfl
theorem my_118 : Cond.methodLink RX4 3 Lib.objectInit ∈ TW := tw_of (i := 118) (by decide +kernel) rfl
theorem my_119 : Cond.classLink RX4 9 RX2 ∈ TW := tw_of (i := 119) (by decide +kernel) rfl
theorem my_121 : Cond.instantiable RX2 12 ∈ TW := tw_of (i := 121) (by decide +kernel) rfl
theorem my_123 : Cond.instanceMethod yX2_init ∈ TW := tw_of (i := 123) (by decide +kernel) rfl
theorem my_124 : Cond.code yX2_init cX2_init 1 none ∈ TW := tw_of (i := 124) (by decide +kernel) rfl
theorem my_125 : Cond.methodLink RX2 3 Lib.objectInit ∈ TW := tw_of (i := 125) (by decide +kernel) rfl
theorem my_155 : Cond.fieldLink RX2 9 (TX2 10).1 (TX2 10).2.1 (TX2 10).2.2.1 ∈ TW := tw_of (i := 155) (by decide +kernel) rfl
theorem my_157 : Cond.fieldLink RX2 15 (TX2 11).1 (TX2 11).2.1 (TX2 11).2.2.1 ∈ TW := tw_of (i := 157) (by decide +kernel) rfl
theorem my_184 : Cond.arrayClass .boolean ∈ TW := tw_of (i := 184) (by decide +kernel) rfl
theorem my_185 : Cond.arrayClass .int ∈ TW := tw_of (i := 185) (by decide +kernel) rfl
theorem my_186 : Cond.arrayClass .char ∈ TW := tw_of (i := 186) (by decide +kernel) rfl
theorem my_187 : Cond.fieldLink RX4 11 (TX4 0).1 (TX4 0).2.1 (TX4 0).2.2.1 ∈ TW := tw_of (i := 187) (by decide +kernel) rfl
theorem my_189 : Cond.fieldLink RX4 17 (TX4 1).1 (TX4 1).2.1 (TX4 1).2.2.1 ∈ TW := tw_of (i := 189) (by decide +kernel) rfl
theorem my_227 : Cond.classLink RX8 22 RX3 ∈ TW := tw_of (i := 227) (by decide +kernel) rfl
theorem my_228 : Cond.instantiable RX3 3 ∈ TW := tw_of (i := 228) (by decide +kernel) rfl
theorem my_229 : Cond.methodLink RX8 24 yX3_init ∈ TW := tw_of (i := 229) (by decide +kernel) rfl
theorem my_230 : Cond.instanceMethod yX3_init ∈ TW := tw_of (i := 230) (by decide +kernel) rfl
theorem my_231 : Cond.code yX3_init cX3_init 2 none ∈ TW := tw_of (i := 231) (by decide +kernel) rfl
theorem my_232 : Cond.methodLink RX3 3 Lib.objectInit ∈ TW := tw_of (i := 232) (by decide +kernel) rfl
theorem my_233 : Cond.classLink RX3 9 RX4 ∈ TW := tw_of (i := 233) (by decide +kernel) rfl
theorem my_235 : Cond.methodLink RX3 17 yX4_init ∈ TW := tw_of (i := 235) (by decide +kernel) rfl
theorem my_236 : Cond.fieldLink RX3 11 (TX3 0).1 (TX3 0).2.1 (TX3 0).2.2.1 ∈ TW := tw_of (i := 236) (by decide +kernel) rfl
theorem my_247 : Cond.classLink RX8 29 RX5 ∈ TW := tw_of (i := 247) (by decide +kernel) rfl
theorem my_248 : Cond.instantiable RX5 4 ∈ TW := tw_of (i := 248) (by decide +kernel) rfl
theorem my_250 : Cond.instanceMethod yX5_init ∈ TW := tw_of (i := 250) (by decide +kernel) rfl
theorem my_251 : Cond.code yX5_init cX5_init 1 none ∈ TW := tw_of (i := 251) (by decide +kernel) rfl
theorem my_252 : Cond.methodLink RX5 1 Lib.objectInit ∈ TW := tw_of (i := 252) (by decide +kernel) rfl
theorem my_270 : Cond.classLink RX8 36 RX6 ∈ TW := tw_of (i := 270) (by decide +kernel) rfl
theorem my_271 : Cond.instantiable RX6 4 ∈ TW := tw_of (i := 271) (by decide +kernel) rfl
theorem my_272 : Cond.methodLink RX8 38 yX6_init ∈ TW := tw_of (i := 272) (by decide +kernel) rfl
theorem my_273 : Cond.instanceMethod yX6_init ∈ TW := tw_of (i := 273) (by decide +kernel) rfl
theorem my_274 : Cond.code yX6_init cX6_init 2 none ∈ TW := tw_of (i := 274) (by decide +kernel) rfl
theorem my_275 : Cond.methodLink RX6 3 Lib.objectInit ∈ TW := tw_of (i := 275) (by decide +kernel) rfl
theorem my_276 : Cond.classLink RX6 9 RJ4 ∈ TW := tw_of (i := 276) (by decide +kernel) rfl
theorem my_277 : Cond.instantiable RJ4 4 ∈ TW := tw_of (i := 277) (by decide +kernel) rfl
theorem my_278 : Cond.methodLink RX6 11 yJ4_init_da8c8 ∈ TW := tw_of (i := 278) (by decide +kernel) rfl
theorem my_279 : Cond.instanceMethod yJ4_init_da8c8 ∈ TW := tw_of (i := 279) (by decide +kernel) rfl
theorem my_280 : Cond.code yJ4_init_da8c8 cJ4_init_da8c8 1 none ∈ TW := tw_of (i := 280) (by decide +kernel) rfl
theorem my_281 : Cond.methodLink RJ4 1 yJ5_init_d00df ∈ TW := tw_of (i := 281) (by decide +kernel) rfl
theorem my_282 : Cond.instanceMethod yJ5_init_d00df ∈ TW := tw_of (i := 282) (by decide +kernel) rfl
theorem my_283 : Cond.code yJ5_init_d00df cJ5_init_d00df 2 none ∈ TW := tw_of (i := 283) (by decide +kernel) rfl
theorem my_284 : Cond.methodLink RJ5 3 Lib.objectInit ∈ TW := tw_of (i := 284) (by decide +kernel) rfl
theorem my_285 : Cond.fieldLink RJ5 18 "java/lang/String" "COMPACT_STRINGS" "Z" ∈ TW := tw_of (i := 285) (by decide +kernel) rfl
theorem my_294 : Cond.fieldLink RJ5 15 (TJ4 0).1 (TJ4 0).2.1 (TJ4 0).2.2.1 ∈ TW := tw_of (i := 294) (by decide +kernel) rfl
theorem my_295 : Cond.fieldLink RJ5 22 (TJ4 1).1 (TJ4 1).2.1 (TJ4 1).2.2.1 ∈ TW := tw_of (i := 295) (by decide +kernel) rfl
theorem my_307 : Cond.arrayClass .byte ∈ TW := tw_of (i := 307) (by decide +kernel) rfl
theorem my_308 : Cond.classLink RX6 18 RX1 ∈ TW := tw_of (i := 308) (by decide +kernel) rfl
theorem my_310 : Cond.instantiable RX1 3 ∈ TW := tw_of (i := 310) (by decide +kernel) rfl
theorem my_312 : Cond.instanceMethod yX1_init ∈ TW := tw_of (i := 312) (by decide +kernel) rfl
theorem my_313 : Cond.code yX1_init cX1_init 1 none ∈ TW := tw_of (i := 313) (by decide +kernel) rfl
theorem my_314 : Cond.methodLink RX1 1 Lib.objectInit ∈ TW := tw_of (i := 314) (by decide +kernel) rfl
theorem my_328 : Cond.fieldLink RX6 12 (TX6 0).1 (TX6 0).2.1 (TX6 0).2.2.1 ∈ TW := tw_of (i := 328) (by decide +kernel) rfl
theorem my_329 : Cond.fieldLink RX6 20 (TX6 1).1 (TX6 1).2.1 (TX6 1).2.2.1 ∈ TW := tw_of (i := 329) (by decide +kernel) rfl
theorem my_344 : Cond.classLink RX8 43 RJ4 ∈ TW := tw_of (i := 344) (by decide +kernel) rfl
theorem my_345 : Cond.methodLink RX8 45 yJ4_init_da8c8 ∈ TW := tw_of (i := 345) (by decide +kernel) rfl
theorem my_346 : Cond.fieldLink RX8 12 (TX8 0).1 (TX8 0).2.1 (TX8 0).2.2.1 ∈ TW := tw_of (i := 346) (by decide +kernel) rfl
theorem my_347 : Cond.fieldLink RX8 16 (TX8 1).1 (TX8 1).2.1 (TX8 1).2.2.1 ∈ TW := tw_of (i := 347) (by decide +kernel) rfl
theorem my_348 : Cond.fieldLink RX8 19 (TX8 2).1 (TX8 2).2.1 (TX8 2).2.2.1 ∈ TW := tw_of (i := 348) (by decide +kernel) rfl
theorem my_349 : Cond.fieldLink RX8 25 (TX8 3).1 (TX8 3).2.1 (TX8 3).2.2.1 ∈ TW := tw_of (i := 349) (by decide +kernel) rfl
theorem my_350 : Cond.fieldLink RX8 32 (TX8 4).1 (TX8 4).2.1 (TX8 4).2.2.1 ∈ TW := tw_of (i := 350) (by decide +kernel) rfl
theorem my_351 : Cond.fieldLink RX8 39 (TX8 5).1 (TX8 5).2.1 (TX8 5).2.2.1 ∈ TW := tw_of (i := 351) (by decide +kernel) rfl
theorem my_352 : Cond.fieldLink RX8 46 (TX8 6).1 (TX8 6).2.1 (TX8 6).2.2.1 ∈ TW := tw_of (i := 352) (by decide +kernel) rfl
theorem my_354 : Cond.fieldLink RX8 50 (TX8 8).1 (TX8 8).2.1 (TX8 8).2.2.1 ∈ TW := tw_of (i := 354) (by decide +kernel) rfl
theorem my_1076 : Cond.classLink RL 10 RX9 ∈ TW := tw_of (i := 1076) (by decide +kernel) rfl
theorem my_1077 : Cond.instantiable RX9 20 ∈ TW := tw_of (i := 1077) (by decide +kernel) rfl
theorem my_1078 : Cond.methodLink RL 12 yX9_init ∈ TW := tw_of (i := 1078) (by decide +kernel) rfl
theorem my_1079 : Cond.instanceMethod yX9_init ∈ TW := tw_of (i := 1079) (by decide +kernel) rfl
theorem my_1080 : Cond.code yX9_init cX9_init 1 none ∈ TW := tw_of (i := 1080) (by decide +kernel) rfl
theorem my_1081 : Cond.methodLink RX9 3 Lib.objectInit ∈ TW := tw_of (i := 1081) (by decide +kernel) rfl
theorem my_1082 : Cond.fieldLink RX9 9 (TX9 0).1 (TX9 0).2.1 (TX9 0).2.2.1 ∈ TW := tw_of (i := 1082) (by decide +kernel) rfl
theorem my_1083 : Cond.fieldLink RX9 13 (TX9 1).1 (TX9 1).2.1 (TX9 1).2.2.1 ∈ TW := tw_of (i := 1083) (by decide +kernel) rfl
theorem my_1084 : Cond.fieldLink RX9 16 (TX9 2).1 (TX9 2).2.1 (TX9 2).2.2.1 ∈ TW := tw_of (i := 1084) (by decide +kernel) rfl
theorem my_1085 : Cond.fieldLink RX9 19 (TX9 3).1 (TX9 3).2.1 (TX9 3).2.2.1 ∈ TW := tw_of (i := 1085) (by decide +kernel) rfl
theorem my_1086 : Cond.fieldLink RX9 22 (TX9 4).1 (TX9 4).2.1 (TX9 4).2.2.1 ∈ TW := tw_of (i := 1086) (by decide +kernel) rfl
theorem my_1092 : Cond.fieldLink RX9 25 (TX9 10).1 (TX9 10).2.1 (TX9 10).2.2.1 ∈ TW := tw_of (i := 1092) (by decide +kernel) rfl
theorem my_1094 : Cond.fieldLink RX9 29 (TX9 12).1 (TX9 12).2.1 (TX9 12).2.2.1 ∈ TW := tw_of (i := 1094) (by decide +kernel) rfl
theorem my_1095 : Cond.fieldLink RX9 32 (TX9 13).1 (TX9 13).2.1 (TX9 13).2.2.1 ∈ TW := tw_of (i := 1095) (by decide +kernel) rfl
theorem my_1100 : Cond.fieldLink RX9 35 (TX9 18).1 (TX9 18).2.1 (TX9 18).2.2.1 ∈ TW := tw_of (i := 1100) (by decide +kernel) rfl
theorem uiz_X2 : ∀ w ∈ u_ws RX2 TX2 12, w ∈ TW := by decide +kernel
theorem fd_X2_9 : FLd RX2 9 2 10 true (.array .int) := ⟨RX2, TX2, 12, tyX2, rfl, by decide, my_155, uiz_X2, tyX2_ok, nmX2, rfl, by decide +kernel, rfl⟩
theorem fd_X2_15 : FLd RX2 15 2 11 true (.array .char) := ⟨RX2, TX2, 12, tyX2, rfl, by decide, my_157, uiz_X2, tyX2_ok, nmX2, rfl, by decide +kernel, rfl⟩
theorem uiz_J4 : ∀ w ∈ u_ws RJ4 TJ4 4, w ∈ TW := by decide +kernel
theorem fd_J5_15 : FLd RJ5 15 0 0 false (.array .byte) := ⟨RJ4, TJ4, 4, tyJ4, rfl, by decide, my_294, uiz_J4, tyJ4_ok, nmJ4, rfl, by decide +kernel, rfl⟩
theorem fd_J5_22 : FLd RJ5 22 0 1 false .byte := ⟨RJ4, TJ4, 4, tyJ4, rfl, by decide, my_295, uiz_J4, tyJ4_ok, nmJ4, rfl, by decide +kernel, rfl⟩
theorem mi_J4_1 : MI RJ4 1 yJ5_init_d00df cJ5_init_d00df 2 1 := ⟨gi_cons my_281 (gi_cons my_282 (gi_cons my_89 (gi_cons my_283 tw_good))), rfl, by decide +kernel⟩
theorem uiz_X4 : ∀ w ∈ u_ws RX4 TX4 10, w ∈ TW := by decide +kernel
theorem fd_X4_11 : FLd RX4 11 4 0 true (.array (.object "LogRaft$Driver")) := ⟨RX4, TX4, 10, tyX4, rfl, by decide, my_187, uiz_X4, tyX4_ok, nmX4, rfl, by decide +kernel, rfl⟩
theorem mn_X2_init : MN yX2_init cX2_init 1 0 := ⟨gi_cons my_123 (gi_cons my_85 (gi_cons my_124 tw_good)), rfl, by decide +kernel⟩
theorem nw_X4_9 : NW RX4 9 2 12 [.int 0, .int 0, .int 0, .int 0, .int 0, .int 0, .int 0, .int 0, .int 0, .int 0, .null, .null] := ⟨RX2, TX2, tyX2, rfl, my_119, my_121, my_85, uiz_X2, tyX2_ok, by decide +kernel, by decide⟩
theorem fd_X4_17 : FLd RX4 17 4 1 true (.array .boolean) := ⟨RX4, TX4, 10, tyX4, rfl, by decide, my_189, uiz_X4, tyX4_ok, nmX4, rfl, by decide +kernel, rfl⟩
theorem uiz_X3 : ∀ w ∈ u_ws RX3 TX3 3, w ∈ TW := by decide +kernel
theorem fd_X3_11 : FLd RX3 11 3 0 true (.array (.object "LogRaft$Raft")) := ⟨RX3, TX3, 3, tyX3, rfl, by decide, my_236, uiz_X3, tyX3_ok, nmX3, rfl, by decide +kernel, rfl⟩
theorem mi_X3_17 : MI RX3 17 yX4_init cX4_init 2 0 := ⟨gi_cons my_235 (gi_cons my_116 (gi_cons my_84 (gi_cons my_117 tw_good))), rfl, by decide +kernel⟩
theorem nw_X3_9 : NW RX3 9 4 10 [.null, .null, .int 0, .int 0, .int 0, .int 0, .int 0, .int 0, .int 0, .int 0] := ⟨RX4, TX4, tyX4, rfl, my_233, my_114, my_84, uiz_X4, tyX4_ok, by decide +kernel, by decide⟩
theorem uiz_X6 : ∀ w ∈ u_ws RX6 TX6 4, w ∈ TW := by decide +kernel
theorem fd_X6_20 : FLd RX6 20 6 1 true (.array (.object "LogRaft$Command")) := ⟨RX6, TX6, 4, tyX6, rfl, by decide, my_329, uiz_X6, tyX6_ok, nmX6, rfl, by decide +kernel, rfl⟩
theorem mn_X1_init : MN yX1_init cX1_init 1 0 := ⟨gi_cons my_312 (gi_cons my_93 (gi_cons my_313 tw_good)), rfl, by decide +kernel⟩
theorem uiz_X1 : ∀ w ∈ u_ws RX1 TX1 3, w ∈ TW := by decide +kernel
theorem nw_X6_18 : NW RX6 18 1 3 [.null, .int 0, .int 0] := ⟨RX1, TX1, tyX1, rfl, my_308, my_310, my_93, uiz_X1, tyX1_ok, by decide +kernel, by decide⟩
theorem fd_X6_12 : FLd RX6 12 6 0 true (.object "java/lang/StringBuilder") := ⟨RX6, TX6, 4, tyX6, rfl, by decide, my_328, uiz_X6, tyX6_ok, nmX6, rfl, by decide +kernel, rfl⟩
theorem nw_X6_9 : NW RX6 9 0 4 [.null, .int 0, .int 0, .int 0] := ⟨RJ4, TJ4, tyJ4, rfl, my_276, my_277, my_90, uiz_J4, tyJ4_ok, by decide +kernel, by decide⟩
theorem mi_X6_11 : MI RX6 11 yJ4_init_da8c8 cJ4_init_da8c8 1 0 := ⟨gi_cons my_278 (gi_cons my_279 (gi_cons my_90 (gi_cons my_280 tw_good))), rfl, by decide +kernel⟩
theorem uiz_X9 : ∀ w ∈ u_ws RX9 TX9 20, w ∈ TW := by decide +kernel
theorem fd_X9_9 : FLd RX9 9 8 0 true (.array .int) := ⟨RX9, TX9, 20, tyX9, rfl, by decide, my_1082, uiz_X9, tyX9_ok, nmX9, rfl, by decide +kernel, rfl⟩
theorem fd_X9_13 : FLd RX9 13 8 1 true (.array .int) := ⟨RX9, TX9, 20, tyX9, rfl, by decide, my_1083, uiz_X9, tyX9_ok, nmX9, rfl, by decide +kernel, rfl⟩
theorem fd_X9_16 : FLd RX9 16 8 2 true (.array .int) := ⟨RX9, TX9, 20, tyX9, rfl, by decide, my_1084, uiz_X9, tyX9_ok, nmX9, rfl, by decide +kernel, rfl⟩
theorem fd_X9_19 : FLd RX9 19 8 3 true (.array .int) := ⟨RX9, TX9, 20, tyX9, rfl, by decide, my_1085, uiz_X9, tyX9_ok, nmX9, rfl, by decide +kernel, rfl⟩
theorem fd_X9_22 : FLd RX9 22 8 4 true (.array .int) := ⟨RX9, TX9, 20, tyX9, rfl, by decide, my_1086, uiz_X9, tyX9_ok, nmX9, rfl, by decide +kernel, rfl⟩
theorem fd_X9_25 : FLd RX9 25 8 10 false .int := ⟨RX9, TX9, 20, tyX9, rfl, by decide, my_1092, uiz_X9, tyX9_ok, nmX9, rfl, by decide +kernel, rfl⟩
theorem fd_X9_29 : FLd RX9 29 8 12 true (.array .int) := ⟨RX9, TX9, 20, tyX9, rfl, by decide, my_1094, uiz_X9, tyX9_ok, nmX9, rfl, by decide +kernel, rfl⟩
theorem fd_X9_32 : FLd RX9 32 8 13 true (.array .int) := ⟨RX9, TX9, 20, tyX9, rfl, by decide, my_1095, uiz_X9, tyX9_ok, nmX9, rfl, by decide +kernel, rfl⟩
theorem fd_X9_35 : FLd RX9 35 8 18 true (.array .int) := ⟨RX9, TX9, 20, tyX9, rfl, by decide, my_1100, uiz_X9, tyX9_ok, nmX9, rfl, by decide +kernel, rfl⟩
theorem nw_X8_9 : NW RX8 9 4 10 [.null, .null, .int 0, .int 0, .int 0, .int 0, .int 0, .int 0, .int 0, .int 0] := ⟨RX4, TX4, tyX4, rfl, my_113, my_114, my_84, uiz_X4, tyX4_ok, by decide +kernel, by decide⟩
theorem mi_X8_11 : MI RX8 11 yX4_init cX4_init 2 0 := ⟨gi_cons my_115 (gi_cons my_116 (gi_cons my_84 (gi_cons my_117 tw_good))), rfl, by decide +kernel⟩
theorem uiz_X8 : ∀ w ∈ u_ws RX8 TX8 9, w ∈ TW := by decide +kernel
theorem fd_X8_12 : FLd RX8 12 7 0 true (.object "LogRaft$Raft") := ⟨RX8, TX8, 9, tyX8, rfl, by decide, my_346, uiz_X8, tyX8_ok, nmX8, rfl, by decide +kernel, rfl⟩
theorem fd_X8_16 : FLd RX8 16 7 1 true (.object "LogRaft$Raft") := ⟨RX8, TX8, 9, tyX8, rfl, by decide, my_347, uiz_X8, tyX8_ok, nmX8, rfl, by decide +kernel, rfl⟩
theorem fd_X8_19 : FLd RX8 19 7 2 true (.object "LogRaft$Raft") := ⟨RX8, TX8, 9, tyX8, rfl, by decide, my_348, uiz_X8, tyX8_ok, nmX8, rfl, by decide +kernel, rfl⟩
theorem nw_X8_22 : NW RX8 22 3 3 [.null, .int 0, .int 0] := ⟨RX3, TX3, tyX3, rfl, my_227, my_228, my_86, uiz_X3, tyX3_ok, by decide +kernel, by decide⟩
theorem mi_X8_24 : MI RX8 24 yX3_init cX3_init 2 0 := ⟨gi_cons my_229 (gi_cons my_230 (gi_cons my_86 (gi_cons my_231 tw_good))), rfl, by decide +kernel⟩
theorem fd_X8_25 : FLd RX8 25 7 3 true (.object "LogRaft$Past") := ⟨RX8, TX8, 9, tyX8, rfl, by decide, my_349, uiz_X8, tyX8_ok, nmX8, rfl, by decide +kernel, rfl⟩
theorem uiz_X5 : ∀ w ∈ u_ws RX5 TX5 4, w ∈ TW := by decide +kernel
theorem nw_X8_29 : NW RX8 29 5 4 [.int 0, .int 0, .int 0, .int 0] := ⟨RX5, TX5, tyX5, rfl, my_247, my_248, my_87, uiz_X5, tyX5_ok, by decide +kernel, by decide⟩
theorem mn_X5_init : MN yX5_init cX5_init 1 0 := ⟨gi_cons my_250 (gi_cons my_87 (gi_cons my_251 tw_good)), rfl, by decide +kernel⟩
theorem fd_X8_32 : FLd RX8 32 7 4 true (.object "LogRaft$Reasons") := ⟨RX8, TX8, 9, tyX8, rfl, by decide, my_350, uiz_X8, tyX8_ok, nmX8, rfl, by decide +kernel, rfl⟩
theorem nw_X8_36 : NW RX8 36 6 4 [.null, .null, .int 0, .int 0] := ⟨RX6, TX6, tyX6, rfl, my_270, my_271, my_88, uiz_X6, tyX6_ok, by decide +kernel, by decide⟩
theorem mi_X8_38 : MI RX8 38 yX6_init cX6_init 2 0 := ⟨gi_cons my_272 (gi_cons my_273 (gi_cons my_88 (gi_cons my_274 tw_good))), rfl, by decide +kernel⟩
theorem fd_X8_39 : FLd RX8 39 7 5 true (.object "LogRaft$Text") := ⟨RX8, TX8, 9, tyX8, rfl, by decide, my_351, uiz_X8, tyX8_ok, nmX8, rfl, by decide +kernel, rfl⟩
theorem nw_X8_43 : NW RX8 43 0 4 [.null, .int 0, .int 0, .int 0] := ⟨RJ4, TJ4, tyJ4, rfl, my_344, my_277, my_90, uiz_J4, tyJ4_ok, by decide +kernel, by decide⟩
theorem mi_X8_45 : MI RX8 45 yJ4_init_da8c8 cJ4_init_da8c8 1 0 := ⟨gi_cons my_345 (gi_cons my_279 (gi_cons my_90 (gi_cons my_280 tw_good))), rfl, by decide +kernel⟩
theorem fd_X8_46 : FLd RX8 46 7 6 true (.object "java/lang/StringBuilder") := ⟨RX8, TX8, 9, tyX8, rfl, by decide, my_352, uiz_X8, tyX8_ok, nmX8, rfl, by decide +kernel, rfl⟩
theorem fd_X8_50 : FLd RX8 50 7 8 false .int := ⟨RX8, TX8, 9, tyX8, rfl, by decide, my_354, uiz_X8, tyX8_ok, nmX8, rfl, by decide +kernel, rfl⟩
theorem nw_L_7 : NW RL 7 7 9 [.null, .null, .null, .null, .null, .null, .null, .int 0, .int 0] := ⟨RX8, TX8, tyX8, rfl, my_105, my_106, my_83, uiz_X8, tyX8_ok, by decide +kernel, by decide⟩
theorem mi_L_9 : MI RL 9 yX8_init cX8_init 1 0 := ⟨gi_cons my_107 (gi_cons my_108 (gi_cons my_83 (gi_cons my_109 tw_good))), rfl, by decide +kernel⟩
theorem nw_L_10 : NW RL 10 8 20 [.null, .null, .null, .null, .null, .int 0, .int 0, .int 0, .int 0, .int 0, .int 0, .int 0, .null, .null, .int 0, .int 0, .int 0, .int 0, .null, .int 0] := ⟨RX9, TX9, tyX9, rfl, my_1076, my_1077, my_94, uiz_X9, tyX9_ok, by decide +kernel, by decide⟩
theorem mi_L_12 : MI RL 12 yX9_init cX9_init 1 0 := ⟨gi_cons my_1078 (gi_cons my_1079 (gi_cons my_94 (gi_cons my_1080 tw_good))), rfl, by decide +kernel⟩
