theorem my_26 : Cond.initialized RX8 ∈ TW := tw_of (i := 26) (by decide +kernel) rfl
theorem my_27 : Cond.initialized RX4 ∈ TW := tw_of (i := 27) (by decide +kernel) rfl
theorem my_28 : Cond.initialized RX2 ∈ TW := tw_of (i := 28) (by decide +kernel) rfl
theorem my_29 : Cond.initialized RX3 ∈ TW := tw_of (i := 29) (by decide +kernel) rfl
theorem my_30 : Cond.initialized RX5 ∈ TW := tw_of (i := 30) (by decide +kernel) rfl
theorem my_31 : Cond.initialized RX6 ∈ TW := tw_of (i := 31) (by decide +kernel) rfl
theorem my_32 : Cond.initialized RJ5 ∈ TW := tw_of (i := 32) (by decide +kernel) rfl
theorem my_33 : Cond.initialized RJ4 ∈ TW := tw_of (i := 33) (by decide +kernel) rfl
theorem my_36 : Cond.initialized RX1 ∈ TW := tw_of (i := 36) (by decide +kernel) rfl
theorem my_56 : Cond.instantiable RX8 9 ∈ TW := tw_of (i := 56) (by decide +kernel) rfl
theorem my_117 : Cond.instantiable RX4 10 ∈ TW := tw_of (i := 117) (by decide +kernel) rfl
theorem my_331 : Cond.classLink RL 27 RX8 ∈ TW := tw_of (i := 331) (by decide +kernel) rfl
theorem my_332 : Cond.methodLink RL 35 yX8_init ∈ TW := tw_of (i := 332) (by decide +kernel) rfl
theorem my_333 : Cond.instanceMethod yX8_init ∈ TW := tw_of (i := 333) (by decide +kernel) rfl
theorem my_334 : Cond.code yX8_init cX8_init 1 none ∈ TW := tw_of (i := 334) (by decide +kernel) rfl
theorem my_335 : Cond.methodLink RX8 3 Lib.objectInit ∈ TW := tw_of (i := 335) (by decide +kernel) rfl
theorem my_336 : Cond.instanceMethod Lib.objectInit ∈ TW := tw_of (i := 336) (by decide +kernel) rfl
theorem my_337 : Cond.code Lib.objectInit ⟨#[0xb1]⟩ 1 none ∈ TW := tw_of (i := 337) (by decide +kernel) rfl
theorem my_338 : Cond.classLink RX8 9 RX4 ∈ TW := tw_of (i := 338) (by decide +kernel) rfl
theorem my_339 : Cond.methodLink RX8 11 yX4_init ∈ TW := tw_of (i := 339) (by decide +kernel) rfl
theorem my_340 : Cond.instanceMethod yX4_init ∈ TW := tw_of (i := 340) (by decide +kernel) rfl
theorem my_341 : Cond.code yX4_init cX4_init 2 none ∈ TW := tw_of (i := 341) (by decide +kernel) rfl
theorem my_342 : Cond.methodLink RX4 3 Lib.objectInit ∈ TW := tw_of (i := 342) (by decide +kernel) rfl
theorem my_343 : Cond.classLink RX4 9 RX2 ∈ TW := tw_of (i := 343) (by decide +kernel) rfl
theorem my_345 : Cond.instantiable RX2 12 ∈ TW := tw_of (i := 345) (by decide +kernel) rfl
theorem my_347 : Cond.instanceMethod yX2_init ∈ TW := tw_of (i := 347) (by decide +kernel) rfl
theorem my_348 : Cond.code yX2_init cX2_init 1 none ∈ TW := tw_of (i := 348) (by decide +kernel) rfl
theorem my_349 : Cond.methodLink RX2 3 Lib.objectInit ∈ TW := tw_of (i := 349) (by decide +kernel) rfl
theorem my_378 : Cond.fieldLink RX2 9 (TX2 10).1 (TX2 10).2.1 (TX2 10).2.2.1 ∈ TW := tw_of (i := 378) (by decide +kernel) rfl
theorem my_380 : Cond.fieldLink RX2 15 (TX2 11).1 (TX2 11).2.1 (TX2 11).2.2.1 ∈ TW := tw_of (i := 380) (by decide +kernel) rfl
theorem my_407 : Cond.arrayClass .boolean ∈ TW := tw_of (i := 407) (by decide +kernel) rfl
theorem my_408 : Cond.arrayClass .int ∈ TW := tw_of (i := 408) (by decide +kernel) rfl
theorem my_409 : Cond.arrayClass .char ∈ TW := tw_of (i := 409) (by decide +kernel) rfl
theorem my_410 : Cond.fieldLink RX4 11 (TX4 0).1 (TX4 0).2.1 (TX4 0).2.2.1 ∈ TW := tw_of (i := 410) (by decide +kernel) rfl
theorem my_412 : Cond.fieldLink RX4 17 (TX4 1).1 (TX4 1).2.1 (TX4 1).2.2.1 ∈ TW := tw_of (i := 412) (by decide +kernel) rfl
theorem my_450 : Cond.classLink RX8 22 RX3 ∈ TW := tw_of (i := 450) (by decide +kernel) rfl
theorem my_451 : Cond.instantiable RX3 3 ∈ TW := tw_of (i := 451) (by decide +kernel) rfl
theorem my_452 : Cond.methodLink RX8 24 yX3_init ∈ TW := tw_of (i := 452) (by decide +kernel) rfl
theorem my_453 : Cond.instanceMethod yX3_init ∈ TW := tw_of (i := 453) (by decide +kernel) rfl
theorem my_454 : Cond.code yX3_init cX3_init 2 none ∈ TW := tw_of (i := 454) (by decide +kernel) rfl
theorem my_455 : Cond.methodLink RX3 3 Lib.objectInit ∈ TW := tw_of (i := 455) (by decide +kernel) rfl
theorem my_456 : Cond.classLink RX3 9 RX4 ∈ TW := tw_of (i := 456) (by decide +kernel) rfl
theorem my_458 : Cond.methodLink RX3 17 yX4_init ∈ TW := tw_of (i := 458) (by decide +kernel) rfl
theorem my_459 : Cond.fieldLink RX3 11 (TX3 0).1 (TX3 0).2.1 (TX3 0).2.2.1 ∈ TW := tw_of (i := 459) (by decide +kernel) rfl
theorem my_470 : Cond.classLink RX8 29 RX5 ∈ TW := tw_of (i := 470) (by decide +kernel) rfl
theorem my_471 : Cond.instantiable RX5 4 ∈ TW := tw_of (i := 471) (by decide +kernel) rfl
theorem my_473 : Cond.instanceMethod yX5_init ∈ TW := tw_of (i := 473) (by decide +kernel) rfl
theorem my_474 : Cond.code yX5_init cX5_init 1 none ∈ TW := tw_of (i := 474) (by decide +kernel) rfl
theorem my_475 : Cond.methodLink RX5 1 Lib.objectInit ∈ TW := tw_of (i := 475) (by decide +kernel) rfl
theorem my_489 : Cond.classLink RX8 36 RX6 ∈ TW := tw_of (i := 489) (by decide +kernel) rfl
theorem my_490 : Cond.instantiable RX6 4 ∈ TW := tw_of (i := 490) (by decide +kernel) rfl
theorem my_491 : Cond.methodLink RX8 38 yX6_init ∈ TW := tw_of (i := 491) (by decide +kernel) rfl
theorem my_492 : Cond.instanceMethod yX6_init ∈ TW := tw_of (i := 492) (by decide +kernel) rfl
theorem my_493 : Cond.code yX6_init cX6_init 2 none ∈ TW := tw_of (i := 493) (by decide +kernel) rfl
theorem my_494 : Cond.methodLink RX6 3 Lib.objectInit ∈ TW := tw_of (i := 494) (by decide +kernel) rfl
theorem my_495 : Cond.classLink RX6 9 RJ4 ∈ TW := tw_of (i := 495) (by decide +kernel) rfl
theorem my_496 : Cond.instantiable RJ4 4 ∈ TW := tw_of (i := 496) (by decide +kernel) rfl
theorem my_497 : Cond.methodLink RX6 11 yJ4_init_da8c8 ∈ TW := tw_of (i := 497) (by decide +kernel) rfl
theorem my_498 : Cond.instanceMethod yJ4_init_da8c8 ∈ TW := tw_of (i := 498) (by decide +kernel) rfl
theorem my_499 : Cond.code yJ4_init_da8c8 cJ4_init_da8c8 1 none ∈ TW := tw_of (i := 499) (by decide +kernel) rfl
theorem my_500 : Cond.methodLink RJ4 1 yJ5_init_d00df ∈ TW := tw_of (i := 500) (by decide +kernel) rfl
theorem my_501 : Cond.instanceMethod yJ5_init_d00df ∈ TW := tw_of (i := 501) (by decide +kernel) rfl
theorem my_502 : Cond.code yJ5_init_d00df cJ5_init_d00df 2 none ∈ TW := tw_of (i := 502) (by decide +kernel) rfl
theorem my_503 : Cond.methodLink RJ5 3 Lib.objectInit ∈ TW := tw_of (i := 503) (by decide +kernel) rfl
theorem my_504 : Cond.fieldLink RJ5 18 "java/lang/String" "COMPACT_STRINGS" "Z" ∈ TW := tw_of (i := 504) (by decide +kernel) rfl
theorem my_513 : Cond.fieldLink RJ5 15 (TJ4 0).1 (TJ4 0).2.1 (TJ4 0).2.2.1 ∈ TW := tw_of (i := 513) (by decide +kernel) rfl
theorem my_514 : Cond.fieldLink RJ5 22 (TJ4 1).1 (TJ4 1).2.1 (TJ4 1).2.2.1 ∈ TW := tw_of (i := 514) (by decide +kernel) rfl
theorem my_526 : Cond.arrayClass .byte ∈ TW := tw_of (i := 526) (by decide +kernel) rfl
theorem my_527 : Cond.classLink RX6 18 RX1 ∈ TW := tw_of (i := 527) (by decide +kernel) rfl
theorem my_529 : Cond.instantiable RX1 3 ∈ TW := tw_of (i := 529) (by decide +kernel) rfl
theorem my_531 : Cond.instanceMethod yX1_init ∈ TW := tw_of (i := 531) (by decide +kernel) rfl
theorem my_532 : Cond.code yX1_init cX1_init 1 none ∈ TW := tw_of (i := 532) (by decide +kernel) rfl
theorem my_533 : Cond.methodLink RX1 1 Lib.objectInit ∈ TW := tw_of (i := 533) (by decide +kernel) rfl
theorem my_547 : Cond.fieldLink RX6 12 (TX6 0).1 (TX6 0).2.1 (TX6 0).2.2.1 ∈ TW := tw_of (i := 547) (by decide +kernel) rfl
theorem my_548 : Cond.fieldLink RX6 20 (TX6 1).1 (TX6 1).2.1 (TX6 1).2.2.1 ∈ TW := tw_of (i := 548) (by decide +kernel) rfl
theorem my_563 : Cond.classLink RX8 43 RJ4 ∈ TW := tw_of (i := 563) (by decide +kernel) rfl
theorem my_564 : Cond.methodLink RX8 45 yJ4_init_da8c8 ∈ TW := tw_of (i := 564) (by decide +kernel) rfl
theorem my_565 : Cond.fieldLink RX8 12 (TX8 0).1 (TX8 0).2.1 (TX8 0).2.2.1 ∈ TW := tw_of (i := 565) (by decide +kernel) rfl
theorem my_566 : Cond.fieldLink RX8 16 (TX8 1).1 (TX8 1).2.1 (TX8 1).2.2.1 ∈ TW := tw_of (i := 566) (by decide +kernel) rfl
theorem my_567 : Cond.fieldLink RX8 19 (TX8 2).1 (TX8 2).2.1 (TX8 2).2.2.1 ∈ TW := tw_of (i := 567) (by decide +kernel) rfl
theorem my_568 : Cond.fieldLink RX8 25 (TX8 3).1 (TX8 3).2.1 (TX8 3).2.2.1 ∈ TW := tw_of (i := 568) (by decide +kernel) rfl
theorem my_569 : Cond.fieldLink RX8 32 (TX8 4).1 (TX8 4).2.1 (TX8 4).2.2.1 ∈ TW := tw_of (i := 569) (by decide +kernel) rfl
theorem my_570 : Cond.fieldLink RX8 39 (TX8 5).1 (TX8 5).2.1 (TX8 5).2.2.1 ∈ TW := tw_of (i := 570) (by decide +kernel) rfl
theorem my_571 : Cond.fieldLink RX8 46 (TX8 6).1 (TX8 6).2.1 (TX8 6).2.2.1 ∈ TW := tw_of (i := 571) (by decide +kernel) rfl
theorem my_573 : Cond.fieldLink RX8 50 (TX8 8).1 (TX8 8).2.1 (TX8 8).2.2.1 ∈ TW := tw_of (i := 573) (by decide +kernel) rfl
theorem my_637 : Cond.classLink RL 76 RJ4 ∈ TW := tw_of (i := 637) (by decide +kernel) rfl
theorem my_638 : Cond.methodLink RL 78 yJ4_init_da8c8 ∈ TW := tw_of (i := 638) (by decide +kernel) rfl
theorem uiz_X2 : ∀ w ∈ u_ws RX2 TX2 12, w ∈ TW := by decide +kernel
theorem fd_X2_9 : FLd RX2 9 2 10 true (.array .int) := ⟨RX2, TX2, 12, tyX2, rfl, by decide, my_378, uiz_X2, tyX2_ok, nmX2, rfl, by decide +kernel, rfl⟩
theorem fd_X2_15 : FLd RX2 15 2 11 true (.array .char) := ⟨RX2, TX2, 12, tyX2, rfl, by decide, my_380, uiz_X2, tyX2_ok, nmX2, rfl, by decide +kernel, rfl⟩
theorem uiz_J4 : ∀ w ∈ u_ws RJ4 TJ4 4, w ∈ TW := by decide +kernel
theorem fd_J5_15 : FLd RJ5 15 0 0 false (.array .byte) := ⟨RJ4, TJ4, 4, tyJ4, rfl, by decide, my_513, uiz_J4, tyJ4_ok, nmJ4, rfl, by decide +kernel, rfl⟩
theorem fd_J5_22 : FLd RJ5 22 0 1 false .byte := ⟨RJ4, TJ4, 4, tyJ4, rfl, by decide, my_514, uiz_J4, tyJ4_ok, nmJ4, rfl, by decide +kernel, rfl⟩
theorem mi_J4_1 : MI RJ4 1 yJ5_init_d00df cJ5_init_d00df 2 1 := ⟨gi_cons my_500 (gi_cons my_501 (gi_cons my_32 (gi_cons my_502 tw_good))), rfl, by decide +kernel⟩
theorem uiz_X4 : ∀ w ∈ u_ws RX4 TX4 10, w ∈ TW := by decide +kernel
theorem fd_X4_11 : FLd RX4 11 4 0 true (.array (.object "LogRaft$Driver")) := ⟨RX4, TX4, 10, tyX4, rfl, by decide, my_410, uiz_X4, tyX4_ok, nmX4, rfl, by decide +kernel, rfl⟩
theorem mn_X2_init : MN yX2_init cX2_init 1 0 := ⟨gi_cons my_347 (gi_cons my_28 (gi_cons my_348 tw_good)), rfl, by decide +kernel⟩
theorem nw_X4_9 : NW RX4 9 2 12 [.int 0, .int 0, .int 0, .int 0, .int 0, .int 0, .int 0, .int 0, .int 0, .int 0, .null, .null] := ⟨RX2, TX2, tyX2, rfl, my_343, my_345, my_28, uiz_X2, tyX2_ok, by decide +kernel, by decide⟩
theorem fd_X4_17 : FLd RX4 17 4 1 true (.array .boolean) := ⟨RX4, TX4, 10, tyX4, rfl, by decide, my_412, uiz_X4, tyX4_ok, nmX4, rfl, by decide +kernel, rfl⟩
theorem uiz_X3 : ∀ w ∈ u_ws RX3 TX3 3, w ∈ TW := by decide +kernel
theorem fd_X3_11 : FLd RX3 11 3 0 true (.array (.object "LogRaft$Raft")) := ⟨RX3, TX3, 3, tyX3, rfl, by decide, my_459, uiz_X3, tyX3_ok, nmX3, rfl, by decide +kernel, rfl⟩
theorem mi_X3_17 : MI RX3 17 yX4_init cX4_init 2 0 := ⟨gi_cons my_458 (gi_cons my_340 (gi_cons my_27 (gi_cons my_341 tw_good))), rfl, by decide +kernel⟩
theorem nw_X3_9 : NW RX3 9 4 10 [.null, .null, .int 0, .int 0, .int 0, .int 0, .int 0, .int 0, .int 0, .int 0] := ⟨RX4, TX4, tyX4, rfl, my_456, my_117, my_27, uiz_X4, tyX4_ok, by decide +kernel, by decide⟩
theorem uiz_X6 : ∀ w ∈ u_ws RX6 TX6 4, w ∈ TW := by decide +kernel
theorem fd_X6_20 : FLd RX6 20 6 1 true (.array (.object "LogRaft$Command")) := ⟨RX6, TX6, 4, tyX6, rfl, by decide, my_548, uiz_X6, tyX6_ok, nmX6, rfl, by decide +kernel, rfl⟩
theorem mn_X1_init : MN yX1_init cX1_init 1 0 := ⟨gi_cons my_531 (gi_cons my_36 (gi_cons my_532 tw_good)), rfl, by decide +kernel⟩
theorem uiz_X1 : ∀ w ∈ u_ws RX1 TX1 3, w ∈ TW := by decide +kernel
theorem nw_X6_18 : NW RX6 18 1 3 [.null, .int 0, .int 0] := ⟨RX1, TX1, tyX1, rfl, my_527, my_529, my_36, uiz_X1, tyX1_ok, by decide +kernel, by decide⟩
theorem fd_X6_12 : FLd RX6 12 6 0 true (.object "java/lang/StringBuilder") := ⟨RX6, TX6, 4, tyX6, rfl, by decide, my_547, uiz_X6, tyX6_ok, nmX6, rfl, by decide +kernel, rfl⟩
theorem nw_X6_9 : NW RX6 9 0 4 [.null, .int 0, .int 0, .int 0] := ⟨RJ4, TJ4, tyJ4, rfl, my_495, my_496, my_33, uiz_J4, tyJ4_ok, by decide +kernel, by decide⟩
theorem mi_X6_11 : MI RX6 11 yJ4_init_da8c8 cJ4_init_da8c8 1 0 := ⟨gi_cons my_497 (gi_cons my_498 (gi_cons my_33 (gi_cons my_499 tw_good))), rfl, by decide +kernel⟩
theorem nw_X8_9 : NW RX8 9 4 10 [.null, .null, .int 0, .int 0, .int 0, .int 0, .int 0, .int 0, .int 0, .int 0] := ⟨RX4, TX4, tyX4, rfl, my_338, my_117, my_27, uiz_X4, tyX4_ok, by decide +kernel, by decide⟩
theorem mi_X8_11 : MI RX8 11 yX4_init cX4_init 2 0 := ⟨gi_cons my_339 (gi_cons my_340 (gi_cons my_27 (gi_cons my_341 tw_good))), rfl, by decide +kernel⟩
theorem uiz_X8 : ∀ w ∈ u_ws RX8 TX8 9, w ∈ TW := by decide +kernel
theorem fd_X8_12 : FLd RX8 12 7 0 true (.object "LogRaft$Raft") := ⟨RX8, TX8, 9, tyX8, rfl, by decide, my_565, uiz_X8, tyX8_ok, nmX8, rfl, by decide +kernel, rfl⟩
theorem fd_X8_16 : FLd RX8 16 7 1 true (.object "LogRaft$Raft") := ⟨RX8, TX8, 9, tyX8, rfl, by decide, my_566, uiz_X8, tyX8_ok, nmX8, rfl, by decide +kernel, rfl⟩
theorem fd_X8_19 : FLd RX8 19 7 2 true (.object "LogRaft$Raft") := ⟨RX8, TX8, 9, tyX8, rfl, by decide, my_567, uiz_X8, tyX8_ok, nmX8, rfl, by decide +kernel, rfl⟩
theorem nw_X8_22 : NW RX8 22 3 3 [.null, .int 0, .int 0] := ⟨RX3, TX3, tyX3, rfl, my_450, my_451, my_29, uiz_X3, tyX3_ok, by decide +kernel, by decide⟩
theorem mi_X8_24 : MI RX8 24 yX3_init cX3_init 2 0 := ⟨gi_cons my_452 (gi_cons my_453 (gi_cons my_29 (gi_cons my_454 tw_good))), rfl, by decide +kernel⟩
theorem fd_X8_25 : FLd RX8 25 7 3 true (.object "LogRaft$Past") := ⟨RX8, TX8, 9, tyX8, rfl, by decide, my_568, uiz_X8, tyX8_ok, nmX8, rfl, by decide +kernel, rfl⟩
theorem uiz_X5 : ∀ w ∈ u_ws RX5 TX5 4, w ∈ TW := by decide +kernel
theorem nw_X8_29 : NW RX8 29 5 4 [.int 0, .int 0, .int 0, .int 0] := ⟨RX5, TX5, tyX5, rfl, my_470, my_471, my_30, uiz_X5, tyX5_ok, by decide +kernel, by decide⟩
theorem mn_X5_init : MN yX5_init cX5_init 1 0 := ⟨gi_cons my_473 (gi_cons my_30 (gi_cons my_474 tw_good)), rfl, by decide +kernel⟩
theorem fd_X8_32 : FLd RX8 32 7 4 true (.object "LogRaft$Reasons") := ⟨RX8, TX8, 9, tyX8, rfl, by decide, my_569, uiz_X8, tyX8_ok, nmX8, rfl, by decide +kernel, rfl⟩
theorem nw_X8_36 : NW RX8 36 6 4 [.null, .null, .int 0, .int 0] := ⟨RX6, TX6, tyX6, rfl, my_489, my_490, my_31, uiz_X6, tyX6_ok, by decide +kernel, by decide⟩
theorem mi_X8_38 : MI RX8 38 yX6_init cX6_init 2 0 := ⟨gi_cons my_491 (gi_cons my_492 (gi_cons my_31 (gi_cons my_493 tw_good))), rfl, by decide +kernel⟩
theorem fd_X8_39 : FLd RX8 39 7 5 true (.object "LogRaft$Text") := ⟨RX8, TX8, 9, tyX8, rfl, by decide, my_570, uiz_X8, tyX8_ok, nmX8, rfl, by decide +kernel, rfl⟩
theorem nw_X8_43 : NW RX8 43 0 4 [.null, .int 0, .int 0, .int 0] := ⟨RJ4, TJ4, tyJ4, rfl, my_563, my_496, my_33, uiz_J4, tyJ4_ok, by decide +kernel, by decide⟩
theorem mi_X8_45 : MI RX8 45 yJ4_init_da8c8 cJ4_init_da8c8 1 0 := ⟨gi_cons my_564 (gi_cons my_498 (gi_cons my_33 (gi_cons my_499 tw_good))), rfl, by decide +kernel⟩
theorem fd_X8_46 : FLd RX8 46 7 6 true (.object "java/lang/StringBuilder") := ⟨RX8, TX8, 9, tyX8, rfl, by decide, my_571, uiz_X8, tyX8_ok, nmX8, rfl, by decide +kernel, rfl⟩
theorem fd_X8_50 : FLd RX8 50 7 8 false .int := ⟨RX8, TX8, 9, tyX8, rfl, by decide, my_573, uiz_X8, tyX8_ok, nmX8, rfl, by decide +kernel, rfl⟩
theorem nw_L_27 : NW RL 27 7 9 [.null, .null, .null, .null, .null, .null, .null, .int 0, .int 0] := ⟨RX8, TX8, tyX8, rfl, my_331, my_56, my_26, uiz_X8, tyX8_ok, by decide +kernel, by decide⟩
theorem mi_L_35 : MI RL 35 yX8_init cX8_init 1 0 := ⟨gi_cons my_332 (gi_cons my_333 (gi_cons my_26 (gi_cons my_334 tw_good))), rfl, by decide +kernel⟩
theorem nw_L_76 : NW RL 76 0 4 [.null, .int 0, .int 0, .int 0] := ⟨RJ4, TJ4, tyJ4, rfl, my_637, my_496, my_33, uiz_J4, tyJ4_ok, by decide +kernel, by decide⟩
theorem mi_L_78 : MI RL 78 yJ4_init_da8c8 cJ4_init_da8c8 1 0 := ⟨gi_cons my_638 (gi_cons my_498 (gi_cons my_33 (gi_cons my_499 tw_good))), rfl, by decide +kernel⟩
