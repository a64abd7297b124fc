theorem mz_89 : Cond.initialized RJ5 ∈ TW := tw_of (i := 89) (by decide +kernel) rfl
theorem mz_91 : Cond.initialized RJ0 ∈ TW := tw_of (i := 91) (by decide +kernel) rfl
theorem mz_95 : Cond.initialized RJ8 ∈ TW := tw_of (i := 95) (by decide +kernel) rfl
theorem mz_96 : Cond.initialized "java/lang/Math" ∈ TW := tw_of (i := 96) (by decide +kernel) rfl
theorem mz_97 : Cond.initialized RJ7 ∈ TW := tw_of (i := 97) (by decide +kernel) rfl
theorem mz_98 : Cond.initialized "java/lang/System" ∈ TW := tw_of (i := 98) (by decide +kernel) rfl
theorem mz_99 : Cond.initialized RJ1 ∈ TW := tw_of (i := 99) (by decide +kernel) rfl
theorem mz_100 : Cond.initialized RJ3 ∈ TW := tw_of (i := 100) (by decide +kernel) rfl
theorem mz_104 : Cond.initialized RJ6 ∈ TW := tw_of (i := 104) (by decide +kernel) rfl
theorem mz_285 : Cond.fieldLink RJ5 18 "java/lang/String" "COMPACT_STRINGS" "Z" ∈ TW := tw_of (i := 285) (by decide +kernel) rfl
theorem mz_294 : Cond.fieldLink RJ5 15 (TJ4 0).1 (TJ4 0).2.1 (TJ4 0).2.2.1 ∈ TW := tw_of (i := 294) (by decide +kernel) rfl
theorem mz_295 : Cond.fieldLink RJ5 22 (TJ4 1).1 (TJ4 1).2.1 (TJ4 1).2.2.1 ∈ TW := tw_of (i := 295) (by decide +kernel) rfl
theorem mz_296 : Cond.fieldLink RJ5 73 (TJ4 2).1 (TJ4 2).2.1 (TJ4 2).2.2.1 ∈ TW := tw_of (i := 296) (by decide +kernel) rfl
theorem mz_297 : Cond.fieldLink RJ5 79 (TJ4 3).1 (TJ4 3).2.1 (TJ4 3).2.2.1 ∈ TW := tw_of (i := 297) (by decide +kernel) rfl
theorem mz_306 : Cond.superclass RJ4 yJ5_append_c97b9.cls ∈ TW := tw_of (i := 306) (by decide +kernel) rfl
theorem mz_307 : Cond.arrayClass .byte ∈ TW := tw_of (i := 307) (by decide +kernel) rfl
theorem mz_398 : Cond.methodLink RJ4 343 yJ5_length_8abf5 ∈ TW := tw_of (i := 398) (by decide +kernel) rfl
theorem mz_399 : Cond.instanceMethod yJ5_length_8abf5 ∈ TW := tw_of (i := 399) (by decide +kernel) rfl
theorem mz_400 : Cond.code yJ5_length_8abf5 cJ5_length_8abf5 1 (some .int) ∈ TW := tw_of (i := 400) (by decide +kernel) rfl
theorem mz_405 : Cond.methodLink RJ4 50 yJ5_append_3fe6f ∈ TW := tw_of (i := 405) (by decide +kernel) rfl
theorem mz_406 : Cond.instanceMethod yJ5_append_3fe6f ∈ TW := tw_of (i := 406) (by decide +kernel) rfl
theorem mz_407 : Cond.code yJ5_append_3fe6f cJ5_append_3fe6f 2 (some (.object "java/lang/AbstractStringBuilder")) ∈ TW := tw_of (i := 407) (by decide +kernel) rfl
theorem mz_408 : Cond.methodLink RJ5 100 yJ5_ensureCapacityInternal_d00df ∈ TW := tw_of (i := 408) (by decide +kernel) rfl
theorem mz_410 : Cond.instanceMethod yJ5_ensureCapacityInternal_d00df ∈ TW := tw_of (i := 410) (by decide +kernel) rfl
theorem mz_411 : Cond.code yJ5_ensureCapacityInternal_d00df cJ5_ensureCapacityInternal_d00df 3 none ∈ TW := tw_of (i := 411) (by decide +kernel) rfl
theorem mz_412 : Cond.methodLink RJ5 104 yJ5_newCapacity_0f7a4 ∈ TW := tw_of (i := 412) (by decide +kernel) rfl
theorem mz_414 : Cond.instanceMethod yJ5_newCapacity_0f7a4 ∈ TW := tw_of (i := 414) (by decide +kernel) rfl
theorem mz_415 : Cond.code yJ5_newCapacity_0f7a4 cJ5_newCapacity_0f7a4 6 (some .int) ∈ TW := tw_of (i := 415) (by decide +kernel) rfl
theorem mz_416 : Cond.methodLink RJ5 114 yJ8_newLength_cabcc ∈ TW := tw_of (i := 416) (by decide +kernel) rfl
theorem mz_417 : Cond.static yJ8_newLength_cabcc ∈ TW := tw_of (i := 417) (by decide +kernel) rfl
theorem mz_418 : Cond.code yJ8_newLength_cabcc cJ8_newLength_cabcc 4 (some .int) ∈ TW := tw_of (i := 418) (by decide +kernel) rfl
theorem mz_419 : Cond.methodLink RJ8 194 Lib.Math.max.name ∈ TW := tw_of (i := 419) (by decide +kernel) rfl
theorem mz_420 : Cond.static Lib.Math.max.name ∈ TW := tw_of (i := 420) (by decide +kernel) rfl
theorem mz_421 : Cond.code Lib.Math.max.name Lib.Math.max.code 2 (some .int) ∈ TW := tw_of (i := 421) (by decide +kernel) rfl
theorem mz_422 : Cond.constant RJ8 200 (2147483639 : Int32) ∈ TW := tw_of (i := 422) (by decide +kernel) rfl
theorem mz_426 : Cond.constant RJ5 39 (2147483647 : Int32) ∈ TW := tw_of (i := 426) (by decide +kernel) rfl
theorem mz_427 : Cond.methodLink RJ5 108 yJ7_copyOf_9075b ∈ TW := tw_of (i := 427) (by decide +kernel) rfl
theorem mz_428 : Cond.static yJ7_copyOf_9075b ∈ TW := tw_of (i := 428) (by decide +kernel) rfl
theorem mz_429 : Cond.code yJ7_copyOf_9075b cJ7_copyOf_9075b 3 (some (.array .byte)) ∈ TW := tw_of (i := 429) (by decide +kernel) rfl
theorem mz_437 : Cond.methodLink RJ7 304 Lib.Math.min.name ∈ TW := tw_of (i := 437) (by decide +kernel) rfl
theorem mz_438 : Cond.static Lib.Math.min.name ∈ TW := tw_of (i := 438) (by decide +kernel) rfl
theorem mz_439 : Cond.code Lib.Math.min.name Lib.Math.min.code 2 (some .int) ∈ TW := tw_of (i := 439) (by decide +kernel) rfl
theorem mz_440 : Cond.methodLink RJ7 150 arraycopyName ∈ TW := tw_of (i := 440) (by decide +kernel) rfl
theorem mz_441 : Cond.static arraycopyName ∈ TW := tw_of (i := 441) (by decide +kernel) rfl
theorem mz_442 : Cond.native arraycopyName ∈ TW := tw_of (i := 442) (by decide +kernel) rfl
theorem mz_443 : Cond.methodLink RJ5 83 yJ5_isLatin1_aae02 ∈ TW := tw_of (i := 443) (by decide +kernel) rfl
theorem mz_444 : Cond.instanceMethod yJ5_isLatin1_aae02 ∈ TW := tw_of (i := 444) (by decide +kernel) rfl
theorem mz_445 : Cond.sameMethod yJ5_isLatin1_aae02.cls yJ5_isLatin1_aae02.cls yJ5_isLatin1_aae02.name yJ5_isLatin1_aae02.desc ∈ TW := tw_of (i := 445) (by decide +kernel) rfl
theorem mz_446 : Cond.selects RJ4 yJ5_isLatin1_aae02 yJ5_isLatin1_aae02 ∈ TW := tw_of (i := 446) (by decide +kernel) rfl
theorem mz_447 : Cond.code yJ5_isLatin1_aae02 cJ5_isLatin1_aae02 1 (some .boolean) ∈ TW := tw_of (i := 447) (by decide +kernel) rfl
theorem mz_448 : Cond.methodLink RJ5 191 yJ1_canEncode_fc78d ∈ TW := tw_of (i := 448) (by decide +kernel) rfl
theorem mz_449 : Cond.static yJ1_canEncode_fc78d ∈ TW := tw_of (i := 449) (by decide +kernel) rfl
theorem mz_450 : Cond.code yJ1_canEncode_fc78d cJ1_canEncode_fc78d 1 (some .boolean) ∈ TW := tw_of (i := 450) (by decide +kernel) rfl
theorem mz_470 : Cond.fieldLink RJ0 1053 "jdk/internal/util/Preconditions" "SIOOBE_FORMATTER" "Ljava/util/function/BiFunction;" ∈ TW := tw_of (i := 470) (by decide +kernel) rfl
theorem mz_491 : Cond.static yJ0_checkIndex_df160 ∈ TW := tw_of (i := 491) (by decide +kernel) rfl
theorem mz_492 : Cond.code yJ0_checkIndex_df160 cJ0_checkIndex_df160 2 none ∈ TW := tw_of (i := 492) (by decide +kernel) rfl
theorem mz_493 : Cond.methodLink RJ0 1059 yJ3_checkIndex_8e157 ∈ TW := tw_of (i := 493) (by decide +kernel) rfl
theorem mz_494 : Cond.static yJ3_checkIndex_8e157 ∈ TW := tw_of (i := 494) (by decide +kernel) rfl
theorem mz_495 : Cond.code yJ3_checkIndex_8e157 cJ3_checkIndex_8e157 3 (some .int) ∈ TW := tw_of (i := 495) (by decide +kernel) rfl
theorem mz_776 : Cond.methodLink RJ4 329 yJ5_charAt_5068e ∈ TW := tw_of (i := 776) (by decide +kernel) rfl
theorem mz_777 : Cond.instanceMethod yJ5_charAt_5068e ∈ TW := tw_of (i := 777) (by decide +kernel) rfl
theorem mz_778 : Cond.code yJ5_charAt_5068e cJ5_charAt_5068e 5 (some .char) ∈ TW := tw_of (i := 778) (by decide +kernel) rfl
theorem mz_779 : Cond.methodLink RJ5 138 Lib.Math.min.name ∈ TW := tw_of (i := 779) (by decide +kernel) rfl
theorem mz_780 : Cond.methodLink RJ5 144 yJ0_checkIndex_df160 ∈ TW := tw_of (i := 780) (by decide +kernel) rfl
theorem mz_821 : Cond.methodLink RJ4 333 yJ5_setLength_d00df ∈ TW := tw_of (i := 821) (by decide +kernel) rfl
theorem mz_822 : Cond.instanceMethod yJ5_setLength_d00df ∈ TW := tw_of (i := 822) (by decide +kernel) rfl
theorem mz_823 : Cond.code yJ5_setLength_d00df cJ5_setLength_d00df 2 none ∈ TW := tw_of (i := 823) (by decide +kernel) rfl
theorem mz_989 : Cond.methodLink RJ4 53 yJ5_append_c97b9 ∈ TW := tw_of (i := 989) (by decide +kernel) rfl
theorem mz_990 : Cond.instanceMethod yJ5_append_c97b9 ∈ TW := tw_of (i := 990) (by decide +kernel) rfl
theorem mz_991 : Cond.code yJ5_append_c97b9 cJ5_append_c97b9 4 (some (.object "java/lang/AbstractStringBuilder")) ∈ TW := tw_of (i := 991) (by decide +kernel) rfl
theorem mz_992 : Cond.methodLink RJ5 245 yJ6_stringSize_0f7a4 ∈ TW := tw_of (i := 992) (by decide +kernel) rfl
theorem mz_993 : Cond.static yJ6_stringSize_0f7a4 ∈ TW := tw_of (i := 993) (by decide +kernel) rfl
theorem mz_994 : Cond.code yJ6_stringSize_0f7a4 cJ6_stringSize_0f7a4 4 (some .int) ∈ TW := tw_of (i := 994) (by decide +kernel) rfl
theorem mz_995 : Cond.methodLink RJ5 248 yJ6_getChars_ba4f3 ∈ TW := tw_of (i := 995) (by decide +kernel) rfl
theorem mz_996 : Cond.static yJ6_getChars_ba4f3 ∈ TW := tw_of (i := 996) (by decide +kernel) rfl
theorem mz_997 : Cond.code yJ6_getChars_ba4f3 cJ6_getChars_ba4f3 7 (some .int) ∈ TW := tw_of (i := 997) (by decide +kernel) rfl
theorem mz_998 : Cond.fieldLink RJ6 83 "java/lang/Integer" "DigitOnes" "[B" ∈ TW := tw_of (i := 998) (by decide +kernel) rfl
theorem mz_1000 : Cond.fieldLink RJ6 87 "java/lang/Integer" "DigitTens" "[B" ∈ TW := tw_of (i := 1000) (by decide +kernel) rfl
theorem mz_1556 : Cond.sameMethod yJ5_length_8abf5.cls yJ5_length_8abf5.cls yJ5_length_8abf5.name yJ5_length_8abf5.desc ∈ TW := tw_of (i := 1556) (by decide +kernel) rfl
theorem mz_1557 : Cond.sameMethod yJ5_append_3fe6f.cls yJ5_append_3fe6f.cls yJ5_append_3fe6f.name yJ5_append_3fe6f.desc ∈ TW := tw_of (i := 1557) (by decide +kernel) rfl
theorem mz_1558 : Cond.sameMethod yJ5_ensureCapacityInternal_d00df.cls yJ5_ensureCapacityInternal_d00df.cls yJ5_ensureCapacityInternal_d00df.name yJ5_ensureCapacityInternal_d00df.desc ∈ TW := tw_of (i := 1558) (by decide +kernel) rfl
theorem mz_1559 : Cond.sameMethod yJ5_newCapacity_0f7a4.cls yJ5_newCapacity_0f7a4.cls yJ5_newCapacity_0f7a4.name yJ5_newCapacity_0f7a4.desc ∈ TW := tw_of (i := 1559) (by decide +kernel) rfl
theorem mz_1561 : Cond.sameMethod yJ5_charAt_5068e.cls yJ5_charAt_5068e.cls yJ5_charAt_5068e.name yJ5_charAt_5068e.desc ∈ TW := tw_of (i := 1561) (by decide +kernel) rfl
theorem mz_1562 : Cond.sameMethod yJ5_setLength_d00df.cls yJ5_setLength_d00df.cls yJ5_setLength_d00df.name yJ5_setLength_d00df.desc ∈ TW := tw_of (i := 1562) (by decide +kernel) rfl
theorem mz_1563 : Cond.sameMethod yJ5_append_c97b9.cls yJ5_append_c97b9.cls yJ5_append_c97b9.name yJ5_append_c97b9.desc ∈ TW := tw_of (i := 1563) (by decide +kernel) rfl
theorem tx_0 : Cond.selects RJ4 yJ5_newCapacity_0f7a4 yJ5_newCapacity_0f7a4 ∈ TW := List.mem_append_left _ List.mem_cons_self
theorem tx_1 : Cond.selects RJ4 yJ5_ensureCapacityInternal_d00df yJ5_ensureCapacityInternal_d00df ∈ TW := List.mem_append_left _ (List.mem_cons_of_mem _ List.mem_cons_self)
theorem uin_J4 : ∀ w ∈ u_ws RJ4 TJ4 4, w ∈ TW := by decide +kernel
theorem flb_15 : FL RJ5 15 0 0 false (.array .byte) := ⟨RJ4, TJ4, 4, tyJ4, rfl, by decide, mz_294, uin_J4, tyJ4_ok, nmJ4, rfl, by decide +kernel⟩
theorem flb_22 : FL RJ5 22 0 1 false .byte := ⟨RJ4, TJ4, 4, tyJ4, rfl, by decide, mz_295, uin_J4, tyJ4_ok, nmJ4, rfl, by decide +kernel⟩
theorem flb_73 : FL RJ5 73 0 2 false .boolean := ⟨RJ4, TJ4, 4, tyJ4, rfl, by decide, mz_296, uin_J4, tyJ4_ok, nmJ4, rfl, by decide +kernel⟩
theorem flb_79 : FL RJ5 79 0 3 false .int := ⟨RJ4, TJ4, 4, tyJ4, rfl, by decide, mz_297, uin_J4, tyJ4_ok, nmJ4, rfl, by decide +kernel⟩
theorem mS_J5_114 : MS RJ5 114 yJ8_newLength_cabcc cJ8_newLength_cabcc 4 (some .int) 3 := ⟨gi_cons mz_416 (gi_cons mz_417 (gi_cons mz_95 (gi_cons mz_418 tw_good))), by decide +kernel⟩
theorem mU_J5_104 : MU RJ5 104 yJ5_newCapacity_0f7a4 cJ5_newCapacity_0f7a4 6 (some .int) 1 := ⟨gi_cons mz_412 (gi_cons mz_1559 (gi_cons tx_0 (gi_cons mz_414 (gi_cons mz_89 (gi_cons mz_415 tw_good))))), by decide +kernel⟩
theorem mS_J5_108 : MS RJ5 108 yJ7_copyOf_9075b cJ7_copyOf_9075b 3 (some (.array .byte)) 2 := ⟨gi_cons mz_427 (gi_cons mz_428 (gi_cons mz_97 (gi_cons mz_429 tw_good))), by decide +kernel⟩
theorem mS_J0_1059 : MS RJ0 1059 yJ3_checkIndex_8e157 cJ3_checkIndex_8e157 3 (some .int) 3 := ⟨gi_cons mz_493 (gi_cons mz_494 (gi_cons mz_100 (gi_cons mz_495 tw_good))), by decide +kernel⟩
theorem mS_J5_144 : MS RJ5 144 yJ0_checkIndex_df160 cJ0_checkIndex_df160 2 none 2 := ⟨gi_cons mz_780 (gi_cons mz_491 (gi_cons mz_91 (gi_cons mz_492 tw_good))), by decide +kernel⟩
theorem mU_J5_100 : MU RJ5 100 yJ5_ensureCapacityInternal_d00df cJ5_ensureCapacityInternal_d00df 3 none 1 := ⟨gi_cons mz_408 (gi_cons mz_1558 (gi_cons tx_1 (gi_cons mz_410 (gi_cons mz_89 (gi_cons mz_411 tw_good))))), by decide +kernel⟩
theorem mU_J5_83 : MU RJ5 83 yJ5_isLatin1_aae02 cJ5_isLatin1_aae02 1 (some .boolean) 0 := ⟨gi_cons mz_443 (gi_cons mz_445 (gi_cons mz_446 (gi_cons mz_444 (gi_cons mz_89 (gi_cons mz_447 tw_good))))), by decide +kernel⟩
theorem mS_J5_191 : MS RJ5 191 yJ1_canEncode_fc78d cJ1_canEncode_fc78d 1 (some .boolean) 1 := ⟨gi_cons mz_448 (gi_cons mz_449 (gi_cons mz_99 (gi_cons mz_450 tw_good))), by decide +kernel⟩
theorem mS_J5_245 : MS RJ5 245 yJ6_stringSize_0f7a4 cJ6_stringSize_0f7a4 4 (some .int) 1 := ⟨gi_cons mz_992 (gi_cons mz_993 (gi_cons mz_104 (gi_cons mz_994 tw_good))), by decide +kernel⟩
theorem mS_J5_248 : MS RJ5 248 yJ6_getChars_ba4f3 cJ6_getChars_ba4f3 7 (some .int) 3 := ⟨gi_cons mz_995 (gi_cons mz_996 (gi_cons mz_104 (gi_cons mz_997 tw_good))), by decide +kernel⟩
theorem mP_J4_343 : MP RJ4 343 yJ5_length_8abf5 cJ5_length_8abf5 1 (some .int) 0 := ⟨gi_cons mz_398 (gi_cons mz_1556 (gi_cons mz_306 (gi_cons mz_399 (gi_cons mz_89 (gi_cons mz_400 tw_good))))), by decide +kernel⟩
theorem mP_J4_329 : MP RJ4 329 yJ5_charAt_5068e cJ5_charAt_5068e 5 (some .char) 1 := ⟨gi_cons mz_776 (gi_cons mz_1561 (gi_cons mz_306 (gi_cons mz_777 (gi_cons mz_89 (gi_cons mz_778 tw_good))))), by decide +kernel⟩
theorem mP_J4_333 : MP RJ4 333 yJ5_setLength_d00df cJ5_setLength_d00df 2 none 1 := ⟨gi_cons mz_821 (gi_cons mz_1562 (gi_cons mz_306 (gi_cons mz_822 (gi_cons mz_89 (gi_cons mz_823 tw_good))))), by decide +kernel⟩
theorem mP_J4_50 : MP RJ4 50 yJ5_append_3fe6f cJ5_append_3fe6f 2 (some (.object "java/lang/AbstractStringBuilder")) 1 := ⟨gi_cons mz_405 (gi_cons mz_1557 (gi_cons mz_306 (gi_cons mz_406 (gi_cons mz_89 (gi_cons mz_407 tw_good))))), by decide +kernel⟩
theorem mP_J4_53 : MP RJ4 53 yJ5_append_c97b9 cJ5_append_c97b9 4 (some (.object "java/lang/AbstractStringBuilder")) 1 := ⟨gi_cons mz_989 (gi_cons mz_1563 (gi_cons mz_306 (gi_cons mz_990 (gi_cons mz_89 (gi_cons mz_991 tw_good))))), by decide +kernel⟩
