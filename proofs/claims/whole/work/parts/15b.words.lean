theorem lb_58 : (Int8.ofInt (58)).toInt32 = (58 : Int32) := by decide
theorem lb_99 : (Int8.ofInt (99)).toInt32 = (99 : Int32) := by decide
theorem lb_102 : (Int8.ofInt (102)).toInt32 = (102 : Int32) := by decide
theorem lb_108 : (Int8.ofInt (108)).toInt32 = (108 : Int32) := by decide
theorem lb_124 : (Int8.ofInt (124)).toInt32 = (124 : Int32) := by decide
theorem mw_12 : Cond.selects RX6 yX6_takeCommand yX6_takeCommand ∈ TW := tw_of (i := 12) (by decide +kernel) rfl
theorem mw_13 : Cond.selects RX6 yX6_takeWord yX6_takeWord ∈ TW := tw_of (i := 13) (by decide +kernel) rfl
theorem mw_14 : Cond.selects RX6 yX6_countFitting yX6_countFitting ∈ TW := tw_of (i := 14) (by decide +kernel) rfl
theorem mw_15 : Cond.selects RX6 yX6_isHere yX6_isHere ∈ TW := tw_of (i := 15) (by decide +kernel) rfl
theorem mw_16 : Cond.selects RX6 yX6_takeArguments yX6_takeArguments ∈ TW := tw_of (i := 16) (by decide +kernel) rfl
theorem mw_17 : Cond.selects RX6 yX6_takeFirst yX6_takeFirst ∈ TW := tw_of (i := 17) (by decide +kernel) rfl
theorem mw_18 : Cond.selects RX6 yX6_takeDigit yX6_takeDigit ∈ TW := tw_of (i := 18) (by decide +kernel) rfl
theorem mw_19 : Cond.selects RX6 yX6_takeBetween yX6_takeBetween ∈ TW := tw_of (i := 19) (by decide +kernel) rfl
theorem mw_20 : Cond.selects RX6 yX6_takeSign yX6_takeSign ∈ TW := tw_of (i := 20) (by decide +kernel) rfl
theorem mw_21 : Cond.selects RX6 yX6_takeLetter yX6_takeLetter ∈ TW := tw_of (i := 21) (by decide +kernel) rfl
theorem mw_22 : Cond.selects RX6 yX6_takeSecond yX6_takeSecond ∈ TW := tw_of (i := 22) (by decide +kernel) rfl
theorem mw_23 : Cond.selects RX8 yX8_refuseCommand yX8_refuseCommand ∈ TW := tw_of (i := 23) (by decide +kernel) rfl
theorem mw_80 : Cond.selects RX9 yX9_allOf yX9_allOf ∈ TW := tw_of (i := 80) (by decide +kernel) rfl
theorem mw_88 : Cond.initialized RX6 ∈ TW := tw_of (i := 88) (by decide +kernel) rfl
theorem mw_90 : Cond.initialized RJ4 ∈ TW := tw_of (i := 90) (by decide +kernel) rfl
theorem mw_197 : Cond.fieldLink RX8 367 (TX4 5).1 (TX4 5).2.1 (TX4 5).2.2.1 ∈ TW := tw_of (i := 197) (by decide +kernel) rfl
theorem mw_201 : Cond.fieldLink RX8 370 (TX4 7).1 (TX4 7).2.1 (TX4 7).2.2.1 ∈ TW := tw_of (i := 201) (by decide +kernel) rfl
theorem mw_203 : Cond.fieldLink RX8 373 (TX4 8).1 (TX4 8).2.1 (TX4 8).2.2.1 ∈ TW := tw_of (i := 203) (by decide +kernel) rfl
theorem mw_205 : Cond.fieldLink RX8 376 (TX4 9).1 (TX4 9).2.1 (TX4 9).2.2.1 ∈ TW := tw_of (i := 205) (by decide +kernel) rfl
theorem mw_315 : Cond.fieldLink RX6 56 (TX1 0).1 (TX1 0).2.1 (TX1 0).2.2.1 ∈ TW := tw_of (i := 315) (by decide +kernel) rfl
theorem mw_316 : Cond.fieldLink RX8 122 (TX1 0).1 (TX1 0).2.1 (TX1 0).2.2.1 ∈ TW := tw_of (i := 316) (by decide +kernel) rfl
theorem mw_317 : Cond.fieldLink RX6 116 (TX1 1).1 (TX1 1).2.1 (TX1 1).2.2.1 ∈ TW := tw_of (i := 317) (by decide +kernel) rfl
theorem mw_318 : Cond.fieldLink RX8 127 (TX1 1).1 (TX1 1).2.1 (TX1 1).2.2.1 ∈ TW := tw_of (i := 318) (by decide +kernel) rfl
theorem mw_319 : Cond.fieldLink RX6 60 (TX1 2).1 (TX1 2).2.1 (TX1 2).2.2.1 ∈ TW := tw_of (i := 319) (by decide +kernel) rfl
theorem mw_320 : Cond.fieldLink RX8 130 (TX1 2).1 (TX1 2).2.1 (TX1 2).2.2.1 ∈ TW := tw_of (i := 320) (by decide +kernel) rfl
theorem mw_328 : Cond.fieldLink RX6 12 (TX6 0).1 (TX6 0).2.1 (TX6 0).2.2.1 ∈ TW := tw_of (i := 328) (by decide +kernel) rfl
theorem mw_329 : Cond.fieldLink RX6 20 (TX6 1).1 (TX6 1).2.1 (TX6 1).2.2.1 ∈ TW := tw_of (i := 329) (by decide +kernel) rfl
theorem mw_330 : Cond.fieldLink RX8 118 (TX6 1).1 (TX6 1).2.1 (TX6 1).2.2.1 ∈ TW := tw_of (i := 330) (by decide +kernel) rfl
theorem mw_331 : Cond.fieldLink RX6 37 (TX6 2).1 (TX6 2).2.1 (TX6 2).2.2.1 ∈ TW := tw_of (i := 331) (by decide +kernel) rfl
theorem mw_332 : Cond.fieldLink RX8 117 (TX6 2).1 (TX6 2).2.1 (TX6 2).2.2.1 ∈ TW := tw_of (i := 332) (by decide +kernel) rfl
theorem mw_333 : Cond.fieldLink RX6 41 (TX6 3).1 (TX6 3).2.1 (TX6 3).2.2.1 ∈ TW := tw_of (i := 333) (by decide +kernel) rfl
theorem mw_334 : Cond.fieldLink RX8 110 (TX6 3).1 (TX6 3).2.1 (TX6 3).2.2.1 ∈ TW := tw_of (i := 334) (by decide +kernel) rfl
theorem mw_351 : Cond.fieldLink RX8 39 (TX8 5).1 (TX8 5).2.1 (TX8 5).2.2.1 ∈ TW := tw_of (i := 351) (by decide +kernel) rfl
theorem mw_352 : Cond.fieldLink RX8 46 (TX8 6).1 (TX8 6).2.1 (TX8 6).2.2.1 ∈ TW := tw_of (i := 352) (by decide +kernel) rfl
theorem mw_390 : Cond.methodLink RX8 63 yX6_add ∈ TW := tw_of (i := 390) (by decide +kernel) rfl
theorem mw_391 : Cond.instanceMethod yX6_add ∈ TW := tw_of (i := 391) (by decide +kernel) rfl
theorem mw_392 : Cond.selects RX6 yX6_add yX6_add ∈ TW := tw_of (i := 392) (by decide +kernel) rfl
theorem mw_393 : Cond.code yX6_add cX6_add 2 (some .boolean) ∈ TW := tw_of (i := 393) (by decide +kernel) rfl
theorem mw_394 : Cond.methodLink RX6 25 yJ4_length_8abf5 ∈ TW := tw_of (i := 394) (by decide +kernel) rfl
theorem mw_395 : Cond.instanceMethod yJ4_length_8abf5 ∈ TW := tw_of (i := 395) (by decide +kernel) rfl
theorem mw_396 : Cond.selects RJ4 yJ4_length_8abf5 yJ4_length_8abf5 ∈ TW := tw_of (i := 396) (by decide +kernel) rfl
theorem mw_397 : Cond.code yJ4_length_8abf5 cJ4_length_8abf5 1 (some .int) ∈ TW := tw_of (i := 397) (by decide +kernel) rfl
theorem mw_401 : Cond.methodLink RX6 29 yJ4_append_cf468 ∈ TW := tw_of (i := 401) (by decide +kernel) rfl
theorem mw_402 : Cond.instanceMethod yJ4_append_cf468 ∈ TW := tw_of (i := 402) (by decide +kernel) rfl
theorem mw_403 : Cond.selects RJ4 yJ4_append_cf468 yJ4_append_cf468 ∈ TW := tw_of (i := 403) (by decide +kernel) rfl
theorem mw_404 : Cond.code yJ4_append_cf468 cJ4_append_cf468 2 (some (.object "java/lang/StringBuilder")) ∈ TW := tw_of (i := 404) (by decide +kernel) rfl
theorem mw_496 : Cond.methodLink RX8 67 yX6_size ∈ TW := tw_of (i := 496) (by decide +kernel) rfl
theorem mw_497 : Cond.instanceMethod yX6_size ∈ TW := tw_of (i := 497) (by decide +kernel) rfl
theorem mw_498 : Cond.selects RX6 yX6_size yX6_size ∈ TW := tw_of (i := 498) (by decide +kernel) rfl
theorem mw_499 : Cond.code yX6_size cX6_size 1 (some .int) ∈ TW := tw_of (i := 499) (by decide +kernel) rfl
theorem mw_723 : Cond.methodLink RX8 105 yX6_parse ∈ TW := tw_of (i := 723) (by decide +kernel) rfl
theorem mw_724 : Cond.instanceMethod yX6_parse ∈ TW := tw_of (i := 724) (by decide +kernel) rfl
theorem mw_725 : Cond.selects RX6 yX6_parse yX6_parse ∈ TW := tw_of (i := 725) (by decide +kernel) rfl
theorem mw_726 : Cond.code yX6_parse cX6_parse 3 (some .boolean) ∈ TW := tw_of (i := 726) (by decide +kernel) rfl
theorem mw_727 : Cond.methodLink RX6 44 yX6_takeCommand ∈ TW := tw_of (i := 727) (by decide +kernel) rfl
theorem mw_729 : Cond.instanceMethod yX6_takeCommand ∈ TW := tw_of (i := 729) (by decide +kernel) rfl
theorem mw_730 : Cond.code yX6_takeCommand cX6_takeCommand 3 (some .boolean) ∈ TW := tw_of (i := 730) (by decide +kernel) rfl
theorem mw_731 : Cond.methodLink RX6 52 yX6_takeWord ∈ TW := tw_of (i := 731) (by decide +kernel) rfl
theorem mw_733 : Cond.instanceMethod yX6_takeWord ∈ TW := tw_of (i := 733) (by decide +kernel) rfl
theorem mw_734 : Cond.code yX6_takeWord cX6_takeWord 5 (some (.object "LogRaft$Word")) ∈ TW := tw_of (i := 734) (by decide +kernel) rfl
theorem mw_737 : Cond.methodLink RX6 76 yX6_countFitting ∈ TW := tw_of (i := 737) (by decide +kernel) rfl
theorem mw_739 : Cond.instanceMethod yX6_countFitting ∈ TW := tw_of (i := 739) (by decide +kernel) rfl
theorem mw_740 : Cond.code yX6_countFitting cX6_countFitting 3 (some .int) ∈ TW := tw_of (i := 740) (by decide +kernel) rfl
theorem mw_741 : Cond.methodLink RX6 86 yJ0_length_8abf5 ∈ TW := tw_of (i := 741) (by decide +kernel) rfl
theorem mw_750 : Cond.methodLink RX6 89 yJ0_charAt_5068e ∈ TW := tw_of (i := 750) (by decide +kernel) rfl
theorem mw_768 : Cond.methodLink RX6 93 yX6_isHere ∈ TW := tw_of (i := 768) (by decide +kernel) rfl
theorem mw_770 : Cond.instanceMethod yX6_isHere ∈ TW := tw_of (i := 770) (by decide +kernel) rfl
theorem mw_771 : Cond.code yX6_isHere cX6_isHere 4 (some .boolean) ∈ TW := tw_of (i := 771) (by decide +kernel) rfl
theorem mw_772 : Cond.methodLink RX6 97 yJ4_charAt_5068e ∈ TW := tw_of (i := 772) (by decide +kernel) rfl
theorem mw_773 : Cond.instanceMethod yJ4_charAt_5068e ∈ TW := tw_of (i := 773) (by decide +kernel) rfl
theorem mw_774 : Cond.selects RJ4 yJ4_charAt_5068e yJ4_charAt_5068e ∈ TW := tw_of (i := 774) (by decide +kernel) rfl
theorem mw_775 : Cond.code yJ4_charAt_5068e cJ4_charAt_5068e 2 (some .char) ∈ TW := tw_of (i := 775) (by decide +kernel) rfl
theorem mw_782 : Cond.methodLink RX6 80 Lib.Math.max.name ∈ TW := tw_of (i := 782) (by decide +kernel) rfl
theorem mw_783 : Cond.methodLink RX6 63 yX6_takeArguments ∈ TW := tw_of (i := 783) (by decide +kernel) rfl
theorem mw_785 : Cond.instanceMethod yX6_takeArguments ∈ TW := tw_of (i := 785) (by decide +kernel) rfl
theorem mw_786 : Cond.code yX6_takeArguments cX6_takeArguments 2 (some .boolean) ∈ TW := tw_of (i := 786) (by decide +kernel) rfl
theorem mw_787 : Cond.fieldLink RX6 98 "LogRaft$1" "$SwitchMap$LogRaft$Word" "[I" ∈ TW := tw_of (i := 787) (by decide +kernel) rfl
theorem mw_788 : Cond.methodLink RX6 104 yWord_ordinal ∈ TW := tw_of (i := 788) (by decide +kernel) rfl
theorem mw_789 : Cond.methodLink RX6 107 yX6_takeFirst ∈ TW := tw_of (i := 789) (by decide +kernel) rfl
theorem mw_791 : Cond.instanceMethod yX6_takeFirst ∈ TW := tw_of (i := 791) (by decide +kernel) rfl
theorem mw_792 : Cond.code yX6_takeFirst cX6_takeFirst 2 (some .boolean) ∈ TW := tw_of (i := 792) (by decide +kernel) rfl
theorem mw_793 : Cond.methodLink RX6 119 yX6_takeDigit ∈ TW := tw_of (i := 793) (by decide +kernel) rfl
theorem mw_795 : Cond.instanceMethod yX6_takeDigit ∈ TW := tw_of (i := 795) (by decide +kernel) rfl
theorem mw_796 : Cond.code yX6_takeDigit cX6_takeDigit 2 (some .int) ∈ TW := tw_of (i := 796) (by decide +kernel) rfl
theorem mw_797 : Cond.methodLink RX6 122 yX6_takeBetween ∈ TW := tw_of (i := 797) (by decide +kernel) rfl
theorem mw_799 : Cond.instanceMethod yX6_takeBetween ∈ TW := tw_of (i := 799) (by decide +kernel) rfl
theorem mw_800 : Cond.code yX6_takeBetween cX6_takeBetween 4 (some .int) ∈ TW := tw_of (i := 800) (by decide +kernel) rfl
theorem mw_801 : Cond.methodLink RX6 48 yX6_takeSign ∈ TW := tw_of (i := 801) (by decide +kernel) rfl
theorem mw_803 : Cond.instanceMethod yX6_takeSign ∈ TW := tw_of (i := 803) (by decide +kernel) rfl
theorem mw_804 : Cond.code yX6_takeSign cX6_takeSign 2 (some .boolean) ∈ TW := tw_of (i := 804) (by decide +kernel) rfl
theorem mw_805 : Cond.methodLink RX6 110 yX6_takeLetter ∈ TW := tw_of (i := 805) (by decide +kernel) rfl
theorem mw_807 : Cond.instanceMethod yX6_takeLetter ∈ TW := tw_of (i := 807) (by decide +kernel) rfl
theorem mw_808 : Cond.code yX6_takeLetter cX6_takeLetter 2 (some .boolean) ∈ TW := tw_of (i := 808) (by decide +kernel) rfl
theorem mw_809 : Cond.methodLink RX6 113 yX6_takeSecond ∈ TW := tw_of (i := 809) (by decide +kernel) rfl
theorem mw_811 : Cond.instanceMethod yX6_takeSecond ∈ TW := tw_of (i := 811) (by decide +kernel) rfl
theorem mw_812 : Cond.code yX6_takeSecond cX6_takeSecond 2 (some .boolean) ∈ TW := tw_of (i := 812) (by decide +kernel) rfl
theorem mw_813 : Cond.methodLink RX8 109 yX6_empty ∈ TW := tw_of (i := 813) (by decide +kernel) rfl
theorem mw_814 : Cond.instanceMethod yX6_empty ∈ TW := tw_of (i := 814) (by decide +kernel) rfl
theorem mw_815 : Cond.selects RX6 yX6_empty yX6_empty ∈ TW := tw_of (i := 815) (by decide +kernel) rfl
theorem mw_816 : Cond.code yX6_empty cX6_empty 1 none ∈ TW := tw_of (i := 816) (by decide +kernel) rfl
theorem mw_817 : Cond.methodLink RX6 33 yJ4_setLength_d00df ∈ TW := tw_of (i := 817) (by decide +kernel) rfl
theorem mw_818 : Cond.instanceMethod yJ4_setLength_d00df ∈ TW := tw_of (i := 818) (by decide +kernel) rfl
theorem mw_819 : Cond.selects RJ4 yJ4_setLength_d00df yJ4_setLength_d00df ∈ TW := tw_of (i := 819) (by decide +kernel) rfl
theorem mw_820 : Cond.code yJ4_setLength_d00df cJ4_setLength_d00df 2 none ∈ TW := tw_of (i := 820) (by decide +kernel) rfl
theorem mw_837 : Cond.methodLink RX8 136 yX8_refuseCommand ∈ TW := tw_of (i := 837) (by decide +kernel) rfl
theorem mw_839 : Cond.instanceMethod yX8_refuseCommand ∈ TW := tw_of (i := 839) (by decide +kernel) rfl
theorem mw_840 : Cond.code yX8_refuseCommand cX8_refuseCommand 3 (some .int) ∈ TW := tw_of (i := 840) (by decide +kernel) rfl
theorem mw_979 : Cond.methodLink RX8 330 yJ4_setLength_d00df ∈ TW := tw_of (i := 979) (by decide +kernel) rfl
theorem mw_980 : Cond.methodLink RX8 334 yX2_writeOn ∈ TW := tw_of (i := 980) (by decide +kernel) rfl
theorem mw_981 : Cond.instanceMethod yX2_writeOn ∈ TW := tw_of (i := 981) (by decide +kernel) rfl
theorem mw_982 : Cond.selects RX2 yX2_writeOn yX2_writeOn ∈ TW := tw_of (i := 982) (by decide +kernel) rfl
theorem mw_983 : Cond.code yX2_writeOn cX2_writeOn 3 none ∈ TW := tw_of (i := 983) (by decide +kernel) rfl
theorem mw_984 : Cond.methodLink RX2 72 yJ4_append_cf468 ∈ TW := tw_of (i := 984) (by decide +kernel) rfl
theorem mw_985 : Cond.methodLink RX2 78 yJ4_append_bf812 ∈ TW := tw_of (i := 985) (by decide +kernel) rfl
theorem mw_986 : Cond.instanceMethod yJ4_append_bf812 ∈ TW := tw_of (i := 986) (by decide +kernel) rfl
theorem mw_987 : Cond.selects RJ4 yJ4_append_bf812 yJ4_append_bf812 ∈ TW := tw_of (i := 987) (by decide +kernel) rfl
theorem mw_988 : Cond.code yJ4_append_bf812 cJ4_append_bf812 2 (some (.object "java/lang/StringBuilder")) ∈ TW := tw_of (i := 988) (by decide +kernel) rfl
theorem mw_1019 : Cond.methodLink RX8 338 yJ4_length_8abf5 ∈ TW := tw_of (i := 1019) (by decide +kernel) rfl
theorem mw_1024 : Cond.methodLink RX8 341 yX4_hasVoteOf ∈ TW := tw_of (i := 1024) (by decide +kernel) rfl
theorem mw_1025 : Cond.instanceMethod yX4_hasVoteOf ∈ TW := tw_of (i := 1025) (by decide +kernel) rfl
theorem mw_1026 : Cond.selects RX4 yX4_hasVoteOf yX4_hasVoteOf ∈ TW := tw_of (i := 1026) (by decide +kernel) rfl
theorem mw_1027 : Cond.code yX4_hasVoteOf cX4_hasVoteOf 3 (some .boolean) ∈ TW := tw_of (i := 1027) (by decide +kernel) rfl
theorem mw_1028 : Cond.methodLink RX8 344 yJ4_append_cf468 ∈ TW := tw_of (i := 1028) (by decide +kernel) rfl
theorem mw_1029 : Cond.methodLink RX8 348 yJ4_append_bf812 ∈ TW := tw_of (i := 1029) (by decide +kernel) rfl
theorem mw_1034 : Cond.methodLink RX8 351 yJ4_charAt_5068e ∈ TW := tw_of (i := 1034) (by decide +kernel) rfl
theorem mw_1039 : Cond.methodLink RX8 355 yX4_countLines ∈ TW := tw_of (i := 1039) (by decide +kernel) rfl
theorem mw_1040 : Cond.instanceMethod yX4_countLines ∈ TW := tw_of (i := 1040) (by decide +kernel) rfl
theorem mw_1041 : Cond.selects RX4 yX4_countLines yX4_countLines ∈ TW := tw_of (i := 1041) (by decide +kernel) rfl
theorem mw_1042 : Cond.code yX4_countLines cX4_countLines 3 (some .int) ∈ TW := tw_of (i := 1042) (by decide +kernel) rfl
theorem mw_1047 : Cond.methodLink RX8 358 yX4_countKnownLines ∈ TW := tw_of (i := 1047) (by decide +kernel) rfl
theorem mw_1048 : Cond.instanceMethod yX4_countKnownLines ∈ TW := tw_of (i := 1048) (by decide +kernel) rfl
theorem mw_1049 : Cond.selects RX4 yX4_countKnownLines yX4_countKnownLines ∈ TW := tw_of (i := 1049) (by decide +kernel) rfl
theorem mw_1050 : Cond.code yX4_countKnownLines cX4_countKnownLines 3 (some .int) ∈ TW := tw_of (i := 1050) (by decide +kernel) rfl
theorem mw_1055 : Cond.methodLink RX8 364 yX4_greatestTerm ∈ TW := tw_of (i := 1055) (by decide +kernel) rfl
theorem mw_1056 : Cond.instanceMethod yX4_greatestTerm ∈ TW := tw_of (i := 1056) (by decide +kernel) rfl
theorem mw_1057 : Cond.selects RX4 yX4_greatestTerm yX4_greatestTerm ∈ TW := tw_of (i := 1057) (by decide +kernel) rfl
theorem mw_1058 : Cond.code yX4_greatestTerm cX4_greatestTerm 3 (some .int) ∈ TW := tw_of (i := 1058) (by decide +kernel) rfl
theorem mw_1528 : Cond.methodLink RX9 291 yX9_allOf ∈ TW := tw_of (i := 1528) (by decide +kernel) rfl
theorem mw_1530 : Cond.instanceMethod yX9_allOf ∈ TW := tw_of (i := 1530) (by decide +kernel) rfl
theorem mw_1531 : Cond.code yX9_allOf cX9_allOf 4 (some .int) ∈ TW := tw_of (i := 1531) (by decide +kernel) rfl
theorem mw_1565 : Cond.fieldLink RX6 71 "LogRaft$Word" "signs" "Ljava/lang/String;" ∈ TW := tw_of (i := 1565) (by decide +kernel) rfl
theorem uin_X1 : ∀ w ∈ u_ws RX1 TX1 3, w ∈ TW := by decide +kernel
theorem uin_X6 : ∀ w ∈ u_ws RX6 TX6 4, w ∈ TW := by decide +kernel
theorem fl_X6_12 : FL RX6 12 6 0 true (.object "java/lang/StringBuilder") := ⟨RX6, TX6, 4, tyX6, rfl, by decide, mw_328, uin_X6, tyX6_ok, nmX6, rfl, by decide +kernel⟩
theorem fl_X6_41 : FL RX6 41 6 3 false .int := ⟨RX6, TX6, 4, tyX6, rfl, by decide, mw_333, uin_X6, tyX6_ok, nmX6, rfl, by decide +kernel⟩
theorem fl_X6_60 : FL RX6 60 1 2 false .int := ⟨RX1, TX1, 3, tyX1, rfl, by decide, mw_319, uin_X1, tyX1_ok, nmX1, rfl, by decide +kernel⟩
theorem fl_X8_39 : FL RX8 39 7 5 true (.object "LogRaft$Text") := ⟨RX8, TX8, 9, tyX8, rfl, by decide, mw_351, uin_X8, tyX8_ok, nmX8, rfl, by decide +kernel⟩
theorem fl_X8_46 : FL RX8 46 7 6 true (.object "java/lang/StringBuilder") := ⟨RX8, TX8, 9, tyX8, rfl, by decide, mw_352, uin_X8, tyX8_ok, nmX8, rfl, by decide +kernel⟩
theorem fl_X8_367 : FL RX8 367 4 5 false .int := ⟨RX4, TX4, 10, tyX4, rfl, by decide, mw_197, uin_X4, tyX4_ok, nmX4, rfl, by decide +kernel⟩
theorem fl_X8_370 : FL RX8 370 4 7 false .int := ⟨RX4, TX4, 10, tyX4, rfl, by decide, mw_201, uin_X4, tyX4_ok, nmX4, rfl, by decide +kernel⟩
theorem fl_X8_373 : FL RX8 373 4 8 false .int := ⟨RX4, TX4, 10, tyX4, rfl, by decide, mw_203, uin_X4, tyX4_ok, nmX4, rfl, by decide +kernel⟩
theorem fl_X8_376 : FL RX8 376 4 9 false .int := ⟨RX4, TX4, 10, tyX4, rfl, by decide, mw_205, uin_X4, tyX4_ok, nmX4, rfl, by decide +kernel⟩
theorem fl_X6_116 : FL RX6 116 1 1 false .int := ⟨RX1, TX1, 3, tyX1, rfl, by decide, mw_317, uin_X1, tyX1_ok, nmX1, rfl, by decide +kernel⟩
theorem fl_X6_56 : FL RX6 56 1 0 false (.object "LogRaft$Word") := ⟨RX1, TX1, 3, tyX1, rfl, by decide, mw_315, uin_X1, tyX1_ok, nmX1, rfl, by decide +kernel⟩
theorem fl_X6_37 : FL RX6 37 6 2 false .int := ⟨RX6, TX6, 4, tyX6, rfl, by decide, mw_331, uin_X6, tyX6_ok, nmX6, rfl, by decide +kernel⟩
theorem fl_X6_20 : FL RX6 20 6 1 true (.array (.object "LogRaft$Command")) := ⟨RX6, TX6, 4, tyX6, rfl, by decide, mw_329, uin_X6, tyX6_ok, nmX6, rfl, by decide +kernel⟩
theorem fl_X8_117 : FL RX8 117 6 2 false .int := ⟨RX6, TX6, 4, tyX6, rfl, by decide, mw_332, uin_X6, tyX6_ok, nmX6, rfl, by decide +kernel⟩
theorem fl_X8_118 : FL RX8 118 6 1 true (.array (.object "LogRaft$Command")) := ⟨RX6, TX6, 4, tyX6, rfl, by decide, mw_330, uin_X6, tyX6_ok, nmX6, rfl, by decide +kernel⟩
theorem fl_X8_122 : FL RX8 122 1 0 false (.object "LogRaft$Word") := ⟨RX1, TX1, 3, tyX1, rfl, by decide, mw_316, uin_X1, tyX1_ok, nmX1, rfl, by decide +kernel⟩
theorem fl_X8_127 : FL RX8 127 1 1 false .int := ⟨RX1, TX1, 3, tyX1, rfl, by decide, mw_318, uin_X1, tyX1_ok, nmX1, rfl, by decide +kernel⟩
theorem fl_X8_130 : FL RX8 130 1 2 false .int := ⟨RX1, TX1, 3, tyX1, rfl, by decide, mw_320, uin_X1, tyX1_ok, nmX1, rfl, by decide +kernel⟩
theorem fl_X8_110 : FL RX8 110 6 3 false .int := ⟨RX6, TX6, 4, tyX6, rfl, by decide, mw_334, uin_X6, tyX6_ok, nmX6, rfl, by decide +kernel⟩
theorem mv_X9_291 : MV RX9 291 yX9_allOf cX9_allOf 4 (some .int) 1 := ⟨gi_cons mw_1528 (gi_cons mw_1530 (gi_cons mw_80 (gi_cons mw_94 (gi_cons mw_1531 tw_good)))), by decide +kernel⟩
theorem mv_X2_72 : MV RX2 72 yJ4_append_cf468 cJ4_append_cf468 2 (some (.object "java/lang/StringBuilder")) 1 := ⟨gi_cons mw_984 (gi_cons mw_402 (gi_cons mw_403 (gi_cons mw_90 (gi_cons mw_404 tw_good)))), by decide +kernel⟩
theorem mv_X2_78 : MV RX2 78 yJ4_append_bf812 cJ4_append_bf812 2 (some (.object "java/lang/StringBuilder")) 1 := ⟨gi_cons mw_985 (gi_cons mw_986 (gi_cons mw_987 (gi_cons mw_90 (gi_cons mw_988 tw_good)))), by decide +kernel⟩
theorem mv_X6_25 : MV RX6 25 yJ4_length_8abf5 cJ4_length_8abf5 1 (some .int) 0 := ⟨gi_cons mw_394 (gi_cons mw_395 (gi_cons mw_396 (gi_cons mw_90 (gi_cons mw_397 tw_good)))), by decide +kernel⟩
theorem mv_X6_29 : MV RX6 29 yJ4_append_cf468 cJ4_append_cf468 2 (some (.object "java/lang/StringBuilder")) 1 := ⟨gi_cons mw_401 (gi_cons mw_402 (gi_cons mw_403 (gi_cons mw_90 (gi_cons mw_404 tw_good)))), by decide +kernel⟩
theorem mv_X6_97 : MV RX6 97 yJ4_charAt_5068e cJ4_charAt_5068e 2 (some .char) 1 := ⟨gi_cons mw_772 (gi_cons mw_773 (gi_cons mw_774 (gi_cons mw_90 (gi_cons mw_775 tw_good)))), by decide +kernel⟩
theorem mv_X6_122 : MV RX6 122 yX6_takeBetween cX6_takeBetween 4 (some .int) 2 := ⟨gi_cons mw_797 (gi_cons mw_799 (gi_cons mw_19 (gi_cons mw_88 (gi_cons mw_800 tw_good)))), by decide +kernel⟩
theorem mv_X6_33 : MV RX6 33 yJ4_setLength_d00df cJ4_setLength_d00df 2 none 1 := ⟨gi_cons mw_817 (gi_cons mw_818 (gi_cons mw_819 (gi_cons mw_90 (gi_cons mw_820 tw_good)))), by decide +kernel⟩
theorem mv_X8_63 : MV RX8 63 yX6_add cX6_add 2 (some .boolean) 1 := ⟨gi_cons mw_390 (gi_cons mw_391 (gi_cons mw_392 (gi_cons mw_88 (gi_cons mw_393 tw_good)))), by decide +kernel⟩
theorem mv_X8_67 : MV RX8 67 yX6_size cX6_size 1 (some .int) 0 := ⟨gi_cons mw_496 (gi_cons mw_497 (gi_cons mw_498 (gi_cons mw_88 (gi_cons mw_499 tw_good)))), by decide +kernel⟩
theorem mv_X8_330 : MV RX8 330 yJ4_setLength_d00df cJ4_setLength_d00df 2 none 1 := ⟨gi_cons mw_979 (gi_cons mw_818 (gi_cons mw_819 (gi_cons mw_90 (gi_cons mw_820 tw_good)))), by decide +kernel⟩
theorem mv_X8_334 : MV RX8 334 yX2_writeOn cX2_writeOn 3 none 1 := ⟨gi_cons mw_980 (gi_cons mw_981 (gi_cons mw_982 (gi_cons mw_85 (gi_cons mw_983 tw_good)))), by decide +kernel⟩
theorem mv_X8_338 : MV RX8 338 yJ4_length_8abf5 cJ4_length_8abf5 1 (some .int) 0 := ⟨gi_cons mw_1019 (gi_cons mw_395 (gi_cons mw_396 (gi_cons mw_90 (gi_cons mw_397 tw_good)))), by decide +kernel⟩
theorem mv_X8_344 : MV RX8 344 yJ4_append_cf468 cJ4_append_cf468 2 (some (.object "java/lang/StringBuilder")) 1 := ⟨gi_cons mw_1028 (gi_cons mw_402 (gi_cons mw_403 (gi_cons mw_90 (gi_cons mw_404 tw_good)))), by decide +kernel⟩
theorem mv_X8_341 : MV RX8 341 yX4_hasVoteOf cX4_hasVoteOf 3 (some .boolean) 2 := ⟨gi_cons mw_1024 (gi_cons mw_1025 (gi_cons mw_1026 (gi_cons mw_84 (gi_cons mw_1027 tw_good)))), by decide +kernel⟩
theorem mv_X8_348 : MV RX8 348 yJ4_append_bf812 cJ4_append_bf812 2 (some (.object "java/lang/StringBuilder")) 1 := ⟨gi_cons mw_1029 (gi_cons mw_986 (gi_cons mw_987 (gi_cons mw_90 (gi_cons mw_988 tw_good)))), by decide +kernel⟩
theorem mv_X8_351 : MV RX8 351 yJ4_charAt_5068e cJ4_charAt_5068e 2 (some .char) 1 := ⟨gi_cons mw_1034 (gi_cons mw_773 (gi_cons mw_774 (gi_cons mw_90 (gi_cons mw_775 tw_good)))), by decide +kernel⟩
theorem mv_X8_355 : MV RX8 355 yX4_countLines cX4_countLines 3 (some .int) 0 := ⟨gi_cons mw_1039 (gi_cons mw_1040 (gi_cons mw_1041 (gi_cons mw_84 (gi_cons mw_1042 tw_good)))), by decide +kernel⟩
theorem mv_X8_358 : MV RX8 358 yX4_countKnownLines cX4_countKnownLines 3 (some .int) 0 := ⟨gi_cons mw_1047 (gi_cons mw_1048 (gi_cons mw_1049 (gi_cons mw_84 (gi_cons mw_1050 tw_good)))), by decide +kernel⟩
theorem mv_X8_364 : MV RX8 364 yX4_greatestTerm cX4_greatestTerm 3 (some .int) 0 := ⟨gi_cons mw_1055 (gi_cons mw_1056 (gi_cons mw_1057 (gi_cons mw_84 (gi_cons mw_1058 tw_good)))), by decide +kernel⟩
theorem mv_X6_86 : MV RX6 86 yJ0_length_8abf5 cJ0_length_8abf5 1 (some .int) 0 := ⟨gi_cons mw_741 (gi_cons mw_742 (gi_cons mw_743 (gi_cons mw_91 (gi_cons mw_744 tw_good)))), by decide +kernel⟩
theorem mv_X6_89 : MV RX6 89 yJ0_charAt_5068e cJ0_charAt_5068e 2 (some .char) 1 := ⟨gi_cons mw_750 (gi_cons mw_751 (gi_cons mw_752 (gi_cons mw_91 (gi_cons mw_753 tw_good)))), by decide +kernel⟩
theorem mv_X6_93 : MV RX6 93 yX6_isHere cX6_isHere 4 (some .boolean) 2 := ⟨gi_cons mw_768 (gi_cons mw_770 (gi_cons mw_15 (gi_cons mw_88 (gi_cons mw_771 tw_good)))), by decide +kernel⟩
theorem mv_X6_119 : MV RX6 119 yX6_takeDigit cX6_takeDigit 2 (some .int) 0 := ⟨gi_cons mw_793 (gi_cons mw_795 (gi_cons mw_18 (gi_cons mw_88 (gi_cons mw_796 tw_good)))), by decide +kernel⟩
theorem mv_X6_76 : MV RX6 76 yX6_countFitting cX6_countFitting 3 (some .int) 1 := ⟨gi_cons mw_737 (gi_cons mw_739 (gi_cons mw_14 (gi_cons mw_88 (gi_cons mw_740 tw_good)))), by decide +kernel⟩
theorem mo_X6_104 : GoodIn TW (va_wsU RX6 104 RX7 "java/lang/Enum" yWord_ordinal yJx29ce0_ordinal_8abf5 (.code yJx29ce0_ordinal_8abf5 cJx29ce0_ordinal_8abf5 1 (some .int) :: TW)) := gi_cons mw_788 (gi_cons mw_529 (gi_cons mw_531 (gi_cons mw_532 (gi_cons mw_101 (gi_cons mw_533 tw_good)))))
theorem mv_X6_107 : MV RX6 107 yX6_takeFirst cX6_takeFirst 2 (some .boolean) 1 := ⟨gi_cons mw_789 (gi_cons mw_791 (gi_cons mw_17 (gi_cons mw_88 (gi_cons mw_792 tw_good)))), by decide +kernel⟩
theorem mv_X6_48 : MV RX6 48 yX6_takeSign cX6_takeSign 2 (some .boolean) 1 := ⟨gi_cons mw_801 (gi_cons mw_803 (gi_cons mw_20 (gi_cons mw_88 (gi_cons mw_804 tw_good)))), by decide +kernel⟩
theorem mv_X6_110 : MV RX6 110 yX6_takeLetter cX6_takeLetter 2 (some .boolean) 1 := ⟨gi_cons mw_805 (gi_cons mw_807 (gi_cons mw_21 (gi_cons mw_88 (gi_cons mw_808 tw_good)))), by decide +kernel⟩
theorem mv_X6_113 : MV RX6 113 yX6_takeSecond cX6_takeSecond 2 (some .boolean) 1 := ⟨gi_cons mw_809 (gi_cons mw_811 (gi_cons mw_22 (gi_cons mw_88 (gi_cons mw_812 tw_good)))), by decide +kernel⟩
theorem mv_X6_52 : MV RX6 52 yX6_takeWord cX6_takeWord 5 (some (.object "LogRaft$Word")) 0 := ⟨gi_cons mw_731 (gi_cons mw_733 (gi_cons mw_13 (gi_cons mw_88 (gi_cons mw_734 tw_good)))), by decide +kernel⟩
theorem mv_X6_63 : MV RX6 63 yX6_takeArguments cX6_takeArguments 2 (some .boolean) 1 := ⟨gi_cons mw_783 (gi_cons mw_785 (gi_cons mw_16 (gi_cons mw_88 (gi_cons mw_786 tw_good)))), by decide +kernel⟩
theorem mv_X6_44 : MV RX6 44 yX6_takeCommand cX6_takeCommand 3 (some .boolean) 0 := ⟨gi_cons mw_727 (gi_cons mw_729 (gi_cons mw_12 (gi_cons mw_88 (gi_cons mw_730 tw_good)))), by decide +kernel⟩
theorem mv_X8_105 : MV RX8 105 yX6_parse cX6_parse 3 (some .boolean) 0 := ⟨gi_cons mw_723 (gi_cons mw_724 (gi_cons mw_725 (gi_cons mw_88 (gi_cons mw_726 tw_good)))), by decide +kernel⟩
theorem mv_X8_109 : MV RX8 109 yX6_empty cX6_empty 1 none 0 := ⟨gi_cons mw_813 (gi_cons mw_814 (gi_cons mw_815 (gi_cons mw_88 (gi_cons mw_816 tw_good)))), by decide +kernel⟩
theorem mv_X8_136 : MV RX8 136 yX8_refuseCommand cX8_refuseCommand 3 (some .int) 2 := ⟨gi_cons mw_837 (gi_cons mw_839 (gi_cons mw_23 (gi_cons mw_83 (gi_cons mw_840 tw_good)))), by decide +kernel⟩
