theorem lb_32 : (Int8.ofInt (32)).toInt32 = (32 : Int32) := by decide
theorem lb_48 : (Int8.ofInt (48)).toInt32 = (48 : Int32) := by decide
theorem lb_57 : (Int8.ofInt (57)).toInt32 = (57 : Int32) := by decide
theorem lb_59 : (Int8.ofInt (59)).toInt32 = (59 : Int32) := by decide
theorem lb_60 : (Int8.ofInt (60)).toInt32 = (60 : Int32) := by decide
theorem lb_126 : (Int8.ofInt (126)).toInt32 = (126 : Int32) := by decide
theorem mw_13 : Cond.selects RX6 yX6_takeCommand yX6_takeCommand ∈ TW := tw_of (i := 13) (by decide +kernel) rfl
theorem mw_14 : Cond.selects RX6 yX6_takeWord yX6_takeWord ∈ TW := tw_of (i := 14) (by decide +kernel) rfl
theorem mw_15 : Cond.selects RX6 yX6_countFitting yX6_countFitting ∈ TW := tw_of (i := 15) (by decide +kernel) rfl
theorem mw_16 : Cond.selects RX6 yX6_isHere yX6_isHere ∈ TW := tw_of (i := 16) (by decide +kernel) rfl
theorem mw_17 : Cond.selects RX6 yX6_takeArguments yX6_takeArguments ∈ TW := tw_of (i := 17) (by decide +kernel) rfl
theorem mw_18 : Cond.selects RX6 yX6_takeFirst yX6_takeFirst ∈ TW := tw_of (i := 18) (by decide +kernel) rfl
theorem mw_19 : Cond.selects RX6 yX6_takeDigit yX6_takeDigit ∈ TW := tw_of (i := 19) (by decide +kernel) rfl
theorem mw_20 : Cond.selects RX6 yX6_takeBetween yX6_takeBetween ∈ TW := tw_of (i := 20) (by decide +kernel) rfl
theorem mw_21 : Cond.selects RX6 yX6_takeSign yX6_takeSign ∈ TW := tw_of (i := 21) (by decide +kernel) rfl
theorem mw_22 : Cond.selects RX6 yX6_takeLetter yX6_takeLetter ∈ TW := tw_of (i := 22) (by decide +kernel) rfl
theorem mw_23 : Cond.selects RX6 yX6_takeSecond yX6_takeSecond ∈ TW := tw_of (i := 23) (by decide +kernel) rfl
theorem mw_24 : Cond.selects RX8 yX8_refuseCommand yX8_refuseCommand ∈ TW := tw_of (i := 24) (by decide +kernel) rfl
theorem mw_31 : Cond.initialized RX6 ∈ TW := tw_of (i := 31) (by decide +kernel) rfl
theorem mw_33 : Cond.initialized RJ4 ∈ TW := tw_of (i := 33) (by decide +kernel) rfl
theorem mw_282 : Cond.methodLink RX8 364 yX4_greatestTerm ∈ TW := tw_of (i := 282) (by decide +kernel) rfl
theorem mw_283 : Cond.instanceMethod yX4_greatestTerm ∈ TW := tw_of (i := 283) (by decide +kernel) rfl
theorem mw_284 : Cond.selects RX4 yX4_greatestTerm yX4_greatestTerm ∈ TW := tw_of (i := 284) (by decide +kernel) rfl
theorem mw_285 : Cond.code yX4_greatestTerm cX4_greatestTerm 3 (some .int) ∈ TW := tw_of (i := 285) (by decide +kernel) rfl
theorem mw_287 : Cond.methodLink RX8 67 yX6_size ∈ TW := tw_of (i := 287) (by decide +kernel) rfl
theorem mw_288 : Cond.instanceMethod yX6_size ∈ TW := tw_of (i := 288) (by decide +kernel) rfl
theorem mw_289 : Cond.selects RX6 yX6_size yX6_size ∈ TW := tw_of (i := 289) (by decide +kernel) rfl
theorem mw_290 : Cond.code yX6_size cX6_size 1 (some .int) ∈ TW := tw_of (i := 290) (by decide +kernel) rfl
theorem mw_291 : Cond.methodLink RX6 25 yJ4_length_8abf5 ∈ TW := tw_of (i := 291) (by decide +kernel) rfl
theorem mw_292 : Cond.instanceMethod yJ4_length_8abf5 ∈ TW := tw_of (i := 292) (by decide +kernel) rfl
theorem mw_293 : Cond.selects RJ4 yJ4_length_8abf5 yJ4_length_8abf5 ∈ TW := tw_of (i := 293) (by decide +kernel) rfl
theorem mw_294 : Cond.code yJ4_length_8abf5 cJ4_length_8abf5 1 (some .int) ∈ TW := tw_of (i := 294) (by decide +kernel) rfl
theorem mw_420 : Cond.fieldLink RX8 367 (TX4 5).1 (TX4 5).2.1 (TX4 5).2.2.1 ∈ TW := tw_of (i := 420) (by decide +kernel) rfl
theorem mw_424 : Cond.fieldLink RX8 370 (TX4 7).1 (TX4 7).2.1 (TX4 7).2.2.1 ∈ TW := tw_of (i := 424) (by decide +kernel) rfl
theorem mw_426 : Cond.fieldLink RX8 373 (TX4 8).1 (TX4 8).2.1 (TX4 8).2.2.1 ∈ TW := tw_of (i := 426) (by decide +kernel) rfl
theorem mw_428 : Cond.fieldLink RX8 376 (TX4 9).1 (TX4 9).2.1 (TX4 9).2.2.1 ∈ TW := tw_of (i := 428) (by decide +kernel) rfl
theorem mw_534 : Cond.fieldLink RX6 56 (TX1 0).1 (TX1 0).2.1 (TX1 0).2.2.1 ∈ TW := tw_of (i := 534) (by decide +kernel) rfl
theorem mw_535 : Cond.fieldLink RX8 122 (TX1 0).1 (TX1 0).2.1 (TX1 0).2.2.1 ∈ TW := tw_of (i := 535) (by decide +kernel) rfl
theorem mw_536 : Cond.fieldLink RX6 116 (TX1 1).1 (TX1 1).2.1 (TX1 1).2.2.1 ∈ TW := tw_of (i := 536) (by decide +kernel) rfl
theorem mw_537 : Cond.fieldLink RX8 127 (TX1 1).1 (TX1 1).2.1 (TX1 1).2.2.1 ∈ TW := tw_of (i := 537) (by decide +kernel) rfl
theorem mw_538 : Cond.fieldLink RX6 60 (TX1 2).1 (TX1 2).2.1 (TX1 2).2.2.1 ∈ TW := tw_of (i := 538) (by decide +kernel) rfl
theorem mw_539 : Cond.fieldLink RX8 130 (TX1 2).1 (TX1 2).2.1 (TX1 2).2.2.1 ∈ TW := tw_of (i := 539) (by decide +kernel) rfl
theorem mw_547 : Cond.fieldLink RX6 12 (TX6 0).1 (TX6 0).2.1 (TX6 0).2.2.1 ∈ TW := tw_of (i := 547) (by decide +kernel) rfl
theorem mw_548 : Cond.fieldLink RX6 20 (TX6 1).1 (TX6 1).2.1 (TX6 1).2.2.1 ∈ TW := tw_of (i := 548) (by decide +kernel) rfl
theorem mw_549 : Cond.fieldLink RX8 118 (TX6 1).1 (TX6 1).2.1 (TX6 1).2.2.1 ∈ TW := tw_of (i := 549) (by decide +kernel) rfl
theorem mw_550 : Cond.fieldLink RX6 37 (TX6 2).1 (TX6 2).2.1 (TX6 2).2.2.1 ∈ TW := tw_of (i := 550) (by decide +kernel) rfl
theorem mw_551 : Cond.fieldLink RX8 117 (TX6 2).1 (TX6 2).2.1 (TX6 2).2.2.1 ∈ TW := tw_of (i := 551) (by decide +kernel) rfl
theorem mw_552 : Cond.fieldLink RX6 41 (TX6 3).1 (TX6 3).2.1 (TX6 3).2.2.1 ∈ TW := tw_of (i := 552) (by decide +kernel) rfl
theorem mw_553 : Cond.fieldLink RX8 110 (TX6 3).1 (TX6 3).2.1 (TX6 3).2.2.1 ∈ TW := tw_of (i := 553) (by decide +kernel) rfl
theorem mw_570 : Cond.fieldLink RX8 39 (TX8 5).1 (TX8 5).2.1 (TX8 5).2.2.1 ∈ TW := tw_of (i := 570) (by decide +kernel) rfl
theorem mw_573 : Cond.fieldLink RX8 50 (TX8 8).1 (TX8 8).2.1 (TX8 8).2.2.1 ∈ TW := tw_of (i := 573) (by decide +kernel) rfl
theorem mw_714 : Cond.instanceMethod yJ0_length_8abf5 ∈ TW := tw_of (i := 714) (by decide +kernel) rfl
theorem mw_715 : Cond.selects RJ0 yJ0_length_8abf5 yJ0_length_8abf5 ∈ TW := tw_of (i := 715) (by decide +kernel) rfl
theorem mw_716 : Cond.code yJ0_length_8abf5 cJ0_length_8abf5 1 (some .int) ∈ TW := tw_of (i := 716) (by decide +kernel) rfl
theorem mw_843 : Cond.instanceMethod yJ0_charAt_5068e ∈ TW := tw_of (i := 843) (by decide +kernel) rfl
theorem mw_844 : Cond.selects RJ0 yJ0_charAt_5068e yJ0_charAt_5068e ∈ TW := tw_of (i := 844) (by decide +kernel) rfl
theorem mw_845 : Cond.code yJ0_charAt_5068e cJ0_charAt_5068e 2 (some .char) ∈ TW := tw_of (i := 845) (by decide +kernel) rfl
theorem mw_870 : Cond.methodLink RX8 63 yX6_add ∈ TW := tw_of (i := 870) (by decide +kernel) rfl
theorem mw_871 : Cond.instanceMethod yX6_add ∈ TW := tw_of (i := 871) (by decide +kernel) rfl
theorem mw_872 : Cond.selects RX6 yX6_add yX6_add ∈ TW := tw_of (i := 872) (by decide +kernel) rfl
theorem mw_873 : Cond.code yX6_add cX6_add 2 (some .boolean) ∈ TW := tw_of (i := 873) (by decide +kernel) rfl
theorem mw_874 : Cond.methodLink RX6 29 yJ4_append_cf468 ∈ TW := tw_of (i := 874) (by decide +kernel) rfl
theorem mw_875 : Cond.instanceMethod yJ4_append_cf468 ∈ TW := tw_of (i := 875) (by decide +kernel) rfl
theorem mw_876 : Cond.selects RJ4 yJ4_append_cf468 yJ4_append_cf468 ∈ TW := tw_of (i := 876) (by decide +kernel) rfl
theorem mw_877 : Cond.code yJ4_append_cf468 cJ4_append_cf468 2 (some (.object "java/lang/StringBuilder")) ∈ TW := tw_of (i := 877) (by decide +kernel) rfl
theorem mw_891 : Cond.methodLink RX8 105 yX6_parse ∈ TW := tw_of (i := 891) (by decide +kernel) rfl
theorem mw_892 : Cond.instanceMethod yX6_parse ∈ TW := tw_of (i := 892) (by decide +kernel) rfl
theorem mw_893 : Cond.selects RX6 yX6_parse yX6_parse ∈ TW := tw_of (i := 893) (by decide +kernel) rfl
theorem mw_894 : Cond.code yX6_parse cX6_parse 3 (some .boolean) ∈ TW := tw_of (i := 894) (by decide +kernel) rfl
theorem mw_895 : Cond.methodLink RX6 44 yX6_takeCommand ∈ TW := tw_of (i := 895) (by decide +kernel) rfl
theorem mw_897 : Cond.instanceMethod yX6_takeCommand ∈ TW := tw_of (i := 897) (by decide +kernel) rfl
theorem mw_898 : Cond.code yX6_takeCommand cX6_takeCommand 3 (some .boolean) ∈ TW := tw_of (i := 898) (by decide +kernel) rfl
theorem mw_899 : Cond.methodLink RX6 52 yX6_takeWord ∈ TW := tw_of (i := 899) (by decide +kernel) rfl
theorem mw_901 : Cond.instanceMethod yX6_takeWord ∈ TW := tw_of (i := 901) (by decide +kernel) rfl
theorem mw_902 : Cond.code yX6_takeWord cX6_takeWord 5 (some (.object "LogRaft$Word")) ∈ TW := tw_of (i := 902) (by decide +kernel) rfl
theorem mw_905 : Cond.methodLink RX6 76 yX6_countFitting ∈ TW := tw_of (i := 905) (by decide +kernel) rfl
theorem mw_907 : Cond.instanceMethod yX6_countFitting ∈ TW := tw_of (i := 907) (by decide +kernel) rfl
theorem mw_908 : Cond.code yX6_countFitting cX6_countFitting 3 (some .int) ∈ TW := tw_of (i := 908) (by decide +kernel) rfl
theorem mw_909 : Cond.methodLink RX6 86 yJ0_length_8abf5 ∈ TW := tw_of (i := 909) (by decide +kernel) rfl
theorem mw_910 : Cond.methodLink RX6 89 yJ0_charAt_5068e ∈ TW := tw_of (i := 910) (by decide +kernel) rfl
theorem mw_911 : Cond.methodLink RX6 93 yX6_isHere ∈ TW := tw_of (i := 911) (by decide +kernel) rfl
theorem mw_913 : Cond.instanceMethod yX6_isHere ∈ TW := tw_of (i := 913) (by decide +kernel) rfl
theorem mw_914 : Cond.code yX6_isHere cX6_isHere 4 (some .boolean) ∈ TW := tw_of (i := 914) (by decide +kernel) rfl
theorem mw_915 : Cond.methodLink RX6 97 yJ4_charAt_5068e ∈ TW := tw_of (i := 915) (by decide +kernel) rfl
theorem mw_916 : Cond.instanceMethod yJ4_charAt_5068e ∈ TW := tw_of (i := 916) (by decide +kernel) rfl
theorem mw_917 : Cond.selects RJ4 yJ4_charAt_5068e yJ4_charAt_5068e ∈ TW := tw_of (i := 917) (by decide +kernel) rfl
theorem mw_918 : Cond.code yJ4_charAt_5068e cJ4_charAt_5068e 2 (some .char) ∈ TW := tw_of (i := 918) (by decide +kernel) rfl
theorem mw_925 : Cond.methodLink RX6 80 Lib.Math.max.name ∈ TW := tw_of (i := 925) (by decide +kernel) rfl
theorem mw_926 : Cond.methodLink RX6 63 yX6_takeArguments ∈ TW := tw_of (i := 926) (by decide +kernel) rfl
theorem mw_928 : Cond.instanceMethod yX6_takeArguments ∈ TW := tw_of (i := 928) (by decide +kernel) rfl
theorem mw_929 : Cond.code yX6_takeArguments cX6_takeArguments 2 (some .boolean) ∈ TW := tw_of (i := 929) (by decide +kernel) rfl
theorem mw_930 : Cond.fieldLink RX6 98 "LogRaft$1" "$SwitchMap$LogRaft$Word" "[I" ∈ TW := tw_of (i := 930) (by decide +kernel) rfl
theorem mw_931 : Cond.methodLink RX6 104 yWord_ordinal ∈ TW := tw_of (i := 931) (by decide +kernel) rfl
theorem mw_932 : Cond.methodLink RX6 107 yX6_takeFirst ∈ TW := tw_of (i := 932) (by decide +kernel) rfl
theorem mw_934 : Cond.instanceMethod yX6_takeFirst ∈ TW := tw_of (i := 934) (by decide +kernel) rfl
theorem mw_935 : Cond.code yX6_takeFirst cX6_takeFirst 2 (some .boolean) ∈ TW := tw_of (i := 935) (by decide +kernel) rfl
theorem mw_936 : Cond.methodLink RX6 119 yX6_takeDigit ∈ TW := tw_of (i := 936) (by decide +kernel) rfl
theorem mw_938 : Cond.instanceMethod yX6_takeDigit ∈ TW := tw_of (i := 938) (by decide +kernel) rfl
theorem mw_939 : Cond.code yX6_takeDigit cX6_takeDigit 2 (some .int) ∈ TW := tw_of (i := 939) (by decide +kernel) rfl
theorem mw_940 : Cond.methodLink RX6 122 yX6_takeBetween ∈ TW := tw_of (i := 940) (by decide +kernel) rfl
theorem mw_942 : Cond.instanceMethod yX6_takeBetween ∈ TW := tw_of (i := 942) (by decide +kernel) rfl
theorem mw_943 : Cond.code yX6_takeBetween cX6_takeBetween 4 (some .int) ∈ TW := tw_of (i := 943) (by decide +kernel) rfl
theorem mw_944 : Cond.methodLink RX6 48 yX6_takeSign ∈ TW := tw_of (i := 944) (by decide +kernel) rfl
theorem mw_946 : Cond.instanceMethod yX6_takeSign ∈ TW := tw_of (i := 946) (by decide +kernel) rfl
theorem mw_947 : Cond.code yX6_takeSign cX6_takeSign 2 (some .boolean) ∈ TW := tw_of (i := 947) (by decide +kernel) rfl
theorem mw_948 : Cond.methodLink RX6 110 yX6_takeLetter ∈ TW := tw_of (i := 948) (by decide +kernel) rfl
theorem mw_950 : Cond.instanceMethod yX6_takeLetter ∈ TW := tw_of (i := 950) (by decide +kernel) rfl
theorem mw_951 : Cond.code yX6_takeLetter cX6_takeLetter 2 (some .boolean) ∈ TW := tw_of (i := 951) (by decide +kernel) rfl
theorem mw_952 : Cond.methodLink RX6 113 yX6_takeSecond ∈ TW := tw_of (i := 952) (by decide +kernel) rfl
theorem mw_954 : Cond.instanceMethod yX6_takeSecond ∈ TW := tw_of (i := 954) (by decide +kernel) rfl
theorem mw_955 : Cond.code yX6_takeSecond cX6_takeSecond 2 (some .boolean) ∈ TW := tw_of (i := 955) (by decide +kernel) rfl
theorem mw_956 : Cond.methodLink RX8 109 yX6_empty ∈ TW := tw_of (i := 956) (by decide +kernel) rfl
theorem mw_957 : Cond.instanceMethod yX6_empty ∈ TW := tw_of (i := 957) (by decide +kernel) rfl
theorem mw_958 : Cond.selects RX6 yX6_empty yX6_empty ∈ TW := tw_of (i := 958) (by decide +kernel) rfl
theorem mw_959 : Cond.code yX6_empty cX6_empty 1 none ∈ TW := tw_of (i := 959) (by decide +kernel) rfl
theorem mw_960 : Cond.methodLink RX6 33 yJ4_setLength_d00df ∈ TW := tw_of (i := 960) (by decide +kernel) rfl
theorem mw_961 : Cond.instanceMethod yJ4_setLength_d00df ∈ TW := tw_of (i := 961) (by decide +kernel) rfl
theorem mw_962 : Cond.selects RJ4 yJ4_setLength_d00df yJ4_setLength_d00df ∈ TW := tw_of (i := 962) (by decide +kernel) rfl
theorem mw_963 : Cond.code yJ4_setLength_d00df cJ4_setLength_d00df 2 none ∈ TW := tw_of (i := 963) (by decide +kernel) rfl
theorem mw_980 : Cond.methodLink RX8 136 yX8_refuseCommand ∈ TW := tw_of (i := 980) (by decide +kernel) rfl
theorem mw_982 : Cond.instanceMethod yX8_refuseCommand ∈ TW := tw_of (i := 982) (by decide +kernel) rfl
theorem mw_983 : Cond.code yX8_refuseCommand cX8_refuseCommand 3 (some .int) ∈ TW := tw_of (i := 983) (by decide +kernel) rfl
theorem mw_1049 : Cond.fieldLink RX6 71 "LogRaft$Word" "signs" "Ljava/lang/String;" ∈ TW := tw_of (i := 1049) (by decide +kernel) rfl
theorem uin_X1 : ∀ w ∈ u_ws RX1 TX1 3, w ∈ TW := by decide +kernel
theorem uin_X6 : ∀ w ∈ u_ws RX6 TX6 4, w ∈ TW := by decide +kernel
theorem fl_X6_12 : FL RX6 12 6 0 true (.object "java/lang/StringBuilder") := ⟨RX6, TX6, 4, tyX6, rfl, by decide, mw_547, uin_X6, tyX6_ok, nmX6, rfl, by decide +kernel⟩
theorem fl_X6_41 : FL RX6 41 6 3 false .int := ⟨RX6, TX6, 4, tyX6, rfl, by decide, mw_552, uin_X6, tyX6_ok, nmX6, rfl, by decide +kernel⟩
theorem fl_X6_60 : FL RX6 60 1 2 false .int := ⟨RX1, TX1, 3, tyX1, rfl, by decide, mw_538, uin_X1, tyX1_ok, nmX1, rfl, by decide +kernel⟩
theorem fl_X8_367 : FL RX8 367 4 5 false .int := ⟨RX4, TX4, 10, tyX4, rfl, by decide, mw_420, uin_X4, tyX4_ok, nmX4, rfl, by decide +kernel⟩
theorem fl_X8_370 : FL RX8 370 4 7 false .int := ⟨RX4, TX4, 10, tyX4, rfl, by decide, mw_424, uin_X4, tyX4_ok, nmX4, rfl, by decide +kernel⟩
theorem fl_X8_373 : FL RX8 373 4 8 false .int := ⟨RX4, TX4, 10, tyX4, rfl, by decide, mw_426, uin_X4, tyX4_ok, nmX4, rfl, by decide +kernel⟩
theorem fl_X8_376 : FL RX8 376 4 9 false .int := ⟨RX4, TX4, 10, tyX4, rfl, by decide, mw_428, uin_X4, tyX4_ok, nmX4, rfl, by decide +kernel⟩
theorem fl_X8_39 : FL RX8 39 7 5 true (.object "LogRaft$Text") := ⟨RX8, TX8, 9, tyX8, rfl, by decide, mw_570, uin_X8, tyX8_ok, nmX8, rfl, by decide +kernel⟩
theorem fl_X6_116 : FL RX6 116 1 1 false .int := ⟨RX1, TX1, 3, tyX1, rfl, by decide, mw_536, uin_X1, tyX1_ok, nmX1, rfl, by decide +kernel⟩
theorem fl_X6_56 : FL RX6 56 1 0 false (.object "LogRaft$Word") := ⟨RX1, TX1, 3, tyX1, rfl, by decide, mw_534, uin_X1, tyX1_ok, nmX1, rfl, by decide +kernel⟩
theorem fl_X6_37 : FL RX6 37 6 2 false .int := ⟨RX6, TX6, 4, tyX6, rfl, by decide, mw_550, uin_X6, tyX6_ok, nmX6, rfl, by decide +kernel⟩
theorem fl_X6_20 : FL RX6 20 6 1 true (.array (.object "LogRaft$Command")) := ⟨RX6, TX6, 4, tyX6, rfl, by decide, mw_548, uin_X6, tyX6_ok, nmX6, rfl, by decide +kernel⟩
theorem fl_X8_117 : FL RX8 117 6 2 false .int := ⟨RX6, TX6, 4, tyX6, rfl, by decide, mw_551, uin_X6, tyX6_ok, nmX6, rfl, by decide +kernel⟩
theorem fl_X8_118 : FL RX8 118 6 1 true (.array (.object "LogRaft$Command")) := ⟨RX6, TX6, 4, tyX6, rfl, by decide, mw_549, uin_X6, tyX6_ok, nmX6, rfl, by decide +kernel⟩
theorem fl_X8_122 : FL RX8 122 1 0 false (.object "LogRaft$Word") := ⟨RX1, TX1, 3, tyX1, rfl, by decide, mw_535, uin_X1, tyX1_ok, nmX1, rfl, by decide +kernel⟩
theorem fl_X8_127 : FL RX8 127 1 1 false .int := ⟨RX1, TX1, 3, tyX1, rfl, by decide, mw_537, uin_X1, tyX1_ok, nmX1, rfl, by decide +kernel⟩
theorem fl_X8_130 : FL RX8 130 1 2 false .int := ⟨RX1, TX1, 3, tyX1, rfl, by decide, mw_539, uin_X1, tyX1_ok, nmX1, rfl, by decide +kernel⟩
theorem fl_X8_110 : FL RX8 110 6 3 false .int := ⟨RX6, TX6, 4, tyX6, rfl, by decide, mw_553, uin_X6, tyX6_ok, nmX6, rfl, by decide +kernel⟩
theorem fl_X8_50 : FL RX8 50 7 8 false .int := ⟨RX8, TX8, 9, tyX8, rfl, by decide, mw_573, uin_X8, tyX8_ok, nmX8, rfl, by decide +kernel⟩
theorem mv_X6_25 : MV RX6 25 yJ4_length_8abf5 cJ4_length_8abf5 1 (some .int) 0 := ⟨gi_cons mw_291 (gi_cons mw_292 (gi_cons mw_293 (gi_cons mw_33 (gi_cons mw_294 tw_good)))), by decide +kernel⟩
theorem mv_X6_29 : MV RX6 29 yJ4_append_cf468 cJ4_append_cf468 2 (some (.object "java/lang/StringBuilder")) 1 := ⟨gi_cons mw_874 (gi_cons mw_875 (gi_cons mw_876 (gi_cons mw_33 (gi_cons mw_877 tw_good)))), by decide +kernel⟩
theorem mv_X6_97 : MV RX6 97 yJ4_charAt_5068e cJ4_charAt_5068e 2 (some .char) 1 := ⟨gi_cons mw_915 (gi_cons mw_916 (gi_cons mw_917 (gi_cons mw_33 (gi_cons mw_918 tw_good)))), by decide +kernel⟩
theorem mv_X6_122 : MV RX6 122 yX6_takeBetween cX6_takeBetween 4 (some .int) 2 := ⟨gi_cons mw_940 (gi_cons mw_942 (gi_cons mw_20 (gi_cons mw_31 (gi_cons mw_943 tw_good)))), by decide +kernel⟩
theorem mv_X6_33 : MV RX6 33 yJ4_setLength_d00df cJ4_setLength_d00df 2 none 1 := ⟨gi_cons mw_960 (gi_cons mw_961 (gi_cons mw_962 (gi_cons mw_33 (gi_cons mw_963 tw_good)))), by decide +kernel⟩
theorem mv_X8_364 : MV RX8 364 yX4_greatestTerm cX4_greatestTerm 3 (some .int) 0 := ⟨gi_cons mw_282 (gi_cons mw_283 (gi_cons mw_284 (gi_cons mw_27 (gi_cons mw_285 tw_good)))), by decide +kernel⟩
theorem mv_X8_67 : MV RX8 67 yX6_size cX6_size 1 (some .int) 0 := ⟨gi_cons mw_287 (gi_cons mw_288 (gi_cons mw_289 (gi_cons mw_31 (gi_cons mw_290 tw_good)))), by decide +kernel⟩
theorem mv_X8_63 : MV RX8 63 yX6_add cX6_add 2 (some .boolean) 1 := ⟨gi_cons mw_870 (gi_cons mw_871 (gi_cons mw_872 (gi_cons mw_31 (gi_cons mw_873 tw_good)))), by decide +kernel⟩
theorem mv_X6_86 : MV RX6 86 yJ0_length_8abf5 cJ0_length_8abf5 1 (some .int) 0 := ⟨gi_cons mw_909 (gi_cons mw_714 (gi_cons mw_715 (gi_cons mw_34 (gi_cons mw_716 tw_good)))), by decide +kernel⟩
theorem mv_X6_89 : MV RX6 89 yJ0_charAt_5068e cJ0_charAt_5068e 2 (some .char) 1 := ⟨gi_cons mw_910 (gi_cons mw_843 (gi_cons mw_844 (gi_cons mw_34 (gi_cons mw_845 tw_good)))), by decide +kernel⟩
theorem mv_X6_93 : MV RX6 93 yX6_isHere cX6_isHere 4 (some .boolean) 2 := ⟨gi_cons mw_911 (gi_cons mw_913 (gi_cons mw_16 (gi_cons mw_31 (gi_cons mw_914 tw_good)))), by decide +kernel⟩
theorem mv_X6_119 : MV RX6 119 yX6_takeDigit cX6_takeDigit 2 (some .int) 0 := ⟨gi_cons mw_936 (gi_cons mw_938 (gi_cons mw_19 (gi_cons mw_31 (gi_cons mw_939 tw_good)))), by decide +kernel⟩
theorem mv_X6_76 : MV RX6 76 yX6_countFitting cX6_countFitting 3 (some .int) 1 := ⟨gi_cons mw_905 (gi_cons mw_907 (gi_cons mw_15 (gi_cons mw_31 (gi_cons mw_908 tw_good)))), by decide +kernel⟩
theorem mo_X6_104 : GoodIn TW (va_wsU RX6 104 RX7 "java/lang/Enum" yWord_ordinal yJx29ce0_ordinal_8abf5 (.code yJx29ce0_ordinal_8abf5 cJx29ce0_ordinal_8abf5 1 (some .int) :: TW)) := gi_cons mw_931 (gi_cons mw_77 (gi_cons mw_79 (gi_cons mw_80 (gi_cons mw_37 (gi_cons mw_81 tw_good)))))
theorem mv_X6_107 : MV RX6 107 yX6_takeFirst cX6_takeFirst 2 (some .boolean) 1 := ⟨gi_cons mw_932 (gi_cons mw_934 (gi_cons mw_18 (gi_cons mw_31 (gi_cons mw_935 tw_good)))), by decide +kernel⟩
theorem mv_X6_48 : MV RX6 48 yX6_takeSign cX6_takeSign 2 (some .boolean) 1 := ⟨gi_cons mw_944 (gi_cons mw_946 (gi_cons mw_21 (gi_cons mw_31 (gi_cons mw_947 tw_good)))), by decide +kernel⟩
theorem mv_X6_110 : MV RX6 110 yX6_takeLetter cX6_takeLetter 2 (some .boolean) 1 := ⟨gi_cons mw_948 (gi_cons mw_950 (gi_cons mw_22 (gi_cons mw_31 (gi_cons mw_951 tw_good)))), by decide +kernel⟩
theorem mv_X6_113 : MV RX6 113 yX6_takeSecond cX6_takeSecond 2 (some .boolean) 1 := ⟨gi_cons mw_952 (gi_cons mw_954 (gi_cons mw_23 (gi_cons mw_31 (gi_cons mw_955 tw_good)))), by decide +kernel⟩
theorem mv_X6_52 : MV RX6 52 yX6_takeWord cX6_takeWord 5 (some (.object "LogRaft$Word")) 0 := ⟨gi_cons mw_899 (gi_cons mw_901 (gi_cons mw_14 (gi_cons mw_31 (gi_cons mw_902 tw_good)))), by decide +kernel⟩
theorem mv_X6_63 : MV RX6 63 yX6_takeArguments cX6_takeArguments 2 (some .boolean) 1 := ⟨gi_cons mw_926 (gi_cons mw_928 (gi_cons mw_17 (gi_cons mw_31 (gi_cons mw_929 tw_good)))), by decide +kernel⟩
theorem mv_X6_44 : MV RX6 44 yX6_takeCommand cX6_takeCommand 3 (some .boolean) 0 := ⟨gi_cons mw_895 (gi_cons mw_897 (gi_cons mw_13 (gi_cons mw_31 (gi_cons mw_898 tw_good)))), by decide +kernel⟩
theorem mv_X8_105 : MV RX8 105 yX6_parse cX6_parse 3 (some .boolean) 0 := ⟨gi_cons mw_891 (gi_cons mw_892 (gi_cons mw_893 (gi_cons mw_31 (gi_cons mw_894 tw_good)))), by decide +kernel⟩
theorem mv_X8_109 : MV RX8 109 yX6_empty cX6_empty 1 none 0 := ⟨gi_cons mw_956 (gi_cons mw_957 (gi_cons mw_958 (gi_cons mw_31 (gi_cons mw_959 tw_good)))), by decide +kernel⟩
theorem mv_X8_136 : MV RX8 136 yX8_refuseCommand cX8_refuseCommand 3 (some .int) 2 := ⟨gi_cons mw_980 (gi_cons mw_982 (gi_cons mw_24 (gi_cons mw_26 (gi_cons mw_983 tw_good)))), by decide +kernel⟩
