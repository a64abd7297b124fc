theorem mz_32 : Cond.initialized RJ5 ∈ TW := tw_of (i := 32) (by decide +kernel) rfl
theorem mz_34 : Cond.initialized RJ0 ∈ TW := tw_of (i := 34) (by decide +kernel) rfl
theorem mz_40 : Cond.initialized "java/lang/Math" ∈ TW := tw_of (i := 40) (by decide +kernel) rfl
theorem mz_41 : Cond.initialized RJ8 ∈ TW := tw_of (i := 41) (by decide +kernel) rfl
theorem mz_42 : Cond.initialized RJ7 ∈ TW := tw_of (i := 42) (by decide +kernel) rfl
theorem mz_43 : Cond.initialized "java/lang/System" ∈ TW := tw_of (i := 43) (by decide +kernel) rfl
theorem mz_44 : Cond.initialized RJ3 ∈ TW := tw_of (i := 44) (by decide +kernel) rfl
theorem mz_45 : Cond.initialized RJ1 ∈ TW := tw_of (i := 45) (by decide +kernel) rfl
theorem mz_46 : Cond.initialized RJ6 ∈ TW := tw_of (i := 46) (by decide +kernel) rfl
theorem mz_161 : Cond.static Lib.Math.min.name ∈ TW := tw_of (i := 161) (by decide +kernel) rfl
theorem mz_162 : Cond.code Lib.Math.min.name Lib.Math.min.code 2 (some .int) ∈ TW := tw_of (i := 162) (by decide +kernel) rfl
theorem mz_164 : Cond.static Lib.Math.max.name ∈ TW := tw_of (i := 164) (by decide +kernel) rfl
theorem mz_165 : Cond.code Lib.Math.max.name Lib.Math.max.code 2 (some .int) ∈ TW := tw_of (i := 165) (by decide +kernel) rfl
theorem mz_295 : Cond.methodLink RJ4 343 yJ5_length_8abf5 ∈ TW := tw_of (i := 295) (by decide +kernel) rfl
theorem mz_296 : Cond.superclass RJ4 yJ5_append_c97b9.cls ∈ TW := tw_of (i := 296) (by decide +kernel) rfl
theorem mz_297 : Cond.instanceMethod yJ5_length_8abf5 ∈ TW := tw_of (i := 297) (by decide +kernel) rfl
theorem mz_298 : Cond.code yJ5_length_8abf5 cJ5_length_8abf5 1 (some .int) ∈ TW := tw_of (i := 298) (by decide +kernel) rfl
theorem mz_504 : Cond.fieldLink RJ5 18 "java/lang/String" "COMPACT_STRINGS" "Z" ∈ TW := tw_of (i := 504) (by decide +kernel) rfl
theorem mz_513 : Cond.fieldLink RJ5 15 (TJ4 0).1 (TJ4 0).2.1 (TJ4 0).2.2.1 ∈ TW := tw_of (i := 513) (by decide +kernel) rfl
theorem mz_514 : Cond.fieldLink RJ5 22 (TJ4 1).1 (TJ4 1).2.1 (TJ4 1).2.2.1 ∈ TW := tw_of (i := 514) (by decide +kernel) rfl
theorem mz_515 : Cond.fieldLink RJ5 73 (TJ4 2).1 (TJ4 2).2.1 (TJ4 2).2.2.1 ∈ TW := tw_of (i := 515) (by decide +kernel) rfl
theorem mz_517 : Cond.fieldLink RJ5 79 (TJ4 3).1 (TJ4 3).2.1 (TJ4 3).2.2.1 ∈ TW := tw_of (i := 517) (by decide +kernel) rfl
theorem mz_526 : Cond.arrayClass .byte ∈ TW := tw_of (i := 526) (by decide +kernel) rfl
theorem mz_651 : Cond.methodLink RJ5 100 yJ5_ensureCapacityInternal_d00df ∈ TW := tw_of (i := 651) (by decide +kernel) rfl
theorem mz_653 : Cond.instanceMethod yJ5_ensureCapacityInternal_d00df ∈ TW := tw_of (i := 653) (by decide +kernel) rfl
theorem mz_654 : Cond.code yJ5_ensureCapacityInternal_d00df cJ5_ensureCapacityInternal_d00df 3 none ∈ TW := tw_of (i := 654) (by decide +kernel) rfl
theorem mz_655 : Cond.methodLink RJ5 104 yJ5_newCapacity_0f7a4 ∈ TW := tw_of (i := 655) (by decide +kernel) rfl
theorem mz_657 : Cond.instanceMethod yJ5_newCapacity_0f7a4 ∈ TW := tw_of (i := 657) (by decide +kernel) rfl
theorem mz_658 : Cond.code yJ5_newCapacity_0f7a4 cJ5_newCapacity_0f7a4 6 (some .int) ∈ TW := tw_of (i := 658) (by decide +kernel) rfl
theorem mz_659 : Cond.methodLink RJ5 114 yJ8_newLength_cabcc ∈ TW := tw_of (i := 659) (by decide +kernel) rfl
theorem mz_660 : Cond.static yJ8_newLength_cabcc ∈ TW := tw_of (i := 660) (by decide +kernel) rfl
theorem mz_661 : Cond.code yJ8_newLength_cabcc cJ8_newLength_cabcc 4 (some .int) ∈ TW := tw_of (i := 661) (by decide +kernel) rfl
theorem mz_662 : Cond.methodLink RJ8 194 Lib.Math.max.name ∈ TW := tw_of (i := 662) (by decide +kernel) rfl
theorem mz_663 : Cond.constant RJ8 200 (2147483639 : Int32) ∈ TW := tw_of (i := 663) (by decide +kernel) rfl
theorem mz_667 : Cond.constant RJ5 39 (2147483647 : Int32) ∈ TW := tw_of (i := 667) (by decide +kernel) rfl
theorem mz_668 : Cond.methodLink RJ5 108 yJ7_copyOf_9075b ∈ TW := tw_of (i := 668) (by decide +kernel) rfl
theorem mz_669 : Cond.static yJ7_copyOf_9075b ∈ TW := tw_of (i := 669) (by decide +kernel) rfl
theorem mz_670 : Cond.code yJ7_copyOf_9075b cJ7_copyOf_9075b 3 (some (.array .byte)) ∈ TW := tw_of (i := 670) (by decide +kernel) rfl
theorem mz_678 : Cond.methodLink RJ7 304 Lib.Math.min.name ∈ TW := tw_of (i := 678) (by decide +kernel) rfl
theorem mz_679 : Cond.methodLink RJ7 150 arraycopyName ∈ TW := tw_of (i := 679) (by decide +kernel) rfl
theorem mz_680 : Cond.static arraycopyName ∈ TW := tw_of (i := 680) (by decide +kernel) rfl
theorem mz_681 : Cond.native arraycopyName ∈ TW := tw_of (i := 681) (by decide +kernel) rfl
theorem mz_682 : Cond.methodLink RJ5 83 yJ5_isLatin1_aae02 ∈ TW := tw_of (i := 682) (by decide +kernel) rfl
theorem mz_683 : Cond.instanceMethod yJ5_isLatin1_aae02 ∈ TW := tw_of (i := 683) (by decide +kernel) rfl
theorem mz_684 : Cond.sameMethod yJ5_isLatin1_aae02.cls yJ5_isLatin1_aae02.cls yJ5_isLatin1_aae02.name yJ5_isLatin1_aae02.desc ∈ TW := tw_of (i := 684) (by decide +kernel) rfl
theorem mz_685 : Cond.selects RJ4 yJ5_isLatin1_aae02 yJ5_isLatin1_aae02 ∈ TW := tw_of (i := 685) (by decide +kernel) rfl
theorem mz_686 : Cond.code yJ5_isLatin1_aae02 cJ5_isLatin1_aae02 1 (some .boolean) ∈ TW := tw_of (i := 686) (by decide +kernel) rfl
theorem mz_699 : Cond.fieldLink RJ0 1053 "jdk/internal/util/Preconditions" "SIOOBE_FORMATTER" "Ljava/util/function/BiFunction;" ∈ TW := tw_of (i := 699) (by decide +kernel) rfl
theorem mz_760 : Cond.methodLink RJ4 53 yJ5_append_c97b9 ∈ TW := tw_of (i := 760) (by decide +kernel) rfl
theorem mz_761 : Cond.instanceMethod yJ5_append_c97b9 ∈ TW := tw_of (i := 761) (by decide +kernel) rfl
theorem mz_762 : Cond.code yJ5_append_c97b9 cJ5_append_c97b9 4 (some (.object "java/lang/AbstractStringBuilder")) ∈ TW := tw_of (i := 762) (by decide +kernel) rfl
theorem mz_763 : Cond.methodLink RJ5 245 yJ6_stringSize_0f7a4 ∈ TW := tw_of (i := 763) (by decide +kernel) rfl
theorem mz_764 : Cond.static yJ6_stringSize_0f7a4 ∈ TW := tw_of (i := 764) (by decide +kernel) rfl
theorem mz_765 : Cond.code yJ6_stringSize_0f7a4 cJ6_stringSize_0f7a4 4 (some .int) ∈ TW := tw_of (i := 765) (by decide +kernel) rfl
theorem mz_766 : Cond.methodLink RJ5 248 yJ6_getChars_ba4f3 ∈ TW := tw_of (i := 766) (by decide +kernel) rfl
theorem mz_767 : Cond.static yJ6_getChars_ba4f3 ∈ TW := tw_of (i := 767) (by decide +kernel) rfl
theorem mz_768 : Cond.code yJ6_getChars_ba4f3 cJ6_getChars_ba4f3 7 (some .int) ∈ TW := tw_of (i := 768) (by decide +kernel) rfl
theorem mz_769 : Cond.fieldLink RJ6 83 "java/lang/Integer" "DigitOnes" "[B" ∈ TW := tw_of (i := 769) (by decide +kernel) rfl
theorem mz_771 : Cond.fieldLink RJ6 87 "java/lang/Integer" "DigitTens" "[B" ∈ TW := tw_of (i := 771) (by decide +kernel) rfl
theorem mz_854 : Cond.static yJ0_checkIndex_df160 ∈ TW := tw_of (i := 854) (by decide +kernel) rfl
theorem mz_855 : Cond.code yJ0_checkIndex_df160 cJ0_checkIndex_df160 2 none ∈ TW := tw_of (i := 855) (by decide +kernel) rfl
theorem mz_856 : Cond.methodLink RJ0 1059 yJ3_checkIndex_8e157 ∈ TW := tw_of (i := 856) (by decide +kernel) rfl
theorem mz_857 : Cond.static yJ3_checkIndex_8e157 ∈ TW := tw_of (i := 857) (by decide +kernel) rfl
theorem mz_858 : Cond.code yJ3_checkIndex_8e157 cJ3_checkIndex_8e157 3 (some .int) ∈ TW := tw_of (i := 858) (by decide +kernel) rfl
theorem mz_878 : Cond.methodLink RJ4 50 yJ5_append_3fe6f ∈ TW := tw_of (i := 878) (by decide +kernel) rfl
theorem mz_879 : Cond.instanceMethod yJ5_append_3fe6f ∈ TW := tw_of (i := 879) (by decide +kernel) rfl
theorem mz_880 : Cond.code yJ5_append_3fe6f cJ5_append_3fe6f 2 (some (.object "java/lang/AbstractStringBuilder")) ∈ TW := tw_of (i := 880) (by decide +kernel) rfl
theorem mz_881 : Cond.methodLink RJ5 191 yJ1_canEncode_fc78d ∈ TW := tw_of (i := 881) (by decide +kernel) rfl
theorem mz_882 : Cond.static yJ1_canEncode_fc78d ∈ TW := tw_of (i := 882) (by decide +kernel) rfl
theorem mz_883 : Cond.code yJ1_canEncode_fc78d cJ1_canEncode_fc78d 1 (some .boolean) ∈ TW := tw_of (i := 883) (by decide +kernel) rfl
theorem mz_919 : Cond.methodLink RJ4 329 yJ5_charAt_5068e ∈ TW := tw_of (i := 919) (by decide +kernel) rfl
theorem mz_920 : Cond.instanceMethod yJ5_charAt_5068e ∈ TW := tw_of (i := 920) (by decide +kernel) rfl
theorem mz_921 : Cond.code yJ5_charAt_5068e cJ5_charAt_5068e 5 (some .char) ∈ TW := tw_of (i := 921) (by decide +kernel) rfl
theorem mz_922 : Cond.methodLink RJ5 138 Lib.Math.min.name ∈ TW := tw_of (i := 922) (by decide +kernel) rfl
theorem mz_923 : Cond.methodLink RJ5 144 yJ0_checkIndex_df160 ∈ TW := tw_of (i := 923) (by decide +kernel) rfl
theorem mz_964 : Cond.methodLink RJ4 333 yJ5_setLength_d00df ∈ TW := tw_of (i := 964) (by decide +kernel) rfl
theorem mz_965 : Cond.instanceMethod yJ5_setLength_d00df ∈ TW := tw_of (i := 965) (by decide +kernel) rfl
theorem mz_966 : Cond.code yJ5_setLength_d00df cJ5_setLength_d00df 2 none ∈ TW := tw_of (i := 966) (by decide +kernel) rfl
theorem mz_1035 : Cond.sameMethod yJ5_length_8abf5.cls yJ5_length_8abf5.cls yJ5_length_8abf5.name yJ5_length_8abf5.desc ∈ TW := tw_of (i := 1035) (by decide +kernel) rfl
theorem mz_1038 : Cond.sameMethod yJ5_ensureCapacityInternal_d00df.cls yJ5_ensureCapacityInternal_d00df.cls yJ5_ensureCapacityInternal_d00df.name yJ5_ensureCapacityInternal_d00df.desc ∈ TW := tw_of (i := 1038) (by decide +kernel) rfl
theorem mz_1039 : Cond.sameMethod yJ5_newCapacity_0f7a4.cls yJ5_newCapacity_0f7a4.cls yJ5_newCapacity_0f7a4.name yJ5_newCapacity_0f7a4.desc ∈ TW := tw_of (i := 1039) (by decide +kernel) rfl
theorem mz_1043 : Cond.sameMethod yJ5_append_c97b9.cls yJ5_append_c97b9.cls yJ5_append_c97b9.name yJ5_append_c97b9.desc ∈ TW := tw_of (i := 1043) (by decide +kernel) rfl
theorem mz_1045 : Cond.sameMethod yJ5_append_3fe6f.cls yJ5_append_3fe6f.cls yJ5_append_3fe6f.name yJ5_append_3fe6f.desc ∈ TW := tw_of (i := 1045) (by decide +kernel) rfl
theorem mz_1046 : Cond.sameMethod yJ5_charAt_5068e.cls yJ5_charAt_5068e.cls yJ5_charAt_5068e.name yJ5_charAt_5068e.desc ∈ TW := tw_of (i := 1046) (by decide +kernel) rfl
theorem mz_1047 : Cond.sameMethod yJ5_setLength_d00df.cls yJ5_setLength_d00df.cls yJ5_setLength_d00df.name yJ5_setLength_d00df.desc ∈ TW := tw_of (i := 1047) (by decide +kernel) rfl
theorem tx_0 : Cond.selects RJ4 yJ5_newCapacity_0f7a4 yJ5_newCapacity_0f7a4 ∈ TW := List.mem_append_left _ List.mem_cons_self
theorem tx_1 : Cond.selects RJ4 yJ5_ensureCapacityInternal_d00df yJ5_ensureCapacityInternal_d00df ∈ TW := List.mem_append_left _ (List.mem_cons_of_mem _ List.mem_cons_self)
theorem uin_J4 : ∀ w ∈ u_ws RJ4 TJ4 4, w ∈ TW := by decide +kernel
theorem flb_15 : FL RJ5 15 0 0 false (.array .byte) := ⟨RJ4, TJ4, 4, tyJ4, rfl, by decide, mz_513, uin_J4, tyJ4_ok, nmJ4, rfl, by decide +kernel⟩
theorem flb_22 : FL RJ5 22 0 1 false .byte := ⟨RJ4, TJ4, 4, tyJ4, rfl, by decide, mz_514, uin_J4, tyJ4_ok, nmJ4, rfl, by decide +kernel⟩
theorem flb_73 : FL RJ5 73 0 2 false .boolean := ⟨RJ4, TJ4, 4, tyJ4, rfl, by decide, mz_515, uin_J4, tyJ4_ok, nmJ4, rfl, by decide +kernel⟩
theorem flb_79 : FL RJ5 79 0 3 false .int := ⟨RJ4, TJ4, 4, tyJ4, rfl, by decide, mz_517, uin_J4, tyJ4_ok, nmJ4, rfl, by decide +kernel⟩
theorem mS_J5_114 : MS RJ5 114 yJ8_newLength_cabcc cJ8_newLength_cabcc 4 (some .int) 3 := ⟨gi_cons mz_659 (gi_cons mz_660 (gi_cons mz_41 (gi_cons mz_661 tw_good))), by decide +kernel⟩
theorem mU_J5_104 : MU RJ5 104 yJ5_newCapacity_0f7a4 cJ5_newCapacity_0f7a4 6 (some .int) 1 := ⟨gi_cons mz_655 (gi_cons mz_1039 (gi_cons tx_0 (gi_cons mz_657 (gi_cons mz_32 (gi_cons mz_658 tw_good))))), by decide +kernel⟩
theorem mS_J5_108 : MS RJ5 108 yJ7_copyOf_9075b cJ7_copyOf_9075b 3 (some (.array .byte)) 2 := ⟨gi_cons mz_668 (gi_cons mz_669 (gi_cons mz_42 (gi_cons mz_670 tw_good))), by decide +kernel⟩
theorem mS_J0_1059 : MS RJ0 1059 yJ3_checkIndex_8e157 cJ3_checkIndex_8e157 3 (some .int) 3 := ⟨gi_cons mz_856 (gi_cons mz_857 (gi_cons mz_44 (gi_cons mz_858 tw_good))), by decide +kernel⟩
theorem mS_J5_144 : MS RJ5 144 yJ0_checkIndex_df160 cJ0_checkIndex_df160 2 none 2 := ⟨gi_cons mz_923 (gi_cons mz_854 (gi_cons mz_34 (gi_cons mz_855 tw_good))), by decide +kernel⟩
theorem mU_J5_100 : MU RJ5 100 yJ5_ensureCapacityInternal_d00df cJ5_ensureCapacityInternal_d00df 3 none 1 := ⟨gi_cons mz_651 (gi_cons mz_1038 (gi_cons tx_1 (gi_cons mz_653 (gi_cons mz_32 (gi_cons mz_654 tw_good))))), by decide +kernel⟩
theorem mU_J5_83 : MU RJ5 83 yJ5_isLatin1_aae02 cJ5_isLatin1_aae02 1 (some .boolean) 0 := ⟨gi_cons mz_682 (gi_cons mz_684 (gi_cons mz_685 (gi_cons mz_683 (gi_cons mz_32 (gi_cons mz_686 tw_good))))), by decide +kernel⟩
theorem mS_J5_191 : MS RJ5 191 yJ1_canEncode_fc78d cJ1_canEncode_fc78d 1 (some .boolean) 1 := ⟨gi_cons mz_881 (gi_cons mz_882 (gi_cons mz_45 (gi_cons mz_883 tw_good))), by decide +kernel⟩
theorem mS_J5_245 : MS RJ5 245 yJ6_stringSize_0f7a4 cJ6_stringSize_0f7a4 4 (some .int) 1 := ⟨gi_cons mz_763 (gi_cons mz_764 (gi_cons mz_46 (gi_cons mz_765 tw_good))), by decide +kernel⟩
theorem mS_J5_248 : MS RJ5 248 yJ6_getChars_ba4f3 cJ6_getChars_ba4f3 7 (some .int) 3 := ⟨gi_cons mz_766 (gi_cons mz_767 (gi_cons mz_46 (gi_cons mz_768 tw_good))), by decide +kernel⟩
theorem mP_J4_343 : MP RJ4 343 yJ5_length_8abf5 cJ5_length_8abf5 1 (some .int) 0 := ⟨gi_cons mz_295 (gi_cons mz_1035 (gi_cons mz_296 (gi_cons mz_297 (gi_cons mz_32 (gi_cons mz_298 tw_good))))), by decide +kernel⟩
theorem mP_J4_329 : MP RJ4 329 yJ5_charAt_5068e cJ5_charAt_5068e 5 (some .char) 1 := ⟨gi_cons mz_919 (gi_cons mz_1046 (gi_cons mz_296 (gi_cons mz_920 (gi_cons mz_32 (gi_cons mz_921 tw_good))))), by decide +kernel⟩
theorem mP_J4_333 : MP RJ4 333 yJ5_setLength_d00df cJ5_setLength_d00df 2 none 1 := ⟨gi_cons mz_964 (gi_cons mz_1047 (gi_cons mz_296 (gi_cons mz_965 (gi_cons mz_32 (gi_cons mz_966 tw_good))))), by decide +kernel⟩
theorem mP_J4_50 : MP RJ4 50 yJ5_append_3fe6f cJ5_append_3fe6f 2 (some (.object "java/lang/AbstractStringBuilder")) 1 := ⟨gi_cons mz_878 (gi_cons mz_1045 (gi_cons mz_296 (gi_cons mz_879 (gi_cons mz_32 (gi_cons mz_880 tw_good))))), by decide +kernel⟩
theorem mP_J4_53 : MP RJ4 53 yJ5_append_c97b9 cJ5_append_c97b9 4 (some (.object "java/lang/AbstractStringBuilder")) 1 := ⟨gi_cons mz_760 (gi_cons mz_1043 (gi_cons mz_296 (gi_cons mz_761 (gi_cons mz_32 (gi_cons mz_762 tw_good))))), by decide +kernel⟩
