theorem mz_33 : Cond.initialized RJ4 ∈ TW := tw_of (i := 33) (by decide +kernel) rfl
theorem mz_292 : Cond.instanceMethod yJ4_length_8abf5 ∈ TW := tw_of (i := 292) (by decide +kernel) rfl
theorem mz_294 : Cond.code yJ4_length_8abf5 cJ4_length_8abf5 1 (some .int) ∈ TW := tw_of (i := 294) (by decide +kernel) rfl
theorem mz_336 : Cond.instanceMethod Lib.objectInit ∈ TW := tw_of (i := 336) (by decide +kernel) rfl
theorem mz_337 : Cond.code Lib.objectInit ⟨#[0xb1]⟩ 1 none ∈ TW := tw_of (i := 337) (by decide +kernel) rfl
theorem mz_644 : Cond.methodLink RJ4 29 yJ5_append_cf1ce ∈ TW := tw_of (i := 644) (by decide +kernel) rfl
theorem mz_645 : Cond.instanceMethod yJ5_append_cf1ce ∈ TW := tw_of (i := 645) (by decide +kernel) rfl
theorem mz_646 : Cond.code yJ5_append_cf1ce cJ5_append_cf1ce 3 (some (.object "java/lang/AbstractStringBuilder")) ∈ TW := tw_of (i := 646) (by decide +kernel) rfl
theorem mz_713 : Cond.methodLink RJ5 32 yJ0_length_8abf5 ∈ TW := tw_of (i := 713) (by decide +kernel) rfl
theorem mz_714 : Cond.instanceMethod yJ0_length_8abf5 ∈ TW := tw_of (i := 714) (by decide +kernel) rfl
theorem mz_715 : Cond.selects RJ0 yJ0_length_8abf5 yJ0_length_8abf5 ∈ TW := tw_of (i := 715) (by decide +kernel) rfl
theorem mz_716 : Cond.code yJ0_length_8abf5 cJ0_length_8abf5 1 (some .int) ∈ TW := tw_of (i := 716) (by decide +kernel) rfl
theorem mz_717 : Cond.methodLink RJ0 335 yJ0_coder_7d493 ∈ TW := tw_of (i := 717) (by decide +kernel) rfl
theorem mz_718 : Cond.instanceMethod yJ0_coder_7d493 ∈ TW := tw_of (i := 718) (by decide +kernel) rfl
theorem mz_719 : Cond.selects RJ0 yJ0_coder_7d493 yJ0_coder_7d493 ∈ TW := tw_of (i := 719) (by decide +kernel) rfl
theorem mz_720 : Cond.code yJ0_coder_7d493 cJ0_coder_7d493 1 (some .byte) ∈ TW := tw_of (i := 720) (by decide +kernel) rfl
theorem mz_721 : Cond.fieldLink RJ0 38 "java/lang/String" "COMPACT_STRINGS" "Z" ∈ TW := tw_of (i := 721) (by decide +kernel) rfl
theorem mz_722 : Cond.methodLink RJ5 208 yJ5_putStringAt_47b60 ∈ TW := tw_of (i := 722) (by decide +kernel) rfl
theorem mz_724 : Cond.instanceMethod yJ5_putStringAt_47b60 ∈ TW := tw_of (i := 724) (by decide +kernel) rfl
theorem mz_725 : Cond.code yJ5_putStringAt_47b60 cJ5_putStringAt_47b60 3 none ∈ TW := tw_of (i := 725) (by decide +kernel) rfl
theorem mz_726 : Cond.methodLink RJ5 397 yJ5_inflateIfNeededFor_a7421 ∈ TW := tw_of (i := 726) (by decide +kernel) rfl
theorem mz_728 : Cond.instanceMethod yJ5_inflateIfNeededFor_a7421 ∈ TW := tw_of (i := 728) (by decide +kernel) rfl
theorem mz_729 : Cond.code yJ5_inflateIfNeededFor_a7421 cJ5_inflateIfNeededFor_a7421 2 none ∈ TW := tw_of (i := 729) (by decide +kernel) rfl
theorem mz_730 : Cond.methodLink RJ5 40 yJ0_coder_7d493 ∈ TW := tw_of (i := 730) (by decide +kernel) rfl
theorem mz_750 : Cond.methodLink RJ5 399 yJ0_getBytes_840e7 ∈ TW := tw_of (i := 750) (by decide +kernel) rfl
theorem mz_751 : Cond.instanceMethod yJ0_getBytes_840e7 ∈ TW := tw_of (i := 751) (by decide +kernel) rfl
theorem mz_752 : Cond.selects RJ0 yJ0_getBytes_840e7 yJ0_getBytes_840e7 ∈ TW := tw_of (i := 752) (by decide +kernel) rfl
theorem mz_753 : Cond.code yJ0_getBytes_840e7 cJ0_getBytes_840e7 4 none ∈ TW := tw_of (i := 753) (by decide +kernel) rfl
theorem mz_754 : Cond.methodLink RJ0 212 arraycopyName ∈ TW := tw_of (i := 754) (by decide +kernel) rfl
theorem mz_787 : Cond.classLink RJ4 18 RJ0 ∈ TW := tw_of (i := 787) (by decide +kernel) rfl
theorem mz_788 : Cond.instantiable RJ0 4 ∈ TW := tw_of (i := 788) (by decide +kernel) rfl
theorem mz_789 : Cond.methodLink RJ4 137 yJ0_init_81219 ∈ TW := tw_of (i := 789) (by decide +kernel) rfl
theorem mz_790 : Cond.instanceMethod yJ0_init_81219 ∈ TW := tw_of (i := 790) (by decide +kernel) rfl
theorem mz_791 : Cond.code yJ0_init_81219 cJ0_init_81219 2 none ∈ TW := tw_of (i := 791) (by decide +kernel) rfl
theorem mz_792 : Cond.methodLink RJ0 489 yJ0_init_db425 ∈ TW := tw_of (i := 792) (by decide +kernel) rfl
theorem mz_793 : Cond.instanceMethod yJ0_init_db425 ∈ TW := tw_of (i := 793) (by decide +kernel) rfl
theorem mz_794 : Cond.code yJ0_init_db425 cJ0_init_db425 5 none ∈ TW := tw_of (i := 794) (by decide +kernel) rfl
theorem mz_795 : Cond.methodLink RJ0 1 Lib.objectInit ∈ TW := tw_of (i := 795) (by decide +kernel) rfl
theorem mz_796 : Cond.methodLink RJ0 552 yJ5_getValue_6d5f1 ∈ TW := tw_of (i := 796) (by decide +kernel) rfl
theorem mz_797 : Cond.instanceMethod yJ5_getValue_6d5f1 ∈ TW := tw_of (i := 797) (by decide +kernel) rfl
theorem mz_798 : Cond.sameMethod yJ5_getValue_6d5f1.cls yJ5_getValue_6d5f1.cls yJ5_getValue_6d5f1.name yJ5_getValue_6d5f1.desc ∈ TW := tw_of (i := 798) (by decide +kernel) rfl
theorem mz_799 : Cond.selects RJ4 yJ5_getValue_6d5f1 yJ5_getValue_6d5f1 ∈ TW := tw_of (i := 799) (by decide +kernel) rfl
theorem mz_800 : Cond.code yJ5_getValue_6d5f1 cJ5_getValue_6d5f1 1 (some (.array .byte)) ∈ TW := tw_of (i := 800) (by decide +kernel) rfl
theorem mz_801 : Cond.methodLink RJ0 549 yJ5_length_8abf5 ∈ TW := tw_of (i := 801) (by decide +kernel) rfl
theorem mz_802 : Cond.methodLink RJ0 1047 yJ5_isLatin1_aae02 ∈ TW := tw_of (i := 802) (by decide +kernel) rfl
theorem mz_803 : Cond.methodLink RJ0 54 yJ7_copyOfRange_39247 ∈ TW := tw_of (i := 803) (by decide +kernel) rfl
theorem mz_804 : Cond.static yJ7_copyOfRange_39247 ∈ TW := tw_of (i := 804) (by decide +kernel) rfl
theorem mz_805 : Cond.code yJ7_copyOfRange_39247 cJ7_copyOfRange_39247 3 (some (.array .byte)) ∈ TW := tw_of (i := 805) (by decide +kernel) rfl
theorem mz_806 : Cond.methodLink RJ7 339 yJ7_copyOfRangeByte_39247 ∈ TW := tw_of (i := 806) (by decide +kernel) rfl
theorem mz_807 : Cond.static yJ7_copyOfRangeByte_39247 ∈ TW := tw_of (i := 807) (by decide +kernel) rfl
theorem mz_808 : Cond.code yJ7_copyOfRangeByte_39247 cJ7_copyOfRangeByte_39247 5 (some (.array .byte)) ∈ TW := tw_of (i := 808) (by decide +kernel) rfl
theorem mz_809 : Cond.methodLink RJ7 343 yJ7_checkLength_df160 ∈ TW := tw_of (i := 809) (by decide +kernel) rfl
theorem mz_810 : Cond.static yJ7_checkLength_df160 ∈ TW := tw_of (i := 810) (by decide +kernel) rfl
theorem mz_811 : Cond.code yJ7_checkLength_df160 cJ7_checkLength_df160 2 none ∈ TW := tw_of (i := 811) (by decide +kernel) rfl
theorem mz_825 : Cond.fieldLink RJ0 9 (TJ0 0).1 (TJ0 0).2.1 (TJ0 0).2.2.1 ∈ TW := tw_of (i := 825) (by decide +kernel) rfl
theorem mz_826 : Cond.fieldLink RJ0 15 (TJ0 1).1 (TJ0 1).2.1 (TJ0 1).2.2.1 ∈ TW := tw_of (i := 826) (by decide +kernel) rfl
theorem mz_1036 : Cond.sameMethod yJ5_append_cf1ce.cls yJ5_append_cf1ce.cls yJ5_append_cf1ce.name yJ5_append_cf1ce.desc ∈ TW := tw_of (i := 1036) (by decide +kernel) rfl
theorem mz_1040 : Cond.sameMethod yJ5_putStringAt_47b60.cls yJ5_putStringAt_47b60.cls yJ5_putStringAt_47b60.name yJ5_putStringAt_47b60.desc ∈ TW := tw_of (i := 1040) (by decide +kernel) rfl
theorem mz_1041 : Cond.sameMethod yJ5_inflateIfNeededFor_a7421.cls yJ5_inflateIfNeededFor_a7421.cls yJ5_inflateIfNeededFor_a7421.name yJ5_inflateIfNeededFor_a7421.desc ∈ TW := tw_of (i := 1041) (by decide +kernel) rfl
theorem mz_1044 : Cond.selects RJ4 yJ5_length_8abf5 yJ4_length_8abf5 ∈ TW := tw_of (i := 1044) (by decide +kernel) rfl
theorem tx_2 : Cond.selects RJ4 yJ5_putStringAt_47b60 yJ5_putStringAt_47b60 ∈ TW := List.mem_append_left _ (List.mem_cons_of_mem _ (List.mem_cons_of_mem _ List.mem_cons_self))
theorem tx_3 : Cond.selects RJ4 yJ5_inflateIfNeededFor_a7421 yJ5_inflateIfNeededFor_a7421 ∈ TW := List.mem_append_left _ (List.mem_cons_of_mem _ (List.mem_cons_of_mem _ (List.mem_cons_of_mem _ List.mem_cons_self)))
theorem mY_J0_335 : MV RJ0 335 yJ0_coder_7d493 cJ0_coder_7d493 1 (some .byte) 0 := ⟨gi_cons mz_717 (gi_cons mz_718 (gi_cons mz_719 (gi_cons mz_34 (gi_cons mz_720 tw_good)))), by decide +kernel⟩
theorem mY_J5_40 : MV RJ5 40 yJ0_coder_7d493 cJ0_coder_7d493 1 (some .byte) 0 := ⟨gi_cons mz_730 (gi_cons mz_718 (gi_cons mz_719 (gi_cons mz_34 (gi_cons mz_720 tw_good)))), by decide +kernel⟩
theorem mU_J5_397 : MU RJ5 397 yJ5_inflateIfNeededFor_a7421 cJ5_inflateIfNeededFor_a7421 2 none 1 := ⟨gi_cons mz_726 (gi_cons mz_1041 (gi_cons tx_3 (gi_cons mz_728 (gi_cons mz_32 (gi_cons mz_729 tw_good))))), by decide +kernel⟩
theorem mY_J5_399 : MV RJ5 399 yJ0_getBytes_840e7 cJ0_getBytes_840e7 4 none 3 := ⟨gi_cons mz_750 (gi_cons mz_751 (gi_cons mz_752 (gi_cons mz_34 (gi_cons mz_753 tw_good)))), by decide +kernel⟩
theorem mY_J5_32 : MV RJ5 32 yJ0_length_8abf5 cJ0_length_8abf5 1 (some .int) 0 := ⟨gi_cons mz_713 (gi_cons mz_714 (gi_cons mz_715 (gi_cons mz_34 (gi_cons mz_716 tw_good)))), by decide +kernel⟩
theorem mU_J5_208 : MU RJ5 208 yJ5_putStringAt_47b60 cJ5_putStringAt_47b60 3 none 2 := ⟨gi_cons mz_722 (gi_cons mz_1040 (gi_cons tx_2 (gi_cons mz_724 (gi_cons mz_32 (gi_cons mz_725 tw_good))))), by decide +kernel⟩
theorem mP_J4_29 : MP RJ4 29 yJ5_append_cf1ce cJ5_append_cf1ce 3 (some (.object "java/lang/AbstractStringBuilder")) 1 := ⟨gi_cons mz_644 (gi_cons mz_1036 (gi_cons mz_296 (gi_cons mz_645 (gi_cons mz_32 (gi_cons mz_646 tw_good))))), by decide +kernel⟩
theorem mS_J7_343 : MS RJ7 343 yJ7_checkLength_df160 cJ7_checkLength_df160 2 none 2 := ⟨gi_cons mz_809 (gi_cons mz_810 (gi_cons mz_42 (gi_cons mz_811 tw_good))), by decide +kernel⟩
theorem mS_J7_339 : MS RJ7 339 yJ7_copyOfRangeByte_39247 cJ7_copyOfRangeByte_39247 5 (some (.array .byte)) 3 := ⟨gi_cons mz_806 (gi_cons mz_807 (gi_cons mz_42 (gi_cons mz_808 tw_good))), by decide +kernel⟩
theorem mU_J0_552 : MU RJ0 552 yJ5_getValue_6d5f1 cJ5_getValue_6d5f1 1 (some (.array .byte)) 0 := ⟨gi_cons mz_796 (gi_cons mz_798 (gi_cons mz_799 (gi_cons mz_797 (gi_cons mz_32 (gi_cons mz_800 tw_good))))), by decide +kernel⟩
theorem mO_J0_549 : GoodIn TW (va_wsO RJ0 549 RJ4 RJ5 yJ5_length_8abf5 yJ4_length_8abf5 (.code yJ4_length_8abf5 cJ4_length_8abf5 1 (some .int) :: TW)) := gi_cons mz_801 (gi_cons mz_1035 (gi_cons mz_297 (gi_cons mz_1044 (gi_cons mz_292 (gi_cons mz_33 (gi_cons mz_294 tw_good))))))
theorem mU_J0_1047 : MU RJ0 1047 yJ5_isLatin1_aae02 cJ5_isLatin1_aae02 1 (some .boolean) 0 := ⟨gi_cons mz_802 (gi_cons mz_684 (gi_cons mz_685 (gi_cons mz_683 (gi_cons mz_32 (gi_cons mz_686 tw_good))))), by decide +kernel⟩
theorem mS_J0_54 : MS RJ0 54 yJ7_copyOfRange_39247 cJ7_copyOfRange_39247 3 (some (.array .byte)) 3 := ⟨gi_cons mz_803 (gi_cons mz_804 (gi_cons mz_42 (gi_cons mz_805 tw_good))), by decide +kernel⟩
theorem mi2_J0_489 : MI RJ0 489 yJ0_init_db425 cJ0_init_db425 5 2 := ⟨gi_cons mz_792 (gi_cons mz_793 (gi_cons mz_34 (gi_cons mz_794 tw_good))), rfl, by decide +kernel⟩
theorem mi2_J4_137 : MI RJ4 137 yJ0_init_81219 cJ0_init_81219 2 1 := ⟨gi_cons mz_789 (gi_cons mz_790 (gi_cons mz_34 (gi_cons mz_791 tw_good))), rfl, by decide +kernel⟩
theorem fd_J0_15 : FLd RJ0 15 8 1 true .byte := ⟨RJ0, TJ0, 4, tyJ0, rfl, by decide, mz_826, uin_J0, tyJ0_ok, nmJ0, rfl, by decide +kernel, rfl⟩
theorem fd_J0_9 : FLd RJ0 9 8 0 true (.array .byte) := ⟨RJ0, TJ0, 4, tyJ0, rfl, by decide, mz_825, uin_J0, tyJ0_ok, nmJ0, rfl, by decide +kernel, rfl⟩
theorem nw_J4_18 : NW RJ4 18 8 4 [.null, .int 0, .int 0, .int 0] := ⟨RJ0, TJ0, tyJ0, rfl, mz_787, mz_788, mz_34, uin_J0, tyJ0_ok, by decide, by decide⟩
theorem i_ifnnR {v : EV} {p : Program} {l : Launch} {e : Env} {R : Room} {s : State} {m : MethodId} {args : Array Value} {below : List Frame} {meth : Method} {c : Code} {own : String} {cc : ByteArray} {nL : Nat} {ret : Option FieldType} {Q : State → Prop} {qb : Nat} {Wd : Mem → Heap → Prop} {S : Mem} {pc : Nat} {lv : List (Nat × Value)} {st : List Value} (hC : Cx v p l e s m args meth c own cc nL ret) {a : Nat} {off : Int} {tgt : Nat} (hdg : decode cc pc = .ok (.ifnonnull off, 3)) (ht : (pc : Int) + off = (tgt : Int)) (kt : Mw Wd v p l e R s m args below meth c nL Q qb S tgt lv st) : Mw Wd v p l e R s m args below meth c nL Q qb S pc lv (.ref a :: st) := fun H locs ls cells slots hbu hW hS hl => lv_ifnonnull hC.1 hC.2.1 hdg ht (kt H locs ls cells slots hbu hW hS hl)
