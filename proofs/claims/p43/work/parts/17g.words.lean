theorem lb_m99 : (Int8.ofInt (-99)).toInt32 = (-99 : Int32) := by decide
theorem lb_10 : (Int8.ofInt (10)).toInt32 = (10 : Int32) := by decide
theorem lb_13 : (Int8.ofInt (13)).toInt32 = (13 : Int32) := by decide
theorem lb_16 : (Int8.ofInt (16)).toInt32 = (16 : Int32) := by decide
theorem lb_26 : (Int8.ofInt (26)).toInt32 = (26 : Int32) := by decide
theorem lh_1000 : (Int16.ofInt (1000)).toInt32 = (1000 : Int32) := by decide
theorem lh_1009 : (Int16.ofInt (1009)).toInt32 = (1009 : Int32) := by decide
theorem lh_12345 : (Int16.ofInt (12345)).toInt32 = (12345 : Int32) := by decide
theorem mw_25 : Cond.initialized RL ∈ TW := tw_of (i := 25) (by decide +kernel) rfl
theorem mw_47 : Cond.methodLink RL 53 yX8_ask ∈ TW := tw_of (i := 47) (by decide +kernel) rfl
theorem mw_48 : Cond.instanceMethod yX8_ask ∈ TW := tw_of (i := 48) (by decide +kernel) rfl
theorem mw_49 : Cond.selects RX8 yX8_ask yX8_ask ∈ TW := tw_of (i := 49) (by decide +kernel) rfl
theorem mw_50 : Cond.code yX8_ask cX8_ask 2 (some .int) ∈ TW := tw_of (i := 50) (by decide +kernel) rfl
theorem mw_224 : Cond.methodLink RL 63 yX8_wash ∈ TW := tw_of (i := 224) (by decide +kernel) rfl
theorem mw_225 : Cond.instanceMethod yX8_wash ∈ TW := tw_of (i := 225) (by decide +kernel) rfl
theorem mw_226 : Cond.selects RX8 yX8_wash yX8_wash ∈ TW := tw_of (i := 226) (by decide +kernel) rfl
theorem mw_227 : Cond.code yX8_wash cX8_wash 2 (some .int) ∈ TW := tw_of (i := 227) (by decide +kernel) rfl
theorem mw_230 : Cond.methodLink RL 44 yX8_beats ∈ TW := tw_of (i := 230) (by decide +kernel) rfl
theorem mw_231 : Cond.instanceMethod yX8_beats ∈ TW := tw_of (i := 231) (by decide +kernel) rfl
theorem mw_232 : Cond.selects RX8 yX8_beats yX8_beats ∈ TW := tw_of (i := 232) (by decide +kernel) rfl
theorem mw_233 : Cond.code yX8_beats cX8_beats 2 (some .int) ∈ TW := tw_of (i := 233) (by decide +kernel) rfl
theorem mw_236 : Cond.methodLink RL 103 yX8_driverOf ∈ TW := tw_of (i := 236) (by decide +kernel) rfl
theorem mw_237 : Cond.instanceMethod yX8_driverOf ∈ TW := tw_of (i := 237) (by decide +kernel) rfl
theorem mw_238 : Cond.selects RX8 yX8_driverOf yX8_driverOf ∈ TW := tw_of (i := 238) (by decide +kernel) rfl
theorem mw_239 : Cond.code yX8_driverOf cX8_driverOf 4 (some .int) ∈ TW := tw_of (i := 239) (by decide +kernel) rfl
theorem mw_278 : Cond.methodLink RL 47 yX8_account ∈ TW := tw_of (i := 278) (by decide +kernel) rfl
theorem mw_279 : Cond.instanceMethod yX8_account ∈ TW := tw_of (i := 279) (by decide +kernel) rfl
theorem mw_280 : Cond.selects RX8 yX8_account yX8_account ∈ TW := tw_of (i := 280) (by decide +kernel) rfl
theorem mw_281 : Cond.code yX8_account cX8_account 2 (some .int) ∈ TW := tw_of (i := 281) (by decide +kernel) rfl
theorem mw_319 : Cond.methodLink RL 36 yL_in ∈ TW := tw_of (i := 319) (by decide +kernel) rfl
theorem mw_320 : Cond.static yL_in ∈ TW := tw_of (i := 320) (by decide +kernel) rfl
theorem mw_321 : Cond.code yL_in cL_in 3 (some .int) ∈ TW := tw_of (i := 321) (by decide +kernel) rfl
theorem mw_322 : Cond.methodLink RL 9 yL_cell ∈ TW := tw_of (i := 322) (by decide +kernel) rfl
theorem mw_323 : Cond.static yL_cell ∈ TW := tw_of (i := 323) (by decide +kernel) rfl
theorem mw_324 : Cond.code yL_cell cL_cell 3 (some .int) ∈ TW := tw_of (i := 324) (by decide +kernel) rfl
theorem mw_325 : Cond.constant RL 7 (69069 : Int32) ∈ TW := tw_of (i := 325) (by decide +kernel) rfl
theorem mw_326 : Cond.constant RL 8 (1103515245 : Int32) ∈ TW := tw_of (i := 326) (by decide +kernel) rfl
theorem mw_327 : Cond.constant RL 15 (2147483647 : Int32) ∈ TW := tw_of (i := 327) (by decide +kernel) rfl
theorem mw_602 : Cond.methodLink RL 50 yX8_leader ∈ TW := tw_of (i := 602) (by decide +kernel) rfl
theorem mw_603 : Cond.instanceMethod yX8_leader ∈ TW := tw_of (i := 603) (by decide +kernel) rfl
theorem mw_604 : Cond.selects RX8 yX8_leader yX8_leader ∈ TW := tw_of (i := 604) (by decide +kernel) rfl
theorem mw_605 : Cond.code yX8_leader cX8_leader 5 (some .int) ∈ TW := tw_of (i := 605) (by decide +kernel) rfl
theorem mw_607 : Cond.methodLink RL 56 yX8_send ∈ TW := tw_of (i := 607) (by decide +kernel) rfl
theorem mw_608 : Cond.instanceMethod yX8_send ∈ TW := tw_of (i := 608) (by decide +kernel) rfl
theorem mw_609 : Cond.selects RX8 yX8_send yX8_send ∈ TW := tw_of (i := 609) (by decide +kernel) rfl
theorem mw_610 : Cond.code yX8_send cX8_send 2 (some .int) ∈ TW := tw_of (i := 610) (by decide +kernel) rfl
theorem mw_613 : Cond.methodLink RL 59 yX8_shout ∈ TW := tw_of (i := 613) (by decide +kernel) rfl
theorem mw_614 : Cond.instanceMethod yX8_shout ∈ TW := tw_of (i := 614) (by decide +kernel) rfl
theorem mw_615 : Cond.selects RX8 yX8_shout yX8_shout ∈ TW := tw_of (i := 615) (by decide +kernel) rfl
theorem mw_616 : Cond.code yX8_shout cX8_shout 3 (some .int) ∈ TW := tw_of (i := 616) (by decide +kernel) rfl
theorem mw_619 : Cond.methodLink RL 66 yX8_back ∈ TW := tw_of (i := 619) (by decide +kernel) rfl
theorem mw_620 : Cond.instanceMethod yX8_back ∈ TW := tw_of (i := 620) (by decide +kernel) rfl
theorem mw_621 : Cond.selects RX8 yX8_back yX8_back ∈ TW := tw_of (i := 621) (by decide +kernel) rfl
theorem mw_622 : Cond.code yX8_back cX8_back 2 (some .int) ∈ TW := tw_of (i := 622) (by decide +kernel) rfl
theorem mw_625 : Cond.methodLink RL 69 yX8_cut ∈ TW := tw_of (i := 625) (by decide +kernel) rfl
theorem mw_626 : Cond.instanceMethod yX8_cut ∈ TW := tw_of (i := 626) (by decide +kernel) rfl
theorem mw_627 : Cond.selects RX8 yX8_cut yX8_cut ∈ TW := tw_of (i := 627) (by decide +kernel) rfl
theorem mw_628 : Cond.code yX8_cut cX8_cut 3 (some .int) ∈ TW := tw_of (i := 628) (by decide +kernel) rfl
theorem mw_631 : Cond.methodLink RL 73 yX8_tie ∈ TW := tw_of (i := 631) (by decide +kernel) rfl
theorem mw_632 : Cond.instanceMethod yX8_tie ∈ TW := tw_of (i := 632) (by decide +kernel) rfl
theorem mw_633 : Cond.selects RX8 yX8_tie yX8_tie ∈ TW := tw_of (i := 633) (by decide +kernel) rfl
theorem mw_634 : Cond.code yX8_tie cX8_tie 3 (some .int) ∈ TW := tw_of (i := 634) (by decide +kernel) rfl
theorem mw_841 : Cond.methodLink RL 16 yJ0_length_8abf5 ∈ TW := tw_of (i := 841) (by decide +kernel) rfl
theorem mw_842 : Cond.methodLink RL 22 yJ0_charAt_5068e ∈ TW := tw_of (i := 842) (by decide +kernel) rfl
theorem mw_866 : Cond.methodLink RL 26 yX8_append ∈ TW := tw_of (i := 866) (by decide +kernel) rfl
theorem mw_867 : Cond.instanceMethod yX8_append ∈ TW := tw_of (i := 867) (by decide +kernel) rfl
theorem mw_868 : Cond.selects RX8 yX8_append yX8_append ∈ TW := tw_of (i := 868) (by decide +kernel) rfl
theorem mw_869 : Cond.code yX8_append cX8_append 2 (some .int) ∈ TW := tw_of (i := 869) (by decide +kernel) rfl
theorem mw_887 : Cond.methodLink RL 32 yX8_read ∈ TW := tw_of (i := 887) (by decide +kernel) rfl
theorem mw_888 : Cond.instanceMethod yX8_read ∈ TW := tw_of (i := 888) (by decide +kernel) rfl
theorem mw_889 : Cond.selects RX8 yX8_read yX8_read ∈ TW := tw_of (i := 889) (by decide +kernel) rfl
theorem mw_890 : Cond.code yX8_read cX8_read 5 (some .int) ∈ TW := tw_of (i := 890) (by decide +kernel) rfl
theorem mw_991 : Cond.methodLink RL 106 yX8_lineOf ∈ TW := tw_of (i := 991) (by decide +kernel) rfl
theorem mw_992 : Cond.instanceMethod yX8_lineOf ∈ TW := tw_of (i := 992) (by decide +kernel) rfl
theorem mw_993 : Cond.selects RX8 yX8_lineOf yX8_lineOf ∈ TW := tw_of (i := 993) (by decide +kernel) rfl
theorem mw_994 : Cond.code yX8_lineOf cX8_lineOf 5 (some .int) ∈ TW := tw_of (i := 994) (by decide +kernel) rfl
theorem mw_1006 : Cond.methodLink RL 110 Lib.Math.max.name ∈ TW := tw_of (i := 1006) (by decide +kernel) rfl
theorem mw_1007 : Cond.methodLink RL 115 yX8_reaches ∈ TW := tw_of (i := 1007) (by decide +kernel) rfl
theorem mw_1008 : Cond.instanceMethod yX8_reaches ∈ TW := tw_of (i := 1008) (by decide +kernel) rfl
theorem mw_1009 : Cond.selects RX8 yX8_reaches yX8_reaches ∈ TW := tw_of (i := 1009) (by decide +kernel) rfl
theorem mw_1010 : Cond.code yX8_reaches cX8_reaches 3 (some .boolean) ∈ TW := tw_of (i := 1010) (by decide +kernel) rfl
theorem mw_1012 : Cond.methodLink RL 119 yX8_longer ∈ TW := tw_of (i := 1012) (by decide +kernel) rfl
theorem mw_1013 : Cond.instanceMethod yX8_longer ∈ TW := tw_of (i := 1013) (by decide +kernel) rfl
theorem mw_1014 : Cond.selects RX8 yX8_longer yX8_longer ∈ TW := tw_of (i := 1014) (by decide +kernel) rfl
theorem mw_1015 : Cond.code yX8_longer cX8_longer 3 (some .int) ∈ TW := tw_of (i := 1015) (by decide +kernel) rfl
theorem mw_1017 : Cond.methodLink RL 122 yX8_alike ∈ TW := tw_of (i := 1017) (by decide +kernel) rfl
theorem mw_1018 : Cond.instanceMethod yX8_alike ∈ TW := tw_of (i := 1018) (by decide +kernel) rfl
theorem mw_1019 : Cond.selects RX8 yX8_alike yX8_alike ∈ TW := tw_of (i := 1019) (by decide +kernel) rfl
theorem mw_1020 : Cond.code yX8_alike cX8_alike 3 (some .int) ∈ TW := tw_of (i := 1020) (by decide +kernel) rfl
theorem mw_1022 : Cond.methodLink RL 125 yX8_agreed ∈ TW := tw_of (i := 1022) (by decide +kernel) rfl
theorem mw_1023 : Cond.instanceMethod yX8_agreed ∈ TW := tw_of (i := 1023) (by decide +kernel) rfl
theorem mw_1024 : Cond.selects RX8 yX8_agreed yX8_agreed ∈ TW := tw_of (i := 1024) (by decide +kernel) rfl
theorem mw_1025 : Cond.code yX8_agreed cX8_agreed 3 (some .int) ∈ TW := tw_of (i := 1025) (by decide +kernel) rfl
theorem mw_1026 : Cond.methodLink RL 128 yX8_agreedAgain ∈ TW := tw_of (i := 1026) (by decide +kernel) rfl
theorem mw_1027 : Cond.instanceMethod yX8_agreedAgain ∈ TW := tw_of (i := 1027) (by decide +kernel) rfl
theorem mw_1028 : Cond.selects RX8 yX8_agreedAgain yX8_agreedAgain ∈ TW := tw_of (i := 1028) (by decide +kernel) rfl
theorem mw_1029 : Cond.code yX8_agreedAgain cX8_agreedAgain 3 (some .int) ∈ TW := tw_of (i := 1029) (by decide +kernel) rfl
theorem mw_1030 : Cond.methodLink RL 131 yX8_isSafe ∈ TW := tw_of (i := 1030) (by decide +kernel) rfl
theorem mw_1031 : Cond.instanceMethod yX8_isSafe ∈ TW := tw_of (i := 1031) (by decide +kernel) rfl
theorem mw_1032 : Cond.selects RX8 yX8_isSafe yX8_isSafe ∈ TW := tw_of (i := 1032) (by decide +kernel) rfl
theorem mw_1033 : Cond.code yX8_isSafe cX8_isSafe 5 (some .int) ∈ TW := tw_of (i := 1033) (by decide +kernel) rfl
theorem mv_L_9 : MS RL 9 yL_cell cL_cell 3 (some .int) 2 := ⟨gi_cons mw_322 (gi_cons mw_323 (gi_cons mw_25 (gi_cons mw_324 tw_good))), by decide +kernel⟩
theorem mv_L_16 : MV RL 16 yJ0_length_8abf5 cJ0_length_8abf5 1 (some .int) 0 := ⟨gi_cons mw_841 (gi_cons mw_714 (gi_cons mw_715 (gi_cons mw_34 (gi_cons mw_716 tw_good)))), by decide +kernel⟩
theorem mv_L_32 : MV RL 32 yX8_read cX8_read 5 (some .int) 0 := ⟨gi_cons mw_887 (gi_cons mw_888 (gi_cons mw_889 (gi_cons mw_26 (gi_cons mw_890 tw_good)))), by decide +kernel⟩
theorem mv_L_22 : MV RL 22 yJ0_charAt_5068e cJ0_charAt_5068e 2 (some .char) 1 := ⟨gi_cons mw_842 (gi_cons mw_843 (gi_cons mw_844 (gi_cons mw_34 (gi_cons mw_845 tw_good)))), by decide +kernel⟩
theorem mv_L_26 : MV RL 26 yX8_append cX8_append 2 (some .int) 1 := ⟨gi_cons mw_866 (gi_cons mw_867 (gi_cons mw_868 (gi_cons mw_26 (gi_cons mw_869 tw_good)))), by decide +kernel⟩
theorem mv_L_47 : MV RL 47 yX8_account cX8_account 2 (some .int) 1 := ⟨gi_cons mw_278 (gi_cons mw_279 (gi_cons mw_280 (gi_cons mw_26 (gi_cons mw_281 tw_good)))), by decide +kernel⟩
theorem mv_L_125 : MV RL 125 yX8_agreed cX8_agreed 3 (some .int) 0 := ⟨gi_cons mw_1022 (gi_cons mw_1023 (gi_cons mw_1024 (gi_cons mw_26 (gi_cons mw_1025 tw_good)))), by decide +kernel⟩
theorem mv_L_128 : MV RL 128 yX8_agreedAgain cX8_agreedAgain 3 (some .int) 0 := ⟨gi_cons mw_1026 (gi_cons mw_1027 (gi_cons mw_1028 (gi_cons mw_26 (gi_cons mw_1029 tw_good)))), by decide +kernel⟩
theorem mv_L_50 : MV RL 50 yX8_leader cX8_leader 5 (some .int) 0 := ⟨gi_cons mw_602 (gi_cons mw_603 (gi_cons mw_604 (gi_cons mw_26 (gi_cons mw_605 tw_good)))), by decide +kernel⟩
theorem mv_L_131 : MV RL 131 yX8_isSafe cX8_isSafe 5 (some .int) 0 := ⟨gi_cons mw_1030 (gi_cons mw_1031 (gi_cons mw_1032 (gi_cons mw_26 (gi_cons mw_1033 tw_good)))), by decide +kernel⟩
theorem mv_L_103 : MV RL 103 yX8_driverOf cX8_driverOf 4 (some .int) 2 := ⟨gi_cons mw_236 (gi_cons mw_237 (gi_cons mw_238 (gi_cons mw_26 (gi_cons mw_239 tw_good)))), by decide +kernel⟩
theorem mv_L_115 : MV RL 115 yX8_reaches cX8_reaches 3 (some .boolean) 2 := ⟨gi_cons mw_1007 (gi_cons mw_1008 (gi_cons mw_1009 (gi_cons mw_26 (gi_cons mw_1010 tw_good)))), by decide +kernel⟩
theorem mv_L_119 : MV RL 119 yX8_longer cX8_longer 3 (some .int) 2 := ⟨gi_cons mw_1012 (gi_cons mw_1013 (gi_cons mw_1014 (gi_cons mw_26 (gi_cons mw_1015 tw_good)))), by decide +kernel⟩
theorem mv_L_122 : MV RL 122 yX8_alike cX8_alike 3 (some .int) 2 := ⟨gi_cons mw_1017 (gi_cons mw_1018 (gi_cons mw_1019 (gi_cons mw_26 (gi_cons mw_1020 tw_good)))), by decide +kernel⟩
theorem mv_L_106 : MV RL 106 yX8_lineOf cX8_lineOf 5 (some .int) 3 := ⟨gi_cons mw_991 (gi_cons mw_992 (gi_cons mw_993 (gi_cons mw_26 (gi_cons mw_994 tw_good)))), by decide +kernel⟩
theorem mv_L_36 : MS RL 36 yL_in cL_in 3 (some .int) 3 := ⟨gi_cons mw_319 (gi_cons mw_320 (gi_cons mw_25 (gi_cons mw_321 tw_good))), by decide +kernel⟩
theorem mv_L_53 : MV RL 53 yX8_ask cX8_ask 2 (some .int) 1 := ⟨gi_cons mw_47 (gi_cons mw_48 (gi_cons mw_49 (gi_cons mw_26 (gi_cons mw_50 tw_good)))), by decide +kernel⟩
theorem mv_L_56 : MV RL 56 yX8_send cX8_send 2 (some .int) 1 := ⟨gi_cons mw_607 (gi_cons mw_608 (gi_cons mw_609 (gi_cons mw_26 (gi_cons mw_610 tw_good)))), by decide +kernel⟩
theorem mv_L_59 : MV RL 59 yX8_shout cX8_shout 3 (some .int) 2 := ⟨gi_cons mw_613 (gi_cons mw_614 (gi_cons mw_615 (gi_cons mw_26 (gi_cons mw_616 tw_good)))), by decide +kernel⟩
theorem mv_L_63 : MV RL 63 yX8_wash cX8_wash 2 (some .int) 1 := ⟨gi_cons mw_224 (gi_cons mw_225 (gi_cons mw_226 (gi_cons mw_26 (gi_cons mw_227 tw_good)))), by decide +kernel⟩
theorem mv_L_66 : MV RL 66 yX8_back cX8_back 2 (some .int) 1 := ⟨gi_cons mw_619 (gi_cons mw_620 (gi_cons mw_621 (gi_cons mw_26 (gi_cons mw_622 tw_good)))), by decide +kernel⟩
theorem mv_L_69 : MV RL 69 yX8_cut cX8_cut 3 (some .int) 2 := ⟨gi_cons mw_625 (gi_cons mw_626 (gi_cons mw_627 (gi_cons mw_26 (gi_cons mw_628 tw_good)))), by decide +kernel⟩
theorem mv_L_73 : MV RL 73 yX8_tie cX8_tie 3 (some .int) 2 := ⟨gi_cons mw_631 (gi_cons mw_632 (gi_cons mw_633 (gi_cons mw_26 (gi_cons mw_634 tw_good)))), by decide +kernel⟩
theorem mv_L_44 : MV RL 44 yX8_beats cX8_beats 2 (some .int) 1 := ⟨gi_cons mw_230 (gi_cons mw_231 (gi_cons mw_232 (gi_cons mw_26 (gi_cons mw_233 tw_good)))), by decide +kernel⟩
