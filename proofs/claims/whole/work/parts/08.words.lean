theorem lb_m4 : (Int8.ofInt (-4)).toInt32 = (-4 : Int32) := by decide
theorem lb_m3 : (Int8.ofInt (-3)).toInt32 = (-3 : Int32) := by decide
theorem lb_m2 : (Int8.ofInt (-2)).toInt32 = (-2 : Int32) := by decide
theorem lb_6 : (Int8.ofInt (6)).toInt32 = (6 : Int32) := by decide
theorem lb_7 : (Int8.ofInt (7)).toInt32 = (7 : Int32) := by decide
theorem lb_8 : (Int8.ofInt (8)).toInt32 = (8 : Int32) := by decide
theorem lb_9 : (Int8.ofInt (9)).toInt32 = (9 : Int32) := by decide
theorem lb_10 : (Int8.ofInt (10)).toInt32 = (10 : Int32) := by decide
theorem lb_12 : (Int8.ofInt (12)).toInt32 = (12 : Int32) := by decide
theorem lb_20 : (Int8.ofInt (20)).toInt32 = (20 : Int32) := by decide
theorem lb_22 : (Int8.ofInt (22)).toInt32 = (22 : Int32) := by decide
theorem lb_25 : (Int8.ofInt (25)).toInt32 = (25 : Int32) := by decide
theorem lb_32 : (Int8.ofInt (32)).toInt32 = (32 : Int32) := by decide
theorem lb_33 : (Int8.ofInt (33)).toInt32 = (33 : Int32) := by decide
theorem lb_34 : (Int8.ofInt (34)).toInt32 = (34 : Int32) := by decide
theorem lb_44 : (Int8.ofInt (44)).toInt32 = (44 : Int32) := by decide
theorem lb_45 : (Int8.ofInt (45)).toInt32 = (45 : Int32) := by decide
theorem lb_48 : (Int8.ofInt (48)).toInt32 = (48 : Int32) := by decide
theorem lb_57 : (Int8.ofInt (57)).toInt32 = (57 : Int32) := by decide
theorem lb_59 : (Int8.ofInt (59)).toInt32 = (59 : Int32) := by decide
theorem lb_60 : (Int8.ofInt (60)).toInt32 = (60 : Int32) := by decide
theorem lb_97 : (Int8.ofInt (97)).toInt32 = (97 : Int32) := by decide
theorem lb_122 : (Int8.ofInt (122)).toInt32 = (122 : Int32) := by decide
theorem lb_126 : (Int8.ofInt (126)).toInt32 = (126 : Int32) := by decide
theorem lh_203 : (Int16.ofInt (203)).toInt32 = (203 : Int32) := by decide
theorem lh_255 : (Int16.ofInt (255)).toInt32 = (255 : Int32) := by decide
theorem li_m1 : Int32.ofInt (-1) = (-1 : Int32) := by decide
theorem li_0 : Int32.ofInt (0) = (0 : Int32) := by decide
theorem li_1 : Int32.ofInt (1) = (1 : Int32) := by decide
theorem li_2 : Int32.ofInt (2) = (2 : Int32) := by decide
theorem li_3 : Int32.ofInt (3) = (3 : Int32) := by decide
theorem li_4 : Int32.ofInt (4) = (4 : Int32) := by decide
theorem li_5 : Int32.ofInt (5) = (5 : Int32) := by decide
theorem mw_0 : Cond.selects RX8 yX8_change yX8_change ∈ TW := tw_of (i := 0) (by decide +kernel) rfl
theorem mw_1 : Cond.selects RX8 yX8_carryOut yX8_carryOut ∈ TW := tw_of (i := 1) (by decide +kernel) rfl
theorem mw_2 : Cond.selects RX8 yX8_letCome yX8_letCome ∈ TW := tw_of (i := 2) (by decide +kernel) rfl
theorem mw_3 : Cond.selects RX8 yX8_refuse yX8_refuse ∈ TW := tw_of (i := 3) (by decide +kernel) rfl
theorem mw_4 : Cond.selects RX8 yX8_letAsk yX8_letAsk ∈ TW := tw_of (i := 4) (by decide +kernel) rfl
theorem mw_5 : Cond.selects RX4 yX4_beginAsking yX4_beginAsking ∈ TW := tw_of (i := 5) (by decide +kernel) rfl
theorem mw_6 : Cond.selects RX4 yX4_letVote yX4_letVote ∈ TW := tw_of (i := 6) (by decide +kernel) rfl
theorem mw_7 : Cond.selects RX8 yX8_letSend yX8_letSend ∈ TW := tw_of (i := 7) (by decide +kernel) rfl
theorem mw_8 : Cond.selects RX8 yX8_letShout yX8_letShout ∈ TW := tw_of (i := 8) (by decide +kernel) rfl
theorem mw_9 : Cond.selects RX8 yX8_washAway yX8_washAway ∈ TW := tw_of (i := 9) (by decide +kernel) rfl
theorem mw_10 : Cond.selects RX8 yX8_bringBack yX8_bringBack ∈ TW := tw_of (i := 10) (by decide +kernel) rfl
theorem mw_11 : Cond.selects RX8 yX8_changeRope yX8_changeRope ∈ TW := tw_of (i := 11) (by decide +kernel) rfl
theorem mw_24 : Cond.selects RX8 yX8_codeOfAsking yX8_codeOfAsking ∈ TW := tw_of (i := 24) (by decide +kernel) rfl
theorem mw_25 : Cond.selects RX4 yX4_isRankedAhead yX4_isRankedAhead ∈ TW := tw_of (i := 25) (by decide +kernel) rfl
theorem mw_26 : Cond.selects RX9 yX9_keeps yX9_keeps ∈ TW := tw_of (i := 26) (by decide +kernel) rfl
theorem mw_27 : Cond.selects RX9 yX9_comes yX9_comes ∈ TW := tw_of (i := 27) (by decide +kernel) rfl
theorem mw_28 : Cond.selects RX9 yX9_isRefused yX9_isRefused ∈ TW := tw_of (i := 28) (by decide +kernel) rfl
theorem mw_29 : Cond.selects RX9 yX9_sets yX9_sets ∈ TW := tw_of (i := 29) (by decide +kernel) rfl
theorem mw_30 : Cond.selects RX9 yX9_ends yX9_ends ∈ TW := tw_of (i := 30) (by decide +kernel) rfl
theorem mw_31 : Cond.selects RX9 yX9_changed yX9_changed ∈ TW := tw_of (i := 31) (by decide +kernel) rfl
theorem mw_32 : Cond.selects RX9 yX9_asks yX9_asks ∈ TW := tw_of (i := 32) (by decide +kernel) rfl
theorem mw_33 : Cond.selects RX9 yX9_isDriver yX9_isDriver ∈ TW := tw_of (i := 33) (by decide +kernel) rfl
theorem mw_34 : Cond.selects RX9 yX9_isWashed yX9_isWashed ∈ TW := tw_of (i := 34) (by decide +kernel) rfl
theorem mw_35 : Cond.selects RX9 yX9_isAboard yX9_isAboard ∈ TW := tw_of (i := 35) (by decide +kernel) rfl
theorem mw_36 : Cond.selects RX9 yX9_of yX9_of ∈ TW := tw_of (i := 36) (by decide +kernel) rfl
theorem mw_37 : Cond.selects RX9 yX9_asksNow yX9_asksNow ∈ TW := tw_of (i := 37) (by decide +kernel) rfl
theorem mw_38 : Cond.selects RX9 yX9_isReached yX9_isReached ∈ TW := tw_of (i := 38) (by decide +kernel) rfl
theorem mw_39 : Cond.selects RX9 yX9_ropeAt yX9_ropeAt ∈ TW := tw_of (i := 39) (by decide +kernel) rfl
theorem mw_40 : Cond.selects RX9 yX9_takesOver yX9_takesOver ∈ TW := tw_of (i := 40) (by decide +kernel) rfl
theorem mw_41 : Cond.selects RX9 yX9_votes yX9_votes ∈ TW := tw_of (i := 41) (by decide +kernel) rfl
theorem mw_42 : Cond.selects RX9 yX9_longerOf yX9_longerOf ∈ TW := tw_of (i := 42) (by decide +kernel) rfl
theorem mw_43 : Cond.selects RX9 yX9_lastTerm yX9_lastTerm ∈ TW := tw_of (i := 43) (by decide +kernel) rfl
theorem mw_44 : Cond.selects RX9 yX9_isMajority yX9_isMajority ∈ TW := tw_of (i := 44) (by decide +kernel) rfl
theorem mw_45 : Cond.selects RX9 yX9_sends yX9_sends ∈ TW := tw_of (i := 45) (by decide +kernel) rfl
theorem mw_46 : Cond.selects RX9 yX9_isNoLeader yX9_isNoLeader ∈ TW := tw_of (i := 46) (by decide +kernel) rfl
theorem mw_47 : Cond.selects RX9 yX9_sendsNow yX9_sendsNow ∈ TW := tw_of (i := 47) (by decide +kernel) rfl
theorem mw_48 : Cond.selects RX9 yX9_gets yX9_gets ∈ TW := tw_of (i := 48) (by decide +kernel) rfl
theorem mw_49 : Cond.selects RX9 yX9_alikeTo yX9_alikeTo ∈ TW := tw_of (i := 49) (by decide +kernel) rfl
theorem mw_50 : Cond.selects RX9 yX9_lastOwn yX9_lastOwn ∈ TW := tw_of (i := 50) (by decide +kernel) rfl
theorem mw_51 : Cond.selects RX9 yX9_shouts yX9_shouts ∈ TW := tw_of (i := 51) (by decide +kernel) rfl
theorem mw_52 : Cond.selects RX9 yX9_washes yX9_washes ∈ TW := tw_of (i := 52) (by decide +kernel) rfl
theorem mw_53 : Cond.selects RX9 yX9_aboard yX9_aboard ∈ TW := tw_of (i := 53) (by decide +kernel) rfl
theorem mw_54 : Cond.selects RX9 yX9_comesBack yX9_comesBack ∈ TW := tw_of (i := 54) (by decide +kernel) rfl
theorem mw_55 : Cond.selects RX9 yX9_ropes yX9_ropes ∈ TW := tw_of (i := 55) (by decide +kernel) rfl
theorem mw_56 : Cond.selects RX9 yX9_areDrivers yX9_areDrivers ∈ TW := tw_of (i := 56) (by decide +kernel) rfl
theorem mw_57 : Cond.selects RX9 yX9_ropesCut yX9_ropesCut ∈ TW := tw_of (i := 57) (by decide +kernel) rfl
theorem mw_58 : Cond.selects RX9 yX9_beatsGo yX9_beatsGo ∈ TW := tw_of (i := 58) (by decide +kernel) rfl
theorem mw_59 : Cond.selects RX9 yX9_beatGoes yX9_beatGoes ∈ TW := tw_of (i := 59) (by decide +kernel) rfl
theorem mw_60 : Cond.selects RX9 yX9_waits yX9_waits ∈ TW := tw_of (i := 60) (by decide +kernel) rfl
theorem mw_61 : Cond.selects RX9 yX9_isText yX9_isText ∈ TW := tw_of (i := 61) (by decide +kernel) rfl
theorem mw_62 : Cond.selects RX9 yX9_readsCommand yX9_readsCommand ∈ TW := tw_of (i := 62) (by decide +kernel) rfl
theorem mw_63 : Cond.selects RX9 yX9_isWord yX9_isWord ∈ TW := tw_of (i := 63) (by decide +kernel) rfl
theorem mw_64 : Cond.selects RX9 yX9_alikeHere yX9_alikeHere ∈ TW := tw_of (i := 64) (by decide +kernel) rfl
theorem mw_65 : Cond.selects RX9 yX9_isDigit yX9_isDigit ∈ TW := tw_of (i := 65) (by decide +kernel) rfl
theorem mw_66 : Cond.selects RX9 yX9_sign yX9_sign ∈ TW := tw_of (i := 66) (by decide +kernel) rfl
theorem mw_67 : Cond.selects RX9 yX9_isSign yX9_isSign ∈ TW := tw_of (i := 67) (by decide +kernel) rfl
theorem mw_68 : Cond.selects RX9 yX9_isLetter yX9_isLetter ∈ TW := tw_of (i := 68) (by decide +kernel) rfl
theorem mw_69 : Cond.selects RX9 yX9_does yX9_does ∈ TW := tw_of (i := 69) (by decide +kernel) rfl
theorem mw_70 : Cond.selects RX9 yX9_isBehind yX9_isBehind ∈ TW := tw_of (i := 70) (by decide +kernel) rfl
theorem mw_71 : Cond.selects RX9 yX9_reachedBy yX9_reachedBy ∈ TW := tw_of (i := 71) (by decide +kernel) rfl
theorem mw_72 : Cond.selects RX9 yX9_isLine yX9_isLine ∈ TW := tw_of (i := 72) (by decide +kernel) rfl
theorem mw_73 : Cond.selects RX9 yX9_wouldGive yX9_wouldGive ∈ TW := tw_of (i := 73) (by decide +kernel) rfl
theorem mw_74 : Cond.selects RX9 yX9_codeOfAsking yX9_codeOfAsking ∈ TW := tw_of (i := 74) (by decide +kernel) rfl
theorem mw_75 : Cond.selects RX9 yX9_isAhead yX9_isAhead ∈ TW := tw_of (i := 75) (by decide +kernel) rfl
theorem mw_76 : Cond.selects RX9 yX9_waitsYet yX9_waitsYet ∈ TW := tw_of (i := 76) (by decide +kernel) rfl
theorem mw_77 : Cond.selects RX9 yX9_doesWait yX9_doesWait ∈ TW := tw_of (i := 77) (by decide +kernel) rfl
theorem mw_78 : Cond.selects RX9 yX9_puts yX9_puts ∈ TW := tw_of (i := 78) (by decide +kernel) rfl
theorem mw_81 : Cond.selects RX9 yX9_greatestTerm yX9_greatestTerm ∈ TW := tw_of (i := 81) (by decide +kernel) rfl
theorem mw_83 : Cond.initialized RX8 ∈ TW := tw_of (i := 83) (by decide +kernel) rfl
theorem mw_84 : Cond.initialized RX4 ∈ TW := tw_of (i := 84) (by decide +kernel) rfl
theorem mw_85 : Cond.initialized RX2 ∈ TW := tw_of (i := 85) (by decide +kernel) rfl
theorem mw_86 : Cond.initialized RX3 ∈ TW := tw_of (i := 86) (by decide +kernel) rfl
theorem mw_87 : Cond.initialized RX5 ∈ TW := tw_of (i := 87) (by decide +kernel) rfl
theorem mw_91 : Cond.initialized RJ0 ∈ TW := tw_of (i := 91) (by decide +kernel) rfl
theorem mw_94 : Cond.initialized RX9 ∈ TW := tw_of (i := 94) (by decide +kernel) rfl
theorem mw_96 : Cond.initialized "java/lang/Math" ∈ TW := tw_of (i := 96) (by decide +kernel) rfl
theorem mw_99 : Cond.initialized RJ1 ∈ TW := tw_of (i := 99) (by decide +kernel) rfl
theorem mw_100 : Cond.initialized RJ3 ∈ TW := tw_of (i := 100) (by decide +kernel) rfl
theorem mw_101 : Cond.initialized yJx29ce0_ordinal_8abf5.cls ∈ TW := tw_of (i := 101) (by decide +kernel) rfl
theorem mw_126 : Cond.fieldLink RX2 19 (TX2 0).1 (TX2 0).2.1 (TX2 0).2.2.1 ∈ TW := tw_of (i := 126) (by decide +kernel) rfl
theorem mw_127 : Cond.fieldLink RX4 90 (TX2 0).1 (TX2 0).2.1 (TX2 0).2.2.1 ∈ TW := tw_of (i := 127) (by decide +kernel) rfl
theorem mw_128 : Cond.fieldLink RX8 201 (TX2 0).1 (TX2 0).2.1 (TX2 0).2.2.1 ∈ TW := tw_of (i := 128) (by decide +kernel) rfl
theorem mw_129 : Cond.fieldLink RX2 23 (TX2 1).1 (TX2 1).2.1 (TX2 1).2.2.1 ∈ TW := tw_of (i := 129) (by decide +kernel) rfl
theorem mw_130 : Cond.fieldLink RX4 77 (TX2 1).1 (TX2 1).2.1 (TX2 1).2.2.1 ∈ TW := tw_of (i := 130) (by decide +kernel) rfl
theorem mw_131 : Cond.fieldLink RX8 204 (TX2 1).1 (TX2 1).2.1 (TX2 1).2.2.1 ∈ TW := tw_of (i := 131) (by decide +kernel) rfl
theorem mw_132 : Cond.fieldLink RX2 26 (TX2 2).1 (TX2 2).2.1 (TX2 2).2.2.1 ∈ TW := tw_of (i := 132) (by decide +kernel) rfl
theorem mw_133 : Cond.fieldLink RX8 264 (TX2 2).1 (TX2 2).2.1 (TX2 2).2.2.1 ∈ TW := tw_of (i := 133) (by decide +kernel) rfl
theorem mw_134 : Cond.fieldLink RX2 29 (TX2 3).1 (TX2 3).2.1 (TX2 3).2.2.1 ∈ TW := tw_of (i := 134) (by decide +kernel) rfl
theorem mw_135 : Cond.fieldLink RX4 99 (TX2 3).1 (TX2 3).2.1 (TX2 3).2.2.1 ∈ TW := tw_of (i := 135) (by decide +kernel) rfl
theorem mw_136 : Cond.fieldLink RX8 226 (TX2 3).1 (TX2 3).2.1 (TX2 3).2.2.1 ∈ TW := tw_of (i := 136) (by decide +kernel) rfl
theorem mw_137 : Cond.fieldLink RX2 32 (TX2 4).1 (TX2 4).2.1 (TX2 4).2.2.1 ∈ TW := tw_of (i := 137) (by decide +kernel) rfl
theorem mw_138 : Cond.fieldLink RX4 96 (TX2 4).1 (TX2 4).2.1 (TX2 4).2.2.1 ∈ TW := tw_of (i := 138) (by decide +kernel) rfl
theorem mw_139 : Cond.fieldLink RX8 267 (TX2 4).1 (TX2 4).2.1 (TX2 4).2.2.1 ∈ TW := tw_of (i := 139) (by decide +kernel) rfl
theorem mw_140 : Cond.fieldLink RX2 35 (TX2 5).1 (TX2 5).2.1 (TX2 5).2.2.1 ∈ TW := tw_of (i := 140) (by decide +kernel) rfl
theorem mw_141 : Cond.fieldLink RX4 55 (TX2 5).1 (TX2 5).2.1 (TX2 5).2.2.1 ∈ TW := tw_of (i := 141) (by decide +kernel) rfl
theorem mw_142 : Cond.fieldLink RX8 213 (TX2 5).1 (TX2 5).2.1 (TX2 5).2.2.1 ∈ TW := tw_of (i := 142) (by decide +kernel) rfl
theorem mw_143 : Cond.fieldLink RX2 38 (TX2 6).1 (TX2 6).2.1 (TX2 6).2.2.1 ∈ TW := tw_of (i := 143) (by decide +kernel) rfl
theorem mw_144 : Cond.fieldLink RX4 152 (TX2 6).1 (TX2 6).2.1 (TX2 6).2.2.1 ∈ TW := tw_of (i := 144) (by decide +kernel) rfl
theorem mw_145 : Cond.fieldLink RX8 270 (TX2 6).1 (TX2 6).2.1 (TX2 6).2.2.1 ∈ TW := tw_of (i := 145) (by decide +kernel) rfl
theorem mw_146 : Cond.fieldLink RX2 41 (TX2 7).1 (TX2 7).2.1 (TX2 7).2.2.1 ∈ TW := tw_of (i := 146) (by decide +kernel) rfl
theorem mw_147 : Cond.fieldLink RX4 62 (TX2 7).1 (TX2 7).2.1 (TX2 7).2.2.1 ∈ TW := tw_of (i := 147) (by decide +kernel) rfl
theorem mw_148 : Cond.fieldLink RX8 195 (TX2 7).1 (TX2 7).2.1 (TX2 7).2.2.1 ∈ TW := tw_of (i := 148) (by decide +kernel) rfl
theorem mw_149 : Cond.fieldLink RX2 45 (TX2 8).1 (TX2 8).2.1 (TX2 8).2.2.1 ∈ TW := tw_of (i := 149) (by decide +kernel) rfl
theorem mw_150 : Cond.fieldLink RX4 102 (TX2 8).1 (TX2 8).2.1 (TX2 8).2.2.1 ∈ TW := tw_of (i := 150) (by decide +kernel) rfl
theorem mw_151 : Cond.fieldLink RX8 276 (TX2 8).1 (TX2 8).2.1 (TX2 8).2.2.1 ∈ TW := tw_of (i := 151) (by decide +kernel) rfl
theorem mw_152 : Cond.fieldLink RX2 48 (TX2 9).1 (TX2 9).2.1 (TX2 9).2.2.1 ∈ TW := tw_of (i := 152) (by decide +kernel) rfl
theorem mw_153 : Cond.fieldLink RX4 93 (TX2 9).1 (TX2 9).2.1 (TX2 9).2.2.1 ∈ TW := tw_of (i := 153) (by decide +kernel) rfl
theorem mw_154 : Cond.fieldLink RX8 279 (TX2 9).1 (TX2 9).2.1 (TX2 9).2.2.1 ∈ TW := tw_of (i := 154) (by decide +kernel) rfl
theorem mw_155 : Cond.fieldLink RX2 9 (TX2 10).1 (TX2 10).2.1 (TX2 10).2.2.1 ∈ TW := tw_of (i := 155) (by decide +kernel) rfl
theorem mw_156 : Cond.fieldLink RX8 289 (TX2 10).1 (TX2 10).2.1 (TX2 10).2.2.1 ∈ TW := tw_of (i := 156) (by decide +kernel) rfl
theorem mw_157 : Cond.fieldLink RX2 15 (TX2 11).1 (TX2 11).2.1 (TX2 11).2.2.1 ∈ TW := tw_of (i := 157) (by decide +kernel) rfl
theorem mw_158 : Cond.fieldLink RX8 285 (TX2 11).1 (TX2 11).2.1 (TX2 11).2.2.1 ∈ TW := tw_of (i := 158) (by decide +kernel) rfl
theorem mw_187 : Cond.fieldLink RX4 11 (TX4 0).1 (TX4 0).2.1 (TX4 0).2.2.1 ∈ TW := tw_of (i := 187) (by decide +kernel) rfl
theorem mw_188 : Cond.fieldLink RX8 191 (TX4 0).1 (TX4 0).2.1 (TX4 0).2.2.1 ∈ TW := tw_of (i := 188) (by decide +kernel) rfl
theorem mw_189 : Cond.fieldLink RX4 17 (TX4 1).1 (TX4 1).2.1 (TX4 1).2.2.1 ∈ TW := tw_of (i := 189) (by decide +kernel) rfl
theorem mw_190 : Cond.fieldLink RX8 54 (TX4 2).1 (TX4 2).2.1 (TX4 2).2.2.1 ∈ TW := tw_of (i := 190) (by decide +kernel) rfl
theorem mw_191 : Cond.fieldLink RX4 22 (TX4 2).1 (TX4 2).2.1 (TX4 2).2.2.1 ∈ TW := tw_of (i := 191) (by decide +kernel) rfl
theorem mw_192 : Cond.fieldLink RX4 26 (TX4 3).1 (TX4 3).2.1 (TX4 3).2.2.1 ∈ TW := tw_of (i := 192) (by decide +kernel) rfl
theorem mw_193 : Cond.fieldLink RX8 361 (TX4 3).1 (TX4 3).2.1 (TX4 3).2.2.1 ∈ TW := tw_of (i := 193) (by decide +kernel) rfl
theorem mw_194 : Cond.fieldLink RX4 29 (TX4 4).1 (TX4 4).2.1 (TX4 4).2.2.1 ∈ TW := tw_of (i := 194) (by decide +kernel) rfl
theorem mw_195 : Cond.fieldLink RX8 178 (TX4 4).1 (TX4 4).2.1 (TX4 4).2.2.1 ∈ TW := tw_of (i := 195) (by decide +kernel) rfl
theorem mw_196 : Cond.fieldLink RX4 32 (TX4 5).1 (TX4 5).2.1 (TX4 5).2.2.1 ∈ TW := tw_of (i := 196) (by decide +kernel) rfl
theorem mw_198 : Cond.fieldLink RX4 35 (TX4 6).1 (TX4 6).2.1 (TX4 6).2.2.1 ∈ TW := tw_of (i := 198) (by decide +kernel) rfl
theorem mw_199 : Cond.fieldLink RX8 216 (TX4 6).1 (TX4 6).2.1 (TX4 6).2.2.1 ∈ TW := tw_of (i := 199) (by decide +kernel) rfl
theorem mw_200 : Cond.fieldLink RX4 38 (TX4 7).1 (TX4 7).2.1 (TX4 7).2.2.1 ∈ TW := tw_of (i := 200) (by decide +kernel) rfl
theorem mw_202 : Cond.fieldLink RX4 41 (TX4 8).1 (TX4 8).2.1 (TX4 8).2.2.1 ∈ TW := tw_of (i := 202) (by decide +kernel) rfl
theorem mw_204 : Cond.fieldLink RX4 44 (TX4 9).1 (TX4 9).2.1 (TX4 9).2.2.1 ∈ TW := tw_of (i := 204) (by decide +kernel) rfl
theorem mw_236 : Cond.fieldLink RX3 11 (TX3 0).1 (TX3 0).2.1 (TX3 0).2.2.1 ∈ TW := tw_of (i := 236) (by decide +kernel) rfl
theorem mw_237 : Cond.fieldLink RX3 18 (TX3 1).1 (TX3 1).2.1 (TX3 1).2.2.1 ∈ TW := tw_of (i := 237) (by decide +kernel) rfl
theorem mw_238 : Cond.fieldLink RX3 26 (TX3 2).1 (TX3 2).2.1 (TX3 2).2.2.1 ∈ TW := tw_of (i := 238) (by decide +kernel) rfl
theorem mw_239 : Cond.fieldLink RX8 379 (TX3 2).1 (TX3 2).2.1 (TX3 2).2.2.1 ∈ TW := tw_of (i := 239) (by decide +kernel) rfl
theorem mw_253 : Cond.fieldLink RX5 7 (TX5 0).1 (TX5 0).2.1 (TX5 0).2.2.1 ∈ TW := tw_of (i := 253) (by decide +kernel) rfl
theorem mw_254 : Cond.fieldLink RX8 252 (TX5 0).1 (TX5 0).2.1 (TX5 0).2.2.1 ∈ TW := tw_of (i := 254) (by decide +kernel) rfl
theorem mw_255 : Cond.fieldLink RX5 13 (TX5 1).1 (TX5 1).2.1 (TX5 1).2.2.1 ∈ TW := tw_of (i := 255) (by decide +kernel) rfl
theorem mw_256 : Cond.fieldLink RX8 258 (TX5 1).1 (TX5 1).2.1 (TX5 1).2.2.1 ∈ TW := tw_of (i := 256) (by decide +kernel) rfl
theorem mw_257 : Cond.fieldLink RX5 16 (TX5 2).1 (TX5 2).2.1 (TX5 2).2.2.1 ∈ TW := tw_of (i := 257) (by decide +kernel) rfl
theorem mw_258 : Cond.fieldLink RX8 255 (TX5 2).1 (TX5 2).2.1 (TX5 2).2.2.1 ∈ TW := tw_of (i := 258) (by decide +kernel) rfl
theorem mw_259 : Cond.fieldLink RX5 19 (TX5 3).1 (TX5 3).2.1 (TX5 3).2.2.1 ∈ TW := tw_of (i := 259) (by decide +kernel) rfl
theorem mw_260 : Cond.fieldLink RX8 261 (TX5 3).1 (TX5 3).2.1 (TX5 3).2.2.1 ∈ TW := tw_of (i := 260) (by decide +kernel) rfl
theorem mw_346 : Cond.fieldLink RX8 12 (TX8 0).1 (TX8 0).2.1 (TX8 0).2.2.1 ∈ TW := tw_of (i := 346) (by decide +kernel) rfl
theorem mw_347 : Cond.fieldLink RX8 16 (TX8 1).1 (TX8 1).2.1 (TX8 1).2.2.1 ∈ TW := tw_of (i := 347) (by decide +kernel) rfl
theorem mw_348 : Cond.fieldLink RX8 19 (TX8 2).1 (TX8 2).2.1 (TX8 2).2.2.1 ∈ TW := tw_of (i := 348) (by decide +kernel) rfl
theorem mw_349 : Cond.fieldLink RX8 25 (TX8 3).1 (TX8 3).2.1 (TX8 3).2.2.1 ∈ TW := tw_of (i := 349) (by decide +kernel) rfl
theorem mw_350 : Cond.fieldLink RX8 32 (TX8 4).1 (TX8 4).2.1 (TX8 4).2.2.1 ∈ TW := tw_of (i := 350) (by decide +kernel) rfl
theorem mw_353 : Cond.fieldLink RX8 383 (TX8 7).1 (TX8 7).2.1 (TX8 7).2.2.1 ∈ TW := tw_of (i := 353) (by decide +kernel) rfl
theorem mw_354 : Cond.fieldLink RX8 50 (TX8 8).1 (TX8 8).2.1 (TX8 8).2.2.1 ∈ TW := tw_of (i := 354) (by decide +kernel) rfl
theorem mw_378 : Cond.methodLink RX8 57 yX4_empty ∈ TW := tw_of (i := 378) (by decide +kernel) rfl
theorem mw_379 : Cond.instanceMethod yX4_empty ∈ TW := tw_of (i := 379) (by decide +kernel) rfl
theorem mw_380 : Cond.selects RX4 yX4_empty yX4_empty ∈ TW := tw_of (i := 380) (by decide +kernel) rfl
theorem mw_381 : Cond.code yX4_empty cX4_empty 2 none ∈ TW := tw_of (i := 381) (by decide +kernel) rfl
theorem mw_382 : Cond.methodLink RX8 60 yX3_forget ∈ TW := tw_of (i := 382) (by decide +kernel) rfl
theorem mw_383 : Cond.instanceMethod yX3_forget ∈ TW := tw_of (i := 383) (by decide +kernel) rfl
theorem mw_384 : Cond.selects RX3 yX3_forget yX3_forget ∈ TW := tw_of (i := 384) (by decide +kernel) rfl
theorem mw_385 : Cond.code yX3_forget cX3_forget 1 none ∈ TW := tw_of (i := 385) (by decide +kernel) rfl
theorem mw_420 : Cond.static Lib.Math.max.name ∈ TW := tw_of (i := 420) (by decide +kernel) rfl
theorem mw_421 : Cond.code Lib.Math.max.name Lib.Math.max.code 2 (some .int) ∈ TW := tw_of (i := 421) (by decide +kernel) rfl
theorem mw_438 : Cond.static Lib.Math.min.name ∈ TW := tw_of (i := 438) (by decide +kernel) rfl
theorem mw_439 : Cond.code Lib.Math.min.name Lib.Math.min.code 2 (some .int) ∈ TW := tw_of (i := 439) (by decide +kernel) rfl
theorem mw_470 : Cond.fieldLink RJ0 1053 "jdk/internal/util/Preconditions" "SIOOBE_FORMATTER" "Ljava/util/function/BiFunction;" ∈ TW := tw_of (i := 470) (by decide +kernel) rfl
theorem mw_491 : Cond.static yJ0_checkIndex_df160 ∈ TW := tw_of (i := 491) (by decide +kernel) rfl
theorem mw_492 : Cond.code yJ0_checkIndex_df160 cJ0_checkIndex_df160 2 none ∈ TW := tw_of (i := 492) (by decide +kernel) rfl
theorem mw_493 : Cond.methodLink RJ0 1059 yJ3_checkIndex_8e157 ∈ TW := tw_of (i := 493) (by decide +kernel) rfl
theorem mw_494 : Cond.static yJ3_checkIndex_8e157 ∈ TW := tw_of (i := 494) (by decide +kernel) rfl
theorem mw_495 : Cond.code yJ3_checkIndex_8e157 cJ3_checkIndex_8e157 3 (some .int) ∈ TW := tw_of (i := 495) (by decide +kernel) rfl
theorem mw_504 : Cond.fieldLink RX8 71 "LogRaft$Word" (wNm.getD 0 "") "LLogRaft$Word;" ∈ TW := tw_of (i := 504) (by decide +kernel) rfl
theorem mw_506 : Cond.methodLink RX8 77 yX8_change ∈ TW := tw_of (i := 506) (by decide +kernel) rfl
theorem mw_508 : Cond.instanceMethod yX8_change ∈ TW := tw_of (i := 508) (by decide +kernel) rfl
theorem mw_509 : Cond.code yX8_change cX8_change 5 (some .int) ∈ TW := tw_of (i := 509) (by decide +kernel) rfl
theorem mw_510 : Cond.methodLink RX8 113 yX4_copyFrom ∈ TW := tw_of (i := 510) (by decide +kernel) rfl
theorem mw_511 : Cond.instanceMethod yX4_copyFrom ∈ TW := tw_of (i := 511) (by decide +kernel) rfl
theorem mw_512 : Cond.selects RX4 yX4_copyFrom yX4_copyFrom ∈ TW := tw_of (i := 512) (by decide +kernel) rfl
theorem mw_513 : Cond.code yX4_copyFrom cX4_copyFrom 3 none ∈ TW := tw_of (i := 513) (by decide +kernel) rfl
theorem mw_514 : Cond.methodLink RX4 47 yX2_copyFrom ∈ TW := tw_of (i := 514) (by decide +kernel) rfl
theorem mw_515 : Cond.instanceMethod yX2_copyFrom ∈ TW := tw_of (i := 515) (by decide +kernel) rfl
theorem mw_516 : Cond.selects RX2 yX2_copyFrom yX2_copyFrom ∈ TW := tw_of (i := 516) (by decide +kernel) rfl
theorem mw_517 : Cond.code yX2_copyFrom cX2_copyFrom 2 none ∈ TW := tw_of (i := 517) (by decide +kernel) rfl
theorem mw_518 : Cond.methodLink RX2 51 yX2_copyLines ∈ TW := tw_of (i := 518) (by decide +kernel) rfl
theorem mw_519 : Cond.instanceMethod yX2_copyLines ∈ TW := tw_of (i := 519) (by decide +kernel) rfl
theorem mw_520 : Cond.selects RX2 yX2_copyLines yX2_copyLines ∈ TW := tw_of (i := 520) (by decide +kernel) rfl
theorem mw_521 : Cond.code yX2_copyLines cX2_copyLines 4 none ∈ TW := tw_of (i := 521) (by decide +kernel) rfl
theorem mw_522 : Cond.methodLink RX8 133 yX8_carryOut ∈ TW := tw_of (i := 522) (by decide +kernel) rfl
theorem mw_524 : Cond.instanceMethod yX8_carryOut ∈ TW := tw_of (i := 524) (by decide +kernel) rfl
theorem mw_525 : Cond.code yX8_carryOut cX8_carryOut 4 (some .int) ∈ TW := tw_of (i := 525) (by decide +kernel) rfl
theorem mw_526 : Cond.fieldLink RX8 143 "LogRaft$1" "$SwitchMap$LogRaft$Word" "[I" ∈ TW := tw_of (i := 526) (by decide +kernel) rfl
theorem mw_528 : Cond.methodLink RX8 149 yWord_ordinal ∈ TW := tw_of (i := 528) (by decide +kernel) rfl
theorem mw_529 : Cond.sameMethod yWord_ordinal.cls "java/lang/Enum" yWord_ordinal.name yWord_ordinal.desc ∈ TW := tw_of (i := 529) (by decide +kernel) rfl
theorem mw_531 : Cond.selects RX7 yWord_ordinal yJx29ce0_ordinal_8abf5 ∈ TW := tw_of (i := 531) (by decide +kernel) rfl
theorem mw_532 : Cond.instanceMethod yJx29ce0_ordinal_8abf5 ∈ TW := tw_of (i := 532) (by decide +kernel) rfl
theorem mw_533 : Cond.code yJx29ce0_ordinal_8abf5 cJx29ce0_ordinal_8abf5 1 (some .int) ∈ TW := tw_of (i := 533) (by decide +kernel) rfl
theorem mw_534 : Cond.methodLink RX8 152 yX8_letCome ∈ TW := tw_of (i := 534) (by decide +kernel) rfl
theorem mw_536 : Cond.instanceMethod yX8_letCome ∈ TW := tw_of (i := 536) (by decide +kernel) rfl
theorem mw_537 : Cond.code yX8_letCome cX8_letCome 2 (some .int) ∈ TW := tw_of (i := 537) (by decide +kernel) rfl
theorem mw_538 : Cond.methodLink RX8 181 yX8_refuse ∈ TW := tw_of (i := 538) (by decide +kernel) rfl
theorem mw_540 : Cond.instanceMethod yX8_refuse ∈ TW := tw_of (i := 540) (by decide +kernel) rfl
theorem mw_541 : Cond.code yX8_refuse cX8_refuse 3 (some .int) ∈ TW := tw_of (i := 541) (by decide +kernel) rfl
theorem mw_542 : Cond.methodLink RX8 245 yX5_put ∈ TW := tw_of (i := 542) (by decide +kernel) rfl
theorem mw_543 : Cond.instanceMethod yX5_put ∈ TW := tw_of (i := 543) (by decide +kernel) rfl
theorem mw_544 : Cond.selects RX5 yX5_put yX5_put ∈ TW := tw_of (i := 544) (by decide +kernel) rfl
theorem mw_545 : Cond.code yX5_put cX5_put 3 none ∈ TW := tw_of (i := 545) (by decide +kernel) rfl
theorem mw_546 : Cond.methodLink RX8 184 yX4_addDriver ∈ TW := tw_of (i := 546) (by decide +kernel) rfl
theorem mw_547 : Cond.instanceMethod yX4_addDriver ∈ TW := tw_of (i := 547) (by decide +kernel) rfl
theorem mw_548 : Cond.selects RX4 yX4_addDriver yX4_addDriver ∈ TW := tw_of (i := 548) (by decide +kernel) rfl
theorem mw_549 : Cond.code yX4_addDriver cX4_addDriver 2 (some .int) ∈ TW := tw_of (i := 549) (by decide +kernel) rfl
theorem mw_550 : Cond.methodLink RX4 58 yX2_begin ∈ TW := tw_of (i := 550) (by decide +kernel) rfl
theorem mw_551 : Cond.instanceMethod yX2_begin ∈ TW := tw_of (i := 551) (by decide +kernel) rfl
theorem mw_552 : Cond.selects RX2 yX2_begin yX2_begin ∈ TW := tw_of (i := 552) (by decide +kernel) rfl
theorem mw_553 : Cond.code yX2_begin cX2_begin 2 none ∈ TW := tw_of (i := 553) (by decide +kernel) rfl
theorem mw_554 : Cond.methodLink RX8 156 yX8_letAsk ∈ TW := tw_of (i := 554) (by decide +kernel) rfl
theorem mw_556 : Cond.instanceMethod yX8_letAsk ∈ TW := tw_of (i := 556) (by decide +kernel) rfl
theorem mw_557 : Cond.code yX8_letAsk cX8_letAsk 3 (some .int) ∈ TW := tw_of (i := 557) (by decide +kernel) rfl
theorem mw_558 : Cond.methodLink RX8 187 yX4_has ∈ TW := tw_of (i := 558) (by decide +kernel) rfl
theorem mw_559 : Cond.instanceMethod yX4_has ∈ TW := tw_of (i := 559) (by decide +kernel) rfl
theorem mw_560 : Cond.selects RX4 yX4_has yX4_has ∈ TW := tw_of (i := 560) (by decide +kernel) rfl
theorem mw_561 : Cond.code yX4_has cX4_has 2 (some .boolean) ∈ TW := tw_of (i := 561) (by decide +kernel) rfl
theorem mw_562 : Cond.methodLink RX8 207 yX4_gatherVotes ∈ TW := tw_of (i := 562) (by decide +kernel) rfl
theorem mw_563 : Cond.instanceMethod yX4_gatherVotes ∈ TW := tw_of (i := 563) (by decide +kernel) rfl
theorem mw_564 : Cond.selects RX4 yX4_gatherVotes yX4_gatherVotes ∈ TW := tw_of (i := 564) (by decide +kernel) rfl
theorem mw_565 : Cond.code yX4_gatherVotes cX4_gatherVotes 6 (some .int) ∈ TW := tw_of (i := 565) (by decide +kernel) rfl
theorem mw_566 : Cond.methodLink RX4 73 yX4_beginAsking ∈ TW := tw_of (i := 566) (by decide +kernel) rfl
theorem mw_568 : Cond.instanceMethod yX4_beginAsking ∈ TW := tw_of (i := 568) (by decide +kernel) rfl
theorem mw_569 : Cond.code yX4_beginAsking cX4_beginAsking 3 none ∈ TW := tw_of (i := 569) (by decide +kernel) rfl
theorem mw_570 : Cond.methodLink RX4 70 yX4_canReach ∈ TW := tw_of (i := 570) (by decide +kernel) rfl
theorem mw_571 : Cond.instanceMethod yX4_canReach ∈ TW := tw_of (i := 571) (by decide +kernel) rfl
theorem mw_572 : Cond.selects RX4 yX4_canReach yX4_canReach ∈ TW := tw_of (i := 572) (by decide +kernel) rfl
theorem mw_573 : Cond.code yX4_canReach cX4_canReach 3 (some .boolean) ∈ TW := tw_of (i := 573) (by decide +kernel) rfl
theorem mw_574 : Cond.methodLink RX4 66 yX4_isRopeCut ∈ TW := tw_of (i := 574) (by decide +kernel) rfl
theorem mw_575 : Cond.instanceMethod yX4_isRopeCut ∈ TW := tw_of (i := 575) (by decide +kernel) rfl
theorem mw_576 : Cond.selects RX4 yX4_isRopeCut yX4_isRopeCut ∈ TW := tw_of (i := 576) (by decide +kernel) rfl
theorem mw_577 : Cond.code yX4_isRopeCut cX4_isRopeCut 3 (some .boolean) ∈ TW := tw_of (i := 577) (by decide +kernel) rfl
theorem mw_578 : Cond.methodLink RX4 80 yX2_takeOver ∈ TW := tw_of (i := 578) (by decide +kernel) rfl
theorem mw_579 : Cond.instanceMethod yX2_takeOver ∈ TW := tw_of (i := 579) (by decide +kernel) rfl
theorem mw_580 : Cond.selects RX2 yX2_takeOver yX2_takeOver ∈ TW := tw_of (i := 580) (by decide +kernel) rfl
theorem mw_581 : Cond.code yX2_takeOver cX2_takeOver 2 none ∈ TW := tw_of (i := 581) (by decide +kernel) rfl
theorem mw_582 : Cond.methodLink RX4 83 yX4_letVote ∈ TW := tw_of (i := 582) (by decide +kernel) rfl
theorem mw_584 : Cond.instanceMethod yX4_letVote ∈ TW := tw_of (i := 584) (by decide +kernel) rfl
theorem mw_585 : Cond.code yX4_letVote cX4_letVote 5 (some .int) ∈ TW := tw_of (i := 585) (by decide +kernel) rfl
theorem mw_586 : Cond.methodLink RX4 105 yX2_hasLongerTaleThan ∈ TW := tw_of (i := 586) (by decide +kernel) rfl
theorem mw_587 : Cond.instanceMethod yX2_hasLongerTaleThan ∈ TW := tw_of (i := 587) (by decide +kernel) rfl
theorem mw_588 : Cond.selects RX2 yX2_hasLongerTaleThan yX2_hasLongerTaleThan ∈ TW := tw_of (i := 588) (by decide +kernel) rfl
theorem mw_589 : Cond.code yX2_hasLongerTaleThan cX2_hasLongerTaleThan 4 (some .boolean) ∈ TW := tw_of (i := 589) (by decide +kernel) rfl
theorem mw_590 : Cond.methodLink RX4 87 yX4_isMajority ∈ TW := tw_of (i := 590) (by decide +kernel) rfl
theorem mw_591 : Cond.instanceMethod yX4_isMajority ∈ TW := tw_of (i := 591) (by decide +kernel) rfl
theorem mw_592 : Cond.selects RX4 yX4_isMajority yX4_isMajority ∈ TW := tw_of (i := 592) (by decide +kernel) rfl
theorem mw_593 : Cond.code yX4_isMajority cX4_isMajority 2 (some .boolean) ∈ TW := tw_of (i := 593) (by decide +kernel) rfl
theorem mw_594 : Cond.methodLink RX8 159 yX8_letSend ∈ TW := tw_of (i := 594) (by decide +kernel) rfl
theorem mw_596 : Cond.instanceMethod yX8_letSend ∈ TW := tw_of (i := 596) (by decide +kernel) rfl
theorem mw_597 : Cond.code yX8_letSend cX8_letSend 3 (some .int) ∈ TW := tw_of (i := 597) (by decide +kernel) rfl
theorem mw_598 : Cond.methodLink RX8 210 yX4_sendFrom ∈ TW := tw_of (i := 598) (by decide +kernel) rfl
theorem mw_599 : Cond.instanceMethod yX4_sendFrom ∈ TW := tw_of (i := 599) (by decide +kernel) rfl
theorem mw_600 : Cond.selects RX4 yX4_sendFrom yX4_sendFrom ∈ TW := tw_of (i := 600) (by decide +kernel) rfl
theorem mw_601 : Cond.code yX4_sendFrom cX4_sendFrom 6 (some .int) ∈ TW := tw_of (i := 601) (by decide +kernel) rfl
theorem mw_602 : Cond.methodLink RX4 112 yX2_followLeader ∈ TW := tw_of (i := 602) (by decide +kernel) rfl
theorem mw_603 : Cond.instanceMethod yX2_followLeader ∈ TW := tw_of (i := 603) (by decide +kernel) rfl
theorem mw_604 : Cond.selects RX2 yX2_followLeader yX2_followLeader ∈ TW := tw_of (i := 604) (by decide +kernel) rfl
theorem mw_605 : Cond.code yX2_followLeader cX2_followLeader 4 (some .int) ∈ TW := tw_of (i := 605) (by decide +kernel) rfl
theorem mw_606 : Cond.methodLink RX2 61 yX2_takeOver ∈ TW := tw_of (i := 606) (by decide +kernel) rfl
theorem mw_607 : Cond.methodLink RX2 65 yX2_countSameLines ∈ TW := tw_of (i := 607) (by decide +kernel) rfl
theorem mw_608 : Cond.instanceMethod yX2_countSameLines ∈ TW := tw_of (i := 608) (by decide +kernel) rfl
theorem mw_609 : Cond.selects RX2 yX2_countSameLines yX2_countSameLines ∈ TW := tw_of (i := 609) (by decide +kernel) rfl
theorem mw_610 : Cond.code yX2_countSameLines cX2_countSameLines 4 (some .int) ∈ TW := tw_of (i := 610) (by decide +kernel) rfl
theorem mw_611 : Cond.methodLink RX2 55 Lib.Math.min.name ∈ TW := tw_of (i := 611) (by decide +kernel) rfl
theorem mw_612 : Cond.methodLink RX2 69 Lib.Math.max.name ∈ TW := tw_of (i := 612) (by decide +kernel) rfl
theorem mw_613 : Cond.methodLink RX4 116 yX2_agreeOwnLines ∈ TW := tw_of (i := 613) (by decide +kernel) rfl
theorem mw_614 : Cond.instanceMethod yX2_agreeOwnLines ∈ TW := tw_of (i := 614) (by decide +kernel) rfl
theorem mw_615 : Cond.selects RX2 yX2_agreeOwnLines yX2_agreeOwnLines ∈ TW := tw_of (i := 615) (by decide +kernel) rfl
theorem mw_616 : Cond.code yX2_agreeOwnLines cX2_agreeOwnLines 2 none ∈ TW := tw_of (i := 616) (by decide +kernel) rfl
theorem mw_617 : Cond.methodLink RX8 162 yX8_letShout ∈ TW := tw_of (i := 617) (by decide +kernel) rfl
theorem mw_619 : Cond.instanceMethod yX8_letShout ∈ TW := tw_of (i := 619) (by decide +kernel) rfl
theorem mw_620 : Cond.code yX8_letShout cX8_letShout 4 (some .int) ∈ TW := tw_of (i := 620) (by decide +kernel) rfl
theorem mw_621 : Cond.methodLink RX8 219 yX2_write ∈ TW := tw_of (i := 621) (by decide +kernel) rfl
theorem mw_622 : Cond.instanceMethod yX2_write ∈ TW := tw_of (i := 622) (by decide +kernel) rfl
theorem mw_623 : Cond.selects RX2 yX2_write yX2_write ∈ TW := tw_of (i := 623) (by decide +kernel) rfl
theorem mw_624 : Cond.code yX2_write cX2_write 3 none ∈ TW := tw_of (i := 624) (by decide +kernel) rfl
theorem mw_625 : Cond.methodLink RX8 165 yX8_washAway ∈ TW := tw_of (i := 625) (by decide +kernel) rfl
theorem mw_627 : Cond.instanceMethod yX8_washAway ∈ TW := tw_of (i := 627) (by decide +kernel) rfl
theorem mw_628 : Cond.code yX8_washAway cX8_washAway 3 (some .int) ∈ TW := tw_of (i := 628) (by decide +kernel) rfl
theorem mw_629 : Cond.methodLink RX8 223 yX4_countAboard ∈ TW := tw_of (i := 629) (by decide +kernel) rfl
theorem mw_630 : Cond.instanceMethod yX4_countAboard ∈ TW := tw_of (i := 630) (by decide +kernel) rfl
theorem mw_631 : Cond.selects RX4 yX4_countAboard yX4_countAboard ∈ TW := tw_of (i := 631) (by decide +kernel) rfl
theorem mw_632 : Cond.code yX4_countAboard cX4_countAboard 3 (some .int) ∈ TW := tw_of (i := 632) (by decide +kernel) rfl
theorem mw_633 : Cond.methodLink RX8 168 yX8_bringBack ∈ TW := tw_of (i := 633) (by decide +kernel) rfl
theorem mw_635 : Cond.instanceMethod yX8_bringBack ∈ TW := tw_of (i := 635) (by decide +kernel) rfl
theorem mw_636 : Cond.code yX8_bringBack cX8_bringBack 3 (some .int) ∈ TW := tw_of (i := 636) (by decide +kernel) rfl
theorem mw_637 : Cond.methodLink RX8 171 yX8_changeRope ∈ TW := tw_of (i := 637) (by decide +kernel) rfl
theorem mw_639 : Cond.instanceMethod yX8_changeRope ∈ TW := tw_of (i := 639) (by decide +kernel) rfl
theorem mw_640 : Cond.code yX8_changeRope cX8_changeRope 4 (some .int) ∈ TW := tw_of (i := 640) (by decide +kernel) rfl
theorem mw_641 : Cond.methodLink RX8 229 yX4_isRopeCut ∈ TW := tw_of (i := 641) (by decide +kernel) rfl
theorem mw_642 : Cond.methodLink RX8 233 Lib.Math.max.name ∈ TW := tw_of (i := 642) (by decide +kernel) rfl
theorem mw_643 : Cond.methodLink RX8 238 yX4_setRope ∈ TW := tw_of (i := 643) (by decide +kernel) rfl
theorem mw_644 : Cond.instanceMethod yX4_setRope ∈ TW := tw_of (i := 644) (by decide +kernel) rfl
theorem mw_645 : Cond.selects RX4 yX4_setRope yX4_setRope ∈ TW := tw_of (i := 645) (by decide +kernel) rfl
theorem mw_646 : Cond.code yX4_setRope cX4_setRope 4 none ∈ TW := tw_of (i := 646) (by decide +kernel) rfl
theorem mw_647 : Cond.methodLink RX8 242 yX4_countCutRopes ∈ TW := tw_of (i := 647) (by decide +kernel) rfl
theorem mw_648 : Cond.instanceMethod yX4_countCutRopes ∈ TW := tw_of (i := 648) (by decide +kernel) rfl
theorem mw_649 : Cond.selects RX4 yX4_countCutRopes yX4_countCutRopes ∈ TW := tw_of (i := 649) (by decide +kernel) rfl
theorem mw_650 : Cond.code yX4_countCutRopes cX4_countCutRopes 3 (some .int) ∈ TW := tw_of (i := 650) (by decide +kernel) rfl
theorem mw_651 : Cond.methodLink RX8 175 yX4_passBeats ∈ TW := tw_of (i := 651) (by decide +kernel) rfl
theorem mw_652 : Cond.instanceMethod yX4_passBeats ∈ TW := tw_of (i := 652) (by decide +kernel) rfl
theorem mw_653 : Cond.selects RX4 yX4_passBeats yX4_passBeats ∈ TW := tw_of (i := 653) (by decide +kernel) rfl
theorem mw_654 : Cond.code yX4_passBeats cX4_passBeats 5 (some .int) ∈ TW := tw_of (i := 654) (by decide +kernel) rfl
theorem mw_655 : Cond.methodLink RX4 119 yX2_isLeading ∈ TW := tw_of (i := 655) (by decide +kernel) rfl
theorem mw_656 : Cond.instanceMethod yX2_isLeading ∈ TW := tw_of (i := 656) (by decide +kernel) rfl
theorem mw_657 : Cond.selects RX2 yX2_isLeading yX2_isLeading ∈ TW := tw_of (i := 657) (by decide +kernel) rfl
theorem mw_658 : Cond.code yX2_isLeading cX2_isLeading 1 (some .boolean) ∈ TW := tw_of (i := 658) (by decide +kernel) rfl
theorem mw_659 : Cond.methodLink RX4 123 yX4_sendFrom ∈ TW := tw_of (i := 659) (by decide +kernel) rfl
theorem mw_660 : Cond.methodLink RX4 127 yX2_waitBeat ∈ TW := tw_of (i := 660) (by decide +kernel) rfl
theorem mw_661 : Cond.instanceMethod yX2_waitBeat ∈ TW := tw_of (i := 661) (by decide +kernel) rfl
theorem mw_662 : Cond.selects RX2 yX2_waitBeat yX2_waitBeat ∈ TW := tw_of (i := 662) (by decide +kernel) rfl
theorem mw_663 : Cond.code yX2_waitBeat cX2_waitBeat 1 (some .boolean) ∈ TW := tw_of (i := 663) (by decide +kernel) rfl
theorem mw_664 : Cond.methodLink RX4 130 yX4_gatherVotes ∈ TW := tw_of (i := 664) (by decide +kernel) rfl
theorem mw_665 : Cond.methodLink RX8 140 yX3_remember ∈ TW := tw_of (i := 665) (by decide +kernel) rfl
theorem mw_666 : Cond.instanceMethod yX3_remember ∈ TW := tw_of (i := 666) (by decide +kernel) rfl
theorem mw_667 : Cond.selects RX3 yX3_remember yX3_remember ∈ TW := tw_of (i := 667) (by decide +kernel) rfl
theorem mw_668 : Cond.code yX3_remember cX3_remember 2 none ∈ TW := tw_of (i := 668) (by decide +kernel) rfl
theorem mw_669 : Cond.methodLink RX3 22 yX4_copyFrom ∈ TW := tw_of (i := 669) (by decide +kernel) rfl
theorem mw_670 : Cond.methodLink RX3 29 Lib.Math.min.name ∈ TW := tw_of (i := 670) (by decide +kernel) rfl
theorem mw_675 : Cond.fieldLink RX8 81 "LogRaft$Word" (wNm.getD 1 "") "LLogRaft$Word;" ∈ TW := tw_of (i := 675) (by decide +kernel) rfl
theorem mw_681 : Cond.fieldLink RX8 84 "LogRaft$Word" (wNm.getD 2 "") "LLogRaft$Word;" ∈ TW := tw_of (i := 681) (by decide +kernel) rfl
theorem mw_687 : Cond.fieldLink RX8 87 "LogRaft$Word" (wNm.getD 3 "") "LLogRaft$Word;" ∈ TW := tw_of (i := 687) (by decide +kernel) rfl
theorem mw_693 : Cond.fieldLink RX8 90 "LogRaft$Word" (wNm.getD 4 "") "LLogRaft$Word;" ∈ TW := tw_of (i := 693) (by decide +kernel) rfl
theorem mw_699 : Cond.fieldLink RX8 93 "LogRaft$Word" (wNm.getD 5 "") "LLogRaft$Word;" ∈ TW := tw_of (i := 699) (by decide +kernel) rfl
theorem mw_705 : Cond.fieldLink RX8 96 "LogRaft$Word" (wNm.getD 6 "") "LLogRaft$Word;" ∈ TW := tw_of (i := 705) (by decide +kernel) rfl
theorem mw_711 : Cond.fieldLink RX8 99 "LogRaft$Word" (wNm.getD 7 "") "LLogRaft$Word;" ∈ TW := tw_of (i := 711) (by decide +kernel) rfl
theorem mw_717 : Cond.fieldLink RX8 102 "LogRaft$Word" (wNm.getD 8 "") "LLogRaft$Word;" ∈ TW := tw_of (i := 717) (by decide +kernel) rfl
theorem mw_742 : Cond.instanceMethod yJ0_length_8abf5 ∈ TW := tw_of (i := 742) (by decide +kernel) rfl
theorem mw_743 : Cond.selects RJ0 yJ0_length_8abf5 yJ0_length_8abf5 ∈ TW := tw_of (i := 743) (by decide +kernel) rfl
theorem mw_744 : Cond.code yJ0_length_8abf5 cJ0_length_8abf5 1 (some .int) ∈ TW := tw_of (i := 744) (by decide +kernel) rfl
theorem mw_745 : Cond.methodLink RJ0 335 yJ0_coder_7d493 ∈ TW := tw_of (i := 745) (by decide +kernel) rfl
theorem mw_746 : Cond.instanceMethod yJ0_coder_7d493 ∈ TW := tw_of (i := 746) (by decide +kernel) rfl
theorem mw_747 : Cond.selects RJ0 yJ0_coder_7d493 yJ0_coder_7d493 ∈ TW := tw_of (i := 747) (by decide +kernel) rfl
theorem mw_748 : Cond.code yJ0_coder_7d493 cJ0_coder_7d493 1 (some .byte) ∈ TW := tw_of (i := 748) (by decide +kernel) rfl
theorem mw_749 : Cond.fieldLink RJ0 38 "java/lang/String" "COMPACT_STRINGS" "Z" ∈ TW := tw_of (i := 749) (by decide +kernel) rfl
theorem mw_751 : Cond.instanceMethod yJ0_charAt_5068e ∈ TW := tw_of (i := 751) (by decide +kernel) rfl
theorem mw_752 : Cond.selects RJ0 yJ0_charAt_5068e yJ0_charAt_5068e ∈ TW := tw_of (i := 752) (by decide +kernel) rfl
theorem mw_753 : Cond.code yJ0_charAt_5068e cJ0_charAt_5068e 2 (some .char) ∈ TW := tw_of (i := 753) (by decide +kernel) rfl
theorem mw_754 : Cond.methodLink RJ0 492 yJ0_isLatin1_aae02 ∈ TW := tw_of (i := 754) (by decide +kernel) rfl
theorem mw_755 : Cond.instanceMethod yJ0_isLatin1_aae02 ∈ TW := tw_of (i := 755) (by decide +kernel) rfl
theorem mw_756 : Cond.selects RJ0 yJ0_isLatin1_aae02 yJ0_isLatin1_aae02 ∈ TW := tw_of (i := 756) (by decide +kernel) rfl
theorem mw_757 : Cond.code yJ0_isLatin1_aae02 cJ0_isLatin1_aae02 1 (some .boolean) ∈ TW := tw_of (i := 757) (by decide +kernel) rfl
theorem mw_758 : Cond.methodLink RJ0 495 yJ1_charAt_3b067 ∈ TW := tw_of (i := 758) (by decide +kernel) rfl
theorem mw_759 : Cond.static yJ1_charAt_3b067 ∈ TW := tw_of (i := 759) (by decide +kernel) rfl
theorem mw_760 : Cond.code yJ1_charAt_3b067 cJ1_charAt_3b067 2 (some .char) ∈ TW := tw_of (i := 760) (by decide +kernel) rfl
theorem mw_761 : Cond.methodLink RJ1 9 yJ0_checkIndex_df160 ∈ TW := tw_of (i := 761) (by decide +kernel) rfl
theorem mw_841 : Cond.methodLink RX8 249 yX5_putAhead ∈ TW := tw_of (i := 841) (by decide +kernel) rfl
theorem mw_842 : Cond.instanceMethod yX5_putAhead ∈ TW := tw_of (i := 842) (by decide +kernel) rfl
theorem mw_843 : Cond.selects RX5 yX5_putAhead yX5_putAhead ∈ TW := tw_of (i := 843) (by decide +kernel) rfl
theorem mw_844 : Cond.code yX5_putAhead cX5_putAhead 3 none ∈ TW := tw_of (i := 844) (by decide +kernel) rfl
theorem mw_857 : Cond.methodLink RX8 273 yX4_countReached ∈ TW := tw_of (i := 857) (by decide +kernel) rfl
theorem mw_858 : Cond.instanceMethod yX4_countReached ∈ TW := tw_of (i := 858) (by decide +kernel) rfl
theorem mw_859 : Cond.selects RX4 yX4_countReached yX4_countReached ∈ TW := tw_of (i := 859) (by decide +kernel) rfl
theorem mw_860 : Cond.code yX4_countReached cX4_countReached 4 (some .int) ∈ TW := tw_of (i := 860) (by decide +kernel) rfl
theorem mw_865 : Cond.methodLink RX8 282 yX4_hasLine ∈ TW := tw_of (i := 865) (by decide +kernel) rfl
theorem mw_866 : Cond.instanceMethod yX4_hasLine ∈ TW := tw_of (i := 866) (by decide +kernel) rfl
theorem mw_867 : Cond.selects RX4 yX4_hasLine yX4_hasLine ∈ TW := tw_of (i := 867) (by decide +kernel) rfl
theorem mw_868 : Cond.code yX4_hasLine cX4_hasLine 3 (some .boolean) ∈ TW := tw_of (i := 868) (by decide +kernel) rfl
theorem mw_869 : Cond.methodLink RX4 51 yX4_has ∈ TW := tw_of (i := 869) (by decide +kernel) rfl
theorem mw_874 : Cond.methodLink RX8 292 yX2_isLeading ∈ TW := tw_of (i := 874) (by decide +kernel) rfl
theorem mw_879 : Cond.methodLink RX8 295 yX4_canReach ∈ TW := tw_of (i := 879) (by decide +kernel) rfl
theorem mw_884 : Cond.methodLink RX8 298 yX4_wouldGrantVote ∈ TW := tw_of (i := 884) (by decide +kernel) rfl
theorem mw_885 : Cond.instanceMethod yX4_wouldGrantVote ∈ TW := tw_of (i := 885) (by decide +kernel) rfl
theorem mw_886 : Cond.selects RX4 yX4_wouldGrantVote yX4_wouldGrantVote ∈ TW := tw_of (i := 886) (by decide +kernel) rfl
theorem mw_887 : Cond.code yX4_wouldGrantVote cX4_wouldGrantVote 6 (some .boolean) ∈ TW := tw_of (i := 887) (by decide +kernel) rfl
theorem mw_892 : Cond.methodLink RX8 301 yX8_codeOfAsking ∈ TW := tw_of (i := 892) (by decide +kernel) rfl
theorem mw_894 : Cond.instanceMethod yX8_codeOfAsking ∈ TW := tw_of (i := 894) (by decide +kernel) rfl
theorem mw_895 : Cond.code yX8_codeOfAsking cX8_codeOfAsking 3 (some .int) ∈ TW := tw_of (i := 895) (by decide +kernel) rfl
theorem mw_896 : Cond.methodLink RX8 304 yX4_votesToGet ∈ TW := tw_of (i := 896) (by decide +kernel) rfl
theorem mw_897 : Cond.instanceMethod yX4_votesToGet ∈ TW := tw_of (i := 897) (by decide +kernel) rfl
theorem mw_898 : Cond.selects RX4 yX4_votesToGet yX4_votesToGet ∈ TW := tw_of (i := 898) (by decide +kernel) rfl
theorem mw_899 : Cond.code yX4_votesToGet cX4_votesToGet 5 (some .int) ∈ TW := tw_of (i := 899) (by decide +kernel) rfl
theorem mw_900 : Cond.methodLink RX4 109 yX4_wouldGrantVote ∈ TW := tw_of (i := 900) (by decide +kernel) rfl
theorem mw_909 : Cond.methodLink RX8 307 yX2_hasLongerTaleThan ∈ TW := tw_of (i := 909) (by decide +kernel) rfl
theorem mw_914 : Cond.methodLink RX8 311 yX2_countSameLines ∈ TW := tw_of (i := 914) (by decide +kernel) rfl
theorem mw_931 : Cond.methodLink RX8 315 yX4_isConflict ∈ TW := tw_of (i := 931) (by decide +kernel) rfl
theorem mw_932 : Cond.instanceMethod yX4_isConflict ∈ TW := tw_of (i := 932) (by decide +kernel) rfl
theorem mw_933 : Cond.selects RX4 yX4_isConflict yX4_isConflict ∈ TW := tw_of (i := 933) (by decide +kernel) rfl
theorem mw_934 : Cond.code yX4_isConflict cX4_isConflict 4 (some .boolean) ∈ TW := tw_of (i := 934) (by decide +kernel) rfl
theorem mw_935 : Cond.methodLink RX4 133 Lib.Math.min.name ∈ TW := tw_of (i := 935) (by decide +kernel) rfl
theorem mw_936 : Cond.methodLink RX4 139 yX2_countSameLines ∈ TW := tw_of (i := 936) (by decide +kernel) rfl
theorem mw_941 : Cond.methodLink RX8 318 Lib.Math.min.name ∈ TW := tw_of (i := 941) (by decide +kernel) rfl
theorem mw_946 : Cond.methodLink RX8 321 yX4_countRankedAhead ∈ TW := tw_of (i := 946) (by decide +kernel) rfl
theorem mw_947 : Cond.instanceMethod yX4_countRankedAhead ∈ TW := tw_of (i := 947) (by decide +kernel) rfl
theorem mw_948 : Cond.selects RX4 yX4_countRankedAhead yX4_countRankedAhead ∈ TW := tw_of (i := 948) (by decide +kernel) rfl
theorem mw_949 : Cond.code yX4_countRankedAhead cX4_countRankedAhead 4 (some .int) ∈ TW := tw_of (i := 949) (by decide +kernel) rfl
theorem mw_950 : Cond.methodLink RX4 142 yX4_isRankedAhead ∈ TW := tw_of (i := 950) (by decide +kernel) rfl
theorem mw_952 : Cond.instanceMethod yX4_isRankedAhead ∈ TW := tw_of (i := 952) (by decide +kernel) rfl
theorem mw_953 : Cond.code yX4_isRankedAhead cX4_isRankedAhead 5 (some .boolean) ∈ TW := tw_of (i := 953) (by decide +kernel) rfl
theorem mw_958 : Cond.methodLink RX8 324 yX2_isWaiting ∈ TW := tw_of (i := 958) (by decide +kernel) rfl
theorem mw_959 : Cond.instanceMethod yX2_isWaiting ∈ TW := tw_of (i := 959) (by decide +kernel) rfl
theorem mw_960 : Cond.selects RX2 yX2_isWaiting yX2_isWaiting ∈ TW := tw_of (i := 960) (by decide +kernel) rfl
theorem mw_961 : Cond.code yX2_isWaiting cX2_isWaiting 1 (some .boolean) ∈ TW := tw_of (i := 961) (by decide +kernel) rfl
theorem mw_962 : Cond.methodLink RX8 327 yX4_countAskingAhead ∈ TW := tw_of (i := 962) (by decide +kernel) rfl
theorem mw_963 : Cond.instanceMethod yX4_countAskingAhead ∈ TW := tw_of (i := 963) (by decide +kernel) rfl
theorem mw_964 : Cond.selects RX4 yX4_countAskingAhead yX4_countAskingAhead ∈ TW := tw_of (i := 964) (by decide +kernel) rfl
theorem mw_965 : Cond.code yX4_countAskingAhead cX4_countAskingAhead 7 (some .int) ∈ TW := tw_of (i := 965) (by decide +kernel) rfl
theorem mw_966 : Cond.methodLink RX4 145 yX2_beatsLeft ∈ TW := tw_of (i := 966) (by decide +kernel) rfl
theorem mw_967 : Cond.instanceMethod yX2_beatsLeft ∈ TW := tw_of (i := 967) (by decide +kernel) rfl
theorem mw_968 : Cond.selects RX2 yX2_beatsLeft yX2_beatsLeft ∈ TW := tw_of (i := 968) (by decide +kernel) rfl
theorem mw_969 : Cond.code yX2_beatsLeft cX2_beatsLeft 1 (some .int) ∈ TW := tw_of (i := 969) (by decide +kernel) rfl
theorem mw_970 : Cond.methodLink RX4 149 yX2_isWaiting ∈ TW := tw_of (i := 970) (by decide +kernel) rfl
theorem mw_1059 : Cond.methodLink RX4 155 Lib.Math.max.name ∈ TW := tw_of (i := 1059) (by decide +kernel) rfl
theorem mw_1064 : Cond.methodLink RX8 380 yX3_takeBack ∈ TW := tw_of (i := 1064) (by decide +kernel) rfl
theorem mw_1065 : Cond.instanceMethod yX3_takeBack ∈ TW := tw_of (i := 1065) (by decide +kernel) rfl
theorem mw_1066 : Cond.selects RX3 yX3_takeBack yX3_takeBack ∈ TW := tw_of (i := 1066) (by decide +kernel) rfl
theorem mw_1067 : Cond.code yX3_takeBack cX3_takeBack 2 none ∈ TW := tw_of (i := 1067) (by decide +kernel) rfl
theorem mw_1082 : Cond.fieldLink RX9 9 (TX9 0).1 (TX9 0).2.1 (TX9 0).2.2.1 ∈ TW := tw_of (i := 1082) (by decide +kernel) rfl
theorem mw_1083 : Cond.fieldLink RX9 13 (TX9 1).1 (TX9 1).2.1 (TX9 1).2.2.1 ∈ TW := tw_of (i := 1083) (by decide +kernel) rfl
theorem mw_1084 : Cond.fieldLink RX9 16 (TX9 2).1 (TX9 2).2.1 (TX9 2).2.2.1 ∈ TW := tw_of (i := 1084) (by decide +kernel) rfl
theorem mw_1085 : Cond.fieldLink RX9 19 (TX9 3).1 (TX9 3).2.1 (TX9 3).2.2.1 ∈ TW := tw_of (i := 1085) (by decide +kernel) rfl
theorem mw_1086 : Cond.fieldLink RX9 22 (TX9 4).1 (TX9 4).2.1 (TX9 4).2.2.1 ∈ TW := tw_of (i := 1086) (by decide +kernel) rfl
theorem mw_1087 : Cond.fieldLink RX9 42 (TX9 5).1 (TX9 5).2.1 (TX9 5).2.2.1 ∈ TW := tw_of (i := 1087) (by decide +kernel) rfl
theorem mw_1088 : Cond.fieldLink RX9 48 (TX9 6).1 (TX9 6).2.1 (TX9 6).2.2.1 ∈ TW := tw_of (i := 1088) (by decide +kernel) rfl
theorem mw_1089 : Cond.fieldLink RX9 51 (TX9 7).1 (TX9 7).2.1 (TX9 7).2.2.1 ∈ TW := tw_of (i := 1089) (by decide +kernel) rfl
theorem mw_1090 : Cond.fieldLink RX9 54 (TX9 8).1 (TX9 8).2.1 (TX9 8).2.2.1 ∈ TW := tw_of (i := 1090) (by decide +kernel) rfl
theorem mw_1091 : Cond.fieldLink RX9 248 (TX9 9).1 (TX9 9).2.1 (TX9 9).2.2.1 ∈ TW := tw_of (i := 1091) (by decide +kernel) rfl
theorem mw_1092 : Cond.fieldLink RX9 25 (TX9 10).1 (TX9 10).2.1 (TX9 10).2.2.1 ∈ TW := tw_of (i := 1092) (by decide +kernel) rfl
theorem mw_1093 : Cond.fieldLink RX9 297 (TX9 11).1 (TX9 11).2.1 (TX9 11).2.2.1 ∈ TW := tw_of (i := 1093) (by decide +kernel) rfl
theorem mw_1094 : Cond.fieldLink RX9 29 (TX9 12).1 (TX9 12).2.1 (TX9 12).2.2.1 ∈ TW := tw_of (i := 1094) (by decide +kernel) rfl
theorem mw_1095 : Cond.fieldLink RX9 32 (TX9 13).1 (TX9 13).2.1 (TX9 13).2.2.1 ∈ TW := tw_of (i := 1095) (by decide +kernel) rfl
theorem mw_1096 : Cond.fieldLink RX9 182 (TX9 14).1 (TX9 14).2.1 (TX9 14).2.2.1 ∈ TW := tw_of (i := 1096) (by decide +kernel) rfl
theorem mw_1097 : Cond.fieldLink RX9 185 (TX9 15).1 (TX9 15).2.1 (TX9 15).2.2.1 ∈ TW := tw_of (i := 1097) (by decide +kernel) rfl
theorem mw_1098 : Cond.fieldLink RX9 233 (TX9 16).1 (TX9 16).2.1 (TX9 16).2.2.1 ∈ TW := tw_of (i := 1098) (by decide +kernel) rfl
theorem mw_1099 : Cond.fieldLink RX9 226 (TX9 17).1 (TX9 17).2.1 (TX9 17).2.2.1 ∈ TW := tw_of (i := 1099) (by decide +kernel) rfl
theorem mw_1100 : Cond.fieldLink RX9 35 (TX9 18).1 (TX9 18).2.1 (TX9 18).2.2.1 ∈ TW := tw_of (i := 1100) (by decide +kernel) rfl
theorem mw_1101 : Cond.fieldLink RX9 282 (TX9 19).1 (TX9 19).2.1 (TX9 19).2.2.1 ∈ TW := tw_of (i := 1101) (by decide +kernel) rfl
theorem mw_1151 : Cond.methodLink RX9 96 yX9_keeps ∈ TW := tw_of (i := 1151) (by decide +kernel) rfl
theorem mw_1153 : Cond.instanceMethod yX9_keeps ∈ TW := tw_of (i := 1153) (by decide +kernel) rfl
theorem mw_1154 : Cond.code yX9_keeps cX9_keeps 1 none ∈ TW := tw_of (i := 1154) (by decide +kernel) rfl
theorem mw_1155 : Cond.methodLink RX9 38 yX9_copies ∈ TW := tw_of (i := 1155) (by decide +kernel) rfl
theorem mw_1156 : Cond.static yX9_copies ∈ TW := tw_of (i := 1156) (by decide +kernel) rfl
theorem mw_1157 : Cond.code yX9_copies cX9_copies 5 none ∈ TW := tw_of (i := 1157) (by decide +kernel) rfl
theorem mw_1158 : Cond.methodLink RX9 99 yX9_comes ∈ TW := tw_of (i := 1158) (by decide +kernel) rfl
theorem mw_1160 : Cond.instanceMethod yX9_comes ∈ TW := tw_of (i := 1160) (by decide +kernel) rfl
theorem mw_1161 : Cond.code yX9_comes cX9_comes 3 (some .int) ∈ TW := tw_of (i := 1161) (by decide +kernel) rfl
theorem mw_1162 : Cond.methodLink RX9 61 yX9_isIn ∈ TW := tw_of (i := 1162) (by decide +kernel) rfl
theorem mw_1163 : Cond.static yX9_isIn ∈ TW := tw_of (i := 1163) (by decide +kernel) rfl
theorem mw_1164 : Cond.code yX9_isIn cX9_isIn 3 (some .boolean) ∈ TW := tw_of (i := 1164) (by decide +kernel) rfl
theorem mw_1165 : Cond.methodLink RX9 88 yX9_isRefused ∈ TW := tw_of (i := 1165) (by decide +kernel) rfl
theorem mw_1167 : Cond.instanceMethod yX9_isRefused ∈ TW := tw_of (i := 1167) (by decide +kernel) rfl
theorem mw_1168 : Cond.code yX9_isRefused cX9_isRefused 4 (some .boolean) ∈ TW := tw_of (i := 1168) (by decide +kernel) rfl
theorem mw_1169 : Cond.methodLink RX9 92 yX9_sets ∈ TW := tw_of (i := 1169) (by decide +kernel) rfl
theorem mw_1171 : Cond.instanceMethod yX9_sets ∈ TW := tw_of (i := 1171) (by decide +kernel) rfl
theorem mw_1172 : Cond.code yX9_sets cX9_sets 4 none ∈ TW := tw_of (i := 1172) (by decide +kernel) rfl
theorem mw_1173 : Cond.methodLink RX9 57 yX9_at ∈ TW := tw_of (i := 1173) (by decide +kernel) rfl
theorem mw_1174 : Cond.static yX9_at ∈ TW := tw_of (i := 1174) (by decide +kernel) rfl
theorem mw_1175 : Cond.code yX9_at cX9_at 2 (some .int) ∈ TW := tw_of (i := 1175) (by decide +kernel) rfl
theorem mw_1176 : Cond.methodLink RX9 102 yX9_ends ∈ TW := tw_of (i := 1176) (by decide +kernel) rfl
theorem mw_1178 : Cond.instanceMethod yX9_ends ∈ TW := tw_of (i := 1178) (by decide +kernel) rfl
theorem mw_1179 : Cond.code yX9_ends cX9_ends 2 (some .int) ∈ TW := tw_of (i := 1179) (by decide +kernel) rfl
theorem mw_1180 : Cond.methodLink RX9 45 yX9_changed ∈ TW := tw_of (i := 1180) (by decide +kernel) rfl
theorem mw_1182 : Cond.instanceMethod yX9_changed ∈ TW := tw_of (i := 1182) (by decide +kernel) rfl
theorem mw_1183 : Cond.code yX9_changed cX9_changed 2 none ∈ TW := tw_of (i := 1183) (by decide +kernel) rfl
theorem mw_1188 : Cond.methodLink RX9 128 yX9_asks ∈ TW := tw_of (i := 1188) (by decide +kernel) rfl
theorem mw_1190 : Cond.instanceMethod yX9_asks ∈ TW := tw_of (i := 1190) (by decide +kernel) rfl
theorem mw_1191 : Cond.code yX9_asks cX9_asks 2 (some .int) ∈ TW := tw_of (i := 1191) (by decide +kernel) rfl
theorem mw_1192 : Cond.methodLink RX9 65 yX9_isDriver ∈ TW := tw_of (i := 1192) (by decide +kernel) rfl
theorem mw_1194 : Cond.instanceMethod yX9_isDriver ∈ TW := tw_of (i := 1194) (by decide +kernel) rfl
theorem mw_1195 : Cond.code yX9_isDriver cX9_isDriver 2 (some .boolean) ∈ TW := tw_of (i := 1195) (by decide +kernel) rfl
theorem mw_1196 : Cond.methodLink RX9 122 yX9_isWashed ∈ TW := tw_of (i := 1196) (by decide +kernel) rfl
theorem mw_1198 : Cond.instanceMethod yX9_isWashed ∈ TW := tw_of (i := 1198) (by decide +kernel) rfl
theorem mw_1199 : Cond.code yX9_isWashed cX9_isWashed 2 (some .boolean) ∈ TW := tw_of (i := 1199) (by decide +kernel) rfl
theorem mw_1200 : Cond.methodLink RX9 78 yX9_isAboard ∈ TW := tw_of (i := 1200) (by decide +kernel) rfl
theorem mw_1202 : Cond.instanceMethod yX9_isAboard ∈ TW := tw_of (i := 1202) (by decide +kernel) rfl
theorem mw_1203 : Cond.code yX9_isAboard cX9_isAboard 2 (some .boolean) ∈ TW := tw_of (i := 1203) (by decide +kernel) rfl
theorem mw_1204 : Cond.methodLink RX9 69 yX9_of ∈ TW := tw_of (i := 1204) (by decide +kernel) rfl
theorem mw_1206 : Cond.instanceMethod yX9_of ∈ TW := tw_of (i := 1206) (by decide +kernel) rfl
theorem mw_1207 : Cond.code yX9_of cX9_of 3 (some .int) ∈ TW := tw_of (i := 1207) (by decide +kernel) rfl
theorem mw_1208 : Cond.methodLink RX9 125 yX9_asksNow ∈ TW := tw_of (i := 1208) (by decide +kernel) rfl
theorem mw_1210 : Cond.instanceMethod yX9_asksNow ∈ TW := tw_of (i := 1210) (by decide +kernel) rfl
theorem mw_1211 : Cond.code yX9_asksNow cX9_asksNow 4 (some .int) ∈ TW := tw_of (i := 1211) (by decide +kernel) rfl
theorem mw_1212 : Cond.methodLink RX9 108 yX9_isReached ∈ TW := tw_of (i := 1212) (by decide +kernel) rfl
theorem mw_1214 : Cond.instanceMethod yX9_isReached ∈ TW := tw_of (i := 1214) (by decide +kernel) rfl
theorem mw_1215 : Cond.code yX9_isReached cX9_isReached 3 (some .boolean) ∈ TW := tw_of (i := 1215) (by decide +kernel) rfl
theorem mw_1216 : Cond.methodLink RX9 81 yX9_ropeAt ∈ TW := tw_of (i := 1216) (by decide +kernel) rfl
theorem mw_1218 : Cond.instanceMethod yX9_ropeAt ∈ TW := tw_of (i := 1218) (by decide +kernel) rfl
theorem mw_1219 : Cond.code yX9_ropeAt cX9_ropeAt 3 (some .int) ∈ TW := tw_of (i := 1219) (by decide +kernel) rfl
theorem mw_1220 : Cond.methodLink RX9 72 yX9_lesser ∈ TW := tw_of (i := 1220) (by decide +kernel) rfl
theorem mw_1221 : Cond.static yX9_lesser ∈ TW := tw_of (i := 1221) (by decide +kernel) rfl
theorem mw_1222 : Cond.code yX9_lesser cX9_lesser 2 (some .int) ∈ TW := tw_of (i := 1222) (by decide +kernel) rfl
theorem mw_1223 : Cond.methodLink RX9 75 yX9_greater ∈ TW := tw_of (i := 1223) (by decide +kernel) rfl
theorem mw_1224 : Cond.static yX9_greater ∈ TW := tw_of (i := 1224) (by decide +kernel) rfl
theorem mw_1225 : Cond.code yX9_greater cX9_greater 2 (some .int) ∈ TW := tw_of (i := 1225) (by decide +kernel) rfl
theorem mw_1226 : Cond.methodLink RX9 112 yX9_takesOver ∈ TW := tw_of (i := 1226) (by decide +kernel) rfl
theorem mw_1228 : Cond.instanceMethod yX9_takesOver ∈ TW := tw_of (i := 1228) (by decide +kernel) rfl
theorem mw_1229 : Cond.code yX9_takesOver cX9_takesOver 3 none ∈ TW := tw_of (i := 1229) (by decide +kernel) rfl
theorem mw_1230 : Cond.methodLink RX9 116 yX9_votes ∈ TW := tw_of (i := 1230) (by decide +kernel) rfl
theorem mw_1232 : Cond.instanceMethod yX9_votes ∈ TW := tw_of (i := 1232) (by decide +kernel) rfl
theorem mw_1233 : Cond.code yX9_votes cX9_votes 4 (some .boolean) ∈ TW := tw_of (i := 1233) (by decide +kernel) rfl
theorem mw_1234 : Cond.methodLink RX9 105 yX9_longerOf ∈ TW := tw_of (i := 1234) (by decide +kernel) rfl
theorem mw_1236 : Cond.instanceMethod yX9_longerOf ∈ TW := tw_of (i := 1236) (by decide +kernel) rfl
theorem mw_1237 : Cond.code yX9_longerOf cX9_longerOf 4 (some .int) ∈ TW := tw_of (i := 1237) (by decide +kernel) rfl
theorem mw_1238 : Cond.methodLink RX9 84 yX9_lastTerm ∈ TW := tw_of (i := 1238) (by decide +kernel) rfl
theorem mw_1240 : Cond.instanceMethod yX9_lastTerm ∈ TW := tw_of (i := 1240) (by decide +kernel) rfl
theorem mw_1241 : Cond.code yX9_lastTerm cX9_lastTerm 3 (some .int) ∈ TW := tw_of (i := 1241) (by decide +kernel) rfl
theorem mw_1242 : Cond.methodLink RX9 119 yX9_isMajority ∈ TW := tw_of (i := 1242) (by decide +kernel) rfl
theorem mw_1244 : Cond.instanceMethod yX9_isMajority ∈ TW := tw_of (i := 1244) (by decide +kernel) rfl
theorem mw_1245 : Cond.code yX9_isMajority cX9_isMajority 2 (some .boolean) ∈ TW := tw_of (i := 1245) (by decide +kernel) rfl
theorem mw_1250 : Cond.methodLink RX9 146 yX9_sends ∈ TW := tw_of (i := 1250) (by decide +kernel) rfl
theorem mw_1252 : Cond.instanceMethod yX9_sends ∈ TW := tw_of (i := 1252) (by decide +kernel) rfl
theorem mw_1253 : Cond.code yX9_sends cX9_sends 2 (some .int) ∈ TW := tw_of (i := 1253) (by decide +kernel) rfl
theorem mw_1254 : Cond.methodLink RX9 140 yX9_isNoLeader ∈ TW := tw_of (i := 1254) (by decide +kernel) rfl
theorem mw_1256 : Cond.instanceMethod yX9_isNoLeader ∈ TW := tw_of (i := 1256) (by decide +kernel) rfl
theorem mw_1257 : Cond.code yX9_isNoLeader cX9_isNoLeader 2 (some .boolean) ∈ TW := tw_of (i := 1257) (by decide +kernel) rfl
theorem mw_1258 : Cond.methodLink RX9 143 yX9_sendsNow ∈ TW := tw_of (i := 1258) (by decide +kernel) rfl
theorem mw_1260 : Cond.instanceMethod yX9_sendsNow ∈ TW := tw_of (i := 1260) (by decide +kernel) rfl
theorem mw_1261 : Cond.code yX9_sendsNow cX9_sendsNow 4 (some .int) ∈ TW := tw_of (i := 1261) (by decide +kernel) rfl
theorem mw_1262 : Cond.methodLink RX9 134 yX9_gets ∈ TW := tw_of (i := 1262) (by decide +kernel) rfl
theorem mw_1264 : Cond.instanceMethod yX9_gets ∈ TW := tw_of (i := 1264) (by decide +kernel) rfl
theorem mw_1265 : Cond.code yX9_gets cX9_gets 6 none ∈ TW := tw_of (i := 1265) (by decide +kernel) rfl
theorem mw_1266 : Cond.methodLink RX9 131 yX9_alikeTo ∈ TW := tw_of (i := 1266) (by decide +kernel) rfl
theorem mw_1268 : Cond.instanceMethod yX9_alikeTo ∈ TW := tw_of (i := 1268) (by decide +kernel) rfl
theorem mw_1269 : Cond.code yX9_alikeTo cX9_alikeTo 5 (some .int) ∈ TW := tw_of (i := 1269) (by decide +kernel) rfl
theorem mw_1270 : Cond.methodLink RX9 137 yX9_lastOwn ∈ TW := tw_of (i := 1270) (by decide +kernel) rfl
theorem mw_1272 : Cond.instanceMethod yX9_lastOwn ∈ TW := tw_of (i := 1272) (by decide +kernel) rfl
theorem mw_1273 : Cond.code yX9_lastOwn cX9_lastOwn 3 (some .int) ∈ TW := tw_of (i := 1273) (by decide +kernel) rfl
theorem mw_1278 : Cond.methodLink RX9 149 yX9_shouts ∈ TW := tw_of (i := 1278) (by decide +kernel) rfl
theorem mw_1280 : Cond.instanceMethod yX9_shouts ∈ TW := tw_of (i := 1280) (by decide +kernel) rfl
theorem mw_1281 : Cond.code yX9_shouts cX9_shouts 4 (some .int) ∈ TW := tw_of (i := 1281) (by decide +kernel) rfl
theorem mw_1286 : Cond.methodLink RX9 156 yX9_washes ∈ TW := tw_of (i := 1286) (by decide +kernel) rfl
theorem mw_1288 : Cond.instanceMethod yX9_washes ∈ TW := tw_of (i := 1288) (by decide +kernel) rfl
theorem mw_1289 : Cond.code yX9_washes cX9_washes 2 (some .int) ∈ TW := tw_of (i := 1289) (by decide +kernel) rfl
theorem mw_1290 : Cond.methodLink RX9 152 yX9_aboard ∈ TW := tw_of (i := 1290) (by decide +kernel) rfl
theorem mw_1292 : Cond.instanceMethod yX9_aboard ∈ TW := tw_of (i := 1292) (by decide +kernel) rfl
theorem mw_1293 : Cond.code yX9_aboard cX9_aboard 3 (some .int) ∈ TW := tw_of (i := 1293) (by decide +kernel) rfl
theorem mw_1298 : Cond.methodLink RX9 159 yX9_comesBack ∈ TW := tw_of (i := 1298) (by decide +kernel) rfl
theorem mw_1300 : Cond.instanceMethod yX9_comesBack ∈ TW := tw_of (i := 1300) (by decide +kernel) rfl
theorem mw_1301 : Cond.code yX9_comesBack cX9_comesBack 2 (some .int) ∈ TW := tw_of (i := 1301) (by decide +kernel) rfl
theorem mw_1306 : Cond.methodLink RX9 168 yX9_ropes ∈ TW := tw_of (i := 1306) (by decide +kernel) rfl
theorem mw_1308 : Cond.instanceMethod yX9_ropes ∈ TW := tw_of (i := 1308) (by decide +kernel) rfl
theorem mw_1309 : Cond.code yX9_ropes cX9_ropes 4 (some .int) ∈ TW := tw_of (i := 1309) (by decide +kernel) rfl
theorem mw_1310 : Cond.methodLink RX9 162 yX9_areDrivers ∈ TW := tw_of (i := 1310) (by decide +kernel) rfl
theorem mw_1312 : Cond.instanceMethod yX9_areDrivers ∈ TW := tw_of (i := 1312) (by decide +kernel) rfl
theorem mw_1313 : Cond.code yX9_areDrivers cX9_areDrivers 3 (some .boolean) ∈ TW := tw_of (i := 1313) (by decide +kernel) rfl
theorem mw_1314 : Cond.methodLink RX9 165 yX9_ropesCut ∈ TW := tw_of (i := 1314) (by decide +kernel) rfl
theorem mw_1316 : Cond.instanceMethod yX9_ropesCut ∈ TW := tw_of (i := 1316) (by decide +kernel) rfl
theorem mw_1317 : Cond.code yX9_ropesCut cX9_ropesCut 3 (some .int) ∈ TW := tw_of (i := 1317) (by decide +kernel) rfl
theorem mw_1326 : Cond.methodLink RX9 179 yX9_beatsGo ∈ TW := tw_of (i := 1326) (by decide +kernel) rfl
theorem mw_1328 : Cond.instanceMethod yX9_beatsGo ∈ TW := tw_of (i := 1328) (by decide +kernel) rfl
theorem mw_1329 : Cond.code yX9_beatsGo cX9_beatsGo 4 (some .int) ∈ TW := tw_of (i := 1329) (by decide +kernel) rfl
theorem mw_1330 : Cond.methodLink RX9 176 yX9_beatGoes ∈ TW := tw_of (i := 1330) (by decide +kernel) rfl
theorem mw_1332 : Cond.instanceMethod yX9_beatGoes ∈ TW := tw_of (i := 1332) (by decide +kernel) rfl
theorem mw_1333 : Cond.code yX9_beatGoes cX9_beatGoes 3 none ∈ TW := tw_of (i := 1333) (by decide +kernel) rfl
theorem mw_1334 : Cond.methodLink RX9 172 yX9_waits ∈ TW := tw_of (i := 1334) (by decide +kernel) rfl
theorem mw_1336 : Cond.instanceMethod yX9_waits ∈ TW := tw_of (i := 1336) (by decide +kernel) rfl
theorem mw_1337 : Cond.code yX9_waits cX9_waits 3 none ∈ TW := tw_of (i := 1337) (by decide +kernel) rfl
theorem mw_1346 : Cond.methodLink RX9 251 yX9_isText ∈ TW := tw_of (i := 1346) (by decide +kernel) rfl
theorem mw_1348 : Cond.instanceMethod yX9_isText ∈ TW := tw_of (i := 1348) (by decide +kernel) rfl
theorem mw_1349 : Cond.code yX9_isText cX9_isText 2 (some .boolean) ∈ TW := tw_of (i := 1349) (by decide +kernel) rfl
theorem mw_1350 : Cond.methodLink RX9 245 yX9_readsCommand ∈ TW := tw_of (i := 1350) (by decide +kernel) rfl
theorem mw_1352 : Cond.instanceMethod yX9_readsCommand ∈ TW := tw_of (i := 1352) (by decide +kernel) rfl
theorem mw_1353 : Cond.code yX9_readsCommand cX9_readsCommand 2 (some .boolean) ∈ TW := tw_of (i := 1353) (by decide +kernel) rfl
theorem mw_1354 : Cond.methodLink RX9 229 yX9_isWord ∈ TW := tw_of (i := 1354) (by decide +kernel) rfl
theorem mw_1356 : Cond.instanceMethod yX9_isWord ∈ TW := tw_of (i := 1356) (by decide +kernel) rfl
theorem mw_1357 : Cond.code yX9_isWord cX9_isWord 4 (some .boolean) ∈ TW := tw_of (i := 1357) (by decide +kernel) rfl
theorem mw_1358 : Cond.methodLink RX9 218 yX9_wordOf ∈ TW := tw_of (i := 1358) (by decide +kernel) rfl
theorem mw_1359 : Cond.static yX9_wordOf ∈ TW := tw_of (i := 1359) (by decide +kernel) rfl
theorem mw_1360 : Cond.code yX9_wordOf cX9_wordOf 1 (some (.object "java/lang/String")) ∈ TW := tw_of (i := 1360) (by decide +kernel) rfl
theorem mw_1370 : Cond.methodLink RX9 222 yX9_alikeHere ∈ TW := tw_of (i := 1370) (by decide +kernel) rfl
theorem mw_1372 : Cond.instanceMethod yX9_alikeHere ∈ TW := tw_of (i := 1372) (by decide +kernel) rfl
theorem mw_1373 : Cond.code yX9_alikeHere cX9_alikeHere 3 (some .int) ∈ TW := tw_of (i := 1373) (by decide +kernel) rfl
theorem mw_1374 : Cond.methodLink RX9 209 yJ0_length_8abf5 ∈ TW := tw_of (i := 1374) (by decide +kernel) rfl
theorem mw_1375 : Cond.methodLink RX9 214 yJ0_charAt_5068e ∈ TW := tw_of (i := 1375) (by decide +kernel) rfl
theorem mw_1376 : Cond.methodLink RX9 236 yX9_isDigit ∈ TW := tw_of (i := 1376) (by decide +kernel) rfl
theorem mw_1378 : Cond.instanceMethod yX9_isDigit ∈ TW := tw_of (i := 1378) (by decide +kernel) rfl
theorem mw_1379 : Cond.code yX9_isDigit cX9_isDigit 4 (some .boolean) ∈ TW := tw_of (i := 1379) (by decide +kernel) rfl
theorem mw_1380 : Cond.methodLink RX9 188 yX9_sign ∈ TW := tw_of (i := 1380) (by decide +kernel) rfl
theorem mw_1382 : Cond.instanceMethod yX9_sign ∈ TW := tw_of (i := 1382) (by decide +kernel) rfl
theorem mw_1383 : Cond.code yX9_sign cX9_sign 1 (some .int) ∈ TW := tw_of (i := 1383) (by decide +kernel) rfl
theorem mw_1384 : Cond.methodLink RX9 239 yX9_isSign ∈ TW := tw_of (i := 1384) (by decide +kernel) rfl
theorem mw_1386 : Cond.instanceMethod yX9_isSign ∈ TW := tw_of (i := 1386) (by decide +kernel) rfl
theorem mw_1387 : Cond.code yX9_isSign cX9_isSign 3 (some .boolean) ∈ TW := tw_of (i := 1387) (by decide +kernel) rfl
theorem mw_1388 : Cond.methodLink RX9 242 yX9_isLetter ∈ TW := tw_of (i := 1388) (by decide +kernel) rfl
theorem mw_1390 : Cond.instanceMethod yX9_isLetter ∈ TW := tw_of (i := 1390) (by decide +kernel) rfl
theorem mw_1391 : Cond.code yX9_isLetter cX9_isLetter 4 (some .boolean) ∈ TW := tw_of (i := 1391) (by decide +kernel) rfl
theorem mw_1392 : Cond.methodLink RX9 254 yX9_does ∈ TW := tw_of (i := 1392) (by decide +kernel) rfl
theorem mw_1394 : Cond.instanceMethod yX9_does ∈ TW := tw_of (i := 1394) (by decide +kernel) rfl
theorem mw_1395 : Cond.code yX9_does cX9_does 4 (some .int) ∈ TW := tw_of (i := 1395) (by decide +kernel) rfl
theorem mw_1396 : Cond.methodLink RX9 257 yX9_isBehind ∈ TW := tw_of (i := 1396) (by decide +kernel) rfl
theorem mw_1398 : Cond.instanceMethod yX9_isBehind ∈ TW := tw_of (i := 1398) (by decide +kernel) rfl
theorem mw_1399 : Cond.code yX9_isBehind cX9_isBehind 3 none ∈ TW := tw_of (i := 1399) (by decide +kernel) rfl
theorem mw_1412 : Cond.methodLink RX9 261 yX9_reachedBy ∈ TW := tw_of (i := 1412) (by decide +kernel) rfl
theorem mw_1414 : Cond.instanceMethod yX9_reachedBy ∈ TW := tw_of (i := 1414) (by decide +kernel) rfl
theorem mw_1415 : Cond.code yX9_reachedBy cX9_reachedBy 4 (some .int) ∈ TW := tw_of (i := 1415) (by decide +kernel) rfl
theorem mw_1420 : Cond.methodLink RX9 264 yX9_isLine ∈ TW := tw_of (i := 1420) (by decide +kernel) rfl
theorem mw_1422 : Cond.instanceMethod yX9_isLine ∈ TW := tw_of (i := 1422) (by decide +kernel) rfl
theorem mw_1423 : Cond.code yX9_isLine cX9_isLine 3 (some .boolean) ∈ TW := tw_of (i := 1423) (by decide +kernel) rfl
theorem mw_1440 : Cond.methodLink RX9 267 yX9_wouldGive ∈ TW := tw_of (i := 1440) (by decide +kernel) rfl
theorem mw_1442 : Cond.instanceMethod yX9_wouldGive ∈ TW := tw_of (i := 1442) (by decide +kernel) rfl
theorem mw_1443 : Cond.code yX9_wouldGive cX9_wouldGive 5 (some .boolean) ∈ TW := tw_of (i := 1443) (by decide +kernel) rfl
theorem mw_1448 : Cond.methodLink RX9 270 yX9_codeOfAsking ∈ TW := tw_of (i := 1448) (by decide +kernel) rfl
theorem mw_1450 : Cond.instanceMethod yX9_codeOfAsking ∈ TW := tw_of (i := 1450) (by decide +kernel) rfl
theorem mw_1451 : Cond.code yX9_codeOfAsking cX9_codeOfAsking 2 (some .int) ∈ TW := tw_of (i := 1451) (by decide +kernel) rfl
theorem mw_1484 : Cond.methodLink RX9 273 yX9_isAhead ∈ TW := tw_of (i := 1484) (by decide +kernel) rfl
theorem mw_1486 : Cond.instanceMethod yX9_isAhead ∈ TW := tw_of (i := 1486) (by decide +kernel) rfl
theorem mw_1487 : Cond.code yX9_isAhead cX9_isAhead 5 (some .boolean) ∈ TW := tw_of (i := 1487) (by decide +kernel) rfl
theorem mw_1492 : Cond.methodLink RX9 276 yX9_waitsYet ∈ TW := tw_of (i := 1492) (by decide +kernel) rfl
theorem mw_1494 : Cond.instanceMethod yX9_waitsYet ∈ TW := tw_of (i := 1494) (by decide +kernel) rfl
theorem mw_1495 : Cond.code yX9_waitsYet cX9_waitsYet 2 (some .int) ∈ TW := tw_of (i := 1495) (by decide +kernel) rfl
theorem mw_1496 : Cond.methodLink RX9 279 yX9_doesWait ∈ TW := tw_of (i := 1496) (by decide +kernel) rfl
theorem mw_1498 : Cond.instanceMethod yX9_doesWait ∈ TW := tw_of (i := 1498) (by decide +kernel) rfl
theorem mw_1499 : Cond.code yX9_doesWait cX9_doesWait 2 (some .boolean) ∈ TW := tw_of (i := 1499) (by decide +kernel) rfl
theorem mw_1508 : Cond.methodLink RX9 288 yX9_puts ∈ TW := tw_of (i := 1508) (by decide +kernel) rfl
theorem mw_1510 : Cond.instanceMethod yX9_puts ∈ TW := tw_of (i := 1510) (by decide +kernel) rfl
theorem mw_1511 : Cond.code yX9_puts cX9_puts 2 none ∈ TW := tw_of (i := 1511) (by decide +kernel) rfl
theorem mw_1540 : Cond.methodLink RX9 294 yX9_greatestTerm ∈ TW := tw_of (i := 1540) (by decide +kernel) rfl
theorem mw_1542 : Cond.instanceMethod yX9_greatestTerm ∈ TW := tw_of (i := 1542) (by decide +kernel) rfl
theorem mw_1543 : Cond.code yX9_greatestTerm cX9_greatestTerm 3 (some .int) ∈ TW := tw_of (i := 1543) (by decide +kernel) rfl
theorem mw_1564 : Cond.fieldLink RJx29ce0 7 "java/lang/Enum" "ordinal" "I" ∈ TW := tw_of (i := 1564) (by decide +kernel) rfl
theorem mw_1566 : Cond.fieldLink RJ0 9 "java/lang/String" "value" "[B" ∈ TW := tw_of (i := 1566) (by decide +kernel) rfl
theorem mw_1567 : Cond.fieldLink RJ0 15 "java/lang/String" "coder" "B" ∈ TW := tw_of (i := 1567) (by decide +kernel) rfl
theorem uin_X2 : ∀ w ∈ u_ws RX2 TX2 12, w ∈ TW := by decide +kernel
theorem uin_X3 : ∀ w ∈ u_ws RX3 TX3 3, w ∈ TW := by decide +kernel
theorem uin_X4 : ∀ w ∈ u_ws RX4 TX4 10, w ∈ TW := by decide +kernel
theorem uin_X5 : ∀ w ∈ u_ws RX5 TX5 4, w ∈ TW := by decide +kernel
theorem uin_X8 : ∀ w ∈ u_ws RX8 TX8 9, w ∈ TW := by decide +kernel
theorem uin_X9 : ∀ w ∈ u_ws RX9 TX9 20, w ∈ TW := by decide +kernel
theorem fl_X9_9 : FL RX9 9 8 0 true (.array .int) := ⟨RX9, TX9, 20, tyX9, rfl, by decide, mw_1082, uin_X9, tyX9_ok, nmX9, rfl, by decide +kernel⟩
theorem fl_X9_42 : FL RX9 42 8 5 false .int := ⟨RX9, TX9, 20, tyX9, rfl, by decide, mw_1087, uin_X9, tyX9_ok, nmX9, rfl, by decide +kernel⟩
theorem fl_X9_48 : FL RX9 48 8 6 false .int := ⟨RX9, TX9, 20, tyX9, rfl, by decide, mw_1088, uin_X9, tyX9_ok, nmX9, rfl, by decide +kernel⟩
theorem fl_X9_51 : FL RX9 51 8 7 false .int := ⟨RX9, TX9, 20, tyX9, rfl, by decide, mw_1089, uin_X9, tyX9_ok, nmX9, rfl, by decide +kernel⟩
theorem fl_X9_54 : FL RX9 54 8 8 false .int := ⟨RX9, TX9, 20, tyX9, rfl, by decide, mw_1090, uin_X9, tyX9_ok, nmX9, rfl, by decide +kernel⟩
theorem fl_X9_13 : FL RX9 13 8 1 true (.array .int) := ⟨RX9, TX9, 20, tyX9, rfl, by decide, mw_1083, uin_X9, tyX9_ok, nmX9, rfl, by decide +kernel⟩
theorem fl_X9_22 : FL RX9 22 8 4 true (.array .int) := ⟨RX9, TX9, 20, tyX9, rfl, by decide, mw_1086, uin_X9, tyX9_ok, nmX9, rfl, by decide +kernel⟩
theorem fl_X9_182 : FL RX9 182 8 14 false .int := ⟨RX9, TX9, 20, tyX9, rfl, by decide, mw_1096, uin_X9, tyX9_ok, nmX9, rfl, by decide +kernel⟩
theorem fl_X9_29 : FL RX9 29 8 12 true (.array .int) := ⟨RX9, TX9, 20, tyX9, rfl, by decide, mw_1094, uin_X9, tyX9_ok, nmX9, rfl, by decide +kernel⟩
theorem fl_X9_185 : FL RX9 185 8 15 false .int := ⟨RX9, TX9, 20, tyX9, rfl, by decide, mw_1097, uin_X9, tyX9_ok, nmX9, rfl, by decide +kernel⟩
theorem fl_X9_32 : FL RX9 32 8 13 true (.array .int) := ⟨RX9, TX9, 20, tyX9, rfl, by decide, mw_1095, uin_X9, tyX9_ok, nmX9, rfl, by decide +kernel⟩
theorem fl_X9_248 : FL RX9 248 8 9 false .int := ⟨RX9, TX9, 20, tyX9, rfl, by decide, mw_1091, uin_X9, tyX9_ok, nmX9, rfl, by decide +kernel⟩
theorem fl_X9_25 : FL RX9 25 8 10 false .int := ⟨RX9, TX9, 20, tyX9, rfl, by decide, mw_1092, uin_X9, tyX9_ok, nmX9, rfl, by decide +kernel⟩
theorem fl_X9_35 : FL RX9 35 8 18 true (.array .int) := ⟨RX9, TX9, 20, tyX9, rfl, by decide, mw_1100, uin_X9, tyX9_ok, nmX9, rfl, by decide +kernel⟩
theorem fl_X9_282 : FL RX9 282 8 19 false .int := ⟨RX9, TX9, 20, tyX9, rfl, by decide, mw_1101, uin_X9, tyX9_ok, nmX9, rfl, by decide +kernel⟩
theorem fl_X9_19 : FL RX9 19 8 3 true (.array .int) := ⟨RX9, TX9, 20, tyX9, rfl, by decide, mw_1085, uin_X9, tyX9_ok, nmX9, rfl, by decide +kernel⟩
theorem fl_X9_297 : FL RX9 297 8 11 false .boolean := ⟨RX9, TX9, 20, tyX9, rfl, by decide, mw_1093, uin_X9, tyX9_ok, nmX9, rfl, by decide +kernel⟩
theorem fl_X9_226 : FL RX9 226 8 17 false .int := ⟨RX9, TX9, 20, tyX9, rfl, by decide, mw_1099, uin_X9, tyX9_ok, nmX9, rfl, by decide +kernel⟩
theorem fl_X9_233 : FL RX9 233 8 16 false .int := ⟨RX9, TX9, 20, tyX9, rfl, by decide, mw_1098, uin_X9, tyX9_ok, nmX9, rfl, by decide +kernel⟩
theorem fl_X9_16 : FL RX9 16 8 2 true (.array .int) := ⟨RX9, TX9, 20, tyX9, rfl, by decide, mw_1084, uin_X9, tyX9_ok, nmX9, rfl, by decide +kernel⟩
theorem fl_X2_35 : FL RX2 35 2 5 false .int := ⟨RX2, TX2, 12, tyX2, rfl, by decide, mw_140, uin_X2, tyX2_ok, nmX2, rfl, by decide +kernel⟩
theorem fl_X2_9 : FL RX2 9 2 10 true (.array .int) := ⟨RX2, TX2, 12, tyX2, rfl, by decide, mw_155, uin_X2, tyX2_ok, nmX2, rfl, by decide +kernel⟩
theorem fl_X2_15 : FL RX2 15 2 11 true (.array .char) := ⟨RX2, TX2, 12, tyX2, rfl, by decide, mw_157, uin_X2, tyX2_ok, nmX2, rfl, by decide +kernel⟩
theorem fl_X2_19 : FL RX2 19 2 0 false .int := ⟨RX2, TX2, 12, tyX2, rfl, by decide, mw_126, uin_X2, tyX2_ok, nmX2, rfl, by decide +kernel⟩
theorem fl_X2_23 : FL RX2 23 2 1 false .int := ⟨RX2, TX2, 12, tyX2, rfl, by decide, mw_129, uin_X2, tyX2_ok, nmX2, rfl, by decide +kernel⟩
theorem fl_X2_26 : FL RX2 26 2 2 false .int := ⟨RX2, TX2, 12, tyX2, rfl, by decide, mw_132, uin_X2, tyX2_ok, nmX2, rfl, by decide +kernel⟩
theorem fl_X2_29 : FL RX2 29 2 3 false .int := ⟨RX2, TX2, 12, tyX2, rfl, by decide, mw_134, uin_X2, tyX2_ok, nmX2, rfl, by decide +kernel⟩
theorem fl_X2_32 : FL RX2 32 2 4 false .int := ⟨RX2, TX2, 12, tyX2, rfl, by decide, mw_137, uin_X2, tyX2_ok, nmX2, rfl, by decide +kernel⟩
theorem fl_X2_38 : FL RX2 38 2 6 false .int := ⟨RX2, TX2, 12, tyX2, rfl, by decide, mw_143, uin_X2, tyX2_ok, nmX2, rfl, by decide +kernel⟩
theorem fl_X2_41 : FL RX2 41 2 7 false .boolean := ⟨RX2, TX2, 12, tyX2, rfl, by decide, mw_146, uin_X2, tyX2_ok, nmX2, rfl, by decide +kernel⟩
theorem fl_X2_45 : FL RX2 45 2 8 false .int := ⟨RX2, TX2, 12, tyX2, rfl, by decide, mw_149, uin_X2, tyX2_ok, nmX2, rfl, by decide +kernel⟩
theorem fl_X2_48 : FL RX2 48 2 9 false .int := ⟨RX2, TX2, 12, tyX2, rfl, by decide, mw_152, uin_X2, tyX2_ok, nmX2, rfl, by decide +kernel⟩
theorem fl_X4_17 : FL RX4 17 4 1 true (.array .boolean) := ⟨RX4, TX4, 10, tyX4, rfl, by decide, mw_189, uin_X4, tyX4_ok, nmX4, rfl, by decide +kernel⟩
theorem fl_X4_22 : FL RX4 22 4 2 false .int := ⟨RX4, TX4, 10, tyX4, rfl, by decide, mw_191, uin_X4, tyX4_ok, nmX4, rfl, by decide +kernel⟩
theorem fl_X4_26 : FL RX4 26 4 3 false .int := ⟨RX4, TX4, 10, tyX4, rfl, by decide, mw_192, uin_X4, tyX4_ok, nmX4, rfl, by decide +kernel⟩
theorem fl_X4_29 : FL RX4 29 4 4 false .int := ⟨RX4, TX4, 10, tyX4, rfl, by decide, mw_194, uin_X4, tyX4_ok, nmX4, rfl, by decide +kernel⟩
theorem fl_X4_32 : FL RX4 32 4 5 false .int := ⟨RX4, TX4, 10, tyX4, rfl, by decide, mw_196, uin_X4, tyX4_ok, nmX4, rfl, by decide +kernel⟩
theorem fl_X4_35 : FL RX4 35 4 6 false .int := ⟨RX4, TX4, 10, tyX4, rfl, by decide, mw_198, uin_X4, tyX4_ok, nmX4, rfl, by decide +kernel⟩
theorem fl_X4_38 : FL RX4 38 4 7 false .int := ⟨RX4, TX4, 10, tyX4, rfl, by decide, mw_200, uin_X4, tyX4_ok, nmX4, rfl, by decide +kernel⟩
theorem fl_X4_41 : FL RX4 41 4 8 false .int := ⟨RX4, TX4, 10, tyX4, rfl, by decide, mw_202, uin_X4, tyX4_ok, nmX4, rfl, by decide +kernel⟩
theorem fl_X4_44 : FL RX4 44 4 9 false .int := ⟨RX4, TX4, 10, tyX4, rfl, by decide, mw_204, uin_X4, tyX4_ok, nmX4, rfl, by decide +kernel⟩
theorem fl_X4_11 : FL RX4 11 4 0 true (.array (.object "LogRaft$Driver")) := ⟨RX4, TX4, 10, tyX4, rfl, by decide, mw_187, uin_X4, tyX4_ok, nmX4, rfl, by decide +kernel⟩
theorem fl_X4_77 : FL RX4 77 2 1 false .int := ⟨RX2, TX2, 12, tyX2, rfl, by decide, mw_130, uin_X2, tyX2_ok, nmX2, rfl, by decide +kernel⟩
theorem fl_X4_90 : FL RX4 90 2 0 false .int := ⟨RX2, TX2, 12, tyX2, rfl, by decide, mw_127, uin_X2, tyX2_ok, nmX2, rfl, by decide +kernel⟩
theorem fl_X4_96 : FL RX4 96 2 4 false .int := ⟨RX2, TX2, 12, tyX2, rfl, by decide, mw_138, uin_X2, tyX2_ok, nmX2, rfl, by decide +kernel⟩
theorem fl_X4_99 : FL RX4 99 2 3 false .int := ⟨RX2, TX2, 12, tyX2, rfl, by decide, mw_135, uin_X2, tyX2_ok, nmX2, rfl, by decide +kernel⟩
theorem fl_X4_102 : FL RX4 102 2 8 false .int := ⟨RX2, TX2, 12, tyX2, rfl, by decide, mw_150, uin_X2, tyX2_ok, nmX2, rfl, by decide +kernel⟩
theorem fl_X4_62 : FL RX4 62 2 7 false .boolean := ⟨RX2, TX2, 12, tyX2, rfl, by decide, mw_147, uin_X2, tyX2_ok, nmX2, rfl, by decide +kernel⟩
theorem fl_X4_55 : FL RX4 55 2 5 false .int := ⟨RX2, TX2, 12, tyX2, rfl, by decide, mw_141, uin_X2, tyX2_ok, nmX2, rfl, by decide +kernel⟩
theorem fl_X4_152 : FL RX4 152 2 6 false .int := ⟨RX2, TX2, 12, tyX2, rfl, by decide, mw_144, uin_X2, tyX2_ok, nmX2, rfl, by decide +kernel⟩
theorem fl_X3_26 : FL RX3 26 3 2 false .int := ⟨RX3, TX3, 3, tyX3, rfl, by decide, mw_238, uin_X3, tyX3_ok, nmX3, rfl, by decide +kernel⟩
theorem fl_X5_7 : FL RX5 7 5 0 false .int := ⟨RX5, TX5, 4, tyX5, rfl, by decide, mw_253, uin_X5, tyX5_ok, nmX5, rfl, by decide +kernel⟩
theorem fl_X5_13 : FL RX5 13 5 1 false .int := ⟨RX5, TX5, 4, tyX5, rfl, by decide, mw_255, uin_X5, tyX5_ok, nmX5, rfl, by decide +kernel⟩
theorem fl_X5_16 : FL RX5 16 5 2 false .int := ⟨RX5, TX5, 4, tyX5, rfl, by decide, mw_257, uin_X5, tyX5_ok, nmX5, rfl, by decide +kernel⟩
theorem fl_X5_19 : FL RX5 19 5 3 false .int := ⟨RX5, TX5, 4, tyX5, rfl, by decide, mw_259, uin_X5, tyX5_ok, nmX5, rfl, by decide +kernel⟩
theorem fl_X8_12 : FL RX8 12 7 0 true (.object "LogRaft$Raft") := ⟨RX8, TX8, 9, tyX8, rfl, by decide, mw_346, uin_X8, tyX8_ok, nmX8, rfl, by decide +kernel⟩
theorem fl_X8_54 : FL RX8 54 4 2 false .int := ⟨RX4, TX4, 10, tyX4, rfl, by decide, mw_190, uin_X4, tyX4_ok, nmX4, rfl, by decide +kernel⟩
theorem fl_X8_25 : FL RX8 25 7 3 true (.object "LogRaft$Past") := ⟨RX8, TX8, 9, tyX8, rfl, by decide, mw_349, uin_X8, tyX8_ok, nmX8, rfl, by decide +kernel⟩
theorem fl_X8_32 : FL RX8 32 7 4 true (.object "LogRaft$Reasons") := ⟨RX8, TX8, 9, tyX8, rfl, by decide, mw_350, uin_X8, tyX8_ok, nmX8, rfl, by decide +kernel⟩
theorem fl_X8_191 : FL RX8 191 4 0 true (.array (.object "LogRaft$Driver")) := ⟨RX4, TX4, 10, tyX4, rfl, by decide, mw_188, uin_X4, tyX4_ok, nmX4, rfl, by decide +kernel⟩
theorem fl_X8_195 : FL RX8 195 2 7 false .boolean := ⟨RX2, TX2, 12, tyX2, rfl, by decide, mw_148, uin_X2, tyX2_ok, nmX2, rfl, by decide +kernel⟩
theorem fl_X8_201 : FL RX8 201 2 0 false .int := ⟨RX2, TX2, 12, tyX2, rfl, by decide, mw_128, uin_X2, tyX2_ok, nmX2, rfl, by decide +kernel⟩
theorem fl_X8_213 : FL RX8 213 2 5 false .int := ⟨RX2, TX2, 12, tyX2, rfl, by decide, mw_142, uin_X2, tyX2_ok, nmX2, rfl, by decide +kernel⟩
theorem fl_X8_216 : FL RX8 216 4 6 false .int := ⟨RX4, TX4, 10, tyX4, rfl, by decide, mw_199, uin_X4, tyX4_ok, nmX4, rfl, by decide +kernel⟩
theorem fl_X8_204 : FL RX8 204 2 1 false .int := ⟨RX2, TX2, 12, tyX2, rfl, by decide, mw_131, uin_X2, tyX2_ok, nmX2, rfl, by decide +kernel⟩
theorem fl_X8_226 : FL RX8 226 2 3 false .int := ⟨RX2, TX2, 12, tyX2, rfl, by decide, mw_136, uin_X2, tyX2_ok, nmX2, rfl, by decide +kernel⟩
theorem fl_X8_50 : FL RX8 50 7 8 false .int := ⟨RX8, TX8, 9, tyX8, rfl, by decide, mw_354, uin_X8, tyX8_ok, nmX8, rfl, by decide +kernel⟩
theorem fl_X8_255 : FL RX8 255 5 2 false .int := ⟨RX5, TX5, 4, tyX5, rfl, by decide, mw_258, uin_X5, tyX5_ok, nmX5, rfl, by decide +kernel⟩
theorem fl_X8_261 : FL RX8 261 5 3 false .int := ⟨RX5, TX5, 4, tyX5, rfl, by decide, mw_260, uin_X5, tyX5_ok, nmX5, rfl, by decide +kernel⟩
theorem fl_X8_258 : FL RX8 258 5 1 false .int := ⟨RX5, TX5, 4, tyX5, rfl, by decide, mw_256, uin_X5, tyX5_ok, nmX5, rfl, by decide +kernel⟩
theorem fl_X8_252 : FL RX8 252 5 0 false .int := ⟨RX5, TX5, 4, tyX5, rfl, by decide, mw_254, uin_X5, tyX5_ok, nmX5, rfl, by decide +kernel⟩
theorem fl_X8_289 : FL RX8 289 2 10 true (.array .int) := ⟨RX2, TX2, 12, tyX2, rfl, by decide, mw_156, uin_X2, tyX2_ok, nmX2, rfl, by decide +kernel⟩
theorem fl_X8_285 : FL RX8 285 2 11 true (.array .char) := ⟨RX2, TX2, 12, tyX2, rfl, by decide, mw_158, uin_X2, tyX2_ok, nmX2, rfl, by decide +kernel⟩
theorem fl_X8_270 : FL RX8 270 2 6 false .int := ⟨RX2, TX2, 12, tyX2, rfl, by decide, mw_145, uin_X2, tyX2_ok, nmX2, rfl, by decide +kernel⟩
theorem fl_X3_11 : FL RX3 11 3 0 true (.array (.object "LogRaft$Raft")) := ⟨RX3, TX3, 3, tyX3, rfl, by decide, mw_236, uin_X3, tyX3_ok, nmX3, rfl, by decide +kernel⟩
theorem fl_X3_18 : FL RX3 18 3 1 false .int := ⟨RX3, TX3, 3, tyX3, rfl, by decide, mw_237, uin_X3, tyX3_ok, nmX3, rfl, by decide +kernel⟩
theorem fl_X8_178 : FL RX8 178 4 4 false .int := ⟨RX4, TX4, 10, tyX4, rfl, by decide, mw_195, uin_X4, tyX4_ok, nmX4, rfl, by decide +kernel⟩
theorem fl_X8_264 : FL RX8 264 2 2 false .int := ⟨RX2, TX2, 12, tyX2, rfl, by decide, mw_133, uin_X2, tyX2_ok, nmX2, rfl, by decide +kernel⟩
theorem fl_X8_267 : FL RX8 267 2 4 false .int := ⟨RX2, TX2, 12, tyX2, rfl, by decide, mw_139, uin_X2, tyX2_ok, nmX2, rfl, by decide +kernel⟩
theorem fl_X8_276 : FL RX8 276 2 8 false .int := ⟨RX2, TX2, 12, tyX2, rfl, by decide, mw_151, uin_X2, tyX2_ok, nmX2, rfl, by decide +kernel⟩
theorem fl_X8_279 : FL RX8 279 2 9 false .int := ⟨RX2, TX2, 12, tyX2, rfl, by decide, mw_154, uin_X2, tyX2_ok, nmX2, rfl, by decide +kernel⟩
theorem fl_X8_379 : FL RX8 379 3 2 false .int := ⟨RX3, TX3, 3, tyX3, rfl, by decide, mw_239, uin_X3, tyX3_ok, nmX3, rfl, by decide +kernel⟩
theorem fl_X8_19 : FL RX8 19 7 2 true (.object "LogRaft$Raft") := ⟨RX8, TX8, 9, tyX8, rfl, by decide, mw_348, uin_X8, tyX8_ok, nmX8, rfl, by decide +kernel⟩
theorem fl_X8_383 : FL RX8 383 7 7 false .boolean := ⟨RX8, TX8, 9, tyX8, rfl, by decide, mw_353, uin_X8, tyX8_ok, nmX8, rfl, by decide +kernel⟩
theorem fl_X8_361 : FL RX8 361 4 3 false .int := ⟨RX4, TX4, 10, tyX4, rfl, by decide, mw_193, uin_X4, tyX4_ok, nmX4, rfl, by decide +kernel⟩
theorem fl_X4_93 : FL RX4 93 2 9 false .int := ⟨RX2, TX2, 12, tyX2, rfl, by decide, mw_153, uin_X2, tyX2_ok, nmX2, rfl, by decide +kernel⟩
theorem fl_X8_16 : FL RX8 16 7 1 true (.object "LogRaft$Raft") := ⟨RX8, TX8, 9, tyX8, rfl, by decide, mw_347, uin_X8, tyX8_ok, nmX8, rfl, by decide +kernel⟩
theorem mv_J0_335 : MV RJ0 335 yJ0_coder_7d493 cJ0_coder_7d493 1 (some .byte) 0 := ⟨gi_cons mw_745 (gi_cons mw_746 (gi_cons mw_747 (gi_cons mw_91 (gi_cons mw_748 tw_good)))), by decide +kernel⟩
theorem mv_J0_1059 : MS RJ0 1059 yJ3_checkIndex_8e157 cJ3_checkIndex_8e157 3 (some .int) 3 := ⟨gi_cons mw_493 (gi_cons mw_494 (gi_cons mw_100 (gi_cons mw_495 tw_good))), by decide +kernel⟩
theorem mv_J1_9 : MS RJ1 9 yJ0_checkIndex_df160 cJ0_checkIndex_df160 2 none 2 := ⟨gi_cons mw_761 (gi_cons mw_491 (gi_cons mw_91 (gi_cons mw_492 tw_good))), by decide +kernel⟩
theorem mv_J0_492 : MV RJ0 492 yJ0_isLatin1_aae02 cJ0_isLatin1_aae02 1 (some .boolean) 0 := ⟨gi_cons mw_754 (gi_cons mw_755 (gi_cons mw_756 (gi_cons mw_91 (gi_cons mw_757 tw_good)))), by decide +kernel⟩
theorem mv_J0_495 : MS RJ0 495 yJ1_charAt_3b067 cJ1_charAt_3b067 2 (some .char) 2 := ⟨gi_cons mw_758 (gi_cons mw_759 (gi_cons mw_99 (gi_cons mw_760 tw_good))), by decide +kernel⟩
theorem mv_X9_38 : MS RX9 38 yX9_copies cX9_copies 5 none 4 := ⟨gi_cons mw_1155 (gi_cons mw_1156 (gi_cons mw_94 (gi_cons mw_1157 tw_good))), by decide +kernel⟩
theorem mv_X9_61 : MS RX9 61 yX9_isIn cX9_isIn 3 (some .boolean) 3 := ⟨gi_cons mw_1162 (gi_cons mw_1163 (gi_cons mw_94 (gi_cons mw_1164 tw_good))), by decide +kernel⟩
theorem mv_X9_57 : MS RX9 57 yX9_at cX9_at 2 (some .int) 2 := ⟨gi_cons mw_1173 (gi_cons mw_1174 (gi_cons mw_94 (gi_cons mw_1175 tw_good))), by decide +kernel⟩
theorem mv_X9_69 : MV RX9 69 yX9_of cX9_of 3 (some .int) 2 := ⟨gi_cons mw_1204 (gi_cons mw_1206 (gi_cons mw_36 (gi_cons mw_94 (gi_cons mw_1207 tw_good)))), by decide +kernel⟩
theorem mv_X9_72 : MS RX9 72 yX9_lesser cX9_lesser 2 (some .int) 2 := ⟨gi_cons mw_1220 (gi_cons mw_1221 (gi_cons mw_94 (gi_cons mw_1222 tw_good))), by decide +kernel⟩
theorem mv_X9_65 : MV RX9 65 yX9_isDriver cX9_isDriver 2 (some .boolean) 1 := ⟨gi_cons mw_1192 (gi_cons mw_1194 (gi_cons mw_33 (gi_cons mw_94 (gi_cons mw_1195 tw_good)))), by decide +kernel⟩
theorem mv_X9_209 : MV RX9 209 yJ0_length_8abf5 cJ0_length_8abf5 1 (some .int) 0 := ⟨gi_cons mw_1374 (gi_cons mw_742 (gi_cons mw_743 (gi_cons mw_91 (gi_cons mw_744 tw_good)))), by decide +kernel⟩
theorem mv_X9_214 : MV RX9 214 yJ0_charAt_5068e cJ0_charAt_5068e 2 (some .char) 1 := ⟨gi_cons mw_1375 (gi_cons mw_751 (gi_cons mw_752 (gi_cons mw_91 (gi_cons mw_753 tw_good)))), by decide +kernel⟩
theorem mv_X9_188 : MV RX9 188 yX9_sign cX9_sign 1 (some .int) 0 := ⟨gi_cons mw_1380 (gi_cons mw_1382 (gi_cons mw_66 (gi_cons mw_94 (gi_cons mw_1383 tw_good)))), by decide +kernel⟩
theorem mv_X9_162 : MV RX9 162 yX9_areDrivers cX9_areDrivers 3 (some .boolean) 2 := ⟨gi_cons mw_1310 (gi_cons mw_1312 (gi_cons mw_56 (gi_cons mw_94 (gi_cons mw_1313 tw_good)))), by decide +kernel⟩
theorem mv_X9_131 : MV RX9 131 yX9_alikeTo cX9_alikeTo 5 (some .int) 2 := ⟨gi_cons mw_1266 (gi_cons mw_1268 (gi_cons mw_49 (gi_cons mw_94 (gi_cons mw_1269 tw_good)))), by decide +kernel⟩
theorem mv_X9_264 : MV RX9 264 yX9_isLine cX9_isLine 3 (some .boolean) 2 := ⟨gi_cons mw_1420 (gi_cons mw_1422 (gi_cons mw_72 (gi_cons mw_94 (gi_cons mw_1423 tw_good)))), by decide +kernel⟩
theorem mv_X9_75 : MS RX9 75 yX9_greater cX9_greater 2 (some .int) 2 := ⟨gi_cons mw_1223 (gi_cons mw_1224 (gi_cons mw_94 (gi_cons mw_1225 tw_good))), by decide +kernel⟩
theorem mv_X9_288 : MV RX9 288 yX9_puts cX9_puts 2 none 1 := ⟨gi_cons mw_1508 (gi_cons mw_1510 (gi_cons mw_78 (gi_cons mw_94 (gi_cons mw_1511 tw_good)))), by decide +kernel⟩
theorem mv_X9_45 : MV RX9 45 yX9_changed cX9_changed 2 none 0 := ⟨gi_cons mw_1180 (gi_cons mw_1182 (gi_cons mw_31 (gi_cons mw_94 (gi_cons mw_1183 tw_good)))), by decide +kernel⟩
theorem mv_X9_92 : MV RX9 92 yX9_sets cX9_sets 4 none 3 := ⟨gi_cons mw_1169 (gi_cons mw_1171 (gi_cons mw_29 (gi_cons mw_94 (gi_cons mw_1172 tw_good)))), by decide +kernel⟩
theorem mv_X9_84 : MV RX9 84 yX9_lastTerm cX9_lastTerm 3 (some .int) 1 := ⟨gi_cons mw_1238 (gi_cons mw_1240 (gi_cons mw_43 (gi_cons mw_94 (gi_cons mw_1241 tw_good)))), by decide +kernel⟩
theorem mv_X9_112 : MV RX9 112 yX9_takesOver cX9_takesOver 3 none 2 := ⟨gi_cons mw_1226 (gi_cons mw_1228 (gi_cons mw_40 (gi_cons mw_94 (gi_cons mw_1229 tw_good)))), by decide +kernel⟩
theorem mv_X9_78 : MV RX9 78 yX9_isAboard cX9_isAboard 2 (some .boolean) 1 := ⟨gi_cons mw_1200 (gi_cons mw_1202 (gi_cons mw_35 (gi_cons mw_94 (gi_cons mw_1203 tw_good)))), by decide +kernel⟩
theorem mv_X9_88 : MV RX9 88 yX9_isRefused cX9_isRefused 4 (some .boolean) 3 := ⟨gi_cons mw_1165 (gi_cons mw_1167 (gi_cons mw_28 (gi_cons mw_94 (gi_cons mw_1168 tw_good)))), by decide +kernel⟩
theorem mv_X9_152 : MV RX9 152 yX9_aboard cX9_aboard 3 (some .int) 0 := ⟨gi_cons mw_1290 (gi_cons mw_1292 (gi_cons mw_53 (gi_cons mw_94 (gi_cons mw_1293 tw_good)))), by decide +kernel⟩
theorem mv_X9_81 : MV RX9 81 yX9_ropeAt cX9_ropeAt 3 (some .int) 2 := ⟨gi_cons mw_1216 (gi_cons mw_1218 (gi_cons mw_39 (gi_cons mw_94 (gi_cons mw_1219 tw_good)))), by decide +kernel⟩
theorem mv_X9_165 : MV RX9 165 yX9_ropesCut cX9_ropesCut 3 (some .int) 0 := ⟨gi_cons mw_1314 (gi_cons mw_1316 (gi_cons mw_57 (gi_cons mw_94 (gi_cons mw_1317 tw_good)))), by decide +kernel⟩
theorem mv_X9_96 : MV RX9 96 yX9_keeps cX9_keeps 1 none 0 := ⟨gi_cons mw_1151 (gi_cons mw_1153 (gi_cons mw_26 (gi_cons mw_94 (gi_cons mw_1154 tw_good)))), by decide +kernel⟩
theorem mv_X9_168 : MV RX9 168 yX9_ropes cX9_ropes 4 (some .int) 3 := ⟨gi_cons mw_1306 (gi_cons mw_1308 (gi_cons mw_55 (gi_cons mw_94 (gi_cons mw_1309 tw_good)))), by decide +kernel⟩
theorem mv_X9_102 : MV RX9 102 yX9_ends cX9_ends 2 (some .int) 1 := ⟨gi_cons mw_1176 (gi_cons mw_1178 (gi_cons mw_30 (gi_cons mw_94 (gi_cons mw_1179 tw_good)))), by decide +kernel⟩
theorem mv_X9_218 : MS RX9 218 yX9_wordOf cX9_wordOf 1 (some (.object "java/lang/String")) 1 := ⟨gi_cons mw_1358 (gi_cons mw_1359 (gi_cons mw_94 (gi_cons mw_1360 tw_good))), by decide +kernel⟩
theorem mv_X9_222 : MV RX9 222 yX9_alikeHere cX9_alikeHere 3 (some .int) 1 := ⟨gi_cons mw_1370 (gi_cons mw_1372 (gi_cons mw_64 (gi_cons mw_94 (gi_cons mw_1373 tw_good)))), by decide +kernel⟩
theorem mv_X9_105 : MV RX9 105 yX9_longerOf cX9_longerOf 4 (some .int) 2 := ⟨gi_cons mw_1234 (gi_cons mw_1236 (gi_cons mw_42 (gi_cons mw_94 (gi_cons mw_1237 tw_good)))), by decide +kernel⟩
theorem mv_X9_294 : MV RX9 294 yX9_greatestTerm cX9_greatestTerm 3 (some .int) 0 := ⟨gi_cons mw_1540 (gi_cons mw_1542 (gi_cons mw_81 (gi_cons mw_94 (gi_cons mw_1543 tw_good)))), by decide +kernel⟩
theorem mv_X9_122 : MV RX9 122 yX9_isWashed cX9_isWashed 2 (some .boolean) 1 := ⟨gi_cons mw_1196 (gi_cons mw_1198 (gi_cons mw_34 (gi_cons mw_94 (gi_cons mw_1199 tw_good)))), by decide +kernel⟩
theorem mv_X9_119 : MV RX9 119 yX9_isMajority cX9_isMajority 2 (some .boolean) 1 := ⟨gi_cons mw_1242 (gi_cons mw_1244 (gi_cons mw_44 (gi_cons mw_94 (gi_cons mw_1245 tw_good)))), by decide +kernel⟩
theorem mv_X9_137 : MV RX9 137 yX9_lastOwn cX9_lastOwn 3 (some .int) 1 := ⟨gi_cons mw_1270 (gi_cons mw_1272 (gi_cons mw_50 (gi_cons mw_94 (gi_cons mw_1273 tw_good)))), by decide +kernel⟩
theorem mv_X9_108 : MV RX9 108 yX9_isReached cX9_isReached 3 (some .boolean) 2 := ⟨gi_cons mw_1212 (gi_cons mw_1214 (gi_cons mw_38 (gi_cons mw_94 (gi_cons mw_1215 tw_good)))), by decide +kernel⟩
theorem mv_X9_134 : MV RX9 134 yX9_gets cX9_gets 6 none 2 := ⟨gi_cons mw_1262 (gi_cons mw_1264 (gi_cons mw_48 (gi_cons mw_94 (gi_cons mw_1265 tw_good)))), by decide +kernel⟩
theorem mv_X9_140 : MV RX9 140 yX9_isNoLeader cX9_isNoLeader 2 (some .boolean) 1 := ⟨gi_cons mw_1254 (gi_cons mw_1256 (gi_cons mw_46 (gi_cons mw_94 (gi_cons mw_1257 tw_good)))), by decide +kernel⟩
theorem mv_X9_159 : MV RX9 159 yX9_comesBack cX9_comesBack 2 (some .int) 1 := ⟨gi_cons mw_1298 (gi_cons mw_1300 (gi_cons mw_54 (gi_cons mw_94 (gi_cons mw_1301 tw_good)))), by decide +kernel⟩
theorem mv_X9_229 : MV RX9 229 yX9_isWord cX9_isWord 4 (some .boolean) 0 := ⟨gi_cons mw_1354 (gi_cons mw_1356 (gi_cons mw_63 (gi_cons mw_94 (gi_cons mw_1357 tw_good)))), by decide +kernel⟩
theorem mv_X9_236 : MV RX9 236 yX9_isDigit cX9_isDigit 4 (some .boolean) 1 := ⟨gi_cons mw_1376 (gi_cons mw_1378 (gi_cons mw_65 (gi_cons mw_94 (gi_cons mw_1379 tw_good)))), by decide +kernel⟩
theorem mv_X9_239 : MV RX9 239 yX9_isSign cX9_isSign 3 (some .boolean) 1 := ⟨gi_cons mw_1384 (gi_cons mw_1386 (gi_cons mw_67 (gi_cons mw_94 (gi_cons mw_1387 tw_good)))), by decide +kernel⟩
theorem mv_X9_242 : MV RX9 242 yX9_isLetter cX9_isLetter 4 (some .boolean) 1 := ⟨gi_cons mw_1388 (gi_cons mw_1390 (gi_cons mw_68 (gi_cons mw_94 (gi_cons mw_1391 tw_good)))), by decide +kernel⟩
theorem mv_X9_267 : MV RX9 267 yX9_wouldGive cX9_wouldGive 5 (some .boolean) 2 := ⟨gi_cons mw_1440 (gi_cons mw_1442 (gi_cons mw_73 (gi_cons mw_94 (gi_cons mw_1443 tw_good)))), by decide +kernel⟩
theorem mv_X9_270 : MV RX9 270 yX9_codeOfAsking cX9_codeOfAsking 2 (some .int) 1 := ⟨gi_cons mw_1448 (gi_cons mw_1450 (gi_cons mw_74 (gi_cons mw_94 (gi_cons mw_1451 tw_good)))), by decide +kernel⟩
theorem mv_X9_273 : MV RX9 273 yX9_isAhead cX9_isAhead 5 (some .boolean) 2 := ⟨gi_cons mw_1484 (gi_cons mw_1486 (gi_cons mw_75 (gi_cons mw_94 (gi_cons mw_1487 tw_good)))), by decide +kernel⟩
theorem mv_X9_279 : MV RX9 279 yX9_doesWait cX9_doesWait 2 (some .boolean) 1 := ⟨gi_cons mw_1496 (gi_cons mw_1498 (gi_cons mw_77 (gi_cons mw_94 (gi_cons mw_1499 tw_good)))), by decide +kernel⟩
theorem mv_X9_276 : MV RX9 276 yX9_waitsYet cX9_waitsYet 2 (some .int) 1 := ⟨gi_cons mw_1492 (gi_cons mw_1494 (gi_cons mw_76 (gi_cons mw_94 (gi_cons mw_1495 tw_good)))), by decide +kernel⟩
theorem mv_X9_99 : MV RX9 99 yX9_comes cX9_comes 3 (some .int) 1 := ⟨gi_cons mw_1158 (gi_cons mw_1160 (gi_cons mw_27 (gi_cons mw_94 (gi_cons mw_1161 tw_good)))), by decide +kernel⟩
theorem mv_X9_116 : MV RX9 116 yX9_votes cX9_votes 4 (some .boolean) 2 := ⟨gi_cons mw_1230 (gi_cons mw_1232 (gi_cons mw_41 (gi_cons mw_94 (gi_cons mw_1233 tw_good)))), by decide +kernel⟩
theorem mv_X9_143 : MV RX9 143 yX9_sendsNow cX9_sendsNow 4 (some .int) 1 := ⟨gi_cons mw_1258 (gi_cons mw_1260 (gi_cons mw_47 (gi_cons mw_94 (gi_cons mw_1261 tw_good)))), by decide +kernel⟩
theorem mv_X9_149 : MV RX9 149 yX9_shouts cX9_shouts 4 (some .int) 2 := ⟨gi_cons mw_1278 (gi_cons mw_1280 (gi_cons mw_51 (gi_cons mw_94 (gi_cons mw_1281 tw_good)))), by decide +kernel⟩
theorem mv_X9_156 : MV RX9 156 yX9_washes cX9_washes 2 (some .int) 1 := ⟨gi_cons mw_1286 (gi_cons mw_1288 (gi_cons mw_52 (gi_cons mw_94 (gi_cons mw_1289 tw_good)))), by decide +kernel⟩
theorem mv_X9_125 : MV RX9 125 yX9_asksNow cX9_asksNow 4 (some .int) 1 := ⟨gi_cons mw_1208 (gi_cons mw_1210 (gi_cons mw_37 (gi_cons mw_94 (gi_cons mw_1211 tw_good)))), by decide +kernel⟩
theorem mv_X9_245 : MV RX9 245 yX9_readsCommand cX9_readsCommand 2 (some .boolean) 0 := ⟨gi_cons mw_1350 (gi_cons mw_1352 (gi_cons mw_62 (gi_cons mw_94 (gi_cons mw_1353 tw_good)))), by decide +kernel⟩
theorem mv_X9_261 : MV RX9 261 yX9_reachedBy cX9_reachedBy 4 (some .int) 1 := ⟨gi_cons mw_1412 (gi_cons mw_1414 (gi_cons mw_71 (gi_cons mw_94 (gi_cons mw_1415 tw_good)))), by decide +kernel⟩
theorem mv_X9_146 : MV RX9 146 yX9_sends cX9_sends 2 (some .int) 1 := ⟨gi_cons mw_1250 (gi_cons mw_1252 (gi_cons mw_45 (gi_cons mw_94 (gi_cons mw_1253 tw_good)))), by decide +kernel⟩
theorem mv_X9_172 : MV RX9 172 yX9_waits cX9_waits 3 none 1 := ⟨gi_cons mw_1334 (gi_cons mw_1336 (gi_cons mw_60 (gi_cons mw_94 (gi_cons mw_1337 tw_good)))), by decide +kernel⟩
theorem mv_X9_176 : MV RX9 176 yX9_beatGoes cX9_beatGoes 3 none 0 := ⟨gi_cons mw_1330 (gi_cons mw_1332 (gi_cons mw_59 (gi_cons mw_94 (gi_cons mw_1333 tw_good)))), by decide +kernel⟩
theorem mv_X9_128 : MV RX9 128 yX9_asks cX9_asks 2 (some .int) 1 := ⟨gi_cons mw_1188 (gi_cons mw_1190 (gi_cons mw_32 (gi_cons mw_94 (gi_cons mw_1191 tw_good)))), by decide +kernel⟩
theorem mv_X9_179 : MV RX9 179 yX9_beatsGo cX9_beatsGo 4 (some .int) 1 := ⟨gi_cons mw_1326 (gi_cons mw_1328 (gi_cons mw_58 (gi_cons mw_94 (gi_cons mw_1329 tw_good)))), by decide +kernel⟩
theorem mv_X9_251 : MV RX9 251 yX9_isText cX9_isText 2 (some .boolean) 0 := ⟨gi_cons mw_1346 (gi_cons mw_1348 (gi_cons mw_61 (gi_cons mw_94 (gi_cons mw_1349 tw_good)))), by decide +kernel⟩
theorem mv_X9_254 : MV RX9 254 yX9_does cX9_does 4 (some .int) 1 := ⟨gi_cons mw_1392 (gi_cons mw_1394 (gi_cons mw_69 (gi_cons mw_94 (gi_cons mw_1395 tw_good)))), by decide +kernel⟩
theorem mv_X9_257 : MV RX9 257 yX9_isBehind cX9_isBehind 3 none 2 := ⟨gi_cons mw_1396 (gi_cons mw_1398 (gi_cons mw_70 (gi_cons mw_94 (gi_cons mw_1399 tw_good)))), by decide +kernel⟩
theorem mv_X4_58 : MV RX4 58 yX2_begin cX2_begin 2 none 1 := ⟨gi_cons mw_550 (gi_cons mw_551 (gi_cons mw_552 (gi_cons mw_85 (gi_cons mw_553 tw_good)))), by decide +kernel⟩
theorem mv_X4_105 : MV RX4 105 yX2_hasLongerTaleThan cX2_hasLongerTaleThan 4 (some .boolean) 1 := ⟨gi_cons mw_586 (gi_cons mw_587 (gi_cons mw_588 (gi_cons mw_85 (gi_cons mw_589 tw_good)))), by decide +kernel⟩
theorem mv_X4_80 : MV RX4 80 yX2_takeOver cX2_takeOver 2 none 1 := ⟨gi_cons mw_578 (gi_cons mw_579 (gi_cons mw_580 (gi_cons mw_85 (gi_cons mw_581 tw_good)))), by decide +kernel⟩
theorem mv_X4_51 : MV RX4 51 yX4_has cX4_has 2 (some .boolean) 1 := ⟨gi_cons mw_869 (gi_cons mw_559 (gi_cons mw_560 (gi_cons mw_84 (gi_cons mw_561 tw_good)))), by decide +kernel⟩
theorem mv_X4_139 : MV RX4 139 yX2_countSameLines cX2_countSameLines 4 (some .int) 1 := ⟨gi_cons mw_936 (gi_cons mw_608 (gi_cons mw_609 (gi_cons mw_85 (gi_cons mw_610 tw_good)))), by decide +kernel⟩
theorem mv_X4_145 : MV RX4 145 yX2_beatsLeft cX2_beatsLeft 1 (some .int) 0 := ⟨gi_cons mw_966 (gi_cons mw_967 (gi_cons mw_968 (gi_cons mw_85 (gi_cons mw_969 tw_good)))), by decide +kernel⟩
theorem mv_X4_149 : MV RX4 149 yX2_isWaiting cX2_isWaiting 1 (some .boolean) 0 := ⟨gi_cons mw_970 (gi_cons mw_959 (gi_cons mw_960 (gi_cons mw_85 (gi_cons mw_961 tw_good)))), by decide +kernel⟩
theorem mv_X8_57 : MV RX8 57 yX4_empty cX4_empty 2 none 0 := ⟨gi_cons mw_378 (gi_cons mw_379 (gi_cons mw_380 (gi_cons mw_84 (gi_cons mw_381 tw_good)))), by decide +kernel⟩
theorem mv_X8_60 : MV RX8 60 yX3_forget cX3_forget 1 none 0 := ⟨gi_cons mw_382 (gi_cons mw_383 (gi_cons mw_384 (gi_cons mw_86 (gi_cons mw_385 tw_good)))), by decide +kernel⟩
theorem mv_X8_245 : MV RX8 245 yX5_put cX5_put 3 none 2 := ⟨gi_cons mw_542 (gi_cons mw_543 (gi_cons mw_544 (gi_cons mw_87 (gi_cons mw_545 tw_good)))), by decide +kernel⟩
theorem mv_X8_187 : MV RX8 187 yX4_has cX4_has 2 (some .boolean) 1 := ⟨gi_cons mw_558 (gi_cons mw_559 (gi_cons mw_560 (gi_cons mw_84 (gi_cons mw_561 tw_good)))), by decide +kernel⟩
theorem mv_X8_219 : MV RX8 219 yX2_write cX2_write 3 none 2 := ⟨gi_cons mw_621 (gi_cons mw_622 (gi_cons mw_623 (gi_cons mw_85 (gi_cons mw_624 tw_good)))), by decide +kernel⟩
theorem mv_X8_181 : MV RX8 181 yX8_refuse cX8_refuse 3 (some .int) 2 := ⟨gi_cons mw_538 (gi_cons mw_540 (gi_cons mw_3 (gi_cons mw_83 (gi_cons mw_541 tw_good)))), by decide +kernel⟩
theorem mv_X8_223 : MV RX8 223 yX4_countAboard cX4_countAboard 3 (some .int) 0 := ⟨gi_cons mw_629 (gi_cons mw_630 (gi_cons mw_631 (gi_cons mw_84 (gi_cons mw_632 tw_good)))), by decide +kernel⟩
theorem mv_X8_229 : MV RX8 229 yX4_isRopeCut cX4_isRopeCut 3 (some .boolean) 2 := ⟨gi_cons mw_641 (gi_cons mw_575 (gi_cons mw_576 (gi_cons mw_84 (gi_cons mw_577 tw_good)))), by decide +kernel⟩
theorem mv_X8_238 : MV RX8 238 yX4_setRope cX4_setRope 4 none 3 := ⟨gi_cons mw_643 (gi_cons mw_644 (gi_cons mw_645 (gi_cons mw_84 (gi_cons mw_646 tw_good)))), by decide +kernel⟩
theorem mv_X8_242 : MV RX8 242 yX4_countCutRopes cX4_countCutRopes 3 (some .int) 0 := ⟨gi_cons mw_647 (gi_cons mw_648 (gi_cons mw_649 (gi_cons mw_84 (gi_cons mw_650 tw_good)))), by decide +kernel⟩
theorem mv_X8_249 : MV RX8 249 yX5_putAhead cX5_putAhead 3 none 2 := ⟨gi_cons mw_841 (gi_cons mw_842 (gi_cons mw_843 (gi_cons mw_87 (gi_cons mw_844 tw_good)))), by decide +kernel⟩
theorem mv_X8_282 : MV RX8 282 yX4_hasLine cX4_hasLine 3 (some .boolean) 2 := ⟨gi_cons mw_865 (gi_cons mw_866 (gi_cons mw_867 (gi_cons mw_84 (gi_cons mw_868 tw_good)))), by decide +kernel⟩
theorem mv_X8_292 : MV RX8 292 yX2_isLeading cX2_isLeading 1 (some .boolean) 0 := ⟨gi_cons mw_874 (gi_cons mw_656 (gi_cons mw_657 (gi_cons mw_85 (gi_cons mw_658 tw_good)))), by decide +kernel⟩
theorem mv_X8_298 : MV RX8 298 yX4_wouldGrantVote cX4_wouldGrantVote 6 (some .boolean) 2 := ⟨gi_cons mw_884 (gi_cons mw_885 (gi_cons mw_886 (gi_cons mw_84 (gi_cons mw_887 tw_good)))), by decide +kernel⟩
theorem mv_X8_307 : MV RX8 307 yX2_hasLongerTaleThan cX2_hasLongerTaleThan 4 (some .boolean) 1 := ⟨gi_cons mw_909 (gi_cons mw_587 (gi_cons mw_588 (gi_cons mw_85 (gi_cons mw_589 tw_good)))), by decide +kernel⟩
theorem mv_X8_311 : MV RX8 311 yX2_countSameLines cX2_countSameLines 4 (some .int) 1 := ⟨gi_cons mw_914 (gi_cons mw_608 (gi_cons mw_609 (gi_cons mw_85 (gi_cons mw_610 tw_good)))), by decide +kernel⟩
theorem mv_X8_315 : MV RX8 315 yX4_isConflict cX4_isConflict 4 (some .boolean) 2 := ⟨gi_cons mw_931 (gi_cons mw_932 (gi_cons mw_933 (gi_cons mw_84 (gi_cons mw_934 tw_good)))), by decide +kernel⟩
theorem mv_X8_324 : MV RX8 324 yX2_isWaiting cX2_isWaiting 1 (some .boolean) 0 := ⟨gi_cons mw_958 (gi_cons mw_959 (gi_cons mw_960 (gi_cons mw_85 (gi_cons mw_961 tw_good)))), by decide +kernel⟩
theorem mv_X8_327 : MV RX8 327 yX4_countAskingAhead cX4_countAskingAhead 7 (some .int) 1 := ⟨gi_cons mw_962 (gi_cons mw_963 (gi_cons mw_964 (gi_cons mw_84 (gi_cons mw_965 tw_good)))), by decide +kernel⟩
theorem mv_X2_51 : MV RX2 51 yX2_copyLines cX2_copyLines 4 none 2 := ⟨gi_cons mw_518 (gi_cons mw_519 (gi_cons mw_520 (gi_cons mw_85 (gi_cons mw_521 tw_good)))), by decide +kernel⟩
theorem mv_X2_65 : MV RX2 65 yX2_countSameLines cX2_countSameLines 4 (some .int) 1 := ⟨gi_cons mw_607 (gi_cons mw_608 (gi_cons mw_609 (gi_cons mw_85 (gi_cons mw_610 tw_good)))), by decide +kernel⟩
theorem mv_X2_61 : MV RX2 61 yX2_takeOver cX2_takeOver 2 none 1 := ⟨gi_cons mw_606 (gi_cons mw_579 (gi_cons mw_580 (gi_cons mw_85 (gi_cons mw_581 tw_good)))), by decide +kernel⟩
theorem mv_X4_47 : MV RX4 47 yX2_copyFrom cX2_copyFrom 2 none 1 := ⟨gi_cons mw_514 (gi_cons mw_515 (gi_cons mw_516 (gi_cons mw_85 (gi_cons mw_517 tw_good)))), by decide +kernel⟩
theorem mv_X4_66 : MV RX4 66 yX4_isRopeCut cX4_isRopeCut 3 (some .boolean) 2 := ⟨gi_cons mw_574 (gi_cons mw_575 (gi_cons mw_576 (gi_cons mw_84 (gi_cons mw_577 tw_good)))), by decide +kernel⟩
theorem mv_X4_87 : MV RX4 87 yX4_isMajority cX4_isMajority 2 (some .boolean) 1 := ⟨gi_cons mw_590 (gi_cons mw_591 (gi_cons mw_592 (gi_cons mw_84 (gi_cons mw_593 tw_good)))), by decide +kernel⟩
theorem mv_X4_116 : MV RX4 116 yX2_agreeOwnLines cX2_agreeOwnLines 2 none 0 := ⟨gi_cons mw_613 (gi_cons mw_614 (gi_cons mw_615 (gi_cons mw_85 (gi_cons mw_616 tw_good)))), by decide +kernel⟩
theorem mv_X4_70 : MV RX4 70 yX4_canReach cX4_canReach 3 (some .boolean) 2 := ⟨gi_cons mw_570 (gi_cons mw_571 (gi_cons mw_572 (gi_cons mw_84 (gi_cons mw_573 tw_good)))), by decide +kernel⟩
theorem mv_X4_112 : MV RX4 112 yX2_followLeader cX2_followLeader 4 (some .int) 1 := ⟨gi_cons mw_602 (gi_cons mw_603 (gi_cons mw_604 (gi_cons mw_85 (gi_cons mw_605 tw_good)))), by decide +kernel⟩
theorem mv_X4_109 : MV RX4 109 yX4_wouldGrantVote cX4_wouldGrantVote 6 (some .boolean) 2 := ⟨gi_cons mw_900 (gi_cons mw_885 (gi_cons mw_886 (gi_cons mw_84 (gi_cons mw_887 tw_good)))), by decide +kernel⟩
theorem mv_X4_142 : MV RX4 142 yX4_isRankedAhead cX4_isRankedAhead 5 (some .boolean) 2 := ⟨gi_cons mw_950 (gi_cons mw_952 (gi_cons mw_25 (gi_cons mw_84 (gi_cons mw_953 tw_good)))), by decide +kernel⟩
theorem mv_X3_22 : MV RX3 22 yX4_copyFrom cX4_copyFrom 3 none 1 := ⟨gi_cons mw_669 (gi_cons mw_511 (gi_cons mw_512 (gi_cons mw_84 (gi_cons mw_513 tw_good)))), by decide +kernel⟩
theorem mv_X8_184 : MV RX8 184 yX4_addDriver cX4_addDriver 2 (some .int) 1 := ⟨gi_cons mw_546 (gi_cons mw_547 (gi_cons mw_548 (gi_cons mw_84 (gi_cons mw_549 tw_good)))), by decide +kernel⟩
theorem mv_X8_210 : MV RX8 210 yX4_sendFrom cX4_sendFrom 6 (some .int) 1 := ⟨gi_cons mw_598 (gi_cons mw_599 (gi_cons mw_600 (gi_cons mw_84 (gi_cons mw_601 tw_good)))), by decide +kernel⟩
theorem mv_X8_273 : MV RX8 273 yX4_countReached cX4_countReached 4 (some .int) 1 := ⟨gi_cons mw_857 (gi_cons mw_858 (gi_cons mw_859 (gi_cons mw_84 (gi_cons mw_860 tw_good)))), by decide +kernel⟩
theorem mv_X8_295 : MV RX8 295 yX4_canReach cX4_canReach 3 (some .boolean) 2 := ⟨gi_cons mw_879 (gi_cons mw_571 (gi_cons mw_572 (gi_cons mw_84 (gi_cons mw_573 tw_good)))), by decide +kernel⟩
theorem mv_X8_301 : MV RX8 301 yX8_codeOfAsking cX8_codeOfAsking 3 (some .int) 1 := ⟨gi_cons mw_892 (gi_cons mw_894 (gi_cons mw_24 (gi_cons mw_83 (gi_cons mw_895 tw_good)))), by decide +kernel⟩
theorem mv_X8_304 : MV RX8 304 yX4_votesToGet cX4_votesToGet 5 (some .int) 1 := ⟨gi_cons mw_896 (gi_cons mw_897 (gi_cons mw_898 (gi_cons mw_84 (gi_cons mw_899 tw_good)))), by decide +kernel⟩
theorem mv_X8_321 : MV RX8 321 yX4_countRankedAhead cX4_countRankedAhead 4 (some .int) 1 := ⟨gi_cons mw_946 (gi_cons mw_947 (gi_cons mw_948 (gi_cons mw_84 (gi_cons mw_949 tw_good)))), by decide +kernel⟩
theorem mv_X8_380 : MV RX8 380 yX3_takeBack cX3_takeBack 2 none 1 := ⟨gi_cons mw_1064 (gi_cons mw_1065 (gi_cons mw_1066 (gi_cons mw_86 (gi_cons mw_1067 tw_good)))), by decide +kernel⟩
theorem mv_X8_113 : MV RX8 113 yX4_copyFrom cX4_copyFrom 3 none 1 := ⟨gi_cons mw_510 (gi_cons mw_511 (gi_cons mw_512 (gi_cons mw_84 (gi_cons mw_513 tw_good)))), by decide +kernel⟩
theorem mv_X4_73 : MV RX4 73 yX4_beginAsking cX4_beginAsking 3 none 2 := ⟨gi_cons mw_566 (gi_cons mw_568 (gi_cons mw_5 (gi_cons mw_84 (gi_cons mw_569 tw_good)))), by decide +kernel⟩
theorem mv_X4_83 : MV RX4 83 yX4_letVote cX4_letVote 5 (some .int) 2 := ⟨gi_cons mw_582 (gi_cons mw_584 (gi_cons mw_6 (gi_cons mw_84 (gi_cons mw_585 tw_good)))), by decide +kernel⟩
theorem mv_X4_119 : MV RX4 119 yX2_isLeading cX2_isLeading 1 (some .boolean) 0 := ⟨gi_cons mw_655 (gi_cons mw_656 (gi_cons mw_657 (gi_cons mw_85 (gi_cons mw_658 tw_good)))), by decide +kernel⟩
theorem mv_X4_127 : MV RX4 127 yX2_waitBeat cX2_waitBeat 1 (some .boolean) 0 := ⟨gi_cons mw_660 (gi_cons mw_661 (gi_cons mw_662 (gi_cons mw_85 (gi_cons mw_663 tw_good)))), by decide +kernel⟩
theorem mv_X4_130 : MV RX4 130 yX4_gatherVotes cX4_gatherVotes 6 (some .int) 1 := ⟨gi_cons mw_664 (gi_cons mw_563 (gi_cons mw_564 (gi_cons mw_84 (gi_cons mw_565 tw_good)))), by decide +kernel⟩
theorem mv_X4_123 : MV RX4 123 yX4_sendFrom cX4_sendFrom 6 (some .int) 1 := ⟨gi_cons mw_659 (gi_cons mw_599 (gi_cons mw_600 (gi_cons mw_84 (gi_cons mw_601 tw_good)))), by decide +kernel⟩
theorem mv_X8_207 : MV RX8 207 yX4_gatherVotes cX4_gatherVotes 6 (some .int) 1 := ⟨gi_cons mw_562 (gi_cons mw_563 (gi_cons mw_564 (gi_cons mw_84 (gi_cons mw_565 tw_good)))), by decide +kernel⟩
theorem mv_X8_175 : MV RX8 175 yX4_passBeats cX4_passBeats 5 (some .int) 1 := ⟨gi_cons mw_651 (gi_cons mw_652 (gi_cons mw_653 (gi_cons mw_84 (gi_cons mw_654 tw_good)))), by decide +kernel⟩
theorem mo_X8_149 : GoodIn TW (va_wsU RX8 149 RX7 "java/lang/Enum" yWord_ordinal yJx29ce0_ordinal_8abf5 (.code yJx29ce0_ordinal_8abf5 cJx29ce0_ordinal_8abf5 1 (some .int) :: TW)) := gi_cons mw_528 (gi_cons mw_529 (gi_cons mw_531 (gi_cons mw_532 (gi_cons mw_101 (gi_cons mw_533 tw_good)))))
theorem mv_X8_152 : MV RX8 152 yX8_letCome cX8_letCome 2 (some .int) 1 := ⟨gi_cons mw_534 (gi_cons mw_536 (gi_cons mw_2 (gi_cons mw_83 (gi_cons mw_537 tw_good)))), by decide +kernel⟩
theorem mv_X8_156 : MV RX8 156 yX8_letAsk cX8_letAsk 3 (some .int) 1 := ⟨gi_cons mw_554 (gi_cons mw_556 (gi_cons mw_4 (gi_cons mw_83 (gi_cons mw_557 tw_good)))), by decide +kernel⟩
theorem mv_X8_159 : MV RX8 159 yX8_letSend cX8_letSend 3 (some .int) 1 := ⟨gi_cons mw_594 (gi_cons mw_596 (gi_cons mw_7 (gi_cons mw_83 (gi_cons mw_597 tw_good)))), by decide +kernel⟩
theorem mv_X8_162 : MV RX8 162 yX8_letShout cX8_letShout 4 (some .int) 2 := ⟨gi_cons mw_617 (gi_cons mw_619 (gi_cons mw_8 (gi_cons mw_83 (gi_cons mw_620 tw_good)))), by decide +kernel⟩
theorem mv_X8_165 : MV RX8 165 yX8_washAway cX8_washAway 3 (some .int) 1 := ⟨gi_cons mw_625 (gi_cons mw_627 (gi_cons mw_9 (gi_cons mw_83 (gi_cons mw_628 tw_good)))), by decide +kernel⟩
theorem mv_X8_168 : MV RX8 168 yX8_bringBack cX8_bringBack 3 (some .int) 1 := ⟨gi_cons mw_633 (gi_cons mw_635 (gi_cons mw_10 (gi_cons mw_83 (gi_cons mw_636 tw_good)))), by decide +kernel⟩
theorem mv_X8_171 : MV RX8 171 yX8_changeRope cX8_changeRope 4 (some .int) 3 := ⟨gi_cons mw_637 (gi_cons mw_639 (gi_cons mw_11 (gi_cons mw_83 (gi_cons mw_640 tw_good)))), by decide +kernel⟩
theorem mv_X8_133 : MV RX8 133 yX8_carryOut cX8_carryOut 4 (some .int) 3 := ⟨gi_cons mw_522 (gi_cons mw_524 (gi_cons mw_1 (gi_cons mw_83 (gi_cons mw_525 tw_good)))), by decide +kernel⟩
theorem mv_X8_140 : MV RX8 140 yX3_remember cX3_remember 2 none 1 := ⟨gi_cons mw_665 (gi_cons mw_666 (gi_cons mw_667 (gi_cons mw_86 (gi_cons mw_668 tw_good)))), by decide +kernel⟩
theorem mv_X8_77 : MV RX8 77 yX8_change cX8_change 5 (some .int) 3 := ⟨gi_cons mw_506 (gi_cons mw_508 (gi_cons mw_0 (gi_cons mw_83 (gi_cons mw_509 tw_good)))), by decide +kernel⟩
