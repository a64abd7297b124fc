theorem lb_m4 : (Int8.ofInt (-4)).toInt32 = (-4 : Int32) := by decide
theorem lb_m3 : (Int8.ofInt (-3)).toInt32 = (-3 : Int32) := by decide
theorem lb_m2 : (Int8.ofInt (-2)).toInt32 = (-2 : Int32) := by decide
theorem lb_6 : (Int8.ofInt (6)).toInt32 = (6 : Int32) := by decide
theorem lb_7 : (Int8.ofInt (7)).toInt32 = (7 : Int32) := by decide
theorem lb_8 : (Int8.ofInt (8)).toInt32 = (8 : Int32) := by decide
theorem lb_9 : (Int8.ofInt (9)).toInt32 = (9 : Int32) := by decide
theorem lb_12 : (Int8.ofInt (12)).toInt32 = (12 : Int32) := by decide
theorem lb_20 : (Int8.ofInt (20)).toInt32 = (20 : Int32) := by decide
theorem lb_97 : (Int8.ofInt (97)).toInt32 = (97 : Int32) := by decide
theorem lb_122 : (Int8.ofInt (122)).toInt32 = (122 : Int32) := by decide
theorem lh_255 : (Int16.ofInt (255)).toInt32 = (255 : Int32) := by decide
theorem li_m1 : Int32.ofInt (-1) = (-1 : Int32) := by decide
theorem li_0 : Int32.ofInt (0) = (0 : Int32) := by decide
theorem li_1 : Int32.ofInt (1) = (1 : Int32) := by decide
theorem li_2 : Int32.ofInt (2) = (2 : Int32) := by decide
theorem li_3 : Int32.ofInt (3) = (3 : Int32) := by decide
theorem li_4 : Int32.ofInt (4) = (4 : Int32) := by decide
theorem li_5 : Int32.ofInt (5) = (5 : Int32) := by decide
theorem mw_0 : Cond.selects RX8 yX8_change yX8_change ∈ TW := tw_of (i := 0) (by decide +kernel) rfl
theorem mw_1 : Cond.selects RX8 yX8_carryOut yX8_carryOut ∈ TW := tw_of (i := 1) (by decide +kernel) rfl
theorem mw_2 : Cond.selects RX8 yX8_letCome yX8_letCome ∈ TW := tw_of (i := 2) (by decide +kernel) rfl
theorem mw_3 : Cond.selects RX8 yX8_refuse yX8_refuse ∈ TW := tw_of (i := 3) (by decide +kernel) rfl
theorem mw_4 : Cond.selects RX8 yX8_letAsk yX8_letAsk ∈ TW := tw_of (i := 4) (by decide +kernel) rfl
theorem mw_5 : Cond.selects RX4 yX4_beginAsking yX4_beginAsking ∈ TW := tw_of (i := 5) (by decide +kernel) rfl
theorem mw_6 : Cond.selects RX4 yX4_letVote yX4_letVote ∈ TW := tw_of (i := 6) (by decide +kernel) rfl
theorem mw_7 : Cond.selects RX8 yX8_letSend yX8_letSend ∈ TW := tw_of (i := 7) (by decide +kernel) rfl
theorem mw_8 : Cond.selects RX8 yX8_letShout yX8_letShout ∈ TW := tw_of (i := 8) (by decide +kernel) rfl
theorem mw_9 : Cond.selects RX8 yX8_washAway yX8_washAway ∈ TW := tw_of (i := 9) (by decide +kernel) rfl
theorem mw_10 : Cond.selects RX8 yX8_bringBack yX8_bringBack ∈ TW := tw_of (i := 10) (by decide +kernel) rfl
theorem mw_11 : Cond.selects RX8 yX8_changeRope yX8_changeRope ∈ TW := tw_of (i := 11) (by decide +kernel) rfl
theorem mw_12 : Cond.selects RX8 yX8_codeOfAsking yX8_codeOfAsking ∈ TW := tw_of (i := 12) (by decide +kernel) rfl
theorem mw_26 : Cond.initialized RX8 ∈ TW := tw_of (i := 26) (by decide +kernel) rfl
theorem mw_27 : Cond.initialized RX4 ∈ TW := tw_of (i := 27) (by decide +kernel) rfl
theorem mw_28 : Cond.initialized RX2 ∈ TW := tw_of (i := 28) (by decide +kernel) rfl
theorem mw_29 : Cond.initialized RX3 ∈ TW := tw_of (i := 29) (by decide +kernel) rfl
theorem mw_30 : Cond.initialized RX5 ∈ TW := tw_of (i := 30) (by decide +kernel) rfl
theorem mw_34 : Cond.initialized RJ0 ∈ TW := tw_of (i := 34) (by decide +kernel) rfl
theorem mw_37 : Cond.initialized yJx29ce0_ordinal_8abf5.cls ∈ TW := tw_of (i := 37) (by decide +kernel) rfl
theorem mw_40 : Cond.initialized "java/lang/Math" ∈ TW := tw_of (i := 40) (by decide +kernel) rfl
theorem mw_44 : Cond.initialized RJ3 ∈ TW := tw_of (i := 44) (by decide +kernel) rfl
theorem mw_45 : Cond.initialized RJ1 ∈ TW := tw_of (i := 45) (by decide +kernel) rfl
theorem mw_51 : Cond.fieldLink RX8 81 "LogRaft$Word" (wNm.getD 1 "") "LLogRaft$Word;" ∈ TW := tw_of (i := 51) (by decide +kernel) rfl
theorem mw_53 : Cond.methodLink RX8 77 yX8_change ∈ TW := tw_of (i := 53) (by decide +kernel) rfl
theorem mw_55 : Cond.instanceMethod yX8_change ∈ TW := tw_of (i := 55) (by decide +kernel) rfl
theorem mw_57 : Cond.code yX8_change cX8_change 5 (some .int) ∈ TW := tw_of (i := 57) (by decide +kernel) rfl
theorem mw_58 : Cond.methodLink RX8 113 yX4_copyFrom ∈ TW := tw_of (i := 58) (by decide +kernel) rfl
theorem mw_59 : Cond.instanceMethod yX4_copyFrom ∈ TW := tw_of (i := 59) (by decide +kernel) rfl
theorem mw_60 : Cond.selects RX4 yX4_copyFrom yX4_copyFrom ∈ TW := tw_of (i := 60) (by decide +kernel) rfl
theorem mw_61 : Cond.code yX4_copyFrom cX4_copyFrom 3 none ∈ TW := tw_of (i := 61) (by decide +kernel) rfl
theorem mw_62 : Cond.methodLink RX4 47 yX2_copyFrom ∈ TW := tw_of (i := 62) (by decide +kernel) rfl
theorem mw_63 : Cond.instanceMethod yX2_copyFrom ∈ TW := tw_of (i := 63) (by decide +kernel) rfl
theorem mw_64 : Cond.selects RX2 yX2_copyFrom yX2_copyFrom ∈ TW := tw_of (i := 64) (by decide +kernel) rfl
theorem mw_65 : Cond.code yX2_copyFrom cX2_copyFrom 2 none ∈ TW := tw_of (i := 65) (by decide +kernel) rfl
theorem mw_66 : Cond.methodLink RX2 51 yX2_copyLines ∈ TW := tw_of (i := 66) (by decide +kernel) rfl
theorem mw_67 : Cond.instanceMethod yX2_copyLines ∈ TW := tw_of (i := 67) (by decide +kernel) rfl
theorem mw_68 : Cond.selects RX2 yX2_copyLines yX2_copyLines ∈ TW := tw_of (i := 68) (by decide +kernel) rfl
theorem mw_69 : Cond.code yX2_copyLines cX2_copyLines 4 none ∈ TW := tw_of (i := 69) (by decide +kernel) rfl
theorem mw_70 : Cond.methodLink RX8 133 yX8_carryOut ∈ TW := tw_of (i := 70) (by decide +kernel) rfl
theorem mw_72 : Cond.instanceMethod yX8_carryOut ∈ TW := tw_of (i := 72) (by decide +kernel) rfl
theorem mw_73 : Cond.code yX8_carryOut cX8_carryOut 4 (some .int) ∈ TW := tw_of (i := 73) (by decide +kernel) rfl
theorem mw_74 : Cond.fieldLink RX8 143 "LogRaft$1" "$SwitchMap$LogRaft$Word" "[I" ∈ TW := tw_of (i := 74) (by decide +kernel) rfl
theorem mw_76 : Cond.methodLink RX8 149 yWord_ordinal ∈ TW := tw_of (i := 76) (by decide +kernel) rfl
theorem mw_77 : Cond.sameMethod yWord_ordinal.cls "java/lang/Enum" yWord_ordinal.name yWord_ordinal.desc ∈ TW := tw_of (i := 77) (by decide +kernel) rfl
theorem mw_79 : Cond.selects RX7 yWord_ordinal yJx29ce0_ordinal_8abf5 ∈ TW := tw_of (i := 79) (by decide +kernel) rfl
theorem mw_80 : Cond.instanceMethod yJx29ce0_ordinal_8abf5 ∈ TW := tw_of (i := 80) (by decide +kernel) rfl
theorem mw_81 : Cond.code yJx29ce0_ordinal_8abf5 cJx29ce0_ordinal_8abf5 1 (some .int) ∈ TW := tw_of (i := 81) (by decide +kernel) rfl
theorem mw_82 : Cond.methodLink RX8 152 yX8_letCome ∈ TW := tw_of (i := 82) (by decide +kernel) rfl
theorem mw_84 : Cond.instanceMethod yX8_letCome ∈ TW := tw_of (i := 84) (by decide +kernel) rfl
theorem mw_85 : Cond.code yX8_letCome cX8_letCome 2 (some .int) ∈ TW := tw_of (i := 85) (by decide +kernel) rfl
theorem mw_86 : Cond.methodLink RX8 181 yX8_refuse ∈ TW := tw_of (i := 86) (by decide +kernel) rfl
theorem mw_88 : Cond.instanceMethod yX8_refuse ∈ TW := tw_of (i := 88) (by decide +kernel) rfl
theorem mw_89 : Cond.code yX8_refuse cX8_refuse 3 (some .int) ∈ TW := tw_of (i := 89) (by decide +kernel) rfl
theorem mw_90 : Cond.methodLink RX8 245 yX5_put ∈ TW := tw_of (i := 90) (by decide +kernel) rfl
theorem mw_91 : Cond.instanceMethod yX5_put ∈ TW := tw_of (i := 91) (by decide +kernel) rfl
theorem mw_92 : Cond.selects RX5 yX5_put yX5_put ∈ TW := tw_of (i := 92) (by decide +kernel) rfl
theorem mw_93 : Cond.code yX5_put cX5_put 3 none ∈ TW := tw_of (i := 93) (by decide +kernel) rfl
theorem mw_94 : Cond.methodLink RX8 184 yX4_addDriver ∈ TW := tw_of (i := 94) (by decide +kernel) rfl
theorem mw_95 : Cond.instanceMethod yX4_addDriver ∈ TW := tw_of (i := 95) (by decide +kernel) rfl
theorem mw_96 : Cond.selects RX4 yX4_addDriver yX4_addDriver ∈ TW := tw_of (i := 96) (by decide +kernel) rfl
theorem mw_97 : Cond.code yX4_addDriver cX4_addDriver 2 (some .int) ∈ TW := tw_of (i := 97) (by decide +kernel) rfl
theorem mw_98 : Cond.methodLink RX4 58 yX2_begin ∈ TW := tw_of (i := 98) (by decide +kernel) rfl
theorem mw_99 : Cond.instanceMethod yX2_begin ∈ TW := tw_of (i := 99) (by decide +kernel) rfl
theorem mw_100 : Cond.selects RX2 yX2_begin yX2_begin ∈ TW := tw_of (i := 100) (by decide +kernel) rfl
theorem mw_101 : Cond.code yX2_begin cX2_begin 2 none ∈ TW := tw_of (i := 101) (by decide +kernel) rfl
theorem mw_102 : Cond.methodLink RX8 156 yX8_letAsk ∈ TW := tw_of (i := 102) (by decide +kernel) rfl
theorem mw_104 : Cond.instanceMethod yX8_letAsk ∈ TW := tw_of (i := 104) (by decide +kernel) rfl
theorem mw_105 : Cond.code yX8_letAsk cX8_letAsk 3 (some .int) ∈ TW := tw_of (i := 105) (by decide +kernel) rfl
theorem mw_106 : Cond.methodLink RX8 187 yX4_has ∈ TW := tw_of (i := 106) (by decide +kernel) rfl
theorem mw_107 : Cond.instanceMethod yX4_has ∈ TW := tw_of (i := 107) (by decide +kernel) rfl
theorem mw_108 : Cond.selects RX4 yX4_has yX4_has ∈ TW := tw_of (i := 108) (by decide +kernel) rfl
theorem mw_109 : Cond.code yX4_has cX4_has 2 (some .boolean) ∈ TW := tw_of (i := 109) (by decide +kernel) rfl
theorem mw_110 : Cond.methodLink RX8 207 yX4_gatherVotes ∈ TW := tw_of (i := 110) (by decide +kernel) rfl
theorem mw_111 : Cond.instanceMethod yX4_gatherVotes ∈ TW := tw_of (i := 111) (by decide +kernel) rfl
theorem mw_112 : Cond.selects RX4 yX4_gatherVotes yX4_gatherVotes ∈ TW := tw_of (i := 112) (by decide +kernel) rfl
theorem mw_113 : Cond.code yX4_gatherVotes cX4_gatherVotes 6 (some .int) ∈ TW := tw_of (i := 113) (by decide +kernel) rfl
theorem mw_114 : Cond.methodLink RX4 73 yX4_beginAsking ∈ TW := tw_of (i := 114) (by decide +kernel) rfl
theorem mw_116 : Cond.instanceMethod yX4_beginAsking ∈ TW := tw_of (i := 116) (by decide +kernel) rfl
theorem mw_118 : Cond.code yX4_beginAsking cX4_beginAsking 3 none ∈ TW := tw_of (i := 118) (by decide +kernel) rfl
theorem mw_119 : Cond.methodLink RX4 70 yX4_canReach ∈ TW := tw_of (i := 119) (by decide +kernel) rfl
theorem mw_120 : Cond.instanceMethod yX4_canReach ∈ TW := tw_of (i := 120) (by decide +kernel) rfl
theorem mw_121 : Cond.selects RX4 yX4_canReach yX4_canReach ∈ TW := tw_of (i := 121) (by decide +kernel) rfl
theorem mw_122 : Cond.code yX4_canReach cX4_canReach 3 (some .boolean) ∈ TW := tw_of (i := 122) (by decide +kernel) rfl
theorem mw_123 : Cond.methodLink RX4 66 yX4_isRopeCut ∈ TW := tw_of (i := 123) (by decide +kernel) rfl
theorem mw_124 : Cond.instanceMethod yX4_isRopeCut ∈ TW := tw_of (i := 124) (by decide +kernel) rfl
theorem mw_125 : Cond.selects RX4 yX4_isRopeCut yX4_isRopeCut ∈ TW := tw_of (i := 125) (by decide +kernel) rfl
theorem mw_126 : Cond.code yX4_isRopeCut cX4_isRopeCut 3 (some .boolean) ∈ TW := tw_of (i := 126) (by decide +kernel) rfl
theorem mw_127 : Cond.methodLink RX4 80 yX2_takeOver ∈ TW := tw_of (i := 127) (by decide +kernel) rfl
theorem mw_128 : Cond.instanceMethod yX2_takeOver ∈ TW := tw_of (i := 128) (by decide +kernel) rfl
theorem mw_129 : Cond.selects RX2 yX2_takeOver yX2_takeOver ∈ TW := tw_of (i := 129) (by decide +kernel) rfl
theorem mw_130 : Cond.code yX2_takeOver cX2_takeOver 2 none ∈ TW := tw_of (i := 130) (by decide +kernel) rfl
theorem mw_131 : Cond.methodLink RX4 83 yX4_letVote ∈ TW := tw_of (i := 131) (by decide +kernel) rfl
theorem mw_133 : Cond.instanceMethod yX4_letVote ∈ TW := tw_of (i := 133) (by decide +kernel) rfl
theorem mw_134 : Cond.code yX4_letVote cX4_letVote 5 (some .int) ∈ TW := tw_of (i := 134) (by decide +kernel) rfl
theorem mw_135 : Cond.methodLink RX4 105 yX2_hasLongerTaleThan ∈ TW := tw_of (i := 135) (by decide +kernel) rfl
theorem mw_136 : Cond.instanceMethod yX2_hasLongerTaleThan ∈ TW := tw_of (i := 136) (by decide +kernel) rfl
theorem mw_137 : Cond.selects RX2 yX2_hasLongerTaleThan yX2_hasLongerTaleThan ∈ TW := tw_of (i := 137) (by decide +kernel) rfl
theorem mw_138 : Cond.code yX2_hasLongerTaleThan cX2_hasLongerTaleThan 4 (some .boolean) ∈ TW := tw_of (i := 138) (by decide +kernel) rfl
theorem mw_139 : Cond.methodLink RX4 87 yX4_isMajority ∈ TW := tw_of (i := 139) (by decide +kernel) rfl
theorem mw_140 : Cond.instanceMethod yX4_isMajority ∈ TW := tw_of (i := 140) (by decide +kernel) rfl
theorem mw_141 : Cond.selects RX4 yX4_isMajority yX4_isMajority ∈ TW := tw_of (i := 141) (by decide +kernel) rfl
theorem mw_142 : Cond.code yX4_isMajority cX4_isMajority 2 (some .boolean) ∈ TW := tw_of (i := 142) (by decide +kernel) rfl
theorem mw_143 : Cond.methodLink RX8 159 yX8_letSend ∈ TW := tw_of (i := 143) (by decide +kernel) rfl
theorem mw_145 : Cond.instanceMethod yX8_letSend ∈ TW := tw_of (i := 145) (by decide +kernel) rfl
theorem mw_146 : Cond.code yX8_letSend cX8_letSend 3 (some .int) ∈ TW := tw_of (i := 146) (by decide +kernel) rfl
theorem mw_147 : Cond.methodLink RX8 210 yX4_sendFrom ∈ TW := tw_of (i := 147) (by decide +kernel) rfl
theorem mw_148 : Cond.instanceMethod yX4_sendFrom ∈ TW := tw_of (i := 148) (by decide +kernel) rfl
theorem mw_149 : Cond.selects RX4 yX4_sendFrom yX4_sendFrom ∈ TW := tw_of (i := 149) (by decide +kernel) rfl
theorem mw_150 : Cond.code yX4_sendFrom cX4_sendFrom 6 (some .int) ∈ TW := tw_of (i := 150) (by decide +kernel) rfl
theorem mw_151 : Cond.methodLink RX4 112 yX2_followLeader ∈ TW := tw_of (i := 151) (by decide +kernel) rfl
theorem mw_152 : Cond.instanceMethod yX2_followLeader ∈ TW := tw_of (i := 152) (by decide +kernel) rfl
theorem mw_153 : Cond.selects RX2 yX2_followLeader yX2_followLeader ∈ TW := tw_of (i := 153) (by decide +kernel) rfl
theorem mw_154 : Cond.code yX2_followLeader cX2_followLeader 4 (some .int) ∈ TW := tw_of (i := 154) (by decide +kernel) rfl
theorem mw_155 : Cond.methodLink RX2 61 yX2_takeOver ∈ TW := tw_of (i := 155) (by decide +kernel) rfl
theorem mw_156 : Cond.methodLink RX2 65 yX2_countSameLines ∈ TW := tw_of (i := 156) (by decide +kernel) rfl
theorem mw_157 : Cond.instanceMethod yX2_countSameLines ∈ TW := tw_of (i := 157) (by decide +kernel) rfl
theorem mw_158 : Cond.selects RX2 yX2_countSameLines yX2_countSameLines ∈ TW := tw_of (i := 158) (by decide +kernel) rfl
theorem mw_159 : Cond.code yX2_countSameLines cX2_countSameLines 4 (some .int) ∈ TW := tw_of (i := 159) (by decide +kernel) rfl
theorem mw_160 : Cond.methodLink RX2 55 Lib.Math.min.name ∈ TW := tw_of (i := 160) (by decide +kernel) rfl
theorem mw_161 : Cond.static Lib.Math.min.name ∈ TW := tw_of (i := 161) (by decide +kernel) rfl
theorem mw_162 : Cond.code Lib.Math.min.name Lib.Math.min.code 2 (some .int) ∈ TW := tw_of (i := 162) (by decide +kernel) rfl
theorem mw_163 : Cond.methodLink RX2 69 Lib.Math.max.name ∈ TW := tw_of (i := 163) (by decide +kernel) rfl
theorem mw_164 : Cond.static Lib.Math.max.name ∈ TW := tw_of (i := 164) (by decide +kernel) rfl
theorem mw_165 : Cond.code Lib.Math.max.name Lib.Math.max.code 2 (some .int) ∈ TW := tw_of (i := 165) (by decide +kernel) rfl
theorem mw_166 : Cond.methodLink RX4 116 yX2_agreeOwnLines ∈ TW := tw_of (i := 166) (by decide +kernel) rfl
theorem mw_167 : Cond.instanceMethod yX2_agreeOwnLines ∈ TW := tw_of (i := 167) (by decide +kernel) rfl
theorem mw_168 : Cond.selects RX2 yX2_agreeOwnLines yX2_agreeOwnLines ∈ TW := tw_of (i := 168) (by decide +kernel) rfl
theorem mw_169 : Cond.code yX2_agreeOwnLines cX2_agreeOwnLines 2 none ∈ TW := tw_of (i := 169) (by decide +kernel) rfl
theorem mw_170 : Cond.methodLink RX8 162 yX8_letShout ∈ TW := tw_of (i := 170) (by decide +kernel) rfl
theorem mw_172 : Cond.instanceMethod yX8_letShout ∈ TW := tw_of (i := 172) (by decide +kernel) rfl
theorem mw_173 : Cond.code yX8_letShout cX8_letShout 4 (some .int) ∈ TW := tw_of (i := 173) (by decide +kernel) rfl
theorem mw_174 : Cond.methodLink RX8 219 yX2_write ∈ TW := tw_of (i := 174) (by decide +kernel) rfl
theorem mw_175 : Cond.instanceMethod yX2_write ∈ TW := tw_of (i := 175) (by decide +kernel) rfl
theorem mw_176 : Cond.selects RX2 yX2_write yX2_write ∈ TW := tw_of (i := 176) (by decide +kernel) rfl
theorem mw_177 : Cond.code yX2_write cX2_write 3 none ∈ TW := tw_of (i := 177) (by decide +kernel) rfl
theorem mw_178 : Cond.methodLink RX8 165 yX8_washAway ∈ TW := tw_of (i := 178) (by decide +kernel) rfl
theorem mw_180 : Cond.instanceMethod yX8_washAway ∈ TW := tw_of (i := 180) (by decide +kernel) rfl
theorem mw_181 : Cond.code yX8_washAway cX8_washAway 3 (some .int) ∈ TW := tw_of (i := 181) (by decide +kernel) rfl
theorem mw_182 : Cond.methodLink RX8 223 yX4_countAboard ∈ TW := tw_of (i := 182) (by decide +kernel) rfl
theorem mw_183 : Cond.instanceMethod yX4_countAboard ∈ TW := tw_of (i := 183) (by decide +kernel) rfl
theorem mw_184 : Cond.selects RX4 yX4_countAboard yX4_countAboard ∈ TW := tw_of (i := 184) (by decide +kernel) rfl
theorem mw_185 : Cond.code yX4_countAboard cX4_countAboard 3 (some .int) ∈ TW := tw_of (i := 185) (by decide +kernel) rfl
theorem mw_186 : Cond.methodLink RX8 168 yX8_bringBack ∈ TW := tw_of (i := 186) (by decide +kernel) rfl
theorem mw_188 : Cond.instanceMethod yX8_bringBack ∈ TW := tw_of (i := 188) (by decide +kernel) rfl
theorem mw_189 : Cond.code yX8_bringBack cX8_bringBack 3 (some .int) ∈ TW := tw_of (i := 189) (by decide +kernel) rfl
theorem mw_190 : Cond.methodLink RX8 171 yX8_changeRope ∈ TW := tw_of (i := 190) (by decide +kernel) rfl
theorem mw_192 : Cond.instanceMethod yX8_changeRope ∈ TW := tw_of (i := 192) (by decide +kernel) rfl
theorem mw_193 : Cond.code yX8_changeRope cX8_changeRope 4 (some .int) ∈ TW := tw_of (i := 193) (by decide +kernel) rfl
theorem mw_194 : Cond.methodLink RX8 229 yX4_isRopeCut ∈ TW := tw_of (i := 194) (by decide +kernel) rfl
theorem mw_195 : Cond.methodLink RX8 233 Lib.Math.max.name ∈ TW := tw_of (i := 195) (by decide +kernel) rfl
theorem mw_196 : Cond.methodLink RX8 238 yX4_setRope ∈ TW := tw_of (i := 196) (by decide +kernel) rfl
theorem mw_197 : Cond.instanceMethod yX4_setRope ∈ TW := tw_of (i := 197) (by decide +kernel) rfl
theorem mw_198 : Cond.selects RX4 yX4_setRope yX4_setRope ∈ TW := tw_of (i := 198) (by decide +kernel) rfl
theorem mw_199 : Cond.code yX4_setRope cX4_setRope 4 none ∈ TW := tw_of (i := 199) (by decide +kernel) rfl
theorem mw_200 : Cond.methodLink RX8 242 yX4_countCutRopes ∈ TW := tw_of (i := 200) (by decide +kernel) rfl
theorem mw_201 : Cond.instanceMethod yX4_countCutRopes ∈ TW := tw_of (i := 201) (by decide +kernel) rfl
theorem mw_202 : Cond.selects RX4 yX4_countCutRopes yX4_countCutRopes ∈ TW := tw_of (i := 202) (by decide +kernel) rfl
theorem mw_203 : Cond.code yX4_countCutRopes cX4_countCutRopes 3 (some .int) ∈ TW := tw_of (i := 203) (by decide +kernel) rfl
theorem mw_204 : Cond.methodLink RX8 175 yX4_passBeats ∈ TW := tw_of (i := 204) (by decide +kernel) rfl
theorem mw_205 : Cond.instanceMethod yX4_passBeats ∈ TW := tw_of (i := 205) (by decide +kernel) rfl
theorem mw_206 : Cond.selects RX4 yX4_passBeats yX4_passBeats ∈ TW := tw_of (i := 206) (by decide +kernel) rfl
theorem mw_207 : Cond.code yX4_passBeats cX4_passBeats 5 (some .int) ∈ TW := tw_of (i := 207) (by decide +kernel) rfl
theorem mw_208 : Cond.methodLink RX4 119 yX2_isLeading ∈ TW := tw_of (i := 208) (by decide +kernel) rfl
theorem mw_209 : Cond.instanceMethod yX2_isLeading ∈ TW := tw_of (i := 209) (by decide +kernel) rfl
theorem mw_210 : Cond.selects RX2 yX2_isLeading yX2_isLeading ∈ TW := tw_of (i := 210) (by decide +kernel) rfl
theorem mw_211 : Cond.code yX2_isLeading cX2_isLeading 1 (some .boolean) ∈ TW := tw_of (i := 211) (by decide +kernel) rfl
theorem mw_212 : Cond.methodLink RX4 123 yX4_sendFrom ∈ TW := tw_of (i := 212) (by decide +kernel) rfl
theorem mw_213 : Cond.methodLink RX4 127 yX2_waitBeat ∈ TW := tw_of (i := 213) (by decide +kernel) rfl
theorem mw_214 : Cond.instanceMethod yX2_waitBeat ∈ TW := tw_of (i := 214) (by decide +kernel) rfl
theorem mw_215 : Cond.selects RX2 yX2_waitBeat yX2_waitBeat ∈ TW := tw_of (i := 215) (by decide +kernel) rfl
theorem mw_216 : Cond.code yX2_waitBeat cX2_waitBeat 1 (some .boolean) ∈ TW := tw_of (i := 216) (by decide +kernel) rfl
theorem mw_217 : Cond.methodLink RX4 130 yX4_gatherVotes ∈ TW := tw_of (i := 217) (by decide +kernel) rfl
theorem mw_218 : Cond.methodLink RX8 140 yX3_remember ∈ TW := tw_of (i := 218) (by decide +kernel) rfl
theorem mw_219 : Cond.instanceMethod yX3_remember ∈ TW := tw_of (i := 219) (by decide +kernel) rfl
theorem mw_220 : Cond.selects RX3 yX3_remember yX3_remember ∈ TW := tw_of (i := 220) (by decide +kernel) rfl
theorem mw_221 : Cond.code yX3_remember cX3_remember 2 none ∈ TW := tw_of (i := 221) (by decide +kernel) rfl
theorem mw_222 : Cond.methodLink RX3 22 yX4_copyFrom ∈ TW := tw_of (i := 222) (by decide +kernel) rfl
theorem mw_223 : Cond.methodLink RX3 29 Lib.Math.min.name ∈ TW := tw_of (i := 223) (by decide +kernel) rfl
theorem mw_228 : Cond.fieldLink RX8 90 "LogRaft$Word" (wNm.getD 4 "") "LLogRaft$Word;" ∈ TW := tw_of (i := 228) (by decide +kernel) rfl
theorem mw_234 : Cond.fieldLink RX8 102 "LogRaft$Word" (wNm.getD 8 "") "LLogRaft$Word;" ∈ TW := tw_of (i := 234) (by decide +kernel) rfl
theorem mw_240 : Cond.methodLink RX8 273 yX4_countReached ∈ TW := tw_of (i := 240) (by decide +kernel) rfl
theorem mw_241 : Cond.instanceMethod yX4_countReached ∈ TW := tw_of (i := 241) (by decide +kernel) rfl
theorem mw_242 : Cond.selects RX4 yX4_countReached yX4_countReached ∈ TW := tw_of (i := 242) (by decide +kernel) rfl
theorem mw_243 : Cond.code yX4_countReached cX4_countReached 4 (some .int) ∈ TW := tw_of (i := 243) (by decide +kernel) rfl
theorem mw_248 : Cond.methodLink RX8 301 yX8_codeOfAsking ∈ TW := tw_of (i := 248) (by decide +kernel) rfl
theorem mw_250 : Cond.instanceMethod yX8_codeOfAsking ∈ TW := tw_of (i := 250) (by decide +kernel) rfl
theorem mw_251 : Cond.code yX8_codeOfAsking cX8_codeOfAsking 3 (some .int) ∈ TW := tw_of (i := 251) (by decide +kernel) rfl
theorem mw_252 : Cond.methodLink RX8 304 yX4_votesToGet ∈ TW := tw_of (i := 252) (by decide +kernel) rfl
theorem mw_253 : Cond.instanceMethod yX4_votesToGet ∈ TW := tw_of (i := 253) (by decide +kernel) rfl
theorem mw_254 : Cond.selects RX4 yX4_votesToGet yX4_votesToGet ∈ TW := tw_of (i := 254) (by decide +kernel) rfl
theorem mw_255 : Cond.code yX4_votesToGet cX4_votesToGet 5 (some .int) ∈ TW := tw_of (i := 255) (by decide +kernel) rfl
theorem mw_256 : Cond.methodLink RX4 109 yX4_wouldGrantVote ∈ TW := tw_of (i := 256) (by decide +kernel) rfl
theorem mw_257 : Cond.instanceMethod yX4_wouldGrantVote ∈ TW := tw_of (i := 257) (by decide +kernel) rfl
theorem mw_258 : Cond.selects RX4 yX4_wouldGrantVote yX4_wouldGrantVote ∈ TW := tw_of (i := 258) (by decide +kernel) rfl
theorem mw_259 : Cond.code yX4_wouldGrantVote cX4_wouldGrantVote 6 (some .boolean) ∈ TW := tw_of (i := 259) (by decide +kernel) rfl
theorem mw_268 : Cond.methodLink RX8 315 yX4_isConflict ∈ TW := tw_of (i := 268) (by decide +kernel) rfl
theorem mw_269 : Cond.instanceMethod yX4_isConflict ∈ TW := tw_of (i := 269) (by decide +kernel) rfl
theorem mw_270 : Cond.selects RX4 yX4_isConflict yX4_isConflict ∈ TW := tw_of (i := 270) (by decide +kernel) rfl
theorem mw_271 : Cond.code yX4_isConflict cX4_isConflict 4 (some .boolean) ∈ TW := tw_of (i := 271) (by decide +kernel) rfl
theorem mw_272 : Cond.methodLink RX4 133 Lib.Math.min.name ∈ TW := tw_of (i := 272) (by decide +kernel) rfl
theorem mw_273 : Cond.methodLink RX4 139 yX2_countSameLines ∈ TW := tw_of (i := 273) (by decide +kernel) rfl
theorem mw_286 : Cond.methodLink RX4 155 Lib.Math.max.name ∈ TW := tw_of (i := 286) (by decide +kernel) rfl
theorem mw_303 : Cond.methodLink RX8 380 yX3_takeBack ∈ TW := tw_of (i := 303) (by decide +kernel) rfl
theorem mw_304 : Cond.instanceMethod yX3_takeBack ∈ TW := tw_of (i := 304) (by decide +kernel) rfl
theorem mw_305 : Cond.selects RX3 yX3_takeBack yX3_takeBack ∈ TW := tw_of (i := 305) (by decide +kernel) rfl
theorem mw_306 : Cond.code yX3_takeBack cX3_takeBack 2 none ∈ TW := tw_of (i := 306) (by decide +kernel) rfl
theorem mw_315 : Cond.methodLink RX8 60 yX3_forget ∈ TW := tw_of (i := 315) (by decide +kernel) rfl
theorem mw_316 : Cond.instanceMethod yX3_forget ∈ TW := tw_of (i := 316) (by decide +kernel) rfl
theorem mw_317 : Cond.selects RX3 yX3_forget yX3_forget ∈ TW := tw_of (i := 317) (by decide +kernel) rfl
theorem mw_318 : Cond.code yX3_forget cX3_forget 1 none ∈ TW := tw_of (i := 318) (by decide +kernel) rfl
theorem mw_350 : Cond.fieldLink RX2 19 (TX2 0).1 (TX2 0).2.1 (TX2 0).2.2.1 ∈ TW := tw_of (i := 350) (by decide +kernel) rfl
theorem mw_351 : Cond.fieldLink RX4 90 (TX2 0).1 (TX2 0).2.1 (TX2 0).2.2.1 ∈ TW := tw_of (i := 351) (by decide +kernel) rfl
theorem mw_352 : Cond.fieldLink RX8 201 (TX2 0).1 (TX2 0).2.1 (TX2 0).2.2.1 ∈ TW := tw_of (i := 352) (by decide +kernel) rfl
theorem mw_353 : Cond.fieldLink RX2 23 (TX2 1).1 (TX2 1).2.1 (TX2 1).2.2.1 ∈ TW := tw_of (i := 353) (by decide +kernel) rfl
theorem mw_354 : Cond.fieldLink RX4 77 (TX2 1).1 (TX2 1).2.1 (TX2 1).2.2.1 ∈ TW := tw_of (i := 354) (by decide +kernel) rfl
theorem mw_355 : Cond.fieldLink RX8 204 (TX2 1).1 (TX2 1).2.1 (TX2 1).2.2.1 ∈ TW := tw_of (i := 355) (by decide +kernel) rfl
theorem mw_356 : Cond.fieldLink RX2 26 (TX2 2).1 (TX2 2).2.1 (TX2 2).2.2.1 ∈ TW := tw_of (i := 356) (by decide +kernel) rfl
theorem mw_357 : Cond.fieldLink RX8 264 (TX2 2).1 (TX2 2).2.1 (TX2 2).2.2.1 ∈ TW := tw_of (i := 357) (by decide +kernel) rfl
theorem mw_358 : Cond.fieldLink RX2 29 (TX2 3).1 (TX2 3).2.1 (TX2 3).2.2.1 ∈ TW := tw_of (i := 358) (by decide +kernel) rfl
theorem mw_359 : Cond.fieldLink RX4 99 (TX2 3).1 (TX2 3).2.1 (TX2 3).2.2.1 ∈ TW := tw_of (i := 359) (by decide +kernel) rfl
theorem mw_360 : Cond.fieldLink RX8 226 (TX2 3).1 (TX2 3).2.1 (TX2 3).2.2.1 ∈ TW := tw_of (i := 360) (by decide +kernel) rfl
theorem mw_361 : Cond.fieldLink RX2 32 (TX2 4).1 (TX2 4).2.1 (TX2 4).2.2.1 ∈ TW := tw_of (i := 361) (by decide +kernel) rfl
theorem mw_362 : Cond.fieldLink RX4 96 (TX2 4).1 (TX2 4).2.1 (TX2 4).2.2.1 ∈ TW := tw_of (i := 362) (by decide +kernel) rfl
theorem mw_363 : Cond.fieldLink RX8 267 (TX2 4).1 (TX2 4).2.1 (TX2 4).2.2.1 ∈ TW := tw_of (i := 363) (by decide +kernel) rfl
theorem mw_364 : Cond.fieldLink RX2 35 (TX2 5).1 (TX2 5).2.1 (TX2 5).2.2.1 ∈ TW := tw_of (i := 364) (by decide +kernel) rfl
theorem mw_365 : Cond.fieldLink RX4 55 (TX2 5).1 (TX2 5).2.1 (TX2 5).2.2.1 ∈ TW := tw_of (i := 365) (by decide +kernel) rfl
theorem mw_366 : Cond.fieldLink RX8 213 (TX2 5).1 (TX2 5).2.1 (TX2 5).2.2.1 ∈ TW := tw_of (i := 366) (by decide +kernel) rfl
theorem mw_367 : Cond.fieldLink RX2 38 (TX2 6).1 (TX2 6).2.1 (TX2 6).2.2.1 ∈ TW := tw_of (i := 367) (by decide +kernel) rfl
theorem mw_368 : Cond.fieldLink RX8 270 (TX2 6).1 (TX2 6).2.1 (TX2 6).2.2.1 ∈ TW := tw_of (i := 368) (by decide +kernel) rfl
theorem mw_369 : Cond.fieldLink RX2 41 (TX2 7).1 (TX2 7).2.1 (TX2 7).2.2.1 ∈ TW := tw_of (i := 369) (by decide +kernel) rfl
theorem mw_370 : Cond.fieldLink RX4 62 (TX2 7).1 (TX2 7).2.1 (TX2 7).2.2.1 ∈ TW := tw_of (i := 370) (by decide +kernel) rfl
theorem mw_371 : Cond.fieldLink RX8 195 (TX2 7).1 (TX2 7).2.1 (TX2 7).2.2.1 ∈ TW := tw_of (i := 371) (by decide +kernel) rfl
theorem mw_372 : Cond.fieldLink RX2 45 (TX2 8).1 (TX2 8).2.1 (TX2 8).2.2.1 ∈ TW := tw_of (i := 372) (by decide +kernel) rfl
theorem mw_373 : Cond.fieldLink RX4 102 (TX2 8).1 (TX2 8).2.1 (TX2 8).2.2.1 ∈ TW := tw_of (i := 373) (by decide +kernel) rfl
theorem mw_374 : Cond.fieldLink RX8 276 (TX2 8).1 (TX2 8).2.1 (TX2 8).2.2.1 ∈ TW := tw_of (i := 374) (by decide +kernel) rfl
theorem mw_375 : Cond.fieldLink RX2 48 (TX2 9).1 (TX2 9).2.1 (TX2 9).2.2.1 ∈ TW := tw_of (i := 375) (by decide +kernel) rfl
theorem mw_376 : Cond.fieldLink RX4 93 (TX2 9).1 (TX2 9).2.1 (TX2 9).2.2.1 ∈ TW := tw_of (i := 376) (by decide +kernel) rfl
theorem mw_377 : Cond.fieldLink RX8 279 (TX2 9).1 (TX2 9).2.1 (TX2 9).2.2.1 ∈ TW := tw_of (i := 377) (by decide +kernel) rfl
theorem mw_378 : Cond.fieldLink RX2 9 (TX2 10).1 (TX2 10).2.1 (TX2 10).2.2.1 ∈ TW := tw_of (i := 378) (by decide +kernel) rfl
theorem mw_379 : Cond.fieldLink RX8 289 (TX2 10).1 (TX2 10).2.1 (TX2 10).2.2.1 ∈ TW := tw_of (i := 379) (by decide +kernel) rfl
theorem mw_380 : Cond.fieldLink RX2 15 (TX2 11).1 (TX2 11).2.1 (TX2 11).2.2.1 ∈ TW := tw_of (i := 380) (by decide +kernel) rfl
theorem mw_381 : Cond.fieldLink RX8 285 (TX2 11).1 (TX2 11).2.1 (TX2 11).2.2.1 ∈ TW := tw_of (i := 381) (by decide +kernel) rfl
theorem mw_410 : Cond.fieldLink RX4 11 (TX4 0).1 (TX4 0).2.1 (TX4 0).2.2.1 ∈ TW := tw_of (i := 410) (by decide +kernel) rfl
theorem mw_411 : Cond.fieldLink RX8 191 (TX4 0).1 (TX4 0).2.1 (TX4 0).2.2.1 ∈ TW := tw_of (i := 411) (by decide +kernel) rfl
theorem mw_412 : Cond.fieldLink RX4 17 (TX4 1).1 (TX4 1).2.1 (TX4 1).2.2.1 ∈ TW := tw_of (i := 412) (by decide +kernel) rfl
theorem mw_413 : Cond.fieldLink RX4 22 (TX4 2).1 (TX4 2).2.1 (TX4 2).2.2.1 ∈ TW := tw_of (i := 413) (by decide +kernel) rfl
theorem mw_414 : Cond.fieldLink RX8 54 (TX4 2).1 (TX4 2).2.1 (TX4 2).2.2.1 ∈ TW := tw_of (i := 414) (by decide +kernel) rfl
theorem mw_415 : Cond.fieldLink RX4 26 (TX4 3).1 (TX4 3).2.1 (TX4 3).2.2.1 ∈ TW := tw_of (i := 415) (by decide +kernel) rfl
theorem mw_416 : Cond.fieldLink RX8 361 (TX4 3).1 (TX4 3).2.1 (TX4 3).2.2.1 ∈ TW := tw_of (i := 416) (by decide +kernel) rfl
theorem mw_417 : Cond.fieldLink RX4 29 (TX4 4).1 (TX4 4).2.1 (TX4 4).2.2.1 ∈ TW := tw_of (i := 417) (by decide +kernel) rfl
theorem mw_418 : Cond.fieldLink RX8 178 (TX4 4).1 (TX4 4).2.1 (TX4 4).2.2.1 ∈ TW := tw_of (i := 418) (by decide +kernel) rfl
theorem mw_419 : Cond.fieldLink RX4 32 (TX4 5).1 (TX4 5).2.1 (TX4 5).2.2.1 ∈ TW := tw_of (i := 419) (by decide +kernel) rfl
theorem mw_421 : Cond.fieldLink RX4 35 (TX4 6).1 (TX4 6).2.1 (TX4 6).2.2.1 ∈ TW := tw_of (i := 421) (by decide +kernel) rfl
theorem mw_422 : Cond.fieldLink RX8 216 (TX4 6).1 (TX4 6).2.1 (TX4 6).2.2.1 ∈ TW := tw_of (i := 422) (by decide +kernel) rfl
theorem mw_423 : Cond.fieldLink RX4 38 (TX4 7).1 (TX4 7).2.1 (TX4 7).2.2.1 ∈ TW := tw_of (i := 423) (by decide +kernel) rfl
theorem mw_425 : Cond.fieldLink RX4 41 (TX4 8).1 (TX4 8).2.1 (TX4 8).2.2.1 ∈ TW := tw_of (i := 425) (by decide +kernel) rfl
theorem mw_427 : Cond.fieldLink RX4 44 (TX4 9).1 (TX4 9).2.1 (TX4 9).2.2.1 ∈ TW := tw_of (i := 427) (by decide +kernel) rfl
theorem mw_459 : Cond.fieldLink RX3 11 (TX3 0).1 (TX3 0).2.1 (TX3 0).2.2.1 ∈ TW := tw_of (i := 459) (by decide +kernel) rfl
theorem mw_460 : Cond.fieldLink RX3 18 (TX3 1).1 (TX3 1).2.1 (TX3 1).2.2.1 ∈ TW := tw_of (i := 460) (by decide +kernel) rfl
theorem mw_461 : Cond.fieldLink RX3 26 (TX3 2).1 (TX3 2).2.1 (TX3 2).2.2.1 ∈ TW := tw_of (i := 461) (by decide +kernel) rfl
theorem mw_462 : Cond.fieldLink RX8 379 (TX3 2).1 (TX3 2).2.1 (TX3 2).2.2.1 ∈ TW := tw_of (i := 462) (by decide +kernel) rfl
theorem mw_476 : Cond.fieldLink RX5 7 (TX5 0).1 (TX5 0).2.1 (TX5 0).2.2.1 ∈ TW := tw_of (i := 476) (by decide +kernel) rfl
theorem mw_477 : Cond.fieldLink RX5 13 (TX5 1).1 (TX5 1).2.1 (TX5 1).2.2.1 ∈ TW := tw_of (i := 477) (by decide +kernel) rfl
theorem mw_478 : Cond.fieldLink RX5 16 (TX5 2).1 (TX5 2).2.1 (TX5 2).2.2.1 ∈ TW := tw_of (i := 478) (by decide +kernel) rfl
theorem mw_479 : Cond.fieldLink RX5 19 (TX5 3).1 (TX5 3).2.1 (TX5 3).2.2.1 ∈ TW := tw_of (i := 479) (by decide +kernel) rfl
theorem mw_565 : Cond.fieldLink RX8 12 (TX8 0).1 (TX8 0).2.1 (TX8 0).2.2.1 ∈ TW := tw_of (i := 565) (by decide +kernel) rfl
theorem mw_566 : Cond.fieldLink RX8 16 (TX8 1).1 (TX8 1).2.1 (TX8 1).2.2.1 ∈ TW := tw_of (i := 566) (by decide +kernel) rfl
theorem mw_567 : Cond.fieldLink RX8 19 (TX8 2).1 (TX8 2).2.1 (TX8 2).2.2.1 ∈ TW := tw_of (i := 567) (by decide +kernel) rfl
theorem mw_568 : Cond.fieldLink RX8 25 (TX8 3).1 (TX8 3).2.1 (TX8 3).2.2.1 ∈ TW := tw_of (i := 568) (by decide +kernel) rfl
theorem mw_569 : Cond.fieldLink RX8 32 (TX8 4).1 (TX8 4).2.1 (TX8 4).2.2.1 ∈ TW := tw_of (i := 569) (by decide +kernel) rfl
theorem mw_572 : Cond.fieldLink RX8 383 (TX8 7).1 (TX8 7).2.1 (TX8 7).2.2.1 ∈ TW := tw_of (i := 572) (by decide +kernel) rfl
theorem mw_597 : Cond.fieldLink RX8 71 "LogRaft$Word" (wNm.getD 0 "") "LLogRaft$Word;" ∈ TW := tw_of (i := 597) (by decide +kernel) rfl
theorem mw_606 : Cond.methodLink RX8 292 yX2_isLeading ∈ TW := tw_of (i := 606) (by decide +kernel) rfl
theorem mw_611 : Cond.fieldLink RX8 84 "LogRaft$Word" (wNm.getD 2 "") "LLogRaft$Word;" ∈ TW := tw_of (i := 611) (by decide +kernel) rfl
theorem mw_617 : Cond.fieldLink RX8 87 "LogRaft$Word" (wNm.getD 3 "") "LLogRaft$Word;" ∈ TW := tw_of (i := 617) (by decide +kernel) rfl
theorem mw_623 : Cond.fieldLink RX8 93 "LogRaft$Word" (wNm.getD 5 "") "LLogRaft$Word;" ∈ TW := tw_of (i := 623) (by decide +kernel) rfl
theorem mw_629 : Cond.fieldLink RX8 96 "LogRaft$Word" (wNm.getD 6 "") "LLogRaft$Word;" ∈ TW := tw_of (i := 629) (by decide +kernel) rfl
theorem mw_635 : Cond.fieldLink RX8 99 "LogRaft$Word" (wNm.getD 7 "") "LLogRaft$Word;" ∈ TW := tw_of (i := 635) (by decide +kernel) rfl
theorem mw_699 : Cond.fieldLink RJ0 1053 "jdk/internal/util/Preconditions" "SIOOBE_FORMATTER" "Ljava/util/function/BiFunction;" ∈ TW := tw_of (i := 699) (by decide +kernel) rfl
theorem mw_717 : Cond.methodLink RJ0 335 yJ0_coder_7d493 ∈ TW := tw_of (i := 717) (by decide +kernel) rfl
theorem mw_718 : Cond.instanceMethod yJ0_coder_7d493 ∈ TW := tw_of (i := 718) (by decide +kernel) rfl
theorem mw_719 : Cond.selects RJ0 yJ0_coder_7d493 yJ0_coder_7d493 ∈ TW := tw_of (i := 719) (by decide +kernel) rfl
theorem mw_720 : Cond.code yJ0_coder_7d493 cJ0_coder_7d493 1 (some .byte) ∈ TW := tw_of (i := 720) (by decide +kernel) rfl
theorem mw_721 : Cond.fieldLink RJ0 38 "java/lang/String" "COMPACT_STRINGS" "Z" ∈ TW := tw_of (i := 721) (by decide +kernel) rfl
theorem mw_825 : Cond.fieldLink RJ0 9 "java/lang/String" "value" "[B" ∈ TW := tw_of (i := 825) (by decide +kernel) rfl
theorem mw_826 : Cond.fieldLink RJ0 15 "java/lang/String" "coder" "B" ∈ TW := tw_of (i := 826) (by decide +kernel) rfl
theorem mw_846 : Cond.methodLink RJ0 492 yJ0_isLatin1_aae02 ∈ TW := tw_of (i := 846) (by decide +kernel) rfl
theorem mw_847 : Cond.instanceMethod yJ0_isLatin1_aae02 ∈ TW := tw_of (i := 847) (by decide +kernel) rfl
theorem mw_848 : Cond.selects RJ0 yJ0_isLatin1_aae02 yJ0_isLatin1_aae02 ∈ TW := tw_of (i := 848) (by decide +kernel) rfl
theorem mw_849 : Cond.code yJ0_isLatin1_aae02 cJ0_isLatin1_aae02 1 (some .boolean) ∈ TW := tw_of (i := 849) (by decide +kernel) rfl
theorem mw_850 : Cond.methodLink RJ0 495 yJ1_charAt_3b067 ∈ TW := tw_of (i := 850) (by decide +kernel) rfl
theorem mw_851 : Cond.static yJ1_charAt_3b067 ∈ TW := tw_of (i := 851) (by decide +kernel) rfl
theorem mw_852 : Cond.code yJ1_charAt_3b067 cJ1_charAt_3b067 2 (some .char) ∈ TW := tw_of (i := 852) (by decide +kernel) rfl
theorem mw_853 : Cond.methodLink RJ1 9 yJ0_checkIndex_df160 ∈ TW := tw_of (i := 853) (by decide +kernel) rfl
theorem mw_854 : Cond.static yJ0_checkIndex_df160 ∈ TW := tw_of (i := 854) (by decide +kernel) rfl
theorem mw_855 : Cond.code yJ0_checkIndex_df160 cJ0_checkIndex_df160 2 none ∈ TW := tw_of (i := 855) (by decide +kernel) rfl
theorem mw_856 : Cond.methodLink RJ0 1059 yJ3_checkIndex_8e157 ∈ TW := tw_of (i := 856) (by decide +kernel) rfl
theorem mw_857 : Cond.static yJ3_checkIndex_8e157 ∈ TW := tw_of (i := 857) (by decide +kernel) rfl
theorem mw_858 : Cond.code yJ3_checkIndex_8e157 cJ3_checkIndex_8e157 3 (some .int) ∈ TW := tw_of (i := 858) (by decide +kernel) rfl
theorem mw_984 : Cond.methodLink RX8 249 yX5_putAhead ∈ TW := tw_of (i := 984) (by decide +kernel) rfl
theorem mw_985 : Cond.instanceMethod yX5_putAhead ∈ TW := tw_of (i := 985) (by decide +kernel) rfl
theorem mw_986 : Cond.selects RX5 yX5_putAhead yX5_putAhead ∈ TW := tw_of (i := 986) (by decide +kernel) rfl
theorem mw_987 : Cond.code yX5_putAhead cX5_putAhead 3 none ∈ TW := tw_of (i := 987) (by decide +kernel) rfl
theorem mw_995 : Cond.methodLink RX8 282 yX4_hasLine ∈ TW := tw_of (i := 995) (by decide +kernel) rfl
theorem mw_996 : Cond.instanceMethod yX4_hasLine ∈ TW := tw_of (i := 996) (by decide +kernel) rfl
theorem mw_997 : Cond.selects RX4 yX4_hasLine yX4_hasLine ∈ TW := tw_of (i := 997) (by decide +kernel) rfl
theorem mw_998 : Cond.code yX4_hasLine cX4_hasLine 3 (some .boolean) ∈ TW := tw_of (i := 998) (by decide +kernel) rfl
theorem mw_999 : Cond.methodLink RX4 51 yX4_has ∈ TW := tw_of (i := 999) (by decide +kernel) rfl
theorem mw_1011 : Cond.methodLink RX8 295 yX4_canReach ∈ TW := tw_of (i := 1011) (by decide +kernel) rfl
theorem mw_1016 : Cond.methodLink RX8 307 yX2_hasLongerTaleThan ∈ TW := tw_of (i := 1016) (by decide +kernel) rfl
theorem mw_1021 : Cond.methodLink RX8 311 yX2_countSameLines ∈ TW := tw_of (i := 1021) (by decide +kernel) rfl
theorem mw_1034 : Cond.methodLink RX8 318 Lib.Math.min.name ∈ TW := tw_of (i := 1034) (by decide +kernel) rfl
theorem mw_1048 : Cond.fieldLink RJx29ce0 7 "java/lang/Enum" "ordinal" "I" ∈ TW := tw_of (i := 1048) (by decide +kernel) rfl
theorem uin_X2 : ∀ w ∈ u_ws RX2 TX2 12, w ∈ TW := by decide +kernel
theorem uin_X3 : ∀ w ∈ u_ws RX3 TX3 3, w ∈ TW := by decide +kernel
theorem uin_X4 : ∀ w ∈ u_ws RX4 TX4 10, w ∈ TW := by decide +kernel
theorem uin_X5 : ∀ w ∈ u_ws RX5 TX5 4, w ∈ TW := by decide +kernel
theorem uin_X8 : ∀ w ∈ u_ws RX8 TX8 9, w ∈ TW := by decide +kernel
theorem fl_X2_35 : FL RX2 35 2 5 false .int := ⟨RX2, TX2, 12, tyX2, rfl, by decide, mw_364, uin_X2, tyX2_ok, nmX2, rfl, by decide +kernel⟩
theorem fl_X2_9 : FL RX2 9 2 10 true (.array .int) := ⟨RX2, TX2, 12, tyX2, rfl, by decide, mw_378, uin_X2, tyX2_ok, nmX2, rfl, by decide +kernel⟩
theorem fl_X2_15 : FL RX2 15 2 11 true (.array .char) := ⟨RX2, TX2, 12, tyX2, rfl, by decide, mw_380, uin_X2, tyX2_ok, nmX2, rfl, by decide +kernel⟩
theorem fl_X2_19 : FL RX2 19 2 0 false .int := ⟨RX2, TX2, 12, tyX2, rfl, by decide, mw_350, uin_X2, tyX2_ok, nmX2, rfl, by decide +kernel⟩
theorem fl_X2_23 : FL RX2 23 2 1 false .int := ⟨RX2, TX2, 12, tyX2, rfl, by decide, mw_353, uin_X2, tyX2_ok, nmX2, rfl, by decide +kernel⟩
theorem fl_X2_26 : FL RX2 26 2 2 false .int := ⟨RX2, TX2, 12, tyX2, rfl, by decide, mw_356, uin_X2, tyX2_ok, nmX2, rfl, by decide +kernel⟩
theorem fl_X2_29 : FL RX2 29 2 3 false .int := ⟨RX2, TX2, 12, tyX2, rfl, by decide, mw_358, uin_X2, tyX2_ok, nmX2, rfl, by decide +kernel⟩
theorem fl_X2_32 : FL RX2 32 2 4 false .int := ⟨RX2, TX2, 12, tyX2, rfl, by decide, mw_361, uin_X2, tyX2_ok, nmX2, rfl, by decide +kernel⟩
theorem fl_X2_38 : FL RX2 38 2 6 false .int := ⟨RX2, TX2, 12, tyX2, rfl, by decide, mw_367, uin_X2, tyX2_ok, nmX2, rfl, by decide +kernel⟩
theorem fl_X2_41 : FL RX2 41 2 7 false .boolean := ⟨RX2, TX2, 12, tyX2, rfl, by decide, mw_369, uin_X2, tyX2_ok, nmX2, rfl, by decide +kernel⟩
theorem fl_X2_45 : FL RX2 45 2 8 false .int := ⟨RX2, TX2, 12, tyX2, rfl, by decide, mw_372, uin_X2, tyX2_ok, nmX2, rfl, by decide +kernel⟩
theorem fl_X2_48 : FL RX2 48 2 9 false .int := ⟨RX2, TX2, 12, tyX2, rfl, by decide, mw_375, uin_X2, tyX2_ok, nmX2, rfl, by decide +kernel⟩
theorem fl_X4_22 : FL RX4 22 4 2 false .int := ⟨RX4, TX4, 10, tyX4, rfl, by decide, mw_413, uin_X4, tyX4_ok, nmX4, rfl, by decide +kernel⟩
theorem fl_X4_11 : FL RX4 11 4 0 true (.array (.object "LogRaft$Driver")) := ⟨RX4, TX4, 10, tyX4, rfl, by decide, mw_410, uin_X4, tyX4_ok, nmX4, rfl, by decide +kernel⟩
theorem fl_X4_77 : FL RX4 77 2 1 false .int := ⟨RX2, TX2, 12, tyX2, rfl, by decide, mw_354, uin_X2, tyX2_ok, nmX2, rfl, by decide +kernel⟩
theorem fl_X4_90 : FL RX4 90 2 0 false .int := ⟨RX2, TX2, 12, tyX2, rfl, by decide, mw_351, uin_X2, tyX2_ok, nmX2, rfl, by decide +kernel⟩
theorem fl_X4_96 : FL RX4 96 2 4 false .int := ⟨RX2, TX2, 12, tyX2, rfl, by decide, mw_362, uin_X2, tyX2_ok, nmX2, rfl, by decide +kernel⟩
theorem fl_X4_99 : FL RX4 99 2 3 false .int := ⟨RX2, TX2, 12, tyX2, rfl, by decide, mw_359, uin_X2, tyX2_ok, nmX2, rfl, by decide +kernel⟩
theorem fl_X4_102 : FL RX4 102 2 8 false .int := ⟨RX2, TX2, 12, tyX2, rfl, by decide, mw_373, uin_X2, tyX2_ok, nmX2, rfl, by decide +kernel⟩
theorem fl_X4_29 : FL RX4 29 4 4 false .int := ⟨RX4, TX4, 10, tyX4, rfl, by decide, mw_417, uin_X4, tyX4_ok, nmX4, rfl, by decide +kernel⟩
theorem fl_X4_44 : FL RX4 44 4 9 false .int := ⟨RX4, TX4, 10, tyX4, rfl, by decide, mw_427, uin_X4, tyX4_ok, nmX4, rfl, by decide +kernel⟩
theorem fl_X4_17 : FL RX4 17 4 1 true (.array .boolean) := ⟨RX4, TX4, 10, tyX4, rfl, by decide, mw_412, uin_X4, tyX4_ok, nmX4, rfl, by decide +kernel⟩
theorem fl_X4_62 : FL RX4 62 2 7 false .boolean := ⟨RX2, TX2, 12, tyX2, rfl, by decide, mw_370, uin_X2, tyX2_ok, nmX2, rfl, by decide +kernel⟩
theorem fl_X4_55 : FL RX4 55 2 5 false .int := ⟨RX2, TX2, 12, tyX2, rfl, by decide, mw_365, uin_X2, tyX2_ok, nmX2, rfl, by decide +kernel⟩
theorem fl_X3_26 : FL RX3 26 3 2 false .int := ⟨RX3, TX3, 3, tyX3, rfl, by decide, mw_461, uin_X3, tyX3_ok, nmX3, rfl, by decide +kernel⟩
theorem fl_X5_7 : FL RX5 7 5 0 false .int := ⟨RX5, TX5, 4, tyX5, rfl, by decide, mw_476, uin_X5, tyX5_ok, nmX5, rfl, by decide +kernel⟩
theorem fl_X5_13 : FL RX5 13 5 1 false .int := ⟨RX5, TX5, 4, tyX5, rfl, by decide, mw_477, uin_X5, tyX5_ok, nmX5, rfl, by decide +kernel⟩
theorem fl_X5_16 : FL RX5 16 5 2 false .int := ⟨RX5, TX5, 4, tyX5, rfl, by decide, mw_478, uin_X5, tyX5_ok, nmX5, rfl, by decide +kernel⟩
theorem fl_X5_19 : FL RX5 19 5 3 false .int := ⟨RX5, TX5, 4, tyX5, rfl, by decide, mw_479, uin_X5, tyX5_ok, nmX5, rfl, by decide +kernel⟩
theorem fl_X8_32 : FL RX8 32 7 4 true (.object "LogRaft$Reasons") := ⟨RX8, TX8, 9, tyX8, rfl, by decide, mw_569, uin_X8, tyX8_ok, nmX8, rfl, by decide +kernel⟩
theorem fl_X8_12 : FL RX8 12 7 0 true (.object "LogRaft$Raft") := ⟨RX8, TX8, 9, tyX8, rfl, by decide, mw_565, uin_X8, tyX8_ok, nmX8, rfl, by decide +kernel⟩
theorem fl_X8_191 : FL RX8 191 4 0 true (.array (.object "LogRaft$Driver")) := ⟨RX4, TX4, 10, tyX4, rfl, by decide, mw_411, uin_X4, tyX4_ok, nmX4, rfl, by decide +kernel⟩
theorem fl_X8_195 : FL RX8 195 2 7 false .boolean := ⟨RX2, TX2, 12, tyX2, rfl, by decide, mw_371, uin_X2, tyX2_ok, nmX2, rfl, by decide +kernel⟩
theorem fl_X8_201 : FL RX8 201 2 0 false .int := ⟨RX2, TX2, 12, tyX2, rfl, by decide, mw_352, uin_X2, tyX2_ok, nmX2, rfl, by decide +kernel⟩
theorem fl_X8_213 : FL RX8 213 2 5 false .int := ⟨RX2, TX2, 12, tyX2, rfl, by decide, mw_366, uin_X2, tyX2_ok, nmX2, rfl, by decide +kernel⟩
theorem fl_X8_216 : FL RX8 216 4 6 false .int := ⟨RX4, TX4, 10, tyX4, rfl, by decide, mw_422, uin_X4, tyX4_ok, nmX4, rfl, by decide +kernel⟩
theorem fl_X8_204 : FL RX8 204 2 1 false .int := ⟨RX2, TX2, 12, tyX2, rfl, by decide, mw_355, uin_X2, tyX2_ok, nmX2, rfl, by decide +kernel⟩
theorem fl_X8_226 : FL RX8 226 2 3 false .int := ⟨RX2, TX2, 12, tyX2, rfl, by decide, mw_360, uin_X2, tyX2_ok, nmX2, rfl, by decide +kernel⟩
theorem fl_X8_54 : FL RX8 54 4 2 false .int := ⟨RX4, TX4, 10, tyX4, rfl, by decide, mw_414, uin_X4, tyX4_ok, nmX4, rfl, by decide +kernel⟩
theorem fl_X8_289 : FL RX8 289 2 10 true (.array .int) := ⟨RX2, TX2, 12, tyX2, rfl, by decide, mw_379, uin_X2, tyX2_ok, nmX2, rfl, by decide +kernel⟩
theorem fl_X8_285 : FL RX8 285 2 11 true (.array .char) := ⟨RX2, TX2, 12, tyX2, rfl, by decide, mw_381, uin_X2, tyX2_ok, nmX2, rfl, by decide +kernel⟩
theorem fl_X8_270 : FL RX8 270 2 6 false .int := ⟨RX2, TX2, 12, tyX2, rfl, by decide, mw_368, uin_X2, tyX2_ok, nmX2, rfl, by decide +kernel⟩
theorem fl_X4_26 : FL RX4 26 4 3 false .int := ⟨RX4, TX4, 10, tyX4, rfl, by decide, mw_415, uin_X4, tyX4_ok, nmX4, rfl, by decide +kernel⟩
theorem fl_X4_32 : FL RX4 32 4 5 false .int := ⟨RX4, TX4, 10, tyX4, rfl, by decide, mw_419, uin_X4, tyX4_ok, nmX4, rfl, by decide +kernel⟩
theorem fl_X4_35 : FL RX4 35 4 6 false .int := ⟨RX4, TX4, 10, tyX4, rfl, by decide, mw_421, uin_X4, tyX4_ok, nmX4, rfl, by decide +kernel⟩
theorem fl_X4_38 : FL RX4 38 4 7 false .int := ⟨RX4, TX4, 10, tyX4, rfl, by decide, mw_423, uin_X4, tyX4_ok, nmX4, rfl, by decide +kernel⟩
theorem fl_X4_41 : FL RX4 41 4 8 false .int := ⟨RX4, TX4, 10, tyX4, rfl, by decide, mw_425, uin_X4, tyX4_ok, nmX4, rfl, by decide +kernel⟩
theorem fl_X3_11 : FL RX3 11 3 0 true (.array (.object "LogRaft$Raft")) := ⟨RX3, TX3, 3, tyX3, rfl, by decide, mw_459, uin_X3, tyX3_ok, nmX3, rfl, by decide +kernel⟩
theorem fl_X3_18 : FL RX3 18 3 1 false .int := ⟨RX3, TX3, 3, tyX3, rfl, by decide, mw_460, uin_X3, tyX3_ok, nmX3, rfl, by decide +kernel⟩
theorem fl_X8_178 : FL RX8 178 4 4 false .int := ⟨RX4, TX4, 10, tyX4, rfl, by decide, mw_418, uin_X4, tyX4_ok, nmX4, rfl, by decide +kernel⟩
theorem fl_X8_264 : FL RX8 264 2 2 false .int := ⟨RX2, TX2, 12, tyX2, rfl, by decide, mw_357, uin_X2, tyX2_ok, nmX2, rfl, by decide +kernel⟩
theorem fl_X8_267 : FL RX8 267 2 4 false .int := ⟨RX2, TX2, 12, tyX2, rfl, by decide, mw_363, uin_X2, tyX2_ok, nmX2, rfl, by decide +kernel⟩
theorem fl_X8_276 : FL RX8 276 2 8 false .int := ⟨RX2, TX2, 12, tyX2, rfl, by decide, mw_374, uin_X2, tyX2_ok, nmX2, rfl, by decide +kernel⟩
theorem fl_X8_279 : FL RX8 279 2 9 false .int := ⟨RX2, TX2, 12, tyX2, rfl, by decide, mw_377, uin_X2, tyX2_ok, nmX2, rfl, by decide +kernel⟩
theorem fl_X8_25 : FL RX8 25 7 3 true (.object "LogRaft$Past") := ⟨RX8, TX8, 9, tyX8, rfl, by decide, mw_568, uin_X8, tyX8_ok, nmX8, rfl, by decide +kernel⟩
theorem fl_X8_379 : FL RX8 379 3 2 false .int := ⟨RX3, TX3, 3, tyX3, rfl, by decide, mw_462, uin_X3, tyX3_ok, nmX3, rfl, by decide +kernel⟩
theorem fl_X8_19 : FL RX8 19 7 2 true (.object "LogRaft$Raft") := ⟨RX8, TX8, 9, tyX8, rfl, by decide, mw_567, uin_X8, tyX8_ok, nmX8, rfl, by decide +kernel⟩
theorem fl_X8_383 : FL RX8 383 7 7 false .boolean := ⟨RX8, TX8, 9, tyX8, rfl, by decide, mw_572, uin_X8, tyX8_ok, nmX8, rfl, by decide +kernel⟩
theorem fl_X8_361 : FL RX8 361 4 3 false .int := ⟨RX4, TX4, 10, tyX4, rfl, by decide, mw_416, uin_X4, tyX4_ok, nmX4, rfl, by decide +kernel⟩
theorem fl_X4_93 : FL RX4 93 2 9 false .int := ⟨RX2, TX2, 12, tyX2, rfl, by decide, mw_376, uin_X2, tyX2_ok, nmX2, rfl, by decide +kernel⟩
theorem fl_X8_16 : FL RX8 16 7 1 true (.object "LogRaft$Raft") := ⟨RX8, TX8, 9, tyX8, rfl, by decide, mw_566, uin_X8, tyX8_ok, nmX8, rfl, by decide +kernel⟩
theorem mv_J0_335 : MV RJ0 335 yJ0_coder_7d493 cJ0_coder_7d493 1 (some .byte) 0 := ⟨gi_cons mw_717 (gi_cons mw_718 (gi_cons mw_719 (gi_cons mw_34 (gi_cons mw_720 tw_good)))), by decide +kernel⟩
theorem mv_J0_1059 : MS RJ0 1059 yJ3_checkIndex_8e157 cJ3_checkIndex_8e157 3 (some .int) 3 := ⟨gi_cons mw_856 (gi_cons mw_857 (gi_cons mw_44 (gi_cons mw_858 tw_good))), by decide +kernel⟩
theorem mv_J1_9 : MS RJ1 9 yJ0_checkIndex_df160 cJ0_checkIndex_df160 2 none 2 := ⟨gi_cons mw_853 (gi_cons mw_854 (gi_cons mw_34 (gi_cons mw_855 tw_good))), by decide +kernel⟩
theorem mv_J0_492 : MV RJ0 492 yJ0_isLatin1_aae02 cJ0_isLatin1_aae02 1 (some .boolean) 0 := ⟨gi_cons mw_846 (gi_cons mw_847 (gi_cons mw_848 (gi_cons mw_34 (gi_cons mw_849 tw_good)))), by decide +kernel⟩
theorem mv_J0_495 : MS RJ0 495 yJ1_charAt_3b067 cJ1_charAt_3b067 2 (some .char) 2 := ⟨gi_cons mw_850 (gi_cons mw_851 (gi_cons mw_45 (gi_cons mw_852 tw_good))), by decide +kernel⟩
theorem mv_X4_58 : MV RX4 58 yX2_begin cX2_begin 2 none 1 := ⟨gi_cons mw_98 (gi_cons mw_99 (gi_cons mw_100 (gi_cons mw_28 (gi_cons mw_101 tw_good)))), by decide +kernel⟩
theorem mv_X4_105 : MV RX4 105 yX2_hasLongerTaleThan cX2_hasLongerTaleThan 4 (some .boolean) 1 := ⟨gi_cons mw_135 (gi_cons mw_136 (gi_cons mw_137 (gi_cons mw_28 (gi_cons mw_138 tw_good)))), by decide +kernel⟩
theorem mv_X4_80 : MV RX4 80 yX2_takeOver cX2_takeOver 2 none 1 := ⟨gi_cons mw_127 (gi_cons mw_128 (gi_cons mw_129 (gi_cons mw_28 (gi_cons mw_130 tw_good)))), by decide +kernel⟩
theorem mv_X4_139 : MV RX4 139 yX2_countSameLines cX2_countSameLines 4 (some .int) 1 := ⟨gi_cons mw_273 (gi_cons mw_157 (gi_cons mw_158 (gi_cons mw_28 (gi_cons mw_159 tw_good)))), by decide +kernel⟩
theorem mv_X4_51 : MV RX4 51 yX4_has cX4_has 2 (some .boolean) 1 := ⟨gi_cons mw_999 (gi_cons mw_107 (gi_cons mw_108 (gi_cons mw_27 (gi_cons mw_109 tw_good)))), by decide +kernel⟩
theorem mv_X8_245 : MV RX8 245 yX5_put cX5_put 3 none 2 := ⟨gi_cons mw_90 (gi_cons mw_91 (gi_cons mw_92 (gi_cons mw_30 (gi_cons mw_93 tw_good)))), by decide +kernel⟩
theorem mv_X8_187 : MV RX8 187 yX4_has cX4_has 2 (some .boolean) 1 := ⟨gi_cons mw_106 (gi_cons mw_107 (gi_cons mw_108 (gi_cons mw_27 (gi_cons mw_109 tw_good)))), by decide +kernel⟩
theorem mv_X8_219 : MV RX8 219 yX2_write cX2_write 3 none 2 := ⟨gi_cons mw_174 (gi_cons mw_175 (gi_cons mw_176 (gi_cons mw_28 (gi_cons mw_177 tw_good)))), by decide +kernel⟩
theorem mv_X8_181 : MV RX8 181 yX8_refuse cX8_refuse 3 (some .int) 2 := ⟨gi_cons mw_86 (gi_cons mw_88 (gi_cons mw_3 (gi_cons mw_26 (gi_cons mw_89 tw_good)))), by decide +kernel⟩
theorem mv_X8_223 : MV RX8 223 yX4_countAboard cX4_countAboard 3 (some .int) 0 := ⟨gi_cons mw_182 (gi_cons mw_183 (gi_cons mw_184 (gi_cons mw_27 (gi_cons mw_185 tw_good)))), by decide +kernel⟩
theorem mv_X8_229 : MV RX8 229 yX4_isRopeCut cX4_isRopeCut 3 (some .boolean) 2 := ⟨gi_cons mw_194 (gi_cons mw_124 (gi_cons mw_125 (gi_cons mw_27 (gi_cons mw_126 tw_good)))), by decide +kernel⟩
theorem mv_X8_238 : MV RX8 238 yX4_setRope cX4_setRope 4 none 3 := ⟨gi_cons mw_196 (gi_cons mw_197 (gi_cons mw_198 (gi_cons mw_27 (gi_cons mw_199 tw_good)))), by decide +kernel⟩
theorem mv_X8_242 : MV RX8 242 yX4_countCutRopes cX4_countCutRopes 3 (some .int) 0 := ⟨gi_cons mw_200 (gi_cons mw_201 (gi_cons mw_202 (gi_cons mw_27 (gi_cons mw_203 tw_good)))), by decide +kernel⟩
theorem mv_X8_315 : MV RX8 315 yX4_isConflict cX4_isConflict 4 (some .boolean) 2 := ⟨gi_cons mw_268 (gi_cons mw_269 (gi_cons mw_270 (gi_cons mw_27 (gi_cons mw_271 tw_good)))), by decide +kernel⟩
theorem mv_X8_292 : MV RX8 292 yX2_isLeading cX2_isLeading 1 (some .boolean) 0 := ⟨gi_cons mw_606 (gi_cons mw_209 (gi_cons mw_210 (gi_cons mw_28 (gi_cons mw_211 tw_good)))), by decide +kernel⟩
theorem mv_X8_249 : MV RX8 249 yX5_putAhead cX5_putAhead 3 none 2 := ⟨gi_cons mw_984 (gi_cons mw_985 (gi_cons mw_986 (gi_cons mw_30 (gi_cons mw_987 tw_good)))), by decide +kernel⟩
theorem mv_X8_282 : MV RX8 282 yX4_hasLine cX4_hasLine 3 (some .boolean) 2 := ⟨gi_cons mw_995 (gi_cons mw_996 (gi_cons mw_997 (gi_cons mw_27 (gi_cons mw_998 tw_good)))), by decide +kernel⟩
theorem mv_X8_307 : MV RX8 307 yX2_hasLongerTaleThan cX2_hasLongerTaleThan 4 (some .boolean) 1 := ⟨gi_cons mw_1016 (gi_cons mw_136 (gi_cons mw_137 (gi_cons mw_28 (gi_cons mw_138 tw_good)))), by decide +kernel⟩
theorem mv_X8_311 : MV RX8 311 yX2_countSameLines cX2_countSameLines 4 (some .int) 1 := ⟨gi_cons mw_1021 (gi_cons mw_157 (gi_cons mw_158 (gi_cons mw_28 (gi_cons mw_159 tw_good)))), by decide +kernel⟩
theorem mv_X2_51 : MV RX2 51 yX2_copyLines cX2_copyLines 4 none 2 := ⟨gi_cons mw_66 (gi_cons mw_67 (gi_cons mw_68 (gi_cons mw_28 (gi_cons mw_69 tw_good)))), by decide +kernel⟩
theorem mv_X2_65 : MV RX2 65 yX2_countSameLines cX2_countSameLines 4 (some .int) 1 := ⟨gi_cons mw_156 (gi_cons mw_157 (gi_cons mw_158 (gi_cons mw_28 (gi_cons mw_159 tw_good)))), by decide +kernel⟩
theorem mv_X2_61 : MV RX2 61 yX2_takeOver cX2_takeOver 2 none 1 := ⟨gi_cons mw_155 (gi_cons mw_128 (gi_cons mw_129 (gi_cons mw_28 (gi_cons mw_130 tw_good)))), by decide +kernel⟩
theorem mv_X4_47 : MV RX4 47 yX2_copyFrom cX2_copyFrom 2 none 1 := ⟨gi_cons mw_62 (gi_cons mw_63 (gi_cons mw_64 (gi_cons mw_28 (gi_cons mw_65 tw_good)))), by decide +kernel⟩
theorem mv_X4_66 : MV RX4 66 yX4_isRopeCut cX4_isRopeCut 3 (some .boolean) 2 := ⟨gi_cons mw_123 (gi_cons mw_124 (gi_cons mw_125 (gi_cons mw_27 (gi_cons mw_126 tw_good)))), by decide +kernel⟩
theorem mv_X4_87 : MV RX4 87 yX4_isMajority cX4_isMajority 2 (some .boolean) 1 := ⟨gi_cons mw_139 (gi_cons mw_140 (gi_cons mw_141 (gi_cons mw_27 (gi_cons mw_142 tw_good)))), by decide +kernel⟩
theorem mv_X4_116 : MV RX4 116 yX2_agreeOwnLines cX2_agreeOwnLines 2 none 0 := ⟨gi_cons mw_166 (gi_cons mw_167 (gi_cons mw_168 (gi_cons mw_28 (gi_cons mw_169 tw_good)))), by decide +kernel⟩
theorem mv_X4_70 : MV RX4 70 yX4_canReach cX4_canReach 3 (some .boolean) 2 := ⟨gi_cons mw_119 (gi_cons mw_120 (gi_cons mw_121 (gi_cons mw_27 (gi_cons mw_122 tw_good)))), by decide +kernel⟩
theorem mv_X4_112 : MV RX4 112 yX2_followLeader cX2_followLeader 4 (some .int) 1 := ⟨gi_cons mw_151 (gi_cons mw_152 (gi_cons mw_153 (gi_cons mw_28 (gi_cons mw_154 tw_good)))), by decide +kernel⟩
theorem mv_X4_109 : MV RX4 109 yX4_wouldGrantVote cX4_wouldGrantVote 6 (some .boolean) 2 := ⟨gi_cons mw_256 (gi_cons mw_257 (gi_cons mw_258 (gi_cons mw_27 (gi_cons mw_259 tw_good)))), by decide +kernel⟩
theorem mv_X3_22 : MV RX3 22 yX4_copyFrom cX4_copyFrom 3 none 1 := ⟨gi_cons mw_222 (gi_cons mw_59 (gi_cons mw_60 (gi_cons mw_27 (gi_cons mw_61 tw_good)))), by decide +kernel⟩
theorem mv_X8_184 : MV RX8 184 yX4_addDriver cX4_addDriver 2 (some .int) 1 := ⟨gi_cons mw_94 (gi_cons mw_95 (gi_cons mw_96 (gi_cons mw_27 (gi_cons mw_97 tw_good)))), by decide +kernel⟩
theorem mv_X8_210 : MV RX8 210 yX4_sendFrom cX4_sendFrom 6 (some .int) 1 := ⟨gi_cons mw_147 (gi_cons mw_148 (gi_cons mw_149 (gi_cons mw_27 (gi_cons mw_150 tw_good)))), by decide +kernel⟩
theorem mv_X8_273 : MV RX8 273 yX4_countReached cX4_countReached 4 (some .int) 1 := ⟨gi_cons mw_240 (gi_cons mw_241 (gi_cons mw_242 (gi_cons mw_27 (gi_cons mw_243 tw_good)))), by decide +kernel⟩
theorem mv_X8_301 : MV RX8 301 yX8_codeOfAsking cX8_codeOfAsking 3 (some .int) 1 := ⟨gi_cons mw_248 (gi_cons mw_250 (gi_cons mw_12 (gi_cons mw_26 (gi_cons mw_251 tw_good)))), by decide +kernel⟩
theorem mv_X8_304 : MV RX8 304 yX4_votesToGet cX4_votesToGet 5 (some .int) 1 := ⟨gi_cons mw_252 (gi_cons mw_253 (gi_cons mw_254 (gi_cons mw_27 (gi_cons mw_255 tw_good)))), by decide +kernel⟩
theorem mv_X8_380 : MV RX8 380 yX3_takeBack cX3_takeBack 2 none 1 := ⟨gi_cons mw_303 (gi_cons mw_304 (gi_cons mw_305 (gi_cons mw_29 (gi_cons mw_306 tw_good)))), by decide +kernel⟩
theorem mv_X8_113 : MV RX8 113 yX4_copyFrom cX4_copyFrom 3 none 1 := ⟨gi_cons mw_58 (gi_cons mw_59 (gi_cons mw_60 (gi_cons mw_27 (gi_cons mw_61 tw_good)))), by decide +kernel⟩
theorem mv_X8_60 : MV RX8 60 yX3_forget cX3_forget 1 none 0 := ⟨gi_cons mw_315 (gi_cons mw_316 (gi_cons mw_317 (gi_cons mw_29 (gi_cons mw_318 tw_good)))), by decide +kernel⟩
theorem mv_X8_295 : MV RX8 295 yX4_canReach cX4_canReach 3 (some .boolean) 2 := ⟨gi_cons mw_1011 (gi_cons mw_120 (gi_cons mw_121 (gi_cons mw_27 (gi_cons mw_122 tw_good)))), by decide +kernel⟩
theorem mv_X4_73 : MV RX4 73 yX4_beginAsking cX4_beginAsking 3 none 2 := ⟨gi_cons mw_114 (gi_cons mw_116 (gi_cons mw_5 (gi_cons mw_27 (gi_cons mw_118 tw_good)))), by decide +kernel⟩
theorem mv_X4_83 : MV RX4 83 yX4_letVote cX4_letVote 5 (some .int) 2 := ⟨gi_cons mw_131 (gi_cons mw_133 (gi_cons mw_6 (gi_cons mw_27 (gi_cons mw_134 tw_good)))), by decide +kernel⟩
theorem mv_X4_119 : MV RX4 119 yX2_isLeading cX2_isLeading 1 (some .boolean) 0 := ⟨gi_cons mw_208 (gi_cons mw_209 (gi_cons mw_210 (gi_cons mw_28 (gi_cons mw_211 tw_good)))), by decide +kernel⟩
theorem mv_X4_127 : MV RX4 127 yX2_waitBeat cX2_waitBeat 1 (some .boolean) 0 := ⟨gi_cons mw_213 (gi_cons mw_214 (gi_cons mw_215 (gi_cons mw_28 (gi_cons mw_216 tw_good)))), by decide +kernel⟩
theorem mv_X4_130 : MV RX4 130 yX4_gatherVotes cX4_gatherVotes 6 (some .int) 1 := ⟨gi_cons mw_217 (gi_cons mw_111 (gi_cons mw_112 (gi_cons mw_27 (gi_cons mw_113 tw_good)))), by decide +kernel⟩
theorem mv_X4_123 : MV RX4 123 yX4_sendFrom cX4_sendFrom 6 (some .int) 1 := ⟨gi_cons mw_212 (gi_cons mw_148 (gi_cons mw_149 (gi_cons mw_27 (gi_cons mw_150 tw_good)))), by decide +kernel⟩
theorem mv_X8_207 : MV RX8 207 yX4_gatherVotes cX4_gatherVotes 6 (some .int) 1 := ⟨gi_cons mw_110 (gi_cons mw_111 (gi_cons mw_112 (gi_cons mw_27 (gi_cons mw_113 tw_good)))), by decide +kernel⟩
theorem mv_X8_175 : MV RX8 175 yX4_passBeats cX4_passBeats 5 (some .int) 1 := ⟨gi_cons mw_204 (gi_cons mw_205 (gi_cons mw_206 (gi_cons mw_27 (gi_cons mw_207 tw_good)))), by decide +kernel⟩
theorem mo_X8_149 : GoodIn TW (va_wsU RX8 149 RX7 "java/lang/Enum" yWord_ordinal yJx29ce0_ordinal_8abf5 (.code yJx29ce0_ordinal_8abf5 cJx29ce0_ordinal_8abf5 1 (some .int) :: TW)) := gi_cons mw_76 (gi_cons mw_77 (gi_cons mw_79 (gi_cons mw_80 (gi_cons mw_37 (gi_cons mw_81 tw_good)))))
theorem mv_X8_152 : MV RX8 152 yX8_letCome cX8_letCome 2 (some .int) 1 := ⟨gi_cons mw_82 (gi_cons mw_84 (gi_cons mw_2 (gi_cons mw_26 (gi_cons mw_85 tw_good)))), by decide +kernel⟩
theorem mv_X8_156 : MV RX8 156 yX8_letAsk cX8_letAsk 3 (some .int) 1 := ⟨gi_cons mw_102 (gi_cons mw_104 (gi_cons mw_4 (gi_cons mw_26 (gi_cons mw_105 tw_good)))), by decide +kernel⟩
theorem mv_X8_159 : MV RX8 159 yX8_letSend cX8_letSend 3 (some .int) 1 := ⟨gi_cons mw_143 (gi_cons mw_145 (gi_cons mw_7 (gi_cons mw_26 (gi_cons mw_146 tw_good)))), by decide +kernel⟩
theorem mv_X8_162 : MV RX8 162 yX8_letShout cX8_letShout 4 (some .int) 2 := ⟨gi_cons mw_170 (gi_cons mw_172 (gi_cons mw_8 (gi_cons mw_26 (gi_cons mw_173 tw_good)))), by decide +kernel⟩
theorem mv_X8_165 : MV RX8 165 yX8_washAway cX8_washAway 3 (some .int) 1 := ⟨gi_cons mw_178 (gi_cons mw_180 (gi_cons mw_9 (gi_cons mw_26 (gi_cons mw_181 tw_good)))), by decide +kernel⟩
theorem mv_X8_168 : MV RX8 168 yX8_bringBack cX8_bringBack 3 (some .int) 1 := ⟨gi_cons mw_186 (gi_cons mw_188 (gi_cons mw_10 (gi_cons mw_26 (gi_cons mw_189 tw_good)))), by decide +kernel⟩
theorem mv_X8_171 : MV RX8 171 yX8_changeRope cX8_changeRope 4 (some .int) 3 := ⟨gi_cons mw_190 (gi_cons mw_192 (gi_cons mw_11 (gi_cons mw_26 (gi_cons mw_193 tw_good)))), by decide +kernel⟩
theorem mv_X8_133 : MV RX8 133 yX8_carryOut cX8_carryOut 4 (some .int) 3 := ⟨gi_cons mw_70 (gi_cons mw_72 (gi_cons mw_1 (gi_cons mw_26 (gi_cons mw_73 tw_good)))), by decide +kernel⟩
theorem mv_X8_140 : MV RX8 140 yX3_remember cX3_remember 2 none 1 := ⟨gi_cons mw_218 (gi_cons mw_219 (gi_cons mw_220 (gi_cons mw_29 (gi_cons mw_221 tw_good)))), by decide +kernel⟩
theorem mv_X8_77 : MV RX8 77 yX8_change cX8_change 5 (some .int) 3 := ⟨gi_cons mw_53 (gi_cons mw_55 (gi_cons mw_0 (gi_cons mw_26 (gi_cons mw_57 tw_good)))), by decide +kernel⟩
