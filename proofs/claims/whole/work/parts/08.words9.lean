theorem lb_m4 : (Int8.ofInt (-4)).toInt32 = (-4 : Int32) := by decide
theorem lb_m3 : (Int8.ofInt (-3)).toInt32 = (-3 : Int32) := by decide
theorem lb_m2 : (Int8.ofInt (-2)).toInt32 = (-2 : Int32) := by decide
theorem lb_6 : (Int8.ofInt (6)).toInt32 = (6 : Int32) := by decide
theorem lb_7 : (Int8.ofInt (7)).toInt32 = (7 : Int32) := by decide
theorem lb_8 : (Int8.ofInt (8)).toInt32 = (8 : Int32) := by decide
theorem lb_9 : (Int8.ofInt (9)).toInt32 = (9 : Int32) := by decide
theorem lb_10 : (Int8.ofInt (10)).toInt32 = (10 : Int32) := by decide
theorem lb_12 : (Int8.ofInt (12)).toInt32 = (12 : Int32) := by decide
theorem lb_20 : (Int8.ofInt (20)).toInt32 = (20 : Int32) := by decide
theorem lb_22 : (Int8.ofInt (22)).toInt32 = (22 : Int32) := by decide
theorem lb_25 : (Int8.ofInt (25)).toInt32 = (25 : Int32) := by decide
theorem lb_32 : (Int8.ofInt (32)).toInt32 = (32 : Int32) := by decide
theorem lb_33 : (Int8.ofInt (33)).toInt32 = (33 : Int32) := by decide
theorem lb_34 : (Int8.ofInt (34)).toInt32 = (34 : Int32) := by decide
theorem lb_44 : (Int8.ofInt (44)).toInt32 = (44 : Int32) := by decide
theorem lb_45 : (Int8.ofInt (45)).toInt32 = (45 : Int32) := by decide
theorem lb_48 : (Int8.ofInt (48)).toInt32 = (48 : Int32) := by decide
theorem lb_57 : (Int8.ofInt (57)).toInt32 = (57 : Int32) := by decide
theorem lb_60 : (Int8.ofInt (60)).toInt32 = (60 : Int32) := by decide
theorem lb_97 : (Int8.ofInt (97)).toInt32 = (97 : Int32) := by decide
theorem lb_122 : (Int8.ofInt (122)).toInt32 = (122 : Int32) := by decide
theorem lb_126 : (Int8.ofInt (126)).toInt32 = (126 : Int32) := by decide
theorem lh_203 : (Int16.ofInt (203)).toInt32 = (203 : Int32) := by decide
theorem li_m1 : Int32.ofInt (-1) = (-1 : Int32) := by decide
theorem li_0 : Int32.ofInt (0) = (0 : Int32) := by decide
theorem li_1 : Int32.ofInt (1) = (1 : Int32) := by decide
theorem li_2 : Int32.ofInt (2) = (2 : Int32) := by decide
theorem li_3 : Int32.ofInt (3) = (3 : Int32) := by decide
theorem li_4 : Int32.ofInt (4) = (4 : Int32) := by decide
theorem li_5 : Int32.ofInt (5) = (5 : Int32) := by decide
theorem mw_26 : Cond.selects RX9 yX9_keeps yX9_keeps ∈ TW := tw_of (i := 26) (by decide +kernel) rfl
theorem mw_27 : Cond.selects RX9 yX9_comes yX9_comes ∈ TW := tw_of (i := 27) (by decide +kernel) rfl
theorem mw_28 : Cond.selects RX9 yX9_isRefused yX9_isRefused ∈ TW := tw_of (i := 28) (by decide +kernel) rfl
theorem mw_29 : Cond.selects RX9 yX9_sets yX9_sets ∈ TW := tw_of (i := 29) (by decide +kernel) rfl
theorem mw_30 : Cond.selects RX9 yX9_ends yX9_ends ∈ TW := tw_of (i := 30) (by decide +kernel) rfl
theorem mw_31 : Cond.selects RX9 yX9_changed yX9_changed ∈ TW := tw_of (i := 31) (by decide +kernel) rfl
theorem mw_32 : Cond.selects RX9 yX9_asks yX9_asks ∈ TW := tw_of (i := 32) (by decide +kernel) rfl
theorem mw_33 : Cond.selects RX9 yX9_isDriver yX9_isDriver ∈ TW := tw_of (i := 33) (by decide +kernel) rfl
theorem mw_34 : Cond.selects RX9 yX9_isWashed yX9_isWashed ∈ TW := tw_of (i := 34) (by decide +kernel) rfl
theorem mw_35 : Cond.selects RX9 yX9_isAboard yX9_isAboard ∈ TW := tw_of (i := 35) (by decide +kernel) rfl
theorem mw_36 : Cond.selects RX9 yX9_of yX9_of ∈ TW := tw_of (i := 36) (by decide +kernel) rfl
theorem mw_37 : Cond.selects RX9 yX9_asksNow yX9_asksNow ∈ TW := tw_of (i := 37) (by decide +kernel) rfl
theorem mw_38 : Cond.selects RX9 yX9_isReached yX9_isReached ∈ TW := tw_of (i := 38) (by decide +kernel) rfl
theorem mw_39 : Cond.selects RX9 yX9_ropeAt yX9_ropeAt ∈ TW := tw_of (i := 39) (by decide +kernel) rfl
theorem mw_40 : Cond.selects RX9 yX9_takesOver yX9_takesOver ∈ TW := tw_of (i := 40) (by decide +kernel) rfl
theorem mw_41 : Cond.selects RX9 yX9_votes yX9_votes ∈ TW := tw_of (i := 41) (by decide +kernel) rfl
theorem mw_42 : Cond.selects RX9 yX9_longerOf yX9_longerOf ∈ TW := tw_of (i := 42) (by decide +kernel) rfl
theorem mw_43 : Cond.selects RX9 yX9_lastTerm yX9_lastTerm ∈ TW := tw_of (i := 43) (by decide +kernel) rfl
theorem mw_44 : Cond.selects RX9 yX9_isMajority yX9_isMajority ∈ TW := tw_of (i := 44) (by decide +kernel) rfl
theorem mw_45 : Cond.selects RX9 yX9_sends yX9_sends ∈ TW := tw_of (i := 45) (by decide +kernel) rfl
theorem mw_46 : Cond.selects RX9 yX9_isNoLeader yX9_isNoLeader ∈ TW := tw_of (i := 46) (by decide +kernel) rfl
theorem mw_47 : Cond.selects RX9 yX9_sendsNow yX9_sendsNow ∈ TW := tw_of (i := 47) (by decide +kernel) rfl
theorem mw_48 : Cond.selects RX9 yX9_gets yX9_gets ∈ TW := tw_of (i := 48) (by decide +kernel) rfl
theorem mw_49 : Cond.selects RX9 yX9_alikeTo yX9_alikeTo ∈ TW := tw_of (i := 49) (by decide +kernel) rfl
theorem mw_50 : Cond.selects RX9 yX9_lastOwn yX9_lastOwn ∈ TW := tw_of (i := 50) (by decide +kernel) rfl
theorem mw_51 : Cond.selects RX9 yX9_shouts yX9_shouts ∈ TW := tw_of (i := 51) (by decide +kernel) rfl
theorem mw_52 : Cond.selects RX9 yX9_washes yX9_washes ∈ TW := tw_of (i := 52) (by decide +kernel) rfl
theorem mw_53 : Cond.selects RX9 yX9_aboard yX9_aboard ∈ TW := tw_of (i := 53) (by decide +kernel) rfl
theorem mw_54 : Cond.selects RX9 yX9_comesBack yX9_comesBack ∈ TW := tw_of (i := 54) (by decide +kernel) rfl
theorem mw_55 : Cond.selects RX9 yX9_ropes yX9_ropes ∈ TW := tw_of (i := 55) (by decide +kernel) rfl
theorem mw_56 : Cond.selects RX9 yX9_areDrivers yX9_areDrivers ∈ TW := tw_of (i := 56) (by decide +kernel) rfl
theorem mw_57 : Cond.selects RX9 yX9_ropesCut yX9_ropesCut ∈ TW := tw_of (i := 57) (by decide +kernel) rfl
theorem mw_58 : Cond.selects RX9 yX9_beatsGo yX9_beatsGo ∈ TW := tw_of (i := 58) (by decide +kernel) rfl
theorem mw_59 : Cond.selects RX9 yX9_beatGoes yX9_beatGoes ∈ TW := tw_of (i := 59) (by decide +kernel) rfl
theorem mw_60 : Cond.selects RX9 yX9_waits yX9_waits ∈ TW := tw_of (i := 60) (by decide +kernel) rfl
theorem mw_66 : Cond.selects RX9 yX9_sign yX9_sign ∈ TW := tw_of (i := 66) (by decide +kernel) rfl
theorem mw_71 : Cond.selects RX9 yX9_reachedBy yX9_reachedBy ∈ TW := tw_of (i := 71) (by decide +kernel) rfl
theorem mw_72 : Cond.selects RX9 yX9_isLine yX9_isLine ∈ TW := tw_of (i := 72) (by decide +kernel) rfl
theorem mw_73 : Cond.selects RX9 yX9_wouldGive yX9_wouldGive ∈ TW := tw_of (i := 73) (by decide +kernel) rfl
theorem mw_74 : Cond.selects RX9 yX9_codeOfAsking yX9_codeOfAsking ∈ TW := tw_of (i := 74) (by decide +kernel) rfl
theorem mw_75 : Cond.selects RX9 yX9_isAhead yX9_isAhead ∈ TW := tw_of (i := 75) (by decide +kernel) rfl
theorem mw_76 : Cond.selects RX9 yX9_waitsYet yX9_waitsYet ∈ TW := tw_of (i := 76) (by decide +kernel) rfl
theorem mw_77 : Cond.selects RX9 yX9_doesWait yX9_doesWait ∈ TW := tw_of (i := 77) (by decide +kernel) rfl
theorem mw_78 : Cond.selects RX9 yX9_puts yX9_puts ∈ TW := tw_of (i := 78) (by decide +kernel) rfl
theorem mw_81 : Cond.selects RX9 yX9_greatestTerm yX9_greatestTerm ∈ TW := tw_of (i := 81) (by decide +kernel) rfl
theorem mw_94 : Cond.initialized RX9 ∈ TW := tw_of (i := 94) (by decide +kernel) rfl
theorem mw_1082 : Cond.fieldLink RX9 9 (TX9 0).1 (TX9 0).2.1 (TX9 0).2.2.1 ∈ TW := tw_of (i := 1082) (by decide +kernel) rfl
theorem mw_1083 : Cond.fieldLink RX9 13 (TX9 1).1 (TX9 1).2.1 (TX9 1).2.2.1 ∈ TW := tw_of (i := 1083) (by decide +kernel) rfl
theorem mw_1084 : Cond.fieldLink RX9 16 (TX9 2).1 (TX9 2).2.1 (TX9 2).2.2.1 ∈ TW := tw_of (i := 1084) (by decide +kernel) rfl
theorem mw_1085 : Cond.fieldLink RX9 19 (TX9 3).1 (TX9 3).2.1 (TX9 3).2.2.1 ∈ TW := tw_of (i := 1085) (by decide +kernel) rfl
theorem mw_1086 : Cond.fieldLink RX9 22 (TX9 4).1 (TX9 4).2.1 (TX9 4).2.2.1 ∈ TW := tw_of (i := 1086) (by decide +kernel) rfl
theorem mw_1087 : Cond.fieldLink RX9 42 (TX9 5).1 (TX9 5).2.1 (TX9 5).2.2.1 ∈ TW := tw_of (i := 1087) (by decide +kernel) rfl
theorem mw_1088 : Cond.fieldLink RX9 48 (TX9 6).1 (TX9 6).2.1 (TX9 6).2.2.1 ∈ TW := tw_of (i := 1088) (by decide +kernel) rfl
theorem mw_1089 : Cond.fieldLink RX9 51 (TX9 7).1 (TX9 7).2.1 (TX9 7).2.2.1 ∈ TW := tw_of (i := 1089) (by decide +kernel) rfl
theorem mw_1090 : Cond.fieldLink RX9 54 (TX9 8).1 (TX9 8).2.1 (TX9 8).2.2.1 ∈ TW := tw_of (i := 1090) (by decide +kernel) rfl
theorem mw_1091 : Cond.fieldLink RX9 248 (TX9 9).1 (TX9 9).2.1 (TX9 9).2.2.1 ∈ TW := tw_of (i := 1091) (by decide +kernel) rfl
theorem mw_1092 : Cond.fieldLink RX9 25 (TX9 10).1 (TX9 10).2.1 (TX9 10).2.2.1 ∈ TW := tw_of (i := 1092) (by decide +kernel) rfl
theorem mw_1093 : Cond.fieldLink RX9 297 (TX9 11).1 (TX9 11).2.1 (TX9 11).2.2.1 ∈ TW := tw_of (i := 1093) (by decide +kernel) rfl
theorem mw_1094 : Cond.fieldLink RX9 29 (TX9 12).1 (TX9 12).2.1 (TX9 12).2.2.1 ∈ TW := tw_of (i := 1094) (by decide +kernel) rfl
theorem mw_1095 : Cond.fieldLink RX9 32 (TX9 13).1 (TX9 13).2.1 (TX9 13).2.2.1 ∈ TW := tw_of (i := 1095) (by decide +kernel) rfl
theorem mw_1096 : Cond.fieldLink RX9 182 (TX9 14).1 (TX9 14).2.1 (TX9 14).2.2.1 ∈ TW := tw_of (i := 1096) (by decide +kernel) rfl
theorem mw_1097 : Cond.fieldLink RX9 185 (TX9 15).1 (TX9 15).2.1 (TX9 15).2.2.1 ∈ TW := tw_of (i := 1097) (by decide +kernel) rfl
theorem mw_1100 : Cond.fieldLink RX9 35 (TX9 18).1 (TX9 18).2.1 (TX9 18).2.2.1 ∈ TW := tw_of (i := 1100) (by decide +kernel) rfl
theorem mw_1101 : Cond.fieldLink RX9 282 (TX9 19).1 (TX9 19).2.1 (TX9 19).2.2.1 ∈ TW := tw_of (i := 1101) (by decide +kernel) rfl
theorem mw_1151 : Cond.methodLink RX9 96 yX9_keeps ∈ TW := tw_of (i := 1151) (by decide +kernel) rfl
theorem mw_1153 : Cond.instanceMethod yX9_keeps ∈ TW := tw_of (i := 1153) (by decide +kernel) rfl
theorem mw_1154 : Cond.code yX9_keeps cX9_keeps 1 none ∈ TW := tw_of (i := 1154) (by decide +kernel) rfl
theorem mw_1155 : Cond.methodLink RX9 38 yX9_copies ∈ TW := tw_of (i := 1155) (by decide +kernel) rfl
theorem mw_1156 : Cond.static yX9_copies ∈ TW := tw_of (i := 1156) (by decide +kernel) rfl
theorem mw_1157 : Cond.code yX9_copies cX9_copies 5 none ∈ TW := tw_of (i := 1157) (by decide +kernel) rfl
theorem mw_1158 : Cond.methodLink RX9 99 yX9_comes ∈ TW := tw_of (i := 1158) (by decide +kernel) rfl
theorem mw_1160 : Cond.instanceMethod yX9_comes ∈ TW := tw_of (i := 1160) (by decide +kernel) rfl
theorem mw_1161 : Cond.code yX9_comes cX9_comes 3 (some .int) ∈ TW := tw_of (i := 1161) (by decide +kernel) rfl
theorem mw_1162 : Cond.methodLink RX9 61 yX9_isIn ∈ TW := tw_of (i := 1162) (by decide +kernel) rfl
theorem mw_1163 : Cond.static yX9_isIn ∈ TW := tw_of (i := 1163) (by decide +kernel) rfl
theorem mw_1164 : Cond.code yX9_isIn cX9_isIn 3 (some .boolean) ∈ TW := tw_of (i := 1164) (by decide +kernel) rfl
theorem mw_1165 : Cond.methodLink RX9 88 yX9_isRefused ∈ TW := tw_of (i := 1165) (by decide +kernel) rfl
theorem mw_1167 : Cond.instanceMethod yX9_isRefused ∈ TW := tw_of (i := 1167) (by decide +kernel) rfl
theorem mw_1168 : Cond.code yX9_isRefused cX9_isRefused 4 (some .boolean) ∈ TW := tw_of (i := 1168) (by decide +kernel) rfl
theorem mw_1169 : Cond.methodLink RX9 92 yX9_sets ∈ TW := tw_of (i := 1169) (by decide +kernel) rfl
theorem mw_1171 : Cond.instanceMethod yX9_sets ∈ TW := tw_of (i := 1171) (by decide +kernel) rfl
theorem mw_1172 : Cond.code yX9_sets cX9_sets 4 none ∈ TW := tw_of (i := 1172) (by decide +kernel) rfl
theorem mw_1173 : Cond.methodLink RX9 57 yX9_at ∈ TW := tw_of (i := 1173) (by decide +kernel) rfl
theorem mw_1174 : Cond.static yX9_at ∈ TW := tw_of (i := 1174) (by decide +kernel) rfl
theorem mw_1175 : Cond.code yX9_at cX9_at 2 (some .int) ∈ TW := tw_of (i := 1175) (by decide +kernel) rfl
theorem mw_1176 : Cond.methodLink RX9 102 yX9_ends ∈ TW := tw_of (i := 1176) (by decide +kernel) rfl
theorem mw_1178 : Cond.instanceMethod yX9_ends ∈ TW := tw_of (i := 1178) (by decide +kernel) rfl
theorem mw_1179 : Cond.code yX9_ends cX9_ends 2 (some .int) ∈ TW := tw_of (i := 1179) (by decide +kernel) rfl
theorem mw_1180 : Cond.methodLink RX9 45 yX9_changed ∈ TW := tw_of (i := 1180) (by decide +kernel) rfl
theorem mw_1182 : Cond.instanceMethod yX9_changed ∈ TW := tw_of (i := 1182) (by decide +kernel) rfl
theorem mw_1183 : Cond.code yX9_changed cX9_changed 2 none ∈ TW := tw_of (i := 1183) (by decide +kernel) rfl
theorem mw_1188 : Cond.methodLink RX9 128 yX9_asks ∈ TW := tw_of (i := 1188) (by decide +kernel) rfl
theorem mw_1190 : Cond.instanceMethod yX9_asks ∈ TW := tw_of (i := 1190) (by decide +kernel) rfl
theorem mw_1191 : Cond.code yX9_asks cX9_asks 2 (some .int) ∈ TW := tw_of (i := 1191) (by decide +kernel) rfl
theorem mw_1192 : Cond.methodLink RX9 65 yX9_isDriver ∈ TW := tw_of (i := 1192) (by decide +kernel) rfl
theorem mw_1194 : Cond.instanceMethod yX9_isDriver ∈ TW := tw_of (i := 1194) (by decide +kernel) rfl
theorem mw_1195 : Cond.code yX9_isDriver cX9_isDriver 2 (some .boolean) ∈ TW := tw_of (i := 1195) (by decide +kernel) rfl
theorem mw_1196 : Cond.methodLink RX9 122 yX9_isWashed ∈ TW := tw_of (i := 1196) (by decide +kernel) rfl
theorem mw_1198 : Cond.instanceMethod yX9_isWashed ∈ TW := tw_of (i := 1198) (by decide +kernel) rfl
theorem mw_1199 : Cond.code yX9_isWashed cX9_isWashed 2 (some .boolean) ∈ TW := tw_of (i := 1199) (by decide +kernel) rfl
theorem mw_1200 : Cond.methodLink RX9 78 yX9_isAboard ∈ TW := tw_of (i := 1200) (by decide +kernel) rfl
theorem mw_1202 : Cond.instanceMethod yX9_isAboard ∈ TW := tw_of (i := 1202) (by decide +kernel) rfl
theorem mw_1203 : Cond.code yX9_isAboard cX9_isAboard 2 (some .boolean) ∈ TW := tw_of (i := 1203) (by decide +kernel) rfl
theorem mw_1204 : Cond.methodLink RX9 69 yX9_of ∈ TW := tw_of (i := 1204) (by decide +kernel) rfl
theorem mw_1206 : Cond.instanceMethod yX9_of ∈ TW := tw_of (i := 1206) (by decide +kernel) rfl
theorem mw_1207 : Cond.code yX9_of cX9_of 3 (some .int) ∈ TW := tw_of (i := 1207) (by decide +kernel) rfl
theorem mw_1208 : Cond.methodLink RX9 125 yX9_asksNow ∈ TW := tw_of (i := 1208) (by decide +kernel) rfl
theorem mw_1210 : Cond.instanceMethod yX9_asksNow ∈ TW := tw_of (i := 1210) (by decide +kernel) rfl
theorem mw_1211 : Cond.code yX9_asksNow cX9_asksNow 4 (some .int) ∈ TW := tw_of (i := 1211) (by decide +kernel) rfl
theorem mw_1212 : Cond.methodLink RX9 108 yX9_isReached ∈ TW := tw_of (i := 1212) (by decide +kernel) rfl
theorem mw_1214 : Cond.instanceMethod yX9_isReached ∈ TW := tw_of (i := 1214) (by decide +kernel) rfl
theorem mw_1215 : Cond.code yX9_isReached cX9_isReached 3 (some .boolean) ∈ TW := tw_of (i := 1215) (by decide +kernel) rfl
theorem mw_1216 : Cond.methodLink RX9 81 yX9_ropeAt ∈ TW := tw_of (i := 1216) (by decide +kernel) rfl
theorem mw_1218 : Cond.instanceMethod yX9_ropeAt ∈ TW := tw_of (i := 1218) (by decide +kernel) rfl
theorem mw_1219 : Cond.code yX9_ropeAt cX9_ropeAt 3 (some .int) ∈ TW := tw_of (i := 1219) (by decide +kernel) rfl
theorem mw_1220 : Cond.methodLink RX9 72 yX9_lesser ∈ TW := tw_of (i := 1220) (by decide +kernel) rfl
theorem mw_1221 : Cond.static yX9_lesser ∈ TW := tw_of (i := 1221) (by decide +kernel) rfl
theorem mw_1222 : Cond.code yX9_lesser cX9_lesser 2 (some .int) ∈ TW := tw_of (i := 1222) (by decide +kernel) rfl
theorem mw_1223 : Cond.methodLink RX9 75 yX9_greater ∈ TW := tw_of (i := 1223) (by decide +kernel) rfl
theorem mw_1224 : Cond.static yX9_greater ∈ TW := tw_of (i := 1224) (by decide +kernel) rfl
theorem mw_1225 : Cond.code yX9_greater cX9_greater 2 (some .int) ∈ TW := tw_of (i := 1225) (by decide +kernel) rfl
theorem mw_1226 : Cond.methodLink RX9 112 yX9_takesOver ∈ TW := tw_of (i := 1226) (by decide +kernel) rfl
theorem mw_1228 : Cond.instanceMethod yX9_takesOver ∈ TW := tw_of (i := 1228) (by decide +kernel) rfl
theorem mw_1229 : Cond.code yX9_takesOver cX9_takesOver 3 none ∈ TW := tw_of (i := 1229) (by decide +kernel) rfl
theorem mw_1230 : Cond.methodLink RX9 116 yX9_votes ∈ TW := tw_of (i := 1230) (by decide +kernel) rfl
theorem mw_1232 : Cond.instanceMethod yX9_votes ∈ TW := tw_of (i := 1232) (by decide +kernel) rfl
theorem mw_1233 : Cond.code yX9_votes cX9_votes 4 (some .boolean) ∈ TW := tw_of (i := 1233) (by decide +kernel) rfl
theorem mw_1234 : Cond.methodLink RX9 105 yX9_longerOf ∈ TW := tw_of (i := 1234) (by decide +kernel) rfl
theorem mw_1236 : Cond.instanceMethod yX9_longerOf ∈ TW := tw_of (i := 1236) (by decide +kernel) rfl
theorem mw_1237 : Cond.code yX9_longerOf cX9_longerOf 4 (some .int) ∈ TW := tw_of (i := 1237) (by decide +kernel) rfl
theorem mw_1238 : Cond.methodLink RX9 84 yX9_lastTerm ∈ TW := tw_of (i := 1238) (by decide +kernel) rfl
theorem mw_1240 : Cond.instanceMethod yX9_lastTerm ∈ TW := tw_of (i := 1240) (by decide +kernel) rfl
theorem mw_1241 : Cond.code yX9_lastTerm cX9_lastTerm 3 (some .int) ∈ TW := tw_of (i := 1241) (by decide +kernel) rfl
theorem mw_1242 : Cond.methodLink RX9 119 yX9_isMajority ∈ TW := tw_of (i := 1242) (by decide +kernel) rfl
theorem mw_1244 : Cond.instanceMethod yX9_isMajority ∈ TW := tw_of (i := 1244) (by decide +kernel) rfl
theorem mw_1245 : Cond.code yX9_isMajority cX9_isMajority 2 (some .boolean) ∈ TW := tw_of (i := 1245) (by decide +kernel) rfl
theorem mw_1250 : Cond.methodLink RX9 146 yX9_sends ∈ TW := tw_of (i := 1250) (by decide +kernel) rfl
theorem mw_1252 : Cond.instanceMethod yX9_sends ∈ TW := tw_of (i := 1252) (by decide +kernel) rfl
theorem mw_1253 : Cond.code yX9_sends cX9_sends 2 (some .int) ∈ TW := tw_of (i := 1253) (by decide +kernel) rfl
theorem mw_1254 : Cond.methodLink RX9 140 yX9_isNoLeader ∈ TW := tw_of (i := 1254) (by decide +kernel) rfl
theorem mw_1256 : Cond.instanceMethod yX9_isNoLeader ∈ TW := tw_of (i := 1256) (by decide +kernel) rfl
theorem mw_1257 : Cond.code yX9_isNoLeader cX9_isNoLeader 2 (some .boolean) ∈ TW := tw_of (i := 1257) (by decide +kernel) rfl
theorem mw_1258 : Cond.methodLink RX9 143 yX9_sendsNow ∈ TW := tw_of (i := 1258) (by decide +kernel) rfl
theorem mw_1260 : Cond.instanceMethod yX9_sendsNow ∈ TW := tw_of (i := 1260) (by decide +kernel) rfl
theorem mw_1261 : Cond.code yX9_sendsNow cX9_sendsNow 4 (some .int) ∈ TW := tw_of (i := 1261) (by decide +kernel) rfl
theorem mw_1262 : Cond.methodLink RX9 134 yX9_gets ∈ TW := tw_of (i := 1262) (by decide +kernel) rfl
theorem mw_1264 : Cond.instanceMethod yX9_gets ∈ TW := tw_of (i := 1264) (by decide +kernel) rfl
theorem mw_1265 : Cond.code yX9_gets cX9_gets 6 none ∈ TW := tw_of (i := 1265) (by decide +kernel) rfl
theorem mw_1266 : Cond.methodLink RX9 131 yX9_alikeTo ∈ TW := tw_of (i := 1266) (by decide +kernel) rfl
theorem mw_1268 : Cond.instanceMethod yX9_alikeTo ∈ TW := tw_of (i := 1268) (by decide +kernel) rfl
theorem mw_1269 : Cond.code yX9_alikeTo cX9_alikeTo 5 (some .int) ∈ TW := tw_of (i := 1269) (by decide +kernel) rfl
theorem mw_1270 : Cond.methodLink RX9 137 yX9_lastOwn ∈ TW := tw_of (i := 1270) (by decide +kernel) rfl
theorem mw_1272 : Cond.instanceMethod yX9_lastOwn ∈ TW := tw_of (i := 1272) (by decide +kernel) rfl
theorem mw_1273 : Cond.code yX9_lastOwn cX9_lastOwn 3 (some .int) ∈ TW := tw_of (i := 1273) (by decide +kernel) rfl
theorem mw_1278 : Cond.methodLink RX9 149 yX9_shouts ∈ TW := tw_of (i := 1278) (by decide +kernel) rfl
theorem mw_1280 : Cond.instanceMethod yX9_shouts ∈ TW := tw_of (i := 1280) (by decide +kernel) rfl
theorem mw_1281 : Cond.code yX9_shouts cX9_shouts 4 (some .int) ∈ TW := tw_of (i := 1281) (by decide +kernel) rfl
theorem mw_1286 : Cond.methodLink RX9 156 yX9_washes ∈ TW := tw_of (i := 1286) (by decide +kernel) rfl
theorem mw_1288 : Cond.instanceMethod yX9_washes ∈ TW := tw_of (i := 1288) (by decide +kernel) rfl
theorem mw_1289 : Cond.code yX9_washes cX9_washes 2 (some .int) ∈ TW := tw_of (i := 1289) (by decide +kernel) rfl
theorem mw_1290 : Cond.methodLink RX9 152 yX9_aboard ∈ TW := tw_of (i := 1290) (by decide +kernel) rfl
theorem mw_1292 : Cond.instanceMethod yX9_aboard ∈ TW := tw_of (i := 1292) (by decide +kernel) rfl
theorem mw_1293 : Cond.code yX9_aboard cX9_aboard 3 (some .int) ∈ TW := tw_of (i := 1293) (by decide +kernel) rfl
theorem mw_1298 : Cond.methodLink RX9 159 yX9_comesBack ∈ TW := tw_of (i := 1298) (by decide +kernel) rfl
theorem mw_1300 : Cond.instanceMethod yX9_comesBack ∈ TW := tw_of (i := 1300) (by decide +kernel) rfl
theorem mw_1301 : Cond.code yX9_comesBack cX9_comesBack 2 (some .int) ∈ TW := tw_of (i := 1301) (by decide +kernel) rfl
theorem mw_1306 : Cond.methodLink RX9 168 yX9_ropes ∈ TW := tw_of (i := 1306) (by decide +kernel) rfl
theorem mw_1308 : Cond.instanceMethod yX9_ropes ∈ TW := tw_of (i := 1308) (by decide +kernel) rfl
theorem mw_1309 : Cond.code yX9_ropes cX9_ropes 4 (some .int) ∈ TW := tw_of (i := 1309) (by decide +kernel) rfl
theorem mw_1310 : Cond.methodLink RX9 162 yX9_areDrivers ∈ TW := tw_of (i := 1310) (by decide +kernel) rfl
theorem mw_1312 : Cond.instanceMethod yX9_areDrivers ∈ TW := tw_of (i := 1312) (by decide +kernel) rfl
theorem mw_1313 : Cond.code yX9_areDrivers cX9_areDrivers 3 (some .boolean) ∈ TW := tw_of (i := 1313) (by decide +kernel) rfl
theorem mw_1314 : Cond.methodLink RX9 165 yX9_ropesCut ∈ TW := tw_of (i := 1314) (by decide +kernel) rfl
theorem mw_1316 : Cond.instanceMethod yX9_ropesCut ∈ TW := tw_of (i := 1316) (by decide +kernel) rfl
theorem mw_1317 : Cond.code yX9_ropesCut cX9_ropesCut 3 (some .int) ∈ TW := tw_of (i := 1317) (by decide +kernel) rfl
theorem mw_1326 : Cond.methodLink RX9 179 yX9_beatsGo ∈ TW := tw_of (i := 1326) (by decide +kernel) rfl
theorem mw_1328 : Cond.instanceMethod yX9_beatsGo ∈ TW := tw_of (i := 1328) (by decide +kernel) rfl
theorem mw_1329 : Cond.code yX9_beatsGo cX9_beatsGo 4 (some .int) ∈ TW := tw_of (i := 1329) (by decide +kernel) rfl
theorem mw_1330 : Cond.methodLink RX9 176 yX9_beatGoes ∈ TW := tw_of (i := 1330) (by decide +kernel) rfl
theorem mw_1332 : Cond.instanceMethod yX9_beatGoes ∈ TW := tw_of (i := 1332) (by decide +kernel) rfl
theorem mw_1333 : Cond.code yX9_beatGoes cX9_beatGoes 3 none ∈ TW := tw_of (i := 1333) (by decide +kernel) rfl
theorem mw_1334 : Cond.methodLink RX9 172 yX9_waits ∈ TW := tw_of (i := 1334) (by decide +kernel) rfl
theorem mw_1336 : Cond.instanceMethod yX9_waits ∈ TW := tw_of (i := 1336) (by decide +kernel) rfl
theorem mw_1337 : Cond.code yX9_waits cX9_waits 3 none ∈ TW := tw_of (i := 1337) (by decide +kernel) rfl
theorem mw_1380 : Cond.methodLink RX9 188 yX9_sign ∈ TW := tw_of (i := 1380) (by decide +kernel) rfl
theorem mw_1382 : Cond.instanceMethod yX9_sign ∈ TW := tw_of (i := 1382) (by decide +kernel) rfl
theorem mw_1383 : Cond.code yX9_sign cX9_sign 1 (some .int) ∈ TW := tw_of (i := 1383) (by decide +kernel) rfl
theorem mw_1412 : Cond.methodLink RX9 261 yX9_reachedBy ∈ TW := tw_of (i := 1412) (by decide +kernel) rfl
theorem mw_1414 : Cond.instanceMethod yX9_reachedBy ∈ TW := tw_of (i := 1414) (by decide +kernel) rfl
theorem mw_1415 : Cond.code yX9_reachedBy cX9_reachedBy 4 (some .int) ∈ TW := tw_of (i := 1415) (by decide +kernel) rfl
theorem mw_1420 : Cond.methodLink RX9 264 yX9_isLine ∈ TW := tw_of (i := 1420) (by decide +kernel) rfl
theorem mw_1422 : Cond.instanceMethod yX9_isLine ∈ TW := tw_of (i := 1422) (by decide +kernel) rfl
theorem mw_1423 : Cond.code yX9_isLine cX9_isLine 3 (some .boolean) ∈ TW := tw_of (i := 1423) (by decide +kernel) rfl
theorem mw_1440 : Cond.methodLink RX9 267 yX9_wouldGive ∈ TW := tw_of (i := 1440) (by decide +kernel) rfl
theorem mw_1442 : Cond.instanceMethod yX9_wouldGive ∈ TW := tw_of (i := 1442) (by decide +kernel) rfl
theorem mw_1443 : Cond.code yX9_wouldGive cX9_wouldGive 5 (some .boolean) ∈ TW := tw_of (i := 1443) (by decide +kernel) rfl
theorem mw_1448 : Cond.methodLink RX9 270 yX9_codeOfAsking ∈ TW := tw_of (i := 1448) (by decide +kernel) rfl
theorem mw_1450 : Cond.instanceMethod yX9_codeOfAsking ∈ TW := tw_of (i := 1450) (by decide +kernel) rfl
theorem mw_1451 : Cond.code yX9_codeOfAsking cX9_codeOfAsking 2 (some .int) ∈ TW := tw_of (i := 1451) (by decide +kernel) rfl
theorem mw_1484 : Cond.methodLink RX9 273 yX9_isAhead ∈ TW := tw_of (i := 1484) (by decide +kernel) rfl
theorem mw_1486 : Cond.instanceMethod yX9_isAhead ∈ TW := tw_of (i := 1486) (by decide +kernel) rfl
theorem mw_1487 : Cond.code yX9_isAhead cX9_isAhead 5 (some .boolean) ∈ TW := tw_of (i := 1487) (by decide +kernel) rfl
theorem mw_1492 : Cond.methodLink RX9 276 yX9_waitsYet ∈ TW := tw_of (i := 1492) (by decide +kernel) rfl
theorem mw_1494 : Cond.instanceMethod yX9_waitsYet ∈ TW := tw_of (i := 1494) (by decide +kernel) rfl
theorem mw_1495 : Cond.code yX9_waitsYet cX9_waitsYet 2 (some .int) ∈ TW := tw_of (i := 1495) (by decide +kernel) rfl
theorem mw_1496 : Cond.methodLink RX9 279 yX9_doesWait ∈ TW := tw_of (i := 1496) (by decide +kernel) rfl
theorem mw_1498 : Cond.instanceMethod yX9_doesWait ∈ TW := tw_of (i := 1498) (by decide +kernel) rfl
theorem mw_1499 : Cond.code yX9_doesWait cX9_doesWait 2 (some .boolean) ∈ TW := tw_of (i := 1499) (by decide +kernel) rfl
theorem mw_1508 : Cond.methodLink RX9 288 yX9_puts ∈ TW := tw_of (i := 1508) (by decide +kernel) rfl
theorem mw_1510 : Cond.instanceMethod yX9_puts ∈ TW := tw_of (i := 1510) (by decide +kernel) rfl
theorem mw_1511 : Cond.code yX9_puts cX9_puts 2 none ∈ TW := tw_of (i := 1511) (by decide +kernel) rfl
theorem mw_1540 : Cond.methodLink RX9 294 yX9_greatestTerm ∈ TW := tw_of (i := 1540) (by decide +kernel) rfl
theorem mw_1542 : Cond.instanceMethod yX9_greatestTerm ∈ TW := tw_of (i := 1542) (by decide +kernel) rfl
theorem mw_1543 : Cond.code yX9_greatestTerm cX9_greatestTerm 3 (some .int) ∈ TW := tw_of (i := 1543) (by decide +kernel) rfl
theorem uin_X9 : ∀ w ∈ u_ws RX9 TX9 20, w ∈ TW := by decide +kernel
theorem fl_X9_9 : FL RX9 9 8 0 true (.array .int) := ⟨RX9, TX9, 20, tyX9, rfl, by decide, mw_1082, uin_X9, tyX9_ok, nmX9, rfl, by decide +kernel⟩
theorem fl_X9_42 : FL RX9 42 8 5 false .int := ⟨RX9, TX9, 20, tyX9, rfl, by decide, mw_1087, uin_X9, tyX9_ok, nmX9, rfl, by decide +kernel⟩
theorem fl_X9_48 : FL RX9 48 8 6 false .int := ⟨RX9, TX9, 20, tyX9, rfl, by decide, mw_1088, uin_X9, tyX9_ok, nmX9, rfl, by decide +kernel⟩
theorem fl_X9_51 : FL RX9 51 8 7 false .int := ⟨RX9, TX9, 20, tyX9, rfl, by decide, mw_1089, uin_X9, tyX9_ok, nmX9, rfl, by decide +kernel⟩
theorem fl_X9_54 : FL RX9 54 8 8 false .int := ⟨RX9, TX9, 20, tyX9, rfl, by decide, mw_1090, uin_X9, tyX9_ok, nmX9, rfl, by decide +kernel⟩
theorem fl_X9_13 : FL RX9 13 8 1 true (.array .int) := ⟨RX9, TX9, 20, tyX9, rfl, by decide, mw_1083, uin_X9, tyX9_ok, nmX9, rfl, by decide +kernel⟩
theorem fl_X9_22 : FL RX9 22 8 4 true (.array .int) := ⟨RX9, TX9, 20, tyX9, rfl, by decide, mw_1086, uin_X9, tyX9_ok, nmX9, rfl, by decide +kernel⟩
theorem fl_X9_182 : FL RX9 182 8 14 false .int := ⟨RX9, TX9, 20, tyX9, rfl, by decide, mw_1096, uin_X9, tyX9_ok, nmX9, rfl, by decide +kernel⟩
theorem fl_X9_29 : FL RX9 29 8 12 true (.array .int) := ⟨RX9, TX9, 20, tyX9, rfl, by decide, mw_1094, uin_X9, tyX9_ok, nmX9, rfl, by decide +kernel⟩
theorem fl_X9_185 : FL RX9 185 8 15 false .int := ⟨RX9, TX9, 20, tyX9, rfl, by decide, mw_1097, uin_X9, tyX9_ok, nmX9, rfl, by decide +kernel⟩
theorem fl_X9_32 : FL RX9 32 8 13 true (.array .int) := ⟨RX9, TX9, 20, tyX9, rfl, by decide, mw_1095, uin_X9, tyX9_ok, nmX9, rfl, by decide +kernel⟩
theorem fl_X9_248 : FL RX9 248 8 9 false .int := ⟨RX9, TX9, 20, tyX9, rfl, by decide, mw_1091, uin_X9, tyX9_ok, nmX9, rfl, by decide +kernel⟩
theorem fl_X9_25 : FL RX9 25 8 10 false .int := ⟨RX9, TX9, 20, tyX9, rfl, by decide, mw_1092, uin_X9, tyX9_ok, nmX9, rfl, by decide +kernel⟩
theorem fl_X9_35 : FL RX9 35 8 18 true (.array .int) := ⟨RX9, TX9, 20, tyX9, rfl, by decide, mw_1100, uin_X9, tyX9_ok, nmX9, rfl, by decide +kernel⟩
theorem fl_X9_282 : FL RX9 282 8 19 false .int := ⟨RX9, TX9, 20, tyX9, rfl, by decide, mw_1101, uin_X9, tyX9_ok, nmX9, rfl, by decide +kernel⟩
theorem fl_X9_19 : FL RX9 19 8 3 true (.array .int) := ⟨RX9, TX9, 20, tyX9, rfl, by decide, mw_1085, uin_X9, tyX9_ok, nmX9, rfl, by decide +kernel⟩
theorem fl_X9_297 : FL RX9 297 8 11 false .boolean := ⟨RX9, TX9, 20, tyX9, rfl, by decide, mw_1093, uin_X9, tyX9_ok, nmX9, rfl, by decide +kernel⟩
theorem fl_X9_16 : FL RX9 16 8 2 true (.array .int) := ⟨RX9, TX9, 20, tyX9, rfl, by decide, mw_1084, uin_X9, tyX9_ok, nmX9, rfl, by decide +kernel⟩
theorem mv_X9_38 : MS RX9 38 yX9_copies cX9_copies 5 none 4 := ⟨gi_cons mw_1155 (gi_cons mw_1156 (gi_cons mw_94 (gi_cons mw_1157 tw_good))), by decide +kernel⟩
theorem mv_X9_61 : MS RX9 61 yX9_isIn cX9_isIn 3 (some .boolean) 3 := ⟨gi_cons mw_1162 (gi_cons mw_1163 (gi_cons mw_94 (gi_cons mw_1164 tw_good))), by decide +kernel⟩
theorem mv_X9_57 : MS RX9 57 yX9_at cX9_at 2 (some .int) 2 := ⟨gi_cons mw_1173 (gi_cons mw_1174 (gi_cons mw_94 (gi_cons mw_1175 tw_good))), by decide +kernel⟩
theorem mv_X9_69 : MV RX9 69 yX9_of cX9_of 3 (some .int) 2 := ⟨gi_cons mw_1204 (gi_cons mw_1206 (gi_cons mw_36 (gi_cons mw_94 (gi_cons mw_1207 tw_good)))), by decide +kernel⟩
theorem mv_X9_72 : MS RX9 72 yX9_lesser cX9_lesser 2 (some .int) 2 := ⟨gi_cons mw_1220 (gi_cons mw_1221 (gi_cons mw_94 (gi_cons mw_1222 tw_good))), by decide +kernel⟩
theorem mv_X9_65 : MV RX9 65 yX9_isDriver cX9_isDriver 2 (some .boolean) 1 := ⟨gi_cons mw_1192 (gi_cons mw_1194 (gi_cons mw_33 (gi_cons mw_94 (gi_cons mw_1195 tw_good)))), by decide +kernel⟩
theorem mv_X9_188 : MV RX9 188 yX9_sign cX9_sign 1 (some .int) 0 := ⟨gi_cons mw_1380 (gi_cons mw_1382 (gi_cons mw_66 (gi_cons mw_94 (gi_cons mw_1383 tw_good)))), by decide +kernel⟩
theorem mv_X9_162 : MV RX9 162 yX9_areDrivers cX9_areDrivers 3 (some .boolean) 2 := ⟨gi_cons mw_1310 (gi_cons mw_1312 (gi_cons mw_56 (gi_cons mw_94 (gi_cons mw_1313 tw_good)))), by decide +kernel⟩
theorem mv_X9_131 : MV RX9 131 yX9_alikeTo cX9_alikeTo 5 (some .int) 2 := ⟨gi_cons mw_1266 (gi_cons mw_1268 (gi_cons mw_49 (gi_cons mw_94 (gi_cons mw_1269 tw_good)))), by decide +kernel⟩
theorem mv_X9_264 : MV RX9 264 yX9_isLine cX9_isLine 3 (some .boolean) 2 := ⟨gi_cons mw_1420 (gi_cons mw_1422 (gi_cons mw_72 (gi_cons mw_94 (gi_cons mw_1423 tw_good)))), by decide +kernel⟩
theorem mv_X9_75 : MS RX9 75 yX9_greater cX9_greater 2 (some .int) 2 := ⟨gi_cons mw_1223 (gi_cons mw_1224 (gi_cons mw_94 (gi_cons mw_1225 tw_good))), by decide +kernel⟩
theorem mv_X9_288 : MV RX9 288 yX9_puts cX9_puts 2 none 1 := ⟨gi_cons mw_1508 (gi_cons mw_1510 (gi_cons mw_78 (gi_cons mw_94 (gi_cons mw_1511 tw_good)))), by decide +kernel⟩
theorem mv_X9_45 : MV RX9 45 yX9_changed cX9_changed 2 none 0 := ⟨gi_cons mw_1180 (gi_cons mw_1182 (gi_cons mw_31 (gi_cons mw_94 (gi_cons mw_1183 tw_good)))), by decide +kernel⟩
theorem mv_X9_92 : MV RX9 92 yX9_sets cX9_sets 4 none 3 := ⟨gi_cons mw_1169 (gi_cons mw_1171 (gi_cons mw_29 (gi_cons mw_94 (gi_cons mw_1172 tw_good)))), by decide +kernel⟩
theorem mv_X9_84 : MV RX9 84 yX9_lastTerm cX9_lastTerm 3 (some .int) 1 := ⟨gi_cons mw_1238 (gi_cons mw_1240 (gi_cons mw_43 (gi_cons mw_94 (gi_cons mw_1241 tw_good)))), by decide +kernel⟩
theorem mv_X9_112 : MV RX9 112 yX9_takesOver cX9_takesOver 3 none 2 := ⟨gi_cons mw_1226 (gi_cons mw_1228 (gi_cons mw_40 (gi_cons mw_94 (gi_cons mw_1229 tw_good)))), by decide +kernel⟩
theorem mv_X9_78 : MV RX9 78 yX9_isAboard cX9_isAboard 2 (some .boolean) 1 := ⟨gi_cons mw_1200 (gi_cons mw_1202 (gi_cons mw_35 (gi_cons mw_94 (gi_cons mw_1203 tw_good)))), by decide +kernel⟩
theorem mv_X9_88 : MV RX9 88 yX9_isRefused cX9_isRefused 4 (some .boolean) 3 := ⟨gi_cons mw_1165 (gi_cons mw_1167 (gi_cons mw_28 (gi_cons mw_94 (gi_cons mw_1168 tw_good)))), by decide +kernel⟩
theorem mv_X9_152 : MV RX9 152 yX9_aboard cX9_aboard 3 (some .int) 0 := ⟨gi_cons mw_1290 (gi_cons mw_1292 (gi_cons mw_53 (gi_cons mw_94 (gi_cons mw_1293 tw_good)))), by decide +kernel⟩
theorem mv_X9_81 : MV RX9 81 yX9_ropeAt cX9_ropeAt 3 (some .int) 2 := ⟨gi_cons mw_1216 (gi_cons mw_1218 (gi_cons mw_39 (gi_cons mw_94 (gi_cons mw_1219 tw_good)))), by decide +kernel⟩
theorem mv_X9_165 : MV RX9 165 yX9_ropesCut cX9_ropesCut 3 (some .int) 0 := ⟨gi_cons mw_1314 (gi_cons mw_1316 (gi_cons mw_57 (gi_cons mw_94 (gi_cons mw_1317 tw_good)))), by decide +kernel⟩
theorem mv_X9_96 : MV RX9 96 yX9_keeps cX9_keeps 1 none 0 := ⟨gi_cons mw_1151 (gi_cons mw_1153 (gi_cons mw_26 (gi_cons mw_94 (gi_cons mw_1154 tw_good)))), by decide +kernel⟩
theorem mv_X9_168 : MV RX9 168 yX9_ropes cX9_ropes 4 (some .int) 3 := ⟨gi_cons mw_1306 (gi_cons mw_1308 (gi_cons mw_55 (gi_cons mw_94 (gi_cons mw_1309 tw_good)))), by decide +kernel⟩
theorem mv_X9_102 : MV RX9 102 yX9_ends cX9_ends 2 (some .int) 1 := ⟨gi_cons mw_1176 (gi_cons mw_1178 (gi_cons mw_30 (gi_cons mw_94 (gi_cons mw_1179 tw_good)))), by decide +kernel⟩
theorem mv_X9_105 : MV RX9 105 yX9_longerOf cX9_longerOf 4 (some .int) 2 := ⟨gi_cons mw_1234 (gi_cons mw_1236 (gi_cons mw_42 (gi_cons mw_94 (gi_cons mw_1237 tw_good)))), by decide +kernel⟩
theorem mv_X9_294 : MV RX9 294 yX9_greatestTerm cX9_greatestTerm 3 (some .int) 0 := ⟨gi_cons mw_1540 (gi_cons mw_1542 (gi_cons mw_81 (gi_cons mw_94 (gi_cons mw_1543 tw_good)))), by decide +kernel⟩
theorem mv_X9_122 : MV RX9 122 yX9_isWashed cX9_isWashed 2 (some .boolean) 1 := ⟨gi_cons mw_1196 (gi_cons mw_1198 (gi_cons mw_34 (gi_cons mw_94 (gi_cons mw_1199 tw_good)))), by decide +kernel⟩
theorem mv_X9_119 : MV RX9 119 yX9_isMajority cX9_isMajority 2 (some .boolean) 1 := ⟨gi_cons mw_1242 (gi_cons mw_1244 (gi_cons mw_44 (gi_cons mw_94 (gi_cons mw_1245 tw_good)))), by decide +kernel⟩
theorem mv_X9_137 : MV RX9 137 yX9_lastOwn cX9_lastOwn 3 (some .int) 1 := ⟨gi_cons mw_1270 (gi_cons mw_1272 (gi_cons mw_50 (gi_cons mw_94 (gi_cons mw_1273 tw_good)))), by decide +kernel⟩
theorem mv_X9_108 : MV RX9 108 yX9_isReached cX9_isReached 3 (some .boolean) 2 := ⟨gi_cons mw_1212 (gi_cons mw_1214 (gi_cons mw_38 (gi_cons mw_94 (gi_cons mw_1215 tw_good)))), by decide +kernel⟩
theorem mv_X9_134 : MV RX9 134 yX9_gets cX9_gets 6 none 2 := ⟨gi_cons mw_1262 (gi_cons mw_1264 (gi_cons mw_48 (gi_cons mw_94 (gi_cons mw_1265 tw_good)))), by decide +kernel⟩
theorem mv_X9_140 : MV RX9 140 yX9_isNoLeader cX9_isNoLeader 2 (some .boolean) 1 := ⟨gi_cons mw_1254 (gi_cons mw_1256 (gi_cons mw_46 (gi_cons mw_94 (gi_cons mw_1257 tw_good)))), by decide +kernel⟩
theorem mv_X9_159 : MV RX9 159 yX9_comesBack cX9_comesBack 2 (some .int) 1 := ⟨gi_cons mw_1298 (gi_cons mw_1300 (gi_cons mw_54 (gi_cons mw_94 (gi_cons mw_1301 tw_good)))), by decide +kernel⟩
theorem mv_X9_267 : MV RX9 267 yX9_wouldGive cX9_wouldGive 5 (some .boolean) 2 := ⟨gi_cons mw_1440 (gi_cons mw_1442 (gi_cons mw_73 (gi_cons mw_94 (gi_cons mw_1443 tw_good)))), by decide +kernel⟩
theorem mv_X9_270 : MV RX9 270 yX9_codeOfAsking cX9_codeOfAsking 2 (some .int) 1 := ⟨gi_cons mw_1448 (gi_cons mw_1450 (gi_cons mw_74 (gi_cons mw_94 (gi_cons mw_1451 tw_good)))), by decide +kernel⟩
theorem mv_X9_273 : MV RX9 273 yX9_isAhead cX9_isAhead 5 (some .boolean) 2 := ⟨gi_cons mw_1484 (gi_cons mw_1486 (gi_cons mw_75 (gi_cons mw_94 (gi_cons mw_1487 tw_good)))), by decide +kernel⟩
theorem mv_X9_279 : MV RX9 279 yX9_doesWait cX9_doesWait 2 (some .boolean) 1 := ⟨gi_cons mw_1496 (gi_cons mw_1498 (gi_cons mw_77 (gi_cons mw_94 (gi_cons mw_1499 tw_good)))), by decide +kernel⟩
theorem mv_X9_276 : MV RX9 276 yX9_waitsYet cX9_waitsYet 2 (some .int) 1 := ⟨gi_cons mw_1492 (gi_cons mw_1494 (gi_cons mw_76 (gi_cons mw_94 (gi_cons mw_1495 tw_good)))), by decide +kernel⟩
theorem mv_X9_99 : MV RX9 99 yX9_comes cX9_comes 3 (some .int) 1 := ⟨gi_cons mw_1158 (gi_cons mw_1160 (gi_cons mw_27 (gi_cons mw_94 (gi_cons mw_1161 tw_good)))), by decide +kernel⟩
theorem mv_X9_116 : MV RX9 116 yX9_votes cX9_votes 4 (some .boolean) 2 := ⟨gi_cons mw_1230 (gi_cons mw_1232 (gi_cons mw_41 (gi_cons mw_94 (gi_cons mw_1233 tw_good)))), by decide +kernel⟩
theorem mv_X9_143 : MV RX9 143 yX9_sendsNow cX9_sendsNow 4 (some .int) 1 := ⟨gi_cons mw_1258 (gi_cons mw_1260 (gi_cons mw_47 (gi_cons mw_94 (gi_cons mw_1261 tw_good)))), by decide +kernel⟩
theorem mv_X9_149 : MV RX9 149 yX9_shouts cX9_shouts 4 (some .int) 2 := ⟨gi_cons mw_1278 (gi_cons mw_1280 (gi_cons mw_51 (gi_cons mw_94 (gi_cons mw_1281 tw_good)))), by decide +kernel⟩
theorem mv_X9_156 : MV RX9 156 yX9_washes cX9_washes 2 (some .int) 1 := ⟨gi_cons mw_1286 (gi_cons mw_1288 (gi_cons mw_52 (gi_cons mw_94 (gi_cons mw_1289 tw_good)))), by decide +kernel⟩
theorem mv_X9_125 : MV RX9 125 yX9_asksNow cX9_asksNow 4 (some .int) 1 := ⟨gi_cons mw_1208 (gi_cons mw_1210 (gi_cons mw_37 (gi_cons mw_94 (gi_cons mw_1211 tw_good)))), by decide +kernel⟩
theorem mv_X9_261 : MV RX9 261 yX9_reachedBy cX9_reachedBy 4 (some .int) 1 := ⟨gi_cons mw_1412 (gi_cons mw_1414 (gi_cons mw_71 (gi_cons mw_94 (gi_cons mw_1415 tw_good)))), by decide +kernel⟩
theorem mv_X9_146 : MV RX9 146 yX9_sends cX9_sends 2 (some .int) 1 := ⟨gi_cons mw_1250 (gi_cons mw_1252 (gi_cons mw_45 (gi_cons mw_94 (gi_cons mw_1253 tw_good)))), by decide +kernel⟩
theorem mv_X9_172 : MV RX9 172 yX9_waits cX9_waits 3 none 1 := ⟨gi_cons mw_1334 (gi_cons mw_1336 (gi_cons mw_60 (gi_cons mw_94 (gi_cons mw_1337 tw_good)))), by decide +kernel⟩
theorem mv_X9_176 : MV RX9 176 yX9_beatGoes cX9_beatGoes 3 none 0 := ⟨gi_cons mw_1330 (gi_cons mw_1332 (gi_cons mw_59 (gi_cons mw_94 (gi_cons mw_1333 tw_good)))), by decide +kernel⟩
theorem mv_X9_128 : MV RX9 128 yX9_asks cX9_asks 2 (some .int) 1 := ⟨gi_cons mw_1188 (gi_cons mw_1190 (gi_cons mw_32 (gi_cons mw_94 (gi_cons mw_1191 tw_good)))), by decide +kernel⟩
theorem mv_X9_179 : MV RX9 179 yX9_beatsGo cX9_beatsGo 4 (some .int) 1 := ⟨gi_cons mw_1326 (gi_cons mw_1328 (gi_cons mw_58 (gi_cons mw_94 (gi_cons mw_1329 tw_good)))), by decide +kernel⟩
