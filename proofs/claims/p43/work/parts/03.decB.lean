theorem dX4_wouldGrantVote_73 : decode cX4_wouldGrantVote 73 = .ok (.iconst 0, 1) := by decide +kernel
theorem dX4_wouldGrantVote_74 : decode cX4_wouldGrantVote 74 = .ok (.ireturn, 1) := by decide +kernel
theorem dX4_votesToGet_0 : decode cX4_votesToGet 0 = .ok (.aload_n 0, 1) := by decide +kernel
theorem dX4_votesToGet_1 : decode cX4_votesToGet 1 = .ok (.getfield 11, 3) := by decide +kernel
theorem dX4_votesToGet_4 : decode cX4_votesToGet 4 = .ok (.iload_n 1, 1) := by decide +kernel
theorem dX4_votesToGet_5 : decode cX4_votesToGet 5 = .ok (.aaload, 1) := by decide +kernel
theorem dX4_votesToGet_6 : decode cX4_votesToGet 6 = .ok (.getfield 77, 3) := by decide +kernel
theorem dX4_votesToGet_9 : decode cX4_votesToGet 9 = .ok (.iconst 1, 1) := by decide +kernel
theorem dX4_votesToGet_10 : decode cX4_votesToGet 10 = .ok (.iadd, 1) := by decide +kernel
theorem dX4_votesToGet_11 : decode cX4_votesToGet 11 = .ok (.istore_n 2, 1) := by decide +kernel
theorem dX4_votesToGet_12 : decode cX4_votesToGet 12 = .ok (.iconst 1, 1) := by decide +kernel
theorem dX4_votesToGet_13 : decode cX4_votesToGet 13 = .ok (.istore_n 3, 1) := by decide +kernel
theorem dX4_votesToGet_14 : decode cX4_votesToGet 14 = .ok (.iconst 0, 1) := by decide +kernel
theorem dX4_votesToGet_15 : decode cX4_votesToGet 15 = .ok (.istore 4, 2) := by decide +kernel
theorem dX4_votesToGet_17 : decode cX4_votesToGet 17 = .ok (.iload 4, 2) := by decide +kernel
theorem dX4_votesToGet_19 : decode cX4_votesToGet 19 = .ok (.aload_n 0, 1) := by decide +kernel
theorem dX4_votesToGet_20 : decode cX4_votesToGet 20 = .ok (.getfield 22, 3) := by decide +kernel
theorem dX4_votesToGet_23 : decode cX4_votesToGet 23 = .ok (.if_icmp .ge 48, 3) := by decide +kernel
theorem dX4_votesToGet_26 : decode cX4_votesToGet 26 = .ok (.aload_n 0, 1) := by decide +kernel
theorem dX4_votesToGet_27 : decode cX4_votesToGet 27 = .ok (.iload_n 1, 1) := by decide +kernel
theorem dX4_votesToGet_28 : decode cX4_votesToGet 28 = .ok (.iload 4, 2) := by decide +kernel
theorem dX4_votesToGet_30 : decode cX4_votesToGet 30 = .ok (.invokevirtual 70, 3) := by decide +kernel
theorem dX4_votesToGet_33 : decode cX4_votesToGet 33 = .ok (.ifCond .eq 32, 3) := by decide +kernel
theorem dX4_votesToGet_36 : decode cX4_votesToGet 36 = .ok (.aload_n 0, 1) := by decide +kernel
theorem dX4_votesToGet_37 : decode cX4_votesToGet 37 = .ok (.getfield 11, 3) := by decide +kernel
theorem dX4_votesToGet_40 : decode cX4_votesToGet 40 = .ok (.iload 4, 2) := by decide +kernel
theorem dX4_votesToGet_42 : decode cX4_votesToGet 42 = .ok (.aaload, 1) := by decide +kernel
theorem dX4_votesToGet_43 : decode cX4_votesToGet 43 = .ok (.getfield 77, 3) := by decide +kernel
theorem dX4_votesToGet_46 : decode cX4_votesToGet 46 = .ok (.iload_n 2, 1) := by decide +kernel
theorem dX4_votesToGet_47 : decode cX4_votesToGet 47 = .ok (.if_icmp .le 5, 3) := by decide +kernel
theorem dX4_votesToGet_50 : decode cX4_votesToGet 50 = .ok (.iconst 0, 1) := by decide +kernel
theorem dX4_votesToGet_51 : decode cX4_votesToGet 51 = .ok (.ireturn, 1) := by decide +kernel
theorem dX4_votesToGet_52 : decode cX4_votesToGet 52 = .ok (.aload_n 0, 1) := by decide +kernel
theorem dX4_votesToGet_53 : decode cX4_votesToGet 53 = .ok (.iload 4, 2) := by decide +kernel
theorem dX4_votesToGet_55 : decode cX4_votesToGet 55 = .ok (.iload_n 1, 1) := by decide +kernel
theorem dX4_votesToGet_56 : decode cX4_votesToGet 56 = .ok (.invokevirtual 109, 3) := by decide +kernel
theorem dX4_votesToGet_59 : decode cX4_votesToGet 59 = .ok (.ifCond .eq 6, 3) := by decide +kernel
theorem dX4_votesToGet_62 : decode cX4_votesToGet 62 = .ok (.iinc 3 1, 3) := by decide +kernel
theorem dX4_votesToGet_65 : decode cX4_votesToGet 65 = .ok (.iinc 4 1, 3) := by decide +kernel
theorem dX4_votesToGet_68 : decode cX4_votesToGet 68 = .ok (.goto (-51), 3) := by decide +kernel
theorem dX4_votesToGet_71 : decode cX4_votesToGet 71 = .ok (.iload_n 3, 1) := by decide +kernel
theorem dX4_votesToGet_72 : decode cX4_votesToGet 72 = .ok (.ireturn, 1) := by decide +kernel
theorem dX4_sendFrom_0 : decode cX4_sendFrom 0 = .ok (.aload_n 0, 1) := by decide +kernel
theorem dX4_sendFrom_1 : decode cX4_sendFrom 1 = .ok (.getfield 11, 3) := by decide +kernel
theorem dX4_sendFrom_4 : decode cX4_sendFrom 4 = .ok (.iload_n 1, 1) := by decide +kernel
theorem dX4_sendFrom_5 : decode cX4_sendFrom 5 = .ok (.aaload, 1) := by decide +kernel
theorem dX4_sendFrom_6 : decode cX4_sendFrom 6 = .ok (.astore_n 2, 1) := by decide +kernel
theorem dX4_sendFrom_7 : decode cX4_sendFrom 7 = .ok (.aload_n 0, 1) := by decide +kernel
theorem dX4_sendFrom_8 : decode cX4_sendFrom 8 = .ok (.dup, 1) := by decide +kernel
theorem dX4_sendFrom_9 : decode cX4_sendFrom 9 = .ok (.getfield 41, 3) := by decide +kernel
theorem dX4_sendFrom_12 : decode cX4_sendFrom 12 = .ok (.iconst 1, 1) := by decide +kernel
theorem dX4_sendFrom_13 : decode cX4_sendFrom 13 = .ok (.iadd, 1) := by decide +kernel
theorem dX4_sendFrom_14 : decode cX4_sendFrom 14 = .ok (.putfield 41, 3) := by decide +kernel
theorem dX4_sendFrom_17 : decode cX4_sendFrom 17 = .ok (.iconst 1, 1) := by decide +kernel
theorem dX4_sendFrom_18 : decode cX4_sendFrom 18 = .ok (.istore_n 3, 1) := by decide +kernel
theorem dX4_sendFrom_19 : decode cX4_sendFrom 19 = .ok (.iconst 0, 1) := by decide +kernel
theorem dX4_sendFrom_20 : decode cX4_sendFrom 20 = .ok (.istore 4, 2) := by decide +kernel
theorem dX4_sendFrom_22 : decode cX4_sendFrom 22 = .ok (.iload 4, 2) := by decide +kernel
theorem dX4_sendFrom_24 : decode cX4_sendFrom 24 = .ok (.aload_n 0, 1) := by decide +kernel
theorem dX4_sendFrom_25 : decode cX4_sendFrom 25 = .ok (.getfield 22, 3) := by decide +kernel
theorem dX4_sendFrom_28 : decode cX4_sendFrom 28 = .ok (.if_icmp .ge 69, 3) := by decide +kernel
theorem dX4_sendFrom_31 : decode cX4_sendFrom 31 = .ok (.aload_n 0, 1) := by decide +kernel
theorem dX4_sendFrom_32 : decode cX4_sendFrom 32 = .ok (.iload_n 1, 1) := by decide +kernel
theorem dX4_sendFrom_33 : decode cX4_sendFrom 33 = .ok (.iload 4, 2) := by decide +kernel
theorem dX4_sendFrom_35 : decode cX4_sendFrom 35 = .ok (.invokevirtual 70, 3) := by decide +kernel
theorem dX4_sendFrom_38 : decode cX4_sendFrom 38 = .ok (.ifCond .eq 53, 3) := by decide +kernel
theorem dX4_sendFrom_41 : decode cX4_sendFrom 41 = .ok (.aload_n 0, 1) := by decide +kernel
theorem dX4_sendFrom_42 : decode cX4_sendFrom 42 = .ok (.getfield 11, 3) := by decide +kernel
theorem dX4_sendFrom_45 : decode cX4_sendFrom 45 = .ok (.iload 4, 2) := by decide +kernel
theorem dX4_sendFrom_47 : decode cX4_sendFrom 47 = .ok (.aaload, 1) := by decide +kernel
theorem dX4_sendFrom_48 : decode cX4_sendFrom 48 = .ok (.astore 5, 2) := by decide +kernel
theorem dX4_sendFrom_50 : decode cX4_sendFrom 50 = .ok (.aload 5, 2) := by decide +kernel
theorem dX4_sendFrom_52 : decode cX4_sendFrom 52 = .ok (.getfield 77, 3) := by decide +kernel
theorem dX4_sendFrom_55 : decode cX4_sendFrom 55 = .ok (.aload_n 2, 1) := by decide +kernel
theorem dX4_sendFrom_56 : decode cX4_sendFrom 56 = .ok (.getfield 77, 3) := by decide +kernel
theorem dX4_sendFrom_59 : decode cX4_sendFrom 59 = .ok (.if_icmp .le 14, 3) := by decide +kernel
theorem dX4_sendFrom_62 : decode cX4_sendFrom 62 = .ok (.aload_n 2, 1) := by decide +kernel
theorem dX4_sendFrom_63 : decode cX4_sendFrom 63 = .ok (.aload 5, 2) := by decide +kernel
theorem dX4_sendFrom_65 : decode cX4_sendFrom 65 = .ok (.getfield 77, 3) := by decide +kernel
theorem dX4_sendFrom_68 : decode cX4_sendFrom 68 = .ok (.invokevirtual 80, 3) := by decide +kernel
theorem dX4_sendFrom_71 : decode cX4_sendFrom 71 = .ok (.iconst 0, 1) := by decide +kernel
theorem dX4_sendFrom_72 : decode cX4_sendFrom 72 = .ok (.ireturn, 1) := by decide +kernel
theorem dX4_sendFrom_73 : decode cX4_sendFrom 73 = .ok (.aload_n 0, 1) := by decide +kernel
theorem dX4_sendFrom_74 : decode cX4_sendFrom 74 = .ok (.dup, 1) := by decide +kernel
theorem dX4_sendFrom_75 : decode cX4_sendFrom 75 = .ok (.getfield 38, 3) := by decide +kernel
theorem dX4_sendFrom_78 : decode cX4_sendFrom 78 = .ok (.aload 5, 2) := by decide +kernel
theorem dX4_sendFrom_80 : decode cX4_sendFrom 80 = .ok (.aload_n 2, 1) := by decide +kernel
theorem dX4_sendFrom_81 : decode cX4_sendFrom 81 = .ok (.invokevirtual 112, 3) := by decide +kernel
theorem dX4_sendFrom_84 : decode cX4_sendFrom 84 = .ok (.iadd, 1) := by decide +kernel
theorem dX4_sendFrom_85 : decode cX4_sendFrom 85 = .ok (.putfield 38, 3) := by decide +kernel
theorem dX4_sendFrom_88 : decode cX4_sendFrom 88 = .ok (.iinc 3 1, 3) := by decide +kernel
theorem dX4_sendFrom_91 : decode cX4_sendFrom 91 = .ok (.iinc 4 1, 3) := by decide +kernel
theorem dX4_sendFrom_94 : decode cX4_sendFrom 94 = .ok (.goto (-72), 3) := by decide +kernel
theorem dX4_sendFrom_97 : decode cX4_sendFrom 97 = .ok (.aload_n 0, 1) := by decide +kernel
theorem dX4_sendFrom_98 : decode cX4_sendFrom 98 = .ok (.iload_n 3, 1) := by decide +kernel
theorem dX4_sendFrom_99 : decode cX4_sendFrom 99 = .ok (.invokevirtual 87, 3) := by decide +kernel
theorem dX4_sendFrom_102 : decode cX4_sendFrom 102 = .ok (.ifCond .eq 7, 3) := by decide +kernel
theorem dX4_sendFrom_105 : decode cX4_sendFrom 105 = .ok (.aload_n 2, 1) := by decide +kernel
theorem dX4_sendFrom_106 : decode cX4_sendFrom 106 = .ok (.invokevirtual 116, 3) := by decide +kernel
theorem dX4_sendFrom_109 : decode cX4_sendFrom 109 = .ok (.iload_n 3, 1) := by decide +kernel
theorem dX4_sendFrom_110 : decode cX4_sendFrom 110 = .ok (.ireturn, 1) := by decide +kernel
theorem dX4_passBeats_0 : decode cX4_passBeats 0 = .ok (.aload_n 0, 1) := by decide +kernel
theorem dX4_passBeats_1 : decode cX4_passBeats 1 = .ok (.getfield 29, 3) := by decide +kernel
theorem dX4_passBeats_4 : decode cX4_passBeats 4 = .ok (.istore_n 2, 1) := by decide +kernel
theorem dX4_passBeats_5 : decode cX4_passBeats 5 = .ok (.iconst 0, 1) := by decide +kernel
theorem dX4_passBeats_6 : decode cX4_passBeats 6 = .ok (.istore_n 3, 1) := by decide +kernel
theorem dX4_passBeats_7 : decode cX4_passBeats 7 = .ok (.iload_n 3, 1) := by decide +kernel
theorem dX4_passBeats_8 : decode cX4_passBeats 8 = .ok (.iload_n 1, 1) := by decide +kernel
theorem dX4_passBeats_9 : decode cX4_passBeats 9 = .ok (.if_icmp .ge 80, 3) := by decide +kernel
theorem dX4_passBeats_12 : decode cX4_passBeats 12 = .ok (.iconst 0, 1) := by decide +kernel
theorem dX4_passBeats_13 : decode cX4_passBeats 13 = .ok (.istore 4, 2) := by decide +kernel
theorem dX4_passBeats_15 : decode cX4_passBeats 15 = .ok (.iload 4, 2) := by decide +kernel
theorem dX4_passBeats_17 : decode cX4_passBeats 17 = .ok (.aload_n 0, 1) := by decide +kernel
theorem dX4_passBeats_18 : decode cX4_passBeats 18 = .ok (.getfield 22, 3) := by decide +kernel
theorem dX4_passBeats_21 : decode cX4_passBeats 21 = .ok (.if_icmp .ge 52, 3) := by decide +kernel
theorem dX4_passBeats_24 : decode cX4_passBeats 24 = .ok (.aload_n 0, 1) := by decide +kernel
theorem dX4_passBeats_25 : decode cX4_passBeats 25 = .ok (.getfield 11, 3) := by decide +kernel
theorem dX4_passBeats_28 : decode cX4_passBeats 28 = .ok (.iload 4, 2) := by decide +kernel
theorem dX4_passBeats_30 : decode cX4_passBeats 30 = .ok (.aaload, 1) := by decide +kernel
theorem dX4_passBeats_31 : decode cX4_passBeats 31 = .ok (.invokevirtual 119, 3) := by decide +kernel
theorem dX4_passBeats_34 : decode cX4_passBeats 34 = .ok (.ifCond .eq 13, 3) := by decide +kernel
theorem dX4_passBeats_37 : decode cX4_passBeats 37 = .ok (.aload_n 0, 1) := by decide +kernel
theorem dX4_passBeats_38 : decode cX4_passBeats 38 = .ok (.iload 4, 2) := by decide +kernel
theorem dX4_passBeats_40 : decode cX4_passBeats 40 = .ok (.invokevirtual 123, 3) := by decide +kernel
theorem dX4_passBeats_43 : decode cX4_passBeats 43 = .ok (.pop, 1) := by decide +kernel
theorem dX4_passBeats_44 : decode cX4_passBeats 44 = .ok (.goto 23, 3) := by decide +kernel
theorem dX4_passBeats_47 : decode cX4_passBeats 47 = .ok (.aload_n 0, 1) := by decide +kernel
theorem dX4_passBeats_48 : decode cX4_passBeats 48 = .ok (.getfield 11, 3) := by decide +kernel
theorem dX4_passBeats_51 : decode cX4_passBeats 51 = .ok (.iload 4, 2) := by decide +kernel
theorem dX4_passBeats_53 : decode cX4_passBeats 53 = .ok (.aaload, 1) := by decide +kernel
theorem dX4_passBeats_54 : decode cX4_passBeats 54 = .ok (.invokevirtual 127, 3) := by decide +kernel
theorem dX4_passBeats_57 : decode cX4_passBeats 57 = .ok (.ifCond .eq 10, 3) := by decide +kernel
theorem dX4_passBeats_60 : decode cX4_passBeats 60 = .ok (.aload_n 0, 1) := by decide +kernel
theorem dX4_passBeats_61 : decode cX4_passBeats 61 = .ok (.iload 4, 2) := by decide +kernel
theorem dX4_passBeats_63 : decode cX4_passBeats 63 = .ok (.invokevirtual 130, 3) := by decide +kernel
theorem dX4_passBeats_66 : decode cX4_passBeats 66 = .ok (.pop, 1) := by decide +kernel
theorem dX4_passBeats_67 : decode cX4_passBeats 67 = .ok (.iinc 4 1, 3) := by decide +kernel
theorem dX4_passBeats_70 : decode cX4_passBeats 70 = .ok (.goto (-55), 3) := by decide +kernel
theorem dX4_passBeats_73 : decode cX4_passBeats 73 = .ok (.aload_n 0, 1) := by decide +kernel
theorem dX4_passBeats_74 : decode cX4_passBeats 74 = .ok (.dup, 1) := by decide +kernel
theorem dX4_passBeats_75 : decode cX4_passBeats 75 = .ok (.getfield 26, 3) := by decide +kernel
theorem dX4_passBeats_78 : decode cX4_passBeats 78 = .ok (.iconst 1, 1) := by decide +kernel
theorem dX4_passBeats_79 : decode cX4_passBeats 79 = .ok (.iadd, 1) := by decide +kernel
theorem dX4_passBeats_80 : decode cX4_passBeats 80 = .ok (.putfield 26, 3) := by decide +kernel
theorem dX4_passBeats_83 : decode cX4_passBeats 83 = .ok (.iinc 3 1, 3) := by decide +kernel
theorem dX4_passBeats_86 : decode cX4_passBeats 86 = .ok (.goto (-79), 3) := by decide +kernel
theorem dX4_passBeats_89 : decode cX4_passBeats 89 = .ok (.aload_n 0, 1) := by decide +kernel
theorem dX4_passBeats_90 : decode cX4_passBeats 90 = .ok (.getfield 29, 3) := by decide +kernel
theorem dX4_passBeats_93 : decode cX4_passBeats 93 = .ok (.iload_n 2, 1) := by decide +kernel
theorem dX4_passBeats_94 : decode cX4_passBeats 94 = .ok (.isub, 1) := by decide +kernel
theorem dX4_passBeats_95 : decode cX4_passBeats 95 = .ok (.ireturn, 1) := by decide +kernel
theorem dX4_isConflict_0 : decode cX4_isConflict 0 = .ok (.aload_n 0, 1) := by decide +kernel
theorem dX4_isConflict_1 : decode cX4_isConflict 1 = .ok (.getfield 11, 3) := by decide +kernel
theorem dX4_isConflict_4 : decode cX4_isConflict 4 = .ok (.iload_n 1, 1) := by decide +kernel
theorem dX4_isConflict_5 : decode cX4_isConflict 5 = .ok (.aaload, 1) := by decide +kernel
theorem dX4_isConflict_6 : decode cX4_isConflict 6 = .ok (.getfield 55, 3) := by decide +kernel
theorem dX4_isConflict_9 : decode cX4_isConflict 9 = .ok (.aload_n 0, 1) := by decide +kernel
theorem dX4_isConflict_10 : decode cX4_isConflict 10 = .ok (.getfield 11, 3) := by decide +kernel
theorem dX4_isConflict_13 : decode cX4_isConflict 13 = .ok (.iload_n 2, 1) := by decide +kernel
theorem dX4_isConflict_14 : decode cX4_isConflict 14 = .ok (.aaload, 1) := by decide +kernel
theorem dX4_isConflict_15 : decode cX4_isConflict 15 = .ok (.getfield 55, 3) := by decide +kernel
theorem dX4_isConflict_18 : decode cX4_isConflict 18 = .ok (.invokestatic 133, 3) := by decide +kernel
theorem dX4_isConflict_21 : decode cX4_isConflict 21 = .ok (.istore_n 3, 1) := by decide +kernel
theorem dX4_isConflict_22 : decode cX4_isConflict 22 = .ok (.aload_n 0, 1) := by decide +kernel
theorem dX4_isConflict_23 : decode cX4_isConflict 23 = .ok (.getfield 11, 3) := by decide +kernel
theorem dX4_isConflict_26 : decode cX4_isConflict 26 = .ok (.iload_n 1, 1) := by decide +kernel
theorem dX4_isConflict_27 : decode cX4_isConflict 27 = .ok (.aaload, 1) := by decide +kernel
theorem dX4_isConflict_28 : decode cX4_isConflict 28 = .ok (.aload_n 0, 1) := by decide +kernel
theorem dX4_isConflict_29 : decode cX4_isConflict 29 = .ok (.getfield 11, 3) := by decide +kernel
theorem dX4_isConflict_32 : decode cX4_isConflict 32 = .ok (.iload_n 2, 1) := by decide +kernel
theorem dX4_isConflict_33 : decode cX4_isConflict 33 = .ok (.aaload, 1) := by decide +kernel
theorem dX4_isConflict_34 : decode cX4_isConflict 34 = .ok (.invokevirtual 139, 3) := by decide +kernel
theorem dX4_isConflict_37 : decode cX4_isConflict 37 = .ok (.iload_n 3, 1) := by decide +kernel
theorem dX4_isConflict_38 : decode cX4_isConflict 38 = .ok (.if_icmp .ge 7, 3) := by decide +kernel
theorem dX4_isConflict_41 : decode cX4_isConflict 41 = .ok (.iconst 1, 1) := by decide +kernel
theorem dX4_isConflict_42 : decode cX4_isConflict 42 = .ok (.goto 4, 3) := by decide +kernel
theorem dX4_isConflict_45 : decode cX4_isConflict 45 = .ok (.iconst 0, 1) := by decide +kernel
theorem dX4_isConflict_46 : decode cX4_isConflict 46 = .ok (.ireturn, 1) := by decide +kernel
theorem dX4_countAboard_0 : decode cX4_countAboard 0 = .ok (.iconst 0, 1) := by decide +kernel
theorem dX4_countAboard_1 : decode cX4_countAboard 1 = .ok (.istore_n 1, 1) := by decide +kernel
theorem dX4_countAboard_2 : decode cX4_countAboard 2 = .ok (.iconst 0, 1) := by decide +kernel
theorem dX4_countAboard_3 : decode cX4_countAboard 3 = .ok (.istore_n 2, 1) := by decide +kernel
theorem dX4_countAboard_4 : decode cX4_countAboard 4 = .ok (.iload_n 2, 1) := by decide +kernel
theorem dX4_countAboard_5 : decode cX4_countAboard 5 = .ok (.aload_n 0, 1) := by decide +kernel
theorem dX4_countAboard_6 : decode cX4_countAboard 6 = .ok (.getfield 22, 3) := by decide +kernel
theorem dX4_countAboard_9 : decode cX4_countAboard 9 = .ok (.if_icmp .ge 24, 3) := by decide +kernel
theorem dX4_countAboard_12 : decode cX4_countAboard 12 = .ok (.aload_n 0, 1) := by decide +kernel
theorem dX4_countAboard_13 : decode cX4_countAboard 13 = .ok (.getfield 11, 3) := by decide +kernel
theorem dX4_countAboard_16 : decode cX4_countAboard 16 = .ok (.iload_n 2, 1) := by decide +kernel
theorem dX4_countAboard_17 : decode cX4_countAboard 17 = .ok (.aaload, 1) := by decide +kernel
theorem dX4_countAboard_18 : decode cX4_countAboard 18 = .ok (.getfield 62, 3) := by decide +kernel
theorem dX4_countAboard_21 : decode cX4_countAboard 21 = .ok (.ifCond .eq 6, 3) := by decide +kernel
theorem dX4_countAboard_24 : decode cX4_countAboard 24 = .ok (.iinc 1 1, 3) := by decide +kernel
theorem dX4_countAboard_27 : decode cX4_countAboard 27 = .ok (.iinc 2 1, 3) := by decide +kernel
theorem dX4_countAboard_30 : decode cX4_countAboard 30 = .ok (.goto (-26), 3) := by decide +kernel
theorem dX4_countAboard_33 : decode cX4_countAboard 33 = .ok (.iload_n 1, 1) := by decide +kernel
theorem dX4_countAboard_34 : decode cX4_countAboard 34 = .ok (.ireturn, 1) := by decide +kernel
theorem dX4_greatestTerm_0 : decode cX4_greatestTerm 0 = .ok (.iconst 0, 1) := by decide +kernel
theorem dX4_greatestTerm_1 : decode cX4_greatestTerm 1 = .ok (.istore_n 1, 1) := by decide +kernel
theorem dX4_greatestTerm_2 : decode cX4_greatestTerm 2 = .ok (.iconst 0, 1) := by decide +kernel
theorem dX4_greatestTerm_3 : decode cX4_greatestTerm 3 = .ok (.istore_n 2, 1) := by decide +kernel
theorem dX4_greatestTerm_4 : decode cX4_greatestTerm 4 = .ok (.iload_n 2, 1) := by decide +kernel
theorem dX4_greatestTerm_5 : decode cX4_greatestTerm 5 = .ok (.aload_n 0, 1) := by decide +kernel
theorem dX4_greatestTerm_6 : decode cX4_greatestTerm 6 = .ok (.getfield 22, 3) := by decide +kernel
theorem dX4_greatestTerm_9 : decode cX4_greatestTerm 9 = .ok (.if_icmp .ge 23, 3) := by decide +kernel
theorem dX4_greatestTerm_12 : decode cX4_greatestTerm 12 = .ok (.iload_n 1, 1) := by decide +kernel
theorem dX4_greatestTerm_13 : decode cX4_greatestTerm 13 = .ok (.aload_n 0, 1) := by decide +kernel
theorem dX4_greatestTerm_14 : decode cX4_greatestTerm 14 = .ok (.getfield 11, 3) := by decide +kernel
theorem dX4_greatestTerm_17 : decode cX4_greatestTerm 17 = .ok (.iload_n 2, 1) := by decide +kernel
theorem dX4_greatestTerm_18 : decode cX4_greatestTerm 18 = .ok (.aaload, 1) := by decide +kernel
theorem dX4_greatestTerm_19 : decode cX4_greatestTerm 19 = .ok (.getfield 77, 3) := by decide +kernel
theorem dX4_greatestTerm_22 : decode cX4_greatestTerm 22 = .ok (.invokestatic 155, 3) := by decide +kernel
theorem dX4_greatestTerm_25 : decode cX4_greatestTerm 25 = .ok (.istore_n 1, 1) := by decide +kernel
theorem dX4_greatestTerm_26 : decode cX4_greatestTerm 26 = .ok (.iinc 2 1, 3) := by decide +kernel
theorem dX4_greatestTerm_29 : decode cX4_greatestTerm 29 = .ok (.goto (-25), 3) := by decide +kernel
theorem dX4_greatestTerm_32 : decode cX4_greatestTerm 32 = .ok (.iload_n 1, 1) := by decide +kernel
theorem dX4_greatestTerm_33 : decode cX4_greatestTerm 33 = .ok (.ireturn, 1) := by decide +kernel
theorem dX5_init_0 : decode cX5_init 0 = .ok (.aload_n 0, 1) := by decide +kernel
theorem dX5_init_1 : decode cX5_init 1 = .ok (.invokespecial 1, 3) := by decide +kernel
theorem dX5_init_4 : decode cX5_init 4 = .ok (.return_, 1) := by decide +kernel
theorem dX5_put_0 : decode cX5_put 0 = .ok (.aload_n 0, 1) := by decide +kernel
theorem dX5_put_1 : decode cX5_put 1 = .ok (.iload_n 1, 1) := by decide +kernel
theorem dX5_put_2 : decode cX5_put 2 = .ok (.putfield 7, 3) := by decide +kernel
theorem dX5_put_5 : decode cX5_put 5 = .ok (.aload_n 0, 1) := by decide +kernel
theorem dX5_put_6 : decode cX5_put 6 = .ok (.iload_n 2, 1) := by decide +kernel
theorem dX5_put_7 : decode cX5_put 7 = .ok (.putfield 13, 3) := by decide +kernel
theorem dX5_put_10 : decode cX5_put 10 = .ok (.aload_n 0, 1) := by decide +kernel
theorem dX5_put_11 : decode cX5_put 11 = .ok (.iconst 0, 1) := by decide +kernel
theorem dX5_put_12 : decode cX5_put 12 = .ok (.putfield 16, 3) := by decide +kernel
theorem dX5_put_15 : decode cX5_put 15 = .ok (.aload_n 0, 1) := by decide +kernel
theorem dX5_put_16 : decode cX5_put 16 = .ok (.iconst 0, 1) := by decide +kernel
theorem dX5_put_17 : decode cX5_put 17 = .ok (.putfield 19, 3) := by decide +kernel
theorem dX5_put_20 : decode cX5_put 20 = .ok (.return_, 1) := by decide +kernel
theorem dX5_putAhead_0 : decode cX5_putAhead 0 = .ok (.aload_n 0, 1) := by decide +kernel
theorem dX5_putAhead_1 : decode cX5_putAhead 1 = .ok (.aload_n 0, 1) := by decide +kernel
theorem dX5_putAhead_2 : decode cX5_putAhead 2 = .ok (.getfield 7, 3) := by decide +kernel
theorem dX5_putAhead_5 : decode cX5_putAhead 5 = .ok (.putfield 16, 3) := by decide +kernel
theorem dX5_putAhead_8 : decode cX5_putAhead 8 = .ok (.aload_n 0, 1) := by decide +kernel
theorem dX5_putAhead_9 : decode cX5_putAhead 9 = .ok (.aload_n 0, 1) := by decide +kernel
theorem dX5_putAhead_10 : decode cX5_putAhead 10 = .ok (.getfield 13, 3) := by decide +kernel
theorem dX5_putAhead_13 : decode cX5_putAhead 13 = .ok (.putfield 19, 3) := by decide +kernel
theorem dX5_putAhead_16 : decode cX5_putAhead 16 = .ok (.aload_n 0, 1) := by decide +kernel
theorem dX5_putAhead_17 : decode cX5_putAhead 17 = .ok (.iload_n 1, 1) := by decide +kernel
theorem dX5_putAhead_18 : decode cX5_putAhead 18 = .ok (.putfield 7, 3) := by decide +kernel
theorem dX5_putAhead_21 : decode cX5_putAhead 21 = .ok (.aload_n 0, 1) := by decide +kernel
theorem dX5_putAhead_22 : decode cX5_putAhead 22 = .ok (.iload_n 2, 1) := by decide +kernel
theorem dX5_putAhead_23 : decode cX5_putAhead 23 = .ok (.putfield 13, 3) := by decide +kernel
theorem dX5_putAhead_26 : decode cX5_putAhead 26 = .ok (.return_, 1) := by decide +kernel
theorem dX6_init_0 : decode cX6_init 0 = .ok (.aload_n 0, 1) := by decide +kernel
theorem dX6_init_1 : decode cX6_init 1 = .ok (.invokespecial 3, 3) := by decide +kernel
theorem dX6_init_4 : decode cX6_init 4 = .ok (.aload_n 0, 1) := by decide +kernel
theorem dX6_init_5 : decode cX6_init 5 = .ok (.new 9, 3) := by decide +kernel
theorem dX6_init_8 : decode cX6_init 8 = .ok (.dup, 1) := by decide +kernel
theorem dX6_init_9 : decode cX6_init 9 = .ok (.invokespecial 11, 3) := by decide +kernel
theorem dX6_init_12 : decode cX6_init 12 = .ok (.putfield 12, 3) := by decide +kernel
theorem dX6_init_15 : decode cX6_init 15 = .ok (.aload_n 0, 1) := by decide +kernel
theorem dX6_init_16 : decode cX6_init 16 = .ok (.bipush 12, 2) := by decide +kernel
theorem dX6_init_18 : decode cX6_init 18 = .ok (.anewarray 18, 3) := by decide +kernel
theorem dX6_init_21 : decode cX6_init 21 = .ok (.putfield 20, 3) := by decide +kernel
theorem dX6_init_24 : decode cX6_init 24 = .ok (.iconst 0, 1) := by decide +kernel
theorem dX6_init_25 : decode cX6_init 25 = .ok (.istore_n 1, 1) := by decide +kernel
theorem dX6_init_26 : decode cX6_init 26 = .ok (.iload_n 1, 1) := by decide +kernel
theorem dX6_init_27 : decode cX6_init 27 = .ok (.aload_n 0, 1) := by decide +kernel
theorem dX6_init_28 : decode cX6_init 28 = .ok (.getfield 20, 3) := by decide +kernel
theorem dX6_init_31 : decode cX6_init 31 = .ok (.arraylength, 1) := by decide +kernel
theorem dX6_init_32 : decode cX6_init 32 = .ok (.if_icmp .ge 22, 3) := by decide +kernel
theorem dX6_init_35 : decode cX6_init 35 = .ok (.aload_n 0, 1) := by decide +kernel
theorem dX6_init_36 : decode cX6_init 36 = .ok (.getfield 20, 3) := by decide +kernel
theorem dX6_init_39 : decode cX6_init 39 = .ok (.iload_n 1, 1) := by decide +kernel
theorem dX6_init_40 : decode cX6_init 40 = .ok (.new 18, 3) := by decide +kernel
theorem dX6_init_43 : decode cX6_init 43 = .ok (.dup, 1) := by decide +kernel
theorem dX6_init_44 : decode cX6_init 44 = .ok (.invokespecial 24, 3) := by decide +kernel
theorem dX6_init_47 : decode cX6_init 47 = .ok (.aastore, 1) := by decide +kernel
theorem dX6_init_48 : decode cX6_init 48 = .ok (.iinc 1 1, 3) := by decide +kernel
theorem dX6_init_51 : decode cX6_init 51 = .ok (.goto (-25), 3) := by decide +kernel
theorem dX6_init_54 : decode cX6_init 54 = .ok (.return_, 1) := by decide +kernel
theorem dX6_size_0 : decode cX6_size 0 = .ok (.aload_n 0, 1) := by decide +kernel
theorem dX6_size_1 : decode cX6_size 1 = .ok (.getfield 12, 3) := by decide +kernel
theorem dX6_size_4 : decode cX6_size 4 = .ok (.invokevirtual 25, 3) := by decide +kernel
theorem dX6_size_7 : decode cX6_size 7 = .ok (.ireturn, 1) := by decide +kernel
theorem dX6_add_0 : decode cX6_add 0 = .ok (.iload_n 1, 1) := by decide +kernel
theorem dX6_add_1 : decode cX6_add 1 = .ok (.bipush 32, 2) := by decide +kernel
theorem dX6_add_3 : decode cX6_add 3 = .ok (.if_icmp .lt 21, 3) := by decide +kernel
theorem dX6_add_6 : decode cX6_add 6 = .ok (.iload_n 1, 1) := by decide +kernel
theorem dX6_add_7 : decode cX6_add 7 = .ok (.bipush 126, 2) := by decide +kernel
theorem dX6_add_9 : decode cX6_add 9 = .ok (.if_icmp .gt 15, 3) := by decide +kernel
theorem dX6_add_12 : decode cX6_add 12 = .ok (.aload_n 0, 1) := by decide +kernel
theorem dX6_add_13 : decode cX6_add 13 = .ok (.getfield 12, 3) := by decide +kernel
theorem dX6_add_16 : decode cX6_add 16 = .ok (.invokevirtual 25, 3) := by decide +kernel
theorem dX6_add_19 : decode cX6_add 19 = .ok (.bipush 60, 2) := by decide +kernel
theorem dX6_add_21 : decode cX6_add 21 = .ok (.if_icmp .lt 5, 3) := by decide +kernel
theorem dX6_add_24 : decode cX6_add 24 = .ok (.iconst 0, 1) := by decide +kernel
theorem dX6_add_25 : decode cX6_add 25 = .ok (.ireturn, 1) := by decide +kernel
theorem dX6_add_26 : decode cX6_add 26 = .ok (.aload_n 0, 1) := by decide +kernel
theorem dX6_add_27 : decode cX6_add 27 = .ok (.getfield 12, 3) := by decide +kernel
theorem dX6_add_30 : decode cX6_add 30 = .ok (.iload_n 1, 1) := by decide +kernel
theorem dX6_add_31 : decode cX6_add 31 = .ok (.invokevirtual 29, 3) := by decide +kernel
theorem dX6_add_34 : decode cX6_add 34 = .ok (.pop, 1) := by decide +kernel
theorem dX6_add_35 : decode cX6_add 35 = .ok (.iconst 1, 1) := by decide +kernel
theorem dX6_add_36 : decode cX6_add 36 = .ok (.ireturn, 1) := by decide +kernel
theorem dX6_empty_0 : decode cX6_empty 0 = .ok (.aload_n 0, 1) := by decide +kernel
theorem dX6_empty_1 : decode cX6_empty 1 = .ok (.getfield 12, 3) := by decide +kernel
theorem dX6_empty_4 : decode cX6_empty 4 = .ok (.iconst 0, 1) := by decide +kernel
theorem dX6_empty_5 : decode cX6_empty 5 = .ok (.invokevirtual 33, 3) := by decide +kernel
theorem dX6_empty_8 : decode cX6_empty 8 = .ok (.return_, 1) := by decide +kernel
theorem dX6_parse_0 : decode cX6_parse 0 = .ok (.aload_n 0, 1) := by decide +kernel
theorem dX6_parse_1 : decode cX6_parse 1 = .ok (.iconst 0, 1) := by decide +kernel
theorem dX6_parse_2 : decode cX6_parse 2 = .ok (.putfield 37, 3) := by decide +kernel
theorem dX6_parse_5 : decode cX6_parse 5 = .ok (.aload_n 0, 1) := by decide +kernel
theorem dX6_parse_6 : decode cX6_parse 6 = .ok (.iconst 0, 1) := by decide +kernel
theorem dX6_parse_7 : decode cX6_parse 7 = .ok (.putfield 41, 3) := by decide +kernel
theorem dX6_parse_10 : decode cX6_parse 10 = .ok (.aload_n 0, 1) := by decide +kernel
theorem dX6_parse_11 : decode cX6_parse 11 = .ok (.invokevirtual 44, 3) := by decide +kernel
theorem dX6_parse_14 : decode cX6_parse 14 = .ok (.istore_n 1, 1) := by decide +kernel
theorem dX6_parse_15 : decode cX6_parse 15 = .ok (.iconst 0, 1) := by decide +kernel
theorem dX6_parse_16 : decode cX6_parse 16 = .ok (.istore_n 2, 1) := by decide +kernel
theorem dX6_parse_17 : decode cX6_parse 17 = .ok (.iload_n 2, 1) := by decide +kernel
theorem dX6_parse_18 : decode cX6_parse 18 = .ok (.bipush 12, 2) := by decide +kernel
theorem dX6_parse_20 : decode cX6_parse 20 = .ok (.if_icmp .ge 49, 3) := by decide +kernel
theorem dX6_parse_23 : decode cX6_parse 23 = .ok (.iload_n 1, 1) := by decide +kernel
theorem dX6_parse_24 : decode cX6_parse 24 = .ok (.ifCond .eq 45, 3) := by decide +kernel
theorem dX6_parse_27 : decode cX6_parse 27 = .ok (.aload_n 0, 1) := by decide +kernel
theorem dX6_parse_28 : decode cX6_parse 28 = .ok (.getfield 41, 3) := by decide +kernel
theorem dX6_parse_31 : decode cX6_parse 31 = .ok (.aload_n 0, 1) := by decide +kernel
theorem dX6_parse_32 : decode cX6_parse 32 = .ok (.getfield 12, 3) := by decide +kernel
theorem dX6_parse_35 : decode cX6_parse 35 = .ok (.invokevirtual 25, 3) := by decide +kernel
theorem dX6_parse_38 : decode cX6_parse 38 = .ok (.if_icmp .ge 31, 3) := by decide +kernel
theorem dX6_parse_41 : decode cX6_parse 41 = .ok (.aload_n 0, 1) := by decide +kernel
theorem dX6_parse_42 : decode cX6_parse 42 = .ok (.bipush 59, 2) := by decide +kernel
theorem dX6_parse_44 : decode cX6_parse 44 = .ok (.invokevirtual 48, 3) := by decide +kernel
theorem dX6_parse_47 : decode cX6_parse 47 = .ok (.ifCond .eq 14, 3) := by decide +kernel
theorem dX6_parse_50 : decode cX6_parse 50 = .ok (.aload_n 0, 1) := by decide +kernel
theorem dX6_parse_51 : decode cX6_parse 51 = .ok (.invokevirtual 44, 3) := by decide +kernel
theorem dX6_parse_54 : decode cX6_parse 54 = .ok (.ifCond .eq 7, 3) := by decide +kernel
theorem dX6_parse_57 : decode cX6_parse 57 = .ok (.iconst 1, 1) := by decide +kernel
theorem dX6_parse_58 : decode cX6_parse 58 = .ok (.goto 4, 3) := by decide +kernel
theorem dX6_parse_61 : decode cX6_parse 61 = .ok (.iconst 0, 1) := by decide +kernel
theorem dX6_parse_62 : decode cX6_parse 62 = .ok (.istore_n 1, 1) := by decide +kernel
theorem dX6_parse_63 : decode cX6_parse 63 = .ok (.iinc 2 1, 3) := by decide +kernel
theorem dX6_parse_66 : decode cX6_parse 66 = .ok (.goto (-49), 3) := by decide +kernel
theorem dX6_parse_69 : decode cX6_parse 69 = .ok (.iload_n 1, 1) := by decide +kernel
theorem dX6_parse_70 : decode cX6_parse 70 = .ok (.ireturn, 1) := by decide +kernel
theorem dX6_takeCommand_0 : decode cX6_takeCommand 0 = .ok (.aload_n 0, 1) := by decide +kernel
theorem dX6_takeCommand_1 : decode cX6_takeCommand 1 = .ok (.invokevirtual 52, 3) := by decide +kernel
theorem dX6_takeCommand_4 : decode cX6_takeCommand 4 = .ok (.astore_n 1, 1) := by decide +kernel
theorem dX6_takeCommand_5 : decode cX6_takeCommand 5 = .ok (.aload_n 1, 1) := by decide +kernel
theorem dX6_takeCommand_6 : decode cX6_takeCommand 6 = .ok (.ifnull 15, 3) := by decide +kernel
theorem dX6_takeCommand_9 : decode cX6_takeCommand 9 = .ok (.aload_n 0, 1) := by decide +kernel
theorem dX6_takeCommand_10 : decode cX6_takeCommand 10 = .ok (.getfield 37, 3) := by decide +kernel
theorem dX6_takeCommand_13 : decode cX6_takeCommand 13 = .ok (.aload_n 0, 1) := by decide +kernel
theorem dX6_takeCommand_14 : decode cX6_takeCommand 14 = .ok (.getfield 20, 3) := by decide +kernel
theorem dX6_takeCommand_17 : decode cX6_takeCommand 17 = .ok (.arraylength, 1) := by decide +kernel
theorem dX6_takeCommand_18 : decode cX6_takeCommand 18 = .ok (.if_icmp .lt 5, 3) := by decide +kernel
theorem dX6_takeCommand_21 : decode cX6_takeCommand 21 = .ok (.iconst 0, 1) := by decide +kernel
theorem dX6_takeCommand_22 : decode cX6_takeCommand 22 = .ok (.ireturn, 1) := by decide +kernel
theorem dX6_takeCommand_23 : decode cX6_takeCommand 23 = .ok (.aload_n 0, 1) := by decide +kernel
theorem dX6_takeCommand_24 : decode cX6_takeCommand 24 = .ok (.getfield 20, 3) := by decide +kernel
theorem dX6_takeCommand_27 : decode cX6_takeCommand 27 = .ok (.aload_n 0, 1) := by decide +kernel
theorem dX6_takeCommand_28 : decode cX6_takeCommand 28 = .ok (.getfield 37, 3) := by decide +kernel
theorem dX6_takeCommand_31 : decode cX6_takeCommand 31 = .ok (.aaload, 1) := by decide +kernel
theorem dX6_takeCommand_32 : decode cX6_takeCommand 32 = .ok (.astore_n 2, 1) := by decide +kernel
theorem dX6_takeCommand_33 : decode cX6_takeCommand 33 = .ok (.aload_n 2, 1) := by decide +kernel
theorem dX6_takeCommand_34 : decode cX6_takeCommand 34 = .ok (.aload_n 1, 1) := by decide +kernel
theorem dX6_takeCommand_35 : decode cX6_takeCommand 35 = .ok (.putfield 56, 3) := by decide +kernel
theorem dX6_takeCommand_38 : decode cX6_takeCommand 38 = .ok (.aload_n 2, 1) := by decide +kernel
theorem dX6_takeCommand_39 : decode cX6_takeCommand 39 = .ok (.iconst 0, 1) := by decide +kernel
theorem dX6_takeCommand_40 : decode cX6_takeCommand 40 = .ok (.putfield 60, 3) := by decide +kernel
theorem dX6_takeCommand_43 : decode cX6_takeCommand 43 = .ok (.aload_n 0, 1) := by decide +kernel
theorem dX6_takeCommand_44 : decode cX6_takeCommand 44 = .ok (.aload_n 2, 1) := by decide +kernel
theorem dX6_takeCommand_45 : decode cX6_takeCommand 45 = .ok (.invokevirtual 63, 3) := by decide +kernel
theorem dX6_takeCommand_48 : decode cX6_takeCommand 48 = .ok (.ifCond .ne 5, 3) := by decide +kernel
theorem dX6_takeCommand_51 : decode cX6_takeCommand 51 = .ok (.iconst 0, 1) := by decide +kernel
theorem dX6_takeCommand_52 : decode cX6_takeCommand 52 = .ok (.ireturn, 1) := by decide +kernel
theorem dX6_takeCommand_53 : decode cX6_takeCommand 53 = .ok (.aload_n 0, 1) := by decide +kernel
theorem dX6_takeCommand_54 : decode cX6_takeCommand 54 = .ok (.dup, 1) := by decide +kernel
theorem dX6_takeCommand_55 : decode cX6_takeCommand 55 = .ok (.getfield 37, 3) := by decide +kernel
theorem dX6_takeCommand_58 : decode cX6_takeCommand 58 = .ok (.iconst 1, 1) := by decide +kernel
theorem dX6_takeCommand_59 : decode cX6_takeCommand 59 = .ok (.iadd, 1) := by decide +kernel
theorem dX6_takeCommand_60 : decode cX6_takeCommand 60 = .ok (.putfield 37, 3) := by decide +kernel
theorem dX6_takeCommand_63 : decode cX6_takeCommand 63 = .ok (.iconst 1, 1) := by decide +kernel
theorem dX6_takeCommand_64 : decode cX6_takeCommand 64 = .ok (.ireturn, 1) := by decide +kernel
theorem dX6_takeWord_0 : decode cX6_takeWord 0 = .ok (.aconst_null, 1) := by decide +kernel
theorem dX6_takeWord_1 : decode cX6_takeWord 1 = .ok (.astore_n 1, 1) := by decide +kernel
theorem dX6_takeWord_2 : decode cX6_takeWord 2 = .ok (.iconst 0, 1) := by decide +kernel
theorem dX6_takeWord_3 : decode cX6_takeWord 3 = .ok (.istore_n 2, 1) := by decide +kernel
theorem dX6_takeWord_4 : decode cX6_takeWord 4 = .ok (.iconst 0, 1) := by decide +kernel
theorem dX6_takeWord_5 : decode cX6_takeWord 5 = .ok (.istore_n 3, 1) := by decide +kernel
theorem dX6_takeWord_6 : decode cX6_takeWord 6 = .ok (.iload_n 3, 1) := by decide +kernel
theorem dX6_takeWord_7 : decode cX6_takeWord 7 = .ok (.getstatic 67, 3) := by decide +kernel
theorem dX6_takeWord_10 : decode cX6_takeWord 10 = .ok (.arraylength, 1) := by decide +kernel
theorem dX6_takeWord_11 : decode cX6_takeWord 11 = .ok (.if_icmp .ge 52, 3) := by decide +kernel
theorem dX6_takeWord_14 : decode cX6_takeWord 14 = .ok (.aload_n 0, 1) := by decide +kernel
theorem dX6_takeWord_15 : decode cX6_takeWord 15 = .ok (.getstatic 67, 3) := by decide +kernel
theorem dX6_takeWord_18 : decode cX6_takeWord 18 = .ok (.iload_n 3, 1) := by decide +kernel
theorem dX6_takeWord_19 : decode cX6_takeWord 19 = .ok (.aaload, 1) := by decide +kernel
theorem dX6_takeWord_20 : decode cX6_takeWord 20 = .ok (.getfield 71, 3) := by decide +kernel
theorem dX6_takeWord_23 : decode cX6_takeWord 23 = .ok (.invokevirtual 76, 3) := by decide +kernel
theorem dX6_takeWord_26 : decode cX6_takeWord 26 = .ok (.istore 4, 2) := by decide +kernel
theorem dX6_takeWord_28 : decode cX6_takeWord 28 = .ok (.iload_n 2, 1) := by decide +kernel
theorem dX6_takeWord_29 : decode cX6_takeWord 29 = .ok (.iload 4, 2) := by decide +kernel
theorem dX6_takeWord_31 : decode cX6_takeWord 31 = .ok (.invokestatic 80, 3) := by decide +kernel
theorem dX6_takeWord_34 : decode cX6_takeWord 34 = .ok (.istore_n 2, 1) := by decide +kernel
theorem dX6_takeWord_35 : decode cX6_takeWord 35 = .ok (.iload 4, 2) := by decide +kernel
theorem dX6_takeWord_37 : decode cX6_takeWord 37 = .ok (.getstatic 67, 3) := by decide +kernel
theorem dX6_takeWord_40 : decode cX6_takeWord 40 = .ok (.iload_n 3, 1) := by decide +kernel
theorem dX6_takeWord_41 : decode cX6_takeWord 41 = .ok (.aaload, 1) := by decide +kernel
theorem dX6_takeWord_42 : decode cX6_takeWord 42 = .ok (.getfield 71, 3) := by decide +kernel
theorem dX6_takeWord_45 : decode cX6_takeWord 45 = .ok (.invokevirtual 86, 3) := by decide +kernel
theorem dX6_takeWord_48 : decode cX6_takeWord 48 = .ok (.if_icmp .ne 9, 3) := by decide +kernel
theorem dX6_takeWord_51 : decode cX6_takeWord 51 = .ok (.getstatic 67, 3) := by decide +kernel
theorem dX6_takeWord_54 : decode cX6_takeWord 54 = .ok (.iload_n 3, 1) := by decide +kernel
theorem dX6_takeWord_55 : decode cX6_takeWord 55 = .ok (.aaload, 1) := by decide +kernel
theorem dX6_takeWord_56 : decode cX6_takeWord 56 = .ok (.astore_n 1, 1) := by decide +kernel
theorem dX6_takeWord_57 : decode cX6_takeWord 57 = .ok (.iinc 3 1, 3) := by decide +kernel
theorem dX6_takeWord_60 : decode cX6_takeWord 60 = .ok (.goto (-54), 3) := by decide +kernel
theorem dX6_takeWord_63 : decode cX6_takeWord 63 = .ok (.aload_n 0, 1) := by decide +kernel
theorem dX6_takeWord_64 : decode cX6_takeWord 64 = .ok (.dup, 1) := by decide +kernel
theorem dX6_takeWord_65 : decode cX6_takeWord 65 = .ok (.getfield 41, 3) := by decide +kernel
theorem dX6_takeWord_68 : decode cX6_takeWord 68 = .ok (.iload_n 2, 1) := by decide +kernel
theorem dX6_takeWord_69 : decode cX6_takeWord 69 = .ok (.iadd, 1) := by decide +kernel
theorem dX6_takeWord_70 : decode cX6_takeWord 70 = .ok (.putfield 41, 3) := by decide +kernel
theorem dX6_takeWord_73 : decode cX6_takeWord 73 = .ok (.aload_n 1, 1) := by decide +kernel
theorem dX6_takeWord_74 : decode cX6_takeWord 74 = .ok (.areturn, 1) := by decide +kernel
theorem dX6_countFitting_0 : decode cX6_countFitting 0 = .ok (.iconst 0, 1) := by decide +kernel
theorem dX6_countFitting_1 : decode cX6_countFitting 1 = .ok (.istore_n 2, 1) := by decide +kernel
theorem dX6_countFitting_2 : decode cX6_countFitting 2 = .ok (.iload_n 2, 1) := by decide +kernel
theorem dX6_countFitting_3 : decode cX6_countFitting 3 = .ok (.aload_n 1, 1) := by decide +kernel
theorem dX6_countFitting_4 : decode cX6_countFitting 4 = .ok (.invokevirtual 86, 3) := by decide +kernel
theorem dX6_countFitting_7 : decode cX6_countFitting 7 = .ok (.if_icmp .ge 22, 3) := by decide +kernel
theorem dX6_countFitting_10 : decode cX6_countFitting 10 = .ok (.aload_n 0, 1) := by decide +kernel
theorem dX6_countFitting_11 : decode cX6_countFitting 11 = .ok (.iload_n 2, 1) := by decide +kernel
theorem dX6_countFitting_12 : decode cX6_countFitting 12 = .ok (.aload_n 1, 1) := by decide +kernel
theorem dX6_countFitting_13 : decode cX6_countFitting 13 = .ok (.iload_n 2, 1) := by decide +kernel
theorem dX6_countFitting_14 : decode cX6_countFitting 14 = .ok (.invokevirtual 89, 3) := by decide +kernel
theorem dX6_countFitting_17 : decode cX6_countFitting 17 = .ok (.invokevirtual 93, 3) := by decide +kernel
theorem dX6_countFitting_20 : decode cX6_countFitting 20 = .ok (.ifCond .eq 9, 3) := by decide +kernel
theorem dX6_countFitting_23 : decode cX6_countFitting 23 = .ok (.iinc 2 1, 3) := by decide +kernel
theorem dX6_countFitting_26 : decode cX6_countFitting 26 = .ok (.goto (-24), 3) := by decide +kernel
theorem dX6_countFitting_29 : decode cX6_countFitting 29 = .ok (.iload_n 2, 1) := by decide +kernel
theorem dX6_countFitting_30 : decode cX6_countFitting 30 = .ok (.ireturn, 1) := by decide +kernel
theorem dX6_isHere_0 : decode cX6_isHere 0 = .ok (.aload_n 0, 1) := by decide +kernel
theorem dX6_isHere_1 : decode cX6_isHere 1 = .ok (.getfield 41, 3) := by decide +kernel
theorem dX6_isHere_4 : decode cX6_isHere 4 = .ok (.iload_n 1, 1) := by decide +kernel
theorem dX6_isHere_5 : decode cX6_isHere 5 = .ok (.iadd, 1) := by decide +kernel
theorem dX6_isHere_6 : decode cX6_isHere 6 = .ok (.istore_n 3, 1) := by decide +kernel
theorem dX6_isHere_7 : decode cX6_isHere 7 = .ok (.iload_n 3, 1) := by decide +kernel
theorem dX6_isHere_8 : decode cX6_isHere 8 = .ok (.ifCond .lt 30, 3) := by decide +kernel
theorem dX6_isHere_11 : decode cX6_isHere 11 = .ok (.iload_n 3, 1) := by decide +kernel
theorem dX6_isHere_12 : decode cX6_isHere 12 = .ok (.aload_n 0, 1) := by decide +kernel
theorem dX6_isHere_13 : decode cX6_isHere 13 = .ok (.getfield 12, 3) := by decide +kernel
theorem dX6_isHere_16 : decode cX6_isHere 16 = .ok (.invokevirtual 25, 3) := by decide +kernel
theorem dX6_isHere_19 : decode cX6_isHere 19 = .ok (.if_icmp .ge 19, 3) := by decide +kernel
theorem dX6_isHere_22 : decode cX6_isHere 22 = .ok (.aload_n 0, 1) := by decide +kernel
theorem dX6_isHere_23 : decode cX6_isHere 23 = .ok (.getfield 12, 3) := by decide +kernel
theorem dX6_isHere_26 : decode cX6_isHere 26 = .ok (.iload_n 3, 1) := by decide +kernel
theorem dX6_isHere_27 : decode cX6_isHere 27 = .ok (.invokevirtual 97, 3) := by decide +kernel
theorem dX6_isHere_30 : decode cX6_isHere 30 = .ok (.iload_n 2, 1) := by decide +kernel
theorem dX6_isHere_31 : decode cX6_isHere 31 = .ok (.if_icmp .ne 7, 3) := by decide +kernel
theorem dX6_isHere_34 : decode cX6_isHere 34 = .ok (.iconst 1, 1) := by decide +kernel
theorem dX6_isHere_35 : decode cX6_isHere 35 = .ok (.goto 4, 3) := by decide +kernel
theorem dX6_isHere_38 : decode cX6_isHere 38 = .ok (.iconst 0, 1) := by decide +kernel
theorem dX6_isHere_39 : decode cX6_isHere 39 = .ok (.ireturn, 1) := by decide +kernel
theorem dX6_takeArguments_0 : decode cX6_takeArguments 0 = .ok (.getstatic 98, 3) := by decide +kernel
theorem dX6_takeArguments_3 : decode cX6_takeArguments 3 = .ok (.aload_n 1, 1) := by decide +kernel
theorem dX6_takeArguments_4 : decode cX6_takeArguments 4 = .ok (.getfield 56, 3) := by decide +kernel
theorem dX6_takeArguments_7 : decode cX6_takeArguments 7 = .ok (.invokevirtual 104, 3) := by decide +kernel
theorem dX6_takeArguments_10 : decode cX6_takeArguments 10 = .ok (.iaload, 1) := by decide +kernel
theorem dX6_takeArguments_11 : decode cX6_takeArguments 11 = .ok (.tableswitch 118 4 9 #[37, 118, 118, 68, 68, 90], 37) := by decide +kernel
theorem dX6_takeArguments_48 : decode cX6_takeArguments 48 = .ok (.aload_n 0, 1) := by decide +kernel
theorem dX6_takeArguments_49 : decode cX6_takeArguments 49 = .ok (.aload_n 1, 1) := by decide +kernel
theorem dX6_takeArguments_50 : decode cX6_takeArguments 50 = .ok (.invokevirtual 107, 3) := by decide +kernel
theorem dX6_takeArguments_53 : decode cX6_takeArguments 53 = .ok (.ifCond .eq 24, 3) := by decide +kernel
theorem dX6_takeArguments_56 : decode cX6_takeArguments 56 = .ok (.aload_n 0, 1) := by decide +kernel
theorem dX6_takeArguments_57 : decode cX6_takeArguments 57 = .ok (.bipush 32, 2) := by decide +kernel
theorem dX6_takeArguments_59 : decode cX6_takeArguments 59 = .ok (.invokevirtual 48, 3) := by decide +kernel
theorem dX6_takeArguments_62 : decode cX6_takeArguments 62 = .ok (.ifCond .eq 15, 3) := by decide +kernel
theorem dX6_takeArguments_65 : decode cX6_takeArguments 65 = .ok (.aload_n 0, 1) := by decide +kernel
theorem dX6_takeArguments_66 : decode cX6_takeArguments 66 = .ok (.aload_n 1, 1) := by decide +kernel
theorem dX6_takeArguments_67 : decode cX6_takeArguments 67 = .ok (.invokevirtual 110, 3) := by decide +kernel
theorem dX6_takeArguments_70 : decode cX6_takeArguments 70 = .ok (.ifCond .eq 7, 3) := by decide +kernel
theorem dX6_takeArguments_73 : decode cX6_takeArguments 73 = .ok (.iconst 1, 1) := by decide +kernel
theorem dX6_takeArguments_74 : decode cX6_takeArguments 74 = .ok (.goto 4, 3) := by decide +kernel
theorem dX6_takeArguments_77 : decode cX6_takeArguments 77 = .ok (.iconst 0, 1) := by decide +kernel
theorem dX6_takeArguments_78 : decode cX6_takeArguments 78 = .ok (.ireturn, 1) := by decide +kernel
theorem dX6_takeArguments_79 : decode cX6_takeArguments 79 = .ok (.aload_n 0, 1) := by decide +kernel
theorem dX6_takeArguments_80 : decode cX6_takeArguments 80 = .ok (.aload_n 1, 1) := by decide +kernel
theorem dX6_takeArguments_81 : decode cX6_takeArguments 81 = .ok (.invokevirtual 107, 3) := by decide +kernel
theorem dX6_takeArguments_84 : decode cX6_takeArguments 84 = .ok (.ifCond .eq 15, 3) := by decide +kernel
theorem dX6_takeArguments_87 : decode cX6_takeArguments 87 = .ok (.aload_n 0, 1) := by decide +kernel
theorem dX6_takeArguments_88 : decode cX6_takeArguments 88 = .ok (.aload_n 1, 1) := by decide +kernel
theorem dX6_takeArguments_89 : decode cX6_takeArguments 89 = .ok (.invokevirtual 113, 3) := by decide +kernel
theorem dX6_takeArguments_92 : decode cX6_takeArguments 92 = .ok (.ifCond .eq 7, 3) := by decide +kernel
theorem dX6_takeArguments_95 : decode cX6_takeArguments 95 = .ok (.iconst 1, 1) := by decide +kernel
theorem dX6_takeArguments_96 : decode cX6_takeArguments 96 = .ok (.goto 4, 3) := by decide +kernel
theorem dX6_takeArguments_99 : decode cX6_takeArguments 99 = .ok (.iconst 0, 1) := by decide +kernel
theorem dX6_takeArguments_100 : decode cX6_takeArguments 100 = .ok (.ireturn, 1) := by decide +kernel
theorem dX6_takeArguments_101 : decode cX6_takeArguments 101 = .ok (.aload_n 1, 1) := by decide +kernel
theorem dX6_takeArguments_102 : decode cX6_takeArguments 102 = .ok (.iconst 1, 1) := by decide +kernel
theorem dX6_takeArguments_103 : decode cX6_takeArguments 103 = .ok (.putfield 116, 3) := by decide +kernel
theorem dX6_takeArguments_106 : decode cX6_takeArguments 106 = .ok (.aload_n 0, 1) := by decide +kernel
theorem dX6_takeArguments_107 : decode cX6_takeArguments 107 = .ok (.bipush 32, 2) := by decide +kernel
theorem dX6_takeArguments_109 : decode cX6_takeArguments 109 = .ok (.invokevirtual 48, 3) := by decide +kernel
theorem dX6_takeArguments_112 : decode cX6_takeArguments 112 = .ok (.ifCond .eq 11, 3) := by decide +kernel
theorem dX6_takeArguments_115 : decode cX6_takeArguments 115 = .ok (.aload_n 0, 1) := by decide +kernel
theorem dX6_takeArguments_116 : decode cX6_takeArguments 116 = .ok (.aload_n 1, 1) := by decide +kernel
theorem dX6_takeArguments_117 : decode cX6_takeArguments 117 = .ok (.invokevirtual 107, 3) := by decide +kernel
theorem dX6_takeArguments_120 : decode cX6_takeArguments 120 = .ok (.ifCond .eq 7, 3) := by decide +kernel
theorem dX6_takeArguments_123 : decode cX6_takeArguments 123 = .ok (.iconst 1, 1) := by decide +kernel
theorem dX6_takeArguments_124 : decode cX6_takeArguments 124 = .ok (.goto 4, 3) := by decide +kernel
theorem dX6_takeArguments_127 : decode cX6_takeArguments 127 = .ok (.iconst 0, 1) := by decide +kernel
theorem dX6_takeArguments_128 : decode cX6_takeArguments 128 = .ok (.ireturn, 1) := by decide +kernel
theorem dX6_takeArguments_129 : decode cX6_takeArguments 129 = .ok (.aload_n 0, 1) := by decide +kernel
theorem dX6_takeArguments_130 : decode cX6_takeArguments 130 = .ok (.aload_n 1, 1) := by decide +kernel
theorem dX6_takeArguments_131 : decode cX6_takeArguments 131 = .ok (.invokevirtual 107, 3) := by decide +kernel
theorem dX6_takeArguments_134 : decode cX6_takeArguments 134 = .ok (.ireturn, 1) := by decide +kernel
theorem dX6_takeFirst_0 : decode cX6_takeFirst 0 = .ok (.aload_n 1, 1) := by decide +kernel
theorem dX6_takeFirst_1 : decode cX6_takeFirst 1 = .ok (.aload_n 0, 1) := by decide +kernel
theorem dX6_takeFirst_2 : decode cX6_takeFirst 2 = .ok (.invokevirtual 119, 3) := by decide +kernel
theorem dX6_takeFirst_5 : decode cX6_takeFirst 5 = .ok (.putfield 116, 3) := by decide +kernel
theorem dX6_takeFirst_8 : decode cX6_takeFirst 8 = .ok (.aload_n 1, 1) := by decide +kernel
theorem dX6_takeFirst_9 : decode cX6_takeFirst 9 = .ok (.getfield 116, 3) := by decide +kernel
theorem dX6_takeFirst_12 : decode cX6_takeFirst 12 = .ok (.ifCond .lt 7, 3) := by decide +kernel
theorem dX6_takeFirst_15 : decode cX6_takeFirst 15 = .ok (.iconst 1, 1) := by decide +kernel
theorem dX6_takeFirst_16 : decode cX6_takeFirst 16 = .ok (.goto 4, 3) := by decide +kernel
theorem dX6_takeFirst_19 : decode cX6_takeFirst 19 = .ok (.iconst 0, 1) := by decide +kernel
theorem dX6_takeFirst_20 : decode cX6_takeFirst 20 = .ok (.ireturn, 1) := by decide +kernel
theorem dX6_takeSecond_0 : decode cX6_takeSecond 0 = .ok (.aload_n 1, 1) := by decide +kernel
theorem dX6_takeSecond_1 : decode cX6_takeSecond 1 = .ok (.aload_n 0, 1) := by decide +kernel
theorem dX6_takeSecond_2 : decode cX6_takeSecond 2 = .ok (.invokevirtual 119, 3) := by decide +kernel
theorem dX6_takeSecond_5 : decode cX6_takeSecond 5 = .ok (.putfield 60, 3) := by decide +kernel
theorem dX6_takeSecond_8 : decode cX6_takeSecond 8 = .ok (.aload_n 1, 1) := by decide +kernel
theorem dX6_takeSecond_9 : decode cX6_takeSecond 9 = .ok (.getfield 60, 3) := by decide +kernel
theorem dX6_takeSecond_12 : decode cX6_takeSecond 12 = .ok (.ifCond .lt 7, 3) := by decide +kernel
theorem dX6_takeSecond_15 : decode cX6_takeSecond 15 = .ok (.iconst 1, 1) := by decide +kernel
theorem dX6_takeSecond_16 : decode cX6_takeSecond 16 = .ok (.goto 4, 3) := by decide +kernel
theorem dX6_takeSecond_19 : decode cX6_takeSecond 19 = .ok (.iconst 0, 1) := by decide +kernel
theorem dX6_takeSecond_20 : decode cX6_takeSecond 20 = .ok (.ireturn, 1) := by decide +kernel
theorem dX6_takeLetter_0 : decode cX6_takeLetter 0 = .ok (.aload_n 1, 1) := by decide +kernel
theorem dX6_takeLetter_1 : decode cX6_takeLetter 1 = .ok (.aload_n 0, 1) := by decide +kernel
theorem dX6_takeLetter_2 : decode cX6_takeLetter 2 = .ok (.bipush 97, 2) := by decide +kernel
theorem dX6_takeLetter_4 : decode cX6_takeLetter 4 = .ok (.bipush 122, 2) := by decide +kernel
theorem dX6_takeLetter_6 : decode cX6_takeLetter 6 = .ok (.invokevirtual 122, 3) := by decide +kernel
theorem dX6_takeLetter_9 : decode cX6_takeLetter 9 = .ok (.putfield 60, 3) := by decide +kernel
theorem dX6_takeLetter_12 : decode cX6_takeLetter 12 = .ok (.aload_n 1, 1) := by decide +kernel
theorem dX6_takeLetter_13 : decode cX6_takeLetter 13 = .ok (.getfield 60, 3) := by decide +kernel
theorem dX6_takeLetter_16 : decode cX6_takeLetter 16 = .ok (.ifCond .lt 7, 3) := by decide +kernel
theorem dX6_takeLetter_19 : decode cX6_takeLetter 19 = .ok (.iconst 1, 1) := by decide +kernel
theorem dX6_takeLetter_20 : decode cX6_takeLetter 20 = .ok (.goto 4, 3) := by decide +kernel
theorem dX6_takeLetter_23 : decode cX6_takeLetter 23 = .ok (.iconst 0, 1) := by decide +kernel
theorem dX6_takeLetter_24 : decode cX6_takeLetter 24 = .ok (.ireturn, 1) := by decide +kernel
theorem dX6_takeDigit_0 : decode cX6_takeDigit 0 = .ok (.aload_n 0, 1) := by decide +kernel
theorem dX6_takeDigit_1 : decode cX6_takeDigit 1 = .ok (.bipush 48, 2) := by decide +kernel
theorem dX6_takeDigit_3 : decode cX6_takeDigit 3 = .ok (.bipush 57, 2) := by decide +kernel
theorem dX6_takeDigit_5 : decode cX6_takeDigit 5 = .ok (.invokevirtual 122, 3) := by decide +kernel
theorem dX6_takeDigit_8 : decode cX6_takeDigit 8 = .ok (.istore_n 1, 1) := by decide +kernel
theorem dX6_takeDigit_9 : decode cX6_takeDigit 9 = .ok (.iload_n 1, 1) := by decide +kernel
theorem dX6_takeDigit_10 : decode cX6_takeDigit 10 = .ok (.ifCond .ge 7, 3) := by decide +kernel
theorem dX6_takeDigit_13 : decode cX6_takeDigit 13 = .ok (.iconst (-1), 1) := by decide +kernel
theorem dX6_takeDigit_14 : decode cX6_takeDigit 14 = .ok (.goto 7, 3) := by decide +kernel
theorem dX6_takeDigit_17 : decode cX6_takeDigit 17 = .ok (.iload_n 1, 1) := by decide +kernel
theorem dX6_takeDigit_18 : decode cX6_takeDigit 18 = .ok (.bipush 48, 2) := by decide +kernel
theorem dX6_takeDigit_20 : decode cX6_takeDigit 20 = .ok (.isub, 1) := by decide +kernel
theorem dX6_takeDigit_21 : decode cX6_takeDigit 21 = .ok (.ireturn, 1) := by decide +kernel
theorem dX6_takeSign_0 : decode cX6_takeSign 0 = .ok (.aload_n 0, 1) := by decide +kernel
theorem dX6_takeSign_1 : decode cX6_takeSign 1 = .ok (.iload_n 1, 1) := by decide +kernel
theorem dX6_takeSign_2 : decode cX6_takeSign 2 = .ok (.iload_n 1, 1) := by decide +kernel
theorem dX6_takeSign_3 : decode cX6_takeSign 3 = .ok (.invokevirtual 122, 3) := by decide +kernel
theorem dX6_takeSign_6 : decode cX6_takeSign 6 = .ok (.ifCond .lt 7, 3) := by decide +kernel
theorem dX6_takeSign_9 : decode cX6_takeSign 9 = .ok (.iconst 1, 1) := by decide +kernel
theorem dX6_takeSign_10 : decode cX6_takeSign 10 = .ok (.goto 4, 3) := by decide +kernel
theorem dX6_takeSign_13 : decode cX6_takeSign 13 = .ok (.iconst 0, 1) := by decide +kernel
theorem dX6_takeSign_14 : decode cX6_takeSign 14 = .ok (.ireturn, 1) := by decide +kernel
theorem dX6_takeBetween_0 : decode cX6_takeBetween 0 = .ok (.aload_n 0, 1) := by decide +kernel
theorem dX6_takeBetween_1 : decode cX6_takeBetween 1 = .ok (.getfield 41, 3) := by decide +kernel
theorem dX6_takeBetween_4 : decode cX6_takeBetween 4 = .ok (.ifCond .lt 17, 3) := by decide +kernel
theorem dX6_takeBetween_7 : decode cX6_takeBetween 7 = .ok (.aload_n 0, 1) := by decide +kernel
theorem dX6_takeBetween_8 : decode cX6_takeBetween 8 = .ok (.getfield 41, 3) := by decide +kernel
theorem dX6_takeBetween_11 : decode cX6_takeBetween 11 = .ok (.aload_n 0, 1) := by decide +kernel
theorem dX6_takeBetween_12 : decode cX6_takeBetween 12 = .ok (.getfield 12, 3) := by decide +kernel
theorem dX6_takeBetween_15 : decode cX6_takeBetween 15 = .ok (.invokevirtual 25, 3) := by decide +kernel
theorem dX6_takeBetween_18 : decode cX6_takeBetween 18 = .ok (.if_icmp .lt 5, 3) := by decide +kernel
theorem dX6_takeBetween_21 : decode cX6_takeBetween 21 = .ok (.iconst (-1), 1) := by decide +kernel
theorem dX6_takeBetween_22 : decode cX6_takeBetween 22 = .ok (.ireturn, 1) := by decide +kernel
theorem dX6_takeBetween_23 : decode cX6_takeBetween 23 = .ok (.aload_n 0, 1) := by decide +kernel
theorem dX6_takeBetween_24 : decode cX6_takeBetween 24 = .ok (.getfield 12, 3) := by decide +kernel
theorem dX6_takeBetween_27 : decode cX6_takeBetween 27 = .ok (.aload_n 0, 1) := by decide +kernel
theorem dX6_takeBetween_28 : decode cX6_takeBetween 28 = .ok (.getfield 41, 3) := by decide +kernel
theorem dX6_takeBetween_31 : decode cX6_takeBetween 31 = .ok (.invokevirtual 97, 3) := by decide +kernel
theorem dX6_takeBetween_34 : decode cX6_takeBetween 34 = .ok (.istore_n 3, 1) := by decide +kernel
theorem dX6_takeBetween_35 : decode cX6_takeBetween 35 = .ok (.iload_n 3, 1) := by decide +kernel
theorem dX6_takeBetween_36 : decode cX6_takeBetween 36 = .ok (.iload_n 1, 1) := by decide +kernel
theorem dX6_takeBetween_37 : decode cX6_takeBetween 37 = .ok (.if_icmp .lt 8, 3) := by decide +kernel
theorem dX6_takeBetween_40 : decode cX6_takeBetween 40 = .ok (.iload_n 3, 1) := by decide +kernel
theorem dX6_takeBetween_41 : decode cX6_takeBetween 41 = .ok (.iload_n 2, 1) := by decide +kernel
theorem dX6_takeBetween_42 : decode cX6_takeBetween 42 = .ok (.if_icmp .le 5, 3) := by decide +kernel
theorem dX6_takeBetween_45 : decode cX6_takeBetween 45 = .ok (.iconst (-1), 1) := by decide +kernel
theorem dX6_takeBetween_46 : decode cX6_takeBetween 46 = .ok (.ireturn, 1) := by decide +kernel
theorem dX6_takeBetween_47 : decode cX6_takeBetween 47 = .ok (.aload_n 0, 1) := by decide +kernel
theorem dX6_takeBetween_48 : decode cX6_takeBetween 48 = .ok (.dup, 1) := by decide +kernel
theorem dX6_takeBetween_49 : decode cX6_takeBetween 49 = .ok (.getfield 41, 3) := by decide +kernel
theorem dX6_takeBetween_52 : decode cX6_takeBetween 52 = .ok (.iconst 1, 1) := by decide +kernel
theorem dX6_takeBetween_53 : decode cX6_takeBetween 53 = .ok (.iadd, 1) := by decide +kernel
theorem dX6_takeBetween_54 : decode cX6_takeBetween 54 = .ok (.putfield 41, 3) := by decide +kernel
theorem dX6_takeBetween_57 : decode cX6_takeBetween 57 = .ok (.iload_n 3, 1) := by decide +kernel
theorem dX6_takeBetween_58 : decode cX6_takeBetween 58 = .ok (.ireturn, 1) := by decide +kernel
theorem dX8_init_0 : decode cX8_init 0 = .ok (.aload_n 0, 1) := by decide +kernel
theorem dX8_init_1 : decode cX8_init 1 = .ok (.invokespecial 3, 3) := by decide +kernel
theorem dX8_init_4 : decode cX8_init 4 = .ok (.aload_n 0, 1) := by decide +kernel
theorem dX8_init_5 : decode cX8_init 5 = .ok (.new 9, 3) := by decide +kernel
theorem dX8_init_8 : decode cX8_init 8 = .ok (.dup, 1) := by decide +kernel
theorem dX8_init_9 : decode cX8_init 9 = .ok (.invokespecial 11, 3) := by decide +kernel
theorem dX8_init_12 : decode cX8_init 12 = .ok (.putfield 12, 3) := by decide +kernel
theorem dX8_init_15 : decode cX8_init 15 = .ok (.aload_n 0, 1) := by decide +kernel
theorem dX8_init_16 : decode cX8_init 16 = .ok (.new 9, 3) := by decide +kernel
theorem dX8_init_19 : decode cX8_init 19 = .ok (.dup, 1) := by decide +kernel
theorem dX8_init_20 : decode cX8_init 20 = .ok (.invokespecial 11, 3) := by decide +kernel
theorem dX8_init_23 : decode cX8_init 23 = .ok (.putfield 16, 3) := by decide +kernel
theorem dX8_init_26 : decode cX8_init 26 = .ok (.aload_n 0, 1) := by decide +kernel
theorem dX8_init_27 : decode cX8_init 27 = .ok (.new 9, 3) := by decide +kernel
theorem dX8_init_30 : decode cX8_init 30 = .ok (.dup, 1) := by decide +kernel
theorem dX8_init_31 : decode cX8_init 31 = .ok (.invokespecial 11, 3) := by decide +kernel
theorem dX8_init_34 : decode cX8_init 34 = .ok (.putfield 19, 3) := by decide +kernel
theorem dX8_init_37 : decode cX8_init 37 = .ok (.aload_n 0, 1) := by decide +kernel
theorem dX8_init_38 : decode cX8_init 38 = .ok (.new 22, 3) := by decide +kernel
theorem dX8_init_41 : decode cX8_init 41 = .ok (.dup, 1) := by decide +kernel
theorem dX8_init_42 : decode cX8_init 42 = .ok (.invokespecial 24, 3) := by decide +kernel
theorem dX8_init_45 : decode cX8_init 45 = .ok (.putfield 25, 3) := by decide +kernel
theorem dX8_init_48 : decode cX8_init 48 = .ok (.aload_n 0, 1) := by decide +kernel
theorem dX8_init_49 : decode cX8_init 49 = .ok (.new 29, 3) := by decide +kernel
theorem dX8_init_52 : decode cX8_init 52 = .ok (.dup, 1) := by decide +kernel
theorem dX8_init_53 : decode cX8_init 53 = .ok (.invokespecial 31, 3) := by decide +kernel
theorem dX8_init_56 : decode cX8_init 56 = .ok (.putfield 32, 3) := by decide +kernel
theorem dX8_init_59 : decode cX8_init 59 = .ok (.aload_n 0, 1) := by decide +kernel
theorem dX8_init_60 : decode cX8_init 60 = .ok (.new 36, 3) := by decide +kernel
theorem dX8_init_63 : decode cX8_init 63 = .ok (.dup, 1) := by decide +kernel
theorem dX8_init_64 : decode cX8_init 64 = .ok (.invokespecial 38, 3) := by decide +kernel
theorem dX8_init_67 : decode cX8_init 67 = .ok (.putfield 39, 3) := by decide +kernel
theorem dX8_init_70 : decode cX8_init 70 = .ok (.aload_n 0, 1) := by decide +kernel
theorem dX8_init_71 : decode cX8_init 71 = .ok (.new 43, 3) := by decide +kernel
theorem dX8_init_74 : decode cX8_init 74 = .ok (.dup, 1) := by decide +kernel
theorem dX8_init_75 : decode cX8_init 75 = .ok (.invokespecial 45, 3) := by decide +kernel
theorem dX8_init_78 : decode cX8_init 78 = .ok (.putfield 46, 3) := by decide +kernel
theorem dX8_init_81 : decode cX8_init 81 = .ok (.aload_n 0, 1) := by decide +kernel
theorem dX8_init_82 : decode cX8_init 82 = .ok (.bipush (-4), 2) := by decide +kernel
theorem dX8_init_84 : decode cX8_init 84 = .ok (.putfield 50, 3) := by decide +kernel
theorem dX8_init_87 : decode cX8_init 87 = .ok (.return_, 1) := by decide +kernel
theorem dX8_append_0 : decode cX8_append 0 = .ok (.aload_n 0, 1) := by decide +kernel
theorem dX8_append_1 : decode cX8_append 1 = .ok (.getfield 39, 3) := by decide +kernel
theorem dX8_append_4 : decode cX8_append 4 = .ok (.iload_n 1, 1) := by decide +kernel
theorem dX8_append_5 : decode cX8_append 5 = .ok (.invokevirtual 63, 3) := by decide +kernel
theorem dX8_append_8 : decode cX8_append 8 = .ok (.ifCond .eq 13, 3) := by decide +kernel
theorem dX8_append_11 : decode cX8_append 11 = .ok (.aload_n 0, 1) := by decide +kernel
theorem dX8_append_12 : decode cX8_append 12 = .ok (.getfield 39, 3) := by decide +kernel
theorem dX8_append_15 : decode cX8_append 15 = .ok (.invokevirtual 67, 3) := by decide +kernel
theorem dX8_append_18 : decode cX8_append 18 = .ok (.goto 5, 3) := by decide +kernel
theorem dX8_append_21 : decode cX8_append 21 = .ok (.bipush (-2), 2) := by decide +kernel
theorem dX8_append_23 : decode cX8_append 23 = .ok (.ireturn, 1) := by decide +kernel
theorem dX8_driver_0 : decode cX8_driver 0 = .ok (.aload_n 0, 1) := by decide +kernel
theorem dX8_driver_1 : decode cX8_driver 1 = .ok (.getstatic 71, 3) := by decide +kernel
theorem dX8_driver_4 : decode cX8_driver 4 = .ok (.iload_n 1, 1) := by decide +kernel
theorem dX8_driver_5 : decode cX8_driver 5 = .ok (.iconst 0, 1) := by decide +kernel
theorem dX8_driver_6 : decode cX8_driver 6 = .ok (.invokevirtual 77, 3) := by decide +kernel
theorem dX8_driver_9 : decode cX8_driver 9 = .ok (.ireturn, 1) := by decide +kernel
theorem dX8_ask_0 : decode cX8_ask 0 = .ok (.aload_n 0, 1) := by decide +kernel
theorem dX8_ask_1 : decode cX8_ask 1 = .ok (.getstatic 81, 3) := by decide +kernel
theorem dX8_ask_4 : decode cX8_ask 4 = .ok (.iload_n 1, 1) := by decide +kernel
theorem dX8_ask_5 : decode cX8_ask 5 = .ok (.iconst 0, 1) := by decide +kernel
theorem dX8_ask_6 : decode cX8_ask 6 = .ok (.invokevirtual 77, 3) := by decide +kernel
theorem dX8_ask_9 : decode cX8_ask 9 = .ok (.ireturn, 1) := by decide +kernel
theorem dX8_send_0 : decode cX8_send 0 = .ok (.aload_n 0, 1) := by decide +kernel
theorem dX8_send_1 : decode cX8_send 1 = .ok (.getstatic 84, 3) := by decide +kernel
theorem dX8_send_4 : decode cX8_send 4 = .ok (.iload_n 1, 1) := by decide +kernel
theorem dX8_send_5 : decode cX8_send 5 = .ok (.iconst 0, 1) := by decide +kernel
theorem dX8_send_6 : decode cX8_send 6 = .ok (.invokevirtual 77, 3) := by decide +kernel
theorem dX8_send_9 : decode cX8_send 9 = .ok (.ireturn, 1) := by decide +kernel
theorem dX8_shout_0 : decode cX8_shout 0 = .ok (.aload_n 0, 1) := by decide +kernel
theorem dX8_shout_1 : decode cX8_shout 1 = .ok (.getstatic 87, 3) := by decide +kernel
theorem dX8_shout_4 : decode cX8_shout 4 = .ok (.iload_n 1, 1) := by decide +kernel
theorem dX8_shout_5 : decode cX8_shout 5 = .ok (.iload_n 2, 1) := by decide +kernel
theorem dX8_shout_6 : decode cX8_shout 6 = .ok (.invokevirtual 77, 3) := by decide +kernel
theorem dX8_shout_9 : decode cX8_shout 9 = .ok (.ireturn, 1) := by decide +kernel
theorem dX8_wash_0 : decode cX8_wash 0 = .ok (.aload_n 0, 1) := by decide +kernel
theorem dX8_wash_1 : decode cX8_wash 1 = .ok (.getstatic 90, 3) := by decide +kernel
theorem dX8_wash_4 : decode cX8_wash 4 = .ok (.iload_n 1, 1) := by decide +kernel
theorem dX8_wash_5 : decode cX8_wash 5 = .ok (.iconst 0, 1) := by decide +kernel
theorem dX8_wash_6 : decode cX8_wash 6 = .ok (.invokevirtual 77, 3) := by decide +kernel
theorem dX8_wash_9 : decode cX8_wash 9 = .ok (.ireturn, 1) := by decide +kernel
theorem dX8_back_0 : decode cX8_back 0 = .ok (.aload_n 0, 1) := by decide +kernel
theorem dX8_back_1 : decode cX8_back 1 = .ok (.getstatic 93, 3) := by decide +kernel
theorem dX8_back_4 : decode cX8_back 4 = .ok (.iload_n 1, 1) := by decide +kernel
theorem dX8_back_5 : decode cX8_back 5 = .ok (.iconst 0, 1) := by decide +kernel
theorem dX8_back_6 : decode cX8_back 6 = .ok (.invokevirtual 77, 3) := by decide +kernel
theorem dX8_back_9 : decode cX8_back 9 = .ok (.ireturn, 1) := by decide +kernel
theorem dX8_cut_0 : decode cX8_cut 0 = .ok (.aload_n 0, 1) := by decide +kernel
theorem dX8_cut_1 : decode cX8_cut 1 = .ok (.getstatic 96, 3) := by decide +kernel
theorem dX8_cut_4 : decode cX8_cut 4 = .ok (.iload_n 1, 1) := by decide +kernel
theorem dX8_cut_5 : decode cX8_cut 5 = .ok (.iload_n 2, 1) := by decide +kernel
theorem dX8_cut_6 : decode cX8_cut 6 = .ok (.invokevirtual 77, 3) := by decide +kernel
theorem dX8_cut_9 : decode cX8_cut 9 = .ok (.ireturn, 1) := by decide +kernel
theorem dX8_tie_0 : decode cX8_tie 0 = .ok (.aload_n 0, 1) := by decide +kernel
theorem dX8_tie_1 : decode cX8_tie 1 = .ok (.getstatic 99, 3) := by decide +kernel
theorem dX8_tie_4 : decode cX8_tie 4 = .ok (.iload_n 1, 1) := by decide +kernel
theorem dX8_tie_5 : decode cX8_tie 5 = .ok (.iload_n 2, 1) := by decide +kernel
theorem dX8_tie_6 : decode cX8_tie 6 = .ok (.invokevirtual 77, 3) := by decide +kernel
theorem dX8_tie_9 : decode cX8_tie 9 = .ok (.ireturn, 1) := by decide +kernel
theorem dX8_beats_0 : decode cX8_beats 0 = .ok (.aload_n 0, 1) := by decide +kernel
theorem dX8_beats_1 : decode cX8_beats 1 = .ok (.getstatic 102, 3) := by decide +kernel
theorem dX8_beats_4 : decode cX8_beats 4 = .ok (.iload_n 1, 1) := by decide +kernel
theorem dX8_beats_5 : decode cX8_beats 5 = .ok (.iconst 0, 1) := by decide +kernel
theorem dX8_beats_6 : decode cX8_beats 6 = .ok (.invokevirtual 77, 3) := by decide +kernel
theorem dX8_beats_9 : decode cX8_beats 9 = .ok (.ireturn, 1) := by decide +kernel
theorem dX8_read_0 : decode cX8_read 0 = .ok (.aload_n 0, 1) := by decide +kernel
theorem dX8_read_1 : decode cX8_read 1 = .ok (.getfield 39, 3) := by decide +kernel
theorem dX8_read_4 : decode cX8_read 4 = .ok (.invokevirtual 105, 3) := by decide +kernel
theorem dX8_read_7 : decode cX8_read 7 = .ok (.istore_n 1, 1) := by decide +kernel
theorem dX8_read_8 : decode cX8_read 8 = .ok (.aload_n 0, 1) := by decide +kernel
theorem dX8_read_9 : decode cX8_read 9 = .ok (.getfield 39, 3) := by decide +kernel
theorem dX8_read_12 : decode cX8_read 12 = .ok (.invokevirtual 109, 3) := by decide +kernel
theorem dX8_read_15 : decode cX8_read 15 = .ok (.iload_n 1, 1) := by decide +kernel
theorem dX8_read_16 : decode cX8_read 16 = .ok (.ifCond .ne 17, 3) := by decide +kernel
theorem dX8_read_19 : decode cX8_read 19 = .ok (.aload_n 0, 1) := by decide +kernel
theorem dX8_read_20 : decode cX8_read 20 = .ok (.aload_n 0, 1) := by decide +kernel
theorem dX8_read_21 : decode cX8_read 21 = .ok (.getfield 39, 3) := by decide +kernel
theorem dX8_read_24 : decode cX8_read 24 = .ok (.getfield 110, 3) := by decide +kernel
theorem dX8_read_27 : decode cX8_read 27 = .ok (.putfield 50, 3) := by decide +kernel
theorem dX8_read_30 : decode cX8_read 30 = .ok (.bipush (-2), 2) := by decide +kernel
theorem dX8_read_32 : decode cX8_read 32 = .ok (.ireturn, 1) := by decide +kernel
theorem dX8_read_33 : decode cX8_read 33 = .ok (.aload_n 0, 1) := by decide +kernel
theorem dX8_read_34 : decode cX8_read 34 = .ok (.getfield 16, 3) := by decide +kernel
theorem dX8_read_37 : decode cX8_read 37 = .ok (.aload_n 0, 1) := by decide +kernel
theorem dX8_read_38 : decode cX8_read 38 = .ok (.getfield 12, 3) := by decide +kernel
theorem dX8_read_41 : decode cX8_read 41 = .ok (.invokevirtual 113, 3) := by decide +kernel
theorem dX8_read_44 : decode cX8_read 44 = .ok (.iconst 0, 1) := by decide +kernel
theorem dX8_read_45 : decode cX8_read 45 = .ok (.istore_n 2, 1) := by decide +kernel
theorem dX8_read_46 : decode cX8_read 46 = .ok (.iload_n 2, 1) := by decide +kernel
theorem dX8_read_47 : decode cX8_read 47 = .ok (.aload_n 0, 1) := by decide +kernel
theorem dX8_read_48 : decode cX8_read 48 = .ok (.getfield 39, 3) := by decide +kernel
theorem dX8_read_51 : decode cX8_read 51 = .ok (.getfield 117, 3) := by decide +kernel
theorem dX8_read_54 : decode cX8_read 54 = .ok (.if_icmp .ge 61, 3) := by decide +kernel
theorem dX8_read_57 : decode cX8_read 57 = .ok (.aload_n 0, 1) := by decide +kernel
theorem dX8_read_58 : decode cX8_read 58 = .ok (.getfield 39, 3) := by decide +kernel
theorem dX8_read_61 : decode cX8_read 61 = .ok (.getfield 118, 3) := by decide +kernel
theorem dX8_read_64 : decode cX8_read 64 = .ok (.iload_n 2, 1) := by decide +kernel
theorem dX8_read_65 : decode cX8_read 65 = .ok (.aaload, 1) := by decide +kernel
theorem dX8_read_66 : decode cX8_read 66 = .ok (.astore_n 3, 1) := by decide +kernel
theorem dX8_read_67 : decode cX8_read 67 = .ok (.aload_n 0, 1) := by decide +kernel
theorem dX8_read_68 : decode cX8_read 68 = .ok (.aload_n 3, 1) := by decide +kernel
theorem dX8_read_69 : decode cX8_read 69 = .ok (.getfield 122, 3) := by decide +kernel
theorem dX8_read_72 : decode cX8_read 72 = .ok (.aload_n 3, 1) := by decide +kernel
theorem dX8_read_73 : decode cX8_read 73 = .ok (.getfield 127, 3) := by decide +kernel
theorem dX8_read_76 : decode cX8_read 76 = .ok (.aload_n 3, 1) := by decide +kernel
theorem dX8_read_77 : decode cX8_read 77 = .ok (.getfield 130, 3) := by decide +kernel
theorem dX8_read_80 : decode cX8_read 80 = .ok (.invokevirtual 133, 3) := by decide +kernel
theorem dX8_read_83 : decode cX8_read 83 = .ok (.istore 4, 2) := by decide +kernel
theorem dX8_read_85 : decode cX8_read 85 = .ok (.iload 4, 2) := by decide +kernel
theorem dX8_read_87 : decode cX8_read 87 = .ok (.ifCond .ge 22, 3) := by decide +kernel
theorem dX8_read_90 : decode cX8_read 90 = .ok (.aload_n 0, 1) := by decide +kernel
theorem dX8_read_91 : decode cX8_read 91 = .ok (.getfield 12, 3) := by decide +kernel
theorem dX8_read_94 : decode cX8_read 94 = .ok (.aload_n 0, 1) := by decide +kernel
theorem dX8_read_95 : decode cX8_read 95 = .ok (.getfield 16, 3) := by decide +kernel
theorem dX8_read_98 : decode cX8_read 98 = .ok (.invokevirtual 113, 3) := by decide +kernel
theorem dX8_read_101 : decode cX8_read 101 = .ok (.aload_n 0, 1) := by decide +kernel
theorem dX8_read_102 : decode cX8_read 102 = .ok (.iload_n 2, 1) := by decide +kernel
theorem dX8_read_103 : decode cX8_read 103 = .ok (.iload 4, 2) := by decide +kernel
theorem dX8_read_105 : decode cX8_read 105 = .ok (.invokevirtual 136, 3) := by decide +kernel
theorem dX8_read_108 : decode cX8_read 108 = .ok (.ireturn, 1) := by decide +kernel
theorem dX8_read_109 : decode cX8_read 109 = .ok (.iinc 2 1, 3) := by decide +kernel
theorem dX8_read_112 : decode cX8_read 112 = .ok (.goto (-66), 3) := by decide +kernel
theorem dX8_read_115 : decode cX8_read 115 = .ok (.aload_n 0, 1) := by decide +kernel
theorem dX8_read_116 : decode cX8_read 116 = .ok (.getfield 25, 3) := by decide +kernel
theorem dX8_read_119 : decode cX8_read 119 = .ok (.aload_n 0, 1) := by decide +kernel
theorem dX8_read_120 : decode cX8_read 120 = .ok (.getfield 16, 3) := by decide +kernel
theorem dX8_read_123 : decode cX8_read 123 = .ok (.invokevirtual 140, 3) := by decide +kernel
theorem dX8_read_126 : decode cX8_read 126 = .ok (.aload_n 0, 1) := by decide +kernel
theorem dX8_read_127 : decode cX8_read 127 = .ok (.getfield 39, 3) := by decide +kernel
theorem dX8_read_130 : decode cX8_read 130 = .ok (.getfield 117, 3) := by decide +kernel
theorem dX8_read_133 : decode cX8_read 133 = .ok (.ireturn, 1) := by decide +kernel
theorem dX8_change_0 : decode cX8_change 0 = .ok (.aload_n 0, 1) := by decide +kernel
theorem dX8_change_1 : decode cX8_change 1 = .ok (.getfield 16, 3) := by decide +kernel
theorem dX8_change_4 : decode cX8_change 4 = .ok (.aload_n 0, 1) := by decide +kernel
theorem dX8_change_5 : decode cX8_change 5 = .ok (.getfield 12, 3) := by decide +kernel
theorem dX8_change_8 : decode cX8_change 8 = .ok (.invokevirtual 113, 3) := by decide +kernel
theorem dX8_change_11 : decode cX8_change 11 = .ok (.aload_n 0, 1) := by decide +kernel
theorem dX8_change_12 : decode cX8_change 12 = .ok (.aload_n 1, 1) := by decide +kernel
theorem dX8_change_13 : decode cX8_change 13 = .ok (.iload_n 2, 1) := by decide +kernel
theorem dX8_change_14 : decode cX8_change 14 = .ok (.iload_n 3, 1) := by decide +kernel
theorem dX8_change_15 : decode cX8_change 15 = .ok (.invokevirtual 133, 3) := by decide +kernel
theorem dX8_change_18 : decode cX8_change 18 = .ok (.istore 4, 2) := by decide +kernel
theorem dX8_change_20 : decode cX8_change 20 = .ok (.iload 4, 2) := by decide +kernel
theorem dX8_change_22 : decode cX8_change 22 = .ok (.ifCond .lt 14, 3) := by decide +kernel
theorem dX8_change_25 : decode cX8_change 25 = .ok (.aload_n 0, 1) := by decide +kernel
theorem dX8_change_26 : decode cX8_change 26 = .ok (.getfield 25, 3) := by decide +kernel
theorem dX8_change_29 : decode cX8_change 29 = .ok (.aload_n 0, 1) := by decide +kernel
theorem dX8_change_30 : decode cX8_change 30 = .ok (.getfield 16, 3) := by decide +kernel
theorem dX8_change_33 : decode cX8_change 33 = .ok (.invokevirtual 140, 3) := by decide +kernel
theorem dX8_change_36 : decode cX8_change 36 = .ok (.iload 4, 2) := by decide +kernel
theorem dX8_change_38 : decode cX8_change 38 = .ok (.ireturn, 1) := by decide +kernel
theorem dX8_carryOut_0 : decode cX8_carryOut 0 = .ok (.aload_n 1, 1) := by decide +kernel
theorem dX8_carryOut_1 : decode cX8_carryOut 1 = .ok (.ifnonnull 5, 3) := by decide +kernel
theorem dX8_carryOut_4 : decode cX8_carryOut 4 = .ok (.iconst (-1), 1) := by decide +kernel
theorem dX8_carryOut_5 : decode cX8_carryOut 5 = .ok (.ireturn, 1) := by decide +kernel
theorem dX8_carryOut_6 : decode cX8_carryOut 6 = .ok (.getstatic 143, 3) := by decide +kernel
theorem dX8_carryOut_9 : decode cX8_carryOut 9 = .ok (.aload_n 1, 1) := by decide +kernel
theorem dX8_carryOut_10 : decode cX8_carryOut 10 = .ok (.invokevirtual 149, 3) := by decide +kernel
theorem dX8_carryOut_13 : decode cX8_carryOut 13 = .ok (.iaload, 1) := by decide +kernel
theorem dX8_carryOut_14 : decode cX8_carryOut 14 = .ok (.tableswitch 99 1 8 #[46, 52, 58, 64, 71, 77, 83, 91], 46) := by decide +kernel
theorem dX8_carryOut_60 : decode cX8_carryOut 60 = .ok (.aload_n 0, 1) := by decide +kernel
theorem dX8_carryOut_61 : decode cX8_carryOut 61 = .ok (.iload_n 2, 1) := by decide +kernel
theorem dX8_carryOut_62 : decode cX8_carryOut 62 = .ok (.invokevirtual 152, 3) := by decide +kernel
theorem dX8_carryOut_65 : decode cX8_carryOut 65 = .ok (.ireturn, 1) := by decide +kernel
theorem dX8_carryOut_66 : decode cX8_carryOut 66 = .ok (.aload_n 0, 1) := by decide +kernel
theorem dX8_carryOut_67 : decode cX8_carryOut 67 = .ok (.iload_n 2, 1) := by decide +kernel
theorem dX8_carryOut_68 : decode cX8_carryOut 68 = .ok (.invokevirtual 156, 3) := by decide +kernel
theorem dX8_carryOut_71 : decode cX8_carryOut 71 = .ok (.ireturn, 1) := by decide +kernel
theorem dX8_carryOut_72 : decode cX8_carryOut 72 = .ok (.aload_n 0, 1) := by decide +kernel
theorem dX8_carryOut_73 : decode cX8_carryOut 73 = .ok (.iload_n 2, 1) := by decide +kernel
theorem dX8_carryOut_74 : decode cX8_carryOut 74 = .ok (.invokevirtual 159, 3) := by decide +kernel
theorem dX8_carryOut_77 : decode cX8_carryOut 77 = .ok (.ireturn, 1) := by decide +kernel
theorem dX8_carryOut_78 : decode cX8_carryOut 78 = .ok (.aload_n 0, 1) := by decide +kernel
theorem dX8_carryOut_79 : decode cX8_carryOut 79 = .ok (.iload_n 2, 1) := by decide +kernel
theorem dX8_carryOut_80 : decode cX8_carryOut 80 = .ok (.iload_n 3, 1) := by decide +kernel
theorem dX8_carryOut_81 : decode cX8_carryOut 81 = .ok (.invokevirtual 162, 3) := by decide +kernel
theorem dX8_carryOut_84 : decode cX8_carryOut 84 = .ok (.ireturn, 1) := by decide +kernel
theorem dX8_carryOut_85 : decode cX8_carryOut 85 = .ok (.aload_n 0, 1) := by decide +kernel
theorem dX8_carryOut_86 : decode cX8_carryOut 86 = .ok (.iload_n 2, 1) := by decide +kernel
theorem dX8_carryOut_87 : decode cX8_carryOut 87 = .ok (.invokevirtual 165, 3) := by decide +kernel
theorem dX8_carryOut_90 : decode cX8_carryOut 90 = .ok (.ireturn, 1) := by decide +kernel
theorem dX8_carryOut_91 : decode cX8_carryOut 91 = .ok (.aload_n 0, 1) := by decide +kernel
theorem dX8_carryOut_92 : decode cX8_carryOut 92 = .ok (.iload_n 2, 1) := by decide +kernel
theorem dX8_carryOut_93 : decode cX8_carryOut 93 = .ok (.invokevirtual 168, 3) := by decide +kernel
theorem dX8_carryOut_96 : decode cX8_carryOut 96 = .ok (.ireturn, 1) := by decide +kernel
theorem dX8_carryOut_97 : decode cX8_carryOut 97 = .ok (.aload_n 0, 1) := by decide +kernel
theorem dX8_carryOut_98 : decode cX8_carryOut 98 = .ok (.iload_n 2, 1) := by decide +kernel
theorem dX8_carryOut_99 : decode cX8_carryOut 99 = .ok (.iload_n 3, 1) := by decide +kernel
theorem dX8_carryOut_100 : decode cX8_carryOut 100 = .ok (.iconst 1, 1) := by decide +kernel
theorem dX8_carryOut_101 : decode cX8_carryOut 101 = .ok (.invokevirtual 171, 3) := by decide +kernel
theorem dX8_carryOut_104 : decode cX8_carryOut 104 = .ok (.ireturn, 1) := by decide +kernel
theorem dX8_carryOut_105 : decode cX8_carryOut 105 = .ok (.aload_n 0, 1) := by decide +kernel
