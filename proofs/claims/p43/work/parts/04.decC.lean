theorem dX8_carryOut_106 : decode cX8_carryOut 106 = .ok (.iload_n 2, 1) := by decide +kernel
theorem dX8_carryOut_107 : decode cX8_carryOut 107 = .ok (.iload_n 3, 1) := by decide +kernel
theorem dX8_carryOut_108 : decode cX8_carryOut 108 = .ok (.iconst 0, 1) := by decide +kernel
theorem dX8_carryOut_109 : decode cX8_carryOut 109 = .ok (.invokevirtual 171, 3) := by decide +kernel
theorem dX8_carryOut_112 : decode cX8_carryOut 112 = .ok (.ireturn, 1) := by decide +kernel
theorem dX8_carryOut_113 : decode cX8_carryOut 113 = .ok (.iload_n 2, 1) := by decide +kernel
theorem dX8_carryOut_114 : decode cX8_carryOut 114 = .ok (.iconst 1, 1) := by decide +kernel
theorem dX8_carryOut_115 : decode cX8_carryOut 115 = .ok (.if_icmp .lt 20, 3) := by decide +kernel
theorem dX8_carryOut_118 : decode cX8_carryOut 118 = .ok (.iload_n 2, 1) := by decide +kernel
theorem dX8_carryOut_119 : decode cX8_carryOut 119 = .ok (.bipush 20, 2) := by decide +kernel
theorem dX8_carryOut_121 : decode cX8_carryOut 121 = .ok (.if_icmp .gt 14, 3) := by decide +kernel
theorem dX8_carryOut_124 : decode cX8_carryOut 124 = .ok (.aload_n 0, 1) := by decide +kernel
theorem dX8_carryOut_125 : decode cX8_carryOut 125 = .ok (.getfield 12, 3) := by decide +kernel
theorem dX8_carryOut_128 : decode cX8_carryOut 128 = .ok (.iload_n 2, 1) := by decide +kernel
theorem dX8_carryOut_129 : decode cX8_carryOut 129 = .ok (.invokevirtual 175, 3) := by decide +kernel
theorem dX8_carryOut_132 : decode cX8_carryOut 132 = .ok (.goto 5, 3) := by decide +kernel
theorem dX8_carryOut_135 : decode cX8_carryOut 135 = .ok (.bipush (-2), 2) := by decide +kernel
theorem dX8_carryOut_137 : decode cX8_carryOut 137 = .ok (.ireturn, 1) := by decide +kernel
theorem dX8_letCome_0 : decode cX8_letCome 0 = .ok (.iload_n 1, 1) := by decide +kernel
theorem dX8_letCome_1 : decode cX8_letCome 1 = .ok (.iconst 1, 1) := by decide +kernel
theorem dX8_letCome_2 : decode cX8_letCome 2 = .ok (.if_icmp .lt 9, 3) := by decide +kernel
theorem dX8_letCome_5 : decode cX8_letCome 5 = .ok (.iload_n 1, 1) := by decide +kernel
theorem dX8_letCome_6 : decode cX8_letCome 6 = .ok (.bipush 9, 2) := by decide +kernel
theorem dX8_letCome_8 : decode cX8_letCome 8 = .ok (.if_icmp .le 6, 3) := by decide +kernel
theorem dX8_letCome_11 : decode cX8_letCome 11 = .ok (.bipush (-2), 2) := by decide +kernel
theorem dX8_letCome_13 : decode cX8_letCome 13 = .ok (.ireturn, 1) := by decide +kernel
theorem dX8_letCome_14 : decode cX8_letCome 14 = .ok (.aload_n 0, 1) := by decide +kernel
theorem dX8_letCome_15 : decode cX8_letCome 15 = .ok (.getfield 12, 3) := by decide +kernel
theorem dX8_letCome_18 : decode cX8_letCome 18 = .ok (.getfield 178, 3) := by decide +kernel
theorem dX8_letCome_21 : decode cX8_letCome 21 = .ok (.ifCond .le 17, 3) := by decide +kernel
theorem dX8_letCome_24 : decode cX8_letCome 24 = .ok (.aload_n 0, 1) := by decide +kernel
theorem dX8_letCome_25 : decode cX8_letCome 25 = .ok (.bipush 7, 2) := by decide +kernel
theorem dX8_letCome_27 : decode cX8_letCome 27 = .ok (.aload_n 0, 1) := by decide +kernel
theorem dX8_letCome_28 : decode cX8_letCome 28 = .ok (.getfield 12, 3) := by decide +kernel
theorem dX8_letCome_31 : decode cX8_letCome 31 = .ok (.getfield 178, 3) := by decide +kernel
theorem dX8_letCome_34 : decode cX8_letCome 34 = .ok (.invokevirtual 181, 3) := by decide +kernel
theorem dX8_letCome_37 : decode cX8_letCome 37 = .ok (.ireturn, 1) := by decide +kernel
theorem dX8_letCome_38 : decode cX8_letCome 38 = .ok (.aload_n 0, 1) := by decide +kernel
theorem dX8_letCome_39 : decode cX8_letCome 39 = .ok (.getfield 12, 3) := by decide +kernel
theorem dX8_letCome_42 : decode cX8_letCome 42 = .ok (.getfield 54, 3) := by decide +kernel
theorem dX8_letCome_45 : decode cX8_letCome 45 = .ok (.iconst 5, 1) := by decide +kernel
theorem dX8_letCome_46 : decode cX8_letCome 46 = .ok (.if_icmp .lt 10, 3) := by decide +kernel
theorem dX8_letCome_49 : decode cX8_letCome 49 = .ok (.aload_n 0, 1) := by decide +kernel
theorem dX8_letCome_50 : decode cX8_letCome 50 = .ok (.iconst 1, 1) := by decide +kernel
theorem dX8_letCome_51 : decode cX8_letCome 51 = .ok (.iconst 5, 1) := by decide +kernel
theorem dX8_letCome_52 : decode cX8_letCome 52 = .ok (.invokevirtual 181, 3) := by decide +kernel
theorem dX8_letCome_55 : decode cX8_letCome 55 = .ok (.ireturn, 1) := by decide +kernel
theorem dX8_letCome_56 : decode cX8_letCome 56 = .ok (.aload_n 0, 1) := by decide +kernel
theorem dX8_letCome_57 : decode cX8_letCome 57 = .ok (.getfield 12, 3) := by decide +kernel
theorem dX8_letCome_60 : decode cX8_letCome 60 = .ok (.iload_n 1, 1) := by decide +kernel
theorem dX8_letCome_61 : decode cX8_letCome 61 = .ok (.invokevirtual 184, 3) := by decide +kernel
theorem dX8_letCome_64 : decode cX8_letCome 64 = .ok (.ireturn, 1) := by decide +kernel
theorem dX8_letAsk_0 : decode cX8_letAsk 0 = .ok (.aload_n 0, 1) := by decide +kernel
theorem dX8_letAsk_1 : decode cX8_letAsk 1 = .ok (.getfield 12, 3) := by decide +kernel
theorem dX8_letAsk_4 : decode cX8_letAsk 4 = .ok (.iload_n 1, 1) := by decide +kernel
theorem dX8_letAsk_5 : decode cX8_letAsk 5 = .ok (.invokevirtual 187, 3) := by decide +kernel
theorem dX8_letAsk_8 : decode cX8_letAsk 8 = .ok (.ifCond .ne 5, 3) := by decide +kernel
theorem dX8_letAsk_11 : decode cX8_letAsk 11 = .ok (.iconst (-1), 1) := by decide +kernel
theorem dX8_letAsk_12 : decode cX8_letAsk 12 = .ok (.ireturn, 1) := by decide +kernel
theorem dX8_letAsk_13 : decode cX8_letAsk 13 = .ok (.aload_n 0, 1) := by decide +kernel
theorem dX8_letAsk_14 : decode cX8_letAsk 14 = .ok (.getfield 12, 3) := by decide +kernel
theorem dX8_letAsk_17 : decode cX8_letAsk 17 = .ok (.getfield 191, 3) := by decide +kernel
theorem dX8_letAsk_20 : decode cX8_letAsk 20 = .ok (.iload_n 1, 1) := by decide +kernel
theorem dX8_letAsk_21 : decode cX8_letAsk 21 = .ok (.aaload, 1) := by decide +kernel
theorem dX8_letAsk_22 : decode cX8_letAsk 22 = .ok (.astore_n 2, 1) := by decide +kernel
theorem dX8_letAsk_23 : decode cX8_letAsk 23 = .ok (.aload_n 2, 1) := by decide +kernel
theorem dX8_letAsk_24 : decode cX8_letAsk 24 = .ok (.getfield 195, 3) := by decide +kernel
theorem dX8_letAsk_27 : decode cX8_letAsk 27 = .ok (.ifCond .ne 10, 3) := by decide +kernel
theorem dX8_letAsk_30 : decode cX8_letAsk 30 = .ok (.aload_n 0, 1) := by decide +kernel
theorem dX8_letAsk_31 : decode cX8_letAsk 31 = .ok (.iconst 2, 1) := by decide +kernel
theorem dX8_letAsk_32 : decode cX8_letAsk 32 = .ok (.iload_n 1, 1) := by decide +kernel
theorem dX8_letAsk_33 : decode cX8_letAsk 33 = .ok (.invokevirtual 181, 3) := by decide +kernel
theorem dX8_letAsk_36 : decode cX8_letAsk 36 = .ok (.ireturn, 1) := by decide +kernel
theorem dX8_letAsk_37 : decode cX8_letAsk 37 = .ok (.aload_n 2, 1) := by decide +kernel
theorem dX8_letAsk_38 : decode cX8_letAsk 38 = .ok (.getfield 201, 3) := by decide +kernel
theorem dX8_letAsk_41 : decode cX8_letAsk 41 = .ok (.iconst 2, 1) := by decide +kernel
theorem dX8_letAsk_42 : decode cX8_letAsk 42 = .ok (.if_icmp .ne 13, 3) := by decide +kernel
theorem dX8_letAsk_45 : decode cX8_letAsk 45 = .ok (.aload_n 0, 1) := by decide +kernel
theorem dX8_letAsk_46 : decode cX8_letAsk 46 = .ok (.iconst 3, 1) := by decide +kernel
theorem dX8_letAsk_47 : decode cX8_letAsk 47 = .ok (.aload_n 2, 1) := by decide +kernel
theorem dX8_letAsk_48 : decode cX8_letAsk 48 = .ok (.getfield 204, 3) := by decide +kernel
theorem dX8_letAsk_51 : decode cX8_letAsk 51 = .ok (.invokevirtual 181, 3) := by decide +kernel
theorem dX8_letAsk_54 : decode cX8_letAsk 54 = .ok (.ireturn, 1) := by decide +kernel
theorem dX8_letAsk_55 : decode cX8_letAsk 55 = .ok (.aload_n 0, 1) := by decide +kernel
theorem dX8_letAsk_56 : decode cX8_letAsk 56 = .ok (.getfield 12, 3) := by decide +kernel
theorem dX8_letAsk_59 : decode cX8_letAsk 59 = .ok (.iload_n 1, 1) := by decide +kernel
theorem dX8_letAsk_60 : decode cX8_letAsk 60 = .ok (.invokevirtual 207, 3) := by decide +kernel
theorem dX8_letAsk_63 : decode cX8_letAsk 63 = .ok (.ireturn, 1) := by decide +kernel
theorem dX8_letSend_0 : decode cX8_letSend 0 = .ok (.aload_n 0, 1) := by decide +kernel
theorem dX8_letSend_1 : decode cX8_letSend 1 = .ok (.getfield 12, 3) := by decide +kernel
theorem dX8_letSend_4 : decode cX8_letSend 4 = .ok (.iload_n 1, 1) := by decide +kernel
theorem dX8_letSend_5 : decode cX8_letSend 5 = .ok (.invokevirtual 187, 3) := by decide +kernel
theorem dX8_letSend_8 : decode cX8_letSend 8 = .ok (.ifCond .ne 5, 3) := by decide +kernel
theorem dX8_letSend_11 : decode cX8_letSend 11 = .ok (.iconst (-1), 1) := by decide +kernel
theorem dX8_letSend_12 : decode cX8_letSend 12 = .ok (.ireturn, 1) := by decide +kernel
theorem dX8_letSend_13 : decode cX8_letSend 13 = .ok (.aload_n 0, 1) := by decide +kernel
theorem dX8_letSend_14 : decode cX8_letSend 14 = .ok (.getfield 12, 3) := by decide +kernel
theorem dX8_letSend_17 : decode cX8_letSend 17 = .ok (.getfield 191, 3) := by decide +kernel
theorem dX8_letSend_20 : decode cX8_letSend 20 = .ok (.iload_n 1, 1) := by decide +kernel
theorem dX8_letSend_21 : decode cX8_letSend 21 = .ok (.aaload, 1) := by decide +kernel
theorem dX8_letSend_22 : decode cX8_letSend 22 = .ok (.astore_n 2, 1) := by decide +kernel
theorem dX8_letSend_23 : decode cX8_letSend 23 = .ok (.aload_n 2, 1) := by decide +kernel
theorem dX8_letSend_24 : decode cX8_letSend 24 = .ok (.getfield 195, 3) := by decide +kernel
theorem dX8_letSend_27 : decode cX8_letSend 27 = .ok (.ifCond .ne 10, 3) := by decide +kernel
theorem dX8_letSend_30 : decode cX8_letSend 30 = .ok (.aload_n 0, 1) := by decide +kernel
theorem dX8_letSend_31 : decode cX8_letSend 31 = .ok (.iconst 2, 1) := by decide +kernel
theorem dX8_letSend_32 : decode cX8_letSend 32 = .ok (.iload_n 1, 1) := by decide +kernel
theorem dX8_letSend_33 : decode cX8_letSend 33 = .ok (.invokevirtual 181, 3) := by decide +kernel
theorem dX8_letSend_36 : decode cX8_letSend 36 = .ok (.ireturn, 1) := by decide +kernel
theorem dX8_letSend_37 : decode cX8_letSend 37 = .ok (.aload_n 2, 1) := by decide +kernel
theorem dX8_letSend_38 : decode cX8_letSend 38 = .ok (.getfield 201, 3) := by decide +kernel
theorem dX8_letSend_41 : decode cX8_letSend 41 = .ok (.iconst 2, 1) := by decide +kernel
theorem dX8_letSend_42 : decode cX8_letSend 42 = .ok (.if_icmp .eq 13, 3) := by decide +kernel
theorem dX8_letSend_45 : decode cX8_letSend 45 = .ok (.aload_n 0, 1) := by decide +kernel
theorem dX8_letSend_46 : decode cX8_letSend 46 = .ok (.iconst 4, 1) := by decide +kernel
theorem dX8_letSend_47 : decode cX8_letSend 47 = .ok (.aload_n 2, 1) := by decide +kernel
theorem dX8_letSend_48 : decode cX8_letSend 48 = .ok (.getfield 204, 3) := by decide +kernel
theorem dX8_letSend_51 : decode cX8_letSend 51 = .ok (.invokevirtual 181, 3) := by decide +kernel
theorem dX8_letSend_54 : decode cX8_letSend 54 = .ok (.ireturn, 1) := by decide +kernel
theorem dX8_letSend_55 : decode cX8_letSend 55 = .ok (.aload_n 0, 1) := by decide +kernel
theorem dX8_letSend_56 : decode cX8_letSend 56 = .ok (.getfield 12, 3) := by decide +kernel
theorem dX8_letSend_59 : decode cX8_letSend 59 = .ok (.iload_n 1, 1) := by decide +kernel
theorem dX8_letSend_60 : decode cX8_letSend 60 = .ok (.invokevirtual 210, 3) := by decide +kernel
theorem dX8_letSend_63 : decode cX8_letSend 63 = .ok (.ireturn, 1) := by decide +kernel
theorem dX8_letShout_0 : decode cX8_letShout 0 = .ok (.aload_n 0, 1) := by decide +kernel
theorem dX8_letShout_1 : decode cX8_letShout 1 = .ok (.getfield 12, 3) := by decide +kernel
theorem dX8_letShout_4 : decode cX8_letShout 4 = .ok (.iload_n 1, 1) := by decide +kernel
theorem dX8_letShout_5 : decode cX8_letShout 5 = .ok (.invokevirtual 187, 3) := by decide +kernel
theorem dX8_letShout_8 : decode cX8_letShout 8 = .ok (.ifCond .ne 5, 3) := by decide +kernel
theorem dX8_letShout_11 : decode cX8_letShout 11 = .ok (.iconst (-1), 1) := by decide +kernel
theorem dX8_letShout_12 : decode cX8_letShout 12 = .ok (.ireturn, 1) := by decide +kernel
theorem dX8_letShout_13 : decode cX8_letShout 13 = .ok (.iload_n 2, 1) := by decide +kernel
theorem dX8_letShout_14 : decode cX8_letShout 14 = .ok (.bipush 97, 2) := by decide +kernel
theorem dX8_letShout_16 : decode cX8_letShout 16 = .ok (.if_icmp .lt 9, 3) := by decide +kernel
theorem dX8_letShout_19 : decode cX8_letShout 19 = .ok (.iload_n 2, 1) := by decide +kernel
theorem dX8_letShout_20 : decode cX8_letShout 20 = .ok (.bipush 122, 2) := by decide +kernel
theorem dX8_letShout_22 : decode cX8_letShout 22 = .ok (.if_icmp .le 6, 3) := by decide +kernel
theorem dX8_letShout_25 : decode cX8_letShout 25 = .ok (.bipush (-2), 2) := by decide +kernel
theorem dX8_letShout_27 : decode cX8_letShout 27 = .ok (.ireturn, 1) := by decide +kernel
theorem dX8_letShout_28 : decode cX8_letShout 28 = .ok (.aload_n 0, 1) := by decide +kernel
theorem dX8_letShout_29 : decode cX8_letShout 29 = .ok (.getfield 12, 3) := by decide +kernel
theorem dX8_letShout_32 : decode cX8_letShout 32 = .ok (.getfield 191, 3) := by decide +kernel
theorem dX8_letShout_35 : decode cX8_letShout 35 = .ok (.iload_n 1, 1) := by decide +kernel
theorem dX8_letShout_36 : decode cX8_letShout 36 = .ok (.aaload, 1) := by decide +kernel
theorem dX8_letShout_37 : decode cX8_letShout 37 = .ok (.astore_n 3, 1) := by decide +kernel
theorem dX8_letShout_38 : decode cX8_letShout 38 = .ok (.aload_n 3, 1) := by decide +kernel
theorem dX8_letShout_39 : decode cX8_letShout 39 = .ok (.getfield 195, 3) := by decide +kernel
theorem dX8_letShout_42 : decode cX8_letShout 42 = .ok (.ifCond .ne 10, 3) := by decide +kernel
theorem dX8_letShout_45 : decode cX8_letShout 45 = .ok (.aload_n 0, 1) := by decide +kernel
theorem dX8_letShout_46 : decode cX8_letShout 46 = .ok (.iconst 2, 1) := by decide +kernel
theorem dX8_letShout_47 : decode cX8_letShout 47 = .ok (.iload_n 1, 1) := by decide +kernel
theorem dX8_letShout_48 : decode cX8_letShout 48 = .ok (.invokevirtual 181, 3) := by decide +kernel
theorem dX8_letShout_51 : decode cX8_letShout 51 = .ok (.ireturn, 1) := by decide +kernel
theorem dX8_letShout_52 : decode cX8_letShout 52 = .ok (.aload_n 3, 1) := by decide +kernel
theorem dX8_letShout_53 : decode cX8_letShout 53 = .ok (.getfield 201, 3) := by decide +kernel
theorem dX8_letShout_56 : decode cX8_letShout 56 = .ok (.iconst 2, 1) := by decide +kernel
theorem dX8_letShout_57 : decode cX8_letShout 57 = .ok (.if_icmp .eq 13, 3) := by decide +kernel
theorem dX8_letShout_60 : decode cX8_letShout 60 = .ok (.aload_n 0, 1) := by decide +kernel
theorem dX8_letShout_61 : decode cX8_letShout 61 = .ok (.iconst 4, 1) := by decide +kernel
theorem dX8_letShout_62 : decode cX8_letShout 62 = .ok (.aload_n 3, 1) := by decide +kernel
theorem dX8_letShout_63 : decode cX8_letShout 63 = .ok (.getfield 204, 3) := by decide +kernel
theorem dX8_letShout_66 : decode cX8_letShout 66 = .ok (.invokevirtual 181, 3) := by decide +kernel
theorem dX8_letShout_69 : decode cX8_letShout 69 = .ok (.ireturn, 1) := by decide +kernel
theorem dX8_letShout_70 : decode cX8_letShout 70 = .ok (.aload_n 3, 1) := by decide +kernel
theorem dX8_letShout_71 : decode cX8_letShout 71 = .ok (.getfield 213, 3) := by decide +kernel
theorem dX8_letShout_74 : decode cX8_letShout 74 = .ok (.bipush 12, 2) := by decide +kernel
theorem dX8_letShout_76 : decode cX8_letShout 76 = .ok (.if_icmp .lt 11, 3) := by decide +kernel
theorem dX8_letShout_79 : decode cX8_letShout 79 = .ok (.aload_n 0, 1) := by decide +kernel
theorem dX8_letShout_80 : decode cX8_letShout 80 = .ok (.iconst 1, 1) := by decide +kernel
theorem dX8_letShout_81 : decode cX8_letShout 81 = .ok (.bipush 12, 2) := by decide +kernel
theorem dX8_letShout_83 : decode cX8_letShout 83 = .ok (.invokevirtual 181, 3) := by decide +kernel
theorem dX8_letShout_86 : decode cX8_letShout 86 = .ok (.ireturn, 1) := by decide +kernel
theorem dX8_letShout_87 : decode cX8_letShout 87 = .ok (.aload_n 0, 1) := by decide +kernel
theorem dX8_letShout_88 : decode cX8_letShout 88 = .ok (.getfield 12, 3) := by decide +kernel
theorem dX8_letShout_91 : decode cX8_letShout 91 = .ok (.dup, 1) := by decide +kernel
theorem dX8_letShout_92 : decode cX8_letShout 92 = .ok (.getfield 216, 3) := by decide +kernel
theorem dX8_letShout_95 : decode cX8_letShout 95 = .ok (.iconst 1, 1) := by decide +kernel
theorem dX8_letShout_96 : decode cX8_letShout 96 = .ok (.iadd, 1) := by decide +kernel
theorem dX8_letShout_97 : decode cX8_letShout 97 = .ok (.putfield 216, 3) := by decide +kernel
theorem dX8_letShout_100 : decode cX8_letShout 100 = .ok (.aload_n 3, 1) := by decide +kernel
theorem dX8_letShout_101 : decode cX8_letShout 101 = .ok (.aload_n 3, 1) := by decide +kernel
theorem dX8_letShout_102 : decode cX8_letShout 102 = .ok (.getfield 204, 3) := by decide +kernel
theorem dX8_letShout_105 : decode cX8_letShout 105 = .ok (.iload_n 2, 1) := by decide +kernel
theorem dX8_letShout_106 : decode cX8_letShout 106 = .ok (.i2c, 1) := by decide +kernel
theorem dX8_letShout_107 : decode cX8_letShout 107 = .ok (.invokevirtual 219, 3) := by decide +kernel
theorem dX8_letShout_110 : decode cX8_letShout 110 = .ok (.aload_n 3, 1) := by decide +kernel
theorem dX8_letShout_111 : decode cX8_letShout 111 = .ok (.getfield 213, 3) := by decide +kernel
theorem dX8_letShout_114 : decode cX8_letShout 114 = .ok (.ireturn, 1) := by decide +kernel
theorem dX8_washAway_0 : decode cX8_washAway 0 = .ok (.aload_n 0, 1) := by decide +kernel
theorem dX8_washAway_1 : decode cX8_washAway 1 = .ok (.getfield 12, 3) := by decide +kernel
theorem dX8_washAway_4 : decode cX8_washAway 4 = .ok (.iload_n 1, 1) := by decide +kernel
theorem dX8_washAway_5 : decode cX8_washAway 5 = .ok (.invokevirtual 187, 3) := by decide +kernel
theorem dX8_washAway_8 : decode cX8_washAway 8 = .ok (.ifCond .ne 5, 3) := by decide +kernel
theorem dX8_washAway_11 : decode cX8_washAway 11 = .ok (.iconst (-1), 1) := by decide +kernel
theorem dX8_washAway_12 : decode cX8_washAway 12 = .ok (.ireturn, 1) := by decide +kernel
theorem dX8_washAway_13 : decode cX8_washAway 13 = .ok (.aload_n 0, 1) := by decide +kernel
theorem dX8_washAway_14 : decode cX8_washAway 14 = .ok (.getfield 12, 3) := by decide +kernel
theorem dX8_washAway_17 : decode cX8_washAway 17 = .ok (.getfield 191, 3) := by decide +kernel
theorem dX8_washAway_20 : decode cX8_washAway 20 = .ok (.iload_n 1, 1) := by decide +kernel
theorem dX8_washAway_21 : decode cX8_washAway 21 = .ok (.aaload, 1) := by decide +kernel
theorem dX8_washAway_22 : decode cX8_washAway 22 = .ok (.astore_n 2, 1) := by decide +kernel
theorem dX8_washAway_23 : decode cX8_washAway 23 = .ok (.aload_n 2, 1) := by decide +kernel
theorem dX8_washAway_24 : decode cX8_washAway 24 = .ok (.getfield 195, 3) := by decide +kernel
theorem dX8_washAway_27 : decode cX8_washAway 27 = .ok (.ifCond .ne 10, 3) := by decide +kernel
theorem dX8_washAway_30 : decode cX8_washAway 30 = .ok (.aload_n 0, 1) := by decide +kernel
theorem dX8_washAway_31 : decode cX8_washAway 31 = .ok (.iconst 2, 1) := by decide +kernel
theorem dX8_washAway_32 : decode cX8_washAway 32 = .ok (.iload_n 1, 1) := by decide +kernel
theorem dX8_washAway_33 : decode cX8_washAway 33 = .ok (.invokevirtual 181, 3) := by decide +kernel
theorem dX8_washAway_36 : decode cX8_washAway 36 = .ok (.ireturn, 1) := by decide +kernel
theorem dX8_washAway_37 : decode cX8_washAway 37 = .ok (.aload_n 2, 1) := by decide +kernel
theorem dX8_washAway_38 : decode cX8_washAway 38 = .ok (.iconst 0, 1) := by decide +kernel
theorem dX8_washAway_39 : decode cX8_washAway 39 = .ok (.putfield 195, 3) := by decide +kernel
theorem dX8_washAway_42 : decode cX8_washAway 42 = .ok (.aload_n 2, 1) := by decide +kernel
theorem dX8_washAway_43 : decode cX8_washAway 43 = .ok (.iconst 0, 1) := by decide +kernel
theorem dX8_washAway_44 : decode cX8_washAway 44 = .ok (.putfield 201, 3) := by decide +kernel
theorem dX8_washAway_47 : decode cX8_washAway 47 = .ok (.aload_n 0, 1) := by decide +kernel
theorem dX8_washAway_48 : decode cX8_washAway 48 = .ok (.getfield 12, 3) := by decide +kernel
theorem dX8_washAway_51 : decode cX8_washAway 51 = .ok (.invokevirtual 223, 3) := by decide +kernel
theorem dX8_washAway_54 : decode cX8_washAway 54 = .ok (.ireturn, 1) := by decide +kernel
theorem dX8_bringBack_0 : decode cX8_bringBack 0 = .ok (.aload_n 0, 1) := by decide +kernel
theorem dX8_bringBack_1 : decode cX8_bringBack 1 = .ok (.getfield 12, 3) := by decide +kernel
theorem dX8_bringBack_4 : decode cX8_bringBack 4 = .ok (.iload_n 1, 1) := by decide +kernel
theorem dX8_bringBack_5 : decode cX8_bringBack 5 = .ok (.invokevirtual 187, 3) := by decide +kernel
theorem dX8_bringBack_8 : decode cX8_bringBack 8 = .ok (.ifCond .ne 5, 3) := by decide +kernel
theorem dX8_bringBack_11 : decode cX8_bringBack 11 = .ok (.iconst (-1), 1) := by decide +kernel
theorem dX8_bringBack_12 : decode cX8_bringBack 12 = .ok (.ireturn, 1) := by decide +kernel
theorem dX8_bringBack_13 : decode cX8_bringBack 13 = .ok (.aload_n 0, 1) := by decide +kernel
theorem dX8_bringBack_14 : decode cX8_bringBack 14 = .ok (.getfield 12, 3) := by decide +kernel
theorem dX8_bringBack_17 : decode cX8_bringBack 17 = .ok (.getfield 191, 3) := by decide +kernel
theorem dX8_bringBack_20 : decode cX8_bringBack 20 = .ok (.iload_n 1, 1) := by decide +kernel
theorem dX8_bringBack_21 : decode cX8_bringBack 21 = .ok (.aaload, 1) := by decide +kernel
theorem dX8_bringBack_22 : decode cX8_bringBack 22 = .ok (.astore_n 2, 1) := by decide +kernel
theorem dX8_bringBack_23 : decode cX8_bringBack 23 = .ok (.aload_n 2, 1) := by decide +kernel
theorem dX8_bringBack_24 : decode cX8_bringBack 24 = .ok (.getfield 195, 3) := by decide +kernel
theorem dX8_bringBack_27 : decode cX8_bringBack 27 = .ok (.ifCond .eq 11, 3) := by decide +kernel
theorem dX8_bringBack_30 : decode cX8_bringBack 30 = .ok (.aload_n 0, 1) := by decide +kernel
theorem dX8_bringBack_31 : decode cX8_bringBack 31 = .ok (.bipush 6, 2) := by decide +kernel
theorem dX8_bringBack_33 : decode cX8_bringBack 33 = .ok (.iload_n 1, 1) := by decide +kernel
theorem dX8_bringBack_34 : decode cX8_bringBack 34 = .ok (.invokevirtual 181, 3) := by decide +kernel
theorem dX8_bringBack_37 : decode cX8_bringBack 37 = .ok (.ireturn, 1) := by decide +kernel
theorem dX8_bringBack_38 : decode cX8_bringBack 38 = .ok (.aload_n 2, 1) := by decide +kernel
theorem dX8_bringBack_39 : decode cX8_bringBack 39 = .ok (.iconst 1, 1) := by decide +kernel
theorem dX8_bringBack_40 : decode cX8_bringBack 40 = .ok (.putfield 195, 3) := by decide +kernel
theorem dX8_bringBack_43 : decode cX8_bringBack 43 = .ok (.aload_n 2, 1) := by decide +kernel
theorem dX8_bringBack_44 : decode cX8_bringBack 44 = .ok (.iconst 0, 1) := by decide +kernel
theorem dX8_bringBack_45 : decode cX8_bringBack 45 = .ok (.putfield 226, 3) := by decide +kernel
theorem dX8_bringBack_48 : decode cX8_bringBack 48 = .ok (.aload_n 0, 1) := by decide +kernel
theorem dX8_bringBack_49 : decode cX8_bringBack 49 = .ok (.getfield 12, 3) := by decide +kernel
theorem dX8_bringBack_52 : decode cX8_bringBack 52 = .ok (.invokevirtual 223, 3) := by decide +kernel
theorem dX8_bringBack_55 : decode cX8_bringBack 55 = .ok (.ireturn, 1) := by decide +kernel
theorem dX8_changeRope_0 : decode cX8_changeRope 0 = .ok (.aload_n 0, 1) := by decide +kernel
theorem dX8_changeRope_1 : decode cX8_changeRope 1 = .ok (.getfield 12, 3) := by decide +kernel
theorem dX8_changeRope_4 : decode cX8_changeRope 4 = .ok (.iload_n 1, 1) := by decide +kernel
theorem dX8_changeRope_5 : decode cX8_changeRope 5 = .ok (.invokevirtual 187, 3) := by decide +kernel
theorem dX8_changeRope_8 : decode cX8_changeRope 8 = .ok (.ifCond .eq 14, 3) := by decide +kernel
theorem dX8_changeRope_11 : decode cX8_changeRope 11 = .ok (.aload_n 0, 1) := by decide +kernel
theorem dX8_changeRope_12 : decode cX8_changeRope 12 = .ok (.getfield 12, 3) := by decide +kernel
theorem dX8_changeRope_15 : decode cX8_changeRope 15 = .ok (.iload_n 2, 1) := by decide +kernel
theorem dX8_changeRope_16 : decode cX8_changeRope 16 = .ok (.invokevirtual 187, 3) := by decide +kernel
theorem dX8_changeRope_19 : decode cX8_changeRope 19 = .ok (.ifCond .ne 5, 3) := by decide +kernel
theorem dX8_changeRope_22 : decode cX8_changeRope 22 = .ok (.iconst (-1), 1) := by decide +kernel
theorem dX8_changeRope_23 : decode cX8_changeRope 23 = .ok (.ireturn, 1) := by decide +kernel
theorem dX8_changeRope_24 : decode cX8_changeRope 24 = .ok (.iload_n 1, 1) := by decide +kernel
theorem dX8_changeRope_25 : decode cX8_changeRope 25 = .ok (.iload_n 2, 1) := by decide +kernel
theorem dX8_changeRope_26 : decode cX8_changeRope 26 = .ok (.if_icmp .ne 10, 3) := by decide +kernel
theorem dX8_changeRope_29 : decode cX8_changeRope 29 = .ok (.aload_n 0, 1) := by decide +kernel
theorem dX8_changeRope_30 : decode cX8_changeRope 30 = .ok (.iconst 5, 1) := by decide +kernel
theorem dX8_changeRope_31 : decode cX8_changeRope 31 = .ok (.iload_n 1, 1) := by decide +kernel
theorem dX8_changeRope_32 : decode cX8_changeRope 32 = .ok (.invokevirtual 181, 3) := by decide +kernel
theorem dX8_changeRope_35 : decode cX8_changeRope 35 = .ok (.ireturn, 1) := by decide +kernel
theorem dX8_changeRope_36 : decode cX8_changeRope 36 = .ok (.aload_n 0, 1) := by decide +kernel
theorem dX8_changeRope_37 : decode cX8_changeRope 37 = .ok (.getfield 12, 3) := by decide +kernel
theorem dX8_changeRope_40 : decode cX8_changeRope 40 = .ok (.iload_n 1, 1) := by decide +kernel
theorem dX8_changeRope_41 : decode cX8_changeRope 41 = .ok (.iload_n 2, 1) := by decide +kernel
theorem dX8_changeRope_42 : decode cX8_changeRope 42 = .ok (.invokevirtual 229, 3) := by decide +kernel
theorem dX8_changeRope_45 : decode cX8_changeRope 45 = .ok (.iload_n 3, 1) := by decide +kernel
theorem dX8_changeRope_46 : decode cX8_changeRope 46 = .ok (.if_icmp .ne 15, 3) := by decide +kernel
theorem dX8_changeRope_49 : decode cX8_changeRope 49 = .ok (.aload_n 0, 1) := by decide +kernel
theorem dX8_changeRope_50 : decode cX8_changeRope 50 = .ok (.bipush 6, 2) := by decide +kernel
theorem dX8_changeRope_52 : decode cX8_changeRope 52 = .ok (.iload_n 1, 1) := by decide +kernel
theorem dX8_changeRope_53 : decode cX8_changeRope 53 = .ok (.iload_n 2, 1) := by decide +kernel
theorem dX8_changeRope_54 : decode cX8_changeRope 54 = .ok (.invokestatic 233, 3) := by decide +kernel
theorem dX8_changeRope_57 : decode cX8_changeRope 57 = .ok (.invokevirtual 181, 3) := by decide +kernel
theorem dX8_changeRope_60 : decode cX8_changeRope 60 = .ok (.ireturn, 1) := by decide +kernel
theorem dX8_changeRope_61 : decode cX8_changeRope 61 = .ok (.aload_n 0, 1) := by decide +kernel
theorem dX8_changeRope_62 : decode cX8_changeRope 62 = .ok (.getfield 12, 3) := by decide +kernel
theorem dX8_changeRope_65 : decode cX8_changeRope 65 = .ok (.iload_n 1, 1) := by decide +kernel
theorem dX8_changeRope_66 : decode cX8_changeRope 66 = .ok (.iload_n 2, 1) := by decide +kernel
theorem dX8_changeRope_67 : decode cX8_changeRope 67 = .ok (.iload_n 3, 1) := by decide +kernel
theorem dX8_changeRope_68 : decode cX8_changeRope 68 = .ok (.invokevirtual 238, 3) := by decide +kernel
theorem dX8_changeRope_71 : decode cX8_changeRope 71 = .ok (.aload_n 0, 1) := by decide +kernel
theorem dX8_changeRope_72 : decode cX8_changeRope 72 = .ok (.getfield 12, 3) := by decide +kernel
theorem dX8_changeRope_75 : decode cX8_changeRope 75 = .ok (.invokevirtual 242, 3) := by decide +kernel
theorem dX8_changeRope_78 : decode cX8_changeRope 78 = .ok (.ireturn, 1) := by decide +kernel
theorem dX8_refuse_0 : decode cX8_refuse 0 = .ok (.aload_n 0, 1) := by decide +kernel
theorem dX8_refuse_1 : decode cX8_refuse 1 = .ok (.getfield 32, 3) := by decide +kernel
theorem dX8_refuse_4 : decode cX8_refuse 4 = .ok (.iload_n 1, 1) := by decide +kernel
theorem dX8_refuse_5 : decode cX8_refuse 5 = .ok (.iload_n 2, 1) := by decide +kernel
theorem dX8_refuse_6 : decode cX8_refuse 6 = .ok (.invokevirtual 245, 3) := by decide +kernel
theorem dX8_refuse_9 : decode cX8_refuse 9 = .ok (.bipush (-3), 2) := by decide +kernel
theorem dX8_refuse_11 : decode cX8_refuse 11 = .ok (.ireturn, 1) := by decide +kernel
theorem dX8_refuseCommand_0 : decode cX8_refuseCommand 0 = .ok (.iload_n 2, 1) := by decide +kernel
theorem dX8_refuseCommand_1 : decode cX8_refuseCommand 1 = .ok (.bipush (-3), 2) := by decide +kernel
theorem dX8_refuseCommand_3 : decode cX8_refuseCommand 3 = .ok (.if_icmp .ne 16, 3) := by decide +kernel
theorem dX8_refuseCommand_6 : decode cX8_refuseCommand 6 = .ok (.aload_n 0, 1) := by decide +kernel
theorem dX8_refuseCommand_7 : decode cX8_refuseCommand 7 = .ok (.getfield 32, 3) := by decide +kernel
theorem dX8_refuseCommand_10 : decode cX8_refuseCommand 10 = .ok (.bipush 8, 2) := by decide +kernel
theorem dX8_refuseCommand_12 : decode cX8_refuseCommand 12 = .ok (.iload_n 1, 1) := by decide +kernel
theorem dX8_refuseCommand_13 : decode cX8_refuseCommand 13 = .ok (.invokevirtual 249, 3) := by decide +kernel
theorem dX8_refuseCommand_16 : decode cX8_refuseCommand 16 = .ok (.goto 13, 3) := by decide +kernel
theorem dX8_refuseCommand_19 : decode cX8_refuseCommand 19 = .ok (.aload_n 0, 1) := by decide +kernel
theorem dX8_refuseCommand_20 : decode cX8_refuseCommand 20 = .ok (.getfield 32, 3) := by decide +kernel
theorem dX8_refuseCommand_23 : decode cX8_refuseCommand 23 = .ok (.bipush 9, 2) := by decide +kernel
theorem dX8_refuseCommand_25 : decode cX8_refuseCommand 25 = .ok (.iload_n 1, 1) := by decide +kernel
theorem dX8_refuseCommand_26 : decode cX8_refuseCommand 26 = .ok (.invokevirtual 245, 3) := by decide +kernel
theorem dX8_refuseCommand_29 : decode cX8_refuseCommand 29 = .ok (.bipush (-3), 2) := by decide +kernel
theorem dX8_refuseCommand_31 : decode cX8_refuseCommand 31 = .ok (.ireturn, 1) := by decide +kernel
theorem dX8_driverOf_0 : decode cX8_driverOf 0 = .ok (.aload_n 0, 1) := by decide +kernel
theorem dX8_driverOf_1 : decode cX8_driverOf 1 = .ok (.getfield 12, 3) := by decide +kernel
theorem dX8_driverOf_4 : decode cX8_driverOf 4 = .ok (.iload_n 1, 1) := by decide +kernel
theorem dX8_driverOf_5 : decode cX8_driverOf 5 = .ok (.invokevirtual 187, 3) := by decide +kernel
theorem dX8_driverOf_8 : decode cX8_driverOf 8 = .ok (.ifCond .ne 5, 3) := by decide +kernel
theorem dX8_driverOf_11 : decode cX8_driverOf 11 = .ok (.iconst (-1), 1) := by decide +kernel
theorem dX8_driverOf_12 : decode cX8_driverOf 12 = .ok (.ireturn, 1) := by decide +kernel
theorem dX8_driverOf_13 : decode cX8_driverOf 13 = .ok (.aload_n 0, 1) := by decide +kernel
theorem dX8_driverOf_14 : decode cX8_driverOf 14 = .ok (.getfield 12, 3) := by decide +kernel
theorem dX8_driverOf_17 : decode cX8_driverOf 17 = .ok (.getfield 191, 3) := by decide +kernel
theorem dX8_driverOf_20 : decode cX8_driverOf 20 = .ok (.iload_n 1, 1) := by decide +kernel
theorem dX8_driverOf_21 : decode cX8_driverOf 21 = .ok (.aaload, 1) := by decide +kernel
theorem dX8_driverOf_22 : decode cX8_driverOf 22 = .ok (.astore_n 3, 1) := by decide +kernel
theorem dX8_driverOf_23 : decode cX8_driverOf 23 = .ok (.iload_n 2, 1) := by decide +kernel
theorem dX8_driverOf_24 : decode cX8_driverOf 24 = .ok (.tableswitch 127 0 10 #[60, 65, 70, 75, 80, 85, 90, 95, 108, 117, 122], 60) := by decide +kernel
theorem dX8_driverOf_84 : decode cX8_driverOf 84 = .ok (.aload_n 3, 1) := by decide +kernel
theorem dX8_driverOf_85 : decode cX8_driverOf 85 = .ok (.getfield 201, 3) := by decide +kernel
theorem dX8_driverOf_88 : decode cX8_driverOf 88 = .ok (.ireturn, 1) := by decide +kernel
theorem dX8_driverOf_89 : decode cX8_driverOf 89 = .ok (.aload_n 3, 1) := by decide +kernel
theorem dX8_driverOf_90 : decode cX8_driverOf 90 = .ok (.getfield 204, 3) := by decide +kernel
theorem dX8_driverOf_93 : decode cX8_driverOf 93 = .ok (.ireturn, 1) := by decide +kernel
theorem dX8_driverOf_94 : decode cX8_driverOf 94 = .ok (.aload_n 3, 1) := by decide +kernel
theorem dX8_driverOf_95 : decode cX8_driverOf 95 = .ok (.getfield 264, 3) := by decide +kernel
theorem dX8_driverOf_98 : decode cX8_driverOf 98 = .ok (.ireturn, 1) := by decide +kernel
theorem dX8_driverOf_99 : decode cX8_driverOf 99 = .ok (.aload_n 3, 1) := by decide +kernel
theorem dX8_driverOf_100 : decode cX8_driverOf 100 = .ok (.getfield 226, 3) := by decide +kernel
theorem dX8_driverOf_103 : decode cX8_driverOf 103 = .ok (.ireturn, 1) := by decide +kernel
theorem dX8_driverOf_104 : decode cX8_driverOf 104 = .ok (.aload_n 3, 1) := by decide +kernel
theorem dX8_driverOf_105 : decode cX8_driverOf 105 = .ok (.getfield 267, 3) := by decide +kernel
theorem dX8_driverOf_108 : decode cX8_driverOf 108 = .ok (.ireturn, 1) := by decide +kernel
theorem dX8_driverOf_109 : decode cX8_driverOf 109 = .ok (.aload_n 3, 1) := by decide +kernel
theorem dX8_driverOf_110 : decode cX8_driverOf 110 = .ok (.getfield 213, 3) := by decide +kernel
theorem dX8_driverOf_113 : decode cX8_driverOf 113 = .ok (.ireturn, 1) := by decide +kernel
theorem dX8_driverOf_114 : decode cX8_driverOf 114 = .ok (.aload_n 3, 1) := by decide +kernel
theorem dX8_driverOf_115 : decode cX8_driverOf 115 = .ok (.getfield 270, 3) := by decide +kernel
theorem dX8_driverOf_118 : decode cX8_driverOf 118 = .ok (.ireturn, 1) := by decide +kernel
theorem dX8_driverOf_119 : decode cX8_driverOf 119 = .ok (.aload_n 3, 1) := by decide +kernel
theorem dX8_driverOf_120 : decode cX8_driverOf 120 = .ok (.getfield 195, 3) := by decide +kernel
theorem dX8_driverOf_123 : decode cX8_driverOf 123 = .ok (.ifCond .eq 7, 3) := by decide +kernel
theorem dX8_driverOf_126 : decode cX8_driverOf 126 = .ok (.iconst 1, 1) := by decide +kernel
theorem dX8_driverOf_127 : decode cX8_driverOf 127 = .ok (.goto 4, 3) := by decide +kernel
theorem dX8_driverOf_130 : decode cX8_driverOf 130 = .ok (.iconst 0, 1) := by decide +kernel
theorem dX8_driverOf_131 : decode cX8_driverOf 131 = .ok (.ireturn, 1) := by decide +kernel
theorem dX8_driverOf_132 : decode cX8_driverOf 132 = .ok (.aload_n 0, 1) := by decide +kernel
theorem dX8_driverOf_133 : decode cX8_driverOf 133 = .ok (.getfield 12, 3) := by decide +kernel
theorem dX8_driverOf_136 : decode cX8_driverOf 136 = .ok (.iload_n 1, 1) := by decide +kernel
theorem dX8_driverOf_137 : decode cX8_driverOf 137 = .ok (.invokevirtual 273, 3) := by decide +kernel
theorem dX8_driverOf_140 : decode cX8_driverOf 140 = .ok (.ireturn, 1) := by decide +kernel
theorem dX8_driverOf_141 : decode cX8_driverOf 141 = .ok (.aload_n 3, 1) := by decide +kernel
theorem dX8_driverOf_142 : decode cX8_driverOf 142 = .ok (.getfield 276, 3) := by decide +kernel
theorem dX8_driverOf_145 : decode cX8_driverOf 145 = .ok (.ireturn, 1) := by decide +kernel
theorem dX8_driverOf_146 : decode cX8_driverOf 146 = .ok (.aload_n 3, 1) := by decide +kernel
theorem dX8_driverOf_147 : decode cX8_driverOf 147 = .ok (.getfield 279, 3) := by decide +kernel
theorem dX8_driverOf_150 : decode cX8_driverOf 150 = .ok (.ireturn, 1) := by decide +kernel
theorem dX8_driverOf_151 : decode cX8_driverOf 151 = .ok (.bipush (-2), 2) := by decide +kernel
theorem dX8_driverOf_153 : decode cX8_driverOf 153 = .ok (.ireturn, 1) := by decide +kernel
theorem dX8_lineOf_0 : decode cX8_lineOf 0 = .ok (.aload_n 0, 1) := by decide +kernel
theorem dX8_lineOf_1 : decode cX8_lineOf 1 = .ok (.getfield 12, 3) := by decide +kernel
theorem dX8_lineOf_4 : decode cX8_lineOf 4 = .ok (.iload_n 1, 1) := by decide +kernel
theorem dX8_lineOf_5 : decode cX8_lineOf 5 = .ok (.iload_n 2, 1) := by decide +kernel
theorem dX8_lineOf_6 : decode cX8_lineOf 6 = .ok (.invokevirtual 282, 3) := by decide +kernel
theorem dX8_lineOf_9 : decode cX8_lineOf 9 = .ok (.ifCond .ne 5, 3) := by decide +kernel
theorem dX8_lineOf_12 : decode cX8_lineOf 12 = .ok (.iconst (-1), 1) := by decide +kernel
theorem dX8_lineOf_13 : decode cX8_lineOf 13 = .ok (.ireturn, 1) := by decide +kernel
theorem dX8_lineOf_14 : decode cX8_lineOf 14 = .ok (.aload_n 0, 1) := by decide +kernel
theorem dX8_lineOf_15 : decode cX8_lineOf 15 = .ok (.getfield 12, 3) := by decide +kernel
theorem dX8_lineOf_18 : decode cX8_lineOf 18 = .ok (.getfield 191, 3) := by decide +kernel
theorem dX8_lineOf_21 : decode cX8_lineOf 21 = .ok (.iload_n 1, 1) := by decide +kernel
theorem dX8_lineOf_22 : decode cX8_lineOf 22 = .ok (.aaload, 1) := by decide +kernel
theorem dX8_lineOf_23 : decode cX8_lineOf 23 = .ok (.astore 4, 2) := by decide +kernel
theorem dX8_lineOf_25 : decode cX8_lineOf 25 = .ok (.iload_n 3, 1) := by decide +kernel
theorem dX8_lineOf_26 : decode cX8_lineOf 26 = .ok (.ifCond .eq 15, 3) := by decide +kernel
theorem dX8_lineOf_29 : decode cX8_lineOf 29 = .ok (.aload 4, 2) := by decide +kernel
theorem dX8_lineOf_31 : decode cX8_lineOf 31 = .ok (.getfield 285, 3) := by decide +kernel
theorem dX8_lineOf_34 : decode cX8_lineOf 34 = .ok (.iload_n 2, 1) := by decide +kernel
theorem dX8_lineOf_35 : decode cX8_lineOf 35 = .ok (.iconst 1, 1) := by decide +kernel
theorem dX8_lineOf_36 : decode cX8_lineOf 36 = .ok (.isub, 1) := by decide +kernel
theorem dX8_lineOf_37 : decode cX8_lineOf 37 = .ok (.caload, 1) := by decide +kernel
theorem dX8_lineOf_38 : decode cX8_lineOf 38 = .ok (.goto 12, 3) := by decide +kernel
theorem dX8_lineOf_41 : decode cX8_lineOf 41 = .ok (.aload 4, 2) := by decide +kernel
theorem dX8_lineOf_43 : decode cX8_lineOf 43 = .ok (.getfield 289, 3) := by decide +kernel
theorem dX8_lineOf_46 : decode cX8_lineOf 46 = .ok (.iload_n 2, 1) := by decide +kernel
theorem dX8_lineOf_47 : decode cX8_lineOf 47 = .ok (.iconst 1, 1) := by decide +kernel
theorem dX8_lineOf_48 : decode cX8_lineOf 48 = .ok (.isub, 1) := by decide +kernel
theorem dX8_lineOf_49 : decode cX8_lineOf 49 = .ok (.iaload, 1) := by decide +kernel
theorem dX8_lineOf_50 : decode cX8_lineOf 50 = .ok (.ireturn, 1) := by decide +kernel
theorem dX8_leader_0 : decode cX8_leader 0 = .ok (.bipush (-4), 2) := by decide +kernel
theorem dX8_leader_2 : decode cX8_leader 2 = .ok (.istore_n 1, 1) := by decide +kernel
theorem dX8_leader_3 : decode cX8_leader 3 = .ok (.iconst 0, 1) := by decide +kernel
theorem dX8_leader_4 : decode cX8_leader 4 = .ok (.istore_n 2, 1) := by decide +kernel
theorem dX8_leader_5 : decode cX8_leader 5 = .ok (.iconst 0, 1) := by decide +kernel
theorem dX8_leader_6 : decode cX8_leader 6 = .ok (.istore_n 3, 1) := by decide +kernel
theorem dX8_leader_7 : decode cX8_leader 7 = .ok (.iload_n 3, 1) := by decide +kernel
theorem dX8_leader_8 : decode cX8_leader 8 = .ok (.aload_n 0, 1) := by decide +kernel
theorem dX8_leader_9 : decode cX8_leader 9 = .ok (.getfield 12, 3) := by decide +kernel
theorem dX8_leader_12 : decode cX8_leader 12 = .ok (.getfield 54, 3) := by decide +kernel
theorem dX8_leader_15 : decode cX8_leader 15 = .ok (.if_icmp .ge 51, 3) := by decide +kernel
theorem dX8_leader_18 : decode cX8_leader 18 = .ok (.aload_n 0, 1) := by decide +kernel
theorem dX8_leader_19 : decode cX8_leader 19 = .ok (.getfield 12, 3) := by decide +kernel
theorem dX8_leader_22 : decode cX8_leader 22 = .ok (.getfield 191, 3) := by decide +kernel
theorem dX8_leader_25 : decode cX8_leader 25 = .ok (.iload_n 3, 1) := by decide +kernel
theorem dX8_leader_26 : decode cX8_leader 26 = .ok (.aaload, 1) := by decide +kernel
theorem dX8_leader_27 : decode cX8_leader 27 = .ok (.astore 4, 2) := by decide +kernel
theorem dX8_leader_29 : decode cX8_leader 29 = .ok (.aload 4, 2) := by decide +kernel
theorem dX8_leader_31 : decode cX8_leader 31 = .ok (.invokevirtual 292, 3) := by decide +kernel
theorem dX8_leader_34 : decode cX8_leader 34 = .ok (.ifCond .eq 26, 3) := by decide +kernel
theorem dX8_leader_37 : decode cX8_leader 37 = .ok (.iload_n 1, 1) := by decide +kernel
theorem dX8_leader_38 : decode cX8_leader 38 = .ok (.bipush (-4), 2) := by decide +kernel
theorem dX8_leader_40 : decode cX8_leader 40 = .ok (.if_icmp .eq 12, 3) := by decide +kernel
theorem dX8_leader_43 : decode cX8_leader 43 = .ok (.aload 4, 2) := by decide +kernel
theorem dX8_leader_45 : decode cX8_leader 45 = .ok (.getfield 204, 3) := by decide +kernel
theorem dX8_leader_48 : decode cX8_leader 48 = .ok (.iload_n 2, 1) := by decide +kernel
theorem dX8_leader_49 : decode cX8_leader 49 = .ok (.if_icmp .le 11, 3) := by decide +kernel
theorem dX8_leader_52 : decode cX8_leader 52 = .ok (.iload_n 3, 1) := by decide +kernel
theorem dX8_leader_53 : decode cX8_leader 53 = .ok (.istore_n 1, 1) := by decide +kernel
theorem dX8_leader_54 : decode cX8_leader 54 = .ok (.aload 4, 2) := by decide +kernel
theorem dX8_leader_56 : decode cX8_leader 56 = .ok (.getfield 204, 3) := by decide +kernel
theorem dX8_leader_59 : decode cX8_leader 59 = .ok (.istore_n 2, 1) := by decide +kernel
theorem dX8_leader_60 : decode cX8_leader 60 = .ok (.iinc 3 1, 3) := by decide +kernel
theorem dX8_leader_63 : decode cX8_leader 63 = .ok (.goto (-56), 3) := by decide +kernel
theorem dX8_leader_66 : decode cX8_leader 66 = .ok (.iload_n 1, 1) := by decide +kernel
theorem dX8_leader_67 : decode cX8_leader 67 = .ok (.ireturn, 1) := by decide +kernel
theorem dX8_reaches_0 : decode cX8_reaches 0 = .ok (.aload_n 0, 1) := by decide +kernel
theorem dX8_reaches_1 : decode cX8_reaches 1 = .ok (.getfield 12, 3) := by decide +kernel
theorem dX8_reaches_4 : decode cX8_reaches 4 = .ok (.iload_n 1, 1) := by decide +kernel
theorem dX8_reaches_5 : decode cX8_reaches 5 = .ok (.invokevirtual 187, 3) := by decide +kernel
theorem dX8_reaches_8 : decode cX8_reaches 8 = .ok (.ifCond .eq 30, 3) := by decide +kernel
theorem dX8_reaches_11 : decode cX8_reaches 11 = .ok (.aload_n 0, 1) := by decide +kernel
theorem dX8_reaches_12 : decode cX8_reaches 12 = .ok (.getfield 12, 3) := by decide +kernel
theorem dX8_reaches_15 : decode cX8_reaches 15 = .ok (.iload_n 2, 1) := by decide +kernel
theorem dX8_reaches_16 : decode cX8_reaches 16 = .ok (.invokevirtual 187, 3) := by decide +kernel
theorem dX8_reaches_19 : decode cX8_reaches 19 = .ok (.ifCond .eq 19, 3) := by decide +kernel
theorem dX8_reaches_22 : decode cX8_reaches 22 = .ok (.aload_n 0, 1) := by decide +kernel
theorem dX8_reaches_23 : decode cX8_reaches 23 = .ok (.getfield 12, 3) := by decide +kernel
theorem dX8_reaches_26 : decode cX8_reaches 26 = .ok (.iload_n 1, 1) := by decide +kernel
theorem dX8_reaches_27 : decode cX8_reaches 27 = .ok (.iload_n 2, 1) := by decide +kernel
theorem dX8_reaches_28 : decode cX8_reaches 28 = .ok (.invokevirtual 295, 3) := by decide +kernel
theorem dX8_reaches_31 : decode cX8_reaches 31 = .ok (.ifCond .eq 7, 3) := by decide +kernel
theorem dX8_reaches_34 : decode cX8_reaches 34 = .ok (.iconst 1, 1) := by decide +kernel
theorem dX8_reaches_35 : decode cX8_reaches 35 = .ok (.goto 4, 3) := by decide +kernel
theorem dX8_reaches_38 : decode cX8_reaches 38 = .ok (.iconst 0, 1) := by decide +kernel
theorem dX8_reaches_39 : decode cX8_reaches 39 = .ok (.ireturn, 1) := by decide +kernel
theorem dX8_couldLead_0 : decode cX8_couldLead 0 = .ok (.aload_n 0, 1) := by decide +kernel
theorem dX8_couldLead_1 : decode cX8_couldLead 1 = .ok (.iload_n 1, 1) := by decide +kernel
theorem dX8_couldLead_2 : decode cX8_couldLead 2 = .ok (.invokevirtual 301, 3) := by decide +kernel
theorem dX8_couldLead_5 : decode cX8_couldLead 5 = .ok (.istore_n 2, 1) := by decide +kernel
theorem dX8_couldLead_6 : decode cX8_couldLead 6 = .ok (.iload_n 2, 1) := by decide +kernel
theorem dX8_couldLead_7 : decode cX8_couldLead 7 = .ok (.ifCond .ge 7, 3) := by decide +kernel
theorem dX8_couldLead_10 : decode cX8_couldLead 10 = .ok (.iload_n 2, 1) := by decide +kernel
theorem dX8_couldLead_11 : decode cX8_couldLead 11 = .ok (.goto 11, 3) := by decide +kernel
theorem dX8_couldLead_14 : decode cX8_couldLead 14 = .ok (.aload_n 0, 1) := by decide +kernel
theorem dX8_couldLead_15 : decode cX8_couldLead 15 = .ok (.getfield 12, 3) := by decide +kernel
theorem dX8_couldLead_18 : decode cX8_couldLead 18 = .ok (.iload_n 1, 1) := by decide +kernel
theorem dX8_couldLead_19 : decode cX8_couldLead 19 = .ok (.invokevirtual 304, 3) := by decide +kernel
theorem dX8_couldLead_22 : decode cX8_couldLead 22 = .ok (.ireturn, 1) := by decide +kernel
theorem dX8_couldLeadAgain_0 : decode cX8_couldLeadAgain 0 = .ok (.aload_n 0, 1) := by decide +kernel
theorem dX8_couldLeadAgain_1 : decode cX8_couldLeadAgain 1 = .ok (.iload_n 1, 1) := by decide +kernel
theorem dX8_couldLeadAgain_2 : decode cX8_couldLeadAgain 2 = .ok (.invokevirtual 301, 3) := by decide +kernel
theorem dX8_couldLeadAgain_5 : decode cX8_couldLeadAgain 5 = .ok (.istore_n 2, 1) := by decide +kernel
theorem dX8_couldLeadAgain_6 : decode cX8_couldLeadAgain 6 = .ok (.iload_n 2, 1) := by decide +kernel
theorem dX8_couldLeadAgain_7 : decode cX8_couldLeadAgain 7 = .ok (.ifCond .ge 5, 3) := by decide +kernel
theorem dX8_couldLeadAgain_10 : decode cX8_couldLeadAgain 10 = .ok (.iload_n 2, 1) := by decide +kernel
theorem dX8_couldLeadAgain_11 : decode cX8_couldLeadAgain 11 = .ok (.ireturn, 1) := by decide +kernel
theorem dX8_couldLeadAgain_12 : decode cX8_couldLeadAgain 12 = .ok (.aload_n 0, 1) := by decide +kernel
theorem dX8_couldLeadAgain_13 : decode cX8_couldLeadAgain 13 = .ok (.getfield 16, 3) := by decide +kernel
theorem dX8_couldLeadAgain_16 : decode cX8_couldLeadAgain 16 = .ok (.aload_n 0, 1) := by decide +kernel
theorem dX8_couldLeadAgain_17 : decode cX8_couldLeadAgain 17 = .ok (.getfield 12, 3) := by decide +kernel
theorem dX8_couldLeadAgain_20 : decode cX8_couldLeadAgain 20 = .ok (.invokevirtual 113, 3) := by decide +kernel
theorem dX8_couldLeadAgain_23 : decode cX8_couldLeadAgain 23 = .ok (.aload_n 0, 1) := by decide +kernel
theorem dX8_couldLeadAgain_24 : decode cX8_couldLeadAgain 24 = .ok (.getfield 12, 3) := by decide +kernel
theorem dX8_couldLeadAgain_27 : decode cX8_couldLeadAgain 27 = .ok (.iload_n 1, 1) := by decide +kernel
theorem dX8_couldLeadAgain_28 : decode cX8_couldLeadAgain 28 = .ok (.invokevirtual 207, 3) := by decide +kernel
theorem dX8_couldLeadAgain_31 : decode cX8_couldLeadAgain 31 = .ok (.istore_n 3, 1) := by decide +kernel
theorem dX8_couldLeadAgain_32 : decode cX8_couldLeadAgain 32 = .ok (.aload_n 0, 1) := by decide +kernel
theorem dX8_couldLeadAgain_33 : decode cX8_couldLeadAgain 33 = .ok (.getfield 12, 3) := by decide +kernel
theorem dX8_couldLeadAgain_36 : decode cX8_couldLeadAgain 36 = .ok (.aload_n 0, 1) := by decide +kernel
theorem dX8_couldLeadAgain_37 : decode cX8_couldLeadAgain 37 = .ok (.getfield 16, 3) := by decide +kernel
theorem dX8_couldLeadAgain_40 : decode cX8_couldLeadAgain 40 = .ok (.invokevirtual 113, 3) := by decide +kernel
theorem dX8_couldLeadAgain_43 : decode cX8_couldLeadAgain 43 = .ok (.iload_n 3, 1) := by decide +kernel
theorem dX8_couldLeadAgain_44 : decode cX8_couldLeadAgain 44 = .ok (.ireturn, 1) := by decide +kernel
theorem dX8_codeOfAsking_0 : decode cX8_codeOfAsking 0 = .ok (.aload_n 0, 1) := by decide +kernel
theorem dX8_codeOfAsking_1 : decode cX8_codeOfAsking 1 = .ok (.getfield 12, 3) := by decide +kernel
theorem dX8_codeOfAsking_4 : decode cX8_codeOfAsking 4 = .ok (.iload_n 1, 1) := by decide +kernel
theorem dX8_codeOfAsking_5 : decode cX8_codeOfAsking 5 = .ok (.invokevirtual 187, 3) := by decide +kernel
theorem dX8_codeOfAsking_8 : decode cX8_codeOfAsking 8 = .ok (.ifCond .ne 5, 3) := by decide +kernel
theorem dX8_codeOfAsking_11 : decode cX8_codeOfAsking 11 = .ok (.iconst (-1), 1) := by decide +kernel
theorem dX8_codeOfAsking_12 : decode cX8_codeOfAsking 12 = .ok (.ireturn, 1) := by decide +kernel
theorem dX8_codeOfAsking_13 : decode cX8_codeOfAsking 13 = .ok (.aload_n 0, 1) := by decide +kernel
theorem dX8_codeOfAsking_14 : decode cX8_codeOfAsking 14 = .ok (.getfield 12, 3) := by decide +kernel
theorem dX8_codeOfAsking_17 : decode cX8_codeOfAsking 17 = .ok (.getfield 191, 3) := by decide +kernel
theorem dX8_codeOfAsking_20 : decode cX8_codeOfAsking 20 = .ok (.iload_n 1, 1) := by decide +kernel
theorem dX8_codeOfAsking_21 : decode cX8_codeOfAsking 21 = .ok (.aaload, 1) := by decide +kernel
theorem dX8_codeOfAsking_22 : decode cX8_codeOfAsking 22 = .ok (.astore_n 2, 1) := by decide +kernel
theorem dX8_codeOfAsking_23 : decode cX8_codeOfAsking 23 = .ok (.aload_n 2, 1) := by decide +kernel
theorem dX8_codeOfAsking_24 : decode cX8_codeOfAsking 24 = .ok (.getfield 195, 3) := by decide +kernel
theorem dX8_codeOfAsking_27 : decode cX8_codeOfAsking 27 = .ok (.ifCond .eq 15, 3) := by decide +kernel
theorem dX8_codeOfAsking_30 : decode cX8_codeOfAsking 30 = .ok (.aload_n 2, 1) := by decide +kernel
theorem dX8_codeOfAsking_31 : decode cX8_codeOfAsking 31 = .ok (.getfield 201, 3) := by decide +kernel
theorem dX8_codeOfAsking_34 : decode cX8_codeOfAsking 34 = .ok (.iconst 2, 1) := by decide +kernel
theorem dX8_codeOfAsking_35 : decode cX8_codeOfAsking 35 = .ok (.if_icmp .eq 7, 3) := by decide +kernel
theorem dX8_codeOfAsking_38 : decode cX8_codeOfAsking 38 = .ok (.iconst 0, 1) := by decide +kernel
theorem dX8_codeOfAsking_39 : decode cX8_codeOfAsking 39 = .ok (.goto 5, 3) := by decide +kernel
theorem dX8_codeOfAsking_42 : decode cX8_codeOfAsking 42 = .ok (.bipush (-4), 2) := by decide +kernel
theorem dX8_codeOfAsking_44 : decode cX8_codeOfAsking 44 = .ok (.ireturn, 1) := by decide +kernel
theorem dX8_longer_0 : decode cX8_longer 0 = .ok (.aload_n 0, 1) := by decide +kernel
theorem dX8_longer_1 : decode cX8_longer 1 = .ok (.getfield 12, 3) := by decide +kernel
theorem dX8_longer_4 : decode cX8_longer 4 = .ok (.iload_n 1, 1) := by decide +kernel
theorem dX8_longer_5 : decode cX8_longer 5 = .ok (.invokevirtual 187, 3) := by decide +kernel
theorem dX8_longer_8 : decode cX8_longer 8 = .ok (.ifCond .eq 14, 3) := by decide +kernel
theorem dX8_longer_11 : decode cX8_longer 11 = .ok (.aload_n 0, 1) := by decide +kernel
theorem dX8_longer_12 : decode cX8_longer 12 = .ok (.getfield 12, 3) := by decide +kernel
theorem dX8_longer_15 : decode cX8_longer 15 = .ok (.iload_n 2, 1) := by decide +kernel
theorem dX8_longer_16 : decode cX8_longer 16 = .ok (.invokevirtual 187, 3) := by decide +kernel
theorem dX8_longer_19 : decode cX8_longer 19 = .ok (.ifCond .ne 6, 3) := by decide +kernel
theorem dX8_longer_22 : decode cX8_longer 22 = .ok (.bipush (-4), 2) := by decide +kernel
theorem dX8_longer_24 : decode cX8_longer 24 = .ok (.ireturn, 1) := by decide +kernel
theorem dX8_longer_25 : decode cX8_longer 25 = .ok (.aload_n 0, 1) := by decide +kernel
theorem dX8_longer_26 : decode cX8_longer 26 = .ok (.getfield 12, 3) := by decide +kernel
theorem dX8_longer_29 : decode cX8_longer 29 = .ok (.getfield 191, 3) := by decide +kernel
theorem dX8_longer_32 : decode cX8_longer 32 = .ok (.iload_n 1, 1) := by decide +kernel
theorem dX8_longer_33 : decode cX8_longer 33 = .ok (.aaload, 1) := by decide +kernel
theorem dX8_longer_34 : decode cX8_longer 34 = .ok (.aload_n 0, 1) := by decide +kernel
theorem dX8_longer_35 : decode cX8_longer 35 = .ok (.getfield 12, 3) := by decide +kernel
theorem dX8_longer_38 : decode cX8_longer 38 = .ok (.getfield 191, 3) := by decide +kernel
theorem dX8_longer_41 : decode cX8_longer 41 = .ok (.iload_n 2, 1) := by decide +kernel
theorem dX8_longer_42 : decode cX8_longer 42 = .ok (.aaload, 1) := by decide +kernel
theorem dX8_longer_43 : decode cX8_longer 43 = .ok (.invokevirtual 307, 3) := by decide +kernel
theorem dX8_longer_46 : decode cX8_longer 46 = .ok (.ifCond .eq 5, 3) := by decide +kernel
theorem dX8_longer_49 : decode cX8_longer 49 = .ok (.iconst 1, 1) := by decide +kernel
theorem dX8_longer_50 : decode cX8_longer 50 = .ok (.ireturn, 1) := by decide +kernel
theorem dX8_longer_51 : decode cX8_longer 51 = .ok (.aload_n 0, 1) := by decide +kernel
theorem dX8_longer_52 : decode cX8_longer 52 = .ok (.getfield 12, 3) := by decide +kernel
theorem dX8_longer_55 : decode cX8_longer 55 = .ok (.getfield 191, 3) := by decide +kernel
theorem dX8_longer_58 : decode cX8_longer 58 = .ok (.iload_n 2, 1) := by decide +kernel
theorem dX8_longer_59 : decode cX8_longer 59 = .ok (.aaload, 1) := by decide +kernel
theorem dX8_longer_60 : decode cX8_longer 60 = .ok (.aload_n 0, 1) := by decide +kernel
theorem dX8_longer_61 : decode cX8_longer 61 = .ok (.getfield 12, 3) := by decide +kernel
theorem dX8_longer_64 : decode cX8_longer 64 = .ok (.getfield 191, 3) := by decide +kernel
theorem dX8_longer_67 : decode cX8_longer 67 = .ok (.iload_n 1, 1) := by decide +kernel
theorem dX8_longer_68 : decode cX8_longer 68 = .ok (.aaload, 1) := by decide +kernel
theorem dX8_longer_69 : decode cX8_longer 69 = .ok (.invokevirtual 307, 3) := by decide +kernel
theorem dX8_longer_72 : decode cX8_longer 72 = .ok (.ifCond .eq 7, 3) := by decide +kernel
theorem dX8_longer_75 : decode cX8_longer 75 = .ok (.iconst (-1), 1) := by decide +kernel
theorem dX8_longer_76 : decode cX8_longer 76 = .ok (.goto 4, 3) := by decide +kernel
theorem dX8_longer_79 : decode cX8_longer 79 = .ok (.iconst 0, 1) := by decide +kernel
theorem dX8_longer_80 : decode cX8_longer 80 = .ok (.ireturn, 1) := by decide +kernel
theorem dX8_alike_0 : decode cX8_alike 0 = .ok (.aload_n 0, 1) := by decide +kernel
theorem dX8_alike_1 : decode cX8_alike 1 = .ok (.getfield 12, 3) := by decide +kernel
theorem dX8_alike_4 : decode cX8_alike 4 = .ok (.iload_n 1, 1) := by decide +kernel
theorem dX8_alike_5 : decode cX8_alike 5 = .ok (.invokevirtual 187, 3) := by decide +kernel
theorem dX8_alike_8 : decode cX8_alike 8 = .ok (.ifCond .eq 14, 3) := by decide +kernel
theorem dX8_alike_11 : decode cX8_alike 11 = .ok (.aload_n 0, 1) := by decide +kernel
theorem dX8_alike_12 : decode cX8_alike 12 = .ok (.getfield 12, 3) := by decide +kernel
theorem dX8_alike_15 : decode cX8_alike 15 = .ok (.iload_n 2, 1) := by decide +kernel
theorem dX8_alike_16 : decode cX8_alike 16 = .ok (.invokevirtual 187, 3) := by decide +kernel
theorem dX8_alike_19 : decode cX8_alike 19 = .ok (.ifCond .ne 5, 3) := by decide +kernel
theorem dX8_alike_22 : decode cX8_alike 22 = .ok (.iconst (-1), 1) := by decide +kernel
theorem dX8_alike_23 : decode cX8_alike 23 = .ok (.ireturn, 1) := by decide +kernel
theorem dX8_alike_24 : decode cX8_alike 24 = .ok (.aload_n 0, 1) := by decide +kernel
theorem dX8_alike_25 : decode cX8_alike 25 = .ok (.getfield 12, 3) := by decide +kernel
theorem dX8_alike_28 : decode cX8_alike 28 = .ok (.getfield 191, 3) := by decide +kernel
theorem dX8_alike_31 : decode cX8_alike 31 = .ok (.iload_n 1, 1) := by decide +kernel
theorem dX8_alike_32 : decode cX8_alike 32 = .ok (.aaload, 1) := by decide +kernel
theorem dX8_alike_33 : decode cX8_alike 33 = .ok (.aload_n 0, 1) := by decide +kernel
theorem dX8_alike_34 : decode cX8_alike 34 = .ok (.getfield 12, 3) := by decide +kernel
theorem dX8_alike_37 : decode cX8_alike 37 = .ok (.getfield 191, 3) := by decide +kernel
theorem dX8_alike_40 : decode cX8_alike 40 = .ok (.iload_n 2, 1) := by decide +kernel
theorem dX8_alike_41 : decode cX8_alike 41 = .ok (.aaload, 1) := by decide +kernel
theorem dX8_alike_42 : decode cX8_alike 42 = .ok (.invokevirtual 311, 3) := by decide +kernel
theorem dX8_alike_45 : decode cX8_alike 45 = .ok (.ireturn, 1) := by decide +kernel
theorem dX8_agreed_0 : decode cX8_agreed 0 = .ok (.iconst 0, 1) := by decide +kernel
theorem dX8_agreed_1 : decode cX8_agreed 1 = .ok (.istore_n 1, 1) := by decide +kernel
theorem dX8_agreed_2 : decode cX8_agreed 2 = .ok (.iconst 0, 1) := by decide +kernel
theorem dX8_agreed_3 : decode cX8_agreed 3 = .ok (.istore_n 2, 1) := by decide +kernel
theorem dX8_agreed_4 : decode cX8_agreed 4 = .ok (.iload_n 2, 1) := by decide +kernel
theorem dX8_agreed_5 : decode cX8_agreed 5 = .ok (.aload_n 0, 1) := by decide +kernel
theorem dX8_agreed_6 : decode cX8_agreed 6 = .ok (.getfield 12, 3) := by decide +kernel
theorem dX8_agreed_9 : decode cX8_agreed 9 = .ok (.getfield 54, 3) := by decide +kernel
theorem dX8_agreed_12 : decode cX8_agreed 12 = .ok (.if_icmp .ge 26, 3) := by decide +kernel
theorem dX8_agreed_15 : decode cX8_agreed 15 = .ok (.iload_n 1, 1) := by decide +kernel
theorem dX8_agreed_16 : decode cX8_agreed 16 = .ok (.aload_n 0, 1) := by decide +kernel
theorem dX8_agreed_17 : decode cX8_agreed 17 = .ok (.getfield 12, 3) := by decide +kernel
theorem dX8_agreed_20 : decode cX8_agreed 20 = .ok (.getfield 191, 3) := by decide +kernel
theorem dX8_agreed_23 : decode cX8_agreed 23 = .ok (.iload_n 2, 1) := by decide +kernel
theorem dX8_agreed_24 : decode cX8_agreed 24 = .ok (.aaload, 1) := by decide +kernel
theorem dX8_agreed_25 : decode cX8_agreed 25 = .ok (.getfield 270, 3) := by decide +kernel
theorem dX8_agreed_28 : decode cX8_agreed 28 = .ok (.invokestatic 233, 3) := by decide +kernel
theorem dX8_agreed_31 : decode cX8_agreed 31 = .ok (.istore_n 1, 1) := by decide +kernel
theorem dX8_agreed_32 : decode cX8_agreed 32 = .ok (.iinc 2 1, 3) := by decide +kernel
theorem dX8_agreed_35 : decode cX8_agreed 35 = .ok (.goto (-31), 3) := by decide +kernel
theorem dX8_agreed_38 : decode cX8_agreed 38 = .ok (.iload_n 1, 1) := by decide +kernel
theorem dX8_agreed_39 : decode cX8_agreed 39 = .ok (.ireturn, 1) := by decide +kernel
theorem dX8_agreedAgain_0 : decode cX8_agreedAgain 0 = .ok (.iconst (-1), 1) := by decide +kernel
theorem dX8_agreedAgain_1 : decode cX8_agreedAgain 1 = .ok (.istore_n 1, 1) := by decide +kernel
theorem dX8_agreedAgain_2 : decode cX8_agreedAgain 2 = .ok (.iconst 0, 1) := by decide +kernel
theorem dX8_agreedAgain_3 : decode cX8_agreedAgain 3 = .ok (.istore_n 2, 1) := by decide +kernel
theorem dX8_agreedAgain_4 : decode cX8_agreedAgain 4 = .ok (.iload_n 2, 1) := by decide +kernel
theorem dX8_agreedAgain_5 : decode cX8_agreedAgain 5 = .ok (.aload_n 0, 1) := by decide +kernel
theorem dX8_agreedAgain_6 : decode cX8_agreedAgain 6 = .ok (.getfield 12, 3) := by decide +kernel
theorem dX8_agreedAgain_9 : decode cX8_agreedAgain 9 = .ok (.getfield 54, 3) := by decide +kernel
theorem dX8_agreedAgain_12 : decode cX8_agreedAgain 12 = .ok (.if_icmp .ge 43, 3) := by decide +kernel
theorem dX8_agreedAgain_15 : decode cX8_agreedAgain 15 = .ok (.iload_n 1, 1) := by decide +kernel
theorem dX8_agreedAgain_16 : decode cX8_agreedAgain 16 = .ok (.iconst (-1), 1) := by decide +kernel
theorem dX8_agreedAgain_17 : decode cX8_agreedAgain 17 = .ok (.if_icmp .eq 30, 3) := by decide +kernel
theorem dX8_agreedAgain_20 : decode cX8_agreedAgain 20 = .ok (.aload_n 0, 1) := by decide +kernel
theorem dX8_agreedAgain_21 : decode cX8_agreedAgain 21 = .ok (.getfield 12, 3) := by decide +kernel
theorem dX8_agreedAgain_24 : decode cX8_agreedAgain 24 = .ok (.getfield 191, 3) := by decide +kernel
theorem dX8_agreedAgain_27 : decode cX8_agreedAgain 27 = .ok (.iload_n 2, 1) := by decide +kernel
theorem dX8_agreedAgain_28 : decode cX8_agreedAgain 28 = .ok (.aaload, 1) := by decide +kernel
theorem dX8_agreedAgain_29 : decode cX8_agreedAgain 29 = .ok (.getfield 270, 3) := by decide +kernel
theorem dX8_agreedAgain_32 : decode cX8_agreedAgain 32 = .ok (.aload_n 0, 1) := by decide +kernel
theorem dX8_agreedAgain_33 : decode cX8_agreedAgain 33 = .ok (.getfield 12, 3) := by decide +kernel
theorem dX8_agreedAgain_36 : decode cX8_agreedAgain 36 = .ok (.getfield 191, 3) := by decide +kernel
theorem dX8_agreedAgain_39 : decode cX8_agreedAgain 39 = .ok (.iload_n 1, 1) := by decide +kernel
theorem dX8_agreedAgain_40 : decode cX8_agreedAgain 40 = .ok (.aaload, 1) := by decide +kernel
theorem dX8_agreedAgain_41 : decode cX8_agreedAgain 41 = .ok (.getfield 270, 3) := by decide +kernel
theorem dX8_agreedAgain_44 : decode cX8_agreedAgain 44 = .ok (.if_icmp .le 5, 3) := by decide +kernel
theorem dX8_agreedAgain_47 : decode cX8_agreedAgain 47 = .ok (.iload_n 2, 1) := by decide +kernel
theorem dX8_agreedAgain_48 : decode cX8_agreedAgain 48 = .ok (.istore_n 1, 1) := by decide +kernel
theorem dX8_agreedAgain_49 : decode cX8_agreedAgain 49 = .ok (.iinc 2 1, 3) := by decide +kernel
theorem dX8_agreedAgain_52 : decode cX8_agreedAgain 52 = .ok (.goto (-48), 3) := by decide +kernel
theorem dX8_agreedAgain_55 : decode cX8_agreedAgain 55 = .ok (.iload_n 1, 1) := by decide +kernel
theorem dX8_agreedAgain_56 : decode cX8_agreedAgain 56 = .ok (.iconst (-1), 1) := by decide +kernel
theorem dX8_agreedAgain_57 : decode cX8_agreedAgain 57 = .ok (.if_icmp .ne 7, 3) := by decide +kernel
theorem dX8_agreedAgain_60 : decode cX8_agreedAgain 60 = .ok (.iconst 0, 1) := by decide +kernel
theorem dX8_agreedAgain_61 : decode cX8_agreedAgain 61 = .ok (.goto 15, 3) := by decide +kernel
theorem dX8_agreedAgain_64 : decode cX8_agreedAgain 64 = .ok (.aload_n 0, 1) := by decide +kernel
theorem dX8_agreedAgain_65 : decode cX8_agreedAgain 65 = .ok (.getfield 12, 3) := by decide +kernel
theorem dX8_agreedAgain_68 : decode cX8_agreedAgain 68 = .ok (.getfield 191, 3) := by decide +kernel
theorem dX8_agreedAgain_71 : decode cX8_agreedAgain 71 = .ok (.iload_n 1, 1) := by decide +kernel
theorem dX8_agreedAgain_72 : decode cX8_agreedAgain 72 = .ok (.aaload, 1) := by decide +kernel
theorem dX8_agreedAgain_73 : decode cX8_agreedAgain 73 = .ok (.getfield 270, 3) := by decide +kernel
theorem dX8_agreedAgain_76 : decode cX8_agreedAgain 76 = .ok (.ireturn, 1) := by decide +kernel
theorem dX8_conflicts_0 : decode cX8_conflicts 0 = .ok (.iconst 0, 1) := by decide +kernel
theorem dX8_conflicts_1 : decode cX8_conflicts 1 = .ok (.istore_n 1, 1) := by decide +kernel
theorem dX8_conflicts_2 : decode cX8_conflicts 2 = .ok (.iconst 0, 1) := by decide +kernel
theorem dX8_conflicts_3 : decode cX8_conflicts 3 = .ok (.istore_n 2, 1) := by decide +kernel
theorem dX8_conflicts_4 : decode cX8_conflicts 4 = .ok (.iload_n 2, 1) := by decide +kernel
theorem dX8_conflicts_5 : decode cX8_conflicts 5 = .ok (.aload_n 0, 1) := by decide +kernel
theorem dX8_conflicts_6 : decode cX8_conflicts 6 = .ok (.getfield 12, 3) := by decide +kernel
theorem dX8_conflicts_9 : decode cX8_conflicts 9 = .ok (.getfield 54, 3) := by decide +kernel
theorem dX8_conflicts_12 : decode cX8_conflicts 12 = .ok (.if_icmp .ge 37, 3) := by decide +kernel
theorem dX8_conflicts_15 : decode cX8_conflicts 15 = .ok (.iconst 0, 1) := by decide +kernel
theorem dX8_conflicts_16 : decode cX8_conflicts 16 = .ok (.istore_n 3, 1) := by decide +kernel
theorem dX8_conflicts_17 : decode cX8_conflicts 17 = .ok (.iload_n 3, 1) := by decide +kernel
theorem dX8_conflicts_18 : decode cX8_conflicts 18 = .ok (.iload_n 2, 1) := by decide +kernel
theorem dX8_conflicts_19 : decode cX8_conflicts 19 = .ok (.if_icmp .ge 24, 3) := by decide +kernel
theorem dX8_conflicts_22 : decode cX8_conflicts 22 = .ok (.aload_n 0, 1) := by decide +kernel
theorem dX8_conflicts_23 : decode cX8_conflicts 23 = .ok (.getfield 12, 3) := by decide +kernel
theorem dX8_conflicts_26 : decode cX8_conflicts 26 = .ok (.iload_n 2, 1) := by decide +kernel
theorem dX8_conflicts_27 : decode cX8_conflicts 27 = .ok (.iload_n 3, 1) := by decide +kernel
theorem dX8_conflicts_28 : decode cX8_conflicts 28 = .ok (.invokevirtual 315, 3) := by decide +kernel
theorem dX8_conflicts_31 : decode cX8_conflicts 31 = .ok (.ifCond .eq 6, 3) := by decide +kernel
theorem dX8_conflicts_34 : decode cX8_conflicts 34 = .ok (.iinc 1 1, 3) := by decide +kernel
theorem dX8_conflicts_37 : decode cX8_conflicts 37 = .ok (.iinc 3 1, 3) := by decide +kernel
theorem dX8_conflicts_40 : decode cX8_conflicts 40 = .ok (.goto (-23), 3) := by decide +kernel
theorem dX8_conflicts_43 : decode cX8_conflicts 43 = .ok (.iinc 2 1, 3) := by decide +kernel
theorem dX8_conflicts_46 : decode cX8_conflicts 46 = .ok (.goto (-42), 3) := by decide +kernel
theorem dX8_conflicts_49 : decode cX8_conflicts 49 = .ok (.iload_n 1, 1) := by decide +kernel
theorem dX8_conflicts_50 : decode cX8_conflicts 50 = .ok (.ireturn, 1) := by decide +kernel
theorem dX8_isSafe_0 : decode cX8_isSafe 0 = .ok (.iconst 0, 1) := by decide +kernel
theorem dX8_isSafe_1 : decode cX8_isSafe 1 = .ok (.istore_n 1, 1) := by decide +kernel
theorem dX8_isSafe_2 : decode cX8_isSafe 2 = .ok (.iload_n 1, 1) := by decide +kernel
theorem dX8_isSafe_3 : decode cX8_isSafe 3 = .ok (.aload_n 0, 1) := by decide +kernel
theorem dX8_isSafe_4 : decode cX8_isSafe 4 = .ok (.getfield 12, 3) := by decide +kernel
theorem dX8_isSafe_7 : decode cX8_isSafe 7 = .ok (.getfield 54, 3) := by decide +kernel
theorem dX8_isSafe_10 : decode cX8_isSafe 10 = .ok (.if_icmp .ge 66, 3) := by decide +kernel
theorem dX8_isSafe_13 : decode cX8_isSafe 13 = .ok (.iconst 0, 1) := by decide +kernel
theorem dX8_isSafe_14 : decode cX8_isSafe 14 = .ok (.istore_n 2, 1) := by decide +kernel
theorem dX8_isSafe_15 : decode cX8_isSafe 15 = .ok (.iload_n 2, 1) := by decide +kernel
theorem dX8_isSafe_16 : decode cX8_isSafe 16 = .ok (.iload_n 1, 1) := by decide +kernel
theorem dX8_isSafe_17 : decode cX8_isSafe 17 = .ok (.if_icmp .ge 53, 3) := by decide +kernel
theorem dX8_isSafe_20 : decode cX8_isSafe 20 = .ok (.aload_n 0, 1) := by decide +kernel
theorem dX8_isSafe_21 : decode cX8_isSafe 21 = .ok (.getfield 12, 3) := by decide +kernel
theorem dX8_isSafe_24 : decode cX8_isSafe 24 = .ok (.getfield 191, 3) := by decide +kernel
theorem dX8_isSafe_27 : decode cX8_isSafe 27 = .ok (.iload_n 1, 1) := by decide +kernel
theorem dX8_isSafe_28 : decode cX8_isSafe 28 = .ok (.aaload, 1) := by decide +kernel
theorem dX8_isSafe_29 : decode cX8_isSafe 29 = .ok (.astore_n 3, 1) := by decide +kernel
theorem dX8_isSafe_30 : decode cX8_isSafe 30 = .ok (.aload_n 0, 1) := by decide +kernel
theorem dX8_isSafe_31 : decode cX8_isSafe 31 = .ok (.getfield 12, 3) := by decide +kernel
theorem dX8_isSafe_34 : decode cX8_isSafe 34 = .ok (.getfield 191, 3) := by decide +kernel
theorem dX8_isSafe_37 : decode cX8_isSafe 37 = .ok (.iload_n 2, 1) := by decide +kernel
theorem dX8_isSafe_38 : decode cX8_isSafe 38 = .ok (.aaload, 1) := by decide +kernel
theorem dX8_isSafe_39 : decode cX8_isSafe 39 = .ok (.astore 4, 2) := by decide +kernel
theorem dX8_isSafe_41 : decode cX8_isSafe 41 = .ok (.aload_n 3, 1) := by decide +kernel
theorem dX8_isSafe_42 : decode cX8_isSafe 42 = .ok (.aload 4, 2) := by decide +kernel
theorem dX8_isSafe_44 : decode cX8_isSafe 44 = .ok (.invokevirtual 311, 3) := by decide +kernel
theorem dX8_isSafe_47 : decode cX8_isSafe 47 = .ok (.aload_n 3, 1) := by decide +kernel
theorem dX8_isSafe_48 : decode cX8_isSafe 48 = .ok (.getfield 270, 3) := by decide +kernel
theorem dX8_isSafe_51 : decode cX8_isSafe 51 = .ok (.aload 4, 2) := by decide +kernel
theorem dX8_isSafe_53 : decode cX8_isSafe 53 = .ok (.getfield 270, 3) := by decide +kernel
theorem dX8_isSafe_56 : decode cX8_isSafe 56 = .ok (.invokestatic 318, 3) := by decide +kernel
theorem dX8_isSafe_59 : decode cX8_isSafe 59 = .ok (.if_icmp .ge 5, 3) := by decide +kernel
theorem dX8_isSafe_62 : decode cX8_isSafe 62 = .ok (.iconst 0, 1) := by decide +kernel
theorem dX8_isSafe_63 : decode cX8_isSafe 63 = .ok (.ireturn, 1) := by decide +kernel
theorem dX8_isSafe_64 : decode cX8_isSafe 64 = .ok (.iinc 2 1, 3) := by decide +kernel
theorem dX8_isSafe_67 : decode cX8_isSafe 67 = .ok (.goto (-52), 3) := by decide +kernel
theorem dX8_isSafe_70 : decode cX8_isSafe 70 = .ok (.iinc 1 1, 3) := by decide +kernel
theorem dX8_isSafe_73 : decode cX8_isSafe 73 = .ok (.goto (-71), 3) := by decide +kernel
theorem dX8_isSafe_76 : decode cX8_isSafe 76 = .ok (.iconst 1, 1) := by decide +kernel
theorem dX8_isSafe_77 : decode cX8_isSafe 77 = .ok (.ireturn, 1) := by decide +kernel
theorem dX8_quietBeats_0 : decode cX8_quietBeats 0 = .ok (.aload_n 0, 1) := by decide +kernel
theorem dX8_quietBeats_1 : decode cX8_quietBeats 1 = .ok (.getfield 16, 3) := by decide +kernel
theorem dX8_quietBeats_4 : decode cX8_quietBeats 4 = .ok (.aload_n 0, 1) := by decide +kernel
theorem dX8_quietBeats_5 : decode cX8_quietBeats 5 = .ok (.getfield 12, 3) := by decide +kernel
theorem dX8_quietBeats_8 : decode cX8_quietBeats 8 = .ok (.invokevirtual 113, 3) := by decide +kernel
theorem dX8_quietBeats_11 : decode cX8_quietBeats 11 = .ok (.iconst 1, 1) := by decide +kernel
theorem dX8_quietBeats_12 : decode cX8_quietBeats 12 = .ok (.istore_n 1, 1) := by decide +kernel
theorem dX8_quietBeats_13 : decode cX8_quietBeats 13 = .ok (.iload_n 1, 1) := by decide +kernel
theorem dX8_quietBeats_14 : decode cX8_quietBeats 14 = .ok (.bipush 9, 2) := by decide +kernel
theorem dX8_quietBeats_16 : decode cX8_quietBeats 16 = .ok (.if_icmp .gt 22, 3) := by decide +kernel
theorem dX8_quietBeats_19 : decode cX8_quietBeats 19 = .ok (.aload_n 0, 1) := by decide +kernel
theorem dX8_quietBeats_20 : decode cX8_quietBeats 20 = .ok (.getfield 16, 3) := by decide +kernel
theorem dX8_quietBeats_23 : decode cX8_quietBeats 23 = .ok (.iconst 1, 1) := by decide +kernel
theorem dX8_quietBeats_24 : decode cX8_quietBeats 24 = .ok (.invokevirtual 175, 3) := by decide +kernel
theorem dX8_quietBeats_27 : decode cX8_quietBeats 27 = .ok (.ifCond .le 5, 3) := by decide +kernel
theorem dX8_quietBeats_30 : decode cX8_quietBeats 30 = .ok (.iload_n 1, 1) := by decide +kernel
theorem dX8_quietBeats_31 : decode cX8_quietBeats 31 = .ok (.ireturn, 1) := by decide +kernel
theorem dX8_quietBeats_32 : decode cX8_quietBeats 32 = .ok (.iinc 1 1, 3) := by decide +kernel
theorem dX8_quietBeats_35 : decode cX8_quietBeats 35 = .ok (.goto (-22), 3) := by decide +kernel
theorem dX8_quietBeats_38 : decode cX8_quietBeats 38 = .ok (.bipush (-4), 2) := by decide +kernel
theorem dX8_quietBeats_40 : decode cX8_quietBeats 40 = .ok (.ireturn, 1) := by decide +kernel
theorem dX8_account_0 : decode cX8_account 0 = .ok (.iload_n 1, 1) := by decide +kernel
theorem dX8_account_1 : decode cX8_account 1 = .ok (.tableswitch 171 0 12 #[67, 75, 83, 91, 99, 107, 115, 123, 131, 139, 147, 155, 163], 67) := by decide +kernel
theorem dX8_account_68 : decode cX8_account 68 = .ok (.aload_n 0, 1) := by decide +kernel
theorem dX8_account_69 : decode cX8_account 69 = .ok (.getfield 12, 3) := by decide +kernel
theorem dX8_account_72 : decode cX8_account 72 = .ok (.getfield 361, 3) := by decide +kernel
theorem dX8_account_75 : decode cX8_account 75 = .ok (.ireturn, 1) := by decide +kernel
theorem dX8_account_76 : decode cX8_account 76 = .ok (.aload_n 0, 1) := by decide +kernel
theorem dX8_account_77 : decode cX8_account 77 = .ok (.getfield 12, 3) := by decide +kernel
theorem dX8_account_80 : decode cX8_account 80 = .ok (.getfield 54, 3) := by decide +kernel
theorem dX8_account_83 : decode cX8_account 83 = .ok (.ireturn, 1) := by decide +kernel
theorem dX8_account_84 : decode cX8_account 84 = .ok (.aload_n 0, 1) := by decide +kernel
theorem dX8_account_85 : decode cX8_account 85 = .ok (.getfield 12, 3) := by decide +kernel
theorem dX8_account_88 : decode cX8_account 88 = .ok (.invokevirtual 223, 3) := by decide +kernel
theorem dX8_account_91 : decode cX8_account 91 = .ok (.ireturn, 1) := by decide +kernel
theorem dX8_account_92 : decode cX8_account 92 = .ok (.aload_n 0, 1) := by decide +kernel
theorem dX8_account_93 : decode cX8_account 93 = .ok (.getfield 12, 3) := by decide +kernel
theorem dX8_account_96 : decode cX8_account 96 = .ok (.invokevirtual 242, 3) := by decide +kernel
theorem dX8_account_99 : decode cX8_account 99 = .ok (.ireturn, 1) := by decide +kernel
theorem dX8_account_100 : decode cX8_account 100 = .ok (.aload_n 0, 1) := by decide +kernel
theorem dX8_account_101 : decode cX8_account 101 = .ok (.getfield 12, 3) := by decide +kernel
theorem dX8_account_104 : decode cX8_account 104 = .ok (.invokevirtual 364, 3) := by decide +kernel
theorem dX8_account_107 : decode cX8_account 107 = .ok (.ireturn, 1) := by decide +kernel
theorem dX8_account_108 : decode cX8_account 108 = .ok (.aload_n 0, 1) := by decide +kernel
theorem dX8_account_109 : decode cX8_account 109 = .ok (.getfield 12, 3) := by decide +kernel
theorem dX8_account_112 : decode cX8_account 112 = .ok (.getfield 178, 3) := by decide +kernel
theorem dX8_account_115 : decode cX8_account 115 = .ok (.ireturn, 1) := by decide +kernel
theorem dX8_account_116 : decode cX8_account 116 = .ok (.aload_n 0, 1) := by decide +kernel
theorem dX8_account_117 : decode cX8_account 117 = .ok (.getfield 12, 3) := by decide +kernel
theorem dX8_account_120 : decode cX8_account 120 = .ok (.getfield 367, 3) := by decide +kernel
theorem dX8_account_123 : decode cX8_account 123 = .ok (.ireturn, 1) := by decide +kernel
theorem dX8_account_124 : decode cX8_account 124 = .ok (.aload_n 0, 1) := by decide +kernel
theorem dX8_account_125 : decode cX8_account 125 = .ok (.getfield 12, 3) := by decide +kernel
theorem dX8_account_128 : decode cX8_account 128 = .ok (.getfield 216, 3) := by decide +kernel
theorem dX8_account_131 : decode cX8_account 131 = .ok (.ireturn, 1) := by decide +kernel
theorem dX8_account_132 : decode cX8_account 132 = .ok (.aload_n 0, 1) := by decide +kernel
theorem dX8_account_133 : decode cX8_account 133 = .ok (.getfield 12, 3) := by decide +kernel
theorem dX8_account_136 : decode cX8_account 136 = .ok (.getfield 370, 3) := by decide +kernel
theorem dX8_account_139 : decode cX8_account 139 = .ok (.ireturn, 1) := by decide +kernel
theorem dX8_account_140 : decode cX8_account 140 = .ok (.aload_n 0, 1) := by decide +kernel
theorem dX8_account_141 : decode cX8_account 141 = .ok (.getfield 12, 3) := by decide +kernel
theorem dX8_account_144 : decode cX8_account 144 = .ok (.getfield 373, 3) := by decide +kernel
theorem dX8_account_147 : decode cX8_account 147 = .ok (.ireturn, 1) := by decide +kernel
theorem dX8_account_148 : decode cX8_account 148 = .ok (.aload_n 0, 1) := by decide +kernel
theorem dX8_account_149 : decode cX8_account 149 = .ok (.getfield 12, 3) := by decide +kernel
theorem dX8_account_152 : decode cX8_account 152 = .ok (.getfield 376, 3) := by decide +kernel
theorem dX8_account_155 : decode cX8_account 155 = .ok (.ireturn, 1) := by decide +kernel
theorem dX8_account_156 : decode cX8_account 156 = .ok (.aload_n 0, 1) := by decide +kernel
theorem dX8_account_157 : decode cX8_account 157 = .ok (.getfield 39, 3) := by decide +kernel
theorem dX8_account_160 : decode cX8_account 160 = .ok (.invokevirtual 67, 3) := by decide +kernel
theorem dX8_account_163 : decode cX8_account 163 = .ok (.ireturn, 1) := by decide +kernel
theorem dX8_account_164 : decode cX8_account 164 = .ok (.aload_n 0, 1) := by decide +kernel
theorem dX8_account_165 : decode cX8_account 165 = .ok (.getfield 25, 3) := by decide +kernel
theorem dX8_account_168 : decode cX8_account 168 = .ok (.getfield 379, 3) := by decide +kernel
theorem dX8_account_171 : decode cX8_account 171 = .ok (.ireturn, 1) := by decide +kernel
theorem dX8_account_172 : decode cX8_account 172 = .ok (.bipush (-2), 2) := by decide +kernel
theorem dX8_account_174 : decode cX8_account 174 = .ok (.ireturn, 1) := by decide +kernel
theorem dX8_undo_0 : decode cX8_undo 0 = .ok (.aload_n 0, 1) := by decide +kernel
theorem dX8_undo_1 : decode cX8_undo 1 = .ok (.getfield 25, 3) := by decide +kernel
theorem dX8_undo_4 : decode cX8_undo 4 = .ok (.getfield 379, 3) := by decide +kernel
theorem dX8_undo_7 : decode cX8_undo 7 = .ok (.ifCond .ne 6, 3) := by decide +kernel
theorem dX8_undo_10 : decode cX8_undo 10 = .ok (.bipush (-4), 2) := by decide +kernel
theorem dX8_undo_12 : decode cX8_undo 12 = .ok (.ireturn, 1) := by decide +kernel
theorem dX8_undo_13 : decode cX8_undo 13 = .ok (.aload_n 0, 1) := by decide +kernel
theorem dX8_undo_14 : decode cX8_undo 14 = .ok (.getfield 25, 3) := by decide +kernel
theorem dX8_undo_17 : decode cX8_undo 17 = .ok (.aload_n 0, 1) := by decide +kernel
theorem dX8_undo_18 : decode cX8_undo 18 = .ok (.getfield 12, 3) := by decide +kernel
theorem dX8_undo_21 : decode cX8_undo 21 = .ok (.invokevirtual 380, 3) := by decide +kernel
theorem dX8_undo_24 : decode cX8_undo 24 = .ok (.aload_n 0, 1) := by decide +kernel
theorem dX8_undo_25 : decode cX8_undo 25 = .ok (.getfield 25, 3) := by decide +kernel
theorem dX8_undo_28 : decode cX8_undo 28 = .ok (.getfield 379, 3) := by decide +kernel
theorem dX8_undo_31 : decode cX8_undo 31 = .ok (.ireturn, 1) := by decide +kernel
theorem dX8_save_0 : decode cX8_save 0 = .ok (.aload_n 0, 1) := by decide +kernel
theorem dX8_save_1 : decode cX8_save 1 = .ok (.getfield 19, 3) := by decide +kernel
theorem dX8_save_4 : decode cX8_save 4 = .ok (.aload_n 0, 1) := by decide +kernel
theorem dX8_save_5 : decode cX8_save 5 = .ok (.getfield 12, 3) := by decide +kernel
theorem dX8_save_8 : decode cX8_save 8 = .ok (.invokevirtual 113, 3) := by decide +kernel
theorem dX8_save_11 : decode cX8_save 11 = .ok (.aload_n 0, 1) := by decide +kernel
theorem dX8_save_12 : decode cX8_save 12 = .ok (.iconst 1, 1) := by decide +kernel
theorem dX8_save_13 : decode cX8_save 13 = .ok (.putfield 383, 3) := by decide +kernel
theorem dX8_save_16 : decode cX8_save 16 = .ok (.aload_n 0, 1) := by decide +kernel
theorem dX8_save_17 : decode cX8_save 17 = .ok (.getfield 12, 3) := by decide +kernel
theorem dX8_save_20 : decode cX8_save 20 = .ok (.getfield 361, 3) := by decide +kernel
theorem dX8_save_23 : decode cX8_save 23 = .ok (.ireturn, 1) := by decide +kernel
theorem dX8_restore_0 : decode cX8_restore 0 = .ok (.aload_n 0, 1) := by decide +kernel
theorem dX8_restore_1 : decode cX8_restore 1 = .ok (.getfield 383, 3) := by decide +kernel
theorem dX8_restore_4 : decode cX8_restore 4 = .ok (.ifCond .ne 6, 3) := by decide +kernel
theorem dX8_restore_7 : decode cX8_restore 7 = .ok (.bipush (-4), 2) := by decide +kernel
theorem dX8_restore_9 : decode cX8_restore 9 = .ok (.ireturn, 1) := by decide +kernel
theorem dX8_restore_10 : decode cX8_restore 10 = .ok (.aload_n 0, 1) := by decide +kernel
theorem dX8_restore_11 : decode cX8_restore 11 = .ok (.getfield 12, 3) := by decide +kernel
theorem dX8_restore_14 : decode cX8_restore 14 = .ok (.aload_n 0, 1) := by decide +kernel
theorem dX8_restore_15 : decode cX8_restore 15 = .ok (.getfield 19, 3) := by decide +kernel
theorem dX8_restore_18 : decode cX8_restore 18 = .ok (.invokevirtual 113, 3) := by decide +kernel
theorem dX8_restore_21 : decode cX8_restore 21 = .ok (.aload_n 0, 1) := by decide +kernel
theorem dX8_restore_22 : decode cX8_restore 22 = .ok (.getfield 25, 3) := by decide +kernel
theorem dX8_restore_25 : decode cX8_restore 25 = .ok (.invokevirtual 60, 3) := by decide +kernel
theorem dX8_restore_28 : decode cX8_restore 28 = .ok (.aload_n 0, 1) := by decide +kernel
theorem dX8_restore_29 : decode cX8_restore 29 = .ok (.getfield 12, 3) := by decide +kernel
theorem dX8_restore_32 : decode cX8_restore 32 = .ok (.getfield 361, 3) := by decide +kernel
theorem dX8_restore_35 : decode cX8_restore 35 = .ok (.ireturn, 1) := by decide +kernel
