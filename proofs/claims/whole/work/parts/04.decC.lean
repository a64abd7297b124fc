theorem dX9_init_0 : decode cX9_init 0 = .ok (.aload_n 0, 1) := by decide +kernel
theorem dX9_init_1 : decode cX9_init 1 = .ok (.invokespecial 3, 3) := by decide +kernel
theorem dX9_init_4 : decode cX9_init 4 = .ok (.aload_n 0, 1) := by decide +kernel
theorem dX9_init_5 : decode cX9_init 5 = .ok (.sipush 203, 3) := by decide +kernel
theorem dX9_init_8 : decode cX9_init 8 = .ok (.newarray .int, 2) := by decide +kernel
theorem dX9_init_10 : decode cX9_init 10 = .ok (.putfield 9, 3) := by decide +kernel
theorem dX9_init_13 : decode cX9_init 13 = .ok (.aload_n 0, 1) := by decide +kernel
theorem dX9_init_14 : decode cX9_init 14 = .ok (.sipush 203, 3) := by decide +kernel
theorem dX9_init_17 : decode cX9_init 17 = .ok (.newarray .int, 2) := by decide +kernel
theorem dX9_init_19 : decode cX9_init 19 = .ok (.putfield 13, 3) := by decide +kernel
theorem dX9_init_22 : decode cX9_init 22 = .ok (.aload_n 0, 1) := by decide +kernel
theorem dX9_init_23 : decode cX9_init 23 = .ok (.sipush 203, 3) := by decide +kernel
theorem dX9_init_26 : decode cX9_init 26 = .ok (.newarray .int, 2) := by decide +kernel
theorem dX9_init_28 : decode cX9_init 28 = .ok (.putfield 16, 3) := by decide +kernel
theorem dX9_init_31 : decode cX9_init 31 = .ok (.aload_n 0, 1) := by decide +kernel
theorem dX9_init_32 : decode cX9_init 32 = .ok (.sipush 203, 3) := by decide +kernel
theorem dX9_init_35 : decode cX9_init 35 = .ok (.newarray .int, 2) := by decide +kernel
theorem dX9_init_37 : decode cX9_init 37 = .ok (.putfield 19, 3) := by decide +kernel
theorem dX9_init_40 : decode cX9_init 40 = .ok (.aload_n 0, 1) := by decide +kernel
theorem dX9_init_41 : decode cX9_init 41 = .ok (.sipush 1624, 3) := by decide +kernel
theorem dX9_init_44 : decode cX9_init 44 = .ok (.newarray .int, 2) := by decide +kernel
theorem dX9_init_46 : decode cX9_init 46 = .ok (.putfield 22, 3) := by decide +kernel
theorem dX9_init_49 : decode cX9_init 49 = .ok (.aload_n 0, 1) := by decide +kernel
theorem dX9_init_50 : decode cX9_init 50 = .ok (.bipush (-4), 2) := by decide +kernel
theorem dX9_init_52 : decode cX9_init 52 = .ok (.putfield 25, 3) := by decide +kernel
theorem dX9_init_55 : decode cX9_init 55 = .ok (.aload_n 0, 1) := by decide +kernel
theorem dX9_init_56 : decode cX9_init 56 = .ok (.bipush 60, 2) := by decide +kernel
theorem dX9_init_58 : decode cX9_init 58 = .ok (.newarray .int, 2) := by decide +kernel
theorem dX9_init_60 : decode cX9_init 60 = .ok (.putfield 29, 3) := by decide +kernel
theorem dX9_init_63 : decode cX9_init 63 = .ok (.aload_n 0, 1) := by decide +kernel
theorem dX9_init_64 : decode cX9_init 64 = .ok (.bipush 39, 2) := by decide +kernel
theorem dX9_init_66 : decode cX9_init 66 = .ok (.newarray .int, 2) := by decide +kernel
theorem dX9_init_68 : decode cX9_init 68 = .ok (.putfield 32, 3) := by decide +kernel
theorem dX9_init_71 : decode cX9_init 71 = .ok (.aload_n 0, 1) := by decide +kernel
theorem dX9_init_72 : decode cX9_init 72 = .ok (.bipush 120, 2) := by decide +kernel
theorem dX9_init_74 : decode cX9_init 74 = .ok (.newarray .int, 2) := by decide +kernel
theorem dX9_init_76 : decode cX9_init 76 = .ok (.putfield 35, 3) := by decide +kernel
theorem dX9_init_79 : decode cX9_init 79 = .ok (.return_, 1) := by decide +kernel
theorem dX9_isIn_0 : decode cX9_isIn 0 = .ok (.iload_n 0, 1) := by decide +kernel
theorem dX9_isIn_1 : decode cX9_isIn 1 = .ok (.iload_n 1, 1) := by decide +kernel
theorem dX9_isIn_2 : decode cX9_isIn 2 = .ok (.if_icmp .lt 12, 3) := by decide +kernel
theorem dX9_isIn_5 : decode cX9_isIn 5 = .ok (.iload_n 0, 1) := by decide +kernel
theorem dX9_isIn_6 : decode cX9_isIn 6 = .ok (.iload_n 2, 1) := by decide +kernel
theorem dX9_isIn_7 : decode cX9_isIn 7 = .ok (.if_icmp .gt 7, 3) := by decide +kernel
theorem dX9_isIn_10 : decode cX9_isIn 10 = .ok (.iconst 1, 1) := by decide +kernel
theorem dX9_isIn_11 : decode cX9_isIn 11 = .ok (.goto 4, 3) := by decide +kernel
theorem dX9_isIn_14 : decode cX9_isIn 14 = .ok (.iconst 0, 1) := by decide +kernel
theorem dX9_isIn_15 : decode cX9_isIn 15 = .ok (.ireturn, 1) := by decide +kernel
theorem dX9_lesser_0 : decode cX9_lesser 0 = .ok (.iload_n 0, 1) := by decide +kernel
theorem dX9_lesser_1 : decode cX9_lesser 1 = .ok (.iload_n 1, 1) := by decide +kernel
theorem dX9_lesser_2 : decode cX9_lesser 2 = .ok (.if_icmp .ge 7, 3) := by decide +kernel
theorem dX9_lesser_5 : decode cX9_lesser 5 = .ok (.iload_n 0, 1) := by decide +kernel
theorem dX9_lesser_6 : decode cX9_lesser 6 = .ok (.goto 4, 3) := by decide +kernel
theorem dX9_lesser_9 : decode cX9_lesser 9 = .ok (.iload_n 1, 1) := by decide +kernel
theorem dX9_lesser_10 : decode cX9_lesser 10 = .ok (.ireturn, 1) := by decide +kernel
theorem dX9_greater_0 : decode cX9_greater 0 = .ok (.iload_n 0, 1) := by decide +kernel
theorem dX9_greater_1 : decode cX9_greater 1 = .ok (.iload_n 1, 1) := by decide +kernel
theorem dX9_greater_2 : decode cX9_greater 2 = .ok (.if_icmp .le 7, 3) := by decide +kernel
theorem dX9_greater_5 : decode cX9_greater 5 = .ok (.iload_n 0, 1) := by decide +kernel
theorem dX9_greater_6 : decode cX9_greater 6 = .ok (.goto 4, 3) := by decide +kernel
theorem dX9_greater_9 : decode cX9_greater 9 = .ok (.iload_n 1, 1) := by decide +kernel
theorem dX9_greater_10 : decode cX9_greater 10 = .ok (.ireturn, 1) := by decide +kernel
theorem dX9_copies_0 : decode cX9_copies 0 = .ok (.iconst 0, 1) := by decide +kernel
theorem dX9_copies_1 : decode cX9_copies 1 = .ok (.istore 4, 2) := by decide +kernel
theorem dX9_copies_3 : decode cX9_copies 3 = .ok (.iload 4, 2) := by decide +kernel
theorem dX9_copies_5 : decode cX9_copies 5 = .ok (.sipush 203, 3) := by decide +kernel
theorem dX9_copies_8 : decode cX9_copies 8 = .ok (.if_icmp .ge 21, 3) := by decide +kernel
theorem dX9_copies_11 : decode cX9_copies 11 = .ok (.aload_n 2, 1) := by decide +kernel
theorem dX9_copies_12 : decode cX9_copies 12 = .ok (.iload_n 3, 1) := by decide +kernel
theorem dX9_copies_13 : decode cX9_copies 13 = .ok (.iload 4, 2) := by decide +kernel
theorem dX9_copies_15 : decode cX9_copies 15 = .ok (.iadd, 1) := by decide +kernel
theorem dX9_copies_16 : decode cX9_copies 16 = .ok (.aload_n 0, 1) := by decide +kernel
theorem dX9_copies_17 : decode cX9_copies 17 = .ok (.iload_n 1, 1) := by decide +kernel
theorem dX9_copies_18 : decode cX9_copies 18 = .ok (.iload 4, 2) := by decide +kernel
theorem dX9_copies_20 : decode cX9_copies 20 = .ok (.iadd, 1) := by decide +kernel
theorem dX9_copies_21 : decode cX9_copies 21 = .ok (.iaload, 1) := by decide +kernel
theorem dX9_copies_22 : decode cX9_copies 22 = .ok (.iastore, 1) := by decide +kernel
theorem dX9_copies_23 : decode cX9_copies 23 = .ok (.iinc 4 1, 3) := by decide +kernel
theorem dX9_copies_26 : decode cX9_copies 26 = .ok (.goto (-23), 3) := by decide +kernel
theorem dX9_copies_29 : decode cX9_copies 29 = .ok (.return_, 1) := by decide +kernel
theorem dX9_keeps_0 : decode cX9_keeps 0 = .ok (.aload_n 0, 1) := by decide +kernel
theorem dX9_keeps_1 : decode cX9_keeps 1 = .ok (.getfield 9, 3) := by decide +kernel
theorem dX9_keeps_4 : decode cX9_keeps 4 = .ok (.iconst 0, 1) := by decide +kernel
theorem dX9_keeps_5 : decode cX9_keeps 5 = .ok (.aload_n 0, 1) := by decide +kernel
theorem dX9_keeps_6 : decode cX9_keeps 6 = .ok (.getfield 13, 3) := by decide +kernel
theorem dX9_keeps_9 : decode cX9_keeps 9 = .ok (.iconst 0, 1) := by decide +kernel
theorem dX9_keeps_10 : decode cX9_keeps 10 = .ok (.invokestatic 38, 3) := by decide +kernel
theorem dX9_keeps_13 : decode cX9_keeps 13 = .ok (.return_, 1) := by decide +kernel
theorem dX9_changed_0 : decode cX9_changed 0 = .ok (.aload_n 0, 1) := by decide +kernel
theorem dX9_changed_1 : decode cX9_changed 1 = .ok (.getfield 42, 3) := by decide +kernel
theorem dX9_changed_4 : decode cX9_changed 4 = .ok (.bipush 8, 2) := by decide +kernel
theorem dX9_changed_6 : decode cX9_changed 6 = .ok (.if_icmp .ne 50, 3) := by decide +kernel
theorem dX9_changed_9 : decode cX9_changed 9 = .ok (.iconst 1, 1) := by decide +kernel
theorem dX9_changed_10 : decode cX9_changed 10 = .ok (.istore_n 1, 1) := by decide +kernel
theorem dX9_changed_11 : decode cX9_changed 11 = .ok (.iload_n 1, 1) := by decide +kernel
theorem dX9_changed_12 : decode cX9_changed 12 = .ok (.bipush 8, 2) := by decide +kernel
theorem dX9_changed_14 : decode cX9_changed 14 = .ok (.if_icmp .ge 32, 3) := by decide +kernel
theorem dX9_changed_17 : decode cX9_changed 17 = .ok (.aload_n 0, 1) := by decide +kernel
theorem dX9_changed_18 : decode cX9_changed 18 = .ok (.getfield 22, 3) := by decide +kernel
theorem dX9_changed_21 : decode cX9_changed 21 = .ok (.sipush 203, 3) := by decide +kernel
theorem dX9_changed_24 : decode cX9_changed 24 = .ok (.iload_n 1, 1) := by decide +kernel
theorem dX9_changed_25 : decode cX9_changed 25 = .ok (.imul, 1) := by decide +kernel
theorem dX9_changed_26 : decode cX9_changed 26 = .ok (.aload_n 0, 1) := by decide +kernel
theorem dX9_changed_27 : decode cX9_changed 27 = .ok (.getfield 22, 3) := by decide +kernel
theorem dX9_changed_30 : decode cX9_changed 30 = .ok (.sipush 203, 3) := by decide +kernel
theorem dX9_changed_33 : decode cX9_changed 33 = .ok (.iload_n 1, 1) := by decide +kernel
theorem dX9_changed_34 : decode cX9_changed 34 = .ok (.iconst 1, 1) := by decide +kernel
theorem dX9_changed_35 : decode cX9_changed 35 = .ok (.isub, 1) := by decide +kernel
theorem dX9_changed_36 : decode cX9_changed 36 = .ok (.imul, 1) := by decide +kernel
theorem dX9_changed_37 : decode cX9_changed 37 = .ok (.invokestatic 38, 3) := by decide +kernel
theorem dX9_changed_40 : decode cX9_changed 40 = .ok (.iinc 1 1, 3) := by decide +kernel
theorem dX9_changed_43 : decode cX9_changed 43 = .ok (.goto (-32), 3) := by decide +kernel
theorem dX9_changed_46 : decode cX9_changed 46 = .ok (.aload_n 0, 1) := by decide +kernel
theorem dX9_changed_47 : decode cX9_changed 47 = .ok (.dup, 1) := by decide +kernel
theorem dX9_changed_48 : decode cX9_changed 48 = .ok (.getfield 42, 3) := by decide +kernel
theorem dX9_changed_51 : decode cX9_changed 51 = .ok (.iconst 1, 1) := by decide +kernel
theorem dX9_changed_52 : decode cX9_changed 52 = .ok (.isub, 1) := by decide +kernel
theorem dX9_changed_53 : decode cX9_changed 53 = .ok (.putfield 42, 3) := by decide +kernel
theorem dX9_changed_56 : decode cX9_changed 56 = .ok (.aload_n 0, 1) := by decide +kernel
theorem dX9_changed_57 : decode cX9_changed 57 = .ok (.getfield 13, 3) := by decide +kernel
theorem dX9_changed_60 : decode cX9_changed 60 = .ok (.iconst 0, 1) := by decide +kernel
theorem dX9_changed_61 : decode cX9_changed 61 = .ok (.aload_n 0, 1) := by decide +kernel
theorem dX9_changed_62 : decode cX9_changed 62 = .ok (.getfield 22, 3) := by decide +kernel
theorem dX9_changed_65 : decode cX9_changed 65 = .ok (.sipush 203, 3) := by decide +kernel
theorem dX9_changed_68 : decode cX9_changed 68 = .ok (.aload_n 0, 1) := by decide +kernel
theorem dX9_changed_69 : decode cX9_changed 69 = .ok (.getfield 42, 3) := by decide +kernel
theorem dX9_changed_72 : decode cX9_changed 72 = .ok (.imul, 1) := by decide +kernel
theorem dX9_changed_73 : decode cX9_changed 73 = .ok (.invokestatic 38, 3) := by decide +kernel
theorem dX9_changed_76 : decode cX9_changed 76 = .ok (.aload_n 0, 1) := by decide +kernel
theorem dX9_changed_77 : decode cX9_changed 77 = .ok (.dup, 1) := by decide +kernel
theorem dX9_changed_78 : decode cX9_changed 78 = .ok (.getfield 42, 3) := by decide +kernel
theorem dX9_changed_81 : decode cX9_changed 81 = .ok (.iconst 1, 1) := by decide +kernel
theorem dX9_changed_82 : decode cX9_changed 82 = .ok (.iadd, 1) := by decide +kernel
theorem dX9_changed_83 : decode cX9_changed 83 = .ok (.putfield 42, 3) := by decide +kernel
theorem dX9_changed_86 : decode cX9_changed 86 = .ok (.return_, 1) := by decide +kernel
theorem dX9_ends_0 : decode cX9_ends 0 = .ok (.iload_n 1, 1) := by decide +kernel
theorem dX9_ends_1 : decode cX9_ends 1 = .ok (.ifCond .lt 7, 3) := by decide +kernel
theorem dX9_ends_4 : decode cX9_ends 4 = .ok (.aload_n 0, 1) := by decide +kernel
theorem dX9_ends_5 : decode cX9_ends 5 = .ok (.invokevirtual 45, 3) := by decide +kernel
theorem dX9_ends_8 : decode cX9_ends 8 = .ok (.iload_n 1, 1) := by decide +kernel
theorem dX9_ends_9 : decode cX9_ends 9 = .ok (.ireturn, 1) := by decide +kernel
theorem dX9_isRefused_0 : decode cX9_isRefused 0 = .ok (.iload_n 1, 1) := by decide +kernel
theorem dX9_isRefused_1 : decode cX9_isRefused 1 = .ok (.ifCond .eq 18, 3) := by decide +kernel
theorem dX9_isRefused_4 : decode cX9_isRefused 4 = .ok (.aload_n 0, 1) := by decide +kernel
theorem dX9_isRefused_5 : decode cX9_isRefused 5 = .ok (.iload_n 2, 1) := by decide +kernel
theorem dX9_isRefused_6 : decode cX9_isRefused 6 = .ok (.putfield 48, 3) := by decide +kernel
theorem dX9_isRefused_9 : decode cX9_isRefused 9 = .ok (.aload_n 0, 1) := by decide +kernel
theorem dX9_isRefused_10 : decode cX9_isRefused 10 = .ok (.iload_n 3, 1) := by decide +kernel
theorem dX9_isRefused_11 : decode cX9_isRefused 11 = .ok (.putfield 51, 3) := by decide +kernel
theorem dX9_isRefused_14 : decode cX9_isRefused 14 = .ok (.aload_n 0, 1) := by decide +kernel
theorem dX9_isRefused_15 : decode cX9_isRefused 15 = .ok (.iconst 0, 1) := by decide +kernel
theorem dX9_isRefused_16 : decode cX9_isRefused 16 = .ok (.putfield 54, 3) := by decide +kernel
theorem dX9_isRefused_19 : decode cX9_isRefused 19 = .ok (.iload_n 1, 1) := by decide +kernel
theorem dX9_isRefused_20 : decode cX9_isRefused 20 = .ok (.ireturn, 1) := by decide +kernel
theorem dX9_at_0 : decode cX9_at 0 = .ok (.bipush 33, 2) := by decide +kernel
theorem dX9_at_2 : decode cX9_at 2 = .ok (.bipush 34, 2) := by decide +kernel
theorem dX9_at_4 : decode cX9_at 4 = .ok (.iload_n 0, 1) := by decide +kernel
theorem dX9_at_5 : decode cX9_at 5 = .ok (.imul, 1) := by decide +kernel
theorem dX9_at_6 : decode cX9_at 6 = .ok (.iadd, 1) := by decide +kernel
theorem dX9_at_7 : decode cX9_at 7 = .ok (.iload_n 1, 1) := by decide +kernel
theorem dX9_at_8 : decode cX9_at 8 = .ok (.iadd, 1) := by decide +kernel
theorem dX9_at_9 : decode cX9_at 9 = .ok (.ireturn, 1) := by decide +kernel
theorem dX9_of_0 : decode cX9_of 0 = .ok (.aload_n 0, 1) := by decide +kernel
theorem dX9_of_1 : decode cX9_of 1 = .ok (.getfield 9, 3) := by decide +kernel
theorem dX9_of_4 : decode cX9_of 4 = .ok (.iload_n 1, 1) := by decide +kernel
theorem dX9_of_5 : decode cX9_of 5 = .ok (.iload_n 2, 1) := by decide +kernel
theorem dX9_of_6 : decode cX9_of 6 = .ok (.invokestatic 57, 3) := by decide +kernel
theorem dX9_of_9 : decode cX9_of 9 = .ok (.iaload, 1) := by decide +kernel
theorem dX9_of_10 : decode cX9_of 10 = .ok (.ireturn, 1) := by decide +kernel
theorem dX9_sets_0 : decode cX9_sets 0 = .ok (.aload_n 0, 1) := by decide +kernel
theorem dX9_sets_1 : decode cX9_sets 1 = .ok (.getfield 9, 3) := by decide +kernel
theorem dX9_sets_4 : decode cX9_sets 4 = .ok (.iload_n 1, 1) := by decide +kernel
theorem dX9_sets_5 : decode cX9_sets 5 = .ok (.iload_n 2, 1) := by decide +kernel
theorem dX9_sets_6 : decode cX9_sets 6 = .ok (.invokestatic 57, 3) := by decide +kernel
theorem dX9_sets_9 : decode cX9_sets 9 = .ok (.iload_n 3, 1) := by decide +kernel
theorem dX9_sets_10 : decode cX9_sets 10 = .ok (.iastore, 1) := by decide +kernel
theorem dX9_sets_11 : decode cX9_sets 11 = .ok (.return_, 1) := by decide +kernel
theorem dX9_isDriver_0 : decode cX9_isDriver 0 = .ok (.iload_n 1, 1) := by decide +kernel
theorem dX9_isDriver_1 : decode cX9_isDriver 1 = .ok (.iconst 0, 1) := by decide +kernel
theorem dX9_isDriver_2 : decode cX9_isDriver 2 = .ok (.aload_n 0, 1) := by decide +kernel
theorem dX9_isDriver_3 : decode cX9_isDriver 3 = .ok (.getfield 9, 3) := by decide +kernel
theorem dX9_isDriver_6 : decode cX9_isDriver 6 = .ok (.iconst 1, 1) := by decide +kernel
theorem dX9_isDriver_7 : decode cX9_isDriver 7 = .ok (.iaload, 1) := by decide +kernel
theorem dX9_isDriver_8 : decode cX9_isDriver 8 = .ok (.iconst 1, 1) := by decide +kernel
theorem dX9_isDriver_9 : decode cX9_isDriver 9 = .ok (.isub, 1) := by decide +kernel
theorem dX9_isDriver_10 : decode cX9_isDriver 10 = .ok (.invokestatic 61, 3) := by decide +kernel
theorem dX9_isDriver_13 : decode cX9_isDriver 13 = .ok (.ireturn, 1) := by decide +kernel
theorem dX9_areDrivers_0 : decode cX9_areDrivers 0 = .ok (.aload_n 0, 1) := by decide +kernel
theorem dX9_areDrivers_1 : decode cX9_areDrivers 1 = .ok (.iload_n 1, 1) := by decide +kernel
theorem dX9_areDrivers_2 : decode cX9_areDrivers 2 = .ok (.invokevirtual 65, 3) := by decide +kernel
theorem dX9_areDrivers_5 : decode cX9_areDrivers 5 = .ok (.ifCond .eq 15, 3) := by decide +kernel
theorem dX9_areDrivers_8 : decode cX9_areDrivers 8 = .ok (.aload_n 0, 1) := by decide +kernel
theorem dX9_areDrivers_9 : decode cX9_areDrivers 9 = .ok (.iload_n 2, 1) := by decide +kernel
theorem dX9_areDrivers_10 : decode cX9_areDrivers 10 = .ok (.invokevirtual 65, 3) := by decide +kernel
theorem dX9_areDrivers_13 : decode cX9_areDrivers 13 = .ok (.ifCond .eq 7, 3) := by decide +kernel
theorem dX9_areDrivers_16 : decode cX9_areDrivers 16 = .ok (.iconst 1, 1) := by decide +kernel
theorem dX9_areDrivers_17 : decode cX9_areDrivers 17 = .ok (.goto 4, 3) := by decide +kernel
theorem dX9_areDrivers_20 : decode cX9_areDrivers 20 = .ok (.iconst 0, 1) := by decide +kernel
theorem dX9_areDrivers_21 : decode cX9_areDrivers 21 = .ok (.ireturn, 1) := by decide +kernel
theorem dX9_isAboard_0 : decode cX9_isAboard 0 = .ok (.aload_n 0, 1) := by decide +kernel
theorem dX9_isAboard_1 : decode cX9_isAboard 1 = .ok (.iload_n 1, 1) := by decide +kernel
theorem dX9_isAboard_2 : decode cX9_isAboard 2 = .ok (.bipush 7, 2) := by decide +kernel
theorem dX9_isAboard_4 : decode cX9_isAboard 4 = .ok (.invokevirtual 69, 3) := by decide +kernel
theorem dX9_isAboard_7 : decode cX9_isAboard 7 = .ok (.iconst 1, 1) := by decide +kernel
theorem dX9_isAboard_8 : decode cX9_isAboard 8 = .ok (.if_icmp .ne 7, 3) := by decide +kernel
theorem dX9_isAboard_11 : decode cX9_isAboard 11 = .ok (.iconst 1, 1) := by decide +kernel
theorem dX9_isAboard_12 : decode cX9_isAboard 12 = .ok (.goto 4, 3) := by decide +kernel
theorem dX9_isAboard_15 : decode cX9_isAboard 15 = .ok (.iconst 0, 1) := by decide +kernel
theorem dX9_isAboard_16 : decode cX9_isAboard 16 = .ok (.ireturn, 1) := by decide +kernel
theorem dX9_ropeAt_0 : decode cX9_ropeAt 0 = .ok (.bipush 8, 2) := by decide +kernel
theorem dX9_ropeAt_2 : decode cX9_ropeAt 2 = .ok (.iconst 5, 1) := by decide +kernel
theorem dX9_ropeAt_3 : decode cX9_ropeAt 3 = .ok (.iload_n 1, 1) := by decide +kernel
theorem dX9_ropeAt_4 : decode cX9_ropeAt 4 = .ok (.iload_n 2, 1) := by decide +kernel
theorem dX9_ropeAt_5 : decode cX9_ropeAt 5 = .ok (.invokestatic 72, 3) := by decide +kernel
theorem dX9_ropeAt_8 : decode cX9_ropeAt 8 = .ok (.imul, 1) := by decide +kernel
theorem dX9_ropeAt_9 : decode cX9_ropeAt 9 = .ok (.iadd, 1) := by decide +kernel
theorem dX9_ropeAt_10 : decode cX9_ropeAt 10 = .ok (.iload_n 1, 1) := by decide +kernel
theorem dX9_ropeAt_11 : decode cX9_ropeAt 11 = .ok (.iload_n 2, 1) := by decide +kernel
theorem dX9_ropeAt_12 : decode cX9_ropeAt 12 = .ok (.invokestatic 75, 3) := by decide +kernel
theorem dX9_ropeAt_15 : decode cX9_ropeAt 15 = .ok (.iadd, 1) := by decide +kernel
theorem dX9_ropeAt_16 : decode cX9_ropeAt 16 = .ok (.ireturn, 1) := by decide +kernel
theorem dX9_isReached_0 : decode cX9_isReached 0 = .ok (.iload_n 1, 1) := by decide +kernel
theorem dX9_isReached_1 : decode cX9_isReached 1 = .ok (.iload_n 2, 1) := by decide +kernel
theorem dX9_isReached_2 : decode cX9_isReached 2 = .ok (.if_icmp .eq 37, 3) := by decide +kernel
theorem dX9_isReached_5 : decode cX9_isReached 5 = .ok (.aload_n 0, 1) := by decide +kernel
theorem dX9_isReached_6 : decode cX9_isReached 6 = .ok (.iload_n 1, 1) := by decide +kernel
theorem dX9_isReached_7 : decode cX9_isReached 7 = .ok (.invokevirtual 78, 3) := by decide +kernel
theorem dX9_isReached_10 : decode cX9_isReached 10 = .ok (.ifCond .eq 29, 3) := by decide +kernel
theorem dX9_isReached_13 : decode cX9_isReached 13 = .ok (.aload_n 0, 1) := by decide +kernel
theorem dX9_isReached_14 : decode cX9_isReached 14 = .ok (.iload_n 2, 1) := by decide +kernel
theorem dX9_isReached_15 : decode cX9_isReached 15 = .ok (.invokevirtual 78, 3) := by decide +kernel
theorem dX9_isReached_18 : decode cX9_isReached 18 = .ok (.ifCond .eq 21, 3) := by decide +kernel
theorem dX9_isReached_21 : decode cX9_isReached 21 = .ok (.aload_n 0, 1) := by decide +kernel
theorem dX9_isReached_22 : decode cX9_isReached 22 = .ok (.getfield 9, 3) := by decide +kernel
theorem dX9_isReached_25 : decode cX9_isReached 25 = .ok (.aload_n 0, 1) := by decide +kernel
theorem dX9_isReached_26 : decode cX9_isReached 26 = .ok (.iload_n 1, 1) := by decide +kernel
theorem dX9_isReached_27 : decode cX9_isReached 27 = .ok (.iload_n 2, 1) := by decide +kernel
theorem dX9_isReached_28 : decode cX9_isReached 28 = .ok (.invokevirtual 81, 3) := by decide +kernel
theorem dX9_isReached_31 : decode cX9_isReached 31 = .ok (.iaload, 1) := by decide +kernel
theorem dX9_isReached_32 : decode cX9_isReached 32 = .ok (.ifCond .ne 7, 3) := by decide +kernel
theorem dX9_isReached_35 : decode cX9_isReached 35 = .ok (.iconst 1, 1) := by decide +kernel
theorem dX9_isReached_36 : decode cX9_isReached 36 = .ok (.goto 4, 3) := by decide +kernel
theorem dX9_isReached_39 : decode cX9_isReached 39 = .ok (.iconst 0, 1) := by decide +kernel
theorem dX9_isReached_40 : decode cX9_isReached 40 = .ok (.ireturn, 1) := by decide +kernel
theorem dX9_isMajority_0 : decode cX9_isMajority 0 = .ok (.iconst 2, 1) := by decide +kernel
theorem dX9_isMajority_1 : decode cX9_isMajority 1 = .ok (.iload_n 1, 1) := by decide +kernel
theorem dX9_isMajority_2 : decode cX9_isMajority 2 = .ok (.imul, 1) := by decide +kernel
theorem dX9_isMajority_3 : decode cX9_isMajority 3 = .ok (.aload_n 0, 1) := by decide +kernel
theorem dX9_isMajority_4 : decode cX9_isMajority 4 = .ok (.getfield 9, 3) := by decide +kernel
theorem dX9_isMajority_7 : decode cX9_isMajority 7 = .ok (.iconst 1, 1) := by decide +kernel
theorem dX9_isMajority_8 : decode cX9_isMajority 8 = .ok (.iaload, 1) := by decide +kernel
theorem dX9_isMajority_9 : decode cX9_isMajority 9 = .ok (.if_icmp .le 7, 3) := by decide +kernel
theorem dX9_isMajority_12 : decode cX9_isMajority 12 = .ok (.iconst 1, 1) := by decide +kernel
theorem dX9_isMajority_13 : decode cX9_isMajority 13 = .ok (.goto 4, 3) := by decide +kernel
theorem dX9_isMajority_16 : decode cX9_isMajority 16 = .ok (.iconst 0, 1) := by decide +kernel
theorem dX9_isMajority_17 : decode cX9_isMajority 17 = .ok (.ireturn, 1) := by decide +kernel
theorem dX9_lastTerm_0 : decode cX9_lastTerm 0 = .ok (.aload_n 0, 1) := by decide +kernel
theorem dX9_lastTerm_1 : decode cX9_lastTerm 1 = .ok (.iload_n 1, 1) := by decide +kernel
theorem dX9_lastTerm_2 : decode cX9_lastTerm 2 = .ok (.iconst 5, 1) := by decide +kernel
theorem dX9_lastTerm_3 : decode cX9_lastTerm 3 = .ok (.invokevirtual 69, 3) := by decide +kernel
theorem dX9_lastTerm_6 : decode cX9_lastTerm 6 = .ok (.istore_n 2, 1) := by decide +kernel
theorem dX9_lastTerm_7 : decode cX9_lastTerm 7 = .ok (.iload_n 2, 1) := by decide +kernel
theorem dX9_lastTerm_8 : decode cX9_lastTerm 8 = .ok (.ifCond .ne 7, 3) := by decide +kernel
theorem dX9_lastTerm_11 : decode cX9_lastTerm 11 = .ok (.iconst 0, 1) := by decide +kernel
theorem dX9_lastTerm_12 : decode cX9_lastTerm 12 = .ok (.goto 14, 3) := by decide +kernel
theorem dX9_lastTerm_15 : decode cX9_lastTerm 15 = .ok (.aload_n 0, 1) := by decide +kernel
theorem dX9_lastTerm_16 : decode cX9_lastTerm 16 = .ok (.iload_n 1, 1) := by decide +kernel
theorem dX9_lastTerm_17 : decode cX9_lastTerm 17 = .ok (.bipush 10, 2) := by decide +kernel
theorem dX9_lastTerm_19 : decode cX9_lastTerm 19 = .ok (.iload_n 2, 1) := by decide +kernel
theorem dX9_lastTerm_20 : decode cX9_lastTerm 20 = .ok (.iadd, 1) := by decide +kernel
theorem dX9_lastTerm_21 : decode cX9_lastTerm 21 = .ok (.iconst 1, 1) := by decide +kernel
theorem dX9_lastTerm_22 : decode cX9_lastTerm 22 = .ok (.isub, 1) := by decide +kernel
theorem dX9_lastTerm_23 : decode cX9_lastTerm 23 = .ok (.invokevirtual 69, 3) := by decide +kernel
theorem dX9_lastTerm_26 : decode cX9_lastTerm 26 = .ok (.ireturn, 1) := by decide +kernel
theorem dX9_longerOf_0 : decode cX9_longerOf 0 = .ok (.aload_n 0, 1) := by decide +kernel
theorem dX9_longerOf_1 : decode cX9_longerOf 1 = .ok (.iload_n 1, 1) := by decide +kernel
theorem dX9_longerOf_2 : decode cX9_longerOf 2 = .ok (.invokevirtual 84, 3) := by decide +kernel
theorem dX9_longerOf_5 : decode cX9_longerOf 5 = .ok (.aload_n 0, 1) := by decide +kernel
theorem dX9_longerOf_6 : decode cX9_longerOf 6 = .ok (.iload_n 2, 1) := by decide +kernel
theorem dX9_longerOf_7 : decode cX9_longerOf 7 = .ok (.invokevirtual 84, 3) := by decide +kernel
theorem dX9_longerOf_10 : decode cX9_longerOf 10 = .ok (.isub, 1) := by decide +kernel
theorem dX9_longerOf_11 : decode cX9_longerOf 11 = .ok (.istore_n 3, 1) := by decide +kernel
theorem dX9_longerOf_12 : decode cX9_longerOf 12 = .ok (.iload_n 3, 1) := by decide +kernel
theorem dX9_longerOf_13 : decode cX9_longerOf 13 = .ok (.ifCond .eq 7, 3) := by decide +kernel
theorem dX9_longerOf_16 : decode cX9_longerOf 16 = .ok (.iload_n 3, 1) := by decide +kernel
theorem dX9_longerOf_17 : decode cX9_longerOf 17 = .ok (.goto 16, 3) := by decide +kernel
theorem dX9_longerOf_20 : decode cX9_longerOf 20 = .ok (.aload_n 0, 1) := by decide +kernel
theorem dX9_longerOf_21 : decode cX9_longerOf 21 = .ok (.iload_n 1, 1) := by decide +kernel
theorem dX9_longerOf_22 : decode cX9_longerOf 22 = .ok (.iconst 5, 1) := by decide +kernel
theorem dX9_longerOf_23 : decode cX9_longerOf 23 = .ok (.invokevirtual 69, 3) := by decide +kernel
theorem dX9_longerOf_26 : decode cX9_longerOf 26 = .ok (.aload_n 0, 1) := by decide +kernel
theorem dX9_longerOf_27 : decode cX9_longerOf 27 = .ok (.iload_n 2, 1) := by decide +kernel
theorem dX9_longerOf_28 : decode cX9_longerOf 28 = .ok (.iconst 5, 1) := by decide +kernel
theorem dX9_longerOf_29 : decode cX9_longerOf 29 = .ok (.invokevirtual 69, 3) := by decide +kernel
theorem dX9_longerOf_32 : decode cX9_longerOf 32 = .ok (.isub, 1) := by decide +kernel
theorem dX9_longerOf_33 : decode cX9_longerOf 33 = .ok (.istore_n 3, 1) := by decide +kernel
theorem dX9_longerOf_34 : decode cX9_longerOf 34 = .ok (.iload_n 3, 1) := by decide +kernel
theorem dX9_longerOf_35 : decode cX9_longerOf 35 = .ok (.ifCond .le 7, 3) := by decide +kernel
theorem dX9_longerOf_38 : decode cX9_longerOf 38 = .ok (.iconst 1, 1) := by decide +kernel
theorem dX9_longerOf_39 : decode cX9_longerOf 39 = .ok (.goto 12, 3) := by decide +kernel
theorem dX9_longerOf_42 : decode cX9_longerOf 42 = .ok (.iload_n 3, 1) := by decide +kernel
theorem dX9_longerOf_43 : decode cX9_longerOf 43 = .ok (.ifCond .ge 7, 3) := by decide +kernel
theorem dX9_longerOf_46 : decode cX9_longerOf 46 = .ok (.iconst (-1), 1) := by decide +kernel
theorem dX9_longerOf_47 : decode cX9_longerOf 47 = .ok (.goto 4, 3) := by decide +kernel
theorem dX9_longerOf_50 : decode cX9_longerOf 50 = .ok (.iconst 0, 1) := by decide +kernel
theorem dX9_longerOf_51 : decode cX9_longerOf 51 = .ok (.ireturn, 1) := by decide +kernel
theorem dX9_alikeTo_0 : decode cX9_alikeTo 0 = .ok (.aload_n 0, 1) := by decide +kernel
theorem dX9_alikeTo_1 : decode cX9_alikeTo 1 = .ok (.iload_n 1, 1) := by decide +kernel
theorem dX9_alikeTo_2 : decode cX9_alikeTo 2 = .ok (.iconst 5, 1) := by decide +kernel
theorem dX9_alikeTo_3 : decode cX9_alikeTo 3 = .ok (.invokevirtual 69, 3) := by decide +kernel
theorem dX9_alikeTo_6 : decode cX9_alikeTo 6 = .ok (.aload_n 0, 1) := by decide +kernel
theorem dX9_alikeTo_7 : decode cX9_alikeTo 7 = .ok (.iload_n 2, 1) := by decide +kernel
theorem dX9_alikeTo_8 : decode cX9_alikeTo 8 = .ok (.iconst 5, 1) := by decide +kernel
theorem dX9_alikeTo_9 : decode cX9_alikeTo 9 = .ok (.invokevirtual 69, 3) := by decide +kernel
theorem dX9_alikeTo_12 : decode cX9_alikeTo 12 = .ok (.invokestatic 72, 3) := by decide +kernel
theorem dX9_alikeTo_15 : decode cX9_alikeTo 15 = .ok (.istore_n 3, 1) := by decide +kernel
theorem dX9_alikeTo_16 : decode cX9_alikeTo 16 = .ok (.iconst 0, 1) := by decide +kernel
theorem dX9_alikeTo_17 : decode cX9_alikeTo 17 = .ok (.istore 4, 2) := by decide +kernel
theorem dX9_alikeTo_19 : decode cX9_alikeTo 19 = .ok (.iload 4, 2) := by decide +kernel
theorem dX9_alikeTo_21 : decode cX9_alikeTo 21 = .ok (.iload_n 3, 1) := by decide +kernel
theorem dX9_alikeTo_22 : decode cX9_alikeTo 22 = .ok (.if_icmp .ge 55, 3) := by decide +kernel
theorem dX9_alikeTo_25 : decode cX9_alikeTo 25 = .ok (.aload_n 0, 1) := by decide +kernel
theorem dX9_alikeTo_26 : decode cX9_alikeTo 26 = .ok (.iload_n 1, 1) := by decide +kernel
theorem dX9_alikeTo_27 : decode cX9_alikeTo 27 = .ok (.bipush 10, 2) := by decide +kernel
theorem dX9_alikeTo_29 : decode cX9_alikeTo 29 = .ok (.iload 4, 2) := by decide +kernel
theorem dX9_alikeTo_31 : decode cX9_alikeTo 31 = .ok (.iadd, 1) := by decide +kernel
theorem dX9_alikeTo_32 : decode cX9_alikeTo 32 = .ok (.invokevirtual 69, 3) := by decide +kernel
theorem dX9_alikeTo_35 : decode cX9_alikeTo 35 = .ok (.aload_n 0, 1) := by decide +kernel
theorem dX9_alikeTo_36 : decode cX9_alikeTo 36 = .ok (.iload_n 2, 1) := by decide +kernel
theorem dX9_alikeTo_37 : decode cX9_alikeTo 37 = .ok (.bipush 10, 2) := by decide +kernel
theorem dX9_alikeTo_39 : decode cX9_alikeTo 39 = .ok (.iload 4, 2) := by decide +kernel
theorem dX9_alikeTo_41 : decode cX9_alikeTo 41 = .ok (.iadd, 1) := by decide +kernel
theorem dX9_alikeTo_42 : decode cX9_alikeTo 42 = .ok (.invokevirtual 69, 3) := by decide +kernel
theorem dX9_alikeTo_45 : decode cX9_alikeTo 45 = .ok (.if_icmp .ne 32, 3) := by decide +kernel
theorem dX9_alikeTo_48 : decode cX9_alikeTo 48 = .ok (.aload_n 0, 1) := by decide +kernel
theorem dX9_alikeTo_49 : decode cX9_alikeTo 49 = .ok (.iload_n 1, 1) := by decide +kernel
theorem dX9_alikeTo_50 : decode cX9_alikeTo 50 = .ok (.bipush 22, 2) := by decide +kernel
theorem dX9_alikeTo_52 : decode cX9_alikeTo 52 = .ok (.iload 4, 2) := by decide +kernel
theorem dX9_alikeTo_54 : decode cX9_alikeTo 54 = .ok (.iadd, 1) := by decide +kernel
theorem dX9_alikeTo_55 : decode cX9_alikeTo 55 = .ok (.invokevirtual 69, 3) := by decide +kernel
theorem dX9_alikeTo_58 : decode cX9_alikeTo 58 = .ok (.aload_n 0, 1) := by decide +kernel
theorem dX9_alikeTo_59 : decode cX9_alikeTo 59 = .ok (.iload_n 2, 1) := by decide +kernel
theorem dX9_alikeTo_60 : decode cX9_alikeTo 60 = .ok (.bipush 22, 2) := by decide +kernel
theorem dX9_alikeTo_62 : decode cX9_alikeTo 62 = .ok (.iload 4, 2) := by decide +kernel
theorem dX9_alikeTo_64 : decode cX9_alikeTo 64 = .ok (.iadd, 1) := by decide +kernel
theorem dX9_alikeTo_65 : decode cX9_alikeTo 65 = .ok (.invokevirtual 69, 3) := by decide +kernel
theorem dX9_alikeTo_68 : decode cX9_alikeTo 68 = .ok (.if_icmp .ne 9, 3) := by decide +kernel
theorem dX9_alikeTo_71 : decode cX9_alikeTo 71 = .ok (.iinc 4 1, 3) := by decide +kernel
theorem dX9_alikeTo_74 : decode cX9_alikeTo 74 = .ok (.goto (-55), 3) := by decide +kernel
theorem dX9_alikeTo_77 : decode cX9_alikeTo 77 = .ok (.iload 4, 2) := by decide +kernel
theorem dX9_alikeTo_79 : decode cX9_alikeTo 79 = .ok (.ireturn, 1) := by decide +kernel
theorem dX9_clear_0 : decode cX9_clear 0 = .ok (.aload_n 0, 1) := by decide +kernel
theorem dX9_clear_1 : decode cX9_clear 1 = .ok (.getfield 9, 3) := by decide +kernel
theorem dX9_clear_4 : decode cX9_clear 4 = .ok (.iconst 1, 1) := by decide +kernel
theorem dX9_clear_5 : decode cX9_clear 5 = .ok (.iaload, 1) := by decide +kernel
theorem dX9_clear_6 : decode cX9_clear 6 = .ok (.istore_n 1, 1) := by decide +kernel
theorem dX9_clear_7 : decode cX9_clear 7 = .ok (.iconst 0, 1) := by decide +kernel
theorem dX9_clear_8 : decode cX9_clear 8 = .ok (.istore_n 2, 1) := by decide +kernel
theorem dX9_clear_9 : decode cX9_clear 9 = .ok (.iload_n 2, 1) := by decide +kernel
theorem dX9_clear_10 : decode cX9_clear 10 = .ok (.sipush 203, 3) := by decide +kernel
theorem dX9_clear_13 : decode cX9_clear 13 = .ok (.if_icmp .ge 16, 3) := by decide +kernel
theorem dX9_clear_16 : decode cX9_clear 16 = .ok (.aload_n 0, 1) := by decide +kernel
theorem dX9_clear_17 : decode cX9_clear 17 = .ok (.getfield 9, 3) := by decide +kernel
theorem dX9_clear_20 : decode cX9_clear 20 = .ok (.iload_n 2, 1) := by decide +kernel
theorem dX9_clear_21 : decode cX9_clear 21 = .ok (.iconst 0, 1) := by decide +kernel
theorem dX9_clear_22 : decode cX9_clear 22 = .ok (.iastore, 1) := by decide +kernel
theorem dX9_clear_23 : decode cX9_clear 23 = .ok (.iinc 2 1, 3) := by decide +kernel
theorem dX9_clear_26 : decode cX9_clear 26 = .ok (.goto (-17), 3) := by decide +kernel
theorem dX9_clear_29 : decode cX9_clear 29 = .ok (.aload_n 0, 1) := by decide +kernel
theorem dX9_clear_30 : decode cX9_clear 30 = .ok (.iconst 0, 1) := by decide +kernel
theorem dX9_clear_31 : decode cX9_clear 31 = .ok (.putfield 42, 3) := by decide +kernel
theorem dX9_clear_34 : decode cX9_clear 34 = .ok (.iload_n 1, 1) := by decide +kernel
theorem dX9_clear_35 : decode cX9_clear 35 = .ok (.ireturn, 1) := by decide +kernel
theorem dX9_comes_0 : decode cX9_comes 0 = .ok (.iload_n 1, 1) := by decide +kernel
theorem dX9_comes_1 : decode cX9_comes 1 = .ok (.iconst 1, 1) := by decide +kernel
theorem dX9_comes_2 : decode cX9_comes 2 = .ok (.bipush 9, 2) := by decide +kernel
theorem dX9_comes_4 : decode cX9_comes 4 = .ok (.invokestatic 61, 3) := by decide +kernel
theorem dX9_comes_7 : decode cX9_comes 7 = .ok (.ifCond .ne 6, 3) := by decide +kernel
theorem dX9_comes_10 : decode cX9_comes 10 = .ok (.bipush (-2), 2) := by decide +kernel
theorem dX9_comes_12 : decode cX9_comes 12 = .ok (.ireturn, 1) := by decide +kernel
theorem dX9_comes_13 : decode cX9_comes 13 = .ok (.aload_n 0, 1) := by decide +kernel
theorem dX9_comes_14 : decode cX9_comes 14 = .ok (.aload_n 0, 1) := by decide +kernel
theorem dX9_comes_15 : decode cX9_comes 15 = .ok (.getfield 9, 3) := by decide +kernel
theorem dX9_comes_18 : decode cX9_comes 18 = .ok (.iconst 2, 1) := by decide +kernel
theorem dX9_comes_19 : decode cX9_comes 19 = .ok (.iaload, 1) := by decide +kernel
theorem dX9_comes_20 : decode cX9_comes 20 = .ok (.ifCond .le 7, 3) := by decide +kernel
theorem dX9_comes_23 : decode cX9_comes 23 = .ok (.iconst 1, 1) := by decide +kernel
theorem dX9_comes_24 : decode cX9_comes 24 = .ok (.goto 4, 3) := by decide +kernel
theorem dX9_comes_27 : decode cX9_comes 27 = .ok (.iconst 0, 1) := by decide +kernel
theorem dX9_comes_28 : decode cX9_comes 28 = .ok (.bipush 7, 2) := by decide +kernel
theorem dX9_comes_30 : decode cX9_comes 30 = .ok (.aload_n 0, 1) := by decide +kernel
theorem dX9_comes_31 : decode cX9_comes 31 = .ok (.getfield 9, 3) := by decide +kernel
theorem dX9_comes_34 : decode cX9_comes 34 = .ok (.iconst 2, 1) := by decide +kernel
theorem dX9_comes_35 : decode cX9_comes 35 = .ok (.iaload, 1) := by decide +kernel
theorem dX9_comes_36 : decode cX9_comes 36 = .ok (.invokevirtual 88, 3) := by decide +kernel
theorem dX9_comes_39 : decode cX9_comes 39 = .ok (.ifCond .ne 27, 3) := by decide +kernel
theorem dX9_comes_42 : decode cX9_comes 42 = .ok (.aload_n 0, 1) := by decide +kernel
theorem dX9_comes_43 : decode cX9_comes 43 = .ok (.aload_n 0, 1) := by decide +kernel
theorem dX9_comes_44 : decode cX9_comes 44 = .ok (.getfield 9, 3) := by decide +kernel
theorem dX9_comes_47 : decode cX9_comes 47 = .ok (.iconst 1, 1) := by decide +kernel
theorem dX9_comes_48 : decode cX9_comes 48 = .ok (.iaload, 1) := by decide +kernel
theorem dX9_comes_49 : decode cX9_comes 49 = .ok (.iconst 5, 1) := by decide +kernel
theorem dX9_comes_50 : decode cX9_comes 50 = .ok (.if_icmp .ne 7, 3) := by decide +kernel
theorem dX9_comes_53 : decode cX9_comes 53 = .ok (.iconst 1, 1) := by decide +kernel
theorem dX9_comes_54 : decode cX9_comes 54 = .ok (.goto 4, 3) := by decide +kernel
theorem dX9_comes_57 : decode cX9_comes 57 = .ok (.iconst 0, 1) := by decide +kernel
theorem dX9_comes_58 : decode cX9_comes 58 = .ok (.iconst 1, 1) := by decide +kernel
theorem dX9_comes_59 : decode cX9_comes 59 = .ok (.iconst 5, 1) := by decide +kernel
theorem dX9_comes_60 : decode cX9_comes 60 = .ok (.invokevirtual 88, 3) := by decide +kernel
theorem dX9_comes_63 : decode cX9_comes 63 = .ok (.ifCond .eq 6, 3) := by decide +kernel
theorem dX9_comes_66 : decode cX9_comes 66 = .ok (.bipush (-3), 2) := by decide +kernel
theorem dX9_comes_68 : decode cX9_comes 68 = .ok (.ireturn, 1) := by decide +kernel
theorem dX9_comes_69 : decode cX9_comes 69 = .ok (.aload_n 0, 1) := by decide +kernel
theorem dX9_comes_70 : decode cX9_comes 70 = .ok (.getfield 9, 3) := by decide +kernel
theorem dX9_comes_73 : decode cX9_comes 73 = .ok (.iconst 1, 1) := by decide +kernel
theorem dX9_comes_74 : decode cX9_comes 74 = .ok (.iaload, 1) := by decide +kernel
theorem dX9_comes_75 : decode cX9_comes 75 = .ok (.istore_n 2, 1) := by decide +kernel
theorem dX9_comes_76 : decode cX9_comes 76 = .ok (.aload_n 0, 1) := by decide +kernel
theorem dX9_comes_77 : decode cX9_comes 77 = .ok (.iload_n 2, 1) := by decide +kernel
theorem dX9_comes_78 : decode cX9_comes 78 = .ok (.iconst 2, 1) := by decide +kernel
theorem dX9_comes_79 : decode cX9_comes 79 = .ok (.iload_n 1, 1) := by decide +kernel
theorem dX9_comes_80 : decode cX9_comes 80 = .ok (.invokevirtual 92, 3) := by decide +kernel
theorem dX9_comes_83 : decode cX9_comes 83 = .ok (.aload_n 0, 1) := by decide +kernel
theorem dX9_comes_84 : decode cX9_comes 84 = .ok (.iload_n 2, 1) := by decide +kernel
theorem dX9_comes_85 : decode cX9_comes 85 = .ok (.iconst 4, 1) := by decide +kernel
theorem dX9_comes_86 : decode cX9_comes 86 = .ok (.iconst (-1), 1) := by decide +kernel
theorem dX9_comes_87 : decode cX9_comes 87 = .ok (.invokevirtual 92, 3) := by decide +kernel
theorem dX9_comes_90 : decode cX9_comes 90 = .ok (.aload_n 0, 1) := by decide +kernel
theorem dX9_comes_91 : decode cX9_comes 91 = .ok (.iload_n 2, 1) := by decide +kernel
theorem dX9_comes_92 : decode cX9_comes 92 = .ok (.bipush 7, 2) := by decide +kernel
theorem dX9_comes_94 : decode cX9_comes 94 = .ok (.iconst 1, 1) := by decide +kernel
theorem dX9_comes_95 : decode cX9_comes 95 = .ok (.invokevirtual 92, 3) := by decide +kernel
theorem dX9_comes_98 : decode cX9_comes 98 = .ok (.aload_n 0, 1) := by decide +kernel
theorem dX9_comes_99 : decode cX9_comes 99 = .ok (.getfield 9, 3) := by decide +kernel
theorem dX9_comes_102 : decode cX9_comes 102 = .ok (.iconst 1, 1) := by decide +kernel
theorem dX9_comes_103 : decode cX9_comes 103 = .ok (.dup2, 1) := by decide +kernel
theorem dX9_comes_104 : decode cX9_comes 104 = .ok (.iaload, 1) := by decide +kernel
theorem dX9_comes_105 : decode cX9_comes 105 = .ok (.iconst 1, 1) := by decide +kernel
theorem dX9_comes_106 : decode cX9_comes 106 = .ok (.iadd, 1) := by decide +kernel
theorem dX9_comes_107 : decode cX9_comes 107 = .ok (.iastore, 1) := by decide +kernel
theorem dX9_comes_108 : decode cX9_comes 108 = .ok (.iload_n 2, 1) := by decide +kernel
theorem dX9_comes_109 : decode cX9_comes 109 = .ok (.ireturn, 1) := by decide +kernel
theorem dX9_driver_0 : decode cX9_driver 0 = .ok (.aload_n 0, 1) := by decide +kernel
theorem dX9_driver_1 : decode cX9_driver 1 = .ok (.invokevirtual 96, 3) := by decide +kernel
theorem dX9_driver_4 : decode cX9_driver 4 = .ok (.aload_n 0, 1) := by decide +kernel
theorem dX9_driver_5 : decode cX9_driver 5 = .ok (.aload_n 0, 1) := by decide +kernel
theorem dX9_driver_6 : decode cX9_driver 6 = .ok (.iload_n 1, 1) := by decide +kernel
theorem dX9_driver_7 : decode cX9_driver 7 = .ok (.invokevirtual 99, 3) := by decide +kernel
theorem dX9_driver_10 : decode cX9_driver 10 = .ok (.invokevirtual 102, 3) := by decide +kernel
theorem dX9_driver_13 : decode cX9_driver 13 = .ok (.ireturn, 1) := by decide +kernel
theorem dX9_takesOver_0 : decode cX9_takesOver 0 = .ok (.aload_n 0, 1) := by decide +kernel
theorem dX9_takesOver_1 : decode cX9_takesOver 1 = .ok (.iload_n 1, 1) := by decide +kernel
theorem dX9_takesOver_2 : decode cX9_takesOver 2 = .ok (.iconst 1, 1) := by decide +kernel
theorem dX9_takesOver_3 : decode cX9_takesOver 3 = .ok (.iload_n 2, 1) := by decide +kernel
theorem dX9_takesOver_4 : decode cX9_takesOver 4 = .ok (.invokevirtual 92, 3) := by decide +kernel
theorem dX9_takesOver_7 : decode cX9_takesOver 7 = .ok (.aload_n 0, 1) := by decide +kernel
theorem dX9_takesOver_8 : decode cX9_takesOver 8 = .ok (.iload_n 1, 1) := by decide +kernel
theorem dX9_takesOver_9 : decode cX9_takesOver 9 = .ok (.iconst 0, 1) := by decide +kernel
theorem dX9_takesOver_10 : decode cX9_takesOver 10 = .ok (.iconst 0, 1) := by decide +kernel
theorem dX9_takesOver_11 : decode cX9_takesOver 11 = .ok (.invokevirtual 92, 3) := by decide +kernel
theorem dX9_takesOver_14 : decode cX9_takesOver 14 = .ok (.aload_n 0, 1) := by decide +kernel
theorem dX9_takesOver_15 : decode cX9_takesOver 15 = .ok (.iload_n 1, 1) := by decide +kernel
theorem dX9_takesOver_16 : decode cX9_takesOver 16 = .ok (.iconst 4, 1) := by decide +kernel
theorem dX9_takesOver_17 : decode cX9_takesOver 17 = .ok (.iconst (-1), 1) := by decide +kernel
theorem dX9_takesOver_18 : decode cX9_takesOver 18 = .ok (.invokevirtual 92, 3) := by decide +kernel
theorem dX9_takesOver_21 : decode cX9_takesOver 21 = .ok (.return_, 1) := by decide +kernel
theorem dX9_votes_0 : decode cX9_votes 0 = .ok (.aload_n 0, 1) := by decide +kernel
theorem dX9_votes_1 : decode cX9_votes 1 = .ok (.iload_n 1, 1) := by decide +kernel
theorem dX9_votes_2 : decode cX9_votes 2 = .ok (.iconst 1, 1) := by decide +kernel
theorem dX9_votes_3 : decode cX9_votes 3 = .ok (.invokevirtual 69, 3) := by decide +kernel
theorem dX9_votes_6 : decode cX9_votes 6 = .ok (.aload_n 0, 1) := by decide +kernel
theorem dX9_votes_7 : decode cX9_votes 7 = .ok (.iload_n 2, 1) := by decide +kernel
theorem dX9_votes_8 : decode cX9_votes 8 = .ok (.iconst 1, 1) := by decide +kernel
theorem dX9_votes_9 : decode cX9_votes 9 = .ok (.invokevirtual 69, 3) := by decide +kernel
theorem dX9_votes_12 : decode cX9_votes 12 = .ok (.if_icmp .ne 36, 3) := by decide +kernel
theorem dX9_votes_15 : decode cX9_votes 15 = .ok (.aload_n 0, 1) := by decide +kernel
theorem dX9_votes_16 : decode cX9_votes 16 = .ok (.iload_n 1, 1) := by decide +kernel
theorem dX9_votes_17 : decode cX9_votes 17 = .ok (.iconst 4, 1) := by decide +kernel
theorem dX9_votes_18 : decode cX9_votes 18 = .ok (.invokevirtual 69, 3) := by decide +kernel
theorem dX9_votes_21 : decode cX9_votes 21 = .ok (.iconst (-1), 1) := by decide +kernel
theorem dX9_votes_22 : decode cX9_votes 22 = .ok (.if_icmp .eq 13, 3) := by decide +kernel
theorem dX9_votes_25 : decode cX9_votes 25 = .ok (.aload_n 0, 1) := by decide +kernel
theorem dX9_votes_26 : decode cX9_votes 26 = .ok (.iload_n 1, 1) := by decide +kernel
theorem dX9_votes_27 : decode cX9_votes 27 = .ok (.iconst 4, 1) := by decide +kernel
theorem dX9_votes_28 : decode cX9_votes 28 = .ok (.invokevirtual 69, 3) := by decide +kernel
theorem dX9_votes_31 : decode cX9_votes 31 = .ok (.iload_n 2, 1) := by decide +kernel
theorem dX9_votes_32 : decode cX9_votes 32 = .ok (.if_icmp .ne 16, 3) := by decide +kernel
theorem dX9_votes_35 : decode cX9_votes 35 = .ok (.aload_n 0, 1) := by decide +kernel
theorem dX9_votes_36 : decode cX9_votes 36 = .ok (.iload_n 1, 1) := by decide +kernel
theorem dX9_votes_37 : decode cX9_votes 37 = .ok (.iload_n 2, 1) := by decide +kernel
theorem dX9_votes_38 : decode cX9_votes 38 = .ok (.invokevirtual 105, 3) := by decide +kernel
theorem dX9_votes_41 : decode cX9_votes 41 = .ok (.ifCond .gt 7, 3) := by decide +kernel
theorem dX9_votes_44 : decode cX9_votes 44 = .ok (.iconst 1, 1) := by decide +kernel
theorem dX9_votes_45 : decode cX9_votes 45 = .ok (.goto 4, 3) := by decide +kernel
theorem dX9_votes_48 : decode cX9_votes 48 = .ok (.iconst 0, 1) := by decide +kernel
theorem dX9_votes_49 : decode cX9_votes 49 = .ok (.istore_n 3, 1) := by decide +kernel
theorem dX9_votes_50 : decode cX9_votes 50 = .ok (.iload_n 3, 1) := by decide +kernel
theorem dX9_votes_51 : decode cX9_votes 51 = .ok (.ifCond .eq 28, 3) := by decide +kernel
theorem dX9_votes_54 : decode cX9_votes 54 = .ok (.aload_n 0, 1) := by decide +kernel
theorem dX9_votes_55 : decode cX9_votes 55 = .ok (.iload_n 1, 1) := by decide +kernel
theorem dX9_votes_56 : decode cX9_votes 56 = .ok (.iconst 4, 1) := by decide +kernel
theorem dX9_votes_57 : decode cX9_votes 57 = .ok (.iload_n 2, 1) := by decide +kernel
theorem dX9_votes_58 : decode cX9_votes 58 = .ok (.invokevirtual 92, 3) := by decide +kernel
theorem dX9_votes_61 : decode cX9_votes 61 = .ok (.aload_n 0, 1) := by decide +kernel
theorem dX9_votes_62 : decode cX9_votes 62 = .ok (.iload_n 1, 1) := by decide +kernel
theorem dX9_votes_63 : decode cX9_votes 63 = .ok (.iconst 3, 1) := by decide +kernel
theorem dX9_votes_64 : decode cX9_votes 64 = .ok (.iconst 0, 1) := by decide +kernel
theorem dX9_votes_65 : decode cX9_votes 65 = .ok (.invokevirtual 92, 3) := by decide +kernel
theorem dX9_votes_68 : decode cX9_votes 68 = .ok (.aload_n 0, 1) := by decide +kernel
theorem dX9_votes_69 : decode cX9_votes 69 = .ok (.getfield 9, 3) := by decide +kernel
theorem dX9_votes_72 : decode cX9_votes 72 = .ok (.bipush 7, 2) := by decide +kernel
theorem dX9_votes_74 : decode cX9_votes 74 = .ok (.dup2, 1) := by decide +kernel
theorem dX9_votes_75 : decode cX9_votes 75 = .ok (.iaload, 1) := by decide +kernel
theorem dX9_votes_76 : decode cX9_votes 76 = .ok (.iconst 1, 1) := by decide +kernel
theorem dX9_votes_77 : decode cX9_votes 77 = .ok (.iadd, 1) := by decide +kernel
theorem dX9_votes_78 : decode cX9_votes 78 = .ok (.iastore, 1) := by decide +kernel
theorem dX9_votes_79 : decode cX9_votes 79 = .ok (.iload_n 3, 1) := by decide +kernel
theorem dX9_votes_80 : decode cX9_votes 80 = .ok (.ireturn, 1) := by decide +kernel
theorem dX9_asksNow_0 : decode cX9_asksNow 0 = .ok (.aload_n 0, 1) := by decide +kernel
theorem dX9_asksNow_1 : decode cX9_asksNow 1 = .ok (.iload_n 1, 1) := by decide +kernel
theorem dX9_asksNow_2 : decode cX9_asksNow 2 = .ok (.iconst 1, 1) := by decide +kernel
theorem dX9_asksNow_3 : decode cX9_asksNow 3 = .ok (.aload_n 0, 1) := by decide +kernel
theorem dX9_asksNow_4 : decode cX9_asksNow 4 = .ok (.iload_n 1, 1) := by decide +kernel
theorem dX9_asksNow_5 : decode cX9_asksNow 5 = .ok (.iconst 1, 1) := by decide +kernel
theorem dX9_asksNow_6 : decode cX9_asksNow 6 = .ok (.invokevirtual 69, 3) := by decide +kernel
theorem dX9_asksNow_9 : decode cX9_asksNow 9 = .ok (.iconst 1, 1) := by decide +kernel
theorem dX9_asksNow_10 : decode cX9_asksNow 10 = .ok (.iadd, 1) := by decide +kernel
theorem dX9_asksNow_11 : decode cX9_asksNow 11 = .ok (.invokevirtual 92, 3) := by decide +kernel
theorem dX9_asksNow_14 : decode cX9_asksNow 14 = .ok (.aload_n 0, 1) := by decide +kernel
theorem dX9_asksNow_15 : decode cX9_asksNow 15 = .ok (.iload_n 1, 1) := by decide +kernel
theorem dX9_asksNow_16 : decode cX9_asksNow 16 = .ok (.iconst 0, 1) := by decide +kernel
theorem dX9_asksNow_17 : decode cX9_asksNow 17 = .ok (.iconst 1, 1) := by decide +kernel
theorem dX9_asksNow_18 : decode cX9_asksNow 18 = .ok (.invokevirtual 92, 3) := by decide +kernel
theorem dX9_asksNow_21 : decode cX9_asksNow 21 = .ok (.aload_n 0, 1) := by decide +kernel
theorem dX9_asksNow_22 : decode cX9_asksNow 22 = .ok (.iload_n 1, 1) := by decide +kernel
theorem dX9_asksNow_23 : decode cX9_asksNow 23 = .ok (.iconst 4, 1) := by decide +kernel
theorem dX9_asksNow_24 : decode cX9_asksNow 24 = .ok (.iload_n 1, 1) := by decide +kernel
theorem dX9_asksNow_25 : decode cX9_asksNow 25 = .ok (.invokevirtual 92, 3) := by decide +kernel
theorem dX9_asksNow_28 : decode cX9_asksNow 28 = .ok (.aload_n 0, 1) := by decide +kernel
theorem dX9_asksNow_29 : decode cX9_asksNow 29 = .ok (.iload_n 1, 1) := by decide +kernel
theorem dX9_asksNow_30 : decode cX9_asksNow 30 = .ok (.iconst 3, 1) := by decide +kernel
theorem dX9_asksNow_31 : decode cX9_asksNow 31 = .ok (.iconst 0, 1) := by decide +kernel
theorem dX9_asksNow_32 : decode cX9_asksNow 32 = .ok (.invokevirtual 92, 3) := by decide +kernel
theorem dX9_asksNow_35 : decode cX9_asksNow 35 = .ok (.aload_n 0, 1) := by decide +kernel
theorem dX9_asksNow_36 : decode cX9_asksNow 36 = .ok (.iload_n 1, 1) := by decide +kernel
theorem dX9_asksNow_37 : decode cX9_asksNow 37 = .ok (.bipush 8, 2) := by decide +kernel
theorem dX9_asksNow_39 : decode cX9_asksNow 39 = .ok (.aload_n 0, 1) := by decide +kernel
theorem dX9_asksNow_40 : decode cX9_asksNow 40 = .ok (.iload_n 1, 1) := by decide +kernel
theorem dX9_asksNow_41 : decode cX9_asksNow 41 = .ok (.bipush 8, 2) := by decide +kernel
theorem dX9_asksNow_43 : decode cX9_asksNow 43 = .ok (.invokevirtual 69, 3) := by decide +kernel
theorem dX9_asksNow_46 : decode cX9_asksNow 46 = .ok (.iconst 1, 1) := by decide +kernel
theorem dX9_asksNow_47 : decode cX9_asksNow 47 = .ok (.iadd, 1) := by decide +kernel
theorem dX9_asksNow_48 : decode cX9_asksNow 48 = .ok (.invokevirtual 92, 3) := by decide +kernel
theorem dX9_asksNow_51 : decode cX9_asksNow 51 = .ok (.aload_n 0, 1) := by decide +kernel
theorem dX9_asksNow_52 : decode cX9_asksNow 52 = .ok (.getfield 9, 3) := by decide +kernel
theorem dX9_asksNow_55 : decode cX9_asksNow 55 = .ok (.iconst 2, 1) := by decide +kernel
theorem dX9_asksNow_56 : decode cX9_asksNow 56 = .ok (.dup2, 1) := by decide +kernel
theorem dX9_asksNow_57 : decode cX9_asksNow 57 = .ok (.iaload, 1) := by decide +kernel
theorem dX9_asksNow_58 : decode cX9_asksNow 58 = .ok (.iconst 1, 1) := by decide +kernel
theorem dX9_asksNow_59 : decode cX9_asksNow 59 = .ok (.iadd, 1) := by decide +kernel
theorem dX9_asksNow_60 : decode cX9_asksNow 60 = .ok (.iastore, 1) := by decide +kernel
theorem dX9_asksNow_61 : decode cX9_asksNow 61 = .ok (.aload_n 0, 1) := by decide +kernel
theorem dX9_asksNow_62 : decode cX9_asksNow 62 = .ok (.getfield 9, 3) := by decide +kernel
theorem dX9_asksNow_65 : decode cX9_asksNow 65 = .ok (.bipush 7, 2) := by decide +kernel
theorem dX9_asksNow_67 : decode cX9_asksNow 67 = .ok (.dup2, 1) := by decide +kernel
theorem dX9_asksNow_68 : decode cX9_asksNow 68 = .ok (.iaload, 1) := by decide +kernel
theorem dX9_asksNow_69 : decode cX9_asksNow 69 = .ok (.iconst 1, 1) := by decide +kernel
theorem dX9_asksNow_70 : decode cX9_asksNow 70 = .ok (.iadd, 1) := by decide +kernel
theorem dX9_asksNow_71 : decode cX9_asksNow 71 = .ok (.iastore, 1) := by decide +kernel
theorem dX9_asksNow_72 : decode cX9_asksNow 72 = .ok (.iconst 1, 1) := by decide +kernel
theorem dX9_asksNow_73 : decode cX9_asksNow 73 = .ok (.istore_n 2, 1) := by decide +kernel
theorem dX9_asksNow_74 : decode cX9_asksNow 74 = .ok (.iconst 0, 1) := by decide +kernel
theorem dX9_asksNow_75 : decode cX9_asksNow 75 = .ok (.istore_n 3, 1) := by decide +kernel
theorem dX9_asksNow_76 : decode cX9_asksNow 76 = .ok (.iload_n 3, 1) := by decide +kernel
theorem dX9_asksNow_77 : decode cX9_asksNow 77 = .ok (.aload_n 0, 1) := by decide +kernel
theorem dX9_asksNow_78 : decode cX9_asksNow 78 = .ok (.getfield 9, 3) := by decide +kernel
theorem dX9_asksNow_81 : decode cX9_asksNow 81 = .ok (.iconst 1, 1) := by decide +kernel
theorem dX9_asksNow_82 : decode cX9_asksNow 82 = .ok (.iaload, 1) := by decide +kernel
theorem dX9_asksNow_83 : decode cX9_asksNow 83 = .ok (.if_icmp .ge 92, 3) := by decide +kernel
theorem dX9_asksNow_86 : decode cX9_asksNow 86 = .ok (.aload_n 0, 1) := by decide +kernel
theorem dX9_asksNow_87 : decode cX9_asksNow 87 = .ok (.iload_n 1, 1) := by decide +kernel
theorem dX9_asksNow_88 : decode cX9_asksNow 88 = .ok (.iload_n 3, 1) := by decide +kernel
theorem dX9_asksNow_89 : decode cX9_asksNow 89 = .ok (.invokevirtual 108, 3) := by decide +kernel
theorem dX9_asksNow_92 : decode cX9_asksNow 92 = .ok (.ifCond .ne 6, 3) := by decide +kernel
theorem dX9_asksNow_95 : decode cX9_asksNow 95 = .ok (.goto 74, 3) := by decide +kernel
theorem dX9_asksNow_98 : decode cX9_asksNow 98 = .ok (.aload_n 0, 1) := by decide +kernel
theorem dX9_asksNow_99 : decode cX9_asksNow 99 = .ok (.iload_n 3, 1) := by decide +kernel
theorem dX9_asksNow_100 : decode cX9_asksNow 100 = .ok (.iconst 1, 1) := by decide +kernel
theorem dX9_asksNow_101 : decode cX9_asksNow 101 = .ok (.invokevirtual 69, 3) := by decide +kernel
theorem dX9_asksNow_104 : decode cX9_asksNow 104 = .ok (.aload_n 0, 1) := by decide +kernel
theorem dX9_asksNow_105 : decode cX9_asksNow 105 = .ok (.iload_n 1, 1) := by decide +kernel
theorem dX9_asksNow_106 : decode cX9_asksNow 106 = .ok (.iconst 1, 1) := by decide +kernel
theorem dX9_asksNow_107 : decode cX9_asksNow 107 = .ok (.invokevirtual 69, 3) := by decide +kernel
theorem dX9_asksNow_110 : decode cX9_asksNow 110 = .ok (.if_icmp .le 16, 3) := by decide +kernel
theorem dX9_asksNow_113 : decode cX9_asksNow 113 = .ok (.aload_n 0, 1) := by decide +kernel
theorem dX9_asksNow_114 : decode cX9_asksNow 114 = .ok (.iload_n 1, 1) := by decide +kernel
theorem dX9_asksNow_115 : decode cX9_asksNow 115 = .ok (.aload_n 0, 1) := by decide +kernel
theorem dX9_asksNow_116 : decode cX9_asksNow 116 = .ok (.iload_n 3, 1) := by decide +kernel
theorem dX9_asksNow_117 : decode cX9_asksNow 117 = .ok (.iconst 1, 1) := by decide +kernel
theorem dX9_asksNow_118 : decode cX9_asksNow 118 = .ok (.invokevirtual 69, 3) := by decide +kernel
theorem dX9_asksNow_121 : decode cX9_asksNow 121 = .ok (.invokevirtual 112, 3) := by decide +kernel
theorem dX9_asksNow_124 : decode cX9_asksNow 124 = .ok (.iconst 0, 1) := by decide +kernel
theorem dX9_asksNow_125 : decode cX9_asksNow 125 = .ok (.ireturn, 1) := by decide +kernel
theorem dX9_asksNow_126 : decode cX9_asksNow 126 = .ok (.aload_n 0, 1) := by decide +kernel
theorem dX9_asksNow_127 : decode cX9_asksNow 127 = .ok (.iload_n 3, 1) := by decide +kernel
theorem dX9_asksNow_128 : decode cX9_asksNow 128 = .ok (.iconst 1, 1) := by decide +kernel
theorem dX9_asksNow_129 : decode cX9_asksNow 129 = .ok (.invokevirtual 69, 3) := by decide +kernel
theorem dX9_asksNow_132 : decode cX9_asksNow 132 = .ok (.aload_n 0, 1) := by decide +kernel
theorem dX9_asksNow_133 : decode cX9_asksNow 133 = .ok (.iload_n 1, 1) := by decide +kernel
theorem dX9_asksNow_134 : decode cX9_asksNow 134 = .ok (.iconst 1, 1) := by decide +kernel
theorem dX9_asksNow_135 : decode cX9_asksNow 135 = .ok (.invokevirtual 69, 3) := by decide +kernel
theorem dX9_asksNow_138 : decode cX9_asksNow 138 = .ok (.if_icmp .ge 14, 3) := by decide +kernel
theorem dX9_asksNow_141 : decode cX9_asksNow 141 = .ok (.aload_n 0, 1) := by decide +kernel
theorem dX9_asksNow_142 : decode cX9_asksNow 142 = .ok (.iload_n 3, 1) := by decide +kernel
theorem dX9_asksNow_143 : decode cX9_asksNow 143 = .ok (.aload_n 0, 1) := by decide +kernel
theorem dX9_asksNow_144 : decode cX9_asksNow 144 = .ok (.iload_n 1, 1) := by decide +kernel
theorem dX9_asksNow_145 : decode cX9_asksNow 145 = .ok (.iconst 1, 1) := by decide +kernel
theorem dX9_asksNow_146 : decode cX9_asksNow 146 = .ok (.invokevirtual 69, 3) := by decide +kernel
theorem dX9_asksNow_149 : decode cX9_asksNow 149 = .ok (.invokevirtual 112, 3) := by decide +kernel
theorem dX9_asksNow_152 : decode cX9_asksNow 152 = .ok (.iload_n 2, 1) := by decide +kernel
theorem dX9_asksNow_153 : decode cX9_asksNow 153 = .ok (.aload_n 0, 1) := by decide +kernel
theorem dX9_asksNow_154 : decode cX9_asksNow 154 = .ok (.iload_n 3, 1) := by decide +kernel
theorem dX9_asksNow_155 : decode cX9_asksNow 155 = .ok (.iload_n 1, 1) := by decide +kernel
theorem dX9_asksNow_156 : decode cX9_asksNow 156 = .ok (.invokevirtual 116, 3) := by decide +kernel
theorem dX9_asksNow_159 : decode cX9_asksNow 159 = .ok (.ifCond .eq 7, 3) := by decide +kernel
theorem dX9_asksNow_162 : decode cX9_asksNow 162 = .ok (.iconst 1, 1) := by decide +kernel
theorem dX9_asksNow_163 : decode cX9_asksNow 163 = .ok (.goto 4, 3) := by decide +kernel
theorem dX9_asksNow_166 : decode cX9_asksNow 166 = .ok (.iconst 0, 1) := by decide +kernel
theorem dX9_asksNow_167 : decode cX9_asksNow 167 = .ok (.iadd, 1) := by decide +kernel
theorem dX9_asksNow_168 : decode cX9_asksNow 168 = .ok (.istore_n 2, 1) := by decide +kernel
theorem dX9_asksNow_169 : decode cX9_asksNow 169 = .ok (.iinc 3 1, 3) := by decide +kernel
theorem dX9_asksNow_172 : decode cX9_asksNow 172 = .ok (.goto (-96), 3) := by decide +kernel
theorem dX9_asksNow_175 : decode cX9_asksNow 175 = .ok (.aload_n 0, 1) := by decide +kernel
theorem dX9_asksNow_176 : decode cX9_asksNow 176 = .ok (.iload_n 2, 1) := by decide +kernel
theorem dX9_asksNow_177 : decode cX9_asksNow 177 = .ok (.invokevirtual 119, 3) := by decide +kernel
theorem dX9_asksNow_180 : decode cX9_asksNow 180 = .ok (.ifCond .eq 36, 3) := by decide +kernel
theorem dX9_asksNow_183 : decode cX9_asksNow 183 = .ok (.aload_n 0, 1) := by decide +kernel
theorem dX9_asksNow_184 : decode cX9_asksNow 184 = .ok (.iload_n 1, 1) := by decide +kernel
theorem dX9_asksNow_185 : decode cX9_asksNow 185 = .ok (.iconst 0, 1) := by decide +kernel
theorem dX9_asksNow_186 : decode cX9_asksNow 186 = .ok (.iconst 2, 1) := by decide +kernel
theorem dX9_asksNow_187 : decode cX9_asksNow 187 = .ok (.invokevirtual 92, 3) := by decide +kernel
theorem dX9_asksNow_190 : decode cX9_asksNow 190 = .ok (.aload_n 0, 1) := by decide +kernel
theorem dX9_asksNow_191 : decode cX9_asksNow 191 = .ok (.iload_n 1, 1) := by decide +kernel
theorem dX9_asksNow_192 : decode cX9_asksNow 192 = .ok (.bipush 9, 2) := by decide +kernel
theorem dX9_asksNow_194 : decode cX9_asksNow 194 = .ok (.aload_n 0, 1) := by decide +kernel
theorem dX9_asksNow_195 : decode cX9_asksNow 195 = .ok (.iload_n 1, 1) := by decide +kernel
theorem dX9_asksNow_196 : decode cX9_asksNow 196 = .ok (.bipush 9, 2) := by decide +kernel
theorem dX9_asksNow_198 : decode cX9_asksNow 198 = .ok (.invokevirtual 69, 3) := by decide +kernel
theorem dX9_asksNow_201 : decode cX9_asksNow 201 = .ok (.iconst 1, 1) := by decide +kernel
theorem dX9_asksNow_202 : decode cX9_asksNow 202 = .ok (.iadd, 1) := by decide +kernel
theorem dX9_asksNow_203 : decode cX9_asksNow 203 = .ok (.invokevirtual 92, 3) := by decide +kernel
theorem dX9_asksNow_206 : decode cX9_asksNow 206 = .ok (.aload_n 0, 1) := by decide +kernel
theorem dX9_asksNow_207 : decode cX9_asksNow 207 = .ok (.getfield 9, 3) := by decide +kernel
theorem dX9_asksNow_210 : decode cX9_asksNow 210 = .ok (.iconst 3, 1) := by decide +kernel
theorem dX9_asksNow_211 : decode cX9_asksNow 211 = .ok (.dup2, 1) := by decide +kernel
theorem dX9_asksNow_212 : decode cX9_asksNow 212 = .ok (.iaload, 1) := by decide +kernel
theorem dX9_asksNow_213 : decode cX9_asksNow 213 = .ok (.iconst 1, 1) := by decide +kernel
theorem dX9_asksNow_214 : decode cX9_asksNow 214 = .ok (.iadd, 1) := by decide +kernel
theorem dX9_asksNow_215 : decode cX9_asksNow 215 = .ok (.iastore, 1) := by decide +kernel
theorem dX9_asksNow_216 : decode cX9_asksNow 216 = .ok (.iload_n 2, 1) := by decide +kernel
theorem dX9_asksNow_217 : decode cX9_asksNow 217 = .ok (.ireturn, 1) := by decide +kernel
theorem dX9_isWashed_0 : decode cX9_isWashed 0 = .ok (.aload_n 0, 1) := by decide +kernel
theorem dX9_isWashed_1 : decode cX9_isWashed 1 = .ok (.aload_n 0, 1) := by decide +kernel
theorem dX9_isWashed_2 : decode cX9_isWashed 2 = .ok (.iload_n 1, 1) := by decide +kernel
theorem dX9_isWashed_3 : decode cX9_isWashed 3 = .ok (.invokevirtual 78, 3) := by decide +kernel
theorem dX9_isWashed_6 : decode cX9_isWashed 6 = .ok (.ifCond .ne 7, 3) := by decide +kernel
theorem dX9_isWashed_9 : decode cX9_isWashed 9 = .ok (.iconst 1, 1) := by decide +kernel
theorem dX9_isWashed_10 : decode cX9_isWashed 10 = .ok (.goto 4, 3) := by decide +kernel
theorem dX9_isWashed_13 : decode cX9_isWashed 13 = .ok (.iconst 0, 1) := by decide +kernel
theorem dX9_isWashed_14 : decode cX9_isWashed 14 = .ok (.iconst 2, 1) := by decide +kernel
theorem dX9_isWashed_15 : decode cX9_isWashed 15 = .ok (.iload_n 1, 1) := by decide +kernel
theorem dX9_isWashed_16 : decode cX9_isWashed 16 = .ok (.invokevirtual 88, 3) := by decide +kernel
theorem dX9_isWashed_19 : decode cX9_isWashed 19 = .ok (.ireturn, 1) := by decide +kernel
theorem dX9_asks_0 : decode cX9_asks 0 = .ok (.aload_n 0, 1) := by decide +kernel
theorem dX9_asks_1 : decode cX9_asks 1 = .ok (.iload_n 1, 1) := by decide +kernel
theorem dX9_asks_2 : decode cX9_asks 2 = .ok (.invokevirtual 65, 3) := by decide +kernel
theorem dX9_asks_5 : decode cX9_asks 5 = .ok (.ifCond .ne 5, 3) := by decide +kernel
theorem dX9_asks_8 : decode cX9_asks 8 = .ok (.iconst (-1), 1) := by decide +kernel
theorem dX9_asks_9 : decode cX9_asks 9 = .ok (.ireturn, 1) := by decide +kernel
theorem dX9_asks_10 : decode cX9_asks 10 = .ok (.aload_n 0, 1) := by decide +kernel
theorem dX9_asks_11 : decode cX9_asks 11 = .ok (.iload_n 1, 1) := by decide +kernel
theorem dX9_asks_12 : decode cX9_asks 12 = .ok (.invokevirtual 122, 3) := by decide +kernel
theorem dX9_asks_15 : decode cX9_asks 15 = .ok (.ifCond .ne 32, 3) := by decide +kernel
theorem dX9_asks_18 : decode cX9_asks 18 = .ok (.aload_n 0, 1) := by decide +kernel
theorem dX9_asks_19 : decode cX9_asks 19 = .ok (.aload_n 0, 1) := by decide +kernel
theorem dX9_asks_20 : decode cX9_asks 20 = .ok (.iload_n 1, 1) := by decide +kernel
theorem dX9_asks_21 : decode cX9_asks 21 = .ok (.iconst 0, 1) := by decide +kernel
theorem dX9_asks_22 : decode cX9_asks 22 = .ok (.invokevirtual 69, 3) := by decide +kernel
theorem dX9_asks_25 : decode cX9_asks 25 = .ok (.iconst 2, 1) := by decide +kernel
theorem dX9_asks_26 : decode cX9_asks 26 = .ok (.if_icmp .ne 7, 3) := by decide +kernel
theorem dX9_asks_29 : decode cX9_asks 29 = .ok (.iconst 1, 1) := by decide +kernel
theorem dX9_asks_30 : decode cX9_asks 30 = .ok (.goto 4, 3) := by decide +kernel
theorem dX9_asks_33 : decode cX9_asks 33 = .ok (.iconst 0, 1) := by decide +kernel
theorem dX9_asks_34 : decode cX9_asks 34 = .ok (.iconst 3, 1) := by decide +kernel
theorem dX9_asks_35 : decode cX9_asks 35 = .ok (.aload_n 0, 1) := by decide +kernel
theorem dX9_asks_36 : decode cX9_asks 36 = .ok (.iload_n 1, 1) := by decide +kernel
theorem dX9_asks_37 : decode cX9_asks 37 = .ok (.iconst 1, 1) := by decide +kernel
theorem dX9_asks_38 : decode cX9_asks 38 = .ok (.invokevirtual 69, 3) := by decide +kernel
theorem dX9_asks_41 : decode cX9_asks 41 = .ok (.invokevirtual 88, 3) := by decide +kernel
theorem dX9_asks_44 : decode cX9_asks 44 = .ok (.ifCond .eq 6, 3) := by decide +kernel
theorem dX9_asks_47 : decode cX9_asks 47 = .ok (.bipush (-3), 2) := by decide +kernel
theorem dX9_asks_49 : decode cX9_asks 49 = .ok (.ireturn, 1) := by decide +kernel
theorem dX9_asks_50 : decode cX9_asks 50 = .ok (.aload_n 0, 1) := by decide +kernel
theorem dX9_asks_51 : decode cX9_asks 51 = .ok (.iload_n 1, 1) := by decide +kernel
theorem dX9_asks_52 : decode cX9_asks 52 = .ok (.invokevirtual 125, 3) := by decide +kernel
theorem dX9_asks_55 : decode cX9_asks 55 = .ok (.ireturn, 1) := by decide +kernel
theorem dX9_ask_0 : decode cX9_ask 0 = .ok (.aload_n 0, 1) := by decide +kernel
theorem dX9_ask_1 : decode cX9_ask 1 = .ok (.invokevirtual 96, 3) := by decide +kernel
theorem dX9_ask_4 : decode cX9_ask 4 = .ok (.aload_n 0, 1) := by decide +kernel
theorem dX9_ask_5 : decode cX9_ask 5 = .ok (.aload_n 0, 1) := by decide +kernel
theorem dX9_ask_6 : decode cX9_ask 6 = .ok (.iload_n 1, 1) := by decide +kernel
theorem dX9_ask_7 : decode cX9_ask 7 = .ok (.invokevirtual 128, 3) := by decide +kernel
theorem dX9_ask_10 : decode cX9_ask 10 = .ok (.invokevirtual 102, 3) := by decide +kernel
theorem dX9_ask_13 : decode cX9_ask 13 = .ok (.ireturn, 1) := by decide +kernel
theorem dX9_gets_0 : decode cX9_gets 0 = .ok (.aload_n 0, 1) := by decide +kernel
theorem dX9_gets_1 : decode cX9_gets 1 = .ok (.iload_n 1, 1) := by decide +kernel
theorem dX9_gets_2 : decode cX9_gets 2 = .ok (.iconst 1, 1) := by decide +kernel
theorem dX9_gets_3 : decode cX9_gets 3 = .ok (.invokevirtual 69, 3) := by decide +kernel
theorem dX9_gets_6 : decode cX9_gets 6 = .ok (.aload_n 0, 1) := by decide +kernel
theorem dX9_gets_7 : decode cX9_gets 7 = .ok (.iload_n 2, 1) := by decide +kernel
theorem dX9_gets_8 : decode cX9_gets 8 = .ok (.iconst 1, 1) := by decide +kernel
theorem dX9_gets_9 : decode cX9_gets 9 = .ok (.invokevirtual 69, 3) := by decide +kernel
theorem dX9_gets_12 : decode cX9_gets 12 = .ok (.if_icmp .ge 14, 3) := by decide +kernel
theorem dX9_gets_15 : decode cX9_gets 15 = .ok (.aload_n 0, 1) := by decide +kernel
theorem dX9_gets_16 : decode cX9_gets 16 = .ok (.iload_n 1, 1) := by decide +kernel
theorem dX9_gets_17 : decode cX9_gets 17 = .ok (.aload_n 0, 1) := by decide +kernel
theorem dX9_gets_18 : decode cX9_gets 18 = .ok (.iload_n 2, 1) := by decide +kernel
theorem dX9_gets_19 : decode cX9_gets 19 = .ok (.iconst 1, 1) := by decide +kernel
theorem dX9_gets_20 : decode cX9_gets 20 = .ok (.invokevirtual 69, 3) := by decide +kernel
theorem dX9_gets_23 : decode cX9_gets 23 = .ok (.invokevirtual 112, 3) := by decide +kernel
theorem dX9_gets_26 : decode cX9_gets 26 = .ok (.aload_n 0, 1) := by decide +kernel
theorem dX9_gets_27 : decode cX9_gets 27 = .ok (.iload_n 1, 1) := by decide +kernel
theorem dX9_gets_28 : decode cX9_gets 28 = .ok (.iconst 0, 1) := by decide +kernel
theorem dX9_gets_29 : decode cX9_gets 29 = .ok (.iconst 0, 1) := by decide +kernel
theorem dX9_gets_30 : decode cX9_gets 30 = .ok (.invokevirtual 92, 3) := by decide +kernel
theorem dX9_gets_33 : decode cX9_gets 33 = .ok (.aload_n 0, 1) := by decide +kernel
theorem dX9_gets_34 : decode cX9_gets 34 = .ok (.iload_n 1, 1) := by decide +kernel
theorem dX9_gets_35 : decode cX9_gets 35 = .ok (.iconst 3, 1) := by decide +kernel
theorem dX9_gets_36 : decode cX9_gets 36 = .ok (.iconst 0, 1) := by decide +kernel
theorem dX9_gets_37 : decode cX9_gets 37 = .ok (.invokevirtual 92, 3) := by decide +kernel
theorem dX9_gets_40 : decode cX9_gets 40 = .ok (.aload_n 0, 1) := by decide +kernel
theorem dX9_gets_41 : decode cX9_gets 41 = .ok (.iload_n 1, 1) := by decide +kernel
theorem dX9_gets_42 : decode cX9_gets 42 = .ok (.iload_n 2, 1) := by decide +kernel
theorem dX9_gets_43 : decode cX9_gets 43 = .ok (.invokevirtual 131, 3) := by decide +kernel
theorem dX9_gets_46 : decode cX9_gets 46 = .ok (.istore_n 3, 1) := by decide +kernel
theorem dX9_gets_47 : decode cX9_gets 47 = .ok (.aload_n 0, 1) := by decide +kernel
theorem dX9_gets_48 : decode cX9_gets 48 = .ok (.iload_n 2, 1) := by decide +kernel
theorem dX9_gets_49 : decode cX9_gets 49 = .ok (.iconst 5, 1) := by decide +kernel
theorem dX9_gets_50 : decode cX9_gets 50 = .ok (.invokevirtual 69, 3) := by decide +kernel
theorem dX9_gets_53 : decode cX9_gets 53 = .ok (.iload_n 3, 1) := by decide +kernel
theorem dX9_gets_54 : decode cX9_gets 54 = .ok (.if_icmp .le 124, 3) := by decide +kernel
theorem dX9_gets_57 : decode cX9_gets 57 = .ok (.aload_n 0, 1) := by decide +kernel
theorem dX9_gets_58 : decode cX9_gets 58 = .ok (.getfield 9, 3) := by decide +kernel
theorem dX9_gets_61 : decode cX9_gets 61 = .ok (.iconst 5, 1) := by decide +kernel
theorem dX9_gets_62 : decode cX9_gets 62 = .ok (.dup2, 1) := by decide +kernel
theorem dX9_gets_63 : decode cX9_gets 63 = .ok (.iaload, 1) := by decide +kernel
theorem dX9_gets_64 : decode cX9_gets 64 = .ok (.aload_n 0, 1) := by decide +kernel
theorem dX9_gets_65 : decode cX9_gets 65 = .ok (.iload_n 1, 1) := by decide +kernel
theorem dX9_gets_66 : decode cX9_gets 66 = .ok (.iconst 5, 1) := by decide +kernel
theorem dX9_gets_67 : decode cX9_gets 67 = .ok (.invokevirtual 69, 3) := by decide +kernel
theorem dX9_gets_70 : decode cX9_gets 70 = .ok (.iload_n 3, 1) := by decide +kernel
theorem dX9_gets_71 : decode cX9_gets 71 = .ok (.isub, 1) := by decide +kernel
theorem dX9_gets_72 : decode cX9_gets 72 = .ok (.iadd, 1) := by decide +kernel
theorem dX9_gets_73 : decode cX9_gets 73 = .ok (.iastore, 1) := by decide +kernel
theorem dX9_gets_74 : decode cX9_gets 74 = .ok (.iconst 0, 1) := by decide +kernel
theorem dX9_gets_75 : decode cX9_gets 75 = .ok (.istore 4, 2) := by decide +kernel
theorem dX9_gets_77 : decode cX9_gets 77 = .ok (.iload 4, 2) := by decide +kernel
theorem dX9_gets_79 : decode cX9_gets 79 = .ok (.bipush 12, 2) := by decide +kernel
theorem dX9_gets_81 : decode cX9_gets 81 = .ok (.if_icmp .ge 85, 3) := by decide +kernel
theorem dX9_gets_84 : decode cX9_gets 84 = .ok (.iload 4, 2) := by decide +kernel
theorem dX9_gets_86 : decode cX9_gets 86 = .ok (.aload_n 0, 1) := by decide +kernel
theorem dX9_gets_87 : decode cX9_gets 87 = .ok (.iload_n 2, 1) := by decide +kernel
theorem dX9_gets_88 : decode cX9_gets 88 = .ok (.iconst 5, 1) := by decide +kernel
theorem dX9_gets_89 : decode cX9_gets 89 = .ok (.invokevirtual 69, 3) := by decide +kernel
theorem dX9_gets_92 : decode cX9_gets 92 = .ok (.if_icmp .ge 7, 3) := by decide +kernel
theorem dX9_gets_95 : decode cX9_gets 95 = .ok (.iconst 1, 1) := by decide +kernel
theorem dX9_gets_96 : decode cX9_gets 96 = .ok (.goto 4, 3) := by decide +kernel
theorem dX9_gets_99 : decode cX9_gets 99 = .ok (.iconst 0, 1) := by decide +kernel
theorem dX9_gets_100 : decode cX9_gets 100 = .ok (.istore 5, 2) := by decide +kernel
theorem dX9_gets_102 : decode cX9_gets 102 = .ok (.aload_n 0, 1) := by decide +kernel
theorem dX9_gets_103 : decode cX9_gets 103 = .ok (.iload_n 1, 1) := by decide +kernel
theorem dX9_gets_104 : decode cX9_gets 104 = .ok (.bipush 10, 2) := by decide +kernel
theorem dX9_gets_106 : decode cX9_gets 106 = .ok (.iload 4, 2) := by decide +kernel
theorem dX9_gets_108 : decode cX9_gets 108 = .ok (.iadd, 1) := by decide +kernel
theorem dX9_gets_109 : decode cX9_gets 109 = .ok (.iload 5, 2) := by decide +kernel
theorem dX9_gets_111 : decode cX9_gets 111 = .ok (.ifCond .eq 16, 3) := by decide +kernel
theorem dX9_gets_114 : decode cX9_gets 114 = .ok (.aload_n 0, 1) := by decide +kernel
theorem dX9_gets_115 : decode cX9_gets 115 = .ok (.iload_n 2, 1) := by decide +kernel
theorem dX9_gets_116 : decode cX9_gets 116 = .ok (.bipush 10, 2) := by decide +kernel
theorem dX9_gets_118 : decode cX9_gets 118 = .ok (.iload 4, 2) := by decide +kernel
theorem dX9_gets_120 : decode cX9_gets 120 = .ok (.iadd, 1) := by decide +kernel
theorem dX9_gets_121 : decode cX9_gets 121 = .ok (.invokevirtual 69, 3) := by decide +kernel
theorem dX9_gets_124 : decode cX9_gets 124 = .ok (.goto 4, 3) := by decide +kernel
theorem dX9_gets_127 : decode cX9_gets 127 = .ok (.iconst 0, 1) := by decide +kernel
theorem dX9_gets_128 : decode cX9_gets 128 = .ok (.invokevirtual 92, 3) := by decide +kernel
theorem dX9_gets_131 : decode cX9_gets 131 = .ok (.aload_n 0, 1) := by decide +kernel
theorem dX9_gets_132 : decode cX9_gets 132 = .ok (.iload_n 1, 1) := by decide +kernel
theorem dX9_gets_133 : decode cX9_gets 133 = .ok (.bipush 22, 2) := by decide +kernel
theorem dX9_gets_135 : decode cX9_gets 135 = .ok (.iload 4, 2) := by decide +kernel
theorem dX9_gets_137 : decode cX9_gets 137 = .ok (.iadd, 1) := by decide +kernel
theorem dX9_gets_138 : decode cX9_gets 138 = .ok (.iload 5, 2) := by decide +kernel
theorem dX9_gets_140 : decode cX9_gets 140 = .ok (.ifCond .eq 16, 3) := by decide +kernel
theorem dX9_gets_143 : decode cX9_gets 143 = .ok (.aload_n 0, 1) := by decide +kernel
theorem dX9_gets_144 : decode cX9_gets 144 = .ok (.iload_n 2, 1) := by decide +kernel
theorem dX9_gets_145 : decode cX9_gets 145 = .ok (.bipush 22, 2) := by decide +kernel
theorem dX9_gets_147 : decode cX9_gets 147 = .ok (.iload 4, 2) := by decide +kernel
theorem dX9_gets_149 : decode cX9_gets 149 = .ok (.iadd, 1) := by decide +kernel
theorem dX9_gets_150 : decode cX9_gets 150 = .ok (.invokevirtual 69, 3) := by decide +kernel
theorem dX9_gets_153 : decode cX9_gets 153 = .ok (.goto 4, 3) := by decide +kernel
theorem dX9_gets_156 : decode cX9_gets 156 = .ok (.iconst 0, 1) := by decide +kernel
theorem dX9_gets_157 : decode cX9_gets 157 = .ok (.invokevirtual 92, 3) := by decide +kernel
theorem dX9_gets_160 : decode cX9_gets 160 = .ok (.iinc 4 1, 3) := by decide +kernel
theorem dX9_gets_163 : decode cX9_gets 163 = .ok (.goto (-86), 3) := by decide +kernel
theorem dX9_gets_166 : decode cX9_gets 166 = .ok (.aload_n 0, 1) := by decide +kernel
theorem dX9_gets_167 : decode cX9_gets 167 = .ok (.iload_n 1, 1) := by decide +kernel
theorem dX9_gets_168 : decode cX9_gets 168 = .ok (.iconst 5, 1) := by decide +kernel
theorem dX9_gets_169 : decode cX9_gets 169 = .ok (.aload_n 0, 1) := by decide +kernel
theorem dX9_gets_170 : decode cX9_gets 170 = .ok (.iload_n 2, 1) := by decide +kernel
theorem dX9_gets_171 : decode cX9_gets 171 = .ok (.iconst 5, 1) := by decide +kernel
theorem dX9_gets_172 : decode cX9_gets 172 = .ok (.invokevirtual 69, 3) := by decide +kernel
theorem dX9_gets_175 : decode cX9_gets 175 = .ok (.invokevirtual 92, 3) := by decide +kernel
theorem dX9_gets_178 : decode cX9_gets 178 = .ok (.aload_n 0, 1) := by decide +kernel
theorem dX9_gets_179 : decode cX9_gets 179 = .ok (.iload_n 2, 1) := by decide +kernel
theorem dX9_gets_180 : decode cX9_gets 180 = .ok (.bipush 6, 2) := by decide +kernel
theorem dX9_gets_182 : decode cX9_gets 182 = .ok (.invokevirtual 69, 3) := by decide +kernel
theorem dX9_gets_185 : decode cX9_gets 185 = .ok (.aload_n 0, 1) := by decide +kernel
theorem dX9_gets_186 : decode cX9_gets 186 = .ok (.iload_n 1, 1) := by decide +kernel
theorem dX9_gets_187 : decode cX9_gets 187 = .ok (.iconst 5, 1) := by decide +kernel
theorem dX9_gets_188 : decode cX9_gets 188 = .ok (.invokevirtual 69, 3) := by decide +kernel
theorem dX9_gets_191 : decode cX9_gets 191 = .ok (.invokestatic 72, 3) := by decide +kernel
theorem dX9_gets_194 : decode cX9_gets 194 = .ok (.istore 4, 2) := by decide +kernel
theorem dX9_gets_196 : decode cX9_gets 196 = .ok (.aload_n 0, 1) := by decide +kernel
theorem dX9_gets_197 : decode cX9_gets 197 = .ok (.iload_n 1, 1) := by decide +kernel
theorem dX9_gets_198 : decode cX9_gets 198 = .ok (.bipush 6, 2) := by decide +kernel
theorem dX9_gets_200 : decode cX9_gets 200 = .ok (.aload_n 0, 1) := by decide +kernel
theorem dX9_gets_201 : decode cX9_gets 201 = .ok (.iload_n 1, 1) := by decide +kernel
theorem dX9_gets_202 : decode cX9_gets 202 = .ok (.bipush 6, 2) := by decide +kernel
theorem dX9_gets_204 : decode cX9_gets 204 = .ok (.invokevirtual 69, 3) := by decide +kernel
theorem dX9_gets_207 : decode cX9_gets 207 = .ok (.iload 4, 2) := by decide +kernel
theorem dX9_gets_209 : decode cX9_gets 209 = .ok (.invokestatic 75, 3) := by decide +kernel
theorem dX9_gets_212 : decode cX9_gets 212 = .ok (.invokevirtual 92, 3) := by decide +kernel
theorem dX9_gets_215 : decode cX9_gets 215 = .ok (.return_, 1) := by decide +kernel
theorem dX9_lastOwn_0 : decode cX9_lastOwn 0 = .ok (.aload_n 0, 1) := by decide +kernel
theorem dX9_lastOwn_1 : decode cX9_lastOwn 1 = .ok (.iload_n 1, 1) := by decide +kernel
theorem dX9_lastOwn_2 : decode cX9_lastOwn 2 = .ok (.iconst 5, 1) := by decide +kernel
theorem dX9_lastOwn_3 : decode cX9_lastOwn 3 = .ok (.invokevirtual 69, 3) := by decide +kernel
theorem dX9_lastOwn_6 : decode cX9_lastOwn 6 = .ok (.istore_n 2, 1) := by decide +kernel
theorem dX9_lastOwn_7 : decode cX9_lastOwn 7 = .ok (.iload_n 2, 1) := by decide +kernel
theorem dX9_lastOwn_8 : decode cX9_lastOwn 8 = .ok (.ifCond .le 29, 3) := by decide +kernel
theorem dX9_lastOwn_11 : decode cX9_lastOwn 11 = .ok (.aload_n 0, 1) := by decide +kernel
theorem dX9_lastOwn_12 : decode cX9_lastOwn 12 = .ok (.iload_n 1, 1) := by decide +kernel
theorem dX9_lastOwn_13 : decode cX9_lastOwn 13 = .ok (.bipush 10, 2) := by decide +kernel
theorem dX9_lastOwn_15 : decode cX9_lastOwn 15 = .ok (.iload_n 2, 1) := by decide +kernel
theorem dX9_lastOwn_16 : decode cX9_lastOwn 16 = .ok (.iadd, 1) := by decide +kernel
theorem dX9_lastOwn_17 : decode cX9_lastOwn 17 = .ok (.iconst 1, 1) := by decide +kernel
theorem dX9_lastOwn_18 : decode cX9_lastOwn 18 = .ok (.isub, 1) := by decide +kernel
theorem dX9_lastOwn_19 : decode cX9_lastOwn 19 = .ok (.invokevirtual 69, 3) := by decide +kernel
theorem dX9_lastOwn_22 : decode cX9_lastOwn 22 = .ok (.aload_n 0, 1) := by decide +kernel
theorem dX9_lastOwn_23 : decode cX9_lastOwn 23 = .ok (.iload_n 1, 1) := by decide +kernel
theorem dX9_lastOwn_24 : decode cX9_lastOwn 24 = .ok (.iconst 1, 1) := by decide +kernel
theorem dX9_lastOwn_25 : decode cX9_lastOwn 25 = .ok (.invokevirtual 69, 3) := by decide +kernel
theorem dX9_lastOwn_28 : decode cX9_lastOwn 28 = .ok (.if_icmp .eq 9, 3) := by decide +kernel
theorem dX9_lastOwn_31 : decode cX9_lastOwn 31 = .ok (.iinc 2 (-1), 3) := by decide +kernel
theorem dX9_lastOwn_34 : decode cX9_lastOwn 34 = .ok (.goto (-27), 3) := by decide +kernel
theorem dX9_lastOwn_37 : decode cX9_lastOwn 37 = .ok (.iload_n 2, 1) := by decide +kernel
theorem dX9_lastOwn_38 : decode cX9_lastOwn 38 = .ok (.ireturn, 1) := by decide +kernel
theorem dX9_sendsNow_0 : decode cX9_sendsNow 0 = .ok (.aload_n 0, 1) := by decide +kernel
theorem dX9_sendsNow_1 : decode cX9_sendsNow 1 = .ok (.getfield 9, 3) := by decide +kernel
theorem dX9_sendsNow_4 : decode cX9_sendsNow 4 = .ok (.bipush 6, 2) := by decide +kernel
theorem dX9_sendsNow_6 : decode cX9_sendsNow 6 = .ok (.dup2, 1) := by decide +kernel
theorem dX9_sendsNow_7 : decode cX9_sendsNow 7 = .ok (.iaload, 1) := by decide +kernel
theorem dX9_sendsNow_8 : decode cX9_sendsNow 8 = .ok (.iconst 1, 1) := by decide +kernel
theorem dX9_sendsNow_9 : decode cX9_sendsNow 9 = .ok (.iadd, 1) := by decide +kernel
theorem dX9_sendsNow_10 : decode cX9_sendsNow 10 = .ok (.iastore, 1) := by decide +kernel
theorem dX9_sendsNow_11 : decode cX9_sendsNow 11 = .ok (.iconst 1, 1) := by decide +kernel
theorem dX9_sendsNow_12 : decode cX9_sendsNow 12 = .ok (.istore_n 2, 1) := by decide +kernel
theorem dX9_sendsNow_13 : decode cX9_sendsNow 13 = .ok (.iconst 0, 1) := by decide +kernel
theorem dX9_sendsNow_14 : decode cX9_sendsNow 14 = .ok (.istore_n 3, 1) := by decide +kernel
theorem dX9_sendsNow_15 : decode cX9_sendsNow 15 = .ok (.iload_n 3, 1) := by decide +kernel
theorem dX9_sendsNow_16 : decode cX9_sendsNow 16 = .ok (.aload_n 0, 1) := by decide +kernel
theorem dX9_sendsNow_17 : decode cX9_sendsNow 17 = .ok (.getfield 9, 3) := by decide +kernel
theorem dX9_sendsNow_20 : decode cX9_sendsNow 20 = .ok (.iconst 1, 1) := by decide +kernel
theorem dX9_sendsNow_21 : decode cX9_sendsNow 21 = .ok (.iaload, 1) := by decide +kernel
theorem dX9_sendsNow_22 : decode cX9_sendsNow 22 = .ok (.if_icmp .ge 58, 3) := by decide +kernel
theorem dX9_sendsNow_25 : decode cX9_sendsNow 25 = .ok (.aload_n 0, 1) := by decide +kernel
theorem dX9_sendsNow_26 : decode cX9_sendsNow 26 = .ok (.iload_n 1, 1) := by decide +kernel
theorem dX9_sendsNow_27 : decode cX9_sendsNow 27 = .ok (.iload_n 3, 1) := by decide +kernel
theorem dX9_sendsNow_28 : decode cX9_sendsNow 28 = .ok (.invokevirtual 108, 3) := by decide +kernel
theorem dX9_sendsNow_31 : decode cX9_sendsNow 31 = .ok (.ifCond .ne 6, 3) := by decide +kernel
theorem dX9_sendsNow_34 : decode cX9_sendsNow 34 = .ok (.goto 40, 3) := by decide +kernel
theorem dX9_sendsNow_37 : decode cX9_sendsNow 37 = .ok (.aload_n 0, 1) := by decide +kernel
theorem dX9_sendsNow_38 : decode cX9_sendsNow 38 = .ok (.iload_n 3, 1) := by decide +kernel
theorem dX9_sendsNow_39 : decode cX9_sendsNow 39 = .ok (.iconst 1, 1) := by decide +kernel
theorem dX9_sendsNow_40 : decode cX9_sendsNow 40 = .ok (.invokevirtual 69, 3) := by decide +kernel
theorem dX9_sendsNow_43 : decode cX9_sendsNow 43 = .ok (.aload_n 0, 1) := by decide +kernel
theorem dX9_sendsNow_44 : decode cX9_sendsNow 44 = .ok (.iload_n 1, 1) := by decide +kernel
theorem dX9_sendsNow_45 : decode cX9_sendsNow 45 = .ok (.iconst 1, 1) := by decide +kernel
theorem dX9_sendsNow_46 : decode cX9_sendsNow 46 = .ok (.invokevirtual 69, 3) := by decide +kernel
theorem dX9_sendsNow_49 : decode cX9_sendsNow 49 = .ok (.if_icmp .le 16, 3) := by decide +kernel
theorem dX9_sendsNow_52 : decode cX9_sendsNow 52 = .ok (.aload_n 0, 1) := by decide +kernel
theorem dX9_sendsNow_53 : decode cX9_sendsNow 53 = .ok (.iload_n 1, 1) := by decide +kernel
theorem dX9_sendsNow_54 : decode cX9_sendsNow 54 = .ok (.aload_n 0, 1) := by decide +kernel
theorem dX9_sendsNow_55 : decode cX9_sendsNow 55 = .ok (.iload_n 3, 1) := by decide +kernel
theorem dX9_sendsNow_56 : decode cX9_sendsNow 56 = .ok (.iconst 1, 1) := by decide +kernel
theorem dX9_sendsNow_57 : decode cX9_sendsNow 57 = .ok (.invokevirtual 69, 3) := by decide +kernel
theorem dX9_sendsNow_60 : decode cX9_sendsNow 60 = .ok (.invokevirtual 112, 3) := by decide +kernel
theorem dX9_sendsNow_63 : decode cX9_sendsNow 63 = .ok (.iconst 0, 1) := by decide +kernel
theorem dX9_sendsNow_64 : decode cX9_sendsNow 64 = .ok (.ireturn, 1) := by decide +kernel
theorem dX9_sendsNow_65 : decode cX9_sendsNow 65 = .ok (.aload_n 0, 1) := by decide +kernel
theorem dX9_sendsNow_66 : decode cX9_sendsNow 66 = .ok (.iload_n 3, 1) := by decide +kernel
theorem dX9_sendsNow_67 : decode cX9_sendsNow 67 = .ok (.iload_n 1, 1) := by decide +kernel
theorem dX9_sendsNow_68 : decode cX9_sendsNow 68 = .ok (.invokevirtual 134, 3) := by decide +kernel
theorem dX9_sendsNow_71 : decode cX9_sendsNow 71 = .ok (.iinc 2 1, 3) := by decide +kernel
theorem dX9_sendsNow_74 : decode cX9_sendsNow 74 = .ok (.iinc 3 1, 3) := by decide +kernel
theorem dX9_sendsNow_77 : decode cX9_sendsNow 77 = .ok (.goto (-62), 3) := by decide +kernel
theorem dX9_sendsNow_80 : decode cX9_sendsNow 80 = .ok (.aload_n 0, 1) := by decide +kernel
theorem dX9_sendsNow_81 : decode cX9_sendsNow 81 = .ok (.iload_n 2, 1) := by decide +kernel
theorem dX9_sendsNow_82 : decode cX9_sendsNow 82 = .ok (.invokevirtual 119, 3) := by decide +kernel
theorem dX9_sendsNow_85 : decode cX9_sendsNow 85 = .ok (.ifCond .eq 25, 3) := by decide +kernel
theorem dX9_sendsNow_88 : decode cX9_sendsNow 88 = .ok (.aload_n 0, 1) := by decide +kernel
theorem dX9_sendsNow_89 : decode cX9_sendsNow 89 = .ok (.iload_n 1, 1) := by decide +kernel
theorem dX9_sendsNow_90 : decode cX9_sendsNow 90 = .ok (.bipush 6, 2) := by decide +kernel
theorem dX9_sendsNow_92 : decode cX9_sendsNow 92 = .ok (.aload_n 0, 1) := by decide +kernel
theorem dX9_sendsNow_93 : decode cX9_sendsNow 93 = .ok (.iload_n 1, 1) := by decide +kernel
theorem dX9_sendsNow_94 : decode cX9_sendsNow 94 = .ok (.bipush 6, 2) := by decide +kernel
theorem dX9_sendsNow_96 : decode cX9_sendsNow 96 = .ok (.invokevirtual 69, 3) := by decide +kernel
theorem dX9_sendsNow_99 : decode cX9_sendsNow 99 = .ok (.aload_n 0, 1) := by decide +kernel
theorem dX9_sendsNow_100 : decode cX9_sendsNow 100 = .ok (.iload_n 1, 1) := by decide +kernel
theorem dX9_sendsNow_101 : decode cX9_sendsNow 101 = .ok (.invokevirtual 137, 3) := by decide +kernel
theorem dX9_sendsNow_104 : decode cX9_sendsNow 104 = .ok (.invokestatic 75, 3) := by decide +kernel
theorem dX9_sendsNow_107 : decode cX9_sendsNow 107 = .ok (.invokevirtual 92, 3) := by decide +kernel
theorem dX9_sendsNow_110 : decode cX9_sendsNow 110 = .ok (.iload_n 2, 1) := by decide +kernel
theorem dX9_sendsNow_111 : decode cX9_sendsNow 111 = .ok (.ireturn, 1) := by decide +kernel
theorem dX9_isNoLeader_0 : decode cX9_isNoLeader 0 = .ok (.aload_n 0, 1) := by decide +kernel
theorem dX9_isNoLeader_1 : decode cX9_isNoLeader 1 = .ok (.iload_n 1, 1) := by decide +kernel
theorem dX9_isNoLeader_2 : decode cX9_isNoLeader 2 = .ok (.invokevirtual 122, 3) := by decide +kernel
theorem dX9_isNoLeader_5 : decode cX9_isNoLeader 5 = .ok (.ifCond .ne 32, 3) := by decide +kernel
theorem dX9_isNoLeader_8 : decode cX9_isNoLeader 8 = .ok (.aload_n 0, 1) := by decide +kernel
theorem dX9_isNoLeader_9 : decode cX9_isNoLeader 9 = .ok (.aload_n 0, 1) := by decide +kernel
theorem dX9_isNoLeader_10 : decode cX9_isNoLeader 10 = .ok (.iload_n 1, 1) := by decide +kernel
theorem dX9_isNoLeader_11 : decode cX9_isNoLeader 11 = .ok (.iconst 0, 1) := by decide +kernel
theorem dX9_isNoLeader_12 : decode cX9_isNoLeader 12 = .ok (.invokevirtual 69, 3) := by decide +kernel
theorem dX9_isNoLeader_15 : decode cX9_isNoLeader 15 = .ok (.iconst 2, 1) := by decide +kernel
theorem dX9_isNoLeader_16 : decode cX9_isNoLeader 16 = .ok (.if_icmp .eq 7, 3) := by decide +kernel
theorem dX9_isNoLeader_19 : decode cX9_isNoLeader 19 = .ok (.iconst 1, 1) := by decide +kernel
theorem dX9_isNoLeader_20 : decode cX9_isNoLeader 20 = .ok (.goto 4, 3) := by decide +kernel
theorem dX9_isNoLeader_23 : decode cX9_isNoLeader 23 = .ok (.iconst 0, 1) := by decide +kernel
theorem dX9_isNoLeader_24 : decode cX9_isNoLeader 24 = .ok (.iconst 4, 1) := by decide +kernel
theorem dX9_isNoLeader_25 : decode cX9_isNoLeader 25 = .ok (.aload_n 0, 1) := by decide +kernel
theorem dX9_isNoLeader_26 : decode cX9_isNoLeader 26 = .ok (.iload_n 1, 1) := by decide +kernel
theorem dX9_isNoLeader_27 : decode cX9_isNoLeader 27 = .ok (.iconst 1, 1) := by decide +kernel
theorem dX9_isNoLeader_28 : decode cX9_isNoLeader 28 = .ok (.invokevirtual 69, 3) := by decide +kernel
theorem dX9_isNoLeader_31 : decode cX9_isNoLeader 31 = .ok (.invokevirtual 88, 3) := by decide +kernel
theorem dX9_isNoLeader_34 : decode cX9_isNoLeader 34 = .ok (.ifCond .eq 7, 3) := by decide +kernel
theorem dX9_isNoLeader_37 : decode cX9_isNoLeader 37 = .ok (.iconst 1, 1) := by decide +kernel
theorem dX9_isNoLeader_38 : decode cX9_isNoLeader 38 = .ok (.goto 4, 3) := by decide +kernel
theorem dX9_isNoLeader_41 : decode cX9_isNoLeader 41 = .ok (.iconst 0, 1) := by decide +kernel
theorem dX9_isNoLeader_42 : decode cX9_isNoLeader 42 = .ok (.ireturn, 1) := by decide +kernel
theorem dX9_sends_0 : decode cX9_sends 0 = .ok (.aload_n 0, 1) := by decide +kernel
theorem dX9_sends_1 : decode cX9_sends 1 = .ok (.iload_n 1, 1) := by decide +kernel
theorem dX9_sends_2 : decode cX9_sends 2 = .ok (.invokevirtual 65, 3) := by decide +kernel
theorem dX9_sends_5 : decode cX9_sends 5 = .ok (.ifCond .ne 5, 3) := by decide +kernel
theorem dX9_sends_8 : decode cX9_sends 8 = .ok (.iconst (-1), 1) := by decide +kernel
theorem dX9_sends_9 : decode cX9_sends 9 = .ok (.ireturn, 1) := by decide +kernel
theorem dX9_sends_10 : decode cX9_sends 10 = .ok (.aload_n 0, 1) := by decide +kernel
theorem dX9_sends_11 : decode cX9_sends 11 = .ok (.iload_n 1, 1) := by decide +kernel
theorem dX9_sends_12 : decode cX9_sends 12 = .ok (.invokevirtual 140, 3) := by decide +kernel
theorem dX9_sends_15 : decode cX9_sends 15 = .ok (.ifCond .eq 8, 3) := by decide +kernel
theorem dX9_sends_18 : decode cX9_sends 18 = .ok (.bipush (-3), 2) := by decide +kernel
theorem dX9_sends_20 : decode cX9_sends 20 = .ok (.goto 8, 3) := by decide +kernel
theorem dX9_sends_23 : decode cX9_sends 23 = .ok (.aload_n 0, 1) := by decide +kernel
theorem dX9_sends_24 : decode cX9_sends 24 = .ok (.iload_n 1, 1) := by decide +kernel
theorem dX9_sends_25 : decode cX9_sends 25 = .ok (.invokevirtual 143, 3) := by decide +kernel
theorem dX9_sends_28 : decode cX9_sends 28 = .ok (.ireturn, 1) := by decide +kernel
theorem dX9_send_0 : decode cX9_send 0 = .ok (.aload_n 0, 1) := by decide +kernel
theorem dX9_send_1 : decode cX9_send 1 = .ok (.invokevirtual 96, 3) := by decide +kernel
theorem dX9_send_4 : decode cX9_send 4 = .ok (.aload_n 0, 1) := by decide +kernel
theorem dX9_send_5 : decode cX9_send 5 = .ok (.aload_n 0, 1) := by decide +kernel
theorem dX9_send_6 : decode cX9_send 6 = .ok (.iload_n 1, 1) := by decide +kernel
theorem dX9_send_7 : decode cX9_send 7 = .ok (.invokevirtual 146, 3) := by decide +kernel
theorem dX9_send_10 : decode cX9_send 10 = .ok (.invokevirtual 102, 3) := by decide +kernel
theorem dX9_send_13 : decode cX9_send 13 = .ok (.ireturn, 1) := by decide +kernel
theorem dX9_shouts_0 : decode cX9_shouts 0 = .ok (.aload_n 0, 1) := by decide +kernel
theorem dX9_shouts_1 : decode cX9_shouts 1 = .ok (.iload_n 1, 1) := by decide +kernel
theorem dX9_shouts_2 : decode cX9_shouts 2 = .ok (.invokevirtual 65, 3) := by decide +kernel
theorem dX9_shouts_5 : decode cX9_shouts 5 = .ok (.ifCond .ne 5, 3) := by decide +kernel
theorem dX9_shouts_8 : decode cX9_shouts 8 = .ok (.iconst (-1), 1) := by decide +kernel
theorem dX9_shouts_9 : decode cX9_shouts 9 = .ok (.ireturn, 1) := by decide +kernel
theorem dX9_shouts_10 : decode cX9_shouts 10 = .ok (.iload_n 2, 1) := by decide +kernel
theorem dX9_shouts_11 : decode cX9_shouts 11 = .ok (.bipush 97, 2) := by decide +kernel
theorem dX9_shouts_13 : decode cX9_shouts 13 = .ok (.bipush 122, 2) := by decide +kernel
theorem dX9_shouts_15 : decode cX9_shouts 15 = .ok (.invokestatic 61, 3) := by decide +kernel
theorem dX9_shouts_18 : decode cX9_shouts 18 = .ok (.ifCond .ne 6, 3) := by decide +kernel
theorem dX9_shouts_21 : decode cX9_shouts 21 = .ok (.bipush (-2), 2) := by decide +kernel
theorem dX9_shouts_23 : decode cX9_shouts 23 = .ok (.ireturn, 1) := by decide +kernel
theorem dX9_shouts_24 : decode cX9_shouts 24 = .ok (.aload_n 0, 1) := by decide +kernel
theorem dX9_shouts_25 : decode cX9_shouts 25 = .ok (.iload_n 1, 1) := by decide +kernel
theorem dX9_shouts_26 : decode cX9_shouts 26 = .ok (.iconst 5, 1) := by decide +kernel
theorem dX9_shouts_27 : decode cX9_shouts 27 = .ok (.invokevirtual 69, 3) := by decide +kernel
theorem dX9_shouts_30 : decode cX9_shouts 30 = .ok (.istore_n 3, 1) := by decide +kernel
theorem dX9_shouts_31 : decode cX9_shouts 31 = .ok (.aload_n 0, 1) := by decide +kernel
theorem dX9_shouts_32 : decode cX9_shouts 32 = .ok (.iload_n 1, 1) := by decide +kernel
theorem dX9_shouts_33 : decode cX9_shouts 33 = .ok (.invokevirtual 140, 3) := by decide +kernel
theorem dX9_shouts_36 : decode cX9_shouts 36 = .ok (.ifCond .ne 24, 3) := by decide +kernel
theorem dX9_shouts_39 : decode cX9_shouts 39 = .ok (.aload_n 0, 1) := by decide +kernel
theorem dX9_shouts_40 : decode cX9_shouts 40 = .ok (.iload_n 3, 1) := by decide +kernel
theorem dX9_shouts_41 : decode cX9_shouts 41 = .ok (.bipush 12, 2) := by decide +kernel
theorem dX9_shouts_43 : decode cX9_shouts 43 = .ok (.if_icmp .ne 7, 3) := by decide +kernel
theorem dX9_shouts_46 : decode cX9_shouts 46 = .ok (.iconst 1, 1) := by decide +kernel
theorem dX9_shouts_47 : decode cX9_shouts 47 = .ok (.goto 4, 3) := by decide +kernel
theorem dX9_shouts_50 : decode cX9_shouts 50 = .ok (.iconst 0, 1) := by decide +kernel
theorem dX9_shouts_51 : decode cX9_shouts 51 = .ok (.iconst 1, 1) := by decide +kernel
theorem dX9_shouts_52 : decode cX9_shouts 52 = .ok (.bipush 12, 2) := by decide +kernel
theorem dX9_shouts_54 : decode cX9_shouts 54 = .ok (.invokevirtual 88, 3) := by decide +kernel
theorem dX9_shouts_57 : decode cX9_shouts 57 = .ok (.ifCond .eq 6, 3) := by decide +kernel
theorem dX9_shouts_60 : decode cX9_shouts 60 = .ok (.bipush (-3), 2) := by decide +kernel
theorem dX9_shouts_62 : decode cX9_shouts 62 = .ok (.ireturn, 1) := by decide +kernel
theorem dX9_shouts_63 : decode cX9_shouts 63 = .ok (.aload_n 0, 1) := by decide +kernel
theorem dX9_shouts_64 : decode cX9_shouts 64 = .ok (.iload_n 1, 1) := by decide +kernel
theorem dX9_shouts_65 : decode cX9_shouts 65 = .ok (.bipush 10, 2) := by decide +kernel
theorem dX9_shouts_67 : decode cX9_shouts 67 = .ok (.iload_n 3, 1) := by decide +kernel
theorem dX9_shouts_68 : decode cX9_shouts 68 = .ok (.iadd, 1) := by decide +kernel
theorem dX9_shouts_69 : decode cX9_shouts 69 = .ok (.aload_n 0, 1) := by decide +kernel
theorem dX9_shouts_70 : decode cX9_shouts 70 = .ok (.iload_n 1, 1) := by decide +kernel
theorem dX9_shouts_71 : decode cX9_shouts 71 = .ok (.iconst 1, 1) := by decide +kernel
theorem dX9_shouts_72 : decode cX9_shouts 72 = .ok (.invokevirtual 69, 3) := by decide +kernel
theorem dX9_shouts_75 : decode cX9_shouts 75 = .ok (.invokevirtual 92, 3) := by decide +kernel
theorem dX9_shouts_78 : decode cX9_shouts 78 = .ok (.aload_n 0, 1) := by decide +kernel
theorem dX9_shouts_79 : decode cX9_shouts 79 = .ok (.iload_n 1, 1) := by decide +kernel
theorem dX9_shouts_80 : decode cX9_shouts 80 = .ok (.bipush 22, 2) := by decide +kernel
theorem dX9_shouts_82 : decode cX9_shouts 82 = .ok (.iload_n 3, 1) := by decide +kernel
theorem dX9_shouts_83 : decode cX9_shouts 83 = .ok (.iadd, 1) := by decide +kernel
theorem dX9_shouts_84 : decode cX9_shouts 84 = .ok (.iload_n 2, 1) := by decide +kernel
theorem dX9_shouts_85 : decode cX9_shouts 85 = .ok (.invokevirtual 92, 3) := by decide +kernel
theorem dX9_shouts_88 : decode cX9_shouts 88 = .ok (.aload_n 0, 1) := by decide +kernel
theorem dX9_shouts_89 : decode cX9_shouts 89 = .ok (.iload_n 1, 1) := by decide +kernel
theorem dX9_shouts_90 : decode cX9_shouts 90 = .ok (.iconst 5, 1) := by decide +kernel
theorem dX9_shouts_91 : decode cX9_shouts 91 = .ok (.iload_n 3, 1) := by decide +kernel
theorem dX9_shouts_92 : decode cX9_shouts 92 = .ok (.iconst 1, 1) := by decide +kernel
theorem dX9_shouts_93 : decode cX9_shouts 93 = .ok (.iadd, 1) := by decide +kernel
theorem dX9_shouts_94 : decode cX9_shouts 94 = .ok (.invokevirtual 92, 3) := by decide +kernel
theorem dX9_shouts_97 : decode cX9_shouts 97 = .ok (.aload_n 0, 1) := by decide +kernel
theorem dX9_shouts_98 : decode cX9_shouts 98 = .ok (.getfield 9, 3) := by decide +kernel
theorem dX9_shouts_101 : decode cX9_shouts 101 = .ok (.iconst 4, 1) := by decide +kernel
theorem dX9_shouts_102 : decode cX9_shouts 102 = .ok (.dup2, 1) := by decide +kernel
theorem dX9_shouts_103 : decode cX9_shouts 103 = .ok (.iaload, 1) := by decide +kernel
theorem dX9_shouts_104 : decode cX9_shouts 104 = .ok (.iconst 1, 1) := by decide +kernel
theorem dX9_shouts_105 : decode cX9_shouts 105 = .ok (.iadd, 1) := by decide +kernel
theorem dX9_shouts_106 : decode cX9_shouts 106 = .ok (.iastore, 1) := by decide +kernel
theorem dX9_shouts_107 : decode cX9_shouts 107 = .ok (.iload_n 3, 1) := by decide +kernel
theorem dX9_shouts_108 : decode cX9_shouts 108 = .ok (.iconst 1, 1) := by decide +kernel
theorem dX9_shouts_109 : decode cX9_shouts 109 = .ok (.iadd, 1) := by decide +kernel
theorem dX9_shouts_110 : decode cX9_shouts 110 = .ok (.ireturn, 1) := by decide +kernel
theorem dX9_shout_0 : decode cX9_shout 0 = .ok (.aload_n 0, 1) := by decide +kernel
theorem dX9_shout_1 : decode cX9_shout 1 = .ok (.invokevirtual 96, 3) := by decide +kernel
theorem dX9_shout_4 : decode cX9_shout 4 = .ok (.aload_n 0, 1) := by decide +kernel
theorem dX9_shout_5 : decode cX9_shout 5 = .ok (.aload_n 0, 1) := by decide +kernel
theorem dX9_shout_6 : decode cX9_shout 6 = .ok (.iload_n 1, 1) := by decide +kernel
theorem dX9_shout_7 : decode cX9_shout 7 = .ok (.iload_n 2, 1) := by decide +kernel
theorem dX9_shout_8 : decode cX9_shout 8 = .ok (.invokevirtual 149, 3) := by decide +kernel
theorem dX9_shout_11 : decode cX9_shout 11 = .ok (.invokevirtual 102, 3) := by decide +kernel
theorem dX9_shout_14 : decode cX9_shout 14 = .ok (.ireturn, 1) := by decide +kernel
theorem dX9_aboard_0 : decode cX9_aboard 0 = .ok (.iconst 0, 1) := by decide +kernel
theorem dX9_aboard_1 : decode cX9_aboard 1 = .ok (.istore_n 1, 1) := by decide +kernel
theorem dX9_aboard_2 : decode cX9_aboard 2 = .ok (.iconst 0, 1) := by decide +kernel
theorem dX9_aboard_3 : decode cX9_aboard 3 = .ok (.istore_n 2, 1) := by decide +kernel
theorem dX9_aboard_4 : decode cX9_aboard 4 = .ok (.iload_n 2, 1) := by decide +kernel
theorem dX9_aboard_5 : decode cX9_aboard 5 = .ok (.aload_n 0, 1) := by decide +kernel
theorem dX9_aboard_6 : decode cX9_aboard 6 = .ok (.getfield 9, 3) := by decide +kernel
theorem dX9_aboard_9 : decode cX9_aboard 9 = .ok (.iconst 1, 1) := by decide +kernel
theorem dX9_aboard_10 : decode cX9_aboard 10 = .ok (.iaload, 1) := by decide +kernel
theorem dX9_aboard_11 : decode cX9_aboard 11 = .ok (.if_icmp .ge 19, 3) := by decide +kernel
theorem dX9_aboard_14 : decode cX9_aboard 14 = .ok (.iload_n 1, 1) := by decide +kernel
theorem dX9_aboard_15 : decode cX9_aboard 15 = .ok (.aload_n 0, 1) := by decide +kernel
theorem dX9_aboard_16 : decode cX9_aboard 16 = .ok (.iload_n 2, 1) := by decide +kernel
theorem dX9_aboard_17 : decode cX9_aboard 17 = .ok (.bipush 7, 2) := by decide +kernel
theorem dX9_aboard_19 : decode cX9_aboard 19 = .ok (.invokevirtual 69, 3) := by decide +kernel
theorem dX9_aboard_22 : decode cX9_aboard 22 = .ok (.iadd, 1) := by decide +kernel
theorem dX9_aboard_23 : decode cX9_aboard 23 = .ok (.istore_n 1, 1) := by decide +kernel
theorem dX9_aboard_24 : decode cX9_aboard 24 = .ok (.iinc 2 1, 3) := by decide +kernel
theorem dX9_aboard_27 : decode cX9_aboard 27 = .ok (.goto (-23), 3) := by decide +kernel
theorem dX9_aboard_30 : decode cX9_aboard 30 = .ok (.iload_n 1, 1) := by decide +kernel
theorem dX9_aboard_31 : decode cX9_aboard 31 = .ok (.ireturn, 1) := by decide +kernel
theorem dX9_washes_0 : decode cX9_washes 0 = .ok (.aload_n 0, 1) := by decide +kernel
theorem dX9_washes_1 : decode cX9_washes 1 = .ok (.iload_n 1, 1) := by decide +kernel
theorem dX9_washes_2 : decode cX9_washes 2 = .ok (.invokevirtual 65, 3) := by decide +kernel
theorem dX9_washes_5 : decode cX9_washes 5 = .ok (.ifCond .ne 5, 3) := by decide +kernel
theorem dX9_washes_8 : decode cX9_washes 8 = .ok (.iconst (-1), 1) := by decide +kernel
theorem dX9_washes_9 : decode cX9_washes 9 = .ok (.ireturn, 1) := by decide +kernel
theorem dX9_washes_10 : decode cX9_washes 10 = .ok (.aload_n 0, 1) := by decide +kernel
theorem dX9_washes_11 : decode cX9_washes 11 = .ok (.iload_n 1, 1) := by decide +kernel
theorem dX9_washes_12 : decode cX9_washes 12 = .ok (.invokevirtual 122, 3) := by decide +kernel
theorem dX9_washes_15 : decode cX9_washes 15 = .ok (.ifCond .eq 6, 3) := by decide +kernel
theorem dX9_washes_18 : decode cX9_washes 18 = .ok (.bipush (-3), 2) := by decide +kernel
theorem dX9_washes_20 : decode cX9_washes 20 = .ok (.ireturn, 1) := by decide +kernel
theorem dX9_washes_21 : decode cX9_washes 21 = .ok (.aload_n 0, 1) := by decide +kernel
theorem dX9_washes_22 : decode cX9_washes 22 = .ok (.iload_n 1, 1) := by decide +kernel
theorem dX9_washes_23 : decode cX9_washes 23 = .ok (.bipush 7, 2) := by decide +kernel
theorem dX9_washes_25 : decode cX9_washes 25 = .ok (.iconst 0, 1) := by decide +kernel
theorem dX9_washes_26 : decode cX9_washes 26 = .ok (.invokevirtual 92, 3) := by decide +kernel
theorem dX9_washes_29 : decode cX9_washes 29 = .ok (.aload_n 0, 1) := by decide +kernel
theorem dX9_washes_30 : decode cX9_washes 30 = .ok (.iload_n 1, 1) := by decide +kernel
theorem dX9_washes_31 : decode cX9_washes 31 = .ok (.iconst 0, 1) := by decide +kernel
theorem dX9_washes_32 : decode cX9_washes 32 = .ok (.iconst 0, 1) := by decide +kernel
theorem dX9_washes_33 : decode cX9_washes 33 = .ok (.invokevirtual 92, 3) := by decide +kernel
theorem dX9_washes_36 : decode cX9_washes 36 = .ok (.aload_n 0, 1) := by decide +kernel
theorem dX9_washes_37 : decode cX9_washes 37 = .ok (.invokevirtual 152, 3) := by decide +kernel
theorem dX9_washes_40 : decode cX9_washes 40 = .ok (.ireturn, 1) := by decide +kernel
theorem dX9_wash_0 : decode cX9_wash 0 = .ok (.aload_n 0, 1) := by decide +kernel
theorem dX9_wash_1 : decode cX9_wash 1 = .ok (.invokevirtual 96, 3) := by decide +kernel
theorem dX9_wash_4 : decode cX9_wash 4 = .ok (.aload_n 0, 1) := by decide +kernel
theorem dX9_wash_5 : decode cX9_wash 5 = .ok (.aload_n 0, 1) := by decide +kernel
theorem dX9_wash_6 : decode cX9_wash 6 = .ok (.iload_n 1, 1) := by decide +kernel
theorem dX9_wash_7 : decode cX9_wash 7 = .ok (.invokevirtual 156, 3) := by decide +kernel
theorem dX9_wash_10 : decode cX9_wash 10 = .ok (.invokevirtual 102, 3) := by decide +kernel
theorem dX9_wash_13 : decode cX9_wash 13 = .ok (.ireturn, 1) := by decide +kernel
theorem dX9_comesBack_0 : decode cX9_comesBack 0 = .ok (.aload_n 0, 1) := by decide +kernel
theorem dX9_comesBack_1 : decode cX9_comesBack 1 = .ok (.iload_n 1, 1) := by decide +kernel
theorem dX9_comesBack_2 : decode cX9_comesBack 2 = .ok (.invokevirtual 65, 3) := by decide +kernel
theorem dX9_comesBack_5 : decode cX9_comesBack 5 = .ok (.ifCond .ne 5, 3) := by decide +kernel
theorem dX9_comesBack_8 : decode cX9_comesBack 8 = .ok (.iconst (-1), 1) := by decide +kernel
theorem dX9_comesBack_9 : decode cX9_comesBack 9 = .ok (.ireturn, 1) := by decide +kernel
theorem dX9_comesBack_10 : decode cX9_comesBack 10 = .ok (.aload_n 0, 1) := by decide +kernel
theorem dX9_comesBack_11 : decode cX9_comesBack 11 = .ok (.aload_n 0, 1) := by decide +kernel
theorem dX9_comesBack_12 : decode cX9_comesBack 12 = .ok (.iload_n 1, 1) := by decide +kernel
theorem dX9_comesBack_13 : decode cX9_comesBack 13 = .ok (.invokevirtual 78, 3) := by decide +kernel
theorem dX9_comesBack_16 : decode cX9_comesBack 16 = .ok (.bipush 6, 2) := by decide +kernel
theorem dX9_comesBack_18 : decode cX9_comesBack 18 = .ok (.iload_n 1, 1) := by decide +kernel
theorem dX9_comesBack_19 : decode cX9_comesBack 19 = .ok (.invokevirtual 88, 3) := by decide +kernel
theorem dX9_comesBack_22 : decode cX9_comesBack 22 = .ok (.ifCond .eq 6, 3) := by decide +kernel
theorem dX9_comesBack_25 : decode cX9_comesBack 25 = .ok (.bipush (-3), 2) := by decide +kernel
theorem dX9_comesBack_27 : decode cX9_comesBack 27 = .ok (.ireturn, 1) := by decide +kernel
theorem dX9_comesBack_28 : decode cX9_comesBack 28 = .ok (.aload_n 0, 1) := by decide +kernel
theorem dX9_comesBack_29 : decode cX9_comesBack 29 = .ok (.iload_n 1, 1) := by decide +kernel
theorem dX9_comesBack_30 : decode cX9_comesBack 30 = .ok (.bipush 7, 2) := by decide +kernel
theorem dX9_comesBack_32 : decode cX9_comesBack 32 = .ok (.iconst 1, 1) := by decide +kernel
theorem dX9_comesBack_33 : decode cX9_comesBack 33 = .ok (.invokevirtual 92, 3) := by decide +kernel
theorem dX9_comesBack_36 : decode cX9_comesBack 36 = .ok (.aload_n 0, 1) := by decide +kernel
theorem dX9_comesBack_37 : decode cX9_comesBack 37 = .ok (.iload_n 1, 1) := by decide +kernel
theorem dX9_comesBack_38 : decode cX9_comesBack 38 = .ok (.iconst 0, 1) := by decide +kernel
theorem dX9_comesBack_39 : decode cX9_comesBack 39 = .ok (.iconst 0, 1) := by decide +kernel
theorem dX9_comesBack_40 : decode cX9_comesBack 40 = .ok (.invokevirtual 92, 3) := by decide +kernel
theorem dX9_comesBack_43 : decode cX9_comesBack 43 = .ok (.aload_n 0, 1) := by decide +kernel
theorem dX9_comesBack_44 : decode cX9_comesBack 44 = .ok (.iload_n 1, 1) := by decide +kernel
theorem dX9_comesBack_45 : decode cX9_comesBack 45 = .ok (.iconst 3, 1) := by decide +kernel
theorem dX9_comesBack_46 : decode cX9_comesBack 46 = .ok (.iconst 0, 1) := by decide +kernel
theorem dX9_comesBack_47 : decode cX9_comesBack 47 = .ok (.invokevirtual 92, 3) := by decide +kernel
theorem dX9_comesBack_50 : decode cX9_comesBack 50 = .ok (.aload_n 0, 1) := by decide +kernel
theorem dX9_comesBack_51 : decode cX9_comesBack 51 = .ok (.invokevirtual 152, 3) := by decide +kernel
theorem dX9_comesBack_54 : decode cX9_comesBack 54 = .ok (.ireturn, 1) := by decide +kernel
theorem dX9_back_0 : decode cX9_back 0 = .ok (.aload_n 0, 1) := by decide +kernel
theorem dX9_back_1 : decode cX9_back 1 = .ok (.invokevirtual 96, 3) := by decide +kernel
theorem dX9_back_4 : decode cX9_back 4 = .ok (.aload_n 0, 1) := by decide +kernel
theorem dX9_back_5 : decode cX9_back 5 = .ok (.aload_n 0, 1) := by decide +kernel
theorem dX9_back_6 : decode cX9_back 6 = .ok (.iload_n 1, 1) := by decide +kernel
theorem dX9_back_7 : decode cX9_back 7 = .ok (.invokevirtual 159, 3) := by decide +kernel
theorem dX9_back_10 : decode cX9_back 10 = .ok (.invokevirtual 102, 3) := by decide +kernel
theorem dX9_back_13 : decode cX9_back 13 = .ok (.ireturn, 1) := by decide +kernel
theorem dX9_ropesCut_0 : decode cX9_ropesCut 0 = .ok (.iconst 0, 1) := by decide +kernel
theorem dX9_ropesCut_1 : decode cX9_ropesCut 1 = .ok (.istore_n 1, 1) := by decide +kernel
theorem dX9_ropesCut_2 : decode cX9_ropesCut 2 = .ok (.iconst 0, 1) := by decide +kernel
theorem dX9_ropesCut_3 : decode cX9_ropesCut 3 = .ok (.istore_n 2, 1) := by decide +kernel
theorem dX9_ropesCut_4 : decode cX9_ropesCut 4 = .ok (.iload_n 2, 1) := by decide +kernel
theorem dX9_ropesCut_5 : decode cX9_ropesCut 5 = .ok (.bipush 25, 2) := by decide +kernel
theorem dX9_ropesCut_7 : decode cX9_ropesCut 7 = .ok (.if_icmp .ge 21, 3) := by decide +kernel
theorem dX9_ropesCut_10 : decode cX9_ropesCut 10 = .ok (.iload_n 1, 1) := by decide +kernel
theorem dX9_ropesCut_11 : decode cX9_ropesCut 11 = .ok (.aload_n 0, 1) := by decide +kernel
theorem dX9_ropesCut_12 : decode cX9_ropesCut 12 = .ok (.getfield 9, 3) := by decide +kernel
theorem dX9_ropesCut_15 : decode cX9_ropesCut 15 = .ok (.bipush 8, 2) := by decide +kernel
theorem dX9_ropesCut_17 : decode cX9_ropesCut 17 = .ok (.iload_n 2, 1) := by decide +kernel
theorem dX9_ropesCut_18 : decode cX9_ropesCut 18 = .ok (.iadd, 1) := by decide +kernel
theorem dX9_ropesCut_19 : decode cX9_ropesCut 19 = .ok (.iaload, 1) := by decide +kernel
theorem dX9_ropesCut_20 : decode cX9_ropesCut 20 = .ok (.iadd, 1) := by decide +kernel
theorem dX9_ropesCut_21 : decode cX9_ropesCut 21 = .ok (.istore_n 1, 1) := by decide +kernel
theorem dX9_ropesCut_22 : decode cX9_ropesCut 22 = .ok (.iinc 2 1, 3) := by decide +kernel
theorem dX9_ropesCut_25 : decode cX9_ropesCut 25 = .ok (.goto (-21), 3) := by decide +kernel
theorem dX9_ropesCut_28 : decode cX9_ropesCut 28 = .ok (.iload_n 1, 1) := by decide +kernel
theorem dX9_ropesCut_29 : decode cX9_ropesCut 29 = .ok (.ireturn, 1) := by decide +kernel
theorem dX9_ropes_0 : decode cX9_ropes 0 = .ok (.aload_n 0, 1) := by decide +kernel
theorem dX9_ropes_1 : decode cX9_ropes 1 = .ok (.iload_n 1, 1) := by decide +kernel
theorem dX9_ropes_2 : decode cX9_ropes 2 = .ok (.iload_n 2, 1) := by decide +kernel
theorem dX9_ropes_3 : decode cX9_ropes 3 = .ok (.invokevirtual 162, 3) := by decide +kernel
theorem dX9_ropes_6 : decode cX9_ropes 6 = .ok (.ifCond .ne 5, 3) := by decide +kernel
theorem dX9_ropes_9 : decode cX9_ropes 9 = .ok (.iconst (-1), 1) := by decide +kernel
theorem dX9_ropes_10 : decode cX9_ropes 10 = .ok (.ireturn, 1) := by decide +kernel
theorem dX9_ropes_11 : decode cX9_ropes 11 = .ok (.aload_n 0, 1) := by decide +kernel
theorem dX9_ropes_12 : decode cX9_ropes 12 = .ok (.iload_n 1, 1) := by decide +kernel
theorem dX9_ropes_13 : decode cX9_ropes 13 = .ok (.iload_n 2, 1) := by decide +kernel
theorem dX9_ropes_14 : decode cX9_ropes 14 = .ok (.if_icmp .ne 7, 3) := by decide +kernel
theorem dX9_ropes_17 : decode cX9_ropes 17 = .ok (.iconst 1, 1) := by decide +kernel
theorem dX9_ropes_18 : decode cX9_ropes 18 = .ok (.goto 4, 3) := by decide +kernel
theorem dX9_ropes_21 : decode cX9_ropes 21 = .ok (.iconst 0, 1) := by decide +kernel
theorem dX9_ropes_22 : decode cX9_ropes 22 = .ok (.iconst 5, 1) := by decide +kernel
theorem dX9_ropes_23 : decode cX9_ropes 23 = .ok (.iload_n 1, 1) := by decide +kernel
theorem dX9_ropes_24 : decode cX9_ropes 24 = .ok (.invokevirtual 88, 3) := by decide +kernel
theorem dX9_ropes_27 : decode cX9_ropes 27 = .ok (.ifCond .ne 37, 3) := by decide +kernel
theorem dX9_ropes_30 : decode cX9_ropes 30 = .ok (.aload_n 0, 1) := by decide +kernel
theorem dX9_ropes_31 : decode cX9_ropes 31 = .ok (.aload_n 0, 1) := by decide +kernel
theorem dX9_ropes_32 : decode cX9_ropes 32 = .ok (.getfield 9, 3) := by decide +kernel
theorem dX9_ropes_35 : decode cX9_ropes 35 = .ok (.aload_n 0, 1) := by decide +kernel
theorem dX9_ropes_36 : decode cX9_ropes 36 = .ok (.iload_n 1, 1) := by decide +kernel
theorem dX9_ropes_37 : decode cX9_ropes 37 = .ok (.iload_n 2, 1) := by decide +kernel
theorem dX9_ropes_38 : decode cX9_ropes 38 = .ok (.invokevirtual 81, 3) := by decide +kernel
theorem dX9_ropes_41 : decode cX9_ropes 41 = .ok (.iaload, 1) := by decide +kernel
theorem dX9_ropes_42 : decode cX9_ropes 42 = .ok (.iload_n 3, 1) := by decide +kernel
theorem dX9_ropes_43 : decode cX9_ropes 43 = .ok (.if_icmp .ne 7, 3) := by decide +kernel
theorem dX9_ropes_46 : decode cX9_ropes 46 = .ok (.iconst 1, 1) := by decide +kernel
theorem dX9_ropes_47 : decode cX9_ropes 47 = .ok (.goto 4, 3) := by decide +kernel
theorem dX9_ropes_50 : decode cX9_ropes 50 = .ok (.iconst 0, 1) := by decide +kernel
theorem dX9_ropes_51 : decode cX9_ropes 51 = .ok (.bipush 6, 2) := by decide +kernel
theorem dX9_ropes_53 : decode cX9_ropes 53 = .ok (.iload_n 1, 1) := by decide +kernel
theorem dX9_ropes_54 : decode cX9_ropes 54 = .ok (.iload_n 2, 1) := by decide +kernel
theorem dX9_ropes_55 : decode cX9_ropes 55 = .ok (.invokestatic 75, 3) := by decide +kernel
theorem dX9_ropes_58 : decode cX9_ropes 58 = .ok (.invokevirtual 88, 3) := by decide +kernel
theorem dX9_ropes_61 : decode cX9_ropes 61 = .ok (.ifCond .eq 6, 3) := by decide +kernel
theorem dX9_ropes_64 : decode cX9_ropes 64 = .ok (.bipush (-3), 2) := by decide +kernel
theorem dX9_ropes_66 : decode cX9_ropes 66 = .ok (.ireturn, 1) := by decide +kernel
theorem dX9_ropes_67 : decode cX9_ropes 67 = .ok (.aload_n 0, 1) := by decide +kernel
theorem dX9_ropes_68 : decode cX9_ropes 68 = .ok (.getfield 9, 3) := by decide +kernel
theorem dX9_ropes_71 : decode cX9_ropes 71 = .ok (.aload_n 0, 1) := by decide +kernel
theorem dX9_ropes_72 : decode cX9_ropes 72 = .ok (.iload_n 1, 1) := by decide +kernel
theorem dX9_ropes_73 : decode cX9_ropes 73 = .ok (.iload_n 2, 1) := by decide +kernel
theorem dX9_ropes_74 : decode cX9_ropes 74 = .ok (.invokevirtual 81, 3) := by decide +kernel
theorem dX9_ropes_77 : decode cX9_ropes 77 = .ok (.iload_n 3, 1) := by decide +kernel
theorem dX9_ropes_78 : decode cX9_ropes 78 = .ok (.iastore, 1) := by decide +kernel
theorem dX9_ropes_79 : decode cX9_ropes 79 = .ok (.aload_n 0, 1) := by decide +kernel
theorem dX9_ropes_80 : decode cX9_ropes 80 = .ok (.invokevirtual 165, 3) := by decide +kernel
theorem dX9_ropes_83 : decode cX9_ropes 83 = .ok (.ireturn, 1) := by decide +kernel
theorem dX9_cut_0 : decode cX9_cut 0 = .ok (.aload_n 0, 1) := by decide +kernel
theorem dX9_cut_1 : decode cX9_cut 1 = .ok (.invokevirtual 96, 3) := by decide +kernel
theorem dX9_cut_4 : decode cX9_cut 4 = .ok (.aload_n 0, 1) := by decide +kernel
theorem dX9_cut_5 : decode cX9_cut 5 = .ok (.aload_n 0, 1) := by decide +kernel
theorem dX9_cut_6 : decode cX9_cut 6 = .ok (.iload_n 1, 1) := by decide +kernel
theorem dX9_cut_7 : decode cX9_cut 7 = .ok (.iload_n 2, 1) := by decide +kernel
theorem dX9_cut_8 : decode cX9_cut 8 = .ok (.iconst 1, 1) := by decide +kernel
theorem dX9_cut_9 : decode cX9_cut 9 = .ok (.invokevirtual 168, 3) := by decide +kernel
theorem dX9_cut_12 : decode cX9_cut 12 = .ok (.invokevirtual 102, 3) := by decide +kernel
theorem dX9_cut_15 : decode cX9_cut 15 = .ok (.ireturn, 1) := by decide +kernel
theorem dX9_tie_0 : decode cX9_tie 0 = .ok (.aload_n 0, 1) := by decide +kernel
theorem dX9_tie_1 : decode cX9_tie 1 = .ok (.invokevirtual 96, 3) := by decide +kernel
theorem dX9_tie_4 : decode cX9_tie 4 = .ok (.aload_n 0, 1) := by decide +kernel
theorem dX9_tie_5 : decode cX9_tie 5 = .ok (.aload_n 0, 1) := by decide +kernel
theorem dX9_tie_6 : decode cX9_tie 6 = .ok (.iload_n 1, 1) := by decide +kernel
theorem dX9_tie_7 : decode cX9_tie 7 = .ok (.iload_n 2, 1) := by decide +kernel
theorem dX9_tie_8 : decode cX9_tie 8 = .ok (.iconst 0, 1) := by decide +kernel
theorem dX9_tie_9 : decode cX9_tie 9 = .ok (.invokevirtual 168, 3) := by decide +kernel
theorem dX9_tie_12 : decode cX9_tie 12 = .ok (.invokevirtual 102, 3) := by decide +kernel
theorem dX9_tie_15 : decode cX9_tie 15 = .ok (.ireturn, 1) := by decide +kernel
theorem dX9_waits_0 : decode cX9_waits 0 = .ok (.aload_n 0, 1) := by decide +kernel
theorem dX9_waits_1 : decode cX9_waits 1 = .ok (.iload_n 1, 1) := by decide +kernel
theorem dX9_waits_2 : decode cX9_waits 2 = .ok (.iconst 3, 1) := by decide +kernel
theorem dX9_waits_3 : decode cX9_waits 3 = .ok (.aload_n 0, 1) := by decide +kernel
theorem dX9_waits_4 : decode cX9_waits 4 = .ok (.iload_n 1, 1) := by decide +kernel
theorem dX9_waits_5 : decode cX9_waits 5 = .ok (.iconst 3, 1) := by decide +kernel
theorem dX9_waits_6 : decode cX9_waits 6 = .ok (.invokevirtual 69, 3) := by decide +kernel
theorem dX9_waits_9 : decode cX9_waits 9 = .ok (.iconst 1, 1) := by decide +kernel
theorem dX9_waits_10 : decode cX9_waits 10 = .ok (.iadd, 1) := by decide +kernel
theorem dX9_waits_11 : decode cX9_waits 11 = .ok (.invokevirtual 92, 3) := by decide +kernel
theorem dX9_waits_14 : decode cX9_waits 14 = .ok (.aload_n 0, 1) := by decide +kernel
theorem dX9_waits_15 : decode cX9_waits 15 = .ok (.iload_n 1, 1) := by decide +kernel
theorem dX9_waits_16 : decode cX9_waits 16 = .ok (.iconst 3, 1) := by decide +kernel
theorem dX9_waits_17 : decode cX9_waits 17 = .ok (.invokevirtual 69, 3) := by decide +kernel
theorem dX9_waits_20 : decode cX9_waits 20 = .ok (.aload_n 0, 1) := by decide +kernel
theorem dX9_waits_21 : decode cX9_waits 21 = .ok (.iload_n 1, 1) := by decide +kernel
theorem dX9_waits_22 : decode cX9_waits 22 = .ok (.iconst 2, 1) := by decide +kernel
theorem dX9_waits_23 : decode cX9_waits 23 = .ok (.invokevirtual 69, 3) := by decide +kernel
theorem dX9_waits_26 : decode cX9_waits 26 = .ok (.if_icmp .lt 27, 3) := by decide +kernel
theorem dX9_waits_29 : decode cX9_waits 29 = .ok (.aload_n 0, 1) := by decide +kernel
theorem dX9_waits_30 : decode cX9_waits 30 = .ok (.iload_n 1, 1) := by decide +kernel
theorem dX9_waits_31 : decode cX9_waits 31 = .ok (.invokevirtual 125, 3) := by decide +kernel
theorem dX9_waits_34 : decode cX9_waits 34 = .ok (.istore_n 2, 1) := by decide +kernel
theorem dX9_waits_35 : decode cX9_waits 35 = .ok (.aload_n 0, 1) := by decide +kernel
theorem dX9_waits_36 : decode cX9_waits 36 = .ok (.getfield 9, 3) := by decide +kernel
theorem dX9_waits_39 : decode cX9_waits 39 = .ok (.iconst 0, 1) := by decide +kernel
theorem dX9_waits_40 : decode cX9_waits 40 = .ok (.dup2, 1) := by decide +kernel
theorem dX9_waits_41 : decode cX9_waits 41 = .ok (.iaload, 1) := by decide +kernel
theorem dX9_waits_42 : decode cX9_waits 42 = .ok (.iload_n 2, 1) := by decide +kernel
theorem dX9_waits_43 : decode cX9_waits 43 = .ok (.ifCond .ge 7, 3) := by decide +kernel
theorem dX9_waits_46 : decode cX9_waits 46 = .ok (.iload_n 2, 1) := by decide +kernel
theorem dX9_waits_47 : decode cX9_waits 47 = .ok (.goto 4, 3) := by decide +kernel
theorem dX9_waits_50 : decode cX9_waits 50 = .ok (.iconst 0, 1) := by decide +kernel
theorem dX9_waits_51 : decode cX9_waits 51 = .ok (.iadd, 1) := by decide +kernel
theorem dX9_waits_52 : decode cX9_waits 52 = .ok (.iastore, 1) := by decide +kernel
theorem dX9_waits_53 : decode cX9_waits 53 = .ok (.return_, 1) := by decide +kernel
theorem dX9_beatGoes_0 : decode cX9_beatGoes 0 = .ok (.iconst 0, 1) := by decide +kernel
theorem dX9_beatGoes_1 : decode cX9_beatGoes 1 = .ok (.istore_n 1, 1) := by decide +kernel
theorem dX9_beatGoes_2 : decode cX9_beatGoes 2 = .ok (.iload_n 1, 1) := by decide +kernel
theorem dX9_beatGoes_3 : decode cX9_beatGoes 3 = .ok (.aload_n 0, 1) := by decide +kernel
theorem dX9_beatGoes_4 : decode cX9_beatGoes 4 = .ok (.getfield 9, 3) := by decide +kernel
theorem dX9_beatGoes_7 : decode cX9_beatGoes 7 = .ok (.iconst 1, 1) := by decide +kernel
theorem dX9_beatGoes_8 : decode cX9_beatGoes 8 = .ok (.iaload, 1) := by decide +kernel
theorem dX9_beatGoes_9 : decode cX9_beatGoes 9 = .ok (.if_icmp .ge 62, 3) := by decide +kernel
theorem dX9_beatGoes_12 : decode cX9_beatGoes 12 = .ok (.aload_n 0, 1) := by decide +kernel
theorem dX9_beatGoes_13 : decode cX9_beatGoes 13 = .ok (.iload_n 1, 1) := by decide +kernel
theorem dX9_beatGoes_14 : decode cX9_beatGoes 14 = .ok (.invokevirtual 78, 3) := by decide +kernel
theorem dX9_beatGoes_17 : decode cX9_beatGoes 17 = .ok (.ifCond .ne 6, 3) := by decide +kernel
theorem dX9_beatGoes_20 : decode cX9_beatGoes 20 = .ok (.goto 45, 3) := by decide +kernel
theorem dX9_beatGoes_23 : decode cX9_beatGoes 23 = .ok (.aload_n 0, 1) := by decide +kernel
theorem dX9_beatGoes_24 : decode cX9_beatGoes 24 = .ok (.iload_n 1, 1) := by decide +kernel
theorem dX9_beatGoes_25 : decode cX9_beatGoes 25 = .ok (.iconst 0, 1) := by decide +kernel
theorem dX9_beatGoes_26 : decode cX9_beatGoes 26 = .ok (.invokevirtual 69, 3) := by decide +kernel
theorem dX9_beatGoes_29 : decode cX9_beatGoes 29 = .ok (.iconst 2, 1) := by decide +kernel
theorem dX9_beatGoes_30 : decode cX9_beatGoes 30 = .ok (.if_icmp .ne 30, 3) := by decide +kernel
theorem dX9_beatGoes_33 : decode cX9_beatGoes 33 = .ok (.aload_n 0, 1) := by decide +kernel
theorem dX9_beatGoes_34 : decode cX9_beatGoes 34 = .ok (.iload_n 1, 1) := by decide +kernel
theorem dX9_beatGoes_35 : decode cX9_beatGoes 35 = .ok (.invokevirtual 143, 3) := by decide +kernel
theorem dX9_beatGoes_38 : decode cX9_beatGoes 38 = .ok (.istore_n 2, 1) := by decide +kernel
theorem dX9_beatGoes_39 : decode cX9_beatGoes 39 = .ok (.aload_n 0, 1) := by decide +kernel
theorem dX9_beatGoes_40 : decode cX9_beatGoes 40 = .ok (.getfield 9, 3) := by decide +kernel
theorem dX9_beatGoes_43 : decode cX9_beatGoes 43 = .ok (.iconst 0, 1) := by decide +kernel
theorem dX9_beatGoes_44 : decode cX9_beatGoes 44 = .ok (.dup2, 1) := by decide +kernel
theorem dX9_beatGoes_45 : decode cX9_beatGoes 45 = .ok (.iaload, 1) := by decide +kernel
theorem dX9_beatGoes_46 : decode cX9_beatGoes 46 = .ok (.iload_n 2, 1) := by decide +kernel
theorem dX9_beatGoes_47 : decode cX9_beatGoes 47 = .ok (.ifCond .ge 7, 3) := by decide +kernel
theorem dX9_beatGoes_50 : decode cX9_beatGoes 50 = .ok (.iload_n 2, 1) := by decide +kernel
theorem dX9_beatGoes_51 : decode cX9_beatGoes 51 = .ok (.goto 4, 3) := by decide +kernel
theorem dX9_beatGoes_54 : decode cX9_beatGoes 54 = .ok (.iconst 0, 1) := by decide +kernel
theorem dX9_beatGoes_55 : decode cX9_beatGoes 55 = .ok (.iadd, 1) := by decide +kernel
theorem dX9_beatGoes_56 : decode cX9_beatGoes 56 = .ok (.iastore, 1) := by decide +kernel
theorem dX9_beatGoes_57 : decode cX9_beatGoes 57 = .ok (.goto 8, 3) := by decide +kernel
theorem dX9_beatGoes_60 : decode cX9_beatGoes 60 = .ok (.aload_n 0, 1) := by decide +kernel
theorem dX9_beatGoes_61 : decode cX9_beatGoes 61 = .ok (.iload_n 1, 1) := by decide +kernel
theorem dX9_beatGoes_62 : decode cX9_beatGoes 62 = .ok (.invokevirtual 172, 3) := by decide +kernel
theorem dX9_beatGoes_65 : decode cX9_beatGoes 65 = .ok (.iinc 1 1, 3) := by decide +kernel
theorem dX9_beatGoes_68 : decode cX9_beatGoes 68 = .ok (.goto (-66), 3) := by decide +kernel
theorem dX9_beatGoes_71 : decode cX9_beatGoes 71 = .ok (.aload_n 0, 1) := by decide +kernel
theorem dX9_beatGoes_72 : decode cX9_beatGoes 72 = .ok (.getfield 9, 3) := by decide +kernel
theorem dX9_beatGoes_75 : decode cX9_beatGoes 75 = .ok (.iconst 0, 1) := by decide +kernel
theorem dX9_beatGoes_76 : decode cX9_beatGoes 76 = .ok (.dup2, 1) := by decide +kernel
theorem dX9_beatGoes_77 : decode cX9_beatGoes 77 = .ok (.iaload, 1) := by decide +kernel
theorem dX9_beatGoes_78 : decode cX9_beatGoes 78 = .ok (.iconst 1, 1) := by decide +kernel
theorem dX9_beatGoes_79 : decode cX9_beatGoes 79 = .ok (.iadd, 1) := by decide +kernel
theorem dX9_beatGoes_80 : decode cX9_beatGoes 80 = .ok (.iastore, 1) := by decide +kernel
theorem dX9_beatGoes_81 : decode cX9_beatGoes 81 = .ok (.return_, 1) := by decide +kernel
theorem dX9_beatsGo_0 : decode cX9_beatsGo 0 = .ok (.iload_n 1, 1) := by decide +kernel
theorem dX9_beatsGo_1 : decode cX9_beatsGo 1 = .ok (.iconst 1, 1) := by decide +kernel
theorem dX9_beatsGo_2 : decode cX9_beatsGo 2 = .ok (.bipush 20, 2) := by decide +kernel
theorem dX9_beatsGo_4 : decode cX9_beatsGo 4 = .ok (.invokestatic 61, 3) := by decide +kernel
theorem dX9_beatsGo_7 : decode cX9_beatsGo 7 = .ok (.ifCond .ne 6, 3) := by decide +kernel
theorem dX9_beatsGo_10 : decode cX9_beatsGo 10 = .ok (.bipush (-2), 2) := by decide +kernel
theorem dX9_beatsGo_12 : decode cX9_beatsGo 12 = .ok (.ireturn, 1) := by decide +kernel
theorem dX9_beatsGo_13 : decode cX9_beatsGo 13 = .ok (.aload_n 0, 1) := by decide +kernel
theorem dX9_beatsGo_14 : decode cX9_beatsGo 14 = .ok (.getfield 9, 3) := by decide +kernel
theorem dX9_beatsGo_17 : decode cX9_beatsGo 17 = .ok (.iconst 2, 1) := by decide +kernel
theorem dX9_beatsGo_18 : decode cX9_beatsGo 18 = .ok (.iaload, 1) := by decide +kernel
theorem dX9_beatsGo_19 : decode cX9_beatsGo 19 = .ok (.istore_n 2, 1) := by decide +kernel
theorem dX9_beatsGo_20 : decode cX9_beatsGo 20 = .ok (.iconst 0, 1) := by decide +kernel
theorem dX9_beatsGo_21 : decode cX9_beatsGo 21 = .ok (.istore_n 3, 1) := by decide +kernel
theorem dX9_beatsGo_22 : decode cX9_beatsGo 22 = .ok (.iload_n 3, 1) := by decide +kernel
theorem dX9_beatsGo_23 : decode cX9_beatsGo 23 = .ok (.iload_n 1, 1) := by decide +kernel
theorem dX9_beatsGo_24 : decode cX9_beatsGo 24 = .ok (.if_icmp .ge 13, 3) := by decide +kernel
theorem dX9_beatsGo_27 : decode cX9_beatsGo 27 = .ok (.aload_n 0, 1) := by decide +kernel
theorem dX9_beatsGo_28 : decode cX9_beatsGo 28 = .ok (.invokevirtual 176, 3) := by decide +kernel
theorem dX9_beatsGo_31 : decode cX9_beatsGo 31 = .ok (.iinc 3 1, 3) := by decide +kernel
theorem dX9_beatsGo_34 : decode cX9_beatsGo 34 = .ok (.goto (-12), 3) := by decide +kernel
theorem dX9_beatsGo_37 : decode cX9_beatsGo 37 = .ok (.aload_n 0, 1) := by decide +kernel
theorem dX9_beatsGo_38 : decode cX9_beatsGo 38 = .ok (.getfield 9, 3) := by decide +kernel
theorem dX9_beatsGo_41 : decode cX9_beatsGo 41 = .ok (.iconst 2, 1) := by decide +kernel
theorem dX9_beatsGo_42 : decode cX9_beatsGo 42 = .ok (.iaload, 1) := by decide +kernel
theorem dX9_beatsGo_43 : decode cX9_beatsGo 43 = .ok (.iload_n 2, 1) := by decide +kernel
theorem dX9_beatsGo_44 : decode cX9_beatsGo 44 = .ok (.isub, 1) := by decide +kernel
theorem dX9_beatsGo_45 : decode cX9_beatsGo 45 = .ok (.ireturn, 1) := by decide +kernel
theorem dX9_beats_0 : decode cX9_beats 0 = .ok (.aload_n 0, 1) := by decide +kernel
theorem dX9_beats_1 : decode cX9_beats 1 = .ok (.invokevirtual 96, 3) := by decide +kernel
theorem dX9_beats_4 : decode cX9_beats 4 = .ok (.aload_n 0, 1) := by decide +kernel
theorem dX9_beats_5 : decode cX9_beats 5 = .ok (.aload_n 0, 1) := by decide +kernel
theorem dX9_beats_6 : decode cX9_beats 6 = .ok (.iload_n 1, 1) := by decide +kernel
theorem dX9_beats_7 : decode cX9_beats 7 = .ok (.invokevirtual 179, 3) := by decide +kernel
theorem dX9_beats_10 : decode cX9_beats 10 = .ok (.invokevirtual 102, 3) := by decide +kernel
theorem dX9_beats_13 : decode cX9_beats 13 = .ok (.ireturn, 1) := by decide +kernel
theorem dX9_append_0 : decode cX9_append 0 = .ok (.iload_n 1, 1) := by decide +kernel
theorem dX9_append_1 : decode cX9_append 1 = .ok (.bipush 32, 2) := by decide +kernel
theorem dX9_append_3 : decode cX9_append 3 = .ok (.bipush 126, 2) := by decide +kernel
theorem dX9_append_5 : decode cX9_append 5 = .ok (.invokestatic 61, 3) := by decide +kernel
theorem dX9_append_8 : decode cX9_append 8 = .ok (.ifCond .eq 12, 3) := by decide +kernel
theorem dX9_append_11 : decode cX9_append 11 = .ok (.aload_n 0, 1) := by decide +kernel
theorem dX9_append_12 : decode cX9_append 12 = .ok (.getfield 182, 3) := by decide +kernel
theorem dX9_append_15 : decode cX9_append 15 = .ok (.bipush 60, 2) := by decide +kernel
theorem dX9_append_17 : decode cX9_append 17 = .ok (.if_icmp .ne 6, 3) := by decide +kernel
theorem dX9_append_20 : decode cX9_append 20 = .ok (.bipush (-2), 2) := by decide +kernel
theorem dX9_append_22 : decode cX9_append 22 = .ok (.ireturn, 1) := by decide +kernel
theorem dX9_append_23 : decode cX9_append 23 = .ok (.aload_n 0, 1) := by decide +kernel
theorem dX9_append_24 : decode cX9_append 24 = .ok (.getfield 29, 3) := by decide +kernel
theorem dX9_append_27 : decode cX9_append 27 = .ok (.aload_n 0, 1) := by decide +kernel
theorem dX9_append_28 : decode cX9_append 28 = .ok (.getfield 182, 3) := by decide +kernel
theorem dX9_append_31 : decode cX9_append 31 = .ok (.iload_n 1, 1) := by decide +kernel
theorem dX9_append_32 : decode cX9_append 32 = .ok (.iastore, 1) := by decide +kernel
theorem dX9_append_33 : decode cX9_append 33 = .ok (.aload_n 0, 1) := by decide +kernel
theorem dX9_append_34 : decode cX9_append 34 = .ok (.dup, 1) := by decide +kernel
theorem dX9_append_35 : decode cX9_append 35 = .ok (.getfield 182, 3) := by decide +kernel
theorem dX9_append_38 : decode cX9_append 38 = .ok (.iconst 1, 1) := by decide +kernel
theorem dX9_append_39 : decode cX9_append 39 = .ok (.iadd, 1) := by decide +kernel
theorem dX9_append_40 : decode cX9_append 40 = .ok (.putfield 182, 3) := by decide +kernel
theorem dX9_append_43 : decode cX9_append 43 = .ok (.aload_n 0, 1) := by decide +kernel
theorem dX9_append_44 : decode cX9_append 44 = .ok (.getfield 182, 3) := by decide +kernel
theorem dX9_append_47 : decode cX9_append 47 = .ok (.ireturn, 1) := by decide +kernel
theorem dX9_sign_0 : decode cX9_sign 0 = .ok (.aload_n 0, 1) := by decide +kernel
theorem dX9_sign_1 : decode cX9_sign 1 = .ok (.getfield 185, 3) := by decide +kernel
theorem dX9_sign_4 : decode cX9_sign 4 = .ok (.aload_n 0, 1) := by decide +kernel
theorem dX9_sign_5 : decode cX9_sign 5 = .ok (.getfield 182, 3) := by decide +kernel
theorem dX9_sign_8 : decode cX9_sign 8 = .ok (.if_icmp .ge 15, 3) := by decide +kernel
theorem dX9_sign_11 : decode cX9_sign 11 = .ok (.aload_n 0, 1) := by decide +kernel
theorem dX9_sign_12 : decode cX9_sign 12 = .ok (.getfield 29, 3) := by decide +kernel
theorem dX9_sign_15 : decode cX9_sign 15 = .ok (.aload_n 0, 1) := by decide +kernel
theorem dX9_sign_16 : decode cX9_sign 16 = .ok (.getfield 185, 3) := by decide +kernel
theorem dX9_sign_19 : decode cX9_sign 19 = .ok (.iaload, 1) := by decide +kernel
theorem dX9_sign_20 : decode cX9_sign 20 = .ok (.goto 4, 3) := by decide +kernel
theorem dX9_sign_23 : decode cX9_sign 23 = .ok (.iconst (-1), 1) := by decide +kernel
theorem dX9_sign_24 : decode cX9_sign 24 = .ok (.ireturn, 1) := by decide +kernel
theorem dX9_isSign_0 : decode cX9_isSign 0 = .ok (.aload_n 0, 1) := by decide +kernel
theorem dX9_isSign_1 : decode cX9_isSign 1 = .ok (.invokevirtual 188, 3) := by decide +kernel
theorem dX9_isSign_4 : decode cX9_isSign 4 = .ok (.iload_n 1, 1) := by decide +kernel
theorem dX9_isSign_5 : decode cX9_isSign 5 = .ok (.if_icmp .ne 7, 3) := by decide +kernel
theorem dX9_isSign_8 : decode cX9_isSign 8 = .ok (.iconst 1, 1) := by decide +kernel
theorem dX9_isSign_9 : decode cX9_isSign 9 = .ok (.goto 4, 3) := by decide +kernel
theorem dX9_isSign_12 : decode cX9_isSign 12 = .ok (.iconst 0, 1) := by decide +kernel
theorem dX9_isSign_13 : decode cX9_isSign 13 = .ok (.istore_n 2, 1) := by decide +kernel
theorem dX9_isSign_14 : decode cX9_isSign 14 = .ok (.aload_n 0, 1) := by decide +kernel
theorem dX9_isSign_15 : decode cX9_isSign 15 = .ok (.dup, 1) := by decide +kernel
theorem dX9_isSign_16 : decode cX9_isSign 16 = .ok (.getfield 185, 3) := by decide +kernel
theorem dX9_isSign_19 : decode cX9_isSign 19 = .ok (.iload_n 2, 1) := by decide +kernel
theorem dX9_isSign_20 : decode cX9_isSign 20 = .ok (.ifCond .eq 7, 3) := by decide +kernel
theorem dX9_isSign_23 : decode cX9_isSign 23 = .ok (.iconst 1, 1) := by decide +kernel
theorem dX9_isSign_24 : decode cX9_isSign 24 = .ok (.goto 4, 3) := by decide +kernel
theorem dX9_isSign_27 : decode cX9_isSign 27 = .ok (.iconst 0, 1) := by decide +kernel
theorem dX9_isSign_28 : decode cX9_isSign 28 = .ok (.iadd, 1) := by decide +kernel
theorem dX9_isSign_29 : decode cX9_isSign 29 = .ok (.putfield 185, 3) := by decide +kernel
theorem dX9_isSign_32 : decode cX9_isSign 32 = .ok (.iload_n 2, 1) := by decide +kernel
theorem dX9_isSign_33 : decode cX9_isSign 33 = .ok (.ireturn, 1) := by decide +kernel
theorem dX9_wordOf_0 : decode cX9_wordOf 0 = .ok (.iload_n 0, 1) := by decide +kernel
theorem dX9_wordOf_1 : decode cX9_wordOf 1 = .ok (.tableswitch 71 0 7 #[47, 50, 53, 56, 59, 62, 65, 68], 47) := by decide +kernel
theorem dX9_wordOf_48 : decode cX9_wordOf 48 = .ok (.ldc 191, 2) := by decide +kernel
theorem dX9_wordOf_50 : decode cX9_wordOf 50 = .ok (.areturn, 1) := by decide +kernel
theorem dX9_wordOf_51 : decode cX9_wordOf 51 = .ok (.ldc 193, 2) := by decide +kernel
theorem dX9_wordOf_53 : decode cX9_wordOf 53 = .ok (.areturn, 1) := by decide +kernel
theorem dX9_wordOf_54 : decode cX9_wordOf 54 = .ok (.ldc 195, 2) := by decide +kernel
theorem dX9_wordOf_56 : decode cX9_wordOf 56 = .ok (.areturn, 1) := by decide +kernel
theorem dX9_wordOf_57 : decode cX9_wordOf 57 = .ok (.ldc 197, 2) := by decide +kernel
theorem dX9_wordOf_59 : decode cX9_wordOf 59 = .ok (.areturn, 1) := by decide +kernel
theorem dX9_wordOf_60 : decode cX9_wordOf 60 = .ok (.ldc 199, 2) := by decide +kernel
theorem dX9_wordOf_62 : decode cX9_wordOf 62 = .ok (.areturn, 1) := by decide +kernel
theorem dX9_wordOf_63 : decode cX9_wordOf 63 = .ok (.ldc 201, 2) := by decide +kernel
theorem dX9_wordOf_65 : decode cX9_wordOf 65 = .ok (.areturn, 1) := by decide +kernel
theorem dX9_wordOf_66 : decode cX9_wordOf 66 = .ok (.ldc 203, 2) := by decide +kernel
theorem dX9_wordOf_68 : decode cX9_wordOf 68 = .ok (.areturn, 1) := by decide +kernel
theorem dX9_wordOf_69 : decode cX9_wordOf 69 = .ok (.ldc 205, 2) := by decide +kernel
theorem dX9_wordOf_71 : decode cX9_wordOf 71 = .ok (.areturn, 1) := by decide +kernel
theorem dX9_wordOf_72 : decode cX9_wordOf 72 = .ok (.ldc 207, 2) := by decide +kernel
theorem dX9_wordOf_74 : decode cX9_wordOf 74 = .ok (.areturn, 1) := by decide +kernel
theorem dX9_alikeHere_0 : decode cX9_alikeHere 0 = .ok (.iconst 0, 1) := by decide +kernel
theorem dX9_alikeHere_1 : decode cX9_alikeHere 1 = .ok (.istore_n 2, 1) := by decide +kernel
theorem dX9_alikeHere_2 : decode cX9_alikeHere 2 = .ok (.iload_n 2, 1) := by decide +kernel
theorem dX9_alikeHere_3 : decode cX9_alikeHere 3 = .ok (.aload_n 1, 1) := by decide +kernel
theorem dX9_alikeHere_4 : decode cX9_alikeHere 4 = .ok (.invokevirtual 209, 3) := by decide +kernel
theorem dX9_alikeHere_7 : decode cX9_alikeHere 7 = .ok (.if_icmp .ge 41, 3) := by decide +kernel
theorem dX9_alikeHere_10 : decode cX9_alikeHere 10 = .ok (.aload_n 0, 1) := by decide +kernel
theorem dX9_alikeHere_11 : decode cX9_alikeHere 11 = .ok (.getfield 185, 3) := by decide +kernel
theorem dX9_alikeHere_14 : decode cX9_alikeHere 14 = .ok (.iload_n 2, 1) := by decide +kernel
theorem dX9_alikeHere_15 : decode cX9_alikeHere 15 = .ok (.iadd, 1) := by decide +kernel
theorem dX9_alikeHere_16 : decode cX9_alikeHere 16 = .ok (.aload_n 0, 1) := by decide +kernel
theorem dX9_alikeHere_17 : decode cX9_alikeHere 17 = .ok (.getfield 182, 3) := by decide +kernel
theorem dX9_alikeHere_20 : decode cX9_alikeHere 20 = .ok (.if_icmp .ge 28, 3) := by decide +kernel
theorem dX9_alikeHere_23 : decode cX9_alikeHere 23 = .ok (.aload_n 0, 1) := by decide +kernel
theorem dX9_alikeHere_24 : decode cX9_alikeHere 24 = .ok (.getfield 29, 3) := by decide +kernel
theorem dX9_alikeHere_27 : decode cX9_alikeHere 27 = .ok (.aload_n 0, 1) := by decide +kernel
theorem dX9_alikeHere_28 : decode cX9_alikeHere 28 = .ok (.getfield 185, 3) := by decide +kernel
theorem dX9_alikeHere_31 : decode cX9_alikeHere 31 = .ok (.iload_n 2, 1) := by decide +kernel
theorem dX9_alikeHere_32 : decode cX9_alikeHere 32 = .ok (.iadd, 1) := by decide +kernel
theorem dX9_alikeHere_33 : decode cX9_alikeHere 33 = .ok (.iaload, 1) := by decide +kernel
theorem dX9_alikeHere_34 : decode cX9_alikeHere 34 = .ok (.aload_n 1, 1) := by decide +kernel
theorem dX9_alikeHere_35 : decode cX9_alikeHere 35 = .ok (.iload_n 2, 1) := by decide +kernel
theorem dX9_alikeHere_36 : decode cX9_alikeHere 36 = .ok (.invokevirtual 214, 3) := by decide +kernel
theorem dX9_alikeHere_39 : decode cX9_alikeHere 39 = .ok (.if_icmp .ne 9, 3) := by decide +kernel
theorem dX9_alikeHere_42 : decode cX9_alikeHere 42 = .ok (.iinc 2 1, 3) := by decide +kernel
theorem dX9_alikeHere_45 : decode cX9_alikeHere 45 = .ok (.goto (-43), 3) := by decide +kernel
theorem dX9_alikeHere_48 : decode cX9_alikeHere 48 = .ok (.iload_n 2, 1) := by decide +kernel
theorem dX9_alikeHere_49 : decode cX9_alikeHere 49 = .ok (.ireturn, 1) := by decide +kernel
theorem dX9_isWord_0 : decode cX9_isWord 0 = .ok (.iconst 0, 1) := by decide +kernel
theorem dX9_isWord_1 : decode cX9_isWord 1 = .ok (.istore_n 1, 1) := by decide +kernel
theorem dX9_isWord_2 : decode cX9_isWord 2 = .ok (.iconst 0, 1) := by decide +kernel
theorem dX9_isWord_3 : decode cX9_isWord 3 = .ok (.istore_n 2, 1) := by decide +kernel
theorem dX9_isWord_4 : decode cX9_isWord 4 = .ok (.iload_n 2, 1) := by decide +kernel
theorem dX9_isWord_5 : decode cX9_isWord 5 = .ok (.bipush 8, 2) := by decide +kernel
theorem dX9_isWord_7 : decode cX9_isWord 7 = .ok (.if_icmp .gt 52, 3) := by decide +kernel
theorem dX9_isWord_10 : decode cX9_isWord 10 = .ok (.aload_n 0, 1) := by decide +kernel
theorem dX9_isWord_11 : decode cX9_isWord 11 = .ok (.iload_n 2, 1) := by decide +kernel
theorem dX9_isWord_12 : decode cX9_isWord 12 = .ok (.invokestatic 218, 3) := by decide +kernel
theorem dX9_isWord_15 : decode cX9_isWord 15 = .ok (.invokevirtual 222, 3) := by decide +kernel
theorem dX9_isWord_18 : decode cX9_isWord 18 = .ok (.istore_n 3, 1) := by decide +kernel
theorem dX9_isWord_19 : decode cX9_isWord 19 = .ok (.iload_n 3, 1) := by decide +kernel
theorem dX9_isWord_20 : decode cX9_isWord 20 = .ok (.iload_n 2, 1) := by decide +kernel
theorem dX9_isWord_21 : decode cX9_isWord 21 = .ok (.invokestatic 218, 3) := by decide +kernel
theorem dX9_isWord_24 : decode cX9_isWord 24 = .ok (.invokevirtual 209, 3) := by decide +kernel
theorem dX9_isWord_27 : decode cX9_isWord 27 = .ok (.if_icmp .ne 20, 3) := by decide +kernel
theorem dX9_isWord_30 : decode cX9_isWord 30 = .ok (.aload_n 0, 1) := by decide +kernel
theorem dX9_isWord_31 : decode cX9_isWord 31 = .ok (.iload_n 2, 1) := by decide +kernel
theorem dX9_isWord_32 : decode cX9_isWord 32 = .ok (.putfield 226, 3) := by decide +kernel
theorem dX9_isWord_35 : decode cX9_isWord 35 = .ok (.aload_n 0, 1) := by decide +kernel
theorem dX9_isWord_36 : decode cX9_isWord 36 = .ok (.dup, 1) := by decide +kernel
theorem dX9_isWord_37 : decode cX9_isWord 37 = .ok (.getfield 185, 3) := by decide +kernel
theorem dX9_isWord_40 : decode cX9_isWord 40 = .ok (.iload_n 3, 1) := by decide +kernel
theorem dX9_isWord_41 : decode cX9_isWord 41 = .ok (.iadd, 1) := by decide +kernel
theorem dX9_isWord_42 : decode cX9_isWord 42 = .ok (.putfield 185, 3) := by decide +kernel
theorem dX9_isWord_45 : decode cX9_isWord 45 = .ok (.iconst 1, 1) := by decide +kernel
theorem dX9_isWord_46 : decode cX9_isWord 46 = .ok (.ireturn, 1) := by decide +kernel
theorem dX9_isWord_47 : decode cX9_isWord 47 = .ok (.iload_n 1, 1) := by decide +kernel
theorem dX9_isWord_48 : decode cX9_isWord 48 = .ok (.iload_n 3, 1) := by decide +kernel
theorem dX9_isWord_49 : decode cX9_isWord 49 = .ok (.invokestatic 75, 3) := by decide +kernel
theorem dX9_isWord_52 : decode cX9_isWord 52 = .ok (.istore_n 1, 1) := by decide +kernel
theorem dX9_isWord_53 : decode cX9_isWord 53 = .ok (.iinc 2 1, 3) := by decide +kernel
theorem dX9_isWord_56 : decode cX9_isWord 56 = .ok (.goto (-52), 3) := by decide +kernel
theorem dX9_isWord_59 : decode cX9_isWord 59 = .ok (.aload_n 0, 1) := by decide +kernel
theorem dX9_isWord_60 : decode cX9_isWord 60 = .ok (.dup, 1) := by decide +kernel
theorem dX9_isWord_61 : decode cX9_isWord 61 = .ok (.getfield 185, 3) := by decide +kernel
theorem dX9_isWord_64 : decode cX9_isWord 64 = .ok (.iload_n 1, 1) := by decide +kernel
theorem dX9_isWord_65 : decode cX9_isWord 65 = .ok (.iadd, 1) := by decide +kernel
theorem dX9_isWord_66 : decode cX9_isWord 66 = .ok (.putfield 185, 3) := by decide +kernel
theorem dX9_isWord_69 : decode cX9_isWord 69 = .ok (.iconst 0, 1) := by decide +kernel
theorem dX9_isWord_70 : decode cX9_isWord 70 = .ok (.ireturn, 1) := by decide +kernel
theorem dX9_isDigit_0 : decode cX9_isDigit 0 = .ok (.aload_n 0, 1) := by decide +kernel
theorem dX9_isDigit_1 : decode cX9_isDigit 1 = .ok (.invokevirtual 188, 3) := by decide +kernel
theorem dX9_isDigit_4 : decode cX9_isDigit 4 = .ok (.istore_n 2, 1) := by decide +kernel
theorem dX9_isDigit_5 : decode cX9_isDigit 5 = .ok (.iload_n 2, 1) := by decide +kernel
theorem dX9_isDigit_6 : decode cX9_isDigit 6 = .ok (.bipush 48, 2) := by decide +kernel
theorem dX9_isDigit_8 : decode cX9_isDigit 8 = .ok (.bipush 57, 2) := by decide +kernel
theorem dX9_isDigit_10 : decode cX9_isDigit 10 = .ok (.invokestatic 61, 3) := by decide +kernel
theorem dX9_isDigit_13 : decode cX9_isDigit 13 = .ok (.istore_n 3, 1) := by decide +kernel
theorem dX9_isDigit_14 : decode cX9_isDigit 14 = .ok (.aload_n 0, 1) := by decide +kernel
theorem dX9_isDigit_15 : decode cX9_isDigit 15 = .ok (.getfield 32, 3) := by decide +kernel
theorem dX9_isDigit_18 : decode cX9_isDigit 18 = .ok (.iload_n 1, 1) := by decide +kernel
theorem dX9_isDigit_19 : decode cX9_isDigit 19 = .ok (.iload_n 2, 1) := by decide +kernel
theorem dX9_isDigit_20 : decode cX9_isDigit 20 = .ok (.bipush 48, 2) := by decide +kernel
theorem dX9_isDigit_22 : decode cX9_isDigit 22 = .ok (.isub, 1) := by decide +kernel
theorem dX9_isDigit_23 : decode cX9_isDigit 23 = .ok (.iastore, 1) := by decide +kernel
theorem dX9_isDigit_24 : decode cX9_isDigit 24 = .ok (.aload_n 0, 1) := by decide +kernel
theorem dX9_isDigit_25 : decode cX9_isDigit 25 = .ok (.dup, 1) := by decide +kernel
theorem dX9_isDigit_26 : decode cX9_isDigit 26 = .ok (.getfield 185, 3) := by decide +kernel
theorem dX9_isDigit_29 : decode cX9_isDigit 29 = .ok (.iload_n 3, 1) := by decide +kernel
theorem dX9_isDigit_30 : decode cX9_isDigit 30 = .ok (.ifCond .eq 7, 3) := by decide +kernel
theorem dX9_isDigit_33 : decode cX9_isDigit 33 = .ok (.iconst 1, 1) := by decide +kernel
theorem dX9_isDigit_34 : decode cX9_isDigit 34 = .ok (.goto 4, 3) := by decide +kernel
theorem dX9_isDigit_37 : decode cX9_isDigit 37 = .ok (.iconst 0, 1) := by decide +kernel
theorem dX9_isDigit_38 : decode cX9_isDigit 38 = .ok (.iadd, 1) := by decide +kernel
theorem dX9_isDigit_39 : decode cX9_isDigit 39 = .ok (.putfield 185, 3) := by decide +kernel
theorem dX9_isDigit_42 : decode cX9_isDigit 42 = .ok (.iload_n 3, 1) := by decide +kernel
theorem dX9_isDigit_43 : decode cX9_isDigit 43 = .ok (.ireturn, 1) := by decide +kernel
theorem dX9_isLetter_0 : decode cX9_isLetter 0 = .ok (.aload_n 0, 1) := by decide +kernel
theorem dX9_isLetter_1 : decode cX9_isLetter 1 = .ok (.invokevirtual 188, 3) := by decide +kernel
theorem dX9_isLetter_4 : decode cX9_isLetter 4 = .ok (.istore_n 2, 1) := by decide +kernel
theorem dX9_isLetter_5 : decode cX9_isLetter 5 = .ok (.iload_n 2, 1) := by decide +kernel
theorem dX9_isLetter_6 : decode cX9_isLetter 6 = .ok (.bipush 97, 2) := by decide +kernel
theorem dX9_isLetter_8 : decode cX9_isLetter 8 = .ok (.bipush 122, 2) := by decide +kernel
theorem dX9_isLetter_10 : decode cX9_isLetter 10 = .ok (.invokestatic 61, 3) := by decide +kernel
theorem dX9_isLetter_13 : decode cX9_isLetter 13 = .ok (.istore_n 3, 1) := by decide +kernel
theorem dX9_isLetter_14 : decode cX9_isLetter 14 = .ok (.aload_n 0, 1) := by decide +kernel
theorem dX9_isLetter_15 : decode cX9_isLetter 15 = .ok (.getfield 32, 3) := by decide +kernel
theorem dX9_isLetter_18 : decode cX9_isLetter 18 = .ok (.iload_n 1, 1) := by decide +kernel
theorem dX9_isLetter_19 : decode cX9_isLetter 19 = .ok (.iload_n 2, 1) := by decide +kernel
theorem dX9_isLetter_20 : decode cX9_isLetter 20 = .ok (.iastore, 1) := by decide +kernel
theorem dX9_isLetter_21 : decode cX9_isLetter 21 = .ok (.aload_n 0, 1) := by decide +kernel
theorem dX9_isLetter_22 : decode cX9_isLetter 22 = .ok (.dup, 1) := by decide +kernel
theorem dX9_isLetter_23 : decode cX9_isLetter 23 = .ok (.getfield 185, 3) := by decide +kernel
theorem dX9_isLetter_26 : decode cX9_isLetter 26 = .ok (.iload_n 3, 1) := by decide +kernel
theorem dX9_isLetter_27 : decode cX9_isLetter 27 = .ok (.ifCond .eq 7, 3) := by decide +kernel
theorem dX9_isLetter_30 : decode cX9_isLetter 30 = .ok (.iconst 1, 1) := by decide +kernel
theorem dX9_isLetter_31 : decode cX9_isLetter 31 = .ok (.goto 4, 3) := by decide +kernel
theorem dX9_isLetter_34 : decode cX9_isLetter 34 = .ok (.iconst 0, 1) := by decide +kernel
theorem dX9_isLetter_35 : decode cX9_isLetter 35 = .ok (.iadd, 1) := by decide +kernel
theorem dX9_isLetter_36 : decode cX9_isLetter 36 = .ok (.putfield 185, 3) := by decide +kernel
theorem dX9_isLetter_39 : decode cX9_isLetter 39 = .ok (.iload_n 3, 1) := by decide +kernel
theorem dX9_isLetter_40 : decode cX9_isLetter 40 = .ok (.ireturn, 1) := by decide +kernel
theorem dX9_readsCommand_0 : decode cX9_readsCommand 0 = .ok (.aload_n 0, 1) := by decide +kernel
theorem dX9_readsCommand_1 : decode cX9_readsCommand 1 = .ok (.invokevirtual 229, 3) := by decide +kernel
theorem dX9_readsCommand_4 : decode cX9_readsCommand 4 = .ok (.ifCond .ne 5, 3) := by decide +kernel
theorem dX9_readsCommand_7 : decode cX9_readsCommand 7 = .ok (.iconst 0, 1) := by decide +kernel
theorem dX9_readsCommand_8 : decode cX9_readsCommand 8 = .ok (.ireturn, 1) := by decide +kernel
theorem dX9_readsCommand_9 : decode cX9_readsCommand 9 = .ok (.iconst 3, 1) := by decide +kernel
theorem dX9_readsCommand_10 : decode cX9_readsCommand 10 = .ok (.aload_n 0, 1) := by decide +kernel
theorem dX9_readsCommand_11 : decode cX9_readsCommand 11 = .ok (.getfield 233, 3) := by decide +kernel
theorem dX9_readsCommand_14 : decode cX9_readsCommand 14 = .ok (.imul, 1) := by decide +kernel
theorem dX9_readsCommand_15 : decode cX9_readsCommand 15 = .ok (.istore_n 1, 1) := by decide +kernel
theorem dX9_readsCommand_16 : decode cX9_readsCommand 16 = .ok (.aload_n 0, 1) := by decide +kernel
theorem dX9_readsCommand_17 : decode cX9_readsCommand 17 = .ok (.getfield 32, 3) := by decide +kernel
theorem dX9_readsCommand_20 : decode cX9_readsCommand 20 = .ok (.iload_n 1, 1) := by decide +kernel
theorem dX9_readsCommand_21 : decode cX9_readsCommand 21 = .ok (.aload_n 0, 1) := by decide +kernel
theorem dX9_readsCommand_22 : decode cX9_readsCommand 22 = .ok (.getfield 226, 3) := by decide +kernel
theorem dX9_readsCommand_25 : decode cX9_readsCommand 25 = .ok (.iastore, 1) := by decide +kernel
theorem dX9_readsCommand_26 : decode cX9_readsCommand 26 = .ok (.aload_n 0, 1) := by decide +kernel
theorem dX9_readsCommand_27 : decode cX9_readsCommand 27 = .ok (.dup, 1) := by decide +kernel
theorem dX9_readsCommand_28 : decode cX9_readsCommand 28 = .ok (.getfield 233, 3) := by decide +kernel
theorem dX9_readsCommand_31 : decode cX9_readsCommand 31 = .ok (.iconst 1, 1) := by decide +kernel
theorem dX9_readsCommand_32 : decode cX9_readsCommand 32 = .ok (.iadd, 1) := by decide +kernel
theorem dX9_readsCommand_33 : decode cX9_readsCommand 33 = .ok (.putfield 233, 3) := by decide +kernel
theorem dX9_readsCommand_36 : decode cX9_readsCommand 36 = .ok (.aload_n 0, 1) := by decide +kernel
theorem dX9_readsCommand_37 : decode cX9_readsCommand 37 = .ok (.getfield 226, 3) := by decide +kernel
theorem dX9_readsCommand_40 : decode cX9_readsCommand 40 = .ok (.tableswitch 135 3 8 #[40, 135, 135, 75, 75, 101], 40) := by decide +kernel
theorem dX9_readsCommand_80 : decode cX9_readsCommand 80 = .ok (.aload_n 0, 1) := by decide +kernel
theorem dX9_readsCommand_81 : decode cX9_readsCommand 81 = .ok (.iload_n 1, 1) := by decide +kernel
theorem dX9_readsCommand_82 : decode cX9_readsCommand 82 = .ok (.iconst 1, 1) := by decide +kernel
theorem dX9_readsCommand_83 : decode cX9_readsCommand 83 = .ok (.iadd, 1) := by decide +kernel
theorem dX9_readsCommand_84 : decode cX9_readsCommand 84 = .ok (.invokevirtual 236, 3) := by decide +kernel
theorem dX9_readsCommand_87 : decode cX9_readsCommand 87 = .ok (.ifCond .eq 26, 3) := by decide +kernel
theorem dX9_readsCommand_90 : decode cX9_readsCommand 90 = .ok (.aload_n 0, 1) := by decide +kernel
theorem dX9_readsCommand_91 : decode cX9_readsCommand 91 = .ok (.bipush 32, 2) := by decide +kernel
theorem dX9_readsCommand_93 : decode cX9_readsCommand 93 = .ok (.invokevirtual 239, 3) := by decide +kernel
theorem dX9_readsCommand_96 : decode cX9_readsCommand 96 = .ok (.ifCond .eq 17, 3) := by decide +kernel
theorem dX9_readsCommand_99 : decode cX9_readsCommand 99 = .ok (.aload_n 0, 1) := by decide +kernel
theorem dX9_readsCommand_100 : decode cX9_readsCommand 100 = .ok (.iload_n 1, 1) := by decide +kernel
theorem dX9_readsCommand_101 : decode cX9_readsCommand 101 = .ok (.iconst 2, 1) := by decide +kernel
theorem dX9_readsCommand_102 : decode cX9_readsCommand 102 = .ok (.iadd, 1) := by decide +kernel
theorem dX9_readsCommand_103 : decode cX9_readsCommand 103 = .ok (.invokevirtual 242, 3) := by decide +kernel
theorem dX9_readsCommand_106 : decode cX9_readsCommand 106 = .ok (.ifCond .eq 7, 3) := by decide +kernel
theorem dX9_readsCommand_109 : decode cX9_readsCommand 109 = .ok (.iconst 1, 1) := by decide +kernel
theorem dX9_readsCommand_110 : decode cX9_readsCommand 110 = .ok (.goto 4, 3) := by decide +kernel
theorem dX9_readsCommand_113 : decode cX9_readsCommand 113 = .ok (.iconst 0, 1) := by decide +kernel
theorem dX9_readsCommand_114 : decode cX9_readsCommand 114 = .ok (.ireturn, 1) := by decide +kernel
theorem dX9_readsCommand_115 : decode cX9_readsCommand 115 = .ok (.aload_n 0, 1) := by decide +kernel
theorem dX9_readsCommand_116 : decode cX9_readsCommand 116 = .ok (.iload_n 1, 1) := by decide +kernel
theorem dX9_readsCommand_117 : decode cX9_readsCommand 117 = .ok (.iconst 1, 1) := by decide +kernel
theorem dX9_readsCommand_118 : decode cX9_readsCommand 118 = .ok (.iadd, 1) := by decide +kernel
theorem dX9_readsCommand_119 : decode cX9_readsCommand 119 = .ok (.invokevirtual 236, 3) := by decide +kernel
theorem dX9_readsCommand_122 : decode cX9_readsCommand 122 = .ok (.ifCond .eq 17, 3) := by decide +kernel
theorem dX9_readsCommand_125 : decode cX9_readsCommand 125 = .ok (.aload_n 0, 1) := by decide +kernel
theorem dX9_readsCommand_126 : decode cX9_readsCommand 126 = .ok (.iload_n 1, 1) := by decide +kernel
theorem dX9_readsCommand_127 : decode cX9_readsCommand 127 = .ok (.iconst 2, 1) := by decide +kernel
theorem dX9_readsCommand_128 : decode cX9_readsCommand 128 = .ok (.iadd, 1) := by decide +kernel
theorem dX9_readsCommand_129 : decode cX9_readsCommand 129 = .ok (.invokevirtual 236, 3) := by decide +kernel
theorem dX9_readsCommand_132 : decode cX9_readsCommand 132 = .ok (.ifCond .eq 7, 3) := by decide +kernel
theorem dX9_readsCommand_135 : decode cX9_readsCommand 135 = .ok (.iconst 1, 1) := by decide +kernel
theorem dX9_readsCommand_136 : decode cX9_readsCommand 136 = .ok (.goto 4, 3) := by decide +kernel
theorem dX9_readsCommand_139 : decode cX9_readsCommand 139 = .ok (.iconst 0, 1) := by decide +kernel
theorem dX9_readsCommand_140 : decode cX9_readsCommand 140 = .ok (.ireturn, 1) := by decide +kernel
theorem dX9_readsCommand_141 : decode cX9_readsCommand 141 = .ok (.aload_n 0, 1) := by decide +kernel
theorem dX9_readsCommand_142 : decode cX9_readsCommand 142 = .ok (.getfield 32, 3) := by decide +kernel
theorem dX9_readsCommand_145 : decode cX9_readsCommand 145 = .ok (.iload_n 1, 1) := by decide +kernel
theorem dX9_readsCommand_146 : decode cX9_readsCommand 146 = .ok (.iconst 1, 1) := by decide +kernel
theorem dX9_readsCommand_147 : decode cX9_readsCommand 147 = .ok (.iadd, 1) := by decide +kernel
theorem dX9_readsCommand_148 : decode cX9_readsCommand 148 = .ok (.iconst 1, 1) := by decide +kernel
theorem dX9_readsCommand_149 : decode cX9_readsCommand 149 = .ok (.iastore, 1) := by decide +kernel
theorem dX9_readsCommand_150 : decode cX9_readsCommand 150 = .ok (.aload_n 0, 1) := by decide +kernel
theorem dX9_readsCommand_151 : decode cX9_readsCommand 151 = .ok (.bipush 32, 2) := by decide +kernel
theorem dX9_readsCommand_153 : decode cX9_readsCommand 153 = .ok (.invokevirtual 239, 3) := by decide +kernel
theorem dX9_readsCommand_156 : decode cX9_readsCommand 156 = .ok (.ifCond .eq 13, 3) := by decide +kernel
theorem dX9_readsCommand_159 : decode cX9_readsCommand 159 = .ok (.aload_n 0, 1) := by decide +kernel
theorem dX9_readsCommand_160 : decode cX9_readsCommand 160 = .ok (.iload_n 1, 1) := by decide +kernel
theorem dX9_readsCommand_161 : decode cX9_readsCommand 161 = .ok (.iconst 1, 1) := by decide +kernel
theorem dX9_readsCommand_162 : decode cX9_readsCommand 162 = .ok (.iadd, 1) := by decide +kernel
theorem dX9_readsCommand_163 : decode cX9_readsCommand 163 = .ok (.invokevirtual 236, 3) := by decide +kernel
theorem dX9_readsCommand_166 : decode cX9_readsCommand 166 = .ok (.ifCond .eq 7, 3) := by decide +kernel
theorem dX9_readsCommand_169 : decode cX9_readsCommand 169 = .ok (.iconst 1, 1) := by decide +kernel
theorem dX9_readsCommand_170 : decode cX9_readsCommand 170 = .ok (.goto 4, 3) := by decide +kernel
theorem dX9_readsCommand_173 : decode cX9_readsCommand 173 = .ok (.iconst 0, 1) := by decide +kernel
theorem dX9_readsCommand_174 : decode cX9_readsCommand 174 = .ok (.ireturn, 1) := by decide +kernel
theorem dX9_readsCommand_175 : decode cX9_readsCommand 175 = .ok (.aload_n 0, 1) := by decide +kernel
theorem dX9_readsCommand_176 : decode cX9_readsCommand 176 = .ok (.iload_n 1, 1) := by decide +kernel
theorem dX9_readsCommand_177 : decode cX9_readsCommand 177 = .ok (.iconst 1, 1) := by decide +kernel
theorem dX9_readsCommand_178 : decode cX9_readsCommand 178 = .ok (.iadd, 1) := by decide +kernel
theorem dX9_readsCommand_179 : decode cX9_readsCommand 179 = .ok (.invokevirtual 236, 3) := by decide +kernel
theorem dX9_readsCommand_182 : decode cX9_readsCommand 182 = .ok (.ireturn, 1) := by decide +kernel
theorem dX9_isText_0 : decode cX9_isText 0 = .ok (.aload_n 0, 1) := by decide +kernel
theorem dX9_isText_1 : decode cX9_isText 1 = .ok (.iconst 0, 1) := by decide +kernel
theorem dX9_isText_2 : decode cX9_isText 2 = .ok (.putfield 185, 3) := by decide +kernel
theorem dX9_isText_5 : decode cX9_isText 5 = .ok (.aload_n 0, 1) := by decide +kernel
theorem dX9_isText_6 : decode cX9_isText 6 = .ok (.iconst 0, 1) := by decide +kernel
theorem dX9_isText_7 : decode cX9_isText 7 = .ok (.putfield 233, 3) := by decide +kernel
theorem dX9_isText_10 : decode cX9_isText 10 = .ok (.aload_n 0, 1) := by decide +kernel
theorem dX9_isText_11 : decode cX9_isText 11 = .ok (.invokevirtual 245, 3) := by decide +kernel
theorem dX9_isText_14 : decode cX9_isText 14 = .ok (.istore_n 1, 1) := by decide +kernel
theorem dX9_isText_15 : decode cX9_isText 15 = .ok (.iload_n 1, 1) := by decide +kernel
theorem dX9_isText_16 : decode cX9_isText 16 = .ok (.ifCond .eq 20, 3) := by decide +kernel
theorem dX9_isText_19 : decode cX9_isText 19 = .ok (.aload_n 0, 1) := by decide +kernel
theorem dX9_isText_20 : decode cX9_isText 20 = .ok (.bipush 59, 2) := by decide +kernel
theorem dX9_isText_22 : decode cX9_isText 22 = .ok (.invokevirtual 239, 3) := by decide +kernel
theorem dX9_isText_25 : decode cX9_isText 25 = .ok (.ifCond .eq 11, 3) := by decide +kernel
theorem dX9_isText_28 : decode cX9_isText 28 = .ok (.aload_n 0, 1) := by decide +kernel
theorem dX9_isText_29 : decode cX9_isText 29 = .ok (.invokevirtual 245, 3) := by decide +kernel
theorem dX9_isText_32 : decode cX9_isText 32 = .ok (.istore_n 1, 1) := by decide +kernel
theorem dX9_isText_33 : decode cX9_isText 33 = .ok (.goto (-18), 3) := by decide +kernel
theorem dX9_isText_36 : decode cX9_isText 36 = .ok (.iload_n 1, 1) := by decide +kernel
theorem dX9_isText_37 : decode cX9_isText 37 = .ok (.ifCond .eq 18, 3) := by decide +kernel
theorem dX9_isText_40 : decode cX9_isText 40 = .ok (.aload_n 0, 1) := by decide +kernel
theorem dX9_isText_41 : decode cX9_isText 41 = .ok (.getfield 185, 3) := by decide +kernel
theorem dX9_isText_44 : decode cX9_isText 44 = .ok (.aload_n 0, 1) := by decide +kernel
theorem dX9_isText_45 : decode cX9_isText 45 = .ok (.getfield 182, 3) := by decide +kernel
theorem dX9_isText_48 : decode cX9_isText 48 = .ok (.if_icmp .ne 7, 3) := by decide +kernel
theorem dX9_isText_51 : decode cX9_isText 51 = .ok (.iconst 1, 1) := by decide +kernel
theorem dX9_isText_52 : decode cX9_isText 52 = .ok (.goto 4, 3) := by decide +kernel
theorem dX9_isText_55 : decode cX9_isText 55 = .ok (.iconst 0, 1) := by decide +kernel
theorem dX9_isText_56 : decode cX9_isText 56 = .ok (.ireturn, 1) := by decide +kernel
theorem dX9_does_0 : decode cX9_does 0 = .ok (.aload_n 0, 1) := by decide +kernel
theorem dX9_does_1 : decode cX9_does 1 = .ok (.getfield 32, 3) := by decide +kernel
theorem dX9_does_4 : decode cX9_does 4 = .ok (.iload_n 1, 1) := by decide +kernel
theorem dX9_does_5 : decode cX9_does 5 = .ok (.iconst 1, 1) := by decide +kernel
theorem dX9_does_6 : decode cX9_does 6 = .ok (.iadd, 1) := by decide +kernel
theorem dX9_does_7 : decode cX9_does 7 = .ok (.iaload, 1) := by decide +kernel
theorem dX9_does_8 : decode cX9_does 8 = .ok (.istore_n 2, 1) := by decide +kernel
theorem dX9_does_9 : decode cX9_does 9 = .ok (.aload_n 0, 1) := by decide +kernel
theorem dX9_does_10 : decode cX9_does 10 = .ok (.getfield 32, 3) := by decide +kernel
theorem dX9_does_13 : decode cX9_does 13 = .ok (.iload_n 1, 1) := by decide +kernel
theorem dX9_does_14 : decode cX9_does 14 = .ok (.iconst 2, 1) := by decide +kernel
theorem dX9_does_15 : decode cX9_does 15 = .ok (.iadd, 1) := by decide +kernel
theorem dX9_does_16 : decode cX9_does 16 = .ok (.iaload, 1) := by decide +kernel
theorem dX9_does_17 : decode cX9_does 17 = .ok (.istore_n 3, 1) := by decide +kernel
theorem dX9_does_18 : decode cX9_does 18 = .ok (.aload_n 0, 1) := by decide +kernel
theorem dX9_does_19 : decode cX9_does 19 = .ok (.getfield 32, 3) := by decide +kernel
theorem dX9_does_22 : decode cX9_does 22 = .ok (.iload_n 1, 1) := by decide +kernel
theorem dX9_does_23 : decode cX9_does 23 = .ok (.iaload, 1) := by decide +kernel
theorem dX9_does_24 : decode cX9_does 24 = .ok (.tableswitch 101 0 7 #[48, 54, 60, 66, 73, 79, 85, 93], 48) := by decide +kernel
theorem dX9_does_72 : decode cX9_does 72 = .ok (.aload_n 0, 1) := by decide +kernel
theorem dX9_does_73 : decode cX9_does 73 = .ok (.iload_n 2, 1) := by decide +kernel
theorem dX9_does_74 : decode cX9_does 74 = .ok (.invokevirtual 99, 3) := by decide +kernel
theorem dX9_does_77 : decode cX9_does 77 = .ok (.ireturn, 1) := by decide +kernel
theorem dX9_does_78 : decode cX9_does 78 = .ok (.aload_n 0, 1) := by decide +kernel
theorem dX9_does_79 : decode cX9_does 79 = .ok (.iload_n 2, 1) := by decide +kernel
theorem dX9_does_80 : decode cX9_does 80 = .ok (.invokevirtual 128, 3) := by decide +kernel
theorem dX9_does_83 : decode cX9_does 83 = .ok (.ireturn, 1) := by decide +kernel
theorem dX9_does_84 : decode cX9_does 84 = .ok (.aload_n 0, 1) := by decide +kernel
theorem dX9_does_85 : decode cX9_does 85 = .ok (.iload_n 2, 1) := by decide +kernel
theorem dX9_does_86 : decode cX9_does 86 = .ok (.invokevirtual 146, 3) := by decide +kernel
theorem dX9_does_89 : decode cX9_does 89 = .ok (.ireturn, 1) := by decide +kernel
theorem dX9_does_90 : decode cX9_does 90 = .ok (.aload_n 0, 1) := by decide +kernel
theorem dX9_does_91 : decode cX9_does 91 = .ok (.iload_n 2, 1) := by decide +kernel
theorem dX9_does_92 : decode cX9_does 92 = .ok (.iload_n 3, 1) := by decide +kernel
theorem dX9_does_93 : decode cX9_does 93 = .ok (.invokevirtual 149, 3) := by decide +kernel
theorem dX9_does_96 : decode cX9_does 96 = .ok (.ireturn, 1) := by decide +kernel
theorem dX9_does_97 : decode cX9_does 97 = .ok (.aload_n 0, 1) := by decide +kernel
theorem dX9_does_98 : decode cX9_does 98 = .ok (.iload_n 2, 1) := by decide +kernel
theorem dX9_does_99 : decode cX9_does 99 = .ok (.invokevirtual 156, 3) := by decide +kernel
theorem dX9_does_102 : decode cX9_does 102 = .ok (.ireturn, 1) := by decide +kernel
theorem dX9_does_103 : decode cX9_does 103 = .ok (.aload_n 0, 1) := by decide +kernel
theorem dX9_does_104 : decode cX9_does 104 = .ok (.iload_n 2, 1) := by decide +kernel
theorem dX9_does_105 : decode cX9_does 105 = .ok (.invokevirtual 159, 3) := by decide +kernel
theorem dX9_does_108 : decode cX9_does 108 = .ok (.ireturn, 1) := by decide +kernel
theorem dX9_does_109 : decode cX9_does 109 = .ok (.aload_n 0, 1) := by decide +kernel
theorem dX9_does_110 : decode cX9_does 110 = .ok (.iload_n 2, 1) := by decide +kernel
theorem dX9_does_111 : decode cX9_does 111 = .ok (.iload_n 3, 1) := by decide +kernel
theorem dX9_does_112 : decode cX9_does 112 = .ok (.iconst 1, 1) := by decide +kernel
theorem dX9_does_113 : decode cX9_does 113 = .ok (.invokevirtual 168, 3) := by decide +kernel
theorem dX9_does_116 : decode cX9_does 116 = .ok (.ireturn, 1) := by decide +kernel
theorem dX9_does_117 : decode cX9_does 117 = .ok (.aload_n 0, 1) := by decide +kernel
theorem dX9_does_118 : decode cX9_does 118 = .ok (.iload_n 2, 1) := by decide +kernel
theorem dX9_does_119 : decode cX9_does 119 = .ok (.iload_n 3, 1) := by decide +kernel
theorem dX9_does_120 : decode cX9_does 120 = .ok (.iconst 0, 1) := by decide +kernel
theorem dX9_does_121 : decode cX9_does 121 = .ok (.invokevirtual 168, 3) := by decide +kernel
theorem dX9_does_124 : decode cX9_does 124 = .ok (.ireturn, 1) := by decide +kernel
theorem dX9_does_125 : decode cX9_does 125 = .ok (.aload_n 0, 1) := by decide +kernel
theorem dX9_does_126 : decode cX9_does 126 = .ok (.iload_n 2, 1) := by decide +kernel
theorem dX9_does_127 : decode cX9_does 127 = .ok (.invokevirtual 179, 3) := by decide +kernel
theorem dX9_does_130 : decode cX9_does 130 = .ok (.ireturn, 1) := by decide +kernel
theorem dX9_isBehind_0 : decode cX9_isBehind 0 = .ok (.aload_n 0, 1) := by decide +kernel
theorem dX9_isBehind_1 : decode cX9_isBehind 1 = .ok (.iload_n 1, 1) := by decide +kernel
theorem dX9_isBehind_2 : decode cX9_isBehind 2 = .ok (.ifCond .eq 10, 3) := by decide +kernel
theorem dX9_isBehind_5 : decode cX9_isBehind 5 = .ok (.aload_n 0, 1) := by decide +kernel
theorem dX9_isBehind_6 : decode cX9_isBehind 6 = .ok (.getfield 48, 3) := by decide +kernel
theorem dX9_isBehind_9 : decode cX9_isBehind 9 = .ok (.goto 4, 3) := by decide +kernel
theorem dX9_isBehind_12 : decode cX9_isBehind 12 = .ok (.iconst 0, 1) := by decide +kernel
theorem dX9_isBehind_13 : decode cX9_isBehind 13 = .ok (.putfield 54, 3) := by decide +kernel
theorem dX9_isBehind_16 : decode cX9_isBehind 16 = .ok (.aload_n 0, 1) := by decide +kernel
theorem dX9_isBehind_17 : decode cX9_isBehind 17 = .ok (.iload_n 1, 1) := by decide +kernel
theorem dX9_isBehind_18 : decode cX9_isBehind 18 = .ok (.ifCond .eq 10, 3) := by decide +kernel
theorem dX9_isBehind_21 : decode cX9_isBehind 21 = .ok (.aload_n 0, 1) := by decide +kernel
theorem dX9_isBehind_22 : decode cX9_isBehind 22 = .ok (.getfield 51, 3) := by decide +kernel
theorem dX9_isBehind_25 : decode cX9_isBehind 25 = .ok (.goto 4, 3) := by decide +kernel
theorem dX9_isBehind_28 : decode cX9_isBehind 28 = .ok (.iconst 0, 1) := by decide +kernel
theorem dX9_isBehind_29 : decode cX9_isBehind 29 = .ok (.putfield 248, 3) := by decide +kernel
theorem dX9_isBehind_32 : decode cX9_isBehind 32 = .ok (.aload_n 0, 1) := by decide +kernel
theorem dX9_isBehind_33 : decode cX9_isBehind 33 = .ok (.iload_n 1, 1) := by decide +kernel
theorem dX9_isBehind_34 : decode cX9_isBehind 34 = .ok (.ifCond .eq 8, 3) := by decide +kernel
theorem dX9_isBehind_37 : decode cX9_isBehind 37 = .ok (.bipush 8, 2) := by decide +kernel
theorem dX9_isBehind_39 : decode cX9_isBehind 39 = .ok (.goto 5, 3) := by decide +kernel
theorem dX9_isBehind_42 : decode cX9_isBehind 42 = .ok (.bipush 9, 2) := by decide +kernel
theorem dX9_isBehind_44 : decode cX9_isBehind 44 = .ok (.putfield 48, 3) := by decide +kernel
theorem dX9_isBehind_47 : decode cX9_isBehind 47 = .ok (.aload_n 0, 1) := by decide +kernel
theorem dX9_isBehind_48 : decode cX9_isBehind 48 = .ok (.iload_n 2, 1) := by decide +kernel
theorem dX9_isBehind_49 : decode cX9_isBehind 49 = .ok (.putfield 51, 3) := by decide +kernel
theorem dX9_isBehind_52 : decode cX9_isBehind 52 = .ok (.return_, 1) := by decide +kernel
theorem dX9_read_0 : decode cX9_read 0 = .ok (.aload_n 0, 1) := by decide +kernel
theorem dX9_read_1 : decode cX9_read 1 = .ok (.invokevirtual 251, 3) := by decide +kernel
theorem dX9_read_4 : decode cX9_read 4 = .ok (.istore_n 1, 1) := by decide +kernel
theorem dX9_read_5 : decode cX9_read 5 = .ok (.aload_n 0, 1) := by decide +kernel
theorem dX9_read_6 : decode cX9_read 6 = .ok (.iconst 0, 1) := by decide +kernel
theorem dX9_read_7 : decode cX9_read 7 = .ok (.putfield 182, 3) := by decide +kernel
theorem dX9_read_10 : decode cX9_read 10 = .ok (.iload_n 1, 1) := by decide +kernel
theorem dX9_read_11 : decode cX9_read 11 = .ok (.ifCond .ne 14, 3) := by decide +kernel
theorem dX9_read_14 : decode cX9_read 14 = .ok (.aload_n 0, 1) := by decide +kernel
theorem dX9_read_15 : decode cX9_read 15 = .ok (.aload_n 0, 1) := by decide +kernel
theorem dX9_read_16 : decode cX9_read 16 = .ok (.getfield 185, 3) := by decide +kernel
theorem dX9_read_19 : decode cX9_read 19 = .ok (.putfield 25, 3) := by decide +kernel
theorem dX9_read_22 : decode cX9_read 22 = .ok (.bipush (-2), 2) := by decide +kernel
theorem dX9_read_24 : decode cX9_read 24 = .ok (.ireturn, 1) := by decide +kernel
theorem dX9_read_25 : decode cX9_read 25 = .ok (.aload_n 0, 1) := by decide +kernel
theorem dX9_read_26 : decode cX9_read 26 = .ok (.invokevirtual 96, 3) := by decide +kernel
theorem dX9_read_29 : decode cX9_read 29 = .ok (.iconst 0, 1) := by decide +kernel
theorem dX9_read_30 : decode cX9_read 30 = .ok (.istore_n 2, 1) := by decide +kernel
theorem dX9_read_31 : decode cX9_read 31 = .ok (.iload_n 2, 1) := by decide +kernel
theorem dX9_read_32 : decode cX9_read 32 = .ok (.aload_n 0, 1) := by decide +kernel
theorem dX9_read_33 : decode cX9_read 33 = .ok (.getfield 233, 3) := by decide +kernel
theorem dX9_read_36 : decode cX9_read 36 = .ok (.if_icmp .ge 53, 3) := by decide +kernel
theorem dX9_read_39 : decode cX9_read 39 = .ok (.aload_n 0, 1) := by decide +kernel
theorem dX9_read_40 : decode cX9_read 40 = .ok (.iconst 3, 1) := by decide +kernel
theorem dX9_read_41 : decode cX9_read 41 = .ok (.iload_n 2, 1) := by decide +kernel
theorem dX9_read_42 : decode cX9_read 42 = .ok (.imul, 1) := by decide +kernel
theorem dX9_read_43 : decode cX9_read 43 = .ok (.invokevirtual 254, 3) := by decide +kernel
theorem dX9_read_46 : decode cX9_read 46 = .ok (.istore_n 3, 1) := by decide +kernel
theorem dX9_read_47 : decode cX9_read 47 = .ok (.iload_n 3, 1) := by decide +kernel
theorem dX9_read_48 : decode cX9_read 48 = .ok (.ifCond .ge 35, 3) := by decide +kernel
theorem dX9_read_51 : decode cX9_read 51 = .ok (.aload_n 0, 1) := by decide +kernel
theorem dX9_read_52 : decode cX9_read 52 = .ok (.iload_n 3, 1) := by decide +kernel
theorem dX9_read_53 : decode cX9_read 53 = .ok (.bipush (-3), 2) := by decide +kernel
theorem dX9_read_55 : decode cX9_read 55 = .ok (.if_icmp .ne 7, 3) := by decide +kernel
theorem dX9_read_58 : decode cX9_read 58 = .ok (.iconst 1, 1) := by decide +kernel
theorem dX9_read_59 : decode cX9_read 59 = .ok (.goto 4, 3) := by decide +kernel
theorem dX9_read_62 : decode cX9_read 62 = .ok (.iconst 0, 1) := by decide +kernel
theorem dX9_read_63 : decode cX9_read 63 = .ok (.iload_n 2, 1) := by decide +kernel
theorem dX9_read_64 : decode cX9_read 64 = .ok (.invokevirtual 257, 3) := by decide +kernel
theorem dX9_read_67 : decode cX9_read 67 = .ok (.aload_n 0, 1) := by decide +kernel
theorem dX9_read_68 : decode cX9_read 68 = .ok (.getfield 13, 3) := by decide +kernel
theorem dX9_read_71 : decode cX9_read 71 = .ok (.iconst 0, 1) := by decide +kernel
theorem dX9_read_72 : decode cX9_read 72 = .ok (.aload_n 0, 1) := by decide +kernel
theorem dX9_read_73 : decode cX9_read 73 = .ok (.getfield 9, 3) := by decide +kernel
theorem dX9_read_76 : decode cX9_read 76 = .ok (.iconst 0, 1) := by decide +kernel
theorem dX9_read_77 : decode cX9_read 77 = .ok (.invokestatic 38, 3) := by decide +kernel
theorem dX9_read_80 : decode cX9_read 80 = .ok (.bipush (-3), 2) := by decide +kernel
theorem dX9_read_82 : decode cX9_read 82 = .ok (.ireturn, 1) := by decide +kernel
theorem dX9_read_83 : decode cX9_read 83 = .ok (.iinc 2 1, 3) := by decide +kernel
theorem dX9_read_86 : decode cX9_read 86 = .ok (.goto (-55), 3) := by decide +kernel
theorem dX9_read_89 : decode cX9_read 89 = .ok (.aload_n 0, 1) := by decide +kernel
theorem dX9_read_90 : decode cX9_read 90 = .ok (.aload_n 0, 1) := by decide +kernel
theorem dX9_read_91 : decode cX9_read 91 = .ok (.getfield 233, 3) := by decide +kernel
theorem dX9_read_94 : decode cX9_read 94 = .ok (.invokevirtual 102, 3) := by decide +kernel
theorem dX9_read_97 : decode cX9_read 97 = .ok (.ireturn, 1) := by decide +kernel
theorem dX9_fault_0 : decode cX9_fault 0 = .ok (.aload_n 0, 1) := by decide +kernel
theorem dX9_fault_1 : decode cX9_fault 1 = .ok (.getfield 25, 3) := by decide +kernel
theorem dX9_fault_4 : decode cX9_fault 4 = .ok (.ireturn, 1) := by decide +kernel
theorem dX9_reason_0 : decode cX9_reason 0 = .ok (.iload_n 1, 1) := by decide +kernel
theorem dX9_reason_1 : decode cX9_reason 1 = .ok (.iconst 0, 1) := by decide +kernel
theorem dX9_reason_2 : decode cX9_reason 2 = .ok (.iconst 1, 1) := by decide +kernel
theorem dX9_reason_3 : decode cX9_reason 3 = .ok (.invokestatic 61, 3) := by decide +kernel
theorem dX9_reason_6 : decode cX9_reason 6 = .ok (.ifCond .ne 6, 3) := by decide +kernel
theorem dX9_reason_9 : decode cX9_reason 9 = .ok (.bipush (-2), 2) := by decide +kernel
theorem dX9_reason_11 : decode cX9_reason 11 = .ok (.ireturn, 1) := by decide +kernel
theorem dX9_reason_12 : decode cX9_reason 12 = .ok (.iload_n 1, 1) := by decide +kernel
theorem dX9_reason_13 : decode cX9_reason 13 = .ok (.ifCond .ne 13, 3) := by decide +kernel
theorem dX9_reason_16 : decode cX9_reason 16 = .ok (.aload_n 0, 1) := by decide +kernel
theorem dX9_reason_17 : decode cX9_reason 17 = .ok (.getfield 48, 3) := by decide +kernel
theorem dX9_reason_20 : decode cX9_reason 20 = .ok (.ifCond .ne 16, 3) := by decide +kernel
theorem dX9_reason_23 : decode cX9_reason 23 = .ok (.goto 10, 3) := by decide +kernel
theorem dX9_reason_26 : decode cX9_reason 26 = .ok (.aload_n 0, 1) := by decide +kernel
theorem dX9_reason_27 : decode cX9_reason 27 = .ok (.getfield 54, 3) := by decide +kernel
theorem dX9_reason_30 : decode cX9_reason 30 = .ok (.ifCond .ne 6, 3) := by decide +kernel
theorem dX9_reason_33 : decode cX9_reason 33 = .ok (.bipush (-4), 2) := by decide +kernel
theorem dX9_reason_35 : decode cX9_reason 35 = .ok (.ireturn, 1) := by decide +kernel
theorem dX9_reason_36 : decode cX9_reason 36 = .ok (.iload_n 1, 1) := by decide +kernel
theorem dX9_reason_37 : decode cX9_reason 37 = .ok (.ifCond .ne 21, 3) := by decide +kernel
theorem dX9_reason_40 : decode cX9_reason 40 = .ok (.iload_n 2, 1) := by decide +kernel
theorem dX9_reason_41 : decode cX9_reason 41 = .ok (.ifCond .eq 10, 3) := by decide +kernel
theorem dX9_reason_44 : decode cX9_reason 44 = .ok (.aload_n 0, 1) := by decide +kernel
theorem dX9_reason_45 : decode cX9_reason 45 = .ok (.getfield 51, 3) := by decide +kernel
theorem dX9_reason_48 : decode cX9_reason 48 = .ok (.goto 25, 3) := by decide +kernel
theorem dX9_reason_51 : decode cX9_reason 51 = .ok (.aload_n 0, 1) := by decide +kernel
theorem dX9_reason_52 : decode cX9_reason 52 = .ok (.getfield 48, 3) := by decide +kernel
theorem dX9_reason_55 : decode cX9_reason 55 = .ok (.goto 18, 3) := by decide +kernel
theorem dX9_reason_58 : decode cX9_reason 58 = .ok (.iload_n 2, 1) := by decide +kernel
theorem dX9_reason_59 : decode cX9_reason 59 = .ok (.ifCond .eq 10, 3) := by decide +kernel
theorem dX9_reason_62 : decode cX9_reason 62 = .ok (.aload_n 0, 1) := by decide +kernel
theorem dX9_reason_63 : decode cX9_reason 63 = .ok (.getfield 248, 3) := by decide +kernel
theorem dX9_reason_66 : decode cX9_reason 66 = .ok (.goto 7, 3) := by decide +kernel
theorem dX9_reason_69 : decode cX9_reason 69 = .ok (.aload_n 0, 1) := by decide +kernel
theorem dX9_reason_70 : decode cX9_reason 70 = .ok (.getfield 54, 3) := by decide +kernel
theorem dX9_reason_73 : decode cX9_reason 73 = .ok (.ireturn, 1) := by decide +kernel
theorem dX9_reachedBy_0 : decode cX9_reachedBy 0 = .ok (.iconst 0, 1) := by decide +kernel
theorem dX9_reachedBy_1 : decode cX9_reachedBy 1 = .ok (.istore_n 2, 1) := by decide +kernel
theorem dX9_reachedBy_2 : decode cX9_reachedBy 2 = .ok (.iconst 0, 1) := by decide +kernel
theorem dX9_reachedBy_3 : decode cX9_reachedBy 3 = .ok (.istore_n 3, 1) := by decide +kernel
theorem dX9_reachedBy_4 : decode cX9_reachedBy 4 = .ok (.iload_n 3, 1) := by decide +kernel
theorem dX9_reachedBy_5 : decode cX9_reachedBy 5 = .ok (.aload_n 0, 1) := by decide +kernel
theorem dX9_reachedBy_6 : decode cX9_reachedBy 6 = .ok (.getfield 9, 3) := by decide +kernel
theorem dX9_reachedBy_9 : decode cX9_reachedBy 9 = .ok (.iconst 1, 1) := by decide +kernel
theorem dX9_reachedBy_10 : decode cX9_reachedBy 10 = .ok (.iaload, 1) := by decide +kernel
theorem dX9_reachedBy_11 : decode cX9_reachedBy 11 = .ok (.if_icmp .ge 26, 3) := by decide +kernel
theorem dX9_reachedBy_14 : decode cX9_reachedBy 14 = .ok (.iload_n 2, 1) := by decide +kernel
theorem dX9_reachedBy_15 : decode cX9_reachedBy 15 = .ok (.aload_n 0, 1) := by decide +kernel
theorem dX9_reachedBy_16 : decode cX9_reachedBy 16 = .ok (.iload_n 1, 1) := by decide +kernel
theorem dX9_reachedBy_17 : decode cX9_reachedBy 17 = .ok (.iload_n 3, 1) := by decide +kernel
theorem dX9_reachedBy_18 : decode cX9_reachedBy 18 = .ok (.invokevirtual 108, 3) := by decide +kernel
theorem dX9_reachedBy_21 : decode cX9_reachedBy 21 = .ok (.ifCond .eq 7, 3) := by decide +kernel
theorem dX9_reachedBy_24 : decode cX9_reachedBy 24 = .ok (.iconst 1, 1) := by decide +kernel
theorem dX9_reachedBy_25 : decode cX9_reachedBy 25 = .ok (.goto 4, 3) := by decide +kernel
theorem dX9_reachedBy_28 : decode cX9_reachedBy 28 = .ok (.iconst 0, 1) := by decide +kernel
theorem dX9_reachedBy_29 : decode cX9_reachedBy 29 = .ok (.iadd, 1) := by decide +kernel
theorem dX9_reachedBy_30 : decode cX9_reachedBy 30 = .ok (.istore_n 2, 1) := by decide +kernel
theorem dX9_reachedBy_31 : decode cX9_reachedBy 31 = .ok (.iinc 3 1, 3) := by decide +kernel
theorem dX9_reachedBy_34 : decode cX9_reachedBy 34 = .ok (.goto (-30), 3) := by decide +kernel
theorem dX9_reachedBy_37 : decode cX9_reachedBy 37 = .ok (.iload_n 2, 1) := by decide +kernel
theorem dX9_reachedBy_38 : decode cX9_reachedBy 38 = .ok (.ireturn, 1) := by decide +kernel
theorem dX9_driverOf_0 : decode cX9_driverOf 0 = .ok (.aload_n 0, 1) := by decide +kernel
theorem dX9_driverOf_1 : decode cX9_driverOf 1 = .ok (.iload_n 1, 1) := by decide +kernel
theorem dX9_driverOf_2 : decode cX9_driverOf 2 = .ok (.invokevirtual 65, 3) := by decide +kernel
theorem dX9_driverOf_5 : decode cX9_driverOf 5 = .ok (.ifCond .ne 5, 3) := by decide +kernel
theorem dX9_driverOf_8 : decode cX9_driverOf 8 = .ok (.iconst (-1), 1) := by decide +kernel
theorem dX9_driverOf_9 : decode cX9_driverOf 9 = .ok (.ireturn, 1) := by decide +kernel
theorem dX9_driverOf_10 : decode cX9_driverOf 10 = .ok (.iload_n 2, 1) := by decide +kernel
theorem dX9_driverOf_11 : decode cX9_driverOf 11 = .ok (.tableswitch 44 8 10 #[25, 31, 31], 25) := by decide +kernel
theorem dX9_driverOf_36 : decode cX9_driverOf 36 = .ok (.aload_n 0, 1) := by decide +kernel
theorem dX9_driverOf_37 : decode cX9_driverOf 37 = .ok (.iload_n 1, 1) := by decide +kernel
theorem dX9_driverOf_38 : decode cX9_driverOf 38 = .ok (.invokevirtual 261, 3) := by decide +kernel
theorem dX9_driverOf_41 : decode cX9_driverOf 41 = .ok (.ireturn, 1) := by decide +kernel
theorem dX9_driverOf_42 : decode cX9_driverOf 42 = .ok (.aload_n 0, 1) := by decide +kernel
theorem dX9_driverOf_43 : decode cX9_driverOf 43 = .ok (.iload_n 1, 1) := by decide +kernel
theorem dX9_driverOf_44 : decode cX9_driverOf 44 = .ok (.iload_n 2, 1) := by decide +kernel
theorem dX9_driverOf_45 : decode cX9_driverOf 45 = .ok (.bipush 9, 2) := by decide +kernel
theorem dX9_driverOf_47 : decode cX9_driverOf 47 = .ok (.isub, 1) := by decide +kernel
theorem dX9_driverOf_48 : decode cX9_driverOf 48 = .ok (.bipush 8, 2) := by decide +kernel
theorem dX9_driverOf_50 : decode cX9_driverOf 50 = .ok (.iadd, 1) := by decide +kernel
theorem dX9_driverOf_51 : decode cX9_driverOf 51 = .ok (.invokevirtual 69, 3) := by decide +kernel
theorem dX9_driverOf_54 : decode cX9_driverOf 54 = .ok (.ireturn, 1) := by decide +kernel
theorem dX9_driverOf_55 : decode cX9_driverOf 55 = .ok (.iload_n 2, 1) := by decide +kernel
theorem dX9_driverOf_56 : decode cX9_driverOf 56 = .ok (.iconst 0, 1) := by decide +kernel
theorem dX9_driverOf_57 : decode cX9_driverOf 57 = .ok (.bipush 7, 2) := by decide +kernel
theorem dX9_driverOf_59 : decode cX9_driverOf 59 = .ok (.invokestatic 61, 3) := by decide +kernel
theorem dX9_driverOf_62 : decode cX9_driverOf 62 = .ok (.ifCond .eq 12, 3) := by decide +kernel
theorem dX9_driverOf_65 : decode cX9_driverOf 65 = .ok (.aload_n 0, 1) := by decide +kernel
theorem dX9_driverOf_66 : decode cX9_driverOf 66 = .ok (.iload_n 1, 1) := by decide +kernel
theorem dX9_driverOf_67 : decode cX9_driverOf 67 = .ok (.iload_n 2, 1) := by decide +kernel
theorem dX9_driverOf_68 : decode cX9_driverOf 68 = .ok (.invokevirtual 69, 3) := by decide +kernel
theorem dX9_driverOf_71 : decode cX9_driverOf 71 = .ok (.goto 5, 3) := by decide +kernel
theorem dX9_driverOf_74 : decode cX9_driverOf 74 = .ok (.bipush (-2), 2) := by decide +kernel
theorem dX9_driverOf_76 : decode cX9_driverOf 76 = .ok (.ireturn, 1) := by decide +kernel
theorem dX9_isLine_0 : decode cX9_isLine 0 = .ok (.aload_n 0, 1) := by decide +kernel
theorem dX9_isLine_1 : decode cX9_isLine 1 = .ok (.iload_n 1, 1) := by decide +kernel
theorem dX9_isLine_2 : decode cX9_isLine 2 = .ok (.invokevirtual 65, 3) := by decide +kernel
theorem dX9_isLine_5 : decode cX9_isLine 5 = .ok (.ifCond .eq 21, 3) := by decide +kernel
theorem dX9_isLine_8 : decode cX9_isLine 8 = .ok (.iload_n 2, 1) := by decide +kernel
theorem dX9_isLine_9 : decode cX9_isLine 9 = .ok (.iconst 1, 1) := by decide +kernel
theorem dX9_isLine_10 : decode cX9_isLine 10 = .ok (.aload_n 0, 1) := by decide +kernel
theorem dX9_isLine_11 : decode cX9_isLine 11 = .ok (.iload_n 1, 1) := by decide +kernel
theorem dX9_isLine_12 : decode cX9_isLine 12 = .ok (.iconst 5, 1) := by decide +kernel
theorem dX9_isLine_13 : decode cX9_isLine 13 = .ok (.invokevirtual 69, 3) := by decide +kernel
theorem dX9_isLine_16 : decode cX9_isLine 16 = .ok (.invokestatic 61, 3) := by decide +kernel
theorem dX9_isLine_19 : decode cX9_isLine 19 = .ok (.ifCond .eq 7, 3) := by decide +kernel
theorem dX9_isLine_22 : decode cX9_isLine 22 = .ok (.iconst 1, 1) := by decide +kernel
theorem dX9_isLine_23 : decode cX9_isLine 23 = .ok (.goto 4, 3) := by decide +kernel
theorem dX9_isLine_26 : decode cX9_isLine 26 = .ok (.iconst 0, 1) := by decide +kernel
theorem dX9_isLine_27 : decode cX9_isLine 27 = .ok (.ireturn, 1) := by decide +kernel
theorem dX9_lineOf_0 : decode cX9_lineOf 0 = .ok (.aload_n 0, 1) := by decide +kernel
theorem dX9_lineOf_1 : decode cX9_lineOf 1 = .ok (.iload_n 1, 1) := by decide +kernel
theorem dX9_lineOf_2 : decode cX9_lineOf 2 = .ok (.iload_n 2, 1) := by decide +kernel
theorem dX9_lineOf_3 : decode cX9_lineOf 3 = .ok (.invokevirtual 264, 3) := by decide +kernel
theorem dX9_lineOf_6 : decode cX9_lineOf 6 = .ok (.ifCond .ne 5, 3) := by decide +kernel
theorem dX9_lineOf_9 : decode cX9_lineOf 9 = .ok (.iconst (-1), 1) := by decide +kernel
theorem dX9_lineOf_10 : decode cX9_lineOf 10 = .ok (.ireturn, 1) := by decide +kernel
theorem dX9_lineOf_11 : decode cX9_lineOf 11 = .ok (.aload_n 0, 1) := by decide +kernel
theorem dX9_lineOf_12 : decode cX9_lineOf 12 = .ok (.iload_n 1, 1) := by decide +kernel
theorem dX9_lineOf_13 : decode cX9_lineOf 13 = .ok (.iload_n 3, 1) := by decide +kernel
theorem dX9_lineOf_14 : decode cX9_lineOf 14 = .ok (.ifCond .eq 8, 3) := by decide +kernel
theorem dX9_lineOf_17 : decode cX9_lineOf 17 = .ok (.bipush 22, 2) := by decide +kernel
theorem dX9_lineOf_19 : decode cX9_lineOf 19 = .ok (.goto 5, 3) := by decide +kernel
theorem dX9_lineOf_22 : decode cX9_lineOf 22 = .ok (.bipush 10, 2) := by decide +kernel
theorem dX9_lineOf_24 : decode cX9_lineOf 24 = .ok (.iload_n 2, 1) := by decide +kernel
theorem dX9_lineOf_25 : decode cX9_lineOf 25 = .ok (.iadd, 1) := by decide +kernel
theorem dX9_lineOf_26 : decode cX9_lineOf 26 = .ok (.iconst 1, 1) := by decide +kernel
theorem dX9_lineOf_27 : decode cX9_lineOf 27 = .ok (.isub, 1) := by decide +kernel
theorem dX9_lineOf_28 : decode cX9_lineOf 28 = .ok (.invokevirtual 69, 3) := by decide +kernel
theorem dX9_lineOf_31 : decode cX9_lineOf 31 = .ok (.ireturn, 1) := by decide +kernel
theorem dX9_leader_0 : decode cX9_leader 0 = .ok (.bipush (-4), 2) := by decide +kernel
theorem dX9_leader_2 : decode cX9_leader 2 = .ok (.istore_n 1, 1) := by decide +kernel
theorem dX9_leader_3 : decode cX9_leader 3 = .ok (.iconst 0, 1) := by decide +kernel
theorem dX9_leader_4 : decode cX9_leader 4 = .ok (.istore_n 2, 1) := by decide +kernel
theorem dX9_leader_5 : decode cX9_leader 5 = .ok (.iload_n 2, 1) := by decide +kernel
theorem dX9_leader_6 : decode cX9_leader 6 = .ok (.aload_n 0, 1) := by decide +kernel
theorem dX9_leader_7 : decode cX9_leader 7 = .ok (.getfield 9, 3) := by decide +kernel
theorem dX9_leader_10 : decode cX9_leader 10 = .ok (.iconst 1, 1) := by decide +kernel
theorem dX9_leader_11 : decode cX9_leader 11 = .ok (.iaload, 1) := by decide +kernel
theorem dX9_leader_12 : decode cX9_leader 12 = .ok (.if_icmp .ge 64, 3) := by decide +kernel
theorem dX9_leader_15 : decode cX9_leader 15 = .ok (.aload_n 0, 1) := by decide +kernel
theorem dX9_leader_16 : decode cX9_leader 16 = .ok (.iload_n 2, 1) := by decide +kernel
theorem dX9_leader_17 : decode cX9_leader 17 = .ok (.iconst 0, 1) := by decide +kernel
theorem dX9_leader_18 : decode cX9_leader 18 = .ok (.invokevirtual 69, 3) := by decide +kernel
theorem dX9_leader_21 : decode cX9_leader 21 = .ok (.iconst 2, 1) := by decide +kernel
theorem dX9_leader_22 : decode cX9_leader 22 = .ok (.if_icmp .ne 15, 3) := by decide +kernel
theorem dX9_leader_25 : decode cX9_leader 25 = .ok (.aload_n 0, 1) := by decide +kernel
theorem dX9_leader_26 : decode cX9_leader 26 = .ok (.iload_n 2, 1) := by decide +kernel
theorem dX9_leader_27 : decode cX9_leader 27 = .ok (.invokevirtual 78, 3) := by decide +kernel
theorem dX9_leader_30 : decode cX9_leader 30 = .ok (.ifCond .eq 7, 3) := by decide +kernel
theorem dX9_leader_33 : decode cX9_leader 33 = .ok (.iconst 1, 1) := by decide +kernel
theorem dX9_leader_34 : decode cX9_leader 34 = .ok (.goto 4, 3) := by decide +kernel
theorem dX9_leader_37 : decode cX9_leader 37 = .ok (.iconst 0, 1) := by decide +kernel
theorem dX9_leader_38 : decode cX9_leader 38 = .ok (.istore_n 3, 1) := by decide +kernel
theorem dX9_leader_39 : decode cX9_leader 39 = .ok (.iload_n 3, 1) := by decide +kernel
theorem dX9_leader_40 : decode cX9_leader 40 = .ok (.ifCond .eq 28, 3) := by decide +kernel
theorem dX9_leader_43 : decode cX9_leader 43 = .ok (.iload_n 1, 1) := by decide +kernel
theorem dX9_leader_44 : decode cX9_leader 44 = .ok (.bipush (-4), 2) := by decide +kernel
theorem dX9_leader_46 : decode cX9_leader 46 = .ok (.if_icmp .eq 18, 3) := by decide +kernel
theorem dX9_leader_49 : decode cX9_leader 49 = .ok (.aload_n 0, 1) := by decide +kernel
theorem dX9_leader_50 : decode cX9_leader 50 = .ok (.iload_n 2, 1) := by decide +kernel
theorem dX9_leader_51 : decode cX9_leader 51 = .ok (.iconst 1, 1) := by decide +kernel
theorem dX9_leader_52 : decode cX9_leader 52 = .ok (.invokevirtual 69, 3) := by decide +kernel
theorem dX9_leader_55 : decode cX9_leader 55 = .ok (.aload_n 0, 1) := by decide +kernel
theorem dX9_leader_56 : decode cX9_leader 56 = .ok (.iload_n 1, 1) := by decide +kernel
theorem dX9_leader_57 : decode cX9_leader 57 = .ok (.iconst 1, 1) := by decide +kernel
theorem dX9_leader_58 : decode cX9_leader 58 = .ok (.invokevirtual 69, 3) := by decide +kernel
theorem dX9_leader_61 : decode cX9_leader 61 = .ok (.if_icmp .le 7, 3) := by decide +kernel
theorem dX9_leader_64 : decode cX9_leader 64 = .ok (.iload_n 2, 1) := by decide +kernel
theorem dX9_leader_65 : decode cX9_leader 65 = .ok (.goto 4, 3) := by decide +kernel
theorem dX9_leader_68 : decode cX9_leader 68 = .ok (.iload_n 1, 1) := by decide +kernel
theorem dX9_leader_69 : decode cX9_leader 69 = .ok (.istore_n 1, 1) := by decide +kernel
theorem dX9_leader_70 : decode cX9_leader 70 = .ok (.iinc 2 1, 3) := by decide +kernel
theorem dX9_leader_73 : decode cX9_leader 73 = .ok (.goto (-68), 3) := by decide +kernel
theorem dX9_leader_76 : decode cX9_leader 76 = .ok (.iload_n 1, 1) := by decide +kernel
theorem dX9_leader_77 : decode cX9_leader 77 = .ok (.ireturn, 1) := by decide +kernel
theorem dX9_reaches_0 : decode cX9_reaches 0 = .ok (.aload_n 0, 1) := by decide +kernel
theorem dX9_reaches_1 : decode cX9_reaches 1 = .ok (.iload_n 1, 1) := by decide +kernel
theorem dX9_reaches_2 : decode cX9_reaches 2 = .ok (.iload_n 2, 1) := by decide +kernel
theorem dX9_reaches_3 : decode cX9_reaches 3 = .ok (.invokevirtual 162, 3) := by decide +kernel
theorem dX9_reaches_6 : decode cX9_reaches 6 = .ok (.ifCond .eq 16, 3) := by decide +kernel
theorem dX9_reaches_9 : decode cX9_reaches 9 = .ok (.aload_n 0, 1) := by decide +kernel
theorem dX9_reaches_10 : decode cX9_reaches 10 = .ok (.iload_n 1, 1) := by decide +kernel
theorem dX9_reaches_11 : decode cX9_reaches 11 = .ok (.iload_n 2, 1) := by decide +kernel
theorem dX9_reaches_12 : decode cX9_reaches 12 = .ok (.invokevirtual 108, 3) := by decide +kernel
theorem dX9_reaches_15 : decode cX9_reaches 15 = .ok (.ifCond .eq 7, 3) := by decide +kernel
theorem dX9_reaches_18 : decode cX9_reaches 18 = .ok (.iconst 1, 1) := by decide +kernel
theorem dX9_reaches_19 : decode cX9_reaches 19 = .ok (.goto 4, 3) := by decide +kernel
theorem dX9_reaches_22 : decode cX9_reaches 22 = .ok (.iconst 0, 1) := by decide +kernel
theorem dX9_reaches_23 : decode cX9_reaches 23 = .ok (.ireturn, 1) := by decide +kernel
theorem dX9_longer_0 : decode cX9_longer 0 = .ok (.aload_n 0, 1) := by decide +kernel
theorem dX9_longer_1 : decode cX9_longer 1 = .ok (.iload_n 1, 1) := by decide +kernel
theorem dX9_longer_2 : decode cX9_longer 2 = .ok (.iload_n 2, 1) := by decide +kernel
theorem dX9_longer_3 : decode cX9_longer 3 = .ok (.invokevirtual 162, 3) := by decide +kernel
theorem dX9_longer_6 : decode cX9_longer 6 = .ok (.ifCond .eq 12, 3) := by decide +kernel
theorem dX9_longer_9 : decode cX9_longer 9 = .ok (.aload_n 0, 1) := by decide +kernel
theorem dX9_longer_10 : decode cX9_longer 10 = .ok (.iload_n 1, 1) := by decide +kernel
theorem dX9_longer_11 : decode cX9_longer 11 = .ok (.iload_n 2, 1) := by decide +kernel
theorem dX9_longer_12 : decode cX9_longer 12 = .ok (.invokevirtual 105, 3) := by decide +kernel
theorem dX9_longer_15 : decode cX9_longer 15 = .ok (.goto 5, 3) := by decide +kernel
theorem dX9_longer_18 : decode cX9_longer 18 = .ok (.bipush (-4), 2) := by decide +kernel
theorem dX9_longer_20 : decode cX9_longer 20 = .ok (.ireturn, 1) := by decide +kernel
theorem dX9_wouldGive_0 : decode cX9_wouldGive 0 = .ok (.iload_n 1, 1) := by decide +kernel
theorem dX9_wouldGive_1 : decode cX9_wouldGive 1 = .ok (.iload_n 2, 1) := by decide +kernel
theorem dX9_wouldGive_2 : decode cX9_wouldGive 2 = .ok (.if_icmp .ne 5, 3) := by decide +kernel
theorem dX9_wouldGive_5 : decode cX9_wouldGive 5 = .ok (.iconst 1, 1) := by decide +kernel
theorem dX9_wouldGive_6 : decode cX9_wouldGive 6 = .ok (.ireturn, 1) := by decide +kernel
theorem dX9_wouldGive_7 : decode cX9_wouldGive 7 = .ok (.aload_n 0, 1) := by decide +kernel
theorem dX9_wouldGive_8 : decode cX9_wouldGive 8 = .ok (.iload_n 2, 1) := by decide +kernel
theorem dX9_wouldGive_9 : decode cX9_wouldGive 9 = .ok (.iconst 1, 1) := by decide +kernel
theorem dX9_wouldGive_10 : decode cX9_wouldGive 10 = .ok (.invokevirtual 69, 3) := by decide +kernel
theorem dX9_wouldGive_13 : decode cX9_wouldGive 13 = .ok (.iconst 1, 1) := by decide +kernel
theorem dX9_wouldGive_14 : decode cX9_wouldGive 14 = .ok (.iadd, 1) := by decide +kernel
theorem dX9_wouldGive_15 : decode cX9_wouldGive 15 = .ok (.istore_n 3, 1) := by decide +kernel
theorem dX9_wouldGive_16 : decode cX9_wouldGive 16 = .ok (.aload_n 0, 1) := by decide +kernel
theorem dX9_wouldGive_17 : decode cX9_wouldGive 17 = .ok (.iload_n 1, 1) := by decide +kernel
theorem dX9_wouldGive_18 : decode cX9_wouldGive 18 = .ok (.iconst 1, 1) := by decide +kernel
theorem dX9_wouldGive_19 : decode cX9_wouldGive 19 = .ok (.invokevirtual 69, 3) := by decide +kernel
theorem dX9_wouldGive_22 : decode cX9_wouldGive 22 = .ok (.iload_n 3, 1) := by decide +kernel
theorem dX9_wouldGive_23 : decode cX9_wouldGive 23 = .ok (.if_icmp .lt 23, 3) := by decide +kernel
theorem dX9_wouldGive_26 : decode cX9_wouldGive 26 = .ok (.aload_n 0, 1) := by decide +kernel
theorem dX9_wouldGive_27 : decode cX9_wouldGive 27 = .ok (.iload_n 1, 1) := by decide +kernel
theorem dX9_wouldGive_28 : decode cX9_wouldGive 28 = .ok (.iconst 1, 1) := by decide +kernel
theorem dX9_wouldGive_29 : decode cX9_wouldGive 29 = .ok (.invokevirtual 69, 3) := by decide +kernel
theorem dX9_wouldGive_32 : decode cX9_wouldGive 32 = .ok (.iload_n 3, 1) := by decide +kernel
theorem dX9_wouldGive_33 : decode cX9_wouldGive 33 = .ok (.if_icmp .ne 17, 3) := by decide +kernel
theorem dX9_wouldGive_36 : decode cX9_wouldGive 36 = .ok (.aload_n 0, 1) := by decide +kernel
theorem dX9_wouldGive_37 : decode cX9_wouldGive 37 = .ok (.iload_n 1, 1) := by decide +kernel
theorem dX9_wouldGive_38 : decode cX9_wouldGive 38 = .ok (.iconst 4, 1) := by decide +kernel
theorem dX9_wouldGive_39 : decode cX9_wouldGive 39 = .ok (.invokevirtual 69, 3) := by decide +kernel
theorem dX9_wouldGive_42 : decode cX9_wouldGive 42 = .ok (.iconst (-1), 1) := by decide +kernel
theorem dX9_wouldGive_43 : decode cX9_wouldGive 43 = .ok (.if_icmp .ne 7, 3) := by decide +kernel
theorem dX9_wouldGive_46 : decode cX9_wouldGive 46 = .ok (.iconst 1, 1) := by decide +kernel
theorem dX9_wouldGive_47 : decode cX9_wouldGive 47 = .ok (.goto 4, 3) := by decide +kernel
theorem dX9_wouldGive_50 : decode cX9_wouldGive 50 = .ok (.iconst 0, 1) := by decide +kernel
theorem dX9_wouldGive_51 : decode cX9_wouldGive 51 = .ok (.istore 4, 2) := by decide +kernel
theorem dX9_wouldGive_53 : decode cX9_wouldGive 53 = .ok (.iload 4, 2) := by decide +kernel
theorem dX9_wouldGive_55 : decode cX9_wouldGive 55 = .ok (.ifCond .eq 16, 3) := by decide +kernel
theorem dX9_wouldGive_58 : decode cX9_wouldGive 58 = .ok (.aload_n 0, 1) := by decide +kernel
theorem dX9_wouldGive_59 : decode cX9_wouldGive 59 = .ok (.iload_n 1, 1) := by decide +kernel
theorem dX9_wouldGive_60 : decode cX9_wouldGive 60 = .ok (.iload_n 2, 1) := by decide +kernel
theorem dX9_wouldGive_61 : decode cX9_wouldGive 61 = .ok (.invokevirtual 105, 3) := by decide +kernel
theorem dX9_wouldGive_64 : decode cX9_wouldGive 64 = .ok (.ifCond .gt 7, 3) := by decide +kernel
theorem dX9_wouldGive_67 : decode cX9_wouldGive 67 = .ok (.iconst 1, 1) := by decide +kernel
theorem dX9_wouldGive_68 : decode cX9_wouldGive 68 = .ok (.goto 4, 3) := by decide +kernel
theorem dX9_wouldGive_71 : decode cX9_wouldGive 71 = .ok (.iconst 0, 1) := by decide +kernel
theorem dX9_wouldGive_72 : decode cX9_wouldGive 72 = .ok (.ireturn, 1) := by decide +kernel
theorem dX9_wouldVote_0 : decode cX9_wouldVote 0 = .ok (.aload_n 0, 1) := by decide +kernel
theorem dX9_wouldVote_1 : decode cX9_wouldVote 1 = .ok (.iload_n 1, 1) := by decide +kernel
theorem dX9_wouldVote_2 : decode cX9_wouldVote 2 = .ok (.iload_n 2, 1) := by decide +kernel
theorem dX9_wouldVote_3 : decode cX9_wouldVote 3 = .ok (.invokevirtual 162, 3) := by decide +kernel
theorem dX9_wouldVote_6 : decode cX9_wouldVote 6 = .ok (.ifCond .eq 16, 3) := by decide +kernel
theorem dX9_wouldVote_9 : decode cX9_wouldVote 9 = .ok (.aload_n 0, 1) := by decide +kernel
theorem dX9_wouldVote_10 : decode cX9_wouldVote 10 = .ok (.iload_n 1, 1) := by decide +kernel
theorem dX9_wouldVote_11 : decode cX9_wouldVote 11 = .ok (.iload_n 2, 1) := by decide +kernel
theorem dX9_wouldVote_12 : decode cX9_wouldVote 12 = .ok (.invokevirtual 267, 3) := by decide +kernel
theorem dX9_wouldVote_15 : decode cX9_wouldVote 15 = .ok (.ifCond .eq 7, 3) := by decide +kernel
theorem dX9_wouldVote_18 : decode cX9_wouldVote 18 = .ok (.iconst 1, 1) := by decide +kernel
theorem dX9_wouldVote_19 : decode cX9_wouldVote 19 = .ok (.goto 4, 3) := by decide +kernel
theorem dX9_wouldVote_22 : decode cX9_wouldVote 22 = .ok (.iconst 0, 1) := by decide +kernel
theorem dX9_wouldVote_23 : decode cX9_wouldVote 23 = .ok (.ireturn, 1) := by decide +kernel
theorem dX9_codeOfAsking_0 : decode cX9_codeOfAsking 0 = .ok (.aload_n 0, 1) := by decide +kernel
theorem dX9_codeOfAsking_1 : decode cX9_codeOfAsking 1 = .ok (.iload_n 1, 1) := by decide +kernel
theorem dX9_codeOfAsking_2 : decode cX9_codeOfAsking 2 = .ok (.invokevirtual 65, 3) := by decide +kernel
theorem dX9_codeOfAsking_5 : decode cX9_codeOfAsking 5 = .ok (.ifCond .ne 7, 3) := by decide +kernel
theorem dX9_codeOfAsking_8 : decode cX9_codeOfAsking 8 = .ok (.iconst (-1), 1) := by decide +kernel
theorem dX9_codeOfAsking_9 : decode cX9_codeOfAsking 9 = .ok (.goto 27, 3) := by decide +kernel
theorem dX9_codeOfAsking_12 : decode cX9_codeOfAsking 12 = .ok (.aload_n 0, 1) := by decide +kernel
theorem dX9_codeOfAsking_13 : decode cX9_codeOfAsking 13 = .ok (.iload_n 1, 1) := by decide +kernel
theorem dX9_codeOfAsking_14 : decode cX9_codeOfAsking 14 = .ok (.invokevirtual 78, 3) := by decide +kernel
theorem dX9_codeOfAsking_17 : decode cX9_codeOfAsking 17 = .ok (.ifCond .eq 13, 3) := by decide +kernel
theorem dX9_codeOfAsking_20 : decode cX9_codeOfAsking 20 = .ok (.aload_n 0, 1) := by decide +kernel
theorem dX9_codeOfAsking_21 : decode cX9_codeOfAsking 21 = .ok (.iload_n 1, 1) := by decide +kernel
theorem dX9_codeOfAsking_22 : decode cX9_codeOfAsking 22 = .ok (.iconst 0, 1) := by decide +kernel
theorem dX9_codeOfAsking_23 : decode cX9_codeOfAsking 23 = .ok (.invokevirtual 69, 3) := by decide +kernel
theorem dX9_codeOfAsking_26 : decode cX9_codeOfAsking 26 = .ok (.iconst 2, 1) := by decide +kernel
theorem dX9_codeOfAsking_27 : decode cX9_codeOfAsking 27 = .ok (.if_icmp .ne 8, 3) := by decide +kernel
theorem dX9_codeOfAsking_30 : decode cX9_codeOfAsking 30 = .ok (.bipush (-4), 2) := by decide +kernel
theorem dX9_codeOfAsking_32 : decode cX9_codeOfAsking 32 = .ok (.goto 4, 3) := by decide +kernel
theorem dX9_codeOfAsking_35 : decode cX9_codeOfAsking 35 = .ok (.iconst 0, 1) := by decide +kernel
theorem dX9_codeOfAsking_36 : decode cX9_codeOfAsking 36 = .ok (.ireturn, 1) := by decide +kernel
theorem dX9_couldLead_0 : decode cX9_couldLead 0 = .ok (.aload_n 0, 1) := by decide +kernel
theorem dX9_couldLead_1 : decode cX9_couldLead 1 = .ok (.iload_n 1, 1) := by decide +kernel
theorem dX9_couldLead_2 : decode cX9_couldLead 2 = .ok (.invokevirtual 270, 3) := by decide +kernel
theorem dX9_couldLead_5 : decode cX9_couldLead 5 = .ok (.istore_n 2, 1) := by decide +kernel
theorem dX9_couldLead_6 : decode cX9_couldLead 6 = .ok (.iload_n 2, 1) := by decide +kernel
theorem dX9_couldLead_7 : decode cX9_couldLead 7 = .ok (.ifCond .eq 5, 3) := by decide +kernel
theorem dX9_couldLead_10 : decode cX9_couldLead 10 = .ok (.iload_n 2, 1) := by decide +kernel
theorem dX9_couldLead_11 : decode cX9_couldLead 11 = .ok (.ireturn, 1) := by decide +kernel
theorem dX9_couldLead_12 : decode cX9_couldLead 12 = .ok (.iconst 1, 1) := by decide +kernel
theorem dX9_couldLead_13 : decode cX9_couldLead 13 = .ok (.istore_n 3, 1) := by decide +kernel
theorem dX9_couldLead_14 : decode cX9_couldLead 14 = .ok (.iconst 0, 1) := by decide +kernel
theorem dX9_couldLead_15 : decode cX9_couldLead 15 = .ok (.istore 4, 2) := by decide +kernel
theorem dX9_couldLead_17 : decode cX9_couldLead 17 = .ok (.iload 4, 2) := by decide +kernel
theorem dX9_couldLead_19 : decode cX9_couldLead 19 = .ok (.aload_n 0, 1) := by decide +kernel
theorem dX9_couldLead_20 : decode cX9_couldLead 20 = .ok (.getfield 9, 3) := by decide +kernel
theorem dX9_couldLead_23 : decode cX9_couldLead 23 = .ok (.iconst 1, 1) := by decide +kernel
theorem dX9_couldLead_24 : decode cX9_couldLead 24 = .ok (.iaload, 1) := by decide +kernel
theorem dX9_couldLead_25 : decode cX9_couldLead 25 = .ok (.if_icmp .ge 57, 3) := by decide +kernel
theorem dX9_couldLead_28 : decode cX9_couldLead 28 = .ok (.aload_n 0, 1) := by decide +kernel
theorem dX9_couldLead_29 : decode cX9_couldLead 29 = .ok (.iload_n 1, 1) := by decide +kernel
theorem dX9_couldLead_30 : decode cX9_couldLead 30 = .ok (.iload 4, 2) := by decide +kernel
theorem dX9_couldLead_32 : decode cX9_couldLead 32 = .ok (.invokevirtual 108, 3) := by decide +kernel
theorem dX9_couldLead_35 : decode cX9_couldLead 35 = .ok (.ifCond .eq 41, 3) := by decide +kernel
theorem dX9_couldLead_38 : decode cX9_couldLead 38 = .ok (.aload_n 0, 1) := by decide +kernel
theorem dX9_couldLead_39 : decode cX9_couldLead 39 = .ok (.iload 4, 2) := by decide +kernel
theorem dX9_couldLead_41 : decode cX9_couldLead 41 = .ok (.iconst 1, 1) := by decide +kernel
theorem dX9_couldLead_42 : decode cX9_couldLead 42 = .ok (.invokevirtual 69, 3) := by decide +kernel
theorem dX9_couldLead_45 : decode cX9_couldLead 45 = .ok (.aload_n 0, 1) := by decide +kernel
theorem dX9_couldLead_46 : decode cX9_couldLead 46 = .ok (.iload_n 1, 1) := by decide +kernel
theorem dX9_couldLead_47 : decode cX9_couldLead 47 = .ok (.iconst 1, 1) := by decide +kernel
theorem dX9_couldLead_48 : decode cX9_couldLead 48 = .ok (.invokevirtual 69, 3) := by decide +kernel
theorem dX9_couldLead_51 : decode cX9_couldLead 51 = .ok (.iconst 1, 1) := by decide +kernel
theorem dX9_couldLead_52 : decode cX9_couldLead 52 = .ok (.iadd, 1) := by decide +kernel
theorem dX9_couldLead_53 : decode cX9_couldLead 53 = .ok (.if_icmp .le 5, 3) := by decide +kernel
theorem dX9_couldLead_56 : decode cX9_couldLead 56 = .ok (.iconst 0, 1) := by decide +kernel
theorem dX9_couldLead_57 : decode cX9_couldLead 57 = .ok (.ireturn, 1) := by decide +kernel
theorem dX9_couldLead_58 : decode cX9_couldLead 58 = .ok (.iload_n 3, 1) := by decide +kernel
theorem dX9_couldLead_59 : decode cX9_couldLead 59 = .ok (.aload_n 0, 1) := by decide +kernel
theorem dX9_couldLead_60 : decode cX9_couldLead 60 = .ok (.iload 4, 2) := by decide +kernel
theorem dX9_couldLead_62 : decode cX9_couldLead 62 = .ok (.iload_n 1, 1) := by decide +kernel
theorem dX9_couldLead_63 : decode cX9_couldLead 63 = .ok (.invokevirtual 267, 3) := by decide +kernel
theorem dX9_couldLead_66 : decode cX9_couldLead 66 = .ok (.ifCond .eq 7, 3) := by decide +kernel
theorem dX9_couldLead_69 : decode cX9_couldLead 69 = .ok (.iconst 1, 1) := by decide +kernel
theorem dX9_couldLead_70 : decode cX9_couldLead 70 = .ok (.goto 4, 3) := by decide +kernel
theorem dX9_couldLead_73 : decode cX9_couldLead 73 = .ok (.iconst 0, 1) := by decide +kernel
theorem dX9_couldLead_74 : decode cX9_couldLead 74 = .ok (.iadd, 1) := by decide +kernel
theorem dX9_couldLead_75 : decode cX9_couldLead 75 = .ok (.istore_n 3, 1) := by decide +kernel
theorem dX9_couldLead_76 : decode cX9_couldLead 76 = .ok (.iinc 4 1, 3) := by decide +kernel
theorem dX9_couldLead_79 : decode cX9_couldLead 79 = .ok (.goto (-62), 3) := by decide +kernel
theorem dX9_couldLead_82 : decode cX9_couldLead 82 = .ok (.iload_n 3, 1) := by decide +kernel
theorem dX9_couldLead_83 : decode cX9_couldLead 83 = .ok (.ireturn, 1) := by decide +kernel
theorem dX9_couldLeadAgain_0 : decode cX9_couldLeadAgain 0 = .ok (.aload_n 0, 1) := by decide +kernel
theorem dX9_couldLeadAgain_1 : decode cX9_couldLeadAgain 1 = .ok (.iload_n 1, 1) := by decide +kernel
theorem dX9_couldLeadAgain_2 : decode cX9_couldLeadAgain 2 = .ok (.invokevirtual 270, 3) := by decide +kernel
theorem dX9_couldLeadAgain_5 : decode cX9_couldLeadAgain 5 = .ok (.istore_n 2, 1) := by decide +kernel
theorem dX9_couldLeadAgain_6 : decode cX9_couldLeadAgain 6 = .ok (.iload_n 2, 1) := by decide +kernel
theorem dX9_couldLeadAgain_7 : decode cX9_couldLeadAgain 7 = .ok (.ifCond .eq 5, 3) := by decide +kernel
theorem dX9_couldLeadAgain_10 : decode cX9_couldLeadAgain 10 = .ok (.iload_n 2, 1) := by decide +kernel
theorem dX9_couldLeadAgain_11 : decode cX9_couldLeadAgain 11 = .ok (.ireturn, 1) := by decide +kernel
theorem dX9_couldLeadAgain_12 : decode cX9_couldLeadAgain 12 = .ok (.aload_n 0, 1) := by decide +kernel
theorem dX9_couldLeadAgain_13 : decode cX9_couldLeadAgain 13 = .ok (.getfield 9, 3) := by decide +kernel
theorem dX9_couldLeadAgain_16 : decode cX9_couldLeadAgain 16 = .ok (.iconst 0, 1) := by decide +kernel
theorem dX9_couldLeadAgain_17 : decode cX9_couldLeadAgain 17 = .ok (.aload_n 0, 1) := by decide +kernel
theorem dX9_couldLeadAgain_18 : decode cX9_couldLeadAgain 18 = .ok (.getfield 16, 3) := by decide +kernel
theorem dX9_couldLeadAgain_21 : decode cX9_couldLeadAgain 21 = .ok (.iconst 0, 1) := by decide +kernel
theorem dX9_couldLeadAgain_22 : decode cX9_couldLeadAgain 22 = .ok (.invokestatic 38, 3) := by decide +kernel
theorem dX9_couldLeadAgain_25 : decode cX9_couldLeadAgain 25 = .ok (.aload_n 0, 1) := by decide +kernel
theorem dX9_couldLeadAgain_26 : decode cX9_couldLeadAgain 26 = .ok (.iload_n 1, 1) := by decide +kernel
theorem dX9_couldLeadAgain_27 : decode cX9_couldLeadAgain 27 = .ok (.invokevirtual 125, 3) := by decide +kernel
theorem dX9_couldLeadAgain_30 : decode cX9_couldLeadAgain 30 = .ok (.istore_n 3, 1) := by decide +kernel
theorem dX9_couldLeadAgain_31 : decode cX9_couldLeadAgain 31 = .ok (.aload_n 0, 1) := by decide +kernel
theorem dX9_couldLeadAgain_32 : decode cX9_couldLeadAgain 32 = .ok (.getfield 16, 3) := by decide +kernel
theorem dX9_couldLeadAgain_35 : decode cX9_couldLeadAgain 35 = .ok (.iconst 0, 1) := by decide +kernel
theorem dX9_couldLeadAgain_36 : decode cX9_couldLeadAgain 36 = .ok (.aload_n 0, 1) := by decide +kernel
theorem dX9_couldLeadAgain_37 : decode cX9_couldLeadAgain 37 = .ok (.getfield 9, 3) := by decide +kernel
theorem dX9_couldLeadAgain_40 : decode cX9_couldLeadAgain 40 = .ok (.iconst 0, 1) := by decide +kernel
theorem dX9_couldLeadAgain_41 : decode cX9_couldLeadAgain 41 = .ok (.invokestatic 38, 3) := by decide +kernel
theorem dX9_couldLeadAgain_44 : decode cX9_couldLeadAgain 44 = .ok (.iload_n 3, 1) := by decide +kernel
theorem dX9_couldLeadAgain_45 : decode cX9_couldLeadAgain 45 = .ok (.ireturn, 1) := by decide +kernel
theorem dX9_alike_0 : decode cX9_alike 0 = .ok (.aload_n 0, 1) := by decide +kernel
theorem dX9_alike_1 : decode cX9_alike 1 = .ok (.iload_n 1, 1) := by decide +kernel
theorem dX9_alike_2 : decode cX9_alike 2 = .ok (.iload_n 2, 1) := by decide +kernel
theorem dX9_alike_3 : decode cX9_alike 3 = .ok (.invokevirtual 162, 3) := by decide +kernel
theorem dX9_alike_6 : decode cX9_alike 6 = .ok (.ifCond .eq 12, 3) := by decide +kernel
theorem dX9_alike_9 : decode cX9_alike 9 = .ok (.aload_n 0, 1) := by decide +kernel
theorem dX9_alike_10 : decode cX9_alike 10 = .ok (.iload_n 1, 1) := by decide +kernel
theorem dX9_alike_11 : decode cX9_alike 11 = .ok (.iload_n 2, 1) := by decide +kernel
theorem dX9_alike_12 : decode cX9_alike 12 = .ok (.invokevirtual 131, 3) := by decide +kernel
theorem dX9_alike_15 : decode cX9_alike 15 = .ok (.goto 4, 3) := by decide +kernel
theorem dX9_alike_18 : decode cX9_alike 18 = .ok (.iconst (-1), 1) := by decide +kernel
theorem dX9_alike_19 : decode cX9_alike 19 = .ok (.ireturn, 1) := by decide +kernel
theorem dX9_holders_0 : decode cX9_holders 0 = .ok (.aload_n 0, 1) := by decide +kernel
theorem dX9_holders_1 : decode cX9_holders 1 = .ok (.iload_n 1, 1) := by decide +kernel
theorem dX9_holders_2 : decode cX9_holders 2 = .ok (.iload_n 2, 1) := by decide +kernel
theorem dX9_holders_3 : decode cX9_holders 3 = .ok (.invokevirtual 264, 3) := by decide +kernel
theorem dX9_holders_6 : decode cX9_holders 6 = .ok (.ifCond .ne 5, 3) := by decide +kernel
theorem dX9_holders_9 : decode cX9_holders 9 = .ok (.iconst (-1), 1) := by decide +kernel
theorem dX9_holders_10 : decode cX9_holders 10 = .ok (.ireturn, 1) := by decide +kernel
theorem dX9_holders_11 : decode cX9_holders 11 = .ok (.iconst 0, 1) := by decide +kernel
theorem dX9_holders_12 : decode cX9_holders 12 = .ok (.istore_n 3, 1) := by decide +kernel
theorem dX9_holders_13 : decode cX9_holders 13 = .ok (.iconst 0, 1) := by decide +kernel
theorem dX9_holders_14 : decode cX9_holders 14 = .ok (.istore 4, 2) := by decide +kernel
theorem dX9_holders_16 : decode cX9_holders 16 = .ok (.iload 4, 2) := by decide +kernel
theorem dX9_holders_18 : decode cX9_holders 18 = .ok (.aload_n 0, 1) := by decide +kernel
theorem dX9_holders_19 : decode cX9_holders 19 = .ok (.getfield 9, 3) := by decide +kernel
theorem dX9_holders_22 : decode cX9_holders 22 = .ok (.iconst 1, 1) := by decide +kernel
theorem dX9_holders_23 : decode cX9_holders 23 = .ok (.iaload, 1) := by decide +kernel
theorem dX9_holders_24 : decode cX9_holders 24 = .ok (.if_icmp .ge 28, 3) := by decide +kernel
theorem dX9_holders_27 : decode cX9_holders 27 = .ok (.iload_n 3, 1) := by decide +kernel
theorem dX9_holders_28 : decode cX9_holders 28 = .ok (.aload_n 0, 1) := by decide +kernel
theorem dX9_holders_29 : decode cX9_holders 29 = .ok (.iload_n 1, 1) := by decide +kernel
theorem dX9_holders_30 : decode cX9_holders 30 = .ok (.iload 4, 2) := by decide +kernel
theorem dX9_holders_32 : decode cX9_holders 32 = .ok (.invokevirtual 131, 3) := by decide +kernel
theorem dX9_holders_35 : decode cX9_holders 35 = .ok (.iload_n 2, 1) := by decide +kernel
theorem dX9_holders_36 : decode cX9_holders 36 = .ok (.if_icmp .lt 7, 3) := by decide +kernel
theorem dX9_holders_39 : decode cX9_holders 39 = .ok (.iconst 1, 1) := by decide +kernel
theorem dX9_holders_40 : decode cX9_holders 40 = .ok (.goto 4, 3) := by decide +kernel
theorem dX9_holders_43 : decode cX9_holders 43 = .ok (.iconst 0, 1) := by decide +kernel
theorem dX9_holders_44 : decode cX9_holders 44 = .ok (.iadd, 1) := by decide +kernel
theorem dX9_holders_45 : decode cX9_holders 45 = .ok (.istore_n 3, 1) := by decide +kernel
theorem dX9_holders_46 : decode cX9_holders 46 = .ok (.iinc 4 1, 3) := by decide +kernel
theorem dX9_holders_49 : decode cX9_holders 49 = .ok (.goto (-33), 3) := by decide +kernel
theorem dX9_holders_52 : decode cX9_holders 52 = .ok (.iload_n 3, 1) := by decide +kernel
theorem dX9_holders_53 : decode cX9_holders 53 = .ok (.ireturn, 1) := by decide +kernel
theorem dX9_agreed_0 : decode cX9_agreed 0 = .ok (.iconst 0, 1) := by decide +kernel
theorem dX9_agreed_1 : decode cX9_agreed 1 = .ok (.istore_n 1, 1) := by decide +kernel
theorem dX9_agreed_2 : decode cX9_agreed 2 = .ok (.iconst 0, 1) := by decide +kernel
theorem dX9_agreed_3 : decode cX9_agreed 3 = .ok (.istore_n 2, 1) := by decide +kernel
theorem dX9_agreed_4 : decode cX9_agreed 4 = .ok (.iload_n 2, 1) := by decide +kernel
theorem dX9_agreed_5 : decode cX9_agreed 5 = .ok (.aload_n 0, 1) := by decide +kernel
theorem dX9_agreed_6 : decode cX9_agreed 6 = .ok (.getfield 9, 3) := by decide +kernel
theorem dX9_agreed_9 : decode cX9_agreed 9 = .ok (.iconst 1, 1) := by decide +kernel
theorem dX9_agreed_10 : decode cX9_agreed 10 = .ok (.iaload, 1) := by decide +kernel
theorem dX9_agreed_11 : decode cX9_agreed 11 = .ok (.if_icmp .ge 21, 3) := by decide +kernel
theorem dX9_agreed_14 : decode cX9_agreed 14 = .ok (.iload_n 1, 1) := by decide +kernel
theorem dX9_agreed_15 : decode cX9_agreed 15 = .ok (.aload_n 0, 1) := by decide +kernel
theorem dX9_agreed_16 : decode cX9_agreed 16 = .ok (.iload_n 2, 1) := by decide +kernel
theorem dX9_agreed_17 : decode cX9_agreed 17 = .ok (.bipush 6, 2) := by decide +kernel
theorem dX9_agreed_19 : decode cX9_agreed 19 = .ok (.invokevirtual 69, 3) := by decide +kernel
theorem dX9_agreed_22 : decode cX9_agreed 22 = .ok (.invokestatic 75, 3) := by decide +kernel
theorem dX9_agreed_25 : decode cX9_agreed 25 = .ok (.istore_n 1, 1) := by decide +kernel
theorem dX9_agreed_26 : decode cX9_agreed 26 = .ok (.iinc 2 1, 3) := by decide +kernel
theorem dX9_agreed_29 : decode cX9_agreed 29 = .ok (.goto (-25), 3) := by decide +kernel
theorem dX9_agreed_32 : decode cX9_agreed 32 = .ok (.iload_n 1, 1) := by decide +kernel
theorem dX9_agreed_33 : decode cX9_agreed 33 = .ok (.ireturn, 1) := by decide +kernel
theorem dX9_agreedAgain_0 : decode cX9_agreedAgain 0 = .ok (.bipush 12, 2) := by decide +kernel
theorem dX9_agreedAgain_2 : decode cX9_agreedAgain 2 = .ok (.istore_n 1, 1) := by decide +kernel
theorem dX9_agreedAgain_3 : decode cX9_agreedAgain 3 = .ok (.iload_n 1, 1) := by decide +kernel
theorem dX9_agreedAgain_4 : decode cX9_agreedAgain 4 = .ok (.ifCond .le 40, 3) := by decide +kernel
theorem dX9_agreedAgain_7 : decode cX9_agreedAgain 7 = .ok (.iconst 0, 1) := by decide +kernel
theorem dX9_agreedAgain_8 : decode cX9_agreedAgain 8 = .ok (.istore_n 2, 1) := by decide +kernel
theorem dX9_agreedAgain_9 : decode cX9_agreedAgain 9 = .ok (.iload_n 2, 1) := by decide +kernel
theorem dX9_agreedAgain_10 : decode cX9_agreedAgain 10 = .ok (.aload_n 0, 1) := by decide +kernel
theorem dX9_agreedAgain_11 : decode cX9_agreedAgain 11 = .ok (.getfield 9, 3) := by decide +kernel
theorem dX9_agreedAgain_14 : decode cX9_agreedAgain 14 = .ok (.iconst 1, 1) := by decide +kernel
theorem dX9_agreedAgain_15 : decode cX9_agreedAgain 15 = .ok (.iaload, 1) := by decide +kernel
theorem dX9_agreedAgain_16 : decode cX9_agreedAgain 16 = .ok (.if_icmp .ge 22, 3) := by decide +kernel
theorem dX9_agreedAgain_19 : decode cX9_agreedAgain 19 = .ok (.aload_n 0, 1) := by decide +kernel
theorem dX9_agreedAgain_20 : decode cX9_agreedAgain 20 = .ok (.iload_n 2, 1) := by decide +kernel
theorem dX9_agreedAgain_21 : decode cX9_agreedAgain 21 = .ok (.bipush 6, 2) := by decide +kernel
theorem dX9_agreedAgain_23 : decode cX9_agreedAgain 23 = .ok (.invokevirtual 69, 3) := by decide +kernel
theorem dX9_agreedAgain_26 : decode cX9_agreedAgain 26 = .ok (.iload_n 1, 1) := by decide +kernel
theorem dX9_agreedAgain_27 : decode cX9_agreedAgain 27 = .ok (.if_icmp .ne 5, 3) := by decide +kernel
theorem dX9_agreedAgain_30 : decode cX9_agreedAgain 30 = .ok (.iload_n 1, 1) := by decide +kernel
theorem dX9_agreedAgain_31 : decode cX9_agreedAgain 31 = .ok (.ireturn, 1) := by decide +kernel
theorem dX9_agreedAgain_32 : decode cX9_agreedAgain 32 = .ok (.iinc 2 1, 3) := by decide +kernel
theorem dX9_agreedAgain_35 : decode cX9_agreedAgain 35 = .ok (.goto (-26), 3) := by decide +kernel
theorem dX9_agreedAgain_38 : decode cX9_agreedAgain 38 = .ok (.iinc 1 (-1), 3) := by decide +kernel
theorem dX9_agreedAgain_41 : decode cX9_agreedAgain 41 = .ok (.goto (-38), 3) := by decide +kernel
theorem dX9_agreedAgain_44 : decode cX9_agreedAgain 44 = .ok (.iconst 0, 1) := by decide +kernel
theorem dX9_agreedAgain_45 : decode cX9_agreedAgain 45 = .ok (.ireturn, 1) := by decide +kernel
theorem dX9_conflicts_0 : decode cX9_conflicts 0 = .ok (.iconst 0, 1) := by decide +kernel
theorem dX9_conflicts_1 : decode cX9_conflicts 1 = .ok (.istore_n 1, 1) := by decide +kernel
theorem dX9_conflicts_2 : decode cX9_conflicts 2 = .ok (.iconst 0, 1) := by decide +kernel
theorem dX9_conflicts_3 : decode cX9_conflicts 3 = .ok (.istore_n 2, 1) := by decide +kernel
theorem dX9_conflicts_4 : decode cX9_conflicts 4 = .ok (.iload_n 2, 1) := by decide +kernel
theorem dX9_conflicts_5 : decode cX9_conflicts 5 = .ok (.aload_n 0, 1) := by decide +kernel
theorem dX9_conflicts_6 : decode cX9_conflicts 6 = .ok (.getfield 9, 3) := by decide +kernel
theorem dX9_conflicts_9 : decode cX9_conflicts 9 = .ok (.iconst 1, 1) := by decide +kernel
theorem dX9_conflicts_10 : decode cX9_conflicts 10 = .ok (.iaload, 1) := by decide +kernel
theorem dX9_conflicts_11 : decode cX9_conflicts 11 = .ok (.if_icmp .ge 54, 3) := by decide +kernel
theorem dX9_conflicts_14 : decode cX9_conflicts 14 = .ok (.iconst 0, 1) := by decide +kernel
theorem dX9_conflicts_15 : decode cX9_conflicts 15 = .ok (.istore_n 3, 1) := by decide +kernel
theorem dX9_conflicts_16 : decode cX9_conflicts 16 = .ok (.iload_n 3, 1) := by decide +kernel
theorem dX9_conflicts_17 : decode cX9_conflicts 17 = .ok (.iload_n 2, 1) := by decide +kernel
theorem dX9_conflicts_18 : decode cX9_conflicts 18 = .ok (.if_icmp .ge 41, 3) := by decide +kernel
theorem dX9_conflicts_21 : decode cX9_conflicts 21 = .ok (.iload_n 1, 1) := by decide +kernel
theorem dX9_conflicts_22 : decode cX9_conflicts 22 = .ok (.aload_n 0, 1) := by decide +kernel
theorem dX9_conflicts_23 : decode cX9_conflicts 23 = .ok (.iload_n 2, 1) := by decide +kernel
theorem dX9_conflicts_24 : decode cX9_conflicts 24 = .ok (.iload_n 3, 1) := by decide +kernel
theorem dX9_conflicts_25 : decode cX9_conflicts 25 = .ok (.invokevirtual 131, 3) := by decide +kernel
theorem dX9_conflicts_28 : decode cX9_conflicts 28 = .ok (.aload_n 0, 1) := by decide +kernel
theorem dX9_conflicts_29 : decode cX9_conflicts 29 = .ok (.iload_n 2, 1) := by decide +kernel
theorem dX9_conflicts_30 : decode cX9_conflicts 30 = .ok (.iconst 5, 1) := by decide +kernel
theorem dX9_conflicts_31 : decode cX9_conflicts 31 = .ok (.invokevirtual 69, 3) := by decide +kernel
theorem dX9_conflicts_34 : decode cX9_conflicts 34 = .ok (.aload_n 0, 1) := by decide +kernel
theorem dX9_conflicts_35 : decode cX9_conflicts 35 = .ok (.iload_n 3, 1) := by decide +kernel
theorem dX9_conflicts_36 : decode cX9_conflicts 36 = .ok (.iconst 5, 1) := by decide +kernel
theorem dX9_conflicts_37 : decode cX9_conflicts 37 = .ok (.invokevirtual 69, 3) := by decide +kernel
theorem dX9_conflicts_40 : decode cX9_conflicts 40 = .ok (.invokestatic 72, 3) := by decide +kernel
theorem dX9_conflicts_43 : decode cX9_conflicts 43 = .ok (.if_icmp .ge 7, 3) := by decide +kernel
theorem dX9_conflicts_46 : decode cX9_conflicts 46 = .ok (.iconst 1, 1) := by decide +kernel
theorem dX9_conflicts_47 : decode cX9_conflicts 47 = .ok (.goto 4, 3) := by decide +kernel
theorem dX9_conflicts_50 : decode cX9_conflicts 50 = .ok (.iconst 0, 1) := by decide +kernel
theorem dX9_conflicts_51 : decode cX9_conflicts 51 = .ok (.iadd, 1) := by decide +kernel
theorem dX9_conflicts_52 : decode cX9_conflicts 52 = .ok (.istore_n 1, 1) := by decide +kernel
theorem dX9_conflicts_53 : decode cX9_conflicts 53 = .ok (.iinc 3 1, 3) := by decide +kernel
theorem dX9_conflicts_56 : decode cX9_conflicts 56 = .ok (.goto (-40), 3) := by decide +kernel
theorem dX9_conflicts_59 : decode cX9_conflicts 59 = .ok (.iinc 2 1, 3) := by decide +kernel
theorem dX9_conflicts_62 : decode cX9_conflicts 62 = .ok (.goto (-58), 3) := by decide +kernel
theorem dX9_conflicts_65 : decode cX9_conflicts 65 = .ok (.iload_n 1, 1) := by decide +kernel
theorem dX9_conflicts_66 : decode cX9_conflicts 66 = .ok (.ireturn, 1) := by decide +kernel
theorem dX9_isSafe_0 : decode cX9_isSafe 0 = .ok (.iconst 0, 1) := by decide +kernel
theorem dX9_isSafe_1 : decode cX9_isSafe 1 = .ok (.istore_n 1, 1) := by decide +kernel
theorem dX9_isSafe_2 : decode cX9_isSafe 2 = .ok (.iload_n 1, 1) := by decide +kernel
theorem dX9_isSafe_3 : decode cX9_isSafe 3 = .ok (.aload_n 0, 1) := by decide +kernel
theorem dX9_isSafe_4 : decode cX9_isSafe 4 = .ok (.getfield 9, 3) := by decide +kernel
theorem dX9_isSafe_7 : decode cX9_isSafe 7 = .ok (.iconst 1, 1) := by decide +kernel
theorem dX9_isSafe_8 : decode cX9_isSafe 8 = .ok (.iaload, 1) := by decide +kernel
theorem dX9_isSafe_9 : decode cX9_isSafe 9 = .ok (.if_icmp .ge 50, 3) := by decide +kernel
theorem dX9_isSafe_12 : decode cX9_isSafe 12 = .ok (.iconst 0, 1) := by decide +kernel
theorem dX9_isSafe_13 : decode cX9_isSafe 13 = .ok (.istore_n 2, 1) := by decide +kernel
theorem dX9_isSafe_14 : decode cX9_isSafe 14 = .ok (.iload_n 2, 1) := by decide +kernel
theorem dX9_isSafe_15 : decode cX9_isSafe 15 = .ok (.iload_n 1, 1) := by decide +kernel
theorem dX9_isSafe_16 : decode cX9_isSafe 16 = .ok (.if_icmp .ge 37, 3) := by decide +kernel
theorem dX9_isSafe_19 : decode cX9_isSafe 19 = .ok (.aload_n 0, 1) := by decide +kernel
theorem dX9_isSafe_20 : decode cX9_isSafe 20 = .ok (.iload_n 1, 1) := by decide +kernel
theorem dX9_isSafe_21 : decode cX9_isSafe 21 = .ok (.iload_n 2, 1) := by decide +kernel
theorem dX9_isSafe_22 : decode cX9_isSafe 22 = .ok (.invokevirtual 131, 3) := by decide +kernel
theorem dX9_isSafe_25 : decode cX9_isSafe 25 = .ok (.aload_n 0, 1) := by decide +kernel
theorem dX9_isSafe_26 : decode cX9_isSafe 26 = .ok (.iload_n 1, 1) := by decide +kernel
theorem dX9_isSafe_27 : decode cX9_isSafe 27 = .ok (.bipush 6, 2) := by decide +kernel
theorem dX9_isSafe_29 : decode cX9_isSafe 29 = .ok (.invokevirtual 69, 3) := by decide +kernel
theorem dX9_isSafe_32 : decode cX9_isSafe 32 = .ok (.aload_n 0, 1) := by decide +kernel
theorem dX9_isSafe_33 : decode cX9_isSafe 33 = .ok (.iload_n 2, 1) := by decide +kernel
theorem dX9_isSafe_34 : decode cX9_isSafe 34 = .ok (.bipush 6, 2) := by decide +kernel
theorem dX9_isSafe_36 : decode cX9_isSafe 36 = .ok (.invokevirtual 69, 3) := by decide +kernel
theorem dX9_isSafe_39 : decode cX9_isSafe 39 = .ok (.invokestatic 72, 3) := by decide +kernel
theorem dX9_isSafe_42 : decode cX9_isSafe 42 = .ok (.if_icmp .ge 5, 3) := by decide +kernel
theorem dX9_isSafe_45 : decode cX9_isSafe 45 = .ok (.iconst 0, 1) := by decide +kernel
theorem dX9_isSafe_46 : decode cX9_isSafe 46 = .ok (.ireturn, 1) := by decide +kernel
theorem dX9_isSafe_47 : decode cX9_isSafe 47 = .ok (.iinc 2 1, 3) := by decide +kernel
theorem dX9_isSafe_50 : decode cX9_isSafe 50 = .ok (.goto (-36), 3) := by decide +kernel
theorem dX9_isSafe_53 : decode cX9_isSafe 53 = .ok (.iinc 1 1, 3) := by decide +kernel
theorem dX9_isSafe_56 : decode cX9_isSafe 56 = .ok (.goto (-54), 3) := by decide +kernel
theorem dX9_isSafe_59 : decode cX9_isSafe 59 = .ok (.iconst 1, 1) := by decide +kernel
theorem dX9_isSafe_60 : decode cX9_isSafe 60 = .ok (.ireturn, 1) := by decide +kernel
theorem dX9_isAhead_0 : decode cX9_isAhead 0 = .ok (.aload_n 0, 1) := by decide +kernel
theorem dX9_isAhead_1 : decode cX9_isAhead 1 = .ok (.iload_n 1, 1) := by decide +kernel
theorem dX9_isAhead_2 : decode cX9_isAhead 2 = .ok (.iload_n 2, 1) := by decide +kernel
theorem dX9_isAhead_3 : decode cX9_isAhead 3 = .ok (.invokevirtual 105, 3) := by decide +kernel
theorem dX9_isAhead_6 : decode cX9_isAhead 6 = .ok (.istore_n 3, 1) := by decide +kernel
theorem dX9_isAhead_7 : decode cX9_isAhead 7 = .ok (.iload_n 3, 1) := by decide +kernel
theorem dX9_isAhead_8 : decode cX9_isAhead 8 = .ok (.ifCond .eq 13, 3) := by decide +kernel
theorem dX9_isAhead_11 : decode cX9_isAhead 11 = .ok (.iload_n 3, 1) := by decide +kernel
theorem dX9_isAhead_12 : decode cX9_isAhead 12 = .ok (.ifCond .le 7, 3) := by decide +kernel
theorem dX9_isAhead_15 : decode cX9_isAhead 15 = .ok (.iconst 1, 1) := by decide +kernel
theorem dX9_isAhead_16 : decode cX9_isAhead 16 = .ok (.goto 4, 3) := by decide +kernel
theorem dX9_isAhead_19 : decode cX9_isAhead 19 = .ok (.iconst 0, 1) := by decide +kernel
theorem dX9_isAhead_20 : decode cX9_isAhead 20 = .ok (.ireturn, 1) := by decide +kernel
theorem dX9_isAhead_21 : decode cX9_isAhead 21 = .ok (.aload_n 0, 1) := by decide +kernel
theorem dX9_isAhead_22 : decode cX9_isAhead 22 = .ok (.iload_n 1, 1) := by decide +kernel
theorem dX9_isAhead_23 : decode cX9_isAhead 23 = .ok (.iconst 1, 1) := by decide +kernel
theorem dX9_isAhead_24 : decode cX9_isAhead 24 = .ok (.invokevirtual 69, 3) := by decide +kernel
theorem dX9_isAhead_27 : decode cX9_isAhead 27 = .ok (.aload_n 0, 1) := by decide +kernel
theorem dX9_isAhead_28 : decode cX9_isAhead 28 = .ok (.iload_n 2, 1) := by decide +kernel
theorem dX9_isAhead_29 : decode cX9_isAhead 29 = .ok (.iconst 1, 1) := by decide +kernel
theorem dX9_isAhead_30 : decode cX9_isAhead 30 = .ok (.invokevirtual 69, 3) := by decide +kernel
theorem dX9_isAhead_33 : decode cX9_isAhead 33 = .ok (.isub, 1) := by decide +kernel
theorem dX9_isAhead_34 : decode cX9_isAhead 34 = .ok (.istore 4, 2) := by decide +kernel
theorem dX9_isAhead_36 : decode cX9_isAhead 36 = .ok (.iload 4, 2) := by decide +kernel
theorem dX9_isAhead_38 : decode cX9_isAhead 38 = .ok (.ifCond .eq 16, 3) := by decide +kernel
theorem dX9_isAhead_41 : decode cX9_isAhead 41 = .ok (.iload 4, 2) := by decide +kernel
theorem dX9_isAhead_43 : decode cX9_isAhead 43 = .ok (.ifCond .le 7, 3) := by decide +kernel
theorem dX9_isAhead_46 : decode cX9_isAhead 46 = .ok (.iconst 1, 1) := by decide +kernel
theorem dX9_isAhead_47 : decode cX9_isAhead 47 = .ok (.goto 17, 3) := by decide +kernel
theorem dX9_isAhead_50 : decode cX9_isAhead 50 = .ok (.iconst 0, 1) := by decide +kernel
theorem dX9_isAhead_51 : decode cX9_isAhead 51 = .ok (.goto 13, 3) := by decide +kernel
theorem dX9_isAhead_54 : decode cX9_isAhead 54 = .ok (.iload_n 1, 1) := by decide +kernel
theorem dX9_isAhead_55 : decode cX9_isAhead 55 = .ok (.iload_n 2, 1) := by decide +kernel
theorem dX9_isAhead_56 : decode cX9_isAhead 56 = .ok (.if_icmp .ge 7, 3) := by decide +kernel
theorem dX9_isAhead_59 : decode cX9_isAhead 59 = .ok (.iconst 1, 1) := by decide +kernel
theorem dX9_isAhead_60 : decode cX9_isAhead 60 = .ok (.goto 4, 3) := by decide +kernel
theorem dX9_isAhead_63 : decode cX9_isAhead 63 = .ok (.iconst 0, 1) := by decide +kernel
theorem dX9_isAhead_64 : decode cX9_isAhead 64 = .ok (.ireturn, 1) := by decide +kernel
theorem dX9_ranked_0 : decode cX9_ranked 0 = .ok (.iconst 0, 1) := by decide +kernel
theorem dX9_ranked_1 : decode cX9_ranked 1 = .ok (.istore_n 2, 1) := by decide +kernel
theorem dX9_ranked_2 : decode cX9_ranked 2 = .ok (.iload_n 2, 1) := by decide +kernel
theorem dX9_ranked_3 : decode cX9_ranked 3 = .ok (.aload_n 0, 1) := by decide +kernel
theorem dX9_ranked_4 : decode cX9_ranked 4 = .ok (.getfield 9, 3) := by decide +kernel
theorem dX9_ranked_7 : decode cX9_ranked 7 = .ok (.iconst 1, 1) := by decide +kernel
theorem dX9_ranked_8 : decode cX9_ranked 8 = .ok (.iaload, 1) := by decide +kernel
theorem dX9_ranked_9 : decode cX9_ranked 9 = .ok (.if_icmp .ge 62, 3) := by decide +kernel
theorem dX9_ranked_12 : decode cX9_ranked 12 = .ok (.iconst 0, 1) := by decide +kernel
theorem dX9_ranked_13 : decode cX9_ranked 13 = .ok (.istore_n 3, 1) := by decide +kernel
theorem dX9_ranked_14 : decode cX9_ranked 14 = .ok (.iconst 0, 1) := by decide +kernel
theorem dX9_ranked_15 : decode cX9_ranked 15 = .ok (.istore 4, 2) := by decide +kernel
theorem dX9_ranked_17 : decode cX9_ranked 17 = .ok (.iload 4, 2) := by decide +kernel
theorem dX9_ranked_19 : decode cX9_ranked 19 = .ok (.aload_n 0, 1) := by decide +kernel
theorem dX9_ranked_20 : decode cX9_ranked 20 = .ok (.getfield 9, 3) := by decide +kernel
theorem dX9_ranked_23 : decode cX9_ranked 23 = .ok (.iconst 1, 1) := by decide +kernel
theorem dX9_ranked_24 : decode cX9_ranked 24 = .ok (.iaload, 1) := by decide +kernel
theorem dX9_ranked_25 : decode cX9_ranked 25 = .ok (.if_icmp .ge 33, 3) := by decide +kernel
theorem dX9_ranked_28 : decode cX9_ranked 28 = .ok (.iload_n 3, 1) := by decide +kernel
theorem dX9_ranked_29 : decode cX9_ranked 29 = .ok (.iload 4, 2) := by decide +kernel
theorem dX9_ranked_31 : decode cX9_ranked 31 = .ok (.iload_n 2, 1) := by decide +kernel
theorem dX9_ranked_32 : decode cX9_ranked 32 = .ok (.if_icmp .eq 17, 3) := by decide +kernel
theorem dX9_ranked_35 : decode cX9_ranked 35 = .ok (.aload_n 0, 1) := by decide +kernel
theorem dX9_ranked_36 : decode cX9_ranked 36 = .ok (.iload 4, 2) := by decide +kernel
theorem dX9_ranked_38 : decode cX9_ranked 38 = .ok (.iload_n 2, 1) := by decide +kernel
theorem dX9_ranked_39 : decode cX9_ranked 39 = .ok (.invokevirtual 273, 3) := by decide +kernel
theorem dX9_ranked_42 : decode cX9_ranked 42 = .ok (.ifCond .eq 7, 3) := by decide +kernel
theorem dX9_ranked_45 : decode cX9_ranked 45 = .ok (.iconst 1, 1) := by decide +kernel
theorem dX9_ranked_46 : decode cX9_ranked 46 = .ok (.goto 4, 3) := by decide +kernel
theorem dX9_ranked_49 : decode cX9_ranked 49 = .ok (.iconst 0, 1) := by decide +kernel
theorem dX9_ranked_50 : decode cX9_ranked 50 = .ok (.iadd, 1) := by decide +kernel
theorem dX9_ranked_51 : decode cX9_ranked 51 = .ok (.istore_n 3, 1) := by decide +kernel
theorem dX9_ranked_52 : decode cX9_ranked 52 = .ok (.iinc 4 1, 3) := by decide +kernel
theorem dX9_ranked_55 : decode cX9_ranked 55 = .ok (.goto (-38), 3) := by decide +kernel
theorem dX9_ranked_58 : decode cX9_ranked 58 = .ok (.iload_n 3, 1) := by decide +kernel
theorem dX9_ranked_59 : decode cX9_ranked 59 = .ok (.iload_n 1, 1) := by decide +kernel
theorem dX9_ranked_60 : decode cX9_ranked 60 = .ok (.if_icmp .ne 5, 3) := by decide +kernel
theorem dX9_ranked_63 : decode cX9_ranked 63 = .ok (.iload_n 2, 1) := by decide +kernel
theorem dX9_ranked_64 : decode cX9_ranked 64 = .ok (.ireturn, 1) := by decide +kernel
theorem dX9_ranked_65 : decode cX9_ranked 65 = .ok (.iinc 2 1, 3) := by decide +kernel
theorem dX9_ranked_68 : decode cX9_ranked 68 = .ok (.goto (-66), 3) := by decide +kernel
theorem dX9_ranked_71 : decode cX9_ranked 71 = .ok (.iconst (-1), 1) := by decide +kernel
theorem dX9_ranked_72 : decode cX9_ranked 72 = .ok (.ireturn, 1) := by decide +kernel
theorem dX9_doesWait_0 : decode cX9_doesWait 0 = .ok (.aload_n 0, 1) := by decide +kernel
theorem dX9_doesWait_1 : decode cX9_doesWait 1 = .ok (.iload_n 1, 1) := by decide +kernel
theorem dX9_doesWait_2 : decode cX9_doesWait 2 = .ok (.invokevirtual 78, 3) := by decide +kernel
theorem dX9_doesWait_5 : decode cX9_doesWait 5 = .ok (.ifCond .eq 17, 3) := by decide +kernel
theorem dX9_doesWait_8 : decode cX9_doesWait 8 = .ok (.aload_n 0, 1) := by decide +kernel
theorem dX9_doesWait_9 : decode cX9_doesWait 9 = .ok (.iload_n 1, 1) := by decide +kernel
theorem dX9_doesWait_10 : decode cX9_doesWait 10 = .ok (.iconst 0, 1) := by decide +kernel
theorem dX9_doesWait_11 : decode cX9_doesWait 11 = .ok (.invokevirtual 69, 3) := by decide +kernel
theorem dX9_doesWait_14 : decode cX9_doesWait 14 = .ok (.iconst 2, 1) := by decide +kernel
theorem dX9_doesWait_15 : decode cX9_doesWait 15 = .ok (.if_icmp .eq 7, 3) := by decide +kernel
theorem dX9_doesWait_18 : decode cX9_doesWait 18 = .ok (.iconst 1, 1) := by decide +kernel
theorem dX9_doesWait_19 : decode cX9_doesWait 19 = .ok (.goto 4, 3) := by decide +kernel
theorem dX9_doesWait_22 : decode cX9_doesWait 22 = .ok (.iconst 0, 1) := by decide +kernel
theorem dX9_doesWait_23 : decode cX9_doesWait 23 = .ok (.ireturn, 1) := by decide +kernel
theorem dX9_waitsYet_0 : decode cX9_waitsYet 0 = .ok (.aload_n 0, 1) := by decide +kernel
theorem dX9_waitsYet_1 : decode cX9_waitsYet 1 = .ok (.iload_n 1, 1) := by decide +kernel
theorem dX9_waitsYet_2 : decode cX9_waitsYet 2 = .ok (.iconst 2, 1) := by decide +kernel
theorem dX9_waitsYet_3 : decode cX9_waitsYet 3 = .ok (.invokevirtual 69, 3) := by decide +kernel
theorem dX9_waitsYet_6 : decode cX9_waitsYet 6 = .ok (.aload_n 0, 1) := by decide +kernel
theorem dX9_waitsYet_7 : decode cX9_waitsYet 7 = .ok (.iload_n 1, 1) := by decide +kernel
theorem dX9_waitsYet_8 : decode cX9_waitsYet 8 = .ok (.iconst 3, 1) := by decide +kernel
theorem dX9_waitsYet_9 : decode cX9_waitsYet 9 = .ok (.invokevirtual 69, 3) := by decide +kernel
theorem dX9_waitsYet_12 : decode cX9_waitsYet 12 = .ok (.isub, 1) := by decide +kernel
theorem dX9_waitsYet_13 : decode cX9_waitsYet 13 = .ok (.ireturn, 1) := by decide +kernel
theorem dX9_oldest_0 : decode cX9_oldest 0 = .ok (.iconst 0, 1) := by decide +kernel
theorem dX9_oldest_1 : decode cX9_oldest 1 = .ok (.istore_n 2, 1) := by decide +kernel
theorem dX9_oldest_2 : decode cX9_oldest 2 = .ok (.iload_n 2, 1) := by decide +kernel
theorem dX9_oldest_3 : decode cX9_oldest 3 = .ok (.aload_n 0, 1) := by decide +kernel
theorem dX9_oldest_4 : decode cX9_oldest 4 = .ok (.getfield 9, 3) := by decide +kernel
theorem dX9_oldest_7 : decode cX9_oldest 7 = .ok (.iconst 1, 1) := by decide +kernel
theorem dX9_oldest_8 : decode cX9_oldest 8 = .ok (.iaload, 1) := by decide +kernel
theorem dX9_oldest_9 : decode cX9_oldest 9 = .ok (.if_icmp .ge 115, 3) := by decide +kernel
theorem dX9_oldest_12 : decode cX9_oldest 12 = .ok (.iconst 0, 1) := by decide +kernel
theorem dX9_oldest_13 : decode cX9_oldest 13 = .ok (.istore_n 3, 1) := by decide +kernel
theorem dX9_oldest_14 : decode cX9_oldest 14 = .ok (.iconst 0, 1) := by decide +kernel
theorem dX9_oldest_15 : decode cX9_oldest 15 = .ok (.istore 4, 2) := by decide +kernel
theorem dX9_oldest_17 : decode cX9_oldest 17 = .ok (.iload 4, 2) := by decide +kernel
theorem dX9_oldest_19 : decode cX9_oldest 19 = .ok (.aload_n 0, 1) := by decide +kernel
theorem dX9_oldest_20 : decode cX9_oldest 20 = .ok (.getfield 9, 3) := by decide +kernel
theorem dX9_oldest_23 : decode cX9_oldest 23 = .ok (.iconst 1, 1) := by decide +kernel
theorem dX9_oldest_24 : decode cX9_oldest 24 = .ok (.iaload, 1) := by decide +kernel
theorem dX9_oldest_25 : decode cX9_oldest 25 = .ok (.if_icmp .ge 78, 3) := by decide +kernel
theorem dX9_oldest_28 : decode cX9_oldest 28 = .ok (.aload_n 0, 1) := by decide +kernel
theorem dX9_oldest_29 : decode cX9_oldest 29 = .ok (.iload 4, 2) := by decide +kernel
theorem dX9_oldest_31 : decode cX9_oldest 31 = .ok (.invokevirtual 276, 3) := by decide +kernel
theorem dX9_oldest_34 : decode cX9_oldest 34 = .ok (.aload_n 0, 1) := by decide +kernel
theorem dX9_oldest_35 : decode cX9_oldest 35 = .ok (.iload_n 2, 1) := by decide +kernel
theorem dX9_oldest_36 : decode cX9_oldest 36 = .ok (.invokevirtual 276, 3) := by decide +kernel
theorem dX9_oldest_39 : decode cX9_oldest 39 = .ok (.if_icmp .lt 23, 3) := by decide +kernel
theorem dX9_oldest_42 : decode cX9_oldest 42 = .ok (.aload_n 0, 1) := by decide +kernel
theorem dX9_oldest_43 : decode cX9_oldest 43 = .ok (.iload 4, 2) := by decide +kernel
theorem dX9_oldest_45 : decode cX9_oldest 45 = .ok (.invokevirtual 276, 3) := by decide +kernel
theorem dX9_oldest_48 : decode cX9_oldest 48 = .ok (.aload_n 0, 1) := by decide +kernel
theorem dX9_oldest_49 : decode cX9_oldest 49 = .ok (.iload_n 2, 1) := by decide +kernel
theorem dX9_oldest_50 : decode cX9_oldest 50 = .ok (.invokevirtual 276, 3) := by decide +kernel
theorem dX9_oldest_53 : decode cX9_oldest 53 = .ok (.if_icmp .ne 13, 3) := by decide +kernel
theorem dX9_oldest_56 : decode cX9_oldest 56 = .ok (.iload 4, 2) := by decide +kernel
theorem dX9_oldest_58 : decode cX9_oldest 58 = .ok (.iload_n 2, 1) := by decide +kernel
theorem dX9_oldest_59 : decode cX9_oldest 59 = .ok (.if_icmp .ge 7, 3) := by decide +kernel
theorem dX9_oldest_62 : decode cX9_oldest 62 = .ok (.iconst 1, 1) := by decide +kernel
theorem dX9_oldest_63 : decode cX9_oldest 63 = .ok (.goto 4, 3) := by decide +kernel
theorem dX9_oldest_66 : decode cX9_oldest 66 = .ok (.iconst 0, 1) := by decide +kernel
theorem dX9_oldest_67 : decode cX9_oldest 67 = .ok (.istore 5, 2) := by decide +kernel
theorem dX9_oldest_69 : decode cX9_oldest 69 = .ok (.iload_n 3, 1) := by decide +kernel
theorem dX9_oldest_70 : decode cX9_oldest 70 = .ok (.iload 4, 2) := by decide +kernel
theorem dX9_oldest_72 : decode cX9_oldest 72 = .ok (.iload_n 2, 1) := by decide +kernel
theorem dX9_oldest_73 : decode cX9_oldest 73 = .ok (.if_icmp .eq 21, 3) := by decide +kernel
theorem dX9_oldest_76 : decode cX9_oldest 76 = .ok (.aload_n 0, 1) := by decide +kernel
theorem dX9_oldest_77 : decode cX9_oldest 77 = .ok (.iload 4, 2) := by decide +kernel
theorem dX9_oldest_79 : decode cX9_oldest 79 = .ok (.invokevirtual 279, 3) := by decide +kernel
theorem dX9_oldest_82 : decode cX9_oldest 82 = .ok (.ifCond .eq 12, 3) := by decide +kernel
theorem dX9_oldest_85 : decode cX9_oldest 85 = .ok (.iload 5, 2) := by decide +kernel
theorem dX9_oldest_87 : decode cX9_oldest 87 = .ok (.ifCond .eq 7, 3) := by decide +kernel
theorem dX9_oldest_90 : decode cX9_oldest 90 = .ok (.iconst 1, 1) := by decide +kernel
theorem dX9_oldest_91 : decode cX9_oldest 91 = .ok (.goto 4, 3) := by decide +kernel
theorem dX9_oldest_94 : decode cX9_oldest 94 = .ok (.iconst 0, 1) := by decide +kernel
theorem dX9_oldest_95 : decode cX9_oldest 95 = .ok (.iadd, 1) := by decide +kernel
theorem dX9_oldest_96 : decode cX9_oldest 96 = .ok (.istore_n 3, 1) := by decide +kernel
theorem dX9_oldest_97 : decode cX9_oldest 97 = .ok (.iinc 4 1, 3) := by decide +kernel
theorem dX9_oldest_100 : decode cX9_oldest 100 = .ok (.goto (-83), 3) := by decide +kernel
theorem dX9_oldest_103 : decode cX9_oldest 103 = .ok (.aload_n 0, 1) := by decide +kernel
theorem dX9_oldest_104 : decode cX9_oldest 104 = .ok (.iload_n 2, 1) := by decide +kernel
theorem dX9_oldest_105 : decode cX9_oldest 105 = .ok (.invokevirtual 279, 3) := by decide +kernel
theorem dX9_oldest_108 : decode cX9_oldest 108 = .ok (.ifCond .eq 10, 3) := by decide +kernel
theorem dX9_oldest_111 : decode cX9_oldest 111 = .ok (.iload_n 3, 1) := by decide +kernel
theorem dX9_oldest_112 : decode cX9_oldest 112 = .ok (.iload_n 1, 1) := by decide +kernel
theorem dX9_oldest_113 : decode cX9_oldest 113 = .ok (.if_icmp .ne 5, 3) := by decide +kernel
theorem dX9_oldest_116 : decode cX9_oldest 116 = .ok (.iload_n 2, 1) := by decide +kernel
theorem dX9_oldest_117 : decode cX9_oldest 117 = .ok (.ireturn, 1) := by decide +kernel
theorem dX9_oldest_118 : decode cX9_oldest 118 = .ok (.iinc 2 1, 3) := by decide +kernel
theorem dX9_oldest_121 : decode cX9_oldest 121 = .ok (.goto (-119), 3) := by decide +kernel
theorem dX9_oldest_124 : decode cX9_oldest 124 = .ok (.iconst (-1), 1) := by decide +kernel
theorem dX9_oldest_125 : decode cX9_oldest 125 = .ok (.ireturn, 1) := by decide +kernel
theorem dX9_quietBeats_0 : decode cX9_quietBeats 0 = .ok (.aload_n 0, 1) := by decide +kernel
theorem dX9_quietBeats_1 : decode cX9_quietBeats 1 = .ok (.getfield 9, 3) := by decide +kernel
theorem dX9_quietBeats_4 : decode cX9_quietBeats 4 = .ok (.iconst 0, 1) := by decide +kernel
theorem dX9_quietBeats_5 : decode cX9_quietBeats 5 = .ok (.aload_n 0, 1) := by decide +kernel
theorem dX9_quietBeats_6 : decode cX9_quietBeats 6 = .ok (.getfield 16, 3) := by decide +kernel
theorem dX9_quietBeats_9 : decode cX9_quietBeats 9 = .ok (.iconst 0, 1) := by decide +kernel
theorem dX9_quietBeats_10 : decode cX9_quietBeats 10 = .ok (.invokestatic 38, 3) := by decide +kernel
theorem dX9_quietBeats_13 : decode cX9_quietBeats 13 = .ok (.iconst 0, 1) := by decide +kernel
theorem dX9_quietBeats_14 : decode cX9_quietBeats 14 = .ok (.istore_n 1, 1) := by decide +kernel
theorem dX9_quietBeats_15 : decode cX9_quietBeats 15 = .ok (.iload_n 1, 1) := by decide +kernel
theorem dX9_quietBeats_16 : decode cX9_quietBeats 16 = .ok (.bipush 9, 2) := by decide +kernel
theorem dX9_quietBeats_18 : decode cX9_quietBeats 18 = .ok (.if_icmp .ge 28, 3) := by decide +kernel
theorem dX9_quietBeats_21 : decode cX9_quietBeats 21 = .ok (.aload_n 0, 1) := by decide +kernel
theorem dX9_quietBeats_22 : decode cX9_quietBeats 22 = .ok (.getfield 9, 3) := by decide +kernel
theorem dX9_quietBeats_25 : decode cX9_quietBeats 25 = .ok (.iconst 2, 1) := by decide +kernel
theorem dX9_quietBeats_26 : decode cX9_quietBeats 26 = .ok (.iaload, 1) := by decide +kernel
theorem dX9_quietBeats_27 : decode cX9_quietBeats 27 = .ok (.aload_n 0, 1) := by decide +kernel
theorem dX9_quietBeats_28 : decode cX9_quietBeats 28 = .ok (.getfield 16, 3) := by decide +kernel
theorem dX9_quietBeats_31 : decode cX9_quietBeats 31 = .ok (.iconst 2, 1) := by decide +kernel
theorem dX9_quietBeats_32 : decode cX9_quietBeats 32 = .ok (.iaload, 1) := by decide +kernel
theorem dX9_quietBeats_33 : decode cX9_quietBeats 33 = .ok (.if_icmp .ne 13, 3) := by decide +kernel
theorem dX9_quietBeats_36 : decode cX9_quietBeats 36 = .ok (.aload_n 0, 1) := by decide +kernel
theorem dX9_quietBeats_37 : decode cX9_quietBeats 37 = .ok (.invokevirtual 176, 3) := by decide +kernel
theorem dX9_quietBeats_40 : decode cX9_quietBeats 40 = .ok (.iinc 1 1, 3) := by decide +kernel
theorem dX9_quietBeats_43 : decode cX9_quietBeats 43 = .ok (.goto (-28), 3) := by decide +kernel
theorem dX9_quietBeats_46 : decode cX9_quietBeats 46 = .ok (.aload_n 0, 1) := by decide +kernel
theorem dX9_quietBeats_47 : decode cX9_quietBeats 47 = .ok (.getfield 9, 3) := by decide +kernel
theorem dX9_quietBeats_50 : decode cX9_quietBeats 50 = .ok (.iconst 2, 1) := by decide +kernel
theorem dX9_quietBeats_51 : decode cX9_quietBeats 51 = .ok (.iaload, 1) := by decide +kernel
theorem dX9_quietBeats_52 : decode cX9_quietBeats 52 = .ok (.aload_n 0, 1) := by decide +kernel
theorem dX9_quietBeats_53 : decode cX9_quietBeats 53 = .ok (.getfield 16, 3) := by decide +kernel
theorem dX9_quietBeats_56 : decode cX9_quietBeats 56 = .ok (.iconst 2, 1) := by decide +kernel
theorem dX9_quietBeats_57 : decode cX9_quietBeats 57 = .ok (.iaload, 1) := by decide +kernel
theorem dX9_quietBeats_58 : decode cX9_quietBeats 58 = .ok (.if_icmp .eq 7, 3) := by decide +kernel
theorem dX9_quietBeats_61 : decode cX9_quietBeats 61 = .ok (.iconst 1, 1) := by decide +kernel
theorem dX9_quietBeats_62 : decode cX9_quietBeats 62 = .ok (.goto 4, 3) := by decide +kernel
theorem dX9_quietBeats_65 : decode cX9_quietBeats 65 = .ok (.iconst 0, 1) := by decide +kernel
theorem dX9_quietBeats_66 : decode cX9_quietBeats 66 = .ok (.istore_n 2, 1) := by decide +kernel
theorem dX9_quietBeats_67 : decode cX9_quietBeats 67 = .ok (.aload_n 0, 1) := by decide +kernel
theorem dX9_quietBeats_68 : decode cX9_quietBeats 68 = .ok (.getfield 16, 3) := by decide +kernel
theorem dX9_quietBeats_71 : decode cX9_quietBeats 71 = .ok (.iconst 0, 1) := by decide +kernel
theorem dX9_quietBeats_72 : decode cX9_quietBeats 72 = .ok (.aload_n 0, 1) := by decide +kernel
theorem dX9_quietBeats_73 : decode cX9_quietBeats 73 = .ok (.getfield 9, 3) := by decide +kernel
theorem dX9_quietBeats_76 : decode cX9_quietBeats 76 = .ok (.iconst 0, 1) := by decide +kernel
theorem dX9_quietBeats_77 : decode cX9_quietBeats 77 = .ok (.invokestatic 38, 3) := by decide +kernel
theorem dX9_quietBeats_80 : decode cX9_quietBeats 80 = .ok (.iload_n 2, 1) := by decide +kernel
theorem dX9_quietBeats_81 : decode cX9_quietBeats 81 = .ok (.ifCond .eq 7, 3) := by decide +kernel
theorem dX9_quietBeats_84 : decode cX9_quietBeats 84 = .ok (.iload_n 1, 1) := by decide +kernel
theorem dX9_quietBeats_85 : decode cX9_quietBeats 85 = .ok (.goto 5, 3) := by decide +kernel
theorem dX9_quietBeats_88 : decode cX9_quietBeats 88 = .ok (.bipush (-4), 2) := by decide +kernel
theorem dX9_quietBeats_90 : decode cX9_quietBeats 90 = .ok (.ireturn, 1) := by decide +kernel
theorem dX9_puts_0 : decode cX9_puts 0 = .ok (.aload_n 0, 1) := by decide +kernel
theorem dX9_puts_1 : decode cX9_puts 1 = .ok (.getfield 35, 3) := by decide +kernel
theorem dX9_puts_4 : decode cX9_puts 4 = .ok (.aload_n 0, 1) := by decide +kernel
theorem dX9_puts_5 : decode cX9_puts 5 = .ok (.getfield 282, 3) := by decide +kernel
theorem dX9_puts_8 : decode cX9_puts 8 = .ok (.iload_n 1, 1) := by decide +kernel
theorem dX9_puts_9 : decode cX9_puts 9 = .ok (.iastore, 1) := by decide +kernel
theorem dX9_puts_10 : decode cX9_puts 10 = .ok (.aload_n 0, 1) := by decide +kernel
theorem dX9_puts_11 : decode cX9_puts 11 = .ok (.dup, 1) := by decide +kernel
theorem dX9_puts_12 : decode cX9_puts 12 = .ok (.getfield 282, 3) := by decide +kernel
theorem dX9_puts_15 : decode cX9_puts 15 = .ok (.iconst 1, 1) := by decide +kernel
theorem dX9_puts_16 : decode cX9_puts 16 = .ok (.iadd, 1) := by decide +kernel
theorem dX9_puts_17 : decode cX9_puts 17 = .ok (.putfield 282, 3) := by decide +kernel
theorem dX9_puts_20 : decode cX9_puts 20 = .ok (.return_, 1) := by decide +kernel
theorem dX9_number_0 : decode cX9_number 0 = .ok (.iload_n 1, 1) := by decide +kernel
theorem dX9_number_1 : decode cX9_number 1 = .ok (.bipush 10, 2) := by decide +kernel
theorem dX9_number_3 : decode cX9_number 3 = .ok (.if_icmp .lt 11, 3) := by decide +kernel
theorem dX9_number_6 : decode cX9_number 6 = .ok (.aload_n 0, 1) := by decide +kernel
theorem dX9_number_7 : decode cX9_number 7 = .ok (.iload_n 1, 1) := by decide +kernel
theorem dX9_number_8 : decode cX9_number 8 = .ok (.bipush 10, 2) := by decide +kernel
theorem dX9_number_10 : decode cX9_number 10 = .ok (.idiv, 1) := by decide +kernel
theorem dX9_number_11 : decode cX9_number 11 = .ok (.invokevirtual 285, 3) := by decide +kernel
theorem dX9_number_14 : decode cX9_number 14 = .ok (.aload_n 0, 1) := by decide +kernel
theorem dX9_number_15 : decode cX9_number 15 = .ok (.bipush 48, 2) := by decide +kernel
theorem dX9_number_17 : decode cX9_number 17 = .ok (.iload_n 1, 1) := by decide +kernel
theorem dX9_number_18 : decode cX9_number 18 = .ok (.bipush 10, 2) := by decide +kernel
theorem dX9_number_20 : decode cX9_number 20 = .ok (.irem, 1) := by decide +kernel
theorem dX9_number_21 : decode cX9_number 21 = .ok (.iadd, 1) := by decide +kernel
theorem dX9_number_22 : decode cX9_number 22 = .ok (.invokevirtual 288, 3) := by decide +kernel
theorem dX9_number_25 : decode cX9_number 25 = .ok (.return_, 1) := by decide +kernel
theorem dX9_tell_0 : decode cX9_tell 0 = .ok (.aload_n 0, 1) := by decide +kernel
theorem dX9_tell_1 : decode cX9_tell 1 = .ok (.iload_n 1, 1) := by decide +kernel
theorem dX9_tell_2 : decode cX9_tell 2 = .ok (.invokevirtual 65, 3) := by decide +kernel
theorem dX9_tell_5 : decode cX9_tell 5 = .ok (.ifCond .ne 5, 3) := by decide +kernel
theorem dX9_tell_8 : decode cX9_tell 8 = .ok (.iconst (-1), 1) := by decide +kernel
theorem dX9_tell_9 : decode cX9_tell 9 = .ok (.ireturn, 1) := by decide +kernel
theorem dX9_tell_10 : decode cX9_tell 10 = .ok (.aload_n 0, 1) := by decide +kernel
theorem dX9_tell_11 : decode cX9_tell 11 = .ok (.iconst 0, 1) := by decide +kernel
theorem dX9_tell_12 : decode cX9_tell 12 = .ok (.putfield 282, 3) := by decide +kernel
theorem dX9_tell_15 : decode cX9_tell 15 = .ok (.aload_n 0, 1) := by decide +kernel
theorem dX9_tell_16 : decode cX9_tell 16 = .ok (.iload_n 1, 1) := by decide +kernel
theorem dX9_tell_17 : decode cX9_tell 17 = .ok (.iconst 0, 1) := by decide +kernel
theorem dX9_tell_18 : decode cX9_tell 18 = .ok (.invokevirtual 69, 3) := by decide +kernel
theorem dX9_tell_21 : decode cX9_tell 21 = .ok (.istore_n 2, 1) := by decide +kernel
theorem dX9_tell_22 : decode cX9_tell 22 = .ok (.aload_n 0, 1) := by decide +kernel
theorem dX9_tell_23 : decode cX9_tell 23 = .ok (.iload_n 2, 1) := by decide +kernel
theorem dX9_tell_24 : decode cX9_tell 24 = .ok (.ifCond .ne 8, 3) := by decide +kernel
theorem dX9_tell_27 : decode cX9_tell 27 = .ok (.bipush 102, 2) := by decide +kernel
theorem dX9_tell_29 : decode cX9_tell 29 = .ok (.goto 15, 3) := by decide +kernel
theorem dX9_tell_32 : decode cX9_tell 32 = .ok (.iload_n 2, 1) := by decide +kernel
theorem dX9_tell_33 : decode cX9_tell 33 = .ok (.iconst 1, 1) := by decide +kernel
theorem dX9_tell_34 : decode cX9_tell 34 = .ok (.if_icmp .ne 8, 3) := by decide +kernel
theorem dX9_tell_37 : decode cX9_tell 37 = .ok (.bipush 99, 2) := by decide +kernel
theorem dX9_tell_39 : decode cX9_tell 39 = .ok (.goto 5, 3) := by decide +kernel
theorem dX9_tell_42 : decode cX9_tell 42 = .ok (.bipush 108, 2) := by decide +kernel
theorem dX9_tell_44 : decode cX9_tell 44 = .ok (.invokevirtual 288, 3) := by decide +kernel
theorem dX9_tell_47 : decode cX9_tell 47 = .ok (.aload_n 0, 1) := by decide +kernel
theorem dX9_tell_48 : decode cX9_tell 48 = .ok (.aload_n 0, 1) := by decide +kernel
theorem dX9_tell_49 : decode cX9_tell 49 = .ok (.iload_n 1, 1) := by decide +kernel
theorem dX9_tell_50 : decode cX9_tell 50 = .ok (.iconst 1, 1) := by decide +kernel
theorem dX9_tell_51 : decode cX9_tell 51 = .ok (.invokevirtual 69, 3) := by decide +kernel
theorem dX9_tell_54 : decode cX9_tell 54 = .ok (.invokevirtual 285, 3) := by decide +kernel
theorem dX9_tell_57 : decode cX9_tell 57 = .ok (.aload_n 0, 1) := by decide +kernel
theorem dX9_tell_58 : decode cX9_tell 58 = .ok (.bipush 58, 2) := by decide +kernel
theorem dX9_tell_60 : decode cX9_tell 60 = .ok (.invokevirtual 288, 3) := by decide +kernel
theorem dX9_tell_63 : decode cX9_tell 63 = .ok (.iconst 0, 1) := by decide +kernel
theorem dX9_tell_64 : decode cX9_tell 64 = .ok (.istore_n 3, 1) := by decide +kernel
theorem dX9_tell_65 : decode cX9_tell 65 = .ok (.iload_n 3, 1) := by decide +kernel
theorem dX9_tell_66 : decode cX9_tell 66 = .ok (.aload_n 0, 1) := by decide +kernel
theorem dX9_tell_67 : decode cX9_tell 67 = .ok (.iload_n 1, 1) := by decide +kernel
theorem dX9_tell_68 : decode cX9_tell 68 = .ok (.iconst 5, 1) := by decide +kernel
theorem dX9_tell_69 : decode cX9_tell 69 = .ok (.invokevirtual 69, 3) := by decide +kernel
theorem dX9_tell_72 : decode cX9_tell 72 = .ok (.if_icmp .gt 62, 3) := by decide +kernel
theorem dX9_tell_75 : decode cX9_tell 75 = .ok (.iload_n 3, 1) := by decide +kernel
theorem dX9_tell_76 : decode cX9_tell 76 = .ok (.aload_n 0, 1) := by decide +kernel
theorem dX9_tell_77 : decode cX9_tell 77 = .ok (.iload_n 1, 1) := by decide +kernel
theorem dX9_tell_78 : decode cX9_tell 78 = .ok (.bipush 6, 2) := by decide +kernel
theorem dX9_tell_80 : decode cX9_tell 80 = .ok (.invokevirtual 69, 3) := by decide +kernel
theorem dX9_tell_83 : decode cX9_tell 83 = .ok (.if_icmp .ne 9, 3) := by decide +kernel
theorem dX9_tell_86 : decode cX9_tell 86 = .ok (.aload_n 0, 1) := by decide +kernel
theorem dX9_tell_87 : decode cX9_tell 87 = .ok (.bipush 124, 2) := by decide +kernel
theorem dX9_tell_89 : decode cX9_tell 89 = .ok (.invokevirtual 288, 3) := by decide +kernel
theorem dX9_tell_92 : decode cX9_tell 92 = .ok (.iload_n 3, 1) := by decide +kernel
theorem dX9_tell_93 : decode cX9_tell 93 = .ok (.aload_n 0, 1) := by decide +kernel
theorem dX9_tell_94 : decode cX9_tell 94 = .ok (.iload_n 1, 1) := by decide +kernel
theorem dX9_tell_95 : decode cX9_tell 95 = .ok (.iconst 5, 1) := by decide +kernel
theorem dX9_tell_96 : decode cX9_tell 96 = .ok (.invokevirtual 69, 3) := by decide +kernel
theorem dX9_tell_99 : decode cX9_tell 99 = .ok (.if_icmp .ge 29, 3) := by decide +kernel
theorem dX9_tell_102 : decode cX9_tell 102 = .ok (.aload_n 0, 1) := by decide +kernel
theorem dX9_tell_103 : decode cX9_tell 103 = .ok (.aload_n 0, 1) := by decide +kernel
theorem dX9_tell_104 : decode cX9_tell 104 = .ok (.iload_n 1, 1) := by decide +kernel
theorem dX9_tell_105 : decode cX9_tell 105 = .ok (.bipush 22, 2) := by decide +kernel
theorem dX9_tell_107 : decode cX9_tell 107 = .ok (.iload_n 3, 1) := by decide +kernel
theorem dX9_tell_108 : decode cX9_tell 108 = .ok (.iadd, 1) := by decide +kernel
theorem dX9_tell_109 : decode cX9_tell 109 = .ok (.invokevirtual 69, 3) := by decide +kernel
theorem dX9_tell_112 : decode cX9_tell 112 = .ok (.invokevirtual 288, 3) := by decide +kernel
theorem dX9_tell_115 : decode cX9_tell 115 = .ok (.aload_n 0, 1) := by decide +kernel
theorem dX9_tell_116 : decode cX9_tell 116 = .ok (.aload_n 0, 1) := by decide +kernel
theorem dX9_tell_117 : decode cX9_tell 117 = .ok (.iload_n 1, 1) := by decide +kernel
theorem dX9_tell_118 : decode cX9_tell 118 = .ok (.bipush 10, 2) := by decide +kernel
theorem dX9_tell_120 : decode cX9_tell 120 = .ok (.iload_n 3, 1) := by decide +kernel
theorem dX9_tell_121 : decode cX9_tell 121 = .ok (.iadd, 1) := by decide +kernel
theorem dX9_tell_122 : decode cX9_tell 122 = .ok (.invokevirtual 69, 3) := by decide +kernel
theorem dX9_tell_125 : decode cX9_tell 125 = .ok (.invokevirtual 285, 3) := by decide +kernel
theorem dX9_tell_128 : decode cX9_tell 128 = .ok (.iinc 3 1, 3) := by decide +kernel
theorem dX9_tell_131 : decode cX9_tell 131 = .ok (.goto (-66), 3) := by decide +kernel
theorem dX9_tell_134 : decode cX9_tell 134 = .ok (.aload_n 0, 1) := by decide +kernel
theorem dX9_tell_135 : decode cX9_tell 135 = .ok (.getfield 282, 3) := by decide +kernel
theorem dX9_tell_138 : decode cX9_tell 138 = .ok (.ireturn, 1) := by decide +kernel
theorem dX9_tellVotes_0 : decode cX9_tellVotes 0 = .ok (.aload_n 0, 1) := by decide +kernel
theorem dX9_tellVotes_1 : decode cX9_tellVotes 1 = .ok (.iload_n 1, 1) := by decide +kernel
theorem dX9_tellVotes_2 : decode cX9_tellVotes 2 = .ok (.invokevirtual 65, 3) := by decide +kernel
theorem dX9_tellVotes_5 : decode cX9_tellVotes 5 = .ok (.ifCond .ne 5, 3) := by decide +kernel
theorem dX9_tellVotes_8 : decode cX9_tellVotes 8 = .ok (.iconst (-1), 1) := by decide +kernel
theorem dX9_tellVotes_9 : decode cX9_tellVotes 9 = .ok (.ireturn, 1) := by decide +kernel
theorem dX9_tellVotes_10 : decode cX9_tellVotes 10 = .ok (.aload_n 0, 1) := by decide +kernel
theorem dX9_tellVotes_11 : decode cX9_tellVotes 11 = .ok (.iconst 0, 1) := by decide +kernel
theorem dX9_tellVotes_12 : decode cX9_tellVotes 12 = .ok (.putfield 282, 3) := by decide +kernel
theorem dX9_tellVotes_15 : decode cX9_tellVotes 15 = .ok (.iconst 0, 1) := by decide +kernel
theorem dX9_tellVotes_16 : decode cX9_tellVotes 16 = .ok (.istore_n 2, 1) := by decide +kernel
theorem dX9_tellVotes_17 : decode cX9_tellVotes 17 = .ok (.iload_n 2, 1) := by decide +kernel
theorem dX9_tellVotes_18 : decode cX9_tellVotes 18 = .ok (.aload_n 0, 1) := by decide +kernel
theorem dX9_tellVotes_19 : decode cX9_tellVotes 19 = .ok (.getfield 9, 3) := by decide +kernel
theorem dX9_tellVotes_22 : decode cX9_tellVotes 22 = .ok (.iconst 1, 1) := by decide +kernel
theorem dX9_tellVotes_23 : decode cX9_tellVotes 23 = .ok (.iaload, 1) := by decide +kernel
theorem dX9_tellVotes_24 : decode cX9_tellVotes 24 = .ok (.if_icmp .ge 55, 3) := by decide +kernel
theorem dX9_tellVotes_27 : decode cX9_tellVotes 27 = .ok (.aload_n 0, 1) := by decide +kernel
theorem dX9_tellVotes_28 : decode cX9_tellVotes 28 = .ok (.iload_n 2, 1) := by decide +kernel
theorem dX9_tellVotes_29 : decode cX9_tellVotes 29 = .ok (.iconst 4, 1) := by decide +kernel
theorem dX9_tellVotes_30 : decode cX9_tellVotes 30 = .ok (.invokevirtual 69, 3) := by decide +kernel
theorem dX9_tellVotes_33 : decode cX9_tellVotes 33 = .ok (.iload_n 1, 1) := by decide +kernel
theorem dX9_tellVotes_34 : decode cX9_tellVotes 34 = .ok (.if_icmp .ne 39, 3) := by decide +kernel
theorem dX9_tellVotes_37 : decode cX9_tellVotes 37 = .ok (.aload_n 0, 1) := by decide +kernel
theorem dX9_tellVotes_38 : decode cX9_tellVotes 38 = .ok (.iload_n 2, 1) := by decide +kernel
theorem dX9_tellVotes_39 : decode cX9_tellVotes 39 = .ok (.iconst 1, 1) := by decide +kernel
theorem dX9_tellVotes_40 : decode cX9_tellVotes 40 = .ok (.invokevirtual 69, 3) := by decide +kernel
theorem dX9_tellVotes_43 : decode cX9_tellVotes 43 = .ok (.aload_n 0, 1) := by decide +kernel
theorem dX9_tellVotes_44 : decode cX9_tellVotes 44 = .ok (.iload_n 1, 1) := by decide +kernel
theorem dX9_tellVotes_45 : decode cX9_tellVotes 45 = .ok (.iconst 1, 1) := by decide +kernel
theorem dX9_tellVotes_46 : decode cX9_tellVotes 46 = .ok (.invokevirtual 69, 3) := by decide +kernel
theorem dX9_tellVotes_49 : decode cX9_tellVotes 49 = .ok (.if_icmp .ne 24, 3) := by decide +kernel
theorem dX9_tellVotes_52 : decode cX9_tellVotes 52 = .ok (.aload_n 0, 1) := by decide +kernel
theorem dX9_tellVotes_53 : decode cX9_tellVotes 53 = .ok (.getfield 282, 3) := by decide +kernel
theorem dX9_tellVotes_56 : decode cX9_tellVotes 56 = .ok (.ifCond .le 9, 3) := by decide +kernel
theorem dX9_tellVotes_59 : decode cX9_tellVotes 59 = .ok (.aload_n 0, 1) := by decide +kernel
theorem dX9_tellVotes_60 : decode cX9_tellVotes 60 = .ok (.bipush 44, 2) := by decide +kernel
theorem dX9_tellVotes_62 : decode cX9_tellVotes 62 = .ok (.invokevirtual 288, 3) := by decide +kernel
theorem dX9_tellVotes_65 : decode cX9_tellVotes 65 = .ok (.aload_n 0, 1) := by decide +kernel
theorem dX9_tellVotes_66 : decode cX9_tellVotes 66 = .ok (.bipush 48, 2) := by decide +kernel
theorem dX9_tellVotes_68 : decode cX9_tellVotes 68 = .ok (.iload_n 2, 1) := by decide +kernel
theorem dX9_tellVotes_69 : decode cX9_tellVotes 69 = .ok (.iadd, 1) := by decide +kernel
theorem dX9_tellVotes_70 : decode cX9_tellVotes 70 = .ok (.invokevirtual 288, 3) := by decide +kernel
theorem dX9_tellVotes_73 : decode cX9_tellVotes 73 = .ok (.iinc 2 1, 3) := by decide +kernel
theorem dX9_tellVotes_76 : decode cX9_tellVotes 76 = .ok (.goto (-59), 3) := by decide +kernel
theorem dX9_tellVotes_79 : decode cX9_tellVotes 79 = .ok (.aload_n 0, 1) := by decide +kernel
theorem dX9_tellVotes_80 : decode cX9_tellVotes 80 = .ok (.getfield 282, 3) := by decide +kernel
theorem dX9_tellVotes_83 : decode cX9_tellVotes 83 = .ok (.ifCond .ne 9, 3) := by decide +kernel
theorem dX9_tellVotes_86 : decode cX9_tellVotes 86 = .ok (.aload_n 0, 1) := by decide +kernel
theorem dX9_tellVotes_87 : decode cX9_tellVotes 87 = .ok (.bipush 45, 2) := by decide +kernel
theorem dX9_tellVotes_89 : decode cX9_tellVotes 89 = .ok (.invokevirtual 288, 3) := by decide +kernel
theorem dX9_tellVotes_92 : decode cX9_tellVotes 92 = .ok (.aload_n 0, 1) := by decide +kernel
theorem dX9_tellVotes_93 : decode cX9_tellVotes 93 = .ok (.getfield 282, 3) := by decide +kernel
theorem dX9_tellVotes_96 : decode cX9_tellVotes 96 = .ok (.ireturn, 1) := by decide +kernel
theorem dX9_written_0 : decode cX9_written 0 = .ok (.iload_n 1, 1) := by decide +kernel
theorem dX9_written_1 : decode cX9_written 1 = .ok (.iconst 0, 1) := by decide +kernel
theorem dX9_written_2 : decode cX9_written 2 = .ok (.aload_n 0, 1) := by decide +kernel
theorem dX9_written_3 : decode cX9_written 3 = .ok (.getfield 282, 3) := by decide +kernel
theorem dX9_written_6 : decode cX9_written 6 = .ok (.iconst 1, 1) := by decide +kernel
theorem dX9_written_7 : decode cX9_written 7 = .ok (.isub, 1) := by decide +kernel
theorem dX9_written_8 : decode cX9_written 8 = .ok (.invokestatic 61, 3) := by decide +kernel
theorem dX9_written_11 : decode cX9_written 11 = .ok (.ifCond .eq 12, 3) := by decide +kernel
theorem dX9_written_14 : decode cX9_written 14 = .ok (.aload_n 0, 1) := by decide +kernel
theorem dX9_written_15 : decode cX9_written 15 = .ok (.getfield 35, 3) := by decide +kernel
theorem dX9_written_18 : decode cX9_written 18 = .ok (.iload_n 1, 1) := by decide +kernel
theorem dX9_written_19 : decode cX9_written 19 = .ok (.iaload, 1) := by decide +kernel
theorem dX9_written_20 : decode cX9_written 20 = .ok (.goto 4, 3) := by decide +kernel
theorem dX9_written_23 : decode cX9_written 23 = .ok (.iconst (-1), 1) := by decide +kernel
theorem dX9_written_24 : decode cX9_written 24 = .ok (.ireturn, 1) := by decide +kernel
theorem dX9_allOf_0 : decode cX9_allOf 0 = .ok (.iconst 0, 1) := by decide +kernel
theorem dX9_allOf_1 : decode cX9_allOf 1 = .ok (.istore_n 2, 1) := by decide +kernel
theorem dX9_allOf_2 : decode cX9_allOf 2 = .ok (.iconst 0, 1) := by decide +kernel
theorem dX9_allOf_3 : decode cX9_allOf 3 = .ok (.istore_n 3, 1) := by decide +kernel
theorem dX9_allOf_4 : decode cX9_allOf 4 = .ok (.iload_n 3, 1) := by decide +kernel
theorem dX9_allOf_5 : decode cX9_allOf 5 = .ok (.aload_n 0, 1) := by decide +kernel
theorem dX9_allOf_6 : decode cX9_allOf 6 = .ok (.getfield 9, 3) := by decide +kernel
theorem dX9_allOf_9 : decode cX9_allOf 9 = .ok (.iconst 1, 1) := by decide +kernel
theorem dX9_allOf_10 : decode cX9_allOf 10 = .ok (.iaload, 1) := by decide +kernel
theorem dX9_allOf_11 : decode cX9_allOf 11 = .ok (.if_icmp .ge 18, 3) := by decide +kernel
theorem dX9_allOf_14 : decode cX9_allOf 14 = .ok (.iload_n 2, 1) := by decide +kernel
theorem dX9_allOf_15 : decode cX9_allOf 15 = .ok (.aload_n 0, 1) := by decide +kernel
theorem dX9_allOf_16 : decode cX9_allOf 16 = .ok (.iload_n 3, 1) := by decide +kernel
theorem dX9_allOf_17 : decode cX9_allOf 17 = .ok (.iload_n 1, 1) := by decide +kernel
theorem dX9_allOf_18 : decode cX9_allOf 18 = .ok (.invokevirtual 69, 3) := by decide +kernel
theorem dX9_allOf_21 : decode cX9_allOf 21 = .ok (.iadd, 1) := by decide +kernel
theorem dX9_allOf_22 : decode cX9_allOf 22 = .ok (.istore_n 2, 1) := by decide +kernel
theorem dX9_allOf_23 : decode cX9_allOf 23 = .ok (.iinc 3 1, 3) := by decide +kernel
theorem dX9_allOf_26 : decode cX9_allOf 26 = .ok (.goto (-22), 3) := by decide +kernel
theorem dX9_allOf_29 : decode cX9_allOf 29 = .ok (.iload_n 2, 1) := by decide +kernel
theorem dX9_allOf_30 : decode cX9_allOf 30 = .ok (.ireturn, 1) := by decide +kernel
theorem dX9_meanTale_0 : decode cX9_meanTale 0 = .ok (.aload_n 0, 1) := by decide +kernel
theorem dX9_meanTale_1 : decode cX9_meanTale 1 = .ok (.getfield 9, 3) := by decide +kernel
theorem dX9_meanTale_4 : decode cX9_meanTale 4 = .ok (.iconst 1, 1) := by decide +kernel
theorem dX9_meanTale_5 : decode cX9_meanTale 5 = .ok (.iaload, 1) := by decide +kernel
theorem dX9_meanTale_6 : decode cX9_meanTale 6 = .ok (.ifCond .ne 7, 3) := by decide +kernel
theorem dX9_meanTale_9 : decode cX9_meanTale 9 = .ok (.fconst 0, 1) := by decide +kernel
theorem dX9_meanTale_10 : decode cX9_meanTale 10 = .ok (.goto 17, 3) := by decide +kernel
theorem dX9_meanTale_13 : decode cX9_meanTale 13 = .ok (.aload_n 0, 1) := by decide +kernel
theorem dX9_meanTale_14 : decode cX9_meanTale 14 = .ok (.iconst 5, 1) := by decide +kernel
theorem dX9_meanTale_15 : decode cX9_meanTale 15 = .ok (.invokevirtual 291, 3) := by decide +kernel
theorem dX9_meanTale_18 : decode cX9_meanTale 18 = .ok (.i2f, 1) := by decide +kernel
theorem dX9_meanTale_19 : decode cX9_meanTale 19 = .ok (.aload_n 0, 1) := by decide +kernel
theorem dX9_meanTale_20 : decode cX9_meanTale 20 = .ok (.getfield 9, 3) := by decide +kernel
theorem dX9_meanTale_23 : decode cX9_meanTale 23 = .ok (.iconst 1, 1) := by decide +kernel
theorem dX9_meanTale_24 : decode cX9_meanTale 24 = .ok (.iaload, 1) := by decide +kernel
theorem dX9_meanTale_25 : decode cX9_meanTale 25 = .ok (.i2f, 1) := by decide +kernel
theorem dX9_meanTale_26 : decode cX9_meanTale 26 = .ok (.fdiv, 1) := by decide +kernel
theorem dX9_meanTale_27 : decode cX9_meanTale 27 = .ok (.freturn, 1) := by decide +kernel
theorem dX9_agreedShare_0 : decode cX9_agreedShare 0 = .ok (.aload_n 0, 1) := by decide +kernel
theorem dX9_agreedShare_1 : decode cX9_agreedShare 1 = .ok (.iconst 5, 1) := by decide +kernel
theorem dX9_agreedShare_2 : decode cX9_agreedShare 2 = .ok (.invokevirtual 291, 3) := by decide +kernel
theorem dX9_agreedShare_5 : decode cX9_agreedShare 5 = .ok (.istore_n 1, 1) := by decide +kernel
theorem dX9_agreedShare_6 : decode cX9_agreedShare 6 = .ok (.iload_n 1, 1) := by decide +kernel
theorem dX9_agreedShare_7 : decode cX9_agreedShare 7 = .ok (.ifCond .ne 7, 3) := by decide +kernel
theorem dX9_agreedShare_10 : decode cX9_agreedShare 10 = .ok (.dconst 0, 1) := by decide +kernel
theorem dX9_agreedShare_11 : decode cX9_agreedShare 11 = .ok (.goto 13, 3) := by decide +kernel
theorem dX9_agreedShare_14 : decode cX9_agreedShare 14 = .ok (.aload_n 0, 1) := by decide +kernel
theorem dX9_agreedShare_15 : decode cX9_agreedShare 15 = .ok (.bipush 6, 2) := by decide +kernel
theorem dX9_agreedShare_17 : decode cX9_agreedShare 17 = .ok (.invokevirtual 291, 3) := by decide +kernel
theorem dX9_agreedShare_20 : decode cX9_agreedShare 20 = .ok (.i2d, 1) := by decide +kernel
theorem dX9_agreedShare_21 : decode cX9_agreedShare 21 = .ok (.iload_n 1, 1) := by decide +kernel
theorem dX9_agreedShare_22 : decode cX9_agreedShare 22 = .ok (.i2d, 1) := by decide +kernel
theorem dX9_agreedShare_23 : decode cX9_agreedShare 23 = .ok (.ddiv, 1) := by decide +kernel
theorem dX9_agreedShare_24 : decode cX9_agreedShare 24 = .ok (.dreturn, 1) := by decide +kernel
theorem dX9_greatestTerm_0 : decode cX9_greatestTerm 0 = .ok (.iconst 0, 1) := by decide +kernel
theorem dX9_greatestTerm_1 : decode cX9_greatestTerm 1 = .ok (.istore_n 1, 1) := by decide +kernel
theorem dX9_greatestTerm_2 : decode cX9_greatestTerm 2 = .ok (.iconst 0, 1) := by decide +kernel
theorem dX9_greatestTerm_3 : decode cX9_greatestTerm 3 = .ok (.istore_n 2, 1) := by decide +kernel
theorem dX9_greatestTerm_4 : decode cX9_greatestTerm 4 = .ok (.iload_n 2, 1) := by decide +kernel
theorem dX9_greatestTerm_5 : decode cX9_greatestTerm 5 = .ok (.aload_n 0, 1) := by decide +kernel
theorem dX9_greatestTerm_6 : decode cX9_greatestTerm 6 = .ok (.getfield 9, 3) := by decide +kernel
theorem dX9_greatestTerm_9 : decode cX9_greatestTerm 9 = .ok (.iconst 1, 1) := by decide +kernel
theorem dX9_greatestTerm_10 : decode cX9_greatestTerm 10 = .ok (.iaload, 1) := by decide +kernel
theorem dX9_greatestTerm_11 : decode cX9_greatestTerm 11 = .ok (.if_icmp .ge 20, 3) := by decide +kernel
theorem dX9_greatestTerm_14 : decode cX9_greatestTerm 14 = .ok (.iload_n 1, 1) := by decide +kernel
theorem dX9_greatestTerm_15 : decode cX9_greatestTerm 15 = .ok (.aload_n 0, 1) := by decide +kernel
theorem dX9_greatestTerm_16 : decode cX9_greatestTerm 16 = .ok (.iload_n 2, 1) := by decide +kernel
theorem dX9_greatestTerm_17 : decode cX9_greatestTerm 17 = .ok (.iconst 1, 1) := by decide +kernel
theorem dX9_greatestTerm_18 : decode cX9_greatestTerm 18 = .ok (.invokevirtual 69, 3) := by decide +kernel
theorem dX9_greatestTerm_21 : decode cX9_greatestTerm 21 = .ok (.invokestatic 75, 3) := by decide +kernel
theorem dX9_greatestTerm_24 : decode cX9_greatestTerm 24 = .ok (.istore_n 1, 1) := by decide +kernel
theorem dX9_greatestTerm_25 : decode cX9_greatestTerm 25 = .ok (.iinc 2 1, 3) := by decide +kernel
theorem dX9_greatestTerm_28 : decode cX9_greatestTerm 28 = .ok (.goto (-24), 3) := by decide +kernel
theorem dX9_greatestTerm_31 : decode cX9_greatestTerm 31 = .ok (.iload_n 1, 1) := by decide +kernel
theorem dX9_greatestTerm_32 : decode cX9_greatestTerm 32 = .ok (.ireturn, 1) := by decide +kernel
theorem dX9_account_0 : decode cX9_account 0 = .ok (.iload_n 1, 1) := by decide +kernel
theorem dX9_account_1 : decode cX9_account 1 = .ok (.tableswitch 110 0 12 #[67, 67, 74, 79, 84, 89, 89, 89, 89, 89, 89, 100, 105], 67) := by decide +kernel
theorem dX9_account_68 : decode cX9_account 68 = .ok (.aload_n 0, 1) := by decide +kernel
theorem dX9_account_69 : decode cX9_account 69 = .ok (.getfield 9, 3) := by decide +kernel
theorem dX9_account_72 : decode cX9_account 72 = .ok (.iload_n 1, 1) := by decide +kernel
theorem dX9_account_73 : decode cX9_account 73 = .ok (.iaload, 1) := by decide +kernel
theorem dX9_account_74 : decode cX9_account 74 = .ok (.ireturn, 1) := by decide +kernel
theorem dX9_account_75 : decode cX9_account 75 = .ok (.aload_n 0, 1) := by decide +kernel
theorem dX9_account_76 : decode cX9_account 76 = .ok (.invokevirtual 152, 3) := by decide +kernel
theorem dX9_account_79 : decode cX9_account 79 = .ok (.ireturn, 1) := by decide +kernel
theorem dX9_account_80 : decode cX9_account 80 = .ok (.aload_n 0, 1) := by decide +kernel
theorem dX9_account_81 : decode cX9_account 81 = .ok (.invokevirtual 165, 3) := by decide +kernel
theorem dX9_account_84 : decode cX9_account 84 = .ok (.ireturn, 1) := by decide +kernel
theorem dX9_account_85 : decode cX9_account 85 = .ok (.aload_n 0, 1) := by decide +kernel
theorem dX9_account_86 : decode cX9_account 86 = .ok (.invokevirtual 294, 3) := by decide +kernel
theorem dX9_account_89 : decode cX9_account 89 = .ok (.ireturn, 1) := by decide +kernel
theorem dX9_account_90 : decode cX9_account 90 = .ok (.aload_n 0, 1) := by decide +kernel
theorem dX9_account_91 : decode cX9_account 91 = .ok (.getfield 9, 3) := by decide +kernel
theorem dX9_account_94 : decode cX9_account 94 = .ok (.iload_n 1, 1) := by decide +kernel
theorem dX9_account_95 : decode cX9_account 95 = .ok (.iconst 5, 1) := by decide +kernel
theorem dX9_account_96 : decode cX9_account 96 = .ok (.isub, 1) := by decide +kernel
theorem dX9_account_97 : decode cX9_account 97 = .ok (.iconst 2, 1) := by decide +kernel
theorem dX9_account_98 : decode cX9_account 98 = .ok (.iadd, 1) := by decide +kernel
theorem dX9_account_99 : decode cX9_account 99 = .ok (.iaload, 1) := by decide +kernel
theorem dX9_account_100 : decode cX9_account 100 = .ok (.ireturn, 1) := by decide +kernel
theorem dX9_account_101 : decode cX9_account 101 = .ok (.aload_n 0, 1) := by decide +kernel
theorem dX9_account_102 : decode cX9_account 102 = .ok (.getfield 182, 3) := by decide +kernel
theorem dX9_account_105 : decode cX9_account 105 = .ok (.ireturn, 1) := by decide +kernel
theorem dX9_account_106 : decode cX9_account 106 = .ok (.aload_n 0, 1) := by decide +kernel
theorem dX9_account_107 : decode cX9_account 107 = .ok (.getfield 42, 3) := by decide +kernel
theorem dX9_account_110 : decode cX9_account 110 = .ok (.ireturn, 1) := by decide +kernel
theorem dX9_account_111 : decode cX9_account 111 = .ok (.bipush (-2), 2) := by decide +kernel
theorem dX9_account_113 : decode cX9_account 113 = .ok (.ireturn, 1) := by decide +kernel
theorem dX9_undo_0 : decode cX9_undo 0 = .ok (.aload_n 0, 1) := by decide +kernel
theorem dX9_undo_1 : decode cX9_undo 1 = .ok (.getfield 42, 3) := by decide +kernel
theorem dX9_undo_4 : decode cX9_undo 4 = .ok (.ifCond .ne 6, 3) := by decide +kernel
theorem dX9_undo_7 : decode cX9_undo 7 = .ok (.bipush (-4), 2) := by decide +kernel
theorem dX9_undo_9 : decode cX9_undo 9 = .ok (.ireturn, 1) := by decide +kernel
theorem dX9_undo_10 : decode cX9_undo 10 = .ok (.aload_n 0, 1) := by decide +kernel
theorem dX9_undo_11 : decode cX9_undo 11 = .ok (.dup, 1) := by decide +kernel
theorem dX9_undo_12 : decode cX9_undo 12 = .ok (.getfield 42, 3) := by decide +kernel
theorem dX9_undo_15 : decode cX9_undo 15 = .ok (.iconst 1, 1) := by decide +kernel
theorem dX9_undo_16 : decode cX9_undo 16 = .ok (.isub, 1) := by decide +kernel
theorem dX9_undo_17 : decode cX9_undo 17 = .ok (.putfield 42, 3) := by decide +kernel
theorem dX9_undo_20 : decode cX9_undo 20 = .ok (.aload_n 0, 1) := by decide +kernel
theorem dX9_undo_21 : decode cX9_undo 21 = .ok (.getfield 22, 3) := by decide +kernel
theorem dX9_undo_24 : decode cX9_undo 24 = .ok (.sipush 203, 3) := by decide +kernel
theorem dX9_undo_27 : decode cX9_undo 27 = .ok (.aload_n 0, 1) := by decide +kernel
theorem dX9_undo_28 : decode cX9_undo 28 = .ok (.getfield 42, 3) := by decide +kernel
theorem dX9_undo_31 : decode cX9_undo 31 = .ok (.imul, 1) := by decide +kernel
theorem dX9_undo_32 : decode cX9_undo 32 = .ok (.aload_n 0, 1) := by decide +kernel
theorem dX9_undo_33 : decode cX9_undo 33 = .ok (.getfield 9, 3) := by decide +kernel
theorem dX9_undo_36 : decode cX9_undo 36 = .ok (.iconst 0, 1) := by decide +kernel
theorem dX9_undo_37 : decode cX9_undo 37 = .ok (.invokestatic 38, 3) := by decide +kernel
theorem dX9_undo_40 : decode cX9_undo 40 = .ok (.aload_n 0, 1) := by decide +kernel
theorem dX9_undo_41 : decode cX9_undo 41 = .ok (.getfield 42, 3) := by decide +kernel
theorem dX9_undo_44 : decode cX9_undo 44 = .ok (.ireturn, 1) := by decide +kernel
theorem dX9_save_0 : decode cX9_save 0 = .ok (.aload_n 0, 1) := by decide +kernel
theorem dX9_save_1 : decode cX9_save 1 = .ok (.getfield 9, 3) := by decide +kernel
theorem dX9_save_4 : decode cX9_save 4 = .ok (.iconst 0, 1) := by decide +kernel
theorem dX9_save_5 : decode cX9_save 5 = .ok (.aload_n 0, 1) := by decide +kernel
theorem dX9_save_6 : decode cX9_save 6 = .ok (.getfield 19, 3) := by decide +kernel
theorem dX9_save_9 : decode cX9_save 9 = .ok (.iconst 0, 1) := by decide +kernel
theorem dX9_save_10 : decode cX9_save 10 = .ok (.invokestatic 38, 3) := by decide +kernel
theorem dX9_save_13 : decode cX9_save 13 = .ok (.aload_n 0, 1) := by decide +kernel
theorem dX9_save_14 : decode cX9_save 14 = .ok (.iconst 1, 1) := by decide +kernel
theorem dX9_save_15 : decode cX9_save 15 = .ok (.putfield 297, 3) := by decide +kernel
theorem dX9_save_18 : decode cX9_save 18 = .ok (.aload_n 0, 1) := by decide +kernel
theorem dX9_save_19 : decode cX9_save 19 = .ok (.getfield 9, 3) := by decide +kernel
theorem dX9_save_22 : decode cX9_save 22 = .ok (.iconst 0, 1) := by decide +kernel
theorem dX9_save_23 : decode cX9_save 23 = .ok (.iaload, 1) := by decide +kernel
theorem dX9_save_24 : decode cX9_save 24 = .ok (.ireturn, 1) := by decide +kernel
theorem dX9_restore_0 : decode cX9_restore 0 = .ok (.aload_n 0, 1) := by decide +kernel
theorem dX9_restore_1 : decode cX9_restore 1 = .ok (.getfield 297, 3) := by decide +kernel
theorem dX9_restore_4 : decode cX9_restore 4 = .ok (.ifCond .ne 6, 3) := by decide +kernel
theorem dX9_restore_7 : decode cX9_restore 7 = .ok (.bipush (-4), 2) := by decide +kernel
theorem dX9_restore_9 : decode cX9_restore 9 = .ok (.ireturn, 1) := by decide +kernel
theorem dX9_restore_10 : decode cX9_restore 10 = .ok (.aload_n 0, 1) := by decide +kernel
theorem dX9_restore_11 : decode cX9_restore 11 = .ok (.getfield 19, 3) := by decide +kernel
theorem dX9_restore_14 : decode cX9_restore 14 = .ok (.iconst 0, 1) := by decide +kernel
theorem dX9_restore_15 : decode cX9_restore 15 = .ok (.aload_n 0, 1) := by decide +kernel
theorem dX9_restore_16 : decode cX9_restore 16 = .ok (.getfield 9, 3) := by decide +kernel
theorem dX9_restore_19 : decode cX9_restore 19 = .ok (.iconst 0, 1) := by decide +kernel
theorem dX9_restore_20 : decode cX9_restore 20 = .ok (.invokestatic 38, 3) := by decide +kernel
theorem dX9_restore_23 : decode cX9_restore 23 = .ok (.aload_n 0, 1) := by decide +kernel
theorem dX9_restore_24 : decode cX9_restore 24 = .ok (.iconst 0, 1) := by decide +kernel
theorem dX9_restore_25 : decode cX9_restore 25 = .ok (.putfield 42, 3) := by decide +kernel
theorem dX9_restore_28 : decode cX9_restore 28 = .ok (.aload_n 0, 1) := by decide +kernel
theorem dX9_restore_29 : decode cX9_restore 29 = .ok (.getfield 9, 3) := by decide +kernel
theorem dX9_restore_32 : decode cX9_restore 32 = .ok (.iconst 0, 1) := by decide +kernel
theorem dX9_restore_33 : decode cX9_restore 33 = .ok (.iaload, 1) := by decide +kernel
theorem dX9_restore_34 : decode cX9_restore 34 = .ok (.ireturn, 1) := by decide +kernel
