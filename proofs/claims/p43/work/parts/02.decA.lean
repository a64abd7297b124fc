theorem dX1_init_0 : decode cX1_init 0 = .ok (.aload_n 0, 1) := by decide +kernel
theorem dX1_init_1 : decode cX1_init 1 = .ok (.invokespecial 1, 3) := by decide +kernel
theorem dX1_init_4 : decode cX1_init 4 = .ok (.return_, 1) := by decide +kernel
theorem dX2_init_0 : decode cX2_init 0 = .ok (.aload_n 0, 1) := by decide +kernel
theorem dX2_init_1 : decode cX2_init 1 = .ok (.invokespecial 3, 3) := by decide +kernel
theorem dX2_init_4 : decode cX2_init 4 = .ok (.aload_n 0, 1) := by decide +kernel
theorem dX2_init_5 : decode cX2_init 5 = .ok (.bipush 12, 2) := by decide +kernel
theorem dX2_init_7 : decode cX2_init 7 = .ok (.newarray .int, 2) := by decide +kernel
theorem dX2_init_9 : decode cX2_init 9 = .ok (.putfield 9, 3) := by decide +kernel
theorem dX2_init_12 : decode cX2_init 12 = .ok (.aload_n 0, 1) := by decide +kernel
theorem dX2_init_13 : decode cX2_init 13 = .ok (.bipush 12, 2) := by decide +kernel
theorem dX2_init_15 : decode cX2_init 15 = .ok (.newarray .char, 2) := by decide +kernel
theorem dX2_init_17 : decode cX2_init 17 = .ok (.putfield 15, 3) := by decide +kernel
theorem dX2_init_20 : decode cX2_init 20 = .ok (.return_, 1) := by decide +kernel
theorem dX2_begin_0 : decode cX2_begin 0 = .ok (.aload_n 0, 1) := by decide +kernel
theorem dX2_begin_1 : decode cX2_begin 1 = .ok (.iconst 0, 1) := by decide +kernel
theorem dX2_begin_2 : decode cX2_begin 2 = .ok (.putfield 19, 3) := by decide +kernel
theorem dX2_begin_5 : decode cX2_begin 5 = .ok (.aload_n 0, 1) := by decide +kernel
theorem dX2_begin_6 : decode cX2_begin 6 = .ok (.iconst 0, 1) := by decide +kernel
theorem dX2_begin_7 : decode cX2_begin 7 = .ok (.putfield 23, 3) := by decide +kernel
theorem dX2_begin_10 : decode cX2_begin 10 = .ok (.aload_n 0, 1) := by decide +kernel
theorem dX2_begin_11 : decode cX2_begin 11 = .ok (.iload_n 1, 1) := by decide +kernel
theorem dX2_begin_12 : decode cX2_begin 12 = .ok (.putfield 26, 3) := by decide +kernel
theorem dX2_begin_15 : decode cX2_begin 15 = .ok (.aload_n 0, 1) := by decide +kernel
theorem dX2_begin_16 : decode cX2_begin 16 = .ok (.iconst 0, 1) := by decide +kernel
theorem dX2_begin_17 : decode cX2_begin 17 = .ok (.putfield 29, 3) := by decide +kernel
theorem dX2_begin_20 : decode cX2_begin 20 = .ok (.aload_n 0, 1) := by decide +kernel
theorem dX2_begin_21 : decode cX2_begin 21 = .ok (.iconst (-1), 1) := by decide +kernel
theorem dX2_begin_22 : decode cX2_begin 22 = .ok (.putfield 32, 3) := by decide +kernel
theorem dX2_begin_25 : decode cX2_begin 25 = .ok (.aload_n 0, 1) := by decide +kernel
theorem dX2_begin_26 : decode cX2_begin 26 = .ok (.iconst 0, 1) := by decide +kernel
theorem dX2_begin_27 : decode cX2_begin 27 = .ok (.putfield 35, 3) := by decide +kernel
theorem dX2_begin_30 : decode cX2_begin 30 = .ok (.aload_n 0, 1) := by decide +kernel
theorem dX2_begin_31 : decode cX2_begin 31 = .ok (.iconst 0, 1) := by decide +kernel
theorem dX2_begin_32 : decode cX2_begin 32 = .ok (.putfield 38, 3) := by decide +kernel
theorem dX2_begin_35 : decode cX2_begin 35 = .ok (.aload_n 0, 1) := by decide +kernel
theorem dX2_begin_36 : decode cX2_begin 36 = .ok (.iconst 1, 1) := by decide +kernel
theorem dX2_begin_37 : decode cX2_begin 37 = .ok (.putfield 41, 3) := by decide +kernel
theorem dX2_begin_40 : decode cX2_begin 40 = .ok (.aload_n 0, 1) := by decide +kernel
theorem dX2_begin_41 : decode cX2_begin 41 = .ok (.iconst 0, 1) := by decide +kernel
theorem dX2_begin_42 : decode cX2_begin 42 = .ok (.putfield 45, 3) := by decide +kernel
theorem dX2_begin_45 : decode cX2_begin 45 = .ok (.aload_n 0, 1) := by decide +kernel
theorem dX2_begin_46 : decode cX2_begin 46 = .ok (.iconst 0, 1) := by decide +kernel
theorem dX2_begin_47 : decode cX2_begin 47 = .ok (.putfield 48, 3) := by decide +kernel
theorem dX2_begin_50 : decode cX2_begin 50 = .ok (.return_, 1) := by decide +kernel
theorem dX2_copyFrom_0 : decode cX2_copyFrom 0 = .ok (.aload_n 0, 1) := by decide +kernel
theorem dX2_copyFrom_1 : decode cX2_copyFrom 1 = .ok (.aload_n 1, 1) := by decide +kernel
theorem dX2_copyFrom_2 : decode cX2_copyFrom 2 = .ok (.getfield 19, 3) := by decide +kernel
theorem dX2_copyFrom_5 : decode cX2_copyFrom 5 = .ok (.putfield 19, 3) := by decide +kernel
theorem dX2_copyFrom_8 : decode cX2_copyFrom 8 = .ok (.aload_n 0, 1) := by decide +kernel
theorem dX2_copyFrom_9 : decode cX2_copyFrom 9 = .ok (.aload_n 1, 1) := by decide +kernel
theorem dX2_copyFrom_10 : decode cX2_copyFrom 10 = .ok (.getfield 23, 3) := by decide +kernel
theorem dX2_copyFrom_13 : decode cX2_copyFrom 13 = .ok (.putfield 23, 3) := by decide +kernel
theorem dX2_copyFrom_16 : decode cX2_copyFrom 16 = .ok (.aload_n 0, 1) := by decide +kernel
theorem dX2_copyFrom_17 : decode cX2_copyFrom 17 = .ok (.aload_n 1, 1) := by decide +kernel
theorem dX2_copyFrom_18 : decode cX2_copyFrom 18 = .ok (.getfield 26, 3) := by decide +kernel
theorem dX2_copyFrom_21 : decode cX2_copyFrom 21 = .ok (.putfield 26, 3) := by decide +kernel
theorem dX2_copyFrom_24 : decode cX2_copyFrom 24 = .ok (.aload_n 0, 1) := by decide +kernel
theorem dX2_copyFrom_25 : decode cX2_copyFrom 25 = .ok (.aload_n 1, 1) := by decide +kernel
theorem dX2_copyFrom_26 : decode cX2_copyFrom 26 = .ok (.getfield 29, 3) := by decide +kernel
theorem dX2_copyFrom_29 : decode cX2_copyFrom 29 = .ok (.putfield 29, 3) := by decide +kernel
theorem dX2_copyFrom_32 : decode cX2_copyFrom 32 = .ok (.aload_n 0, 1) := by decide +kernel
theorem dX2_copyFrom_33 : decode cX2_copyFrom 33 = .ok (.aload_n 1, 1) := by decide +kernel
theorem dX2_copyFrom_34 : decode cX2_copyFrom 34 = .ok (.getfield 32, 3) := by decide +kernel
theorem dX2_copyFrom_37 : decode cX2_copyFrom 37 = .ok (.putfield 32, 3) := by decide +kernel
theorem dX2_copyFrom_40 : decode cX2_copyFrom 40 = .ok (.aload_n 0, 1) := by decide +kernel
theorem dX2_copyFrom_41 : decode cX2_copyFrom 41 = .ok (.aload_n 1, 1) := by decide +kernel
theorem dX2_copyFrom_42 : decode cX2_copyFrom 42 = .ok (.getfield 38, 3) := by decide +kernel
theorem dX2_copyFrom_45 : decode cX2_copyFrom 45 = .ok (.putfield 38, 3) := by decide +kernel
theorem dX2_copyFrom_48 : decode cX2_copyFrom 48 = .ok (.aload_n 0, 1) := by decide +kernel
theorem dX2_copyFrom_49 : decode cX2_copyFrom 49 = .ok (.aload_n 1, 1) := by decide +kernel
theorem dX2_copyFrom_50 : decode cX2_copyFrom 50 = .ok (.getfield 41, 3) := by decide +kernel
theorem dX2_copyFrom_53 : decode cX2_copyFrom 53 = .ok (.putfield 41, 3) := by decide +kernel
theorem dX2_copyFrom_56 : decode cX2_copyFrom 56 = .ok (.aload_n 0, 1) := by decide +kernel
theorem dX2_copyFrom_57 : decode cX2_copyFrom 57 = .ok (.aload_n 1, 1) := by decide +kernel
theorem dX2_copyFrom_58 : decode cX2_copyFrom 58 = .ok (.getfield 45, 3) := by decide +kernel
theorem dX2_copyFrom_61 : decode cX2_copyFrom 61 = .ok (.putfield 45, 3) := by decide +kernel
theorem dX2_copyFrom_64 : decode cX2_copyFrom 64 = .ok (.aload_n 0, 1) := by decide +kernel
theorem dX2_copyFrom_65 : decode cX2_copyFrom 65 = .ok (.aload_n 1, 1) := by decide +kernel
theorem dX2_copyFrom_66 : decode cX2_copyFrom 66 = .ok (.getfield 48, 3) := by decide +kernel
theorem dX2_copyFrom_69 : decode cX2_copyFrom 69 = .ok (.putfield 48, 3) := by decide +kernel
theorem dX2_copyFrom_72 : decode cX2_copyFrom 72 = .ok (.aload_n 0, 1) := by decide +kernel
theorem dX2_copyFrom_73 : decode cX2_copyFrom 73 = .ok (.aload_n 1, 1) := by decide +kernel
theorem dX2_copyFrom_74 : decode cX2_copyFrom 74 = .ok (.iconst 0, 1) := by decide +kernel
theorem dX2_copyFrom_75 : decode cX2_copyFrom 75 = .ok (.invokevirtual 51, 3) := by decide +kernel
theorem dX2_copyFrom_78 : decode cX2_copyFrom 78 = .ok (.return_, 1) := by decide +kernel
theorem dX2_copyLines_0 : decode cX2_copyLines 0 = .ok (.iload_n 2, 1) := by decide +kernel
theorem dX2_copyLines_1 : decode cX2_copyLines 1 = .ok (.istore_n 3, 1) := by decide +kernel
theorem dX2_copyLines_2 : decode cX2_copyLines 2 = .ok (.iload_n 3, 1) := by decide +kernel
theorem dX2_copyLines_3 : decode cX2_copyLines 3 = .ok (.aload_n 1, 1) := by decide +kernel
theorem dX2_copyLines_4 : decode cX2_copyLines 4 = .ok (.getfield 35, 3) := by decide +kernel
theorem dX2_copyLines_7 : decode cX2_copyLines 7 = .ok (.if_icmp .ge 33, 3) := by decide +kernel
theorem dX2_copyLines_10 : decode cX2_copyLines 10 = .ok (.aload_n 0, 1) := by decide +kernel
theorem dX2_copyLines_11 : decode cX2_copyLines 11 = .ok (.getfield 9, 3) := by decide +kernel
theorem dX2_copyLines_14 : decode cX2_copyLines 14 = .ok (.iload_n 3, 1) := by decide +kernel
theorem dX2_copyLines_15 : decode cX2_copyLines 15 = .ok (.aload_n 1, 1) := by decide +kernel
theorem dX2_copyLines_16 : decode cX2_copyLines 16 = .ok (.getfield 9, 3) := by decide +kernel
theorem dX2_copyLines_19 : decode cX2_copyLines 19 = .ok (.iload_n 3, 1) := by decide +kernel
theorem dX2_copyLines_20 : decode cX2_copyLines 20 = .ok (.iaload, 1) := by decide +kernel
theorem dX2_copyLines_21 : decode cX2_copyLines 21 = .ok (.iastore, 1) := by decide +kernel
theorem dX2_copyLines_22 : decode cX2_copyLines 22 = .ok (.aload_n 0, 1) := by decide +kernel
theorem dX2_copyLines_23 : decode cX2_copyLines 23 = .ok (.getfield 15, 3) := by decide +kernel
theorem dX2_copyLines_26 : decode cX2_copyLines 26 = .ok (.iload_n 3, 1) := by decide +kernel
theorem dX2_copyLines_27 : decode cX2_copyLines 27 = .ok (.aload_n 1, 1) := by decide +kernel
theorem dX2_copyLines_28 : decode cX2_copyLines 28 = .ok (.getfield 15, 3) := by decide +kernel
theorem dX2_copyLines_31 : decode cX2_copyLines 31 = .ok (.iload_n 3, 1) := by decide +kernel
theorem dX2_copyLines_32 : decode cX2_copyLines 32 = .ok (.caload, 1) := by decide +kernel
theorem dX2_copyLines_33 : decode cX2_copyLines 33 = .ok (.castore, 1) := by decide +kernel
theorem dX2_copyLines_34 : decode cX2_copyLines 34 = .ok (.iinc 3 1, 3) := by decide +kernel
theorem dX2_copyLines_37 : decode cX2_copyLines 37 = .ok (.goto (-35), 3) := by decide +kernel
theorem dX2_copyLines_40 : decode cX2_copyLines 40 = .ok (.aload_n 0, 1) := by decide +kernel
theorem dX2_copyLines_41 : decode cX2_copyLines 41 = .ok (.aload_n 1, 1) := by decide +kernel
theorem dX2_copyLines_42 : decode cX2_copyLines 42 = .ok (.getfield 35, 3) := by decide +kernel
theorem dX2_copyLines_45 : decode cX2_copyLines 45 = .ok (.putfield 35, 3) := by decide +kernel
theorem dX2_copyLines_48 : decode cX2_copyLines 48 = .ok (.return_, 1) := by decide +kernel
theorem dX2_write_0 : decode cX2_write 0 = .ok (.aload_n 0, 1) := by decide +kernel
theorem dX2_write_1 : decode cX2_write 1 = .ok (.getfield 35, 3) := by decide +kernel
theorem dX2_write_4 : decode cX2_write 4 = .ok (.bipush 12, 2) := by decide +kernel
theorem dX2_write_6 : decode cX2_write 6 = .ok (.if_icmp .ge 33, 3) := by decide +kernel
theorem dX2_write_9 : decode cX2_write 9 = .ok (.aload_n 0, 1) := by decide +kernel
theorem dX2_write_10 : decode cX2_write 10 = .ok (.getfield 9, 3) := by decide +kernel
theorem dX2_write_13 : decode cX2_write 13 = .ok (.aload_n 0, 1) := by decide +kernel
theorem dX2_write_14 : decode cX2_write 14 = .ok (.getfield 35, 3) := by decide +kernel
theorem dX2_write_17 : decode cX2_write 17 = .ok (.iload_n 1, 1) := by decide +kernel
theorem dX2_write_18 : decode cX2_write 18 = .ok (.iastore, 1) := by decide +kernel
theorem dX2_write_19 : decode cX2_write 19 = .ok (.aload_n 0, 1) := by decide +kernel
theorem dX2_write_20 : decode cX2_write 20 = .ok (.getfield 15, 3) := by decide +kernel
theorem dX2_write_23 : decode cX2_write 23 = .ok (.aload_n 0, 1) := by decide +kernel
theorem dX2_write_24 : decode cX2_write 24 = .ok (.getfield 35, 3) := by decide +kernel
theorem dX2_write_27 : decode cX2_write 27 = .ok (.iload_n 2, 1) := by decide +kernel
theorem dX2_write_28 : decode cX2_write 28 = .ok (.castore, 1) := by decide +kernel
theorem dX2_write_29 : decode cX2_write 29 = .ok (.aload_n 0, 1) := by decide +kernel
theorem dX2_write_30 : decode cX2_write 30 = .ok (.dup, 1) := by decide +kernel
theorem dX2_write_31 : decode cX2_write 31 = .ok (.getfield 35, 3) := by decide +kernel
theorem dX2_write_34 : decode cX2_write 34 = .ok (.iconst 1, 1) := by decide +kernel
theorem dX2_write_35 : decode cX2_write 35 = .ok (.iadd, 1) := by decide +kernel
theorem dX2_write_36 : decode cX2_write 36 = .ok (.putfield 35, 3) := by decide +kernel
theorem dX2_write_39 : decode cX2_write 39 = .ok (.return_, 1) := by decide +kernel
theorem dX2_isLeading_0 : decode cX2_isLeading 0 = .ok (.aload_n 0, 1) := by decide +kernel
theorem dX2_isLeading_1 : decode cX2_isLeading 1 = .ok (.getfield 41, 3) := by decide +kernel
theorem dX2_isLeading_4 : decode cX2_isLeading 4 = .ok (.ifCond .eq 15, 3) := by decide +kernel
theorem dX2_isLeading_7 : decode cX2_isLeading 7 = .ok (.aload_n 0, 1) := by decide +kernel
theorem dX2_isLeading_8 : decode cX2_isLeading 8 = .ok (.getfield 19, 3) := by decide +kernel
theorem dX2_isLeading_11 : decode cX2_isLeading 11 = .ok (.iconst 2, 1) := by decide +kernel
theorem dX2_isLeading_12 : decode cX2_isLeading 12 = .ok (.if_icmp .ne 7, 3) := by decide +kernel
theorem dX2_isLeading_15 : decode cX2_isLeading 15 = .ok (.iconst 1, 1) := by decide +kernel
theorem dX2_isLeading_16 : decode cX2_isLeading 16 = .ok (.goto 4, 3) := by decide +kernel
theorem dX2_isLeading_19 : decode cX2_isLeading 19 = .ok (.iconst 0, 1) := by decide +kernel
theorem dX2_isLeading_20 : decode cX2_isLeading 20 = .ok (.ireturn, 1) := by decide +kernel
theorem dX2_waitBeat_0 : decode cX2_waitBeat 0 = .ok (.aload_n 0, 1) := by decide +kernel
theorem dX2_waitBeat_1 : decode cX2_waitBeat 1 = .ok (.getfield 41, 3) := by decide +kernel
theorem dX2_waitBeat_4 : decode cX2_waitBeat 4 = .ok (.ifCond .eq 13, 3) := by decide +kernel
theorem dX2_waitBeat_7 : decode cX2_waitBeat 7 = .ok (.aload_n 0, 1) := by decide +kernel
theorem dX2_waitBeat_8 : decode cX2_waitBeat 8 = .ok (.dup, 1) := by decide +kernel
theorem dX2_waitBeat_9 : decode cX2_waitBeat 9 = .ok (.getfield 29, 3) := by decide +kernel
theorem dX2_waitBeat_12 : decode cX2_waitBeat 12 = .ok (.iconst 1, 1) := by decide +kernel
theorem dX2_waitBeat_13 : decode cX2_waitBeat 13 = .ok (.iadd, 1) := by decide +kernel
theorem dX2_waitBeat_14 : decode cX2_waitBeat 14 = .ok (.putfield 29, 3) := by decide +kernel
theorem dX2_waitBeat_17 : decode cX2_waitBeat 17 = .ok (.aload_n 0, 1) := by decide +kernel
theorem dX2_waitBeat_18 : decode cX2_waitBeat 18 = .ok (.getfield 41, 3) := by decide +kernel
theorem dX2_waitBeat_21 : decode cX2_waitBeat 21 = .ok (.ifCond .eq 18, 3) := by decide +kernel
theorem dX2_waitBeat_24 : decode cX2_waitBeat 24 = .ok (.aload_n 0, 1) := by decide +kernel
theorem dX2_waitBeat_25 : decode cX2_waitBeat 25 = .ok (.getfield 29, 3) := by decide +kernel
theorem dX2_waitBeat_28 : decode cX2_waitBeat 28 = .ok (.aload_n 0, 1) := by decide +kernel
theorem dX2_waitBeat_29 : decode cX2_waitBeat 29 = .ok (.getfield 26, 3) := by decide +kernel
theorem dX2_waitBeat_32 : decode cX2_waitBeat 32 = .ok (.if_icmp .lt 7, 3) := by decide +kernel
theorem dX2_waitBeat_35 : decode cX2_waitBeat 35 = .ok (.iconst 1, 1) := by decide +kernel
theorem dX2_waitBeat_36 : decode cX2_waitBeat 36 = .ok (.goto 4, 3) := by decide +kernel
theorem dX2_waitBeat_39 : decode cX2_waitBeat 39 = .ok (.iconst 0, 1) := by decide +kernel
theorem dX2_waitBeat_40 : decode cX2_waitBeat 40 = .ok (.ireturn, 1) := by decide +kernel
theorem dX2_hasLongerTaleThan_0 : decode cX2_hasLongerTaleThan 0 = .ok (.aload_n 0, 1) := by decide +kernel
theorem dX2_hasLongerTaleThan_1 : decode cX2_hasLongerTaleThan 1 = .ok (.getfield 35, 3) := by decide +kernel
theorem dX2_hasLongerTaleThan_4 : decode cX2_hasLongerTaleThan 4 = .ok (.ifCond .le 17, 3) := by decide +kernel
theorem dX2_hasLongerTaleThan_7 : decode cX2_hasLongerTaleThan 7 = .ok (.aload_n 0, 1) := by decide +kernel
theorem dX2_hasLongerTaleThan_8 : decode cX2_hasLongerTaleThan 8 = .ok (.getfield 9, 3) := by decide +kernel
theorem dX2_hasLongerTaleThan_11 : decode cX2_hasLongerTaleThan 11 = .ok (.aload_n 0, 1) := by decide +kernel
theorem dX2_hasLongerTaleThan_12 : decode cX2_hasLongerTaleThan 12 = .ok (.getfield 35, 3) := by decide +kernel
theorem dX2_hasLongerTaleThan_15 : decode cX2_hasLongerTaleThan 15 = .ok (.iconst 1, 1) := by decide +kernel
theorem dX2_hasLongerTaleThan_16 : decode cX2_hasLongerTaleThan 16 = .ok (.isub, 1) := by decide +kernel
theorem dX2_hasLongerTaleThan_17 : decode cX2_hasLongerTaleThan 17 = .ok (.iaload, 1) := by decide +kernel
theorem dX2_hasLongerTaleThan_18 : decode cX2_hasLongerTaleThan 18 = .ok (.goto 4, 3) := by decide +kernel
theorem dX2_hasLongerTaleThan_21 : decode cX2_hasLongerTaleThan 21 = .ok (.iconst 0, 1) := by decide +kernel
theorem dX2_hasLongerTaleThan_22 : decode cX2_hasLongerTaleThan 22 = .ok (.istore_n 2, 1) := by decide +kernel
theorem dX2_hasLongerTaleThan_23 : decode cX2_hasLongerTaleThan 23 = .ok (.aload_n 1, 1) := by decide +kernel
theorem dX2_hasLongerTaleThan_24 : decode cX2_hasLongerTaleThan 24 = .ok (.getfield 35, 3) := by decide +kernel
theorem dX2_hasLongerTaleThan_27 : decode cX2_hasLongerTaleThan 27 = .ok (.ifCond .le 17, 3) := by decide +kernel
theorem dX2_hasLongerTaleThan_30 : decode cX2_hasLongerTaleThan 30 = .ok (.aload_n 1, 1) := by decide +kernel
theorem dX2_hasLongerTaleThan_31 : decode cX2_hasLongerTaleThan 31 = .ok (.getfield 9, 3) := by decide +kernel
theorem dX2_hasLongerTaleThan_34 : decode cX2_hasLongerTaleThan 34 = .ok (.aload_n 1, 1) := by decide +kernel
theorem dX2_hasLongerTaleThan_35 : decode cX2_hasLongerTaleThan 35 = .ok (.getfield 35, 3) := by decide +kernel
theorem dX2_hasLongerTaleThan_38 : decode cX2_hasLongerTaleThan 38 = .ok (.iconst 1, 1) := by decide +kernel
theorem dX2_hasLongerTaleThan_39 : decode cX2_hasLongerTaleThan 39 = .ok (.isub, 1) := by decide +kernel
theorem dX2_hasLongerTaleThan_40 : decode cX2_hasLongerTaleThan 40 = .ok (.iaload, 1) := by decide +kernel
theorem dX2_hasLongerTaleThan_41 : decode cX2_hasLongerTaleThan 41 = .ok (.goto 4, 3) := by decide +kernel
theorem dX2_hasLongerTaleThan_44 : decode cX2_hasLongerTaleThan 44 = .ok (.iconst 0, 1) := by decide +kernel
theorem dX2_hasLongerTaleThan_45 : decode cX2_hasLongerTaleThan 45 = .ok (.istore_n 3, 1) := by decide +kernel
theorem dX2_hasLongerTaleThan_46 : decode cX2_hasLongerTaleThan 46 = .ok (.iload_n 2, 1) := by decide +kernel
theorem dX2_hasLongerTaleThan_47 : decode cX2_hasLongerTaleThan 47 = .ok (.iload_n 3, 1) := by decide +kernel
theorem dX2_hasLongerTaleThan_48 : decode cX2_hasLongerTaleThan 48 = .ok (.if_icmp .ne 22, 3) := by decide +kernel
theorem dX2_hasLongerTaleThan_51 : decode cX2_hasLongerTaleThan 51 = .ok (.aload_n 0, 1) := by decide +kernel
theorem dX2_hasLongerTaleThan_52 : decode cX2_hasLongerTaleThan 52 = .ok (.getfield 35, 3) := by decide +kernel
theorem dX2_hasLongerTaleThan_55 : decode cX2_hasLongerTaleThan 55 = .ok (.aload_n 1, 1) := by decide +kernel
theorem dX2_hasLongerTaleThan_56 : decode cX2_hasLongerTaleThan 56 = .ok (.getfield 35, 3) := by decide +kernel
theorem dX2_hasLongerTaleThan_59 : decode cX2_hasLongerTaleThan 59 = .ok (.if_icmp .le 7, 3) := by decide +kernel
theorem dX2_hasLongerTaleThan_62 : decode cX2_hasLongerTaleThan 62 = .ok (.iconst 1, 1) := by decide +kernel
theorem dX2_hasLongerTaleThan_63 : decode cX2_hasLongerTaleThan 63 = .ok (.goto 17, 3) := by decide +kernel
theorem dX2_hasLongerTaleThan_66 : decode cX2_hasLongerTaleThan 66 = .ok (.iconst 0, 1) := by decide +kernel
theorem dX2_hasLongerTaleThan_67 : decode cX2_hasLongerTaleThan 67 = .ok (.goto 13, 3) := by decide +kernel
theorem dX2_hasLongerTaleThan_70 : decode cX2_hasLongerTaleThan 70 = .ok (.iload_n 2, 1) := by decide +kernel
theorem dX2_hasLongerTaleThan_71 : decode cX2_hasLongerTaleThan 71 = .ok (.iload_n 3, 1) := by decide +kernel
theorem dX2_hasLongerTaleThan_72 : decode cX2_hasLongerTaleThan 72 = .ok (.if_icmp .le 7, 3) := by decide +kernel
theorem dX2_hasLongerTaleThan_75 : decode cX2_hasLongerTaleThan 75 = .ok (.iconst 1, 1) := by decide +kernel
theorem dX2_hasLongerTaleThan_76 : decode cX2_hasLongerTaleThan 76 = .ok (.goto 4, 3) := by decide +kernel
theorem dX2_hasLongerTaleThan_79 : decode cX2_hasLongerTaleThan 79 = .ok (.iconst 0, 1) := by decide +kernel
theorem dX2_hasLongerTaleThan_80 : decode cX2_hasLongerTaleThan 80 = .ok (.ireturn, 1) := by decide +kernel
theorem dX2_countSameLines_0 : decode cX2_countSameLines 0 = .ok (.aload_n 0, 1) := by decide +kernel
theorem dX2_countSameLines_1 : decode cX2_countSameLines 1 = .ok (.getfield 35, 3) := by decide +kernel
theorem dX2_countSameLines_4 : decode cX2_countSameLines 4 = .ok (.aload_n 1, 1) := by decide +kernel
theorem dX2_countSameLines_5 : decode cX2_countSameLines 5 = .ok (.getfield 35, 3) := by decide +kernel
theorem dX2_countSameLines_8 : decode cX2_countSameLines 8 = .ok (.invokestatic 55, 3) := by decide +kernel
theorem dX2_countSameLines_11 : decode cX2_countSameLines 11 = .ok (.istore_n 2, 1) := by decide +kernel
theorem dX2_countSameLines_12 : decode cX2_countSameLines 12 = .ok (.iconst 0, 1) := by decide +kernel
theorem dX2_countSameLines_13 : decode cX2_countSameLines 13 = .ok (.istore_n 3, 1) := by decide +kernel
theorem dX2_countSameLines_14 : decode cX2_countSameLines 14 = .ok (.iload_n 3, 1) := by decide +kernel
theorem dX2_countSameLines_15 : decode cX2_countSameLines 15 = .ok (.iload_n 2, 1) := by decide +kernel
theorem dX2_countSameLines_16 : decode cX2_countSameLines 16 = .ok (.if_icmp .ge 39, 3) := by decide +kernel
theorem dX2_countSameLines_19 : decode cX2_countSameLines 19 = .ok (.aload_n 0, 1) := by decide +kernel
theorem dX2_countSameLines_20 : decode cX2_countSameLines 20 = .ok (.getfield 9, 3) := by decide +kernel
theorem dX2_countSameLines_23 : decode cX2_countSameLines 23 = .ok (.iload_n 3, 1) := by decide +kernel
theorem dX2_countSameLines_24 : decode cX2_countSameLines 24 = .ok (.iaload, 1) := by decide +kernel
theorem dX2_countSameLines_25 : decode cX2_countSameLines 25 = .ok (.aload_n 1, 1) := by decide +kernel
theorem dX2_countSameLines_26 : decode cX2_countSameLines 26 = .ok (.getfield 9, 3) := by decide +kernel
theorem dX2_countSameLines_29 : decode cX2_countSameLines 29 = .ok (.iload_n 3, 1) := by decide +kernel
theorem dX2_countSameLines_30 : decode cX2_countSameLines 30 = .ok (.iaload, 1) := by decide +kernel
theorem dX2_countSameLines_31 : decode cX2_countSameLines 31 = .ok (.if_icmp .ne 24, 3) := by decide +kernel
theorem dX2_countSameLines_34 : decode cX2_countSameLines 34 = .ok (.aload_n 0, 1) := by decide +kernel
theorem dX2_countSameLines_35 : decode cX2_countSameLines 35 = .ok (.getfield 15, 3) := by decide +kernel
theorem dX2_countSameLines_38 : decode cX2_countSameLines 38 = .ok (.iload_n 3, 1) := by decide +kernel
theorem dX2_countSameLines_39 : decode cX2_countSameLines 39 = .ok (.caload, 1) := by decide +kernel
theorem dX2_countSameLines_40 : decode cX2_countSameLines 40 = .ok (.aload_n 1, 1) := by decide +kernel
theorem dX2_countSameLines_41 : decode cX2_countSameLines 41 = .ok (.getfield 15, 3) := by decide +kernel
theorem dX2_countSameLines_44 : decode cX2_countSameLines 44 = .ok (.iload_n 3, 1) := by decide +kernel
theorem dX2_countSameLines_45 : decode cX2_countSameLines 45 = .ok (.caload, 1) := by decide +kernel
theorem dX2_countSameLines_46 : decode cX2_countSameLines 46 = .ok (.if_icmp .ne 9, 3) := by decide +kernel
theorem dX2_countSameLines_49 : decode cX2_countSameLines 49 = .ok (.iinc 3 1, 3) := by decide +kernel
theorem dX2_countSameLines_52 : decode cX2_countSameLines 52 = .ok (.goto (-38), 3) := by decide +kernel
theorem dX2_countSameLines_55 : decode cX2_countSameLines 55 = .ok (.iload_n 3, 1) := by decide +kernel
theorem dX2_countSameLines_56 : decode cX2_countSameLines 56 = .ok (.ireturn, 1) := by decide +kernel
theorem dX2_takeOver_0 : decode cX2_takeOver 0 = .ok (.aload_n 0, 1) := by decide +kernel
theorem dX2_takeOver_1 : decode cX2_takeOver 1 = .ok (.iload_n 1, 1) := by decide +kernel
theorem dX2_takeOver_2 : decode cX2_takeOver 2 = .ok (.putfield 23, 3) := by decide +kernel
theorem dX2_takeOver_5 : decode cX2_takeOver 5 = .ok (.aload_n 0, 1) := by decide +kernel
theorem dX2_takeOver_6 : decode cX2_takeOver 6 = .ok (.iconst 0, 1) := by decide +kernel
theorem dX2_takeOver_7 : decode cX2_takeOver 7 = .ok (.putfield 19, 3) := by decide +kernel
theorem dX2_takeOver_10 : decode cX2_takeOver 10 = .ok (.aload_n 0, 1) := by decide +kernel
theorem dX2_takeOver_11 : decode cX2_takeOver 11 = .ok (.iconst (-1), 1) := by decide +kernel
theorem dX2_takeOver_12 : decode cX2_takeOver 12 = .ok (.putfield 32, 3) := by decide +kernel
theorem dX2_takeOver_15 : decode cX2_takeOver 15 = .ok (.return_, 1) := by decide +kernel
theorem dX2_followLeader_0 : decode cX2_followLeader 0 = .ok (.aload_n 0, 1) := by decide +kernel
theorem dX2_followLeader_1 : decode cX2_followLeader 1 = .ok (.getfield 23, 3) := by decide +kernel
theorem dX2_followLeader_4 : decode cX2_followLeader 4 = .ok (.aload_n 1, 1) := by decide +kernel
theorem dX2_followLeader_5 : decode cX2_followLeader 5 = .ok (.getfield 23, 3) := by decide +kernel
theorem dX2_followLeader_8 : decode cX2_followLeader 8 = .ok (.if_icmp .ge 11, 3) := by decide +kernel
theorem dX2_followLeader_11 : decode cX2_followLeader 11 = .ok (.aload_n 0, 1) := by decide +kernel
theorem dX2_followLeader_12 : decode cX2_followLeader 12 = .ok (.aload_n 1, 1) := by decide +kernel
theorem dX2_followLeader_13 : decode cX2_followLeader 13 = .ok (.getfield 23, 3) := by decide +kernel
theorem dX2_followLeader_16 : decode cX2_followLeader 16 = .ok (.invokevirtual 61, 3) := by decide +kernel
theorem dX2_followLeader_19 : decode cX2_followLeader 19 = .ok (.aload_n 0, 1) := by decide +kernel
theorem dX2_followLeader_20 : decode cX2_followLeader 20 = .ok (.iconst 0, 1) := by decide +kernel
theorem dX2_followLeader_21 : decode cX2_followLeader 21 = .ok (.putfield 19, 3) := by decide +kernel
theorem dX2_followLeader_24 : decode cX2_followLeader 24 = .ok (.aload_n 0, 1) := by decide +kernel
theorem dX2_followLeader_25 : decode cX2_followLeader 25 = .ok (.iconst 0, 1) := by decide +kernel
theorem dX2_followLeader_26 : decode cX2_followLeader 26 = .ok (.putfield 29, 3) := by decide +kernel
theorem dX2_followLeader_29 : decode cX2_followLeader 29 = .ok (.aload_n 0, 1) := by decide +kernel
theorem dX2_followLeader_30 : decode cX2_followLeader 30 = .ok (.aload_n 1, 1) := by decide +kernel
theorem dX2_followLeader_31 : decode cX2_followLeader 31 = .ok (.invokevirtual 65, 3) := by decide +kernel
theorem dX2_followLeader_34 : decode cX2_followLeader 34 = .ok (.istore_n 2, 1) := by decide +kernel
theorem dX2_followLeader_35 : decode cX2_followLeader 35 = .ok (.iconst 0, 1) := by decide +kernel
theorem dX2_followLeader_36 : decode cX2_followLeader 36 = .ok (.istore_n 3, 1) := by decide +kernel
theorem dX2_followLeader_37 : decode cX2_followLeader 37 = .ok (.aload_n 1, 1) := by decide +kernel
theorem dX2_followLeader_38 : decode cX2_followLeader 38 = .ok (.getfield 35, 3) := by decide +kernel
theorem dX2_followLeader_41 : decode cX2_followLeader 41 = .ok (.iload_n 2, 1) := by decide +kernel
theorem dX2_followLeader_42 : decode cX2_followLeader 42 = .ok (.if_icmp .le 16, 3) := by decide +kernel
theorem dX2_followLeader_45 : decode cX2_followLeader 45 = .ok (.aload_n 0, 1) := by decide +kernel
theorem dX2_followLeader_46 : decode cX2_followLeader 46 = .ok (.getfield 35, 3) := by decide +kernel
theorem dX2_followLeader_49 : decode cX2_followLeader 49 = .ok (.iload_n 2, 1) := by decide +kernel
theorem dX2_followLeader_50 : decode cX2_followLeader 50 = .ok (.isub, 1) := by decide +kernel
theorem dX2_followLeader_51 : decode cX2_followLeader 51 = .ok (.istore_n 3, 1) := by decide +kernel
theorem dX2_followLeader_52 : decode cX2_followLeader 52 = .ok (.aload_n 0, 1) := by decide +kernel
theorem dX2_followLeader_53 : decode cX2_followLeader 53 = .ok (.aload_n 1, 1) := by decide +kernel
theorem dX2_followLeader_54 : decode cX2_followLeader 54 = .ok (.iload_n 2, 1) := by decide +kernel
theorem dX2_followLeader_55 : decode cX2_followLeader 55 = .ok (.invokevirtual 51, 3) := by decide +kernel
theorem dX2_followLeader_58 : decode cX2_followLeader 58 = .ok (.aload_n 0, 1) := by decide +kernel
theorem dX2_followLeader_59 : decode cX2_followLeader 59 = .ok (.aload_n 0, 1) := by decide +kernel
theorem dX2_followLeader_60 : decode cX2_followLeader 60 = .ok (.getfield 38, 3) := by decide +kernel
theorem dX2_followLeader_63 : decode cX2_followLeader 63 = .ok (.aload_n 1, 1) := by decide +kernel
theorem dX2_followLeader_64 : decode cX2_followLeader 64 = .ok (.getfield 38, 3) := by decide +kernel
theorem dX2_followLeader_67 : decode cX2_followLeader 67 = .ok (.aload_n 0, 1) := by decide +kernel
theorem dX2_followLeader_68 : decode cX2_followLeader 68 = .ok (.getfield 35, 3) := by decide +kernel
theorem dX2_followLeader_71 : decode cX2_followLeader 71 = .ok (.invokestatic 55, 3) := by decide +kernel
theorem dX2_followLeader_74 : decode cX2_followLeader 74 = .ok (.invokestatic 69, 3) := by decide +kernel
theorem dX2_followLeader_77 : decode cX2_followLeader 77 = .ok (.putfield 38, 3) := by decide +kernel
theorem dX2_followLeader_80 : decode cX2_followLeader 80 = .ok (.iload_n 3, 1) := by decide +kernel
theorem dX2_followLeader_81 : decode cX2_followLeader 81 = .ok (.ireturn, 1) := by decide +kernel
theorem dX2_agreeOwnLines_0 : decode cX2_agreeOwnLines 0 = .ok (.aload_n 0, 1) := by decide +kernel
theorem dX2_agreeOwnLines_1 : decode cX2_agreeOwnLines 1 = .ok (.getfield 35, 3) := by decide +kernel
theorem dX2_agreeOwnLines_4 : decode cX2_agreeOwnLines 4 = .ok (.istore_n 1, 1) := by decide +kernel
theorem dX2_agreeOwnLines_5 : decode cX2_agreeOwnLines 5 = .ok (.iload_n 1, 1) := by decide +kernel
theorem dX2_agreeOwnLines_6 : decode cX2_agreeOwnLines 6 = .ok (.aload_n 0, 1) := by decide +kernel
theorem dX2_agreeOwnLines_7 : decode cX2_agreeOwnLines 7 = .ok (.getfield 38, 3) := by decide +kernel
theorem dX2_agreeOwnLines_10 : decode cX2_agreeOwnLines 10 = .ok (.if_icmp .le 30, 3) := by decide +kernel
theorem dX2_agreeOwnLines_13 : decode cX2_agreeOwnLines 13 = .ok (.aload_n 0, 1) := by decide +kernel
theorem dX2_agreeOwnLines_14 : decode cX2_agreeOwnLines 14 = .ok (.getfield 9, 3) := by decide +kernel
theorem dX2_agreeOwnLines_17 : decode cX2_agreeOwnLines 17 = .ok (.iload_n 1, 1) := by decide +kernel
theorem dX2_agreeOwnLines_18 : decode cX2_agreeOwnLines 18 = .ok (.iconst 1, 1) := by decide +kernel
theorem dX2_agreeOwnLines_19 : decode cX2_agreeOwnLines 19 = .ok (.isub, 1) := by decide +kernel
theorem dX2_agreeOwnLines_20 : decode cX2_agreeOwnLines 20 = .ok (.iaload, 1) := by decide +kernel
theorem dX2_agreeOwnLines_21 : decode cX2_agreeOwnLines 21 = .ok (.aload_n 0, 1) := by decide +kernel
theorem dX2_agreeOwnLines_22 : decode cX2_agreeOwnLines 22 = .ok (.getfield 23, 3) := by decide +kernel
theorem dX2_agreeOwnLines_25 : decode cX2_agreeOwnLines 25 = .ok (.if_icmp .ne 9, 3) := by decide +kernel
theorem dX2_agreeOwnLines_28 : decode cX2_agreeOwnLines 28 = .ok (.aload_n 0, 1) := by decide +kernel
theorem dX2_agreeOwnLines_29 : decode cX2_agreeOwnLines 29 = .ok (.iload_n 1, 1) := by decide +kernel
theorem dX2_agreeOwnLines_30 : decode cX2_agreeOwnLines 30 = .ok (.putfield 38, 3) := by decide +kernel
theorem dX2_agreeOwnLines_33 : decode cX2_agreeOwnLines 33 = .ok (.return_, 1) := by decide +kernel
theorem dX2_agreeOwnLines_34 : decode cX2_agreeOwnLines 34 = .ok (.iinc 1 (-1), 3) := by decide +kernel
theorem dX2_agreeOwnLines_37 : decode cX2_agreeOwnLines 37 = .ok (.goto (-32), 3) := by decide +kernel
theorem dX2_agreeOwnLines_40 : decode cX2_agreeOwnLines 40 = .ok (.return_, 1) := by decide +kernel
theorem dX3_init_0 : decode cX3_init 0 = .ok (.aload_n 0, 1) := by decide +kernel
theorem dX3_init_1 : decode cX3_init 1 = .ok (.invokespecial 3, 3) := by decide +kernel
theorem dX3_init_4 : decode cX3_init 4 = .ok (.aload_n 0, 1) := by decide +kernel
theorem dX3_init_5 : decode cX3_init 5 = .ok (.bipush 8, 2) := by decide +kernel
theorem dX3_init_7 : decode cX3_init 7 = .ok (.anewarray 9, 3) := by decide +kernel
theorem dX3_init_10 : decode cX3_init 10 = .ok (.putfield 11, 3) := by decide +kernel
theorem dX3_init_13 : decode cX3_init 13 = .ok (.iconst 0, 1) := by decide +kernel
theorem dX3_init_14 : decode cX3_init 14 = .ok (.istore_n 1, 1) := by decide +kernel
theorem dX3_init_15 : decode cX3_init 15 = .ok (.iload_n 1, 1) := by decide +kernel
theorem dX3_init_16 : decode cX3_init 16 = .ok (.aload_n 0, 1) := by decide +kernel
theorem dX3_init_17 : decode cX3_init 17 = .ok (.getfield 11, 3) := by decide +kernel
theorem dX3_init_20 : decode cX3_init 20 = .ok (.arraylength, 1) := by decide +kernel
theorem dX3_init_21 : decode cX3_init 21 = .ok (.if_icmp .ge 22, 3) := by decide +kernel
theorem dX3_init_24 : decode cX3_init 24 = .ok (.aload_n 0, 1) := by decide +kernel
theorem dX3_init_25 : decode cX3_init 25 = .ok (.getfield 11, 3) := by decide +kernel
theorem dX3_init_28 : decode cX3_init 28 = .ok (.iload_n 1, 1) := by decide +kernel
theorem dX3_init_29 : decode cX3_init 29 = .ok (.new 9, 3) := by decide +kernel
theorem dX3_init_32 : decode cX3_init 32 = .ok (.dup, 1) := by decide +kernel
theorem dX3_init_33 : decode cX3_init 33 = .ok (.invokespecial 17, 3) := by decide +kernel
theorem dX3_init_36 : decode cX3_init 36 = .ok (.aastore, 1) := by decide +kernel
theorem dX3_init_37 : decode cX3_init 37 = .ok (.iinc 1 1, 3) := by decide +kernel
theorem dX3_init_40 : decode cX3_init 40 = .ok (.goto (-25), 3) := by decide +kernel
theorem dX3_init_43 : decode cX3_init 43 = .ok (.return_, 1) := by decide +kernel
theorem dX3_remember_0 : decode cX3_remember 0 = .ok (.aload_n 0, 1) := by decide +kernel
theorem dX3_remember_1 : decode cX3_remember 1 = .ok (.getfield 11, 3) := by decide +kernel
theorem dX3_remember_4 : decode cX3_remember 4 = .ok (.aload_n 0, 1) := by decide +kernel
theorem dX3_remember_5 : decode cX3_remember 5 = .ok (.getfield 18, 3) := by decide +kernel
theorem dX3_remember_8 : decode cX3_remember 8 = .ok (.aaload, 1) := by decide +kernel
theorem dX3_remember_9 : decode cX3_remember 9 = .ok (.aload_n 1, 1) := by decide +kernel
theorem dX3_remember_10 : decode cX3_remember 10 = .ok (.invokevirtual 22, 3) := by decide +kernel
theorem dX3_remember_13 : decode cX3_remember 13 = .ok (.aload_n 0, 1) := by decide +kernel
theorem dX3_remember_14 : decode cX3_remember 14 = .ok (.aload_n 0, 1) := by decide +kernel
theorem dX3_remember_15 : decode cX3_remember 15 = .ok (.getfield 18, 3) := by decide +kernel
theorem dX3_remember_18 : decode cX3_remember 18 = .ok (.iconst 1, 1) := by decide +kernel
theorem dX3_remember_19 : decode cX3_remember 19 = .ok (.iadd, 1) := by decide +kernel
theorem dX3_remember_20 : decode cX3_remember 20 = .ok (.bipush 8, 2) := by decide +kernel
theorem dX3_remember_22 : decode cX3_remember 22 = .ok (.irem, 1) := by decide +kernel
theorem dX3_remember_23 : decode cX3_remember 23 = .ok (.putfield 18, 3) := by decide +kernel
theorem dX3_remember_26 : decode cX3_remember 26 = .ok (.aload_n 0, 1) := by decide +kernel
theorem dX3_remember_27 : decode cX3_remember 27 = .ok (.aload_n 0, 1) := by decide +kernel
theorem dX3_remember_28 : decode cX3_remember 28 = .ok (.getfield 26, 3) := by decide +kernel
theorem dX3_remember_31 : decode cX3_remember 31 = .ok (.iconst 1, 1) := by decide +kernel
theorem dX3_remember_32 : decode cX3_remember 32 = .ok (.iadd, 1) := by decide +kernel
theorem dX3_remember_33 : decode cX3_remember 33 = .ok (.bipush 8, 2) := by decide +kernel
theorem dX3_remember_35 : decode cX3_remember 35 = .ok (.invokestatic 29, 3) := by decide +kernel
theorem dX3_remember_38 : decode cX3_remember 38 = .ok (.putfield 26, 3) := by decide +kernel
theorem dX3_remember_41 : decode cX3_remember 41 = .ok (.return_, 1) := by decide +kernel
theorem dX3_takeBack_0 : decode cX3_takeBack 0 = .ok (.aload_n 0, 1) := by decide +kernel
theorem dX3_takeBack_1 : decode cX3_takeBack 1 = .ok (.aload_n 0, 1) := by decide +kernel
theorem dX3_takeBack_2 : decode cX3_takeBack 2 = .ok (.getfield 18, 3) := by decide +kernel
theorem dX3_takeBack_5 : decode cX3_takeBack 5 = .ok (.bipush 8, 2) := by decide +kernel
theorem dX3_takeBack_7 : decode cX3_takeBack 7 = .ok (.iadd, 1) := by decide +kernel
theorem dX3_takeBack_8 : decode cX3_takeBack 8 = .ok (.iconst 1, 1) := by decide +kernel
theorem dX3_takeBack_9 : decode cX3_takeBack 9 = .ok (.isub, 1) := by decide +kernel
theorem dX3_takeBack_10 : decode cX3_takeBack 10 = .ok (.bipush 8, 2) := by decide +kernel
theorem dX3_takeBack_12 : decode cX3_takeBack 12 = .ok (.irem, 1) := by decide +kernel
theorem dX3_takeBack_13 : decode cX3_takeBack 13 = .ok (.putfield 18, 3) := by decide +kernel
theorem dX3_takeBack_16 : decode cX3_takeBack 16 = .ok (.aload_n 1, 1) := by decide +kernel
theorem dX3_takeBack_17 : decode cX3_takeBack 17 = .ok (.aload_n 0, 1) := by decide +kernel
theorem dX3_takeBack_18 : decode cX3_takeBack 18 = .ok (.getfield 11, 3) := by decide +kernel
theorem dX3_takeBack_21 : decode cX3_takeBack 21 = .ok (.aload_n 0, 1) := by decide +kernel
theorem dX3_takeBack_22 : decode cX3_takeBack 22 = .ok (.getfield 18, 3) := by decide +kernel
theorem dX3_takeBack_25 : decode cX3_takeBack 25 = .ok (.aaload, 1) := by decide +kernel
theorem dX3_takeBack_26 : decode cX3_takeBack 26 = .ok (.invokevirtual 22, 3) := by decide +kernel
theorem dX3_takeBack_29 : decode cX3_takeBack 29 = .ok (.aload_n 0, 1) := by decide +kernel
theorem dX3_takeBack_30 : decode cX3_takeBack 30 = .ok (.dup, 1) := by decide +kernel
theorem dX3_takeBack_31 : decode cX3_takeBack 31 = .ok (.getfield 26, 3) := by decide +kernel
theorem dX3_takeBack_34 : decode cX3_takeBack 34 = .ok (.iconst 1, 1) := by decide +kernel
theorem dX3_takeBack_35 : decode cX3_takeBack 35 = .ok (.isub, 1) := by decide +kernel
theorem dX3_takeBack_36 : decode cX3_takeBack 36 = .ok (.putfield 26, 3) := by decide +kernel
theorem dX3_takeBack_39 : decode cX3_takeBack 39 = .ok (.return_, 1) := by decide +kernel
theorem dX3_forget_0 : decode cX3_forget 0 = .ok (.aload_n 0, 1) := by decide +kernel
theorem dX3_forget_1 : decode cX3_forget 1 = .ok (.iconst 0, 1) := by decide +kernel
theorem dX3_forget_2 : decode cX3_forget 2 = .ok (.putfield 26, 3) := by decide +kernel
theorem dX3_forget_5 : decode cX3_forget 5 = .ok (.return_, 1) := by decide +kernel
theorem dX4_init_0 : decode cX4_init 0 = .ok (.aload_n 0, 1) := by decide +kernel
theorem dX4_init_1 : decode cX4_init 1 = .ok (.invokespecial 3, 3) := by decide +kernel
theorem dX4_init_4 : decode cX4_init 4 = .ok (.aload_n 0, 1) := by decide +kernel
theorem dX4_init_5 : decode cX4_init 5 = .ok (.iconst 5, 1) := by decide +kernel
theorem dX4_init_6 : decode cX4_init 6 = .ok (.anewarray 9, 3) := by decide +kernel
theorem dX4_init_9 : decode cX4_init 9 = .ok (.putfield 11, 3) := by decide +kernel
theorem dX4_init_12 : decode cX4_init 12 = .ok (.aload_n 0, 1) := by decide +kernel
theorem dX4_init_13 : decode cX4_init 13 = .ok (.bipush 25, 2) := by decide +kernel
theorem dX4_init_15 : decode cX4_init 15 = .ok (.newarray .boolean, 2) := by decide +kernel
theorem dX4_init_17 : decode cX4_init 17 = .ok (.putfield 17, 3) := by decide +kernel
theorem dX4_init_20 : decode cX4_init 20 = .ok (.iconst 0, 1) := by decide +kernel
theorem dX4_init_21 : decode cX4_init 21 = .ok (.istore_n 1, 1) := by decide +kernel
theorem dX4_init_22 : decode cX4_init 22 = .ok (.iload_n 1, 1) := by decide +kernel
theorem dX4_init_23 : decode cX4_init 23 = .ok (.aload_n 0, 1) := by decide +kernel
theorem dX4_init_24 : decode cX4_init 24 = .ok (.getfield 11, 3) := by decide +kernel
theorem dX4_init_27 : decode cX4_init 27 = .ok (.arraylength, 1) := by decide +kernel
theorem dX4_init_28 : decode cX4_init 28 = .ok (.if_icmp .ge 22, 3) := by decide +kernel
theorem dX4_init_31 : decode cX4_init 31 = .ok (.aload_n 0, 1) := by decide +kernel
theorem dX4_init_32 : decode cX4_init 32 = .ok (.getfield 11, 3) := by decide +kernel
theorem dX4_init_35 : decode cX4_init 35 = .ok (.iload_n 1, 1) := by decide +kernel
theorem dX4_init_36 : decode cX4_init 36 = .ok (.new 9, 3) := by decide +kernel
theorem dX4_init_39 : decode cX4_init 39 = .ok (.dup, 1) := by decide +kernel
theorem dX4_init_40 : decode cX4_init 40 = .ok (.invokespecial 21, 3) := by decide +kernel
theorem dX4_init_43 : decode cX4_init 43 = .ok (.aastore, 1) := by decide +kernel
theorem dX4_init_44 : decode cX4_init 44 = .ok (.iinc 1 1, 3) := by decide +kernel
theorem dX4_init_47 : decode cX4_init 47 = .ok (.goto (-25), 3) := by decide +kernel
theorem dX4_init_50 : decode cX4_init 50 = .ok (.return_, 1) := by decide +kernel
theorem dX4_copyFrom_0 : decode cX4_copyFrom 0 = .ok (.iconst 0, 1) := by decide +kernel
theorem dX4_copyFrom_1 : decode cX4_copyFrom 1 = .ok (.istore_n 2, 1) := by decide +kernel
theorem dX4_copyFrom_2 : decode cX4_copyFrom 2 = .ok (.iload_n 2, 1) := by decide +kernel
theorem dX4_copyFrom_3 : decode cX4_copyFrom 3 = .ok (.aload_n 1, 1) := by decide +kernel
theorem dX4_copyFrom_4 : decode cX4_copyFrom 4 = .ok (.getfield 22, 3) := by decide +kernel
theorem dX4_copyFrom_7 : decode cX4_copyFrom 7 = .ok (.if_icmp .ge 24, 3) := by decide +kernel
theorem dX4_copyFrom_10 : decode cX4_copyFrom 10 = .ok (.aload_n 0, 1) := by decide +kernel
theorem dX4_copyFrom_11 : decode cX4_copyFrom 11 = .ok (.getfield 11, 3) := by decide +kernel
theorem dX4_copyFrom_14 : decode cX4_copyFrom 14 = .ok (.iload_n 2, 1) := by decide +kernel
theorem dX4_copyFrom_15 : decode cX4_copyFrom 15 = .ok (.aaload, 1) := by decide +kernel
theorem dX4_copyFrom_16 : decode cX4_copyFrom 16 = .ok (.aload_n 1, 1) := by decide +kernel
theorem dX4_copyFrom_17 : decode cX4_copyFrom 17 = .ok (.getfield 11, 3) := by decide +kernel
theorem dX4_copyFrom_20 : decode cX4_copyFrom 20 = .ok (.iload_n 2, 1) := by decide +kernel
theorem dX4_copyFrom_21 : decode cX4_copyFrom 21 = .ok (.aaload, 1) := by decide +kernel
theorem dX4_copyFrom_22 : decode cX4_copyFrom 22 = .ok (.invokevirtual 47, 3) := by decide +kernel
theorem dX4_copyFrom_25 : decode cX4_copyFrom 25 = .ok (.iinc 2 1, 3) := by decide +kernel
theorem dX4_copyFrom_28 : decode cX4_copyFrom 28 = .ok (.goto (-26), 3) := by decide +kernel
theorem dX4_copyFrom_31 : decode cX4_copyFrom 31 = .ok (.iconst 0, 1) := by decide +kernel
theorem dX4_copyFrom_32 : decode cX4_copyFrom 32 = .ok (.istore_n 2, 1) := by decide +kernel
theorem dX4_copyFrom_33 : decode cX4_copyFrom 33 = .ok (.iload_n 2, 1) := by decide +kernel
theorem dX4_copyFrom_34 : decode cX4_copyFrom 34 = .ok (.aload_n 0, 1) := by decide +kernel
theorem dX4_copyFrom_35 : decode cX4_copyFrom 35 = .ok (.getfield 17, 3) := by decide +kernel
theorem dX4_copyFrom_38 : decode cX4_copyFrom 38 = .ok (.arraylength, 1) := by decide +kernel
theorem dX4_copyFrom_39 : decode cX4_copyFrom 39 = .ok (.if_icmp .ge 21, 3) := by decide +kernel
theorem dX4_copyFrom_42 : decode cX4_copyFrom 42 = .ok (.aload_n 0, 1) := by decide +kernel
theorem dX4_copyFrom_43 : decode cX4_copyFrom 43 = .ok (.getfield 17, 3) := by decide +kernel
theorem dX4_copyFrom_46 : decode cX4_copyFrom 46 = .ok (.iload_n 2, 1) := by decide +kernel
theorem dX4_copyFrom_47 : decode cX4_copyFrom 47 = .ok (.aload_n 1, 1) := by decide +kernel
theorem dX4_copyFrom_48 : decode cX4_copyFrom 48 = .ok (.getfield 17, 3) := by decide +kernel
theorem dX4_copyFrom_51 : decode cX4_copyFrom 51 = .ok (.iload_n 2, 1) := by decide +kernel
theorem dX4_copyFrom_52 : decode cX4_copyFrom 52 = .ok (.baload, 1) := by decide +kernel
theorem dX4_copyFrom_53 : decode cX4_copyFrom 53 = .ok (.bastore, 1) := by decide +kernel
theorem dX4_copyFrom_54 : decode cX4_copyFrom 54 = .ok (.iinc 2 1, 3) := by decide +kernel
theorem dX4_copyFrom_57 : decode cX4_copyFrom 57 = .ok (.goto (-24), 3) := by decide +kernel
theorem dX4_copyFrom_60 : decode cX4_copyFrom 60 = .ok (.aload_n 0, 1) := by decide +kernel
theorem dX4_copyFrom_61 : decode cX4_copyFrom 61 = .ok (.aload_n 1, 1) := by decide +kernel
theorem dX4_copyFrom_62 : decode cX4_copyFrom 62 = .ok (.getfield 22, 3) := by decide +kernel
theorem dX4_copyFrom_65 : decode cX4_copyFrom 65 = .ok (.putfield 22, 3) := by decide +kernel
theorem dX4_copyFrom_68 : decode cX4_copyFrom 68 = .ok (.aload_n 0, 1) := by decide +kernel
theorem dX4_copyFrom_69 : decode cX4_copyFrom 69 = .ok (.aload_n 1, 1) := by decide +kernel
theorem dX4_copyFrom_70 : decode cX4_copyFrom 70 = .ok (.getfield 26, 3) := by decide +kernel
theorem dX4_copyFrom_73 : decode cX4_copyFrom 73 = .ok (.putfield 26, 3) := by decide +kernel
theorem dX4_copyFrom_76 : decode cX4_copyFrom 76 = .ok (.aload_n 0, 1) := by decide +kernel
theorem dX4_copyFrom_77 : decode cX4_copyFrom 77 = .ok (.aload_n 1, 1) := by decide +kernel
theorem dX4_copyFrom_78 : decode cX4_copyFrom 78 = .ok (.getfield 29, 3) := by decide +kernel
theorem dX4_copyFrom_81 : decode cX4_copyFrom 81 = .ok (.putfield 29, 3) := by decide +kernel
theorem dX4_copyFrom_84 : decode cX4_copyFrom 84 = .ok (.aload_n 0, 1) := by decide +kernel
theorem dX4_copyFrom_85 : decode cX4_copyFrom 85 = .ok (.aload_n 1, 1) := by decide +kernel
theorem dX4_copyFrom_86 : decode cX4_copyFrom 86 = .ok (.getfield 32, 3) := by decide +kernel
theorem dX4_copyFrom_89 : decode cX4_copyFrom 89 = .ok (.putfield 32, 3) := by decide +kernel
theorem dX4_copyFrom_92 : decode cX4_copyFrom 92 = .ok (.aload_n 0, 1) := by decide +kernel
theorem dX4_copyFrom_93 : decode cX4_copyFrom 93 = .ok (.aload_n 1, 1) := by decide +kernel
theorem dX4_copyFrom_94 : decode cX4_copyFrom 94 = .ok (.getfield 35, 3) := by decide +kernel
theorem dX4_copyFrom_97 : decode cX4_copyFrom 97 = .ok (.putfield 35, 3) := by decide +kernel
theorem dX4_copyFrom_100 : decode cX4_copyFrom 100 = .ok (.aload_n 0, 1) := by decide +kernel
theorem dX4_copyFrom_101 : decode cX4_copyFrom 101 = .ok (.aload_n 1, 1) := by decide +kernel
theorem dX4_copyFrom_102 : decode cX4_copyFrom 102 = .ok (.getfield 38, 3) := by decide +kernel
theorem dX4_copyFrom_105 : decode cX4_copyFrom 105 = .ok (.putfield 38, 3) := by decide +kernel
theorem dX4_copyFrom_108 : decode cX4_copyFrom 108 = .ok (.aload_n 0, 1) := by decide +kernel
theorem dX4_copyFrom_109 : decode cX4_copyFrom 109 = .ok (.aload_n 1, 1) := by decide +kernel
theorem dX4_copyFrom_110 : decode cX4_copyFrom 110 = .ok (.getfield 41, 3) := by decide +kernel
theorem dX4_copyFrom_113 : decode cX4_copyFrom 113 = .ok (.putfield 41, 3) := by decide +kernel
theorem dX4_copyFrom_116 : decode cX4_copyFrom 116 = .ok (.aload_n 0, 1) := by decide +kernel
theorem dX4_copyFrom_117 : decode cX4_copyFrom 117 = .ok (.aload_n 1, 1) := by decide +kernel
theorem dX4_copyFrom_118 : decode cX4_copyFrom 118 = .ok (.getfield 44, 3) := by decide +kernel
theorem dX4_copyFrom_121 : decode cX4_copyFrom 121 = .ok (.putfield 44, 3) := by decide +kernel
theorem dX4_copyFrom_124 : decode cX4_copyFrom 124 = .ok (.return_, 1) := by decide +kernel
theorem dX4_has_0 : decode cX4_has 0 = .ok (.iload_n 1, 1) := by decide +kernel
theorem dX4_has_1 : decode cX4_has 1 = .ok (.ifCond .lt 15, 3) := by decide +kernel
theorem dX4_has_4 : decode cX4_has 4 = .ok (.iload_n 1, 1) := by decide +kernel
theorem dX4_has_5 : decode cX4_has 5 = .ok (.aload_n 0, 1) := by decide +kernel
theorem dX4_has_6 : decode cX4_has 6 = .ok (.getfield 22, 3) := by decide +kernel
theorem dX4_has_9 : decode cX4_has 9 = .ok (.if_icmp .ge 7, 3) := by decide +kernel
theorem dX4_has_12 : decode cX4_has 12 = .ok (.iconst 1, 1) := by decide +kernel
theorem dX4_has_13 : decode cX4_has 13 = .ok (.goto 4, 3) := by decide +kernel
theorem dX4_has_16 : decode cX4_has 16 = .ok (.iconst 0, 1) := by decide +kernel
theorem dX4_has_17 : decode cX4_has 17 = .ok (.ireturn, 1) := by decide +kernel
theorem dX4_hasLine_0 : decode cX4_hasLine 0 = .ok (.aload_n 0, 1) := by decide +kernel
theorem dX4_hasLine_1 : decode cX4_hasLine 1 = .ok (.iload_n 1, 1) := by decide +kernel
theorem dX4_hasLine_2 : decode cX4_hasLine 2 = .ok (.invokevirtual 51, 3) := by decide +kernel
theorem dX4_hasLine_5 : decode cX4_hasLine 5 = .ok (.ifCond .eq 25, 3) := by decide +kernel
theorem dX4_hasLine_8 : decode cX4_hasLine 8 = .ok (.iload_n 2, 1) := by decide +kernel
theorem dX4_hasLine_9 : decode cX4_hasLine 9 = .ok (.iconst 1, 1) := by decide +kernel
theorem dX4_hasLine_10 : decode cX4_hasLine 10 = .ok (.if_icmp .lt 20, 3) := by decide +kernel
theorem dX4_hasLine_13 : decode cX4_hasLine 13 = .ok (.iload_n 2, 1) := by decide +kernel
theorem dX4_hasLine_14 : decode cX4_hasLine 14 = .ok (.aload_n 0, 1) := by decide +kernel
theorem dX4_hasLine_15 : decode cX4_hasLine 15 = .ok (.getfield 11, 3) := by decide +kernel
theorem dX4_hasLine_18 : decode cX4_hasLine 18 = .ok (.iload_n 1, 1) := by decide +kernel
theorem dX4_hasLine_19 : decode cX4_hasLine 19 = .ok (.aaload, 1) := by decide +kernel
theorem dX4_hasLine_20 : decode cX4_hasLine 20 = .ok (.getfield 55, 3) := by decide +kernel
theorem dX4_hasLine_23 : decode cX4_hasLine 23 = .ok (.if_icmp .gt 7, 3) := by decide +kernel
theorem dX4_hasLine_26 : decode cX4_hasLine 26 = .ok (.iconst 1, 1) := by decide +kernel
theorem dX4_hasLine_27 : decode cX4_hasLine 27 = .ok (.goto 4, 3) := by decide +kernel
theorem dX4_hasLine_30 : decode cX4_hasLine 30 = .ok (.iconst 0, 1) := by decide +kernel
theorem dX4_hasLine_31 : decode cX4_hasLine 31 = .ok (.ireturn, 1) := by decide +kernel
theorem dX4_addDriver_0 : decode cX4_addDriver 0 = .ok (.aload_n 0, 1) := by decide +kernel
theorem dX4_addDriver_1 : decode cX4_addDriver 1 = .ok (.getfield 22, 3) := by decide +kernel
theorem dX4_addDriver_4 : decode cX4_addDriver 4 = .ok (.iconst 5, 1) := by decide +kernel
theorem dX4_addDriver_5 : decode cX4_addDriver 5 = .ok (.if_icmp .lt 5, 3) := by decide +kernel
theorem dX4_addDriver_8 : decode cX4_addDriver 8 = .ok (.iconst (-1), 1) := by decide +kernel
theorem dX4_addDriver_9 : decode cX4_addDriver 9 = .ok (.ireturn, 1) := by decide +kernel
theorem dX4_addDriver_10 : decode cX4_addDriver 10 = .ok (.aload_n 0, 1) := by decide +kernel
theorem dX4_addDriver_11 : decode cX4_addDriver 11 = .ok (.getfield 11, 3) := by decide +kernel
theorem dX4_addDriver_14 : decode cX4_addDriver 14 = .ok (.aload_n 0, 1) := by decide +kernel
theorem dX4_addDriver_15 : decode cX4_addDriver 15 = .ok (.getfield 22, 3) := by decide +kernel
theorem dX4_addDriver_18 : decode cX4_addDriver 18 = .ok (.aaload, 1) := by decide +kernel
theorem dX4_addDriver_19 : decode cX4_addDriver 19 = .ok (.iload_n 1, 1) := by decide +kernel
theorem dX4_addDriver_20 : decode cX4_addDriver 20 = .ok (.invokevirtual 58, 3) := by decide +kernel
theorem dX4_addDriver_23 : decode cX4_addDriver 23 = .ok (.aload_n 0, 1) := by decide +kernel
theorem dX4_addDriver_24 : decode cX4_addDriver 24 = .ok (.dup, 1) := by decide +kernel
theorem dX4_addDriver_25 : decode cX4_addDriver 25 = .ok (.getfield 22, 3) := by decide +kernel
theorem dX4_addDriver_28 : decode cX4_addDriver 28 = .ok (.iconst 1, 1) := by decide +kernel
theorem dX4_addDriver_29 : decode cX4_addDriver 29 = .ok (.iadd, 1) := by decide +kernel
theorem dX4_addDriver_30 : decode cX4_addDriver 30 = .ok (.putfield 22, 3) := by decide +kernel
theorem dX4_addDriver_33 : decode cX4_addDriver 33 = .ok (.aload_n 0, 1) := by decide +kernel
theorem dX4_addDriver_34 : decode cX4_addDriver 34 = .ok (.getfield 22, 3) := by decide +kernel
theorem dX4_addDriver_37 : decode cX4_addDriver 37 = .ok (.iconst 1, 1) := by decide +kernel
theorem dX4_addDriver_38 : decode cX4_addDriver 38 = .ok (.isub, 1) := by decide +kernel
theorem dX4_addDriver_39 : decode cX4_addDriver 39 = .ok (.ireturn, 1) := by decide +kernel
theorem dX4_isMajority_0 : decode cX4_isMajority 0 = .ok (.iload_n 1, 1) := by decide +kernel
theorem dX4_isMajority_1 : decode cX4_isMajority 1 = .ok (.aload_n 0, 1) := by decide +kernel
theorem dX4_isMajority_2 : decode cX4_isMajority 2 = .ok (.getfield 22, 3) := by decide +kernel
theorem dX4_isMajority_5 : decode cX4_isMajority 5 = .ok (.iconst 2, 1) := by decide +kernel
theorem dX4_isMajority_6 : decode cX4_isMajority 6 = .ok (.idiv, 1) := by decide +kernel
theorem dX4_isMajority_7 : decode cX4_isMajority 7 = .ok (.if_icmp .le 7, 3) := by decide +kernel
theorem dX4_isMajority_10 : decode cX4_isMajority 10 = .ok (.iconst 1, 1) := by decide +kernel
theorem dX4_isMajority_11 : decode cX4_isMajority 11 = .ok (.goto 4, 3) := by decide +kernel
theorem dX4_isMajority_14 : decode cX4_isMajority 14 = .ok (.iconst 0, 1) := by decide +kernel
theorem dX4_isMajority_15 : decode cX4_isMajority 15 = .ok (.ireturn, 1) := by decide +kernel
theorem dX4_isRopeCut_0 : decode cX4_isRopeCut 0 = .ok (.aload_n 0, 1) := by decide +kernel
theorem dX4_isRopeCut_1 : decode cX4_isRopeCut 1 = .ok (.getfield 17, 3) := by decide +kernel
theorem dX4_isRopeCut_4 : decode cX4_isRopeCut 4 = .ok (.iload_n 1, 1) := by decide +kernel
theorem dX4_isRopeCut_5 : decode cX4_isRopeCut 5 = .ok (.iconst 5, 1) := by decide +kernel
theorem dX4_isRopeCut_6 : decode cX4_isRopeCut 6 = .ok (.imul, 1) := by decide +kernel
theorem dX4_isRopeCut_7 : decode cX4_isRopeCut 7 = .ok (.iload_n 2, 1) := by decide +kernel
theorem dX4_isRopeCut_8 : decode cX4_isRopeCut 8 = .ok (.iadd, 1) := by decide +kernel
theorem dX4_isRopeCut_9 : decode cX4_isRopeCut 9 = .ok (.baload, 1) := by decide +kernel
theorem dX4_isRopeCut_10 : decode cX4_isRopeCut 10 = .ok (.ireturn, 1) := by decide +kernel
theorem dX4_setRope_0 : decode cX4_setRope 0 = .ok (.aload_n 0, 1) := by decide +kernel
theorem dX4_setRope_1 : decode cX4_setRope 1 = .ok (.getfield 17, 3) := by decide +kernel
theorem dX4_setRope_4 : decode cX4_setRope 4 = .ok (.iload_n 1, 1) := by decide +kernel
theorem dX4_setRope_5 : decode cX4_setRope 5 = .ok (.iconst 5, 1) := by decide +kernel
theorem dX4_setRope_6 : decode cX4_setRope 6 = .ok (.imul, 1) := by decide +kernel
theorem dX4_setRope_7 : decode cX4_setRope 7 = .ok (.iload_n 2, 1) := by decide +kernel
theorem dX4_setRope_8 : decode cX4_setRope 8 = .ok (.iadd, 1) := by decide +kernel
theorem dX4_setRope_9 : decode cX4_setRope 9 = .ok (.iload_n 3, 1) := by decide +kernel
theorem dX4_setRope_10 : decode cX4_setRope 10 = .ok (.bastore, 1) := by decide +kernel
theorem dX4_setRope_11 : decode cX4_setRope 11 = .ok (.aload_n 0, 1) := by decide +kernel
theorem dX4_setRope_12 : decode cX4_setRope 12 = .ok (.getfield 17, 3) := by decide +kernel
theorem dX4_setRope_15 : decode cX4_setRope 15 = .ok (.iload_n 2, 1) := by decide +kernel
theorem dX4_setRope_16 : decode cX4_setRope 16 = .ok (.iconst 5, 1) := by decide +kernel
theorem dX4_setRope_17 : decode cX4_setRope 17 = .ok (.imul, 1) := by decide +kernel
theorem dX4_setRope_18 : decode cX4_setRope 18 = .ok (.iload_n 1, 1) := by decide +kernel
theorem dX4_setRope_19 : decode cX4_setRope 19 = .ok (.iadd, 1) := by decide +kernel
theorem dX4_setRope_20 : decode cX4_setRope 20 = .ok (.iload_n 3, 1) := by decide +kernel
theorem dX4_setRope_21 : decode cX4_setRope 21 = .ok (.bastore, 1) := by decide +kernel
theorem dX4_setRope_22 : decode cX4_setRope 22 = .ok (.return_, 1) := by decide +kernel
theorem dX4_canReach_0 : decode cX4_canReach 0 = .ok (.iload_n 1, 1) := by decide +kernel
theorem dX4_canReach_1 : decode cX4_canReach 1 = .ok (.iload_n 2, 1) := by decide +kernel
theorem dX4_canReach_2 : decode cX4_canReach 2 = .ok (.if_icmp .eq 40, 3) := by decide +kernel
theorem dX4_canReach_5 : decode cX4_canReach 5 = .ok (.aload_n 0, 1) := by decide +kernel
theorem dX4_canReach_6 : decode cX4_canReach 6 = .ok (.getfield 11, 3) := by decide +kernel
theorem dX4_canReach_9 : decode cX4_canReach 9 = .ok (.iload_n 1, 1) := by decide +kernel
theorem dX4_canReach_10 : decode cX4_canReach 10 = .ok (.aaload, 1) := by decide +kernel
theorem dX4_canReach_11 : decode cX4_canReach 11 = .ok (.getfield 62, 3) := by decide +kernel
theorem dX4_canReach_14 : decode cX4_canReach 14 = .ok (.ifCond .eq 28, 3) := by decide +kernel
theorem dX4_canReach_17 : decode cX4_canReach 17 = .ok (.aload_n 0, 1) := by decide +kernel
theorem dX4_canReach_18 : decode cX4_canReach 18 = .ok (.getfield 11, 3) := by decide +kernel
theorem dX4_canReach_21 : decode cX4_canReach 21 = .ok (.iload_n 2, 1) := by decide +kernel
theorem dX4_canReach_22 : decode cX4_canReach 22 = .ok (.aaload, 1) := by decide +kernel
theorem dX4_canReach_23 : decode cX4_canReach 23 = .ok (.getfield 62, 3) := by decide +kernel
theorem dX4_canReach_26 : decode cX4_canReach 26 = .ok (.ifCond .eq 16, 3) := by decide +kernel
theorem dX4_canReach_29 : decode cX4_canReach 29 = .ok (.aload_n 0, 1) := by decide +kernel
theorem dX4_canReach_30 : decode cX4_canReach 30 = .ok (.iload_n 1, 1) := by decide +kernel
theorem dX4_canReach_31 : decode cX4_canReach 31 = .ok (.iload_n 2, 1) := by decide +kernel
theorem dX4_canReach_32 : decode cX4_canReach 32 = .ok (.invokevirtual 66, 3) := by decide +kernel
theorem dX4_canReach_35 : decode cX4_canReach 35 = .ok (.ifCond .ne 7, 3) := by decide +kernel
theorem dX4_canReach_38 : decode cX4_canReach 38 = .ok (.iconst 1, 1) := by decide +kernel
theorem dX4_canReach_39 : decode cX4_canReach 39 = .ok (.goto 4, 3) := by decide +kernel
theorem dX4_canReach_42 : decode cX4_canReach 42 = .ok (.iconst 0, 1) := by decide +kernel
theorem dX4_canReach_43 : decode cX4_canReach 43 = .ok (.ireturn, 1) := by decide +kernel
theorem dX4_countReached_0 : decode cX4_countReached 0 = .ok (.iconst 0, 1) := by decide +kernel
theorem dX4_countReached_1 : decode cX4_countReached 1 = .ok (.istore_n 2, 1) := by decide +kernel
theorem dX4_countReached_2 : decode cX4_countReached 2 = .ok (.iconst 0, 1) := by decide +kernel
theorem dX4_countReached_3 : decode cX4_countReached 3 = .ok (.istore_n 3, 1) := by decide +kernel
theorem dX4_countReached_4 : decode cX4_countReached 4 = .ok (.iload_n 3, 1) := by decide +kernel
theorem dX4_countReached_5 : decode cX4_countReached 5 = .ok (.aload_n 0, 1) := by decide +kernel
theorem dX4_countReached_6 : decode cX4_countReached 6 = .ok (.getfield 22, 3) := by decide +kernel
theorem dX4_countReached_9 : decode cX4_countReached 9 = .ok (.if_icmp .ge 21, 3) := by decide +kernel
theorem dX4_countReached_12 : decode cX4_countReached 12 = .ok (.aload_n 0, 1) := by decide +kernel
theorem dX4_countReached_13 : decode cX4_countReached 13 = .ok (.iload_n 1, 1) := by decide +kernel
theorem dX4_countReached_14 : decode cX4_countReached 14 = .ok (.iload_n 3, 1) := by decide +kernel
theorem dX4_countReached_15 : decode cX4_countReached 15 = .ok (.invokevirtual 70, 3) := by decide +kernel
theorem dX4_countReached_18 : decode cX4_countReached 18 = .ok (.ifCond .eq 6, 3) := by decide +kernel
theorem dX4_countReached_21 : decode cX4_countReached 21 = .ok (.iinc 2 1, 3) := by decide +kernel
theorem dX4_countReached_24 : decode cX4_countReached 24 = .ok (.iinc 3 1, 3) := by decide +kernel
theorem dX4_countReached_27 : decode cX4_countReached 27 = .ok (.goto (-23), 3) := by decide +kernel
theorem dX4_countReached_30 : decode cX4_countReached 30 = .ok (.iload_n 2, 1) := by decide +kernel
theorem dX4_countReached_31 : decode cX4_countReached 31 = .ok (.ireturn, 1) := by decide +kernel
theorem dX4_countCutRopes_0 : decode cX4_countCutRopes 0 = .ok (.iconst 0, 1) := by decide +kernel
theorem dX4_countCutRopes_1 : decode cX4_countCutRopes 1 = .ok (.istore_n 1, 1) := by decide +kernel
theorem dX4_countCutRopes_2 : decode cX4_countCutRopes 2 = .ok (.iconst 0, 1) := by decide +kernel
theorem dX4_countCutRopes_3 : decode cX4_countCutRopes 3 = .ok (.istore_n 2, 1) := by decide +kernel
theorem dX4_countCutRopes_4 : decode cX4_countCutRopes 4 = .ok (.iload_n 2, 1) := by decide +kernel
theorem dX4_countCutRopes_5 : decode cX4_countCutRopes 5 = .ok (.aload_n 0, 1) := by decide +kernel
theorem dX4_countCutRopes_6 : decode cX4_countCutRopes 6 = .ok (.getfield 17, 3) := by decide +kernel
theorem dX4_countCutRopes_9 : decode cX4_countCutRopes 9 = .ok (.arraylength, 1) := by decide +kernel
theorem dX4_countCutRopes_10 : decode cX4_countCutRopes 10 = .ok (.if_icmp .ge 21, 3) := by decide +kernel
theorem dX4_countCutRopes_13 : decode cX4_countCutRopes 13 = .ok (.aload_n 0, 1) := by decide +kernel
theorem dX4_countCutRopes_14 : decode cX4_countCutRopes 14 = .ok (.getfield 17, 3) := by decide +kernel
theorem dX4_countCutRopes_17 : decode cX4_countCutRopes 17 = .ok (.iload_n 2, 1) := by decide +kernel
theorem dX4_countCutRopes_18 : decode cX4_countCutRopes 18 = .ok (.baload, 1) := by decide +kernel
theorem dX4_countCutRopes_19 : decode cX4_countCutRopes 19 = .ok (.ifCond .eq 6, 3) := by decide +kernel
theorem dX4_countCutRopes_22 : decode cX4_countCutRopes 22 = .ok (.iinc 1 1, 3) := by decide +kernel
theorem dX4_countCutRopes_25 : decode cX4_countCutRopes 25 = .ok (.iinc 2 1, 3) := by decide +kernel
theorem dX4_countCutRopes_28 : decode cX4_countCutRopes 28 = .ok (.goto (-24), 3) := by decide +kernel
theorem dX4_countCutRopes_31 : decode cX4_countCutRopes 31 = .ok (.iload_n 1, 1) := by decide +kernel
theorem dX4_countCutRopes_32 : decode cX4_countCutRopes 32 = .ok (.iconst 2, 1) := by decide +kernel
theorem dX4_countCutRopes_33 : decode cX4_countCutRopes 33 = .ok (.idiv, 1) := by decide +kernel
theorem dX4_countCutRopes_34 : decode cX4_countCutRopes 34 = .ok (.ireturn, 1) := by decide +kernel
theorem dX4_gatherVotes_0 : decode cX4_gatherVotes 0 = .ok (.aload_n 0, 1) := by decide +kernel
theorem dX4_gatherVotes_1 : decode cX4_gatherVotes 1 = .ok (.getfield 11, 3) := by decide +kernel
theorem dX4_gatherVotes_4 : decode cX4_gatherVotes 4 = .ok (.iload_n 1, 1) := by decide +kernel
theorem dX4_gatherVotes_5 : decode cX4_gatherVotes 5 = .ok (.aaload, 1) := by decide +kernel
theorem dX4_gatherVotes_6 : decode cX4_gatherVotes 6 = .ok (.astore_n 2, 1) := by decide +kernel
theorem dX4_gatherVotes_7 : decode cX4_gatherVotes 7 = .ok (.aload_n 0, 1) := by decide +kernel
theorem dX4_gatherVotes_8 : decode cX4_gatherVotes 8 = .ok (.aload_n 2, 1) := by decide +kernel
theorem dX4_gatherVotes_9 : decode cX4_gatherVotes 9 = .ok (.iload_n 1, 1) := by decide +kernel
theorem dX4_gatherVotes_10 : decode cX4_gatherVotes 10 = .ok (.invokevirtual 73, 3) := by decide +kernel
theorem dX4_gatherVotes_13 : decode cX4_gatherVotes 13 = .ok (.iconst 1, 1) := by decide +kernel
theorem dX4_gatherVotes_14 : decode cX4_gatherVotes 14 = .ok (.istore_n 3, 1) := by decide +kernel
theorem dX4_gatherVotes_15 : decode cX4_gatherVotes 15 = .ok (.iconst 0, 1) := by decide +kernel
theorem dX4_gatherVotes_16 : decode cX4_gatherVotes 16 = .ok (.istore 4, 2) := by decide +kernel
theorem dX4_gatherVotes_18 : decode cX4_gatherVotes 18 = .ok (.iload 4, 2) := by decide +kernel
theorem dX4_gatherVotes_20 : decode cX4_gatherVotes 20 = .ok (.aload_n 0, 1) := by decide +kernel
theorem dX4_gatherVotes_21 : decode cX4_gatherVotes 21 = .ok (.getfield 22, 3) := by decide +kernel
theorem dX4_gatherVotes_24 : decode cX4_gatherVotes 24 = .ok (.if_icmp .ge 61, 3) := by decide +kernel
theorem dX4_gatherVotes_27 : decode cX4_gatherVotes 27 = .ok (.aload_n 0, 1) := by decide +kernel
theorem dX4_gatherVotes_28 : decode cX4_gatherVotes 28 = .ok (.iload_n 1, 1) := by decide +kernel
theorem dX4_gatherVotes_29 : decode cX4_gatherVotes 29 = .ok (.iload 4, 2) := by decide +kernel
theorem dX4_gatherVotes_31 : decode cX4_gatherVotes 31 = .ok (.invokevirtual 70, 3) := by decide +kernel
theorem dX4_gatherVotes_34 : decode cX4_gatherVotes 34 = .ok (.ifCond .eq 45, 3) := by decide +kernel
theorem dX4_gatherVotes_37 : decode cX4_gatherVotes 37 = .ok (.aload_n 0, 1) := by decide +kernel
theorem dX4_gatherVotes_38 : decode cX4_gatherVotes 38 = .ok (.getfield 11, 3) := by decide +kernel
theorem dX4_gatherVotes_41 : decode cX4_gatherVotes 41 = .ok (.iload 4, 2) := by decide +kernel
theorem dX4_gatherVotes_43 : decode cX4_gatherVotes 43 = .ok (.aaload, 1) := by decide +kernel
theorem dX4_gatherVotes_44 : decode cX4_gatherVotes 44 = .ok (.astore 5, 2) := by decide +kernel
theorem dX4_gatherVotes_46 : decode cX4_gatherVotes 46 = .ok (.aload 5, 2) := by decide +kernel
theorem dX4_gatherVotes_48 : decode cX4_gatherVotes 48 = .ok (.getfield 77, 3) := by decide +kernel
theorem dX4_gatherVotes_51 : decode cX4_gatherVotes 51 = .ok (.aload_n 2, 1) := by decide +kernel
theorem dX4_gatherVotes_52 : decode cX4_gatherVotes 52 = .ok (.getfield 77, 3) := by decide +kernel
theorem dX4_gatherVotes_55 : decode cX4_gatherVotes 55 = .ok (.if_icmp .le 14, 3) := by decide +kernel
theorem dX4_gatherVotes_58 : decode cX4_gatherVotes 58 = .ok (.aload_n 2, 1) := by decide +kernel
theorem dX4_gatherVotes_59 : decode cX4_gatherVotes 59 = .ok (.aload 5, 2) := by decide +kernel
theorem dX4_gatherVotes_61 : decode cX4_gatherVotes 61 = .ok (.getfield 77, 3) := by decide +kernel
theorem dX4_gatherVotes_64 : decode cX4_gatherVotes 64 = .ok (.invokevirtual 80, 3) := by decide +kernel
theorem dX4_gatherVotes_67 : decode cX4_gatherVotes 67 = .ok (.iconst 0, 1) := by decide +kernel
theorem dX4_gatherVotes_68 : decode cX4_gatherVotes 68 = .ok (.ireturn, 1) := by decide +kernel
theorem dX4_gatherVotes_69 : decode cX4_gatherVotes 69 = .ok (.iload_n 3, 1) := by decide +kernel
theorem dX4_gatherVotes_70 : decode cX4_gatherVotes 70 = .ok (.aload_n 0, 1) := by decide +kernel
theorem dX4_gatherVotes_71 : decode cX4_gatherVotes 71 = .ok (.aload 5, 2) := by decide +kernel
theorem dX4_gatherVotes_73 : decode cX4_gatherVotes 73 = .ok (.iload_n 1, 1) := by decide +kernel
theorem dX4_gatherVotes_74 : decode cX4_gatherVotes 74 = .ok (.invokevirtual 83, 3) := by decide +kernel
theorem dX4_gatherVotes_77 : decode cX4_gatherVotes 77 = .ok (.iadd, 1) := by decide +kernel
theorem dX4_gatherVotes_78 : decode cX4_gatherVotes 78 = .ok (.istore_n 3, 1) := by decide +kernel
theorem dX4_gatherVotes_79 : decode cX4_gatherVotes 79 = .ok (.iinc 4 1, 3) := by decide +kernel
theorem dX4_gatherVotes_82 : decode cX4_gatherVotes 82 = .ok (.goto (-64), 3) := by decide +kernel
theorem dX4_gatherVotes_85 : decode cX4_gatherVotes 85 = .ok (.aload_n 0, 1) := by decide +kernel
theorem dX4_gatherVotes_86 : decode cX4_gatherVotes 86 = .ok (.iload_n 3, 1) := by decide +kernel
theorem dX4_gatherVotes_87 : decode cX4_gatherVotes 87 = .ok (.invokevirtual 87, 3) := by decide +kernel
theorem dX4_gatherVotes_90 : decode cX4_gatherVotes 90 = .ok (.ifCond .eq 28, 3) := by decide +kernel
theorem dX4_gatherVotes_93 : decode cX4_gatherVotes 93 = .ok (.aload_n 2, 1) := by decide +kernel
theorem dX4_gatherVotes_94 : decode cX4_gatherVotes 94 = .ok (.iconst 2, 1) := by decide +kernel
theorem dX4_gatherVotes_95 : decode cX4_gatherVotes 95 = .ok (.putfield 90, 3) := by decide +kernel
theorem dX4_gatherVotes_98 : decode cX4_gatherVotes 98 = .ok (.aload_n 2, 1) := by decide +kernel
theorem dX4_gatherVotes_99 : decode cX4_gatherVotes 99 = .ok (.dup, 1) := by decide +kernel
theorem dX4_gatherVotes_100 : decode cX4_gatherVotes 100 = .ok (.getfield 93, 3) := by decide +kernel
theorem dX4_gatherVotes_103 : decode cX4_gatherVotes 103 = .ok (.iconst 1, 1) := by decide +kernel
theorem dX4_gatherVotes_104 : decode cX4_gatherVotes 104 = .ok (.iadd, 1) := by decide +kernel
theorem dX4_gatherVotes_105 : decode cX4_gatherVotes 105 = .ok (.putfield 93, 3) := by decide +kernel
theorem dX4_gatherVotes_108 : decode cX4_gatherVotes 108 = .ok (.aload_n 0, 1) := by decide +kernel
theorem dX4_gatherVotes_109 : decode cX4_gatherVotes 109 = .ok (.dup, 1) := by decide +kernel
theorem dX4_gatherVotes_110 : decode cX4_gatherVotes 110 = .ok (.getfield 32, 3) := by decide +kernel
theorem dX4_gatherVotes_113 : decode cX4_gatherVotes 113 = .ok (.iconst 1, 1) := by decide +kernel
theorem dX4_gatherVotes_114 : decode cX4_gatherVotes 114 = .ok (.iadd, 1) := by decide +kernel
theorem dX4_gatherVotes_115 : decode cX4_gatherVotes 115 = .ok (.putfield 32, 3) := by decide +kernel
theorem dX4_gatherVotes_118 : decode cX4_gatherVotes 118 = .ok (.iload_n 3, 1) := by decide +kernel
theorem dX4_gatherVotes_119 : decode cX4_gatherVotes 119 = .ok (.ireturn, 1) := by decide +kernel
theorem dX4_beginAsking_0 : decode cX4_beginAsking 0 = .ok (.aload_n 1, 1) := by decide +kernel
theorem dX4_beginAsking_1 : decode cX4_beginAsking 1 = .ok (.dup, 1) := by decide +kernel
theorem dX4_beginAsking_2 : decode cX4_beginAsking 2 = .ok (.getfield 77, 3) := by decide +kernel
theorem dX4_beginAsking_5 : decode cX4_beginAsking 5 = .ok (.iconst 1, 1) := by decide +kernel
theorem dX4_beginAsking_6 : decode cX4_beginAsking 6 = .ok (.iadd, 1) := by decide +kernel
theorem dX4_beginAsking_7 : decode cX4_beginAsking 7 = .ok (.putfield 77, 3) := by decide +kernel
theorem dX4_beginAsking_10 : decode cX4_beginAsking 10 = .ok (.aload_n 1, 1) := by decide +kernel
theorem dX4_beginAsking_11 : decode cX4_beginAsking 11 = .ok (.iconst 1, 1) := by decide +kernel
theorem dX4_beginAsking_12 : decode cX4_beginAsking 12 = .ok (.putfield 90, 3) := by decide +kernel
theorem dX4_beginAsking_15 : decode cX4_beginAsking 15 = .ok (.aload_n 1, 1) := by decide +kernel
theorem dX4_beginAsking_16 : decode cX4_beginAsking 16 = .ok (.iload_n 2, 1) := by decide +kernel
theorem dX4_beginAsking_17 : decode cX4_beginAsking 17 = .ok (.putfield 96, 3) := by decide +kernel
theorem dX4_beginAsking_20 : decode cX4_beginAsking 20 = .ok (.aload_n 1, 1) := by decide +kernel
theorem dX4_beginAsking_21 : decode cX4_beginAsking 21 = .ok (.iconst 0, 1) := by decide +kernel
theorem dX4_beginAsking_22 : decode cX4_beginAsking 22 = .ok (.putfield 99, 3) := by decide +kernel
theorem dX4_beginAsking_25 : decode cX4_beginAsking 25 = .ok (.aload_n 1, 1) := by decide +kernel
theorem dX4_beginAsking_26 : decode cX4_beginAsking 26 = .ok (.dup, 1) := by decide +kernel
theorem dX4_beginAsking_27 : decode cX4_beginAsking 27 = .ok (.getfield 102, 3) := by decide +kernel
theorem dX4_beginAsking_30 : decode cX4_beginAsking 30 = .ok (.iconst 1, 1) := by decide +kernel
theorem dX4_beginAsking_31 : decode cX4_beginAsking 31 = .ok (.iadd, 1) := by decide +kernel
theorem dX4_beginAsking_32 : decode cX4_beginAsking 32 = .ok (.putfield 102, 3) := by decide +kernel
theorem dX4_beginAsking_35 : decode cX4_beginAsking 35 = .ok (.aload_n 0, 1) := by decide +kernel
theorem dX4_beginAsking_36 : decode cX4_beginAsking 36 = .ok (.dup, 1) := by decide +kernel
theorem dX4_beginAsking_37 : decode cX4_beginAsking 37 = .ok (.getfield 29, 3) := by decide +kernel
theorem dX4_beginAsking_40 : decode cX4_beginAsking 40 = .ok (.iconst 1, 1) := by decide +kernel
theorem dX4_beginAsking_41 : decode cX4_beginAsking 41 = .ok (.iadd, 1) := by decide +kernel
theorem dX4_beginAsking_42 : decode cX4_beginAsking 42 = .ok (.putfield 29, 3) := by decide +kernel
theorem dX4_beginAsking_45 : decode cX4_beginAsking 45 = .ok (.aload_n 0, 1) := by decide +kernel
theorem dX4_beginAsking_46 : decode cX4_beginAsking 46 = .ok (.dup, 1) := by decide +kernel
theorem dX4_beginAsking_47 : decode cX4_beginAsking 47 = .ok (.getfield 44, 3) := by decide +kernel
theorem dX4_beginAsking_50 : decode cX4_beginAsking 50 = .ok (.iconst 1, 1) := by decide +kernel
theorem dX4_beginAsking_51 : decode cX4_beginAsking 51 = .ok (.iadd, 1) := by decide +kernel
theorem dX4_beginAsking_52 : decode cX4_beginAsking 52 = .ok (.putfield 44, 3) := by decide +kernel
theorem dX4_beginAsking_55 : decode cX4_beginAsking 55 = .ok (.return_, 1) := by decide +kernel
theorem dX4_letVote_0 : decode cX4_letVote 0 = .ok (.aload_n 0, 1) := by decide +kernel
theorem dX4_letVote_1 : decode cX4_letVote 1 = .ok (.getfield 11, 3) := by decide +kernel
theorem dX4_letVote_4 : decode cX4_letVote 4 = .ok (.iload_n 2, 1) := by decide +kernel
theorem dX4_letVote_5 : decode cX4_letVote 5 = .ok (.aaload, 1) := by decide +kernel
theorem dX4_letVote_6 : decode cX4_letVote 6 = .ok (.astore_n 3, 1) := by decide +kernel
theorem dX4_letVote_7 : decode cX4_letVote 7 = .ok (.aload_n 1, 1) := by decide +kernel
theorem dX4_letVote_8 : decode cX4_letVote 8 = .ok (.getfield 77, 3) := by decide +kernel
theorem dX4_letVote_11 : decode cX4_letVote 11 = .ok (.aload_n 3, 1) := by decide +kernel
theorem dX4_letVote_12 : decode cX4_letVote 12 = .ok (.getfield 77, 3) := by decide +kernel
theorem dX4_letVote_15 : decode cX4_letVote 15 = .ok (.if_icmp .ge 11, 3) := by decide +kernel
theorem dX4_letVote_18 : decode cX4_letVote 18 = .ok (.aload_n 1, 1) := by decide +kernel
theorem dX4_letVote_19 : decode cX4_letVote 19 = .ok (.aload_n 3, 1) := by decide +kernel
theorem dX4_letVote_20 : decode cX4_letVote 20 = .ok (.getfield 77, 3) := by decide +kernel
theorem dX4_letVote_23 : decode cX4_letVote 23 = .ok (.invokevirtual 80, 3) := by decide +kernel
theorem dX4_letVote_26 : decode cX4_letVote 26 = .ok (.aload_n 1, 1) := by decide +kernel
theorem dX4_letVote_27 : decode cX4_letVote 27 = .ok (.getfield 96, 3) := by decide +kernel
theorem dX4_letVote_30 : decode cX4_letVote 30 = .ok (.iconst (-1), 1) := by decide +kernel
theorem dX4_letVote_31 : decode cX4_letVote 31 = .ok (.if_icmp .eq 11, 3) := by decide +kernel
theorem dX4_letVote_34 : decode cX4_letVote 34 = .ok (.aload_n 1, 1) := by decide +kernel
theorem dX4_letVote_35 : decode cX4_letVote 35 = .ok (.getfield 96, 3) := by decide +kernel
theorem dX4_letVote_38 : decode cX4_letVote 38 = .ok (.iload_n 2, 1) := by decide +kernel
theorem dX4_letVote_39 : decode cX4_letVote 39 = .ok (.if_icmp .ne 7, 3) := by decide +kernel
theorem dX4_letVote_42 : decode cX4_letVote 42 = .ok (.iconst 1, 1) := by decide +kernel
theorem dX4_letVote_43 : decode cX4_letVote 43 = .ok (.goto 4, 3) := by decide +kernel
theorem dX4_letVote_46 : decode cX4_letVote 46 = .ok (.iconst 0, 1) := by decide +kernel
theorem dX4_letVote_47 : decode cX4_letVote 47 = .ok (.istore 4, 2) := by decide +kernel
theorem dX4_letVote_49 : decode cX4_letVote 49 = .ok (.iload 4, 2) := by decide +kernel
theorem dX4_letVote_51 : decode cX4_letVote 51 = .ok (.ifCond .eq 11, 3) := by decide +kernel
theorem dX4_letVote_54 : decode cX4_letVote 54 = .ok (.aload_n 1, 1) := by decide +kernel
theorem dX4_letVote_55 : decode cX4_letVote 55 = .ok (.aload_n 3, 1) := by decide +kernel
theorem dX4_letVote_56 : decode cX4_letVote 56 = .ok (.invokevirtual 105, 3) := by decide +kernel
theorem dX4_letVote_59 : decode cX4_letVote 59 = .ok (.ifCond .eq 5, 3) := by decide +kernel
theorem dX4_letVote_62 : decode cX4_letVote 62 = .ok (.iconst 0, 1) := by decide +kernel
theorem dX4_letVote_63 : decode cX4_letVote 63 = .ok (.ireturn, 1) := by decide +kernel
theorem dX4_letVote_64 : decode cX4_letVote 64 = .ok (.aload_n 1, 1) := by decide +kernel
theorem dX4_letVote_65 : decode cX4_letVote 65 = .ok (.iload_n 2, 1) := by decide +kernel
theorem dX4_letVote_66 : decode cX4_letVote 66 = .ok (.putfield 96, 3) := by decide +kernel
theorem dX4_letVote_69 : decode cX4_letVote 69 = .ok (.aload_n 1, 1) := by decide +kernel
theorem dX4_letVote_70 : decode cX4_letVote 70 = .ok (.iconst 0, 1) := by decide +kernel
theorem dX4_letVote_71 : decode cX4_letVote 71 = .ok (.putfield 99, 3) := by decide +kernel
theorem dX4_letVote_74 : decode cX4_letVote 74 = .ok (.aload_n 0, 1) := by decide +kernel
theorem dX4_letVote_75 : decode cX4_letVote 75 = .ok (.dup, 1) := by decide +kernel
theorem dX4_letVote_76 : decode cX4_letVote 76 = .ok (.getfield 44, 3) := by decide +kernel
theorem dX4_letVote_79 : decode cX4_letVote 79 = .ok (.iconst 1, 1) := by decide +kernel
theorem dX4_letVote_80 : decode cX4_letVote 80 = .ok (.iadd, 1) := by decide +kernel
theorem dX4_letVote_81 : decode cX4_letVote 81 = .ok (.putfield 44, 3) := by decide +kernel
theorem dX4_letVote_84 : decode cX4_letVote 84 = .ok (.iconst 1, 1) := by decide +kernel
theorem dX4_letVote_85 : decode cX4_letVote 85 = .ok (.ireturn, 1) := by decide +kernel
theorem dX4_wouldGrantVote_0 : decode cX4_wouldGrantVote 0 = .ok (.aload_n 0, 1) := by decide +kernel
theorem dX4_wouldGrantVote_1 : decode cX4_wouldGrantVote 1 = .ok (.getfield 11, 3) := by decide +kernel
theorem dX4_wouldGrantVote_4 : decode cX4_wouldGrantVote 4 = .ok (.iload_n 1, 1) := by decide +kernel
theorem dX4_wouldGrantVote_5 : decode cX4_wouldGrantVote 5 = .ok (.aaload, 1) := by decide +kernel
theorem dX4_wouldGrantVote_6 : decode cX4_wouldGrantVote 6 = .ok (.astore_n 3, 1) := by decide +kernel
theorem dX4_wouldGrantVote_7 : decode cX4_wouldGrantVote 7 = .ok (.aload_n 0, 1) := by decide +kernel
theorem dX4_wouldGrantVote_8 : decode cX4_wouldGrantVote 8 = .ok (.getfield 11, 3) := by decide +kernel
theorem dX4_wouldGrantVote_11 : decode cX4_wouldGrantVote 11 = .ok (.iload_n 2, 1) := by decide +kernel
theorem dX4_wouldGrantVote_12 : decode cX4_wouldGrantVote 12 = .ok (.aaload, 1) := by decide +kernel
theorem dX4_wouldGrantVote_13 : decode cX4_wouldGrantVote 13 = .ok (.astore 4, 2) := by decide +kernel
theorem dX4_wouldGrantVote_15 : decode cX4_wouldGrantVote 15 = .ok (.aload 4, 2) := by decide +kernel
theorem dX4_wouldGrantVote_17 : decode cX4_wouldGrantVote 17 = .ok (.getfield 77, 3) := by decide +kernel
theorem dX4_wouldGrantVote_20 : decode cX4_wouldGrantVote 20 = .ok (.iconst 1, 1) := by decide +kernel
theorem dX4_wouldGrantVote_21 : decode cX4_wouldGrantVote 21 = .ok (.iadd, 1) := by decide +kernel
theorem dX4_wouldGrantVote_22 : decode cX4_wouldGrantVote 22 = .ok (.istore 5, 2) := by decide +kernel
theorem dX4_wouldGrantVote_24 : decode cX4_wouldGrantVote 24 = .ok (.aload_n 3, 1) := by decide +kernel
theorem dX4_wouldGrantVote_25 : decode cX4_wouldGrantVote 25 = .ok (.getfield 77, 3) := by decide +kernel
theorem dX4_wouldGrantVote_28 : decode cX4_wouldGrantVote 28 = .ok (.iload 5, 2) := by decide +kernel
theorem dX4_wouldGrantVote_30 : decode cX4_wouldGrantVote 30 = .ok (.if_icmp .gt 12, 3) := by decide +kernel
theorem dX4_wouldGrantVote_33 : decode cX4_wouldGrantVote 33 = .ok (.aload_n 3, 1) := by decide +kernel
theorem dX4_wouldGrantVote_34 : decode cX4_wouldGrantVote 34 = .ok (.aload 4, 2) := by decide +kernel
theorem dX4_wouldGrantVote_36 : decode cX4_wouldGrantVote 36 = .ok (.invokevirtual 105, 3) := by decide +kernel
theorem dX4_wouldGrantVote_39 : decode cX4_wouldGrantVote 39 = .ok (.ifCond .eq 5, 3) := by decide +kernel
theorem dX4_wouldGrantVote_42 : decode cX4_wouldGrantVote 42 = .ok (.iconst 0, 1) := by decide +kernel
theorem dX4_wouldGrantVote_43 : decode cX4_wouldGrantVote 43 = .ok (.ireturn, 1) := by decide +kernel
theorem dX4_wouldGrantVote_44 : decode cX4_wouldGrantVote 44 = .ok (.aload_n 3, 1) := by decide +kernel
theorem dX4_wouldGrantVote_45 : decode cX4_wouldGrantVote 45 = .ok (.getfield 77, 3) := by decide +kernel
theorem dX4_wouldGrantVote_48 : decode cX4_wouldGrantVote 48 = .ok (.iload 5, 2) := by decide +kernel
theorem dX4_wouldGrantVote_50 : decode cX4_wouldGrantVote 50 = .ok (.if_icmp .lt 19, 3) := by decide +kernel
theorem dX4_wouldGrantVote_53 : decode cX4_wouldGrantVote 53 = .ok (.aload_n 3, 1) := by decide +kernel
theorem dX4_wouldGrantVote_54 : decode cX4_wouldGrantVote 54 = .ok (.getfield 96, 3) := by decide +kernel
theorem dX4_wouldGrantVote_57 : decode cX4_wouldGrantVote 57 = .ok (.iconst (-1), 1) := by decide +kernel
theorem dX4_wouldGrantVote_58 : decode cX4_wouldGrantVote 58 = .ok (.if_icmp .eq 11, 3) := by decide +kernel
theorem dX4_wouldGrantVote_61 : decode cX4_wouldGrantVote 61 = .ok (.aload_n 3, 1) := by decide +kernel
theorem dX4_wouldGrantVote_62 : decode cX4_wouldGrantVote 62 = .ok (.getfield 96, 3) := by decide +kernel
theorem dX4_wouldGrantVote_65 : decode cX4_wouldGrantVote 65 = .ok (.iload_n 2, 1) := by decide +kernel
theorem dX4_wouldGrantVote_66 : decode cX4_wouldGrantVote 66 = .ok (.if_icmp .ne 7, 3) := by decide +kernel
theorem dX4_wouldGrantVote_69 : decode cX4_wouldGrantVote 69 = .ok (.iconst 1, 1) := by decide +kernel
theorem dX4_wouldGrantVote_70 : decode cX4_wouldGrantVote 70 = .ok (.goto 4, 3) := by decide +kernel
