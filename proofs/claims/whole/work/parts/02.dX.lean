theorem dX0_init_0 : decode cX0_init 0 = .ok (.aload_n 0, 1) := by decide +kernel
theorem dX0_init_1 : decode cX0_init 1 = .ok (.invokespecial 1, 3) := by decide +kernel
theorem dX0_init_4 : decode cX0_init 4 = .ok (.aload_n 0, 1) := by decide +kernel
theorem dX0_init_5 : decode cX0_init 5 = .ok (.sipush 416, 3) := by decide +kernel
theorem dX0_init_8 : decode cX0_init 8 = .ok (.newarray .int, 2) := by decide +kernel
theorem dX0_init_10 : decode cX0_init 10 = .ok (.putfield 11, 3) := by decide +kernel
theorem dX0_init_13 : decode cX0_init 13 = .ok (.aload_n 0, 1) := by decide +kernel
theorem dX0_init_14 : decode cX0_init 14 = .ok (.iconst 0, 1) := by decide +kernel
theorem dX0_init_15 : decode cX0_init 15 = .ok (.putfield 15, 3) := by decide +kernel
theorem dX0_init_18 : decode cX0_init 18 = .ok (.aload_n 0, 1) := by decide +kernel
theorem dX0_init_19 : decode cX0_init 19 = .ok (.iconst 0, 1) := by decide +kernel
theorem dX0_init_20 : decode cX0_init 20 = .ok (.putfield 19, 3) := by decide +kernel
theorem dX0_init_23 : decode cX0_init 23 = .ok (.return_, 1) := by decide +kernel
theorem dX0_length_0 : decode cX0_length 0 = .ok (.aload_n 0, 1) := by decide +kernel
theorem dX0_length_1 : decode cX0_length 1 = .ok (.getfield 19, 3) := by decide +kernel
theorem dX0_length_4 : decode cX0_length 4 = .ok (.ireturn, 1) := by decide +kernel
theorem dX0_clear_0 : decode cX0_clear 0 = .ok (.aload_n 0, 1) := by decide +kernel
theorem dX0_clear_1 : decode cX0_clear 1 = .ok (.iconst 0, 1) := by decide +kernel
theorem dX0_clear_2 : decode cX0_clear 2 = .ok (.putfield 19, 3) := by decide +kernel
theorem dX0_clear_5 : decode cX0_clear 5 = .ok (.return_, 1) := by decide +kernel
set_option maxRecDepth 20000 in
theorem ggX0_remember_X2_copyTo : GoodIn wsX0_remember wsX2_copyTo := goodIn_r _ [8, 9, 10, 11, 12, 13, 17, 18, 19, 20] (by decide +kernel) (by decide +kernel)
set_option maxRecDepth 20000 in
theorem gX0_remember_X2_copyTo : GoodIn wsX0_remember (wsV RX0 22 RX2 yX2_copyTo wsX2_copyTo) := goodIn_app (goodIn_of _ (by decide +kernel)) ggX0_remember_X2_copyTo
theorem dX0_remember_0 : decode cX0_remember 0 = .ok (.aload_n 0, 1) := by decide +kernel
theorem dX0_remember_1 : decode cX0_remember 1 = .ok (.getfield 19, 3) := by decide +kernel
theorem dX0_remember_4 : decode cX0_remember 4 = .ok (.bipush 16, 2) := by decide +kernel
theorem dX0_remember_6 : decode cX0_remember 6 = .ok (.if_icmp .ne 26, 3) := by decide +kernel
theorem dX0_remember_9 : decode cX0_remember 9 = .ok (.aload_n 0, 1) := by decide +kernel
theorem dX0_remember_10 : decode cX0_remember 10 = .ok (.aload_n 0, 1) := by decide +kernel
theorem dX0_remember_11 : decode cX0_remember 11 = .ok (.getfield 15, 3) := by decide +kernel
theorem dX0_remember_14 : decode cX0_remember 14 = .ok (.iconst 1, 1) := by decide +kernel
theorem dX0_remember_15 : decode cX0_remember 15 = .ok (.iadd, 1) := by decide +kernel
theorem dX0_remember_16 : decode cX0_remember 16 = .ok (.bipush 16, 2) := by decide +kernel
theorem dX0_remember_18 : decode cX0_remember 18 = .ok (.irem, 1) := by decide +kernel
theorem dX0_remember_19 : decode cX0_remember 19 = .ok (.putfield 15, 3) := by decide +kernel
theorem dX0_remember_22 : decode cX0_remember 22 = .ok (.aload_n 0, 1) := by decide +kernel
theorem dX0_remember_23 : decode cX0_remember 23 = .ok (.dup, 1) := by decide +kernel
theorem dX0_remember_24 : decode cX0_remember 24 = .ok (.getfield 19, 3) := by decide +kernel
theorem dX0_remember_27 : decode cX0_remember 27 = .ok (.iconst 1, 1) := by decide +kernel
theorem dX0_remember_28 : decode cX0_remember 28 = .ok (.isub, 1) := by decide +kernel
theorem dX0_remember_29 : decode cX0_remember 29 = .ok (.putfield 19, 3) := by decide +kernel
theorem dX0_remember_32 : decode cX0_remember 32 = .ok (.aload_n 1, 1) := by decide +kernel
theorem dX0_remember_33 : decode cX0_remember 33 = .ok (.aload_n 0, 1) := by decide +kernel
theorem dX0_remember_34 : decode cX0_remember 34 = .ok (.getfield 11, 3) := by decide +kernel
theorem dX0_remember_37 : decode cX0_remember 37 = .ok (.aload_n 0, 1) := by decide +kernel
theorem dX0_remember_38 : decode cX0_remember 38 = .ok (.getfield 15, 3) := by decide +kernel
theorem dX0_remember_41 : decode cX0_remember 41 = .ok (.aload_n 0, 1) := by decide +kernel
theorem dX0_remember_42 : decode cX0_remember 42 = .ok (.getfield 19, 3) := by decide +kernel
theorem dX0_remember_45 : decode cX0_remember 45 = .ok (.iadd, 1) := by decide +kernel
theorem dX0_remember_46 : decode cX0_remember 46 = .ok (.bipush 16, 2) := by decide +kernel
theorem dX0_remember_48 : decode cX0_remember 48 = .ok (.irem, 1) := by decide +kernel
theorem dX0_remember_49 : decode cX0_remember 49 = .ok (.invokevirtual 22, 3) := by decide +kernel
theorem dX0_remember_52 : decode cX0_remember 52 = .ok (.aload_n 0, 1) := by decide +kernel
theorem dX0_remember_53 : decode cX0_remember 53 = .ok (.dup, 1) := by decide +kernel
theorem dX0_remember_54 : decode cX0_remember 54 = .ok (.getfield 19, 3) := by decide +kernel
theorem dX0_remember_57 : decode cX0_remember 57 = .ok (.iconst 1, 1) := by decide +kernel
theorem dX0_remember_58 : decode cX0_remember 58 = .ok (.iadd, 1) := by decide +kernel
theorem dX0_remember_59 : decode cX0_remember 59 = .ok (.putfield 19, 3) := by decide +kernel
theorem dX0_remember_62 : decode cX0_remember 62 = .ok (.return_, 1) := by decide +kernel
set_option maxRecDepth 20000 in
theorem ggX0_takeBack_X2_copyFrom : GoodIn wsX0_takeBack wsX2_copyFrom := goodIn_r _ [8, 9, 10, 11, 12, 13, 17, 18, 19, 20] (by decide +kernel) (by decide +kernel)
set_option maxRecDepth 20000 in
theorem gX0_takeBack_X2_copyFrom : GoodIn wsX0_takeBack (wsV RX0 26 RX2 yX2_copyFrom wsX2_copyFrom) := goodIn_app (goodIn_of _ (by decide +kernel)) ggX0_takeBack_X2_copyFrom
theorem dX0_takeBack_0 : decode cX0_takeBack 0 = .ok (.aload_n 0, 1) := by decide +kernel
theorem dX0_takeBack_1 : decode cX0_takeBack 1 = .ok (.getfield 19, 3) := by decide +kernel
theorem dX0_takeBack_4 : decode cX0_takeBack 4 = .ok (.ifCond .le 33, 3) := by decide +kernel
theorem dX0_takeBack_7 : decode cX0_takeBack 7 = .ok (.aload_n 0, 1) := by decide +kernel
theorem dX0_takeBack_8 : decode cX0_takeBack 8 = .ok (.dup, 1) := by decide +kernel
theorem dX0_takeBack_9 : decode cX0_takeBack 9 = .ok (.getfield 19, 3) := by decide +kernel
theorem dX0_takeBack_12 : decode cX0_takeBack 12 = .ok (.iconst 1, 1) := by decide +kernel
theorem dX0_takeBack_13 : decode cX0_takeBack 13 = .ok (.isub, 1) := by decide +kernel
theorem dX0_takeBack_14 : decode cX0_takeBack 14 = .ok (.putfield 19, 3) := by decide +kernel
theorem dX0_takeBack_17 : decode cX0_takeBack 17 = .ok (.aload_n 1, 1) := by decide +kernel
theorem dX0_takeBack_18 : decode cX0_takeBack 18 = .ok (.aload_n 0, 1) := by decide +kernel
theorem dX0_takeBack_19 : decode cX0_takeBack 19 = .ok (.getfield 11, 3) := by decide +kernel
theorem dX0_takeBack_22 : decode cX0_takeBack 22 = .ok (.aload_n 0, 1) := by decide +kernel
theorem dX0_takeBack_23 : decode cX0_takeBack 23 = .ok (.getfield 15, 3) := by decide +kernel
theorem dX0_takeBack_26 : decode cX0_takeBack 26 = .ok (.aload_n 0, 1) := by decide +kernel
theorem dX0_takeBack_27 : decode cX0_takeBack 27 = .ok (.getfield 19, 3) := by decide +kernel
theorem dX0_takeBack_30 : decode cX0_takeBack 30 = .ok (.iadd, 1) := by decide +kernel
theorem dX0_takeBack_31 : decode cX0_takeBack 31 = .ok (.bipush 16, 2) := by decide +kernel
theorem dX0_takeBack_33 : decode cX0_takeBack 33 = .ok (.irem, 1) := by decide +kernel
theorem dX0_takeBack_34 : decode cX0_takeBack 34 = .ok (.invokevirtual 26, 3) := by decide +kernel
theorem dX0_takeBack_37 : decode cX0_takeBack 37 = .ok (.return_, 1) := by decide +kernel
theorem dX1_init_0 : decode cX1_init 0 = .ok (.aload_n 0, 1) := by decide +kernel
theorem dX1_init_1 : decode cX1_init 1 = .ok (.invokespecial 3, 3) := by decide +kernel
theorem dX1_init_4 : decode cX1_init 4 = .ok (.aload_n 0, 1) := by decide +kernel
theorem dX1_init_5 : decode cX1_init 5 = .ok (.bipush 48, 2) := by decide +kernel
theorem dX1_init_7 : decode cX1_init 7 = .ok (.newarray .int, 2) := by decide +kernel
theorem dX1_init_9 : decode cX1_init 9 = .ok (.putfield 11, 3) := by decide +kernel
theorem dX1_init_12 : decode cX1_init 12 = .ok (.aload_n 0, 1) := by decide +kernel
theorem dX1_init_13 : decode cX1_init 13 = .ok (.iconst 0, 1) := by decide +kernel
theorem dX1_init_14 : decode cX1_init 14 = .ok (.putfield 15, 3) := by decide +kernel
theorem dX1_init_17 : decode cX1_init 17 = .ok (.return_, 1) := by decide +kernel
theorem dX1_length_0 : decode cX1_length 0 = .ok (.aload_n 0, 1) := by decide +kernel
theorem dX1_length_1 : decode cX1_length 1 = .ok (.getfield 15, 3) := by decide +kernel
theorem dX1_length_4 : decode cX1_length 4 = .ok (.ireturn, 1) := by decide +kernel
theorem dX1_clear_0 : decode cX1_clear 0 = .ok (.aload_n 0, 1) := by decide +kernel
theorem dX1_clear_1 : decode cX1_clear 1 = .ok (.iconst 0, 1) := by decide +kernel
theorem dX1_clear_2 : decode cX1_clear 2 = .ok (.putfield 15, 3) := by decide +kernel
theorem dX1_clear_5 : decode cX1_clear 5 = .ok (.return_, 1) := by decide +kernel
theorem dX1_append_0 : decode cX1_append 0 = .ok (.iload_n 1, 1) := by decide +kernel
theorem dX1_append_1 : decode cX1_append 1 = .ok (.bipush 48, 2) := by decide +kernel
theorem dX1_append_3 : decode cX1_append 3 = .ok (.aload_n 0, 1) := by decide +kernel
theorem dX1_append_4 : decode cX1_append 4 = .ok (.getfield 15, 3) := by decide +kernel
theorem dX1_append_7 : decode cX1_append 7 = .ok (.isub, 1) := by decide +kernel
theorem dX1_append_8 : decode cX1_append 8 = .ok (.if_icmp .le 5, 3) := by decide +kernel
theorem dX1_append_11 : decode cX1_append 11 = .ok (.iconst 0, 1) := by decide +kernel
theorem dX1_append_12 : decode cX1_append 12 = .ok (.ireturn, 1) := by decide +kernel
theorem dX1_append_13 : decode cX1_append 13 = .ok (.iload_n 1, 1) := by decide +kernel
theorem dX1_append_14 : decode cX1_append 14 = .ok (.iconst 1, 1) := by decide +kernel
theorem dX1_append_15 : decode cX1_append 15 = .ok (.isub, 1) := by decide +kernel
theorem dX1_append_16 : decode cX1_append 16 = .ok (.istore 4, 2) := by decide +kernel
theorem dX1_append_18 : decode cX1_append 18 = .ok (.iload 4, 2) := by decide +kernel
theorem dX1_append_20 : decode cX1_append 20 = .ok (.ifCond .lt 40, 3) := by decide +kernel
theorem dX1_append_23 : decode cX1_append 23 = .ok (.aload_n 0, 1) := by decide +kernel
theorem dX1_append_24 : decode cX1_append 24 = .ok (.getfield 11, 3) := by decide +kernel
theorem dX1_append_27 : decode cX1_append 27 = .ok (.aload_n 0, 1) := by decide +kernel
theorem dX1_append_28 : decode cX1_append 28 = .ok (.getfield 15, 3) := by decide +kernel
theorem dX1_append_31 : decode cX1_append 31 = .ok (.lload_n 2, 1) := by decide +kernel
theorem dX1_append_32 : decode cX1_append 32 = .ok (.bipush 8, 2) := by decide +kernel
theorem dX1_append_34 : decode cX1_append 34 = .ok (.iload 4, 2) := by decide +kernel
theorem dX1_append_36 : decode cX1_append 36 = .ok (.imul, 1) := by decide +kernel
theorem dX1_append_37 : decode cX1_append 37 = .ok (.lushr, 1) := by decide +kernel
theorem dX1_append_38 : decode cX1_append 38 = .ok (.l2i, 1) := by decide +kernel
theorem dX1_append_39 : decode cX1_append 39 = .ok (.sipush 255, 3) := by decide +kernel
theorem dX1_append_42 : decode cX1_append 42 = .ok (.iand, 1) := by decide +kernel
theorem dX1_append_43 : decode cX1_append 43 = .ok (.iastore, 1) := by decide +kernel
theorem dX1_append_44 : decode cX1_append 44 = .ok (.aload_n 0, 1) := by decide +kernel
theorem dX1_append_45 : decode cX1_append 45 = .ok (.dup, 1) := by decide +kernel
theorem dX1_append_46 : decode cX1_append 46 = .ok (.getfield 15, 3) := by decide +kernel
theorem dX1_append_49 : decode cX1_append 49 = .ok (.iconst 1, 1) := by decide +kernel
theorem dX1_append_50 : decode cX1_append 50 = .ok (.iadd, 1) := by decide +kernel
theorem dX1_append_51 : decode cX1_append 51 = .ok (.putfield 15, 3) := by decide +kernel
theorem dX1_append_54 : decode cX1_append 54 = .ok (.iinc 4 (-1), 3) := by decide +kernel
theorem dX1_append_57 : decode cX1_append 57 = .ok (.goto (-39), 3) := by decide +kernel
theorem dX1_append_60 : decode cX1_append 60 = .ok (.iconst 1, 1) := by decide +kernel
theorem dX1_append_61 : decode cX1_append 61 = .ok (.ireturn, 1) := by decide +kernel
set_option maxRecDepth 20000 in
theorem ggX1_firstFault_X1_mayStandAt : GoodIn wsX1_firstFault wsX1_mayStandAt := goodIn_r _ [6] (by decide +kernel) (by decide +kernel)
set_option maxRecDepth 20000 in
theorem gX1_firstFault_X1_mayStandAt : GoodIn wsX1_firstFault (va_wsS RX1 19 yX1_mayStandAt wsX1_mayStandAt) := goodIn_app (goodIn_of _ (by decide +kernel)) ggX1_firstFault_X1_mayStandAt
theorem dX1_firstFault_0 : decode cX1_firstFault 0 = .ok (.iconst 0, 1) := by decide +kernel
theorem dX1_firstFault_1 : decode cX1_firstFault 1 = .ok (.istore_n 1, 1) := by decide +kernel
theorem dX1_firstFault_2 : decode cX1_firstFault 2 = .ok (.iload_n 1, 1) := by decide +kernel
theorem dX1_firstFault_3 : decode cX1_firstFault 3 = .ok (.aload_n 0, 1) := by decide +kernel
theorem dX1_firstFault_4 : decode cX1_firstFault 4 = .ok (.getfield 15, 3) := by decide +kernel
theorem dX1_firstFault_7 : decode cX1_firstFault 7 = .ok (.if_icmp .ge 24, 3) := by decide +kernel
theorem dX1_firstFault_10 : decode cX1_firstFault 10 = .ok (.iload_n 1, 1) := by decide +kernel
theorem dX1_firstFault_11 : decode cX1_firstFault 11 = .ok (.aload_n 0, 1) := by decide +kernel
theorem dX1_firstFault_12 : decode cX1_firstFault 12 = .ok (.getfield 11, 3) := by decide +kernel
theorem dX1_firstFault_15 : decode cX1_firstFault 15 = .ok (.iload_n 1, 1) := by decide +kernel
theorem dX1_firstFault_16 : decode cX1_firstFault 16 = .ok (.iaload, 1) := by decide +kernel
theorem dX1_firstFault_17 : decode cX1_firstFault 17 = .ok (.invokestatic 19, 3) := by decide +kernel
theorem dX1_firstFault_20 : decode cX1_firstFault 20 = .ok (.ifCond .ne 5, 3) := by decide +kernel
theorem dX1_firstFault_23 : decode cX1_firstFault 23 = .ok (.iload_n 1, 1) := by decide +kernel
theorem dX1_firstFault_24 : decode cX1_firstFault 24 = .ok (.ireturn, 1) := by decide +kernel
theorem dX1_firstFault_25 : decode cX1_firstFault 25 = .ok (.iinc 1 1, 3) := by decide +kernel
theorem dX1_firstFault_28 : decode cX1_firstFault 28 = .ok (.goto (-26), 3) := by decide +kernel
theorem dX1_firstFault_31 : decode cX1_firstFault 31 = .ok (.aload_n 0, 1) := by decide +kernel
theorem dX1_firstFault_32 : decode cX1_firstFault 32 = .ok (.getfield 15, 3) := by decide +kernel
theorem dX1_firstFault_35 : decode cX1_firstFault 35 = .ok (.iconst 4, 1) := by decide +kernel
theorem dX1_firstFault_36 : decode cX1_firstFault 36 = .ok (.if_icmp .lt 20, 3) := by decide +kernel
theorem dX1_firstFault_39 : decode cX1_firstFault 39 = .ok (.aload_n 0, 1) := by decide +kernel
theorem dX1_firstFault_40 : decode cX1_firstFault 40 = .ok (.getfield 15, 3) := by decide +kernel
theorem dX1_firstFault_43 : decode cX1_firstFault 43 = .ok (.iconst 4, 1) := by decide +kernel
theorem dX1_firstFault_44 : decode cX1_firstFault 44 = .ok (.isub, 1) := by decide +kernel
theorem dX1_firstFault_45 : decode cX1_firstFault 45 = .ok (.bipush 6, 2) := by decide +kernel
theorem dX1_firstFault_47 : decode cX1_firstFault 47 = .ok (.irem, 1) := by decide +kernel
theorem dX1_firstFault_48 : decode cX1_firstFault 48 = .ok (.ifCond .ne 8, 3) := by decide +kernel
theorem dX1_firstFault_51 : decode cX1_firstFault 51 = .ok (.bipush (-9), 2) := by decide +kernel
theorem dX1_firstFault_53 : decode cX1_firstFault 53 = .ok (.goto 7, 3) := by decide +kernel
theorem dX1_firstFault_56 : decode cX1_firstFault 56 = .ok (.aload_n 0, 1) := by decide +kernel
theorem dX1_firstFault_57 : decode cX1_firstFault 57 = .ok (.getfield 15, 3) := by decide +kernel
theorem dX1_firstFault_60 : decode cX1_firstFault 60 = .ok (.ireturn, 1) := by decide +kernel
theorem dX1_mayStandAt_0 : decode cX1_mayStandAt 0 = .ok (.iload_n 0, 1) := by decide +kernel
theorem dX1_mayStandAt_1 : decode cX1_mayStandAt 1 = .ok (.ifCond .ne 15, 3) := by decide +kernel
theorem dX1_mayStandAt_4 : decode cX1_mayStandAt 4 = .ok (.iload_n 1, 1) := by decide +kernel
theorem dX1_mayStandAt_5 : decode cX1_mayStandAt 5 = .ok (.bipush 82, 2) := by decide +kernel
theorem dX1_mayStandAt_7 : decode cX1_mayStandAt 7 = .ok (.if_icmp .ne 7, 3) := by decide +kernel
theorem dX1_mayStandAt_10 : decode cX1_mayStandAt 10 = .ok (.iconst 1, 1) := by decide +kernel
theorem dX1_mayStandAt_11 : decode cX1_mayStandAt 11 = .ok (.goto 4, 3) := by decide +kernel
theorem dX1_mayStandAt_14 : decode cX1_mayStandAt 14 = .ok (.iconst 0, 1) := by decide +kernel
theorem dX1_mayStandAt_15 : decode cX1_mayStandAt 15 = .ok (.ireturn, 1) := by decide +kernel
theorem dX1_mayStandAt_16 : decode cX1_mayStandAt 16 = .ok (.iload_n 0, 1) := by decide +kernel
theorem dX1_mayStandAt_17 : decode cX1_mayStandAt 17 = .ok (.iconst 1, 1) := by decide +kernel
theorem dX1_mayStandAt_18 : decode cX1_mayStandAt 18 = .ok (.if_icmp .ne 21, 3) := by decide +kernel
theorem dX1_mayStandAt_21 : decode cX1_mayStandAt 21 = .ok (.iload_n 1, 1) := by decide +kernel
theorem dX1_mayStandAt_22 : decode cX1_mayStandAt 22 = .ok (.bipush 48, 2) := by decide +kernel
theorem dX1_mayStandAt_24 : decode cX1_mayStandAt 24 = .ok (.if_icmp .lt 13, 3) := by decide +kernel
theorem dX1_mayStandAt_27 : decode cX1_mayStandAt 27 = .ok (.iload_n 1, 1) := by decide +kernel
theorem dX1_mayStandAt_28 : decode cX1_mayStandAt 28 = .ok (.bipush 51, 2) := by decide +kernel
theorem dX1_mayStandAt_30 : decode cX1_mayStandAt 30 = .ok (.if_icmp .ge 7, 3) := by decide +kernel
theorem dX1_mayStandAt_33 : decode cX1_mayStandAt 33 = .ok (.iconst 1, 1) := by decide +kernel
theorem dX1_mayStandAt_34 : decode cX1_mayStandAt 34 = .ok (.goto 4, 3) := by decide +kernel
theorem dX1_mayStandAt_37 : decode cX1_mayStandAt 37 = .ok (.iconst 0, 1) := by decide +kernel
theorem dX1_mayStandAt_38 : decode cX1_mayStandAt 38 = .ok (.ireturn, 1) := by decide +kernel
theorem dX1_mayStandAt_39 : decode cX1_mayStandAt 39 = .ok (.iload_n 0, 1) := by decide +kernel
theorem dX1_mayStandAt_40 : decode cX1_mayStandAt 40 = .ok (.iconst 4, 1) := by decide +kernel
theorem dX1_mayStandAt_41 : decode cX1_mayStandAt 41 = .ok (.if_icmp .lt 34, 3) := by decide +kernel
theorem dX1_mayStandAt_44 : decode cX1_mayStandAt 44 = .ok (.iload_n 0, 1) := by decide +kernel
theorem dX1_mayStandAt_45 : decode cX1_mayStandAt 45 = .ok (.iconst 4, 1) := by decide +kernel
theorem dX1_mayStandAt_46 : decode cX1_mayStandAt 46 = .ok (.isub, 1) := by decide +kernel
theorem dX1_mayStandAt_47 : decode cX1_mayStandAt 47 = .ok (.bipush 6, 2) := by decide +kernel
theorem dX1_mayStandAt_49 : decode cX1_mayStandAt 49 = .ok (.irem, 1) := by decide +kernel
theorem dX1_mayStandAt_50 : decode cX1_mayStandAt 50 = .ok (.ifCond .ne 25, 3) := by decide +kernel
theorem dX1_mayStandAt_53 : decode cX1_mayStandAt 53 = .ok (.iload_n 1, 1) := by decide +kernel
theorem dX1_mayStandAt_54 : decode cX1_mayStandAt 54 = .ok (.bipush 80, 2) := by decide +kernel
theorem dX1_mayStandAt_56 : decode cX1_mayStandAt 56 = .ok (.if_icmp .ne 17, 3) := by decide +kernel
theorem dX1_mayStandAt_59 : decode cX1_mayStandAt 59 = .ok (.iload_n 0, 1) := by decide +kernel
theorem dX1_mayStandAt_60 : decode cX1_mayStandAt 60 = .ok (.iconst 4, 1) := by decide +kernel
theorem dX1_mayStandAt_61 : decode cX1_mayStandAt 61 = .ok (.isub, 1) := by decide +kernel
theorem dX1_mayStandAt_62 : decode cX1_mayStandAt 62 = .ok (.bipush 6, 2) := by decide +kernel
theorem dX1_mayStandAt_64 : decode cX1_mayStandAt 64 = .ok (.idiv, 1) := by decide +kernel
theorem dX1_mayStandAt_65 : decode cX1_mayStandAt 65 = .ok (.iconst 5, 1) := by decide +kernel
theorem dX1_mayStandAt_66 : decode cX1_mayStandAt 66 = .ok (.if_icmp .ge 7, 3) := by decide +kernel
theorem dX1_mayStandAt_69 : decode cX1_mayStandAt 69 = .ok (.iconst 1, 1) := by decide +kernel
theorem dX1_mayStandAt_70 : decode cX1_mayStandAt 70 = .ok (.goto 4, 3) := by decide +kernel
theorem dX1_mayStandAt_73 : decode cX1_mayStandAt 73 = .ok (.iconst 0, 1) := by decide +kernel
theorem dX1_mayStandAt_74 : decode cX1_mayStandAt 74 = .ok (.ireturn, 1) := by decide +kernel
theorem dX1_mayStandAt_75 : decode cX1_mayStandAt 75 = .ok (.iload_n 0, 1) := by decide +kernel
theorem dX1_mayStandAt_76 : decode cX1_mayStandAt 76 = .ok (.iconst 4, 1) := by decide +kernel
theorem dX1_mayStandAt_77 : decode cX1_mayStandAt 77 = .ok (.if_icmp .lt 17, 3) := by decide +kernel
theorem dX1_mayStandAt_80 : decode cX1_mayStandAt 80 = .ok (.iload_n 0, 1) := by decide +kernel
theorem dX1_mayStandAt_81 : decode cX1_mayStandAt 81 = .ok (.iconst 4, 1) := by decide +kernel
theorem dX1_mayStandAt_82 : decode cX1_mayStandAt 82 = .ok (.isub, 1) := by decide +kernel
theorem dX1_mayStandAt_83 : decode cX1_mayStandAt 83 = .ok (.bipush 6, 2) := by decide +kernel
theorem dX1_mayStandAt_85 : decode cX1_mayStandAt 85 = .ok (.irem, 1) := by decide +kernel
theorem dX1_mayStandAt_86 : decode cX1_mayStandAt 86 = .ok (.iconst 1, 1) := by decide +kernel
theorem dX1_mayStandAt_87 : decode cX1_mayStandAt 87 = .ok (.if_icmp .ne 7, 3) := by decide +kernel
theorem dX1_mayStandAt_90 : decode cX1_mayStandAt 90 = .ok (.iconst 1, 1) := by decide +kernel
theorem dX1_mayStandAt_91 : decode cX1_mayStandAt 91 = .ok (.goto 4, 3) := by decide +kernel
theorem dX1_mayStandAt_94 : decode cX1_mayStandAt 94 = .ok (.iconst 0, 1) := by decide +kernel
theorem dX1_mayStandAt_95 : decode cX1_mayStandAt 95 = .ok (.istore_n 2, 1) := by decide +kernel
theorem dX1_mayStandAt_96 : decode cX1_mayStandAt 96 = .ok (.iload_n 1, 1) := by decide +kernel
theorem dX1_mayStandAt_97 : decode cX1_mayStandAt 97 = .ok (.iload_n 2, 1) := by decide +kernel
theorem dX1_mayStandAt_98 : decode cX1_mayStandAt 98 = .ok (.ifCond .eq 8, 3) := by decide +kernel
theorem dX1_mayStandAt_101 : decode cX1_mayStandAt 101 = .ok (.bipush 49, 2) := by decide +kernel
theorem dX1_mayStandAt_103 : decode cX1_mayStandAt 103 = .ok (.goto 5, 3) := by decide +kernel
theorem dX1_mayStandAt_106 : decode cX1_mayStandAt 106 = .ok (.bipush 48, 2) := by decide +kernel
theorem dX1_mayStandAt_108 : decode cX1_mayStandAt 108 = .ok (.if_icmp .lt 13, 3) := by decide +kernel
theorem dX1_mayStandAt_111 : decode cX1_mayStandAt 111 = .ok (.iload_n 1, 1) := by decide +kernel
theorem dX1_mayStandAt_112 : decode cX1_mayStandAt 112 = .ok (.bipush 57, 2) := by decide +kernel
theorem dX1_mayStandAt_114 : decode cX1_mayStandAt 114 = .ok (.if_icmp .gt 7, 3) := by decide +kernel
theorem dX1_mayStandAt_117 : decode cX1_mayStandAt 117 = .ok (.iconst 1, 1) := by decide +kernel
theorem dX1_mayStandAt_118 : decode cX1_mayStandAt 118 = .ok (.goto 4, 3) := by decide +kernel
theorem dX1_mayStandAt_121 : decode cX1_mayStandAt 121 = .ok (.iconst 0, 1) := by decide +kernel
theorem dX1_mayStandAt_122 : decode cX1_mayStandAt 122 = .ok (.ireturn, 1) := by decide +kernel
theorem dX1_parts_0 : decode cX1_parts 0 = .ok (.aload_n 0, 1) := by decide +kernel
theorem dX1_parts_1 : decode cX1_parts 1 = .ok (.getfield 15, 3) := by decide +kernel
theorem dX1_parts_4 : decode cX1_parts 4 = .ok (.iconst 4, 1) := by decide +kernel
theorem dX1_parts_5 : decode cX1_parts 5 = .ok (.if_icmp .ge 7, 3) := by decide +kernel
theorem dX1_parts_8 : decode cX1_parts 8 = .ok (.iconst 0, 1) := by decide +kernel
theorem dX1_parts_9 : decode cX1_parts 9 = .ok (.goto 12, 3) := by decide +kernel
theorem dX1_parts_12 : decode cX1_parts 12 = .ok (.aload_n 0, 1) := by decide +kernel
theorem dX1_parts_13 : decode cX1_parts 13 = .ok (.getfield 15, 3) := by decide +kernel
theorem dX1_parts_16 : decode cX1_parts 16 = .ok (.iconst 4, 1) := by decide +kernel
theorem dX1_parts_17 : decode cX1_parts 17 = .ok (.isub, 1) := by decide +kernel
theorem dX1_parts_18 : decode cX1_parts 18 = .ok (.bipush 6, 2) := by decide +kernel
theorem dX1_parts_20 : decode cX1_parts 20 = .ok (.idiv, 1) := by decide +kernel
theorem dX1_parts_21 : decode cX1_parts 21 = .ok (.ireturn, 1) := by decide +kernel
theorem dX1_figure_0 : decode cX1_figure 0 = .ok (.iload_n 1, 1) := by decide +kernel
theorem dX1_figure_1 : decode cX1_figure 1 = .ok (.ifCond .lt 11, 3) := by decide +kernel
theorem dX1_figure_4 : decode cX1_figure 4 = .ok (.iload_n 1, 1) := by decide +kernel
theorem dX1_figure_5 : decode cX1_figure 5 = .ok (.aload_n 0, 1) := by decide +kernel
theorem dX1_figure_6 : decode cX1_figure 6 = .ok (.getfield 15, 3) := by decide +kernel
theorem dX1_figure_9 : decode cX1_figure 9 = .ok (.if_icmp .lt 7, 3) := by decide +kernel
theorem dX1_figure_12 : decode cX1_figure 12 = .ok (.iconst 0, 1) := by decide +kernel
theorem dX1_figure_13 : decode cX1_figure 13 = .ok (.goto 12, 3) := by decide +kernel
theorem dX1_figure_16 : decode cX1_figure 16 = .ok (.aload_n 0, 1) := by decide +kernel
theorem dX1_figure_17 : decode cX1_figure 17 = .ok (.getfield 11, 3) := by decide +kernel
theorem dX1_figure_20 : decode cX1_figure 20 = .ok (.iload_n 1, 1) := by decide +kernel
theorem dX1_figure_21 : decode cX1_figure 21 = .ok (.iaload, 1) := by decide +kernel
theorem dX1_figure_22 : decode cX1_figure 22 = .ok (.bipush 48, 2) := by decide +kernel
theorem dX1_figure_24 : decode cX1_figure 24 = .ok (.isub, 1) := by decide +kernel
theorem dX1_figure_25 : decode cX1_figure 25 = .ok (.ireturn, 1) := by decide +kernel
set_option maxRecDepth 20000 in
theorem ggX1_partFigure_X1_figure : GoodIn wsX1_partFigure wsX1_figure := goodIn_r _ [5, 6, 7, 8, 9] (by decide +kernel) (by decide +kernel)
set_option maxRecDepth 20000 in
theorem gX1_partFigure_X1_figure : GoodIn wsX1_partFigure (wsV RX1 25 RX1 yX1_figure wsX1_figure) := goodIn_app (goodIn_of _ (by decide +kernel)) ggX1_partFigure_X1_figure
theorem dX1_partFigure_0 : decode cX1_partFigure 0 = .ok (.aload_n 0, 1) := by decide +kernel
theorem dX1_partFigure_1 : decode cX1_partFigure 1 = .ok (.iconst 4, 1) := by decide +kernel
theorem dX1_partFigure_2 : decode cX1_partFigure 2 = .ok (.bipush 6, 2) := by decide +kernel
theorem dX1_partFigure_4 : decode cX1_partFigure 4 = .ok (.iload_n 1, 1) := by decide +kernel
theorem dX1_partFigure_5 : decode cX1_partFigure 5 = .ok (.imul, 1) := by decide +kernel
theorem dX1_partFigure_6 : decode cX1_partFigure 6 = .ok (.iadd, 1) := by decide +kernel
theorem dX1_partFigure_7 : decode cX1_partFigure 7 = .ok (.iconst 1, 1) := by decide +kernel
theorem dX1_partFigure_8 : decode cX1_partFigure 8 = .ok (.iadd, 1) := by decide +kernel
theorem dX1_partFigure_9 : decode cX1_partFigure 9 = .ok (.iload_n 2, 1) := by decide +kernel
theorem dX1_partFigure_10 : decode cX1_partFigure 10 = .ok (.iadd, 1) := by decide +kernel
theorem dX1_partFigure_11 : decode cX1_partFigure 11 = .ok (.invokevirtual 25, 3) := by decide +kernel
theorem dX1_partFigure_14 : decode cX1_partFigure 14 = .ok (.ireturn, 1) := by decide +kernel
theorem dX2_init_0 : decode cX2_init 0 = .ok (.aload_n 0, 1) := by decide +kernel
theorem dX2_init_1 : decode cX2_init 1 = .ok (.invokespecial 5, 3) := by decide +kernel
theorem dX2_init_4 : decode cX2_init 4 = .ok (.aload_n 0, 1) := by decide +kernel
theorem dX2_init_5 : decode cX2_init 5 = .ok (.bipush 26, 2) := by decide +kernel
theorem dX2_init_7 : decode cX2_init 7 = .ok (.newarray .int, 2) := by decide +kernel
theorem dX2_init_9 : decode cX2_init 9 = .ok (.putfield 11, 3) := by decide +kernel
theorem dX2_init_12 : decode cX2_init 12 = .ok (.aload_n 0, 1) := by decide +kernel
theorem dX2_init_13 : decode cX2_init 13 = .ok (.iconst 0, 1) := by decide +kernel
theorem dX2_init_14 : decode cX2_init 14 = .ok (.putfield 15, 3) := by decide +kernel
theorem dX2_init_17 : decode cX2_init 17 = .ok (.aload_n 0, 1) := by decide +kernel
theorem dX2_init_18 : decode cX2_init 18 = .ok (.iconst 0, 1) := by decide +kernel
theorem dX2_init_19 : decode cX2_init 19 = .ok (.putfield 19, 3) := by decide +kernel
theorem dX2_init_22 : decode cX2_init 22 = .ok (.aload_n 0, 1) := by decide +kernel
theorem dX2_init_23 : decode cX2_init 23 = .ok (.iconst 0, 1) := by decide +kernel
theorem dX2_init_24 : decode cX2_init 24 = .ok (.putfield 22, 3) := by decide +kernel
theorem dX2_init_27 : decode cX2_init 27 = .ok (.return_, 1) := by decide +kernel
set_option maxRecDepth 20000 in
theorem ggX2_settle_J7_fill_53178 : GoodIn wsX2_settle wsJ7_fill_53178 := goodIn_r _ [12] (by decide +kernel) (by decide +kernel)
set_option maxRecDepth 20000 in
theorem gX2_settle_J7_fill_53178 : GoodIn wsX2_settle (va_wsS RX2 25 yJ7_fill_53178 wsJ7_fill_53178) := goodIn_app (goodIn_of _ (by decide +kernel)) ggX2_settle_J7_fill_53178
set_option maxRecDepth 20000 in
theorem ggX2_settle_X1_figure : GoodIn wsX2_settle wsX1_figure := goodIn_r _ [17, 18, 19, 38, 39] (by decide +kernel) (by decide +kernel)
set_option maxRecDepth 20000 in
theorem gX2_settle_X1_figure : GoodIn wsX2_settle (wsV RX2 31 RX1 yX1_figure wsX1_figure) := goodIn_app (goodIn_of _ (by decide +kernel)) ggX2_settle_X1_figure
set_option maxRecDepth 20000 in
theorem ggX2_settle_X1_parts : GoodIn wsX2_settle wsX1_parts := goodIn_r _ [23, 18, 38, 39] (by decide +kernel) (by decide +kernel)
set_option maxRecDepth 20000 in
theorem gX2_settle_X1_parts : GoodIn wsX2_settle (wsV RX2 37 RX1 yX1_parts wsX1_parts) := goodIn_app (goodIn_of _ (by decide +kernel)) ggX2_settle_X1_parts
set_option maxRecDepth 20000 in
theorem ggX2_settle_X1_partFigure : GoodIn wsX2_settle wsX1_partFigure := goodIn_r _ [27, 28, 14, 15, 16, 17, 18, 19, 38, 39] (by decide +kernel) (by decide +kernel)
set_option maxRecDepth 20000 in
theorem gX2_settle_X1_partFigure : GoodIn wsX2_settle (wsV RX2 47 RX1 yX1_partFigure wsX1_partFigure) := goodIn_app (goodIn_of _ (by decide +kernel)) ggX2_settle_X1_partFigure
set_option maxRecDepth 20000 in
theorem ggX2_settle_X2_add : GoodIn wsX2_settle wsX2_add := goodIn_r _ [33, 1, 34, 35, 36, 37] (by decide +kernel) (by decide +kernel)
set_option maxRecDepth 20000 in
theorem gX2_settle_X2_add : GoodIn wsX2_settle (wsV RX2 50 RX2 yX2_add wsX2_add) := goodIn_app (goodIn_of _ (by decide +kernel)) ggX2_settle_X2_add
theorem dX2_settle_0 : decode cX2_settle 0 = .ok (.aload_n 0, 1) := by decide +kernel
theorem dX2_settle_1 : decode cX2_settle 1 = .ok (.getfield 11, 3) := by decide +kernel
theorem dX2_settle_4 : decode cX2_settle 4 = .ok (.iconst 0, 1) := by decide +kernel
theorem dX2_settle_5 : decode cX2_settle 5 = .ok (.invokestatic 25, 3) := by decide +kernel
theorem dX2_settle_8 : decode cX2_settle 8 = .ok (.aload_n 0, 1) := by decide +kernel
theorem dX2_settle_9 : decode cX2_settle 9 = .ok (.aload_n 1, 1) := by decide +kernel
theorem dX2_settle_10 : decode cX2_settle 10 = .ok (.iconst 2, 1) := by decide +kernel
theorem dX2_settle_11 : decode cX2_settle 11 = .ok (.invokevirtual 31, 3) := by decide +kernel
theorem dX2_settle_14 : decode cX2_settle 14 = .ok (.putfield 19, 3) := by decide +kernel
theorem dX2_settle_17 : decode cX2_settle 17 = .ok (.aload_n 0, 1) := by decide +kernel
theorem dX2_settle_18 : decode cX2_settle 18 = .ok (.aload_n 1, 1) := by decide +kernel
theorem dX2_settle_19 : decode cX2_settle 19 = .ok (.iconst 3, 1) := by decide +kernel
theorem dX2_settle_20 : decode cX2_settle 20 = .ok (.invokevirtual 31, 3) := by decide +kernel
theorem dX2_settle_23 : decode cX2_settle 23 = .ok (.putfield 22, 3) := by decide +kernel
theorem dX2_settle_26 : decode cX2_settle 26 = .ok (.aload_n 0, 1) := by decide +kernel
theorem dX2_settle_27 : decode cX2_settle 27 = .ok (.aload_n 1, 1) := by decide +kernel
theorem dX2_settle_28 : decode cX2_settle 28 = .ok (.invokevirtual 37, 3) := by decide +kernel
theorem dX2_settle_31 : decode cX2_settle 31 = .ok (.iconst 5, 1) := by decide +kernel
theorem dX2_settle_32 : decode cX2_settle 32 = .ok (.invokestatic 41, 3) := by decide +kernel
theorem dX2_settle_35 : decode cX2_settle 35 = .ok (.putfield 15, 3) := by decide +kernel
theorem dX2_settle_38 : decode cX2_settle 38 = .ok (.iconst 0, 1) := by decide +kernel
theorem dX2_settle_39 : decode cX2_settle 39 = .ok (.istore_n 2, 1) := by decide +kernel
theorem dX2_settle_40 : decode cX2_settle 40 = .ok (.iload_n 2, 1) := by decide +kernel
theorem dX2_settle_41 : decode cX2_settle 41 = .ok (.aload_n 0, 1) := by decide +kernel
theorem dX2_settle_42 : decode cX2_settle 42 = .ok (.getfield 15, 3) := by decide +kernel
theorem dX2_settle_45 : decode cX2_settle 45 = .ok (.if_icmp .ge 65, 3) := by decide +kernel
theorem dX2_settle_48 : decode cX2_settle 48 = .ok (.aload_n 0, 1) := by decide +kernel
theorem dX2_settle_49 : decode cX2_settle 49 = .ok (.iload_n 2, 1) := by decide +kernel
theorem dX2_settle_50 : decode cX2_settle 50 = .ok (.iconst 0, 1) := by decide +kernel
theorem dX2_settle_51 : decode cX2_settle 51 = .ok (.bipush 100, 2) := by decide +kernel
theorem dX2_settle_53 : decode cX2_settle 53 = .ok (.aload_n 1, 1) := by decide +kernel
theorem dX2_settle_54 : decode cX2_settle 54 = .ok (.iload_n 2, 1) := by decide +kernel
theorem dX2_settle_55 : decode cX2_settle 55 = .ok (.iconst 0, 1) := by decide +kernel
theorem dX2_settle_56 : decode cX2_settle 56 = .ok (.invokevirtual 47, 3) := by decide +kernel
theorem dX2_settle_59 : decode cX2_settle 59 = .ok (.imul, 1) := by decide +kernel
theorem dX2_settle_60 : decode cX2_settle 60 = .ok (.bipush 10, 2) := by decide +kernel
theorem dX2_settle_62 : decode cX2_settle 62 = .ok (.aload_n 1, 1) := by decide +kernel
theorem dX2_settle_63 : decode cX2_settle 63 = .ok (.iload_n 2, 1) := by decide +kernel
theorem dX2_settle_64 : decode cX2_settle 64 = .ok (.iconst 1, 1) := by decide +kernel
theorem dX2_settle_65 : decode cX2_settle 65 = .ok (.invokevirtual 47, 3) := by decide +kernel
theorem dX2_settle_68 : decode cX2_settle 68 = .ok (.imul, 1) := by decide +kernel
theorem dX2_settle_69 : decode cX2_settle 69 = .ok (.iadd, 1) := by decide +kernel
theorem dX2_settle_70 : decode cX2_settle 70 = .ok (.aload_n 1, 1) := by decide +kernel
theorem dX2_settle_71 : decode cX2_settle 71 = .ok (.iload_n 2, 1) := by decide +kernel
theorem dX2_settle_72 : decode cX2_settle 72 = .ok (.iconst 2, 1) := by decide +kernel
theorem dX2_settle_73 : decode cX2_settle 73 = .ok (.invokevirtual 47, 3) := by decide +kernel
theorem dX2_settle_76 : decode cX2_settle 76 = .ok (.iadd, 1) := by decide +kernel
theorem dX2_settle_77 : decode cX2_settle 77 = .ok (.invokevirtual 50, 3) := by decide +kernel
theorem dX2_settle_80 : decode cX2_settle 80 = .ok (.aload_n 0, 1) := by decide +kernel
theorem dX2_settle_81 : decode cX2_settle 81 = .ok (.iload_n 2, 1) := by decide +kernel
theorem dX2_settle_82 : decode cX2_settle 82 = .ok (.iconst 1, 1) := by decide +kernel
theorem dX2_settle_83 : decode cX2_settle 83 = .ok (.aload_n 1, 1) := by decide +kernel
theorem dX2_settle_84 : decode cX2_settle 84 = .ok (.iload_n 2, 1) := by decide +kernel
theorem dX2_settle_85 : decode cX2_settle 85 = .ok (.iconst 3, 1) := by decide +kernel
theorem dX2_settle_86 : decode cX2_settle 86 = .ok (.invokevirtual 47, 3) := by decide +kernel
theorem dX2_settle_89 : decode cX2_settle 89 = .ok (.invokevirtual 50, 3) := by decide +kernel
theorem dX2_settle_92 : decode cX2_settle 92 = .ok (.aload_n 0, 1) := by decide +kernel
theorem dX2_settle_93 : decode cX2_settle 93 = .ok (.iload_n 2, 1) := by decide +kernel
theorem dX2_settle_94 : decode cX2_settle 94 = .ok (.iconst 2, 1) := by decide +kernel
theorem dX2_settle_95 : decode cX2_settle 95 = .ok (.aload_n 1, 1) := by decide +kernel
theorem dX2_settle_96 : decode cX2_settle 96 = .ok (.iload_n 2, 1) := by decide +kernel
theorem dX2_settle_97 : decode cX2_settle 97 = .ok (.iconst 4, 1) := by decide +kernel
theorem dX2_settle_98 : decode cX2_settle 98 = .ok (.invokevirtual 47, 3) := by decide +kernel
theorem dX2_settle_101 : decode cX2_settle 101 = .ok (.invokevirtual 50, 3) := by decide +kernel
theorem dX2_settle_104 : decode cX2_settle 104 = .ok (.iinc 2 1, 3) := by decide +kernel
theorem dX2_settle_107 : decode cX2_settle 107 = .ok (.goto (-67), 3) := by decide +kernel
theorem dX2_settle_110 : decode cX2_settle 110 = .ok (.return_, 1) := by decide +kernel
theorem dX2_becomeLike_0 : decode cX2_becomeLike 0 = .ok (.aload_n 1, 1) := by decide +kernel
theorem dX2_becomeLike_1 : decode cX2_becomeLike 1 = .ok (.getfield 11, 3) := by decide +kernel
theorem dX2_becomeLike_4 : decode cX2_becomeLike 4 = .ok (.iconst 0, 1) := by decide +kernel
theorem dX2_becomeLike_5 : decode cX2_becomeLike 5 = .ok (.aload_n 0, 1) := by decide +kernel
theorem dX2_becomeLike_6 : decode cX2_becomeLike 6 = .ok (.getfield 11, 3) := by decide +kernel
theorem dX2_becomeLike_9 : decode cX2_becomeLike 9 = .ok (.iconst 0, 1) := by decide +kernel
theorem dX2_becomeLike_10 : decode cX2_becomeLike 10 = .ok (.bipush 26, 2) := by decide +kernel
theorem dX2_becomeLike_12 : decode cX2_becomeLike 12 = .ok (.invokestatic 54, 3) := by decide +kernel
theorem dX2_becomeLike_15 : decode cX2_becomeLike 15 = .ok (.aload_n 0, 1) := by decide +kernel
theorem dX2_becomeLike_16 : decode cX2_becomeLike 16 = .ok (.aload_n 1, 1) := by decide +kernel
theorem dX2_becomeLike_17 : decode cX2_becomeLike 17 = .ok (.getfield 15, 3) := by decide +kernel
theorem dX2_becomeLike_20 : decode cX2_becomeLike 20 = .ok (.putfield 15, 3) := by decide +kernel
theorem dX2_becomeLike_23 : decode cX2_becomeLike 23 = .ok (.aload_n 0, 1) := by decide +kernel
theorem dX2_becomeLike_24 : decode cX2_becomeLike 24 = .ok (.aload_n 1, 1) := by decide +kernel
theorem dX2_becomeLike_25 : decode cX2_becomeLike 25 = .ok (.getfield 19, 3) := by decide +kernel
theorem dX2_becomeLike_28 : decode cX2_becomeLike 28 = .ok (.putfield 19, 3) := by decide +kernel
theorem dX2_becomeLike_31 : decode cX2_becomeLike 31 = .ok (.aload_n 0, 1) := by decide +kernel
theorem dX2_becomeLike_32 : decode cX2_becomeLike 32 = .ok (.aload_n 1, 1) := by decide +kernel
theorem dX2_becomeLike_33 : decode cX2_becomeLike 33 = .ok (.getfield 22, 3) := by decide +kernel
theorem dX2_becomeLike_36 : decode cX2_becomeLike 36 = .ok (.putfield 22, 3) := by decide +kernel
theorem dX2_becomeLike_39 : decode cX2_becomeLike 39 = .ok (.return_, 1) := by decide +kernel
theorem dX2_copyTo_0 : decode cX2_copyTo 0 = .ok (.iload_n 2, 1) := by decide +kernel
theorem dX2_copyTo_1 : decode cX2_copyTo 1 = .ok (.ifCond .lt 27, 3) := by decide +kernel
theorem dX2_copyTo_4 : decode cX2_copyTo 4 = .ok (.iload_n 2, 1) := by decide +kernel
theorem dX2_copyTo_5 : decode cX2_copyTo 5 = .ok (.aload_n 1, 1) := by decide +kernel
theorem dX2_copyTo_6 : decode cX2_copyTo 6 = .ok (.arraylength, 1) := by decide +kernel
theorem dX2_copyTo_7 : decode cX2_copyTo 7 = .ok (.bipush 26, 2) := by decide +kernel
theorem dX2_copyTo_9 : decode cX2_copyTo 9 = .ok (.idiv, 1) := by decide +kernel
theorem dX2_copyTo_10 : decode cX2_copyTo 10 = .ok (.if_icmp .ge 18, 3) := by decide +kernel
theorem dX2_copyTo_13 : decode cX2_copyTo 13 = .ok (.aload_n 0, 1) := by decide +kernel
theorem dX2_copyTo_14 : decode cX2_copyTo 14 = .ok (.getfield 11, 3) := by decide +kernel
theorem dX2_copyTo_17 : decode cX2_copyTo 17 = .ok (.iconst 0, 1) := by decide +kernel
theorem dX2_copyTo_18 : decode cX2_copyTo 18 = .ok (.aload_n 1, 1) := by decide +kernel
theorem dX2_copyTo_19 : decode cX2_copyTo 19 = .ok (.iload_n 2, 1) := by decide +kernel
theorem dX2_copyTo_20 : decode cX2_copyTo 20 = .ok (.bipush 26, 2) := by decide +kernel
theorem dX2_copyTo_22 : decode cX2_copyTo 22 = .ok (.imul, 1) := by decide +kernel
theorem dX2_copyTo_23 : decode cX2_copyTo 23 = .ok (.bipush 26, 2) := by decide +kernel
theorem dX2_copyTo_25 : decode cX2_copyTo 25 = .ok (.invokestatic 54, 3) := by decide +kernel
theorem dX2_copyTo_28 : decode cX2_copyTo 28 = .ok (.return_, 1) := by decide +kernel
theorem dX2_copyFrom_0 : decode cX2_copyFrom 0 = .ok (.iload_n 2, 1) := by decide +kernel
theorem dX2_copyFrom_1 : decode cX2_copyFrom 1 = .ok (.ifCond .lt 27, 3) := by decide +kernel
theorem dX2_copyFrom_4 : decode cX2_copyFrom 4 = .ok (.iload_n 2, 1) := by decide +kernel
theorem dX2_copyFrom_5 : decode cX2_copyFrom 5 = .ok (.aload_n 1, 1) := by decide +kernel
theorem dX2_copyFrom_6 : decode cX2_copyFrom 6 = .ok (.arraylength, 1) := by decide +kernel
theorem dX2_copyFrom_7 : decode cX2_copyFrom 7 = .ok (.bipush 26, 2) := by decide +kernel
theorem dX2_copyFrom_9 : decode cX2_copyFrom 9 = .ok (.idiv, 1) := by decide +kernel
theorem dX2_copyFrom_10 : decode cX2_copyFrom 10 = .ok (.if_icmp .ge 18, 3) := by decide +kernel
theorem dX2_copyFrom_13 : decode cX2_copyFrom 13 = .ok (.aload_n 1, 1) := by decide +kernel
theorem dX2_copyFrom_14 : decode cX2_copyFrom 14 = .ok (.iload_n 2, 1) := by decide +kernel
theorem dX2_copyFrom_15 : decode cX2_copyFrom 15 = .ok (.bipush 26, 2) := by decide +kernel
theorem dX2_copyFrom_17 : decode cX2_copyFrom 17 = .ok (.imul, 1) := by decide +kernel
theorem dX2_copyFrom_18 : decode cX2_copyFrom 18 = .ok (.aload_n 0, 1) := by decide +kernel
theorem dX2_copyFrom_19 : decode cX2_copyFrom 19 = .ok (.getfield 11, 3) := by decide +kernel
theorem dX2_copyFrom_22 : decode cX2_copyFrom 22 = .ok (.iconst 0, 1) := by decide +kernel
theorem dX2_copyFrom_23 : decode cX2_copyFrom 23 = .ok (.bipush 26, 2) := by decide +kernel
theorem dX2_copyFrom_25 : decode cX2_copyFrom 25 = .ok (.invokestatic 54, 3) := by decide +kernel
theorem dX2_copyFrom_28 : decode cX2_copyFrom 28 = .ok (.return_, 1) := by decide +kernel
theorem dX2_size_0 : decode cX2_size 0 = .ok (.aload_n 0, 1) := by decide +kernel
theorem dX2_size_1 : decode cX2_size 1 = .ok (.getfield 15, 3) := by decide +kernel
theorem dX2_size_4 : decode cX2_size 4 = .ok (.ireturn, 1) := by decide +kernel
theorem dX2_has_0 : decode cX2_has 0 = .ok (.iload_n 1, 1) := by decide +kernel
theorem dX2_has_1 : decode cX2_has 1 = .ok (.ifCond .lt 15, 3) := by decide +kernel
theorem dX2_has_4 : decode cX2_has 4 = .ok (.iload_n 1, 1) := by decide +kernel
theorem dX2_has_5 : decode cX2_has 5 = .ok (.aload_n 0, 1) := by decide +kernel
theorem dX2_has_6 : decode cX2_has 6 = .ok (.getfield 15, 3) := by decide +kernel
theorem dX2_has_9 : decode cX2_has 9 = .ok (.if_icmp .ge 7, 3) := by decide +kernel
theorem dX2_has_12 : decode cX2_has 12 = .ok (.iconst 1, 1) := by decide +kernel
theorem dX2_has_13 : decode cX2_has 13 = .ok (.goto 4, 3) := by decide +kernel
theorem dX2_has_16 : decode cX2_has 16 = .ok (.iconst 0, 1) := by decide +kernel
theorem dX2_has_17 : decode cX2_has 17 = .ok (.ireturn, 1) := by decide +kernel
theorem dX2_get_0 : decode cX2_get 0 = .ok (.iload_n 1, 1) := by decide +kernel
theorem dX2_get_1 : decode cX2_get 1 = .ok (.iconst 5, 1) := by decide +kernel
theorem dX2_get_2 : decode cX2_get 2 = .ok (.imul, 1) := by decide +kernel
theorem dX2_get_3 : decode cX2_get 3 = .ok (.iload_n 2, 1) := by decide +kernel
theorem dX2_get_4 : decode cX2_get 4 = .ok (.iadd, 1) := by decide +kernel
theorem dX2_get_5 : decode cX2_get 5 = .ok (.istore_n 3, 1) := by decide +kernel
theorem dX2_get_6 : decode cX2_get 6 = .ok (.iload_n 3, 1) := by decide +kernel
theorem dX2_get_7 : decode cX2_get 7 = .ok (.ifCond .lt 18, 3) := by decide +kernel
theorem dX2_get_10 : decode cX2_get 10 = .ok (.iload_n 3, 1) := by decide +kernel
theorem dX2_get_11 : decode cX2_get 11 = .ok (.bipush 25, 2) := by decide +kernel
theorem dX2_get_13 : decode cX2_get 13 = .ok (.if_icmp .ge 12, 3) := by decide +kernel
theorem dX2_get_16 : decode cX2_get 16 = .ok (.aload_n 0, 1) := by decide +kernel
theorem dX2_get_17 : decode cX2_get 17 = .ok (.getfield 11, 3) := by decide +kernel
theorem dX2_get_20 : decode cX2_get 20 = .ok (.iload_n 3, 1) := by decide +kernel
theorem dX2_get_21 : decode cX2_get 21 = .ok (.iaload, 1) := by decide +kernel
theorem dX2_get_22 : decode cX2_get 22 = .ok (.goto 4, 3) := by decide +kernel
theorem dX2_get_25 : decode cX2_get 25 = .ok (.iconst 0, 1) := by decide +kernel
theorem dX2_get_26 : decode cX2_get 26 = .ok (.ireturn, 1) := by decide +kernel
theorem dX2_add_0 : decode cX2_add 0 = .ok (.iload_n 1, 1) := by decide +kernel
theorem dX2_add_1 : decode cX2_add 1 = .ok (.iconst 5, 1) := by decide +kernel
theorem dX2_add_2 : decode cX2_add 2 = .ok (.imul, 1) := by decide +kernel
theorem dX2_add_3 : decode cX2_add 3 = .ok (.iload_n 2, 1) := by decide +kernel
theorem dX2_add_4 : decode cX2_add 4 = .ok (.iadd, 1) := by decide +kernel
theorem dX2_add_5 : decode cX2_add 5 = .ok (.istore 4, 2) := by decide +kernel
theorem dX2_add_7 : decode cX2_add 7 = .ok (.iload 4, 2) := by decide +kernel
theorem dX2_add_9 : decode cX2_add 9 = .ok (.ifCond .lt 21, 3) := by decide +kernel
theorem dX2_add_12 : decode cX2_add 12 = .ok (.iload 4, 2) := by decide +kernel
theorem dX2_add_14 : decode cX2_add 14 = .ok (.bipush 25, 2) := by decide +kernel
theorem dX2_add_16 : decode cX2_add 16 = .ok (.if_icmp .ge 14, 3) := by decide +kernel
theorem dX2_add_19 : decode cX2_add 19 = .ok (.aload_n 0, 1) := by decide +kernel
theorem dX2_add_20 : decode cX2_add 20 = .ok (.getfield 11, 3) := by decide +kernel
theorem dX2_add_23 : decode cX2_add 23 = .ok (.iload 4, 2) := by decide +kernel
theorem dX2_add_25 : decode cX2_add 25 = .ok (.dup2, 1) := by decide +kernel
theorem dX2_add_26 : decode cX2_add 26 = .ok (.iaload, 1) := by decide +kernel
theorem dX2_add_27 : decode cX2_add 27 = .ok (.iload_n 3, 1) := by decide +kernel
theorem dX2_add_28 : decode cX2_add 28 = .ok (.iadd, 1) := by decide +kernel
theorem dX2_add_29 : decode cX2_add 29 = .ok (.iastore, 1) := by decide +kernel
theorem dX2_add_30 : decode cX2_add 30 = .ok (.return_, 1) := by decide +kernel
set_option maxRecDepth 20000 in
theorem ggX2_gain_X2_get : GoodIn wsX2_gain wsX2_get := goodIn_r _ [9, 10, 15, 16, 17, 18] (by decide +kernel) (by decide +kernel)
set_option maxRecDepth 20000 in
theorem gX2_gain_X2_get : GoodIn wsX2_gain (wsV RX2 60 RX2 yX2_get wsX2_get) := goodIn_app (goodIn_of _ (by decide +kernel)) ggX2_gain_X2_get
set_option maxRecDepth 20000 in
theorem ggX2_gain_X2_add : GoodIn wsX2_gain wsX2_add := goodIn_r _ [14, 10, 15, 16, 17, 18] (by decide +kernel) (by decide +kernel)
set_option maxRecDepth 20000 in
theorem gX2_gain_X2_add : GoodIn wsX2_gain (wsV RX2 50 RX2 yX2_add wsX2_add) := goodIn_app (goodIn_of _ (by decide +kernel)) ggX2_gain_X2_add
theorem dX2_gain_0 : decode cX2_gain 0 = .ok (.aload_n 0, 1) := by decide +kernel
theorem dX2_gain_1 : decode cX2_gain 1 = .ok (.iload_n 1, 1) := by decide +kernel
theorem dX2_gain_2 : decode cX2_gain 2 = .ok (.iconst 0, 1) := by decide +kernel
theorem dX2_gain_3 : decode cX2_gain 3 = .ok (.invokevirtual 60, 3) := by decide +kernel
theorem dX2_gain_6 : decode cX2_gain 6 = .ok (.istore_n 3, 1) := by decide +kernel
theorem dX2_gain_7 : decode cX2_gain 7 = .ok (.aload_n 0, 1) := by decide +kernel
theorem dX2_gain_8 : decode cX2_gain 8 = .ok (.iload_n 1, 1) := by decide +kernel
theorem dX2_gain_9 : decode cX2_gain 9 = .ok (.iconst 0, 1) := by decide +kernel
theorem dX2_gain_10 : decode cX2_gain 10 = .ok (.iconst 1, 1) := by decide +kernel
theorem dX2_gain_11 : decode cX2_gain 11 = .ok (.iload_n 3, 1) := by decide +kernel
theorem dX2_gain_12 : decode cX2_gain 12 = .ok (.iload_n 2, 1) := by decide +kernel
theorem dX2_gain_13 : decode cX2_gain 13 = .ok (.iadd, 1) := by decide +kernel
theorem dX2_gain_14 : decode cX2_gain 14 = .ok (.invokestatic 63, 3) := by decide +kernel
theorem dX2_gain_17 : decode cX2_gain 17 = .ok (.iload_n 3, 1) := by decide +kernel
theorem dX2_gain_18 : decode cX2_gain 18 = .ok (.isub, 1) := by decide +kernel
theorem dX2_gain_19 : decode cX2_gain 19 = .ok (.invokevirtual 50, 3) := by decide +kernel
theorem dX2_gain_22 : decode cX2_gain 22 = .ok (.aload_n 0, 1) := by decide +kernel
theorem dX2_gain_23 : decode cX2_gain 23 = .ok (.iload_n 1, 1) := by decide +kernel
theorem dX2_gain_24 : decode cX2_gain 24 = .ok (.iconst 0, 1) := by decide +kernel
theorem dX2_gain_25 : decode cX2_gain 25 = .ok (.invokevirtual 60, 3) := by decide +kernel
theorem dX2_gain_28 : decode cX2_gain 28 = .ok (.ireturn, 1) := by decide +kernel
theorem dX2_today_0 : decode cX2_today 0 = .ok (.aload_n 0, 1) := by decide +kernel
theorem dX2_today_1 : decode cX2_today 1 = .ok (.getfield 11, 3) := by decide +kernel
theorem dX2_today_4 : decode cX2_today 4 = .ok (.bipush 25, 2) := by decide +kernel
theorem dX2_today_6 : decode cX2_today 6 = .ok (.iaload, 1) := by decide +kernel
theorem dX2_today_7 : decode cX2_today 7 = .ok (.ireturn, 1) := by decide +kernel
set_option maxRecDepth 20000 in
theorem ggX2_passDay_X2_get : GoodIn wsX2_passDay wsX2_get := goodIn_r _ [8, 1, 21, 22, 23, 24] (by decide +kernel) (by decide +kernel)
set_option maxRecDepth 20000 in
theorem gX2_passDay_X2_get : GoodIn wsX2_passDay (wsV RX2 60 RX2 yX2_get wsX2_get) := goodIn_app (goodIn_of _ (by decide +kernel)) ggX2_passDay_X2_get
set_option maxRecDepth 20000 in
theorem ggX2_passDay_X2_gain : GoodIn wsX2_passDay wsX2_gain := goodIn_r _ [12, 13, 14, 15, 16, 4, 5, 6, 7, 8, 1, 17, 18, 19, 20, 21, 22, 23, 24] (by decide +kernel) (by decide +kernel)
set_option maxRecDepth 20000 in
theorem gX2_passDay_X2_gain : GoodIn wsX2_passDay (wsV RX2 66 RX2 yX2_gain wsX2_gain) := goodIn_app (goodIn_of _ (by decide +kernel)) ggX2_passDay_X2_gain
set_option maxRecDepth 20000 in
theorem ggX2_passDay_X2_add : GoodIn wsX2_passDay wsX2_add := goodIn_r _ [20, 1, 21, 22, 23, 24] (by decide +kernel) (by decide +kernel)
set_option maxRecDepth 20000 in
theorem gX2_passDay_X2_add : GoodIn wsX2_passDay (wsV RX2 50 RX2 yX2_add wsX2_add) := goodIn_app (goodIn_of _ (by decide +kernel)) ggX2_passDay_X2_add
theorem dX2_passDay_0 : decode cX2_passDay 0 = .ok (.aload_n 0, 1) := by decide +kernel
theorem dX2_passDay_1 : decode cX2_passDay 1 = .ok (.getfield 11, 3) := by decide +kernel
theorem dX2_passDay_4 : decode cX2_passDay 4 = .ok (.bipush 25, 2) := by decide +kernel
theorem dX2_passDay_6 : decode cX2_passDay 6 = .ok (.dup2, 1) := by decide +kernel
theorem dX2_passDay_7 : decode cX2_passDay 7 = .ok (.iaload, 1) := by decide +kernel
theorem dX2_passDay_8 : decode cX2_passDay 8 = .ok (.iconst 1, 1) := by decide +kernel
theorem dX2_passDay_9 : decode cX2_passDay 9 = .ok (.iadd, 1) := by decide +kernel
theorem dX2_passDay_10 : decode cX2_passDay 10 = .ok (.iastore, 1) := by decide +kernel
theorem dX2_passDay_11 : decode cX2_passDay 11 = .ok (.iconst 0, 1) := by decide +kernel
theorem dX2_passDay_12 : decode cX2_passDay 12 = .ok (.istore_n 1, 1) := by decide +kernel
theorem dX2_passDay_13 : decode cX2_passDay 13 = .ok (.iload_n 1, 1) := by decide +kernel
theorem dX2_passDay_14 : decode cX2_passDay 14 = .ok (.aload_n 0, 1) := by decide +kernel
theorem dX2_passDay_15 : decode cX2_passDay 15 = .ok (.getfield 15, 3) := by decide +kernel
theorem dX2_passDay_18 : decode cX2_passDay 18 = .ok (.if_icmp .ge 39, 3) := by decide +kernel
theorem dX2_passDay_21 : decode cX2_passDay 21 = .ok (.aload_n 0, 1) := by decide +kernel
theorem dX2_passDay_22 : decode cX2_passDay 22 = .ok (.iload_n 1, 1) := by decide +kernel
theorem dX2_passDay_23 : decode cX2_passDay 23 = .ok (.iconst 3, 1) := by decide +kernel
theorem dX2_passDay_24 : decode cX2_passDay 24 = .ok (.invokevirtual 60, 3) := by decide +kernel
theorem dX2_passDay_27 : decode cX2_passDay 27 = .ok (.istore_n 2, 1) := by decide +kernel
theorem dX2_passDay_28 : decode cX2_passDay 28 = .ok (.aload_n 0, 1) := by decide +kernel
theorem dX2_passDay_29 : decode cX2_passDay 29 = .ok (.iload_n 1, 1) := by decide +kernel
theorem dX2_passDay_30 : decode cX2_passDay 30 = .ok (.iload_n 2, 1) := by decide +kernel
theorem dX2_passDay_31 : decode cX2_passDay 31 = .ok (.ineg, 1) := by decide +kernel
theorem dX2_passDay_32 : decode cX2_passDay 32 = .ok (.iconst 2, 1) := by decide +kernel
theorem dX2_passDay_33 : decode cX2_passDay 33 = .ok (.aload_n 0, 1) := by decide +kernel
theorem dX2_passDay_34 : decode cX2_passDay 34 = .ok (.getfield 19, 3) := by decide +kernel
theorem dX2_passDay_37 : decode cX2_passDay 37 = .ok (.imul, 1) := by decide +kernel
theorem dX2_passDay_38 : decode cX2_passDay 38 = .ok (.isub, 1) := by decide +kernel
theorem dX2_passDay_39 : decode cX2_passDay 39 = .ok (.invokevirtual 66, 3) := by decide +kernel
theorem dX2_passDay_42 : decode cX2_passDay 42 = .ok (.pop, 1) := by decide +kernel
theorem dX2_passDay_43 : decode cX2_passDay 43 = .ok (.aload_n 0, 1) := by decide +kernel
theorem dX2_passDay_44 : decode cX2_passDay 44 = .ok (.iload_n 1, 1) := by decide +kernel
theorem dX2_passDay_45 : decode cX2_passDay 45 = .ok (.iconst 3, 1) := by decide +kernel
theorem dX2_passDay_46 : decode cX2_passDay 46 = .ok (.iload_n 2, 1) := by decide +kernel
theorem dX2_passDay_47 : decode cX2_passDay 47 = .ok (.ineg, 1) := by decide +kernel
theorem dX2_passDay_48 : decode cX2_passDay 48 = .ok (.invokevirtual 50, 3) := by decide +kernel
theorem dX2_passDay_51 : decode cX2_passDay 51 = .ok (.iinc 1 1, 3) := by decide +kernel
theorem dX2_passDay_54 : decode cX2_passDay 54 = .ok (.goto (-41), 3) := by decide +kernel
theorem dX2_passDay_57 : decode cX2_passDay 57 = .ok (.return_, 1) := by decide +kernel
set_option maxRecDepth 20000 in
theorem ggX2_pocketWeight_X2_get : GoodIn wsX2_pocketWeight wsX2_get := goodIn_r _ [5, 6, 7, 8, 9, 10] (by decide +kernel) (by decide +kernel)
set_option maxRecDepth 20000 in
theorem gX2_pocketWeight_X2_get : GoodIn wsX2_pocketWeight (wsV RX2 60 RX2 yX2_get wsX2_get) := goodIn_app (goodIn_of _ (by decide +kernel)) ggX2_pocketWeight_X2_get
theorem dX2_pocketWeight_0 : decode cX2_pocketWeight 0 = .ok (.bipush 8, 2) := by decide +kernel
theorem dX2_pocketWeight_2 : decode cX2_pocketWeight 2 = .ok (.aload_n 0, 1) := by decide +kernel
theorem dX2_pocketWeight_3 : decode cX2_pocketWeight 3 = .ok (.iload_n 1, 1) := by decide +kernel
theorem dX2_pocketWeight_4 : decode cX2_pocketWeight 4 = .ok (.iconst 1, 1) := by decide +kernel
theorem dX2_pocketWeight_5 : decode cX2_pocketWeight 5 = .ok (.invokevirtual 60, 3) := by decide +kernel
theorem dX2_pocketWeight_8 : decode cX2_pocketWeight 8 = .ok (.imul, 1) := by decide +kernel
theorem dX2_pocketWeight_9 : decode cX2_pocketWeight 9 = .ok (.bipush 10, 2) := by decide +kernel
theorem dX2_pocketWeight_11 : decode cX2_pocketWeight 11 = .ok (.aload_n 0, 1) := by decide +kernel
theorem dX2_pocketWeight_12 : decode cX2_pocketWeight 12 = .ok (.iload_n 1, 1) := by decide +kernel
theorem dX2_pocketWeight_13 : decode cX2_pocketWeight 13 = .ok (.iconst 2, 1) := by decide +kernel
theorem dX2_pocketWeight_14 : decode cX2_pocketWeight 14 = .ok (.invokevirtual 60, 3) := by decide +kernel
theorem dX2_pocketWeight_17 : decode cX2_pocketWeight 17 = .ok (.imul, 1) := by decide +kernel
theorem dX2_pocketWeight_18 : decode cX2_pocketWeight 18 = .ok (.iadd, 1) := by decide +kernel
theorem dX2_pocketWeight_19 : decode cX2_pocketWeight 19 = .ok (.ireturn, 1) := by decide +kernel
set_option maxRecDepth 20000 in
theorem ggX2_noonWeight_X2_get : GoodIn wsX2_noonWeight wsX2_get := goodIn_r _ [5, 6, 11, 12, 13, 14] (by decide +kernel) (by decide +kernel)
set_option maxRecDepth 20000 in
theorem gX2_noonWeight_X2_get : GoodIn wsX2_noonWeight (wsV RX2 60 RX2 yX2_get wsX2_get) := goodIn_app (goodIn_of _ (by decide +kernel)) ggX2_noonWeight_X2_get
set_option maxRecDepth 20000 in
theorem ggX2_noonWeight_X2_pocketWeight : GoodIn wsX2_noonWeight wsX2_pocketWeight := goodIn_r _ [10, 1, 2, 3, 4, 5, 6, 11, 12, 13, 14] (by decide +kernel) (by decide +kernel)
set_option maxRecDepth 20000 in
theorem gX2_noonWeight_X2_pocketWeight : GoodIn wsX2_noonWeight (wsV RX2 69 RX2 yX2_pocketWeight wsX2_pocketWeight) := goodIn_app (goodIn_of _ (by decide +kernel)) ggX2_noonWeight_X2_pocketWeight
theorem dX2_noonWeight_0 : decode cX2_noonWeight 0 = .ok (.aload_n 0, 1) := by decide +kernel
theorem dX2_noonWeight_1 : decode cX2_noonWeight 1 = .ok (.iload_n 1, 1) := by decide +kernel
theorem dX2_noonWeight_2 : decode cX2_noonWeight 2 = .ok (.iconst 0, 1) := by decide +kernel
theorem dX2_noonWeight_3 : decode cX2_noonWeight 3 = .ok (.invokevirtual 60, 3) := by decide +kernel
theorem dX2_noonWeight_6 : decode cX2_noonWeight 6 = .ok (.aload_n 0, 1) := by decide +kernel
theorem dX2_noonWeight_7 : decode cX2_noonWeight 7 = .ok (.iload_n 1, 1) := by decide +kernel
theorem dX2_noonWeight_8 : decode cX2_noonWeight 8 = .ok (.invokevirtual 69, 3) := by decide +kernel
theorem dX2_noonWeight_11 : decode cX2_noonWeight 11 = .ok (.iadd, 1) := by decide +kernel
theorem dX2_noonWeight_12 : decode cX2_noonWeight 12 = .ok (.ireturn, 1) := by decide +kernel
set_option maxRecDepth 20000 in
theorem ggX2_isIll_X2_get : GoodIn wsX2_isIll wsX2_get := goodIn_r _ [6, 7, 8, 9, 10, 11] (by decide +kernel) (by decide +kernel)
set_option maxRecDepth 20000 in
theorem gX2_isIll_X2_get : GoodIn wsX2_isIll (wsV RX2 60 RX2 yX2_get wsX2_get) := goodIn_app (goodIn_of _ (by decide +kernel)) ggX2_isIll_X2_get
theorem dX2_isIll_0 : decode cX2_isIll 0 = .ok (.aload_n 0, 1) := by decide +kernel
theorem dX2_isIll_1 : decode cX2_isIll 1 = .ok (.iload_n 1, 1) := by decide +kernel
theorem dX2_isIll_2 : decode cX2_isIll 2 = .ok (.iconst 0, 1) := by decide +kernel
theorem dX2_isIll_3 : decode cX2_isIll 3 = .ok (.invokevirtual 60, 3) := by decide +kernel
theorem dX2_isIll_6 : decode cX2_isIll 6 = .ok (.bipush 40, 2) := by decide +kernel
theorem dX2_isIll_8 : decode cX2_isIll 8 = .ok (.aload_n 0, 1) := by decide +kernel
theorem dX2_isIll_9 : decode cX2_isIll 9 = .ok (.getfield 22, 3) := by decide +kernel
theorem dX2_isIll_12 : decode cX2_isIll 12 = .ok (.imul, 1) := by decide +kernel
theorem dX2_isIll_13 : decode cX2_isIll 13 = .ok (.if_icmp .ge 7, 3) := by decide +kernel
theorem dX2_isIll_16 : decode cX2_isIll 16 = .ok (.iconst 1, 1) := by decide +kernel
theorem dX2_isIll_17 : decode cX2_isIll 17 = .ok (.goto 4, 3) := by decide +kernel
theorem dX2_isIll_20 : decode cX2_isIll 20 = .ok (.iconst 0, 1) := by decide +kernel
theorem dX2_isIll_21 : decode cX2_isIll 21 = .ok (.ireturn, 1) := by decide +kernel
set_option maxRecDepth 20000 in
theorem ggX2_illBits_X2_isIll : GoodIn wsX2_illBits wsX2_isIll := goodIn_r _ [6, 7, 8, 9, 10, 5, 11, 12, 13, 14, 15, 16] (by decide +kernel) (by decide +kernel)
set_option maxRecDepth 20000 in
theorem gX2_illBits_X2_isIll : GoodIn wsX2_illBits (wsV RX2 72 RX2 yX2_isIll wsX2_isIll) := goodIn_app (goodIn_of _ (by decide +kernel)) ggX2_illBits_X2_isIll
theorem dX2_illBits_0 : decode cX2_illBits 0 = .ok (.iconst 0, 1) := by decide +kernel
theorem dX2_illBits_1 : decode cX2_illBits 1 = .ok (.istore_n 1, 1) := by decide +kernel
theorem dX2_illBits_2 : decode cX2_illBits 2 = .ok (.iconst 0, 1) := by decide +kernel
theorem dX2_illBits_3 : decode cX2_illBits 3 = .ok (.istore_n 2, 1) := by decide +kernel
theorem dX2_illBits_4 : decode cX2_illBits 4 = .ok (.iload_n 2, 1) := by decide +kernel
theorem dX2_illBits_5 : decode cX2_illBits 5 = .ok (.aload_n 0, 1) := by decide +kernel
theorem dX2_illBits_6 : decode cX2_illBits 6 = .ok (.getfield 15, 3) := by decide +kernel
theorem dX2_illBits_9 : decode cX2_illBits 9 = .ok (.if_icmp .ge 23, 3) := by decide +kernel
theorem dX2_illBits_12 : decode cX2_illBits 12 = .ok (.aload_n 0, 1) := by decide +kernel
theorem dX2_illBits_13 : decode cX2_illBits 13 = .ok (.iload_n 2, 1) := by decide +kernel
theorem dX2_illBits_14 : decode cX2_illBits 14 = .ok (.invokevirtual 72, 3) := by decide +kernel
theorem dX2_illBits_17 : decode cX2_illBits 17 = .ok (.ifCond .eq 9, 3) := by decide +kernel
theorem dX2_illBits_20 : decode cX2_illBits 20 = .ok (.iload_n 1, 1) := by decide +kernel
theorem dX2_illBits_21 : decode cX2_illBits 21 = .ok (.iconst 1, 1) := by decide +kernel
theorem dX2_illBits_22 : decode cX2_illBits 22 = .ok (.iload_n 2, 1) := by decide +kernel
theorem dX2_illBits_23 : decode cX2_illBits 23 = .ok (.ishl, 1) := by decide +kernel
theorem dX2_illBits_24 : decode cX2_illBits 24 = .ok (.ior, 1) := by decide +kernel
theorem dX2_illBits_25 : decode cX2_illBits 25 = .ok (.istore_n 1, 1) := by decide +kernel
theorem dX2_illBits_26 : decode cX2_illBits 26 = .ok (.iinc 2 1, 3) := by decide +kernel
theorem dX2_illBits_29 : decode cX2_illBits 29 = .ok (.goto (-25), 3) := by decide +kernel
theorem dX2_illBits_32 : decode cX2_illBits 32 = .ok (.iload_n 1, 1) := by decide +kernel
theorem dX2_illBits_33 : decode cX2_illBits 33 = .ok (.ireturn, 1) := by decide +kernel
set_option maxRecDepth 20000 in
theorem ggX2_crownings_X2_get : GoodIn wsX2_crownings wsX2_get := goodIn_r _ [6, 7, 8, 9, 10, 11] (by decide +kernel) (by decide +kernel)
set_option maxRecDepth 20000 in
theorem gX2_crownings_X2_get : GoodIn wsX2_crownings (wsV RX2 60 RX2 yX2_get wsX2_get) := goodIn_app (goodIn_of _ (by decide +kernel)) ggX2_crownings_X2_get
theorem dX2_crownings_0 : decode cX2_crownings 0 = .ok (.iconst 0, 1) := by decide +kernel
theorem dX2_crownings_1 : decode cX2_crownings 1 = .ok (.istore_n 1, 1) := by decide +kernel
theorem dX2_crownings_2 : decode cX2_crownings 2 = .ok (.iconst 0, 1) := by decide +kernel
theorem dX2_crownings_3 : decode cX2_crownings 3 = .ok (.istore_n 2, 1) := by decide +kernel
theorem dX2_crownings_4 : decode cX2_crownings 4 = .ok (.iload_n 2, 1) := by decide +kernel
theorem dX2_crownings_5 : decode cX2_crownings 5 = .ok (.aload_n 0, 1) := by decide +kernel
theorem dX2_crownings_6 : decode cX2_crownings 6 = .ok (.getfield 15, 3) := by decide +kernel
theorem dX2_crownings_9 : decode cX2_crownings 9 = .ok (.if_icmp .ge 18, 3) := by decide +kernel
theorem dX2_crownings_12 : decode cX2_crownings 12 = .ok (.iload_n 1, 1) := by decide +kernel
theorem dX2_crownings_13 : decode cX2_crownings 13 = .ok (.aload_n 0, 1) := by decide +kernel
theorem dX2_crownings_14 : decode cX2_crownings 14 = .ok (.iload_n 2, 1) := by decide +kernel
theorem dX2_crownings_15 : decode cX2_crownings 15 = .ok (.iconst 4, 1) := by decide +kernel
theorem dX2_crownings_16 : decode cX2_crownings 16 = .ok (.invokevirtual 60, 3) := by decide +kernel
theorem dX2_crownings_19 : decode cX2_crownings 19 = .ok (.iadd, 1) := by decide +kernel
theorem dX2_crownings_20 : decode cX2_crownings 20 = .ok (.istore_n 1, 1) := by decide +kernel
theorem dX2_crownings_21 : decode cX2_crownings 21 = .ok (.iinc 2 1, 3) := by decide +kernel
theorem dX2_crownings_24 : decode cX2_crownings 24 = .ok (.goto (-20), 3) := by decide +kernel
theorem dX2_crownings_27 : decode cX2_crownings 27 = .ok (.iload_n 1, 1) := by decide +kernel
theorem dX2_crownings_28 : decode cX2_crownings 28 = .ok (.ireturn, 1) := by decide +kernel
set_option maxRecDepth 20000 in
theorem ggX2_crownedBy_X2_illBits : GoodIn wsX2_crownedBy wsX2_illBits := goodIn_r _ [5, 6, 7, 8, 9, 4, 10, 11, 12, 13, 14, 15, 16, 29, 30, 31, 32] (by decide +kernel) (by decide +kernel)
set_option maxRecDepth 20000 in
theorem gX2_crownedBy_X2_illBits : GoodIn wsX2_crownedBy (wsV RX2 76 RX2 yX2_illBits wsX2_illBits) := goodIn_app (goodIn_of _ (by decide +kernel)) ggX2_crownedBy_X2_illBits
set_option maxRecDepth 20000 in
theorem ggX2_crownedBy_X2_lightestBut : GoodIn wsX2_crownedBy wsX2_lightestBut := goodIn_r _ [20, 6, 21, 22, 23, 4, 24, 12, 13, 14, 15, 16, 25, 26, 27, 28, 29, 30, 31, 32] (by decide +kernel) (by decide +kernel)
set_option maxRecDepth 20000 in
theorem gX2_crownedBy_X2_lightestBut : GoodIn wsX2_crownedBy (wsV RX2 79 RX2 yX2_lightestBut wsX2_lightestBut) := goodIn_app (goodIn_of _ (by decide +kernel)) ggX2_crownedBy_X2_lightestBut
theorem dX2_crownedBy_0 : decode cX2_crownedBy 0 = .ok (.iload_n 1, 1) := by decide +kernel
theorem dX2_crownedBy_1 : decode cX2_crownedBy 1 = .ok (.iconst 2, 1) := by decide +kernel
theorem dX2_crownedBy_2 : decode cX2_crownedBy 2 = .ok (.if_icmp .ne 12, 3) := by decide +kernel
theorem dX2_crownedBy_5 : decode cX2_crownedBy 5 = .ok (.aload_n 0, 1) := by decide +kernel
theorem dX2_crownedBy_6 : decode cX2_crownedBy 6 = .ok (.aload_n 0, 1) := by decide +kernel
theorem dX2_crownedBy_7 : decode cX2_crownedBy 7 = .ok (.invokevirtual 76, 3) := by decide +kernel
theorem dX2_crownedBy_10 : decode cX2_crownedBy 10 = .ok (.invokevirtual 79, 3) := by decide +kernel
theorem dX2_crownedBy_13 : decode cX2_crownedBy 13 = .ok (.ireturn, 1) := by decide +kernel
theorem dX2_crownedBy_14 : decode cX2_crownedBy 14 = .ok (.aload_n 0, 1) := by decide +kernel
theorem dX2_crownedBy_15 : decode cX2_crownedBy 15 = .ok (.iconst 0, 1) := by decide +kernel
theorem dX2_crownedBy_16 : decode cX2_crownedBy 16 = .ok (.invokevirtual 79, 3) := by decide +kernel
theorem dX2_crownedBy_19 : decode cX2_crownedBy 19 = .ok (.istore_n 2, 1) := by decide +kernel
theorem dX2_crownedBy_20 : decode cX2_crownedBy 20 = .ok (.iload_n 1, 1) := by decide +kernel
theorem dX2_crownedBy_21 : decode cX2_crownedBy 21 = .ok (.iconst 1, 1) := by decide +kernel
theorem dX2_crownedBy_22 : decode cX2_crownedBy 22 = .ok (.if_icmp .ne 19, 3) := by decide +kernel
theorem dX2_crownedBy_25 : decode cX2_crownedBy 25 = .ok (.iload_n 2, 1) := by decide +kernel
theorem dX2_crownedBy_26 : decode cX2_crownedBy 26 = .ok (.bipush (-9), 2) := by decide +kernel
theorem dX2_crownedBy_28 : decode cX2_crownedBy 28 = .ok (.if_icmp .eq 13, 3) := by decide +kernel
theorem dX2_crownedBy_31 : decode cX2_crownedBy 31 = .ok (.aload_n 0, 1) := by decide +kernel
theorem dX2_crownedBy_32 : decode cX2_crownedBy 32 = .ok (.iconst 1, 1) := by decide +kernel
theorem dX2_crownedBy_33 : decode cX2_crownedBy 33 = .ok (.iload_n 2, 1) := by decide +kernel
theorem dX2_crownedBy_34 : decode cX2_crownedBy 34 = .ok (.ishl, 1) := by decide +kernel
theorem dX2_crownedBy_35 : decode cX2_crownedBy 35 = .ok (.invokevirtual 79, 3) := by decide +kernel
theorem dX2_crownedBy_38 : decode cX2_crownedBy 38 = .ok (.goto 4, 3) := by decide +kernel
theorem dX2_crownedBy_41 : decode cX2_crownedBy 41 = .ok (.iload_n 2, 1) := by decide +kernel
theorem dX2_crownedBy_42 : decode cX2_crownedBy 42 = .ok (.ireturn, 1) := by decide +kernel
set_option maxRecDepth 20000 in
theorem ggX2_lightestBut_X2_noonWeight : GoodIn wsX2_lightestBut wsX2_noonWeight := goodIn_r _ [6, 7, 8, 9, 5, 10, 11, 12, 13, 14, 15, 16, 17, 18, 19] (by decide +kernel) (by decide +kernel)
set_option maxRecDepth 20000 in
theorem gX2_lightestBut_X2_noonWeight : GoodIn wsX2_lightestBut (wsV RX2 82 RX2 yX2_noonWeight wsX2_noonWeight) := goodIn_app (goodIn_of _ (by decide +kernel)) ggX2_lightestBut_X2_noonWeight
theorem dX2_lightestBut_0 : decode cX2_lightestBut 0 = .ok (.bipush (-9), 2) := by decide +kernel
theorem dX2_lightestBut_2 : decode cX2_lightestBut 2 = .ok (.istore_n 2, 1) := by decide +kernel
theorem dX2_lightestBut_3 : decode cX2_lightestBut 3 = .ok (.iconst 0, 1) := by decide +kernel
theorem dX2_lightestBut_4 : decode cX2_lightestBut 4 = .ok (.istore_n 3, 1) := by decide +kernel
theorem dX2_lightestBut_5 : decode cX2_lightestBut 5 = .ok (.iload_n 3, 1) := by decide +kernel
theorem dX2_lightestBut_6 : decode cX2_lightestBut 6 = .ok (.aload_n 0, 1) := by decide +kernel
theorem dX2_lightestBut_7 : decode cX2_lightestBut 7 = .ok (.getfield 15, 3) := by decide +kernel
theorem dX2_lightestBut_10 : decode cX2_lightestBut 10 = .ok (.if_icmp .ge 50, 3) := by decide +kernel
theorem dX2_lightestBut_13 : decode cX2_lightestBut 13 = .ok (.iload_n 1, 1) := by decide +kernel
theorem dX2_lightestBut_14 : decode cX2_lightestBut 14 = .ok (.iload_n 3, 1) := by decide +kernel
theorem dX2_lightestBut_15 : decode cX2_lightestBut 15 = .ok (.ishr, 1) := by decide +kernel
theorem dX2_lightestBut_16 : decode cX2_lightestBut 16 = .ok (.iconst 1, 1) := by decide +kernel
theorem dX2_lightestBut_17 : decode cX2_lightestBut 17 = .ok (.iand, 1) := by decide +kernel
theorem dX2_lightestBut_18 : decode cX2_lightestBut 18 = .ok (.ifCond .ne 7, 3) := by decide +kernel
theorem dX2_lightestBut_21 : decode cX2_lightestBut 21 = .ok (.iconst 1, 1) := by decide +kernel
theorem dX2_lightestBut_22 : decode cX2_lightestBut 22 = .ok (.goto 4, 3) := by decide +kernel
theorem dX2_lightestBut_25 : decode cX2_lightestBut 25 = .ok (.iconst 0, 1) := by decide +kernel
theorem dX2_lightestBut_26 : decode cX2_lightestBut 26 = .ok (.istore 4, 2) := by decide +kernel
theorem dX2_lightestBut_28 : decode cX2_lightestBut 28 = .ok (.iload 4, 2) := by decide +kernel
theorem dX2_lightestBut_30 : decode cX2_lightestBut 30 = .ok (.ifCond .eq 24, 3) := by decide +kernel
theorem dX2_lightestBut_33 : decode cX2_lightestBut 33 = .ok (.iload_n 2, 1) := by decide +kernel
theorem dX2_lightestBut_34 : decode cX2_lightestBut 34 = .ok (.bipush (-9), 2) := by decide +kernel
theorem dX2_lightestBut_36 : decode cX2_lightestBut 36 = .ok (.if_icmp .eq 16, 3) := by decide +kernel
theorem dX2_lightestBut_39 : decode cX2_lightestBut 39 = .ok (.aload_n 0, 1) := by decide +kernel
theorem dX2_lightestBut_40 : decode cX2_lightestBut 40 = .ok (.iload_n 3, 1) := by decide +kernel
theorem dX2_lightestBut_41 : decode cX2_lightestBut 41 = .ok (.invokevirtual 82, 3) := by decide +kernel
theorem dX2_lightestBut_44 : decode cX2_lightestBut 44 = .ok (.aload_n 0, 1) := by decide +kernel
theorem dX2_lightestBut_45 : decode cX2_lightestBut 45 = .ok (.iload_n 2, 1) := by decide +kernel
theorem dX2_lightestBut_46 : decode cX2_lightestBut 46 = .ok (.invokevirtual 82, 3) := by decide +kernel
theorem dX2_lightestBut_49 : decode cX2_lightestBut 49 = .ok (.if_icmp .ge 5, 3) := by decide +kernel
theorem dX2_lightestBut_52 : decode cX2_lightestBut 52 = .ok (.iload_n 3, 1) := by decide +kernel
theorem dX2_lightestBut_53 : decode cX2_lightestBut 53 = .ok (.istore_n 2, 1) := by decide +kernel
theorem dX2_lightestBut_54 : decode cX2_lightestBut 54 = .ok (.iinc 3 1, 3) := by decide +kernel
theorem dX2_lightestBut_57 : decode cX2_lightestBut 57 = .ok (.goto (-52), 3) := by decide +kernel
theorem dX2_lightestBut_60 : decode cX2_lightestBut 60 = .ok (.iload_n 2, 1) := by decide +kernel
theorem dX2_lightestBut_61 : decode cX2_lightestBut 61 = .ok (.ireturn, 1) := by decide +kernel
set_option maxRecDepth 20000 in
theorem ggX2_winsWith_X2_noonWeightBehind : GoodIn wsX2_winsWith wsX2_noonWeightBehind := goodIn_r _ [6, 7, 8, 9, 10, 11, 12, 13, 14, 5, 15, 16, 17, 18, 19, 20, 21, 22, 23, 24] (by decide +kernel) (by decide +kernel)
set_option maxRecDepth 20000 in
theorem gX2_winsWith_X2_noonWeightBehind : GoodIn wsX2_winsWith (wsV RX2 85 RX2 yX2_noonWeightBehind wsX2_noonWeightBehind) := goodIn_app (goodIn_of _ (by decide +kernel)) ggX2_winsWith_X2_noonWeightBehind
theorem dX2_winsWith_0 : decode cX2_winsWith 0 = .ok (.aload_n 0, 1) := by decide +kernel
theorem dX2_winsWith_1 : decode cX2_winsWith 1 = .ok (.iload_n 1, 1) := by decide +kernel
theorem dX2_winsWith_2 : decode cX2_winsWith 2 = .ok (.iload_n 2, 1) := by decide +kernel
theorem dX2_winsWith_3 : decode cX2_winsWith 3 = .ok (.iload_n 3, 1) := by decide +kernel
theorem dX2_winsWith_4 : decode cX2_winsWith 4 = .ok (.invokevirtual 85, 3) := by decide +kernel
theorem dX2_winsWith_7 : decode cX2_winsWith 7 = .ok (.istore 5, 2) := by decide +kernel
theorem dX2_winsWith_9 : decode cX2_winsWith 9 = .ok (.iconst 0, 1) := by decide +kernel
theorem dX2_winsWith_10 : decode cX2_winsWith 10 = .ok (.istore 6, 2) := by decide +kernel
theorem dX2_winsWith_12 : decode cX2_winsWith 12 = .ok (.iload 6, 2) := by decide +kernel
theorem dX2_winsWith_14 : decode cX2_winsWith 14 = .ok (.aload_n 0, 1) := by decide +kernel
theorem dX2_winsWith_15 : decode cX2_winsWith 15 = .ok (.getfield 15, 3) := by decide +kernel
theorem dX2_winsWith_18 : decode cX2_winsWith 18 = .ok (.if_icmp .ge 50, 3) := by decide +kernel
theorem dX2_winsWith_21 : decode cX2_winsWith 21 = .ok (.aload_n 0, 1) := by decide +kernel
theorem dX2_winsWith_22 : decode cX2_winsWith 22 = .ok (.iload 6, 2) := by decide +kernel
theorem dX2_winsWith_24 : decode cX2_winsWith 24 = .ok (.iload 4, 2) := by decide +kernel
theorem dX2_winsWith_26 : decode cX2_winsWith 26 = .ok (.iload_n 3, 1) := by decide +kernel
theorem dX2_winsWith_27 : decode cX2_winsWith 27 = .ok (.imul, 1) := by decide +kernel
theorem dX2_winsWith_28 : decode cX2_winsWith 28 = .ok (.iload_n 3, 1) := by decide +kernel
theorem dX2_winsWith_29 : decode cX2_winsWith 29 = .ok (.invokevirtual 85, 3) := by decide +kernel
theorem dX2_winsWith_32 : decode cX2_winsWith 32 = .ok (.istore 7, 2) := by decide +kernel
theorem dX2_winsWith_34 : decode cX2_winsWith 34 = .ok (.iload 6, 2) := by decide +kernel
theorem dX2_winsWith_36 : decode cX2_winsWith 36 = .ok (.iload_n 1, 1) := by decide +kernel
theorem dX2_winsWith_37 : decode cX2_winsWith 37 = .ok (.if_icmp .eq 25, 3) := by decide +kernel
theorem dX2_winsWith_40 : decode cX2_winsWith 40 = .ok (.iload 7, 2) := by decide +kernel
theorem dX2_winsWith_42 : decode cX2_winsWith 42 = .ok (.iload 5, 2) := by decide +kernel
theorem dX2_winsWith_44 : decode cX2_winsWith 44 = .ok (.if_icmp .lt 16, 3) := by decide +kernel
theorem dX2_winsWith_47 : decode cX2_winsWith 47 = .ok (.iload 7, 2) := by decide +kernel
theorem dX2_winsWith_49 : decode cX2_winsWith 49 = .ok (.iload 5, 2) := by decide +kernel
theorem dX2_winsWith_51 : decode cX2_winsWith 51 = .ok (.if_icmp .ne 11, 3) := by decide +kernel
theorem dX2_winsWith_54 : decode cX2_winsWith 54 = .ok (.iload 6, 2) := by decide +kernel
theorem dX2_winsWith_56 : decode cX2_winsWith 56 = .ok (.iload_n 1, 1) := by decide +kernel
theorem dX2_winsWith_57 : decode cX2_winsWith 57 = .ok (.if_icmp .ge 5, 3) := by decide +kernel
theorem dX2_winsWith_60 : decode cX2_winsWith 60 = .ok (.iconst 0, 1) := by decide +kernel
theorem dX2_winsWith_61 : decode cX2_winsWith 61 = .ok (.ireturn, 1) := by decide +kernel
theorem dX2_winsWith_62 : decode cX2_winsWith 62 = .ok (.iinc 6 1, 3) := by decide +kernel
theorem dX2_winsWith_65 : decode cX2_winsWith 65 = .ok (.goto (-53), 3) := by decide +kernel
theorem dX2_winsWith_68 : decode cX2_winsWith 68 = .ok (.iconst 1, 1) := by decide +kernel
theorem dX2_winsWith_69 : decode cX2_winsWith 69 = .ok (.ireturn, 1) := by decide +kernel
set_option maxRecDepth 20000 in
theorem ggX2_noonWeightBehind_X2_get : GoodIn wsX2_noonWeightBehind wsX2_get := goodIn_r _ [10, 11, 16, 17, 18, 19] (by decide +kernel) (by decide +kernel)
set_option maxRecDepth 20000 in
theorem gX2_noonWeightBehind_X2_get : GoodIn wsX2_noonWeightBehind (wsV RX2 60 RX2 yX2_get wsX2_get) := goodIn_app (goodIn_of _ (by decide +kernel)) ggX2_noonWeightBehind_X2_get
set_option maxRecDepth 20000 in
theorem ggX2_noonWeightBehind_X2_pocketWeight : GoodIn wsX2_noonWeightBehind wsX2_pocketWeight := goodIn_r _ [15, 6, 7, 8, 9, 10, 11, 16, 17, 18, 19] (by decide +kernel) (by decide +kernel)
set_option maxRecDepth 20000 in
theorem gX2_noonWeightBehind_X2_pocketWeight : GoodIn wsX2_noonWeightBehind (wsV RX2 69 RX2 yX2_pocketWeight wsX2_pocketWeight) := goodIn_app (goodIn_of _ (by decide +kernel)) ggX2_noonWeightBehind_X2_pocketWeight
theorem dX2_noonWeightBehind_0 : decode cX2_noonWeightBehind 0 = .ok (.aload_n 0, 1) := by decide +kernel
theorem dX2_noonWeightBehind_1 : decode cX2_noonWeightBehind 1 = .ok (.iload_n 1, 1) := by decide +kernel
theorem dX2_noonWeightBehind_2 : decode cX2_noonWeightBehind 2 = .ok (.iconst 0, 1) := by decide +kernel
theorem dX2_noonWeightBehind_3 : decode cX2_noonWeightBehind 3 = .ok (.invokevirtual 60, 3) := by decide +kernel
theorem dX2_noonWeightBehind_6 : decode cX2_noonWeightBehind 6 = .ok (.aload_n 0, 1) := by decide +kernel
theorem dX2_noonWeightBehind_7 : decode cX2_noonWeightBehind 7 = .ok (.iload_n 1, 1) := by decide +kernel
theorem dX2_noonWeightBehind_8 : decode cX2_noonWeightBehind 8 = .ok (.iconst 3, 1) := by decide +kernel
theorem dX2_noonWeightBehind_9 : decode cX2_noonWeightBehind 9 = .ok (.invokevirtual 60, 3) := by decide +kernel
theorem dX2_noonWeightBehind_12 : decode cX2_noonWeightBehind 12 = .ok (.isub, 1) := by decide +kernel
theorem dX2_noonWeightBehind_13 : decode cX2_noonWeightBehind 13 = .ok (.iconst 5, 1) := by decide +kernel
theorem dX2_noonWeightBehind_14 : decode cX2_noonWeightBehind 14 = .ok (.iload_n 2, 1) := by decide +kernel
theorem dX2_noonWeightBehind_15 : decode cX2_noonWeightBehind 15 = .ok (.imul, 1) := by decide +kernel
theorem dX2_noonWeightBehind_16 : decode cX2_noonWeightBehind 16 = .ok (.isub, 1) := by decide +kernel
theorem dX2_noonWeightBehind_17 : decode cX2_noonWeightBehind 17 = .ok (.iconst 2, 1) := by decide +kernel
theorem dX2_noonWeightBehind_18 : decode cX2_noonWeightBehind 18 = .ok (.aload_n 0, 1) := by decide +kernel
theorem dX2_noonWeightBehind_19 : decode cX2_noonWeightBehind 19 = .ok (.getfield 19, 3) := by decide +kernel
theorem dX2_noonWeightBehind_22 : decode cX2_noonWeightBehind 22 = .ok (.imul, 1) := by decide +kernel
theorem dX2_noonWeightBehind_23 : decode cX2_noonWeightBehind 23 = .ok (.iload_n 3, 1) := by decide +kernel
theorem dX2_noonWeightBehind_24 : decode cX2_noonWeightBehind 24 = .ok (.imul, 1) := by decide +kernel
theorem dX2_noonWeightBehind_25 : decode cX2_noonWeightBehind 25 = .ok (.isub, 1) := by decide +kernel
theorem dX2_noonWeightBehind_26 : decode cX2_noonWeightBehind 26 = .ok (.istore 4, 2) := by decide +kernel
theorem dX2_noonWeightBehind_28 : decode cX2_noonWeightBehind 28 = .ok (.iconst 1, 1) := by decide +kernel
theorem dX2_noonWeightBehind_29 : decode cX2_noonWeightBehind 29 = .ok (.iload 4, 2) := by decide +kernel
theorem dX2_noonWeightBehind_31 : decode cX2_noonWeightBehind 31 = .ok (.invokestatic 63, 3) := by decide +kernel
theorem dX2_noonWeightBehind_34 : decode cX2_noonWeightBehind 34 = .ok (.aload_n 0, 1) := by decide +kernel
theorem dX2_noonWeightBehind_35 : decode cX2_noonWeightBehind 35 = .ok (.iload_n 1, 1) := by decide +kernel
theorem dX2_noonWeightBehind_36 : decode cX2_noonWeightBehind 36 = .ok (.invokevirtual 69, 3) := by decide +kernel
theorem dX2_noonWeightBehind_39 : decode cX2_noonWeightBehind 39 = .ok (.iadd, 1) := by decide +kernel
theorem dX2_noonWeightBehind_40 : decode cX2_noonWeightBehind 40 = .ok (.ireturn, 1) := by decide +kernel
set_option maxRecDepth 20000 in
theorem ggX2_loavesToWin_X2_noonWeight : GoodIn wsX2_loavesToWin wsX2_noonWeight := goodIn_r _ [6, 7, 8, 9, 5, 10, 11, 12, 13, 14, 15, 16, 17, 18, 19] (by decide +kernel) (by decide +kernel)
set_option maxRecDepth 20000 in
theorem gX2_loavesToWin_X2_noonWeight : GoodIn wsX2_loavesToWin (wsV RX2 82 RX2 yX2_noonWeight wsX2_noonWeight) := goodIn_app (goodIn_of _ (by decide +kernel)) ggX2_loavesToWin_X2_noonWeight
theorem dX2_loavesToWin_0 : decode cX2_loavesToWin 0 = .ok (.iconst 0, 1) := by decide +kernel
theorem dX2_loavesToWin_1 : decode cX2_loavesToWin 1 = .ok (.istore_n 2, 1) := by decide +kernel
theorem dX2_loavesToWin_2 : decode cX2_loavesToWin 2 = .ok (.iconst 0, 1) := by decide +kernel
theorem dX2_loavesToWin_3 : decode cX2_loavesToWin 3 = .ok (.istore_n 3, 1) := by decide +kernel
theorem dX2_loavesToWin_4 : decode cX2_loavesToWin 4 = .ok (.iload_n 3, 1) := by decide +kernel
theorem dX2_loavesToWin_5 : decode cX2_loavesToWin 5 = .ok (.aload_n 0, 1) := by decide +kernel
theorem dX2_loavesToWin_6 : decode cX2_loavesToWin 6 = .ok (.getfield 15, 3) := by decide +kernel
theorem dX2_loavesToWin_9 : decode cX2_loavesToWin 9 = .ok (.if_icmp .ge 56, 3) := by decide +kernel
theorem dX2_loavesToWin_12 : decode cX2_loavesToWin 12 = .ok (.aload_n 0, 1) := by decide +kernel
theorem dX2_loavesToWin_13 : decode cX2_loavesToWin 13 = .ok (.iload_n 1, 1) := by decide +kernel
theorem dX2_loavesToWin_14 : decode cX2_loavesToWin 14 = .ok (.invokevirtual 82, 3) := by decide +kernel
theorem dX2_loavesToWin_17 : decode cX2_loavesToWin 17 = .ok (.aload_n 0, 1) := by decide +kernel
theorem dX2_loavesToWin_18 : decode cX2_loavesToWin 18 = .ok (.iload_n 3, 1) := by decide +kernel
theorem dX2_loavesToWin_19 : decode cX2_loavesToWin 19 = .ok (.invokevirtual 82, 3) := by decide +kernel
theorem dX2_loavesToWin_22 : decode cX2_loavesToWin 22 = .ok (.isub, 1) := by decide +kernel
theorem dX2_loavesToWin_23 : decode cX2_loavesToWin 23 = .ok (.iload_n 3, 1) := by decide +kernel
theorem dX2_loavesToWin_24 : decode cX2_loavesToWin 24 = .ok (.iload_n 1, 1) := by decide +kernel
theorem dX2_loavesToWin_25 : decode cX2_loavesToWin 25 = .ok (.if_icmp .ge 7, 3) := by decide +kernel
theorem dX2_loavesToWin_28 : decode cX2_loavesToWin 28 = .ok (.iconst 1, 1) := by decide +kernel
theorem dX2_loavesToWin_29 : decode cX2_loavesToWin 29 = .ok (.goto 4, 3) := by decide +kernel
theorem dX2_loavesToWin_32 : decode cX2_loavesToWin 32 = .ok (.iconst 0, 1) := by decide +kernel
theorem dX2_loavesToWin_33 : decode cX2_loavesToWin 33 = .ok (.iadd, 1) := by decide +kernel
theorem dX2_loavesToWin_34 : decode cX2_loavesToWin 34 = .ok (.istore 4, 2) := by decide +kernel
theorem dX2_loavesToWin_36 : decode cX2_loavesToWin 36 = .ok (.iload 4, 2) := by decide +kernel
theorem dX2_loavesToWin_38 : decode cX2_loavesToWin 38 = .ok (.ifCond .le 21, 3) := by decide +kernel
theorem dX2_loavesToWin_41 : decode cX2_loavesToWin 41 = .ok (.iload_n 3, 1) := by decide +kernel
theorem dX2_loavesToWin_42 : decode cX2_loavesToWin 42 = .ok (.iload_n 1, 1) := by decide +kernel
theorem dX2_loavesToWin_43 : decode cX2_loavesToWin 43 = .ok (.if_icmp .eq 16, 3) := by decide +kernel
theorem dX2_loavesToWin_46 : decode cX2_loavesToWin 46 = .ok (.iload_n 2, 1) := by decide +kernel
theorem dX2_loavesToWin_47 : decode cX2_loavesToWin 47 = .ok (.iload 4, 2) := by decide +kernel
theorem dX2_loavesToWin_49 : decode cX2_loavesToWin 49 = .ok (.bipush 8, 2) := by decide +kernel
theorem dX2_loavesToWin_51 : decode cX2_loavesToWin 51 = .ok (.iadd, 1) := by decide +kernel
theorem dX2_loavesToWin_52 : decode cX2_loavesToWin 52 = .ok (.iconst 1, 1) := by decide +kernel
theorem dX2_loavesToWin_53 : decode cX2_loavesToWin 53 = .ok (.isub, 1) := by decide +kernel
theorem dX2_loavesToWin_54 : decode cX2_loavesToWin 54 = .ok (.bipush 8, 2) := by decide +kernel
theorem dX2_loavesToWin_56 : decode cX2_loavesToWin 56 = .ok (.idiv, 1) := by decide +kernel
theorem dX2_loavesToWin_57 : decode cX2_loavesToWin 57 = .ok (.iadd, 1) := by decide +kernel
theorem dX2_loavesToWin_58 : decode cX2_loavesToWin 58 = .ok (.istore_n 2, 1) := by decide +kernel
theorem dX2_loavesToWin_59 : decode cX2_loavesToWin 59 = .ok (.iinc 3 1, 3) := by decide +kernel
theorem dX2_loavesToWin_62 : decode cX2_loavesToWin 62 = .ok (.goto (-58), 3) := by decide +kernel
theorem dX2_loavesToWin_65 : decode cX2_loavesToWin 65 = .ok (.iload_n 2, 1) := by decide +kernel
theorem dX2_loavesToWin_66 : decode cX2_loavesToWin 66 = .ok (.ireturn, 1) := by decide +kernel
theorem dX3_init_0 : decode cX3_init 0 = .ok (.aload_n 0, 1) := by decide +kernel
theorem dX3_init_1 : decode cX3_init 1 = .ok (.invokespecial 5, 3) := by decide +kernel
theorem dX3_init_4 : decode cX3_init 4 = .ok (.aload_n 0, 1) := by decide +kernel
theorem dX3_init_5 : decode cX3_init 5 = .ok (.iconst 4, 1) := by decide +kernel
theorem dX3_init_6 : decode cX3_init 6 = .ok (.newarray .int, 2) := by decide +kernel
theorem dX3_init_8 : decode cX3_init 8 = .ok (.putfield 11, 3) := by decide +kernel
theorem dX3_init_11 : decode cX3_init 11 = .ok (.aload_n 0, 1) := by decide +kernel
theorem dX3_init_12 : decode cX3_init 12 = .ok (.iconst 3, 1) := by decide +kernel
theorem dX3_init_13 : decode cX3_init 13 = .ok (.newarray .int, 2) := by decide +kernel
theorem dX3_init_15 : decode cX3_init 15 = .ok (.putfield 15, 3) := by decide +kernel
theorem dX3_init_18 : decode cX3_init 18 = .ok (.aload_n 0, 1) := by decide +kernel
theorem dX3_init_19 : decode cX3_init 19 = .ok (.sipush 2197, 3) := by decide +kernel
theorem dX3_init_22 : decode cX3_init 22 = .ok (.newarray .long, 2) := by decide +kernel
theorem dX3_init_24 : decode cX3_init 24 = .ok (.putfield 18, 3) := by decide +kernel
theorem dX3_init_27 : decode cX3_init 27 = .ok (.aload_n 0, 1) := by decide +kernel
theorem dX3_init_28 : decode cX3_init 28 = .ok (.iconst 0, 1) := by decide +kernel
theorem dX3_init_29 : decode cX3_init 29 = .ok (.putfield 22, 3) := by decide +kernel
theorem dX3_init_32 : decode cX3_init 32 = .ok (.return_, 1) := by decide +kernel
theorem dX3_length_0 : decode cX3_length 0 = .ok (.aload_n 0, 1) := by decide +kernel
theorem dX3_length_1 : decode cX3_length 1 = .ok (.getfield 22, 3) := by decide +kernel
theorem dX3_length_4 : decode cX3_length 4 = .ok (.ireturn, 1) := by decide +kernel
theorem dX3_clear_0 : decode cX3_clear 0 = .ok (.aload_n 0, 1) := by decide +kernel
theorem dX3_clear_1 : decode cX3_clear 1 = .ok (.iconst 0, 1) := by decide +kernel
theorem dX3_clear_2 : decode cX3_clear 2 = .ok (.putfield 22, 3) := by decide +kernel
theorem dX3_clear_5 : decode cX3_clear 5 = .ok (.return_, 1) := by decide +kernel
theorem dX3_append_0 : decode cX3_append 0 = .ok (.aload_n 0, 1) := by decide +kernel
theorem dX3_append_1 : decode cX3_append 1 = .ok (.getfield 22, 3) := by decide +kernel
theorem dX3_append_4 : decode cX3_append 4 = .ok (.iconst 4, 1) := by decide +kernel
theorem dX3_append_5 : decode cX3_append 5 = .ok (.if_icmp .ne 5, 3) := by decide +kernel
theorem dX3_append_8 : decode cX3_append 8 = .ok (.iconst 0, 1) := by decide +kernel
theorem dX3_append_9 : decode cX3_append 9 = .ok (.ireturn, 1) := by decide +kernel
theorem dX3_append_10 : decode cX3_append 10 = .ok (.aload_n 0, 1) := by decide +kernel
theorem dX3_append_11 : decode cX3_append 11 = .ok (.getfield 11, 3) := by decide +kernel
theorem dX3_append_14 : decode cX3_append 14 = .ok (.aload_n 0, 1) := by decide +kernel
theorem dX3_append_15 : decode cX3_append 15 = .ok (.getfield 22, 3) := by decide +kernel
theorem dX3_append_18 : decode cX3_append 18 = .ok (.iload_n 1, 1) := by decide +kernel
theorem dX3_append_19 : decode cX3_append 19 = .ok (.iastore, 1) := by decide +kernel
theorem dX3_append_20 : decode cX3_append 20 = .ok (.aload_n 0, 1) := by decide +kernel
theorem dX3_append_21 : decode cX3_append 21 = .ok (.dup, 1) := by decide +kernel
theorem dX3_append_22 : decode cX3_append 22 = .ok (.getfield 22, 3) := by decide +kernel
theorem dX3_append_25 : decode cX3_append 25 = .ok (.iconst 1, 1) := by decide +kernel
theorem dX3_append_26 : decode cX3_append 26 = .ok (.iadd, 1) := by decide +kernel
theorem dX3_append_27 : decode cX3_append 27 = .ok (.putfield 22, 3) := by decide +kernel
theorem dX3_append_30 : decode cX3_append 30 = .ok (.iconst 1, 1) := by decide +kernel
theorem dX3_append_31 : decode cX3_append 31 = .ok (.ireturn, 1) := by decide +kernel
set_option maxRecDepth 20000 in
theorem ggX3_fittingMeals_X2_size : GoodIn wsX3_fittingMeals wsX2_size := goodIn_r _ [14, 15, 54, 55, 56, 57] (by decide +kernel) (by decide +kernel)
set_option maxRecDepth 20000 in
theorem gX3_fittingMeals_X2_size : GoodIn wsX3_fittingMeals (wsV RX3 26 RX2 yX2_size wsX2_size) := goodIn_app (goodIn_of _ (by decide +kernel)) ggX3_fittingMeals_X2_size
set_option maxRecDepth 20000 in
theorem ggX3_fittingMeals_X2_noonWeight : GoodIn wsX3_fittingMeals wsX2_noonWeight := goodIn_r _ [19, 20, 21, 22, 13, 23, 24, 25, 26, 27, 28, 54, 55, 56, 57] (by decide +kernel) (by decide +kernel)
set_option maxRecDepth 20000 in
theorem gX3_fittingMeals_X2_noonWeight : GoodIn wsX3_fittingMeals (wsV RX3 38 RX2 yX2_noonWeight wsX2_noonWeight) := goodIn_app (goodIn_of _ (by decide +kernel)) ggX3_fittingMeals_X2_noonWeight
set_option maxRecDepth 20000 in
theorem ggX3_fittingMeals_J7_fill_d0a16 : GoodIn wsX3_fittingMeals wsJ7_fill_d0a16 := goodIn_r _ [32] (by decide +kernel) (by decide +kernel)
set_option maxRecDepth 20000 in
theorem gX3_fittingMeals_J7_fill_d0a16 : GoodIn wsX3_fittingMeals (va_wsS RX3 42 yJ7_fill_d0a16 wsJ7_fill_d0a16) := goodIn_app (goodIn_of _ (by decide +kernel)) ggX3_fittingMeals_J7_fill_d0a16
set_option maxRecDepth 20000 in
theorem ggX3_fittingMeals_X3_letEat : GoodIn wsX3_fittingMeals wsX3_letEat := goodIn_r _ [37, 1, 2, 3, 4, 6, 50, 51, 52, 53] (by decide +kernel) (by decide +kernel)
set_option maxRecDepth 20000 in
theorem gX3_fittingMeals_X3_letEat : GoodIn wsX3_fittingMeals (wsV RX3 51 RX3 yX3_letEat wsX3_letEat) := goodIn_app (goodIn_of _ (by decide +kernel)) ggX3_fittingMeals_X3_letEat
set_option maxRecDepth 20000 in
theorem ggX3_fittingMeals_X3_strikeOut : GoodIn wsX3_fittingMeals wsX3_strikeOut := goodIn_r _ [41, 6, 42, 43, 44, 36, 45, 5, 50, 51, 52, 53] (by decide +kernel) (by decide +kernel)
set_option maxRecDepth 20000 in
theorem gX3_fittingMeals_X3_strikeOut : GoodIn wsX3_fittingMeals (wsV RX3 55 RX3 yX3_strikeOut wsX3_strikeOut) := goodIn_app (goodIn_of _ (by decide +kernel)) ggX3_fittingMeals_X3_strikeOut
set_option maxRecDepth 20000 in
theorem ggX3_fittingMeals_X3_sumOfWays : GoodIn wsX3_fittingMeals wsX3_sumOfWays := goodIn_r _ [49, 6, 50, 51, 52, 53] (by decide +kernel) (by decide +kernel)
set_option maxRecDepth 20000 in
theorem gX3_fittingMeals_X3_sumOfWays : GoodIn wsX3_fittingMeals (wsV RX3 59 RX3 yX3_sumOfWays wsX3_sumOfWays) := goodIn_app (goodIn_of _ (by decide +kernel)) ggX3_fittingMeals_X3_sumOfWays
theorem dX3_fittingMeals_0 : decode cX3_fittingMeals 0 = .ok (.aload_n 1, 1) := by decide +kernel
theorem dX3_fittingMeals_1 : decode cX3_fittingMeals 1 = .ok (.invokevirtual 26, 3) := by decide +kernel
theorem dX3_fittingMeals_4 : decode cX3_fittingMeals 4 = .ok (.iconst 3, 1) := by decide +kernel
theorem dX3_fittingMeals_5 : decode cX3_fittingMeals 5 = .ok (.invokestatic 32, 3) := by decide +kernel
theorem dX3_fittingMeals_8 : decode cX3_fittingMeals 8 = .ok (.istore_n 2, 1) := by decide +kernel
theorem dX3_fittingMeals_9 : decode cX3_fittingMeals 9 = .ok (.iconst 0, 1) := by decide +kernel
theorem dX3_fittingMeals_10 : decode cX3_fittingMeals 10 = .ok (.istore_n 3, 1) := by decide +kernel
theorem dX3_fittingMeals_11 : decode cX3_fittingMeals 11 = .ok (.iload_n 3, 1) := by decide +kernel
theorem dX3_fittingMeals_12 : decode cX3_fittingMeals 12 = .ok (.iload_n 2, 1) := by decide +kernel
theorem dX3_fittingMeals_13 : decode cX3_fittingMeals 13 = .ok (.if_icmp .ge 20, 3) := by decide +kernel
theorem dX3_fittingMeals_16 : decode cX3_fittingMeals 16 = .ok (.aload_n 0, 1) := by decide +kernel
theorem dX3_fittingMeals_17 : decode cX3_fittingMeals 17 = .ok (.getfield 15, 3) := by decide +kernel
theorem dX3_fittingMeals_20 : decode cX3_fittingMeals 20 = .ok (.iload_n 3, 1) := by decide +kernel
theorem dX3_fittingMeals_21 : decode cX3_fittingMeals 21 = .ok (.aload_n 1, 1) := by decide +kernel
theorem dX3_fittingMeals_22 : decode cX3_fittingMeals 22 = .ok (.iload_n 3, 1) := by decide +kernel
theorem dX3_fittingMeals_23 : decode cX3_fittingMeals 23 = .ok (.invokevirtual 38, 3) := by decide +kernel
theorem dX3_fittingMeals_26 : decode cX3_fittingMeals 26 = .ok (.iastore, 1) := by decide +kernel
theorem dX3_fittingMeals_27 : decode cX3_fittingMeals 27 = .ok (.iinc 3 1, 3) := by decide +kernel
theorem dX3_fittingMeals_30 : decode cX3_fittingMeals 30 = .ok (.goto (-19), 3) := by decide +kernel
theorem dX3_fittingMeals_33 : decode cX3_fittingMeals 33 = .ok (.aload_n 0, 1) := by decide +kernel
theorem dX3_fittingMeals_34 : decode cX3_fittingMeals 34 = .ok (.getfield 18, 3) := by decide +kernel
theorem dX3_fittingMeals_37 : decode cX3_fittingMeals 37 = .ok (.lconst 0, 1) := by decide +kernel
theorem dX3_fittingMeals_38 : decode cX3_fittingMeals 38 = .ok (.invokestatic 42, 3) := by decide +kernel
theorem dX3_fittingMeals_41 : decode cX3_fittingMeals 41 = .ok (.aload_n 0, 1) := by decide +kernel
theorem dX3_fittingMeals_42 : decode cX3_fittingMeals 42 = .ok (.getfield 18, 3) := by decide +kernel
theorem dX3_fittingMeals_45 : decode cX3_fittingMeals 45 = .ok (.iconst 0, 1) := by decide +kernel
theorem dX3_fittingMeals_46 : decode cX3_fittingMeals 46 = .ok (.lconst 1, 1) := by decide +kernel
theorem dX3_fittingMeals_47 : decode cX3_fittingMeals 47 = .ok (.lastore, 1) := by decide +kernel
theorem dX3_fittingMeals_48 : decode cX3_fittingMeals 48 = .ok (.iconst 1, 1) := by decide +kernel
theorem dX3_fittingMeals_49 : decode cX3_fittingMeals 49 = .ok (.istore_n 3, 1) := by decide +kernel
theorem dX3_fittingMeals_50 : decode cX3_fittingMeals 50 = .ok (.iconst 0, 1) := by decide +kernel
theorem dX3_fittingMeals_51 : decode cX3_fittingMeals 51 = .ok (.istore 4, 2) := by decide +kernel
theorem dX3_fittingMeals_53 : decode cX3_fittingMeals 53 = .ok (.iload 4, 2) := by decide +kernel
theorem dX3_fittingMeals_55 : decode cX3_fittingMeals 55 = .ok (.aload_n 0, 1) := by decide +kernel
theorem dX3_fittingMeals_56 : decode cX3_fittingMeals 56 = .ok (.getfield 22, 3) := by decide +kernel
theorem dX3_fittingMeals_59 : decode cX3_fittingMeals 59 = .ok (.if_icmp .ge 74, 3) := by decide +kernel
theorem dX3_fittingMeals_62 : decode cX3_fittingMeals 62 = .ok (.iconst 0, 1) := by decide +kernel
theorem dX3_fittingMeals_63 : decode cX3_fittingMeals 63 = .ok (.istore 5, 2) := by decide +kernel
theorem dX3_fittingMeals_65 : decode cX3_fittingMeals 65 = .ok (.iload 5, 2) := by decide +kernel
theorem dX3_fittingMeals_67 : decode cX3_fittingMeals 67 = .ok (.iload_n 2, 1) := by decide +kernel
theorem dX3_fittingMeals_68 : decode cX3_fittingMeals 68 = .ok (.if_icmp .ge 20, 3) := by decide +kernel
theorem dX3_fittingMeals_71 : decode cX3_fittingMeals 71 = .ok (.iload_n 3, 1) := by decide +kernel
theorem dX3_fittingMeals_72 : decode cX3_fittingMeals 72 = .ok (.iconst 3, 1) := by decide +kernel
theorem dX3_fittingMeals_73 : decode cX3_fittingMeals 73 = .ok (.getstatic 48, 3) := by decide +kernel
theorem dX3_fittingMeals_76 : decode cX3_fittingMeals 76 = .ok (.iload 5, 2) := by decide +kernel
theorem dX3_fittingMeals_78 : decode cX3_fittingMeals 78 = .ok (.iaload, 1) := by decide +kernel
theorem dX3_fittingMeals_79 : decode cX3_fittingMeals 79 = .ok (.imul, 1) := by decide +kernel
theorem dX3_fittingMeals_80 : decode cX3_fittingMeals 80 = .ok (.iadd, 1) := by decide +kernel
theorem dX3_fittingMeals_81 : decode cX3_fittingMeals 81 = .ok (.istore_n 3, 1) := by decide +kernel
theorem dX3_fittingMeals_82 : decode cX3_fittingMeals 82 = .ok (.iinc 5 1, 3) := by decide +kernel
theorem dX3_fittingMeals_85 : decode cX3_fittingMeals 85 = .ok (.goto (-20), 3) := by decide +kernel
theorem dX3_fittingMeals_88 : decode cX3_fittingMeals 88 = .ok (.iconst 0, 1) := by decide +kernel
theorem dX3_fittingMeals_89 : decode cX3_fittingMeals 89 = .ok (.istore 5, 2) := by decide +kernel
theorem dX3_fittingMeals_91 : decode cX3_fittingMeals 91 = .ok (.iload 5, 2) := by decide +kernel
theorem dX3_fittingMeals_93 : decode cX3_fittingMeals 93 = .ok (.iload_n 2, 1) := by decide +kernel
theorem dX3_fittingMeals_94 : decode cX3_fittingMeals 94 = .ok (.if_icmp .ge 20, 3) := by decide +kernel
theorem dX3_fittingMeals_97 : decode cX3_fittingMeals 97 = .ok (.aload_n 0, 1) := by decide +kernel
theorem dX3_fittingMeals_98 : decode cX3_fittingMeals 98 = .ok (.getstatic 48, 3) := by decide +kernel
theorem dX3_fittingMeals_101 : decode cX3_fittingMeals 101 = .ok (.iload 5, 2) := by decide +kernel
theorem dX3_fittingMeals_103 : decode cX3_fittingMeals 103 = .ok (.iaload, 1) := by decide +kernel
theorem dX3_fittingMeals_104 : decode cX3_fittingMeals 104 = .ok (.iload_n 3, 1) := by decide +kernel
theorem dX3_fittingMeals_105 : decode cX3_fittingMeals 105 = .ok (.invokevirtual 51, 3) := by decide +kernel
theorem dX3_fittingMeals_108 : decode cX3_fittingMeals 108 = .ok (.iinc 5 1, 3) := by decide +kernel
theorem dX3_fittingMeals_111 : decode cX3_fittingMeals 111 = .ok (.goto (-20), 3) := by decide +kernel
theorem dX3_fittingMeals_114 : decode cX3_fittingMeals 114 = .ok (.aload_n 0, 1) := by decide +kernel
theorem dX3_fittingMeals_115 : decode cX3_fittingMeals 115 = .ok (.aload_n 0, 1) := by decide +kernel
theorem dX3_fittingMeals_116 : decode cX3_fittingMeals 116 = .ok (.getfield 11, 3) := by decide +kernel
theorem dX3_fittingMeals_119 : decode cX3_fittingMeals 119 = .ok (.iload 4, 2) := by decide +kernel
theorem dX3_fittingMeals_121 : decode cX3_fittingMeals 121 = .ok (.iaload, 1) := by decide +kernel
theorem dX3_fittingMeals_122 : decode cX3_fittingMeals 122 = .ok (.iload_n 2, 1) := by decide +kernel
theorem dX3_fittingMeals_123 : decode cX3_fittingMeals 123 = .ok (.iload_n 3, 1) := by decide +kernel
theorem dX3_fittingMeals_124 : decode cX3_fittingMeals 124 = .ok (.invokevirtual 55, 3) := by decide +kernel
theorem dX3_fittingMeals_127 : decode cX3_fittingMeals 127 = .ok (.iinc 4 1, 3) := by decide +kernel
theorem dX3_fittingMeals_130 : decode cX3_fittingMeals 130 = .ok (.goto (-77), 3) := by decide +kernel
theorem dX3_fittingMeals_133 : decode cX3_fittingMeals 133 = .ok (.aload_n 0, 1) := by decide +kernel
theorem dX3_fittingMeals_134 : decode cX3_fittingMeals 134 = .ok (.iload_n 3, 1) := by decide +kernel
theorem dX3_fittingMeals_135 : decode cX3_fittingMeals 135 = .ok (.invokevirtual 59, 3) := by decide +kernel
theorem dX3_fittingMeals_138 : decode cX3_fittingMeals 138 = .ok (.lreturn, 1) := by decide +kernel
theorem dX3_letEat_0 : decode cX3_letEat 0 = .ok (.iload_n 1, 1) := by decide +kernel
theorem dX3_letEat_1 : decode cX3_letEat 1 = .ok (.iconst 1, 1) := by decide +kernel
theorem dX3_letEat_2 : decode cX3_letEat 2 = .ok (.if_icmp .ge 4, 3) := by decide +kernel
theorem dX3_letEat_5 : decode cX3_letEat 5 = .ok (.return_, 1) := by decide +kernel
theorem dX3_letEat_6 : decode cX3_letEat 6 = .ok (.iload_n 2, 1) := by decide +kernel
theorem dX3_letEat_7 : decode cX3_letEat 7 = .ok (.sipush 2197, 3) := by decide +kernel
theorem dX3_letEat_10 : decode cX3_letEat 10 = .ok (.invokestatic 32, 3) := by decide +kernel
theorem dX3_letEat_13 : decode cX3_letEat 13 = .ok (.iconst 1, 1) := by decide +kernel
theorem dX3_letEat_14 : decode cX3_letEat 14 = .ok (.isub, 1) := by decide +kernel
theorem dX3_letEat_15 : decode cX3_letEat 15 = .ok (.istore_n 3, 1) := by decide +kernel
theorem dX3_letEat_16 : decode cX3_letEat 16 = .ok (.iload_n 3, 1) := by decide +kernel
theorem dX3_letEat_17 : decode cX3_letEat 17 = .ok (.iload_n 1, 1) := by decide +kernel
theorem dX3_letEat_18 : decode cX3_letEat 18 = .ok (.if_icmp .lt 57, 3) := by decide +kernel
theorem dX3_letEat_21 : decode cX3_letEat 21 = .ok (.iconst 3, 1) := by decide +kernel
theorem dX3_letEat_22 : decode cX3_letEat 22 = .ok (.iload_n 3, 1) := by decide +kernel
theorem dX3_letEat_23 : decode cX3_letEat 23 = .ok (.iload_n 1, 1) := by decide +kernel
theorem dX3_letEat_24 : decode cX3_letEat 24 = .ok (.idiv, 1) := by decide +kernel
theorem dX3_letEat_25 : decode cX3_letEat 25 = .ok (.bipush 13, 2) := by decide +kernel
theorem dX3_letEat_27 : decode cX3_letEat 27 = .ok (.irem, 1) := by decide +kernel
theorem dX3_letEat_28 : decode cX3_letEat 28 = .ok (.invokestatic 32, 3) := by decide +kernel
theorem dX3_letEat_31 : decode cX3_letEat 31 = .ok (.istore 4, 2) := by decide +kernel
theorem dX3_letEat_33 : decode cX3_letEat 33 = .ok (.iconst 1, 1) := by decide +kernel
theorem dX3_letEat_34 : decode cX3_letEat 34 = .ok (.istore 5, 2) := by decide +kernel
theorem dX3_letEat_36 : decode cX3_letEat 36 = .ok (.iload 5, 2) := by decide +kernel
theorem dX3_letEat_38 : decode cX3_letEat 38 = .ok (.iload 4, 2) := by decide +kernel
theorem dX3_letEat_40 : decode cX3_letEat 40 = .ok (.if_icmp .gt 29, 3) := by decide +kernel
theorem dX3_letEat_43 : decode cX3_letEat 43 = .ok (.aload_n 0, 1) := by decide +kernel
theorem dX3_letEat_44 : decode cX3_letEat 44 = .ok (.getfield 18, 3) := by decide +kernel
theorem dX3_letEat_47 : decode cX3_letEat 47 = .ok (.iload_n 3, 1) := by decide +kernel
theorem dX3_letEat_48 : decode cX3_letEat 48 = .ok (.dup2, 1) := by decide +kernel
theorem dX3_letEat_49 : decode cX3_letEat 49 = .ok (.laload, 1) := by decide +kernel
theorem dX3_letEat_50 : decode cX3_letEat 50 = .ok (.aload_n 0, 1) := by decide +kernel
theorem dX3_letEat_51 : decode cX3_letEat 51 = .ok (.getfield 18, 3) := by decide +kernel
theorem dX3_letEat_54 : decode cX3_letEat 54 = .ok (.iload_n 3, 1) := by decide +kernel
theorem dX3_letEat_55 : decode cX3_letEat 55 = .ok (.iload 5, 2) := by decide +kernel
theorem dX3_letEat_57 : decode cX3_letEat 57 = .ok (.iload_n 1, 1) := by decide +kernel
theorem dX3_letEat_58 : decode cX3_letEat 58 = .ok (.imul, 1) := by decide +kernel
theorem dX3_letEat_59 : decode cX3_letEat 59 = .ok (.isub, 1) := by decide +kernel
theorem dX3_letEat_60 : decode cX3_letEat 60 = .ok (.laload, 1) := by decide +kernel
theorem dX3_letEat_61 : decode cX3_letEat 61 = .ok (.ladd, 1) := by decide +kernel
theorem dX3_letEat_62 : decode cX3_letEat 62 = .ok (.lastore, 1) := by decide +kernel
theorem dX3_letEat_63 : decode cX3_letEat 63 = .ok (.iinc 5 1, 3) := by decide +kernel
theorem dX3_letEat_66 : decode cX3_letEat 66 = .ok (.goto (-30), 3) := by decide +kernel
theorem dX3_letEat_69 : decode cX3_letEat 69 = .ok (.iinc 3 (-1), 3) := by decide +kernel
theorem dX3_letEat_72 : decode cX3_letEat 72 = .ok (.goto (-56), 3) := by decide +kernel
theorem dX3_letEat_75 : decode cX3_letEat 75 = .ok (.return_, 1) := by decide +kernel
set_option maxRecDepth 20000 in
theorem ggX3_strikeOut_X3_lightestAt : GoodIn wsX3_strikeOut wsX3_lightestAt := goodIn_r _ [6, 7, 8, 9, 10, 11] (by decide +kernel) (by decide +kernel)
set_option maxRecDepth 20000 in
theorem gX3_strikeOut_X3_lightestAt : GoodIn wsX3_strikeOut (wsV RX3 63 RX3 yX3_lightestAt wsX3_lightestAt) := goodIn_app (goodIn_of _ (by decide +kernel)) ggX3_strikeOut_X3_lightestAt
theorem dX3_strikeOut_0 : decode cX3_strikeOut 0 = .ok (.iconst 0, 1) := by decide +kernel
theorem dX3_strikeOut_1 : decode cX3_strikeOut 1 = .ok (.istore 4, 2) := by decide +kernel
theorem dX3_strikeOut_3 : decode cX3_strikeOut 3 = .ok (.iload 4, 2) := by decide +kernel
theorem dX3_strikeOut_5 : decode cX3_strikeOut 5 = .ok (.iload_n 3, 1) := by decide +kernel
theorem dX3_strikeOut_6 : decode cX3_strikeOut 6 = .ok (.if_icmp .ge 48, 3) := by decide +kernel
theorem dX3_strikeOut_9 : decode cX3_strikeOut 9 = .ok (.iload 4, 2) := by decide +kernel
theorem dX3_strikeOut_11 : decode cX3_strikeOut 11 = .ok (.sipush 2197, 3) := by decide +kernel
theorem dX3_strikeOut_14 : decode cX3_strikeOut 14 = .ok (.if_icmp .ge 40, 3) := by decide +kernel
theorem dX3_strikeOut_17 : decode cX3_strikeOut 17 = .ok (.aload_n 0, 1) := by decide +kernel
theorem dX3_strikeOut_18 : decode cX3_strikeOut 18 = .ok (.getfield 18, 3) := by decide +kernel
theorem dX3_strikeOut_21 : decode cX3_strikeOut 21 = .ok (.iload 4, 2) := by decide +kernel
theorem dX3_strikeOut_23 : decode cX3_strikeOut 23 = .ok (.laload, 1) := by decide +kernel
theorem dX3_strikeOut_24 : decode cX3_strikeOut 24 = .ok (.lconst 0, 1) := by decide +kernel
theorem dX3_strikeOut_25 : decode cX3_strikeOut 25 = .ok (.lcmp, 1) := by decide +kernel
theorem dX3_strikeOut_26 : decode cX3_strikeOut 26 = .ok (.ifCond .eq 22, 3) := by decide +kernel
theorem dX3_strikeOut_29 : decode cX3_strikeOut 29 = .ok (.aload_n 0, 1) := by decide +kernel
theorem dX3_strikeOut_30 : decode cX3_strikeOut 30 = .ok (.iload 4, 2) := by decide +kernel
theorem dX3_strikeOut_32 : decode cX3_strikeOut 32 = .ok (.iload_n 2, 1) := by decide +kernel
theorem dX3_strikeOut_33 : decode cX3_strikeOut 33 = .ok (.invokevirtual 63, 3) := by decide +kernel
theorem dX3_strikeOut_36 : decode cX3_strikeOut 36 = .ok (.iload_n 1, 1) := by decide +kernel
theorem dX3_strikeOut_37 : decode cX3_strikeOut 37 = .ok (.if_icmp .eq 11, 3) := by decide +kernel
theorem dX3_strikeOut_40 : decode cX3_strikeOut 40 = .ok (.aload_n 0, 1) := by decide +kernel
theorem dX3_strikeOut_41 : decode cX3_strikeOut 41 = .ok (.getfield 18, 3) := by decide +kernel
theorem dX3_strikeOut_44 : decode cX3_strikeOut 44 = .ok (.iload 4, 2) := by decide +kernel
theorem dX3_strikeOut_46 : decode cX3_strikeOut 46 = .ok (.lconst 0, 1) := by decide +kernel
theorem dX3_strikeOut_47 : decode cX3_strikeOut 47 = .ok (.lastore, 1) := by decide +kernel
theorem dX3_strikeOut_48 : decode cX3_strikeOut 48 = .ok (.iinc 4 1, 3) := by decide +kernel
theorem dX3_strikeOut_51 : decode cX3_strikeOut 51 = .ok (.goto (-48), 3) := by decide +kernel
theorem dX3_strikeOut_54 : decode cX3_strikeOut 54 = .ok (.return_, 1) := by decide +kernel
theorem dX3_lightestAt_0 : decode cX3_lightestAt 0 = .ok (.bipush (-9), 2) := by decide +kernel
theorem dX3_lightestAt_2 : decode cX3_lightestAt 2 = .ok (.istore_n 3, 1) := by decide +kernel
theorem dX3_lightestAt_3 : decode cX3_lightestAt 3 = .ok (.iconst 0, 1) := by decide +kernel
theorem dX3_lightestAt_4 : decode cX3_lightestAt 4 = .ok (.istore 4, 2) := by decide +kernel
theorem dX3_lightestAt_6 : decode cX3_lightestAt 6 = .ok (.iload_n 1, 1) := by decide +kernel
theorem dX3_lightestAt_7 : decode cX3_lightestAt 7 = .ok (.istore 5, 2) := by decide +kernel
theorem dX3_lightestAt_9 : decode cX3_lightestAt 9 = .ok (.iconst 0, 1) := by decide +kernel
theorem dX3_lightestAt_10 : decode cX3_lightestAt 10 = .ok (.istore 6, 2) := by decide +kernel
theorem dX3_lightestAt_12 : decode cX3_lightestAt 12 = .ok (.iload 6, 2) := by decide +kernel
theorem dX3_lightestAt_14 : decode cX3_lightestAt 14 = .ok (.iload_n 2, 1) := by decide +kernel
theorem dX3_lightestAt_15 : decode cX3_lightestAt 15 = .ok (.if_icmp .ge 60, 3) := by decide +kernel
theorem dX3_lightestAt_18 : decode cX3_lightestAt 18 = .ok (.iload 6, 2) := by decide +kernel
theorem dX3_lightestAt_20 : decode cX3_lightestAt 20 = .ok (.iconst 3, 1) := by decide +kernel
theorem dX3_lightestAt_21 : decode cX3_lightestAt 21 = .ok (.if_icmp .ge 54, 3) := by decide +kernel
theorem dX3_lightestAt_24 : decode cX3_lightestAt 24 = .ok (.aload_n 0, 1) := by decide +kernel
theorem dX3_lightestAt_25 : decode cX3_lightestAt 25 = .ok (.getfield 15, 3) := by decide +kernel
theorem dX3_lightestAt_28 : decode cX3_lightestAt 28 = .ok (.iload 6, 2) := by decide +kernel
theorem dX3_lightestAt_30 : decode cX3_lightestAt 30 = .ok (.iaload, 1) := by decide +kernel
theorem dX3_lightestAt_31 : decode cX3_lightestAt 31 = .ok (.bipush 8, 2) := by decide +kernel
theorem dX3_lightestAt_33 : decode cX3_lightestAt 33 = .ok (.iload 5, 2) := by decide +kernel
theorem dX3_lightestAt_35 : decode cX3_lightestAt 35 = .ok (.bipush 13, 2) := by decide +kernel
theorem dX3_lightestAt_37 : decode cX3_lightestAt 37 = .ok (.irem, 1) := by decide +kernel
theorem dX3_lightestAt_38 : decode cX3_lightestAt 38 = .ok (.imul, 1) := by decide +kernel
theorem dX3_lightestAt_39 : decode cX3_lightestAt 39 = .ok (.iadd, 1) := by decide +kernel
theorem dX3_lightestAt_40 : decode cX3_lightestAt 40 = .ok (.istore 7, 2) := by decide +kernel
theorem dX3_lightestAt_42 : decode cX3_lightestAt 42 = .ok (.iload_n 3, 1) := by decide +kernel
theorem dX3_lightestAt_43 : decode cX3_lightestAt 43 = .ok (.bipush (-9), 2) := by decide +kernel
theorem dX3_lightestAt_45 : decode cX3_lightestAt 45 = .ok (.if_icmp .eq 10, 3) := by decide +kernel
theorem dX3_lightestAt_48 : decode cX3_lightestAt 48 = .ok (.iload 7, 2) := by decide +kernel
theorem dX3_lightestAt_50 : decode cX3_lightestAt 50 = .ok (.iload 4, 2) := by decide +kernel
theorem dX3_lightestAt_52 : decode cX3_lightestAt 52 = .ok (.if_icmp .ge 10, 3) := by decide +kernel
theorem dX3_lightestAt_55 : decode cX3_lightestAt 55 = .ok (.iload 6, 2) := by decide +kernel
theorem dX3_lightestAt_57 : decode cX3_lightestAt 57 = .ok (.istore_n 3, 1) := by decide +kernel
theorem dX3_lightestAt_58 : decode cX3_lightestAt 58 = .ok (.iload 7, 2) := by decide +kernel
theorem dX3_lightestAt_60 : decode cX3_lightestAt 60 = .ok (.istore 4, 2) := by decide +kernel
theorem dX3_lightestAt_62 : decode cX3_lightestAt 62 = .ok (.iload 5, 2) := by decide +kernel
theorem dX3_lightestAt_64 : decode cX3_lightestAt 64 = .ok (.bipush 13, 2) := by decide +kernel
theorem dX3_lightestAt_66 : decode cX3_lightestAt 66 = .ok (.idiv, 1) := by decide +kernel
theorem dX3_lightestAt_67 : decode cX3_lightestAt 67 = .ok (.istore 5, 2) := by decide +kernel
theorem dX3_lightestAt_69 : decode cX3_lightestAt 69 = .ok (.iinc 6 1, 3) := by decide +kernel
theorem dX3_lightestAt_72 : decode cX3_lightestAt 72 = .ok (.goto (-60), 3) := by decide +kernel
theorem dX3_lightestAt_75 : decode cX3_lightestAt 75 = .ok (.iload_n 3, 1) := by decide +kernel
theorem dX3_lightestAt_76 : decode cX3_lightestAt 76 = .ok (.ireturn, 1) := by decide +kernel
theorem dX3_sumOfWays_0 : decode cX3_sumOfWays 0 = .ok (.lconst 0, 1) := by decide +kernel
theorem dX3_sumOfWays_1 : decode cX3_sumOfWays 1 = .ok (.lstore_n 2, 1) := by decide +kernel
theorem dX3_sumOfWays_2 : decode cX3_sumOfWays 2 = .ok (.iconst 0, 1) := by decide +kernel
theorem dX3_sumOfWays_3 : decode cX3_sumOfWays 3 = .ok (.istore 4, 2) := by decide +kernel
theorem dX3_sumOfWays_5 : decode cX3_sumOfWays 5 = .ok (.iload 4, 2) := by decide +kernel
theorem dX3_sumOfWays_7 : decode cX3_sumOfWays 7 = .ok (.iload_n 1, 1) := by decide +kernel
theorem dX3_sumOfWays_8 : decode cX3_sumOfWays 8 = .ok (.if_icmp .ge 27, 3) := by decide +kernel
theorem dX3_sumOfWays_11 : decode cX3_sumOfWays 11 = .ok (.iload 4, 2) := by decide +kernel
theorem dX3_sumOfWays_13 : decode cX3_sumOfWays 13 = .ok (.sipush 2197, 3) := by decide +kernel
theorem dX3_sumOfWays_16 : decode cX3_sumOfWays 16 = .ok (.if_icmp .ge 19, 3) := by decide +kernel
theorem dX3_sumOfWays_19 : decode cX3_sumOfWays 19 = .ok (.lload_n 2, 1) := by decide +kernel
theorem dX3_sumOfWays_20 : decode cX3_sumOfWays 20 = .ok (.aload_n 0, 1) := by decide +kernel
theorem dX3_sumOfWays_21 : decode cX3_sumOfWays 21 = .ok (.getfield 18, 3) := by decide +kernel
theorem dX3_sumOfWays_24 : decode cX3_sumOfWays 24 = .ok (.iload 4, 2) := by decide +kernel
theorem dX3_sumOfWays_26 : decode cX3_sumOfWays 26 = .ok (.laload, 1) := by decide +kernel
theorem dX3_sumOfWays_27 : decode cX3_sumOfWays 27 = .ok (.ladd, 1) := by decide +kernel
theorem dX3_sumOfWays_28 : decode cX3_sumOfWays 28 = .ok (.lstore_n 2, 1) := by decide +kernel
theorem dX3_sumOfWays_29 : decode cX3_sumOfWays 29 = .ok (.iinc 4 1, 3) := by decide +kernel
theorem dX3_sumOfWays_32 : decode cX3_sumOfWays 32 = .ok (.goto (-27), 3) := by decide +kernel
theorem dX3_sumOfWays_35 : decode cX3_sumOfWays 35 = .ok (.lload_n 2, 1) := by decide +kernel
theorem dX3_sumOfWays_36 : decode cX3_sumOfWays 36 = .ok (.lreturn, 1) := by decide +kernel
theorem dX4_init_0 : decode cX4_init 0 = .ok (.aload_n 0, 1) := by decide +kernel
theorem dX4_init_1 : decode cX4_init 1 = .ok (.invokespecial 3, 3) := by decide +kernel
theorem dX4_init_4 : decode cX4_init 4 = .ok (.aload_n 0, 1) := by decide +kernel
theorem dX4_init_5 : decode cX4_init 5 = .ok (.bipush 8, 2) := by decide +kernel
theorem dX4_init_7 : decode cX4_init 7 = .ok (.newarray .int, 2) := by decide +kernel
theorem dX4_init_9 : decode cX4_init 9 = .ok (.putfield 11, 3) := by decide +kernel
theorem dX4_init_12 : decode cX4_init 12 = .ok (.aload_n 0, 1) := by decide +kernel
theorem dX4_init_13 : decode cX4_init 13 = .ok (.bipush 8, 2) := by decide +kernel
theorem dX4_init_15 : decode cX4_init 15 = .ok (.newarray .int, 2) := by decide +kernel
theorem dX4_init_17 : decode cX4_init 17 = .ok (.putfield 15, 3) := by decide +kernel
theorem dX4_init_20 : decode cX4_init 20 = .ok (.aload_n 0, 1) := by decide +kernel
theorem dX4_init_21 : decode cX4_init 21 = .ok (.iconst 5, 1) := by decide +kernel
theorem dX4_init_22 : decode cX4_init 22 = .ok (.newarray .int, 2) := by decide +kernel
theorem dX4_init_24 : decode cX4_init 24 = .ok (.putfield 20, 3) := by decide +kernel
theorem dX4_init_27 : decode cX4_init 27 = .ok (.aload_n 0, 1) := by decide +kernel
theorem dX4_init_28 : decode cX4_init 28 = .ok (.iconst 5, 1) := by decide +kernel
theorem dX4_init_29 : decode cX4_init 29 = .ok (.newarray .int, 2) := by decide +kernel
theorem dX4_init_31 : decode cX4_init 31 = .ok (.putfield 23, 3) := by decide +kernel
theorem dX4_init_34 : decode cX4_init 34 = .ok (.aload_n 0, 1) := by decide +kernel
theorem dX4_init_35 : decode cX4_init 35 = .ok (.iconst 0, 1) := by decide +kernel
theorem dX4_init_36 : decode cX4_init 36 = .ok (.putfield 26, 3) := by decide +kernel
theorem dX4_init_39 : decode cX4_init 39 = .ok (.aload_n 0, 1) := by decide +kernel
theorem dX4_init_40 : decode cX4_init 40 = .ok (.iconst 0, 1) := by decide +kernel
theorem dX4_init_41 : decode cX4_init 41 = .ok (.putfield 30, 3) := by decide +kernel
theorem dX4_init_44 : decode cX4_init 44 = .ok (.aload_n 0, 1) := by decide +kernel
theorem dX4_init_45 : decode cX4_init 45 = .ok (.iconst 0, 1) := by decide +kernel
theorem dX4_init_46 : decode cX4_init 46 = .ok (.putfield 33, 3) := by decide +kernel
theorem dX4_init_49 : decode cX4_init 49 = .ok (.return_, 1) := by decide +kernel
theorem dX4_length_0 : decode cX4_length 0 = .ok (.aload_n 0, 1) := by decide +kernel
theorem dX4_length_1 : decode cX4_length 1 = .ok (.getfield 26, 3) := by decide +kernel
theorem dX4_length_4 : decode cX4_length 4 = .ok (.ireturn, 1) := by decide +kernel
theorem dX4_clear_0 : decode cX4_clear 0 = .ok (.aload_n 0, 1) := by decide +kernel
theorem dX4_clear_1 : decode cX4_clear 1 = .ok (.iconst 0, 1) := by decide +kernel
theorem dX4_clear_2 : decode cX4_clear 2 = .ok (.putfield 26, 3) := by decide +kernel
theorem dX4_clear_5 : decode cX4_clear 5 = .ok (.aload_n 0, 1) := by decide +kernel
theorem dX4_clear_6 : decode cX4_clear 6 = .ok (.iconst 0, 1) := by decide +kernel
theorem dX4_clear_7 : decode cX4_clear 7 = .ok (.putfield 33, 3) := by decide +kernel
theorem dX4_clear_10 : decode cX4_clear 10 = .ok (.return_, 1) := by decide +kernel
theorem dX4_append_0 : decode cX4_append 0 = .ok (.aload_n 0, 1) := by decide +kernel
theorem dX4_append_1 : decode cX4_append 1 = .ok (.getfield 26, 3) := by decide +kernel
theorem dX4_append_4 : decode cX4_append 4 = .ok (.bipush 8, 2) := by decide +kernel
theorem dX4_append_6 : decode cX4_append 6 = .ok (.if_icmp .ne 5, 3) := by decide +kernel
theorem dX4_append_9 : decode cX4_append 9 = .ok (.iconst 0, 1) := by decide +kernel
theorem dX4_append_10 : decode cX4_append 10 = .ok (.ireturn, 1) := by decide +kernel
theorem dX4_append_11 : decode cX4_append 11 = .ok (.aload_n 0, 1) := by decide +kernel
theorem dX4_append_12 : decode cX4_append 12 = .ok (.getfield 11, 3) := by decide +kernel
theorem dX4_append_15 : decode cX4_append 15 = .ok (.aload_n 0, 1) := by decide +kernel
theorem dX4_append_16 : decode cX4_append 16 = .ok (.getfield 26, 3) := by decide +kernel
theorem dX4_append_19 : decode cX4_append 19 = .ok (.iload_n 1, 1) := by decide +kernel
theorem dX4_append_20 : decode cX4_append 20 = .ok (.iastore, 1) := by decide +kernel
theorem dX4_append_21 : decode cX4_append 21 = .ok (.aload_n 0, 1) := by decide +kernel
theorem dX4_append_22 : decode cX4_append 22 = .ok (.getfield 15, 3) := by decide +kernel
theorem dX4_append_25 : decode cX4_append 25 = .ok (.aload_n 0, 1) := by decide +kernel
theorem dX4_append_26 : decode cX4_append 26 = .ok (.getfield 26, 3) := by decide +kernel
theorem dX4_append_29 : decode cX4_append 29 = .ok (.iload_n 2, 1) := by decide +kernel
theorem dX4_append_30 : decode cX4_append 30 = .ok (.iastore, 1) := by decide +kernel
theorem dX4_append_31 : decode cX4_append 31 = .ok (.aload_n 0, 1) := by decide +kernel
theorem dX4_append_32 : decode cX4_append 32 = .ok (.dup, 1) := by decide +kernel
theorem dX4_append_33 : decode cX4_append 33 = .ok (.getfield 26, 3) := by decide +kernel
theorem dX4_append_36 : decode cX4_append 36 = .ok (.iconst 1, 1) := by decide +kernel
theorem dX4_append_37 : decode cX4_append 37 = .ok (.iadd, 1) := by decide +kernel
theorem dX4_append_38 : decode cX4_append 38 = .ok (.putfield 26, 3) := by decide +kernel
theorem dX4_append_41 : decode cX4_append 41 = .ok (.aload_n 0, 1) := by decide +kernel
theorem dX4_append_42 : decode cX4_append 42 = .ok (.iconst 0, 1) := by decide +kernel
theorem dX4_append_43 : decode cX4_append 43 = .ok (.putfield 33, 3) := by decide +kernel
theorem dX4_append_46 : decode cX4_append 46 = .ok (.iconst 1, 1) := by decide +kernel
theorem dX4_append_47 : decode cX4_append 47 = .ok (.ireturn, 1) := by decide +kernel
theorem dX4_leastOf_0 : decode cX4_leastOf 0 = .ok (.iload_n 1, 1) := by decide +kernel
theorem dX4_leastOf_1 : decode cX4_leastOf 1 = .ok (.ifCond .lt 8, 3) := by decide +kernel
theorem dX4_leastOf_4 : decode cX4_leastOf 4 = .ok (.iload_n 1, 1) := by decide +kernel
theorem dX4_leastOf_5 : decode cX4_leastOf 5 = .ok (.iconst 5, 1) := by decide +kernel
theorem dX4_leastOf_6 : decode cX4_leastOf 6 = .ok (.if_icmp .lt 8, 3) := by decide +kernel
theorem dX4_leastOf_9 : decode cX4_leastOf 9 = .ok (.bipush (-9), 2) := by decide +kernel
theorem dX4_leastOf_11 : decode cX4_leastOf 11 = .ok (.goto 9, 3) := by decide +kernel
theorem dX4_leastOf_14 : decode cX4_leastOf 14 = .ok (.aload_n 0, 1) := by decide +kernel
theorem dX4_leastOf_15 : decode cX4_leastOf 15 = .ok (.getfield 20, 3) := by decide +kernel
theorem dX4_leastOf_18 : decode cX4_leastOf 18 = .ok (.iload_n 1, 1) := by decide +kernel
theorem dX4_leastOf_19 : decode cX4_leastOf 19 = .ok (.iaload, 1) := by decide +kernel
theorem dX4_leastOf_20 : decode cX4_leastOf 20 = .ok (.ireturn, 1) := by decide +kernel
theorem dX4_mostOf_0 : decode cX4_mostOf 0 = .ok (.iload_n 1, 1) := by decide +kernel
theorem dX4_mostOf_1 : decode cX4_mostOf 1 = .ok (.ifCond .lt 8, 3) := by decide +kernel
theorem dX4_mostOf_4 : decode cX4_mostOf 4 = .ok (.iload_n 1, 1) := by decide +kernel
theorem dX4_mostOf_5 : decode cX4_mostOf 5 = .ok (.iconst 5, 1) := by decide +kernel
theorem dX4_mostOf_6 : decode cX4_mostOf 6 = .ok (.if_icmp .lt 8, 3) := by decide +kernel
theorem dX4_mostOf_9 : decode cX4_mostOf 9 = .ok (.bipush (-9), 2) := by decide +kernel
theorem dX4_mostOf_11 : decode cX4_mostOf 11 = .ok (.goto 9, 3) := by decide +kernel
theorem dX4_mostOf_14 : decode cX4_mostOf 14 = .ok (.aload_n 0, 1) := by decide +kernel
theorem dX4_mostOf_15 : decode cX4_mostOf 15 = .ok (.getfield 23, 3) := by decide +kernel
theorem dX4_mostOf_18 : decode cX4_mostOf 18 = .ok (.iload_n 1, 1) := by decide +kernel
theorem dX4_mostOf_19 : decode cX4_mostOf 19 = .ok (.iaload, 1) := by decide +kernel
theorem dX4_mostOf_20 : decode cX4_mostOf 20 = .ok (.ireturn, 1) := by decide +kernel
set_option maxRecDepth 20000 in
theorem ggX4_fittingRows_J7_fill_53178 : GoodIn wsX4_fittingRows wsJ7_fill_53178 := goodIn_r _ [8] (by decide +kernel) (by decide +kernel)
set_option maxRecDepth 20000 in
theorem gX4_fittingRows_J7_fill_53178 : GoodIn wsX4_fittingRows (va_wsS RX4 37 yJ7_fill_53178 wsJ7_fill_53178) := goodIn_app (goodIn_of _ (by decide +kernel)) ggX4_fittingRows_J7_fill_53178
set_option maxRecDepth 20000 in
theorem ggX4_fittingRows_X4_rowsFrom : GoodIn wsX4_fittingRows wsX4_rowsFrom := goodIn_r _ [12, 13, 14, 15, 11, 16, 17, 18, 19, 20, 21, 22, 23, 24, 25, 26, 27, 28, 29, 30, 31, 32, 33, 34, 35, 36, 37, 38, 39, 40, 41, 42, 43, 44, 45, 9, 10, 46, 47, 48, 49, 2, 3, 50, 51, 52, 53, 54, 55, 56, 57, 58, 59, 60] (by decide +kernel) (by decide +kernel)
set_option maxRecDepth 20000 in
theorem gX4_fittingRows_X4_rowsFrom : GoodIn wsX4_fittingRows (va_wsS RX4 43 yX4_rowsFrom wsX4_rowsFrom) := goodIn_app (goodIn_of _ (by decide +kernel)) ggX4_fittingRows_X4_rowsFrom
theorem dX4_fittingRows_0 : decode cX4_fittingRows 0 = .ok (.aload_n 0, 1) := by decide +kernel
theorem dX4_fittingRows_1 : decode cX4_fittingRows 1 = .ok (.getfield 33, 3) := by decide +kernel
theorem dX4_fittingRows_4 : decode cX4_fittingRows 4 = .ok (.ifCond .ne 35, 3) := by decide +kernel
theorem dX4_fittingRows_7 : decode cX4_fittingRows 7 = .ok (.aload_n 0, 1) := by decide +kernel
theorem dX4_fittingRows_8 : decode cX4_fittingRows 8 = .ok (.getfield 20, 3) := by decide +kernel
theorem dX4_fittingRows_11 : decode cX4_fittingRows 11 = .ok (.bipush 10, 2) := by decide +kernel
theorem dX4_fittingRows_13 : decode cX4_fittingRows 13 = .ok (.invokestatic 37, 3) := by decide +kernel
theorem dX4_fittingRows_16 : decode cX4_fittingRows 16 = .ok (.aload_n 0, 1) := by decide +kernel
theorem dX4_fittingRows_17 : decode cX4_fittingRows 17 = .ok (.getfield 23, 3) := by decide +kernel
theorem dX4_fittingRows_20 : decode cX4_fittingRows 20 = .ok (.bipush (-9), 2) := by decide +kernel
theorem dX4_fittingRows_22 : decode cX4_fittingRows 22 = .ok (.invokestatic 37, 3) := by decide +kernel
theorem dX4_fittingRows_25 : decode cX4_fittingRows 25 = .ok (.aload_n 0, 1) := by decide +kernel
theorem dX4_fittingRows_26 : decode cX4_fittingRows 26 = .ok (.aload_n 0, 1) := by decide +kernel
theorem dX4_fittingRows_27 : decode cX4_fittingRows 27 = .ok (.iconst 0, 1) := by decide +kernel
theorem dX4_fittingRows_28 : decode cX4_fittingRows 28 = .ok (.invokestatic 43, 3) := by decide +kernel
theorem dX4_fittingRows_31 : decode cX4_fittingRows 31 = .ok (.putfield 30, 3) := by decide +kernel
theorem dX4_fittingRows_34 : decode cX4_fittingRows 34 = .ok (.aload_n 0, 1) := by decide +kernel
theorem dX4_fittingRows_35 : decode cX4_fittingRows 35 = .ok (.iconst 1, 1) := by decide +kernel
theorem dX4_fittingRows_36 : decode cX4_fittingRows 36 = .ok (.putfield 33, 3) := by decide +kernel
theorem dX4_fittingRows_39 : decode cX4_fittingRows 39 = .ok (.aload_n 0, 1) := by decide +kernel
theorem dX4_fittingRows_40 : decode cX4_fittingRows 40 = .ok (.getfield 30, 3) := by decide +kernel
theorem dX4_fittingRows_43 : decode cX4_fittingRows 43 = .ok (.ireturn, 1) := by decide +kernel
set_option maxRecDepth 20000 in
theorem ggX4_rowsFrom_X4_fewestFor : GoodIn wsX4_rowsFrom wsX4_fewestFor := goodIn_r _ [5, 6, 7, 8, 9, 10, 11, 12, 13, 14, 15, 4, 16, 17, 18, 19, 20, 21, 22, 23, 47, 48, 49, 50, 51, 52, 53] (by decide +kernel) (by decide +kernel)
set_option maxRecDepth 20000 in
theorem gX4_rowsFrom_X4_fewestFor : GoodIn wsX4_rowsFrom (wsV RX4 47 RX4 yX4_fewestFor wsX4_fewestFor) := goodIn_app (goodIn_of _ (by decide +kernel)) ggX4_rowsFrom_X4_fewestFor
set_option maxRecDepth 20000 in
theorem ggX4_rowsFrom_X4_greatestFor : GoodIn wsX4_rowsFrom wsX4_greatestFor := goodIn_r _ [27, 6, 8, 28, 29, 11, 30, 13, 14, 15, 4, 16, 7, 47, 48, 49, 50, 51, 52, 53] (by decide +kernel) (by decide +kernel)
set_option maxRecDepth 20000 in
theorem gX4_rowsFrom_X4_greatestFor : GoodIn wsX4_rowsFrom (wsV RX4 51 RX4 yX4_greatestFor wsX4_greatestFor) := goodIn_app (goodIn_of _ (by decide +kernel)) ggX4_rowsFrom_X4_greatestFor
set_option maxRecDepth 20000 in
theorem ggX4_rowsFrom_X4_anySearched : GoodIn wsX4_rowsFrom wsX4_anySearched := goodIn_r _ [34, 6, 13, 14, 15, 4, 16, 7, 47, 48, 49, 50, 51, 52, 53] (by decide +kernel) (by decide +kernel)
set_option maxRecDepth 20000 in
theorem gX4_rowsFrom_X4_anySearched : GoodIn wsX4_rowsFrom (wsV RX4 54 RX4 yX4_anySearched wsX4_anySearched) := goodIn_app (goodIn_of _ (by decide +kernel)) ggX4_rowsFrom_X4_anySearched
set_option maxRecDepth 20000 in
theorem ggX4_rowsFrom_X4_rowsFrom : GoodIn wsX4_rowsFrom wsX4_rowsFrom := goodIn_r _ [0, 1, 2, 3, 4, 5, 6, 7, 8, 9, 10, 11, 12, 13, 14, 15, 16, 17, 18, 19, 20, 21, 22, 23, 24, 25, 26, 27, 28, 29, 30, 31, 32, 33, 34, 35, 36, 37, 38, 39, 40, 41, 42, 43, 44, 45, 46, 47, 48, 49, 50, 51, 52, 53] (by decide +kernel) (by decide +kernel)
set_option maxRecDepth 20000 in
theorem gX4_rowsFrom_X4_rowsFrom : GoodIn wsX4_rowsFrom (va_wsS RX4 43 yX4_rowsFrom wsX4_rowsFrom) := goodIn_app (goodIn_of _ (by decide +kernel)) ggX4_rowsFrom_X4_rowsFrom
set_option maxRecDepth 20000 in
theorem ggX4_rowsFrom_X4_noted : GoodIn wsX4_rowsFrom wsX4_noted := goodIn_r _ [40, 41, 28, 29, 11, 30, 42, 9, 10, 12, 47, 48, 49, 50, 51, 52, 53] (by decide +kernel) (by decide +kernel)
set_option maxRecDepth 20000 in
theorem gX4_rowsFrom_X4_noted : GoodIn wsX4_rowsFrom (wsV RX4 58 RX4 yX4_noted wsX4_noted) := goodIn_app (goodIn_of _ (by decide +kernel)) ggX4_rowsFrom_X4_noted
set_option maxRecDepth 20000 in
theorem ggX4_rowsFrom_X4_give : GoodIn wsX4_rowsFrom wsX4_give := goodIn_r _ [46, 6, 8, 13, 14, 15, 4, 16, 7, 47, 48, 49, 50, 51, 52, 53] (by decide +kernel) (by decide +kernel)
set_option maxRecDepth 20000 in
theorem gX4_rowsFrom_X4_give : GoodIn wsX4_rowsFrom (wsV RX4 62 RX4 yX4_give wsX4_give) := goodIn_app (goodIn_of _ (by decide +kernel)) ggX4_rowsFrom_X4_give
theorem dX4_rowsFrom_0 : decode cX4_rowsFrom 0 = .ok (.iload_n 1, 1) := by decide +kernel
theorem dX4_rowsFrom_1 : decode cX4_rowsFrom 1 = .ok (.ifCond .lt 8, 3) := by decide +kernel
theorem dX4_rowsFrom_4 : decode cX4_rowsFrom 4 = .ok (.iload_n 1, 1) := by decide +kernel
theorem dX4_rowsFrom_5 : decode cX4_rowsFrom 5 = .ok (.iconst 5, 1) := by decide +kernel
theorem dX4_rowsFrom_6 : decode cX4_rowsFrom 6 = .ok (.if_icmp .lt 5, 3) := by decide +kernel
theorem dX4_rowsFrom_9 : decode cX4_rowsFrom 9 = .ok (.iconst 1, 1) := by decide +kernel
theorem dX4_rowsFrom_10 : decode cX4_rowsFrom 10 = .ok (.ireturn, 1) := by decide +kernel
theorem dX4_rowsFrom_11 : decode cX4_rowsFrom 11 = .ok (.aload_n 0, 1) := by decide +kernel
theorem dX4_rowsFrom_12 : decode cX4_rowsFrom 12 = .ok (.iload_n 1, 1) := by decide +kernel
theorem dX4_rowsFrom_13 : decode cX4_rowsFrom 13 = .ok (.invokevirtual 47, 3) := by decide +kernel
theorem dX4_rowsFrom_16 : decode cX4_rowsFrom 16 = .ok (.istore_n 2, 1) := by decide +kernel
theorem dX4_rowsFrom_17 : decode cX4_rowsFrom 17 = .ok (.aload_n 0, 1) := by decide +kernel
theorem dX4_rowsFrom_18 : decode cX4_rowsFrom 18 = .ok (.iload_n 1, 1) := by decide +kernel
theorem dX4_rowsFrom_19 : decode cX4_rowsFrom 19 = .ok (.invokevirtual 51, 3) := by decide +kernel
theorem dX4_rowsFrom_22 : decode cX4_rowsFrom 22 = .ok (.istore_n 3, 1) := by decide +kernel
theorem dX4_rowsFrom_23 : decode cX4_rowsFrom 23 = .ok (.aload_n 0, 1) := by decide +kernel
theorem dX4_rowsFrom_24 : decode cX4_rowsFrom 24 = .ok (.iload_n 1, 1) := by decide +kernel
theorem dX4_rowsFrom_25 : decode cX4_rowsFrom 25 = .ok (.invokevirtual 54, 3) := by decide +kernel
theorem dX4_rowsFrom_28 : decode cX4_rowsFrom 28 = .ok (.ifCond .ne 21, 3) := by decide +kernel
theorem dX4_rowsFrom_31 : decode cX4_rowsFrom 31 = .ok (.bipush 10, 2) := by decide +kernel
theorem dX4_rowsFrom_33 : decode cX4_rowsFrom 33 = .ok (.aload_n 0, 1) := by decide +kernel
theorem dX4_rowsFrom_34 : decode cX4_rowsFrom 34 = .ok (.iload_n 1, 1) := by decide +kernel
theorem dX4_rowsFrom_35 : decode cX4_rowsFrom 35 = .ok (.iload_n 2, 1) := by decide +kernel
theorem dX4_rowsFrom_36 : decode cX4_rowsFrom 36 = .ok (.iload_n 3, 1) := by decide +kernel
theorem dX4_rowsFrom_37 : decode cX4_rowsFrom 37 = .ok (.aload_n 0, 1) := by decide +kernel
theorem dX4_rowsFrom_38 : decode cX4_rowsFrom 38 = .ok (.iload_n 1, 1) := by decide +kernel
theorem dX4_rowsFrom_39 : decode cX4_rowsFrom 39 = .ok (.iconst 1, 1) := by decide +kernel
theorem dX4_rowsFrom_40 : decode cX4_rowsFrom 40 = .ok (.iadd, 1) := by decide +kernel
theorem dX4_rowsFrom_41 : decode cX4_rowsFrom 41 = .ok (.invokestatic 43, 3) := by decide +kernel
theorem dX4_rowsFrom_44 : decode cX4_rowsFrom 44 = .ok (.invokevirtual 58, 3) := by decide +kernel
theorem dX4_rowsFrom_47 : decode cX4_rowsFrom 47 = .ok (.imul, 1) := by decide +kernel
theorem dX4_rowsFrom_48 : decode cX4_rowsFrom 48 = .ok (.ireturn, 1) := by decide +kernel
theorem dX4_rowsFrom_49 : decode cX4_rowsFrom 49 = .ok (.iconst 0, 1) := by decide +kernel
theorem dX4_rowsFrom_50 : decode cX4_rowsFrom 50 = .ok (.istore 4, 2) := by decide +kernel
theorem dX4_rowsFrom_52 : decode cX4_rowsFrom 52 = .ok (.iload_n 2, 1) := by decide +kernel
theorem dX4_rowsFrom_53 : decode cX4_rowsFrom 53 = .ok (.istore 5, 2) := by decide +kernel
theorem dX4_rowsFrom_55 : decode cX4_rowsFrom 55 = .ok (.iload 5, 2) := by decide +kernel
theorem dX4_rowsFrom_57 : decode cX4_rowsFrom 57 = .ok (.iload_n 3, 1) := by decide +kernel
theorem dX4_rowsFrom_58 : decode cX4_rowsFrom 58 = .ok (.if_icmp .gt 45, 3) := by decide +kernel
theorem dX4_rowsFrom_61 : decode cX4_rowsFrom 61 = .ok (.aload_n 0, 1) := by decide +kernel
theorem dX4_rowsFrom_62 : decode cX4_rowsFrom 62 = .ok (.iload_n 1, 1) := by decide +kernel
theorem dX4_rowsFrom_63 : decode cX4_rowsFrom 63 = .ok (.iload 5, 2) := by decide +kernel
theorem dX4_rowsFrom_65 : decode cX4_rowsFrom 65 = .ok (.invokevirtual 62, 3) := by decide +kernel
theorem dX4_rowsFrom_68 : decode cX4_rowsFrom 68 = .ok (.iload 4, 2) := by decide +kernel
theorem dX4_rowsFrom_70 : decode cX4_rowsFrom 70 = .ok (.aload_n 0, 1) := by decide +kernel
theorem dX4_rowsFrom_71 : decode cX4_rowsFrom 71 = .ok (.iload_n 1, 1) := by decide +kernel
theorem dX4_rowsFrom_72 : decode cX4_rowsFrom 72 = .ok (.iload 5, 2) := by decide +kernel
theorem dX4_rowsFrom_74 : decode cX4_rowsFrom 74 = .ok (.iload 5, 2) := by decide +kernel
theorem dX4_rowsFrom_76 : decode cX4_rowsFrom 76 = .ok (.aload_n 0, 1) := by decide +kernel
theorem dX4_rowsFrom_77 : decode cX4_rowsFrom 77 = .ok (.iload_n 1, 1) := by decide +kernel
theorem dX4_rowsFrom_78 : decode cX4_rowsFrom 78 = .ok (.iconst 1, 1) := by decide +kernel
theorem dX4_rowsFrom_79 : decode cX4_rowsFrom 79 = .ok (.iadd, 1) := by decide +kernel
theorem dX4_rowsFrom_80 : decode cX4_rowsFrom 80 = .ok (.invokestatic 43, 3) := by decide +kernel
theorem dX4_rowsFrom_83 : decode cX4_rowsFrom 83 = .ok (.invokevirtual 58, 3) := by decide +kernel
theorem dX4_rowsFrom_86 : decode cX4_rowsFrom 86 = .ok (.iadd, 1) := by decide +kernel
theorem dX4_rowsFrom_87 : decode cX4_rowsFrom 87 = .ok (.istore 4, 2) := by decide +kernel
theorem dX4_rowsFrom_89 : decode cX4_rowsFrom 89 = .ok (.aload_n 0, 1) := by decide +kernel
theorem dX4_rowsFrom_90 : decode cX4_rowsFrom 90 = .ok (.iload_n 1, 1) := by decide +kernel
theorem dX4_rowsFrom_91 : decode cX4_rowsFrom 91 = .ok (.iload 5, 2) := by decide +kernel
theorem dX4_rowsFrom_93 : decode cX4_rowsFrom 93 = .ok (.ineg, 1) := by decide +kernel
theorem dX4_rowsFrom_94 : decode cX4_rowsFrom 94 = .ok (.invokevirtual 62, 3) := by decide +kernel
theorem dX4_rowsFrom_97 : decode cX4_rowsFrom 97 = .ok (.iinc 5 1, 3) := by decide +kernel
theorem dX4_rowsFrom_100 : decode cX4_rowsFrom 100 = .ok (.goto (-45), 3) := by decide +kernel
theorem dX4_rowsFrom_103 : decode cX4_rowsFrom 103 = .ok (.iload 4, 2) := by decide +kernel
theorem dX4_rowsFrom_105 : decode cX4_rowsFrom 105 = .ok (.ireturn, 1) := by decide +kernel
theorem dX4_isIn_0 : decode cX4_isIn 0 = .ok (.aload_n 0, 1) := by decide +kernel
theorem dX4_isIn_1 : decode cX4_isIn 1 = .ok (.getfield 11, 3) := by decide +kernel
theorem dX4_isIn_4 : decode cX4_isIn 4 = .ok (.iload_n 2, 1) := by decide +kernel
theorem dX4_isIn_5 : decode cX4_isIn 5 = .ok (.iaload, 1) := by decide +kernel
theorem dX4_isIn_6 : decode cX4_isIn 6 = .ok (.iload_n 1, 1) := by decide +kernel
theorem dX4_isIn_7 : decode cX4_isIn 7 = .ok (.ishr, 1) := by decide +kernel
theorem dX4_isIn_8 : decode cX4_isIn 8 = .ok (.iconst 1, 1) := by decide +kernel
theorem dX4_isIn_9 : decode cX4_isIn 9 = .ok (.iand, 1) := by decide +kernel
theorem dX4_isIn_10 : decode cX4_isIn 10 = .ok (.iconst 1, 1) := by decide +kernel
theorem dX4_isIn_11 : decode cX4_isIn 11 = .ok (.if_icmp .ne 7, 3) := by decide +kernel
theorem dX4_isIn_14 : decode cX4_isIn 14 = .ok (.iconst 1, 1) := by decide +kernel
theorem dX4_isIn_15 : decode cX4_isIn 15 = .ok (.goto 4, 3) := by decide +kernel
theorem dX4_isIn_18 : decode cX4_isIn 18 = .ok (.iconst 0, 1) := by decide +kernel
theorem dX4_isIn_19 : decode cX4_isIn 19 = .ok (.ireturn, 1) := by decide +kernel
set_option maxRecDepth 20000 in
theorem ggX4_anySearched_X4_isIn : GoodIn wsX4_anySearched wsX4_isIn := goodIn_r _ [6, 7, 8, 9, 10, 11, 12, 13, 14] (by decide +kernel) (by decide +kernel)
set_option maxRecDepth 20000 in
theorem gX4_anySearched_X4_isIn : GoodIn wsX4_anySearched (wsV RX4 66 RX4 yX4_isIn wsX4_isIn) := goodIn_app (goodIn_of _ (by decide +kernel)) ggX4_anySearched_X4_isIn
theorem dX4_anySearched_0 : decode cX4_anySearched 0 = .ok (.iconst 0, 1) := by decide +kernel
theorem dX4_anySearched_1 : decode cX4_anySearched 1 = .ok (.istore_n 2, 1) := by decide +kernel
theorem dX4_anySearched_2 : decode cX4_anySearched 2 = .ok (.iload_n 2, 1) := by decide +kernel
theorem dX4_anySearched_3 : decode cX4_anySearched 3 = .ok (.aload_n 0, 1) := by decide +kernel
theorem dX4_anySearched_4 : decode cX4_anySearched 4 = .ok (.getfield 26, 3) := by decide +kernel
theorem dX4_anySearched_7 : decode cX4_anySearched 7 = .ok (.if_icmp .ge 20, 3) := by decide +kernel
theorem dX4_anySearched_10 : decode cX4_anySearched 10 = .ok (.aload_n 0, 1) := by decide +kernel
theorem dX4_anySearched_11 : decode cX4_anySearched 11 = .ok (.iload_n 1, 1) := by decide +kernel
theorem dX4_anySearched_12 : decode cX4_anySearched 12 = .ok (.iload_n 2, 1) := by decide +kernel
theorem dX4_anySearched_13 : decode cX4_anySearched 13 = .ok (.invokevirtual 66, 3) := by decide +kernel
theorem dX4_anySearched_16 : decode cX4_anySearched 16 = .ok (.ifCond .eq 5, 3) := by decide +kernel
theorem dX4_anySearched_19 : decode cX4_anySearched 19 = .ok (.iconst 1, 1) := by decide +kernel
theorem dX4_anySearched_20 : decode cX4_anySearched 20 = .ok (.ireturn, 1) := by decide +kernel
theorem dX4_anySearched_21 : decode cX4_anySearched 21 = .ok (.iinc 2 1, 3) := by decide +kernel
theorem dX4_anySearched_24 : decode cX4_anySearched 24 = .ok (.goto (-22), 3) := by decide +kernel
theorem dX4_anySearched_27 : decode cX4_anySearched 27 = .ok (.iconst 0, 1) := by decide +kernel
theorem dX4_anySearched_28 : decode cX4_anySearched 28 = .ok (.ireturn, 1) := by decide +kernel
set_option maxRecDepth 20000 in
theorem ggX4_fewestFor_X4_isIn : GoodIn wsX4_fewestFor wsX4_isIn := goodIn_r _ [12, 2, 20, 21, 22, 23, 24, 25, 26] (by decide +kernel) (by decide +kernel)
set_option maxRecDepth 20000 in
theorem gX4_fewestFor_X4_isIn : GoodIn wsX4_fewestFor (wsV RX4 66 RX4 yX4_isIn wsX4_isIn) := goodIn_app (goodIn_of _ (by decide +kernel)) ggX4_fewestFor_X4_isIn
set_option maxRecDepth 20000 in
theorem ggX4_fewestFor_J6_bitCount_0f7a4 : GoodIn wsX4_fewestFor wsJ6_bitCount_0f7a4 := goodIn_r _ [16, 17, 18, 19] (by decide +kernel) (by decide +kernel)
set_option maxRecDepth 20000 in
theorem gX4_fewestFor_J6_bitCount_0f7a4 : GoodIn wsX4_fewestFor (va_wsS RX4 70 yJ6_bitCount_0f7a4 wsJ6_bitCount_0f7a4) := goodIn_app (goodIn_of _ (by decide +kernel)) ggX4_fewestFor_J6_bitCount_0f7a4
theorem dX4_fewestFor_0 : decode cX4_fewestFor 0 = .ok (.iconst 0, 1) := by decide +kernel
theorem dX4_fewestFor_1 : decode cX4_fewestFor 1 = .ok (.istore_n 2, 1) := by decide +kernel
theorem dX4_fewestFor_2 : decode cX4_fewestFor 2 = .ok (.iconst 0, 1) := by decide +kernel
theorem dX4_fewestFor_3 : decode cX4_fewestFor 3 = .ok (.istore_n 3, 1) := by decide +kernel
theorem dX4_fewestFor_4 : decode cX4_fewestFor 4 = .ok (.iload_n 3, 1) := by decide +kernel
theorem dX4_fewestFor_5 : decode cX4_fewestFor 5 = .ok (.aload_n 0, 1) := by decide +kernel
theorem dX4_fewestFor_6 : decode cX4_fewestFor 6 = .ok (.getfield 26, 3) := by decide +kernel
theorem dX4_fewestFor_9 : decode cX4_fewestFor 9 = .ok (.if_icmp .ge 50, 3) := by decide +kernel
theorem dX4_fewestFor_12 : decode cX4_fewestFor 12 = .ok (.aload_n 0, 1) := by decide +kernel
theorem dX4_fewestFor_13 : decode cX4_fewestFor 13 = .ok (.iload_n 1, 1) := by decide +kernel
theorem dX4_fewestFor_14 : decode cX4_fewestFor 14 = .ok (.iload_n 3, 1) := by decide +kernel
theorem dX4_fewestFor_15 : decode cX4_fewestFor 15 = .ok (.invokevirtual 66, 3) := by decide +kernel
theorem dX4_fewestFor_18 : decode cX4_fewestFor 18 = .ok (.ifCond .eq 35, 3) := by decide +kernel
theorem dX4_fewestFor_21 : decode cX4_fewestFor 21 = .ok (.aload_n 0, 1) := by decide +kernel
theorem dX4_fewestFor_22 : decode cX4_fewestFor 22 = .ok (.getfield 11, 3) := by decide +kernel
theorem dX4_fewestFor_25 : decode cX4_fewestFor 25 = .ok (.iload_n 3, 1) := by decide +kernel
theorem dX4_fewestFor_26 : decode cX4_fewestFor 26 = .ok (.iaload, 1) := by decide +kernel
theorem dX4_fewestFor_27 : decode cX4_fewestFor 27 = .ok (.iload_n 1, 1) := by decide +kernel
theorem dX4_fewestFor_28 : decode cX4_fewestFor 28 = .ok (.iconst 1, 1) := by decide +kernel
theorem dX4_fewestFor_29 : decode cX4_fewestFor 29 = .ok (.iadd, 1) := by decide +kernel
theorem dX4_fewestFor_30 : decode cX4_fewestFor 30 = .ok (.ishr, 1) := by decide +kernel
theorem dX4_fewestFor_31 : decode cX4_fewestFor 31 = .ok (.invokestatic 70, 3) := by decide +kernel
theorem dX4_fewestFor_34 : decode cX4_fewestFor 34 = .ok (.istore 4, 2) := by decide +kernel
theorem dX4_fewestFor_36 : decode cX4_fewestFor 36 = .ok (.iload_n 2, 1) := by decide +kernel
theorem dX4_fewestFor_37 : decode cX4_fewestFor 37 = .ok (.aload_n 0, 1) := by decide +kernel
theorem dX4_fewestFor_38 : decode cX4_fewestFor 38 = .ok (.getfield 15, 3) := by decide +kernel
theorem dX4_fewestFor_41 : decode cX4_fewestFor 41 = .ok (.iload_n 3, 1) := by decide +kernel
theorem dX4_fewestFor_42 : decode cX4_fewestFor 42 = .ok (.iaload, 1) := by decide +kernel
theorem dX4_fewestFor_43 : decode cX4_fewestFor 43 = .ok (.bipush 9, 2) := by decide +kernel
theorem dX4_fewestFor_45 : decode cX4_fewestFor 45 = .ok (.iload 4, 2) := by decide +kernel
theorem dX4_fewestFor_47 : decode cX4_fewestFor 47 = .ok (.imul, 1) := by decide +kernel
theorem dX4_fewestFor_48 : decode cX4_fewestFor 48 = .ok (.isub, 1) := by decide +kernel
theorem dX4_fewestFor_49 : decode cX4_fewestFor 49 = .ok (.invokestatic 75, 3) := by decide +kernel
theorem dX4_fewestFor_52 : decode cX4_fewestFor 52 = .ok (.istore_n 2, 1) := by decide +kernel
theorem dX4_fewestFor_53 : decode cX4_fewestFor 53 = .ok (.iinc 3 1, 3) := by decide +kernel
theorem dX4_fewestFor_56 : decode cX4_fewestFor 56 = .ok (.goto (-52), 3) := by decide +kernel
theorem dX4_fewestFor_59 : decode cX4_fewestFor 59 = .ok (.iload_n 2, 1) := by decide +kernel
theorem dX4_fewestFor_60 : decode cX4_fewestFor 60 = .ok (.ireturn, 1) := by decide +kernel
set_option maxRecDepth 20000 in
theorem ggX4_greatestFor_X4_isIn : GoodIn wsX4_greatestFor wsX4_isIn := goodIn_r _ [11, 12, 13, 14, 15, 16, 17, 18, 19] (by decide +kernel) (by decide +kernel)
set_option maxRecDepth 20000 in
theorem gX4_greatestFor_X4_isIn : GoodIn wsX4_greatestFor (wsV RX4 66 RX4 yX4_isIn wsX4_isIn) := goodIn_app (goodIn_of _ (by decide +kernel)) ggX4_greatestFor_X4_isIn
theorem dX4_greatestFor_0 : decode cX4_greatestFor 0 = .ok (.bipush 9, 2) := by decide +kernel
theorem dX4_greatestFor_2 : decode cX4_greatestFor 2 = .ok (.istore_n 2, 1) := by decide +kernel
theorem dX4_greatestFor_3 : decode cX4_greatestFor 3 = .ok (.iconst 0, 1) := by decide +kernel
theorem dX4_greatestFor_4 : decode cX4_greatestFor 4 = .ok (.istore_n 3, 1) := by decide +kernel
theorem dX4_greatestFor_5 : decode cX4_greatestFor 5 = .ok (.iload_n 3, 1) := by decide +kernel
theorem dX4_greatestFor_6 : decode cX4_greatestFor 6 = .ok (.aload_n 0, 1) := by decide +kernel
theorem dX4_greatestFor_7 : decode cX4_greatestFor 7 = .ok (.getfield 26, 3) := by decide +kernel
theorem dX4_greatestFor_10 : decode cX4_greatestFor 10 = .ok (.if_icmp .ge 29, 3) := by decide +kernel
theorem dX4_greatestFor_13 : decode cX4_greatestFor 13 = .ok (.aload_n 0, 1) := by decide +kernel
theorem dX4_greatestFor_14 : decode cX4_greatestFor 14 = .ok (.iload_n 1, 1) := by decide +kernel
theorem dX4_greatestFor_15 : decode cX4_greatestFor 15 = .ok (.iload_n 3, 1) := by decide +kernel
theorem dX4_greatestFor_16 : decode cX4_greatestFor 16 = .ok (.invokevirtual 66, 3) := by decide +kernel
theorem dX4_greatestFor_19 : decode cX4_greatestFor 19 = .ok (.ifCond .eq 14, 3) := by decide +kernel
theorem dX4_greatestFor_22 : decode cX4_greatestFor 22 = .ok (.iload_n 2, 1) := by decide +kernel
theorem dX4_greatestFor_23 : decode cX4_greatestFor 23 = .ok (.aload_n 0, 1) := by decide +kernel
theorem dX4_greatestFor_24 : decode cX4_greatestFor 24 = .ok (.getfield 15, 3) := by decide +kernel
theorem dX4_greatestFor_27 : decode cX4_greatestFor 27 = .ok (.iload_n 3, 1) := by decide +kernel
theorem dX4_greatestFor_28 : decode cX4_greatestFor 28 = .ok (.iaload, 1) := by decide +kernel
theorem dX4_greatestFor_29 : decode cX4_greatestFor 29 = .ok (.invokestatic 81, 3) := by decide +kernel
theorem dX4_greatestFor_32 : decode cX4_greatestFor 32 = .ok (.istore_n 2, 1) := by decide +kernel
theorem dX4_greatestFor_33 : decode cX4_greatestFor 33 = .ok (.iinc 3 1, 3) := by decide +kernel
theorem dX4_greatestFor_36 : decode cX4_greatestFor 36 = .ok (.goto (-31), 3) := by decide +kernel
theorem dX4_greatestFor_39 : decode cX4_greatestFor 39 = .ok (.iload_n 2, 1) := by decide +kernel
theorem dX4_greatestFor_40 : decode cX4_greatestFor 40 = .ok (.ireturn, 1) := by decide +kernel
set_option maxRecDepth 20000 in
theorem ggX4_give_X4_isIn : GoodIn wsX4_give wsX4_isIn := goodIn_r _ [7, 8, 9, 10, 11, 12, 13, 14, 15] (by decide +kernel) (by decide +kernel)
set_option maxRecDepth 20000 in
theorem gX4_give_X4_isIn : GoodIn wsX4_give (wsV RX4 66 RX4 yX4_isIn wsX4_isIn) := goodIn_app (goodIn_of _ (by decide +kernel)) ggX4_give_X4_isIn
theorem dX4_give_0 : decode cX4_give 0 = .ok (.iconst 0, 1) := by decide +kernel
theorem dX4_give_1 : decode cX4_give 1 = .ok (.istore_n 3, 1) := by decide +kernel
theorem dX4_give_2 : decode cX4_give 2 = .ok (.iload_n 3, 1) := by decide +kernel
theorem dX4_give_3 : decode cX4_give 3 = .ok (.aload_n 0, 1) := by decide +kernel
theorem dX4_give_4 : decode cX4_give 4 = .ok (.getfield 26, 3) := by decide +kernel
theorem dX4_give_7 : decode cX4_give 7 = .ok (.if_icmp .ge 28, 3) := by decide +kernel
theorem dX4_give_10 : decode cX4_give 10 = .ok (.aload_n 0, 1) := by decide +kernel
theorem dX4_give_11 : decode cX4_give 11 = .ok (.iload_n 1, 1) := by decide +kernel
theorem dX4_give_12 : decode cX4_give 12 = .ok (.iload_n 3, 1) := by decide +kernel
theorem dX4_give_13 : decode cX4_give 13 = .ok (.invokevirtual 66, 3) := by decide +kernel
theorem dX4_give_16 : decode cX4_give 16 = .ok (.ifCond .eq 13, 3) := by decide +kernel
theorem dX4_give_19 : decode cX4_give 19 = .ok (.aload_n 0, 1) := by decide +kernel
theorem dX4_give_20 : decode cX4_give 20 = .ok (.getfield 15, 3) := by decide +kernel
theorem dX4_give_23 : decode cX4_give 23 = .ok (.iload_n 3, 1) := by decide +kernel
theorem dX4_give_24 : decode cX4_give 24 = .ok (.dup2, 1) := by decide +kernel
theorem dX4_give_25 : decode cX4_give 25 = .ok (.iaload, 1) := by decide +kernel
theorem dX4_give_26 : decode cX4_give 26 = .ok (.iload_n 2, 1) := by decide +kernel
theorem dX4_give_27 : decode cX4_give 27 = .ok (.isub, 1) := by decide +kernel
theorem dX4_give_28 : decode cX4_give 28 = .ok (.iastore, 1) := by decide +kernel
theorem dX4_give_29 : decode cX4_give 29 = .ok (.iinc 3 1, 3) := by decide +kernel
theorem dX4_give_32 : decode cX4_give 32 = .ok (.goto (-30), 3) := by decide +kernel
theorem dX4_give_35 : decode cX4_give 35 = .ok (.return_, 1) := by decide +kernel
theorem dX4_noted_0 : decode cX4_noted 0 = .ok (.iload 4, 2) := by decide +kernel
theorem dX4_noted_2 : decode cX4_noted 2 = .ok (.ifCond .le 44, 3) := by decide +kernel
theorem dX4_noted_5 : decode cX4_noted 5 = .ok (.iload_n 1, 1) := by decide +kernel
theorem dX4_noted_6 : decode cX4_noted 6 = .ok (.ifCond .lt 40, 3) := by decide +kernel
theorem dX4_noted_9 : decode cX4_noted 9 = .ok (.iload_n 1, 1) := by decide +kernel
theorem dX4_noted_10 : decode cX4_noted 10 = .ok (.iconst 5, 1) := by decide +kernel
theorem dX4_noted_11 : decode cX4_noted 11 = .ok (.if_icmp .ge 35, 3) := by decide +kernel
theorem dX4_noted_14 : decode cX4_noted 14 = .ok (.aload_n 0, 1) := by decide +kernel
theorem dX4_noted_15 : decode cX4_noted 15 = .ok (.getfield 20, 3) := by decide +kernel
theorem dX4_noted_18 : decode cX4_noted 18 = .ok (.iload_n 1, 1) := by decide +kernel
theorem dX4_noted_19 : decode cX4_noted 19 = .ok (.aload_n 0, 1) := by decide +kernel
theorem dX4_noted_20 : decode cX4_noted 20 = .ok (.getfield 20, 3) := by decide +kernel
theorem dX4_noted_23 : decode cX4_noted 23 = .ok (.iload_n 1, 1) := by decide +kernel
theorem dX4_noted_24 : decode cX4_noted 24 = .ok (.iaload, 1) := by decide +kernel
theorem dX4_noted_25 : decode cX4_noted 25 = .ok (.iload_n 2, 1) := by decide +kernel
theorem dX4_noted_26 : decode cX4_noted 26 = .ok (.invokestatic 81, 3) := by decide +kernel
theorem dX4_noted_29 : decode cX4_noted 29 = .ok (.iastore, 1) := by decide +kernel
theorem dX4_noted_30 : decode cX4_noted 30 = .ok (.aload_n 0, 1) := by decide +kernel
theorem dX4_noted_31 : decode cX4_noted 31 = .ok (.getfield 23, 3) := by decide +kernel
theorem dX4_noted_34 : decode cX4_noted 34 = .ok (.iload_n 1, 1) := by decide +kernel
theorem dX4_noted_35 : decode cX4_noted 35 = .ok (.aload_n 0, 1) := by decide +kernel
theorem dX4_noted_36 : decode cX4_noted 36 = .ok (.getfield 23, 3) := by decide +kernel
theorem dX4_noted_39 : decode cX4_noted 39 = .ok (.iload_n 1, 1) := by decide +kernel
theorem dX4_noted_40 : decode cX4_noted 40 = .ok (.iaload, 1) := by decide +kernel
theorem dX4_noted_41 : decode cX4_noted 41 = .ok (.iload_n 3, 1) := by decide +kernel
theorem dX4_noted_42 : decode cX4_noted 42 = .ok (.invokestatic 75, 3) := by decide +kernel
theorem dX4_noted_45 : decode cX4_noted 45 = .ok (.iastore, 1) := by decide +kernel
theorem dX4_noted_46 : decode cX4_noted 46 = .ok (.iload 4, 2) := by decide +kernel
theorem dX4_noted_48 : decode cX4_noted 48 = .ok (.ireturn, 1) := by decide +kernel
theorem dX5_init_0 : decode cX5_init 0 = .ok (.aload_n 0, 1) := by decide +kernel
theorem dX5_init_1 : decode cX5_init 1 = .ok (.invokespecial 1, 3) := by decide +kernel
theorem dX5_init_4 : decode cX5_init 4 = .ok (.aload_n 0, 1) := by decide +kernel
theorem dX5_init_5 : decode cX5_init 5 = .ok (.bipush 52, 2) := by decide +kernel
theorem dX5_init_7 : decode cX5_init 7 = .ok (.newarray .int, 2) := by decide +kernel
theorem dX5_init_9 : decode cX5_init 9 = .ok (.putfield 11, 3) := by decide +kernel
theorem dX5_init_12 : decode cX5_init 12 = .ok (.aload_n 0, 1) := by decide +kernel
theorem dX5_init_13 : decode cX5_init 13 = .ok (.iconst 0, 1) := by decide +kernel
theorem dX5_init_14 : decode cX5_init 14 = .ok (.putfield 15, 3) := by decide +kernel
theorem dX5_init_17 : decode cX5_init 17 = .ok (.return_, 1) := by decide +kernel
theorem dX5_isSlot_0 : decode cX5_isSlot 0 = .ok (.iload_n 0, 1) := by decide +kernel
theorem dX5_isSlot_1 : decode cX5_isSlot 1 = .ok (.ifCond .lt 12, 3) := by decide +kernel
theorem dX5_isSlot_4 : decode cX5_isSlot 4 = .ok (.iload_n 0, 1) := by decide +kernel
theorem dX5_isSlot_5 : decode cX5_isSlot 5 = .ok (.iconst 2, 1) := by decide +kernel
theorem dX5_isSlot_6 : decode cX5_isSlot 6 = .ok (.if_icmp .ge 7, 3) := by decide +kernel
theorem dX5_isSlot_9 : decode cX5_isSlot 9 = .ok (.iconst 1, 1) := by decide +kernel
theorem dX5_isSlot_10 : decode cX5_isSlot 10 = .ok (.goto 4, 3) := by decide +kernel
theorem dX5_isSlot_13 : decode cX5_isSlot 13 = .ok (.iconst 0, 1) := by decide +kernel
theorem dX5_isSlot_14 : decode cX5_isSlot 14 = .ok (.ireturn, 1) := by decide +kernel
theorem dX5_clear_0 : decode cX5_clear 0 = .ok (.aload_n 0, 1) := by decide +kernel
theorem dX5_clear_1 : decode cX5_clear 1 = .ok (.iconst 0, 1) := by decide +kernel
theorem dX5_clear_2 : decode cX5_clear 2 = .ok (.putfield 15, 3) := by decide +kernel
theorem dX5_clear_5 : decode cX5_clear 5 = .ok (.return_, 1) := by decide +kernel
set_option maxRecDepth 20000 in
theorem ggX5_holds_X5_isSlot : GoodIn wsX5_holds wsX5_isSlot := goodIn_r _ [5] (by decide +kernel) (by decide +kernel)
set_option maxRecDepth 20000 in
theorem gX5_holds_X5_isSlot : GoodIn wsX5_holds (va_wsS RX5 19 yX5_isSlot wsX5_isSlot) := goodIn_app (goodIn_of _ (by decide +kernel)) ggX5_holds_X5_isSlot
theorem dX5_holds_0 : decode cX5_holds 0 = .ok (.iload_n 1, 1) := by decide +kernel
theorem dX5_holds_1 : decode cX5_holds 1 = .ok (.invokestatic 19, 3) := by decide +kernel
theorem dX5_holds_4 : decode cX5_holds 4 = .ok (.ifCond .eq 19, 3) := by decide +kernel
theorem dX5_holds_7 : decode cX5_holds 7 = .ok (.aload_n 0, 1) := by decide +kernel
theorem dX5_holds_8 : decode cX5_holds 8 = .ok (.getfield 15, 3) := by decide +kernel
theorem dX5_holds_11 : decode cX5_holds 11 = .ok (.iload_n 1, 1) := by decide +kernel
theorem dX5_holds_12 : decode cX5_holds 12 = .ok (.ishr, 1) := by decide +kernel
theorem dX5_holds_13 : decode cX5_holds 13 = .ok (.iconst 1, 1) := by decide +kernel
theorem dX5_holds_14 : decode cX5_holds 14 = .ok (.iand, 1) := by decide +kernel
theorem dX5_holds_15 : decode cX5_holds 15 = .ok (.iconst 1, 1) := by decide +kernel
theorem dX5_holds_16 : decode cX5_holds 16 = .ok (.if_icmp .ne 7, 3) := by decide +kernel
theorem dX5_holds_19 : decode cX5_holds 19 = .ok (.iconst 1, 1) := by decide +kernel
theorem dX5_holds_20 : decode cX5_holds 20 = .ok (.goto 4, 3) := by decide +kernel
theorem dX5_holds_23 : decode cX5_holds 23 = .ok (.iconst 0, 1) := by decide +kernel
theorem dX5_holds_24 : decode cX5_holds 24 = .ok (.ireturn, 1) := by decide +kernel
set_option maxRecDepth 20000 in
theorem ggX5_put_X5_isSlot : GoodIn wsX5_put wsX5_isSlot := goodIn_r _ [6] (by decide +kernel) (by decide +kernel)
set_option maxRecDepth 20000 in
theorem gX5_put_X5_isSlot : GoodIn wsX5_put (va_wsS RX5 19 yX5_isSlot wsX5_isSlot) := goodIn_app (goodIn_of _ (by decide +kernel)) ggX5_put_X5_isSlot
set_option maxRecDepth 20000 in
theorem ggX5_put_X2_copyTo : GoodIn wsX5_put wsX2_copyTo := goodIn_r _ [11, 12, 13, 14, 15, 16, 19, 20, 21, 22] (by decide +kernel) (by decide +kernel)
set_option maxRecDepth 20000 in
theorem gX5_put_X2_copyTo : GoodIn wsX5_put (wsV RX5 23 RX2 yX2_copyTo wsX2_copyTo) := goodIn_app (goodIn_of _ (by decide +kernel)) ggX5_put_X2_copyTo
theorem dX5_put_0 : decode cX5_put 0 = .ok (.iload_n 1, 1) := by decide +kernel
theorem dX5_put_1 : decode cX5_put 1 = .ok (.invokestatic 19, 3) := by decide +kernel
theorem dX5_put_4 : decode cX5_put 4 = .ok (.ifCond .eq 24, 3) := by decide +kernel
theorem dX5_put_7 : decode cX5_put 7 = .ok (.aload_n 2, 1) := by decide +kernel
theorem dX5_put_8 : decode cX5_put 8 = .ok (.aload_n 0, 1) := by decide +kernel
theorem dX5_put_9 : decode cX5_put 9 = .ok (.getfield 11, 3) := by decide +kernel
theorem dX5_put_12 : decode cX5_put 12 = .ok (.iload_n 1, 1) := by decide +kernel
theorem dX5_put_13 : decode cX5_put 13 = .ok (.invokevirtual 23, 3) := by decide +kernel
theorem dX5_put_16 : decode cX5_put 16 = .ok (.aload_n 0, 1) := by decide +kernel
theorem dX5_put_17 : decode cX5_put 17 = .ok (.dup, 1) := by decide +kernel
theorem dX5_put_18 : decode cX5_put 18 = .ok (.getfield 15, 3) := by decide +kernel
theorem dX5_put_21 : decode cX5_put 21 = .ok (.iconst 1, 1) := by decide +kernel
theorem dX5_put_22 : decode cX5_put 22 = .ok (.iload_n 1, 1) := by decide +kernel
theorem dX5_put_23 : decode cX5_put 23 = .ok (.ishl, 1) := by decide +kernel
theorem dX5_put_24 : decode cX5_put 24 = .ok (.ior, 1) := by decide +kernel
theorem dX5_put_25 : decode cX5_put 25 = .ok (.putfield 15, 3) := by decide +kernel
theorem dX5_put_28 : decode cX5_put 28 = .ok (.return_, 1) := by decide +kernel
set_option maxRecDepth 20000 in
theorem ggX5_bring_X5_holds : GoodIn wsX5_bring wsX5_holds := goodIn_r _ [6, 7, 8, 9, 5, 10, 21, 22] (by decide +kernel) (by decide +kernel)
set_option maxRecDepth 20000 in
theorem gX5_bring_X5_holds : GoodIn wsX5_bring (wsV RX5 27 RX5 yX5_holds wsX5_holds) := goodIn_app (goodIn_of _ (by decide +kernel)) ggX5_bring_X5_holds
set_option maxRecDepth 20000 in
theorem ggX5_bring_X2_copyFrom : GoodIn wsX5_bring wsX2_copyFrom := goodIn_r _ [15, 16, 17, 18, 19, 20, 23, 24, 25, 26] (by decide +kernel) (by decide +kernel)
set_option maxRecDepth 20000 in
theorem gX5_bring_X2_copyFrom : GoodIn wsX5_bring (wsV RX5 30 RX2 yX2_copyFrom wsX2_copyFrom) := goodIn_app (goodIn_of _ (by decide +kernel)) ggX5_bring_X2_copyFrom
theorem dX5_bring_0 : decode cX5_bring 0 = .ok (.aload_n 0, 1) := by decide +kernel
theorem dX5_bring_1 : decode cX5_bring 1 = .ok (.iload_n 1, 1) := by decide +kernel
theorem dX5_bring_2 : decode cX5_bring 2 = .ok (.invokevirtual 27, 3) := by decide +kernel
theorem dX5_bring_5 : decode cX5_bring 5 = .ok (.ifCond .eq 12, 3) := by decide +kernel
theorem dX5_bring_8 : decode cX5_bring 8 = .ok (.aload_n 2, 1) := by decide +kernel
theorem dX5_bring_9 : decode cX5_bring 9 = .ok (.aload_n 0, 1) := by decide +kernel
theorem dX5_bring_10 : decode cX5_bring 10 = .ok (.getfield 11, 3) := by decide +kernel
theorem dX5_bring_13 : decode cX5_bring 13 = .ok (.iload_n 1, 1) := by decide +kernel
theorem dX5_bring_14 : decode cX5_bring 14 = .ok (.invokevirtual 30, 3) := by decide +kernel
theorem dX5_bring_17 : decode cX5_bring 17 = .ok (.return_, 1) := by decide +kernel
theorem dX6_init_0 : decode cX6_init 0 = .ok (.aload_n 0, 1) := by decide +kernel
theorem dX6_init_1 : decode cX6_init 1 = .ok (.invokespecial 3, 3) := by decide +kernel
theorem dX6_init_4 : decode cX6_init 4 = .ok (.aload_n 0, 1) := by decide +kernel
theorem dX6_init_5 : decode cX6_init 5 = .ok (.bipush 10, 2) := by decide +kernel
theorem dX6_init_7 : decode cX6_init 7 = .ok (.newarray .int, 2) := by decide +kernel
theorem dX6_init_9 : decode cX6_init 9 = .ok (.putfield 9, 3) := by decide +kernel
theorem dX6_init_12 : decode cX6_init 12 = .ok (.aload_n 0, 1) := by decide +kernel
theorem dX6_init_13 : decode cX6_init 13 = .ok (.bipush 10, 2) := by decide +kernel
theorem dX6_init_15 : decode cX6_init 15 = .ok (.newarray .int, 2) := by decide +kernel
theorem dX6_init_17 : decode cX6_init 17 = .ok (.putfield 13, 3) := by decide +kernel
theorem dX6_init_20 : decode cX6_init 20 = .ok (.aload_n 0, 1) := by decide +kernel
theorem dX6_init_21 : decode cX6_init 21 = .ok (.bipush 10, 2) := by decide +kernel
theorem dX6_init_23 : decode cX6_init 23 = .ok (.newarray .int, 2) := by decide +kernel
theorem dX6_init_25 : decode cX6_init 25 = .ok (.putfield 16, 3) := by decide +kernel
theorem dX6_init_28 : decode cX6_init 28 = .ok (.aload_n 0, 1) := by decide +kernel
theorem dX6_init_29 : decode cX6_init 29 = .ok (.iconst 0, 1) := by decide +kernel
theorem dX6_init_30 : decode cX6_init 30 = .ok (.putfield 19, 3) := by decide +kernel
theorem dX6_init_33 : decode cX6_init 33 = .ok (.return_, 1) := by decide +kernel
set_option maxRecDepth 20000 in
theorem ggX6_mayStand_J6_bitCount_0f7a4 : GoodIn wsX6_mayStand wsJ6_bitCount_0f7a4 := goodIn_r _ [4, 5, 6, 7] (by decide +kernel) (by decide +kernel)
set_option maxRecDepth 20000 in
theorem gX6_mayStand_J6_bitCount_0f7a4 : GoodIn wsX6_mayStand (va_wsS RX6 23 yJ6_bitCount_0f7a4 wsJ6_bitCount_0f7a4) := goodIn_app (goodIn_of _ (by decide +kernel)) ggX6_mayStand_J6_bitCount_0f7a4
theorem dX6_mayStand_0 : decode cX6_mayStand 0 = .ok (.iload_n 0, 1) := by decide +kernel
theorem dX6_mayStand_1 : decode cX6_mayStand 1 = .ok (.ifCond .le 25, 3) := by decide +kernel
theorem dX6_mayStand_4 : decode cX6_mayStand 4 = .ok (.iload_n 0, 1) := by decide +kernel
theorem dX6_mayStand_5 : decode cX6_mayStand 5 = .ok (.sipush 511, 3) := by decide +kernel
theorem dX6_mayStand_8 : decode cX6_mayStand 8 = .ok (.if_icmp .gt 18, 3) := by decide +kernel
theorem dX6_mayStand_11 : decode cX6_mayStand 11 = .ok (.iload_n 1, 1) := by decide +kernel
theorem dX6_mayStand_12 : decode cX6_mayStand 12 = .ok (.ifCond .le 14, 3) := by decide +kernel
theorem dX6_mayStand_15 : decode cX6_mayStand 15 = .ok (.iload_n 1, 1) := by decide +kernel
theorem dX6_mayStand_16 : decode cX6_mayStand 16 = .ok (.sipush 511, 3) := by decide +kernel
theorem dX6_mayStand_19 : decode cX6_mayStand 19 = .ok (.if_icmp .gt 7, 3) := by decide +kernel
theorem dX6_mayStand_22 : decode cX6_mayStand 22 = .ok (.iconst 1, 1) := by decide +kernel
theorem dX6_mayStand_23 : decode cX6_mayStand 23 = .ok (.goto 4, 3) := by decide +kernel
theorem dX6_mayStand_26 : decode cX6_mayStand 26 = .ok (.iconst 0, 1) := by decide +kernel
theorem dX6_mayStand_27 : decode cX6_mayStand 27 = .ok (.istore_n 2, 1) := by decide +kernel
theorem dX6_mayStand_28 : decode cX6_mayStand 28 = .ok (.iload_n 2, 1) := by decide +kernel
theorem dX6_mayStand_29 : decode cX6_mayStand 29 = .ok (.ifCond .eq 24, 3) := by decide +kernel
theorem dX6_mayStand_32 : decode cX6_mayStand 32 = .ok (.iload_n 0, 1) := by decide +kernel
theorem dX6_mayStand_33 : decode cX6_mayStand 33 = .ok (.iload_n 1, 1) := by decide +kernel
theorem dX6_mayStand_34 : decode cX6_mayStand 34 = .ok (.iand, 1) := by decide +kernel
theorem dX6_mayStand_35 : decode cX6_mayStand 35 = .ok (.ifCond .ne 18, 3) := by decide +kernel
theorem dX6_mayStand_38 : decode cX6_mayStand 38 = .ok (.iload_n 0, 1) := by decide +kernel
theorem dX6_mayStand_39 : decode cX6_mayStand 39 = .ok (.invokestatic 23, 3) := by decide +kernel
theorem dX6_mayStand_42 : decode cX6_mayStand 42 = .ok (.iload_n 1, 1) := by decide +kernel
theorem dX6_mayStand_43 : decode cX6_mayStand 43 = .ok (.invokestatic 23, 3) := by decide +kernel
theorem dX6_mayStand_46 : decode cX6_mayStand 46 = .ok (.if_icmp .ne 7, 3) := by decide +kernel
theorem dX6_mayStand_49 : decode cX6_mayStand 49 = .ok (.iconst 1, 1) := by decide +kernel
theorem dX6_mayStand_50 : decode cX6_mayStand 50 = .ok (.goto 4, 3) := by decide +kernel
theorem dX6_mayStand_53 : decode cX6_mayStand 53 = .ok (.iconst 0, 1) := by decide +kernel
theorem dX6_mayStand_54 : decode cX6_mayStand 54 = .ok (.ireturn, 1) := by decide +kernel
theorem dX6_length_0 : decode cX6_length 0 = .ok (.aload_n 0, 1) := by decide +kernel
theorem dX6_length_1 : decode cX6_length 1 = .ok (.getfield 19, 3) := by decide +kernel
theorem dX6_length_4 : decode cX6_length 4 = .ok (.ireturn, 1) := by decide +kernel
theorem dX6_clear_0 : decode cX6_clear 0 = .ok (.aload_n 0, 1) := by decide +kernel
theorem dX6_clear_1 : decode cX6_clear 1 = .ok (.iconst 0, 1) := by decide +kernel
theorem dX6_clear_2 : decode cX6_clear 2 = .ok (.putfield 19, 3) := by decide +kernel
theorem dX6_clear_5 : decode cX6_clear 5 = .ok (.return_, 1) := by decide +kernel
theorem dX6_append_0 : decode cX6_append 0 = .ok (.aload_n 0, 1) := by decide +kernel
theorem dX6_append_1 : decode cX6_append 1 = .ok (.getfield 19, 3) := by decide +kernel
theorem dX6_append_4 : decode cX6_append 4 = .ok (.bipush 10, 2) := by decide +kernel
theorem dX6_append_6 : decode cX6_append 6 = .ok (.if_icmp .ne 5, 3) := by decide +kernel
theorem dX6_append_9 : decode cX6_append 9 = .ok (.iconst 0, 1) := by decide +kernel
theorem dX6_append_10 : decode cX6_append 10 = .ok (.ireturn, 1) := by decide +kernel
theorem dX6_append_11 : decode cX6_append 11 = .ok (.aload_n 0, 1) := by decide +kernel
theorem dX6_append_12 : decode cX6_append 12 = .ok (.getfield 9, 3) := by decide +kernel
theorem dX6_append_15 : decode cX6_append 15 = .ok (.aload_n 0, 1) := by decide +kernel
theorem dX6_append_16 : decode cX6_append 16 = .ok (.getfield 19, 3) := by decide +kernel
theorem dX6_append_19 : decode cX6_append 19 = .ok (.iload_n 1, 1) := by decide +kernel
theorem dX6_append_20 : decode cX6_append 20 = .ok (.iastore, 1) := by decide +kernel
theorem dX6_append_21 : decode cX6_append 21 = .ok (.aload_n 0, 1) := by decide +kernel
theorem dX6_append_22 : decode cX6_append 22 = .ok (.getfield 13, 3) := by decide +kernel
theorem dX6_append_25 : decode cX6_append 25 = .ok (.aload_n 0, 1) := by decide +kernel
theorem dX6_append_26 : decode cX6_append 26 = .ok (.getfield 19, 3) := by decide +kernel
theorem dX6_append_29 : decode cX6_append 29 = .ok (.iload_n 2, 1) := by decide +kernel
theorem dX6_append_30 : decode cX6_append 30 = .ok (.iastore, 1) := by decide +kernel
theorem dX6_append_31 : decode cX6_append 31 = .ok (.aload_n 0, 1) := by decide +kernel
theorem dX6_append_32 : decode cX6_append 32 = .ok (.getfield 16, 3) := by decide +kernel
theorem dX6_append_35 : decode cX6_append 35 = .ok (.aload_n 0, 1) := by decide +kernel
theorem dX6_append_36 : decode cX6_append 36 = .ok (.getfield 19, 3) := by decide +kernel
theorem dX6_append_39 : decode cX6_append 39 = .ok (.iload_n 3, 1) := by decide +kernel
theorem dX6_append_40 : decode cX6_append 40 = .ok (.iastore, 1) := by decide +kernel
theorem dX6_append_41 : decode cX6_append 41 = .ok (.aload_n 0, 1) := by decide +kernel
theorem dX6_append_42 : decode cX6_append 42 = .ok (.dup, 1) := by decide +kernel
theorem dX6_append_43 : decode cX6_append 43 = .ok (.getfield 19, 3) := by decide +kernel
theorem dX6_append_46 : decode cX6_append 46 = .ok (.iconst 1, 1) := by decide +kernel
theorem dX6_append_47 : decode cX6_append 47 = .ok (.iadd, 1) := by decide +kernel
theorem dX6_append_48 : decode cX6_append 48 = .ok (.putfield 19, 3) := by decide +kernel
theorem dX6_append_51 : decode cX6_append 51 = .ok (.iconst 1, 1) := by decide +kernel
theorem dX6_append_52 : decode cX6_append 52 = .ok (.ireturn, 1) := by decide +kernel
set_option maxRecDepth 20000 in
theorem ggX6_suspects_X6_suspectsBy : GoodIn wsX6_suspects wsX6_suspectsBy := goodIn_r _ [6, 7, 8, 9, 10, 11, 12, 13] (by decide +kernel) (by decide +kernel)
set_option maxRecDepth 20000 in
theorem gX6_suspects_X6_suspectsBy : GoodIn wsX6_suspects (wsV RX6 29 RX6 yX6_suspectsBy wsX6_suspectsBy) := goodIn_app (goodIn_of _ (by decide +kernel)) ggX6_suspects_X6_suspectsBy
theorem dX6_suspects_0 : decode cX6_suspects 0 = .ok (.sipush 511, 3) := by decide +kernel
theorem dX6_suspects_3 : decode cX6_suspects 3 = .ok (.istore_n 2, 1) := by decide +kernel
theorem dX6_suspects_4 : decode cX6_suspects 4 = .ok (.iconst 0, 1) := by decide +kernel
theorem dX6_suspects_5 : decode cX6_suspects 5 = .ok (.istore_n 3, 1) := by decide +kernel
theorem dX6_suspects_6 : decode cX6_suspects 6 = .ok (.iload_n 3, 1) := by decide +kernel
theorem dX6_suspects_7 : decode cX6_suspects 7 = .ok (.aload_n 0, 1) := by decide +kernel
theorem dX6_suspects_8 : decode cX6_suspects 8 = .ok (.getfield 19, 3) := by decide +kernel
theorem dX6_suspects_11 : decode cX6_suspects 11 = .ok (.if_icmp .ge 18, 3) := by decide +kernel
theorem dX6_suspects_14 : decode cX6_suspects 14 = .ok (.iload_n 2, 1) := by decide +kernel
theorem dX6_suspects_15 : decode cX6_suspects 15 = .ok (.aload_n 0, 1) := by decide +kernel
theorem dX6_suspects_16 : decode cX6_suspects 16 = .ok (.iload_n 3, 1) := by decide +kernel
theorem dX6_suspects_17 : decode cX6_suspects 17 = .ok (.iload_n 1, 1) := by decide +kernel
theorem dX6_suspects_18 : decode cX6_suspects 18 = .ok (.invokevirtual 29, 3) := by decide +kernel
theorem dX6_suspects_21 : decode cX6_suspects 21 = .ok (.iand, 1) := by decide +kernel
theorem dX6_suspects_22 : decode cX6_suspects 22 = .ok (.istore_n 2, 1) := by decide +kernel
theorem dX6_suspects_23 : decode cX6_suspects 23 = .ok (.iinc 3 1, 3) := by decide +kernel
theorem dX6_suspects_26 : decode cX6_suspects 26 = .ok (.goto (-20), 3) := by decide +kernel
theorem dX6_suspects_29 : decode cX6_suspects 29 = .ok (.iload_n 2, 1) := by decide +kernel
theorem dX6_suspects_30 : decode cX6_suspects 30 = .ok (.ireturn, 1) := by decide +kernel
theorem dX6_suspectsBy_0 : decode cX6_suspectsBy 0 = .ok (.aload_n 0, 1) := by decide +kernel
theorem dX6_suspectsBy_1 : decode cX6_suspectsBy 1 = .ok (.getfield 16, 3) := by decide +kernel
theorem dX6_suspectsBy_4 : decode cX6_suspectsBy 4 = .ok (.iload_n 1, 1) := by decide +kernel
theorem dX6_suspectsBy_5 : decode cX6_suspectsBy 5 = .ok (.iaload, 1) := by decide +kernel
theorem dX6_suspectsBy_6 : decode cX6_suspectsBy 6 = .ok (.ifCond .ne 23, 3) := by decide +kernel
theorem dX6_suspectsBy_9 : decode cX6_suspectsBy 9 = .ok (.sipush 511, 3) := by decide +kernel
theorem dX6_suspectsBy_12 : decode cX6_suspectsBy 12 = .ok (.aload_n 0, 1) := by decide +kernel
theorem dX6_suspectsBy_13 : decode cX6_suspectsBy 13 = .ok (.getfield 9, 3) := by decide +kernel
theorem dX6_suspectsBy_16 : decode cX6_suspectsBy 16 = .ok (.iload_n 1, 1) := by decide +kernel
theorem dX6_suspectsBy_17 : decode cX6_suspectsBy 17 = .ok (.iaload, 1) := by decide +kernel
theorem dX6_suspectsBy_18 : decode cX6_suspectsBy 18 = .ok (.aload_n 0, 1) := by decide +kernel
theorem dX6_suspectsBy_19 : decode cX6_suspectsBy 19 = .ok (.getfield 13, 3) := by decide +kernel
theorem dX6_suspectsBy_22 : decode cX6_suspectsBy 22 = .ok (.iload_n 1, 1) := by decide +kernel
theorem dX6_suspectsBy_23 : decode cX6_suspectsBy 23 = .ok (.iaload, 1) := by decide +kernel
theorem dX6_suspectsBy_24 : decode cX6_suspectsBy 24 = .ok (.ior, 1) := by decide +kernel
theorem dX6_suspectsBy_25 : decode cX6_suspectsBy 25 = .ok (.iconst (-1), 1) := by decide +kernel
theorem dX6_suspectsBy_26 : decode cX6_suspectsBy 26 = .ok (.ixor, 1) := by decide +kernel
theorem dX6_suspectsBy_27 : decode cX6_suspectsBy 27 = .ok (.iand, 1) := by decide +kernel
theorem dX6_suspectsBy_28 : decode cX6_suspectsBy 28 = .ok (.ireturn, 1) := by decide +kernel
theorem dX6_suspectsBy_29 : decode cX6_suspectsBy 29 = .ok (.aload_n 0, 1) := by decide +kernel
theorem dX6_suspectsBy_30 : decode cX6_suspectsBy 30 = .ok (.getfield 16, 3) := by decide +kernel
theorem dX6_suspectsBy_33 : decode cX6_suspectsBy 33 = .ok (.iload_n 1, 1) := by decide +kernel
theorem dX6_suspectsBy_34 : decode cX6_suspectsBy 34 = .ok (.iaload, 1) := by decide +kernel
theorem dX6_suspectsBy_35 : decode cX6_suspectsBy 35 = .ok (.iconst 1, 1) := by decide +kernel
theorem dX6_suspectsBy_36 : decode cX6_suspectsBy 36 = .ok (.if_icmp .ne 7, 3) := by decide +kernel
theorem dX6_suspectsBy_39 : decode cX6_suspectsBy 39 = .ok (.iconst 1, 1) := by decide +kernel
theorem dX6_suspectsBy_40 : decode cX6_suspectsBy 40 = .ok (.goto 4, 3) := by decide +kernel
theorem dX6_suspectsBy_43 : decode cX6_suspectsBy 43 = .ok (.iconst 0, 1) := by decide +kernel
theorem dX6_suspectsBy_44 : decode cX6_suspectsBy 44 = .ok (.istore_n 3, 1) := by decide +kernel
theorem dX6_suspectsBy_45 : decode cX6_suspectsBy 45 = .ok (.iload_n 3, 1) := by decide +kernel
theorem dX6_suspectsBy_46 : decode cX6_suspectsBy 46 = .ok (.iload_n 2, 1) := by decide +kernel
theorem dX6_suspectsBy_47 : decode cX6_suspectsBy 47 = .ok (.if_icmp .ne 12, 3) := by decide +kernel
theorem dX6_suspectsBy_50 : decode cX6_suspectsBy 50 = .ok (.aload_n 0, 1) := by decide +kernel
theorem dX6_suspectsBy_51 : decode cX6_suspectsBy 51 = .ok (.getfield 9, 3) := by decide +kernel
theorem dX6_suspectsBy_54 : decode cX6_suspectsBy 54 = .ok (.iload_n 1, 1) := by decide +kernel
theorem dX6_suspectsBy_55 : decode cX6_suspectsBy 55 = .ok (.iaload, 1) := by decide +kernel
theorem dX6_suspectsBy_56 : decode cX6_suspectsBy 56 = .ok (.goto 9, 3) := by decide +kernel
theorem dX6_suspectsBy_59 : decode cX6_suspectsBy 59 = .ok (.aload_n 0, 1) := by decide +kernel
theorem dX6_suspectsBy_60 : decode cX6_suspectsBy 60 = .ok (.getfield 13, 3) := by decide +kernel
theorem dX6_suspectsBy_63 : decode cX6_suspectsBy 63 = .ok (.iload_n 1, 1) := by decide +kernel
theorem dX6_suspectsBy_64 : decode cX6_suspectsBy 64 = .ok (.iaload, 1) := by decide +kernel
theorem dX6_suspectsBy_65 : decode cX6_suspectsBy 65 = .ok (.ireturn, 1) := by decide +kernel
set_option maxRecDepth 20000 in
theorem ggX7_init_X2_init : GoodIn wsX7_init wsX2_init := goodIn_r _ [11, 12, 2, 3, 13, 14, 15, 16, 17, 18, 19, 20, 21] (by decide +kernel) (by decide +kernel)
set_option maxRecDepth 20000 in
theorem gX7_init_X2_init : GoodIn wsX7_init (wsX2_init) := ggX7_init_X2_init
theorem dX7_init_0 : decode cX7_init 0 = .ok (.aload_n 0, 1) := by decide +kernel
theorem dX7_init_1 : decode cX7_init 1 = .ok (.invokespecial 1, 3) := by decide +kernel
theorem dX7_init_4 : decode cX7_init 4 = .ok (.aload_n 0, 1) := by decide +kernel
theorem dX7_init_5 : decode cX7_init 5 = .ok (.new 7, 3) := by decide +kernel
theorem dX7_init_8 : decode cX7_init 8 = .ok (.dup, 1) := by decide +kernel
theorem dX7_init_9 : decode cX7_init 9 = .ok (.invokespecial 9, 3) := by decide +kernel
theorem dX7_init_12 : decode cX7_init 12 = .ok (.putfield 10, 3) := by decide +kernel
theorem dX7_init_15 : decode cX7_init 15 = .ok (.aload_n 0, 1) := by decide +kernel
theorem dX7_init_16 : decode cX7_init 16 = .ok (.lconst 0, 1) := by decide +kernel
theorem dX7_init_17 : decode cX7_init 17 = .ok (.putfield 16, 3) := by decide +kernel
theorem dX7_init_20 : decode cX7_init 20 = .ok (.return_, 1) := by decide +kernel
theorem dX7_sow_0 : decode cX7_sow 0 = .ok (.aload_n 0, 1) := by decide +kernel
theorem dX7_sow_1 : decode cX7_sow 1 = .ok (.getfield 16, 3) := by decide +kernel
theorem dX7_sow_4 : decode cX7_sow 4 = .ok (.lstore_n 3, 1) := by decide +kernel
theorem dX7_sow_5 : decode cX7_sow 5 = .ok (.aload_n 0, 1) := by decide +kernel
theorem dX7_sow_6 : decode cX7_sow 6 = .ok (.lload_n 1, 1) := by decide +kernel
theorem dX7_sow_7 : decode cX7_sow 7 = .ok (.putfield 16, 3) := by decide +kernel
theorem dX7_sow_10 : decode cX7_sow 10 = .ok (.lload_n 3, 1) := by decide +kernel
theorem dX7_sow_11 : decode cX7_sow 11 = .ok (.lreturn, 1) := by decide +kernel
set_option maxRecDepth 20000 in
theorem ggX7_monthsOf_X2_becomeLike : GoodIn wsX7_monthsOf wsX2_becomeLike := goodIn_r _ [6, 7, 8, 9, 10, 11, 12, 13, 14, 69, 70, 71, 72] (by decide +kernel) (by decide +kernel)
set_option maxRecDepth 20000 in
theorem gX7_monthsOf_X2_becomeLike : GoodIn wsX7_monthsOf (wsV RX7 20 RX2 yX2_becomeLike wsX2_becomeLike) := goodIn_app (goodIn_of _ (by decide +kernel)) ggX7_monthsOf_X2_becomeLike
set_option maxRecDepth 20000 in
theorem ggX7_monthsOf_X2_size : GoodIn wsX7_monthsOf wsX2_size := goodIn_r _ [18, 12, 69, 70, 71, 72] (by decide +kernel) (by decide +kernel)
set_option maxRecDepth 20000 in
theorem gX7_monthsOf_X2_size : GoodIn wsX7_monthsOf (wsV RX7 24 RX2 yX2_size wsX2_size) := goodIn_app (goodIn_of _ (by decide +kernel)) ggX7_monthsOf_X2_size
set_option maxRecDepth 20000 in
theorem ggX7_monthsOf_X7_nextOunces : GoodIn wsX7_monthsOf wsX7_nextOunces := goodIn_r _ [23, 24, 25, 26, 67, 68] (by decide +kernel) (by decide +kernel)
set_option maxRecDepth 20000 in
theorem gX7_monthsOf_X7_nextOunces : GoodIn wsX7_monthsOf (wsV RX7 28 RX7 yX7_nextOunces wsX7_nextOunces) := goodIn_app (goodIn_of _ (by decide +kernel)) ggX7_monthsOf_X7_nextOunces
set_option maxRecDepth 20000 in
theorem ggX7_monthsOf_X2_gain : GoodIn wsX7_monthsOf wsX2_gain := goodIn_r _ [30, 31, 32, 33, 34, 35, 36, 37, 5, 38, 7, 39, 40, 41, 42, 69, 70, 71, 72] (by decide +kernel) (by decide +kernel)
set_option maxRecDepth 20000 in
theorem gX7_monthsOf_X2_gain : GoodIn wsX7_monthsOf (wsV RX7 31 RX2 yX2_gain wsX2_gain) := goodIn_app (goodIn_of _ (by decide +kernel)) ggX7_monthsOf_X2_gain
set_option maxRecDepth 20000 in
theorem ggX7_monthsOf_X2_crownedBy : GoodIn wsX7_monthsOf wsX2_crownedBy := goodIn_r _ [46, 47, 48, 49, 5, 50, 12, 51, 52, 53, 54, 14, 35, 36, 37, 38, 7, 55, 56, 57, 58, 59, 60, 61, 62, 63, 64, 65, 66, 69, 70, 71, 72] (by decide +kernel) (by decide +kernel)
set_option maxRecDepth 20000 in
theorem gX7_monthsOf_X2_crownedBy : GoodIn wsX7_monthsOf (wsV RX7 35 RX2 yX2_crownedBy wsX2_crownedBy) := goodIn_app (goodIn_of _ (by decide +kernel)) ggX7_monthsOf_X2_crownedBy
theorem dX7_monthsOf_0 : decode cX7_monthsOf 0 = .ok (.aload_n 0, 1) := by decide +kernel
theorem dX7_monthsOf_1 : decode cX7_monthsOf 1 = .ok (.getfield 10, 3) := by decide +kernel
theorem dX7_monthsOf_4 : decode cX7_monthsOf 4 = .ok (.aload_n 3, 1) := by decide +kernel
theorem dX7_monthsOf_5 : decode cX7_monthsOf 5 = .ok (.invokevirtual 20, 3) := by decide +kernel
theorem dX7_monthsOf_8 : decode cX7_monthsOf 8 = .ok (.iconst 0, 1) := by decide +kernel
theorem dX7_monthsOf_9 : decode cX7_monthsOf 9 = .ok (.istore 4, 2) := by decide +kernel
theorem dX7_monthsOf_11 : decode cX7_monthsOf 11 = .ok (.iconst 0, 1) := by decide +kernel
theorem dX7_monthsOf_12 : decode cX7_monthsOf 12 = .ok (.istore 5, 2) := by decide +kernel
theorem dX7_monthsOf_14 : decode cX7_monthsOf 14 = .ok (.iload 5, 2) := by decide +kernel
theorem dX7_monthsOf_16 : decode cX7_monthsOf 16 = .ok (.bipush 12, 2) := by decide +kernel
theorem dX7_monthsOf_18 : decode cX7_monthsOf 18 = .ok (.if_icmp .ge 59, 3) := by decide +kernel
theorem dX7_monthsOf_21 : decode cX7_monthsOf 21 = .ok (.iconst 0, 1) := by decide +kernel
theorem dX7_monthsOf_22 : decode cX7_monthsOf 22 = .ok (.istore 6, 2) := by decide +kernel
theorem dX7_monthsOf_24 : decode cX7_monthsOf 24 = .ok (.iload 6, 2) := by decide +kernel
theorem dX7_monthsOf_26 : decode cX7_monthsOf 26 = .ok (.aload_n 0, 1) := by decide +kernel
theorem dX7_monthsOf_27 : decode cX7_monthsOf 27 = .ok (.getfield 10, 3) := by decide +kernel
theorem dX7_monthsOf_30 : decode cX7_monthsOf 30 = .ok (.invokevirtual 24, 3) := by decide +kernel
theorem dX7_monthsOf_33 : decode cX7_monthsOf 33 = .ok (.if_icmp .ge 23, 3) := by decide +kernel
theorem dX7_monthsOf_36 : decode cX7_monthsOf 36 = .ok (.aload_n 0, 1) := by decide +kernel
theorem dX7_monthsOf_37 : decode cX7_monthsOf 37 = .ok (.getfield 10, 3) := by decide +kernel
theorem dX7_monthsOf_40 : decode cX7_monthsOf 40 = .ok (.iload 6, 2) := by decide +kernel
theorem dX7_monthsOf_42 : decode cX7_monthsOf 42 = .ok (.aload_n 0, 1) := by decide +kernel
theorem dX7_monthsOf_43 : decode cX7_monthsOf 43 = .ok (.invokevirtual 28, 3) := by decide +kernel
theorem dX7_monthsOf_46 : decode cX7_monthsOf 46 = .ok (.invokevirtual 31, 3) := by decide +kernel
theorem dX7_monthsOf_49 : decode cX7_monthsOf 49 = .ok (.pop, 1) := by decide +kernel
theorem dX7_monthsOf_50 : decode cX7_monthsOf 50 = .ok (.iinc 6 1, 3) := by decide +kernel
theorem dX7_monthsOf_53 : decode cX7_monthsOf 53 = .ok (.goto (-29), 3) := by decide +kernel
theorem dX7_monthsOf_56 : decode cX7_monthsOf 56 = .ok (.aload_n 0, 1) := by decide +kernel
theorem dX7_monthsOf_57 : decode cX7_monthsOf 57 = .ok (.getfield 10, 3) := by decide +kernel
theorem dX7_monthsOf_60 : decode cX7_monthsOf 60 = .ok (.iload_n 2, 1) := by decide +kernel
theorem dX7_monthsOf_61 : decode cX7_monthsOf 61 = .ok (.invokevirtual 35, 3) := by decide +kernel
theorem dX7_monthsOf_64 : decode cX7_monthsOf 64 = .ok (.iload_n 1, 1) := by decide +kernel
theorem dX7_monthsOf_65 : decode cX7_monthsOf 65 = .ok (.if_icmp .ne 6, 3) := by decide +kernel
theorem dX7_monthsOf_68 : decode cX7_monthsOf 68 = .ok (.iinc 4 1, 3) := by decide +kernel
theorem dX7_monthsOf_71 : decode cX7_monthsOf 71 = .ok (.iinc 5 1, 3) := by decide +kernel
theorem dX7_monthsOf_74 : decode cX7_monthsOf 74 = .ok (.goto (-60), 3) := by decide +kernel
theorem dX7_monthsOf_77 : decode cX7_monthsOf 77 = .ok (.iload 4, 2) := by decide +kernel
theorem dX7_monthsOf_79 : decode cX7_monthsOf 79 = .ok (.ireturn, 1) := by decide +kernel
theorem dX7_nextOunces_0 : decode cX7_nextOunces 0 = .ok (.aload_n 0, 1) := by decide +kernel
theorem dX7_nextOunces_1 : decode cX7_nextOunces 1 = .ok (.aload_n 0, 1) := by decide +kernel
theorem dX7_nextOunces_2 : decode cX7_nextOunces 2 = .ok (.getfield 16, 3) := by decide +kernel
theorem dX7_nextOunces_5 : decode cX7_nextOunces 5 = .ok (.ldc2_w 39, 3) := by decide +kernel
theorem dX7_nextOunces_8 : decode cX7_nextOunces 8 = .ok (.lmul, 1) := by decide +kernel
theorem dX7_nextOunces_9 : decode cX7_nextOunces 9 = .ok (.ldc2_w 41, 3) := by decide +kernel
theorem dX7_nextOunces_12 : decode cX7_nextOunces 12 = .ok (.ladd, 1) := by decide +kernel
theorem dX7_nextOunces_13 : decode cX7_nextOunces 13 = .ok (.putfield 16, 3) := by decide +kernel
theorem dX7_nextOunces_16 : decode cX7_nextOunces 16 = .ok (.aload_n 0, 1) := by decide +kernel
theorem dX7_nextOunces_17 : decode cX7_nextOunces 17 = .ok (.getfield 16, 3) := by decide +kernel
theorem dX7_nextOunces_20 : decode cX7_nextOunces 20 = .ok (.bipush 33, 2) := by decide +kernel
theorem dX7_nextOunces_22 : decode cX7_nextOunces 22 = .ok (.lushr, 1) := by decide +kernel
theorem dX7_nextOunces_23 : decode cX7_nextOunces 23 = .ok (.l2i, 1) := by decide +kernel
theorem dX7_nextOunces_24 : decode cX7_nextOunces 24 = .ok (.istore_n 1, 1) := by decide +kernel
theorem dX7_nextOunces_25 : decode cX7_nextOunces 25 = .ok (.iload_n 1, 1) := by decide +kernel
theorem dX7_nextOunces_26 : decode cX7_nextOunces 26 = .ok (.bipush 7, 2) := by decide +kernel
theorem dX7_nextOunces_28 : decode cX7_nextOunces 28 = .ok (.irem, 1) := by decide +kernel
theorem dX7_nextOunces_29 : decode cX7_nextOunces 29 = .ok (.iconst 3, 1) := by decide +kernel
theorem dX7_nextOunces_30 : decode cX7_nextOunces 30 = .ok (.isub, 1) := by decide +kernel
theorem dX7_nextOunces_31 : decode cX7_nextOunces 31 = .ok (.iconst 5, 1) := by decide +kernel
theorem dX7_nextOunces_32 : decode cX7_nextOunces 32 = .ok (.imul, 1) := by decide +kernel
theorem dX7_nextOunces_33 : decode cX7_nextOunces 33 = .ok (.ireturn, 1) := by decide +kernel
set_option maxRecDepth 20000 in
theorem ggX8_init_X1_init : GoodIn wsX8_init wsX1_init := goodIn_r _ [39, 40, 2, 3, 41, 42, 43, 101, 102] (by decide +kernel) (by decide +kernel)
set_option maxRecDepth 20000 in
theorem gX8_init_X1_init : GoodIn wsX8_init (wsX1_init) := ggX8_init_X1_init
set_option maxRecDepth 20000 in
theorem ggX8_init_X2_init : GoodIn wsX8_init wsX2_init := goodIn_r _ [46, 47, 2, 3, 41, 48, 49, 50, 51, 112, 113, 114, 115] (by decide +kernel) (by decide +kernel)
set_option maxRecDepth 20000 in
theorem gX8_init_X2_init : GoodIn wsX8_init (wsX2_init) := ggX8_init_X2_init
set_option maxRecDepth 20000 in
theorem ggX8_init_X0_init : GoodIn wsX8_init wsX0_init := goodIn_r _ [54, 55, 2, 3, 41, 56, 57, 58, 116, 117, 118] (by decide +kernel) (by decide +kernel)
set_option maxRecDepth 20000 in
theorem gX8_init_X0_init : GoodIn wsX8_init (wsX0_init) := ggX8_init_X0_init
set_option maxRecDepth 20000 in
theorem ggX8_init_X5_init : GoodIn wsX8_init wsX5_init := goodIn_r _ [61, 62, 2, 3, 41, 63, 64, 119, 120] (by decide +kernel) (by decide +kernel)
set_option maxRecDepth 20000 in
theorem gX8_init_X5_init : GoodIn wsX8_init (wsX5_init) := ggX8_init_X5_init
set_option maxRecDepth 20000 in
theorem ggX8_init_X6_init : GoodIn wsX8_init wsX6_init := goodIn_r _ [67, 68, 2, 3, 41, 69, 70, 71, 72, 121, 122, 123, 124] (by decide +kernel) (by decide +kernel)
set_option maxRecDepth 20000 in
theorem gX8_init_X6_init : GoodIn wsX8_init (wsX6_init) := ggX8_init_X6_init
set_option maxRecDepth 20000 in
theorem ggX8_init_X4_init : GoodIn wsX8_init wsX4_init := goodIn_r _ [75, 76, 2, 3, 41, 77, 78, 79, 80, 81, 82, 83, 125, 126, 127, 128, 129, 130, 131] (by decide +kernel) (by decide +kernel)
set_option maxRecDepth 20000 in
theorem gX8_init_X4_init : GoodIn wsX8_init (wsX4_init) := ggX8_init_X4_init
set_option maxRecDepth 20000 in
theorem ggX8_init_X3_init : GoodIn wsX8_init wsX3_init := goodIn_r _ [86, 87, 2, 3, 41, 88, 89, 90, 91, 92, 132, 133, 134, 135] (by decide +kernel) (by decide +kernel)
set_option maxRecDepth 20000 in
theorem gX8_init_X3_init : GoodIn wsX8_init (wsX3_init) := ggX8_init_X3_init
set_option maxRecDepth 20000 in
theorem ggX8_init_X7_init : GoodIn wsX8_init wsX7_init := goodIn_r _ [95, 96, 2, 3, 97, 9, 10, 98, 99, 100, 45, 46, 47, 41, 48, 49, 50, 51, 112, 113, 114, 115, 136, 137] (by decide +kernel) (by decide +kernel)
set_option maxRecDepth 20000 in
theorem gX8_init_X7_init : GoodIn wsX8_init (wsX7_init) := ggX8_init_X7_init
