theorem dX8_init_0 : decode cX8_init 0 = .ok (.aload_n 0, 1) := by decide +kernel
theorem dX8_init_1 : decode cX8_init 1 = .ok (.invokespecial 1, 3) := by decide +kernel
theorem dX8_init_4 : decode cX8_init 4 = .ok (.aload_n 0, 1) := by decide +kernel
theorem dX8_init_5 : decode cX8_init 5 = .ok (.new 7, 3) := by decide +kernel
theorem dX8_init_8 : decode cX8_init 8 = .ok (.dup, 1) := by decide +kernel
theorem dX8_init_9 : decode cX8_init 9 = .ok (.invokespecial 9, 3) := by decide +kernel
theorem dX8_init_12 : decode cX8_init 12 = .ok (.putfield 10, 3) := by decide +kernel
theorem dX8_init_15 : decode cX8_init 15 = .ok (.aload_n 0, 1) := by decide +kernel
theorem dX8_init_16 : decode cX8_init 16 = .ok (.new 16, 3) := by decide +kernel
theorem dX8_init_19 : decode cX8_init 19 = .ok (.dup, 1) := by decide +kernel
theorem dX8_init_20 : decode cX8_init 20 = .ok (.invokespecial 18, 3) := by decide +kernel
theorem dX8_init_23 : decode cX8_init 23 = .ok (.putfield 19, 3) := by decide +kernel
theorem dX8_init_26 : decode cX8_init 26 = .ok (.aload_n 0, 1) := by decide +kernel
theorem dX8_init_27 : decode cX8_init 27 = .ok (.new 23, 3) := by decide +kernel
theorem dX8_init_30 : decode cX8_init 30 = .ok (.dup, 1) := by decide +kernel
theorem dX8_init_31 : decode cX8_init 31 = .ok (.invokespecial 25, 3) := by decide +kernel
theorem dX8_init_34 : decode cX8_init 34 = .ok (.putfield 26, 3) := by decide +kernel
theorem dX8_init_37 : decode cX8_init 37 = .ok (.aload_n 0, 1) := by decide +kernel
theorem dX8_init_38 : decode cX8_init 38 = .ok (.new 30, 3) := by decide +kernel
theorem dX8_init_41 : decode cX8_init 41 = .ok (.dup, 1) := by decide +kernel
theorem dX8_init_42 : decode cX8_init 42 = .ok (.invokespecial 32, 3) := by decide +kernel
theorem dX8_init_45 : decode cX8_init 45 = .ok (.putfield 33, 3) := by decide +kernel
theorem dX8_init_48 : decode cX8_init 48 = .ok (.aload_n 0, 1) := by decide +kernel
theorem dX8_init_49 : decode cX8_init 49 = .ok (.new 37, 3) := by decide +kernel
theorem dX8_init_52 : decode cX8_init 52 = .ok (.dup, 1) := by decide +kernel
theorem dX8_init_53 : decode cX8_init 53 = .ok (.invokespecial 39, 3) := by decide +kernel
theorem dX8_init_56 : decode cX8_init 56 = .ok (.putfield 40, 3) := by decide +kernel
theorem dX8_init_59 : decode cX8_init 59 = .ok (.aload_n 0, 1) := by decide +kernel
theorem dX8_init_60 : decode cX8_init 60 = .ok (.new 44, 3) := by decide +kernel
theorem dX8_init_63 : decode cX8_init 63 = .ok (.dup, 1) := by decide +kernel
theorem dX8_init_64 : decode cX8_init 64 = .ok (.invokespecial 46, 3) := by decide +kernel
theorem dX8_init_67 : decode cX8_init 67 = .ok (.putfield 47, 3) := by decide +kernel
theorem dX8_init_70 : decode cX8_init 70 = .ok (.aload_n 0, 1) := by decide +kernel
theorem dX8_init_71 : decode cX8_init 71 = .ok (.new 51, 3) := by decide +kernel
theorem dX8_init_74 : decode cX8_init 74 = .ok (.dup, 1) := by decide +kernel
theorem dX8_init_75 : decode cX8_init 75 = .ok (.invokespecial 53, 3) := by decide +kernel
theorem dX8_init_78 : decode cX8_init 78 = .ok (.putfield 54, 3) := by decide +kernel
theorem dX8_init_81 : decode cX8_init 81 = .ok (.aload_n 0, 1) := by decide +kernel
theorem dX8_init_82 : decode cX8_init 82 = .ok (.new 58, 3) := by decide +kernel
theorem dX8_init_85 : decode cX8_init 85 = .ok (.dup, 1) := by decide +kernel
theorem dX8_init_86 : decode cX8_init 86 = .ok (.invokespecial 60, 3) := by decide +kernel
theorem dX8_init_89 : decode cX8_init 89 = .ok (.putfield 61, 3) := by decide +kernel
theorem dX8_init_92 : decode cX8_init 92 = .ok (.aload_n 0, 1) := by decide +kernel
theorem dX8_init_93 : decode cX8_init 93 = .ok (.iconst 0, 1) := by decide +kernel
theorem dX8_init_94 : decode cX8_init 94 = .ok (.putfield 65, 3) := by decide +kernel
theorem dX8_init_97 : decode cX8_init 97 = .ok (.return_, 1) := by decide +kernel
set_option maxRecDepth 20000 in
theorem ggX8_write_X1_append : GoodIn wsX8_write wsX1_append := goodIn_r _ [6, 7, 8, 22, 23] (by decide +kernel) (by decide +kernel)
set_option maxRecDepth 20000 in
theorem gX8_write_X1_append : GoodIn wsX8_write (wsV RX8 69 RX1 yX1_append wsX1_append) := goodIn_app (goodIn_of _ (by decide +kernel)) ggX8_write_X1_append
set_option maxRecDepth 20000 in
theorem ggX8_write_X1_length : GoodIn wsX8_write wsX1_length := goodIn_r _ [12, 7, 22, 23] (by decide +kernel) (by decide +kernel)
set_option maxRecDepth 20000 in
theorem gX8_write_X1_length : GoodIn wsX8_write (wsV RX8 73 RX1 yX1_length wsX1_length) := goodIn_app (goodIn_of _ (by decide +kernel)) ggX8_write_X1_length
theorem dX8_write_0 : decode cX8_write 0 = .ok (.iload_n 1, 1) := by decide +kernel
theorem dX8_write_1 : decode cX8_write 1 = .ok (.iconst 1, 1) := by decide +kernel
theorem dX8_write_2 : decode cX8_write 2 = .ok (.if_icmp .lt 9, 3) := by decide +kernel
theorem dX8_write_5 : decode cX8_write 5 = .ok (.iload_n 1, 1) := by decide +kernel
theorem dX8_write_6 : decode cX8_write 6 = .ok (.bipush 8, 2) := by decide +kernel
theorem dX8_write_8 : decode cX8_write 8 = .ok (.if_icmp .le 6, 3) := by decide +kernel
theorem dX8_write_11 : decode cX8_write 11 = .ok (.bipush (-2), 2) := by decide +kernel
theorem dX8_write_13 : decode cX8_write 13 = .ok (.ireturn, 1) := by decide +kernel
theorem dX8_write_14 : decode cX8_write 14 = .ok (.aload_n 0, 1) := by decide +kernel
theorem dX8_write_15 : decode cX8_write 15 = .ok (.getfield 10, 3) := by decide +kernel
theorem dX8_write_18 : decode cX8_write 18 = .ok (.iload_n 1, 1) := by decide +kernel
theorem dX8_write_19 : decode cX8_write 19 = .ok (.lload_n 2, 1) := by decide +kernel
theorem dX8_write_20 : decode cX8_write 20 = .ok (.invokevirtual 69, 3) := by decide +kernel
theorem dX8_write_23 : decode cX8_write 23 = .ok (.ifCond .eq 13, 3) := by decide +kernel
theorem dX8_write_26 : decode cX8_write 26 = .ok (.aload_n 0, 1) := by decide +kernel
theorem dX8_write_27 : decode cX8_write 27 = .ok (.getfield 10, 3) := by decide +kernel
theorem dX8_write_30 : decode cX8_write 30 = .ok (.invokevirtual 73, 3) := by decide +kernel
theorem dX8_write_33 : decode cX8_write 33 = .ok (.goto 5, 3) := by decide +kernel
theorem dX8_write_36 : decode cX8_write 36 = .ok (.bipush (-4), 2) := by decide +kernel
theorem dX8_write_38 : decode cX8_write 38 = .ok (.ireturn, 1) := by decide +kernel
set_option maxRecDepth 20000 in
theorem ggX8_wipe_X1_length : GoodIn wsX8_wipe wsX1_length := goodIn_r _ [6, 7, 21, 22] (by decide +kernel) (by decide +kernel)
set_option maxRecDepth 20000 in
theorem gX8_wipe_X1_length : GoodIn wsX8_wipe (wsV RX8 73 RX1 yX1_length wsX1_length) := goodIn_app (goodIn_of _ (by decide +kernel)) ggX8_wipe_X1_length
set_option maxRecDepth 20000 in
theorem ggX8_wipe_X1_clear : GoodIn wsX8_wipe wsX1_clear := goodIn_r _ [11, 7, 21, 22] (by decide +kernel) (by decide +kernel)
set_option maxRecDepth 20000 in
theorem gX8_wipe_X1_clear : GoodIn wsX8_wipe (wsV RX8 77 RX1 yX1_clear wsX1_clear) := goodIn_app (goodIn_of _ (by decide +kernel)) ggX8_wipe_X1_clear
theorem dX8_wipe_0 : decode cX8_wipe 0 = .ok (.aload_n 0, 1) := by decide +kernel
theorem dX8_wipe_1 : decode cX8_wipe 1 = .ok (.getfield 10, 3) := by decide +kernel
theorem dX8_wipe_4 : decode cX8_wipe 4 = .ok (.invokevirtual 73, 3) := by decide +kernel
theorem dX8_wipe_7 : decode cX8_wipe 7 = .ok (.istore_n 1, 1) := by decide +kernel
theorem dX8_wipe_8 : decode cX8_wipe 8 = .ok (.aload_n 0, 1) := by decide +kernel
theorem dX8_wipe_9 : decode cX8_wipe 9 = .ok (.getfield 10, 3) := by decide +kernel
theorem dX8_wipe_12 : decode cX8_wipe 12 = .ok (.invokevirtual 77, 3) := by decide +kernel
theorem dX8_wipe_15 : decode cX8_wipe 15 = .ok (.iload_n 1, 1) := by decide +kernel
theorem dX8_wipe_16 : decode cX8_wipe 16 = .ok (.ireturn, 1) := by decide +kernel
set_option maxRecDepth 20000 in
theorem ggX8_fault_X1_firstFault : GoodIn wsX8_fault wsX1_firstFault := goodIn_r _ [6, 7, 8, 9, 10, 5, 11, 21, 22] (by decide +kernel) (by decide +kernel)
set_option maxRecDepth 20000 in
theorem gX8_fault_X1_firstFault : GoodIn wsX8_fault (wsV RX8 80 RX1 yX1_firstFault wsX1_firstFault) := goodIn_app (goodIn_of _ (by decide +kernel)) ggX8_fault_X1_firstFault
theorem dX8_fault_0 : decode cX8_fault 0 = .ok (.aload_n 0, 1) := by decide +kernel
theorem dX8_fault_1 : decode cX8_fault 1 = .ok (.getfield 10, 3) := by decide +kernel
theorem dX8_fault_4 : decode cX8_fault 4 = .ok (.invokevirtual 80, 3) := by decide +kernel
theorem dX8_fault_7 : decode cX8_fault 7 = .ok (.ireturn, 1) := by decide +kernel
set_option maxRecDepth 20000 in
theorem ggX8_land_X1_firstFault : GoodIn wsX8_land wsX1_firstFault := goodIn_r _ [10, 11, 12, 13, 14, 9, 15, 76, 77] (by decide +kernel) (by decide +kernel)
set_option maxRecDepth 20000 in
theorem gX8_land_X1_firstFault : GoodIn wsX8_land (wsV RX8 80 RX1 yX1_firstFault wsX1_firstFault) := goodIn_app (goodIn_of _ (by decide +kernel)) ggX8_land_X1_firstFault
set_option maxRecDepth 20000 in
theorem ggX8_land_X1_figure : GoodIn wsX8_land wsX1_figure := goodIn_r _ [19, 11, 12, 76, 77] (by decide +kernel) (by decide +kernel)
set_option maxRecDepth 20000 in
theorem gX8_land_X1_figure : GoodIn wsX8_land (wsV RX8 83 RX1 yX1_figure wsX1_figure) := goodIn_app (goodIn_of _ (by decide +kernel)) ggX8_land_X1_figure
set_option maxRecDepth 20000 in
theorem ggX8_land_X2_settle : GoodIn wsX8_land wsX2_settle := goodIn_r _ [24, 25, 26, 27, 28, 29, 30, 31, 32, 33, 34, 35, 36, 37, 17, 18, 9, 19, 11, 12, 38, 39, 40, 41, 42, 43, 44, 45, 46, 47, 48, 49, 23, 50, 78, 79, 80, 81, 76, 77] (by decide +kernel) (by decide +kernel)
set_option maxRecDepth 20000 in
theorem gX8_land_X2_settle : GoodIn wsX8_land (wsV RX8 87 RX2 yX2_settle wsX2_settle) := goodIn_app (goodIn_of _ (by decide +kernel)) ggX8_land_X2_settle
set_option maxRecDepth 20000 in
theorem ggX8_land_X0_clear : GoodIn wsX8_land wsX0_clear := goodIn_r _ [55, 56, 82, 83, 84] (by decide +kernel) (by decide +kernel)
set_option maxRecDepth 20000 in
theorem gX8_land_X0_clear : GoodIn wsX8_land (wsV RX8 91 RX0 yX0_clear wsX0_clear) := goodIn_app (goodIn_of _ (by decide +kernel)) ggX8_land_X0_clear
set_option maxRecDepth 20000 in
theorem ggX8_land_X5_clear : GoodIn wsX8_land wsX5_clear := goodIn_r _ [61, 62, 85, 86] (by decide +kernel) (by decide +kernel)
set_option maxRecDepth 20000 in
theorem gX8_land_X5_clear : GoodIn wsX8_land (wsV RX8 92 RX5 yX5_clear wsX5_clear) := goodIn_app (goodIn_of _ (by decide +kernel)) ggX8_land_X5_clear
set_option maxRecDepth 20000 in
theorem ggX8_land_X2_size : GoodIn wsX8_land wsX2_size := goodIn_r _ [66, 32, 78, 79, 80, 81] (by decide +kernel) (by decide +kernel)
set_option maxRecDepth 20000 in
theorem gX8_land_X2_size : GoodIn wsX8_land (wsV RX8 93 RX2 yX2_size wsX2_size) := goodIn_app (goodIn_of _ (by decide +kernel)) ggX8_land_X2_size
theorem dX8_land_0 : decode cX8_land 0 = .ok (.aload_n 0, 1) := by decide +kernel
theorem dX8_land_1 : decode cX8_land 1 = .ok (.getfield 10, 3) := by decide +kernel
theorem dX8_land_4 : decode cX8_land 4 = .ok (.invokevirtual 80, 3) := by decide +kernel
theorem dX8_land_7 : decode cX8_land 7 = .ok (.bipush (-9), 2) := by decide +kernel
theorem dX8_land_9 : decode cX8_land 9 = .ok (.if_icmp .eq 6, 3) := by decide +kernel
theorem dX8_land_12 : decode cX8_land 12 = .ok (.bipush (-3), 2) := by decide +kernel
theorem dX8_land_14 : decode cX8_land 14 = .ok (.ireturn, 1) := by decide +kernel
theorem dX8_land_15 : decode cX8_land 15 = .ok (.aload_n 0, 1) := by decide +kernel
theorem dX8_land_16 : decode cX8_land 16 = .ok (.aload_n 0, 1) := by decide +kernel
theorem dX8_land_17 : decode cX8_land 17 = .ok (.getfield 10, 3) := by decide +kernel
theorem dX8_land_20 : decode cX8_land 20 = .ok (.iconst 1, 1) := by decide +kernel
theorem dX8_land_21 : decode cX8_land 21 = .ok (.invokevirtual 83, 3) := by decide +kernel
theorem dX8_land_24 : decode cX8_land 24 = .ok (.putfield 65, 3) := by decide +kernel
theorem dX8_land_27 : decode cX8_land 27 = .ok (.aload_n 0, 1) := by decide +kernel
theorem dX8_land_28 : decode cX8_land 28 = .ok (.getfield 19, 3) := by decide +kernel
theorem dX8_land_31 : decode cX8_land 31 = .ok (.aload_n 0, 1) := by decide +kernel
theorem dX8_land_32 : decode cX8_land 32 = .ok (.getfield 10, 3) := by decide +kernel
theorem dX8_land_35 : decode cX8_land 35 = .ok (.invokevirtual 87, 3) := by decide +kernel
theorem dX8_land_38 : decode cX8_land 38 = .ok (.aload_n 0, 1) := by decide +kernel
theorem dX8_land_39 : decode cX8_land 39 = .ok (.getfield 26, 3) := by decide +kernel
theorem dX8_land_42 : decode cX8_land 42 = .ok (.invokevirtual 91, 3) := by decide +kernel
theorem dX8_land_45 : decode cX8_land 45 = .ok (.aload_n 0, 1) := by decide +kernel
theorem dX8_land_46 : decode cX8_land 46 = .ok (.getfield 33, 3) := by decide +kernel
theorem dX8_land_49 : decode cX8_land 49 = .ok (.invokevirtual 92, 3) := by decide +kernel
theorem dX8_land_52 : decode cX8_land 52 = .ok (.aload_n 0, 1) := by decide +kernel
theorem dX8_land_53 : decode cX8_land 53 = .ok (.getfield 19, 3) := by decide +kernel
theorem dX8_land_56 : decode cX8_land 56 = .ok (.invokevirtual 93, 3) := by decide +kernel
theorem dX8_land_59 : decode cX8_land 59 = .ok (.ireturn, 1) := by decide +kernel
set_option maxRecDepth 20000 in
theorem ggX8_person_X2_has : GoodIn wsX8_person wsX2_has := goodIn_r _ [6, 7, 36, 37, 38, 39] (by decide +kernel) (by decide +kernel)
set_option maxRecDepth 20000 in
theorem gX8_person_X2_has : GoodIn wsX8_person (wsV RX8 96 RX2 yX2_has wsX2_has) := goodIn_app (goodIn_of _ (by decide +kernel)) ggX8_person_X2_has
set_option maxRecDepth 20000 in
theorem ggX8_person_X2_get : GoodIn wsX8_person wsX2_get := goodIn_r _ [11, 12, 36, 37, 38, 39] (by decide +kernel) (by decide +kernel)
set_option maxRecDepth 20000 in
theorem gX8_person_X2_get : GoodIn wsX8_person (wsV RX8 100 RX2 yX2_get wsX2_get) := goodIn_app (goodIn_of _ (by decide +kernel)) ggX8_person_X2_get
set_option maxRecDepth 20000 in
theorem ggX8_person_X2_noonWeight : GoodIn wsX8_person wsX2_noonWeight := goodIn_r _ [16, 17, 9, 10, 5, 11, 12, 18, 19, 20, 21, 36, 37, 38, 39] (by decide +kernel) (by decide +kernel)
set_option maxRecDepth 20000 in
theorem gX8_person_X2_noonWeight : GoodIn wsX8_person (wsV RX8 104 RX2 yX2_noonWeight wsX2_noonWeight) := goodIn_app (goodIn_of _ (by decide +kernel)) ggX8_person_X2_noonWeight
set_option maxRecDepth 20000 in
theorem ggX8_person_X2_isIll : GoodIn wsX8_person wsX2_isIll := goodIn_r _ [25, 26, 17, 9, 10, 5, 11, 12, 36, 37, 38, 39] (by decide +kernel) (by decide +kernel)
set_option maxRecDepth 20000 in
theorem gX8_person_X2_isIll : GoodIn wsX8_person (wsV RX8 107 RX2 yX2_isIll wsX2_isIll) := goodIn_app (goodIn_of _ (by decide +kernel)) ggX8_person_X2_isIll
theorem dX8_person_0 : decode cX8_person 0 = .ok (.aload_n 0, 1) := by decide +kernel
theorem dX8_person_1 : decode cX8_person 1 = .ok (.getfield 19, 3) := by decide +kernel
theorem dX8_person_4 : decode cX8_person 4 = .ok (.iload_n 1, 1) := by decide +kernel
theorem dX8_person_5 : decode cX8_person 5 = .ok (.invokevirtual 96, 3) := by decide +kernel
theorem dX8_person_8 : decode cX8_person 8 = .ok (.ifCond .ne 5, 3) := by decide +kernel
theorem dX8_person_11 : decode cX8_person 11 = .ok (.iconst (-1), 1) := by decide +kernel
theorem dX8_person_12 : decode cX8_person 12 = .ok (.ireturn, 1) := by decide +kernel
theorem dX8_person_13 : decode cX8_person 13 = .ok (.iload_n 2, 1) := by decide +kernel
theorem dX8_person_14 : decode cX8_person 14 = .ok (.tableswitch 118 0 6 #[42, 52, 62, 72, 82, 91, 108], 42) := by decide +kernel
theorem dX8_person_56 : decode cX8_person 56 = .ok (.aload_n 0, 1) := by decide +kernel
theorem dX8_person_57 : decode cX8_person 57 = .ok (.getfield 19, 3) := by decide +kernel
theorem dX8_person_60 : decode cX8_person 60 = .ok (.iload_n 1, 1) := by decide +kernel
theorem dX8_person_61 : decode cX8_person 61 = .ok (.iconst 0, 1) := by decide +kernel
theorem dX8_person_62 : decode cX8_person 62 = .ok (.invokevirtual 100, 3) := by decide +kernel
theorem dX8_person_65 : decode cX8_person 65 = .ok (.ireturn, 1) := by decide +kernel
theorem dX8_person_66 : decode cX8_person 66 = .ok (.aload_n 0, 1) := by decide +kernel
theorem dX8_person_67 : decode cX8_person 67 = .ok (.getfield 19, 3) := by decide +kernel
theorem dX8_person_70 : decode cX8_person 70 = .ok (.iload_n 1, 1) := by decide +kernel
theorem dX8_person_71 : decode cX8_person 71 = .ok (.iconst 1, 1) := by decide +kernel
theorem dX8_person_72 : decode cX8_person 72 = .ok (.invokevirtual 100, 3) := by decide +kernel
theorem dX8_person_75 : decode cX8_person 75 = .ok (.ireturn, 1) := by decide +kernel
theorem dX8_person_76 : decode cX8_person 76 = .ok (.aload_n 0, 1) := by decide +kernel
theorem dX8_person_77 : decode cX8_person 77 = .ok (.getfield 19, 3) := by decide +kernel
theorem dX8_person_80 : decode cX8_person 80 = .ok (.iload_n 1, 1) := by decide +kernel
theorem dX8_person_81 : decode cX8_person 81 = .ok (.iconst 2, 1) := by decide +kernel
theorem dX8_person_82 : decode cX8_person 82 = .ok (.invokevirtual 100, 3) := by decide +kernel
theorem dX8_person_85 : decode cX8_person 85 = .ok (.ireturn, 1) := by decide +kernel
theorem dX8_person_86 : decode cX8_person 86 = .ok (.aload_n 0, 1) := by decide +kernel
theorem dX8_person_87 : decode cX8_person 87 = .ok (.getfield 19, 3) := by decide +kernel
theorem dX8_person_90 : decode cX8_person 90 = .ok (.iload_n 1, 1) := by decide +kernel
theorem dX8_person_91 : decode cX8_person 91 = .ok (.iconst 3, 1) := by decide +kernel
theorem dX8_person_92 : decode cX8_person 92 = .ok (.invokevirtual 100, 3) := by decide +kernel
theorem dX8_person_95 : decode cX8_person 95 = .ok (.ireturn, 1) := by decide +kernel
theorem dX8_person_96 : decode cX8_person 96 = .ok (.aload_n 0, 1) := by decide +kernel
theorem dX8_person_97 : decode cX8_person 97 = .ok (.getfield 19, 3) := by decide +kernel
theorem dX8_person_100 : decode cX8_person 100 = .ok (.iload_n 1, 1) := by decide +kernel
theorem dX8_person_101 : decode cX8_person 101 = .ok (.invokevirtual 104, 3) := by decide +kernel
theorem dX8_person_104 : decode cX8_person 104 = .ok (.ireturn, 1) := by decide +kernel
theorem dX8_person_105 : decode cX8_person 105 = .ok (.aload_n 0, 1) := by decide +kernel
theorem dX8_person_106 : decode cX8_person 106 = .ok (.getfield 19, 3) := by decide +kernel
theorem dX8_person_109 : decode cX8_person 109 = .ok (.iload_n 1, 1) := by decide +kernel
theorem dX8_person_110 : decode cX8_person 110 = .ok (.invokevirtual 107, 3) := by decide +kernel
theorem dX8_person_113 : decode cX8_person 113 = .ok (.ifCond .eq 7, 3) := by decide +kernel
theorem dX8_person_116 : decode cX8_person 116 = .ok (.iconst 1, 1) := by decide +kernel
theorem dX8_person_117 : decode cX8_person 117 = .ok (.goto 4, 3) := by decide +kernel
theorem dX8_person_120 : decode cX8_person 120 = .ok (.iconst 0, 1) := by decide +kernel
theorem dX8_person_121 : decode cX8_person 121 = .ok (.ireturn, 1) := by decide +kernel
theorem dX8_person_122 : decode cX8_person 122 = .ok (.aload_n 0, 1) := by decide +kernel
theorem dX8_person_123 : decode cX8_person 123 = .ok (.getfield 19, 3) := by decide +kernel
theorem dX8_person_126 : decode cX8_person 126 = .ok (.iload_n 1, 1) := by decide +kernel
theorem dX8_person_127 : decode cX8_person 127 = .ok (.iconst 4, 1) := by decide +kernel
theorem dX8_person_128 : decode cX8_person 128 = .ok (.invokevirtual 100, 3) := by decide +kernel
theorem dX8_person_131 : decode cX8_person 131 = .ok (.ireturn, 1) := by decide +kernel
theorem dX8_person_132 : decode cX8_person 132 = .ok (.bipush (-2), 2) := by decide +kernel
theorem dX8_person_134 : decode cX8_person 134 = .ok (.ireturn, 1) := by decide +kernel
set_option maxRecDepth 20000 in
theorem ggX8_law_X8_isLaw : GoodIn wsX8_law wsX8_isLaw := goodIn_r _ [5] (by decide +kernel) (by decide +kernel)
set_option maxRecDepth 20000 in
theorem gX8_law_X8_isLaw : GoodIn wsX8_law (va_wsS RX8 110 yX8_isLaw wsX8_isLaw) := goodIn_app (goodIn_of _ (by decide +kernel)) ggX8_law_X8_isLaw
theorem dX8_law_0 : decode cX8_law 0 = .ok (.iload_n 1, 1) := by decide +kernel
theorem dX8_law_1 : decode cX8_law 1 = .ok (.invokestatic 110, 3) := by decide +kernel
theorem dX8_law_4 : decode cX8_law 4 = .ok (.ifCond .ne 6, 3) := by decide +kernel
theorem dX8_law_7 : decode cX8_law 7 = .ok (.bipush (-2), 2) := by decide +kernel
theorem dX8_law_9 : decode cX8_law 9 = .ok (.ireturn, 1) := by decide +kernel
theorem dX8_law_10 : decode cX8_law 10 = .ok (.aload_n 0, 1) := by decide +kernel
theorem dX8_law_11 : decode cX8_law 11 = .ok (.getfield 65, 3) := by decide +kernel
theorem dX8_law_14 : decode cX8_law 14 = .ok (.istore_n 2, 1) := by decide +kernel
theorem dX8_law_15 : decode cX8_law 15 = .ok (.aload_n 0, 1) := by decide +kernel
theorem dX8_law_16 : decode cX8_law 16 = .ok (.iload_n 1, 1) := by decide +kernel
theorem dX8_law_17 : decode cX8_law 17 = .ok (.putfield 65, 3) := by decide +kernel
theorem dX8_law_20 : decode cX8_law 20 = .ok (.iload_n 2, 1) := by decide +kernel
theorem dX8_law_21 : decode cX8_law 21 = .ok (.ireturn, 1) := by decide +kernel
theorem dX8_isLaw_0 : decode cX8_isLaw 0 = .ok (.iload_n 0, 1) := by decide +kernel
theorem dX8_isLaw_1 : decode cX8_isLaw 1 = .ok (.ifCond .lt 12, 3) := by decide +kernel
theorem dX8_isLaw_4 : decode cX8_isLaw 4 = .ok (.iload_n 0, 1) := by decide +kernel
theorem dX8_isLaw_5 : decode cX8_isLaw 5 = .ok (.iconst 3, 1) := by decide +kernel
theorem dX8_isLaw_6 : decode cX8_isLaw 6 = .ok (.if_icmp .ge 7, 3) := by decide +kernel
theorem dX8_isLaw_9 : decode cX8_isLaw 9 = .ok (.iconst 1, 1) := by decide +kernel
theorem dX8_isLaw_10 : decode cX8_isLaw 10 = .ok (.goto 4, 3) := by decide +kernel
theorem dX8_isLaw_13 : decode cX8_isLaw 13 = .ok (.iconst 0, 1) := by decide +kernel
theorem dX8_isLaw_14 : decode cX8_isLaw 14 = .ok (.ireturn, 1) := by decide +kernel
set_option maxRecDepth 20000 in
theorem ggX8_eat_X8_refusalOf : GoodIn wsX8_eat wsX8_refusalOf := goodIn_r _ [7, 1, 8, 9, 10, 11, 12, 13, 49, 50, 51, 52, 53, 54, 55, 56, 57, 58, 59, 60, 61] (by decide +kernel) (by decide +kernel)
set_option maxRecDepth 20000 in
theorem gX8_eat_X8_refusalOf : GoodIn wsX8_eat (wsV RX8 113 RX8 yX8_refusalOf wsX8_refusalOf) := goodIn_app (goodIn_of _ (by decide +kernel)) ggX8_eat_X8_refusalOf
set_option maxRecDepth 20000 in
theorem ggX8_eat_X2_get : GoodIn wsX8_eat wsX2_get := goodIn_r _ [17, 18, 58, 59, 60, 61] (by decide +kernel) (by decide +kernel)
set_option maxRecDepth 20000 in
theorem gX8_eat_X2_get : GoodIn wsX8_eat (wsV RX8 100 RX2 yX2_get wsX2_get) := goodIn_app (goodIn_of _ (by decide +kernel)) ggX8_eat_X2_get
set_option maxRecDepth 20000 in
theorem ggX8_eat_X0_remember : GoodIn wsX8_eat wsX0_remember := goodIn_r _ [23, 24, 25, 26, 27, 28, 29, 11, 30, 18, 31, 32, 33, 34, 62, 63, 64, 58, 59, 60, 61] (by decide +kernel) (by decide +kernel)
set_option maxRecDepth 20000 in
theorem gX8_eat_X0_remember : GoodIn wsX8_eat (wsV RX8 116 RX0 yX0_remember wsX0_remember) := goodIn_app (goodIn_of _ (by decide +kernel)) ggX8_eat_X0_remember
set_option maxRecDepth 20000 in
theorem ggX8_eat_X2_add : GoodIn wsX8_eat wsX2_add := goodIn_r _ [38, 18, 58, 59, 60, 61] (by decide +kernel) (by decide +kernel)
set_option maxRecDepth 20000 in
theorem gX8_eat_X2_add : GoodIn wsX8_eat (wsV RX8 120 RX2 yX2_add wsX2_add) := goodIn_app (goodIn_of _ (by decide +kernel)) ggX8_eat_X2_add
set_option maxRecDepth 20000 in
theorem ggX8_eat_X2_gain : GoodIn wsX8_eat wsX2_gain := goodIn_r _ [42, 43, 44, 45, 46, 47, 15, 16, 11, 17, 18, 48, 36, 37, 38, 58, 59, 60, 61] (by decide +kernel) (by decide +kernel)
set_option maxRecDepth 20000 in
theorem gX8_eat_X2_gain : GoodIn wsX8_eat (wsV RX8 124 RX2 yX2_gain wsX2_gain) := goodIn_app (goodIn_of _ (by decide +kernel)) ggX8_eat_X2_gain
theorem dX8_eat_0 : decode cX8_eat 0 = .ok (.aload_n 0, 1) := by decide +kernel
theorem dX8_eat_1 : decode cX8_eat 1 = .ok (.iload_n 1, 1) := by decide +kernel
theorem dX8_eat_2 : decode cX8_eat 2 = .ok (.iload_n 2, 1) := by decide +kernel
theorem dX8_eat_3 : decode cX8_eat 3 = .ok (.invokevirtual 113, 3) := by decide +kernel
theorem dX8_eat_6 : decode cX8_eat 6 = .ok (.istore_n 3, 1) := by decide +kernel
theorem dX8_eat_7 : decode cX8_eat 7 = .ok (.iload_n 3, 1) := by decide +kernel
theorem dX8_eat_8 : decode cX8_eat 8 = .ok (.ifCond .eq 5, 3) := by decide +kernel
theorem dX8_eat_11 : decode cX8_eat 11 = .ok (.iload_n 3, 1) := by decide +kernel
theorem dX8_eat_12 : decode cX8_eat 12 = .ok (.ireturn, 1) := by decide +kernel
theorem dX8_eat_13 : decode cX8_eat 13 = .ok (.aload_n 0, 1) := by decide +kernel
theorem dX8_eat_14 : decode cX8_eat 14 = .ok (.getfield 19, 3) := by decide +kernel
theorem dX8_eat_17 : decode cX8_eat 17 = .ok (.iload_n 1, 1) := by decide +kernel
theorem dX8_eat_18 : decode cX8_eat 18 = .ok (.iconst 1, 1) := by decide +kernel
theorem dX8_eat_19 : decode cX8_eat 19 = .ok (.invokevirtual 100, 3) := by decide +kernel
theorem dX8_eat_22 : decode cX8_eat 22 = .ok (.iload_n 2, 1) := by decide +kernel
theorem dX8_eat_23 : decode cX8_eat 23 = .ok (.if_icmp .ge 6, 3) := by decide +kernel
theorem dX8_eat_26 : decode cX8_eat 26 = .ok (.bipush (-3), 2) := by decide +kernel
theorem dX8_eat_28 : decode cX8_eat 28 = .ok (.ireturn, 1) := by decide +kernel
theorem dX8_eat_29 : decode cX8_eat 29 = .ok (.aload_n 0, 1) := by decide +kernel
theorem dX8_eat_30 : decode cX8_eat 30 = .ok (.getfield 26, 3) := by decide +kernel
theorem dX8_eat_33 : decode cX8_eat 33 = .ok (.aload_n 0, 1) := by decide +kernel
theorem dX8_eat_34 : decode cX8_eat 34 = .ok (.getfield 19, 3) := by decide +kernel
theorem dX8_eat_37 : decode cX8_eat 37 = .ok (.invokevirtual 116, 3) := by decide +kernel
theorem dX8_eat_40 : decode cX8_eat 40 = .ok (.aload_n 0, 1) := by decide +kernel
theorem dX8_eat_41 : decode cX8_eat 41 = .ok (.getfield 19, 3) := by decide +kernel
theorem dX8_eat_44 : decode cX8_eat 44 = .ok (.iload_n 1, 1) := by decide +kernel
theorem dX8_eat_45 : decode cX8_eat 45 = .ok (.iconst 1, 1) := by decide +kernel
theorem dX8_eat_46 : decode cX8_eat 46 = .ok (.iload_n 2, 1) := by decide +kernel
theorem dX8_eat_47 : decode cX8_eat 47 = .ok (.ineg, 1) := by decide +kernel
theorem dX8_eat_48 : decode cX8_eat 48 = .ok (.invokevirtual 120, 3) := by decide +kernel
theorem dX8_eat_51 : decode cX8_eat 51 = .ok (.aload_n 0, 1) := by decide +kernel
theorem dX8_eat_52 : decode cX8_eat 52 = .ok (.getfield 19, 3) := by decide +kernel
theorem dX8_eat_55 : decode cX8_eat 55 = .ok (.iload_n 1, 1) := by decide +kernel
theorem dX8_eat_56 : decode cX8_eat 56 = .ok (.bipush 8, 2) := by decide +kernel
theorem dX8_eat_58 : decode cX8_eat 58 = .ok (.iload_n 2, 1) := by decide +kernel
theorem dX8_eat_59 : decode cX8_eat 59 = .ok (.imul, 1) := by decide +kernel
theorem dX8_eat_60 : decode cX8_eat 60 = .ok (.invokevirtual 124, 3) := by decide +kernel
theorem dX8_eat_63 : decode cX8_eat 63 = .ok (.ireturn, 1) := by decide +kernel
set_option maxRecDepth 20000 in
theorem ggX8_toil_X8_refusalOf : GoodIn wsX8_toil wsX8_refusalOf := goodIn_r _ [7, 2, 8, 9, 10, 11, 12, 13, 47, 48, 49, 50, 51, 52, 53, 54, 55, 56, 57, 58, 59] (by decide +kernel) (by decide +kernel)
set_option maxRecDepth 20000 in
theorem gX8_toil_X8_refusalOf : GoodIn wsX8_toil (wsV RX8 113 RX8 yX8_refusalOf wsX8_refusalOf) := goodIn_app (goodIn_of _ (by decide +kernel)) ggX8_toil_X8_refusalOf
set_option maxRecDepth 20000 in
theorem ggX8_toil_X0_remember : GoodIn wsX8_toil wsX0_remember := goodIn_r _ [18, 19, 20, 21, 22, 23, 24, 11, 25, 26, 27, 28, 29, 30, 60, 61, 62, 56, 57, 58, 59] (by decide +kernel) (by decide +kernel)
set_option maxRecDepth 20000 in
theorem gX8_toil_X0_remember : GoodIn wsX8_toil (wsV RX8 116 RX0 yX0_remember wsX0_remember) := goodIn_app (goodIn_of _ (by decide +kernel)) ggX8_toil_X0_remember
set_option maxRecDepth 20000 in
theorem ggX8_toil_X2_gain : GoodIn wsX8_toil wsX2_gain := goodIn_r _ [34, 35, 36, 37, 38, 39, 40, 41, 11, 42, 26, 43, 44, 45, 46, 56, 57, 58, 59] (by decide +kernel) (by decide +kernel)
set_option maxRecDepth 20000 in
theorem gX8_toil_X2_gain : GoodIn wsX8_toil (wsV RX8 124 RX2 yX2_gain wsX2_gain) := goodIn_app (goodIn_of _ (by decide +kernel)) ggX8_toil_X2_gain
theorem dX8_toil_0 : decode cX8_toil 0 = .ok (.aload_n 0, 1) := by decide +kernel
theorem dX8_toil_1 : decode cX8_toil 1 = .ok (.iload_n 1, 1) := by decide +kernel
theorem dX8_toil_2 : decode cX8_toil 2 = .ok (.iload_n 2, 1) := by decide +kernel
theorem dX8_toil_3 : decode cX8_toil 3 = .ok (.invokevirtual 113, 3) := by decide +kernel
theorem dX8_toil_6 : decode cX8_toil 6 = .ok (.istore_n 3, 1) := by decide +kernel
theorem dX8_toil_7 : decode cX8_toil 7 = .ok (.iload_n 3, 1) := by decide +kernel
theorem dX8_toil_8 : decode cX8_toil 8 = .ok (.ifCond .eq 5, 3) := by decide +kernel
theorem dX8_toil_11 : decode cX8_toil 11 = .ok (.iload_n 3, 1) := by decide +kernel
theorem dX8_toil_12 : decode cX8_toil 12 = .ok (.ireturn, 1) := by decide +kernel
theorem dX8_toil_13 : decode cX8_toil 13 = .ok (.aload_n 0, 1) := by decide +kernel
theorem dX8_toil_14 : decode cX8_toil 14 = .ok (.getfield 26, 3) := by decide +kernel
theorem dX8_toil_17 : decode cX8_toil 17 = .ok (.aload_n 0, 1) := by decide +kernel
theorem dX8_toil_18 : decode cX8_toil 18 = .ok (.getfield 19, 3) := by decide +kernel
theorem dX8_toil_21 : decode cX8_toil 21 = .ok (.invokevirtual 116, 3) := by decide +kernel
theorem dX8_toil_24 : decode cX8_toil 24 = .ok (.aload_n 0, 1) := by decide +kernel
theorem dX8_toil_25 : decode cX8_toil 25 = .ok (.getfield 19, 3) := by decide +kernel
theorem dX8_toil_28 : decode cX8_toil 28 = .ok (.iload_n 1, 1) := by decide +kernel
theorem dX8_toil_29 : decode cX8_toil 29 = .ok (.bipush (-5), 2) := by decide +kernel
theorem dX8_toil_31 : decode cX8_toil 31 = .ok (.iload_n 2, 1) := by decide +kernel
theorem dX8_toil_32 : decode cX8_toil 32 = .ok (.imul, 1) := by decide +kernel
theorem dX8_toil_33 : decode cX8_toil 33 = .ok (.invokevirtual 124, 3) := by decide +kernel
theorem dX8_toil_36 : decode cX8_toil 36 = .ok (.ireturn, 1) := by decide +kernel
set_option maxRecDepth 20000 in
theorem ggX8_drink_X8_refusalOf : GoodIn wsX8_drink wsX8_refusalOf := goodIn_r _ [7, 1, 8, 9, 10, 11, 12, 13, 49, 50, 51, 52, 53, 54, 55, 56, 57, 58, 59, 60, 61] (by decide +kernel) (by decide +kernel)
set_option maxRecDepth 20000 in
theorem gX8_drink_X8_refusalOf : GoodIn wsX8_drink (wsV RX8 113 RX8 yX8_refusalOf wsX8_refusalOf) := goodIn_app (goodIn_of _ (by decide +kernel)) ggX8_drink_X8_refusalOf
set_option maxRecDepth 20000 in
theorem ggX8_drink_X2_get : GoodIn wsX8_drink wsX2_get := goodIn_r _ [17, 18, 58, 59, 60, 61] (by decide +kernel) (by decide +kernel)
set_option maxRecDepth 20000 in
theorem gX8_drink_X2_get : GoodIn wsX8_drink (wsV RX8 100 RX2 yX2_get wsX2_get) := goodIn_app (goodIn_of _ (by decide +kernel)) ggX8_drink_X2_get
set_option maxRecDepth 20000 in
theorem ggX8_drink_X0_remember : GoodIn wsX8_drink wsX0_remember := goodIn_r _ [23, 24, 25, 26, 27, 28, 29, 11, 30, 18, 31, 32, 33, 34, 62, 63, 64, 58, 59, 60, 61] (by decide +kernel) (by decide +kernel)
set_option maxRecDepth 20000 in
theorem gX8_drink_X0_remember : GoodIn wsX8_drink (wsV RX8 116 RX0 yX0_remember wsX0_remember) := goodIn_app (goodIn_of _ (by decide +kernel)) ggX8_drink_X0_remember
set_option maxRecDepth 20000 in
theorem ggX8_drink_X2_add : GoodIn wsX8_drink wsX2_add := goodIn_r _ [38, 18, 58, 59, 60, 61] (by decide +kernel) (by decide +kernel)
set_option maxRecDepth 20000 in
theorem gX8_drink_X2_add : GoodIn wsX8_drink (wsV RX8 120 RX2 yX2_add wsX2_add) := goodIn_app (goodIn_of _ (by decide +kernel)) ggX8_drink_X2_add
set_option maxRecDepth 20000 in
theorem ggX8_drink_X2_gain : GoodIn wsX8_drink wsX2_gain := goodIn_r _ [42, 43, 44, 45, 46, 47, 15, 16, 11, 17, 18, 48, 36, 37, 38, 58, 59, 60, 61] (by decide +kernel) (by decide +kernel)
set_option maxRecDepth 20000 in
theorem gX8_drink_X2_gain : GoodIn wsX8_drink (wsV RX8 124 RX2 yX2_gain wsX2_gain) := goodIn_app (goodIn_of _ (by decide +kernel)) ggX8_drink_X2_gain
theorem dX8_drink_0 : decode cX8_drink 0 = .ok (.aload_n 0, 1) := by decide +kernel
theorem dX8_drink_1 : decode cX8_drink 1 = .ok (.iload_n 1, 1) := by decide +kernel
theorem dX8_drink_2 : decode cX8_drink 2 = .ok (.iload_n 2, 1) := by decide +kernel
theorem dX8_drink_3 : decode cX8_drink 3 = .ok (.invokevirtual 113, 3) := by decide +kernel
theorem dX8_drink_6 : decode cX8_drink 6 = .ok (.istore_n 3, 1) := by decide +kernel
theorem dX8_drink_7 : decode cX8_drink 7 = .ok (.iload_n 3, 1) := by decide +kernel
theorem dX8_drink_8 : decode cX8_drink 8 = .ok (.ifCond .eq 5, 3) := by decide +kernel
theorem dX8_drink_11 : decode cX8_drink 11 = .ok (.iload_n 3, 1) := by decide +kernel
theorem dX8_drink_12 : decode cX8_drink 12 = .ok (.ireturn, 1) := by decide +kernel
theorem dX8_drink_13 : decode cX8_drink 13 = .ok (.iconst 3, 1) := by decide +kernel
theorem dX8_drink_14 : decode cX8_drink 14 = .ok (.iload_n 2, 1) := by decide +kernel
theorem dX8_drink_15 : decode cX8_drink 15 = .ok (.imul, 1) := by decide +kernel
theorem dX8_drink_16 : decode cX8_drink 16 = .ok (.istore 4, 2) := by decide +kernel
theorem dX8_drink_18 : decode cX8_drink 18 = .ok (.aload_n 0, 1) := by decide +kernel
theorem dX8_drink_19 : decode cX8_drink 19 = .ok (.getfield 19, 3) := by decide +kernel
theorem dX8_drink_22 : decode cX8_drink 22 = .ok (.iload_n 1, 1) := by decide +kernel
theorem dX8_drink_23 : decode cX8_drink 23 = .ok (.iconst 3, 1) := by decide +kernel
theorem dX8_drink_24 : decode cX8_drink 24 = .ok (.invokevirtual 100, 3) := by decide +kernel
theorem dX8_drink_27 : decode cX8_drink 27 = .ok (.iload 4, 2) := by decide +kernel
theorem dX8_drink_29 : decode cX8_drink 29 = .ok (.iadd, 1) := by decide +kernel
theorem dX8_drink_30 : decode cX8_drink 30 = .ok (.bipush 90, 2) := by decide +kernel
theorem dX8_drink_32 : decode cX8_drink 32 = .ok (.if_icmp .le 6, 3) := by decide +kernel
theorem dX8_drink_35 : decode cX8_drink 35 = .ok (.bipush (-3), 2) := by decide +kernel
theorem dX8_drink_37 : decode cX8_drink 37 = .ok (.ireturn, 1) := by decide +kernel
theorem dX8_drink_38 : decode cX8_drink 38 = .ok (.aload_n 0, 1) := by decide +kernel
theorem dX8_drink_39 : decode cX8_drink 39 = .ok (.getfield 26, 3) := by decide +kernel
theorem dX8_drink_42 : decode cX8_drink 42 = .ok (.aload_n 0, 1) := by decide +kernel
theorem dX8_drink_43 : decode cX8_drink 43 = .ok (.getfield 19, 3) := by decide +kernel
theorem dX8_drink_46 : decode cX8_drink 46 = .ok (.invokevirtual 116, 3) := by decide +kernel
theorem dX8_drink_49 : decode cX8_drink 49 = .ok (.aload_n 0, 1) := by decide +kernel
theorem dX8_drink_50 : decode cX8_drink 50 = .ok (.getfield 19, 3) := by decide +kernel
theorem dX8_drink_53 : decode cX8_drink 53 = .ok (.iload_n 1, 1) := by decide +kernel
theorem dX8_drink_54 : decode cX8_drink 54 = .ok (.iconst 3, 1) := by decide +kernel
theorem dX8_drink_55 : decode cX8_drink 55 = .ok (.iload 4, 2) := by decide +kernel
theorem dX8_drink_57 : decode cX8_drink 57 = .ok (.invokevirtual 120, 3) := by decide +kernel
theorem dX8_drink_60 : decode cX8_drink 60 = .ok (.aload_n 0, 1) := by decide +kernel
theorem dX8_drink_61 : decode cX8_drink 61 = .ok (.getfield 19, 3) := by decide +kernel
theorem dX8_drink_64 : decode cX8_drink 64 = .ok (.iload_n 1, 1) := by decide +kernel
theorem dX8_drink_65 : decode cX8_drink 65 = .ok (.iload 4, 2) := by decide +kernel
theorem dX8_drink_67 : decode cX8_drink 67 = .ok (.invokevirtual 124, 3) := by decide +kernel
theorem dX8_drink_70 : decode cX8_drink 70 = .ok (.ireturn, 1) := by decide +kernel
set_option maxRecDepth 20000 in
theorem ggX8_refusalOf_X2_has : GoodIn wsX8_refusalOf wsX2_has := goodIn_r _ [6, 7, 17, 18, 19, 20] (by decide +kernel) (by decide +kernel)
set_option maxRecDepth 20000 in
theorem gX8_refusalOf_X2_has : GoodIn wsX8_refusalOf (wsV RX8 96 RX2 yX2_has wsX2_has) := goodIn_app (goodIn_of _ (by decide +kernel)) ggX8_refusalOf_X2_has
theorem dX8_refusalOf_0 : decode cX8_refusalOf 0 = .ok (.aload_n 0, 1) := by decide +kernel
theorem dX8_refusalOf_1 : decode cX8_refusalOf 1 = .ok (.getfield 19, 3) := by decide +kernel
theorem dX8_refusalOf_4 : decode cX8_refusalOf 4 = .ok (.iload_n 1, 1) := by decide +kernel
theorem dX8_refusalOf_5 : decode cX8_refusalOf 5 = .ok (.invokevirtual 96, 3) := by decide +kernel
theorem dX8_refusalOf_8 : decode cX8_refusalOf 8 = .ok (.ifCond .ne 5, 3) := by decide +kernel
theorem dX8_refusalOf_11 : decode cX8_refusalOf 11 = .ok (.iconst (-1), 1) := by decide +kernel
theorem dX8_refusalOf_12 : decode cX8_refusalOf 12 = .ok (.ireturn, 1) := by decide +kernel
theorem dX8_refusalOf_13 : decode cX8_refusalOf 13 = .ok (.iload_n 2, 1) := by decide +kernel
theorem dX8_refusalOf_14 : decode cX8_refusalOf 14 = .ok (.iconst 1, 1) := by decide +kernel
theorem dX8_refusalOf_15 : decode cX8_refusalOf 15 = .ok (.if_icmp .lt 9, 3) := by decide +kernel
theorem dX8_refusalOf_18 : decode cX8_refusalOf 18 = .ok (.iload_n 2, 1) := by decide +kernel
theorem dX8_refusalOf_19 : decode cX8_refusalOf 19 = .ok (.bipush 9, 2) := by decide +kernel
theorem dX8_refusalOf_21 : decode cX8_refusalOf 21 = .ok (.if_icmp .le 8, 3) := by decide +kernel
theorem dX8_refusalOf_24 : decode cX8_refusalOf 24 = .ok (.bipush (-2), 2) := by decide +kernel
theorem dX8_refusalOf_26 : decode cX8_refusalOf 26 = .ok (.goto 4, 3) := by decide +kernel
theorem dX8_refusalOf_29 : decode cX8_refusalOf 29 = .ok (.iconst 0, 1) := by decide +kernel
theorem dX8_refusalOf_30 : decode cX8_refusalOf 30 = .ok (.ireturn, 1) := by decide +kernel
set_option maxRecDepth 20000 in
theorem ggX8_hand_X2_has : GoodIn wsX8_hand wsX2_has := goodIn_r _ [7, 8, 43, 44, 45, 46] (by decide +kernel) (by decide +kernel)
set_option maxRecDepth 20000 in
theorem gX8_hand_X2_has : GoodIn wsX8_hand (wsV RX8 96 RX2 yX2_has wsX2_has) := goodIn_app (goodIn_of _ (by decide +kernel)) ggX8_hand_X2_has
set_option maxRecDepth 20000 in
theorem ggX8_hand_X2_get : GoodIn wsX8_hand wsX2_get := goodIn_r _ [12, 13, 43, 44, 45, 46] (by decide +kernel) (by decide +kernel)
set_option maxRecDepth 20000 in
theorem gX8_hand_X2_get : GoodIn wsX8_hand (wsV RX8 100 RX2 yX2_get wsX2_get) := goodIn_app (goodIn_of _ (by decide +kernel)) ggX8_hand_X2_get
set_option maxRecDepth 20000 in
theorem ggX8_hand_X0_remember : GoodIn wsX8_hand wsX0_remember := goodIn_r _ [18, 19, 20, 21, 22, 23, 24, 6, 25, 13, 26, 27, 28, 29, 47, 48, 49, 43, 44, 45, 46] (by decide +kernel) (by decide +kernel)
set_option maxRecDepth 20000 in
theorem gX8_hand_X0_remember : GoodIn wsX8_hand (wsV RX8 116 RX0 yX0_remember wsX0_remember) := goodIn_app (goodIn_of _ (by decide +kernel)) ggX8_hand_X0_remember
set_option maxRecDepth 20000 in
theorem ggX8_hand_X2_add : GoodIn wsX8_hand wsX2_add := goodIn_r _ [33, 13, 43, 44, 45, 46] (by decide +kernel) (by decide +kernel)
set_option maxRecDepth 20000 in
theorem gX8_hand_X2_add : GoodIn wsX8_hand (wsV RX8 120 RX2 yX2_add wsX2_add) := goodIn_app (goodIn_of _ (by decide +kernel)) ggX8_hand_X2_add
theorem dX8_hand_0 : decode cX8_hand 0 = .ok (.aload_n 0, 1) := by decide +kernel
theorem dX8_hand_1 : decode cX8_hand 1 = .ok (.getfield 19, 3) := by decide +kernel
theorem dX8_hand_4 : decode cX8_hand 4 = .ok (.iload_n 1, 1) := by decide +kernel
theorem dX8_hand_5 : decode cX8_hand 5 = .ok (.invokevirtual 96, 3) := by decide +kernel
theorem dX8_hand_8 : decode cX8_hand 8 = .ok (.ifCond .eq 14, 3) := by decide +kernel
theorem dX8_hand_11 : decode cX8_hand 11 = .ok (.aload_n 0, 1) := by decide +kernel
theorem dX8_hand_12 : decode cX8_hand 12 = .ok (.getfield 19, 3) := by decide +kernel
theorem dX8_hand_15 : decode cX8_hand 15 = .ok (.iload_n 2, 1) := by decide +kernel
theorem dX8_hand_16 : decode cX8_hand 16 = .ok (.invokevirtual 96, 3) := by decide +kernel
theorem dX8_hand_19 : decode cX8_hand 19 = .ok (.ifCond .ne 5, 3) := by decide +kernel
theorem dX8_hand_22 : decode cX8_hand 22 = .ok (.iconst (-1), 1) := by decide +kernel
theorem dX8_hand_23 : decode cX8_hand 23 = .ok (.ireturn, 1) := by decide +kernel
theorem dX8_hand_24 : decode cX8_hand 24 = .ok (.iload_n 3, 1) := by decide +kernel
theorem dX8_hand_25 : decode cX8_hand 25 = .ok (.ifCond .eq 7, 3) := by decide +kernel
theorem dX8_hand_28 : decode cX8_hand 28 = .ok (.iconst 2, 1) := by decide +kernel
theorem dX8_hand_29 : decode cX8_hand 29 = .ok (.goto 4, 3) := by decide +kernel
theorem dX8_hand_32 : decode cX8_hand 32 = .ok (.iconst 1, 1) := by decide +kernel
theorem dX8_hand_33 : decode cX8_hand 33 = .ok (.istore 4, 2) := by decide +kernel
theorem dX8_hand_35 : decode cX8_hand 35 = .ok (.iload_n 1, 1) := by decide +kernel
theorem dX8_hand_36 : decode cX8_hand 36 = .ok (.iload_n 2, 1) := by decide +kernel
theorem dX8_hand_37 : decode cX8_hand 37 = .ok (.if_icmp .eq 16, 3) := by decide +kernel
theorem dX8_hand_40 : decode cX8_hand 40 = .ok (.aload_n 0, 1) := by decide +kernel
theorem dX8_hand_41 : decode cX8_hand 41 = .ok (.getfield 19, 3) := by decide +kernel
theorem dX8_hand_44 : decode cX8_hand 44 = .ok (.iload_n 1, 1) := by decide +kernel
theorem dX8_hand_45 : decode cX8_hand 45 = .ok (.iload 4, 2) := by decide +kernel
theorem dX8_hand_47 : decode cX8_hand 47 = .ok (.invokevirtual 100, 3) := by decide +kernel
theorem dX8_hand_50 : decode cX8_hand 50 = .ok (.ifCond .ne 6, 3) := by decide +kernel
theorem dX8_hand_53 : decode cX8_hand 53 = .ok (.bipush (-3), 2) := by decide +kernel
theorem dX8_hand_55 : decode cX8_hand 55 = .ok (.ireturn, 1) := by decide +kernel
theorem dX8_hand_56 : decode cX8_hand 56 = .ok (.aload_n 0, 1) := by decide +kernel
theorem dX8_hand_57 : decode cX8_hand 57 = .ok (.getfield 19, 3) := by decide +kernel
theorem dX8_hand_60 : decode cX8_hand 60 = .ok (.iload_n 2, 1) := by decide +kernel
theorem dX8_hand_61 : decode cX8_hand 61 = .ok (.iload 4, 2) := by decide +kernel
theorem dX8_hand_63 : decode cX8_hand 63 = .ok (.invokevirtual 100, 3) := by decide +kernel
theorem dX8_hand_66 : decode cX8_hand 66 = .ok (.bipush 9, 2) := by decide +kernel
theorem dX8_hand_68 : decode cX8_hand 68 = .ok (.if_icmp .lt 6, 3) := by decide +kernel
theorem dX8_hand_71 : decode cX8_hand 71 = .ok (.bipush (-4), 2) := by decide +kernel
theorem dX8_hand_73 : decode cX8_hand 73 = .ok (.ireturn, 1) := by decide +kernel
theorem dX8_hand_74 : decode cX8_hand 74 = .ok (.aload_n 0, 1) := by decide +kernel
theorem dX8_hand_75 : decode cX8_hand 75 = .ok (.getfield 26, 3) := by decide +kernel
theorem dX8_hand_78 : decode cX8_hand 78 = .ok (.aload_n 0, 1) := by decide +kernel
theorem dX8_hand_79 : decode cX8_hand 79 = .ok (.getfield 19, 3) := by decide +kernel
theorem dX8_hand_82 : decode cX8_hand 82 = .ok (.invokevirtual 116, 3) := by decide +kernel
theorem dX8_hand_85 : decode cX8_hand 85 = .ok (.aload_n 0, 1) := by decide +kernel
theorem dX8_hand_86 : decode cX8_hand 86 = .ok (.getfield 19, 3) := by decide +kernel
theorem dX8_hand_89 : decode cX8_hand 89 = .ok (.iload_n 1, 1) := by decide +kernel
theorem dX8_hand_90 : decode cX8_hand 90 = .ok (.iload 4, 2) := by decide +kernel
theorem dX8_hand_92 : decode cX8_hand 92 = .ok (.iconst (-1), 1) := by decide +kernel
theorem dX8_hand_93 : decode cX8_hand 93 = .ok (.invokevirtual 120, 3) := by decide +kernel
theorem dX8_hand_96 : decode cX8_hand 96 = .ok (.aload_n 0, 1) := by decide +kernel
theorem dX8_hand_97 : decode cX8_hand 97 = .ok (.getfield 19, 3) := by decide +kernel
theorem dX8_hand_100 : decode cX8_hand 100 = .ok (.iload_n 2, 1) := by decide +kernel
theorem dX8_hand_101 : decode cX8_hand 101 = .ok (.iload 4, 2) := by decide +kernel
theorem dX8_hand_103 : decode cX8_hand 103 = .ok (.iconst 1, 1) := by decide +kernel
theorem dX8_hand_104 : decode cX8_hand 104 = .ok (.invokevirtual 120, 3) := by decide +kernel
theorem dX8_hand_107 : decode cX8_hand 107 = .ok (.aload_n 0, 1) := by decide +kernel
theorem dX8_hand_108 : decode cX8_hand 108 = .ok (.getfield 19, 3) := by decide +kernel
theorem dX8_hand_111 : decode cX8_hand 111 = .ok (.iload_n 2, 1) := by decide +kernel
theorem dX8_hand_112 : decode cX8_hand 112 = .ok (.iload 4, 2) := by decide +kernel
theorem dX8_hand_114 : decode cX8_hand 114 = .ok (.invokevirtual 100, 3) := by decide +kernel
theorem dX8_hand_117 : decode cX8_hand 117 = .ok (.ireturn, 1) := by decide +kernel
set_option maxRecDepth 20000 in
theorem ggX8_day_X0_remember : GoodIn wsX8_day wsX0_remember := goodIn_r _ [7, 8, 9, 10, 11, 12, 13, 14, 15, 16, 17, 18, 19, 20, 56, 57, 58, 59, 60, 61, 62] (by decide +kernel) (by decide +kernel)
set_option maxRecDepth 20000 in
theorem gX8_day_X0_remember : GoodIn wsX8_day (wsV RX8 116 RX0 yX0_remember wsX0_remember) := goodIn_app (goodIn_of _ (by decide +kernel)) ggX8_day_X0_remember
set_option maxRecDepth 20000 in
theorem ggX8_day_X2_passDay : GoodIn wsX8_day wsX2_passDay := goodIn_r _ [24, 16, 25, 26, 27, 28, 29, 14, 30, 31, 32, 33, 34, 35, 36, 37, 38, 39, 40, 41, 42, 59, 60, 61, 62] (by decide +kernel) (by decide +kernel)
set_option maxRecDepth 20000 in
theorem gX8_day_X2_passDay : GoodIn wsX8_day (wsV RX8 127 RX2 yX2_passDay wsX2_passDay) := goodIn_app (goodIn_of _ (by decide +kernel)) ggX8_day_X2_passDay
set_option maxRecDepth 20000 in
theorem ggX8_day_X2_today : GoodIn wsX8_day wsX2_today := goodIn_r _ [46, 16, 59, 60, 61, 62] (by decide +kernel) (by decide +kernel)
set_option maxRecDepth 20000 in
theorem gX8_day_X2_today : GoodIn wsX8_day (wsV RX8 130 RX2 yX2_today wsX2_today) := goodIn_app (goodIn_of _ (by decide +kernel)) ggX8_day_X2_today
theorem dX8_day_0 : decode cX8_day 0 = .ok (.aload_n 0, 1) := by decide +kernel
theorem dX8_day_1 : decode cX8_day 1 = .ok (.getfield 26, 3) := by decide +kernel
theorem dX8_day_4 : decode cX8_day 4 = .ok (.aload_n 0, 1) := by decide +kernel
theorem dX8_day_5 : decode cX8_day 5 = .ok (.getfield 19, 3) := by decide +kernel
theorem dX8_day_8 : decode cX8_day 8 = .ok (.invokevirtual 116, 3) := by decide +kernel
theorem dX8_day_11 : decode cX8_day 11 = .ok (.aload_n 0, 1) := by decide +kernel
theorem dX8_day_12 : decode cX8_day 12 = .ok (.getfield 19, 3) := by decide +kernel
theorem dX8_day_15 : decode cX8_day 15 = .ok (.invokevirtual 127, 3) := by decide +kernel
theorem dX8_day_18 : decode cX8_day 18 = .ok (.aload_n 0, 1) := by decide +kernel
theorem dX8_day_19 : decode cX8_day 19 = .ok (.getfield 19, 3) := by decide +kernel
theorem dX8_day_22 : decode cX8_day 22 = .ok (.invokevirtual 130, 3) := by decide +kernel
theorem dX8_day_25 : decode cX8_day 25 = .ok (.ireturn, 1) := by decide +kernel
set_option maxRecDepth 20000 in
theorem ggX8_crown_X2_crownedBy : GoodIn wsX8_crown wsX2_crownedBy := goodIn_r _ [7, 8, 9, 10, 6, 11, 12, 13, 14, 15, 16, 17, 18, 19, 20, 21, 22, 23, 24, 25, 26, 27, 28, 29, 30, 31, 32, 33, 34, 44, 45, 46, 47] (by decide +kernel) (by decide +kernel)
set_option maxRecDepth 20000 in
theorem gX8_crown_X2_crownedBy : GoodIn wsX8_crown (wsV RX8 133 RX2 yX2_crownedBy wsX2_crownedBy) := goodIn_app (goodIn_of _ (by decide +kernel)) ggX8_crown_X2_crownedBy
theorem dX8_crown_0 : decode cX8_crown 0 = .ok (.aload_n 0, 1) := by decide +kernel
theorem dX8_crown_1 : decode cX8_crown 1 = .ok (.getfield 19, 3) := by decide +kernel
theorem dX8_crown_4 : decode cX8_crown 4 = .ok (.aload_n 0, 1) := by decide +kernel
theorem dX8_crown_5 : decode cX8_crown 5 = .ok (.getfield 65, 3) := by decide +kernel
theorem dX8_crown_8 : decode cX8_crown 8 = .ok (.invokevirtual 133, 3) := by decide +kernel
theorem dX8_crown_11 : decode cX8_crown 11 = .ok (.ireturn, 1) := by decide +kernel
set_option maxRecDepth 20000 in
theorem ggX8_noon_X2_crownedBy : GoodIn wsX8_noon wsX2_crownedBy := goodIn_r _ [8, 9, 10, 11, 7, 12, 13, 14, 15, 16, 17, 18, 19, 20, 21, 22, 23, 24, 25, 26, 27, 28, 29, 30, 31, 32, 33, 34, 35, 65, 66, 67, 68] (by decide +kernel) (by decide +kernel)
set_option maxRecDepth 20000 in
theorem gX8_noon_X2_crownedBy : GoodIn wsX8_noon (wsV RX8 133 RX2 yX2_crownedBy wsX2_crownedBy) := goodIn_app (goodIn_of _ (by decide +kernel)) ggX8_noon_X2_crownedBy
set_option maxRecDepth 20000 in
theorem ggX8_noon_X0_remember : GoodIn wsX8_noon wsX0_remember := goodIn_r _ [40, 41, 42, 43, 44, 45, 46, 7, 47, 23, 48, 49, 50, 51, 69, 70, 71, 65, 66, 67, 68] (by decide +kernel) (by decide +kernel)
set_option maxRecDepth 20000 in
theorem gX8_noon_X0_remember : GoodIn wsX8_noon (wsV RX8 116 RX0 yX0_remember wsX0_remember) := goodIn_app (goodIn_of _ (by decide +kernel)) ggX8_noon_X0_remember
set_option maxRecDepth 20000 in
theorem ggX8_noon_X2_add : GoodIn wsX8_noon wsX2_add := goodIn_r _ [55, 23, 65, 66, 67, 68] (by decide +kernel) (by decide +kernel)
set_option maxRecDepth 20000 in
theorem gX8_noon_X2_add : GoodIn wsX8_noon (wsV RX8 120 RX2 yX2_add wsX2_add) := goodIn_app (goodIn_of _ (by decide +kernel)) ggX8_noon_X2_add
theorem dX8_noon_0 : decode cX8_noon 0 = .ok (.aload_n 0, 1) := by decide +kernel
theorem dX8_noon_1 : decode cX8_noon 1 = .ok (.getfield 19, 3) := by decide +kernel
theorem dX8_noon_4 : decode cX8_noon 4 = .ok (.aload_n 0, 1) := by decide +kernel
theorem dX8_noon_5 : decode cX8_noon 5 = .ok (.getfield 65, 3) := by decide +kernel
theorem dX8_noon_8 : decode cX8_noon 8 = .ok (.invokevirtual 133, 3) := by decide +kernel
theorem dX8_noon_11 : decode cX8_noon 11 = .ok (.istore_n 1, 1) := by decide +kernel
theorem dX8_noon_12 : decode cX8_noon 12 = .ok (.aload_n 0, 1) := by decide +kernel
theorem dX8_noon_13 : decode cX8_noon 13 = .ok (.getfield 26, 3) := by decide +kernel
theorem dX8_noon_16 : decode cX8_noon 16 = .ok (.aload_n 0, 1) := by decide +kernel
theorem dX8_noon_17 : decode cX8_noon 17 = .ok (.getfield 19, 3) := by decide +kernel
theorem dX8_noon_20 : decode cX8_noon 20 = .ok (.invokevirtual 116, 3) := by decide +kernel
theorem dX8_noon_23 : decode cX8_noon 23 = .ok (.iload_n 1, 1) := by decide +kernel
theorem dX8_noon_24 : decode cX8_noon 24 = .ok (.bipush (-9), 2) := by decide +kernel
theorem dX8_noon_26 : decode cX8_noon 26 = .ok (.if_icmp .eq 13, 3) := by decide +kernel
theorem dX8_noon_29 : decode cX8_noon 29 = .ok (.aload_n 0, 1) := by decide +kernel
theorem dX8_noon_30 : decode cX8_noon 30 = .ok (.getfield 19, 3) := by decide +kernel
theorem dX8_noon_33 : decode cX8_noon 33 = .ok (.iload_n 1, 1) := by decide +kernel
theorem dX8_noon_34 : decode cX8_noon 34 = .ok (.iconst 4, 1) := by decide +kernel
theorem dX8_noon_35 : decode cX8_noon 35 = .ok (.iconst 1, 1) := by decide +kernel
theorem dX8_noon_36 : decode cX8_noon 36 = .ok (.invokevirtual 120, 3) := by decide +kernel
theorem dX8_noon_39 : decode cX8_noon 39 = .ok (.iload_n 1, 1) := by decide +kernel
theorem dX8_noon_40 : decode cX8_noon 40 = .ok (.ireturn, 1) := by decide +kernel
set_option maxRecDepth 20000 in
theorem ggX8_undo_X0_length : GoodIn wsX8_undo wsX0_length := goodIn_r _ [7, 8, 34, 35, 36] (by decide +kernel) (by decide +kernel)
set_option maxRecDepth 20000 in
theorem gX8_undo_X0_length : GoodIn wsX8_undo (wsV RX8 136 RX0 yX0_length wsX0_length) := goodIn_app (goodIn_of _ (by decide +kernel)) ggX8_undo_X0_length
set_option maxRecDepth 20000 in
theorem ggX8_undo_X0_takeBack : GoodIn wsX8_undo wsX0_takeBack := goodIn_r _ [12, 8, 13, 14, 15, 16, 17, 18, 19, 20, 21, 22, 23, 24, 34, 35, 36, 37, 38, 39, 40] (by decide +kernel) (by decide +kernel)
set_option maxRecDepth 20000 in
theorem gX8_undo_X0_takeBack : GoodIn wsX8_undo (wsV RX8 137 RX0 yX0_takeBack wsX0_takeBack) := goodIn_app (goodIn_of _ (by decide +kernel)) ggX8_undo_X0_takeBack
theorem dX8_undo_0 : decode cX8_undo 0 = .ok (.aload_n 0, 1) := by decide +kernel
theorem dX8_undo_1 : decode cX8_undo 1 = .ok (.getfield 26, 3) := by decide +kernel
theorem dX8_undo_4 : decode cX8_undo 4 = .ok (.invokevirtual 136, 3) := by decide +kernel
theorem dX8_undo_7 : decode cX8_undo 7 = .ok (.ifCond .ne 6, 3) := by decide +kernel
theorem dX8_undo_10 : decode cX8_undo 10 = .ok (.bipush (-3), 2) := by decide +kernel
theorem dX8_undo_12 : decode cX8_undo 12 = .ok (.ireturn, 1) := by decide +kernel
theorem dX8_undo_13 : decode cX8_undo 13 = .ok (.aload_n 0, 1) := by decide +kernel
theorem dX8_undo_14 : decode cX8_undo 14 = .ok (.getfield 26, 3) := by decide +kernel
theorem dX8_undo_17 : decode cX8_undo 17 = .ok (.aload_n 0, 1) := by decide +kernel
theorem dX8_undo_18 : decode cX8_undo 18 = .ok (.getfield 19, 3) := by decide +kernel
theorem dX8_undo_21 : decode cX8_undo 21 = .ok (.invokevirtual 137, 3) := by decide +kernel
theorem dX8_undo_24 : decode cX8_undo 24 = .ok (.aload_n 0, 1) := by decide +kernel
theorem dX8_undo_25 : decode cX8_undo 25 = .ok (.getfield 26, 3) := by decide +kernel
theorem dX8_undo_28 : decode cX8_undo 28 = .ok (.invokevirtual 136, 3) := by decide +kernel
theorem dX8_undo_31 : decode cX8_undo 31 = .ok (.ireturn, 1) := by decide +kernel
set_option maxRecDepth 20000 in
theorem ggX8_sure_X8_refusalOfSure : GoodIn wsX8_sure wsX8_refusalOfSure := goodIn_r _ [5, 6, 7, 8, 9, 10, 11, 12, 13, 14, 15, 16, 46, 47, 48, 49, 50, 51, 52, 53, 54, 55, 56, 57, 58] (by decide +kernel) (by decide +kernel)
set_option maxRecDepth 20000 in
theorem gX8_sure_X8_refusalOfSure : GoodIn wsX8_sure (wsV RX8 140 RX8 yX8_refusalOfSure wsX8_refusalOfSure) := goodIn_app (goodIn_of _ (by decide +kernel)) ggX8_sure_X8_refusalOfSure
set_option maxRecDepth 20000 in
theorem ggX8_sure_X8_leastSureToil : GoodIn wsX8_sure wsX8_leastSureToil := goodIn_r _ [20, 6, 21, 22, 23, 10, 24, 12, 25, 26, 27, 28, 29, 30, 31, 32, 33, 34, 35, 36, 37, 38, 39, 40, 41, 42, 46, 47, 48, 49, 50, 51, 52, 53, 54, 55, 56, 57, 58] (by decide +kernel) (by decide +kernel)
set_option maxRecDepth 20000 in
theorem gX8_sure_X8_leastSureToil : GoodIn wsX8_sure (wsV RX8 144 RX8 yX8_leastSureToil wsX8_leastSureToil) := goodIn_app (goodIn_of _ (by decide +kernel)) ggX8_sure_X8_leastSureToil
set_option maxRecDepth 20000 in
theorem ggX8_sure_X8_toilOnDay : GoodIn wsX8_sure wsX8_toilOnDay := goodIn_r _ [45] (by decide +kernel) (by decide +kernel)
set_option maxRecDepth 20000 in
theorem gX8_sure_X8_toilOnDay : GoodIn wsX8_sure (va_wsS RX8 147 yX8_toilOnDay wsX8_toilOnDay) := goodIn_app (goodIn_of _ (by decide +kernel)) ggX8_sure_X8_toilOnDay
theorem dX8_sure_0 : decode cX8_sure 0 = .ok (.aload_n 0, 1) := by decide +kernel
theorem dX8_sure_1 : decode cX8_sure 1 = .ok (.iload_n 1, 1) := by decide +kernel
theorem dX8_sure_2 : decode cX8_sure 2 = .ok (.iload_n 2, 1) := by decide +kernel
theorem dX8_sure_3 : decode cX8_sure 3 = .ok (.iload_n 3, 1) := by decide +kernel
theorem dX8_sure_4 : decode cX8_sure 4 = .ok (.invokevirtual 140, 3) := by decide +kernel
theorem dX8_sure_7 : decode cX8_sure 7 = .ok (.istore 4, 2) := by decide +kernel
theorem dX8_sure_9 : decode cX8_sure 9 = .ok (.iload 4, 2) := by decide +kernel
theorem dX8_sure_11 : decode cX8_sure 11 = .ok (.ifCond .eq 6, 3) := by decide +kernel
theorem dX8_sure_14 : decode cX8_sure 14 = .ok (.iload 4, 2) := by decide +kernel
theorem dX8_sure_16 : decode cX8_sure 16 = .ok (.ireturn, 1) := by decide +kernel
theorem dX8_sure_17 : decode cX8_sure 17 = .ok (.aload_n 0, 1) := by decide +kernel
theorem dX8_sure_18 : decode cX8_sure 18 = .ok (.iload_n 1, 1) := by decide +kernel
theorem dX8_sure_19 : decode cX8_sure 19 = .ok (.iload_n 2, 1) := by decide +kernel
theorem dX8_sure_20 : decode cX8_sure 20 = .ok (.iload_n 3, 1) := by decide +kernel
theorem dX8_sure_21 : decode cX8_sure 21 = .ok (.invokevirtual 144, 3) := by decide +kernel
theorem dX8_sure_24 : decode cX8_sure 24 = .ok (.istore 5, 2) := by decide +kernel
theorem dX8_sure_26 : decode cX8_sure 26 = .ok (.iload 5, 2) := by decide +kernel
theorem dX8_sure_28 : decode cX8_sure 28 = .ok (.bipush (-9), 2) := by decide +kernel
theorem dX8_sure_30 : decode cX8_sure 30 = .ok (.if_icmp .ne 6, 3) := by decide +kernel
theorem dX8_sure_33 : decode cX8_sure 33 = .ok (.bipush (-9), 2) := by decide +kernel
theorem dX8_sure_35 : decode cX8_sure 35 = .ok (.ireturn, 1) := by decide +kernel
theorem dX8_sure_36 : decode cX8_sure 36 = .ok (.iconst 0, 1) := by decide +kernel
theorem dX8_sure_37 : decode cX8_sure 37 = .ok (.istore 6, 2) := by decide +kernel
theorem dX8_sure_39 : decode cX8_sure 39 = .ok (.iconst 0, 1) := by decide +kernel
theorem dX8_sure_40 : decode cX8_sure 40 = .ok (.istore 7, 2) := by decide +kernel
theorem dX8_sure_42 : decode cX8_sure 42 = .ok (.iload 7, 2) := by decide +kernel
theorem dX8_sure_44 : decode cX8_sure 44 = .ok (.iload_n 2, 1) := by decide +kernel
theorem dX8_sure_45 : decode cX8_sure 45 = .ok (.if_icmp .ge 31, 3) := by decide +kernel
theorem dX8_sure_48 : decode cX8_sure 48 = .ok (.iload 6, 2) := by decide +kernel
theorem dX8_sure_50 : decode cX8_sure 50 = .ok (.iload 5, 2) := by decide +kernel
theorem dX8_sure_52 : decode cX8_sure 52 = .ok (.iload_n 2, 1) := by decide +kernel
theorem dX8_sure_53 : decode cX8_sure 53 = .ok (.iload 7, 2) := by decide +kernel
theorem dX8_sure_55 : decode cX8_sure 55 = .ok (.invokestatic 147, 3) := by decide +kernel
theorem dX8_sure_58 : decode cX8_sure 58 = .ok (.iload 5, 2) := by decide +kernel
theorem dX8_sure_60 : decode cX8_sure 60 = .ok (.iload_n 2, 1) := by decide +kernel
theorem dX8_sure_61 : decode cX8_sure 61 = .ok (.iload 7, 2) := by decide +kernel
theorem dX8_sure_63 : decode cX8_sure 63 = .ok (.invokestatic 147, 3) := by decide +kernel
theorem dX8_sure_66 : decode cX8_sure 66 = .ok (.imul, 1) := by decide +kernel
theorem dX8_sure_67 : decode cX8_sure 67 = .ok (.iadd, 1) := by decide +kernel
theorem dX8_sure_68 : decode cX8_sure 68 = .ok (.istore 6, 2) := by decide +kernel
theorem dX8_sure_70 : decode cX8_sure 70 = .ok (.iinc 7 1, 3) := by decide +kernel
theorem dX8_sure_73 : decode cX8_sure 73 = .ok (.goto (-31), 3) := by decide +kernel
theorem dX8_sure_76 : decode cX8_sure 76 = .ok (.iload 6, 2) := by decide +kernel
theorem dX8_sure_78 : decode cX8_sure 78 = .ok (.ireturn, 1) := by decide +kernel
set_option maxRecDepth 20000 in
theorem ggX8_sureAt_X8_refusalOfSure : GoodIn wsX8_sureAt wsX8_refusalOfSure := goodIn_r _ [5, 6, 7, 8, 9, 10, 11, 12, 13, 14, 15, 16, 46, 47, 48, 49, 50, 51, 52, 53, 54, 55, 56, 57, 58] (by decide +kernel) (by decide +kernel)
set_option maxRecDepth 20000 in
theorem gX8_sureAt_X8_refusalOfSure : GoodIn wsX8_sureAt (wsV RX8 140 RX8 yX8_refusalOfSure wsX8_refusalOfSure) := goodIn_app (goodIn_of _ (by decide +kernel)) ggX8_sureAt_X8_refusalOfSure
set_option maxRecDepth 20000 in
theorem ggX8_sureAt_X8_leastSureToil : GoodIn wsX8_sureAt wsX8_leastSureToil := goodIn_r _ [20, 6, 21, 22, 23, 10, 24, 12, 25, 26, 27, 28, 29, 30, 31, 32, 33, 34, 35, 36, 37, 38, 39, 40, 41, 42, 46, 47, 48, 49, 50, 51, 52, 53, 54, 55, 56, 57, 58] (by decide +kernel) (by decide +kernel)
set_option maxRecDepth 20000 in
theorem gX8_sureAt_X8_leastSureToil : GoodIn wsX8_sureAt (wsV RX8 144 RX8 yX8_leastSureToil wsX8_leastSureToil) := goodIn_app (goodIn_of _ (by decide +kernel)) ggX8_sureAt_X8_leastSureToil
set_option maxRecDepth 20000 in
theorem ggX8_sureAt_X8_toilOnDay : GoodIn wsX8_sureAt wsX8_toilOnDay := goodIn_r _ [45] (by decide +kernel) (by decide +kernel)
set_option maxRecDepth 20000 in
theorem gX8_sureAt_X8_toilOnDay : GoodIn wsX8_sureAt (va_wsS RX8 147 yX8_toilOnDay wsX8_toilOnDay) := goodIn_app (goodIn_of _ (by decide +kernel)) ggX8_sureAt_X8_toilOnDay
theorem dX8_sureAt_0 : decode cX8_sureAt 0 = .ok (.aload_n 0, 1) := by decide +kernel
theorem dX8_sureAt_1 : decode cX8_sureAt 1 = .ok (.iload_n 1, 1) := by decide +kernel
theorem dX8_sureAt_2 : decode cX8_sureAt 2 = .ok (.iload_n 2, 1) := by decide +kernel
theorem dX8_sureAt_3 : decode cX8_sureAt 3 = .ok (.iload_n 3, 1) := by decide +kernel
theorem dX8_sureAt_4 : decode cX8_sureAt 4 = .ok (.invokevirtual 140, 3) := by decide +kernel
theorem dX8_sureAt_7 : decode cX8_sureAt 7 = .ok (.istore 5, 2) := by decide +kernel
theorem dX8_sureAt_9 : decode cX8_sureAt 9 = .ok (.iload 5, 2) := by decide +kernel
theorem dX8_sureAt_11 : decode cX8_sureAt 11 = .ok (.ifCond .eq 6, 3) := by decide +kernel
theorem dX8_sureAt_14 : decode cX8_sureAt 14 = .ok (.iload 5, 2) := by decide +kernel
theorem dX8_sureAt_16 : decode cX8_sureAt 16 = .ok (.ireturn, 1) := by decide +kernel
theorem dX8_sureAt_17 : decode cX8_sureAt 17 = .ok (.aload_n 0, 1) := by decide +kernel
theorem dX8_sureAt_18 : decode cX8_sureAt 18 = .ok (.iload_n 1, 1) := by decide +kernel
theorem dX8_sureAt_19 : decode cX8_sureAt 19 = .ok (.iload_n 2, 1) := by decide +kernel
theorem dX8_sureAt_20 : decode cX8_sureAt 20 = .ok (.iload_n 3, 1) := by decide +kernel
theorem dX8_sureAt_21 : decode cX8_sureAt 21 = .ok (.invokevirtual 144, 3) := by decide +kernel
theorem dX8_sureAt_24 : decode cX8_sureAt 24 = .ok (.istore 6, 2) := by decide +kernel
theorem dX8_sureAt_26 : decode cX8_sureAt 26 = .ok (.iload 6, 2) := by decide +kernel
theorem dX8_sureAt_28 : decode cX8_sureAt 28 = .ok (.bipush (-9), 2) := by decide +kernel
theorem dX8_sureAt_30 : decode cX8_sureAt 30 = .ok (.if_icmp .eq 14, 3) := by decide +kernel
theorem dX8_sureAt_33 : decode cX8_sureAt 33 = .ok (.iload 4, 2) := by decide +kernel
theorem dX8_sureAt_35 : decode cX8_sureAt 35 = .ok (.ifCond .lt 9, 3) := by decide +kernel
theorem dX8_sureAt_38 : decode cX8_sureAt 38 = .ok (.iload 4, 2) := by decide +kernel
theorem dX8_sureAt_40 : decode cX8_sureAt 40 = .ok (.iload_n 2, 1) := by decide +kernel
theorem dX8_sureAt_41 : decode cX8_sureAt 41 = .ok (.if_icmp .lt 8, 3) := by decide +kernel
theorem dX8_sureAt_44 : decode cX8_sureAt 44 = .ok (.bipush (-9), 2) := by decide +kernel
theorem dX8_sureAt_46 : decode cX8_sureAt 46 = .ok (.goto 11, 3) := by decide +kernel
theorem dX8_sureAt_49 : decode cX8_sureAt 49 = .ok (.iload 6, 2) := by decide +kernel
theorem dX8_sureAt_51 : decode cX8_sureAt 51 = .ok (.iload_n 2, 1) := by decide +kernel
theorem dX8_sureAt_52 : decode cX8_sureAt 52 = .ok (.iload 4, 2) := by decide +kernel
theorem dX8_sureAt_54 : decode cX8_sureAt 54 = .ok (.invokestatic 147, 3) := by decide +kernel
theorem dX8_sureAt_57 : decode cX8_sureAt 57 = .ok (.ireturn, 1) := by decide +kernel
set_option maxRecDepth 20000 in
theorem ggX8_refusalOfSure_X2_has : GoodIn wsX8_refusalOfSure wsX2_has := goodIn_r _ [6, 7, 21, 22, 23, 24] (by decide +kernel) (by decide +kernel)
set_option maxRecDepth 20000 in
theorem gX8_refusalOfSure_X2_has : GoodIn wsX8_refusalOfSure (wsV RX8 96 RX2 yX2_has wsX2_has) := goodIn_app (goodIn_of _ (by decide +kernel)) ggX8_refusalOfSure_X2_has
set_option maxRecDepth 20000 in
theorem ggX8_refusalOfSure_X2_size : GoodIn wsX8_refusalOfSure wsX2_size := goodIn_r _ [11, 7, 21, 22, 23, 24] (by decide +kernel) (by decide +kernel)
set_option maxRecDepth 20000 in
theorem gX8_refusalOfSure_X2_size : GoodIn wsX8_refusalOfSure (wsV RX8 93 RX2 yX2_size wsX2_size) := goodIn_app (goodIn_of _ (by decide +kernel)) ggX8_refusalOfSure_X2_size
theorem dX8_refusalOfSure_0 : decode cX8_refusalOfSure 0 = .ok (.aload_n 0, 1) := by decide +kernel
theorem dX8_refusalOfSure_1 : decode cX8_refusalOfSure 1 = .ok (.getfield 19, 3) := by decide +kernel
theorem dX8_refusalOfSure_4 : decode cX8_refusalOfSure 4 = .ok (.iload_n 1, 1) := by decide +kernel
theorem dX8_refusalOfSure_5 : decode cX8_refusalOfSure 5 = .ok (.invokevirtual 96, 3) := by decide +kernel
theorem dX8_refusalOfSure_8 : decode cX8_refusalOfSure 8 = .ok (.ifCond .ne 5, 3) := by decide +kernel
theorem dX8_refusalOfSure_11 : decode cX8_refusalOfSure 11 = .ok (.iconst (-1), 1) := by decide +kernel
theorem dX8_refusalOfSure_12 : decode cX8_refusalOfSure 12 = .ok (.ireturn, 1) := by decide +kernel
theorem dX8_refusalOfSure_13 : decode cX8_refusalOfSure 13 = .ok (.iload_n 2, 1) := by decide +kernel
theorem dX8_refusalOfSure_14 : decode cX8_refusalOfSure 14 = .ok (.iconst 1, 1) := by decide +kernel
theorem dX8_refusalOfSure_15 : decode cX8_refusalOfSure 15 = .ok (.if_icmp .lt 18, 3) := by decide +kernel
theorem dX8_refusalOfSure_18 : decode cX8_refusalOfSure 18 = .ok (.iload_n 2, 1) := by decide +kernel
theorem dX8_refusalOfSure_19 : decode cX8_refusalOfSure 19 = .ok (.iconst 5, 1) := by decide +kernel
theorem dX8_refusalOfSure_20 : decode cX8_refusalOfSure 20 = .ok (.if_icmp .gt 13, 3) := by decide +kernel
theorem dX8_refusalOfSure_23 : decode cX8_refusalOfSure 23 = .ok (.iload_n 3, 1) := by decide +kernel
theorem dX8_refusalOfSure_24 : decode cX8_refusalOfSure 24 = .ok (.ifCond .lt 9, 3) := by decide +kernel
theorem dX8_refusalOfSure_27 : decode cX8_refusalOfSure 27 = .ok (.iload_n 3, 1) := by decide +kernel
theorem dX8_refusalOfSure_28 : decode cX8_refusalOfSure 28 = .ok (.bipush 9, 2) := by decide +kernel
theorem dX8_refusalOfSure_30 : decode cX8_refusalOfSure 30 = .ok (.if_icmp .le 6, 3) := by decide +kernel
theorem dX8_refusalOfSure_33 : decode cX8_refusalOfSure 33 = .ok (.bipush (-2), 2) := by decide +kernel
theorem dX8_refusalOfSure_35 : decode cX8_refusalOfSure 35 = .ok (.ireturn, 1) := by decide +kernel
theorem dX8_refusalOfSure_36 : decode cX8_refusalOfSure 36 = .ok (.aload_n 0, 1) := by decide +kernel
theorem dX8_refusalOfSure_37 : decode cX8_refusalOfSure 37 = .ok (.getfield 19, 3) := by decide +kernel
theorem dX8_refusalOfSure_40 : decode cX8_refusalOfSure 40 = .ok (.invokevirtual 93, 3) := by decide +kernel
theorem dX8_refusalOfSure_43 : decode cX8_refusalOfSure 43 = .ok (.iconst 1, 1) := by decide +kernel
theorem dX8_refusalOfSure_44 : decode cX8_refusalOfSure 44 = .ok (.if_icmp .ne 8, 3) := by decide +kernel
theorem dX8_refusalOfSure_47 : decode cX8_refusalOfSure 47 = .ok (.bipush (-3), 2) := by decide +kernel
theorem dX8_refusalOfSure_49 : decode cX8_refusalOfSure 49 = .ok (.goto 4, 3) := by decide +kernel
theorem dX8_refusalOfSure_52 : decode cX8_refusalOfSure 52 = .ok (.iconst 0, 1) := by decide +kernel
theorem dX8_refusalOfSure_53 : decode cX8_refusalOfSure 53 = .ok (.ireturn, 1) := by decide +kernel
set_option maxRecDepth 20000 in
theorem ggX8_leastSureToil_X2_winsWith : GoodIn wsX8_leastSureToil wsX2_winsWith := goodIn_r _ [6, 7, 8, 9, 10, 5, 11, 12, 13, 14, 15, 16, 17, 18, 19, 20, 21, 22, 23, 24, 25, 35, 36, 37, 38] (by decide +kernel) (by decide +kernel)
set_option maxRecDepth 20000 in
theorem gX8_leastSureToil_X2_winsWith : GoodIn wsX8_leastSureToil (wsV RX8 150 RX2 yX2_winsWith wsX2_winsWith) := goodIn_app (goodIn_of _ (by decide +kernel)) ggX8_leastSureToil_X2_winsWith
theorem dX8_leastSureToil_0 : decode cX8_leastSureToil 0 = .ok (.iconst 0, 1) := by decide +kernel
theorem dX8_leastSureToil_1 : decode cX8_leastSureToil 1 = .ok (.istore 4, 2) := by decide +kernel
theorem dX8_leastSureToil_3 : decode cX8_leastSureToil 3 = .ok (.iload 4, 2) := by decide +kernel
theorem dX8_leastSureToil_5 : decode cX8_leastSureToil 5 = .ok (.bipush 9, 2) := by decide +kernel
theorem dX8_leastSureToil_7 : decode cX8_leastSureToil 7 = .ok (.iload_n 2, 1) := by decide +kernel
theorem dX8_leastSureToil_8 : decode cX8_leastSureToil 8 = .ok (.imul, 1) := by decide +kernel
theorem dX8_leastSureToil_9 : decode cX8_leastSureToil 9 = .ok (.if_icmp .gt 27, 3) := by decide +kernel
theorem dX8_leastSureToil_12 : decode cX8_leastSureToil 12 = .ok (.aload_n 0, 1) := by decide +kernel
theorem dX8_leastSureToil_13 : decode cX8_leastSureToil 13 = .ok (.getfield 19, 3) := by decide +kernel
theorem dX8_leastSureToil_16 : decode cX8_leastSureToil 16 = .ok (.iload_n 1, 1) := by decide +kernel
theorem dX8_leastSureToil_17 : decode cX8_leastSureToil 17 = .ok (.iload 4, 2) := by decide +kernel
theorem dX8_leastSureToil_19 : decode cX8_leastSureToil 19 = .ok (.iload_n 2, 1) := by decide +kernel
theorem dX8_leastSureToil_20 : decode cX8_leastSureToil 20 = .ok (.iload_n 3, 1) := by decide +kernel
theorem dX8_leastSureToil_21 : decode cX8_leastSureToil 21 = .ok (.invokevirtual 150, 3) := by decide +kernel
theorem dX8_leastSureToil_24 : decode cX8_leastSureToil 24 = .ok (.ifCond .eq 6, 3) := by decide +kernel
theorem dX8_leastSureToil_27 : decode cX8_leastSureToil 27 = .ok (.iload 4, 2) := by decide +kernel
theorem dX8_leastSureToil_29 : decode cX8_leastSureToil 29 = .ok (.ireturn, 1) := by decide +kernel
theorem dX8_leastSureToil_30 : decode cX8_leastSureToil 30 = .ok (.iinc 4 1, 3) := by decide +kernel
theorem dX8_leastSureToil_33 : decode cX8_leastSureToil 33 = .ok (.goto (-30), 3) := by decide +kernel
theorem dX8_leastSureToil_36 : decode cX8_leastSureToil 36 = .ok (.bipush (-9), 2) := by decide +kernel
theorem dX8_leastSureToil_38 : decode cX8_leastSureToil 38 = .ok (.ireturn, 1) := by decide +kernel
theorem dX8_toilOnDay_0 : decode cX8_toilOnDay 0 = .ok (.iload_n 1, 1) := by decide +kernel
theorem dX8_toilOnDay_1 : decode cX8_toilOnDay 1 = .ok (.iconst 1, 1) := by decide +kernel
theorem dX8_toilOnDay_2 : decode cX8_toilOnDay 2 = .ok (.if_icmp .ge 7, 3) := by decide +kernel
theorem dX8_toilOnDay_5 : decode cX8_toilOnDay 5 = .ok (.iconst 0, 1) := by decide +kernel
theorem dX8_toilOnDay_6 : decode cX8_toilOnDay 6 = .ok (.goto 8, 3) := by decide +kernel
theorem dX8_toilOnDay_9 : decode cX8_toilOnDay 9 = .ok (.iload_n 0, 1) := by decide +kernel
theorem dX8_toilOnDay_10 : decode cX8_toilOnDay 10 = .ok (.iload_n 2, 1) := by decide +kernel
theorem dX8_toilOnDay_11 : decode cX8_toilOnDay 11 = .ok (.iadd, 1) := by decide +kernel
theorem dX8_toilOnDay_12 : decode cX8_toilOnDay 12 = .ok (.iload_n 1, 1) := by decide +kernel
theorem dX8_toilOnDay_13 : decode cX8_toilOnDay 13 = .ok (.idiv, 1) := by decide +kernel
theorem dX8_toilOnDay_14 : decode cX8_toilOnDay 14 = .ok (.ireturn, 1) := by decide +kernel
set_option maxRecDepth 20000 in
theorem ggX8_feed_X2_has : GoodIn wsX8_feed wsX2_has := goodIn_r _ [6, 7, 34, 35, 36, 37] (by decide +kernel) (by decide +kernel)
set_option maxRecDepth 20000 in
theorem gX8_feed_X2_has : GoodIn wsX8_feed (wsV RX8 96 RX2 yX2_has wsX2_has) := goodIn_app (goodIn_of _ (by decide +kernel)) ggX8_feed_X2_has
set_option maxRecDepth 20000 in
theorem ggX8_feed_X2_loavesToWin : GoodIn wsX8_feed wsX2_loavesToWin := goodIn_r _ [11, 7, 12, 13, 14, 5, 15, 16, 17, 18, 19, 20, 21, 22, 23, 24, 34, 35, 36, 37] (by decide +kernel) (by decide +kernel)
set_option maxRecDepth 20000 in
theorem gX8_feed_X2_loavesToWin : GoodIn wsX8_feed (wsV RX8 154 RX2 yX2_loavesToWin wsX2_loavesToWin) := goodIn_app (goodIn_of _ (by decide +kernel)) ggX8_feed_X2_loavesToWin
theorem dX8_feed_0 : decode cX8_feed 0 = .ok (.aload_n 0, 1) := by decide +kernel
theorem dX8_feed_1 : decode cX8_feed 1 = .ok (.getfield 19, 3) := by decide +kernel
theorem dX8_feed_4 : decode cX8_feed 4 = .ok (.iload_n 1, 1) := by decide +kernel
theorem dX8_feed_5 : decode cX8_feed 5 = .ok (.invokevirtual 96, 3) := by decide +kernel
theorem dX8_feed_8 : decode cX8_feed 8 = .ok (.ifCond .eq 14, 3) := by decide +kernel
theorem dX8_feed_11 : decode cX8_feed 11 = .ok (.aload_n 0, 1) := by decide +kernel
theorem dX8_feed_12 : decode cX8_feed 12 = .ok (.getfield 19, 3) := by decide +kernel
theorem dX8_feed_15 : decode cX8_feed 15 = .ok (.iload_n 1, 1) := by decide +kernel
theorem dX8_feed_16 : decode cX8_feed 16 = .ok (.invokevirtual 154, 3) := by decide +kernel
theorem dX8_feed_19 : decode cX8_feed 19 = .ok (.goto 4, 3) := by decide +kernel
theorem dX8_feed_22 : decode cX8_feed 22 = .ok (.iconst (-1), 1) := by decide +kernel
theorem dX8_feed_23 : decode cX8_feed 23 = .ok (.ireturn, 1) := by decide +kernel
set_option maxRecDepth 20000 in
theorem ggX8_weigh_X6_mayStand : GoodIn wsX8_weigh wsX6_mayStand := goodIn_r _ [5, 6, 7, 8, 9, 10, 11, 12] (by decide +kernel) (by decide +kernel)
set_option maxRecDepth 20000 in
theorem gX8_weigh_X6_mayStand : GoodIn wsX8_weigh (va_wsS RX8 157 yX6_mayStand wsX6_mayStand) := goodIn_app (goodIn_of _ (by decide +kernel)) ggX8_weigh_X6_mayStand
set_option maxRecDepth 20000 in
theorem ggX8_weigh_X6_append : GoodIn wsX8_weigh wsX6_append := goodIn_r _ [16, 17, 18, 19, 20, 34, 35, 36, 37] (by decide +kernel) (by decide +kernel)
set_option maxRecDepth 20000 in
theorem gX8_weigh_X6_append : GoodIn wsX8_weigh (wsV RX8 161 RX6 yX6_append wsX6_append) := goodIn_app (goodIn_of _ (by decide +kernel)) ggX8_weigh_X6_append
set_option maxRecDepth 20000 in
theorem ggX8_weigh_X6_length : GoodIn wsX8_weigh wsX6_length := goodIn_r _ [24, 17, 34, 35, 36, 37] (by decide +kernel) (by decide +kernel)
set_option maxRecDepth 20000 in
theorem gX8_weigh_X6_length : GoodIn wsX8_weigh (wsV RX8 164 RX6 yX6_length wsX6_length) := goodIn_app (goodIn_of _ (by decide +kernel)) ggX8_weigh_X6_length
theorem dX8_weigh_0 : decode cX8_weigh 0 = .ok (.iload_n 1, 1) := by decide +kernel
theorem dX8_weigh_1 : decode cX8_weigh 1 = .ok (.iload_n 2, 1) := by decide +kernel
theorem dX8_weigh_2 : decode cX8_weigh 2 = .ok (.invokestatic 157, 3) := by decide +kernel
theorem dX8_weigh_5 : decode cX8_weigh 5 = .ok (.ifCond .eq 12, 3) := by decide +kernel
theorem dX8_weigh_8 : decode cX8_weigh 8 = .ok (.iload_n 3, 1) := by decide +kernel
theorem dX8_weigh_9 : decode cX8_weigh 9 = .ok (.ifCond .lt 8, 3) := by decide +kernel
theorem dX8_weigh_12 : decode cX8_weigh 12 = .ok (.iload_n 3, 1) := by decide +kernel
theorem dX8_weigh_13 : decode cX8_weigh 13 = .ok (.iconst 2, 1) := by decide +kernel
theorem dX8_weigh_14 : decode cX8_weigh 14 = .ok (.if_icmp .le 6, 3) := by decide +kernel
theorem dX8_weigh_17 : decode cX8_weigh 17 = .ok (.bipush (-2), 2) := by decide +kernel
theorem dX8_weigh_19 : decode cX8_weigh 19 = .ok (.ireturn, 1) := by decide +kernel
theorem dX8_weigh_20 : decode cX8_weigh 20 = .ok (.aload_n 0, 1) := by decide +kernel
theorem dX8_weigh_21 : decode cX8_weigh 21 = .ok (.getfield 40, 3) := by decide +kernel
theorem dX8_weigh_24 : decode cX8_weigh 24 = .ok (.iload_n 1, 1) := by decide +kernel
theorem dX8_weigh_25 : decode cX8_weigh 25 = .ok (.iload_n 2, 1) := by decide +kernel
theorem dX8_weigh_26 : decode cX8_weigh 26 = .ok (.iload_n 3, 1) := by decide +kernel
theorem dX8_weigh_27 : decode cX8_weigh 27 = .ok (.invokevirtual 161, 3) := by decide +kernel
theorem dX8_weigh_30 : decode cX8_weigh 30 = .ok (.ifCond .eq 13, 3) := by decide +kernel
theorem dX8_weigh_33 : decode cX8_weigh 33 = .ok (.aload_n 0, 1) := by decide +kernel
theorem dX8_weigh_34 : decode cX8_weigh 34 = .ok (.getfield 40, 3) := by decide +kernel
theorem dX8_weigh_37 : decode cX8_weigh 37 = .ok (.invokevirtual 164, 3) := by decide +kernel
theorem dX8_weigh_40 : decode cX8_weigh 40 = .ok (.goto 5, 3) := by decide +kernel
theorem dX8_weigh_43 : decode cX8_weigh 43 = .ok (.bipush (-4), 2) := by decide +kernel
theorem dX8_weigh_45 : decode cX8_weigh 45 = .ok (.ireturn, 1) := by decide +kernel
set_option maxRecDepth 20000 in
theorem ggX8_unweigh_X6_length : GoodIn wsX8_unweigh wsX6_length := goodIn_r _ [6, 7, 21, 22, 23, 24] (by decide +kernel) (by decide +kernel)
set_option maxRecDepth 20000 in
theorem gX8_unweigh_X6_length : GoodIn wsX8_unweigh (wsV RX8 164 RX6 yX6_length wsX6_length) := goodIn_app (goodIn_of _ (by decide +kernel)) ggX8_unweigh_X6_length
set_option maxRecDepth 20000 in
theorem ggX8_unweigh_X6_clear : GoodIn wsX8_unweigh wsX6_clear := goodIn_r _ [11, 7, 21, 22, 23, 24] (by decide +kernel) (by decide +kernel)
set_option maxRecDepth 20000 in
theorem gX8_unweigh_X6_clear : GoodIn wsX8_unweigh (wsV RX8 165 RX6 yX6_clear wsX6_clear) := goodIn_app (goodIn_of _ (by decide +kernel)) ggX8_unweigh_X6_clear
theorem dX8_unweigh_0 : decode cX8_unweigh 0 = .ok (.aload_n 0, 1) := by decide +kernel
theorem dX8_unweigh_1 : decode cX8_unweigh 1 = .ok (.getfield 40, 3) := by decide +kernel
theorem dX8_unweigh_4 : decode cX8_unweigh 4 = .ok (.invokevirtual 164, 3) := by decide +kernel
theorem dX8_unweigh_7 : decode cX8_unweigh 7 = .ok (.istore_n 1, 1) := by decide +kernel
theorem dX8_unweigh_8 : decode cX8_unweigh 8 = .ok (.aload_n 0, 1) := by decide +kernel
theorem dX8_unweigh_9 : decode cX8_unweigh 9 = .ok (.getfield 40, 3) := by decide +kernel
theorem dX8_unweigh_12 : decode cX8_unweigh 12 = .ok (.invokevirtual 165, 3) := by decide +kernel
theorem dX8_unweigh_15 : decode cX8_unweigh 15 = .ok (.iload_n 1, 1) := by decide +kernel
theorem dX8_unweigh_16 : decode cX8_unweigh 16 = .ok (.ireturn, 1) := by decide +kernel
set_option maxRecDepth 20000 in
theorem ggX8_mayBe_X6_suspects : GoodIn wsX8_mayBe wsX6_suspects := goodIn_r _ [6, 7, 8, 9, 10, 5, 11, 12, 13, 14, 24, 25, 26, 27] (by decide +kernel) (by decide +kernel)
set_option maxRecDepth 20000 in
theorem gX8_mayBe_X6_suspects : GoodIn wsX8_mayBe (wsV RX8 166 RX6 yX6_suspects wsX6_suspects) := goodIn_app (goodIn_of _ (by decide +kernel)) ggX8_mayBe_X6_suspects
theorem dX8_mayBe_0 : decode cX8_mayBe 0 = .ok (.aload_n 0, 1) := by decide +kernel
theorem dX8_mayBe_1 : decode cX8_mayBe 1 = .ok (.getfield 40, 3) := by decide +kernel
theorem dX8_mayBe_4 : decode cX8_mayBe 4 = .ok (.iload_n 1, 1) := by decide +kernel
theorem dX8_mayBe_5 : decode cX8_mayBe 5 = .ok (.invokevirtual 166, 3) := by decide +kernel
theorem dX8_mayBe_8 : decode cX8_mayBe 8 = .ok (.ireturn, 1) := by decide +kernel
set_option maxRecDepth 20000 in
theorem ggX8_search_X4_append : GoodIn wsX8_search wsX4_append := goodIn_r _ [6, 7, 8, 9, 10, 24, 25, 26, 27, 28, 29, 30] (by decide +kernel) (by decide +kernel)
set_option maxRecDepth 20000 in
theorem gX8_search_X4_append : GoodIn wsX8_search (wsV RX8 170 RX4 yX4_append wsX4_append) := goodIn_app (goodIn_of _ (by decide +kernel)) ggX8_search_X4_append
set_option maxRecDepth 20000 in
theorem ggX8_search_X4_length : GoodIn wsX8_search wsX4_length := goodIn_r _ [14, 7, 24, 25, 26, 27, 28, 29, 30] (by decide +kernel) (by decide +kernel)
set_option maxRecDepth 20000 in
theorem gX8_search_X4_length : GoodIn wsX8_search (wsV RX8 172 RX4 yX4_length wsX4_length) := goodIn_app (goodIn_of _ (by decide +kernel)) ggX8_search_X4_length
theorem dX8_search_0 : decode cX8_search 0 = .ok (.iload_n 1, 1) := by decide +kernel
theorem dX8_search_1 : decode cX8_search 1 = .ok (.iconst 1, 1) := by decide +kernel
theorem dX8_search_2 : decode cX8_search 2 = .ok (.if_icmp .lt 19, 3) := by decide +kernel
theorem dX8_search_5 : decode cX8_search 5 = .ok (.iload_n 1, 1) := by decide +kernel
theorem dX8_search_6 : decode cX8_search 6 = .ok (.bipush 31, 2) := by decide +kernel
theorem dX8_search_8 : decode cX8_search 8 = .ok (.if_icmp .gt 13, 3) := by decide +kernel
theorem dX8_search_11 : decode cX8_search 11 = .ok (.iload_n 2, 1) := by decide +kernel
theorem dX8_search_12 : decode cX8_search 12 = .ok (.ifCond .lt 9, 3) := by decide +kernel
theorem dX8_search_15 : decode cX8_search 15 = .ok (.iload_n 2, 1) := by decide +kernel
theorem dX8_search_16 : decode cX8_search 16 = .ok (.bipush 45, 2) := by decide +kernel
theorem dX8_search_18 : decode cX8_search 18 = .ok (.if_icmp .le 6, 3) := by decide +kernel
theorem dX8_search_21 : decode cX8_search 21 = .ok (.bipush (-2), 2) := by decide +kernel
theorem dX8_search_23 : decode cX8_search 23 = .ok (.ireturn, 1) := by decide +kernel
theorem dX8_search_24 : decode cX8_search 24 = .ok (.aload_n 0, 1) := by decide +kernel
theorem dX8_search_25 : decode cX8_search 25 = .ok (.getfield 47, 3) := by decide +kernel
theorem dX8_search_28 : decode cX8_search 28 = .ok (.iload_n 1, 1) := by decide +kernel
theorem dX8_search_29 : decode cX8_search 29 = .ok (.iload_n 2, 1) := by decide +kernel
theorem dX8_search_30 : decode cX8_search 30 = .ok (.invokevirtual 170, 3) := by decide +kernel
theorem dX8_search_33 : decode cX8_search 33 = .ok (.ifCond .eq 13, 3) := by decide +kernel
theorem dX8_search_36 : decode cX8_search 36 = .ok (.aload_n 0, 1) := by decide +kernel
theorem dX8_search_37 : decode cX8_search 37 = .ok (.getfield 47, 3) := by decide +kernel
theorem dX8_search_40 : decode cX8_search 40 = .ok (.invokevirtual 172, 3) := by decide +kernel
theorem dX8_search_43 : decode cX8_search 43 = .ok (.goto 5, 3) := by decide +kernel
theorem dX8_search_46 : decode cX8_search 46 = .ok (.bipush (-4), 2) := by decide +kernel
theorem dX8_search_48 : decode cX8_search 48 = .ok (.ireturn, 1) := by decide +kernel
set_option maxRecDepth 20000 in
theorem ggX8_unsearch_X4_length : GoodIn wsX8_unsearch wsX4_length := goodIn_r _ [6, 7, 22, 23, 24, 25, 26, 27, 28] (by decide +kernel) (by decide +kernel)
set_option maxRecDepth 20000 in
theorem gX8_unsearch_X4_length : GoodIn wsX8_unsearch (wsV RX8 172 RX4 yX4_length wsX4_length) := goodIn_app (goodIn_of _ (by decide +kernel)) ggX8_unsearch_X4_length
set_option maxRecDepth 20000 in
theorem ggX8_unsearch_X4_clear : GoodIn wsX8_unsearch wsX4_clear := goodIn_r _ [11, 7, 12, 22, 23, 24, 25, 26, 27, 28] (by decide +kernel) (by decide +kernel)
set_option maxRecDepth 20000 in
theorem gX8_unsearch_X4_clear : GoodIn wsX8_unsearch (wsV RX8 173 RX4 yX4_clear wsX4_clear) := goodIn_app (goodIn_of _ (by decide +kernel)) ggX8_unsearch_X4_clear
theorem dX8_unsearch_0 : decode cX8_unsearch 0 = .ok (.aload_n 0, 1) := by decide +kernel
theorem dX8_unsearch_1 : decode cX8_unsearch 1 = .ok (.getfield 47, 3) := by decide +kernel
theorem dX8_unsearch_4 : decode cX8_unsearch 4 = .ok (.invokevirtual 172, 3) := by decide +kernel
theorem dX8_unsearch_7 : decode cX8_unsearch 7 = .ok (.istore_n 1, 1) := by decide +kernel
theorem dX8_unsearch_8 : decode cX8_unsearch 8 = .ok (.aload_n 0, 1) := by decide +kernel
theorem dX8_unsearch_9 : decode cX8_unsearch 9 = .ok (.getfield 47, 3) := by decide +kernel
theorem dX8_unsearch_12 : decode cX8_unsearch 12 = .ok (.invokevirtual 173, 3) := by decide +kernel
theorem dX8_unsearch_15 : decode cX8_unsearch 15 = .ok (.iload_n 1, 1) := by decide +kernel
theorem dX8_unsearch_16 : decode cX8_unsearch 16 = .ok (.ireturn, 1) := by decide +kernel
set_option maxRecDepth 20000 in
theorem ggX8_rows_X4_fittingRows : GoodIn wsX8_rows wsX4_fittingRows := goodIn_r _ [6, 7, 8, 9, 10, 11, 12, 13, 14, 15, 16, 5, 17, 18, 19, 20, 21, 22, 23, 24, 25, 26, 27, 28, 29, 30, 31, 32, 33, 34, 35, 36, 37, 38, 39, 40, 41, 42, 43, 44, 45, 46, 47, 48, 49, 50, 51, 52, 53, 54, 55, 56, 57, 58, 68, 69, 70, 71, 72, 73, 74] (by decide +kernel) (by decide +kernel)
set_option maxRecDepth 20000 in
theorem gX8_rows_X4_fittingRows : GoodIn wsX8_rows (wsV RX8 174 RX4 yX4_fittingRows wsX4_fittingRows) := goodIn_app (goodIn_of _ (by decide +kernel)) ggX8_rows_X4_fittingRows
theorem dX8_rows_0 : decode cX8_rows 0 = .ok (.aload_n 0, 1) := by decide +kernel
theorem dX8_rows_1 : decode cX8_rows 1 = .ok (.getfield 47, 3) := by decide +kernel
theorem dX8_rows_4 : decode cX8_rows 4 = .ok (.invokevirtual 174, 3) := by decide +kernel
theorem dX8_rows_7 : decode cX8_rows 7 = .ok (.ireturn, 1) := by decide +kernel
set_option maxRecDepth 20000 in
theorem ggX8_stones_X4_fittingRows : GoodIn wsX8_stones wsX4_fittingRows := goodIn_r _ [6, 7, 8, 9, 10, 11, 12, 13, 14, 15, 16, 5, 17, 18, 19, 20, 21, 22, 23, 24, 25, 26, 27, 28, 29, 30, 31, 32, 33, 34, 35, 36, 37, 38, 39, 40, 41, 42, 43, 44, 45, 46, 47, 48, 49, 50, 51, 52, 53, 54, 55, 56, 57, 58, 76, 77, 78, 79, 80, 81, 82] (by decide +kernel) (by decide +kernel)
set_option maxRecDepth 20000 in
theorem gX8_stones_X4_fittingRows : GoodIn wsX8_stones (wsV RX8 174 RX4 yX4_fittingRows wsX4_fittingRows) := goodIn_app (goodIn_of _ (by decide +kernel)) ggX8_stones_X4_fittingRows
set_option maxRecDepth 20000 in
theorem ggX8_stones_X4_mostOf : GoodIn wsX8_stones wsX4_mostOf := goodIn_r _ [62, 9, 76, 77, 78, 79, 80, 81, 82] (by decide +kernel) (by decide +kernel)
set_option maxRecDepth 20000 in
theorem gX8_stones_X4_mostOf : GoodIn wsX8_stones (wsV RX8 177 RX4 yX4_mostOf wsX4_mostOf) := goodIn_app (goodIn_of _ (by decide +kernel)) ggX8_stones_X4_mostOf
set_option maxRecDepth 20000 in
theorem ggX8_stones_X4_leastOf : GoodIn wsX8_stones wsX4_leastOf := goodIn_r _ [66, 8, 76, 77, 78, 79, 80, 81, 82] (by decide +kernel) (by decide +kernel)
set_option maxRecDepth 20000 in
theorem gX8_stones_X4_leastOf : GoodIn wsX8_stones (wsV RX8 180 RX4 yX4_leastOf wsX4_leastOf) := goodIn_app (goodIn_of _ (by decide +kernel)) ggX8_stones_X4_leastOf
theorem dX8_stones_0 : decode cX8_stones 0 = .ok (.iload_n 1, 1) := by decide +kernel
theorem dX8_stones_1 : decode cX8_stones 1 = .ok (.ifCond .lt 8, 3) := by decide +kernel
theorem dX8_stones_4 : decode cX8_stones 4 = .ok (.iload_n 1, 1) := by decide +kernel
theorem dX8_stones_5 : decode cX8_stones 5 = .ok (.iconst 5, 1) := by decide +kernel
theorem dX8_stones_6 : decode cX8_stones 6 = .ok (.if_icmp .lt 6, 3) := by decide +kernel
theorem dX8_stones_9 : decode cX8_stones 9 = .ok (.bipush (-2), 2) := by decide +kernel
theorem dX8_stones_11 : decode cX8_stones 11 = .ok (.ireturn, 1) := by decide +kernel
theorem dX8_stones_12 : decode cX8_stones 12 = .ok (.aload_n 0, 1) := by decide +kernel
theorem dX8_stones_13 : decode cX8_stones 13 = .ok (.getfield 47, 3) := by decide +kernel
theorem dX8_stones_16 : decode cX8_stones 16 = .ok (.invokevirtual 174, 3) := by decide +kernel
theorem dX8_stones_19 : decode cX8_stones 19 = .ok (.ifCond .ne 6, 3) := by decide +kernel
theorem dX8_stones_22 : decode cX8_stones 22 = .ok (.bipush (-9), 2) := by decide +kernel
theorem dX8_stones_24 : decode cX8_stones 24 = .ok (.ireturn, 1) := by decide +kernel
theorem dX8_stones_25 : decode cX8_stones 25 = .ok (.iload_n 2, 1) := by decide +kernel
theorem dX8_stones_26 : decode cX8_stones 26 = .ok (.ifCond .eq 14, 3) := by decide +kernel
theorem dX8_stones_29 : decode cX8_stones 29 = .ok (.aload_n 0, 1) := by decide +kernel
theorem dX8_stones_30 : decode cX8_stones 30 = .ok (.getfield 47, 3) := by decide +kernel
theorem dX8_stones_33 : decode cX8_stones 33 = .ok (.iload_n 1, 1) := by decide +kernel
theorem dX8_stones_34 : decode cX8_stones 34 = .ok (.invokevirtual 177, 3) := by decide +kernel
theorem dX8_stones_37 : decode cX8_stones 37 = .ok (.goto 11, 3) := by decide +kernel
theorem dX8_stones_40 : decode cX8_stones 40 = .ok (.aload_n 0, 1) := by decide +kernel
theorem dX8_stones_41 : decode cX8_stones 41 = .ok (.getfield 47, 3) := by decide +kernel
theorem dX8_stones_44 : decode cX8_stones 44 = .ok (.iload_n 1, 1) := by decide +kernel
theorem dX8_stones_45 : decode cX8_stones 45 = .ok (.invokevirtual 180, 3) := by decide +kernel
theorem dX8_stones_48 : decode cX8_stones 48 = .ok (.ireturn, 1) := by decide +kernel
set_option maxRecDepth 20000 in
theorem ggX8_ruled_X2_has : GoodIn wsX8_ruled wsX2_has := goodIn_r _ [7, 8, 29, 30, 31, 32] (by decide +kernel) (by decide +kernel)
set_option maxRecDepth 20000 in
theorem gX8_ruled_X2_has : GoodIn wsX8_ruled (wsV RX8 96 RX2 yX2_has wsX2_has) := goodIn_app (goodIn_of _ (by decide +kernel)) ggX8_ruled_X2_has
set_option maxRecDepth 20000 in
theorem ggX8_ruled_X3_append : GoodIn wsX8_ruled wsX3_append := goodIn_r _ [13, 14, 15, 33, 34, 35, 36] (by decide +kernel) (by decide +kernel)
set_option maxRecDepth 20000 in
theorem gX8_ruled_X3_append : GoodIn wsX8_ruled (wsV RX8 183 RX3 yX3_append wsX3_append) := goodIn_app (goodIn_of _ (by decide +kernel)) ggX8_ruled_X3_append
set_option maxRecDepth 20000 in
theorem ggX8_ruled_X3_length : GoodIn wsX8_ruled wsX3_length := goodIn_r _ [19, 14, 33, 34, 35, 36] (by decide +kernel) (by decide +kernel)
set_option maxRecDepth 20000 in
theorem gX8_ruled_X3_length : GoodIn wsX8_ruled (wsV RX8 185 RX3 yX3_length wsX3_length) := goodIn_app (goodIn_of _ (by decide +kernel)) ggX8_ruled_X3_length
theorem dX8_ruled_0 : decode cX8_ruled 0 = .ok (.aload_n 0, 1) := by decide +kernel
theorem dX8_ruled_1 : decode cX8_ruled 1 = .ok (.getfield 19, 3) := by decide +kernel
theorem dX8_ruled_4 : decode cX8_ruled 4 = .ok (.iload_n 1, 1) := by decide +kernel
theorem dX8_ruled_5 : decode cX8_ruled 5 = .ok (.invokevirtual 96, 3) := by decide +kernel
theorem dX8_ruled_8 : decode cX8_ruled 8 = .ok (.ifCond .ne 5, 3) := by decide +kernel
theorem dX8_ruled_11 : decode cX8_ruled 11 = .ok (.iconst (-1), 1) := by decide +kernel
theorem dX8_ruled_12 : decode cX8_ruled 12 = .ok (.ireturn, 1) := by decide +kernel
theorem dX8_ruled_13 : decode cX8_ruled 13 = .ok (.aload_n 0, 1) := by decide +kernel
theorem dX8_ruled_14 : decode cX8_ruled 14 = .ok (.getfield 54, 3) := by decide +kernel
theorem dX8_ruled_17 : decode cX8_ruled 17 = .ok (.iload_n 1, 1) := by decide +kernel
theorem dX8_ruled_18 : decode cX8_ruled 18 = .ok (.invokevirtual 183, 3) := by decide +kernel
theorem dX8_ruled_21 : decode cX8_ruled 21 = .ok (.ifCond .eq 13, 3) := by decide +kernel
theorem dX8_ruled_24 : decode cX8_ruled 24 = .ok (.aload_n 0, 1) := by decide +kernel
theorem dX8_ruled_25 : decode cX8_ruled 25 = .ok (.getfield 54, 3) := by decide +kernel
theorem dX8_ruled_28 : decode cX8_ruled 28 = .ok (.invokevirtual 185, 3) := by decide +kernel
theorem dX8_ruled_31 : decode cX8_ruled 31 = .ok (.goto 5, 3) := by decide +kernel
theorem dX8_ruled_34 : decode cX8_ruled 34 = .ok (.bipush (-4), 2) := by decide +kernel
theorem dX8_ruled_36 : decode cX8_ruled 36 = .ok (.ireturn, 1) := by decide +kernel
set_option maxRecDepth 20000 in
theorem ggX8_unrule_X3_length : GoodIn wsX8_unrule wsX3_length := goodIn_r _ [6, 7, 21, 22, 23, 24] (by decide +kernel) (by decide +kernel)
set_option maxRecDepth 20000 in
theorem gX8_unrule_X3_length : GoodIn wsX8_unrule (wsV RX8 185 RX3 yX3_length wsX3_length) := goodIn_app (goodIn_of _ (by decide +kernel)) ggX8_unrule_X3_length
set_option maxRecDepth 20000 in
theorem ggX8_unrule_X3_clear : GoodIn wsX8_unrule wsX3_clear := goodIn_r _ [11, 7, 21, 22, 23, 24] (by decide +kernel) (by decide +kernel)
set_option maxRecDepth 20000 in
theorem gX8_unrule_X3_clear : GoodIn wsX8_unrule (wsV RX8 186 RX3 yX3_clear wsX3_clear) := goodIn_app (goodIn_of _ (by decide +kernel)) ggX8_unrule_X3_clear
theorem dX8_unrule_0 : decode cX8_unrule 0 = .ok (.aload_n 0, 1) := by decide +kernel
theorem dX8_unrule_1 : decode cX8_unrule 1 = .ok (.getfield 54, 3) := by decide +kernel
theorem dX8_unrule_4 : decode cX8_unrule 4 = .ok (.invokevirtual 185, 3) := by decide +kernel
theorem dX8_unrule_7 : decode cX8_unrule 7 = .ok (.istore_n 1, 1) := by decide +kernel
theorem dX8_unrule_8 : decode cX8_unrule 8 = .ok (.aload_n 0, 1) := by decide +kernel
theorem dX8_unrule_9 : decode cX8_unrule 9 = .ok (.getfield 54, 3) := by decide +kernel
theorem dX8_unrule_12 : decode cX8_unrule 12 = .ok (.invokevirtual 186, 3) := by decide +kernel
theorem dX8_unrule_15 : decode cX8_unrule 15 = .ok (.iload_n 1, 1) := by decide +kernel
theorem dX8_unrule_16 : decode cX8_unrule 16 = .ok (.ireturn, 1) := by decide +kernel
set_option maxRecDepth 20000 in
theorem ggX8_line_X2_size : GoodIn wsX8_line wsX2_size := goodIn_r _ [8, 9, 67, 68, 69, 70] (by decide +kernel) (by decide +kernel)
set_option maxRecDepth 20000 in
theorem gX8_line_X2_size : GoodIn wsX8_line (wsV RX8 93 RX2 yX2_size wsX2_size) := goodIn_app (goodIn_of _ (by decide +kernel)) ggX8_line_X2_size
set_option maxRecDepth 20000 in
theorem ggX8_line_X3_fittingMeals : GoodIn wsX8_line wsX3_fittingMeals := goodIn_r _ [14, 15, 16, 17, 18, 19, 20, 21, 22, 23, 24, 5, 6, 7, 8, 9, 25, 26, 27, 28, 29, 30, 31, 32, 33, 34, 35, 36, 37, 38, 39, 40, 41, 42, 43, 44, 13, 45, 46, 47, 48, 49, 50, 51, 52, 53, 54, 55, 56, 57, 71, 72, 73, 74, 67, 68, 69, 70] (by decide +kernel) (by decide +kernel)
set_option maxRecDepth 20000 in
theorem gX8_line_X3_fittingMeals : GoodIn wsX8_line (wsV RX8 189 RX3 yX3_fittingMeals wsX3_fittingMeals) := goodIn_app (goodIn_of _ (by decide +kernel)) ggX8_line_X3_fittingMeals
theorem dX8_line_0 : decode cX8_line 0 = .ok (.aload_n 0, 1) := by decide +kernel
theorem dX8_line_1 : decode cX8_line 1 = .ok (.getfield 19, 3) := by decide +kernel
theorem dX8_line_4 : decode cX8_line 4 = .ok (.invokevirtual 93, 3) := by decide +kernel
theorem dX8_line_7 : decode cX8_line 7 = .ok (.iconst 1, 1) := by decide +kernel
theorem dX8_line_8 : decode cX8_line 8 = .ok (.if_icmp .lt 14, 3) := by decide +kernel
theorem dX8_line_11 : decode cX8_line 11 = .ok (.aload_n 0, 1) := by decide +kernel
theorem dX8_line_12 : decode cX8_line 12 = .ok (.getfield 19, 3) := by decide +kernel
theorem dX8_line_15 : decode cX8_line 15 = .ok (.invokevirtual 93, 3) := by decide +kernel
theorem dX8_line_18 : decode cX8_line 18 = .ok (.iconst 3, 1) := by decide +kernel
theorem dX8_line_19 : decode cX8_line 19 = .ok (.if_icmp .le 7, 3) := by decide +kernel
theorem dX8_line_22 : decode cX8_line 22 = .ok (.ldc2_w 187, 3) := by decide +kernel
theorem dX8_line_25 : decode cX8_line 25 = .ok (.lreturn, 1) := by decide +kernel
theorem dX8_line_26 : decode cX8_line 26 = .ok (.aload_n 0, 1) := by decide +kernel
theorem dX8_line_27 : decode cX8_line 27 = .ok (.getfield 54, 3) := by decide +kernel
theorem dX8_line_30 : decode cX8_line 30 = .ok (.aload_n 0, 1) := by decide +kernel
theorem dX8_line_31 : decode cX8_line 31 = .ok (.getfield 19, 3) := by decide +kernel
theorem dX8_line_34 : decode cX8_line 34 = .ok (.invokevirtual 189, 3) := by decide +kernel
theorem dX8_line_37 : decode cX8_line 37 = .ok (.lreturn, 1) := by decide +kernel
set_option maxRecDepth 20000 in
theorem ggX8_seed_X7_sow : GoodIn wsX8_seed wsX7_sow := goodIn_r _ [6, 7, 17, 18] (by decide +kernel) (by decide +kernel)
set_option maxRecDepth 20000 in
theorem gX8_seed_X7_sow : GoodIn wsX8_seed (wsV RX8 193 RX7 yX7_sow wsX7_sow) := goodIn_app (goodIn_of _ (by decide +kernel)) ggX8_seed_X7_sow
theorem dX8_seed_0 : decode cX8_seed 0 = .ok (.aload_n 0, 1) := by decide +kernel
theorem dX8_seed_1 : decode cX8_seed 1 = .ok (.getfield 61, 3) := by decide +kernel
theorem dX8_seed_4 : decode cX8_seed 4 = .ok (.lload_n 1, 1) := by decide +kernel
theorem dX8_seed_5 : decode cX8_seed 5 = .ok (.invokevirtual 193, 3) := by decide +kernel
theorem dX8_seed_8 : decode cX8_seed 8 = .ok (.lreturn, 1) := by decide +kernel
set_option maxRecDepth 20000 in
theorem ggX8_reign_X2_has : GoodIn wsX8_reign wsX2_has := goodIn_r _ [7, 8, 90, 91, 92, 93] (by decide +kernel) (by decide +kernel)
set_option maxRecDepth 20000 in
theorem gX8_reign_X2_has : GoodIn wsX8_reign (wsV RX8 96 RX2 yX2_has wsX2_has) := goodIn_app (goodIn_of _ (by decide +kernel)) ggX8_reign_X2_has
set_option maxRecDepth 20000 in
theorem ggX8_reign_X8_isLaw : GoodIn wsX8_reign wsX8_isLaw := goodIn_r _ [12] (by decide +kernel) (by decide +kernel)
set_option maxRecDepth 20000 in
theorem gX8_reign_X8_isLaw : GoodIn wsX8_reign (va_wsS RX8 110 yX8_isLaw wsX8_isLaw) := goodIn_app (goodIn_of _ (by decide +kernel)) ggX8_reign_X8_isLaw
set_option maxRecDepth 20000 in
theorem ggX8_reign_X7_monthsOf : GoodIn wsX8_reign wsX7_monthsOf := goodIn_r _ [17, 18, 19, 20, 21, 6, 22, 23, 24, 25, 26, 27, 8, 28, 29, 30, 31, 32, 33, 34, 35, 36, 16, 37, 38, 39, 40, 41, 42, 43, 44, 45, 46, 47, 48, 49, 50, 51, 52, 53, 54, 55, 56, 57, 58, 59, 60, 61, 62, 63, 64, 65, 66, 67, 68, 69, 70, 71, 72, 73, 74, 75, 76, 77, 78, 79, 80, 94, 95, 90, 91, 92, 93] (by decide +kernel) (by decide +kernel)
set_option maxRecDepth 20000 in
theorem gX8_reign_X7_monthsOf : GoodIn wsX8_reign (wsV RX8 197 RX7 yX7_monthsOf wsX7_monthsOf) := goodIn_app (goodIn_of _ (by decide +kernel)) ggX8_reign_X7_monthsOf
theorem dX8_reign_0 : decode cX8_reign 0 = .ok (.aload_n 0, 1) := by decide +kernel
theorem dX8_reign_1 : decode cX8_reign 1 = .ok (.getfield 19, 3) := by decide +kernel
theorem dX8_reign_4 : decode cX8_reign 4 = .ok (.iload_n 1, 1) := by decide +kernel
theorem dX8_reign_5 : decode cX8_reign 5 = .ok (.invokevirtual 96, 3) := by decide +kernel
theorem dX8_reign_8 : decode cX8_reign 8 = .ok (.ifCond .ne 5, 3) := by decide +kernel
theorem dX8_reign_11 : decode cX8_reign 11 = .ok (.iconst (-1), 1) := by decide +kernel
theorem dX8_reign_12 : decode cX8_reign 12 = .ok (.ireturn, 1) := by decide +kernel
theorem dX8_reign_13 : decode cX8_reign 13 = .ok (.iload_n 2, 1) := by decide +kernel
theorem dX8_reign_14 : decode cX8_reign 14 = .ok (.invokestatic 110, 3) := by decide +kernel
theorem dX8_reign_17 : decode cX8_reign 17 = .ok (.ifCond .eq 19, 3) := by decide +kernel
theorem dX8_reign_20 : decode cX8_reign 20 = .ok (.aload_n 0, 1) := by decide +kernel
theorem dX8_reign_21 : decode cX8_reign 21 = .ok (.getfield 61, 3) := by decide +kernel
theorem dX8_reign_24 : decode cX8_reign 24 = .ok (.iload_n 1, 1) := by decide +kernel
theorem dX8_reign_25 : decode cX8_reign 25 = .ok (.iload_n 2, 1) := by decide +kernel
theorem dX8_reign_26 : decode cX8_reign 26 = .ok (.aload_n 0, 1) := by decide +kernel
theorem dX8_reign_27 : decode cX8_reign 27 = .ok (.getfield 19, 3) := by decide +kernel
theorem dX8_reign_30 : decode cX8_reign 30 = .ok (.invokevirtual 197, 3) := by decide +kernel
theorem dX8_reign_33 : decode cX8_reign 33 = .ok (.goto 5, 3) := by decide +kernel
theorem dX8_reign_36 : decode cX8_reign 36 = .ok (.bipush (-2), 2) := by decide +kernel
theorem dX8_reign_38 : decode cX8_reign 38 = .ok (.ireturn, 1) := by decide +kernel
set_option maxRecDepth 20000 in
theorem ggX8_keep_X5_isSlot : GoodIn wsX8_keep wsX5_isSlot := goodIn_r _ [6] (by decide +kernel) (by decide +kernel)
set_option maxRecDepth 20000 in
theorem gX8_keep_X5_isSlot : GoodIn wsX8_keep (va_wsS RX8 201 yX5_isSlot wsX5_isSlot) := goodIn_app (goodIn_of _ (by decide +kernel)) ggX8_keep_X5_isSlot
set_option maxRecDepth 20000 in
theorem ggX8_keep_X5_put : GoodIn wsX8_keep wsX5_put := goodIn_r _ [10, 11, 12, 13, 4, 5, 6, 14, 15, 16, 17, 18, 19, 20, 21, 22, 23, 37, 38, 39, 40, 41, 42] (by decide +kernel) (by decide +kernel)
set_option maxRecDepth 20000 in
theorem gX8_keep_X5_put : GoodIn wsX8_keep (wsV RX8 204 RX5 yX5_put wsX5_put) := goodIn_app (goodIn_of _ (by decide +kernel)) ggX8_keep_X5_put
set_option maxRecDepth 20000 in
theorem ggX8_keep_X2_today : GoodIn wsX8_keep wsX2_today := goodIn_r _ [27, 19, 39, 40, 41, 42] (by decide +kernel) (by decide +kernel)
set_option maxRecDepth 20000 in
theorem gX8_keep_X2_today : GoodIn wsX8_keep (wsV RX8 130 RX2 yX2_today wsX2_today) := goodIn_app (goodIn_of _ (by decide +kernel)) ggX8_keep_X2_today
theorem dX8_keep_0 : decode cX8_keep 0 = .ok (.iload_n 1, 1) := by decide +kernel
theorem dX8_keep_1 : decode cX8_keep 1 = .ok (.invokestatic 201, 3) := by decide +kernel
theorem dX8_keep_4 : decode cX8_keep 4 = .ok (.ifCond .ne 5, 3) := by decide +kernel
theorem dX8_keep_7 : decode cX8_keep 7 = .ok (.iconst (-1), 1) := by decide +kernel
theorem dX8_keep_8 : decode cX8_keep 8 = .ok (.ireturn, 1) := by decide +kernel
theorem dX8_keep_9 : decode cX8_keep 9 = .ok (.aload_n 0, 1) := by decide +kernel
theorem dX8_keep_10 : decode cX8_keep 10 = .ok (.getfield 33, 3) := by decide +kernel
theorem dX8_keep_13 : decode cX8_keep 13 = .ok (.iload_n 1, 1) := by decide +kernel
theorem dX8_keep_14 : decode cX8_keep 14 = .ok (.aload_n 0, 1) := by decide +kernel
theorem dX8_keep_15 : decode cX8_keep 15 = .ok (.getfield 19, 3) := by decide +kernel
theorem dX8_keep_18 : decode cX8_keep 18 = .ok (.invokevirtual 204, 3) := by decide +kernel
theorem dX8_keep_21 : decode cX8_keep 21 = .ok (.aload_n 0, 1) := by decide +kernel
theorem dX8_keep_22 : decode cX8_keep 22 = .ok (.getfield 19, 3) := by decide +kernel
theorem dX8_keep_25 : decode cX8_keep 25 = .ok (.invokevirtual 130, 3) := by decide +kernel
theorem dX8_keep_28 : decode cX8_keep 28 = .ok (.ireturn, 1) := by decide +kernel
set_option maxRecDepth 20000 in
theorem ggX8_again_X5_isSlot : GoodIn wsX8_again wsX5_isSlot := goodIn_r _ [7] (by decide +kernel) (by decide +kernel)
set_option maxRecDepth 20000 in
theorem gX8_again_X5_isSlot : GoodIn wsX8_again (va_wsS RX8 201 yX5_isSlot wsX5_isSlot) := goodIn_app (goodIn_of _ (by decide +kernel)) ggX8_again_X5_isSlot
set_option maxRecDepth 20000 in
theorem ggX8_again_X5_holds : GoodIn wsX8_again wsX5_holds := goodIn_r _ [11, 12, 13, 5, 6, 7, 49, 50] (by decide +kernel) (by decide +kernel)
set_option maxRecDepth 20000 in
theorem gX8_again_X5_holds : GoodIn wsX8_again (wsV RX8 208 RX5 yX5_holds wsX5_holds) := goodIn_app (goodIn_of _ (by decide +kernel)) ggX8_again_X5_holds
set_option maxRecDepth 20000 in
theorem ggX8_again_X5_bring : GoodIn wsX8_again wsX5_bring := goodIn_r _ [17, 18, 19, 9, 10, 6, 11, 12, 13, 5, 7, 20, 21, 22, 23, 24, 25, 26, 27, 28, 29, 49, 50, 51, 52, 53, 54] (by decide +kernel) (by decide +kernel)
set_option maxRecDepth 20000 in
theorem gX8_again_X5_bring : GoodIn wsX8_again (wsV RX8 211 RX5 yX5_bring wsX5_bring) := goodIn_app (goodIn_of _ (by decide +kernel)) ggX8_again_X5_bring
set_option maxRecDepth 20000 in
theorem ggX8_again_X0_clear : GoodIn wsX8_again wsX0_clear := goodIn_r _ [34, 35, 55, 56, 57] (by decide +kernel) (by decide +kernel)
set_option maxRecDepth 20000 in
theorem gX8_again_X0_clear : GoodIn wsX8_again (wsV RX8 91 RX0 yX0_clear wsX0_clear) := goodIn_app (goodIn_of _ (by decide +kernel)) ggX8_again_X0_clear
set_option maxRecDepth 20000 in
theorem ggX8_again_X2_today : GoodIn wsX8_again wsX2_today := goodIn_r _ [39, 25, 51, 52, 53, 54] (by decide +kernel) (by decide +kernel)
set_option maxRecDepth 20000 in
theorem gX8_again_X2_today : GoodIn wsX8_again (wsV RX8 130 RX2 yX2_today wsX2_today) := goodIn_app (goodIn_of _ (by decide +kernel)) ggX8_again_X2_today
theorem dX8_again_0 : decode cX8_again 0 = .ok (.iload_n 1, 1) := by decide +kernel
theorem dX8_again_1 : decode cX8_again 1 = .ok (.invokestatic 201, 3) := by decide +kernel
theorem dX8_again_4 : decode cX8_again 4 = .ok (.ifCond .ne 5, 3) := by decide +kernel
theorem dX8_again_7 : decode cX8_again 7 = .ok (.iconst (-1), 1) := by decide +kernel
theorem dX8_again_8 : decode cX8_again 8 = .ok (.ireturn, 1) := by decide +kernel
theorem dX8_again_9 : decode cX8_again 9 = .ok (.aload_n 0, 1) := by decide +kernel
theorem dX8_again_10 : decode cX8_again 10 = .ok (.getfield 33, 3) := by decide +kernel
theorem dX8_again_13 : decode cX8_again 13 = .ok (.iload_n 1, 1) := by decide +kernel
theorem dX8_again_14 : decode cX8_again 14 = .ok (.invokevirtual 208, 3) := by decide +kernel
theorem dX8_again_17 : decode cX8_again 17 = .ok (.ifCond .ne 6, 3) := by decide +kernel
theorem dX8_again_20 : decode cX8_again 20 = .ok (.bipush (-3), 2) := by decide +kernel
theorem dX8_again_22 : decode cX8_again 22 = .ok (.ireturn, 1) := by decide +kernel
theorem dX8_again_23 : decode cX8_again 23 = .ok (.aload_n 0, 1) := by decide +kernel
theorem dX8_again_24 : decode cX8_again 24 = .ok (.getfield 33, 3) := by decide +kernel
theorem dX8_again_27 : decode cX8_again 27 = .ok (.iload_n 1, 1) := by decide +kernel
theorem dX8_again_28 : decode cX8_again 28 = .ok (.aload_n 0, 1) := by decide +kernel
theorem dX8_again_29 : decode cX8_again 29 = .ok (.getfield 19, 3) := by decide +kernel
theorem dX8_again_32 : decode cX8_again 32 = .ok (.invokevirtual 211, 3) := by decide +kernel
theorem dX8_again_35 : decode cX8_again 35 = .ok (.aload_n 0, 1) := by decide +kernel
theorem dX8_again_36 : decode cX8_again 36 = .ok (.getfield 26, 3) := by decide +kernel
theorem dX8_again_39 : decode cX8_again 39 = .ok (.invokevirtual 91, 3) := by decide +kernel
theorem dX8_again_42 : decode cX8_again 42 = .ok (.aload_n 0, 1) := by decide +kernel
theorem dX8_again_43 : decode cX8_again 43 = .ok (.getfield 19, 3) := by decide +kernel
theorem dX8_again_46 : decode cX8_again 46 = .ok (.invokevirtual 130, 3) := by decide +kernel
theorem dX8_again_49 : decode cX8_again 49 = .ok (.ireturn, 1) := by decide +kernel
set_option maxRecDepth 20000 in
theorem ggX8_count_X1_length : GoodIn wsX8_count wsX1_length := goodIn_r _ [12, 13, 75, 76] (by decide +kernel) (by decide +kernel)
set_option maxRecDepth 20000 in
theorem gX8_count_X1_length : GoodIn wsX8_count (wsV RX8 73 RX1 yX1_length wsX1_length) := goodIn_app (goodIn_of _ (by decide +kernel)) ggX8_count_X1_length
set_option maxRecDepth 20000 in
theorem ggX8_count_X2_size : GoodIn wsX8_count wsX2_size := goodIn_r _ [18, 19, 77, 78, 79, 80] (by decide +kernel) (by decide +kernel)
set_option maxRecDepth 20000 in
theorem gX8_count_X2_size : GoodIn wsX8_count (wsV RX8 93 RX2 yX2_size wsX2_size) := goodIn_app (goodIn_of _ (by decide +kernel)) ggX8_count_X2_size
set_option maxRecDepth 20000 in
theorem ggX8_count_X2_today : GoodIn wsX8_count wsX2_today := goodIn_r _ [23, 24, 77, 78, 79, 80] (by decide +kernel) (by decide +kernel)
set_option maxRecDepth 20000 in
theorem gX8_count_X2_today : GoodIn wsX8_count (wsV RX8 130 RX2 yX2_today wsX2_today) := goodIn_app (goodIn_of _ (by decide +kernel)) ggX8_count_X2_today
set_option maxRecDepth 20000 in
theorem ggX8_count_X0_length : GoodIn wsX8_count wsX0_length := goodIn_r _ [29, 30, 81, 82, 83] (by decide +kernel) (by decide +kernel)
set_option maxRecDepth 20000 in
theorem gX8_count_X0_length : GoodIn wsX8_count (wsV RX8 136 RX0 yX0_length wsX0_length) := goodIn_app (goodIn_of _ (by decide +kernel)) ggX8_count_X0_length
set_option maxRecDepth 20000 in
theorem ggX8_count_X6_length : GoodIn wsX8_count wsX6_length := goodIn_r _ [35, 36, 84, 85, 86, 87] (by decide +kernel) (by decide +kernel)
set_option maxRecDepth 20000 in
theorem gX8_count_X6_length : GoodIn wsX8_count (wsV RX8 164 RX6 yX6_length wsX6_length) := goodIn_app (goodIn_of _ (by decide +kernel)) ggX8_count_X6_length
set_option maxRecDepth 20000 in
theorem ggX8_count_X4_length : GoodIn wsX8_count wsX4_length := goodIn_r _ [41, 42, 88, 89, 90, 91, 92, 93, 94] (by decide +kernel) (by decide +kernel)
set_option maxRecDepth 20000 in
theorem gX8_count_X4_length : GoodIn wsX8_count (wsV RX8 172 RX4 yX4_length wsX4_length) := goodIn_app (goodIn_of _ (by decide +kernel)) ggX8_count_X4_length
set_option maxRecDepth 20000 in
theorem ggX8_count_X3_length : GoodIn wsX8_count wsX3_length := goodIn_r _ [47, 48, 95, 96, 97, 98] (by decide +kernel) (by decide +kernel)
set_option maxRecDepth 20000 in
theorem gX8_count_X3_length : GoodIn wsX8_count (wsV RX8 185 RX3 yX3_length wsX3_length) := goodIn_app (goodIn_of _ (by decide +kernel)) ggX8_count_X3_length
set_option maxRecDepth 20000 in
theorem ggX8_count_X2_illBits : GoodIn wsX8_count wsX2_illBits := goodIn_r _ [52, 19, 53, 54, 55, 17, 56, 57, 58, 59, 60, 61, 24, 77, 78, 79, 80] (by decide +kernel) (by decide +kernel)
set_option maxRecDepth 20000 in
theorem gX8_count_X2_illBits : GoodIn wsX8_count (wsV RX8 214 RX2 yX2_illBits wsX2_illBits) := goodIn_app (goodIn_of _ (by decide +kernel)) ggX8_count_X2_illBits
set_option maxRecDepth 20000 in
theorem ggX8_count_X2_crownings : GoodIn wsX8_count wsX2_crownings := goodIn_r _ [65, 19, 58, 59, 60, 17, 61, 24, 77, 78, 79, 80] (by decide +kernel) (by decide +kernel)
set_option maxRecDepth 20000 in
theorem gX8_count_X2_crownings : GoodIn wsX8_count (wsV RX8 217 RX2 yX2_crownings wsX2_crownings) := goodIn_app (goodIn_of _ (by decide +kernel)) ggX8_count_X2_crownings
theorem dX8_count_0 : decode cX8_count 0 = .ok (.iload_n 1, 1) := by decide +kernel
theorem dX8_count_1 : decode cX8_count 1 = .ok (.tableswitch 132 0 9 #[55, 63, 71, 79, 87, 95, 103, 111, 116, 124], 55) := by decide +kernel
theorem dX8_count_56 : decode cX8_count 56 = .ok (.aload_n 0, 1) := by decide +kernel
theorem dX8_count_57 : decode cX8_count 57 = .ok (.getfield 10, 3) := by decide +kernel
theorem dX8_count_60 : decode cX8_count 60 = .ok (.invokevirtual 73, 3) := by decide +kernel
theorem dX8_count_63 : decode cX8_count 63 = .ok (.ireturn, 1) := by decide +kernel
theorem dX8_count_64 : decode cX8_count 64 = .ok (.aload_n 0, 1) := by decide +kernel
theorem dX8_count_65 : decode cX8_count 65 = .ok (.getfield 19, 3) := by decide +kernel
theorem dX8_count_68 : decode cX8_count 68 = .ok (.invokevirtual 93, 3) := by decide +kernel
theorem dX8_count_71 : decode cX8_count 71 = .ok (.ireturn, 1) := by decide +kernel
theorem dX8_count_72 : decode cX8_count 72 = .ok (.aload_n 0, 1) := by decide +kernel
theorem dX8_count_73 : decode cX8_count 73 = .ok (.getfield 19, 3) := by decide +kernel
theorem dX8_count_76 : decode cX8_count 76 = .ok (.invokevirtual 130, 3) := by decide +kernel
theorem dX8_count_79 : decode cX8_count 79 = .ok (.ireturn, 1) := by decide +kernel
theorem dX8_count_80 : decode cX8_count 80 = .ok (.aload_n 0, 1) := by decide +kernel
theorem dX8_count_81 : decode cX8_count 81 = .ok (.getfield 26, 3) := by decide +kernel
theorem dX8_count_84 : decode cX8_count 84 = .ok (.invokevirtual 136, 3) := by decide +kernel
theorem dX8_count_87 : decode cX8_count 87 = .ok (.ireturn, 1) := by decide +kernel
theorem dX8_count_88 : decode cX8_count 88 = .ok (.aload_n 0, 1) := by decide +kernel
theorem dX8_count_89 : decode cX8_count 89 = .ok (.getfield 40, 3) := by decide +kernel
theorem dX8_count_92 : decode cX8_count 92 = .ok (.invokevirtual 164, 3) := by decide +kernel
theorem dX8_count_95 : decode cX8_count 95 = .ok (.ireturn, 1) := by decide +kernel
theorem dX8_count_96 : decode cX8_count 96 = .ok (.aload_n 0, 1) := by decide +kernel
theorem dX8_count_97 : decode cX8_count 97 = .ok (.getfield 47, 3) := by decide +kernel
theorem dX8_count_100 : decode cX8_count 100 = .ok (.invokevirtual 172, 3) := by decide +kernel
theorem dX8_count_103 : decode cX8_count 103 = .ok (.ireturn, 1) := by decide +kernel
theorem dX8_count_104 : decode cX8_count 104 = .ok (.aload_n 0, 1) := by decide +kernel
theorem dX8_count_105 : decode cX8_count 105 = .ok (.getfield 54, 3) := by decide +kernel
theorem dX8_count_108 : decode cX8_count 108 = .ok (.invokevirtual 185, 3) := by decide +kernel
theorem dX8_count_111 : decode cX8_count 111 = .ok (.ireturn, 1) := by decide +kernel
theorem dX8_count_112 : decode cX8_count 112 = .ok (.aload_n 0, 1) := by decide +kernel
theorem dX8_count_113 : decode cX8_count 113 = .ok (.getfield 65, 3) := by decide +kernel
theorem dX8_count_116 : decode cX8_count 116 = .ok (.ireturn, 1) := by decide +kernel
theorem dX8_count_117 : decode cX8_count 117 = .ok (.aload_n 0, 1) := by decide +kernel
theorem dX8_count_118 : decode cX8_count 118 = .ok (.getfield 19, 3) := by decide +kernel
theorem dX8_count_121 : decode cX8_count 121 = .ok (.invokevirtual 214, 3) := by decide +kernel
theorem dX8_count_124 : decode cX8_count 124 = .ok (.ireturn, 1) := by decide +kernel
theorem dX8_count_125 : decode cX8_count 125 = .ok (.aload_n 0, 1) := by decide +kernel
theorem dX8_count_126 : decode cX8_count 126 = .ok (.getfield 19, 3) := by decide +kernel
theorem dX8_count_129 : decode cX8_count 129 = .ok (.invokevirtual 217, 3) := by decide +kernel
theorem dX8_count_132 : decode cX8_count 132 = .ok (.ireturn, 1) := by decide +kernel
theorem dX8_count_133 : decode cX8_count 133 = .ok (.bipush (-2), 2) := by decide +kernel
theorem dX8_count_135 : decode cX8_count 135 = .ok (.ireturn, 1) := by decide +kernel
