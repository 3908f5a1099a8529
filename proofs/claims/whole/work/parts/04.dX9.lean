theorem dX9_init_0 : decode cX9_init 0 = .ok (.aload_n 0, 1) := by decide +kernel
theorem dX9_init_1 : decode cX9_init 1 = .ok (.invokespecial 1, 3) := by decide +kernel
theorem dX9_init_4 : decode cX9_init 4 = .ok (.aload_n 0, 1) := by decide +kernel
theorem dX9_init_5 : decode cX9_init 5 = .ok (.bipush 26, 2) := by decide +kernel
theorem dX9_init_7 : decode cX9_init 7 = .ok (.newarray .int, 2) := by decide +kernel
theorem dX9_init_9 : decode cX9_init 9 = .ok (.putfield 7, 3) := by decide +kernel
theorem dX9_init_12 : decode cX9_init 12 = .ok (.aload_n 0, 1) := by decide +kernel
theorem dX9_init_13 : decode cX9_init 13 = .ok (.bipush 26, 2) := by decide +kernel
theorem dX9_init_15 : decode cX9_init 15 = .ok (.newarray .int, 2) := by decide +kernel
theorem dX9_init_17 : decode cX9_init 17 = .ok (.putfield 13, 3) := by decide +kernel
theorem dX9_init_20 : decode cX9_init 20 = .ok (.aload_n 0, 1) := by decide +kernel
theorem dX9_init_21 : decode cX9_init 21 = .ok (.bipush 48, 2) := by decide +kernel
theorem dX9_init_23 : decode cX9_init 23 = .ok (.newarray .int, 2) := by decide +kernel
theorem dX9_init_25 : decode cX9_init 25 = .ok (.putfield 16, 3) := by decide +kernel
theorem dX9_init_28 : decode cX9_init 28 = .ok (.aload_n 0, 1) := by decide +kernel
theorem dX9_init_29 : decode cX9_init 29 = .ok (.sipush 416, 3) := by decide +kernel
theorem dX9_init_32 : decode cX9_init 32 = .ok (.newarray .int, 2) := by decide +kernel
theorem dX9_init_34 : decode cX9_init 34 = .ok (.putfield 19, 3) := by decide +kernel
theorem dX9_init_37 : decode cX9_init 37 = .ok (.aload_n 0, 1) := by decide +kernel
theorem dX9_init_38 : decode cX9_init 38 = .ok (.bipush 10, 2) := by decide +kernel
theorem dX9_init_40 : decode cX9_init 40 = .ok (.newarray .int, 2) := by decide +kernel
theorem dX9_init_42 : decode cX9_init 42 = .ok (.putfield 22, 3) := by decide +kernel
theorem dX9_init_45 : decode cX9_init 45 = .ok (.aload_n 0, 1) := by decide +kernel
theorem dX9_init_46 : decode cX9_init 46 = .ok (.bipush 10, 2) := by decide +kernel
theorem dX9_init_48 : decode cX9_init 48 = .ok (.newarray .int, 2) := by decide +kernel
theorem dX9_init_50 : decode cX9_init 50 = .ok (.putfield 25, 3) := by decide +kernel
theorem dX9_init_53 : decode cX9_init 53 = .ok (.aload_n 0, 1) := by decide +kernel
theorem dX9_init_54 : decode cX9_init 54 = .ok (.bipush 10, 2) := by decide +kernel
theorem dX9_init_56 : decode cX9_init 56 = .ok (.newarray .int, 2) := by decide +kernel
theorem dX9_init_58 : decode cX9_init 58 = .ok (.putfield 28, 3) := by decide +kernel
theorem dX9_init_61 : decode cX9_init 61 = .ok (.aload_n 0, 1) := by decide +kernel
theorem dX9_init_62 : decode cX9_init 62 = .ok (.bipush 8, 2) := by decide +kernel
theorem dX9_init_64 : decode cX9_init 64 = .ok (.newarray .int, 2) := by decide +kernel
theorem dX9_init_66 : decode cX9_init 66 = .ok (.putfield 31, 3) := by decide +kernel
theorem dX9_init_69 : decode cX9_init 69 = .ok (.aload_n 0, 1) := by decide +kernel
theorem dX9_init_70 : decode cX9_init 70 = .ok (.bipush 8, 2) := by decide +kernel
theorem dX9_init_72 : decode cX9_init 72 = .ok (.newarray .int, 2) := by decide +kernel
theorem dX9_init_74 : decode cX9_init 74 = .ok (.putfield 34, 3) := by decide +kernel
theorem dX9_init_77 : decode cX9_init 77 = .ok (.aload_n 0, 1) := by decide +kernel
theorem dX9_init_78 : decode cX9_init 78 = .ok (.iconst 5, 1) := by decide +kernel
theorem dX9_init_79 : decode cX9_init 79 = .ok (.newarray .int, 2) := by decide +kernel
theorem dX9_init_81 : decode cX9_init 81 = .ok (.putfield 37, 3) := by decide +kernel
theorem dX9_init_84 : decode cX9_init 84 = .ok (.aload_n 0, 1) := by decide +kernel
theorem dX9_init_85 : decode cX9_init 85 = .ok (.iconst 5, 1) := by decide +kernel
theorem dX9_init_86 : decode cX9_init 86 = .ok (.newarray .int, 2) := by decide +kernel
theorem dX9_init_88 : decode cX9_init 88 = .ok (.putfield 40, 3) := by decide +kernel
theorem dX9_init_91 : decode cX9_init 91 = .ok (.aload_n 0, 1) := by decide +kernel
theorem dX9_init_92 : decode cX9_init 92 = .ok (.iconst 4, 1) := by decide +kernel
theorem dX9_init_93 : decode cX9_init 93 = .ok (.newarray .int, 2) := by decide +kernel
theorem dX9_init_95 : decode cX9_init 95 = .ok (.putfield 43, 3) := by decide +kernel
theorem dX9_init_98 : decode cX9_init 98 = .ok (.aload_n 0, 1) := by decide +kernel
theorem dX9_init_99 : decode cX9_init 99 = .ok (.sipush 2197, 3) := by decide +kernel
theorem dX9_init_102 : decode cX9_init 102 = .ok (.newarray .long, 2) := by decide +kernel
theorem dX9_init_104 : decode cX9_init 104 = .ok (.putfield 46, 3) := by decide +kernel
theorem dX9_init_107 : decode cX9_init 107 = .ok (.aload_n 0, 1) := by decide +kernel
theorem dX9_init_108 : decode cX9_init 108 = .ok (.sipush 2197, 3) := by decide +kernel
theorem dX9_init_111 : decode cX9_init 111 = .ok (.newarray .long, 2) := by decide +kernel
theorem dX9_init_113 : decode cX9_init 113 = .ok (.putfield 50, 3) := by decide +kernel
theorem dX9_init_116 : decode cX9_init 116 = .ok (.aload_n 0, 1) := by decide +kernel
theorem dX9_init_117 : decode cX9_init 117 = .ok (.bipush 26, 2) := by decide +kernel
theorem dX9_init_119 : decode cX9_init 119 = .ok (.newarray .int, 2) := by decide +kernel
theorem dX9_init_121 : decode cX9_init 121 = .ok (.putfield 53, 3) := by decide +kernel
theorem dX9_init_124 : decode cX9_init 124 = .ok (.aload_n 0, 1) := by decide +kernel
theorem dX9_init_125 : decode cX9_init 125 = .ok (.iconst 2, 1) := by decide +kernel
theorem dX9_init_126 : decode cX9_init 126 = .ok (.newarray .boolean, 2) := by decide +kernel
theorem dX9_init_128 : decode cX9_init 128 = .ok (.putfield 56, 3) := by decide +kernel
theorem dX9_init_131 : decode cX9_init 131 = .ok (.aload_n 0, 1) := by decide +kernel
theorem dX9_init_132 : decode cX9_init 132 = .ok (.bipush 52, 2) := by decide +kernel
theorem dX9_init_134 : decode cX9_init 134 = .ok (.newarray .int, 2) := by decide +kernel
theorem dX9_init_136 : decode cX9_init 136 = .ok (.putfield 60, 3) := by decide +kernel
theorem dX9_init_139 : decode cX9_init 139 = .ok (.aload_n 0, 1) := by decide +kernel
theorem dX9_init_140 : decode cX9_init 140 = .ok (.iconst 0, 1) := by decide +kernel
theorem dX9_init_141 : decode cX9_init 141 = .ok (.putfield 63, 3) := by decide +kernel
theorem dX9_init_144 : decode cX9_init 144 = .ok (.return_, 1) := by decide +kernel
theorem dX9_in_0 : decode cX9_in 0 = .ok (.lload_n 0, 1) := by decide +kernel
theorem dX9_in_1 : decode cX9_in 1 = .ok (.lload_n 2, 1) := by decide +kernel
theorem dX9_in_2 : decode cX9_in 2 = .ok (.lcmp, 1) := by decide +kernel
theorem dX9_in_3 : decode cX9_in 3 = .ok (.ifCond .lt 14, 3) := by decide +kernel
theorem dX9_in_6 : decode cX9_in 6 = .ok (.lload_n 0, 1) := by decide +kernel
theorem dX9_in_7 : decode cX9_in 7 = .ok (.lload 4, 2) := by decide +kernel
theorem dX9_in_9 : decode cX9_in 9 = .ok (.lcmp, 1) := by decide +kernel
theorem dX9_in_10 : decode cX9_in 10 = .ok (.ifCond .gt 7, 3) := by decide +kernel
theorem dX9_in_13 : decode cX9_in 13 = .ok (.iconst 1, 1) := by decide +kernel
theorem dX9_in_14 : decode cX9_in 14 = .ok (.goto 4, 3) := by decide +kernel
theorem dX9_in_17 : decode cX9_in 17 = .ok (.iconst 0, 1) := by decide +kernel
theorem dX9_in_18 : decode cX9_in 18 = .ok (.ireturn, 1) := by decide +kernel
set_option maxRecDepth 20000 in
theorem ggX9_write_X9_in : GoodIn wsX9_write wsX9_in := goodIn_r _ [8] (by decide +kernel) (by decide +kernel)
set_option maxRecDepth 20000 in
theorem gX9_write_X9_in : GoodIn wsX9_write (va_wsS RX9 69 yX9_in wsX9_in) := goodIn_app (goodIn_of _ (by decide +kernel)) ggX9_write_X9_in
theorem dX9_write_0 : decode cX9_write 0 = .ok (.iload_n 1, 1) := by decide +kernel
theorem dX9_write_1 : decode cX9_write 1 = .ok (.i2l, 1) := by decide +kernel
theorem dX9_write_2 : decode cX9_write 2 = .ok (.lconst 1, 1) := by decide +kernel
theorem dX9_write_3 : decode cX9_write 3 = .ok (.ldc2_w 67, 3) := by decide +kernel
theorem dX9_write_6 : decode cX9_write 6 = .ok (.invokestatic 69, 3) := by decide +kernel
theorem dX9_write_9 : decode cX9_write 9 = .ok (.ifCond .ne 6, 3) := by decide +kernel
theorem dX9_write_12 : decode cX9_write 12 = .ok (.bipush (-2), 2) := by decide +kernel
theorem dX9_write_14 : decode cX9_write 14 = .ok (.ireturn, 1) := by decide +kernel
theorem dX9_write_15 : decode cX9_write 15 = .ok (.aload_n 0, 1) := by decide +kernel
theorem dX9_write_16 : decode cX9_write 16 = .ok (.getfield 73, 3) := by decide +kernel
theorem dX9_write_19 : decode cX9_write 19 = .ok (.iload_n 1, 1) := by decide +kernel
theorem dX9_write_20 : decode cX9_write 20 = .ok (.iadd, 1) := by decide +kernel
theorem dX9_write_21 : decode cX9_write 21 = .ok (.bipush 48, 2) := by decide +kernel
theorem dX9_write_23 : decode cX9_write 23 = .ok (.if_icmp .le 6, 3) := by decide +kernel
theorem dX9_write_26 : decode cX9_write 26 = .ok (.bipush (-4), 2) := by decide +kernel
theorem dX9_write_28 : decode cX9_write 28 = .ok (.ireturn, 1) := by decide +kernel
theorem dX9_write_29 : decode cX9_write 29 = .ok (.iload_n 1, 1) := by decide +kernel
theorem dX9_write_30 : decode cX9_write 30 = .ok (.iconst 1, 1) := by decide +kernel
theorem dX9_write_31 : decode cX9_write 31 = .ok (.isub, 1) := by decide +kernel
theorem dX9_write_32 : decode cX9_write 32 = .ok (.istore 4, 2) := by decide +kernel
theorem dX9_write_34 : decode cX9_write 34 = .ok (.iload 4, 2) := by decide +kernel
theorem dX9_write_36 : decode cX9_write 36 = .ok (.ifCond .lt 40, 3) := by decide +kernel
theorem dX9_write_39 : decode cX9_write 39 = .ok (.aload_n 0, 1) := by decide +kernel
theorem dX9_write_40 : decode cX9_write 40 = .ok (.getfield 16, 3) := by decide +kernel
theorem dX9_write_43 : decode cX9_write 43 = .ok (.aload_n 0, 1) := by decide +kernel
theorem dX9_write_44 : decode cX9_write 44 = .ok (.getfield 73, 3) := by decide +kernel
theorem dX9_write_47 : decode cX9_write 47 = .ok (.lload_n 2, 1) := by decide +kernel
theorem dX9_write_48 : decode cX9_write 48 = .ok (.bipush 8, 2) := by decide +kernel
theorem dX9_write_50 : decode cX9_write 50 = .ok (.iload 4, 2) := by decide +kernel
theorem dX9_write_52 : decode cX9_write 52 = .ok (.imul, 1) := by decide +kernel
theorem dX9_write_53 : decode cX9_write 53 = .ok (.lshr, 1) := by decide +kernel
theorem dX9_write_54 : decode cX9_write 54 = .ok (.ldc2_w 76, 3) := by decide +kernel
theorem dX9_write_57 : decode cX9_write 57 = .ok (.land, 1) := by decide +kernel
theorem dX9_write_58 : decode cX9_write 58 = .ok (.l2i, 1) := by decide +kernel
theorem dX9_write_59 : decode cX9_write 59 = .ok (.iastore, 1) := by decide +kernel
theorem dX9_write_60 : decode cX9_write 60 = .ok (.aload_n 0, 1) := by decide +kernel
theorem dX9_write_61 : decode cX9_write 61 = .ok (.dup, 1) := by decide +kernel
theorem dX9_write_62 : decode cX9_write 62 = .ok (.getfield 73, 3) := by decide +kernel
theorem dX9_write_65 : decode cX9_write 65 = .ok (.iconst 1, 1) := by decide +kernel
theorem dX9_write_66 : decode cX9_write 66 = .ok (.iadd, 1) := by decide +kernel
theorem dX9_write_67 : decode cX9_write 67 = .ok (.putfield 73, 3) := by decide +kernel
theorem dX9_write_70 : decode cX9_write 70 = .ok (.iinc 4 (-1), 3) := by decide +kernel
theorem dX9_write_73 : decode cX9_write 73 = .ok (.goto (-39), 3) := by decide +kernel
theorem dX9_write_76 : decode cX9_write 76 = .ok (.aload_n 0, 1) := by decide +kernel
theorem dX9_write_77 : decode cX9_write 77 = .ok (.getfield 73, 3) := by decide +kernel
theorem dX9_write_80 : decode cX9_write 80 = .ok (.ireturn, 1) := by decide +kernel
theorem dX9_wipe_0 : decode cX9_wipe 0 = .ok (.aload_n 0, 1) := by decide +kernel
theorem dX9_wipe_1 : decode cX9_wipe 1 = .ok (.getfield 73, 3) := by decide +kernel
theorem dX9_wipe_4 : decode cX9_wipe 4 = .ok (.istore_n 1, 1) := by decide +kernel
theorem dX9_wipe_5 : decode cX9_wipe 5 = .ok (.aload_n 0, 1) := by decide +kernel
theorem dX9_wipe_6 : decode cX9_wipe 6 = .ok (.iconst 0, 1) := by decide +kernel
theorem dX9_wipe_7 : decode cX9_wipe 7 = .ok (.putfield 73, 3) := by decide +kernel
theorem dX9_wipe_10 : decode cX9_wipe 10 = .ok (.iload_n 1, 1) := by decide +kernel
theorem dX9_wipe_11 : decode cX9_wipe 11 = .ok (.ireturn, 1) := by decide +kernel
set_option maxRecDepth 20000 in
theorem ggX9_figure_X9_in : GoodIn wsX9_figure wsX9_in := goodIn_r _ [8] (by decide +kernel) (by decide +kernel)
set_option maxRecDepth 20000 in
theorem gX9_figure_X9_in : GoodIn wsX9_figure (va_wsS RX9 69 yX9_in wsX9_in) := goodIn_app (goodIn_of _ (by decide +kernel)) ggX9_figure_X9_in
theorem dX9_figure_0 : decode cX9_figure 0 = .ok (.aload_n 0, 1) := by decide +kernel
theorem dX9_figure_1 : decode cX9_figure 1 = .ok (.getfield 78, 3) := by decide +kernel
theorem dX9_figure_4 : decode cX9_figure 4 = .ok (.bipush (-9), 2) := by decide +kernel
theorem dX9_figure_6 : decode cX9_figure 6 = .ok (.if_icmp .ne 29, 3) := by decide +kernel
theorem dX9_figure_9 : decode cX9_figure 9 = .ok (.aload_n 0, 1) := by decide +kernel
theorem dX9_figure_10 : decode cX9_figure 10 = .ok (.getfield 81, 3) := by decide +kernel
theorem dX9_figure_13 : decode cX9_figure 13 = .ok (.aload_n 0, 1) := by decide +kernel
theorem dX9_figure_14 : decode cX9_figure 14 = .ok (.getfield 73, 3) := by decide +kernel
theorem dX9_figure_17 : decode cX9_figure 17 = .ok (.if_icmp .ge 18, 3) := by decide +kernel
theorem dX9_figure_20 : decode cX9_figure 20 = .ok (.aload_n 0, 1) := by decide +kernel
theorem dX9_figure_21 : decode cX9_figure 21 = .ok (.getfield 16, 3) := by decide +kernel
theorem dX9_figure_24 : decode cX9_figure 24 = .ok (.aload_n 0, 1) := by decide +kernel
theorem dX9_figure_25 : decode cX9_figure 25 = .ok (.getfield 81, 3) := by decide +kernel
theorem dX9_figure_28 : decode cX9_figure 28 = .ok (.iaload, 1) := by decide +kernel
theorem dX9_figure_29 : decode cX9_figure 29 = .ok (.bipush 48, 2) := by decide +kernel
theorem dX9_figure_31 : decode cX9_figure 31 = .ok (.isub, 1) := by decide +kernel
theorem dX9_figure_32 : decode cX9_figure 32 = .ok (.goto 4, 3) := by decide +kernel
theorem dX9_figure_35 : decode cX9_figure 35 = .ok (.iconst (-1), 1) := by decide +kernel
theorem dX9_figure_36 : decode cX9_figure 36 = .ok (.istore_n 3, 1) := by decide +kernel
theorem dX9_figure_37 : decode cX9_figure 37 = .ok (.iload_n 3, 1) := by decide +kernel
theorem dX9_figure_38 : decode cX9_figure 38 = .ok (.i2l, 1) := by decide +kernel
theorem dX9_figure_39 : decode cX9_figure 39 = .ok (.iload_n 1, 1) := by decide +kernel
theorem dX9_figure_40 : decode cX9_figure 40 = .ok (.i2l, 1) := by decide +kernel
theorem dX9_figure_41 : decode cX9_figure 41 = .ok (.iload_n 2, 1) := by decide +kernel
theorem dX9_figure_42 : decode cX9_figure 42 = .ok (.i2l, 1) := by decide +kernel
theorem dX9_figure_43 : decode cX9_figure 43 = .ok (.invokestatic 69, 3) := by decide +kernel
theorem dX9_figure_46 : decode cX9_figure 46 = .ok (.ifCond .ne 29, 3) := by decide +kernel
theorem dX9_figure_49 : decode cX9_figure 49 = .ok (.aload_n 0, 1) := by decide +kernel
theorem dX9_figure_50 : decode cX9_figure 50 = .ok (.aload_n 0, 1) := by decide +kernel
theorem dX9_figure_51 : decode cX9_figure 51 = .ok (.getfield 78, 3) := by decide +kernel
theorem dX9_figure_54 : decode cX9_figure 54 = .ok (.bipush (-9), 2) := by decide +kernel
theorem dX9_figure_56 : decode cX9_figure 56 = .ok (.if_icmp .ne 10, 3) := by decide +kernel
theorem dX9_figure_59 : decode cX9_figure 59 = .ok (.aload_n 0, 1) := by decide +kernel
theorem dX9_figure_60 : decode cX9_figure 60 = .ok (.getfield 81, 3) := by decide +kernel
theorem dX9_figure_63 : decode cX9_figure 63 = .ok (.goto 7, 3) := by decide +kernel
theorem dX9_figure_66 : decode cX9_figure 66 = .ok (.aload_n 0, 1) := by decide +kernel
theorem dX9_figure_67 : decode cX9_figure 67 = .ok (.getfield 78, 3) := by decide +kernel
theorem dX9_figure_70 : decode cX9_figure 70 = .ok (.putfield 78, 3) := by decide +kernel
theorem dX9_figure_73 : decode cX9_figure 73 = .ok (.iconst 0, 1) := by decide +kernel
theorem dX9_figure_74 : decode cX9_figure 74 = .ok (.ireturn, 1) := by decide +kernel
theorem dX9_figure_75 : decode cX9_figure 75 = .ok (.aload_n 0, 1) := by decide +kernel
theorem dX9_figure_76 : decode cX9_figure 76 = .ok (.dup, 1) := by decide +kernel
theorem dX9_figure_77 : decode cX9_figure 77 = .ok (.getfield 81, 3) := by decide +kernel
theorem dX9_figure_80 : decode cX9_figure 80 = .ok (.iconst 1, 1) := by decide +kernel
theorem dX9_figure_81 : decode cX9_figure 81 = .ok (.iadd, 1) := by decide +kernel
theorem dX9_figure_82 : decode cX9_figure 82 = .ok (.putfield 81, 3) := by decide +kernel
theorem dX9_figure_85 : decode cX9_figure 85 = .ok (.iload_n 3, 1) := by decide +kernel
theorem dX9_figure_86 : decode cX9_figure 86 = .ok (.ireturn, 1) := by decide +kernel
set_option maxRecDepth 20000 in
theorem ggX9_readText_X9_figure : GoodIn wsX9_readText wsX9_figure := goodIn_r _ [14, 2, 1, 4, 5, 15, 16, 13, 17, 18, 19, 20, 21, 22, 23, 24, 25, 26, 27, 28, 29, 30, 31, 32, 33, 34, 35, 36, 37, 38, 39, 40, 41, 42, 43, 44, 45, 46, 47, 48, 49, 50, 51] (by decide +kernel) (by decide +kernel)
set_option maxRecDepth 20000 in
theorem gX9_readText_X9_figure : GoodIn wsX9_readText (wsV RX9 87 RX9 yX9_figure wsX9_figure) := goodIn_app (goodIn_of _ (by decide +kernel)) ggX9_readText_X9_figure
theorem dX9_readText_0 : decode cX9_readText 0 = .ok (.aload_n 0, 1) := by decide +kernel
theorem dX9_readText_1 : decode cX9_readText 1 = .ok (.iconst 0, 1) := by decide +kernel
theorem dX9_readText_2 : decode cX9_readText 2 = .ok (.putfield 81, 3) := by decide +kernel
theorem dX9_readText_5 : decode cX9_readText 5 = .ok (.aload_n 0, 1) := by decide +kernel
theorem dX9_readText_6 : decode cX9_readText 6 = .ok (.bipush (-9), 2) := by decide +kernel
theorem dX9_readText_8 : decode cX9_readText 8 = .ok (.putfield 78, 3) := by decide +kernel
theorem dX9_readText_11 : decode cX9_readText 11 = .ok (.aload_n 0, 1) := by decide +kernel
theorem dX9_readText_12 : decode cX9_readText 12 = .ok (.iconst 0, 1) := by decide +kernel
theorem dX9_readText_13 : decode cX9_readText 13 = .ok (.putfield 84, 3) := by decide +kernel
theorem dX9_readText_16 : decode cX9_readText 16 = .ok (.aload_n 0, 1) := by decide +kernel
theorem dX9_readText_17 : decode cX9_readText 17 = .ok (.getfield 73, 3) := by decide +kernel
theorem dX9_readText_20 : decode cX9_readText 20 = .ok (.ifCond .eq 14, 3) := by decide +kernel
theorem dX9_readText_23 : decode cX9_readText 23 = .ok (.aload_n 0, 1) := by decide +kernel
theorem dX9_readText_24 : decode cX9_readText 24 = .ok (.getfield 16, 3) := by decide +kernel
theorem dX9_readText_27 : decode cX9_readText 27 = .ok (.iconst 0, 1) := by decide +kernel
theorem dX9_readText_28 : decode cX9_readText 28 = .ok (.iaload, 1) := by decide +kernel
theorem dX9_readText_29 : decode cX9_readText 29 = .ok (.bipush 82, 2) := by decide +kernel
theorem dX9_readText_31 : decode cX9_readText 31 = .ok (.if_icmp .eq 5, 3) := by decide +kernel
theorem dX9_readText_34 : decode cX9_readText 34 = .ok (.iconst 0, 1) := by decide +kernel
theorem dX9_readText_35 : decode cX9_readText 35 = .ok (.ireturn, 1) := by decide +kernel
theorem dX9_readText_36 : decode cX9_readText 36 = .ok (.aload_n 0, 1) := by decide +kernel
theorem dX9_readText_37 : decode cX9_readText 37 = .ok (.iconst 1, 1) := by decide +kernel
theorem dX9_readText_38 : decode cX9_readText 38 = .ok (.putfield 81, 3) := by decide +kernel
theorem dX9_readText_41 : decode cX9_readText 41 = .ok (.aload_n 0, 1) := by decide +kernel
theorem dX9_readText_42 : decode cX9_readText 42 = .ok (.aload_n 0, 1) := by decide +kernel
theorem dX9_readText_43 : decode cX9_readText 43 = .ok (.iconst 0, 1) := by decide +kernel
theorem dX9_readText_44 : decode cX9_readText 44 = .ok (.iconst 2, 1) := by decide +kernel
theorem dX9_readText_45 : decode cX9_readText 45 = .ok (.invokevirtual 87, 3) := by decide +kernel
theorem dX9_readText_48 : decode cX9_readText 48 = .ok (.putfield 91, 3) := by decide +kernel
theorem dX9_readText_51 : decode cX9_readText 51 = .ok (.aload_n 0, 1) := by decide +kernel
theorem dX9_readText_52 : decode cX9_readText 52 = .ok (.aload_n 0, 1) := by decide +kernel
theorem dX9_readText_53 : decode cX9_readText 53 = .ok (.iconst 0, 1) := by decide +kernel
theorem dX9_readText_54 : decode cX9_readText 54 = .ok (.bipush 9, 2) := by decide +kernel
theorem dX9_readText_56 : decode cX9_readText 56 = .ok (.invokevirtual 87, 3) := by decide +kernel
theorem dX9_readText_59 : decode cX9_readText 59 = .ok (.putfield 94, 3) := by decide +kernel
theorem dX9_readText_62 : decode cX9_readText 62 = .ok (.aload_n 0, 1) := by decide +kernel
theorem dX9_readText_63 : decode cX9_readText 63 = .ok (.aload_n 0, 1) := by decide +kernel
theorem dX9_readText_64 : decode cX9_readText 64 = .ok (.iconst 0, 1) := by decide +kernel
theorem dX9_readText_65 : decode cX9_readText 65 = .ok (.bipush 9, 2) := by decide +kernel
theorem dX9_readText_67 : decode cX9_readText 67 = .ok (.invokevirtual 87, 3) := by decide +kernel
theorem dX9_readText_70 : decode cX9_readText 70 = .ok (.putfield 97, 3) := by decide +kernel
theorem dX9_readText_73 : decode cX9_readText 73 = .ok (.aload_n 0, 1) := by decide +kernel
theorem dX9_readText_74 : decode cX9_readText 74 = .ok (.getfield 78, 3) := by decide +kernel
theorem dX9_readText_77 : decode cX9_readText 77 = .ok (.bipush (-9), 2) := by decide +kernel
theorem dX9_readText_79 : decode cX9_readText 79 = .ok (.if_icmp .ne 146, 3) := by decide +kernel
theorem dX9_readText_82 : decode cX9_readText 82 = .ok (.aload_n 0, 1) := by decide +kernel
theorem dX9_readText_83 : decode cX9_readText 83 = .ok (.getfield 81, 3) := by decide +kernel
theorem dX9_readText_86 : decode cX9_readText 86 = .ok (.aload_n 0, 1) := by decide +kernel
theorem dX9_readText_87 : decode cX9_readText 87 = .ok (.getfield 73, 3) := by decide +kernel
theorem dX9_readText_90 : decode cX9_readText 90 = .ok (.if_icmp .ge 135, 3) := by decide +kernel
theorem dX9_readText_93 : decode cX9_readText 93 = .ok (.aload_n 0, 1) := by decide +kernel
theorem dX9_readText_94 : decode cX9_readText 94 = .ok (.getfield 16, 3) := by decide +kernel
theorem dX9_readText_97 : decode cX9_readText 97 = .ok (.aload_n 0, 1) := by decide +kernel
theorem dX9_readText_98 : decode cX9_readText 98 = .ok (.getfield 81, 3) := by decide +kernel
theorem dX9_readText_101 : decode cX9_readText 101 = .ok (.iaload, 1) := by decide +kernel
theorem dX9_readText_102 : decode cX9_readText 102 = .ok (.bipush 80, 2) := by decide +kernel
theorem dX9_readText_104 : decode cX9_readText 104 = .ok (.if_icmp .ne 110, 3) := by decide +kernel
theorem dX9_readText_107 : decode cX9_readText 107 = .ok (.aload_n 0, 1) := by decide +kernel
theorem dX9_readText_108 : decode cX9_readText 108 = .ok (.getfield 84, 3) := by decide +kernel
theorem dX9_readText_111 : decode cX9_readText 111 = .ok (.iconst 5, 1) := by decide +kernel
theorem dX9_readText_112 : decode cX9_readText 112 = .ok (.if_icmp .ge 102, 3) := by decide +kernel
theorem dX9_readText_115 : decode cX9_readText 115 = .ok (.aload_n 0, 1) := by decide +kernel
theorem dX9_readText_116 : decode cX9_readText 116 = .ok (.dup, 1) := by decide +kernel
theorem dX9_readText_117 : decode cX9_readText 117 = .ok (.getfield 81, 3) := by decide +kernel
theorem dX9_readText_120 : decode cX9_readText 120 = .ok (.iconst 1, 1) := by decide +kernel
theorem dX9_readText_121 : decode cX9_readText 121 = .ok (.iadd, 1) := by decide +kernel
theorem dX9_readText_122 : decode cX9_readText 122 = .ok (.putfield 81, 3) := by decide +kernel
theorem dX9_readText_125 : decode cX9_readText 125 = .ok (.iconst 5, 1) := by decide +kernel
theorem dX9_readText_126 : decode cX9_readText 126 = .ok (.aload_n 0, 1) := by decide +kernel
theorem dX9_readText_127 : decode cX9_readText 127 = .ok (.getfield 84, 3) := by decide +kernel
theorem dX9_readText_130 : decode cX9_readText 130 = .ok (.imul, 1) := by decide +kernel
theorem dX9_readText_131 : decode cX9_readText 131 = .ok (.istore_n 1, 1) := by decide +kernel
theorem dX9_readText_132 : decode cX9_readText 132 = .ok (.aload_n 0, 1) := by decide +kernel
theorem dX9_readText_133 : decode cX9_readText 133 = .ok (.iconst 1, 1) := by decide +kernel
theorem dX9_readText_134 : decode cX9_readText 134 = .ok (.bipush 9, 2) := by decide +kernel
theorem dX9_readText_136 : decode cX9_readText 136 = .ok (.invokevirtual 87, 3) := by decide +kernel
theorem dX9_readText_139 : decode cX9_readText 139 = .ok (.istore_n 2, 1) := by decide +kernel
theorem dX9_readText_140 : decode cX9_readText 140 = .ok (.aload_n 0, 1) := by decide +kernel
theorem dX9_readText_141 : decode cX9_readText 141 = .ok (.iconst 0, 1) := by decide +kernel
theorem dX9_readText_142 : decode cX9_readText 142 = .ok (.bipush 9, 2) := by decide +kernel
theorem dX9_readText_144 : decode cX9_readText 144 = .ok (.invokevirtual 87, 3) := by decide +kernel
theorem dX9_readText_147 : decode cX9_readText 147 = .ok (.istore_n 3, 1) := by decide +kernel
theorem dX9_readText_148 : decode cX9_readText 148 = .ok (.aload_n 0, 1) := by decide +kernel
theorem dX9_readText_149 : decode cX9_readText 149 = .ok (.getfield 7, 3) := by decide +kernel
theorem dX9_readText_152 : decode cX9_readText 152 = .ok (.iload_n 1, 1) := by decide +kernel
theorem dX9_readText_153 : decode cX9_readText 153 = .ok (.bipush 100, 2) := by decide +kernel
theorem dX9_readText_155 : decode cX9_readText 155 = .ok (.iload_n 2, 1) := by decide +kernel
theorem dX9_readText_156 : decode cX9_readText 156 = .ok (.imul, 1) := by decide +kernel
theorem dX9_readText_157 : decode cX9_readText 157 = .ok (.bipush 10, 2) := by decide +kernel
theorem dX9_readText_159 : decode cX9_readText 159 = .ok (.iload_n 3, 1) := by decide +kernel
theorem dX9_readText_160 : decode cX9_readText 160 = .ok (.imul, 1) := by decide +kernel
theorem dX9_readText_161 : decode cX9_readText 161 = .ok (.iadd, 1) := by decide +kernel
theorem dX9_readText_162 : decode cX9_readText 162 = .ok (.aload_n 0, 1) := by decide +kernel
theorem dX9_readText_163 : decode cX9_readText 163 = .ok (.iconst 0, 1) := by decide +kernel
theorem dX9_readText_164 : decode cX9_readText 164 = .ok (.bipush 9, 2) := by decide +kernel
theorem dX9_readText_166 : decode cX9_readText 166 = .ok (.invokevirtual 87, 3) := by decide +kernel
theorem dX9_readText_169 : decode cX9_readText 169 = .ok (.iadd, 1) := by decide +kernel
theorem dX9_readText_170 : decode cX9_readText 170 = .ok (.iastore, 1) := by decide +kernel
theorem dX9_readText_171 : decode cX9_readText 171 = .ok (.aload_n 0, 1) := by decide +kernel
theorem dX9_readText_172 : decode cX9_readText 172 = .ok (.getfield 7, 3) := by decide +kernel
theorem dX9_readText_175 : decode cX9_readText 175 = .ok (.iload_n 1, 1) := by decide +kernel
theorem dX9_readText_176 : decode cX9_readText 176 = .ok (.iconst 1, 1) := by decide +kernel
theorem dX9_readText_177 : decode cX9_readText 177 = .ok (.iadd, 1) := by decide +kernel
theorem dX9_readText_178 : decode cX9_readText 178 = .ok (.aload_n 0, 1) := by decide +kernel
theorem dX9_readText_179 : decode cX9_readText 179 = .ok (.iconst 0, 1) := by decide +kernel
theorem dX9_readText_180 : decode cX9_readText 180 = .ok (.bipush 9, 2) := by decide +kernel
theorem dX9_readText_182 : decode cX9_readText 182 = .ok (.invokevirtual 87, 3) := by decide +kernel
theorem dX9_readText_185 : decode cX9_readText 185 = .ok (.iastore, 1) := by decide +kernel
theorem dX9_readText_186 : decode cX9_readText 186 = .ok (.aload_n 0, 1) := by decide +kernel
theorem dX9_readText_187 : decode cX9_readText 187 = .ok (.getfield 7, 3) := by decide +kernel
theorem dX9_readText_190 : decode cX9_readText 190 = .ok (.iload_n 1, 1) := by decide +kernel
theorem dX9_readText_191 : decode cX9_readText 191 = .ok (.iconst 2, 1) := by decide +kernel
theorem dX9_readText_192 : decode cX9_readText 192 = .ok (.iadd, 1) := by decide +kernel
theorem dX9_readText_193 : decode cX9_readText 193 = .ok (.aload_n 0, 1) := by decide +kernel
theorem dX9_readText_194 : decode cX9_readText 194 = .ok (.iconst 0, 1) := by decide +kernel
theorem dX9_readText_195 : decode cX9_readText 195 = .ok (.bipush 9, 2) := by decide +kernel
theorem dX9_readText_197 : decode cX9_readText 197 = .ok (.invokevirtual 87, 3) := by decide +kernel
theorem dX9_readText_200 : decode cX9_readText 200 = .ok (.iastore, 1) := by decide +kernel
theorem dX9_readText_201 : decode cX9_readText 201 = .ok (.aload_n 0, 1) := by decide +kernel
theorem dX9_readText_202 : decode cX9_readText 202 = .ok (.dup, 1) := by decide +kernel
theorem dX9_readText_203 : decode cX9_readText 203 = .ok (.getfield 84, 3) := by decide +kernel
theorem dX9_readText_206 : decode cX9_readText 206 = .ok (.iconst 1, 1) := by decide +kernel
theorem dX9_readText_207 : decode cX9_readText 207 = .ok (.iadd, 1) := by decide +kernel
theorem dX9_readText_208 : decode cX9_readText 208 = .ok (.putfield 84, 3) := by decide +kernel
theorem dX9_readText_211 : decode cX9_readText 211 = .ok (.goto (-138), 3) := by decide +kernel
theorem dX9_readText_214 : decode cX9_readText 214 = .ok (.aload_n 0, 1) := by decide +kernel
theorem dX9_readText_215 : decode cX9_readText 215 = .ok (.aload_n 0, 1) := by decide +kernel
theorem dX9_readText_216 : decode cX9_readText 216 = .ok (.getfield 81, 3) := by decide +kernel
theorem dX9_readText_219 : decode cX9_readText 219 = .ok (.putfield 78, 3) := by decide +kernel
theorem dX9_readText_222 : decode cX9_readText 222 = .ok (.goto (-149), 3) := by decide +kernel
theorem dX9_readText_225 : decode cX9_readText 225 = .ok (.aload_n 0, 1) := by decide +kernel
theorem dX9_readText_226 : decode cX9_readText 226 = .ok (.getfield 78, 3) := by decide +kernel
theorem dX9_readText_229 : decode cX9_readText 229 = .ok (.ireturn, 1) := by decide +kernel
set_option maxRecDepth 20000 in
theorem ggX9_fault_X9_readText : GoodIn wsX9_fault wsX9_readText := goodIn_r _ [5, 6, 7, 8, 9, 10, 11, 12, 13, 14, 15, 16, 17, 4, 18, 19, 20, 21, 22, 23, 24, 25, 26, 27, 28, 29, 30, 31, 32, 33, 34, 35, 36, 37, 38, 39, 40, 41, 42, 43, 44, 45, 46, 47, 48, 49, 50, 51, 52, 53, 54, 55] (by decide +kernel) (by decide +kernel)
set_option maxRecDepth 20000 in
theorem gX9_fault_X9_readText : GoodIn wsX9_fault (wsV RX9 100 RX9 yX9_readText wsX9_readText) := goodIn_app (goodIn_of _ (by decide +kernel)) ggX9_fault_X9_readText
theorem dX9_fault_0 : decode cX9_fault 0 = .ok (.aload_n 0, 1) := by decide +kernel
theorem dX9_fault_1 : decode cX9_fault 1 = .ok (.invokevirtual 100, 3) := by decide +kernel
theorem dX9_fault_4 : decode cX9_fault 4 = .ok (.ireturn, 1) := by decide +kernel
set_option maxRecDepth 20000 in
theorem ggX9_land_X9_readText : GoodIn wsX9_land wsX9_readText := goodIn_r _ [17, 18, 19, 1, 20, 21, 3, 5, 7, 10, 22, 23, 24, 16, 25, 26, 27, 28, 29, 30, 31, 32, 33, 34, 35, 36, 37, 38, 39, 40, 41, 42, 43, 44, 45, 46, 47, 48, 49, 50, 51, 52, 53, 54, 55, 56, 57, 58, 59, 60, 61, 62] (by decide +kernel) (by decide +kernel)
set_option maxRecDepth 20000 in
theorem gX9_land_X9_readText : GoodIn wsX9_land (wsV RX9 100 RX9 yX9_readText wsX9_readText) := goodIn_app (goodIn_of _ (by decide +kernel)) ggX9_land_X9_readText
theorem dX9_land_0 : decode cX9_land 0 = .ok (.aload_n 0, 1) := by decide +kernel
theorem dX9_land_1 : decode cX9_land 1 = .ok (.invokevirtual 100, 3) := by decide +kernel
theorem dX9_land_4 : decode cX9_land 4 = .ok (.bipush (-9), 2) := by decide +kernel
theorem dX9_land_6 : decode cX9_land 6 = .ok (.if_icmp .eq 6, 3) := by decide +kernel
theorem dX9_land_9 : decode cX9_land 9 = .ok (.bipush (-3), 2) := by decide +kernel
theorem dX9_land_11 : decode cX9_land 11 = .ok (.ireturn, 1) := by decide +kernel
theorem dX9_land_12 : decode cX9_land 12 = .ok (.aload_n 0, 1) := by decide +kernel
theorem dX9_land_13 : decode cX9_land 13 = .ok (.aload_n 0, 1) := by decide +kernel
theorem dX9_land_14 : decode cX9_land 14 = .ok (.getfield 84, 3) := by decide +kernel
theorem dX9_land_17 : decode cX9_land 17 = .ok (.putfield 104, 3) := by decide +kernel
theorem dX9_land_20 : decode cX9_land 20 = .ok (.aload_n 0, 1) := by decide +kernel
theorem dX9_land_21 : decode cX9_land 21 = .ok (.aload_n 0, 1) := by decide +kernel
theorem dX9_land_22 : decode cX9_land 22 = .ok (.getfield 91, 3) := by decide +kernel
theorem dX9_land_25 : decode cX9_land 25 = .ok (.putfield 63, 3) := by decide +kernel
theorem dX9_land_28 : decode cX9_land 28 = .ok (.aload_n 0, 1) := by decide +kernel
theorem dX9_land_29 : decode cX9_land 29 = .ok (.aload_n 0, 1) := by decide +kernel
theorem dX9_land_30 : decode cX9_land 30 = .ok (.getfield 94, 3) := by decide +kernel
theorem dX9_land_33 : decode cX9_land 33 = .ok (.putfield 107, 3) := by decide +kernel
theorem dX9_land_36 : decode cX9_land 36 = .ok (.aload_n 0, 1) := by decide +kernel
theorem dX9_land_37 : decode cX9_land 37 = .ok (.aload_n 0, 1) := by decide +kernel
theorem dX9_land_38 : decode cX9_land 38 = .ok (.getfield 97, 3) := by decide +kernel
theorem dX9_land_41 : decode cX9_land 41 = .ok (.putfield 110, 3) := by decide +kernel
theorem dX9_land_44 : decode cX9_land 44 = .ok (.iconst 0, 1) := by decide +kernel
theorem dX9_land_45 : decode cX9_land 45 = .ok (.istore_n 1, 1) := by decide +kernel
theorem dX9_land_46 : decode cX9_land 46 = .ok (.iload_n 1, 1) := by decide +kernel
theorem dX9_land_47 : decode cX9_land 47 = .ok (.bipush 25, 2) := by decide +kernel
theorem dX9_land_49 : decode cX9_land 49 = .ok (.if_icmp .ge 32, 3) := by decide +kernel
theorem dX9_land_52 : decode cX9_land 52 = .ok (.aload_n 0, 1) := by decide +kernel
theorem dX9_land_53 : decode cX9_land 53 = .ok (.getfield 13, 3) := by decide +kernel
theorem dX9_land_56 : decode cX9_land 56 = .ok (.iload_n 1, 1) := by decide +kernel
theorem dX9_land_57 : decode cX9_land 57 = .ok (.iload_n 1, 1) := by decide +kernel
theorem dX9_land_58 : decode cX9_land 58 = .ok (.iconst 5, 1) := by decide +kernel
theorem dX9_land_59 : decode cX9_land 59 = .ok (.irem, 1) := by decide +kernel
theorem dX9_land_60 : decode cX9_land 60 = .ok (.iconst 3, 1) := by decide +kernel
theorem dX9_land_61 : decode cX9_land 61 = .ok (.if_icmp .ge 12, 3) := by decide +kernel
theorem dX9_land_64 : decode cX9_land 64 = .ok (.aload_n 0, 1) := by decide +kernel
theorem dX9_land_65 : decode cX9_land 65 = .ok (.getfield 7, 3) := by decide +kernel
theorem dX9_land_68 : decode cX9_land 68 = .ok (.iload_n 1, 1) := by decide +kernel
theorem dX9_land_69 : decode cX9_land 69 = .ok (.iaload, 1) := by decide +kernel
theorem dX9_land_70 : decode cX9_land 70 = .ok (.goto 4, 3) := by decide +kernel
theorem dX9_land_73 : decode cX9_land 73 = .ok (.iconst 0, 1) := by decide +kernel
theorem dX9_land_74 : decode cX9_land 74 = .ok (.iastore, 1) := by decide +kernel
theorem dX9_land_75 : decode cX9_land 75 = .ok (.iinc 1 1, 3) := by decide +kernel
theorem dX9_land_78 : decode cX9_land 78 = .ok (.goto (-32), 3) := by decide +kernel
theorem dX9_land_81 : decode cX9_land 81 = .ok (.aload_n 0, 1) := by decide +kernel
theorem dX9_land_82 : decode cX9_land 82 = .ok (.getfield 13, 3) := by decide +kernel
theorem dX9_land_85 : decode cX9_land 85 = .ok (.bipush 25, 2) := by decide +kernel
theorem dX9_land_87 : decode cX9_land 87 = .ok (.iconst 0, 1) := by decide +kernel
theorem dX9_land_88 : decode cX9_land 88 = .ok (.iastore, 1) := by decide +kernel
theorem dX9_land_89 : decode cX9_land 89 = .ok (.aload_n 0, 1) := by decide +kernel
theorem dX9_land_90 : decode cX9_land 90 = .ok (.iconst 0, 1) := by decide +kernel
theorem dX9_land_91 : decode cX9_land 91 = .ok (.putfield 113, 3) := by decide +kernel
theorem dX9_land_94 : decode cX9_land 94 = .ok (.aload_n 0, 1) := by decide +kernel
theorem dX9_land_95 : decode cX9_land 95 = .ok (.getfield 56, 3) := by decide +kernel
theorem dX9_land_98 : decode cX9_land 98 = .ok (.iconst 0, 1) := by decide +kernel
theorem dX9_land_99 : decode cX9_land 99 = .ok (.iconst 0, 1) := by decide +kernel
theorem dX9_land_100 : decode cX9_land 100 = .ok (.bastore, 1) := by decide +kernel
theorem dX9_land_101 : decode cX9_land 101 = .ok (.aload_n 0, 1) := by decide +kernel
theorem dX9_land_102 : decode cX9_land 102 = .ok (.getfield 56, 3) := by decide +kernel
theorem dX9_land_105 : decode cX9_land 105 = .ok (.iconst 1, 1) := by decide +kernel
theorem dX9_land_106 : decode cX9_land 106 = .ok (.iconst 0, 1) := by decide +kernel
theorem dX9_land_107 : decode cX9_land 107 = .ok (.bastore, 1) := by decide +kernel
theorem dX9_land_108 : decode cX9_land 108 = .ok (.aload_n 0, 1) := by decide +kernel
theorem dX9_land_109 : decode cX9_land 109 = .ok (.getfield 104, 3) := by decide +kernel
theorem dX9_land_112 : decode cX9_land 112 = .ok (.ireturn, 1) := by decide +kernel
set_option maxRecDepth 20000 in
theorem ggX9_isPerson_X9_in : GoodIn wsX9_isPerson wsX9_in := goodIn_r _ [5] (by decide +kernel) (by decide +kernel)
set_option maxRecDepth 20000 in
theorem gX9_isPerson_X9_in : GoodIn wsX9_isPerson (va_wsS RX9 69 yX9_in wsX9_in) := goodIn_app (goodIn_of _ (by decide +kernel)) ggX9_isPerson_X9_in
theorem dX9_isPerson_0 : decode cX9_isPerson 0 = .ok (.iload_n 1, 1) := by decide +kernel
theorem dX9_isPerson_1 : decode cX9_isPerson 1 = .ok (.i2l, 1) := by decide +kernel
theorem dX9_isPerson_2 : decode cX9_isPerson 2 = .ok (.lconst 0, 1) := by decide +kernel
theorem dX9_isPerson_3 : decode cX9_isPerson 3 = .ok (.aload_n 0, 1) := by decide +kernel
theorem dX9_isPerson_4 : decode cX9_isPerson 4 = .ok (.getfield 104, 3) := by decide +kernel
theorem dX9_isPerson_7 : decode cX9_isPerson 7 = .ok (.iconst 1, 1) := by decide +kernel
theorem dX9_isPerson_8 : decode cX9_isPerson 8 = .ok (.isub, 1) := by decide +kernel
theorem dX9_isPerson_9 : decode cX9_isPerson 9 = .ok (.i2l, 1) := by decide +kernel
theorem dX9_isPerson_10 : decode cX9_isPerson 10 = .ok (.invokestatic 69, 3) := by decide +kernel
theorem dX9_isPerson_13 : decode cX9_isPerson 13 = .ok (.ireturn, 1) := by decide +kernel
theorem dX9_noonOf_0 : decode cX9_noonOf 0 = .ok (.aload_n 0, 1) := by decide +kernel
theorem dX9_noonOf_1 : decode cX9_noonOf 1 = .ok (.getfield 13, 3) := by decide +kernel
theorem dX9_noonOf_4 : decode cX9_noonOf 4 = .ok (.iconst 5, 1) := by decide +kernel
theorem dX9_noonOf_5 : decode cX9_noonOf 5 = .ok (.iload_n 1, 1) := by decide +kernel
theorem dX9_noonOf_6 : decode cX9_noonOf 6 = .ok (.imul, 1) := by decide +kernel
theorem dX9_noonOf_7 : decode cX9_noonOf 7 = .ok (.iaload, 1) := by decide +kernel
theorem dX9_noonOf_8 : decode cX9_noonOf 8 = .ok (.bipush 8, 2) := by decide +kernel
theorem dX9_noonOf_10 : decode cX9_noonOf 10 = .ok (.aload_n 0, 1) := by decide +kernel
theorem dX9_noonOf_11 : decode cX9_noonOf 11 = .ok (.getfield 13, 3) := by decide +kernel
theorem dX9_noonOf_14 : decode cX9_noonOf 14 = .ok (.iconst 5, 1) := by decide +kernel
theorem dX9_noonOf_15 : decode cX9_noonOf 15 = .ok (.iload_n 1, 1) := by decide +kernel
theorem dX9_noonOf_16 : decode cX9_noonOf 16 = .ok (.imul, 1) := by decide +kernel
theorem dX9_noonOf_17 : decode cX9_noonOf 17 = .ok (.iconst 1, 1) := by decide +kernel
theorem dX9_noonOf_18 : decode cX9_noonOf 18 = .ok (.iadd, 1) := by decide +kernel
theorem dX9_noonOf_19 : decode cX9_noonOf 19 = .ok (.iaload, 1) := by decide +kernel
theorem dX9_noonOf_20 : decode cX9_noonOf 20 = .ok (.imul, 1) := by decide +kernel
theorem dX9_noonOf_21 : decode cX9_noonOf 21 = .ok (.iadd, 1) := by decide +kernel
theorem dX9_noonOf_22 : decode cX9_noonOf 22 = .ok (.bipush 10, 2) := by decide +kernel
theorem dX9_noonOf_24 : decode cX9_noonOf 24 = .ok (.aload_n 0, 1) := by decide +kernel
theorem dX9_noonOf_25 : decode cX9_noonOf 25 = .ok (.getfield 13, 3) := by decide +kernel
theorem dX9_noonOf_28 : decode cX9_noonOf 28 = .ok (.iconst 5, 1) := by decide +kernel
theorem dX9_noonOf_29 : decode cX9_noonOf 29 = .ok (.iload_n 1, 1) := by decide +kernel
theorem dX9_noonOf_30 : decode cX9_noonOf 30 = .ok (.imul, 1) := by decide +kernel
theorem dX9_noonOf_31 : decode cX9_noonOf 31 = .ok (.iconst 2, 1) := by decide +kernel
theorem dX9_noonOf_32 : decode cX9_noonOf 32 = .ok (.iadd, 1) := by decide +kernel
theorem dX9_noonOf_33 : decode cX9_noonOf 33 = .ok (.iaload, 1) := by decide +kernel
theorem dX9_noonOf_34 : decode cX9_noonOf 34 = .ok (.imul, 1) := by decide +kernel
theorem dX9_noonOf_35 : decode cX9_noonOf 35 = .ok (.iadd, 1) := by decide +kernel
theorem dX9_noonOf_36 : decode cX9_noonOf 36 = .ok (.ireturn, 1) := by decide +kernel
theorem dX9_isIll_0 : decode cX9_isIll 0 = .ok (.aload_n 0, 1) := by decide +kernel
theorem dX9_isIll_1 : decode cX9_isIll 1 = .ok (.getfield 13, 3) := by decide +kernel
theorem dX9_isIll_4 : decode cX9_isIll 4 = .ok (.iconst 5, 1) := by decide +kernel
theorem dX9_isIll_5 : decode cX9_isIll 5 = .ok (.iload_n 1, 1) := by decide +kernel
theorem dX9_isIll_6 : decode cX9_isIll 6 = .ok (.imul, 1) := by decide +kernel
theorem dX9_isIll_7 : decode cX9_isIll 7 = .ok (.iaload, 1) := by decide +kernel
theorem dX9_isIll_8 : decode cX9_isIll 8 = .ok (.bipush 40, 2) := by decide +kernel
theorem dX9_isIll_10 : decode cX9_isIll 10 = .ok (.aload_n 0, 1) := by decide +kernel
theorem dX9_isIll_11 : decode cX9_isIll 11 = .ok (.getfield 110, 3) := by decide +kernel
theorem dX9_isIll_14 : decode cX9_isIll 14 = .ok (.imul, 1) := by decide +kernel
theorem dX9_isIll_15 : decode cX9_isIll 15 = .ok (.if_icmp .ge 7, 3) := by decide +kernel
theorem dX9_isIll_18 : decode cX9_isIll 18 = .ok (.iconst 1, 1) := by decide +kernel
theorem dX9_isIll_19 : decode cX9_isIll 19 = .ok (.goto 4, 3) := by decide +kernel
theorem dX9_isIll_22 : decode cX9_isIll 22 = .ok (.iconst 0, 1) := by decide +kernel
theorem dX9_isIll_23 : decode cX9_isIll 23 = .ok (.ireturn, 1) := by decide +kernel
set_option maxRecDepth 20000 in
theorem ggX9_person_X9_isPerson : GoodIn wsX9_person wsX9_isPerson := goodIn_r _ [6, 7, 8, 9, 5, 10, 20, 21, 22, 23, 24, 25, 26, 27, 28, 29, 30, 31, 32, 33, 34, 35, 36, 37, 38, 39, 40, 41, 42, 43, 44, 45, 46, 47, 48, 49, 50, 51, 52, 53] (by decide +kernel) (by decide +kernel)
set_option maxRecDepth 20000 in
theorem gX9_person_X9_isPerson : GoodIn wsX9_person (wsV RX9 116 RX9 yX9_isPerson wsX9_isPerson) := goodIn_app (goodIn_of _ (by decide +kernel)) ggX9_person_X9_isPerson
set_option maxRecDepth 20000 in
theorem ggX9_person_X9_noonOf : GoodIn wsX9_person wsX9_noonOf := goodIn_r _ [14, 1, 20, 21, 22, 23, 24, 25, 26, 27, 28, 29, 30, 31, 32, 33, 34, 35, 36, 37, 38, 39, 40, 41, 42, 43, 44, 45, 46, 47, 48, 49, 50, 51, 52, 53] (by decide +kernel) (by decide +kernel)
set_option maxRecDepth 20000 in
theorem gX9_person_X9_noonOf : GoodIn wsX9_person (wsV RX9 120 RX9 yX9_noonOf wsX9_noonOf) := goodIn_app (goodIn_of _ (by decide +kernel)) ggX9_person_X9_noonOf
set_option maxRecDepth 20000 in
theorem ggX9_person_X9_isIll : GoodIn wsX9_person wsX9_isIll := goodIn_r _ [18, 1, 19, 20, 21, 22, 23, 24, 25, 26, 27, 28, 29, 30, 31, 32, 33, 34, 35, 36, 37, 38, 39, 40, 41, 42, 43, 44, 45, 46, 47, 48, 49, 50, 51, 52, 53] (by decide +kernel) (by decide +kernel)
set_option maxRecDepth 20000 in
theorem gX9_person_X9_isIll : GoodIn wsX9_person (wsV RX9 124 RX9 yX9_isIll wsX9_isIll) := goodIn_app (goodIn_of _ (by decide +kernel)) ggX9_person_X9_isIll
theorem dX9_person_0 : decode cX9_person 0 = .ok (.aload_n 0, 1) := by decide +kernel
theorem dX9_person_1 : decode cX9_person 1 = .ok (.iload_n 1, 1) := by decide +kernel
theorem dX9_person_2 : decode cX9_person 2 = .ok (.invokevirtual 116, 3) := by decide +kernel
theorem dX9_person_5 : decode cX9_person 5 = .ok (.ifCond .ne 5, 3) := by decide +kernel
theorem dX9_person_8 : decode cX9_person 8 = .ok (.iconst (-1), 1) := by decide +kernel
theorem dX9_person_9 : decode cX9_person 9 = .ok (.ireturn, 1) := by decide +kernel
theorem dX9_person_10 : decode cX9_person 10 = .ok (.iload_n 2, 1) := by decide +kernel
theorem dX9_person_11 : decode cX9_person 11 = .ok (.tableswitch 83 0 6 #[41, 41, 41, 41, 52, 58, 72], 41) := by decide +kernel
theorem dX9_person_52 : decode cX9_person 52 = .ok (.aload_n 0, 1) := by decide +kernel
theorem dX9_person_53 : decode cX9_person 53 = .ok (.getfield 13, 3) := by decide +kernel
theorem dX9_person_56 : decode cX9_person 56 = .ok (.iconst 5, 1) := by decide +kernel
theorem dX9_person_57 : decode cX9_person 57 = .ok (.iload_n 1, 1) := by decide +kernel
theorem dX9_person_58 : decode cX9_person 58 = .ok (.imul, 1) := by decide +kernel
theorem dX9_person_59 : decode cX9_person 59 = .ok (.iload_n 2, 1) := by decide +kernel
theorem dX9_person_60 : decode cX9_person 60 = .ok (.iadd, 1) := by decide +kernel
theorem dX9_person_61 : decode cX9_person 61 = .ok (.iaload, 1) := by decide +kernel
theorem dX9_person_62 : decode cX9_person 62 = .ok (.ireturn, 1) := by decide +kernel
theorem dX9_person_63 : decode cX9_person 63 = .ok (.aload_n 0, 1) := by decide +kernel
theorem dX9_person_64 : decode cX9_person 64 = .ok (.iload_n 1, 1) := by decide +kernel
theorem dX9_person_65 : decode cX9_person 65 = .ok (.invokevirtual 120, 3) := by decide +kernel
theorem dX9_person_68 : decode cX9_person 68 = .ok (.ireturn, 1) := by decide +kernel
theorem dX9_person_69 : decode cX9_person 69 = .ok (.aload_n 0, 1) := by decide +kernel
theorem dX9_person_70 : decode cX9_person 70 = .ok (.iload_n 1, 1) := by decide +kernel
theorem dX9_person_71 : decode cX9_person 71 = .ok (.invokevirtual 124, 3) := by decide +kernel
theorem dX9_person_74 : decode cX9_person 74 = .ok (.ifCond .eq 7, 3) := by decide +kernel
theorem dX9_person_77 : decode cX9_person 77 = .ok (.iconst 1, 1) := by decide +kernel
theorem dX9_person_78 : decode cX9_person 78 = .ok (.goto 4, 3) := by decide +kernel
theorem dX9_person_81 : decode cX9_person 81 = .ok (.iconst 0, 1) := by decide +kernel
theorem dX9_person_82 : decode cX9_person 82 = .ok (.ireturn, 1) := by decide +kernel
theorem dX9_person_83 : decode cX9_person 83 = .ok (.aload_n 0, 1) := by decide +kernel
theorem dX9_person_84 : decode cX9_person 84 = .ok (.getfield 13, 3) := by decide +kernel
theorem dX9_person_87 : decode cX9_person 87 = .ok (.iconst 5, 1) := by decide +kernel
theorem dX9_person_88 : decode cX9_person 88 = .ok (.iload_n 1, 1) := by decide +kernel
theorem dX9_person_89 : decode cX9_person 89 = .ok (.imul, 1) := by decide +kernel
theorem dX9_person_90 : decode cX9_person 90 = .ok (.iconst 4, 1) := by decide +kernel
theorem dX9_person_91 : decode cX9_person 91 = .ok (.iadd, 1) := by decide +kernel
theorem dX9_person_92 : decode cX9_person 92 = .ok (.iaload, 1) := by decide +kernel
theorem dX9_person_93 : decode cX9_person 93 = .ok (.ireturn, 1) := by decide +kernel
theorem dX9_person_94 : decode cX9_person 94 = .ok (.bipush (-2), 2) := by decide +kernel
theorem dX9_person_96 : decode cX9_person 96 = .ok (.ireturn, 1) := by decide +kernel
set_option maxRecDepth 20000 in
theorem ggX9_law_X9_in : GoodIn wsX9_law wsX9_in := goodIn_r _ [6] (by decide +kernel) (by decide +kernel)
set_option maxRecDepth 20000 in
theorem gX9_law_X9_in : GoodIn wsX9_law (va_wsS RX9 69 yX9_in wsX9_in) := goodIn_app (goodIn_of _ (by decide +kernel)) ggX9_law_X9_in
theorem dX9_law_0 : decode cX9_law 0 = .ok (.iload_n 1, 1) := by decide +kernel
theorem dX9_law_1 : decode cX9_law 1 = .ok (.i2l, 1) := by decide +kernel
theorem dX9_law_2 : decode cX9_law 2 = .ok (.lconst 0, 1) := by decide +kernel
theorem dX9_law_3 : decode cX9_law 3 = .ok (.ldc2_w 127, 3) := by decide +kernel
theorem dX9_law_6 : decode cX9_law 6 = .ok (.invokestatic 69, 3) := by decide +kernel
theorem dX9_law_9 : decode cX9_law 9 = .ok (.ifCond .ne 6, 3) := by decide +kernel
theorem dX9_law_12 : decode cX9_law 12 = .ok (.bipush (-2), 2) := by decide +kernel
theorem dX9_law_14 : decode cX9_law 14 = .ok (.ireturn, 1) := by decide +kernel
theorem dX9_law_15 : decode cX9_law 15 = .ok (.aload_n 0, 1) := by decide +kernel
theorem dX9_law_16 : decode cX9_law 16 = .ok (.getfield 63, 3) := by decide +kernel
theorem dX9_law_19 : decode cX9_law 19 = .ok (.istore_n 2, 1) := by decide +kernel
theorem dX9_law_20 : decode cX9_law 20 = .ok (.aload_n 0, 1) := by decide +kernel
theorem dX9_law_21 : decode cX9_law 21 = .ok (.iload_n 1, 1) := by decide +kernel
theorem dX9_law_22 : decode cX9_law 22 = .ok (.putfield 63, 3) := by decide +kernel
theorem dX9_law_25 : decode cX9_law 25 = .ok (.iload_n 2, 1) := by decide +kernel
theorem dX9_law_26 : decode cX9_law 26 = .ok (.ireturn, 1) := by decide +kernel
theorem dX9_keepAct_0 : decode cX9_keepAct 0 = .ok (.iconst 0, 1) := by decide +kernel
theorem dX9_keepAct_1 : decode cX9_keepAct 1 = .ok (.istore_n 1, 1) := by decide +kernel
theorem dX9_keepAct_2 : decode cX9_keepAct 2 = .ok (.iload_n 1, 1) := by decide +kernel
theorem dX9_keepAct_3 : decode cX9_keepAct 3 = .ok (.bipush 26, 2) := by decide +kernel
theorem dX9_keepAct_5 : decode cX9_keepAct 5 = .ok (.if_icmp .ge 29, 3) := by decide +kernel
theorem dX9_keepAct_8 : decode cX9_keepAct 8 = .ok (.aload_n 0, 1) := by decide +kernel
theorem dX9_keepAct_9 : decode cX9_keepAct 9 = .ok (.getfield 19, 3) := by decide +kernel
theorem dX9_keepAct_12 : decode cX9_keepAct 12 = .ok (.bipush 26, 2) := by decide +kernel
theorem dX9_keepAct_14 : decode cX9_keepAct 14 = .ok (.aload_n 0, 1) := by decide +kernel
theorem dX9_keepAct_15 : decode cX9_keepAct 15 = .ok (.getfield 129, 3) := by decide +kernel
theorem dX9_keepAct_18 : decode cX9_keepAct 18 = .ok (.imul, 1) := by decide +kernel
theorem dX9_keepAct_19 : decode cX9_keepAct 19 = .ok (.iload_n 1, 1) := by decide +kernel
theorem dX9_keepAct_20 : decode cX9_keepAct 20 = .ok (.iadd, 1) := by decide +kernel
theorem dX9_keepAct_21 : decode cX9_keepAct 21 = .ok (.aload_n 0, 1) := by decide +kernel
theorem dX9_keepAct_22 : decode cX9_keepAct 22 = .ok (.getfield 13, 3) := by decide +kernel
theorem dX9_keepAct_25 : decode cX9_keepAct 25 = .ok (.iload_n 1, 1) := by decide +kernel
theorem dX9_keepAct_26 : decode cX9_keepAct 26 = .ok (.iaload, 1) := by decide +kernel
theorem dX9_keepAct_27 : decode cX9_keepAct 27 = .ok (.iastore, 1) := by decide +kernel
theorem dX9_keepAct_28 : decode cX9_keepAct 28 = .ok (.iinc 1 1, 3) := by decide +kernel
theorem dX9_keepAct_31 : decode cX9_keepAct 31 = .ok (.goto (-29), 3) := by decide +kernel
theorem dX9_keepAct_34 : decode cX9_keepAct 34 = .ok (.aload_n 0, 1) := by decide +kernel
theorem dX9_keepAct_35 : decode cX9_keepAct 35 = .ok (.aload_n 0, 1) := by decide +kernel
theorem dX9_keepAct_36 : decode cX9_keepAct 36 = .ok (.getfield 129, 3) := by decide +kernel
theorem dX9_keepAct_39 : decode cX9_keepAct 39 = .ok (.iconst 1, 1) := by decide +kernel
theorem dX9_keepAct_40 : decode cX9_keepAct 40 = .ok (.iadd, 1) := by decide +kernel
theorem dX9_keepAct_41 : decode cX9_keepAct 41 = .ok (.bipush 16, 2) := by decide +kernel
theorem dX9_keepAct_43 : decode cX9_keepAct 43 = .ok (.irem, 1) := by decide +kernel
theorem dX9_keepAct_44 : decode cX9_keepAct 44 = .ok (.putfield 129, 3) := by decide +kernel
theorem dX9_keepAct_47 : decode cX9_keepAct 47 = .ok (.aload_n 0, 1) := by decide +kernel
theorem dX9_keepAct_48 : decode cX9_keepAct 48 = .ok (.aload_n 0, 1) := by decide +kernel
theorem dX9_keepAct_49 : decode cX9_keepAct 49 = .ok (.getfield 113, 3) := by decide +kernel
theorem dX9_keepAct_52 : decode cX9_keepAct 52 = .ok (.bipush 16, 2) := by decide +kernel
theorem dX9_keepAct_54 : decode cX9_keepAct 54 = .ok (.if_icmp .ge 12, 3) := by decide +kernel
theorem dX9_keepAct_57 : decode cX9_keepAct 57 = .ok (.aload_n 0, 1) := by decide +kernel
theorem dX9_keepAct_58 : decode cX9_keepAct 58 = .ok (.getfield 113, 3) := by decide +kernel
theorem dX9_keepAct_61 : decode cX9_keepAct 61 = .ok (.iconst 1, 1) := by decide +kernel
theorem dX9_keepAct_62 : decode cX9_keepAct 62 = .ok (.iadd, 1) := by decide +kernel
theorem dX9_keepAct_63 : decode cX9_keepAct 63 = .ok (.goto 5, 3) := by decide +kernel
theorem dX9_keepAct_66 : decode cX9_keepAct 66 = .ok (.bipush 16, 2) := by decide +kernel
theorem dX9_keepAct_68 : decode cX9_keepAct 68 = .ok (.putfield 113, 3) := by decide +kernel
theorem dX9_keepAct_71 : decode cX9_keepAct 71 = .ok (.return_, 1) := by decide +kernel
set_option maxRecDepth 20000 in
theorem ggX9_eat_X9_isPerson : GoodIn wsX9_eat wsX9_isPerson := goodIn_r _ [7, 8, 9, 10, 6, 11, 19, 20, 21, 22, 23, 24, 25, 26, 27, 28, 29, 30, 31, 32, 33, 34, 35, 36, 37, 38, 39, 40, 41, 42, 43, 44, 45, 46, 47, 48, 49, 50, 51, 52] (by decide +kernel) (by decide +kernel)
set_option maxRecDepth 20000 in
theorem gX9_eat_X9_isPerson : GoodIn wsX9_eat (wsV RX9 116 RX9 yX9_isPerson wsX9_isPerson) := goodIn_app (goodIn_of _ (by decide +kernel)) ggX9_eat_X9_isPerson
set_option maxRecDepth 20000 in
theorem ggX9_eat_X9_in : GoodIn wsX9_eat wsX9_in := goodIn_r _ [11] (by decide +kernel) (by decide +kernel)
set_option maxRecDepth 20000 in
theorem gX9_eat_X9_in : GoodIn wsX9_eat (va_wsS RX9 69 yX9_in wsX9_in) := goodIn_app (goodIn_of _ (by decide +kernel)) ggX9_eat_X9_in
set_option maxRecDepth 20000 in
theorem ggX9_eat_X9_keepAct : GoodIn wsX9_eat wsX9_keepAct := goodIn_r _ [15, 16, 17, 2, 18, 19, 20, 21, 22, 23, 24, 25, 26, 27, 28, 29, 30, 31, 32, 33, 34, 35, 36, 37, 38, 39, 40, 41, 42, 43, 44, 45, 46, 47, 48, 49, 50, 51, 52] (by decide +kernel) (by decide +kernel)
set_option maxRecDepth 20000 in
theorem gX9_eat_X9_keepAct : GoodIn wsX9_eat (wsV RX9 134 RX9 yX9_keepAct wsX9_keepAct) := goodIn_app (goodIn_of _ (by decide +kernel)) ggX9_eat_X9_keepAct
theorem dX9_eat_0 : decode cX9_eat 0 = .ok (.aload_n 0, 1) := by decide +kernel
theorem dX9_eat_1 : decode cX9_eat 1 = .ok (.iload_n 1, 1) := by decide +kernel
theorem dX9_eat_2 : decode cX9_eat 2 = .ok (.invokevirtual 116, 3) := by decide +kernel
theorem dX9_eat_5 : decode cX9_eat 5 = .ok (.ifCond .ne 5, 3) := by decide +kernel
theorem dX9_eat_8 : decode cX9_eat 8 = .ok (.iconst (-1), 1) := by decide +kernel
theorem dX9_eat_9 : decode cX9_eat 9 = .ok (.ireturn, 1) := by decide +kernel
theorem dX9_eat_10 : decode cX9_eat 10 = .ok (.iload_n 2, 1) := by decide +kernel
theorem dX9_eat_11 : decode cX9_eat 11 = .ok (.i2l, 1) := by decide +kernel
theorem dX9_eat_12 : decode cX9_eat 12 = .ok (.lconst 1, 1) := by decide +kernel
theorem dX9_eat_13 : decode cX9_eat 13 = .ok (.ldc2_w 132, 3) := by decide +kernel
theorem dX9_eat_16 : decode cX9_eat 16 = .ok (.invokestatic 69, 3) := by decide +kernel
theorem dX9_eat_19 : decode cX9_eat 19 = .ok (.ifCond .ne 6, 3) := by decide +kernel
theorem dX9_eat_22 : decode cX9_eat 22 = .ok (.bipush (-2), 2) := by decide +kernel
theorem dX9_eat_24 : decode cX9_eat 24 = .ok (.ireturn, 1) := by decide +kernel
theorem dX9_eat_25 : decode cX9_eat 25 = .ok (.aload_n 0, 1) := by decide +kernel
theorem dX9_eat_26 : decode cX9_eat 26 = .ok (.getfield 13, 3) := by decide +kernel
theorem dX9_eat_29 : decode cX9_eat 29 = .ok (.iconst 5, 1) := by decide +kernel
theorem dX9_eat_30 : decode cX9_eat 30 = .ok (.iload_n 1, 1) := by decide +kernel
theorem dX9_eat_31 : decode cX9_eat 31 = .ok (.imul, 1) := by decide +kernel
theorem dX9_eat_32 : decode cX9_eat 32 = .ok (.iconst 1, 1) := by decide +kernel
theorem dX9_eat_33 : decode cX9_eat 33 = .ok (.iadd, 1) := by decide +kernel
theorem dX9_eat_34 : decode cX9_eat 34 = .ok (.iaload, 1) := by decide +kernel
theorem dX9_eat_35 : decode cX9_eat 35 = .ok (.iload_n 2, 1) := by decide +kernel
theorem dX9_eat_36 : decode cX9_eat 36 = .ok (.if_icmp .ge 6, 3) := by decide +kernel
theorem dX9_eat_39 : decode cX9_eat 39 = .ok (.bipush (-3), 2) := by decide +kernel
theorem dX9_eat_41 : decode cX9_eat 41 = .ok (.ireturn, 1) := by decide +kernel
theorem dX9_eat_42 : decode cX9_eat 42 = .ok (.aload_n 0, 1) := by decide +kernel
theorem dX9_eat_43 : decode cX9_eat 43 = .ok (.invokevirtual 134, 3) := by decide +kernel
theorem dX9_eat_46 : decode cX9_eat 46 = .ok (.aload_n 0, 1) := by decide +kernel
theorem dX9_eat_47 : decode cX9_eat 47 = .ok (.getfield 13, 3) := by decide +kernel
theorem dX9_eat_50 : decode cX9_eat 50 = .ok (.iconst 5, 1) := by decide +kernel
theorem dX9_eat_51 : decode cX9_eat 51 = .ok (.iload_n 1, 1) := by decide +kernel
theorem dX9_eat_52 : decode cX9_eat 52 = .ok (.imul, 1) := by decide +kernel
theorem dX9_eat_53 : decode cX9_eat 53 = .ok (.dup2, 1) := by decide +kernel
theorem dX9_eat_54 : decode cX9_eat 54 = .ok (.iaload, 1) := by decide +kernel
theorem dX9_eat_55 : decode cX9_eat 55 = .ok (.bipush 8, 2) := by decide +kernel
theorem dX9_eat_57 : decode cX9_eat 57 = .ok (.iload_n 2, 1) := by decide +kernel
theorem dX9_eat_58 : decode cX9_eat 58 = .ok (.imul, 1) := by decide +kernel
theorem dX9_eat_59 : decode cX9_eat 59 = .ok (.iadd, 1) := by decide +kernel
theorem dX9_eat_60 : decode cX9_eat 60 = .ok (.iastore, 1) := by decide +kernel
theorem dX9_eat_61 : decode cX9_eat 61 = .ok (.aload_n 0, 1) := by decide +kernel
theorem dX9_eat_62 : decode cX9_eat 62 = .ok (.getfield 13, 3) := by decide +kernel
theorem dX9_eat_65 : decode cX9_eat 65 = .ok (.iconst 5, 1) := by decide +kernel
theorem dX9_eat_66 : decode cX9_eat 66 = .ok (.iload_n 1, 1) := by decide +kernel
theorem dX9_eat_67 : decode cX9_eat 67 = .ok (.imul, 1) := by decide +kernel
theorem dX9_eat_68 : decode cX9_eat 68 = .ok (.iconst 1, 1) := by decide +kernel
theorem dX9_eat_69 : decode cX9_eat 69 = .ok (.iadd, 1) := by decide +kernel
theorem dX9_eat_70 : decode cX9_eat 70 = .ok (.dup2, 1) := by decide +kernel
theorem dX9_eat_71 : decode cX9_eat 71 = .ok (.iaload, 1) := by decide +kernel
theorem dX9_eat_72 : decode cX9_eat 72 = .ok (.iload_n 2, 1) := by decide +kernel
theorem dX9_eat_73 : decode cX9_eat 73 = .ok (.isub, 1) := by decide +kernel
theorem dX9_eat_74 : decode cX9_eat 74 = .ok (.iastore, 1) := by decide +kernel
theorem dX9_eat_75 : decode cX9_eat 75 = .ok (.aload_n 0, 1) := by decide +kernel
theorem dX9_eat_76 : decode cX9_eat 76 = .ok (.getfield 13, 3) := by decide +kernel
theorem dX9_eat_79 : decode cX9_eat 79 = .ok (.iconst 5, 1) := by decide +kernel
theorem dX9_eat_80 : decode cX9_eat 80 = .ok (.iload_n 1, 1) := by decide +kernel
theorem dX9_eat_81 : decode cX9_eat 81 = .ok (.imul, 1) := by decide +kernel
theorem dX9_eat_82 : decode cX9_eat 82 = .ok (.iaload, 1) := by decide +kernel
theorem dX9_eat_83 : decode cX9_eat 83 = .ok (.ireturn, 1) := by decide +kernel
theorem dX9_left_0 : decode cX9_left 0 = .ok (.iload_n 0, 1) := by decide +kernel
theorem dX9_left_1 : decode cX9_left 1 = .ok (.iconst 1, 1) := by decide +kernel
theorem dX9_left_2 : decode cX9_left 2 = .ok (.if_icmp .ge 7, 3) := by decide +kernel
theorem dX9_left_5 : decode cX9_left 5 = .ok (.iconst 1, 1) := by decide +kernel
theorem dX9_left_6 : decode cX9_left 6 = .ok (.goto 4, 3) := by decide +kernel
theorem dX9_left_9 : decode cX9_left 9 = .ok (.iload_n 0, 1) := by decide +kernel
theorem dX9_left_10 : decode cX9_left 10 = .ok (.ireturn, 1) := by decide +kernel
set_option maxRecDepth 20000 in
theorem ggX9_toil_X9_isPerson : GoodIn wsX9_toil wsX9_isPerson := goodIn_r _ [7, 8, 9, 10, 6, 11, 22, 23, 24, 25, 26, 27, 28, 29, 30, 31, 32, 33, 34, 35, 36, 37, 38, 39, 40, 41, 42, 43, 44, 45, 46, 47, 48, 49, 50, 51, 52, 53, 54, 55] (by decide +kernel) (by decide +kernel)
set_option maxRecDepth 20000 in
theorem gX9_toil_X9_isPerson : GoodIn wsX9_toil (wsV RX9 116 RX9 yX9_isPerson wsX9_isPerson) := goodIn_app (goodIn_of _ (by decide +kernel)) ggX9_toil_X9_isPerson
set_option maxRecDepth 20000 in
theorem ggX9_toil_X9_in : GoodIn wsX9_toil wsX9_in := goodIn_r _ [11] (by decide +kernel) (by decide +kernel)
set_option maxRecDepth 20000 in
theorem gX9_toil_X9_in : GoodIn wsX9_toil (va_wsS RX9 69 yX9_in wsX9_in) := goodIn_app (goodIn_of _ (by decide +kernel)) ggX9_toil_X9_in
set_option maxRecDepth 20000 in
theorem ggX9_toil_X9_keepAct : GoodIn wsX9_toil wsX9_keepAct := goodIn_r _ [15, 16, 17, 2, 18, 22, 23, 24, 25, 26, 27, 28, 29, 30, 31, 32, 33, 34, 35, 36, 37, 38, 39, 40, 41, 42, 43, 44, 45, 46, 47, 48, 49, 50, 51, 52, 53, 54, 55] (by decide +kernel) (by decide +kernel)
set_option maxRecDepth 20000 in
theorem gX9_toil_X9_keepAct : GoodIn wsX9_toil (wsV RX9 134 RX9 yX9_keepAct wsX9_keepAct) := goodIn_app (goodIn_of _ (by decide +kernel)) ggX9_toil_X9_keepAct
set_option maxRecDepth 20000 in
theorem ggX9_toil_X9_left : GoodIn wsX9_toil wsX9_left := goodIn_r _ [21] (by decide +kernel) (by decide +kernel)
set_option maxRecDepth 20000 in
theorem gX9_toil_X9_left : GoodIn wsX9_toil (va_wsS RX9 137 yX9_left wsX9_left) := goodIn_app (goodIn_of _ (by decide +kernel)) ggX9_toil_X9_left
theorem dX9_toil_0 : decode cX9_toil 0 = .ok (.aload_n 0, 1) := by decide +kernel
theorem dX9_toil_1 : decode cX9_toil 1 = .ok (.iload_n 1, 1) := by decide +kernel
theorem dX9_toil_2 : decode cX9_toil 2 = .ok (.invokevirtual 116, 3) := by decide +kernel
theorem dX9_toil_5 : decode cX9_toil 5 = .ok (.ifCond .ne 5, 3) := by decide +kernel
theorem dX9_toil_8 : decode cX9_toil 8 = .ok (.iconst (-1), 1) := by decide +kernel
theorem dX9_toil_9 : decode cX9_toil 9 = .ok (.ireturn, 1) := by decide +kernel
theorem dX9_toil_10 : decode cX9_toil 10 = .ok (.iload_n 2, 1) := by decide +kernel
theorem dX9_toil_11 : decode cX9_toil 11 = .ok (.i2l, 1) := by decide +kernel
theorem dX9_toil_12 : decode cX9_toil 12 = .ok (.lconst 1, 1) := by decide +kernel
theorem dX9_toil_13 : decode cX9_toil 13 = .ok (.ldc2_w 132, 3) := by decide +kernel
theorem dX9_toil_16 : decode cX9_toil 16 = .ok (.invokestatic 69, 3) := by decide +kernel
theorem dX9_toil_19 : decode cX9_toil 19 = .ok (.ifCond .ne 6, 3) := by decide +kernel
theorem dX9_toil_22 : decode cX9_toil 22 = .ok (.bipush (-2), 2) := by decide +kernel
theorem dX9_toil_24 : decode cX9_toil 24 = .ok (.ireturn, 1) := by decide +kernel
theorem dX9_toil_25 : decode cX9_toil 25 = .ok (.aload_n 0, 1) := by decide +kernel
theorem dX9_toil_26 : decode cX9_toil 26 = .ok (.invokevirtual 134, 3) := by decide +kernel
theorem dX9_toil_29 : decode cX9_toil 29 = .ok (.aload_n 0, 1) := by decide +kernel
theorem dX9_toil_30 : decode cX9_toil 30 = .ok (.getfield 13, 3) := by decide +kernel
theorem dX9_toil_33 : decode cX9_toil 33 = .ok (.iconst 5, 1) := by decide +kernel
theorem dX9_toil_34 : decode cX9_toil 34 = .ok (.iload_n 1, 1) := by decide +kernel
theorem dX9_toil_35 : decode cX9_toil 35 = .ok (.imul, 1) := by decide +kernel
theorem dX9_toil_36 : decode cX9_toil 36 = .ok (.aload_n 0, 1) := by decide +kernel
theorem dX9_toil_37 : decode cX9_toil 37 = .ok (.getfield 13, 3) := by decide +kernel
theorem dX9_toil_40 : decode cX9_toil 40 = .ok (.iconst 5, 1) := by decide +kernel
theorem dX9_toil_41 : decode cX9_toil 41 = .ok (.iload_n 1, 1) := by decide +kernel
theorem dX9_toil_42 : decode cX9_toil 42 = .ok (.imul, 1) := by decide +kernel
theorem dX9_toil_43 : decode cX9_toil 43 = .ok (.iaload, 1) := by decide +kernel
theorem dX9_toil_44 : decode cX9_toil 44 = .ok (.iconst 5, 1) := by decide +kernel
theorem dX9_toil_45 : decode cX9_toil 45 = .ok (.iload_n 2, 1) := by decide +kernel
theorem dX9_toil_46 : decode cX9_toil 46 = .ok (.imul, 1) := by decide +kernel
theorem dX9_toil_47 : decode cX9_toil 47 = .ok (.isub, 1) := by decide +kernel
theorem dX9_toil_48 : decode cX9_toil 48 = .ok (.invokestatic 137, 3) := by decide +kernel
theorem dX9_toil_51 : decode cX9_toil 51 = .ok (.iastore, 1) := by decide +kernel
theorem dX9_toil_52 : decode cX9_toil 52 = .ok (.aload_n 0, 1) := by decide +kernel
theorem dX9_toil_53 : decode cX9_toil 53 = .ok (.getfield 13, 3) := by decide +kernel
theorem dX9_toil_56 : decode cX9_toil 56 = .ok (.iconst 5, 1) := by decide +kernel
theorem dX9_toil_57 : decode cX9_toil 57 = .ok (.iload_n 1, 1) := by decide +kernel
theorem dX9_toil_58 : decode cX9_toil 58 = .ok (.imul, 1) := by decide +kernel
theorem dX9_toil_59 : decode cX9_toil 59 = .ok (.iaload, 1) := by decide +kernel
theorem dX9_toil_60 : decode cX9_toil 60 = .ok (.ireturn, 1) := by decide +kernel
set_option maxRecDepth 20000 in
theorem ggX9_drink_X9_isPerson : GoodIn wsX9_drink wsX9_isPerson := goodIn_r _ [7, 8, 9, 10, 6, 11, 19, 20, 21, 22, 23, 24, 25, 26, 27, 28, 29, 30, 31, 32, 33, 34, 35, 36, 37, 38, 39, 40, 41, 42, 43, 44, 45, 46, 47, 48, 49, 50, 51, 52] (by decide +kernel) (by decide +kernel)
set_option maxRecDepth 20000 in
theorem gX9_drink_X9_isPerson : GoodIn wsX9_drink (wsV RX9 116 RX9 yX9_isPerson wsX9_isPerson) := goodIn_app (goodIn_of _ (by decide +kernel)) ggX9_drink_X9_isPerson
set_option maxRecDepth 20000 in
theorem ggX9_drink_X9_in : GoodIn wsX9_drink wsX9_in := goodIn_r _ [11] (by decide +kernel) (by decide +kernel)
set_option maxRecDepth 20000 in
theorem gX9_drink_X9_in : GoodIn wsX9_drink (va_wsS RX9 69 yX9_in wsX9_in) := goodIn_app (goodIn_of _ (by decide +kernel)) ggX9_drink_X9_in
set_option maxRecDepth 20000 in
theorem ggX9_drink_X9_keepAct : GoodIn wsX9_drink wsX9_keepAct := goodIn_r _ [15, 16, 17, 2, 18, 19, 20, 21, 22, 23, 24, 25, 26, 27, 28, 29, 30, 31, 32, 33, 34, 35, 36, 37, 38, 39, 40, 41, 42, 43, 44, 45, 46, 47, 48, 49, 50, 51, 52] (by decide +kernel) (by decide +kernel)
set_option maxRecDepth 20000 in
theorem gX9_drink_X9_keepAct : GoodIn wsX9_drink (wsV RX9 134 RX9 yX9_keepAct wsX9_keepAct) := goodIn_app (goodIn_of _ (by decide +kernel)) ggX9_drink_X9_keepAct
theorem dX9_drink_0 : decode cX9_drink 0 = .ok (.aload_n 0, 1) := by decide +kernel
theorem dX9_drink_1 : decode cX9_drink 1 = .ok (.iload_n 1, 1) := by decide +kernel
theorem dX9_drink_2 : decode cX9_drink 2 = .ok (.invokevirtual 116, 3) := by decide +kernel
theorem dX9_drink_5 : decode cX9_drink 5 = .ok (.ifCond .ne 5, 3) := by decide +kernel
theorem dX9_drink_8 : decode cX9_drink 8 = .ok (.iconst (-1), 1) := by decide +kernel
theorem dX9_drink_9 : decode cX9_drink 9 = .ok (.ireturn, 1) := by decide +kernel
theorem dX9_drink_10 : decode cX9_drink 10 = .ok (.iload_n 2, 1) := by decide +kernel
theorem dX9_drink_11 : decode cX9_drink 11 = .ok (.i2l, 1) := by decide +kernel
theorem dX9_drink_12 : decode cX9_drink 12 = .ok (.lconst 1, 1) := by decide +kernel
theorem dX9_drink_13 : decode cX9_drink 13 = .ok (.ldc2_w 132, 3) := by decide +kernel
theorem dX9_drink_16 : decode cX9_drink 16 = .ok (.invokestatic 69, 3) := by decide +kernel
theorem dX9_drink_19 : decode cX9_drink 19 = .ok (.ifCond .ne 6, 3) := by decide +kernel
theorem dX9_drink_22 : decode cX9_drink 22 = .ok (.bipush (-2), 2) := by decide +kernel
theorem dX9_drink_24 : decode cX9_drink 24 = .ok (.ireturn, 1) := by decide +kernel
theorem dX9_drink_25 : decode cX9_drink 25 = .ok (.aload_n 0, 1) := by decide +kernel
theorem dX9_drink_26 : decode cX9_drink 26 = .ok (.getfield 13, 3) := by decide +kernel
theorem dX9_drink_29 : decode cX9_drink 29 = .ok (.iconst 5, 1) := by decide +kernel
theorem dX9_drink_30 : decode cX9_drink 30 = .ok (.iload_n 1, 1) := by decide +kernel
theorem dX9_drink_31 : decode cX9_drink 31 = .ok (.imul, 1) := by decide +kernel
theorem dX9_drink_32 : decode cX9_drink 32 = .ok (.iconst 3, 1) := by decide +kernel
theorem dX9_drink_33 : decode cX9_drink 33 = .ok (.iadd, 1) := by decide +kernel
theorem dX9_drink_34 : decode cX9_drink 34 = .ok (.iaload, 1) := by decide +kernel
theorem dX9_drink_35 : decode cX9_drink 35 = .ok (.iconst 3, 1) := by decide +kernel
theorem dX9_drink_36 : decode cX9_drink 36 = .ok (.iload_n 2, 1) := by decide +kernel
theorem dX9_drink_37 : decode cX9_drink 37 = .ok (.imul, 1) := by decide +kernel
theorem dX9_drink_38 : decode cX9_drink 38 = .ok (.iadd, 1) := by decide +kernel
theorem dX9_drink_39 : decode cX9_drink 39 = .ok (.bipush 90, 2) := by decide +kernel
theorem dX9_drink_41 : decode cX9_drink 41 = .ok (.if_icmp .le 6, 3) := by decide +kernel
theorem dX9_drink_44 : decode cX9_drink 44 = .ok (.bipush (-3), 2) := by decide +kernel
theorem dX9_drink_46 : decode cX9_drink 46 = .ok (.ireturn, 1) := by decide +kernel
theorem dX9_drink_47 : decode cX9_drink 47 = .ok (.aload_n 0, 1) := by decide +kernel
theorem dX9_drink_48 : decode cX9_drink 48 = .ok (.invokevirtual 134, 3) := by decide +kernel
theorem dX9_drink_51 : decode cX9_drink 51 = .ok (.aload_n 0, 1) := by decide +kernel
theorem dX9_drink_52 : decode cX9_drink 52 = .ok (.getfield 13, 3) := by decide +kernel
theorem dX9_drink_55 : decode cX9_drink 55 = .ok (.iconst 5, 1) := by decide +kernel
theorem dX9_drink_56 : decode cX9_drink 56 = .ok (.iload_n 1, 1) := by decide +kernel
theorem dX9_drink_57 : decode cX9_drink 57 = .ok (.imul, 1) := by decide +kernel
theorem dX9_drink_58 : decode cX9_drink 58 = .ok (.dup2, 1) := by decide +kernel
theorem dX9_drink_59 : decode cX9_drink 59 = .ok (.iaload, 1) := by decide +kernel
theorem dX9_drink_60 : decode cX9_drink 60 = .ok (.iconst 3, 1) := by decide +kernel
theorem dX9_drink_61 : decode cX9_drink 61 = .ok (.iload_n 2, 1) := by decide +kernel
theorem dX9_drink_62 : decode cX9_drink 62 = .ok (.imul, 1) := by decide +kernel
theorem dX9_drink_63 : decode cX9_drink 63 = .ok (.iadd, 1) := by decide +kernel
theorem dX9_drink_64 : decode cX9_drink 64 = .ok (.iastore, 1) := by decide +kernel
theorem dX9_drink_65 : decode cX9_drink 65 = .ok (.aload_n 0, 1) := by decide +kernel
theorem dX9_drink_66 : decode cX9_drink 66 = .ok (.getfield 13, 3) := by decide +kernel
theorem dX9_drink_69 : decode cX9_drink 69 = .ok (.iconst 5, 1) := by decide +kernel
theorem dX9_drink_70 : decode cX9_drink 70 = .ok (.iload_n 1, 1) := by decide +kernel
theorem dX9_drink_71 : decode cX9_drink 71 = .ok (.imul, 1) := by decide +kernel
theorem dX9_drink_72 : decode cX9_drink 72 = .ok (.iconst 3, 1) := by decide +kernel
theorem dX9_drink_73 : decode cX9_drink 73 = .ok (.iadd, 1) := by decide +kernel
theorem dX9_drink_74 : decode cX9_drink 74 = .ok (.dup2, 1) := by decide +kernel
theorem dX9_drink_75 : decode cX9_drink 75 = .ok (.iaload, 1) := by decide +kernel
theorem dX9_drink_76 : decode cX9_drink 76 = .ok (.iconst 3, 1) := by decide +kernel
theorem dX9_drink_77 : decode cX9_drink 77 = .ok (.iload_n 2, 1) := by decide +kernel
theorem dX9_drink_78 : decode cX9_drink 78 = .ok (.imul, 1) := by decide +kernel
theorem dX9_drink_79 : decode cX9_drink 79 = .ok (.iadd, 1) := by decide +kernel
theorem dX9_drink_80 : decode cX9_drink 80 = .ok (.iastore, 1) := by decide +kernel
theorem dX9_drink_81 : decode cX9_drink 81 = .ok (.aload_n 0, 1) := by decide +kernel
theorem dX9_drink_82 : decode cX9_drink 82 = .ok (.getfield 13, 3) := by decide +kernel
theorem dX9_drink_85 : decode cX9_drink 85 = .ok (.iconst 5, 1) := by decide +kernel
theorem dX9_drink_86 : decode cX9_drink 86 = .ok (.iload_n 1, 1) := by decide +kernel
theorem dX9_drink_87 : decode cX9_drink 87 = .ok (.imul, 1) := by decide +kernel
theorem dX9_drink_88 : decode cX9_drink 88 = .ok (.iaload, 1) := by decide +kernel
theorem dX9_drink_89 : decode cX9_drink 89 = .ok (.ireturn, 1) := by decide +kernel
set_option maxRecDepth 20000 in
theorem ggX9_hand_X9_isPerson : GoodIn wsX9_hand wsX9_isPerson := goodIn_r _ [6, 7, 8, 9, 5, 10, 18, 19, 20, 21, 22, 23, 24, 25, 26, 27, 28, 29, 30, 31, 32, 33, 34, 35, 36, 37, 38, 39, 40, 41, 42, 43, 44, 45, 46, 47, 48, 49, 50, 51] (by decide +kernel) (by decide +kernel)
set_option maxRecDepth 20000 in
theorem gX9_hand_X9_isPerson : GoodIn wsX9_hand (wsV RX9 116 RX9 yX9_isPerson wsX9_isPerson) := goodIn_app (goodIn_of _ (by decide +kernel)) ggX9_hand_X9_isPerson
set_option maxRecDepth 20000 in
theorem ggX9_hand_X9_keepAct : GoodIn wsX9_hand wsX9_keepAct := goodIn_r _ [14, 15, 16, 1, 17, 18, 19, 20, 21, 22, 23, 24, 25, 26, 27, 28, 29, 30, 31, 32, 33, 34, 35, 36, 37, 38, 39, 40, 41, 42, 43, 44, 45, 46, 47, 48, 49, 50, 51] (by decide +kernel) (by decide +kernel)
set_option maxRecDepth 20000 in
theorem gX9_hand_X9_keepAct : GoodIn wsX9_hand (wsV RX9 134 RX9 yX9_keepAct wsX9_keepAct) := goodIn_app (goodIn_of _ (by decide +kernel)) ggX9_hand_X9_keepAct
theorem dX9_hand_0 : decode cX9_hand 0 = .ok (.aload_n 0, 1) := by decide +kernel
theorem dX9_hand_1 : decode cX9_hand 1 = .ok (.iload_n 1, 1) := by decide +kernel
theorem dX9_hand_2 : decode cX9_hand 2 = .ok (.invokevirtual 116, 3) := by decide +kernel
theorem dX9_hand_5 : decode cX9_hand 5 = .ok (.ifCond .eq 11, 3) := by decide +kernel
theorem dX9_hand_8 : decode cX9_hand 8 = .ok (.aload_n 0, 1) := by decide +kernel
theorem dX9_hand_9 : decode cX9_hand 9 = .ok (.iload_n 2, 1) := by decide +kernel
theorem dX9_hand_10 : decode cX9_hand 10 = .ok (.invokevirtual 116, 3) := by decide +kernel
theorem dX9_hand_13 : decode cX9_hand 13 = .ok (.ifCond .ne 5, 3) := by decide +kernel
theorem dX9_hand_16 : decode cX9_hand 16 = .ok (.iconst (-1), 1) := by decide +kernel
theorem dX9_hand_17 : decode cX9_hand 17 = .ok (.ireturn, 1) := by decide +kernel
theorem dX9_hand_18 : decode cX9_hand 18 = .ok (.iload_n 3, 1) := by decide +kernel
theorem dX9_hand_19 : decode cX9_hand 19 = .ok (.ifCond .eq 7, 3) := by decide +kernel
theorem dX9_hand_22 : decode cX9_hand 22 = .ok (.iconst 2, 1) := by decide +kernel
theorem dX9_hand_23 : decode cX9_hand 23 = .ok (.goto 4, 3) := by decide +kernel
theorem dX9_hand_26 : decode cX9_hand 26 = .ok (.iconst 1, 1) := by decide +kernel
theorem dX9_hand_27 : decode cX9_hand 27 = .ok (.istore 4, 2) := by decide +kernel
theorem dX9_hand_29 : decode cX9_hand 29 = .ok (.iload_n 1, 1) := by decide +kernel
theorem dX9_hand_30 : decode cX9_hand 30 = .ok (.iload_n 2, 1) := by decide +kernel
theorem dX9_hand_31 : decode cX9_hand 31 = .ok (.if_icmp .eq 17, 3) := by decide +kernel
theorem dX9_hand_34 : decode cX9_hand 34 = .ok (.aload_n 0, 1) := by decide +kernel
theorem dX9_hand_35 : decode cX9_hand 35 = .ok (.getfield 13, 3) := by decide +kernel
theorem dX9_hand_38 : decode cX9_hand 38 = .ok (.iconst 5, 1) := by decide +kernel
theorem dX9_hand_39 : decode cX9_hand 39 = .ok (.iload_n 1, 1) := by decide +kernel
theorem dX9_hand_40 : decode cX9_hand 40 = .ok (.imul, 1) := by decide +kernel
theorem dX9_hand_41 : decode cX9_hand 41 = .ok (.iload 4, 2) := by decide +kernel
theorem dX9_hand_43 : decode cX9_hand 43 = .ok (.iadd, 1) := by decide +kernel
theorem dX9_hand_44 : decode cX9_hand 44 = .ok (.iaload, 1) := by decide +kernel
theorem dX9_hand_45 : decode cX9_hand 45 = .ok (.ifCond .ne 6, 3) := by decide +kernel
theorem dX9_hand_48 : decode cX9_hand 48 = .ok (.bipush (-3), 2) := by decide +kernel
theorem dX9_hand_50 : decode cX9_hand 50 = .ok (.ireturn, 1) := by decide +kernel
theorem dX9_hand_51 : decode cX9_hand 51 = .ok (.aload_n 0, 1) := by decide +kernel
theorem dX9_hand_52 : decode cX9_hand 52 = .ok (.getfield 13, 3) := by decide +kernel
theorem dX9_hand_55 : decode cX9_hand 55 = .ok (.iconst 5, 1) := by decide +kernel
theorem dX9_hand_56 : decode cX9_hand 56 = .ok (.iload_n 2, 1) := by decide +kernel
theorem dX9_hand_57 : decode cX9_hand 57 = .ok (.imul, 1) := by decide +kernel
theorem dX9_hand_58 : decode cX9_hand 58 = .ok (.iload 4, 2) := by decide +kernel
theorem dX9_hand_60 : decode cX9_hand 60 = .ok (.iadd, 1) := by decide +kernel
theorem dX9_hand_61 : decode cX9_hand 61 = .ok (.iaload, 1) := by decide +kernel
theorem dX9_hand_62 : decode cX9_hand 62 = .ok (.bipush 9, 2) := by decide +kernel
theorem dX9_hand_64 : decode cX9_hand 64 = .ok (.if_icmp .ne 6, 3) := by decide +kernel
theorem dX9_hand_67 : decode cX9_hand 67 = .ok (.bipush (-4), 2) := by decide +kernel
theorem dX9_hand_69 : decode cX9_hand 69 = .ok (.ireturn, 1) := by decide +kernel
theorem dX9_hand_70 : decode cX9_hand 70 = .ok (.aload_n 0, 1) := by decide +kernel
theorem dX9_hand_71 : decode cX9_hand 71 = .ok (.invokevirtual 134, 3) := by decide +kernel
theorem dX9_hand_74 : decode cX9_hand 74 = .ok (.aload_n 0, 1) := by decide +kernel
theorem dX9_hand_75 : decode cX9_hand 75 = .ok (.getfield 13, 3) := by decide +kernel
theorem dX9_hand_78 : decode cX9_hand 78 = .ok (.iconst 5, 1) := by decide +kernel
theorem dX9_hand_79 : decode cX9_hand 79 = .ok (.iload_n 1, 1) := by decide +kernel
theorem dX9_hand_80 : decode cX9_hand 80 = .ok (.imul, 1) := by decide +kernel
theorem dX9_hand_81 : decode cX9_hand 81 = .ok (.iload 4, 2) := by decide +kernel
theorem dX9_hand_83 : decode cX9_hand 83 = .ok (.iadd, 1) := by decide +kernel
theorem dX9_hand_84 : decode cX9_hand 84 = .ok (.dup2, 1) := by decide +kernel
theorem dX9_hand_85 : decode cX9_hand 85 = .ok (.iaload, 1) := by decide +kernel
theorem dX9_hand_86 : decode cX9_hand 86 = .ok (.iconst 1, 1) := by decide +kernel
theorem dX9_hand_87 : decode cX9_hand 87 = .ok (.isub, 1) := by decide +kernel
theorem dX9_hand_88 : decode cX9_hand 88 = .ok (.iastore, 1) := by decide +kernel
theorem dX9_hand_89 : decode cX9_hand 89 = .ok (.aload_n 0, 1) := by decide +kernel
theorem dX9_hand_90 : decode cX9_hand 90 = .ok (.getfield 13, 3) := by decide +kernel
theorem dX9_hand_93 : decode cX9_hand 93 = .ok (.iconst 5, 1) := by decide +kernel
theorem dX9_hand_94 : decode cX9_hand 94 = .ok (.iload_n 2, 1) := by decide +kernel
theorem dX9_hand_95 : decode cX9_hand 95 = .ok (.imul, 1) := by decide +kernel
theorem dX9_hand_96 : decode cX9_hand 96 = .ok (.iload 4, 2) := by decide +kernel
theorem dX9_hand_98 : decode cX9_hand 98 = .ok (.iadd, 1) := by decide +kernel
theorem dX9_hand_99 : decode cX9_hand 99 = .ok (.dup2, 1) := by decide +kernel
theorem dX9_hand_100 : decode cX9_hand 100 = .ok (.iaload, 1) := by decide +kernel
theorem dX9_hand_101 : decode cX9_hand 101 = .ok (.iconst 1, 1) := by decide +kernel
theorem dX9_hand_102 : decode cX9_hand 102 = .ok (.iadd, 1) := by decide +kernel
theorem dX9_hand_103 : decode cX9_hand 103 = .ok (.iastore, 1) := by decide +kernel
theorem dX9_hand_104 : decode cX9_hand 104 = .ok (.aload_n 0, 1) := by decide +kernel
theorem dX9_hand_105 : decode cX9_hand 105 = .ok (.getfield 13, 3) := by decide +kernel
theorem dX9_hand_108 : decode cX9_hand 108 = .ok (.iconst 5, 1) := by decide +kernel
theorem dX9_hand_109 : decode cX9_hand 109 = .ok (.iload_n 2, 1) := by decide +kernel
theorem dX9_hand_110 : decode cX9_hand 110 = .ok (.imul, 1) := by decide +kernel
theorem dX9_hand_111 : decode cX9_hand 111 = .ok (.iload 4, 2) := by decide +kernel
theorem dX9_hand_113 : decode cX9_hand 113 = .ok (.iadd, 1) := by decide +kernel
theorem dX9_hand_114 : decode cX9_hand 114 = .ok (.iaload, 1) := by decide +kernel
theorem dX9_hand_115 : decode cX9_hand 115 = .ok (.ireturn, 1) := by decide +kernel
set_option maxRecDepth 20000 in
theorem ggX9_day_X9_keepAct : GoodIn wsX9_day wsX9_keepAct := goodIn_r _ [8, 9, 10, 2, 11, 15, 16, 17, 18, 19, 20, 21, 22, 23, 24, 25, 26, 27, 28, 29, 30, 31, 32, 33, 34, 35, 36, 37, 38, 39, 40, 41, 42, 43, 44, 45, 46, 47, 48] (by decide +kernel) (by decide +kernel)
set_option maxRecDepth 20000 in
theorem gX9_day_X9_keepAct : GoodIn wsX9_day (wsV RX9 134 RX9 yX9_keepAct wsX9_keepAct) := goodIn_app (goodIn_of _ (by decide +kernel)) ggX9_day_X9_keepAct
set_option maxRecDepth 20000 in
theorem ggX9_day_X9_left : GoodIn wsX9_day wsX9_left := goodIn_r _ [14] (by decide +kernel) (by decide +kernel)
set_option maxRecDepth 20000 in
theorem gX9_day_X9_left : GoodIn wsX9_day (va_wsS RX9 137 yX9_left wsX9_left) := goodIn_app (goodIn_of _ (by decide +kernel)) ggX9_day_X9_left
theorem dX9_day_0 : decode cX9_day 0 = .ok (.aload_n 0, 1) := by decide +kernel
theorem dX9_day_1 : decode cX9_day 1 = .ok (.invokevirtual 134, 3) := by decide +kernel
theorem dX9_day_4 : decode cX9_day 4 = .ok (.iconst 0, 1) := by decide +kernel
theorem dX9_day_5 : decode cX9_day 5 = .ok (.istore_n 1, 1) := by decide +kernel
theorem dX9_day_6 : decode cX9_day 6 = .ok (.iload_n 1, 1) := by decide +kernel
theorem dX9_day_7 : decode cX9_day 7 = .ok (.aload_n 0, 1) := by decide +kernel
theorem dX9_day_8 : decode cX9_day 8 = .ok (.getfield 104, 3) := by decide +kernel
theorem dX9_day_11 : decode cX9_day 11 = .ok (.if_icmp .ge 57, 3) := by decide +kernel
theorem dX9_day_14 : decode cX9_day 14 = .ok (.aload_n 0, 1) := by decide +kernel
theorem dX9_day_15 : decode cX9_day 15 = .ok (.getfield 13, 3) := by decide +kernel
theorem dX9_day_18 : decode cX9_day 18 = .ok (.iconst 5, 1) := by decide +kernel
theorem dX9_day_19 : decode cX9_day 19 = .ok (.iload_n 1, 1) := by decide +kernel
theorem dX9_day_20 : decode cX9_day 20 = .ok (.imul, 1) := by decide +kernel
theorem dX9_day_21 : decode cX9_day 21 = .ok (.aload_n 0, 1) := by decide +kernel
theorem dX9_day_22 : decode cX9_day 22 = .ok (.getfield 13, 3) := by decide +kernel
theorem dX9_day_25 : decode cX9_day 25 = .ok (.iconst 5, 1) := by decide +kernel
theorem dX9_day_26 : decode cX9_day 26 = .ok (.iload_n 1, 1) := by decide +kernel
theorem dX9_day_27 : decode cX9_day 27 = .ok (.imul, 1) := by decide +kernel
theorem dX9_day_28 : decode cX9_day 28 = .ok (.iaload, 1) := by decide +kernel
theorem dX9_day_29 : decode cX9_day 29 = .ok (.aload_n 0, 1) := by decide +kernel
theorem dX9_day_30 : decode cX9_day 30 = .ok (.getfield 13, 3) := by decide +kernel
theorem dX9_day_33 : decode cX9_day 33 = .ok (.iconst 5, 1) := by decide +kernel
theorem dX9_day_34 : decode cX9_day 34 = .ok (.iload_n 1, 1) := by decide +kernel
theorem dX9_day_35 : decode cX9_day 35 = .ok (.imul, 1) := by decide +kernel
theorem dX9_day_36 : decode cX9_day 36 = .ok (.iconst 3, 1) := by decide +kernel
theorem dX9_day_37 : decode cX9_day 37 = .ok (.iadd, 1) := by decide +kernel
theorem dX9_day_38 : decode cX9_day 38 = .ok (.iaload, 1) := by decide +kernel
theorem dX9_day_39 : decode cX9_day 39 = .ok (.isub, 1) := by decide +kernel
theorem dX9_day_40 : decode cX9_day 40 = .ok (.iconst 2, 1) := by decide +kernel
theorem dX9_day_41 : decode cX9_day 41 = .ok (.aload_n 0, 1) := by decide +kernel
theorem dX9_day_42 : decode cX9_day 42 = .ok (.getfield 107, 3) := by decide +kernel
theorem dX9_day_45 : decode cX9_day 45 = .ok (.imul, 1) := by decide +kernel
theorem dX9_day_46 : decode cX9_day 46 = .ok (.isub, 1) := by decide +kernel
theorem dX9_day_47 : decode cX9_day 47 = .ok (.invokestatic 137, 3) := by decide +kernel
theorem dX9_day_50 : decode cX9_day 50 = .ok (.iastore, 1) := by decide +kernel
theorem dX9_day_51 : decode cX9_day 51 = .ok (.aload_n 0, 1) := by decide +kernel
theorem dX9_day_52 : decode cX9_day 52 = .ok (.getfield 13, 3) := by decide +kernel
theorem dX9_day_55 : decode cX9_day 55 = .ok (.iconst 5, 1) := by decide +kernel
theorem dX9_day_56 : decode cX9_day 56 = .ok (.iload_n 1, 1) := by decide +kernel
theorem dX9_day_57 : decode cX9_day 57 = .ok (.imul, 1) := by decide +kernel
theorem dX9_day_58 : decode cX9_day 58 = .ok (.iconst 3, 1) := by decide +kernel
theorem dX9_day_59 : decode cX9_day 59 = .ok (.iadd, 1) := by decide +kernel
theorem dX9_day_60 : decode cX9_day 60 = .ok (.iconst 0, 1) := by decide +kernel
theorem dX9_day_61 : decode cX9_day 61 = .ok (.iastore, 1) := by decide +kernel
theorem dX9_day_62 : decode cX9_day 62 = .ok (.iinc 1 1, 3) := by decide +kernel
theorem dX9_day_65 : decode cX9_day 65 = .ok (.goto (-59), 3) := by decide +kernel
theorem dX9_day_68 : decode cX9_day 68 = .ok (.aload_n 0, 1) := by decide +kernel
theorem dX9_day_69 : decode cX9_day 69 = .ok (.getfield 13, 3) := by decide +kernel
theorem dX9_day_72 : decode cX9_day 72 = .ok (.bipush 25, 2) := by decide +kernel
theorem dX9_day_74 : decode cX9_day 74 = .ok (.dup2, 1) := by decide +kernel
theorem dX9_day_75 : decode cX9_day 75 = .ok (.iaload, 1) := by decide +kernel
theorem dX9_day_76 : decode cX9_day 76 = .ok (.iconst 1, 1) := by decide +kernel
theorem dX9_day_77 : decode cX9_day 77 = .ok (.iadd, 1) := by decide +kernel
theorem dX9_day_78 : decode cX9_day 78 = .ok (.iastore, 1) := by decide +kernel
theorem dX9_day_79 : decode cX9_day 79 = .ok (.aload_n 0, 1) := by decide +kernel
theorem dX9_day_80 : decode cX9_day 80 = .ok (.getfield 13, 3) := by decide +kernel
theorem dX9_day_83 : decode cX9_day 83 = .ok (.bipush 25, 2) := by decide +kernel
theorem dX9_day_85 : decode cX9_day 85 = .ok (.iaload, 1) := by decide +kernel
theorem dX9_day_86 : decode cX9_day 86 = .ok (.ireturn, 1) := by decide +kernel
theorem dX9_isLighter_0 : decode cX9_isLighter 0 = .ok (.iload_n 0, 1) := by decide +kernel
theorem dX9_isLighter_1 : decode cX9_isLighter 1 = .ok (.iload_n 2, 1) := by decide +kernel
theorem dX9_isLighter_2 : decode cX9_isLighter 2 = .ok (.if_icmp .lt 13, 3) := by decide +kernel
theorem dX9_isLighter_5 : decode cX9_isLighter 5 = .ok (.iload_n 0, 1) := by decide +kernel
theorem dX9_isLighter_6 : decode cX9_isLighter 6 = .ok (.iload_n 2, 1) := by decide +kernel
theorem dX9_isLighter_7 : decode cX9_isLighter 7 = .ok (.if_icmp .ne 12, 3) := by decide +kernel
theorem dX9_isLighter_10 : decode cX9_isLighter 10 = .ok (.iload_n 1, 1) := by decide +kernel
theorem dX9_isLighter_11 : decode cX9_isLighter 11 = .ok (.iload_n 3, 1) := by decide +kernel
theorem dX9_isLighter_12 : decode cX9_isLighter 12 = .ok (.if_icmp .ge 7, 3) := by decide +kernel
theorem dX9_isLighter_15 : decode cX9_isLighter 15 = .ok (.iconst 1, 1) := by decide +kernel
theorem dX9_isLighter_16 : decode cX9_isLighter 16 = .ok (.goto 4, 3) := by decide +kernel
theorem dX9_isLighter_19 : decode cX9_isLighter 19 = .ok (.iconst 0, 1) := by decide +kernel
theorem dX9_isLighter_20 : decode cX9_isLighter 20 = .ok (.ireturn, 1) := by decide +kernel
set_option maxRecDepth 20000 in
theorem ggX9_crownBy_X9_isIll : GoodIn wsX9_crownBy wsX9_isIll := goodIn_r _ [6, 7, 8, 16, 17, 18, 19, 20, 21, 22, 23, 24, 25, 26, 27, 28, 29, 30, 31, 32, 33, 34, 35, 36, 37, 38, 39, 40, 41, 42, 43, 44, 45, 46, 47, 48, 49] (by decide +kernel) (by decide +kernel)
set_option maxRecDepth 20000 in
theorem gX9_crownBy_X9_isIll : GoodIn wsX9_crownBy (wsV RX9 124 RX9 yX9_isIll wsX9_isIll) := goodIn_app (goodIn_of _ (by decide +kernel)) ggX9_crownBy_X9_isIll
set_option maxRecDepth 20000 in
theorem ggX9_crownBy_X9_noonOf : GoodIn wsX9_crownBy wsX9_noonOf := goodIn_r _ [12, 7, 16, 17, 18, 19, 20, 21, 22, 23, 24, 25, 26, 27, 28, 29, 30, 31, 32, 33, 34, 35, 36, 37, 38, 39, 40, 41, 42, 43, 44, 45, 46, 47, 48, 49] (by decide +kernel) (by decide +kernel)
set_option maxRecDepth 20000 in
theorem gX9_crownBy_X9_noonOf : GoodIn wsX9_crownBy (wsV RX9 120 RX9 yX9_noonOf wsX9_noonOf) := goodIn_app (goodIn_of _ (by decide +kernel)) ggX9_crownBy_X9_noonOf
set_option maxRecDepth 20000 in
theorem ggX9_crownBy_X9_isLighter : GoodIn wsX9_crownBy wsX9_isLighter := goodIn_r _ [15] (by decide +kernel) (by decide +kernel)
set_option maxRecDepth 20000 in
theorem gX9_crownBy_X9_isLighter : GoodIn wsX9_crownBy (va_wsS RX9 140 yX9_isLighter wsX9_isLighter) := goodIn_app (goodIn_of _ (by decide +kernel)) ggX9_crownBy_X9_isLighter
theorem dX9_crownBy_0 : decode cX9_crownBy 0 = .ok (.iconst 0, 1) := by decide +kernel
theorem dX9_crownBy_1 : decode cX9_crownBy 1 = .ok (.istore_n 2, 1) := by decide +kernel
theorem dX9_crownBy_2 : decode cX9_crownBy 2 = .ok (.iload_n 2, 1) := by decide +kernel
theorem dX9_crownBy_3 : decode cX9_crownBy 3 = .ok (.aload_n 0, 1) := by decide +kernel
theorem dX9_crownBy_4 : decode cX9_crownBy 4 = .ok (.getfield 104, 3) := by decide +kernel
theorem dX9_crownBy_7 : decode cX9_crownBy 7 = .ok (.if_icmp .ge 118, 3) := by decide +kernel
theorem dX9_crownBy_10 : decode cX9_crownBy 10 = .ok (.iconst 0, 1) := by decide +kernel
theorem dX9_crownBy_11 : decode cX9_crownBy 11 = .ok (.istore_n 3, 1) := by decide +kernel
theorem dX9_crownBy_12 : decode cX9_crownBy 12 = .ok (.iconst 0, 1) := by decide +kernel
theorem dX9_crownBy_13 : decode cX9_crownBy 13 = .ok (.istore 4, 2) := by decide +kernel
theorem dX9_crownBy_15 : decode cX9_crownBy 15 = .ok (.iload 4, 2) := by decide +kernel
theorem dX9_crownBy_17 : decode cX9_crownBy 17 = .ok (.aload_n 0, 1) := by decide +kernel
theorem dX9_crownBy_18 : decode cX9_crownBy 18 = .ok (.getfield 104, 3) := by decide +kernel
theorem dX9_crownBy_21 : decode cX9_crownBy 21 = .ok (.if_icmp .ge 69, 3) := by decide +kernel
theorem dX9_crownBy_24 : decode cX9_crownBy 24 = .ok (.iload 4, 2) := by decide +kernel
theorem dX9_crownBy_26 : decode cX9_crownBy 26 = .ok (.iload_n 2, 1) := by decide +kernel
theorem dX9_crownBy_27 : decode cX9_crownBy 27 = .ok (.if_icmp .eq 21, 3) := by decide +kernel
theorem dX9_crownBy_30 : decode cX9_crownBy 30 = .ok (.iload_n 1, 1) := by decide +kernel
theorem dX9_crownBy_31 : decode cX9_crownBy 31 = .ok (.iconst 2, 1) := by decide +kernel
theorem dX9_crownBy_32 : decode cX9_crownBy 32 = .ok (.if_icmp .lt 12, 3) := by decide +kernel
theorem dX9_crownBy_35 : decode cX9_crownBy 35 = .ok (.aload_n 0, 1) := by decide +kernel
theorem dX9_crownBy_36 : decode cX9_crownBy 36 = .ok (.iload 4, 2) := by decide +kernel
theorem dX9_crownBy_38 : decode cX9_crownBy 38 = .ok (.invokevirtual 124, 3) := by decide +kernel
theorem dX9_crownBy_41 : decode cX9_crownBy 41 = .ok (.ifCond .ne 7, 3) := by decide +kernel
theorem dX9_crownBy_44 : decode cX9_crownBy 44 = .ok (.iconst 1, 1) := by decide +kernel
theorem dX9_crownBy_45 : decode cX9_crownBy 45 = .ok (.goto 4, 3) := by decide +kernel
theorem dX9_crownBy_48 : decode cX9_crownBy 48 = .ok (.iconst 0, 1) := by decide +kernel
theorem dX9_crownBy_49 : decode cX9_crownBy 49 = .ok (.istore 5, 2) := by decide +kernel
theorem dX9_crownBy_51 : decode cX9_crownBy 51 = .ok (.iload_n 3, 1) := by decide +kernel
theorem dX9_crownBy_52 : decode cX9_crownBy 52 = .ok (.iload 5, 2) := by decide +kernel
theorem dX9_crownBy_54 : decode cX9_crownBy 54 = .ok (.ifCond .eq 27, 3) := by decide +kernel
theorem dX9_crownBy_57 : decode cX9_crownBy 57 = .ok (.aload_n 0, 1) := by decide +kernel
theorem dX9_crownBy_58 : decode cX9_crownBy 58 = .ok (.iload 4, 2) := by decide +kernel
theorem dX9_crownBy_60 : decode cX9_crownBy 60 = .ok (.invokevirtual 120, 3) := by decide +kernel
theorem dX9_crownBy_63 : decode cX9_crownBy 63 = .ok (.iload 4, 2) := by decide +kernel
theorem dX9_crownBy_65 : decode cX9_crownBy 65 = .ok (.aload_n 0, 1) := by decide +kernel
theorem dX9_crownBy_66 : decode cX9_crownBy 66 = .ok (.iload_n 2, 1) := by decide +kernel
theorem dX9_crownBy_67 : decode cX9_crownBy 67 = .ok (.invokevirtual 120, 3) := by decide +kernel
theorem dX9_crownBy_70 : decode cX9_crownBy 70 = .ok (.iload_n 2, 1) := by decide +kernel
theorem dX9_crownBy_71 : decode cX9_crownBy 71 = .ok (.invokestatic 140, 3) := by decide +kernel
theorem dX9_crownBy_74 : decode cX9_crownBy 74 = .ok (.ifCond .eq 7, 3) := by decide +kernel
theorem dX9_crownBy_77 : decode cX9_crownBy 77 = .ok (.iconst 1, 1) := by decide +kernel
theorem dX9_crownBy_78 : decode cX9_crownBy 78 = .ok (.goto 4, 3) := by decide +kernel
theorem dX9_crownBy_81 : decode cX9_crownBy 81 = .ok (.iconst 0, 1) := by decide +kernel
theorem dX9_crownBy_82 : decode cX9_crownBy 82 = .ok (.iadd, 1) := by decide +kernel
theorem dX9_crownBy_83 : decode cX9_crownBy 83 = .ok (.istore_n 3, 1) := by decide +kernel
theorem dX9_crownBy_84 : decode cX9_crownBy 84 = .ok (.iinc 4 1, 3) := by decide +kernel
theorem dX9_crownBy_87 : decode cX9_crownBy 87 = .ok (.goto (-72), 3) := by decide +kernel
theorem dX9_crownBy_90 : decode cX9_crownBy 90 = .ok (.iload_n 3, 1) := by decide +kernel
theorem dX9_crownBy_91 : decode cX9_crownBy 91 = .ok (.iload_n 1, 1) := by decide +kernel
theorem dX9_crownBy_92 : decode cX9_crownBy 92 = .ok (.iconst 1, 1) := by decide +kernel
theorem dX9_crownBy_93 : decode cX9_crownBy 93 = .ok (.if_icmp .ne 7, 3) := by decide +kernel
theorem dX9_crownBy_96 : decode cX9_crownBy 96 = .ok (.iconst 1, 1) := by decide +kernel
theorem dX9_crownBy_97 : decode cX9_crownBy 97 = .ok (.goto 4, 3) := by decide +kernel
theorem dX9_crownBy_100 : decode cX9_crownBy 100 = .ok (.iconst 0, 1) := by decide +kernel
theorem dX9_crownBy_101 : decode cX9_crownBy 101 = .ok (.if_icmp .ne 18, 3) := by decide +kernel
theorem dX9_crownBy_104 : decode cX9_crownBy 104 = .ok (.iload_n 1, 1) := by decide +kernel
theorem dX9_crownBy_105 : decode cX9_crownBy 105 = .ok (.iconst 2, 1) := by decide +kernel
theorem dX9_crownBy_106 : decode cX9_crownBy 106 = .ok (.if_icmp .lt 11, 3) := by decide +kernel
theorem dX9_crownBy_109 : decode cX9_crownBy 109 = .ok (.aload_n 0, 1) := by decide +kernel
theorem dX9_crownBy_110 : decode cX9_crownBy 110 = .ok (.iload_n 2, 1) := by decide +kernel
theorem dX9_crownBy_111 : decode cX9_crownBy 111 = .ok (.invokevirtual 124, 3) := by decide +kernel
theorem dX9_crownBy_114 : decode cX9_crownBy 114 = .ok (.ifCond .ne 5, 3) := by decide +kernel
theorem dX9_crownBy_117 : decode cX9_crownBy 117 = .ok (.iload_n 2, 1) := by decide +kernel
theorem dX9_crownBy_118 : decode cX9_crownBy 118 = .ok (.ireturn, 1) := by decide +kernel
theorem dX9_crownBy_119 : decode cX9_crownBy 119 = .ok (.iinc 2 1, 3) := by decide +kernel
theorem dX9_crownBy_122 : decode cX9_crownBy 122 = .ok (.goto (-120), 3) := by decide +kernel
theorem dX9_crownBy_125 : decode cX9_crownBy 125 = .ok (.bipush (-9), 2) := by decide +kernel
theorem dX9_crownBy_127 : decode cX9_crownBy 127 = .ok (.ireturn, 1) := by decide +kernel
set_option maxRecDepth 20000 in
theorem ggX9_crown_X9_crownBy : GoodIn wsX9_crown wsX9_crownBy := goodIn_r _ [6, 7, 8, 9, 10, 5, 11, 12, 13, 14, 15, 16, 17, 18, 19, 20, 21, 22, 23, 24, 25, 26, 27, 28, 29, 30, 31, 32, 33, 34, 35, 36, 37, 38, 39, 40, 41, 42, 43, 44, 45, 46, 47, 48, 49, 50, 51, 52, 53, 54] (by decide +kernel) (by decide +kernel)
set_option maxRecDepth 20000 in
theorem gX9_crown_X9_crownBy : GoodIn wsX9_crown (wsV RX9 144 RX9 yX9_crownBy wsX9_crownBy) := goodIn_app (goodIn_of _ (by decide +kernel)) ggX9_crown_X9_crownBy
theorem dX9_crown_0 : decode cX9_crown 0 = .ok (.aload_n 0, 1) := by decide +kernel
theorem dX9_crown_1 : decode cX9_crown 1 = .ok (.aload_n 0, 1) := by decide +kernel
theorem dX9_crown_2 : decode cX9_crown 2 = .ok (.getfield 63, 3) := by decide +kernel
theorem dX9_crown_5 : decode cX9_crown 5 = .ok (.invokevirtual 144, 3) := by decide +kernel
theorem dX9_crown_8 : decode cX9_crown 8 = .ok (.ireturn, 1) := by decide +kernel
set_option maxRecDepth 20000 in
theorem ggX9_noon_X9_keepAct : GoodIn wsX9_noon wsX9_keepAct := goodIn_r _ [7, 8, 9, 2, 10, 28, 29, 30, 31, 32, 33, 34, 35, 36, 37, 38, 39, 40, 41, 42, 43, 44, 45, 46, 47, 48, 49, 50, 51, 52, 53, 54, 55, 56, 57, 58, 59, 60, 61] (by decide +kernel) (by decide +kernel)
set_option maxRecDepth 20000 in
theorem gX9_noon_X9_keepAct : GoodIn wsX9_noon (wsV RX9 134 RX9 yX9_keepAct wsX9_keepAct) := goodIn_app (goodIn_of _ (by decide +kernel)) ggX9_noon_X9_keepAct
set_option maxRecDepth 20000 in
theorem ggX9_noon_X9_crownBy : GoodIn wsX9_noon wsX9_crownBy := goodIn_r _ [14, 15, 16, 17, 18, 6, 19, 2, 20, 21, 22, 23, 24, 25, 26, 27, 28, 29, 30, 31, 32, 33, 34, 35, 36, 37, 38, 39, 40, 41, 42, 43, 44, 45, 46, 47, 48, 49, 50, 51, 52, 53, 54, 55, 56, 57, 58, 59, 60, 61] (by decide +kernel) (by decide +kernel)
set_option maxRecDepth 20000 in
theorem gX9_noon_X9_crownBy : GoodIn wsX9_noon (wsV RX9 144 RX9 yX9_crownBy wsX9_crownBy) := goodIn_app (goodIn_of _ (by decide +kernel)) ggX9_noon_X9_crownBy
theorem dX9_noon_0 : decode cX9_noon 0 = .ok (.aload_n 0, 1) := by decide +kernel
theorem dX9_noon_1 : decode cX9_noon 1 = .ok (.invokevirtual 134, 3) := by decide +kernel
theorem dX9_noon_4 : decode cX9_noon 4 = .ok (.aload_n 0, 1) := by decide +kernel
theorem dX9_noon_5 : decode cX9_noon 5 = .ok (.aload_n 0, 1) := by decide +kernel
theorem dX9_noon_6 : decode cX9_noon 6 = .ok (.getfield 63, 3) := by decide +kernel
theorem dX9_noon_9 : decode cX9_noon 9 = .ok (.invokevirtual 144, 3) := by decide +kernel
theorem dX9_noon_12 : decode cX9_noon 12 = .ok (.istore_n 1, 1) := by decide +kernel
theorem dX9_noon_13 : decode cX9_noon 13 = .ok (.iload_n 1, 1) := by decide +kernel
theorem dX9_noon_14 : decode cX9_noon 14 = .ok (.bipush (-9), 2) := by decide +kernel
theorem dX9_noon_16 : decode cX9_noon 16 = .ok (.if_icmp .eq 17, 3) := by decide +kernel
theorem dX9_noon_19 : decode cX9_noon 19 = .ok (.aload_n 0, 1) := by decide +kernel
theorem dX9_noon_20 : decode cX9_noon 20 = .ok (.getfield 13, 3) := by decide +kernel
theorem dX9_noon_23 : decode cX9_noon 23 = .ok (.iconst 5, 1) := by decide +kernel
theorem dX9_noon_24 : decode cX9_noon 24 = .ok (.iload_n 1, 1) := by decide +kernel
theorem dX9_noon_25 : decode cX9_noon 25 = .ok (.imul, 1) := by decide +kernel
theorem dX9_noon_26 : decode cX9_noon 26 = .ok (.iconst 4, 1) := by decide +kernel
theorem dX9_noon_27 : decode cX9_noon 27 = .ok (.iadd, 1) := by decide +kernel
theorem dX9_noon_28 : decode cX9_noon 28 = .ok (.dup2, 1) := by decide +kernel
theorem dX9_noon_29 : decode cX9_noon 29 = .ok (.iaload, 1) := by decide +kernel
theorem dX9_noon_30 : decode cX9_noon 30 = .ok (.iconst 1, 1) := by decide +kernel
theorem dX9_noon_31 : decode cX9_noon 31 = .ok (.iadd, 1) := by decide +kernel
theorem dX9_noon_32 : decode cX9_noon 32 = .ok (.iastore, 1) := by decide +kernel
theorem dX9_noon_33 : decode cX9_noon 33 = .ok (.iload_n 1, 1) := by decide +kernel
theorem dX9_noon_34 : decode cX9_noon 34 = .ok (.ireturn, 1) := by decide +kernel
theorem dX9_undo_0 : decode cX9_undo 0 = .ok (.aload_n 0, 1) := by decide +kernel
theorem dX9_undo_1 : decode cX9_undo 1 = .ok (.getfield 113, 3) := by decide +kernel
theorem dX9_undo_4 : decode cX9_undo 4 = .ok (.ifCond .ne 6, 3) := by decide +kernel
theorem dX9_undo_7 : decode cX9_undo 7 = .ok (.bipush (-3), 2) := by decide +kernel
theorem dX9_undo_9 : decode cX9_undo 9 = .ok (.ireturn, 1) := by decide +kernel
theorem dX9_undo_10 : decode cX9_undo 10 = .ok (.aload_n 0, 1) := by decide +kernel
theorem dX9_undo_11 : decode cX9_undo 11 = .ok (.dup, 1) := by decide +kernel
theorem dX9_undo_12 : decode cX9_undo 12 = .ok (.getfield 113, 3) := by decide +kernel
theorem dX9_undo_15 : decode cX9_undo 15 = .ok (.iconst 1, 1) := by decide +kernel
theorem dX9_undo_16 : decode cX9_undo 16 = .ok (.isub, 1) := by decide +kernel
theorem dX9_undo_17 : decode cX9_undo 17 = .ok (.putfield 113, 3) := by decide +kernel
theorem dX9_undo_20 : decode cX9_undo 20 = .ok (.aload_n 0, 1) := by decide +kernel
theorem dX9_undo_21 : decode cX9_undo 21 = .ok (.aload_n 0, 1) := by decide +kernel
theorem dX9_undo_22 : decode cX9_undo 22 = .ok (.getfield 129, 3) := by decide +kernel
theorem dX9_undo_25 : decode cX9_undo 25 = .ok (.bipush 15, 2) := by decide +kernel
theorem dX9_undo_27 : decode cX9_undo 27 = .ok (.iadd, 1) := by decide +kernel
theorem dX9_undo_28 : decode cX9_undo 28 = .ok (.bipush 16, 2) := by decide +kernel
theorem dX9_undo_30 : decode cX9_undo 30 = .ok (.irem, 1) := by decide +kernel
theorem dX9_undo_31 : decode cX9_undo 31 = .ok (.putfield 129, 3) := by decide +kernel
theorem dX9_undo_34 : decode cX9_undo 34 = .ok (.iconst 0, 1) := by decide +kernel
theorem dX9_undo_35 : decode cX9_undo 35 = .ok (.istore_n 1, 1) := by decide +kernel
theorem dX9_undo_36 : decode cX9_undo 36 = .ok (.iload_n 1, 1) := by decide +kernel
theorem dX9_undo_37 : decode cX9_undo 37 = .ok (.bipush 26, 2) := by decide +kernel
theorem dX9_undo_39 : decode cX9_undo 39 = .ok (.if_icmp .ge 29, 3) := by decide +kernel
theorem dX9_undo_42 : decode cX9_undo 42 = .ok (.aload_n 0, 1) := by decide +kernel
theorem dX9_undo_43 : decode cX9_undo 43 = .ok (.getfield 13, 3) := by decide +kernel
theorem dX9_undo_46 : decode cX9_undo 46 = .ok (.iload_n 1, 1) := by decide +kernel
theorem dX9_undo_47 : decode cX9_undo 47 = .ok (.aload_n 0, 1) := by decide +kernel
theorem dX9_undo_48 : decode cX9_undo 48 = .ok (.getfield 19, 3) := by decide +kernel
theorem dX9_undo_51 : decode cX9_undo 51 = .ok (.bipush 26, 2) := by decide +kernel
theorem dX9_undo_53 : decode cX9_undo 53 = .ok (.aload_n 0, 1) := by decide +kernel
theorem dX9_undo_54 : decode cX9_undo 54 = .ok (.getfield 129, 3) := by decide +kernel
theorem dX9_undo_57 : decode cX9_undo 57 = .ok (.imul, 1) := by decide +kernel
theorem dX9_undo_58 : decode cX9_undo 58 = .ok (.iload_n 1, 1) := by decide +kernel
theorem dX9_undo_59 : decode cX9_undo 59 = .ok (.iadd, 1) := by decide +kernel
theorem dX9_undo_60 : decode cX9_undo 60 = .ok (.iaload, 1) := by decide +kernel
theorem dX9_undo_61 : decode cX9_undo 61 = .ok (.iastore, 1) := by decide +kernel
theorem dX9_undo_62 : decode cX9_undo 62 = .ok (.iinc 1 1, 3) := by decide +kernel
theorem dX9_undo_65 : decode cX9_undo 65 = .ok (.goto (-29), 3) := by decide +kernel
theorem dX9_undo_68 : decode cX9_undo 68 = .ok (.aload_n 0, 1) := by decide +kernel
theorem dX9_undo_69 : decode cX9_undo 69 = .ok (.getfield 113, 3) := by decide +kernel
theorem dX9_undo_72 : decode cX9_undo 72 = .ok (.ireturn, 1) := by decide +kernel
set_option maxRecDepth 20000 in
theorem ggX9_later_X9_left : GoodIn wsX9_later wsX9_left := goodIn_r _ [6] (by decide +kernel) (by decide +kernel)
set_option maxRecDepth 20000 in
theorem gX9_later_X9_left : GoodIn wsX9_later (va_wsS RX9 137 yX9_left wsX9_left) := goodIn_app (goodIn_of _ (by decide +kernel)) ggX9_later_X9_left
set_option maxRecDepth 20000 in
theorem ggX9_later_X9_noonOf : GoodIn wsX9_later wsX9_noonOf := goodIn_r _ [10, 1, 11, 12, 13, 14, 15, 16, 17, 18, 19, 20, 21, 22, 23, 24, 25, 26, 27, 28, 29, 30, 31, 32, 33, 34, 35, 36, 37, 38, 39, 40, 41, 42, 43, 44] (by decide +kernel) (by decide +kernel)
set_option maxRecDepth 20000 in
theorem gX9_later_X9_noonOf : GoodIn wsX9_later (wsV RX9 120 RX9 yX9_noonOf wsX9_noonOf) := goodIn_app (goodIn_of _ (by decide +kernel)) ggX9_later_X9_noonOf
theorem dX9_later_0 : decode cX9_later 0 = .ok (.aload_n 0, 1) := by decide +kernel
theorem dX9_later_1 : decode cX9_later 1 = .ok (.getfield 13, 3) := by decide +kernel
theorem dX9_later_4 : decode cX9_later 4 = .ok (.iconst 5, 1) := by decide +kernel
theorem dX9_later_5 : decode cX9_later 5 = .ok (.iload_n 1, 1) := by decide +kernel
theorem dX9_later_6 : decode cX9_later 6 = .ok (.imul, 1) := by decide +kernel
theorem dX9_later_7 : decode cX9_later 7 = .ok (.iaload, 1) := by decide +kernel
theorem dX9_later_8 : decode cX9_later 8 = .ok (.aload_n 0, 1) := by decide +kernel
theorem dX9_later_9 : decode cX9_later 9 = .ok (.getfield 13, 3) := by decide +kernel
theorem dX9_later_12 : decode cX9_later 12 = .ok (.iconst 5, 1) := by decide +kernel
theorem dX9_later_13 : decode cX9_later 13 = .ok (.iload_n 1, 1) := by decide +kernel
theorem dX9_later_14 : decode cX9_later 14 = .ok (.imul, 1) := by decide +kernel
theorem dX9_later_15 : decode cX9_later 15 = .ok (.iconst 3, 1) := by decide +kernel
theorem dX9_later_16 : decode cX9_later 16 = .ok (.iadd, 1) := by decide +kernel
theorem dX9_later_17 : decode cX9_later 17 = .ok (.iaload, 1) := by decide +kernel
theorem dX9_later_18 : decode cX9_later 18 = .ok (.isub, 1) := by decide +kernel
theorem dX9_later_19 : decode cX9_later 19 = .ok (.iconst 2, 1) := by decide +kernel
theorem dX9_later_20 : decode cX9_later 20 = .ok (.aload_n 0, 1) := by decide +kernel
theorem dX9_later_21 : decode cX9_later 21 = .ok (.getfield 107, 3) := by decide +kernel
theorem dX9_later_24 : decode cX9_later 24 = .ok (.imul, 1) := by decide +kernel
theorem dX9_later_25 : decode cX9_later 25 = .ok (.iload_n 2, 1) := by decide +kernel
theorem dX9_later_26 : decode cX9_later 26 = .ok (.imul, 1) := by decide +kernel
theorem dX9_later_27 : decode cX9_later 27 = .ok (.isub, 1) := by decide +kernel
theorem dX9_later_28 : decode cX9_later 28 = .ok (.iconst 5, 1) := by decide +kernel
theorem dX9_later_29 : decode cX9_later 29 = .ok (.iload_n 3, 1) := by decide +kernel
theorem dX9_later_30 : decode cX9_later 30 = .ok (.imul, 1) := by decide +kernel
theorem dX9_later_31 : decode cX9_later 31 = .ok (.isub, 1) := by decide +kernel
theorem dX9_later_32 : decode cX9_later 32 = .ok (.invokestatic 137, 3) := by decide +kernel
theorem dX9_later_35 : decode cX9_later 35 = .ok (.aload_n 0, 1) := by decide +kernel
theorem dX9_later_36 : decode cX9_later 36 = .ok (.iload_n 1, 1) := by decide +kernel
theorem dX9_later_37 : decode cX9_later 37 = .ok (.invokevirtual 120, 3) := by decide +kernel
theorem dX9_later_40 : decode cX9_later 40 = .ok (.iadd, 1) := by decide +kernel
theorem dX9_later_41 : decode cX9_later 41 = .ok (.aload_n 0, 1) := by decide +kernel
theorem dX9_later_42 : decode cX9_later 42 = .ok (.getfield 13, 3) := by decide +kernel
theorem dX9_later_45 : decode cX9_later 45 = .ok (.iconst 5, 1) := by decide +kernel
theorem dX9_later_46 : decode cX9_later 46 = .ok (.iload_n 1, 1) := by decide +kernel
theorem dX9_later_47 : decode cX9_later 47 = .ok (.imul, 1) := by decide +kernel
theorem dX9_later_48 : decode cX9_later 48 = .ok (.iaload, 1) := by decide +kernel
theorem dX9_later_49 : decode cX9_later 49 = .ok (.isub, 1) := by decide +kernel
theorem dX9_later_50 : decode cX9_later 50 = .ok (.ireturn, 1) := by decide +kernel
set_option maxRecDepth 20000 in
theorem ggX9_least_X9_later : GoodIn wsX9_least wsX9_later := goodIn_r _ [6, 7, 8, 9, 10, 5, 11, 12, 13, 14, 15, 19, 20, 21, 22, 23, 24, 25, 26, 27, 28, 29, 30, 31, 32, 33, 34, 35, 36, 37, 38, 39, 40, 41, 42, 43, 44, 45, 46, 47, 48, 49, 50, 51, 52] (by decide +kernel) (by decide +kernel)
set_option maxRecDepth 20000 in
theorem gX9_least_X9_later : GoodIn wsX9_least (wsV RX9 147 RX9 yX9_later wsX9_later) := goodIn_app (goodIn_of _ (by decide +kernel)) ggX9_least_X9_later
set_option maxRecDepth 20000 in
theorem ggX9_least_X9_isLighter : GoodIn wsX9_least wsX9_isLighter := goodIn_r _ [18] (by decide +kernel) (by decide +kernel)
set_option maxRecDepth 20000 in
theorem gX9_least_X9_isLighter : GoodIn wsX9_least (va_wsS RX9 140 yX9_isLighter wsX9_isLighter) := goodIn_app (goodIn_of _ (by decide +kernel)) ggX9_least_X9_isLighter
theorem dX9_least_0 : decode cX9_least 0 = .ok (.iconst 0, 1) := by decide +kernel
theorem dX9_least_1 : decode cX9_least 1 = .ok (.istore 4, 2) := by decide +kernel
theorem dX9_least_3 : decode cX9_least 3 = .ok (.iload 4, 2) := by decide +kernel
theorem dX9_least_5 : decode cX9_least 5 = .ok (.bipush 9, 2) := by decide +kernel
theorem dX9_least_7 : decode cX9_least 7 = .ok (.iload_n 2, 1) := by decide +kernel
theorem dX9_least_8 : decode cX9_least 8 = .ok (.imul, 1) := by decide +kernel
theorem dX9_least_9 : decode cX9_least 9 = .ok (.if_icmp .gt 83, 3) := by decide +kernel
theorem dX9_least_12 : decode cX9_least 12 = .ok (.iconst 1, 1) := by decide +kernel
theorem dX9_least_13 : decode cX9_least 13 = .ok (.istore 5, 2) := by decide +kernel
theorem dX9_least_15 : decode cX9_least 15 = .ok (.iconst 0, 1) := by decide +kernel
theorem dX9_least_16 : decode cX9_least 16 = .ok (.istore 6, 2) := by decide +kernel
theorem dX9_least_18 : decode cX9_least 18 = .ok (.iload 6, 2) := by decide +kernel
theorem dX9_least_20 : decode cX9_least 20 = .ok (.aload_n 0, 1) := by decide +kernel
theorem dX9_least_21 : decode cX9_least 21 = .ok (.getfield 104, 3) := by decide +kernel
theorem dX9_least_24 : decode cX9_least 24 = .ok (.if_icmp .ge 54, 3) := by decide +kernel
theorem dX9_least_27 : decode cX9_least 27 = .ok (.iload 5, 2) := by decide +kernel
theorem dX9_least_29 : decode cX9_least 29 = .ok (.ifCond .eq 40, 3) := by decide +kernel
theorem dX9_least_32 : decode cX9_least 32 = .ok (.iload 6, 2) := by decide +kernel
theorem dX9_least_34 : decode cX9_least 34 = .ok (.iload_n 1, 1) := by decide +kernel
theorem dX9_least_35 : decode cX9_least 35 = .ok (.if_icmp .eq 30, 3) := by decide +kernel
theorem dX9_least_38 : decode cX9_least 38 = .ok (.aload_n 0, 1) := by decide +kernel
theorem dX9_least_39 : decode cX9_least 39 = .ok (.iload_n 1, 1) := by decide +kernel
theorem dX9_least_40 : decode cX9_least 40 = .ok (.iload_n 2, 1) := by decide +kernel
theorem dX9_least_41 : decode cX9_least 41 = .ok (.iload 4, 2) := by decide +kernel
theorem dX9_least_43 : decode cX9_least 43 = .ok (.invokevirtual 147, 3) := by decide +kernel
theorem dX9_least_46 : decode cX9_least 46 = .ok (.iload_n 1, 1) := by decide +kernel
theorem dX9_least_47 : decode cX9_least 47 = .ok (.aload_n 0, 1) := by decide +kernel
theorem dX9_least_48 : decode cX9_least 48 = .ok (.iload 6, 2) := by decide +kernel
theorem dX9_least_50 : decode cX9_least 50 = .ok (.iload_n 2, 1) := by decide +kernel
theorem dX9_least_51 : decode cX9_least 51 = .ok (.iload_n 3, 1) := by decide +kernel
theorem dX9_least_52 : decode cX9_least 52 = .ok (.iload_n 2, 1) := by decide +kernel
theorem dX9_least_53 : decode cX9_least 53 = .ok (.imul, 1) := by decide +kernel
theorem dX9_least_54 : decode cX9_least 54 = .ok (.invokevirtual 147, 3) := by decide +kernel
theorem dX9_least_57 : decode cX9_least 57 = .ok (.iload 6, 2) := by decide +kernel
theorem dX9_least_59 : decode cX9_least 59 = .ok (.invokestatic 140, 3) := by decide +kernel
theorem dX9_least_62 : decode cX9_least 62 = .ok (.ifCond .eq 7, 3) := by decide +kernel
theorem dX9_least_65 : decode cX9_least 65 = .ok (.iconst 1, 1) := by decide +kernel
theorem dX9_least_66 : decode cX9_least 66 = .ok (.goto 4, 3) := by decide +kernel
theorem dX9_least_69 : decode cX9_least 69 = .ok (.iconst 0, 1) := by decide +kernel
theorem dX9_least_70 : decode cX9_least 70 = .ok (.istore 5, 2) := by decide +kernel
theorem dX9_least_72 : decode cX9_least 72 = .ok (.iinc 6 1, 3) := by decide +kernel
theorem dX9_least_75 : decode cX9_least 75 = .ok (.goto (-57), 3) := by decide +kernel
theorem dX9_least_78 : decode cX9_least 78 = .ok (.iload 5, 2) := by decide +kernel
theorem dX9_least_80 : decode cX9_least 80 = .ok (.ifCond .eq 6, 3) := by decide +kernel
theorem dX9_least_83 : decode cX9_least 83 = .ok (.iload 4, 2) := by decide +kernel
theorem dX9_least_85 : decode cX9_least 85 = .ok (.ireturn, 1) := by decide +kernel
theorem dX9_least_86 : decode cX9_least 86 = .ok (.iinc 4 1, 3) := by decide +kernel
theorem dX9_least_89 : decode cX9_least 89 = .ok (.goto (-86), 3) := by decide +kernel
theorem dX9_least_92 : decode cX9_least 92 = .ok (.bipush (-9), 2) := by decide +kernel
theorem dX9_least_94 : decode cX9_least 94 = .ok (.ireturn, 1) := by decide +kernel
theorem dX9_share_0 : decode cX9_share 0 = .ok (.iload_n 0, 1) := by decide +kernel
theorem dX9_share_1 : decode cX9_share 1 = .ok (.iload_n 1, 1) := by decide +kernel
theorem dX9_share_2 : decode cX9_share 2 = .ok (.idiv, 1) := by decide +kernel
theorem dX9_share_3 : decode cX9_share 3 = .ok (.iload_n 2, 1) := by decide +kernel
theorem dX9_share_4 : decode cX9_share 4 = .ok (.iload_n 1, 1) := by decide +kernel
theorem dX9_share_5 : decode cX9_share 5 = .ok (.iload_n 0, 1) := by decide +kernel
theorem dX9_share_6 : decode cX9_share 6 = .ok (.iload_n 1, 1) := by decide +kernel
theorem dX9_share_7 : decode cX9_share 7 = .ok (.irem, 1) := by decide +kernel
theorem dX9_share_8 : decode cX9_share 8 = .ok (.isub, 1) := by decide +kernel
theorem dX9_share_9 : decode cX9_share 9 = .ok (.if_icmp .lt 7, 3) := by decide +kernel
theorem dX9_share_12 : decode cX9_share 12 = .ok (.iconst 1, 1) := by decide +kernel
theorem dX9_share_13 : decode cX9_share 13 = .ok (.goto 4, 3) := by decide +kernel
theorem dX9_share_16 : decode cX9_share 16 = .ok (.iconst 0, 1) := by decide +kernel
theorem dX9_share_17 : decode cX9_share 17 = .ok (.iadd, 1) := by decide +kernel
theorem dX9_share_18 : decode cX9_share 18 = .ok (.ireturn, 1) := by decide +kernel
set_option maxRecDepth 20000 in
theorem ggX9_sure_X9_isPerson : GoodIn wsX9_sure wsX9_isPerson := goodIn_r _ [8, 3, 9, 10, 7, 11, 35, 36, 37, 38, 39, 40, 41, 42, 43, 44, 45, 46, 47, 48, 49, 50, 51, 52, 53, 54, 55, 56, 57, 58, 59, 60, 61, 62, 63, 64, 65, 66, 67, 68] (by decide +kernel) (by decide +kernel)
set_option maxRecDepth 20000 in
theorem gX9_sure_X9_isPerson : GoodIn wsX9_sure (wsV RX9 116 RX9 yX9_isPerson wsX9_isPerson) := goodIn_app (goodIn_of _ (by decide +kernel)) ggX9_sure_X9_isPerson
set_option maxRecDepth 20000 in
theorem ggX9_sure_X9_in : GoodIn wsX9_sure wsX9_in := goodIn_r _ [11] (by decide +kernel) (by decide +kernel)
set_option maxRecDepth 20000 in
theorem gX9_sure_X9_in : GoodIn wsX9_sure (va_wsS RX9 69 yX9_in wsX9_in) := goodIn_app (goodIn_of _ (by decide +kernel)) ggX9_sure_X9_in
set_option maxRecDepth 20000 in
theorem ggX9_sure_X9_least : GoodIn wsX9_sure wsX9_least := goodIn_r _ [15, 3, 16, 17, 18, 7, 19, 20, 21, 22, 23, 24, 25, 26, 27, 28, 29, 30, 31, 35, 36, 37, 38, 39, 40, 41, 42, 43, 44, 45, 46, 47, 48, 49, 50, 51, 52, 53, 54, 55, 56, 57, 58, 59, 60, 61, 62, 63, 64, 65, 66, 67, 68] (by decide +kernel) (by decide +kernel)
set_option maxRecDepth 20000 in
theorem gX9_sure_X9_least : GoodIn wsX9_sure (wsV RX9 153 RX9 yX9_least wsX9_least) := goodIn_app (goodIn_of _ (by decide +kernel)) ggX9_sure_X9_least
set_option maxRecDepth 20000 in
theorem ggX9_sure_X9_share : GoodIn wsX9_sure wsX9_share := goodIn_r _ [34] (by decide +kernel) (by decide +kernel)
set_option maxRecDepth 20000 in
theorem gX9_sure_X9_share : GoodIn wsX9_sure (va_wsS RX9 156 yX9_share wsX9_share) := goodIn_app (goodIn_of _ (by decide +kernel)) ggX9_sure_X9_share
theorem dX9_sure_0 : decode cX9_sure 0 = .ok (.aload_n 0, 1) := by decide +kernel
theorem dX9_sure_1 : decode cX9_sure 1 = .ok (.iload_n 1, 1) := by decide +kernel
theorem dX9_sure_2 : decode cX9_sure 2 = .ok (.invokevirtual 116, 3) := by decide +kernel
theorem dX9_sure_5 : decode cX9_sure 5 = .ok (.ifCond .ne 5, 3) := by decide +kernel
theorem dX9_sure_8 : decode cX9_sure 8 = .ok (.iconst (-1), 1) := by decide +kernel
theorem dX9_sure_9 : decode cX9_sure 9 = .ok (.ireturn, 1) := by decide +kernel
theorem dX9_sure_10 : decode cX9_sure 10 = .ok (.iload_n 2, 1) := by decide +kernel
theorem dX9_sure_11 : decode cX9_sure 11 = .ok (.i2l, 1) := by decide +kernel
theorem dX9_sure_12 : decode cX9_sure 12 = .ok (.lconst 1, 1) := by decide +kernel
theorem dX9_sure_13 : decode cX9_sure 13 = .ok (.ldc2_w 151, 3) := by decide +kernel
theorem dX9_sure_16 : decode cX9_sure 16 = .ok (.invokestatic 69, 3) := by decide +kernel
theorem dX9_sure_19 : decode cX9_sure 19 = .ok (.ifCond .eq 15, 3) := by decide +kernel
theorem dX9_sure_22 : decode cX9_sure 22 = .ok (.iload_n 3, 1) := by decide +kernel
theorem dX9_sure_23 : decode cX9_sure 23 = .ok (.i2l, 1) := by decide +kernel
theorem dX9_sure_24 : decode cX9_sure 24 = .ok (.lconst 0, 1) := by decide +kernel
theorem dX9_sure_25 : decode cX9_sure 25 = .ok (.ldc2_w 132, 3) := by decide +kernel
theorem dX9_sure_28 : decode cX9_sure 28 = .ok (.invokestatic 69, 3) := by decide +kernel
theorem dX9_sure_31 : decode cX9_sure 31 = .ok (.ifCond .ne 6, 3) := by decide +kernel
theorem dX9_sure_34 : decode cX9_sure 34 = .ok (.bipush (-2), 2) := by decide +kernel
theorem dX9_sure_36 : decode cX9_sure 36 = .ok (.ireturn, 1) := by decide +kernel
theorem dX9_sure_37 : decode cX9_sure 37 = .ok (.aload_n 0, 1) := by decide +kernel
theorem dX9_sure_38 : decode cX9_sure 38 = .ok (.getfield 104, 3) := by decide +kernel
theorem dX9_sure_41 : decode cX9_sure 41 = .ok (.iconst 1, 1) := by decide +kernel
theorem dX9_sure_42 : decode cX9_sure 42 = .ok (.if_icmp .ne 6, 3) := by decide +kernel
theorem dX9_sure_45 : decode cX9_sure 45 = .ok (.bipush (-3), 2) := by decide +kernel
theorem dX9_sure_47 : decode cX9_sure 47 = .ok (.ireturn, 1) := by decide +kernel
theorem dX9_sure_48 : decode cX9_sure 48 = .ok (.aload_n 0, 1) := by decide +kernel
theorem dX9_sure_49 : decode cX9_sure 49 = .ok (.iload_n 1, 1) := by decide +kernel
theorem dX9_sure_50 : decode cX9_sure 50 = .ok (.iload_n 2, 1) := by decide +kernel
theorem dX9_sure_51 : decode cX9_sure 51 = .ok (.iload_n 3, 1) := by decide +kernel
theorem dX9_sure_52 : decode cX9_sure 52 = .ok (.invokevirtual 153, 3) := by decide +kernel
theorem dX9_sure_55 : decode cX9_sure 55 = .ok (.istore 4, 2) := by decide +kernel
theorem dX9_sure_57 : decode cX9_sure 57 = .ok (.iconst 0, 1) := by decide +kernel
theorem dX9_sure_58 : decode cX9_sure 58 = .ok (.istore 5, 2) := by decide +kernel
theorem dX9_sure_60 : decode cX9_sure 60 = .ok (.iconst 0, 1) := by decide +kernel
theorem dX9_sure_61 : decode cX9_sure 61 = .ok (.istore 6, 2) := by decide +kernel
theorem dX9_sure_63 : decode cX9_sure 63 = .ok (.iload 6, 2) := by decide +kernel
theorem dX9_sure_65 : decode cX9_sure 65 = .ok (.iload_n 2, 1) := by decide +kernel
theorem dX9_sure_66 : decode cX9_sure 66 = .ok (.if_icmp .ge 38, 3) := by decide +kernel
theorem dX9_sure_69 : decode cX9_sure 69 = .ok (.iload 4, 2) := by decide +kernel
theorem dX9_sure_71 : decode cX9_sure 71 = .ok (.bipush (-9), 2) := by decide +kernel
theorem dX9_sure_73 : decode cX9_sure 73 = .ok (.if_icmp .eq 31, 3) := by decide +kernel
theorem dX9_sure_76 : decode cX9_sure 76 = .ok (.iload 5, 2) := by decide +kernel
theorem dX9_sure_78 : decode cX9_sure 78 = .ok (.iload 4, 2) := by decide +kernel
theorem dX9_sure_80 : decode cX9_sure 80 = .ok (.iload_n 2, 1) := by decide +kernel
theorem dX9_sure_81 : decode cX9_sure 81 = .ok (.iload 6, 2) := by decide +kernel
theorem dX9_sure_83 : decode cX9_sure 83 = .ok (.invokestatic 156, 3) := by decide +kernel
theorem dX9_sure_86 : decode cX9_sure 86 = .ok (.iload 4, 2) := by decide +kernel
theorem dX9_sure_88 : decode cX9_sure 88 = .ok (.iload_n 2, 1) := by decide +kernel
theorem dX9_sure_89 : decode cX9_sure 89 = .ok (.iload 6, 2) := by decide +kernel
theorem dX9_sure_91 : decode cX9_sure 91 = .ok (.invokestatic 156, 3) := by decide +kernel
theorem dX9_sure_94 : decode cX9_sure 94 = .ok (.imul, 1) := by decide +kernel
theorem dX9_sure_95 : decode cX9_sure 95 = .ok (.iadd, 1) := by decide +kernel
theorem dX9_sure_96 : decode cX9_sure 96 = .ok (.istore 5, 2) := by decide +kernel
theorem dX9_sure_98 : decode cX9_sure 98 = .ok (.iinc 6 1, 3) := by decide +kernel
theorem dX9_sure_101 : decode cX9_sure 101 = .ok (.goto (-38), 3) := by decide +kernel
theorem dX9_sure_104 : decode cX9_sure 104 = .ok (.iload 4, 2) := by decide +kernel
theorem dX9_sure_106 : decode cX9_sure 106 = .ok (.bipush (-9), 2) := by decide +kernel
theorem dX9_sure_108 : decode cX9_sure 108 = .ok (.if_icmp .ne 8, 3) := by decide +kernel
theorem dX9_sure_111 : decode cX9_sure 111 = .ok (.bipush (-9), 2) := by decide +kernel
theorem dX9_sure_113 : decode cX9_sure 113 = .ok (.goto 5, 3) := by decide +kernel
theorem dX9_sure_116 : decode cX9_sure 116 = .ok (.iload 5, 2) := by decide +kernel
theorem dX9_sure_118 : decode cX9_sure 118 = .ok (.ireturn, 1) := by decide +kernel
set_option maxRecDepth 20000 in
theorem ggX9_sureAt_X9_isPerson : GoodIn wsX9_sureAt wsX9_isPerson := goodIn_r _ [8, 3, 9, 10, 7, 11, 35, 36, 37, 38, 39, 40, 41, 42, 43, 44, 45, 46, 47, 48, 49, 50, 51, 52, 53, 54, 55, 56, 57, 58, 59, 60, 61, 62, 63, 64, 65, 66, 67, 68] (by decide +kernel) (by decide +kernel)
set_option maxRecDepth 20000 in
theorem gX9_sureAt_X9_isPerson : GoodIn wsX9_sureAt (wsV RX9 116 RX9 yX9_isPerson wsX9_isPerson) := goodIn_app (goodIn_of _ (by decide +kernel)) ggX9_sureAt_X9_isPerson
set_option maxRecDepth 20000 in
theorem ggX9_sureAt_X9_in : GoodIn wsX9_sureAt wsX9_in := goodIn_r _ [11] (by decide +kernel) (by decide +kernel)
set_option maxRecDepth 20000 in
theorem gX9_sureAt_X9_in : GoodIn wsX9_sureAt (va_wsS RX9 69 yX9_in wsX9_in) := goodIn_app (goodIn_of _ (by decide +kernel)) ggX9_sureAt_X9_in
set_option maxRecDepth 20000 in
theorem ggX9_sureAt_X9_least : GoodIn wsX9_sureAt wsX9_least := goodIn_r _ [15, 3, 16, 17, 18, 7, 19, 20, 21, 22, 23, 24, 25, 26, 27, 28, 29, 30, 31, 35, 36, 37, 38, 39, 40, 41, 42, 43, 44, 45, 46, 47, 48, 49, 50, 51, 52, 53, 54, 55, 56, 57, 58, 59, 60, 61, 62, 63, 64, 65, 66, 67, 68] (by decide +kernel) (by decide +kernel)
set_option maxRecDepth 20000 in
theorem gX9_sureAt_X9_least : GoodIn wsX9_sureAt (wsV RX9 153 RX9 yX9_least wsX9_least) := goodIn_app (goodIn_of _ (by decide +kernel)) ggX9_sureAt_X9_least
set_option maxRecDepth 20000 in
theorem ggX9_sureAt_X9_share : GoodIn wsX9_sureAt wsX9_share := goodIn_r _ [34] (by decide +kernel) (by decide +kernel)
set_option maxRecDepth 20000 in
theorem gX9_sureAt_X9_share : GoodIn wsX9_sureAt (va_wsS RX9 156 yX9_share wsX9_share) := goodIn_app (goodIn_of _ (by decide +kernel)) ggX9_sureAt_X9_share
theorem dX9_sureAt_0 : decode cX9_sureAt 0 = .ok (.aload_n 0, 1) := by decide +kernel
theorem dX9_sureAt_1 : decode cX9_sureAt 1 = .ok (.iload_n 1, 1) := by decide +kernel
theorem dX9_sureAt_2 : decode cX9_sureAt 2 = .ok (.invokevirtual 116, 3) := by decide +kernel
theorem dX9_sureAt_5 : decode cX9_sureAt 5 = .ok (.ifCond .ne 5, 3) := by decide +kernel
theorem dX9_sureAt_8 : decode cX9_sureAt 8 = .ok (.iconst (-1), 1) := by decide +kernel
theorem dX9_sureAt_9 : decode cX9_sureAt 9 = .ok (.ireturn, 1) := by decide +kernel
theorem dX9_sureAt_10 : decode cX9_sureAt 10 = .ok (.iload_n 2, 1) := by decide +kernel
theorem dX9_sureAt_11 : decode cX9_sureAt 11 = .ok (.i2l, 1) := by decide +kernel
theorem dX9_sureAt_12 : decode cX9_sureAt 12 = .ok (.lconst 1, 1) := by decide +kernel
theorem dX9_sureAt_13 : decode cX9_sureAt 13 = .ok (.ldc2_w 151, 3) := by decide +kernel
theorem dX9_sureAt_16 : decode cX9_sureAt 16 = .ok (.invokestatic 69, 3) := by decide +kernel
theorem dX9_sureAt_19 : decode cX9_sureAt 19 = .ok (.ifCond .eq 15, 3) := by decide +kernel
theorem dX9_sureAt_22 : decode cX9_sureAt 22 = .ok (.iload_n 3, 1) := by decide +kernel
theorem dX9_sureAt_23 : decode cX9_sureAt 23 = .ok (.i2l, 1) := by decide +kernel
theorem dX9_sureAt_24 : decode cX9_sureAt 24 = .ok (.lconst 0, 1) := by decide +kernel
theorem dX9_sureAt_25 : decode cX9_sureAt 25 = .ok (.ldc2_w 132, 3) := by decide +kernel
theorem dX9_sureAt_28 : decode cX9_sureAt 28 = .ok (.invokestatic 69, 3) := by decide +kernel
theorem dX9_sureAt_31 : decode cX9_sureAt 31 = .ok (.ifCond .ne 6, 3) := by decide +kernel
theorem dX9_sureAt_34 : decode cX9_sureAt 34 = .ok (.bipush (-2), 2) := by decide +kernel
theorem dX9_sureAt_36 : decode cX9_sureAt 36 = .ok (.ireturn, 1) := by decide +kernel
theorem dX9_sureAt_37 : decode cX9_sureAt 37 = .ok (.aload_n 0, 1) := by decide +kernel
theorem dX9_sureAt_38 : decode cX9_sureAt 38 = .ok (.getfield 104, 3) := by decide +kernel
theorem dX9_sureAt_41 : decode cX9_sureAt 41 = .ok (.iconst 1, 1) := by decide +kernel
theorem dX9_sureAt_42 : decode cX9_sureAt 42 = .ok (.if_icmp .ne 6, 3) := by decide +kernel
theorem dX9_sureAt_45 : decode cX9_sureAt 45 = .ok (.bipush (-3), 2) := by decide +kernel
theorem dX9_sureAt_47 : decode cX9_sureAt 47 = .ok (.ireturn, 1) := by decide +kernel
theorem dX9_sureAt_48 : decode cX9_sureAt 48 = .ok (.aload_n 0, 1) := by decide +kernel
theorem dX9_sureAt_49 : decode cX9_sureAt 49 = .ok (.iload_n 1, 1) := by decide +kernel
theorem dX9_sureAt_50 : decode cX9_sureAt 50 = .ok (.iload_n 2, 1) := by decide +kernel
theorem dX9_sureAt_51 : decode cX9_sureAt 51 = .ok (.iload_n 3, 1) := by decide +kernel
theorem dX9_sureAt_52 : decode cX9_sureAt 52 = .ok (.invokevirtual 153, 3) := by decide +kernel
theorem dX9_sureAt_55 : decode cX9_sureAt 55 = .ok (.istore 5, 2) := by decide +kernel
theorem dX9_sureAt_57 : decode cX9_sureAt 57 = .ok (.iload 5, 2) := by decide +kernel
theorem dX9_sureAt_59 : decode cX9_sureAt 59 = .ok (.bipush (-9), 2) := by decide +kernel
theorem dX9_sureAt_61 : decode cX9_sureAt 61 = .ok (.if_icmp .eq 17, 3) := by decide +kernel
theorem dX9_sureAt_64 : decode cX9_sureAt 64 = .ok (.iload 4, 2) := by decide +kernel
theorem dX9_sureAt_66 : decode cX9_sureAt 66 = .ok (.i2l, 1) := by decide +kernel
theorem dX9_sureAt_67 : decode cX9_sureAt 67 = .ok (.lconst 0, 1) := by decide +kernel
theorem dX9_sureAt_68 : decode cX9_sureAt 68 = .ok (.iload_n 2, 1) := by decide +kernel
theorem dX9_sureAt_69 : decode cX9_sureAt 69 = .ok (.iconst 1, 1) := by decide +kernel
theorem dX9_sureAt_70 : decode cX9_sureAt 70 = .ok (.isub, 1) := by decide +kernel
theorem dX9_sureAt_71 : decode cX9_sureAt 71 = .ok (.i2l, 1) := by decide +kernel
theorem dX9_sureAt_72 : decode cX9_sureAt 72 = .ok (.invokestatic 69, 3) := by decide +kernel
theorem dX9_sureAt_75 : decode cX9_sureAt 75 = .ok (.ifCond .ne 8, 3) := by decide +kernel
theorem dX9_sureAt_78 : decode cX9_sureAt 78 = .ok (.bipush (-9), 2) := by decide +kernel
theorem dX9_sureAt_80 : decode cX9_sureAt 80 = .ok (.goto 11, 3) := by decide +kernel
theorem dX9_sureAt_83 : decode cX9_sureAt 83 = .ok (.iload 5, 2) := by decide +kernel
theorem dX9_sureAt_85 : decode cX9_sureAt 85 = .ok (.iload_n 2, 1) := by decide +kernel
theorem dX9_sureAt_86 : decode cX9_sureAt 86 = .ok (.iload 4, 2) := by decide +kernel
theorem dX9_sureAt_88 : decode cX9_sureAt 88 = .ok (.invokestatic 156, 3) := by decide +kernel
theorem dX9_sureAt_91 : decode cX9_sureAt 91 = .ok (.ireturn, 1) := by decide +kernel
set_option maxRecDepth 20000 in
theorem ggX9_feed_X9_isPerson : GoodIn wsX9_feed wsX9_isPerson := goodIn_r _ [6, 1, 7, 8, 5, 9, 18, 19, 20, 21, 22, 23, 24, 25, 26, 27, 28, 29, 30, 31, 32, 33, 34, 35, 36, 37, 38, 39, 40, 41, 42, 43, 44, 45, 46, 47, 48, 49, 50, 51] (by decide +kernel) (by decide +kernel)
set_option maxRecDepth 20000 in
theorem gX9_feed_X9_isPerson : GoodIn wsX9_feed (wsV RX9 116 RX9 yX9_isPerson wsX9_isPerson) := goodIn_app (goodIn_of _ (by decide +kernel)) ggX9_feed_X9_isPerson
set_option maxRecDepth 20000 in
theorem ggX9_feed_X9_noonOf : GoodIn wsX9_feed wsX9_noonOf := goodIn_r _ [13, 14, 18, 19, 20, 21, 22, 23, 24, 25, 26, 27, 28, 29, 30, 31, 32, 33, 34, 35, 36, 37, 38, 39, 40, 41, 42, 43, 44, 45, 46, 47, 48, 49, 50, 51] (by decide +kernel) (by decide +kernel)
set_option maxRecDepth 20000 in
theorem gX9_feed_X9_noonOf : GoodIn wsX9_feed (wsV RX9 120 RX9 yX9_noonOf wsX9_noonOf) := goodIn_app (goodIn_of _ (by decide +kernel)) ggX9_feed_X9_noonOf
set_option maxRecDepth 20000 in
theorem ggX9_feed_X9_isLighter : GoodIn wsX9_feed wsX9_isLighter := goodIn_r _ [17] (by decide +kernel) (by decide +kernel)
set_option maxRecDepth 20000 in
theorem gX9_feed_X9_isLighter : GoodIn wsX9_feed (va_wsS RX9 140 yX9_isLighter wsX9_isLighter) := goodIn_app (goodIn_of _ (by decide +kernel)) ggX9_feed_X9_isLighter
theorem dX9_feed_0 : decode cX9_feed 0 = .ok (.aload_n 0, 1) := by decide +kernel
theorem dX9_feed_1 : decode cX9_feed 1 = .ok (.iload_n 1, 1) := by decide +kernel
theorem dX9_feed_2 : decode cX9_feed 2 = .ok (.invokevirtual 116, 3) := by decide +kernel
theorem dX9_feed_5 : decode cX9_feed 5 = .ok (.ifCond .ne 5, 3) := by decide +kernel
theorem dX9_feed_8 : decode cX9_feed 8 = .ok (.iconst (-1), 1) := by decide +kernel
theorem dX9_feed_9 : decode cX9_feed 9 = .ok (.ireturn, 1) := by decide +kernel
theorem dX9_feed_10 : decode cX9_feed 10 = .ok (.iconst 0, 1) := by decide +kernel
theorem dX9_feed_11 : decode cX9_feed 11 = .ok (.istore_n 2, 1) := by decide +kernel
theorem dX9_feed_12 : decode cX9_feed 12 = .ok (.iconst 0, 1) := by decide +kernel
theorem dX9_feed_13 : decode cX9_feed 13 = .ok (.istore_n 3, 1) := by decide +kernel
theorem dX9_feed_14 : decode cX9_feed 14 = .ok (.iload_n 3, 1) := by decide +kernel
theorem dX9_feed_15 : decode cX9_feed 15 = .ok (.aload_n 0, 1) := by decide +kernel
theorem dX9_feed_16 : decode cX9_feed 16 = .ok (.getfield 104, 3) := by decide +kernel
theorem dX9_feed_19 : decode cX9_feed 19 = .ok (.if_icmp .ge 45, 3) := by decide +kernel
theorem dX9_feed_22 : decode cX9_feed 22 = .ok (.aload_n 0, 1) := by decide +kernel
theorem dX9_feed_23 : decode cX9_feed 23 = .ok (.iload_n 3, 1) := by decide +kernel
theorem dX9_feed_24 : decode cX9_feed 24 = .ok (.invokevirtual 120, 3) := by decide +kernel
theorem dX9_feed_27 : decode cX9_feed 27 = .ok (.istore 4, 2) := by decide +kernel
theorem dX9_feed_29 : decode cX9_feed 29 = .ok (.iload_n 3, 1) := by decide +kernel
theorem dX9_feed_30 : decode cX9_feed 30 = .ok (.iload_n 1, 1) := by decide +kernel
theorem dX9_feed_31 : decode cX9_feed 31 = .ok (.if_icmp .eq 27, 3) := by decide +kernel
theorem dX9_feed_34 : decode cX9_feed 34 = .ok (.aload_n 0, 1) := by decide +kernel
theorem dX9_feed_35 : decode cX9_feed 35 = .ok (.iload_n 1, 1) := by decide +kernel
theorem dX9_feed_36 : decode cX9_feed 36 = .ok (.invokevirtual 120, 3) := by decide +kernel
theorem dX9_feed_39 : decode cX9_feed 39 = .ok (.iload_n 1, 1) := by decide +kernel
theorem dX9_feed_40 : decode cX9_feed 40 = .ok (.iload 4, 2) := by decide +kernel
theorem dX9_feed_42 : decode cX9_feed 42 = .ok (.iload_n 3, 1) := by decide +kernel
theorem dX9_feed_43 : decode cX9_feed 43 = .ok (.invokestatic 140, 3) := by decide +kernel
theorem dX9_feed_46 : decode cX9_feed 46 = .ok (.ifCond .ne 12, 3) := by decide +kernel
theorem dX9_feed_49 : decode cX9_feed 49 = .ok (.iinc 4 8, 3) := by decide +kernel
theorem dX9_feed_52 : decode cX9_feed 52 = .ok (.iinc 2 1, 3) := by decide +kernel
theorem dX9_feed_55 : decode cX9_feed 55 = .ok (.goto (-26), 3) := by decide +kernel
theorem dX9_feed_58 : decode cX9_feed 58 = .ok (.iinc 3 1, 3) := by decide +kernel
theorem dX9_feed_61 : decode cX9_feed 61 = .ok (.goto (-47), 3) := by decide +kernel
theorem dX9_feed_64 : decode cX9_feed 64 = .ok (.iload_n 2, 1) := by decide +kernel
theorem dX9_feed_65 : decode cX9_feed 65 = .ok (.ireturn, 1) := by decide +kernel
theorem dX9_ones_0 : decode cX9_ones 0 = .ok (.iconst 0, 1) := by decide +kernel
theorem dX9_ones_1 : decode cX9_ones 1 = .ok (.istore_n 1, 1) := by decide +kernel
theorem dX9_ones_2 : decode cX9_ones 2 = .ok (.iconst 0, 1) := by decide +kernel
theorem dX9_ones_3 : decode cX9_ones 3 = .ok (.istore_n 2, 1) := by decide +kernel
theorem dX9_ones_4 : decode cX9_ones 4 = .ok (.iload_n 2, 1) := by decide +kernel
theorem dX9_ones_5 : decode cX9_ones 5 = .ok (.bipush 9, 2) := by decide +kernel
theorem dX9_ones_7 : decode cX9_ones 7 = .ok (.if_icmp .ge 17, 3) := by decide +kernel
theorem dX9_ones_10 : decode cX9_ones 10 = .ok (.iload_n 1, 1) := by decide +kernel
theorem dX9_ones_11 : decode cX9_ones 11 = .ok (.iload_n 0, 1) := by decide +kernel
theorem dX9_ones_12 : decode cX9_ones 12 = .ok (.iload_n 2, 1) := by decide +kernel
theorem dX9_ones_13 : decode cX9_ones 13 = .ok (.ishr, 1) := by decide +kernel
theorem dX9_ones_14 : decode cX9_ones 14 = .ok (.iconst 1, 1) := by decide +kernel
theorem dX9_ones_15 : decode cX9_ones 15 = .ok (.iand, 1) := by decide +kernel
theorem dX9_ones_16 : decode cX9_ones 16 = .ok (.iadd, 1) := by decide +kernel
theorem dX9_ones_17 : decode cX9_ones 17 = .ok (.istore_n 1, 1) := by decide +kernel
theorem dX9_ones_18 : decode cX9_ones 18 = .ok (.iinc 2 1, 3) := by decide +kernel
theorem dX9_ones_21 : decode cX9_ones 21 = .ok (.goto (-17), 3) := by decide +kernel
theorem dX9_ones_24 : decode cX9_ones 24 = .ok (.iload_n 1, 1) := by decide +kernel
theorem dX9_ones_25 : decode cX9_ones 25 = .ok (.ireturn, 1) := by decide +kernel
set_option maxRecDepth 20000 in
theorem ggX9_weigh_X9_in : GoodIn wsX9_weigh wsX9_in := goodIn_r _ [10] (by decide +kernel) (by decide +kernel)
set_option maxRecDepth 20000 in
theorem gX9_weigh_X9_in : GoodIn wsX9_weigh (va_wsS RX9 69 yX9_in wsX9_in) := goodIn_app (goodIn_of _ (by decide +kernel)) ggX9_weigh_X9_in
set_option maxRecDepth 20000 in
theorem ggX9_weigh_X9_ones : GoodIn wsX9_weigh wsX9_ones := goodIn_r _ [13] (by decide +kernel) (by decide +kernel)
set_option maxRecDepth 20000 in
theorem gX9_weigh_X9_ones : GoodIn wsX9_weigh (va_wsS RX9 161 yX9_ones wsX9_ones) := goodIn_app (goodIn_of _ (by decide +kernel)) ggX9_weigh_X9_ones
theorem dX9_weigh_0 : decode cX9_weigh 0 = .ok (.iload_n 1, 1) := by decide +kernel
theorem dX9_weigh_1 : decode cX9_weigh 1 = .ok (.i2l, 1) := by decide +kernel
theorem dX9_weigh_2 : decode cX9_weigh 2 = .ok (.lconst 1, 1) := by decide +kernel
theorem dX9_weigh_3 : decode cX9_weigh 3 = .ok (.ldc2_w 159, 3) := by decide +kernel
theorem dX9_weigh_6 : decode cX9_weigh 6 = .ok (.invokestatic 69, 3) := by decide +kernel
theorem dX9_weigh_9 : decode cX9_weigh 9 = .ok (.ifCond .eq 44, 3) := by decide +kernel
theorem dX9_weigh_12 : decode cX9_weigh 12 = .ok (.iload_n 2, 1) := by decide +kernel
theorem dX9_weigh_13 : decode cX9_weigh 13 = .ok (.i2l, 1) := by decide +kernel
theorem dX9_weigh_14 : decode cX9_weigh 14 = .ok (.lconst 1, 1) := by decide +kernel
theorem dX9_weigh_15 : decode cX9_weigh 15 = .ok (.ldc2_w 159, 3) := by decide +kernel
theorem dX9_weigh_18 : decode cX9_weigh 18 = .ok (.invokestatic 69, 3) := by decide +kernel
theorem dX9_weigh_21 : decode cX9_weigh 21 = .ok (.ifCond .eq 32, 3) := by decide +kernel
theorem dX9_weigh_24 : decode cX9_weigh 24 = .ok (.iload_n 1, 1) := by decide +kernel
theorem dX9_weigh_25 : decode cX9_weigh 25 = .ok (.iload_n 2, 1) := by decide +kernel
theorem dX9_weigh_26 : decode cX9_weigh 26 = .ok (.iand, 1) := by decide +kernel
theorem dX9_weigh_27 : decode cX9_weigh 27 = .ok (.ifCond .ne 26, 3) := by decide +kernel
theorem dX9_weigh_30 : decode cX9_weigh 30 = .ok (.iload_n 1, 1) := by decide +kernel
theorem dX9_weigh_31 : decode cX9_weigh 31 = .ok (.invokestatic 161, 3) := by decide +kernel
theorem dX9_weigh_34 : decode cX9_weigh 34 = .ok (.iload_n 2, 1) := by decide +kernel
theorem dX9_weigh_35 : decode cX9_weigh 35 = .ok (.invokestatic 161, 3) := by decide +kernel
theorem dX9_weigh_38 : decode cX9_weigh 38 = .ok (.if_icmp .ne 15, 3) := by decide +kernel
theorem dX9_weigh_41 : decode cX9_weigh 41 = .ok (.iload_n 3, 1) := by decide +kernel
theorem dX9_weigh_42 : decode cX9_weigh 42 = .ok (.i2l, 1) := by decide +kernel
theorem dX9_weigh_43 : decode cX9_weigh 43 = .ok (.lconst 0, 1) := by decide +kernel
theorem dX9_weigh_44 : decode cX9_weigh 44 = .ok (.ldc2_w 127, 3) := by decide +kernel
theorem dX9_weigh_47 : decode cX9_weigh 47 = .ok (.invokestatic 69, 3) := by decide +kernel
theorem dX9_weigh_50 : decode cX9_weigh 50 = .ok (.ifCond .ne 6, 3) := by decide +kernel
theorem dX9_weigh_53 : decode cX9_weigh 53 = .ok (.bipush (-2), 2) := by decide +kernel
theorem dX9_weigh_55 : decode cX9_weigh 55 = .ok (.ireturn, 1) := by decide +kernel
theorem dX9_weigh_56 : decode cX9_weigh 56 = .ok (.aload_n 0, 1) := by decide +kernel
theorem dX9_weigh_57 : decode cX9_weigh 57 = .ok (.getfield 164, 3) := by decide +kernel
theorem dX9_weigh_60 : decode cX9_weigh 60 = .ok (.bipush 10, 2) := by decide +kernel
theorem dX9_weigh_62 : decode cX9_weigh 62 = .ok (.if_icmp .ne 6, 3) := by decide +kernel
theorem dX9_weigh_65 : decode cX9_weigh 65 = .ok (.bipush (-4), 2) := by decide +kernel
theorem dX9_weigh_67 : decode cX9_weigh 67 = .ok (.ireturn, 1) := by decide +kernel
theorem dX9_weigh_68 : decode cX9_weigh 68 = .ok (.aload_n 0, 1) := by decide +kernel
theorem dX9_weigh_69 : decode cX9_weigh 69 = .ok (.getfield 22, 3) := by decide +kernel
theorem dX9_weigh_72 : decode cX9_weigh 72 = .ok (.aload_n 0, 1) := by decide +kernel
theorem dX9_weigh_73 : decode cX9_weigh 73 = .ok (.getfield 164, 3) := by decide +kernel
theorem dX9_weigh_76 : decode cX9_weigh 76 = .ok (.iload_n 1, 1) := by decide +kernel
theorem dX9_weigh_77 : decode cX9_weigh 77 = .ok (.iastore, 1) := by decide +kernel
theorem dX9_weigh_78 : decode cX9_weigh 78 = .ok (.aload_n 0, 1) := by decide +kernel
theorem dX9_weigh_79 : decode cX9_weigh 79 = .ok (.getfield 25, 3) := by decide +kernel
theorem dX9_weigh_82 : decode cX9_weigh 82 = .ok (.aload_n 0, 1) := by decide +kernel
theorem dX9_weigh_83 : decode cX9_weigh 83 = .ok (.getfield 164, 3) := by decide +kernel
theorem dX9_weigh_86 : decode cX9_weigh 86 = .ok (.iload_n 2, 1) := by decide +kernel
theorem dX9_weigh_87 : decode cX9_weigh 87 = .ok (.iastore, 1) := by decide +kernel
theorem dX9_weigh_88 : decode cX9_weigh 88 = .ok (.aload_n 0, 1) := by decide +kernel
theorem dX9_weigh_89 : decode cX9_weigh 89 = .ok (.getfield 28, 3) := by decide +kernel
theorem dX9_weigh_92 : decode cX9_weigh 92 = .ok (.aload_n 0, 1) := by decide +kernel
theorem dX9_weigh_93 : decode cX9_weigh 93 = .ok (.getfield 164, 3) := by decide +kernel
theorem dX9_weigh_96 : decode cX9_weigh 96 = .ok (.iload_n 3, 1) := by decide +kernel
theorem dX9_weigh_97 : decode cX9_weigh 97 = .ok (.iastore, 1) := by decide +kernel
theorem dX9_weigh_98 : decode cX9_weigh 98 = .ok (.aload_n 0, 1) := by decide +kernel
theorem dX9_weigh_99 : decode cX9_weigh 99 = .ok (.dup, 1) := by decide +kernel
theorem dX9_weigh_100 : decode cX9_weigh 100 = .ok (.getfield 164, 3) := by decide +kernel
theorem dX9_weigh_103 : decode cX9_weigh 103 = .ok (.iconst 1, 1) := by decide +kernel
theorem dX9_weigh_104 : decode cX9_weigh 104 = .ok (.iadd, 1) := by decide +kernel
theorem dX9_weigh_105 : decode cX9_weigh 105 = .ok (.putfield 164, 3) := by decide +kernel
theorem dX9_weigh_108 : decode cX9_weigh 108 = .ok (.aload_n 0, 1) := by decide +kernel
theorem dX9_weigh_109 : decode cX9_weigh 109 = .ok (.getfield 164, 3) := by decide +kernel
theorem dX9_weigh_112 : decode cX9_weigh 112 = .ok (.ireturn, 1) := by decide +kernel
theorem dX9_unweigh_0 : decode cX9_unweigh 0 = .ok (.aload_n 0, 1) := by decide +kernel
theorem dX9_unweigh_1 : decode cX9_unweigh 1 = .ok (.getfield 164, 3) := by decide +kernel
theorem dX9_unweigh_4 : decode cX9_unweigh 4 = .ok (.istore_n 1, 1) := by decide +kernel
theorem dX9_unweigh_5 : decode cX9_unweigh 5 = .ok (.aload_n 0, 1) := by decide +kernel
theorem dX9_unweigh_6 : decode cX9_unweigh 6 = .ok (.iconst 0, 1) := by decide +kernel
theorem dX9_unweigh_7 : decode cX9_unweigh 7 = .ok (.putfield 164, 3) := by decide +kernel
theorem dX9_unweigh_10 : decode cX9_unweigh 10 = .ok (.iload_n 1, 1) := by decide +kernel
theorem dX9_unweigh_11 : decode cX9_unweigh 11 = .ok (.ireturn, 1) := by decide +kernel
theorem dX9_mayBe_0 : decode cX9_mayBe 0 = .ok (.iconst 0, 1) := by decide +kernel
theorem dX9_mayBe_1 : decode cX9_mayBe 1 = .ok (.istore_n 2, 1) := by decide +kernel
theorem dX9_mayBe_2 : decode cX9_mayBe 2 = .ok (.iconst 0, 1) := by decide +kernel
theorem dX9_mayBe_3 : decode cX9_mayBe 3 = .ok (.istore_n 3, 1) := by decide +kernel
theorem dX9_mayBe_4 : decode cX9_mayBe 4 = .ok (.iload_n 3, 1) := by decide +kernel
theorem dX9_mayBe_5 : decode cX9_mayBe 5 = .ok (.bipush 9, 2) := by decide +kernel
theorem dX9_mayBe_7 : decode cX9_mayBe 7 = .ok (.if_icmp .ge 140, 3) := by decide +kernel
theorem dX9_mayBe_10 : decode cX9_mayBe 10 = .ok (.iconst 1, 1) := by decide +kernel
theorem dX9_mayBe_11 : decode cX9_mayBe 11 = .ok (.istore 4, 2) := by decide +kernel
theorem dX9_mayBe_13 : decode cX9_mayBe 13 = .ok (.iconst 0, 1) := by decide +kernel
theorem dX9_mayBe_14 : decode cX9_mayBe 14 = .ok (.istore 5, 2) := by decide +kernel
theorem dX9_mayBe_16 : decode cX9_mayBe 16 = .ok (.iload 5, 2) := by decide +kernel
theorem dX9_mayBe_18 : decode cX9_mayBe 18 = .ok (.aload_n 0, 1) := by decide +kernel
theorem dX9_mayBe_19 : decode cX9_mayBe 19 = .ok (.getfield 164, 3) := by decide +kernel
theorem dX9_mayBe_22 : decode cX9_mayBe 22 = .ok (.if_icmp .ge 104, 3) := by decide +kernel
theorem dX9_mayBe_25 : decode cX9_mayBe 25 = .ok (.aload_n 0, 1) := by decide +kernel
theorem dX9_mayBe_26 : decode cX9_mayBe 26 = .ok (.getfield 22, 3) := by decide +kernel
theorem dX9_mayBe_29 : decode cX9_mayBe 29 = .ok (.iload 5, 2) := by decide +kernel
theorem dX9_mayBe_31 : decode cX9_mayBe 31 = .ok (.iaload, 1) := by decide +kernel
theorem dX9_mayBe_32 : decode cX9_mayBe 32 = .ok (.iload_n 3, 1) := by decide +kernel
theorem dX9_mayBe_33 : decode cX9_mayBe 33 = .ok (.ishr, 1) := by decide +kernel
theorem dX9_mayBe_34 : decode cX9_mayBe 34 = .ok (.iconst 1, 1) := by decide +kernel
theorem dX9_mayBe_35 : decode cX9_mayBe 35 = .ok (.iand, 1) := by decide +kernel
theorem dX9_mayBe_36 : decode cX9_mayBe 36 = .ok (.iconst 1, 1) := by decide +kernel
theorem dX9_mayBe_37 : decode cX9_mayBe 37 = .ok (.if_icmp .ne 7, 3) := by decide +kernel
theorem dX9_mayBe_40 : decode cX9_mayBe 40 = .ok (.iconst 1, 1) := by decide +kernel
theorem dX9_mayBe_41 : decode cX9_mayBe 41 = .ok (.goto 4, 3) := by decide +kernel
theorem dX9_mayBe_44 : decode cX9_mayBe 44 = .ok (.iconst 0, 1) := by decide +kernel
theorem dX9_mayBe_45 : decode cX9_mayBe 45 = .ok (.istore 6, 2) := by decide +kernel
theorem dX9_mayBe_47 : decode cX9_mayBe 47 = .ok (.aload_n 0, 1) := by decide +kernel
theorem dX9_mayBe_48 : decode cX9_mayBe 48 = .ok (.getfield 25, 3) := by decide +kernel
theorem dX9_mayBe_51 : decode cX9_mayBe 51 = .ok (.iload 5, 2) := by decide +kernel
theorem dX9_mayBe_53 : decode cX9_mayBe 53 = .ok (.iaload, 1) := by decide +kernel
theorem dX9_mayBe_54 : decode cX9_mayBe 54 = .ok (.iload_n 3, 1) := by decide +kernel
theorem dX9_mayBe_55 : decode cX9_mayBe 55 = .ok (.ishr, 1) := by decide +kernel
theorem dX9_mayBe_56 : decode cX9_mayBe 56 = .ok (.iconst 1, 1) := by decide +kernel
theorem dX9_mayBe_57 : decode cX9_mayBe 57 = .ok (.iand, 1) := by decide +kernel
theorem dX9_mayBe_58 : decode cX9_mayBe 58 = .ok (.iconst 1, 1) := by decide +kernel
theorem dX9_mayBe_59 : decode cX9_mayBe 59 = .ok (.if_icmp .ne 7, 3) := by decide +kernel
theorem dX9_mayBe_62 : decode cX9_mayBe 62 = .ok (.iconst 1, 1) := by decide +kernel
theorem dX9_mayBe_63 : decode cX9_mayBe 63 = .ok (.goto 4, 3) := by decide +kernel
theorem dX9_mayBe_66 : decode cX9_mayBe 66 = .ok (.iconst 0, 1) := by decide +kernel
theorem dX9_mayBe_67 : decode cX9_mayBe 67 = .ok (.istore 7, 2) := by decide +kernel
theorem dX9_mayBe_69 : decode cX9_mayBe 69 = .ok (.iload 6, 2) := by decide +kernel
theorem dX9_mayBe_71 : decode cX9_mayBe 71 = .ok (.ifCond .ne 12, 3) := by decide +kernel
theorem dX9_mayBe_74 : decode cX9_mayBe 74 = .ok (.iload 7, 2) := by decide +kernel
theorem dX9_mayBe_76 : decode cX9_mayBe 76 = .ok (.ifCond .ne 7, 3) := by decide +kernel
theorem dX9_mayBe_79 : decode cX9_mayBe 79 = .ok (.iconst 0, 1) := by decide +kernel
theorem dX9_mayBe_80 : decode cX9_mayBe 80 = .ok (.goto 14, 3) := by decide +kernel
theorem dX9_mayBe_83 : decode cX9_mayBe 83 = .ok (.iload 6, 2) := by decide +kernel
theorem dX9_mayBe_85 : decode cX9_mayBe 85 = .ok (.iload_n 1, 1) := by decide +kernel
theorem dX9_mayBe_86 : decode cX9_mayBe 86 = .ok (.if_icmp .ne 7, 3) := by decide +kernel
theorem dX9_mayBe_89 : decode cX9_mayBe 89 = .ok (.iconst 1, 1) := by decide +kernel
theorem dX9_mayBe_90 : decode cX9_mayBe 90 = .ok (.goto 4, 3) := by decide +kernel
theorem dX9_mayBe_93 : decode cX9_mayBe 93 = .ok (.iconst 2, 1) := by decide +kernel
theorem dX9_mayBe_94 : decode cX9_mayBe 94 = .ok (.istore 8, 2) := by decide +kernel
theorem dX9_mayBe_96 : decode cX9_mayBe 96 = .ok (.iload 4, 2) := by decide +kernel
theorem dX9_mayBe_98 : decode cX9_mayBe 98 = .ok (.ifCond .eq 19, 3) := by decide +kernel
theorem dX9_mayBe_101 : decode cX9_mayBe 101 = .ok (.iload 8, 2) := by decide +kernel
theorem dX9_mayBe_103 : decode cX9_mayBe 103 = .ok (.aload_n 0, 1) := by decide +kernel
theorem dX9_mayBe_104 : decode cX9_mayBe 104 = .ok (.getfield 28, 3) := by decide +kernel
theorem dX9_mayBe_107 : decode cX9_mayBe 107 = .ok (.iload 5, 2) := by decide +kernel
theorem dX9_mayBe_109 : decode cX9_mayBe 109 = .ok (.iaload, 1) := by decide +kernel
theorem dX9_mayBe_110 : decode cX9_mayBe 110 = .ok (.if_icmp .ne 7, 3) := by decide +kernel
theorem dX9_mayBe_113 : decode cX9_mayBe 113 = .ok (.iconst 1, 1) := by decide +kernel
theorem dX9_mayBe_114 : decode cX9_mayBe 114 = .ok (.goto 4, 3) := by decide +kernel
theorem dX9_mayBe_117 : decode cX9_mayBe 117 = .ok (.iconst 0, 1) := by decide +kernel
theorem dX9_mayBe_118 : decode cX9_mayBe 118 = .ok (.istore 4, 2) := by decide +kernel
theorem dX9_mayBe_120 : decode cX9_mayBe 120 = .ok (.iinc 5 1, 3) := by decide +kernel
theorem dX9_mayBe_123 : decode cX9_mayBe 123 = .ok (.goto (-107), 3) := by decide +kernel
theorem dX9_mayBe_126 : decode cX9_mayBe 126 = .ok (.iload_n 2, 1) := by decide +kernel
theorem dX9_mayBe_127 : decode cX9_mayBe 127 = .ok (.iload 4, 2) := by decide +kernel
theorem dX9_mayBe_129 : decode cX9_mayBe 129 = .ok (.ifCond .eq 9, 3) := by decide +kernel
theorem dX9_mayBe_132 : decode cX9_mayBe 132 = .ok (.iconst 1, 1) := by decide +kernel
theorem dX9_mayBe_133 : decode cX9_mayBe 133 = .ok (.iload_n 3, 1) := by decide +kernel
theorem dX9_mayBe_134 : decode cX9_mayBe 134 = .ok (.ishl, 1) := by decide +kernel
theorem dX9_mayBe_135 : decode cX9_mayBe 135 = .ok (.goto 4, 3) := by decide +kernel
theorem dX9_mayBe_138 : decode cX9_mayBe 138 = .ok (.iconst 0, 1) := by decide +kernel
theorem dX9_mayBe_139 : decode cX9_mayBe 139 = .ok (.ior, 1) := by decide +kernel
theorem dX9_mayBe_140 : decode cX9_mayBe 140 = .ok (.istore_n 2, 1) := by decide +kernel
theorem dX9_mayBe_141 : decode cX9_mayBe 141 = .ok (.iinc 3 1, 3) := by decide +kernel
theorem dX9_mayBe_144 : decode cX9_mayBe 144 = .ok (.goto (-140), 3) := by decide +kernel
theorem dX9_mayBe_147 : decode cX9_mayBe 147 = .ok (.iload_n 2, 1) := by decide +kernel
theorem dX9_mayBe_148 : decode cX9_mayBe 148 = .ok (.ireturn, 1) := by decide +kernel
set_option maxRecDepth 20000 in
theorem ggX9_search_X9_in : GoodIn wsX9_search wsX9_in := goodIn_r _ [9] (by decide +kernel) (by decide +kernel)
set_option maxRecDepth 20000 in
theorem gX9_search_X9_in : GoodIn wsX9_search (va_wsS RX9 69 yX9_in wsX9_in) := goodIn_app (goodIn_of _ (by decide +kernel)) ggX9_search_X9_in
theorem dX9_search_0 : decode cX9_search 0 = .ok (.iload_n 1, 1) := by decide +kernel
theorem dX9_search_1 : decode cX9_search 1 = .ok (.i2l, 1) := by decide +kernel
theorem dX9_search_2 : decode cX9_search 2 = .ok (.lconst 1, 1) := by decide +kernel
theorem dX9_search_3 : decode cX9_search 3 = .ok (.ldc2_w 167, 3) := by decide +kernel
theorem dX9_search_6 : decode cX9_search 6 = .ok (.invokestatic 69, 3) := by decide +kernel
theorem dX9_search_9 : decode cX9_search 9 = .ok (.ifCond .eq 15, 3) := by decide +kernel
theorem dX9_search_12 : decode cX9_search 12 = .ok (.iload_n 2, 1) := by decide +kernel
theorem dX9_search_13 : decode cX9_search 13 = .ok (.i2l, 1) := by decide +kernel
theorem dX9_search_14 : decode cX9_search 14 = .ok (.lconst 0, 1) := by decide +kernel
theorem dX9_search_15 : decode cX9_search 15 = .ok (.ldc2_w 169, 3) := by decide +kernel
theorem dX9_search_18 : decode cX9_search 18 = .ok (.invokestatic 69, 3) := by decide +kernel
theorem dX9_search_21 : decode cX9_search 21 = .ok (.ifCond .ne 6, 3) := by decide +kernel
theorem dX9_search_24 : decode cX9_search 24 = .ok (.bipush (-2), 2) := by decide +kernel
theorem dX9_search_26 : decode cX9_search 26 = .ok (.ireturn, 1) := by decide +kernel
theorem dX9_search_27 : decode cX9_search 27 = .ok (.aload_n 0, 1) := by decide +kernel
theorem dX9_search_28 : decode cX9_search 28 = .ok (.getfield 171, 3) := by decide +kernel
theorem dX9_search_31 : decode cX9_search 31 = .ok (.bipush 8, 2) := by decide +kernel
theorem dX9_search_33 : decode cX9_search 33 = .ok (.if_icmp .ne 6, 3) := by decide +kernel
theorem dX9_search_36 : decode cX9_search 36 = .ok (.bipush (-4), 2) := by decide +kernel
theorem dX9_search_38 : decode cX9_search 38 = .ok (.ireturn, 1) := by decide +kernel
theorem dX9_search_39 : decode cX9_search 39 = .ok (.aload_n 0, 1) := by decide +kernel
theorem dX9_search_40 : decode cX9_search 40 = .ok (.getfield 31, 3) := by decide +kernel
theorem dX9_search_43 : decode cX9_search 43 = .ok (.aload_n 0, 1) := by decide +kernel
theorem dX9_search_44 : decode cX9_search 44 = .ok (.getfield 171, 3) := by decide +kernel
theorem dX9_search_47 : decode cX9_search 47 = .ok (.iload_n 1, 1) := by decide +kernel
theorem dX9_search_48 : decode cX9_search 48 = .ok (.iastore, 1) := by decide +kernel
theorem dX9_search_49 : decode cX9_search 49 = .ok (.aload_n 0, 1) := by decide +kernel
theorem dX9_search_50 : decode cX9_search 50 = .ok (.getfield 34, 3) := by decide +kernel
theorem dX9_search_53 : decode cX9_search 53 = .ok (.aload_n 0, 1) := by decide +kernel
theorem dX9_search_54 : decode cX9_search 54 = .ok (.getfield 171, 3) := by decide +kernel
theorem dX9_search_57 : decode cX9_search 57 = .ok (.iload_n 2, 1) := by decide +kernel
theorem dX9_search_58 : decode cX9_search 58 = .ok (.iastore, 1) := by decide +kernel
theorem dX9_search_59 : decode cX9_search 59 = .ok (.aload_n 0, 1) := by decide +kernel
theorem dX9_search_60 : decode cX9_search 60 = .ok (.dup, 1) := by decide +kernel
theorem dX9_search_61 : decode cX9_search 61 = .ok (.getfield 171, 3) := by decide +kernel
theorem dX9_search_64 : decode cX9_search 64 = .ok (.iconst 1, 1) := by decide +kernel
theorem dX9_search_65 : decode cX9_search 65 = .ok (.iadd, 1) := by decide +kernel
theorem dX9_search_66 : decode cX9_search 66 = .ok (.putfield 171, 3) := by decide +kernel
theorem dX9_search_69 : decode cX9_search 69 = .ok (.aload_n 0, 1) := by decide +kernel
theorem dX9_search_70 : decode cX9_search 70 = .ok (.getfield 171, 3) := by decide +kernel
theorem dX9_search_73 : decode cX9_search 73 = .ok (.ireturn, 1) := by decide +kernel
theorem dX9_unsearch_0 : decode cX9_unsearch 0 = .ok (.aload_n 0, 1) := by decide +kernel
theorem dX9_unsearch_1 : decode cX9_unsearch 1 = .ok (.getfield 171, 3) := by decide +kernel
theorem dX9_unsearch_4 : decode cX9_unsearch 4 = .ok (.istore_n 1, 1) := by decide +kernel
theorem dX9_unsearch_5 : decode cX9_unsearch 5 = .ok (.aload_n 0, 1) := by decide +kernel
theorem dX9_unsearch_6 : decode cX9_unsearch 6 = .ok (.iconst 0, 1) := by decide +kernel
theorem dX9_unsearch_7 : decode cX9_unsearch 7 = .ok (.putfield 171, 3) := by decide +kernel
theorem dX9_unsearch_10 : decode cX9_unsearch 10 = .ok (.iload_n 1, 1) := by decide +kernel
theorem dX9_unsearch_11 : decode cX9_unsearch 11 = .ok (.ireturn, 1) := by decide +kernel
theorem dX9_tenTo_0 : decode cX9_tenTo 0 = .ok (.iconst 1, 1) := by decide +kernel
theorem dX9_tenTo_1 : decode cX9_tenTo 1 = .ok (.istore_n 1, 1) := by decide +kernel
theorem dX9_tenTo_2 : decode cX9_tenTo 2 = .ok (.iconst 0, 1) := by decide +kernel
theorem dX9_tenTo_3 : decode cX9_tenTo 3 = .ok (.istore_n 2, 1) := by decide +kernel
theorem dX9_tenTo_4 : decode cX9_tenTo 4 = .ok (.iload_n 2, 1) := by decide +kernel
theorem dX9_tenTo_5 : decode cX9_tenTo 5 = .ok (.iload_n 0, 1) := by decide +kernel
theorem dX9_tenTo_6 : decode cX9_tenTo 6 = .ok (.if_icmp .ge 14, 3) := by decide +kernel
theorem dX9_tenTo_9 : decode cX9_tenTo 9 = .ok (.iload_n 1, 1) := by decide +kernel
theorem dX9_tenTo_10 : decode cX9_tenTo 10 = .ok (.bipush 10, 2) := by decide +kernel
theorem dX9_tenTo_12 : decode cX9_tenTo 12 = .ok (.imul, 1) := by decide +kernel
theorem dX9_tenTo_13 : decode cX9_tenTo 13 = .ok (.istore_n 1, 1) := by decide +kernel
theorem dX9_tenTo_14 : decode cX9_tenTo 14 = .ok (.iinc 2 1, 3) := by decide +kernel
theorem dX9_tenTo_17 : decode cX9_tenTo 17 = .ok (.goto (-13), 3) := by decide +kernel
theorem dX9_tenTo_20 : decode cX9_tenTo 20 = .ok (.iload_n 1, 1) := by decide +kernel
theorem dX9_tenTo_21 : decode cX9_tenTo 21 = .ok (.ireturn, 1) := by decide +kernel
theorem dX9_fits_0 : decode cX9_fits 0 = .ok (.iconst 1, 1) := by decide +kernel
theorem dX9_fits_1 : decode cX9_fits 1 = .ok (.istore_n 2, 1) := by decide +kernel
theorem dX9_fits_2 : decode cX9_fits 2 = .ok (.iconst 0, 1) := by decide +kernel
theorem dX9_fits_3 : decode cX9_fits 3 = .ok (.istore_n 3, 1) := by decide +kernel
theorem dX9_fits_4 : decode cX9_fits 4 = .ok (.iload_n 3, 1) := by decide +kernel
theorem dX9_fits_5 : decode cX9_fits 5 = .ok (.aload_n 0, 1) := by decide +kernel
theorem dX9_fits_6 : decode cX9_fits 6 = .ok (.getfield 171, 3) := by decide +kernel
theorem dX9_fits_9 : decode cX9_fits 9 = .ok (.if_icmp .ge 80, 3) := by decide +kernel
theorem dX9_fits_12 : decode cX9_fits 12 = .ok (.iload_n 2, 1) := by decide +kernel
theorem dX9_fits_13 : decode cX9_fits 13 = .ok (.ifCond .eq 76, 3) := by decide +kernel
theorem dX9_fits_16 : decode cX9_fits 16 = .ok (.iconst 0, 1) := by decide +kernel
theorem dX9_fits_17 : decode cX9_fits 17 = .ok (.istore 4, 2) := by decide +kernel
theorem dX9_fits_19 : decode cX9_fits 19 = .ok (.iload_n 1, 1) := by decide +kernel
theorem dX9_fits_20 : decode cX9_fits 20 = .ok (.istore 5, 2) := by decide +kernel
theorem dX9_fits_22 : decode cX9_fits 22 = .ok (.iconst 0, 1) := by decide +kernel
theorem dX9_fits_23 : decode cX9_fits 23 = .ok (.istore 6, 2) := by decide +kernel
theorem dX9_fits_25 : decode cX9_fits 25 = .ok (.iload 6, 2) := by decide +kernel
theorem dX9_fits_27 : decode cX9_fits 27 = .ok (.iconst 5, 1) := by decide +kernel
theorem dX9_fits_28 : decode cX9_fits 28 = .ok (.if_icmp .ge 38, 3) := by decide +kernel
theorem dX9_fits_31 : decode cX9_fits 31 = .ok (.iload 4, 2) := by decide +kernel
theorem dX9_fits_33 : decode cX9_fits 33 = .ok (.aload_n 0, 1) := by decide +kernel
theorem dX9_fits_34 : decode cX9_fits 34 = .ok (.getfield 31, 3) := by decide +kernel
theorem dX9_fits_37 : decode cX9_fits 37 = .ok (.iload_n 3, 1) := by decide +kernel
theorem dX9_fits_38 : decode cX9_fits 38 = .ok (.iaload, 1) := by decide +kernel
theorem dX9_fits_39 : decode cX9_fits 39 = .ok (.iload 6, 2) := by decide +kernel
theorem dX9_fits_41 : decode cX9_fits 41 = .ok (.ishr, 1) := by decide +kernel
theorem dX9_fits_42 : decode cX9_fits 42 = .ok (.iconst 1, 1) := by decide +kernel
theorem dX9_fits_43 : decode cX9_fits 43 = .ok (.iand, 1) := by decide +kernel
theorem dX9_fits_44 : decode cX9_fits 44 = .ok (.iload 5, 2) := by decide +kernel
theorem dX9_fits_46 : decode cX9_fits 46 = .ok (.bipush 10, 2) := by decide +kernel
theorem dX9_fits_48 : decode cX9_fits 48 = .ok (.irem, 1) := by decide +kernel
theorem dX9_fits_49 : decode cX9_fits 49 = .ok (.imul, 1) := by decide +kernel
theorem dX9_fits_50 : decode cX9_fits 50 = .ok (.iadd, 1) := by decide +kernel
theorem dX9_fits_51 : decode cX9_fits 51 = .ok (.istore 4, 2) := by decide +kernel
theorem dX9_fits_53 : decode cX9_fits 53 = .ok (.iload 5, 2) := by decide +kernel
theorem dX9_fits_55 : decode cX9_fits 55 = .ok (.bipush 10, 2) := by decide +kernel
theorem dX9_fits_57 : decode cX9_fits 57 = .ok (.idiv, 1) := by decide +kernel
theorem dX9_fits_58 : decode cX9_fits 58 = .ok (.istore 5, 2) := by decide +kernel
theorem dX9_fits_60 : decode cX9_fits 60 = .ok (.iinc 6 1, 3) := by decide +kernel
theorem dX9_fits_63 : decode cX9_fits 63 = .ok (.goto (-38), 3) := by decide +kernel
theorem dX9_fits_66 : decode cX9_fits 66 = .ok (.iload 4, 2) := by decide +kernel
theorem dX9_fits_68 : decode cX9_fits 68 = .ok (.aload_n 0, 1) := by decide +kernel
theorem dX9_fits_69 : decode cX9_fits 69 = .ok (.getfield 34, 3) := by decide +kernel
theorem dX9_fits_72 : decode cX9_fits 72 = .ok (.iload_n 3, 1) := by decide +kernel
theorem dX9_fits_73 : decode cX9_fits 73 = .ok (.iaload, 1) := by decide +kernel
theorem dX9_fits_74 : decode cX9_fits 74 = .ok (.if_icmp .ne 7, 3) := by decide +kernel
theorem dX9_fits_77 : decode cX9_fits 77 = .ok (.iconst 1, 1) := by decide +kernel
theorem dX9_fits_78 : decode cX9_fits 78 = .ok (.goto 4, 3) := by decide +kernel
theorem dX9_fits_81 : decode cX9_fits 81 = .ok (.iconst 0, 1) := by decide +kernel
theorem dX9_fits_82 : decode cX9_fits 82 = .ok (.istore_n 2, 1) := by decide +kernel
theorem dX9_fits_83 : decode cX9_fits 83 = .ok (.iinc 3 1, 3) := by decide +kernel
theorem dX9_fits_86 : decode cX9_fits 86 = .ok (.goto (-82), 3) := by decide +kernel
theorem dX9_fits_89 : decode cX9_fits 89 = .ok (.iload_n 2, 1) := by decide +kernel
theorem dX9_fits_90 : decode cX9_fits 90 = .ok (.ireturn, 1) := by decide +kernel
set_option maxRecDepth 20000 in
theorem ggX9_layRows_X9_fits : GoodIn wsX9_layRows wsX9_fits := goodIn_r _ [8, 9, 10, 11, 15, 16, 17, 18, 19, 20, 21, 22, 23, 24, 25, 26, 27, 28, 29, 30, 31, 32, 33, 34, 35, 36, 37, 38, 39, 40, 41, 42, 43, 44, 45, 46, 47, 48] (by decide +kernel) (by decide +kernel)
set_option maxRecDepth 20000 in
theorem gX9_layRows_X9_fits : GoodIn wsX9_layRows (wsV RX9 175 RX9 yX9_fits wsX9_fits) := goodIn_app (goodIn_of _ (by decide +kernel)) ggX9_layRows_X9_fits
set_option maxRecDepth 20000 in
theorem ggX9_layRows_X9_tenTo : GoodIn wsX9_layRows wsX9_tenTo := goodIn_r _ [14] (by decide +kernel) (by decide +kernel)
set_option maxRecDepth 20000 in
theorem gX9_layRows_X9_tenTo : GoodIn wsX9_layRows (va_wsS RX9 178 yX9_tenTo wsX9_tenTo) := goodIn_app (goodIn_of _ (by decide +kernel)) ggX9_layRows_X9_tenTo
theorem dX9_layRows_0 : decode cX9_layRows 0 = .ok (.iconst 0, 1) := by decide +kernel
theorem dX9_layRows_1 : decode cX9_layRows 1 = .ok (.istore_n 1, 1) := by decide +kernel
theorem dX9_layRows_2 : decode cX9_layRows 2 = .ok (.iconst 0, 1) := by decide +kernel
theorem dX9_layRows_3 : decode cX9_layRows 3 = .ok (.istore_n 2, 1) := by decide +kernel
theorem dX9_layRows_4 : decode cX9_layRows 4 = .ok (.iload_n 2, 1) := by decide +kernel
theorem dX9_layRows_5 : decode cX9_layRows 5 = .ok (.iconst 5, 1) := by decide +kernel
theorem dX9_layRows_6 : decode cX9_layRows 6 = .ok (.if_icmp .ge 24, 3) := by decide +kernel
theorem dX9_layRows_9 : decode cX9_layRows 9 = .ok (.aload_n 0, 1) := by decide +kernel
theorem dX9_layRows_10 : decode cX9_layRows 10 = .ok (.getfield 37, 3) := by decide +kernel
theorem dX9_layRows_13 : decode cX9_layRows 13 = .ok (.iload_n 2, 1) := by decide +kernel
theorem dX9_layRows_14 : decode cX9_layRows 14 = .ok (.bipush 9, 2) := by decide +kernel
theorem dX9_layRows_16 : decode cX9_layRows 16 = .ok (.iastore, 1) := by decide +kernel
theorem dX9_layRows_17 : decode cX9_layRows 17 = .ok (.aload_n 0, 1) := by decide +kernel
theorem dX9_layRows_18 : decode cX9_layRows 18 = .ok (.getfield 40, 3) := by decide +kernel
theorem dX9_layRows_21 : decode cX9_layRows 21 = .ok (.iload_n 2, 1) := by decide +kernel
theorem dX9_layRows_22 : decode cX9_layRows 22 = .ok (.iconst 0, 1) := by decide +kernel
theorem dX9_layRows_23 : decode cX9_layRows 23 = .ok (.iastore, 1) := by decide +kernel
theorem dX9_layRows_24 : decode cX9_layRows 24 = .ok (.iinc 2 1, 3) := by decide +kernel
theorem dX9_layRows_27 : decode cX9_layRows 27 = .ok (.goto (-23), 3) := by decide +kernel
theorem dX9_layRows_30 : decode cX9_layRows 30 = .ok (.iconst 0, 1) := by decide +kernel
theorem dX9_layRows_31 : decode cX9_layRows 31 = .ok (.istore_n 2, 1) := by decide +kernel
theorem dX9_layRows_32 : decode cX9_layRows 32 = .ok (.iload_n 2, 1) := by decide +kernel
theorem dX9_layRows_33 : decode cX9_layRows 33 = .ok (.ldc 174, 2) := by decide +kernel
theorem dX9_layRows_35 : decode cX9_layRows 35 = .ok (.if_icmp .ge 100, 3) := by decide +kernel
theorem dX9_layRows_38 : decode cX9_layRows 38 = .ok (.aload_n 0, 1) := by decide +kernel
theorem dX9_layRows_39 : decode cX9_layRows 39 = .ok (.iload_n 2, 1) := by decide +kernel
theorem dX9_layRows_40 : decode cX9_layRows 40 = .ok (.invokevirtual 175, 3) := by decide +kernel
theorem dX9_layRows_43 : decode cX9_layRows 43 = .ok (.ifCond .eq 86, 3) := by decide +kernel
theorem dX9_layRows_46 : decode cX9_layRows 46 = .ok (.iinc 1 1, 3) := by decide +kernel
theorem dX9_layRows_49 : decode cX9_layRows 49 = .ok (.iconst 0, 1) := by decide +kernel
theorem dX9_layRows_50 : decode cX9_layRows 50 = .ok (.istore_n 3, 1) := by decide +kernel
theorem dX9_layRows_51 : decode cX9_layRows 51 = .ok (.iload_n 3, 1) := by decide +kernel
theorem dX9_layRows_52 : decode cX9_layRows 52 = .ok (.iconst 5, 1) := by decide +kernel
theorem dX9_layRows_53 : decode cX9_layRows 53 = .ok (.if_icmp .ge 76, 3) := by decide +kernel
theorem dX9_layRows_56 : decode cX9_layRows 56 = .ok (.iload_n 2, 1) := by decide +kernel
theorem dX9_layRows_57 : decode cX9_layRows 57 = .ok (.iload_n 3, 1) := by decide +kernel
theorem dX9_layRows_58 : decode cX9_layRows 58 = .ok (.invokestatic 178, 3) := by decide +kernel
theorem dX9_layRows_61 : decode cX9_layRows 61 = .ok (.idiv, 1) := by decide +kernel
theorem dX9_layRows_62 : decode cX9_layRows 62 = .ok (.bipush 10, 2) := by decide +kernel
theorem dX9_layRows_64 : decode cX9_layRows 64 = .ok (.irem, 1) := by decide +kernel
theorem dX9_layRows_65 : decode cX9_layRows 65 = .ok (.istore 4, 2) := by decide +kernel
theorem dX9_layRows_67 : decode cX9_layRows 67 = .ok (.aload_n 0, 1) := by decide +kernel
theorem dX9_layRows_68 : decode cX9_layRows 68 = .ok (.getfield 37, 3) := by decide +kernel
theorem dX9_layRows_71 : decode cX9_layRows 71 = .ok (.iload_n 3, 1) := by decide +kernel
theorem dX9_layRows_72 : decode cX9_layRows 72 = .ok (.iload 4, 2) := by decide +kernel
theorem dX9_layRows_74 : decode cX9_layRows 74 = .ok (.aload_n 0, 1) := by decide +kernel
theorem dX9_layRows_75 : decode cX9_layRows 75 = .ok (.getfield 37, 3) := by decide +kernel
theorem dX9_layRows_78 : decode cX9_layRows 78 = .ok (.iload_n 3, 1) := by decide +kernel
theorem dX9_layRows_79 : decode cX9_layRows 79 = .ok (.iaload, 1) := by decide +kernel
theorem dX9_layRows_80 : decode cX9_layRows 80 = .ok (.if_icmp .ge 8, 3) := by decide +kernel
theorem dX9_layRows_83 : decode cX9_layRows 83 = .ok (.iload 4, 2) := by decide +kernel
theorem dX9_layRows_85 : decode cX9_layRows 85 = .ok (.goto 9, 3) := by decide +kernel
theorem dX9_layRows_88 : decode cX9_layRows 88 = .ok (.aload_n 0, 1) := by decide +kernel
theorem dX9_layRows_89 : decode cX9_layRows 89 = .ok (.getfield 37, 3) := by decide +kernel
theorem dX9_layRows_92 : decode cX9_layRows 92 = .ok (.iload_n 3, 1) := by decide +kernel
theorem dX9_layRows_93 : decode cX9_layRows 93 = .ok (.iaload, 1) := by decide +kernel
theorem dX9_layRows_94 : decode cX9_layRows 94 = .ok (.iastore, 1) := by decide +kernel
theorem dX9_layRows_95 : decode cX9_layRows 95 = .ok (.aload_n 0, 1) := by decide +kernel
theorem dX9_layRows_96 : decode cX9_layRows 96 = .ok (.getfield 40, 3) := by decide +kernel
theorem dX9_layRows_99 : decode cX9_layRows 99 = .ok (.iload_n 3, 1) := by decide +kernel
theorem dX9_layRows_100 : decode cX9_layRows 100 = .ok (.iload 4, 2) := by decide +kernel
theorem dX9_layRows_102 : decode cX9_layRows 102 = .ok (.aload_n 0, 1) := by decide +kernel
theorem dX9_layRows_103 : decode cX9_layRows 103 = .ok (.getfield 40, 3) := by decide +kernel
theorem dX9_layRows_106 : decode cX9_layRows 106 = .ok (.iload_n 3, 1) := by decide +kernel
theorem dX9_layRows_107 : decode cX9_layRows 107 = .ok (.iaload, 1) := by decide +kernel
theorem dX9_layRows_108 : decode cX9_layRows 108 = .ok (.if_icmp .le 8, 3) := by decide +kernel
theorem dX9_layRows_111 : decode cX9_layRows 111 = .ok (.iload 4, 2) := by decide +kernel
theorem dX9_layRows_113 : decode cX9_layRows 113 = .ok (.goto 9, 3) := by decide +kernel
theorem dX9_layRows_116 : decode cX9_layRows 116 = .ok (.aload_n 0, 1) := by decide +kernel
theorem dX9_layRows_117 : decode cX9_layRows 117 = .ok (.getfield 40, 3) := by decide +kernel
theorem dX9_layRows_120 : decode cX9_layRows 120 = .ok (.iload_n 3, 1) := by decide +kernel
theorem dX9_layRows_121 : decode cX9_layRows 121 = .ok (.iaload, 1) := by decide +kernel
theorem dX9_layRows_122 : decode cX9_layRows 122 = .ok (.iastore, 1) := by decide +kernel
theorem dX9_layRows_123 : decode cX9_layRows 123 = .ok (.iinc 3 1, 3) := by decide +kernel
theorem dX9_layRows_126 : decode cX9_layRows 126 = .ok (.goto (-75), 3) := by decide +kernel
theorem dX9_layRows_129 : decode cX9_layRows 129 = .ok (.iinc 2 1, 3) := by decide +kernel
theorem dX9_layRows_132 : decode cX9_layRows 132 = .ok (.goto (-100), 3) := by decide +kernel
theorem dX9_layRows_135 : decode cX9_layRows 135 = .ok (.iload_n 1, 1) := by decide +kernel
theorem dX9_layRows_136 : decode cX9_layRows 136 = .ok (.ireturn, 1) := by decide +kernel
set_option maxRecDepth 20000 in
theorem ggX9_rows_X9_layRows : GoodIn wsX9_rows wsX9_layRows := goodIn_r _ [5, 6, 7, 8, 9, 10, 11, 4, 12, 13, 14, 15, 16, 17, 18, 19, 20, 21, 22, 23, 24, 25, 26, 27, 28, 29, 30, 31, 32, 33, 34, 35, 36, 37, 38, 39, 40, 41, 42, 43, 44, 45, 46, 47, 48, 49, 50, 51, 52] (by decide +kernel) (by decide +kernel)
set_option maxRecDepth 20000 in
theorem gX9_rows_X9_layRows : GoodIn wsX9_rows (wsV RX9 181 RX9 yX9_layRows wsX9_layRows) := goodIn_app (goodIn_of _ (by decide +kernel)) ggX9_rows_X9_layRows
theorem dX9_rows_0 : decode cX9_rows 0 = .ok (.aload_n 0, 1) := by decide +kernel
theorem dX9_rows_1 : decode cX9_rows 1 = .ok (.invokevirtual 181, 3) := by decide +kernel
theorem dX9_rows_4 : decode cX9_rows 4 = .ok (.ireturn, 1) := by decide +kernel
set_option maxRecDepth 20000 in
theorem ggX9_stones_X9_in : GoodIn wsX9_stones wsX9_in := goodIn_r _ [7] (by decide +kernel) (by decide +kernel)
set_option maxRecDepth 20000 in
theorem gX9_stones_X9_in : GoodIn wsX9_stones (va_wsS RX9 69 yX9_in wsX9_in) := goodIn_app (goodIn_of _ (by decide +kernel)) ggX9_stones_X9_in
set_option maxRecDepth 20000 in
theorem ggX9_stones_X9_layRows : GoodIn wsX9_stones wsX9_layRows := goodIn_r _ [11, 3, 2, 12, 13, 14, 15, 6, 16, 17, 18, 19, 20, 21, 22, 23, 24, 25, 26, 27, 28, 29, 30, 31, 32, 33, 34, 35, 36, 37, 38, 39, 40, 41, 42, 43, 44, 45, 46, 47, 48, 49, 50, 51, 52, 53, 54, 55, 56] (by decide +kernel) (by decide +kernel)
set_option maxRecDepth 20000 in
theorem gX9_stones_X9_layRows : GoodIn wsX9_stones (wsV RX9 181 RX9 yX9_layRows wsX9_layRows) := goodIn_app (goodIn_of _ (by decide +kernel)) ggX9_stones_X9_layRows
theorem dX9_stones_0 : decode cX9_stones 0 = .ok (.iload_n 1, 1) := by decide +kernel
theorem dX9_stones_1 : decode cX9_stones 1 = .ok (.i2l, 1) := by decide +kernel
theorem dX9_stones_2 : decode cX9_stones 2 = .ok (.lconst 0, 1) := by decide +kernel
theorem dX9_stones_3 : decode cX9_stones 3 = .ok (.ldc2_w 184, 3) := by decide +kernel
theorem dX9_stones_6 : decode cX9_stones 6 = .ok (.invokestatic 69, 3) := by decide +kernel
theorem dX9_stones_9 : decode cX9_stones 9 = .ok (.ifCond .ne 6, 3) := by decide +kernel
theorem dX9_stones_12 : decode cX9_stones 12 = .ok (.bipush (-2), 2) := by decide +kernel
theorem dX9_stones_14 : decode cX9_stones 14 = .ok (.ireturn, 1) := by decide +kernel
theorem dX9_stones_15 : decode cX9_stones 15 = .ok (.aload_n 0, 1) := by decide +kernel
theorem dX9_stones_16 : decode cX9_stones 16 = .ok (.invokevirtual 181, 3) := by decide +kernel
theorem dX9_stones_19 : decode cX9_stones 19 = .ok (.ifCond .ne 8, 3) := by decide +kernel
theorem dX9_stones_22 : decode cX9_stones 22 = .ok (.bipush (-9), 2) := by decide +kernel
theorem dX9_stones_24 : decode cX9_stones 24 = .ok (.goto 22, 3) := by decide +kernel
theorem dX9_stones_27 : decode cX9_stones 27 = .ok (.iload_n 2, 1) := by decide +kernel
theorem dX9_stones_28 : decode cX9_stones 28 = .ok (.ifCond .eq 12, 3) := by decide +kernel
theorem dX9_stones_31 : decode cX9_stones 31 = .ok (.aload_n 0, 1) := by decide +kernel
theorem dX9_stones_32 : decode cX9_stones 32 = .ok (.getfield 40, 3) := by decide +kernel
theorem dX9_stones_35 : decode cX9_stones 35 = .ok (.iload_n 1, 1) := by decide +kernel
theorem dX9_stones_36 : decode cX9_stones 36 = .ok (.iaload, 1) := by decide +kernel
theorem dX9_stones_37 : decode cX9_stones 37 = .ok (.goto 9, 3) := by decide +kernel
theorem dX9_stones_40 : decode cX9_stones 40 = .ok (.aload_n 0, 1) := by decide +kernel
theorem dX9_stones_41 : decode cX9_stones 41 = .ok (.getfield 37, 3) := by decide +kernel
theorem dX9_stones_44 : decode cX9_stones 44 = .ok (.iload_n 1, 1) := by decide +kernel
theorem dX9_stones_45 : decode cX9_stones 45 = .ok (.iaload, 1) := by decide +kernel
theorem dX9_stones_46 : decode cX9_stones 46 = .ok (.ireturn, 1) := by decide +kernel
set_option maxRecDepth 20000 in
theorem ggX9_ruled_X9_isPerson : GoodIn wsX9_ruled wsX9_isPerson := goodIn_r _ [7, 8, 9, 10, 6, 11, 12, 13, 14, 15, 16, 17, 18, 19, 20, 21, 22, 23, 24, 25, 26, 27, 28, 29, 30, 31, 32, 33, 34, 35, 36, 37, 38, 39, 40, 41, 42, 43, 44, 45] (by decide +kernel) (by decide +kernel)
set_option maxRecDepth 20000 in
theorem gX9_ruled_X9_isPerson : GoodIn wsX9_ruled (wsV RX9 116 RX9 yX9_isPerson wsX9_isPerson) := goodIn_app (goodIn_of _ (by decide +kernel)) ggX9_ruled_X9_isPerson
theorem dX9_ruled_0 : decode cX9_ruled 0 = .ok (.aload_n 0, 1) := by decide +kernel
theorem dX9_ruled_1 : decode cX9_ruled 1 = .ok (.iload_n 1, 1) := by decide +kernel
theorem dX9_ruled_2 : decode cX9_ruled 2 = .ok (.invokevirtual 116, 3) := by decide +kernel
theorem dX9_ruled_5 : decode cX9_ruled 5 = .ok (.ifCond .ne 5, 3) := by decide +kernel
theorem dX9_ruled_8 : decode cX9_ruled 8 = .ok (.iconst (-1), 1) := by decide +kernel
theorem dX9_ruled_9 : decode cX9_ruled 9 = .ok (.ireturn, 1) := by decide +kernel
theorem dX9_ruled_10 : decode cX9_ruled 10 = .ok (.aload_n 0, 1) := by decide +kernel
theorem dX9_ruled_11 : decode cX9_ruled 11 = .ok (.getfield 186, 3) := by decide +kernel
theorem dX9_ruled_14 : decode cX9_ruled 14 = .ok (.iconst 4, 1) := by decide +kernel
theorem dX9_ruled_15 : decode cX9_ruled 15 = .ok (.if_icmp .ne 6, 3) := by decide +kernel
theorem dX9_ruled_18 : decode cX9_ruled 18 = .ok (.bipush (-4), 2) := by decide +kernel
theorem dX9_ruled_20 : decode cX9_ruled 20 = .ok (.ireturn, 1) := by decide +kernel
theorem dX9_ruled_21 : decode cX9_ruled 21 = .ok (.aload_n 0, 1) := by decide +kernel
theorem dX9_ruled_22 : decode cX9_ruled 22 = .ok (.getfield 43, 3) := by decide +kernel
theorem dX9_ruled_25 : decode cX9_ruled 25 = .ok (.aload_n 0, 1) := by decide +kernel
theorem dX9_ruled_26 : decode cX9_ruled 26 = .ok (.getfield 186, 3) := by decide +kernel
theorem dX9_ruled_29 : decode cX9_ruled 29 = .ok (.iload_n 1, 1) := by decide +kernel
theorem dX9_ruled_30 : decode cX9_ruled 30 = .ok (.iastore, 1) := by decide +kernel
theorem dX9_ruled_31 : decode cX9_ruled 31 = .ok (.aload_n 0, 1) := by decide +kernel
theorem dX9_ruled_32 : decode cX9_ruled 32 = .ok (.dup, 1) := by decide +kernel
theorem dX9_ruled_33 : decode cX9_ruled 33 = .ok (.getfield 186, 3) := by decide +kernel
theorem dX9_ruled_36 : decode cX9_ruled 36 = .ok (.iconst 1, 1) := by decide +kernel
theorem dX9_ruled_37 : decode cX9_ruled 37 = .ok (.iadd, 1) := by decide +kernel
theorem dX9_ruled_38 : decode cX9_ruled 38 = .ok (.putfield 186, 3) := by decide +kernel
theorem dX9_ruled_41 : decode cX9_ruled 41 = .ok (.aload_n 0, 1) := by decide +kernel
theorem dX9_ruled_42 : decode cX9_ruled 42 = .ok (.getfield 186, 3) := by decide +kernel
theorem dX9_ruled_45 : decode cX9_ruled 45 = .ok (.ireturn, 1) := by decide +kernel
theorem dX9_unrule_0 : decode cX9_unrule 0 = .ok (.aload_n 0, 1) := by decide +kernel
theorem dX9_unrule_1 : decode cX9_unrule 1 = .ok (.getfield 186, 3) := by decide +kernel
theorem dX9_unrule_4 : decode cX9_unrule 4 = .ok (.istore_n 1, 1) := by decide +kernel
theorem dX9_unrule_5 : decode cX9_unrule 5 = .ok (.aload_n 0, 1) := by decide +kernel
theorem dX9_unrule_6 : decode cX9_unrule 6 = .ok (.iconst 0, 1) := by decide +kernel
theorem dX9_unrule_7 : decode cX9_unrule 7 = .ok (.putfield 186, 3) := by decide +kernel
theorem dX9_unrule_10 : decode cX9_unrule 10 = .ok (.iload_n 1, 1) := by decide +kernel
theorem dX9_unrule_11 : decode cX9_unrule 11 = .ok (.ireturn, 1) := by decide +kernel
theorem dX9_ate_0 : decode cX9_ate 0 = .ok (.iload_n 1, 1) := by decide +kernel
theorem dX9_ate_1 : decode cX9_ate 1 = .ok (.ifCond .ne 10, 3) := by decide +kernel
theorem dX9_ate_4 : decode cX9_ate 4 = .ok (.iload_n 0, 1) := by decide +kernel
theorem dX9_ate_5 : decode cX9_ate 5 = .ok (.bipush 13, 2) := by decide +kernel
theorem dX9_ate_7 : decode cX9_ate 7 = .ok (.irem, 1) := by decide +kernel
theorem dX9_ate_8 : decode cX9_ate 8 = .ok (.goto 23, 3) := by decide +kernel
theorem dX9_ate_11 : decode cX9_ate 11 = .ok (.iload_n 1, 1) := by decide +kernel
theorem dX9_ate_12 : decode cX9_ate 12 = .ok (.iconst 1, 1) := by decide +kernel
theorem dX9_ate_13 : decode cX9_ate 13 = .ok (.if_icmp .ne 13, 3) := by decide +kernel
theorem dX9_ate_16 : decode cX9_ate 16 = .ok (.iload_n 0, 1) := by decide +kernel
theorem dX9_ate_17 : decode cX9_ate 17 = .ok (.bipush 13, 2) := by decide +kernel
theorem dX9_ate_19 : decode cX9_ate 19 = .ok (.idiv, 1) := by decide +kernel
theorem dX9_ate_20 : decode cX9_ate 20 = .ok (.bipush 13, 2) := by decide +kernel
theorem dX9_ate_22 : decode cX9_ate 22 = .ok (.irem, 1) := by decide +kernel
theorem dX9_ate_23 : decode cX9_ate 23 = .ok (.goto 8, 3) := by decide +kernel
theorem dX9_ate_26 : decode cX9_ate 26 = .ok (.iload_n 0, 1) := by decide +kernel
theorem dX9_ate_27 : decode cX9_ate 27 = .ok (.sipush 169, 3) := by decide +kernel
theorem dX9_ate_30 : decode cX9_ate 30 = .ok (.idiv, 1) := by decide +kernel
theorem dX9_ate_31 : decode cX9_ate 31 = .ok (.ireturn, 1) := by decide +kernel
set_option maxRecDepth 20000 in
theorem ggX9_isRuler_X9_noonOf : GoodIn wsX9_isRuler wsX9_noonOf := goodIn_r _ [6, 7, 14, 15, 16, 17, 18, 19, 20, 21, 22, 23, 24, 25, 26, 27, 28, 29, 30, 31, 32, 33, 34, 35, 36, 37, 38, 39, 40, 41, 42, 43, 44, 45, 46, 47] (by decide +kernel) (by decide +kernel)
set_option maxRecDepth 20000 in
theorem gX9_isRuler_X9_noonOf : GoodIn wsX9_isRuler (wsV RX9 120 RX9 yX9_noonOf wsX9_noonOf) := goodIn_app (goodIn_of _ (by decide +kernel)) ggX9_isRuler_X9_noonOf
set_option maxRecDepth 20000 in
theorem ggX9_isRuler_X9_ate : GoodIn wsX9_isRuler wsX9_ate := goodIn_r _ [10] (by decide +kernel) (by decide +kernel)
set_option maxRecDepth 20000 in
theorem gX9_isRuler_X9_ate : GoodIn wsX9_isRuler (va_wsS RX9 189 yX9_ate wsX9_ate) := goodIn_app (goodIn_of _ (by decide +kernel)) ggX9_isRuler_X9_ate
set_option maxRecDepth 20000 in
theorem ggX9_isRuler_X9_isLighter : GoodIn wsX9_isRuler wsX9_isLighter := goodIn_r _ [13] (by decide +kernel) (by decide +kernel)
set_option maxRecDepth 20000 in
theorem gX9_isRuler_X9_isLighter : GoodIn wsX9_isRuler (va_wsS RX9 140 yX9_isLighter wsX9_isLighter) := goodIn_app (goodIn_of _ (by decide +kernel)) ggX9_isRuler_X9_isLighter
theorem dX9_isRuler_0 : decode cX9_isRuler 0 = .ok (.iload_n 2, 1) := by decide +kernel
theorem dX9_isRuler_1 : decode cX9_isRuler 1 = .ok (.aload_n 0, 1) := by decide +kernel
theorem dX9_isRuler_2 : decode cX9_isRuler 2 = .ok (.getfield 104, 3) := by decide +kernel
theorem dX9_isRuler_5 : decode cX9_isRuler 5 = .ok (.if_icmp .ge 7, 3) := by decide +kernel
theorem dX9_isRuler_8 : decode cX9_isRuler 8 = .ok (.iconst 1, 1) := by decide +kernel
theorem dX9_isRuler_9 : decode cX9_isRuler 9 = .ok (.goto 4, 3) := by decide +kernel
theorem dX9_isRuler_12 : decode cX9_isRuler 12 = .ok (.iconst 0, 1) := by decide +kernel
theorem dX9_isRuler_13 : decode cX9_isRuler 13 = .ok (.istore_n 3, 1) := by decide +kernel
theorem dX9_isRuler_14 : decode cX9_isRuler 14 = .ok (.iconst 0, 1) := by decide +kernel
theorem dX9_isRuler_15 : decode cX9_isRuler 15 = .ok (.istore 4, 2) := by decide +kernel
theorem dX9_isRuler_17 : decode cX9_isRuler 17 = .ok (.iload 4, 2) := by decide +kernel
theorem dX9_isRuler_19 : decode cX9_isRuler 19 = .ok (.aload_n 0, 1) := by decide +kernel
theorem dX9_isRuler_20 : decode cX9_isRuler 20 = .ok (.getfield 104, 3) := by decide +kernel
theorem dX9_isRuler_23 : decode cX9_isRuler 23 = .ok (.if_icmp .ge 64, 3) := by decide +kernel
theorem dX9_isRuler_26 : decode cX9_isRuler 26 = .ok (.iload_n 3, 1) := by decide +kernel
theorem dX9_isRuler_27 : decode cX9_isRuler 27 = .ok (.ifCond .eq 60, 3) := by decide +kernel
theorem dX9_isRuler_30 : decode cX9_isRuler 30 = .ok (.iload 4, 2) := by decide +kernel
theorem dX9_isRuler_32 : decode cX9_isRuler 32 = .ok (.iload_n 2, 1) := by decide +kernel
theorem dX9_isRuler_33 : decode cX9_isRuler 33 = .ok (.if_icmp .eq 42, 3) := by decide +kernel
theorem dX9_isRuler_36 : decode cX9_isRuler 36 = .ok (.aload_n 0, 1) := by decide +kernel
theorem dX9_isRuler_37 : decode cX9_isRuler 37 = .ok (.iload_n 2, 1) := by decide +kernel
theorem dX9_isRuler_38 : decode cX9_isRuler 38 = .ok (.invokevirtual 120, 3) := by decide +kernel
theorem dX9_isRuler_41 : decode cX9_isRuler 41 = .ok (.bipush 8, 2) := by decide +kernel
theorem dX9_isRuler_43 : decode cX9_isRuler 43 = .ok (.iload_n 1, 1) := by decide +kernel
theorem dX9_isRuler_44 : decode cX9_isRuler 44 = .ok (.iload_n 2, 1) := by decide +kernel
theorem dX9_isRuler_45 : decode cX9_isRuler 45 = .ok (.invokestatic 189, 3) := by decide +kernel
theorem dX9_isRuler_48 : decode cX9_isRuler 48 = .ok (.imul, 1) := by decide +kernel
theorem dX9_isRuler_49 : decode cX9_isRuler 49 = .ok (.iadd, 1) := by decide +kernel
theorem dX9_isRuler_50 : decode cX9_isRuler 50 = .ok (.iload_n 2, 1) := by decide +kernel
theorem dX9_isRuler_51 : decode cX9_isRuler 51 = .ok (.aload_n 0, 1) := by decide +kernel
theorem dX9_isRuler_52 : decode cX9_isRuler 52 = .ok (.iload 4, 2) := by decide +kernel
theorem dX9_isRuler_54 : decode cX9_isRuler 54 = .ok (.invokevirtual 120, 3) := by decide +kernel
theorem dX9_isRuler_57 : decode cX9_isRuler 57 = .ok (.bipush 8, 2) := by decide +kernel
theorem dX9_isRuler_59 : decode cX9_isRuler 59 = .ok (.iload_n 1, 1) := by decide +kernel
theorem dX9_isRuler_60 : decode cX9_isRuler 60 = .ok (.iload 4, 2) := by decide +kernel
theorem dX9_isRuler_62 : decode cX9_isRuler 62 = .ok (.invokestatic 189, 3) := by decide +kernel
theorem dX9_isRuler_65 : decode cX9_isRuler 65 = .ok (.imul, 1) := by decide +kernel
theorem dX9_isRuler_66 : decode cX9_isRuler 66 = .ok (.iadd, 1) := by decide +kernel
theorem dX9_isRuler_67 : decode cX9_isRuler 67 = .ok (.iload 4, 2) := by decide +kernel
theorem dX9_isRuler_69 : decode cX9_isRuler 69 = .ok (.invokestatic 140, 3) := by decide +kernel
theorem dX9_isRuler_72 : decode cX9_isRuler 72 = .ok (.ifCond .eq 7, 3) := by decide +kernel
theorem dX9_isRuler_75 : decode cX9_isRuler 75 = .ok (.iconst 1, 1) := by decide +kernel
theorem dX9_isRuler_76 : decode cX9_isRuler 76 = .ok (.goto 4, 3) := by decide +kernel
theorem dX9_isRuler_79 : decode cX9_isRuler 79 = .ok (.iconst 0, 1) := by decide +kernel
theorem dX9_isRuler_80 : decode cX9_isRuler 80 = .ok (.istore_n 3, 1) := by decide +kernel
theorem dX9_isRuler_81 : decode cX9_isRuler 81 = .ok (.iinc 4 1, 3) := by decide +kernel
theorem dX9_isRuler_84 : decode cX9_isRuler 84 = .ok (.goto (-67), 3) := by decide +kernel
theorem dX9_isRuler_87 : decode cX9_isRuler 87 = .ok (.iload_n 3, 1) := by decide +kernel
theorem dX9_isRuler_88 : decode cX9_isRuler 88 = .ok (.ireturn, 1) := by decide +kernel
set_option maxRecDepth 20000 in
theorem ggX9_goMonth_X9_isRuler : GoodIn wsX9_goMonth wsX9_isRuler := goodIn_r _ [8, 3, 9, 10, 11, 7, 12, 13, 14, 15, 16, 17, 18, 19, 20, 21, 22, 23, 24, 25, 26, 27, 28, 29, 30, 31, 32, 33, 34, 35, 36, 37, 38, 39, 40, 41, 42, 43, 44, 45, 46, 47, 48, 49, 50, 51, 52, 53] (by decide +kernel) (by decide +kernel)
set_option maxRecDepth 20000 in
theorem gX9_goMonth_X9_isRuler : GoodIn wsX9_goMonth (wsV RX9 192 RX9 yX9_isRuler wsX9_isRuler) := goodIn_app (goodIn_of _ (by decide +kernel)) ggX9_goMonth_X9_isRuler
theorem dX9_goMonth_0 : decode cX9_goMonth 0 = .ok (.iconst 0, 1) := by decide +kernel
theorem dX9_goMonth_1 : decode cX9_goMonth 1 = .ok (.istore_n 2, 1) := by decide +kernel
theorem dX9_goMonth_2 : decode cX9_goMonth 2 = .ok (.iload_n 2, 1) := by decide +kernel
theorem dX9_goMonth_3 : decode cX9_goMonth 3 = .ok (.sipush 2197, 3) := by decide +kernel
theorem dX9_goMonth_6 : decode cX9_goMonth 6 = .ok (.if_icmp .ge 16, 3) := by decide +kernel
theorem dX9_goMonth_9 : decode cX9_goMonth 9 = .ok (.aload_n 0, 1) := by decide +kernel
theorem dX9_goMonth_10 : decode cX9_goMonth 10 = .ok (.getfield 50, 3) := by decide +kernel
theorem dX9_goMonth_13 : decode cX9_goMonth 13 = .ok (.iload_n 2, 1) := by decide +kernel
theorem dX9_goMonth_14 : decode cX9_goMonth 14 = .ok (.lconst 0, 1) := by decide +kernel
theorem dX9_goMonth_15 : decode cX9_goMonth 15 = .ok (.lastore, 1) := by decide +kernel
theorem dX9_goMonth_16 : decode cX9_goMonth 16 = .ok (.iinc 2 1, 3) := by decide +kernel
theorem dX9_goMonth_19 : decode cX9_goMonth 19 = .ok (.goto (-17), 3) := by decide +kernel
theorem dX9_goMonth_22 : decode cX9_goMonth 22 = .ok (.iconst 0, 1) := by decide +kernel
theorem dX9_goMonth_23 : decode cX9_goMonth 23 = .ok (.istore_n 2, 1) := by decide +kernel
theorem dX9_goMonth_24 : decode cX9_goMonth 24 = .ok (.iload_n 2, 1) := by decide +kernel
theorem dX9_goMonth_25 : decode cX9_goMonth 25 = .ok (.sipush 2197, 3) := by decide +kernel
theorem dX9_goMonth_28 : decode cX9_goMonth 28 = .ok (.if_icmp .ge 141, 3) := by decide +kernel
theorem dX9_goMonth_31 : decode cX9_goMonth 31 = .ok (.iconst 0, 1) := by decide +kernel
theorem dX9_goMonth_32 : decode cX9_goMonth 32 = .ok (.istore_n 3, 1) := by decide +kernel
theorem dX9_goMonth_33 : decode cX9_goMonth 33 = .ok (.iload_n 3, 1) := by decide +kernel
theorem dX9_goMonth_34 : decode cX9_goMonth 34 = .ok (.bipush 64, 2) := by decide +kernel
theorem dX9_goMonth_36 : decode cX9_goMonth 36 = .ok (.if_icmp .ge 127, 3) := by decide +kernel
theorem dX9_goMonth_39 : decode cX9_goMonth 39 = .ok (.aload_n 0, 1) := by decide +kernel
theorem dX9_goMonth_40 : decode cX9_goMonth 40 = .ok (.getfield 46, 3) := by decide +kernel
theorem dX9_goMonth_43 : decode cX9_goMonth 43 = .ok (.iload_n 2, 1) := by decide +kernel
theorem dX9_goMonth_44 : decode cX9_goMonth 44 = .ok (.laload, 1) := by decide +kernel
theorem dX9_goMonth_45 : decode cX9_goMonth 45 = .ok (.lconst 0, 1) := by decide +kernel
theorem dX9_goMonth_46 : decode cX9_goMonth 46 = .ok (.lcmp, 1) := by decide +kernel
theorem dX9_goMonth_47 : decode cX9_goMonth 47 = .ok (.ifCond .le 116, 3) := by decide +kernel
theorem dX9_goMonth_50 : decode cX9_goMonth 50 = .ok (.iload_n 3, 1) := by decide +kernel
theorem dX9_goMonth_51 : decode cX9_goMonth 51 = .ok (.aload_n 0, 1) := by decide +kernel
theorem dX9_goMonth_52 : decode cX9_goMonth 52 = .ok (.getfield 104, 3) := by decide +kernel
theorem dX9_goMonth_55 : decode cX9_goMonth 55 = .ok (.iconst 1, 1) := by decide +kernel
theorem dX9_goMonth_56 : decode cX9_goMonth 56 = .ok (.if_icmp .ne 7, 3) := by decide +kernel
theorem dX9_goMonth_59 : decode cX9_goMonth 59 = .ok (.iconst 4, 1) := by decide +kernel
theorem dX9_goMonth_60 : decode cX9_goMonth 60 = .ok (.goto 18, 3) := by decide +kernel
theorem dX9_goMonth_63 : decode cX9_goMonth 63 = .ok (.aload_n 0, 1) := by decide +kernel
theorem dX9_goMonth_64 : decode cX9_goMonth 64 = .ok (.getfield 104, 3) := by decide +kernel
theorem dX9_goMonth_67 : decode cX9_goMonth 67 = .ok (.iconst 2, 1) := by decide +kernel
theorem dX9_goMonth_68 : decode cX9_goMonth 68 = .ok (.if_icmp .ne 8, 3) := by decide +kernel
theorem dX9_goMonth_71 : decode cX9_goMonth 71 = .ok (.bipush 16, 2) := by decide +kernel
theorem dX9_goMonth_73 : decode cX9_goMonth 73 = .ok (.goto 5, 3) := by decide +kernel
theorem dX9_goMonth_76 : decode cX9_goMonth 76 = .ok (.bipush 64, 2) := by decide +kernel
theorem dX9_goMonth_78 : decode cX9_goMonth 78 = .ok (.if_icmp .ge 7, 3) := by decide +kernel
theorem dX9_goMonth_81 : decode cX9_goMonth 81 = .ok (.iconst 1, 1) := by decide +kernel
theorem dX9_goMonth_82 : decode cX9_goMonth 82 = .ok (.goto 4, 3) := by decide +kernel
theorem dX9_goMonth_85 : decode cX9_goMonth 85 = .ok (.iconst 0, 1) := by decide +kernel
theorem dX9_goMonth_86 : decode cX9_goMonth 86 = .ok (.istore 4, 2) := by decide +kernel
theorem dX9_goMonth_88 : decode cX9_goMonth 88 = .ok (.iload_n 2, 1) := by decide +kernel
theorem dX9_goMonth_89 : decode cX9_goMonth 89 = .ok (.iload_n 3, 1) := by decide +kernel
theorem dX9_goMonth_90 : decode cX9_goMonth 90 = .ok (.iconst 4, 1) := by decide +kernel
theorem dX9_goMonth_91 : decode cX9_goMonth 91 = .ok (.irem, 1) := by decide +kernel
theorem dX9_goMonth_92 : decode cX9_goMonth 92 = .ok (.iadd, 1) := by decide +kernel
theorem dX9_goMonth_93 : decode cX9_goMonth 93 = .ok (.bipush 13, 2) := by decide +kernel
theorem dX9_goMonth_95 : decode cX9_goMonth 95 = .ok (.iload_n 3, 1) := by decide +kernel
theorem dX9_goMonth_96 : decode cX9_goMonth 96 = .ok (.iconst 4, 1) := by decide +kernel
theorem dX9_goMonth_97 : decode cX9_goMonth 97 = .ok (.idiv, 1) := by decide +kernel
theorem dX9_goMonth_98 : decode cX9_goMonth 98 = .ok (.iconst 4, 1) := by decide +kernel
theorem dX9_goMonth_99 : decode cX9_goMonth 99 = .ok (.irem, 1) := by decide +kernel
theorem dX9_goMonth_100 : decode cX9_goMonth 100 = .ok (.imul, 1) := by decide +kernel
theorem dX9_goMonth_101 : decode cX9_goMonth 101 = .ok (.iadd, 1) := by decide +kernel
theorem dX9_goMonth_102 : decode cX9_goMonth 102 = .ok (.sipush 169, 3) := by decide +kernel
theorem dX9_goMonth_105 : decode cX9_goMonth 105 = .ok (.iload_n 3, 1) := by decide +kernel
theorem dX9_goMonth_106 : decode cX9_goMonth 106 = .ok (.bipush 16, 2) := by decide +kernel
theorem dX9_goMonth_108 : decode cX9_goMonth 108 = .ok (.idiv, 1) := by decide +kernel
theorem dX9_goMonth_109 : decode cX9_goMonth 109 = .ok (.imul, 1) := by decide +kernel
theorem dX9_goMonth_110 : decode cX9_goMonth 110 = .ok (.iadd, 1) := by decide +kernel
theorem dX9_goMonth_111 : decode cX9_goMonth 111 = .ok (.istore 5, 2) := by decide +kernel
theorem dX9_goMonth_113 : decode cX9_goMonth 113 = .ok (.aload_n 0, 1) := by decide +kernel
theorem dX9_goMonth_114 : decode cX9_goMonth 114 = .ok (.getfield 50, 3) := by decide +kernel
theorem dX9_goMonth_117 : decode cX9_goMonth 117 = .ok (.iload 4, 2) := by decide +kernel
theorem dX9_goMonth_119 : decode cX9_goMonth 119 = .ok (.ifCond .eq 8, 3) := by decide +kernel
theorem dX9_goMonth_122 : decode cX9_goMonth 122 = .ok (.iload 5, 2) := by decide +kernel
theorem dX9_goMonth_124 : decode cX9_goMonth 124 = .ok (.goto 4, 3) := by decide +kernel
theorem dX9_goMonth_127 : decode cX9_goMonth 127 = .ok (.iconst 0, 1) := by decide +kernel
theorem dX9_goMonth_128 : decode cX9_goMonth 128 = .ok (.dup2, 1) := by decide +kernel
theorem dX9_goMonth_129 : decode cX9_goMonth 129 = .ok (.laload, 1) := by decide +kernel
theorem dX9_goMonth_130 : decode cX9_goMonth 130 = .ok (.iload 4, 2) := by decide +kernel
theorem dX9_goMonth_132 : decode cX9_goMonth 132 = .ok (.ifCond .eq 22, 3) := by decide +kernel
theorem dX9_goMonth_135 : decode cX9_goMonth 135 = .ok (.aload_n 0, 1) := by decide +kernel
theorem dX9_goMonth_136 : decode cX9_goMonth 136 = .ok (.iload 5, 2) := by decide +kernel
theorem dX9_goMonth_138 : decode cX9_goMonth 138 = .ok (.iload_n 1, 1) := by decide +kernel
theorem dX9_goMonth_139 : decode cX9_goMonth 139 = .ok (.invokevirtual 192, 3) := by decide +kernel
theorem dX9_goMonth_142 : decode cX9_goMonth 142 = .ok (.ifCond .eq 12, 3) := by decide +kernel
theorem dX9_goMonth_145 : decode cX9_goMonth 145 = .ok (.aload_n 0, 1) := by decide +kernel
theorem dX9_goMonth_146 : decode cX9_goMonth 146 = .ok (.getfield 46, 3) := by decide +kernel
theorem dX9_goMonth_149 : decode cX9_goMonth 149 = .ok (.iload_n 2, 1) := by decide +kernel
theorem dX9_goMonth_150 : decode cX9_goMonth 150 = .ok (.laload, 1) := by decide +kernel
theorem dX9_goMonth_151 : decode cX9_goMonth 151 = .ok (.goto 4, 3) := by decide +kernel
theorem dX9_goMonth_154 : decode cX9_goMonth 154 = .ok (.lconst 0, 1) := by decide +kernel
theorem dX9_goMonth_155 : decode cX9_goMonth 155 = .ok (.ladd, 1) := by decide +kernel
theorem dX9_goMonth_156 : decode cX9_goMonth 156 = .ok (.lastore, 1) := by decide +kernel
theorem dX9_goMonth_157 : decode cX9_goMonth 157 = .ok (.iinc 3 1, 3) := by decide +kernel
theorem dX9_goMonth_160 : decode cX9_goMonth 160 = .ok (.goto (-127), 3) := by decide +kernel
theorem dX9_goMonth_163 : decode cX9_goMonth 163 = .ok (.iinc 2 1, 3) := by decide +kernel
theorem dX9_goMonth_166 : decode cX9_goMonth 166 = .ok (.goto (-142), 3) := by decide +kernel
theorem dX9_goMonth_169 : decode cX9_goMonth 169 = .ok (.iconst 0, 1) := by decide +kernel
theorem dX9_goMonth_170 : decode cX9_goMonth 170 = .ok (.istore_n 2, 1) := by decide +kernel
theorem dX9_goMonth_171 : decode cX9_goMonth 171 = .ok (.iload_n 2, 1) := by decide +kernel
theorem dX9_goMonth_172 : decode cX9_goMonth 172 = .ok (.sipush 2197, 3) := by decide +kernel
theorem dX9_goMonth_175 : decode cX9_goMonth 175 = .ok (.if_icmp .ge 21, 3) := by decide +kernel
theorem dX9_goMonth_178 : decode cX9_goMonth 178 = .ok (.aload_n 0, 1) := by decide +kernel
theorem dX9_goMonth_179 : decode cX9_goMonth 179 = .ok (.getfield 46, 3) := by decide +kernel
theorem dX9_goMonth_182 : decode cX9_goMonth 182 = .ok (.iload_n 2, 1) := by decide +kernel
theorem dX9_goMonth_183 : decode cX9_goMonth 183 = .ok (.aload_n 0, 1) := by decide +kernel
theorem dX9_goMonth_184 : decode cX9_goMonth 184 = .ok (.getfield 50, 3) := by decide +kernel
theorem dX9_goMonth_187 : decode cX9_goMonth 187 = .ok (.iload_n 2, 1) := by decide +kernel
theorem dX9_goMonth_188 : decode cX9_goMonth 188 = .ok (.laload, 1) := by decide +kernel
theorem dX9_goMonth_189 : decode cX9_goMonth 189 = .ok (.lastore, 1) := by decide +kernel
theorem dX9_goMonth_190 : decode cX9_goMonth 190 = .ok (.iinc 2 1, 3) := by decide +kernel
theorem dX9_goMonth_193 : decode cX9_goMonth 193 = .ok (.goto (-22), 3) := by decide +kernel
theorem dX9_goMonth_196 : decode cX9_goMonth 196 = .ok (.return_, 1) := by decide +kernel
set_option maxRecDepth 20000 in
theorem ggX9_line_X9_in : GoodIn wsX9_line wsX9_in := goodIn_r _ [10] (by decide +kernel) (by decide +kernel)
set_option maxRecDepth 20000 in
theorem gX9_line_X9_in : GoodIn wsX9_line (va_wsS RX9 69 yX9_in wsX9_in) := goodIn_app (goodIn_of _ (by decide +kernel)) ggX9_line_X9_in
set_option maxRecDepth 20000 in
theorem ggX9_line_X9_goMonth : GoodIn wsX9_line wsX9_goMonth := goodIn_r _ [14, 15, 4, 1, 16, 17, 18, 9, 19, 20, 21, 22, 23, 24, 25, 26, 27, 28, 29, 30, 31, 32, 33, 34, 35, 36, 37, 38, 39, 40, 41, 42, 43, 44, 45, 46, 47, 48, 49, 50, 51, 52, 53, 54, 55, 56, 57, 58, 59, 60, 61, 62, 63, 64] (by decide +kernel) (by decide +kernel)
set_option maxRecDepth 20000 in
theorem gX9_line_X9_goMonth : GoodIn wsX9_line (wsV RX9 200 RX9 yX9_goMonth wsX9_goMonth) := goodIn_app (goodIn_of _ (by decide +kernel)) ggX9_line_X9_goMonth
theorem dX9_line_0 : decode cX9_line 0 = .ok (.aload_n 0, 1) := by decide +kernel
theorem dX9_line_1 : decode cX9_line 1 = .ok (.getfield 104, 3) := by decide +kernel
theorem dX9_line_4 : decode cX9_line 4 = .ok (.i2l, 1) := by decide +kernel
theorem dX9_line_5 : decode cX9_line 5 = .ok (.lconst 1, 1) := by decide +kernel
theorem dX9_line_6 : decode cX9_line 6 = .ok (.ldc2_w 196, 3) := by decide +kernel
theorem dX9_line_9 : decode cX9_line 9 = .ok (.invokestatic 69, 3) := by decide +kernel
theorem dX9_line_12 : decode cX9_line 12 = .ok (.ifCond .ne 7, 3) := by decide +kernel
theorem dX9_line_15 : decode cX9_line 15 = .ok (.ldc2_w 198, 3) := by decide +kernel
theorem dX9_line_18 : decode cX9_line 18 = .ok (.lreturn, 1) := by decide +kernel
theorem dX9_line_19 : decode cX9_line 19 = .ok (.iconst 0, 1) := by decide +kernel
theorem dX9_line_20 : decode cX9_line 20 = .ok (.istore_n 1, 1) := by decide +kernel
theorem dX9_line_21 : decode cX9_line 21 = .ok (.iload_n 1, 1) := by decide +kernel
theorem dX9_line_22 : decode cX9_line 22 = .ok (.sipush 2197, 3) := by decide +kernel
theorem dX9_line_25 : decode cX9_line 25 = .ok (.if_icmp .ge 24, 3) := by decide +kernel
theorem dX9_line_28 : decode cX9_line 28 = .ok (.aload_n 0, 1) := by decide +kernel
theorem dX9_line_29 : decode cX9_line 29 = .ok (.getfield 46, 3) := by decide +kernel
theorem dX9_line_32 : decode cX9_line 32 = .ok (.iload_n 1, 1) := by decide +kernel
theorem dX9_line_33 : decode cX9_line 33 = .ok (.iload_n 1, 1) := by decide +kernel
theorem dX9_line_34 : decode cX9_line 34 = .ok (.ifCond .ne 7, 3) := by decide +kernel
theorem dX9_line_37 : decode cX9_line 37 = .ok (.lconst 1, 1) := by decide +kernel
theorem dX9_line_38 : decode cX9_line 38 = .ok (.goto 4, 3) := by decide +kernel
theorem dX9_line_41 : decode cX9_line 41 = .ok (.lconst 0, 1) := by decide +kernel
theorem dX9_line_42 : decode cX9_line 42 = .ok (.lastore, 1) := by decide +kernel
theorem dX9_line_43 : decode cX9_line 43 = .ok (.iinc 1 1, 3) := by decide +kernel
theorem dX9_line_46 : decode cX9_line 46 = .ok (.goto (-25), 3) := by decide +kernel
theorem dX9_line_49 : decode cX9_line 49 = .ok (.iconst 0, 1) := by decide +kernel
theorem dX9_line_50 : decode cX9_line 50 = .ok (.istore_n 1, 1) := by decide +kernel
theorem dX9_line_51 : decode cX9_line 51 = .ok (.iload_n 1, 1) := by decide +kernel
theorem dX9_line_52 : decode cX9_line 52 = .ok (.aload_n 0, 1) := by decide +kernel
theorem dX9_line_53 : decode cX9_line 53 = .ok (.getfield 186, 3) := by decide +kernel
theorem dX9_line_56 : decode cX9_line 56 = .ok (.if_icmp .ge 19, 3) := by decide +kernel
theorem dX9_line_59 : decode cX9_line 59 = .ok (.aload_n 0, 1) := by decide +kernel
theorem dX9_line_60 : decode cX9_line 60 = .ok (.aload_n 0, 1) := by decide +kernel
theorem dX9_line_61 : decode cX9_line 61 = .ok (.getfield 43, 3) := by decide +kernel
theorem dX9_line_64 : decode cX9_line 64 = .ok (.iload_n 1, 1) := by decide +kernel
theorem dX9_line_65 : decode cX9_line 65 = .ok (.iaload, 1) := by decide +kernel
theorem dX9_line_66 : decode cX9_line 66 = .ok (.invokevirtual 200, 3) := by decide +kernel
theorem dX9_line_69 : decode cX9_line 69 = .ok (.iinc 1 1, 3) := by decide +kernel
theorem dX9_line_72 : decode cX9_line 72 = .ok (.goto (-21), 3) := by decide +kernel
theorem dX9_line_75 : decode cX9_line 75 = .ok (.lconst 0, 1) := by decide +kernel
theorem dX9_line_76 : decode cX9_line 76 = .ok (.lstore_n 1, 1) := by decide +kernel
theorem dX9_line_77 : decode cX9_line 77 = .ok (.iconst 0, 1) := by decide +kernel
theorem dX9_line_78 : decode cX9_line 78 = .ok (.istore_n 3, 1) := by decide +kernel
theorem dX9_line_79 : decode cX9_line 79 = .ok (.iload_n 3, 1) := by decide +kernel
theorem dX9_line_80 : decode cX9_line 80 = .ok (.sipush 2197, 3) := by decide +kernel
theorem dX9_line_83 : decode cX9_line 83 = .ok (.if_icmp .ge 18, 3) := by decide +kernel
theorem dX9_line_86 : decode cX9_line 86 = .ok (.lload_n 1, 1) := by decide +kernel
theorem dX9_line_87 : decode cX9_line 87 = .ok (.aload_n 0, 1) := by decide +kernel
theorem dX9_line_88 : decode cX9_line 88 = .ok (.getfield 46, 3) := by decide +kernel
theorem dX9_line_91 : decode cX9_line 91 = .ok (.iload_n 3, 1) := by decide +kernel
theorem dX9_line_92 : decode cX9_line 92 = .ok (.laload, 1) := by decide +kernel
theorem dX9_line_93 : decode cX9_line 93 = .ok (.ladd, 1) := by decide +kernel
theorem dX9_line_94 : decode cX9_line 94 = .ok (.lstore_n 1, 1) := by decide +kernel
theorem dX9_line_95 : decode cX9_line 95 = .ok (.iinc 3 1, 3) := by decide +kernel
theorem dX9_line_98 : decode cX9_line 98 = .ok (.goto (-19), 3) := by decide +kernel
theorem dX9_line_101 : decode cX9_line 101 = .ok (.lload_n 1, 1) := by decide +kernel
theorem dX9_line_102 : decode cX9_line 102 = .ok (.lreturn, 1) := by decide +kernel
theorem dX9_seed_0 : decode cX9_seed 0 = .ok (.aload_n 0, 1) := by decide +kernel
theorem dX9_seed_1 : decode cX9_seed 1 = .ok (.getfield 204, 3) := by decide +kernel
theorem dX9_seed_4 : decode cX9_seed 4 = .ok (.lstore_n 3, 1) := by decide +kernel
theorem dX9_seed_5 : decode cX9_seed 5 = .ok (.aload_n 0, 1) := by decide +kernel
theorem dX9_seed_6 : decode cX9_seed 6 = .ok (.lload_n 1, 1) := by decide +kernel
theorem dX9_seed_7 : decode cX9_seed 7 = .ok (.putfield 204, 3) := by decide +kernel
theorem dX9_seed_10 : decode cX9_seed 10 = .ok (.lload_n 3, 1) := by decide +kernel
theorem dX9_seed_11 : decode cX9_seed 11 = .ok (.lreturn, 1) := by decide +kernel
set_option maxRecDepth 20000 in
theorem ggX9_reign_X9_isPerson : GoodIn wsX9_reign wsX9_isPerson := goodIn_r _ [13, 4, 14, 15, 12, 16, 36, 37, 38, 39, 40, 41, 42, 43, 44, 45, 46, 47, 48, 49, 50, 51, 52, 53, 54, 55, 56, 57, 58, 59, 60, 61, 62, 63, 64, 65, 66, 67, 68, 69] (by decide +kernel) (by decide +kernel)
set_option maxRecDepth 20000 in
theorem gX9_reign_X9_isPerson : GoodIn wsX9_reign (wsV RX9 116 RX9 yX9_isPerson wsX9_isPerson) := goodIn_app (goodIn_of _ (by decide +kernel)) ggX9_reign_X9_isPerson
set_option maxRecDepth 20000 in
theorem ggX9_reign_X9_in : GoodIn wsX9_reign wsX9_in := goodIn_r _ [16] (by decide +kernel) (by decide +kernel)
set_option maxRecDepth 20000 in
theorem gX9_reign_X9_in : GoodIn wsX9_reign (va_wsS RX9 69 yX9_in wsX9_in) := goodIn_app (goodIn_of _ (by decide +kernel)) ggX9_reign_X9_in
set_option maxRecDepth 20000 in
theorem ggX9_reign_X9_left : GoodIn wsX9_reign wsX9_left := goodIn_r _ [19] (by decide +kernel) (by decide +kernel)
set_option maxRecDepth 20000 in
theorem gX9_reign_X9_left : GoodIn wsX9_reign (va_wsS RX9 137 yX9_left wsX9_left) := goodIn_app (goodIn_of _ (by decide +kernel)) ggX9_reign_X9_left
set_option maxRecDepth 20000 in
theorem ggX9_reign_X9_crownBy : GoodIn wsX9_reign wsX9_crownBy := goodIn_r _ [23, 4, 24, 25, 26, 12, 27, 3, 28, 29, 30, 31, 32, 33, 34, 35, 36, 37, 38, 39, 40, 41, 42, 43, 44, 45, 46, 47, 48, 49, 50, 51, 52, 53, 54, 55, 56, 57, 58, 59, 60, 61, 62, 63, 64, 65, 66, 67, 68, 69] (by decide +kernel) (by decide +kernel)
set_option maxRecDepth 20000 in
theorem gX9_reign_X9_crownBy : GoodIn wsX9_reign (wsV RX9 144 RX9 yX9_crownBy wsX9_crownBy) := goodIn_app (goodIn_of _ (by decide +kernel)) ggX9_reign_X9_crownBy
theorem dX9_reign_0 : decode cX9_reign 0 = .ok (.aload_n 0, 1) := by decide +kernel
theorem dX9_reign_1 : decode cX9_reign 1 = .ok (.iload_n 1, 1) := by decide +kernel
theorem dX9_reign_2 : decode cX9_reign 2 = .ok (.invokevirtual 116, 3) := by decide +kernel
theorem dX9_reign_5 : decode cX9_reign 5 = .ok (.ifCond .ne 5, 3) := by decide +kernel
theorem dX9_reign_8 : decode cX9_reign 8 = .ok (.iconst (-1), 1) := by decide +kernel
theorem dX9_reign_9 : decode cX9_reign 9 = .ok (.ireturn, 1) := by decide +kernel
theorem dX9_reign_10 : decode cX9_reign 10 = .ok (.iload_n 2, 1) := by decide +kernel
theorem dX9_reign_11 : decode cX9_reign 11 = .ok (.i2l, 1) := by decide +kernel
theorem dX9_reign_12 : decode cX9_reign 12 = .ok (.lconst 0, 1) := by decide +kernel
theorem dX9_reign_13 : decode cX9_reign 13 = .ok (.ldc2_w 127, 3) := by decide +kernel
theorem dX9_reign_16 : decode cX9_reign 16 = .ok (.invokestatic 69, 3) := by decide +kernel
theorem dX9_reign_19 : decode cX9_reign 19 = .ok (.ifCond .ne 6, 3) := by decide +kernel
theorem dX9_reign_22 : decode cX9_reign 22 = .ok (.bipush (-2), 2) := by decide +kernel
theorem dX9_reign_24 : decode cX9_reign 24 = .ok (.ireturn, 1) := by decide +kernel
theorem dX9_reign_25 : decode cX9_reign 25 = .ok (.iconst 0, 1) := by decide +kernel
theorem dX9_reign_26 : decode cX9_reign 26 = .ok (.istore_n 3, 1) := by decide +kernel
theorem dX9_reign_27 : decode cX9_reign 27 = .ok (.iload_n 3, 1) := by decide +kernel
theorem dX9_reign_28 : decode cX9_reign 28 = .ok (.bipush 26, 2) := by decide +kernel
theorem dX9_reign_30 : decode cX9_reign 30 = .ok (.if_icmp .ge 21, 3) := by decide +kernel
theorem dX9_reign_33 : decode cX9_reign 33 = .ok (.aload_n 0, 1) := by decide +kernel
theorem dX9_reign_34 : decode cX9_reign 34 = .ok (.getfield 53, 3) := by decide +kernel
theorem dX9_reign_37 : decode cX9_reign 37 = .ok (.iload_n 3, 1) := by decide +kernel
theorem dX9_reign_38 : decode cX9_reign 38 = .ok (.aload_n 0, 1) := by decide +kernel
theorem dX9_reign_39 : decode cX9_reign 39 = .ok (.getfield 13, 3) := by decide +kernel
theorem dX9_reign_42 : decode cX9_reign 42 = .ok (.iload_n 3, 1) := by decide +kernel
theorem dX9_reign_43 : decode cX9_reign 43 = .ok (.iaload, 1) := by decide +kernel
theorem dX9_reign_44 : decode cX9_reign 44 = .ok (.iastore, 1) := by decide +kernel
theorem dX9_reign_45 : decode cX9_reign 45 = .ok (.iinc 3 1, 3) := by decide +kernel
theorem dX9_reign_48 : decode cX9_reign 48 = .ok (.goto (-21), 3) := by decide +kernel
theorem dX9_reign_51 : decode cX9_reign 51 = .ok (.iconst 0, 1) := by decide +kernel
theorem dX9_reign_52 : decode cX9_reign 52 = .ok (.istore_n 3, 1) := by decide +kernel
theorem dX9_reign_53 : decode cX9_reign 53 = .ok (.iconst 0, 1) := by decide +kernel
theorem dX9_reign_54 : decode cX9_reign 54 = .ok (.istore 4, 2) := by decide +kernel
theorem dX9_reign_56 : decode cX9_reign 56 = .ok (.iload 4, 2) := by decide +kernel
theorem dX9_reign_58 : decode cX9_reign 58 = .ok (.bipush 12, 2) := by decide +kernel
theorem dX9_reign_60 : decode cX9_reign 60 = .ok (.if_icmp .ge 102, 3) := by decide +kernel
theorem dX9_reign_63 : decode cX9_reign 63 = .ok (.iconst 0, 1) := by decide +kernel
theorem dX9_reign_64 : decode cX9_reign 64 = .ok (.istore 5, 2) := by decide +kernel
theorem dX9_reign_66 : decode cX9_reign 66 = .ok (.iload 5, 2) := by decide +kernel
theorem dX9_reign_68 : decode cX9_reign 68 = .ok (.aload_n 0, 1) := by decide +kernel
theorem dX9_reign_69 : decode cX9_reign 69 = .ok (.getfield 104, 3) := by decide +kernel
theorem dX9_reign_72 : decode cX9_reign 72 = .ok (.if_icmp .ge 67, 3) := by decide +kernel
theorem dX9_reign_75 : decode cX9_reign 75 = .ok (.aload_n 0, 1) := by decide +kernel
theorem dX9_reign_76 : decode cX9_reign 76 = .ok (.aload_n 0, 1) := by decide +kernel
theorem dX9_reign_77 : decode cX9_reign 77 = .ok (.getfield 204, 3) := by decide +kernel
theorem dX9_reign_80 : decode cX9_reign 80 = .ok (.ldc2_w 208, 3) := by decide +kernel
theorem dX9_reign_83 : decode cX9_reign 83 = .ok (.lmul, 1) := by decide +kernel
theorem dX9_reign_84 : decode cX9_reign 84 = .ok (.ldc2_w 210, 3) := by decide +kernel
theorem dX9_reign_87 : decode cX9_reign 87 = .ok (.ladd, 1) := by decide +kernel
theorem dX9_reign_88 : decode cX9_reign 88 = .ok (.putfield 204, 3) := by decide +kernel
theorem dX9_reign_91 : decode cX9_reign 91 = .ok (.aload_n 0, 1) := by decide +kernel
theorem dX9_reign_92 : decode cX9_reign 92 = .ok (.getfield 204, 3) := by decide +kernel
theorem dX9_reign_95 : decode cX9_reign 95 = .ok (.bipush 33, 2) := by decide +kernel
theorem dX9_reign_97 : decode cX9_reign 97 = .ok (.lushr, 1) := by decide +kernel
theorem dX9_reign_98 : decode cX9_reign 98 = .ok (.ldc2_w 212, 3) := by decide +kernel
theorem dX9_reign_101 : decode cX9_reign 101 = .ok (.lrem, 1) := by decide +kernel
theorem dX9_reign_102 : decode cX9_reign 102 = .ok (.l2i, 1) := by decide +kernel
theorem dX9_reign_103 : decode cX9_reign 103 = .ok (.iconst 3, 1) := by decide +kernel
theorem dX9_reign_104 : decode cX9_reign 104 = .ok (.isub, 1) := by decide +kernel
theorem dX9_reign_105 : decode cX9_reign 105 = .ok (.istore 6, 2) := by decide +kernel
theorem dX9_reign_107 : decode cX9_reign 107 = .ok (.aload_n 0, 1) := by decide +kernel
theorem dX9_reign_108 : decode cX9_reign 108 = .ok (.getfield 13, 3) := by decide +kernel
theorem dX9_reign_111 : decode cX9_reign 111 = .ok (.iconst 5, 1) := by decide +kernel
theorem dX9_reign_112 : decode cX9_reign 112 = .ok (.iload 5, 2) := by decide +kernel
theorem dX9_reign_114 : decode cX9_reign 114 = .ok (.imul, 1) := by decide +kernel
theorem dX9_reign_115 : decode cX9_reign 115 = .ok (.aload_n 0, 1) := by decide +kernel
theorem dX9_reign_116 : decode cX9_reign 116 = .ok (.getfield 13, 3) := by decide +kernel
theorem dX9_reign_119 : decode cX9_reign 119 = .ok (.iconst 5, 1) := by decide +kernel
theorem dX9_reign_120 : decode cX9_reign 120 = .ok (.iload 5, 2) := by decide +kernel
theorem dX9_reign_122 : decode cX9_reign 122 = .ok (.imul, 1) := by decide +kernel
theorem dX9_reign_123 : decode cX9_reign 123 = .ok (.iaload, 1) := by decide +kernel
theorem dX9_reign_124 : decode cX9_reign 124 = .ok (.iconst 5, 1) := by decide +kernel
theorem dX9_reign_125 : decode cX9_reign 125 = .ok (.iload 6, 2) := by decide +kernel
theorem dX9_reign_127 : decode cX9_reign 127 = .ok (.imul, 1) := by decide +kernel
theorem dX9_reign_128 : decode cX9_reign 128 = .ok (.iadd, 1) := by decide +kernel
theorem dX9_reign_129 : decode cX9_reign 129 = .ok (.invokestatic 137, 3) := by decide +kernel
theorem dX9_reign_132 : decode cX9_reign 132 = .ok (.iastore, 1) := by decide +kernel
theorem dX9_reign_133 : decode cX9_reign 133 = .ok (.iinc 5 1, 3) := by decide +kernel
theorem dX9_reign_136 : decode cX9_reign 136 = .ok (.goto (-70), 3) := by decide +kernel
theorem dX9_reign_139 : decode cX9_reign 139 = .ok (.iload_n 3, 1) := by decide +kernel
theorem dX9_reign_140 : decode cX9_reign 140 = .ok (.aload_n 0, 1) := by decide +kernel
theorem dX9_reign_141 : decode cX9_reign 141 = .ok (.iload_n 2, 1) := by decide +kernel
theorem dX9_reign_142 : decode cX9_reign 142 = .ok (.invokevirtual 144, 3) := by decide +kernel
theorem dX9_reign_145 : decode cX9_reign 145 = .ok (.iload_n 1, 1) := by decide +kernel
theorem dX9_reign_146 : decode cX9_reign 146 = .ok (.if_icmp .ne 7, 3) := by decide +kernel
theorem dX9_reign_149 : decode cX9_reign 149 = .ok (.iconst 1, 1) := by decide +kernel
theorem dX9_reign_150 : decode cX9_reign 150 = .ok (.goto 4, 3) := by decide +kernel
theorem dX9_reign_153 : decode cX9_reign 153 = .ok (.iconst 0, 1) := by decide +kernel
theorem dX9_reign_154 : decode cX9_reign 154 = .ok (.iadd, 1) := by decide +kernel
theorem dX9_reign_155 : decode cX9_reign 155 = .ok (.istore_n 3, 1) := by decide +kernel
theorem dX9_reign_156 : decode cX9_reign 156 = .ok (.iinc 4 1, 3) := by decide +kernel
theorem dX9_reign_159 : decode cX9_reign 159 = .ok (.goto (-103), 3) := by decide +kernel
theorem dX9_reign_162 : decode cX9_reign 162 = .ok (.iconst 0, 1) := by decide +kernel
theorem dX9_reign_163 : decode cX9_reign 163 = .ok (.istore 4, 2) := by decide +kernel
theorem dX9_reign_165 : decode cX9_reign 165 = .ok (.iload 4, 2) := by decide +kernel
theorem dX9_reign_167 : decode cX9_reign 167 = .ok (.bipush 26, 2) := by decide +kernel
theorem dX9_reign_169 : decode cX9_reign 169 = .ok (.if_icmp .ge 23, 3) := by decide +kernel
theorem dX9_reign_172 : decode cX9_reign 172 = .ok (.aload_n 0, 1) := by decide +kernel
theorem dX9_reign_173 : decode cX9_reign 173 = .ok (.getfield 13, 3) := by decide +kernel
theorem dX9_reign_176 : decode cX9_reign 176 = .ok (.iload 4, 2) := by decide +kernel
theorem dX9_reign_178 : decode cX9_reign 178 = .ok (.aload_n 0, 1) := by decide +kernel
theorem dX9_reign_179 : decode cX9_reign 179 = .ok (.getfield 53, 3) := by decide +kernel
theorem dX9_reign_182 : decode cX9_reign 182 = .ok (.iload 4, 2) := by decide +kernel
theorem dX9_reign_184 : decode cX9_reign 184 = .ok (.iaload, 1) := by decide +kernel
theorem dX9_reign_185 : decode cX9_reign 185 = .ok (.iastore, 1) := by decide +kernel
theorem dX9_reign_186 : decode cX9_reign 186 = .ok (.iinc 4 1, 3) := by decide +kernel
theorem dX9_reign_189 : decode cX9_reign 189 = .ok (.goto (-24), 3) := by decide +kernel
theorem dX9_reign_192 : decode cX9_reign 192 = .ok (.iload_n 3, 1) := by decide +kernel
theorem dX9_reign_193 : decode cX9_reign 193 = .ok (.ireturn, 1) := by decide +kernel
set_option maxRecDepth 20000 in
theorem ggX9_keep_X9_in : GoodIn wsX9_keep wsX9_in := goodIn_r _ [7] (by decide +kernel) (by decide +kernel)
set_option maxRecDepth 20000 in
theorem gX9_keep_X9_in : GoodIn wsX9_keep (va_wsS RX9 69 yX9_in wsX9_in) := goodIn_app (goodIn_of _ (by decide +kernel)) ggX9_keep_X9_in
theorem dX9_keep_0 : decode cX9_keep 0 = .ok (.iload_n 1, 1) := by decide +kernel
theorem dX9_keep_1 : decode cX9_keep 1 = .ok (.i2l, 1) := by decide +kernel
theorem dX9_keep_2 : decode cX9_keep 2 = .ok (.lconst 0, 1) := by decide +kernel
theorem dX9_keep_3 : decode cX9_keep 3 = .ok (.lconst 1, 1) := by decide +kernel
theorem dX9_keep_4 : decode cX9_keep 4 = .ok (.invokestatic 69, 3) := by decide +kernel
theorem dX9_keep_7 : decode cX9_keep 7 = .ok (.ifCond .ne 5, 3) := by decide +kernel
theorem dX9_keep_10 : decode cX9_keep 10 = .ok (.iconst (-1), 1) := by decide +kernel
theorem dX9_keep_11 : decode cX9_keep 11 = .ok (.ireturn, 1) := by decide +kernel
theorem dX9_keep_12 : decode cX9_keep 12 = .ok (.aload_n 0, 1) := by decide +kernel
theorem dX9_keep_13 : decode cX9_keep 13 = .ok (.getfield 56, 3) := by decide +kernel
theorem dX9_keep_16 : decode cX9_keep 16 = .ok (.iload_n 1, 1) := by decide +kernel
theorem dX9_keep_17 : decode cX9_keep 17 = .ok (.iconst 1, 1) := by decide +kernel
theorem dX9_keep_18 : decode cX9_keep 18 = .ok (.bastore, 1) := by decide +kernel
theorem dX9_keep_19 : decode cX9_keep 19 = .ok (.iconst 0, 1) := by decide +kernel
theorem dX9_keep_20 : decode cX9_keep 20 = .ok (.istore_n 2, 1) := by decide +kernel
theorem dX9_keep_21 : decode cX9_keep 21 = .ok (.iload_n 2, 1) := by decide +kernel
theorem dX9_keep_22 : decode cX9_keep 22 = .ok (.bipush 26, 2) := by decide +kernel
theorem dX9_keep_24 : decode cX9_keep 24 = .ok (.if_icmp .ge 26, 3) := by decide +kernel
theorem dX9_keep_27 : decode cX9_keep 27 = .ok (.aload_n 0, 1) := by decide +kernel
theorem dX9_keep_28 : decode cX9_keep 28 = .ok (.getfield 60, 3) := by decide +kernel
theorem dX9_keep_31 : decode cX9_keep 31 = .ok (.bipush 26, 2) := by decide +kernel
theorem dX9_keep_33 : decode cX9_keep 33 = .ok (.iload_n 1, 1) := by decide +kernel
theorem dX9_keep_34 : decode cX9_keep 34 = .ok (.imul, 1) := by decide +kernel
theorem dX9_keep_35 : decode cX9_keep 35 = .ok (.iload_n 2, 1) := by decide +kernel
theorem dX9_keep_36 : decode cX9_keep 36 = .ok (.iadd, 1) := by decide +kernel
theorem dX9_keep_37 : decode cX9_keep 37 = .ok (.aload_n 0, 1) := by decide +kernel
theorem dX9_keep_38 : decode cX9_keep 38 = .ok (.getfield 13, 3) := by decide +kernel
theorem dX9_keep_41 : decode cX9_keep 41 = .ok (.iload_n 2, 1) := by decide +kernel
theorem dX9_keep_42 : decode cX9_keep 42 = .ok (.iaload, 1) := by decide +kernel
theorem dX9_keep_43 : decode cX9_keep 43 = .ok (.iastore, 1) := by decide +kernel
theorem dX9_keep_44 : decode cX9_keep 44 = .ok (.iinc 2 1, 3) := by decide +kernel
theorem dX9_keep_47 : decode cX9_keep 47 = .ok (.goto (-26), 3) := by decide +kernel
theorem dX9_keep_50 : decode cX9_keep 50 = .ok (.aload_n 0, 1) := by decide +kernel
theorem dX9_keep_51 : decode cX9_keep 51 = .ok (.getfield 13, 3) := by decide +kernel
theorem dX9_keep_54 : decode cX9_keep 54 = .ok (.bipush 25, 2) := by decide +kernel
theorem dX9_keep_56 : decode cX9_keep 56 = .ok (.iaload, 1) := by decide +kernel
theorem dX9_keep_57 : decode cX9_keep 57 = .ok (.ireturn, 1) := by decide +kernel
set_option maxRecDepth 20000 in
theorem ggX9_again_X9_in : GoodIn wsX9_again wsX9_in := goodIn_r _ [8] (by decide +kernel) (by decide +kernel)
set_option maxRecDepth 20000 in
theorem gX9_again_X9_in : GoodIn wsX9_again (va_wsS RX9 69 yX9_in wsX9_in) := goodIn_app (goodIn_of _ (by decide +kernel)) ggX9_again_X9_in
theorem dX9_again_0 : decode cX9_again 0 = .ok (.iload_n 1, 1) := by decide +kernel
theorem dX9_again_1 : decode cX9_again 1 = .ok (.i2l, 1) := by decide +kernel
theorem dX9_again_2 : decode cX9_again 2 = .ok (.lconst 0, 1) := by decide +kernel
theorem dX9_again_3 : decode cX9_again 3 = .ok (.lconst 1, 1) := by decide +kernel
theorem dX9_again_4 : decode cX9_again 4 = .ok (.invokestatic 69, 3) := by decide +kernel
theorem dX9_again_7 : decode cX9_again 7 = .ok (.ifCond .ne 5, 3) := by decide +kernel
theorem dX9_again_10 : decode cX9_again 10 = .ok (.iconst (-1), 1) := by decide +kernel
theorem dX9_again_11 : decode cX9_again 11 = .ok (.ireturn, 1) := by decide +kernel
theorem dX9_again_12 : decode cX9_again 12 = .ok (.aload_n 0, 1) := by decide +kernel
theorem dX9_again_13 : decode cX9_again 13 = .ok (.getfield 56, 3) := by decide +kernel
theorem dX9_again_16 : decode cX9_again 16 = .ok (.iload_n 1, 1) := by decide +kernel
theorem dX9_again_17 : decode cX9_again 17 = .ok (.baload, 1) := by decide +kernel
theorem dX9_again_18 : decode cX9_again 18 = .ok (.ifCond .ne 6, 3) := by decide +kernel
theorem dX9_again_21 : decode cX9_again 21 = .ok (.bipush (-3), 2) := by decide +kernel
theorem dX9_again_23 : decode cX9_again 23 = .ok (.ireturn, 1) := by decide +kernel
theorem dX9_again_24 : decode cX9_again 24 = .ok (.iconst 0, 1) := by decide +kernel
theorem dX9_again_25 : decode cX9_again 25 = .ok (.istore_n 2, 1) := by decide +kernel
theorem dX9_again_26 : decode cX9_again 26 = .ok (.iload_n 2, 1) := by decide +kernel
theorem dX9_again_27 : decode cX9_again 27 = .ok (.bipush 26, 2) := by decide +kernel
theorem dX9_again_29 : decode cX9_again 29 = .ok (.if_icmp .ge 26, 3) := by decide +kernel
theorem dX9_again_32 : decode cX9_again 32 = .ok (.aload_n 0, 1) := by decide +kernel
theorem dX9_again_33 : decode cX9_again 33 = .ok (.getfield 13, 3) := by decide +kernel
theorem dX9_again_36 : decode cX9_again 36 = .ok (.iload_n 2, 1) := by decide +kernel
theorem dX9_again_37 : decode cX9_again 37 = .ok (.aload_n 0, 1) := by decide +kernel
theorem dX9_again_38 : decode cX9_again 38 = .ok (.getfield 60, 3) := by decide +kernel
theorem dX9_again_41 : decode cX9_again 41 = .ok (.bipush 26, 2) := by decide +kernel
theorem dX9_again_43 : decode cX9_again 43 = .ok (.iload_n 1, 1) := by decide +kernel
theorem dX9_again_44 : decode cX9_again 44 = .ok (.imul, 1) := by decide +kernel
theorem dX9_again_45 : decode cX9_again 45 = .ok (.iload_n 2, 1) := by decide +kernel
theorem dX9_again_46 : decode cX9_again 46 = .ok (.iadd, 1) := by decide +kernel
theorem dX9_again_47 : decode cX9_again 47 = .ok (.iaload, 1) := by decide +kernel
theorem dX9_again_48 : decode cX9_again 48 = .ok (.iastore, 1) := by decide +kernel
theorem dX9_again_49 : decode cX9_again 49 = .ok (.iinc 2 1, 3) := by decide +kernel
theorem dX9_again_52 : decode cX9_again 52 = .ok (.goto (-26), 3) := by decide +kernel
theorem dX9_again_55 : decode cX9_again 55 = .ok (.aload_n 0, 1) := by decide +kernel
theorem dX9_again_56 : decode cX9_again 56 = .ok (.iconst 0, 1) := by decide +kernel
theorem dX9_again_57 : decode cX9_again 57 = .ok (.putfield 113, 3) := by decide +kernel
theorem dX9_again_60 : decode cX9_again 60 = .ok (.aload_n 0, 1) := by decide +kernel
theorem dX9_again_61 : decode cX9_again 61 = .ok (.getfield 13, 3) := by decide +kernel
theorem dX9_again_64 : decode cX9_again 64 = .ok (.bipush 25, 2) := by decide +kernel
theorem dX9_again_66 : decode cX9_again 66 = .ok (.iaload, 1) := by decide +kernel
theorem dX9_again_67 : decode cX9_again 67 = .ok (.ireturn, 1) := by decide +kernel
set_option maxRecDepth 20000 in
theorem ggX9_count_X9_isIll : GoodIn wsX9_count wsX9_isIll := goodIn_r _ [13, 2, 14, 15, 16, 17, 18, 19, 20, 21, 22, 23, 24, 25, 26, 27, 28, 29, 30, 31, 32, 33, 34, 35, 36, 37, 38, 39, 40, 41, 42, 43, 44, 45, 46, 47, 48] (by decide +kernel) (by decide +kernel)
set_option maxRecDepth 20000 in
theorem gX9_count_X9_isIll : GoodIn wsX9_count (wsV RX9 124 RX9 yX9_isIll wsX9_isIll) := goodIn_app (goodIn_of _ (by decide +kernel)) ggX9_count_X9_isIll
theorem dX9_count_0 : decode cX9_count 0 = .ok (.iconst 0, 1) := by decide +kernel
theorem dX9_count_1 : decode cX9_count 1 = .ok (.istore_n 2, 1) := by decide +kernel
theorem dX9_count_2 : decode cX9_count 2 = .ok (.iconst 0, 1) := by decide +kernel
theorem dX9_count_3 : decode cX9_count 3 = .ok (.istore_n 3, 1) := by decide +kernel
theorem dX9_count_4 : decode cX9_count 4 = .ok (.iconst 0, 1) := by decide +kernel
theorem dX9_count_5 : decode cX9_count 5 = .ok (.istore 4, 2) := by decide +kernel
theorem dX9_count_7 : decode cX9_count 7 = .ok (.iload 4, 2) := by decide +kernel
theorem dX9_count_9 : decode cX9_count 9 = .ok (.aload_n 0, 1) := by decide +kernel
theorem dX9_count_10 : decode cX9_count 10 = .ok (.getfield 104, 3) := by decide +kernel
theorem dX9_count_13 : decode cX9_count 13 = .ok (.if_icmp .ge 43, 3) := by decide +kernel
theorem dX9_count_16 : decode cX9_count 16 = .ok (.iload_n 2, 1) := by decide +kernel
theorem dX9_count_17 : decode cX9_count 17 = .ok (.aload_n 0, 1) := by decide +kernel
theorem dX9_count_18 : decode cX9_count 18 = .ok (.iload 4, 2) := by decide +kernel
theorem dX9_count_20 : decode cX9_count 20 = .ok (.invokevirtual 124, 3) := by decide +kernel
theorem dX9_count_23 : decode cX9_count 23 = .ok (.ifCond .eq 10, 3) := by decide +kernel
theorem dX9_count_26 : decode cX9_count 26 = .ok (.iconst 1, 1) := by decide +kernel
theorem dX9_count_27 : decode cX9_count 27 = .ok (.iload 4, 2) := by decide +kernel
theorem dX9_count_29 : decode cX9_count 29 = .ok (.ishl, 1) := by decide +kernel
theorem dX9_count_30 : decode cX9_count 30 = .ok (.goto 4, 3) := by decide +kernel
theorem dX9_count_33 : decode cX9_count 33 = .ok (.iconst 0, 1) := by decide +kernel
theorem dX9_count_34 : decode cX9_count 34 = .ok (.ior, 1) := by decide +kernel
theorem dX9_count_35 : decode cX9_count 35 = .ok (.istore_n 2, 1) := by decide +kernel
theorem dX9_count_36 : decode cX9_count 36 = .ok (.iload_n 3, 1) := by decide +kernel
theorem dX9_count_37 : decode cX9_count 37 = .ok (.aload_n 0, 1) := by decide +kernel
theorem dX9_count_38 : decode cX9_count 38 = .ok (.getfield 13, 3) := by decide +kernel
theorem dX9_count_41 : decode cX9_count 41 = .ok (.iconst 5, 1) := by decide +kernel
theorem dX9_count_42 : decode cX9_count 42 = .ok (.iload 4, 2) := by decide +kernel
theorem dX9_count_44 : decode cX9_count 44 = .ok (.imul, 1) := by decide +kernel
theorem dX9_count_45 : decode cX9_count 45 = .ok (.iconst 4, 1) := by decide +kernel
theorem dX9_count_46 : decode cX9_count 46 = .ok (.iadd, 1) := by decide +kernel
theorem dX9_count_47 : decode cX9_count 47 = .ok (.iaload, 1) := by decide +kernel
theorem dX9_count_48 : decode cX9_count 48 = .ok (.iadd, 1) := by decide +kernel
theorem dX9_count_49 : decode cX9_count 49 = .ok (.istore_n 3, 1) := by decide +kernel
theorem dX9_count_50 : decode cX9_count 50 = .ok (.iinc 4 1, 3) := by decide +kernel
theorem dX9_count_53 : decode cX9_count 53 = .ok (.goto (-46), 3) := by decide +kernel
theorem dX9_count_56 : decode cX9_count 56 = .ok (.iload_n 1, 1) := by decide +kernel
theorem dX9_count_57 : decode cX9_count 57 = .ok (.tableswitch 102 0 9 #[55, 60, 65, 73, 78, 83, 88, 93, 98, 100], 55) := by decide +kernel
theorem dX9_count_112 : decode cX9_count 112 = .ok (.aload_n 0, 1) := by decide +kernel
theorem dX9_count_113 : decode cX9_count 113 = .ok (.getfield 73, 3) := by decide +kernel
theorem dX9_count_116 : decode cX9_count 116 = .ok (.ireturn, 1) := by decide +kernel
theorem dX9_count_117 : decode cX9_count 117 = .ok (.aload_n 0, 1) := by decide +kernel
theorem dX9_count_118 : decode cX9_count 118 = .ok (.getfield 104, 3) := by decide +kernel
theorem dX9_count_121 : decode cX9_count 121 = .ok (.ireturn, 1) := by decide +kernel
theorem dX9_count_122 : decode cX9_count 122 = .ok (.aload_n 0, 1) := by decide +kernel
theorem dX9_count_123 : decode cX9_count 123 = .ok (.getfield 13, 3) := by decide +kernel
theorem dX9_count_126 : decode cX9_count 126 = .ok (.bipush 25, 2) := by decide +kernel
theorem dX9_count_128 : decode cX9_count 128 = .ok (.iaload, 1) := by decide +kernel
theorem dX9_count_129 : decode cX9_count 129 = .ok (.ireturn, 1) := by decide +kernel
theorem dX9_count_130 : decode cX9_count 130 = .ok (.aload_n 0, 1) := by decide +kernel
theorem dX9_count_131 : decode cX9_count 131 = .ok (.getfield 113, 3) := by decide +kernel
theorem dX9_count_134 : decode cX9_count 134 = .ok (.ireturn, 1) := by decide +kernel
theorem dX9_count_135 : decode cX9_count 135 = .ok (.aload_n 0, 1) := by decide +kernel
theorem dX9_count_136 : decode cX9_count 136 = .ok (.getfield 164, 3) := by decide +kernel
theorem dX9_count_139 : decode cX9_count 139 = .ok (.ireturn, 1) := by decide +kernel
theorem dX9_count_140 : decode cX9_count 140 = .ok (.aload_n 0, 1) := by decide +kernel
theorem dX9_count_141 : decode cX9_count 141 = .ok (.getfield 171, 3) := by decide +kernel
theorem dX9_count_144 : decode cX9_count 144 = .ok (.ireturn, 1) := by decide +kernel
theorem dX9_count_145 : decode cX9_count 145 = .ok (.aload_n 0, 1) := by decide +kernel
theorem dX9_count_146 : decode cX9_count 146 = .ok (.getfield 186, 3) := by decide +kernel
theorem dX9_count_149 : decode cX9_count 149 = .ok (.ireturn, 1) := by decide +kernel
theorem dX9_count_150 : decode cX9_count 150 = .ok (.aload_n 0, 1) := by decide +kernel
theorem dX9_count_151 : decode cX9_count 151 = .ok (.getfield 63, 3) := by decide +kernel
theorem dX9_count_154 : decode cX9_count 154 = .ok (.ireturn, 1) := by decide +kernel
theorem dX9_count_155 : decode cX9_count 155 = .ok (.iload_n 2, 1) := by decide +kernel
theorem dX9_count_156 : decode cX9_count 156 = .ok (.ireturn, 1) := by decide +kernel
theorem dX9_count_157 : decode cX9_count 157 = .ok (.iload_n 3, 1) := by decide +kernel
theorem dX9_count_158 : decode cX9_count 158 = .ok (.ireturn, 1) := by decide +kernel
theorem dX9_count_159 : decode cX9_count 159 = .ok (.bipush (-2), 2) := by decide +kernel
theorem dX9_count_161 : decode cX9_count 161 = .ok (.ireturn, 1) := by decide +kernel
