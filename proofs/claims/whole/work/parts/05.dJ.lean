theorem dJ6_bitCount_0f7a4_0 : decode cJ6_bitCount_0f7a4 0 = .ok (.iload_n 0, 1) := by decide +kernel
theorem dJ6_bitCount_0f7a4_1 : decode cJ6_bitCount_0f7a4 1 = .ok (.iload_n 0, 1) := by decide +kernel
theorem dJ6_bitCount_0f7a4_2 : decode cJ6_bitCount_0f7a4 2 = .ok (.iconst 1, 1) := by decide +kernel
theorem dJ6_bitCount_0f7a4_3 : decode cJ6_bitCount_0f7a4 3 = .ok (.iushr, 1) := by decide +kernel
theorem dJ6_bitCount_0f7a4_4 : decode cJ6_bitCount_0f7a4 4 = .ok (.ldc_w 265, 3) := by decide +kernel
theorem dJ6_bitCount_0f7a4_7 : decode cJ6_bitCount_0f7a4 7 = .ok (.iand, 1) := by decide +kernel
theorem dJ6_bitCount_0f7a4_8 : decode cJ6_bitCount_0f7a4 8 = .ok (.isub, 1) := by decide +kernel
theorem dJ6_bitCount_0f7a4_9 : decode cJ6_bitCount_0f7a4 9 = .ok (.istore_n 0, 1) := by decide +kernel
theorem dJ6_bitCount_0f7a4_10 : decode cJ6_bitCount_0f7a4 10 = .ok (.iload_n 0, 1) := by decide +kernel
theorem dJ6_bitCount_0f7a4_11 : decode cJ6_bitCount_0f7a4 11 = .ok (.ldc_w 266, 3) := by decide +kernel
theorem dJ6_bitCount_0f7a4_14 : decode cJ6_bitCount_0f7a4 14 = .ok (.iand, 1) := by decide +kernel
theorem dJ6_bitCount_0f7a4_15 : decode cJ6_bitCount_0f7a4 15 = .ok (.iload_n 0, 1) := by decide +kernel
theorem dJ6_bitCount_0f7a4_16 : decode cJ6_bitCount_0f7a4 16 = .ok (.iconst 2, 1) := by decide +kernel
theorem dJ6_bitCount_0f7a4_17 : decode cJ6_bitCount_0f7a4 17 = .ok (.iushr, 1) := by decide +kernel
theorem dJ6_bitCount_0f7a4_18 : decode cJ6_bitCount_0f7a4 18 = .ok (.ldc_w 266, 3) := by decide +kernel
theorem dJ6_bitCount_0f7a4_21 : decode cJ6_bitCount_0f7a4 21 = .ok (.iand, 1) := by decide +kernel
theorem dJ6_bitCount_0f7a4_22 : decode cJ6_bitCount_0f7a4 22 = .ok (.iadd, 1) := by decide +kernel
theorem dJ6_bitCount_0f7a4_23 : decode cJ6_bitCount_0f7a4 23 = .ok (.istore_n 0, 1) := by decide +kernel
theorem dJ6_bitCount_0f7a4_24 : decode cJ6_bitCount_0f7a4 24 = .ok (.iload_n 0, 1) := by decide +kernel
theorem dJ6_bitCount_0f7a4_25 : decode cJ6_bitCount_0f7a4 25 = .ok (.iload_n 0, 1) := by decide +kernel
theorem dJ6_bitCount_0f7a4_26 : decode cJ6_bitCount_0f7a4 26 = .ok (.iconst 4, 1) := by decide +kernel
theorem dJ6_bitCount_0f7a4_27 : decode cJ6_bitCount_0f7a4 27 = .ok (.iushr, 1) := by decide +kernel
theorem dJ6_bitCount_0f7a4_28 : decode cJ6_bitCount_0f7a4 28 = .ok (.iadd, 1) := by decide +kernel
theorem dJ6_bitCount_0f7a4_29 : decode cJ6_bitCount_0f7a4 29 = .ok (.ldc_w 267, 3) := by decide +kernel
theorem dJ6_bitCount_0f7a4_32 : decode cJ6_bitCount_0f7a4 32 = .ok (.iand, 1) := by decide +kernel
theorem dJ6_bitCount_0f7a4_33 : decode cJ6_bitCount_0f7a4 33 = .ok (.istore_n 0, 1) := by decide +kernel
theorem dJ6_bitCount_0f7a4_34 : decode cJ6_bitCount_0f7a4 34 = .ok (.iload_n 0, 1) := by decide +kernel
theorem dJ6_bitCount_0f7a4_35 : decode cJ6_bitCount_0f7a4 35 = .ok (.iload_n 0, 1) := by decide +kernel
theorem dJ6_bitCount_0f7a4_36 : decode cJ6_bitCount_0f7a4 36 = .ok (.bipush 8, 2) := by decide +kernel
theorem dJ6_bitCount_0f7a4_38 : decode cJ6_bitCount_0f7a4 38 = .ok (.iushr, 1) := by decide +kernel
theorem dJ6_bitCount_0f7a4_39 : decode cJ6_bitCount_0f7a4 39 = .ok (.iadd, 1) := by decide +kernel
theorem dJ6_bitCount_0f7a4_40 : decode cJ6_bitCount_0f7a4 40 = .ok (.istore_n 0, 1) := by decide +kernel
theorem dJ6_bitCount_0f7a4_41 : decode cJ6_bitCount_0f7a4 41 = .ok (.iload_n 0, 1) := by decide +kernel
theorem dJ6_bitCount_0f7a4_42 : decode cJ6_bitCount_0f7a4 42 = .ok (.iload_n 0, 1) := by decide +kernel
theorem dJ6_bitCount_0f7a4_43 : decode cJ6_bitCount_0f7a4 43 = .ok (.bipush 16, 2) := by decide +kernel
theorem dJ6_bitCount_0f7a4_45 : decode cJ6_bitCount_0f7a4 45 = .ok (.iushr, 1) := by decide +kernel
theorem dJ6_bitCount_0f7a4_46 : decode cJ6_bitCount_0f7a4 46 = .ok (.iadd, 1) := by decide +kernel
theorem dJ6_bitCount_0f7a4_47 : decode cJ6_bitCount_0f7a4 47 = .ok (.istore_n 0, 1) := by decide +kernel
theorem dJ6_bitCount_0f7a4_48 : decode cJ6_bitCount_0f7a4 48 = .ok (.iload_n 0, 1) := by decide +kernel
theorem dJ6_bitCount_0f7a4_49 : decode cJ6_bitCount_0f7a4 49 = .ok (.bipush 63, 2) := by decide +kernel
theorem dJ6_bitCount_0f7a4_51 : decode cJ6_bitCount_0f7a4 51 = .ok (.iand, 1) := by decide +kernel
theorem dJ6_bitCount_0f7a4_52 : decode cJ6_bitCount_0f7a4 52 = .ok (.ireturn, 1) := by decide +kernel
theorem dJ9_max_7cf53_0 : decode cJ9_max_7cf53 0 = .ok (.iload_n 0, 1) := by decide +kernel
theorem dJ9_max_7cf53_1 : decode cJ9_max_7cf53 1 = .ok (.iload_n 1, 1) := by decide +kernel
theorem dJ9_max_7cf53_2 : decode cJ9_max_7cf53 2 = .ok (.if_icmp .lt 7, 3) := by decide +kernel
theorem dJ9_max_7cf53_5 : decode cJ9_max_7cf53 5 = .ok (.iload_n 0, 1) := by decide +kernel
theorem dJ9_max_7cf53_6 : decode cJ9_max_7cf53 6 = .ok (.goto 4, 3) := by decide +kernel
theorem dJ9_max_7cf53_9 : decode cJ9_max_7cf53 9 = .ok (.iload_n 1, 1) := by decide +kernel
theorem dJ9_max_7cf53_10 : decode cJ9_max_7cf53 10 = .ok (.ireturn, 1) := by decide +kernel
theorem dJ9_min_7cf53_0 : decode cJ9_min_7cf53 0 = .ok (.iload_n 0, 1) := by decide +kernel
theorem dJ9_min_7cf53_1 : decode cJ9_min_7cf53 1 = .ok (.iload_n 1, 1) := by decide +kernel
theorem dJ9_min_7cf53_2 : decode cJ9_min_7cf53 2 = .ok (.if_icmp .gt 7, 3) := by decide +kernel
theorem dJ9_min_7cf53_5 : decode cJ9_min_7cf53 5 = .ok (.iload_n 0, 1) := by decide +kernel
theorem dJ9_min_7cf53_6 : decode cJ9_min_7cf53 6 = .ok (.goto 4, 3) := by decide +kernel
theorem dJ9_min_7cf53_9 : decode cJ9_min_7cf53 9 = .ok (.iload_n 1, 1) := by decide +kernel
theorem dJ9_min_7cf53_10 : decode cJ9_min_7cf53 10 = .ok (.ireturn, 1) := by decide +kernel
theorem dJ7_fill_d0a16_0 : decode cJ7_fill_d0a16 0 = .ok (.iconst 0, 1) := by decide +kernel
theorem dJ7_fill_d0a16_1 : decode cJ7_fill_d0a16 1 = .ok (.istore_n 3, 1) := by decide +kernel
theorem dJ7_fill_d0a16_2 : decode cJ7_fill_d0a16 2 = .ok (.aload_n 0, 1) := by decide +kernel
theorem dJ7_fill_d0a16_3 : decode cJ7_fill_d0a16 3 = .ok (.arraylength, 1) := by decide +kernel
theorem dJ7_fill_d0a16_4 : decode cJ7_fill_d0a16 4 = .ok (.istore 4, 2) := by decide +kernel
theorem dJ7_fill_d0a16_6 : decode cJ7_fill_d0a16 6 = .ok (.iload_n 3, 1) := by decide +kernel
theorem dJ7_fill_d0a16_7 : decode cJ7_fill_d0a16 7 = .ok (.iload 4, 2) := by decide +kernel
theorem dJ7_fill_d0a16_9 : decode cJ7_fill_d0a16 9 = .ok (.if_icmp .ge 13, 3) := by decide +kernel
theorem dJ7_fill_d0a16_12 : decode cJ7_fill_d0a16 12 = .ok (.aload_n 0, 1) := by decide +kernel
theorem dJ7_fill_d0a16_13 : decode cJ7_fill_d0a16 13 = .ok (.iload_n 3, 1) := by decide +kernel
theorem dJ7_fill_d0a16_14 : decode cJ7_fill_d0a16 14 = .ok (.lload_n 1, 1) := by decide +kernel
theorem dJ7_fill_d0a16_15 : decode cJ7_fill_d0a16 15 = .ok (.lastore, 1) := by decide +kernel
theorem dJ7_fill_d0a16_16 : decode cJ7_fill_d0a16 16 = .ok (.iinc 3 1, 3) := by decide +kernel
theorem dJ7_fill_d0a16_19 : decode cJ7_fill_d0a16 19 = .ok (.goto (-13), 3) := by decide +kernel
theorem dJ7_fill_d0a16_22 : decode cJ7_fill_d0a16 22 = .ok (.return_, 1) := by decide +kernel
theorem dJ7_fill_53178_0 : decode cJ7_fill_53178 0 = .ok (.iconst 0, 1) := by decide +kernel
theorem dJ7_fill_53178_1 : decode cJ7_fill_53178 1 = .ok (.istore_n 2, 1) := by decide +kernel
theorem dJ7_fill_53178_2 : decode cJ7_fill_53178 2 = .ok (.aload_n 0, 1) := by decide +kernel
theorem dJ7_fill_53178_3 : decode cJ7_fill_53178 3 = .ok (.arraylength, 1) := by decide +kernel
theorem dJ7_fill_53178_4 : decode cJ7_fill_53178 4 = .ok (.istore_n 3, 1) := by decide +kernel
theorem dJ7_fill_53178_5 : decode cJ7_fill_53178 5 = .ok (.iload_n 2, 1) := by decide +kernel
theorem dJ7_fill_53178_6 : decode cJ7_fill_53178 6 = .ok (.iload_n 3, 1) := by decide +kernel
theorem dJ7_fill_53178_7 : decode cJ7_fill_53178 7 = .ok (.if_icmp .ge 13, 3) := by decide +kernel
theorem dJ7_fill_53178_10 : decode cJ7_fill_53178 10 = .ok (.aload_n 0, 1) := by decide +kernel
theorem dJ7_fill_53178_11 : decode cJ7_fill_53178 11 = .ok (.iload_n 2, 1) := by decide +kernel
theorem dJ7_fill_53178_12 : decode cJ7_fill_53178 12 = .ok (.iload_n 1, 1) := by decide +kernel
theorem dJ7_fill_53178_13 : decode cJ7_fill_53178 13 = .ok (.iastore, 1) := by decide +kernel
theorem dJ7_fill_53178_14 : decode cJ7_fill_53178 14 = .ok (.iinc 2 1, 3) := by decide +kernel
theorem dJ7_fill_53178_17 : decode cJ7_fill_53178 17 = .ok (.goto (-12), 3) := by decide +kernel
theorem dJ7_fill_53178_20 : decode cJ7_fill_53178 20 = .ok (.return_, 1) := by decide +kernel
set_option maxRecDepth 20000 in
theorem ggL_law_X8_init : GoodIn wsL_law wsX8_init := goodIn_r _ [9, 10, 11, 12, 13, 14, 15, 16, 17, 18, 19, 20, 21, 22, 23, 24, 25, 26, 27, 28, 29, 30, 31, 32, 33, 34, 35, 36, 37, 38, 39, 40, 41, 42, 43, 44, 45, 46, 47, 48, 49, 50, 51, 52, 53, 54, 55, 56, 57, 58, 59, 60, 61, 62, 63, 64, 65, 66, 67, 68, 69, 70, 71, 72, 73, 74, 75, 76, 77, 78, 79, 80, 81, 82, 83, 84, 85, 86, 87, 88, 89, 90, 91, 92, 93, 94, 95, 96, 97, 98, 99, 100, 101, 102, 103, 104, 105, 106, 107, 108, 109, 873, 874, 830, 831, 832, 833, 834, 835, 836, 837, 838, 875, 876, 877, 878, 879, 880, 881, 882, 883, 884, 885, 886, 887, 888, 889, 890, 891, 892, 893, 894, 895, 896, 897, 898, 899, 900] (by decide +kernel) (by decide +kernel)
set_option maxRecDepth 20000 in
theorem gL_law_X8_init : GoodIn wsL_law (wsX8_init) := ggL_law_X8_init
set_option maxRecDepth 20000 in
theorem ggL_law_X9_init : GoodIn wsL_law wsX9_init := goodIn_r _ [112, 113, 11, 12, 50, 114, 115, 116, 117, 118, 119, 120, 121, 122, 123, 124, 125, 99, 126, 127, 128, 129, 130, 131, 132, 839, 840, 841, 842, 843, 844, 845, 846, 847, 848, 849, 850, 851, 852, 853, 854, 855, 856, 857, 858, 859, 860, 861, 862, 863, 864, 865, 866, 867, 868, 869, 870, 871, 872] (by decide +kernel) (by decide +kernel)
set_option maxRecDepth 20000 in
theorem gL_law_X9_init : GoodIn wsL_law (wsX9_init) := ggL_law_X9_init
set_option maxRecDepth 20000 in
theorem ggL_law_X8_write : GoodIn wsL_law wsX8_write := goodIn_r _ [136, 16, 137, 138, 139, 15, 140, 52, 51, 141, 142, 143, 144, 830, 831, 832, 833, 834, 835, 836, 837, 838, 873, 874] (by decide +kernel) (by decide +kernel)
set_option maxRecDepth 20000 in
theorem gL_law_X8_write : GoodIn wsL_law (wsV RL 15 RX8 yX8_write wsX8_write) := goodIn_app (goodIn_of _ (by decide +kernel)) ggL_law_X8_write
set_option maxRecDepth 20000 in
theorem ggL_law_X9_write : GoodIn wsL_law wsX9_write := goodIn_r _ [148, 149, 150, 116, 151, 152, 153, 5, 154, 839, 840, 841, 842, 843, 844, 845, 846, 847, 848, 849, 850, 851, 852, 853, 854, 855, 856, 857, 858, 859, 860, 861, 862, 863, 864, 865, 866, 867, 868, 869, 870, 871, 872] (by decide +kernel) (by decide +kernel)
set_option maxRecDepth 20000 in
theorem gL_law_X9_write : GoodIn wsL_law (wsV RL 19 RX9 yX9_write wsX9_write) := goodIn_app (goodIn_of _ (by decide +kernel)) ggL_law_X9_write
set_option maxRecDepth 20000 in
theorem ggL_law_X8_wipe : GoodIn wsL_law wsX8_wipe := goodIn_r _ [158, 16, 141, 142, 143, 15, 144, 52, 159, 160, 161, 162, 830, 831, 832, 833, 834, 835, 836, 837, 838, 873, 874] (by decide +kernel) (by decide +kernel)
set_option maxRecDepth 20000 in
theorem gL_law_X8_wipe : GoodIn wsL_law (wsV RL 20 RX8 yX8_wipe wsX8_wipe) := goodIn_app (goodIn_of _ (by decide +kernel)) ggL_law_X8_wipe
set_option maxRecDepth 20000 in
theorem ggL_law_X9_wipe : GoodIn wsL_law wsX9_wipe := goodIn_r _ [166, 150, 839, 840, 841, 842, 843, 844, 845, 846, 847, 848, 849, 850, 851, 852, 853, 854, 855, 856, 857, 858, 859, 860, 861, 862, 863, 864, 865, 866, 867, 868, 869, 870, 871, 872] (by decide +kernel) (by decide +kernel)
set_option maxRecDepth 20000 in
theorem gL_law_X9_wipe : GoodIn wsL_law (wsV RL 24 RX9 yX9_wipe wsX9_wipe) := goodIn_app (goodIn_of _ (by decide +kernel)) ggL_law_X9_wipe
set_option maxRecDepth 20000 in
theorem ggL_law_X8_fault : GoodIn wsL_law wsX8_fault := goodIn_r _ [170, 16, 171, 172, 173, 15, 174, 52, 51, 175, 176, 177, 830, 831, 832, 833, 834, 835, 836, 837, 838, 873, 874] (by decide +kernel) (by decide +kernel)
set_option maxRecDepth 20000 in
theorem gL_law_X8_fault : GoodIn wsL_law (wsV RL 25 RX8 yX8_fault wsX8_fault) := goodIn_app (goodIn_of _ (by decide +kernel)) ggL_law_X8_fault
set_option maxRecDepth 20000 in
theorem ggL_law_X9_fault : GoodIn wsL_law wsX9_fault := goodIn_r _ [181, 182, 183, 184, 5, 185, 186, 187, 188, 150, 116, 189, 190, 191, 114, 192, 193, 194, 195, 152, 153, 154, 839, 840, 841, 842, 843, 844, 845, 846, 847, 848, 849, 850, 851, 852, 853, 854, 855, 856, 857, 858, 859, 860, 861, 862, 863, 864, 865, 866, 867, 868, 869, 870, 871, 872] (by decide +kernel) (by decide +kernel)
set_option maxRecDepth 20000 in
theorem gL_law_X9_fault : GoodIn wsL_law (wsV RL 28 RX9 yX9_fault wsX9_fault) := goodIn_app (goodIn_of _ (by decide +kernel)) ggL_law_X9_fault
set_option maxRecDepth 20000 in
theorem ggL_law_X8_land : GoodIn wsL_law wsX8_land := goodIn_r _ [199, 16, 45, 20, 24, 28, 171, 172, 173, 15, 174, 52, 51, 175, 176, 177, 200, 201, 202, 203, 204, 205, 206, 19, 207, 57, 59, 60, 208, 209, 210, 211, 58, 212, 213, 214, 215, 216, 217, 218, 219, 220, 221, 222, 223, 224, 225, 226, 227, 228, 229, 230, 231, 232, 23, 233, 67, 234, 235, 236, 27, 237, 73, 238, 239, 240, 241, 830, 831, 832, 833, 834, 835, 836, 837, 838, 873, 874, 875, 876, 877, 878, 879, 880, 881, 882, 883] (by decide +kernel) (by decide +kernel)
set_option maxRecDepth 20000 in
theorem gL_law_X8_land : GoodIn wsL_law (wsV RL 29 RX8 yX8_land wsX8_land) := goodIn_app (goodIn_of _ (by decide +kernel)) ggL_law_X8_land
set_option maxRecDepth 20000 in
theorem ggL_law_X9_land : GoodIn wsL_law wsX9_land := goodIn_r _ [245, 188, 246, 189, 132, 190, 247, 191, 248, 115, 114, 249, 130, 182, 183, 184, 5, 185, 186, 187, 150, 116, 192, 193, 194, 195, 152, 153, 154, 839, 840, 841, 842, 843, 844, 845, 846, 847, 848, 849, 850, 851, 852, 853, 854, 855, 856, 857, 858, 859, 860, 861, 862, 863, 864, 865, 866, 867, 868, 869, 870, 871, 872] (by decide +kernel) (by decide +kernel)
set_option maxRecDepth 20000 in
theorem gL_law_X9_land : GoodIn wsL_law (wsV RL 32 RX9 yX9_land wsX9_land) := goodIn_app (goodIn_of _ (by decide +kernel)) ggL_law_X9_land
set_option maxRecDepth 20000 in
theorem ggL_law_X8_person : GoodIn wsL_law wsX8_person := goodIn_r _ [253, 20, 254, 255, 256, 19, 257, 58, 258, 259, 260, 261, 57, 262, 263, 264, 265, 266, 267, 268, 269, 270, 271, 272, 273, 274, 60, 830, 831, 832, 833, 834, 835, 836, 837, 838, 875, 876, 877, 878] (by decide +kernel) (by decide +kernel)
set_option maxRecDepth 20000 in
theorem gL_law_X8_person : GoodIn wsL_law (wsV RL 33 RX8 yX8_person wsX8_person) := goodIn_app (goodIn_of _ (by decide +kernel)) ggL_law_X8_person
set_option maxRecDepth 20000 in
theorem ggL_law_X9_person : GoodIn wsL_law wsX9_person := goodIn_r _ [278, 115, 279, 280, 281, 5, 282, 246, 152, 153, 154, 283, 284, 285, 286, 287, 288, 289, 290, 248, 839, 840, 841, 842, 843, 844, 845, 846, 847, 848, 849, 850, 851, 852, 853, 854, 855, 856, 857, 858, 859, 860, 861, 862, 863, 864, 865, 866, 867, 868, 869, 870, 871, 872] (by decide +kernel) (by decide +kernel)
set_option maxRecDepth 20000 in
theorem gL_law_X9_person : GoodIn wsL_law (wsV RL 37 RX9 yX9_person wsX9_person) := goodIn_app (goodIn_of _ (by decide +kernel)) ggL_law_X9_person
set_option maxRecDepth 20000 in
theorem ggL_law_X8_law : GoodIn wsL_law wsX8_law := goodIn_r _ [294, 45, 295, 296, 2, 297, 830, 831, 832, 833, 834, 835, 836, 837, 838] (by decide +kernel) (by decide +kernel)
set_option maxRecDepth 20000 in
theorem gL_law_X8_law : GoodIn wsL_law (wsV RL 38 RX8 yX8_law wsX8_law) := goodIn_app (goodIn_of _ (by decide +kernel)) ggL_law_X8_law
set_option maxRecDepth 20000 in
theorem ggL_law_X9_law : GoodIn wsL_law wsX9_law := goodIn_r _ [301, 302, 132, 152, 153, 5, 154, 839, 840, 841, 842, 843, 844, 845, 846, 847, 848, 849, 850, 851, 852, 853, 854, 855, 856, 857, 858, 859, 860, 861, 862, 863, 864, 865, 866, 867, 868, 869, 870, 871, 872] (by decide +kernel) (by decide +kernel)
set_option maxRecDepth 20000 in
theorem gL_law_X9_law : GoodIn wsL_law (wsV RL 42 RX9 yX9_law wsX9_law) := goodIn_app (goodIn_of _ (by decide +kernel)) ggL_law_X9_law
set_option maxRecDepth 20000 in
theorem ggL_law_X8_eat : GoodIn wsL_law wsX8_eat := goodIn_r _ [306, 20, 24, 307, 308, 309, 2, 310, 254, 255, 256, 19, 257, 58, 258, 259, 260, 261, 57, 311, 312, 313, 23, 314, 67, 66, 65, 315, 316, 317, 318, 319, 320, 321, 322, 323, 227, 228, 229, 324, 325, 326, 327, 328, 329, 210, 330, 266, 226, 830, 831, 832, 833, 834, 835, 836, 837, 838, 875, 876, 877, 878, 879, 880, 881] (by decide +kernel) (by decide +kernel)
set_option maxRecDepth 20000 in
theorem gL_law_X8_eat : GoodIn wsL_law (wsV RL 43 RX8 yX8_eat wsX8_eat) := goodIn_app (goodIn_of _ (by decide +kernel)) ggL_law_X8_eat
set_option maxRecDepth 20000 in
theorem ggL_law_X9_eat : GoodIn wsL_law wsX9_eat := goodIn_r _ [334, 335, 115, 279, 280, 281, 5, 282, 246, 152, 153, 154, 336, 337, 338, 339, 117, 340, 249, 839, 840, 841, 842, 843, 844, 845, 846, 847, 848, 849, 850, 851, 852, 853, 854, 855, 856, 857, 858, 859, 860, 861, 862, 863, 864, 865, 866, 867, 868, 869, 870, 871, 872] (by decide +kernel) (by decide +kernel)
set_option maxRecDepth 20000 in
theorem gL_law_X9_eat : GoodIn wsL_law (wsV RL 46 RX9 yX9_eat wsX9_eat) := goodIn_app (goodIn_of _ (by decide +kernel)) ggL_law_X9_eat
set_option maxRecDepth 20000 in
theorem ggL_law_X8_toil : GoodIn wsL_law wsX8_toil := goodIn_r _ [344, 24, 20, 307, 308, 309, 2, 310, 254, 255, 256, 19, 257, 58, 311, 312, 313, 23, 314, 67, 66, 65, 315, 316, 317, 318, 57, 319, 320, 321, 322, 324, 325, 326, 327, 328, 329, 210, 330, 266, 259, 260, 261, 226, 227, 228, 229, 830, 831, 832, 833, 834, 835, 836, 837, 838, 875, 876, 877, 878, 879, 880, 881] (by decide +kernel) (by decide +kernel)
set_option maxRecDepth 20000 in
theorem gL_law_X8_toil : GoodIn wsL_law (wsV RL 47 RX8 yX8_toil wsX8_toil) := goodIn_app (goodIn_of _ (by decide +kernel)) ggL_law_X8_toil
set_option maxRecDepth 20000 in
theorem ggL_law_X9_toil : GoodIn wsL_law wsX9_toil := goodIn_r _ [348, 335, 115, 279, 280, 281, 5, 282, 246, 152, 153, 154, 336, 337, 338, 339, 117, 340, 249, 349, 350, 351, 839, 840, 841, 842, 843, 844, 845, 846, 847, 848, 849, 850, 851, 852, 853, 854, 855, 856, 857, 858, 859, 860, 861, 862, 863, 864, 865, 866, 867, 868, 869, 870, 871, 872] (by decide +kernel) (by decide +kernel)
set_option maxRecDepth 20000 in
theorem gL_law_X9_toil : GoodIn wsL_law (wsV RL 50 RX9 yX9_toil wsX9_toil) := goodIn_app (goodIn_of _ (by decide +kernel)) ggL_law_X9_toil
set_option maxRecDepth 20000 in
theorem ggL_law_X8_drink : GoodIn wsL_law wsX8_drink := goodIn_r _ [355, 20, 24, 307, 308, 309, 2, 310, 254, 255, 256, 19, 257, 58, 258, 259, 260, 261, 57, 311, 312, 313, 23, 314, 67, 66, 65, 315, 316, 317, 318, 319, 320, 321, 322, 323, 227, 228, 229, 324, 325, 326, 327, 328, 329, 210, 330, 266, 226, 830, 831, 832, 833, 834, 835, 836, 837, 838, 875, 876, 877, 878, 879, 880, 881] (by decide +kernel) (by decide +kernel)
set_option maxRecDepth 20000 in
theorem gL_law_X8_drink : GoodIn wsL_law (wsV RL 51 RX8 yX8_drink wsX8_drink) := goodIn_app (goodIn_of _ (by decide +kernel)) ggL_law_X8_drink
set_option maxRecDepth 20000 in
theorem ggL_law_X9_drink : GoodIn wsL_law wsX9_drink := goodIn_r _ [359, 335, 115, 279, 280, 281, 5, 282, 246, 152, 153, 154, 336, 337, 338, 339, 117, 340, 249, 839, 840, 841, 842, 843, 844, 845, 846, 847, 848, 849, 850, 851, 852, 853, 854, 855, 856, 857, 858, 859, 860, 861, 862, 863, 864, 865, 866, 867, 868, 869, 870, 871, 872] (by decide +kernel) (by decide +kernel)
set_option maxRecDepth 20000 in
theorem gL_law_X9_drink : GoodIn wsL_law (wsV RL 54 RX9 yX9_drink wsX9_drink) := goodIn_app (goodIn_of _ (by decide +kernel)) ggL_law_X9_drink
set_option maxRecDepth 20000 in
theorem ggL_law_X8_hand : GoodIn wsL_law wsX8_hand := goodIn_r _ [363, 20, 24, 254, 255, 256, 19, 257, 58, 258, 259, 260, 261, 57, 311, 312, 313, 23, 314, 67, 66, 65, 315, 316, 317, 318, 319, 320, 321, 322, 323, 227, 228, 229, 830, 831, 832, 833, 834, 835, 836, 837, 838, 875, 876, 877, 878, 879, 880, 881] (by decide +kernel) (by decide +kernel)
set_option maxRecDepth 20000 in
theorem gL_law_X8_hand : GoodIn wsL_law (wsV RL 55 RX8 yX8_hand wsX8_hand) := goodIn_app (goodIn_of _ (by decide +kernel)) ggL_law_X8_hand
set_option maxRecDepth 20000 in
theorem ggL_law_X9_hand : GoodIn wsL_law wsX9_hand := goodIn_r _ [367, 115, 279, 280, 281, 5, 282, 246, 152, 153, 154, 336, 337, 338, 339, 117, 340, 249, 839, 840, 841, 842, 843, 844, 845, 846, 847, 848, 849, 850, 851, 852, 853, 854, 855, 856, 857, 858, 859, 860, 861, 862, 863, 864, 865, 866, 867, 868, 869, 870, 871, 872] (by decide +kernel) (by decide +kernel)
set_option maxRecDepth 20000 in
theorem gL_law_X9_hand : GoodIn wsL_law (wsV RL 59 RX9 yX9_hand wsX9_hand) := goodIn_app (goodIn_of _ (by decide +kernel)) ggL_law_X9_hand
set_option maxRecDepth 20000 in
theorem ggL_law_X8_day : GoodIn wsL_law wsX8_day := goodIn_r _ [371, 24, 20, 311, 312, 313, 23, 314, 67, 66, 65, 315, 316, 317, 19, 318, 57, 319, 320, 321, 322, 372, 373, 374, 375, 58, 59, 266, 259, 260, 261, 376, 325, 326, 327, 328, 329, 210, 330, 226, 227, 228, 229, 377, 378, 379, 380, 830, 831, 832, 833, 834, 835, 836, 837, 838, 879, 880, 881, 875, 876, 877, 878] (by decide +kernel) (by decide +kernel)
set_option maxRecDepth 20000 in
theorem gL_law_X8_day : GoodIn wsL_law (wsV RL 60 RX8 yX8_day wsX8_day) := goodIn_app (goodIn_of _ (by decide +kernel)) ggL_law_X8_day
set_option maxRecDepth 20000 in
theorem ggL_law_X9_day : GoodIn wsL_law wsX9_day := goodIn_r _ [384, 246, 115, 247, 336, 337, 338, 5, 339, 117, 340, 249, 349, 350, 351, 839, 840, 841, 842, 843, 844, 845, 846, 847, 848, 849, 850, 851, 852, 853, 854, 855, 856, 857, 858, 859, 860, 861, 862, 863, 864, 865, 866, 867, 868, 869, 870, 871, 872] (by decide +kernel) (by decide +kernel)
set_option maxRecDepth 20000 in
theorem gL_law_X9_day : GoodIn wsL_law (wsV RL 63 RX9 yX9_day wsX9_day) := goodIn_app (goodIn_of _ (by decide +kernel)) ggL_law_X9_day
set_option maxRecDepth 20000 in
theorem ggL_law_X8_crown : GoodIn wsL_law wsX8_crown := goodIn_r _ [388, 20, 45, 389, 390, 391, 19, 392, 393, 394, 395, 396, 58, 397, 272, 273, 274, 60, 266, 259, 260, 261, 57, 398, 399, 400, 401, 402, 263, 264, 265, 267, 268, 269, 270, 830, 831, 832, 833, 834, 835, 836, 837, 838, 875, 876, 877, 878] (by decide +kernel) (by decide +kernel)
set_option maxRecDepth 20000 in
theorem gL_law_X8_crown : GoodIn wsL_law (wsV RL 64 RX8 yX8_crown wsX8_crown) := goodIn_app (goodIn_of _ (by decide +kernel)) ggL_law_X8_crown
set_option maxRecDepth 20000 in
theorem ggL_law_X9_crown : GoodIn wsL_law wsX9_crown := goodIn_r _ [406, 132, 407, 408, 409, 5, 410, 246, 287, 288, 289, 290, 115, 248, 283, 284, 285, 286, 411, 412, 413, 839, 840, 841, 842, 843, 844, 845, 846, 847, 848, 849, 850, 851, 852, 853, 854, 855, 856, 857, 858, 859, 860, 861, 862, 863, 864, 865, 866, 867, 868, 869, 870, 871, 872] (by decide +kernel) (by decide +kernel)
set_option maxRecDepth 20000 in
theorem gL_law_X9_crown : GoodIn wsL_law (wsV RL 67 RX9 yX9_crown wsX9_crown) := goodIn_app (goodIn_of _ (by decide +kernel)) ggL_law_X9_crown
set_option maxRecDepth 20000 in
theorem ggL_law_X8_noon : GoodIn wsL_law wsX8_noon := goodIn_r _ [417, 20, 45, 24, 389, 390, 391, 19, 392, 393, 394, 395, 396, 58, 397, 272, 273, 274, 60, 266, 259, 260, 261, 57, 398, 399, 400, 401, 402, 263, 264, 265, 267, 268, 269, 270, 311, 312, 313, 23, 314, 67, 66, 65, 315, 316, 317, 318, 319, 320, 321, 322, 323, 227, 228, 229, 830, 831, 832, 833, 834, 835, 836, 837, 838, 875, 876, 877, 878, 879, 880, 881] (by decide +kernel) (by decide +kernel)
set_option maxRecDepth 20000 in
theorem gL_law_X8_noon : GoodIn wsL_law (wsV RL 68 RX8 yX8_noon wsX8_noon) := goodIn_app (goodIn_of _ (by decide +kernel)) ggL_law_X8_noon
set_option maxRecDepth 20000 in
theorem ggL_law_X9_noon : GoodIn wsL_law wsX9_noon := goodIn_r _ [421, 132, 115, 336, 337, 338, 5, 339, 117, 340, 249, 407, 408, 409, 410, 246, 287, 288, 289, 290, 248, 283, 284, 285, 286, 411, 412, 413, 839, 840, 841, 842, 843, 844, 845, 846, 847, 848, 849, 850, 851, 852, 853, 854, 855, 856, 857, 858, 859, 860, 861, 862, 863, 864, 865, 866, 867, 868, 869, 870, 871, 872] (by decide +kernel) (by decide +kernel)
set_option maxRecDepth 20000 in
theorem gL_law_X9_noon : GoodIn wsL_law (wsV RL 71 RX9 yX9_noon wsX9_noon) := goodIn_app (goodIn_of _ (by decide +kernel)) ggL_law_X9_noon
set_option maxRecDepth 20000 in
theorem ggL_law_X8_undo : GoodIn wsL_law wsX8_undo := goodIn_r _ [425, 24, 20, 426, 427, 428, 23, 429, 67, 430, 431, 432, 433, 65, 66, 434, 435, 436, 19, 437, 57, 319, 320, 321, 322, 830, 831, 832, 833, 834, 835, 836, 837, 838, 879, 880, 881, 875, 876, 877, 878] (by decide +kernel) (by decide +kernel)
set_option maxRecDepth 20000 in
theorem gL_law_X8_undo : GoodIn wsL_law (wsV RL 72 RX8 yX8_undo wsX8_undo) := goodIn_app (goodIn_of _ (by decide +kernel)) ggL_law_X8_undo
set_option maxRecDepth 20000 in
theorem ggL_law_X9_undo : GoodIn wsL_law wsX9_undo := goodIn_r _ [441, 249, 340, 115, 117, 839, 840, 841, 842, 843, 844, 845, 846, 847, 848, 849, 850, 851, 852, 853, 854, 855, 856, 857, 858, 859, 860, 861, 862, 863, 864, 865, 866, 867, 868, 869, 870, 871, 872] (by decide +kernel) (by decide +kernel)
set_option maxRecDepth 20000 in
theorem gL_law_X9_undo : GoodIn wsL_law (wsV RL 75 RX9 yX9_undo wsX9_undo) := goodIn_app (goodIn_of _ (by decide +kernel)) ggL_law_X9_undo
set_option maxRecDepth 20000 in
theorem ggL_law_X8_sure : GoodIn wsL_law wsX8_sure := goodIn_r _ [445, 446, 447, 448, 2, 449, 20, 254, 255, 256, 19, 257, 58, 238, 239, 240, 241, 450, 451, 452, 453, 454, 455, 456, 457, 458, 459, 460, 461, 59, 328, 329, 210, 330, 266, 259, 260, 261, 57, 267, 268, 269, 270, 462, 463, 464, 830, 831, 832, 833, 834, 835, 836, 837, 838, 875, 876, 877, 878] (by decide +kernel) (by decide +kernel)
set_option maxRecDepth 20000 in
theorem gL_law_X8_sure : GoodIn wsL_law (wsV RL 76 RX8 yX8_sure wsX8_sure) := goodIn_app (goodIn_of _ (by decide +kernel)) ggL_law_X8_sure
set_option maxRecDepth 20000 in
theorem ggL_law_X9_sure : GoodIn wsL_law wsX9_sure := goodIn_r _ [468, 469, 335, 246, 279, 280, 281, 5, 282, 152, 153, 154, 470, 471, 472, 473, 474, 475, 476, 477, 115, 247, 349, 350, 351, 283, 284, 285, 286, 411, 412, 413, 478, 479, 480, 839, 840, 841, 842, 843, 844, 845, 846, 847, 848, 849, 850, 851, 852, 853, 854, 855, 856, 857, 858, 859, 860, 861, 862, 863, 864, 865, 866, 867, 868, 869, 870, 871, 872] (by decide +kernel) (by decide +kernel)
set_option maxRecDepth 20000 in
theorem gL_law_X9_sure : GoodIn wsL_law (wsV RL 80 RX9 yX9_sure wsX9_sure) := goodIn_app (goodIn_of _ (by decide +kernel)) ggL_law_X9_sure
set_option maxRecDepth 20000 in
theorem ggL_law_X8_sureAt : GoodIn wsL_law wsX8_sureAt := goodIn_r _ [484, 446, 447, 448, 2, 449, 20, 254, 255, 256, 19, 257, 58, 238, 239, 240, 241, 450, 451, 452, 453, 454, 455, 456, 457, 458, 459, 460, 461, 59, 328, 329, 210, 330, 266, 259, 260, 261, 57, 267, 268, 269, 270, 462, 463, 464, 830, 831, 832, 833, 834, 835, 836, 837, 838, 875, 876, 877, 878] (by decide +kernel) (by decide +kernel)
set_option maxRecDepth 20000 in
theorem gL_law_X8_sureAt : GoodIn wsL_law (wsV RL 81 RX8 yX8_sureAt wsX8_sureAt) := goodIn_app (goodIn_of _ (by decide +kernel)) ggL_law_X8_sureAt
set_option maxRecDepth 20000 in
theorem ggL_law_X9_sureAt : GoodIn wsL_law wsX9_sureAt := goodIn_r _ [488, 469, 335, 246, 279, 280, 281, 5, 282, 152, 153, 154, 470, 471, 472, 473, 474, 475, 476, 477, 115, 247, 349, 350, 351, 283, 284, 285, 286, 411, 412, 413, 478, 479, 480, 839, 840, 841, 842, 843, 844, 845, 846, 847, 848, 849, 850, 851, 852, 853, 854, 855, 856, 857, 858, 859, 860, 861, 862, 863, 864, 865, 866, 867, 868, 869, 870, 871, 872] (by decide +kernel) (by decide +kernel)
set_option maxRecDepth 20000 in
theorem gL_law_X9_sureAt : GoodIn wsL_law (wsV RL 85 RX9 yX9_sureAt wsX9_sureAt) := goodIn_app (goodIn_of _ (by decide +kernel)) ggL_law_X9_sureAt
set_option maxRecDepth 20000 in
theorem ggL_law_X8_feed : GoodIn wsL_law wsX8_feed := goodIn_r _ [492, 20, 254, 255, 256, 19, 257, 58, 493, 494, 495, 496, 402, 263, 264, 265, 266, 259, 260, 261, 57, 267, 268, 269, 270, 830, 831, 832, 833, 834, 835, 836, 837, 838, 875, 876, 877, 878] (by decide +kernel) (by decide +kernel)
set_option maxRecDepth 20000 in
theorem gL_law_X8_feed : GoodIn wsL_law (wsV RL 86 RX8 yX8_feed wsX8_feed) := goodIn_app (goodIn_of _ (by decide +kernel)) ggL_law_X8_feed
set_option maxRecDepth 20000 in
theorem ggL_law_X9_feed : GoodIn wsL_law wsX9_feed := goodIn_r _ [500, 246, 279, 280, 281, 5, 282, 152, 153, 154, 283, 284, 285, 286, 115, 411, 412, 413, 839, 840, 841, 842, 843, 844, 845, 846, 847, 848, 849, 850, 851, 852, 853, 854, 855, 856, 857, 858, 859, 860, 861, 862, 863, 864, 865, 866, 867, 868, 869, 870, 871, 872] (by decide +kernel) (by decide +kernel)
set_option maxRecDepth 20000 in
theorem gL_law_X9_feed : GoodIn wsL_law (wsV RL 89 RX9 yX9_feed wsX9_feed) := goodIn_app (goodIn_of _ (by decide +kernel)) ggL_law_X9_feed
set_option maxRecDepth 20000 in
theorem ggL_law_X8_weigh : GoodIn wsL_law wsX8_weigh := goodIn_r _ [504, 32, 505, 506, 31, 507, 508, 509, 510, 511, 512, 513, 514, 515, 516, 517, 518, 81, 78, 79, 80, 519, 520, 521, 522, 830, 831, 832, 833, 834, 835, 836, 837, 838, 884, 885, 886, 887] (by decide +kernel) (by decide +kernel)
set_option maxRecDepth 20000 in
theorem gL_law_X8_weigh : GoodIn wsL_law (wsV RL 90 RX8 yX8_weigh wsX8_weigh) := goodIn_app (goodIn_of _ (by decide +kernel)) ggL_law_X8_weigh
set_option maxRecDepth 20000 in
theorem ggL_law_X9_weigh : GoodIn wsL_law wsX9_weigh := goodIn_r _ [526, 527, 302, 528, 118, 119, 120, 152, 153, 5, 154, 529, 530, 531, 839, 840, 841, 842, 843, 844, 845, 846, 847, 848, 849, 850, 851, 852, 853, 854, 855, 856, 857, 858, 859, 860, 861, 862, 863, 864, 865, 866, 867, 868, 869, 870, 871, 872] (by decide +kernel) (by decide +kernel)
set_option maxRecDepth 20000 in
theorem gL_law_X9_weigh : GoodIn wsL_law (wsV RL 93 RX9 yX9_weigh wsX9_weigh) := goodIn_app (goodIn_of _ (by decide +kernel)) ggL_law_X9_weigh
set_option maxRecDepth 20000 in
theorem ggL_law_X8_unweigh : GoodIn wsL_law wsX8_unweigh := goodIn_r _ [535, 32, 519, 520, 521, 31, 522, 81, 536, 537, 538, 539, 830, 831, 832, 833, 834, 835, 836, 837, 838, 884, 885, 886, 887] (by decide +kernel) (by decide +kernel)
set_option maxRecDepth 20000 in
theorem gL_law_X8_unweigh : GoodIn wsL_law (wsV RL 94 RX8 yX8_unweigh wsX8_unweigh) := goodIn_app (goodIn_of _ (by decide +kernel)) ggL_law_X8_unweigh
set_option maxRecDepth 20000 in
theorem ggL_law_X9_unweigh : GoodIn wsL_law wsX9_unweigh := goodIn_r _ [543, 528, 839, 840, 841, 842, 843, 844, 845, 846, 847, 848, 849, 850, 851, 852, 853, 854, 855, 856, 857, 858, 859, 860, 861, 862, 863, 864, 865, 866, 867, 868, 869, 870, 871, 872] (by decide +kernel) (by decide +kernel)
set_option maxRecDepth 20000 in
theorem gL_law_X9_unweigh : GoodIn wsL_law (wsV RL 97 RX9 yX9_unweigh wsX9_unweigh) := goodIn_app (goodIn_of _ (by decide +kernel)) ggL_law_X9_unweigh
set_option maxRecDepth 20000 in
theorem ggL_law_X8_mayBe : GoodIn wsL_law wsX8_mayBe := goodIn_r _ [547, 32, 548, 549, 550, 31, 551, 81, 552, 553, 554, 555, 80, 78, 79, 830, 831, 832, 833, 834, 835, 836, 837, 838, 884, 885, 886, 887] (by decide +kernel) (by decide +kernel)
set_option maxRecDepth 20000 in
theorem gL_law_X8_mayBe : GoodIn wsL_law (wsV RL 98 RX8 yX8_mayBe wsX8_mayBe) := goodIn_app (goodIn_of _ (by decide +kernel)) ggL_law_X8_mayBe
set_option maxRecDepth 20000 in
theorem ggL_law_X9_mayBe : GoodIn wsL_law wsX9_mayBe := goodIn_r _ [559, 528, 118, 119, 120, 839, 840, 841, 842, 843, 844, 845, 846, 847, 848, 849, 850, 851, 852, 853, 854, 855, 856, 857, 858, 859, 860, 861, 862, 863, 864, 865, 866, 867, 868, 869, 870, 871, 872] (by decide +kernel) (by decide +kernel)
set_option maxRecDepth 20000 in
theorem gL_law_X9_mayBe : GoodIn wsL_law (wsV RL 102 RX9 yX9_mayBe wsX9_mayBe) := goodIn_app (goodIn_of _ (by decide +kernel)) ggL_law_X9_mayBe
set_option maxRecDepth 20000 in
theorem ggL_law_X8_search : GoodIn wsL_law wsX8_search := goodIn_r _ [563, 36, 564, 565, 566, 35, 567, 90, 86, 87, 92, 568, 569, 570, 571, 830, 831, 832, 833, 834, 835, 836, 837, 838, 888, 889, 890, 891, 892, 893, 894] (by decide +kernel) (by decide +kernel)
set_option maxRecDepth 20000 in
theorem gL_law_X8_search : GoodIn wsL_law (wsV RL 103 RX8 yX8_search wsX8_search) := goodIn_app (goodIn_of _ (by decide +kernel)) ggL_law_X8_search
set_option maxRecDepth 20000 in
theorem ggL_law_X9_search : GoodIn wsL_law wsX9_search := goodIn_r _ [575, 576, 577, 578, 121, 122, 152, 153, 5, 154, 839, 840, 841, 842, 843, 844, 845, 846, 847, 848, 849, 850, 851, 852, 853, 854, 855, 856, 857, 858, 859, 860, 861, 862, 863, 864, 865, 866, 867, 868, 869, 870, 871, 872] (by decide +kernel) (by decide +kernel)
set_option maxRecDepth 20000 in
theorem gL_law_X9_search : GoodIn wsL_law (wsV RL 106 RX9 yX9_search wsX9_search) := goodIn_app (goodIn_of _ (by decide +kernel)) ggL_law_X9_search
set_option maxRecDepth 20000 in
theorem ggL_law_X8_unsearch : GoodIn wsL_law wsX8_unsearch := goodIn_r _ [582, 36, 568, 569, 570, 35, 571, 90, 583, 584, 585, 586, 92, 830, 831, 832, 833, 834, 835, 836, 837, 838, 888, 889, 890, 891, 892, 893, 894] (by decide +kernel) (by decide +kernel)
set_option maxRecDepth 20000 in
theorem gL_law_X8_unsearch : GoodIn wsL_law (wsV RL 107 RX8 yX8_unsearch wsX8_unsearch) := goodIn_app (goodIn_of _ (by decide +kernel)) ggL_law_X8_unsearch
set_option maxRecDepth 20000 in
theorem ggL_law_X9_unsearch : GoodIn wsL_law wsX9_unsearch := goodIn_r _ [590, 578, 839, 840, 841, 842, 843, 844, 845, 846, 847, 848, 849, 850, 851, 852, 853, 854, 855, 856, 857, 858, 859, 860, 861, 862, 863, 864, 865, 866, 867, 868, 869, 870, 871, 872] (by decide +kernel) (by decide +kernel)
set_option maxRecDepth 20000 in
theorem gL_law_X9_unsearch : GoodIn wsL_law (wsV RL 110 RX9 yX9_unsearch wsX9_unsearch) := goodIn_app (goodIn_of _ (by decide +kernel)) ggL_law_X9_unsearch
set_option maxRecDepth 20000 in
theorem ggL_law_X8_rows : GoodIn wsL_law wsX8_rows := goodIn_r _ [594, 36, 595, 596, 597, 35, 598, 92, 88, 89, 91, 599, 213, 214, 215, 600, 601, 602, 603, 604, 605, 606, 90, 86, 87, 607, 329, 210, 330, 608, 609, 610, 611, 612, 509, 510, 511, 512, 513, 514, 613, 614, 615, 616, 617, 209, 211, 618, 619, 620, 621, 622, 623, 624, 625, 626, 627, 628, 629, 830, 831, 832, 833, 834, 835, 836, 837, 838, 888, 889, 890, 891, 892, 893, 894] (by decide +kernel) (by decide +kernel)
set_option maxRecDepth 20000 in
theorem gL_law_X8_rows : GoodIn wsL_law (wsV RL 111 RX8 yX8_rows wsX8_rows) := goodIn_app (goodIn_of _ (by decide +kernel)) ggL_law_X8_rows
set_option maxRecDepth 20000 in
theorem ggL_law_X9_rows : GoodIn wsL_law wsX9_rows := goodIn_r _ [633, 634, 635, 636, 5, 637, 123, 124, 638, 639, 640, 641, 642, 578, 121, 122, 643, 644, 645, 839, 840, 841, 842, 843, 844, 845, 846, 847, 848, 849, 850, 851, 852, 853, 854, 855, 856, 857, 858, 859, 860, 861, 862, 863, 864, 865, 866, 867, 868, 869, 870, 871, 872] (by decide +kernel) (by decide +kernel)
set_option maxRecDepth 20000 in
theorem gL_law_X9_rows : GoodIn wsL_law (wsV RL 114 RX9 yX9_rows wsX9_rows) := goodIn_app (goodIn_of _ (by decide +kernel)) ggL_law_X9_rows
set_option maxRecDepth 20000 in
theorem ggL_law_X8_stones : GoodIn wsL_law wsX8_stones := goodIn_r _ [649, 36, 595, 596, 597, 35, 598, 92, 88, 89, 91, 599, 213, 214, 215, 600, 601, 602, 603, 604, 605, 606, 90, 86, 87, 607, 329, 210, 330, 608, 609, 610, 611, 612, 509, 510, 511, 512, 513, 514, 613, 614, 615, 616, 617, 209, 211, 618, 619, 620, 621, 622, 623, 624, 625, 626, 627, 628, 629, 650, 651, 652, 653, 654, 655, 656, 657, 830, 831, 832, 833, 834, 835, 836, 837, 838, 888, 889, 890, 891, 892, 893, 894] (by decide +kernel) (by decide +kernel)
set_option maxRecDepth 20000 in
theorem gL_law_X8_stones : GoodIn wsL_law (wsV RL 115 RX8 yX8_stones wsX8_stones) := goodIn_app (goodIn_of _ (by decide +kernel)) ggL_law_X8_stones
set_option maxRecDepth 20000 in
theorem ggL_law_X9_stones : GoodIn wsL_law wsX9_stones := goodIn_r _ [661, 662, 124, 123, 152, 153, 5, 154, 634, 635, 636, 637, 638, 639, 640, 641, 642, 578, 121, 122, 643, 644, 645, 839, 840, 841, 842, 843, 844, 845, 846, 847, 848, 849, 850, 851, 852, 853, 854, 855, 856, 857, 858, 859, 860, 861, 862, 863, 864, 865, 866, 867, 868, 869, 870, 871, 872] (by decide +kernel) (by decide +kernel)
set_option maxRecDepth 20000 in
theorem gL_law_X9_stones : GoodIn wsL_law (wsV RL 119 RX9 yX9_stones wsX9_stones) := goodIn_app (goodIn_of _ (by decide +kernel)) ggL_law_X9_stones
set_option maxRecDepth 20000 in
theorem ggL_law_X8_ruled : GoodIn wsL_law wsX8_ruled := goodIn_r _ [666, 20, 40, 254, 255, 256, 19, 257, 58, 667, 668, 669, 39, 670, 101, 97, 671, 672, 673, 674, 830, 831, 832, 833, 834, 835, 836, 837, 838, 875, 876, 877, 878, 895, 896, 897, 898] (by decide +kernel) (by decide +kernel)
set_option maxRecDepth 20000 in
theorem gL_law_X8_ruled : GoodIn wsL_law (wsV RL 120 RX8 yX8_ruled wsX8_ruled) := goodIn_app (goodIn_of _ (by decide +kernel)) ggL_law_X8_ruled
set_option maxRecDepth 20000 in
theorem ggL_law_X9_ruled : GoodIn wsL_law wsX9_ruled := goodIn_r _ [678, 679, 125, 279, 280, 281, 5, 282, 246, 152, 153, 154, 839, 840, 841, 842, 843, 844, 845, 846, 847, 848, 849, 850, 851, 852, 853, 854, 855, 856, 857, 858, 859, 860, 861, 862, 863, 864, 865, 866, 867, 868, 869, 870, 871, 872] (by decide +kernel) (by decide +kernel)
set_option maxRecDepth 20000 in
theorem gL_law_X9_ruled : GoodIn wsL_law (wsV RL 123 RX9 yX9_ruled wsX9_ruled) := goodIn_app (goodIn_of _ (by decide +kernel)) ggL_law_X9_ruled
set_option maxRecDepth 20000 in
theorem ggL_law_X8_unrule : GoodIn wsL_law wsX8_unrule := goodIn_r _ [683, 40, 671, 672, 673, 39, 674, 101, 684, 685, 686, 687, 830, 831, 832, 833, 834, 835, 836, 837, 838, 895, 896, 897, 898] (by decide +kernel) (by decide +kernel)
set_option maxRecDepth 20000 in
theorem gL_law_X8_unrule : GoodIn wsL_law (wsV RL 124 RX8 yX8_unrule wsX8_unrule) := goodIn_app (goodIn_of _ (by decide +kernel)) ggL_law_X8_unrule
set_option maxRecDepth 20000 in
theorem ggL_law_X9_unrule : GoodIn wsL_law wsX9_unrule := goodIn_r _ [691, 679, 839, 840, 841, 842, 843, 844, 845, 846, 847, 848, 849, 850, 851, 852, 853, 854, 855, 856, 857, 858, 859, 860, 861, 862, 863, 864, 865, 866, 867, 868, 869, 870, 871, 872] (by decide +kernel) (by decide +kernel)
set_option maxRecDepth 20000 in
theorem gL_law_X9_unrule : GoodIn wsL_law (wsV RL 127 RX9 yX9_unrule wsX9_unrule) := goodIn_app (goodIn_of _ (by decide +kernel)) ggL_law_X9_unrule
set_option maxRecDepth 20000 in
theorem ggL_law_X8_line : GoodIn wsL_law wsX8_line := goodIn_r _ [695, 20, 696, 40, 238, 239, 240, 19, 241, 58, 697, 698, 699, 39, 700, 701, 209, 210, 211, 98, 100, 101, 702, 97, 703, 704, 263, 264, 265, 266, 259, 260, 261, 57, 267, 268, 269, 270, 705, 706, 214, 707, 708, 709, 710, 711, 712, 713, 714, 715, 716, 717, 718, 719, 720, 721, 722, 723, 830, 831, 832, 833, 834, 835, 836, 837, 838, 875, 876, 877, 878, 895, 896, 897, 898] (by decide +kernel) (by decide +kernel)
set_option maxRecDepth 20000 in
theorem gL_law_X8_line : GoodIn wsL_law (wsV RL 128 RX8 yX8_line wsX8_line) := goodIn_app (goodIn_of _ (by decide +kernel)) ggL_law_X8_line
set_option maxRecDepth 20000 in
theorem ggL_law_X9_line : GoodIn wsL_law wsX9_line := goodIn_r _ [727, 246, 728, 729, 126, 679, 125, 152, 153, 5, 154, 730, 731, 732, 733, 127, 734, 735, 736, 737, 283, 284, 285, 286, 115, 738, 739, 740, 411, 412, 413, 839, 840, 841, 842, 843, 844, 845, 846, 847, 848, 849, 850, 851, 852, 853, 854, 855, 856, 857, 858, 859, 860, 861, 862, 863, 864, 865, 866, 867, 868, 869, 870, 871, 872] (by decide +kernel) (by decide +kernel)
set_option maxRecDepth 20000 in
theorem gL_law_X9_line : GoodIn wsL_law (wsV RL 132 RX9 yX9_line wsX9_line) := goodIn_app (goodIn_of _ (by decide +kernel)) ggL_law_X9_line
set_option maxRecDepth 20000 in
theorem ggL_law_X8_seed : GoodIn wsL_law wsX8_seed := goodIn_r _ [744, 44, 745, 746, 747, 43, 748, 108, 830, 831, 832, 833, 834, 835, 836, 837, 838, 899, 900] (by decide +kernel) (by decide +kernel)
set_option maxRecDepth 20000 in
theorem gL_law_X8_seed : GoodIn wsL_law (wsV RL 133 RX8 yX8_seed wsX8_seed) := goodIn_app (goodIn_of _ (by decide +kernel)) ggL_law_X8_seed
set_option maxRecDepth 20000 in
theorem ggL_law_X9_seed : GoodIn wsL_law wsX9_seed := goodIn_r _ [752, 753, 839, 840, 841, 842, 843, 844, 845, 846, 847, 848, 849, 850, 851, 852, 853, 854, 855, 856, 857, 858, 859, 860, 861, 862, 863, 864, 865, 866, 867, 868, 869, 870, 871, 872] (by decide +kernel) (by decide +kernel)
set_option maxRecDepth 20000 in
theorem gL_law_X9_seed : GoodIn wsL_law (wsV RL 137 RX9 yX9_seed wsX9_seed) := goodIn_app (goodIn_of _ (by decide +kernel)) ggL_law_X9_seed
set_option maxRecDepth 20000 in
theorem ggL_law_X8_reign : GoodIn wsL_law wsX8_reign := goodIn_r _ [757, 20, 44, 254, 255, 256, 19, 257, 58, 295, 296, 2, 297, 758, 759, 760, 43, 761, 107, 762, 763, 764, 765, 57, 319, 320, 321, 322, 59, 60, 766, 239, 240, 241, 767, 768, 769, 770, 108, 771, 772, 773, 325, 326, 327, 328, 329, 210, 330, 266, 259, 260, 261, 226, 227, 228, 229, 774, 390, 391, 392, 393, 394, 395, 396, 397, 272, 273, 274, 398, 399, 400, 401, 402, 263, 264, 265, 267, 268, 269, 270, 830, 831, 832, 833, 834, 835, 836, 837, 838, 875, 876, 877, 878, 899, 900] (by decide +kernel) (by decide +kernel)
set_option maxRecDepth 20000 in
theorem gL_law_X8_reign : GoodIn wsL_law (wsV RL 138 RX8 yX8_reign wsX8_reign) := goodIn_app (goodIn_of _ (by decide +kernel)) ggL_law_X8_reign
set_option maxRecDepth 20000 in
theorem ggL_law_X9_reign : GoodIn wsL_law wsX9_reign := goodIn_r _ [778, 302, 128, 115, 246, 753, 779, 780, 781, 279, 280, 281, 5, 282, 152, 153, 154, 349, 350, 351, 407, 408, 409, 410, 287, 288, 289, 290, 248, 283, 284, 285, 286, 411, 412, 413, 839, 840, 841, 842, 843, 844, 845, 846, 847, 848, 849, 850, 851, 852, 853, 854, 855, 856, 857, 858, 859, 860, 861, 862, 863, 864, 865, 866, 867, 868, 869, 870, 871, 872] (by decide +kernel) (by decide +kernel)
set_option maxRecDepth 20000 in
theorem gL_law_X9_reign : GoodIn wsL_law (wsV RL 141 RX9 yX9_reign wsX9_reign) := goodIn_app (goodIn_of _ (by decide +kernel)) ggL_law_X9_reign
set_option maxRecDepth 20000 in
theorem ggL_law_X8_keep : GoodIn wsL_law wsX8_keep := goodIn_r _ [785, 28, 20, 786, 787, 27, 788, 789, 790, 791, 792, 72, 73, 793, 794, 316, 317, 19, 318, 57, 319, 320, 321, 322, 377, 378, 379, 380, 830, 831, 832, 833, 834, 835, 836, 837, 838, 882, 883, 875, 876, 877, 878] (by decide +kernel) (by decide +kernel)
set_option maxRecDepth 20000 in
theorem gL_law_X8_keep : GoodIn wsL_law (wsV RL 142 RX8 yX8_keep wsX8_keep) := goodIn_app (goodIn_of _ (by decide +kernel)) ggL_law_X8_keep
set_option maxRecDepth 20000 in
theorem ggL_law_X9_keep : GoodIn wsL_law wsX9_keep := goodIn_r _ [798, 130, 131, 115, 152, 153, 5, 154, 839, 840, 841, 842, 843, 844, 845, 846, 847, 848, 849, 850, 851, 852, 853, 854, 855, 856, 857, 858, 859, 860, 861, 862, 863, 864, 865, 866, 867, 868, 869, 870, 871, 872] (by decide +kernel) (by decide +kernel)
set_option maxRecDepth 20000 in
theorem gL_law_X9_keep : GoodIn wsL_law (wsV RL 145 RX9 yX9_keep wsX9_keep) := goodIn_app (goodIn_of _ (by decide +kernel)) ggL_law_X9_keep
set_option maxRecDepth 20000 in
theorem ggL_law_X8_again : GoodIn wsL_law wsX8_again := goodIn_r _ [802, 28, 20, 24, 786, 787, 27, 788, 803, 804, 805, 806, 73, 793, 807, 808, 809, 810, 72, 811, 812, 435, 436, 19, 437, 57, 319, 320, 321, 322, 230, 231, 232, 23, 233, 67, 377, 378, 379, 380, 830, 831, 832, 833, 834, 835, 836, 837, 838, 882, 883, 875, 876, 877, 878, 879, 880, 881] (by decide +kernel) (by decide +kernel)
set_option maxRecDepth 20000 in
theorem gL_law_X8_again : GoodIn wsL_law (wsV RL 146 RX8 yX8_again wsX8_again) := goodIn_app (goodIn_of _ (by decide +kernel)) ggL_law_X8_again
set_option maxRecDepth 20000 in
theorem ggL_law_X9_again : GoodIn wsL_law wsX9_again := goodIn_r _ [816, 130, 115, 131, 249, 152, 153, 5, 154, 839, 840, 841, 842, 843, 844, 845, 846, 847, 848, 849, 850, 851, 852, 853, 854, 855, 856, 857, 858, 859, 860, 861, 862, 863, 864, 865, 866, 867, 868, 869, 870, 871, 872] (by decide +kernel) (by decide +kernel)
set_option maxRecDepth 20000 in
theorem gL_law_X9_again : GoodIn wsL_law (wsV RL 149 RX9 yX9_again wsX9_again) := goodIn_app (goodIn_of _ (by decide +kernel)) ggL_law_X9_again
set_option maxRecDepth 20000 in
theorem ggL_law_X8_count : GoodIn wsL_law wsX8_count := goodIn_r _ [820, 16, 20, 24, 32, 36, 40, 45, 141, 142, 143, 15, 144, 52, 238, 239, 240, 19, 241, 58, 377, 378, 379, 380, 57, 426, 427, 428, 23, 429, 67, 519, 520, 521, 31, 522, 81, 568, 569, 570, 35, 571, 90, 671, 672, 673, 39, 674, 101, 821, 394, 395, 396, 397, 272, 273, 274, 60, 266, 259, 260, 261, 822, 823, 824, 825, 830, 831, 832, 833, 834, 835, 836, 837, 838, 873, 874, 875, 876, 877, 878, 879, 880, 881, 884, 885, 886, 887, 888, 889, 890, 891, 892, 893, 894, 895, 896, 897, 898] (by decide +kernel) (by decide +kernel)
set_option maxRecDepth 20000 in
theorem gL_law_X8_count : GoodIn wsL_law (wsV RL 150 RX8 yX8_count wsX8_count) := goodIn_app (goodIn_of _ (by decide +kernel)) ggL_law_X8_count
set_option maxRecDepth 20000 in
theorem ggL_law_X9_count : GoodIn wsL_law wsX9_count := goodIn_r _ [829, 246, 115, 150, 249, 528, 578, 679, 132, 287, 288, 289, 5, 290, 248, 839, 840, 841, 842, 843, 844, 845, 846, 847, 848, 849, 850, 851, 852, 853, 854, 855, 856, 857, 858, 859, 860, 861, 862, 863, 864, 865, 866, 867, 868, 869, 870, 871, 872] (by decide +kernel) (by decide +kernel)
set_option maxRecDepth 20000 in
theorem gL_law_X9_count : GoodIn wsL_law (wsV RL 153 RX9 yX9_count wsX9_count) := goodIn_app (goodIn_of _ (by decide +kernel)) ggL_law_X9_count
