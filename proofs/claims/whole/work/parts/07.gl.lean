theorem dJ6_bitCount_0f7a4_0 : decode cJ6_bitCount_0f7a4 0 = .ok (.iload_n 0, 1) := by decide +kernel
theorem dJ6_bitCount_0f7a4_1 : decode cJ6_bitCount_0f7a4 1 = .ok (.iload_n 0, 1) := by decide +kernel
theorem dJ6_bitCount_0f7a4_2 : decode cJ6_bitCount_0f7a4 2 = .ok (.iconst 1, 1) := by decide +kernel
theorem dJ6_bitCount_0f7a4_3 : decode cJ6_bitCount_0f7a4 3 = .ok (.iushr, 1) := by decide +kernel
theorem dJ6_bitCount_0f7a4_4 : decode cJ6_bitCount_0f7a4 4 = .ok (.ldc_w 265, 3) := by decide +kernel
theorem dJ6_bitCount_0f7a4_7 : decode cJ6_bitCount_0f7a4 7 = .ok (.iand, 1) := by decide +kernel
theorem dJ6_bitCount_0f7a4_8 : decode cJ6_bitCount_0f7a4 8 = .ok (.isub, 1) := by decide +kernel
theorem dJ6_bitCount_0f7a4_9 : decode cJ6_bitCount_0f7a4 9 = .ok (.istore_n 0, 1) := by decide +kernel
theorem dJ6_bitCount_0f7a4_10 : decode cJ6_bitCount_0f7a4 10 = .ok (.iload_n 0, 1) := by decide +kernel
theorem dJ6_bitCount_0f7a4_11 : decode cJ6_bitCount_0f7a4 11 = .ok (.ldc_w 266, 3) := by decide +kernel
theorem dJ6_bitCount_0f7a4_14 : decode cJ6_bitCount_0f7a4 14 = .ok (.iand, 1) := by decide +kernel
theorem dJ6_bitCount_0f7a4_15 : decode cJ6_bitCount_0f7a4 15 = .ok (.iload_n 0, 1) := by decide +kernel
theorem dJ6_bitCount_0f7a4_16 : decode cJ6_bitCount_0f7a4 16 = .ok (.iconst 2, 1) := by decide +kernel
theorem dJ6_bitCount_0f7a4_17 : decode cJ6_bitCount_0f7a4 17 = .ok (.iushr, 1) := by decide +kernel
theorem dJ6_bitCount_0f7a4_18 : decode cJ6_bitCount_0f7a4 18 = .ok (.ldc_w 266, 3) := by decide +kernel
theorem dJ6_bitCount_0f7a4_21 : decode cJ6_bitCount_0f7a4 21 = .ok (.iand, 1) := by decide +kernel
theorem dJ6_bitCount_0f7a4_22 : decode cJ6_bitCount_0f7a4 22 = .ok (.iadd, 1) := by decide +kernel
theorem dJ6_bitCount_0f7a4_23 : decode cJ6_bitCount_0f7a4 23 = .ok (.istore_n 0, 1) := by decide +kernel
theorem dJ6_bitCount_0f7a4_24 : decode cJ6_bitCount_0f7a4 24 = .ok (.iload_n 0, 1) := by decide +kernel
theorem dJ6_bitCount_0f7a4_25 : decode cJ6_bitCount_0f7a4 25 = .ok (.iload_n 0, 1) := by decide +kernel
theorem dJ6_bitCount_0f7a4_26 : decode cJ6_bitCount_0f7a4 26 = .ok (.iconst 4, 1) := by decide +kernel
theorem dJ6_bitCount_0f7a4_27 : decode cJ6_bitCount_0f7a4 27 = .ok (.iushr, 1) := by decide +kernel
theorem dJ6_bitCount_0f7a4_28 : decode cJ6_bitCount_0f7a4 28 = .ok (.iadd, 1) := by decide +kernel
theorem dJ6_bitCount_0f7a4_29 : decode cJ6_bitCount_0f7a4 29 = .ok (.ldc_w 267, 3) := by decide +kernel
theorem dJ6_bitCount_0f7a4_32 : decode cJ6_bitCount_0f7a4 32 = .ok (.iand, 1) := by decide +kernel
theorem dJ6_bitCount_0f7a4_33 : decode cJ6_bitCount_0f7a4 33 = .ok (.istore_n 0, 1) := by decide +kernel
theorem dJ6_bitCount_0f7a4_34 : decode cJ6_bitCount_0f7a4 34 = .ok (.iload_n 0, 1) := by decide +kernel
theorem dJ6_bitCount_0f7a4_35 : decode cJ6_bitCount_0f7a4 35 = .ok (.iload_n 0, 1) := by decide +kernel
theorem dJ6_bitCount_0f7a4_36 : decode cJ6_bitCount_0f7a4 36 = .ok (.bipush 8, 2) := by decide +kernel
theorem dJ6_bitCount_0f7a4_38 : decode cJ6_bitCount_0f7a4 38 = .ok (.iushr, 1) := by decide +kernel
theorem dJ6_bitCount_0f7a4_39 : decode cJ6_bitCount_0f7a4 39 = .ok (.iadd, 1) := by decide +kernel
theorem dJ6_bitCount_0f7a4_40 : decode cJ6_bitCount_0f7a4 40 = .ok (.istore_n 0, 1) := by decide +kernel
theorem dJ6_bitCount_0f7a4_41 : decode cJ6_bitCount_0f7a4 41 = .ok (.iload_n 0, 1) := by decide +kernel
theorem dJ6_bitCount_0f7a4_42 : decode cJ6_bitCount_0f7a4 42 = .ok (.iload_n 0, 1) := by decide +kernel
theorem dJ6_bitCount_0f7a4_43 : decode cJ6_bitCount_0f7a4 43 = .ok (.bipush 16, 2) := by decide +kernel
theorem dJ6_bitCount_0f7a4_45 : decode cJ6_bitCount_0f7a4 45 = .ok (.iushr, 1) := by decide +kernel
theorem dJ6_bitCount_0f7a4_46 : decode cJ6_bitCount_0f7a4 46 = .ok (.iadd, 1) := by decide +kernel
theorem dJ6_bitCount_0f7a4_47 : decode cJ6_bitCount_0f7a4 47 = .ok (.istore_n 0, 1) := by decide +kernel
theorem dJ6_bitCount_0f7a4_48 : decode cJ6_bitCount_0f7a4 48 = .ok (.iload_n 0, 1) := by decide +kernel
theorem dJ6_bitCount_0f7a4_49 : decode cJ6_bitCount_0f7a4 49 = .ok (.bipush 63, 2) := by decide +kernel
theorem dJ6_bitCount_0f7a4_51 : decode cJ6_bitCount_0f7a4 51 = .ok (.iand, 1) := by decide +kernel
theorem dJ6_bitCount_0f7a4_52 : decode cJ6_bitCount_0f7a4 52 = .ok (.ireturn, 1) := by decide +kernel
theorem dJ9_abs_0f7a4_0 : decode cJ9_abs_0f7a4 0 = .ok (.iload_n 0, 1) := by decide +kernel
theorem dJ9_abs_0f7a4_1 : decode cJ9_abs_0f7a4 1 = .ok (.ifCond .ge 8, 3) := by decide +kernel
theorem dJ9_abs_0f7a4_4 : decode cJ9_abs_0f7a4 4 = .ok (.iload_n 0, 1) := by decide +kernel
theorem dJ9_abs_0f7a4_5 : decode cJ9_abs_0f7a4 5 = .ok (.ineg, 1) := by decide +kernel
theorem dJ9_abs_0f7a4_6 : decode cJ9_abs_0f7a4 6 = .ok (.goto 4, 3) := by decide +kernel
theorem dJ9_abs_0f7a4_9 : decode cJ9_abs_0f7a4 9 = .ok (.iload_n 0, 1) := by decide +kernel
theorem dJ9_abs_0f7a4_10 : decode cJ9_abs_0f7a4 10 = .ok (.ireturn, 1) := by decide +kernel
theorem dJ9_max_7cf53_0 : decode cJ9_max_7cf53 0 = .ok (.iload_n 0, 1) := by decide +kernel
theorem dJ9_max_7cf53_1 : decode cJ9_max_7cf53 1 = .ok (.iload_n 1, 1) := by decide +kernel
theorem dJ9_max_7cf53_2 : decode cJ9_max_7cf53 2 = .ok (.if_icmp .lt 7, 3) := by decide +kernel
theorem dJ9_max_7cf53_5 : decode cJ9_max_7cf53 5 = .ok (.iload_n 0, 1) := by decide +kernel
theorem dJ9_max_7cf53_6 : decode cJ9_max_7cf53 6 = .ok (.goto 4, 3) := by decide +kernel
theorem dJ9_max_7cf53_9 : decode cJ9_max_7cf53 9 = .ok (.iload_n 1, 1) := by decide +kernel
theorem dJ9_max_7cf53_10 : decode cJ9_max_7cf53 10 = .ok (.ireturn, 1) := by decide +kernel
theorem dJ7_fill_53178_0 : decode cJ7_fill_53178 0 = .ok (.iconst 0, 1) := by decide +kernel
theorem dJ7_fill_53178_1 : decode cJ7_fill_53178 1 = .ok (.istore_n 2, 1) := by decide +kernel
theorem dJ7_fill_53178_2 : decode cJ7_fill_53178 2 = .ok (.aload_n 0, 1) := by decide +kernel
theorem dJ7_fill_53178_3 : decode cJ7_fill_53178 3 = .ok (.arraylength, 1) := by decide +kernel
theorem dJ7_fill_53178_4 : decode cJ7_fill_53178 4 = .ok (.istore_n 3, 1) := by decide +kernel
theorem dJ7_fill_53178_5 : decode cJ7_fill_53178 5 = .ok (.iload_n 2, 1) := by decide +kernel
theorem dJ7_fill_53178_6 : decode cJ7_fill_53178 6 = .ok (.iload_n 3, 1) := by decide +kernel
theorem dJ7_fill_53178_7 : decode cJ7_fill_53178 7 = .ok (.if_icmp .ge 13, 3) := by decide +kernel
theorem dJ7_fill_53178_10 : decode cJ7_fill_53178 10 = .ok (.aload_n 0, 1) := by decide +kernel
theorem dJ7_fill_53178_11 : decode cJ7_fill_53178 11 = .ok (.iload_n 2, 1) := by decide +kernel
theorem dJ7_fill_53178_12 : decode cJ7_fill_53178 12 = .ok (.iload_n 1, 1) := by decide +kernel
theorem dJ7_fill_53178_13 : decode cJ7_fill_53178 13 = .ok (.iastore, 1) := by decide +kernel
theorem dJ7_fill_53178_14 : decode cJ7_fill_53178 14 = .ok (.iinc 2 1, 3) := by decide +kernel
theorem dJ7_fill_53178_17 : decode cJ7_fill_53178 17 = .ok (.goto (-12), 3) := by decide +kernel
theorem dJ7_fill_53178_20 : decode cJ7_fill_53178 20 = .ok (.return_, 1) := by decide +kernel
set_option maxRecDepth 20000 in
theorem ggL_law_X3_init : GoodIn wsL_law wsX3_init := goodIn_r _ [8, 9, 10, 11, 12, 13, 14, 15, 16, 17, 18, 19, 20, 21, 22, 23, 24, 25, 26, 27, 28, 29, 30, 31, 32, 33, 34, 35, 36, 37, 38, 39, 40, 41, 42, 43, 44, 45, 46, 47, 48, 49, 50, 51, 52, 53, 54, 55, 56, 57, 58, 59, 60, 61, 757, 758, 759, 760, 761, 762, 763, 796, 797, 798, 799, 800, 801, 802, 803, 804, 805, 806, 807, 808, 809, 810, 811, 812, 813, 814, 815, 816, 817, 818, 819] (by decide +kernel) (by decide +kernel)
set_option maxRecDepth 20000 in
theorem gL_law_X3_init : GoodIn wsL_law (wsX3_init) := ggL_law_X3_init
set_option maxRecDepth 20000 in
theorem ggL_law_X4_init : GoodIn wsL_law wsX4_init := goodIn_r _ [64, 65, 10, 11, 18, 66, 67, 68, 69, 70, 71, 72, 73, 74, 75, 76, 77, 78, 79, 80, 81, 82, 83, 764, 765, 766, 767, 768, 769, 770, 771, 772, 773, 774, 775, 776, 777, 778, 779, 780, 781, 782, 783, 784, 785, 786, 787, 788, 789, 790, 791, 792, 793, 794, 795] (by decide +kernel) (by decide +kernel)
set_option maxRecDepth 20000 in
theorem gL_law_X4_init : GoodIn wsL_law (wsX4_init) := ggL_law_X4_init
set_option maxRecDepth 20000 in
theorem ggL_law_X3_town : GoodIn wsL_law wsX3_town := goodIn_r _ [87, 26, 17, 24, 88, 23, 89, 90, 91, 92, 2, 93, 13, 94, 95, 96, 97, 98, 99, 28, 100, 60, 101, 102, 103, 104, 105, 106, 107, 108, 61, 109, 110, 111, 112, 113, 114, 115, 16, 116, 34, 33, 32, 117, 118, 119, 120, 121, 122, 123, 124, 125, 126, 127, 128, 129, 22, 130, 47, 51, 52, 53, 54, 55, 131, 132, 133, 134, 48, 49, 50, 135, 136, 137, 138, 139, 140, 141, 142, 143, 144, 145, 146, 147, 148, 149, 150, 151, 152, 153, 154, 155, 156, 157, 158, 159, 160, 161, 162, 163, 164, 165, 41, 42, 166, 167, 168, 169, 45, 170, 171, 172, 173, 174, 175, 176, 177, 38, 40, 39, 757, 758, 759, 760, 761, 762, 763, 796, 797, 798, 799, 800, 801, 802, 803, 804, 805, 806, 807, 808, 809, 810, 811, 812, 813, 814, 815, 816, 817, 818, 819] (by decide +kernel) (by decide +kernel)
set_option maxRecDepth 20000 in
theorem gL_law_X3_town : GoodIn wsL_law (wsV RL 13 RX3 yX3_town wsX3_town) := goodIn_app (goodIn_of _ (by decide +kernel)) ggL_law_X3_town
set_option maxRecDepth 20000 in
theorem ggL_law_X4_town : GoodIn wsL_law wsX4_town := goodIn_r _ [181, 182, 183, 184, 185, 186, 187, 188, 189, 190, 191, 66, 72, 67, 73, 68, 69, 74, 70, 75, 71, 76, 192, 193, 194, 195, 5, 196, 197, 198, 199, 200, 201, 202, 203, 204, 205, 206, 207, 208, 209, 80, 81, 210, 211, 212, 213, 214, 215, 216, 217, 218, 219, 220, 221, 222, 223, 224, 82, 225, 226, 227, 228, 229, 230, 231, 232, 233, 234, 235, 236, 237, 238, 239, 240, 764, 765, 766, 767, 768, 769, 770, 771, 772, 773, 774, 775, 776, 777, 778, 779, 780, 781, 782, 783, 784, 785, 786, 787, 788, 789, 790, 791, 792, 793, 794, 795] (by decide +kernel) (by decide +kernel)
set_option maxRecDepth 20000 in
theorem gL_law_X4_town : GoodIn wsL_law (wsV RL 17 RX4 yX4_town wsX4_town) := goodIn_app (goodIn_of _ (by decide +kernel)) ggL_law_X4_town
set_option maxRecDepth 20000 in
theorem ggL_law_X3_ofWard : GoodIn wsL_law wsX3_ofWard := goodIn_r _ [244, 23, 245, 246, 247, 248, 249, 250, 22, 251, 52, 252, 118, 2, 119, 253, 254, 255, 256, 39, 38, 757, 758, 759, 760, 761, 762, 763, 799, 800, 801, 802, 803, 804, 805, 806, 807, 808, 809, 810, 811, 812, 813, 814, 815, 816] (by decide +kernel) (by decide +kernel)
set_option maxRecDepth 20000 in
theorem gL_law_X3_ofWard : GoodIn wsL_law (wsV RL 18 RX3 yX3_ofWard wsX3_ofWard) := goodIn_app (goodIn_of _ (by decide +kernel)) ggL_law_X3_ofWard
set_option maxRecDepth 20000 in
theorem ggL_law_X4_ofWard : GoodIn wsL_law wsX4_ofWard := goodIn_r _ [260, 70, 71, 69, 261, 262, 263, 5, 264, 191, 198, 199, 200, 265, 266, 267, 268, 764, 765, 766, 767, 768, 769, 770, 771, 772, 773, 774, 775, 776, 777, 778, 779, 780, 781, 782, 783, 784, 785, 786, 787, 788, 789, 790, 791, 792, 793, 794, 795] (by decide +kernel) (by decide +kernel)
set_option maxRecDepth 20000 in
theorem gL_law_X4_ofWard : GoodIn wsL_law (wsV RL 22 RX4 yX4_ofWard wsX4_ofWard) := goodIn_app (goodIn_of _ (by decide +kernel)) ggL_law_X4_ofWard
set_option maxRecDepth 20000 in
theorem ggL_law_X3_ofWork : GoodIn wsL_law wsX3_ofWork := goodIn_r _ [272, 23, 273, 274, 275, 276, 277, 278, 22, 279, 51, 252, 118, 2, 119, 280, 281, 282, 283, 757, 758, 759, 760, 761, 762, 763, 799, 800, 801, 802, 803, 804, 805, 806, 807, 808, 809, 810, 811, 812, 813, 814, 815, 816] (by decide +kernel) (by decide +kernel)
set_option maxRecDepth 20000 in
theorem gL_law_X3_ofWork : GoodIn wsL_law (wsV RL 23 RX3 yX3_ofWork wsX3_ofWork) := goodIn_app (goodIn_of _ (by decide +kernel)) ggL_law_X3_ofWork
set_option maxRecDepth 20000 in
theorem ggL_law_X4_ofWork : GoodIn wsL_law wsX4_ofWork := goodIn_r _ [287, 66, 67, 68, 288, 289, 290, 5, 291, 189, 198, 199, 200, 764, 765, 766, 767, 768, 769, 770, 771, 772, 773, 774, 775, 776, 777, 778, 779, 780, 781, 782, 783, 784, 785, 786, 787, 788, 789, 790, 791, 792, 793, 794, 795] (by decide +kernel) (by decide +kernel)
set_option maxRecDepth 20000 in
theorem gL_law_X4_ofWork : GoodIn wsL_law (wsV RL 26 RX4 yX4_ofWork wsX4_ofWork) := goodIn_app (goodIn_of _ (by decide +kernel)) ggL_law_X4_ofWork
set_option maxRecDepth 20000 in
theorem ggL_law_X3_law : GoodIn wsL_law wsX3_law := goodIn_r _ [295, 23, 296, 297, 94, 95, 2, 96, 757, 758, 759, 760, 761, 762, 763, 799, 800, 801, 802, 803, 804, 805, 806, 807, 808, 809, 810, 811, 812, 813, 814, 815, 816] (by decide +kernel) (by decide +kernel)
set_option maxRecDepth 20000 in
theorem gL_law_X3_law : GoodIn wsL_law (wsV RL 27 RX3 yX3_law wsX3_law) := goodIn_app (goodIn_of _ (by decide +kernel)) ggL_law_X3_law
set_option maxRecDepth 20000 in
theorem ggL_law_X4_law : GoodIn wsL_law wsX4_law := goodIn_r _ [301, 182, 185, 192, 198, 199, 5, 200, 764, 765, 766, 767, 768, 769, 770, 771, 772, 773, 774, 775, 776, 777, 778, 779, 780, 781, 782, 783, 784, 785, 786, 787, 788, 789, 790, 791, 792, 793, 794, 795] (by decide +kernel) (by decide +kernel)
set_option maxRecDepth 20000 in
theorem gL_law_X4_law : GoodIn wsL_law (wsV RL 31 RX4 yX4_law wsX4_law) := goodIn_app (goodIn_of _ (by decide +kernel)) ggL_law_X4_law
set_option maxRecDepth 20000 in
theorem ggL_law_X3_turn : GoodIn wsL_law wsX3_turn := goodIn_r _ [305, 23, 275, 276, 277, 278, 22, 279, 51, 94, 95, 2, 96, 280, 281, 282, 283, 306, 307, 308, 309, 757, 758, 759, 760, 761, 762, 763, 799, 800, 801, 802, 803, 804, 805, 806, 807, 808, 809, 810, 811, 812, 813, 814, 815, 816] (by decide +kernel) (by decide +kernel)
set_option maxRecDepth 20000 in
theorem gL_law_X3_turn : GoodIn wsL_law (wsV RL 32 RX3 yX3_turn wsX3_turn) := goodIn_app (goodIn_of _ (by decide +kernel)) ggL_law_X3_turn
set_option maxRecDepth 20000 in
theorem ggL_law_X4_turn : GoodIn wsL_law wsX4_turn := goodIn_r _ [313, 197, 68, 288, 289, 290, 5, 291, 189, 198, 199, 200, 764, 765, 766, 767, 768, 769, 770, 771, 772, 773, 774, 775, 776, 777, 778, 779, 780, 781, 782, 783, 784, 785, 786, 787, 788, 789, 790, 791, 792, 793, 794, 795] (by decide +kernel) (by decide +kernel)
set_option maxRecDepth 20000 in
theorem gL_law_X4_turn : GoodIn wsL_law (wsV RL 35 RX4 yX4_turn wsX4_turn) := goodIn_app (goodIn_of _ (by decide +kernel)) ggL_law_X4_turn
set_option maxRecDepth 20000 in
theorem ggL_law_X3_smell : GoodIn wsL_law wsX3_smell := goodIn_r _ [317, 23, 275, 318, 319, 320, 22, 321, 50, 322, 323, 324, 325, 51, 42, 45, 326, 327, 328, 329, 53, 330, 331, 332, 333, 281, 282, 283, 171, 172, 173, 118, 2, 119, 757, 758, 759, 760, 761, 762, 763, 799, 800, 801, 802, 803, 804, 805, 806, 807, 808, 809, 810, 811, 812, 813, 814, 815, 816] (by decide +kernel) (by decide +kernel)
set_option maxRecDepth 20000 in
theorem gL_law_X3_smell : GoodIn wsL_law (wsV RL 36 RX3 yX3_smell wsX3_smell) := goodIn_app (goodIn_of _ (by decide +kernel)) ggL_law_X3_smell
set_option maxRecDepth 20000 in
theorem ggL_law_X4_smell : GoodIn wsL_law wsX4_smell := goodIn_r _ [337, 338, 339, 340, 5, 341, 185, 187, 198, 199, 200, 342, 343, 344, 345, 189, 192, 346, 347, 348, 349, 66, 68, 67, 764, 765, 766, 767, 768, 769, 770, 771, 772, 773, 774, 775, 776, 777, 778, 779, 780, 781, 782, 783, 784, 785, 786, 787, 788, 789, 790, 791, 792, 793, 794, 795] (by decide +kernel) (by decide +kernel)
set_option maxRecDepth 20000 in
theorem gL_law_X4_smell : GoodIn wsL_law (wsV RL 39 RX4 yX4_smell wsX4_smell) := goodIn_app (goodIn_of _ (by decide +kernel)) ggL_law_X4_smell
set_option maxRecDepth 20000 in
theorem ggL_law_X3_minds : GoodIn wsL_law wsX3_minds := goodIn_r _ [353, 23, 275, 248, 249, 250, 22, 251, 52, 354, 355, 356, 357, 40, 358, 254, 255, 256, 39, 38, 118, 2, 119, 359, 323, 324, 325, 51, 42, 45, 326, 327, 328, 329, 53, 330, 331, 332, 333, 281, 282, 283, 171, 172, 173, 757, 758, 759, 760, 761, 762, 763, 799, 800, 801, 802, 803, 804, 805, 806, 807, 808, 809, 810, 811, 812, 813, 814, 815, 816] (by decide +kernel) (by decide +kernel)
set_option maxRecDepth 20000 in
theorem gL_law_X3_minds : GoodIn wsL_law (wsV RL 40 RX3 yX3_minds wsX3_minds) := goodIn_app (goodIn_of _ (by decide +kernel)) ggL_law_X3_minds
set_option maxRecDepth 20000 in
theorem ggL_law_X4_minds : GoodIn wsL_law wsX4_minds := goodIn_r _ [363, 261, 262, 263, 5, 264, 191, 198, 199, 200, 364, 365, 366, 367, 69, 265, 266, 267, 268, 71, 70, 342, 343, 344, 345, 189, 192, 346, 347, 348, 349, 187, 66, 68, 67, 764, 765, 766, 767, 768, 769, 770, 771, 772, 773, 774, 775, 776, 777, 778, 779, 780, 781, 782, 783, 784, 785, 786, 787, 788, 789, 790, 791, 792, 793, 794, 795] (by decide +kernel) (by decide +kernel)
set_option maxRecDepth 20000 in
theorem gL_law_X4_minds : GoodIn wsL_law (wsV RL 43 RX4 yX4_minds wsX4_minds) := goodIn_app (goodIn_of _ (by decide +kernel)) ggL_law_X4_minds
set_option maxRecDepth 20000 in
theorem ggL_law_X3_burden : GoodIn wsL_law wsX3_burden := goodIn_r _ [371, 23, 296, 275, 372, 373, 374, 22, 375, 52, 376, 355, 356, 357, 40, 358, 254, 255, 256, 39, 38, 118, 2, 119, 359, 323, 324, 325, 51, 42, 45, 326, 327, 328, 329, 53, 330, 331, 332, 333, 281, 282, 283, 171, 172, 173, 757, 758, 759, 760, 761, 762, 763, 799, 800, 801, 802, 803, 804, 805, 806, 807, 808, 809, 810, 811, 812, 813, 814, 815, 816] (by decide +kernel) (by decide +kernel)
set_option maxRecDepth 20000 in
theorem gL_law_X3_burden : GoodIn wsL_law (wsV RL 44 RX3 yX3_burden wsX3_burden) := goodIn_app (goodIn_of _ (by decide +kernel)) ggL_law_X3_burden
set_option maxRecDepth 20000 in
theorem ggL_law_X4_burden : GoodIn wsL_law wsX4_burden := goodIn_r _ [380, 185, 381, 382, 383, 5, 384, 191, 364, 365, 366, 367, 69, 265, 266, 267, 268, 71, 70, 342, 343, 344, 345, 189, 192, 346, 347, 348, 349, 187, 66, 68, 67, 764, 765, 766, 767, 768, 769, 770, 771, 772, 773, 774, 775, 776, 777, 778, 779, 780, 781, 782, 783, 784, 785, 786, 787, 788, 789, 790, 791, 792, 793, 794, 795] (by decide +kernel) (by decide +kernel)
set_option maxRecDepth 20000 in
theorem gL_law_X4_burden : GoodIn wsL_law (wsV RL 48 RX4 yX4_burden wsX4_burden) := goodIn_app (goodIn_of _ (by decide +kernel)) ggL_law_X4_burden
set_option maxRecDepth 20000 in
theorem ggL_law_X3_told : GoodIn wsL_law wsX3_told := goodIn_r _ [388, 26, 23, 296, 389, 390, 90, 91, 92, 2, 93, 13, 94, 95, 96, 97, 98, 99, 28, 100, 60, 101, 102, 103, 104, 105, 106, 107, 108, 61, 109, 110, 111, 112, 252, 118, 119, 306, 307, 308, 22, 309, 51, 372, 373, 374, 375, 52, 376, 355, 356, 357, 40, 358, 254, 255, 256, 39, 38, 359, 323, 324, 325, 42, 45, 326, 327, 328, 329, 53, 330, 331, 332, 333, 281, 282, 283, 171, 172, 173, 757, 758, 759, 760, 761, 762, 763, 799, 800, 801, 802, 803, 804, 805, 806, 807, 808, 809, 810, 811, 812, 813, 814, 815, 816, 817, 818, 819] (by decide +kernel) (by decide +kernel)
set_option maxRecDepth 20000 in
theorem gL_law_X3_told : GoodIn wsL_law (wsV RL 49 RX3 yX3_told wsX3_told) := goodIn_app (goodIn_of _ (by decide +kernel)) ggL_law_X3_told
set_option maxRecDepth 20000 in
theorem ggL_law_X4_told : GoodIn wsL_law wsX4_told := goodIn_r _ [394, 182, 185, 189, 82, 197, 68, 194, 195, 5, 196, 198, 199, 200, 201, 202, 203, 204, 205, 206, 207, 208, 209, 80, 81, 210, 211, 212, 213, 214, 215, 216, 395, 396, 397, 398, 381, 382, 383, 384, 191, 364, 365, 366, 367, 69, 265, 266, 267, 268, 71, 70, 342, 343, 344, 345, 192, 346, 347, 348, 349, 187, 66, 67, 399, 400, 401, 402, 764, 765, 766, 767, 768, 769, 770, 771, 772, 773, 774, 775, 776, 777, 778, 779, 780, 781, 782, 783, 784, 785, 786, 787, 788, 789, 790, 791, 792, 793, 794, 795] (by decide +kernel) (by decide +kernel)
set_option maxRecDepth 20000 in
theorem gL_law_X4_told : GoodIn wsL_law (wsV RL 52 RX4 yX4_told wsX4_told) := goodIn_app (goodIn_of _ (by decide +kernel)) ggL_law_X4_told
set_option maxRecDepth 20000 in
theorem ggL_law_X3_vote : GoodIn wsL_law wsX3_vote := goodIn_r _ [406, 23, 275, 248, 249, 250, 22, 251, 52, 276, 277, 278, 279, 51, 407, 408, 409, 410, 170, 411, 307, 308, 309, 376, 355, 356, 357, 40, 358, 254, 255, 256, 39, 38, 118, 2, 119, 359, 323, 324, 325, 42, 45, 326, 327, 328, 329, 53, 330, 331, 332, 333, 281, 282, 283, 171, 172, 173, 757, 758, 759, 760, 761, 762, 763, 799, 800, 801, 802, 803, 804, 805, 806, 807, 808, 809, 810, 811, 812, 813, 814, 815, 816] (by decide +kernel) (by decide +kernel)
set_option maxRecDepth 20000 in
theorem gL_law_X3_vote : GoodIn wsL_law (wsV RL 53 RX3 yX3_vote wsX3_vote) := goodIn_app (goodIn_of _ (by decide +kernel)) ggL_law_X3_vote
set_option maxRecDepth 20000 in
theorem ggL_law_X4_vote : GoodIn wsL_law wsX4_vote := goodIn_r _ [415, 261, 262, 263, 5, 264, 191, 198, 199, 200, 288, 289, 290, 291, 189, 416, 417, 418, 419, 68, 364, 365, 366, 367, 69, 265, 266, 267, 268, 71, 70, 342, 343, 344, 345, 192, 346, 347, 348, 349, 187, 66, 67, 764, 765, 766, 767, 768, 769, 770, 771, 772, 773, 774, 775, 776, 777, 778, 779, 780, 781, 782, 783, 784, 785, 786, 787, 788, 789, 790, 791, 792, 793, 794, 795] (by decide +kernel) (by decide +kernel)
set_option maxRecDepth 20000 in
theorem gL_law_X4_vote : GoodIn wsL_law (wsV RL 56 RX4 yX4_vote wsX4_vote) := goodIn_app (goodIn_of _ (by decide +kernel)) ggL_law_X4_vote
set_option maxRecDepth 20000 in
theorem ggL_law_X3_ballot : GoodIn wsL_law wsX3_ballot := goodIn_r _ [423, 23, 275, 276, 277, 278, 22, 279, 51, 424, 425, 426, 427, 428, 429, 430, 431, 52, 46, 432, 408, 409, 410, 170, 411, 307, 308, 309, 376, 355, 356, 357, 40, 358, 254, 255, 256, 39, 38, 118, 2, 119, 359, 323, 324, 325, 42, 45, 326, 327, 328, 329, 53, 330, 331, 332, 333, 281, 282, 283, 171, 172, 173, 120, 121, 433, 434, 435, 436, 757, 758, 759, 760, 761, 762, 763, 799, 800, 801, 802, 803, 804, 805, 806, 807, 808, 809, 810, 811, 812, 813, 814, 815, 816] (by decide +kernel) (by decide +kernel)
set_option maxRecDepth 20000 in
theorem gL_law_X3_ballot : GoodIn wsL_law (wsV RL 57 RX3 yX3_ballot wsX3_ballot) := goodIn_app (goodIn_of _ (by decide +kernel)) ggL_law_X3_ballot
set_option maxRecDepth 20000 in
theorem ggL_law_X4_ballot : GoodIn wsL_law wsX4_ballot := goodIn_r _ [440, 288, 289, 290, 5, 291, 189, 198, 199, 200, 441, 442, 443, 444, 191, 445, 446, 447, 416, 417, 418, 419, 68, 364, 365, 366, 367, 69, 265, 266, 267, 268, 71, 70, 342, 343, 344, 345, 192, 346, 347, 348, 349, 187, 66, 67, 764, 765, 766, 767, 768, 769, 770, 771, 772, 773, 774, 775, 776, 777, 778, 779, 780, 781, 782, 783, 784, 785, 786, 787, 788, 789, 790, 791, 792, 793, 794, 795] (by decide +kernel) (by decide +kernel)
set_option maxRecDepth 20000 in
theorem gL_law_X4_ballot : GoodIn wsL_law (wsV RL 60 RX4 yX4_ballot wsX4_ballot) := goodIn_app (goodIn_of _ (by decide +kernel)) ggL_law_X4_ballot
set_option maxRecDepth 20000 in
theorem ggL_law_X3_year : GoodIn wsL_law wsX3_year := goodIn_r _ [451, 23, 296, 275, 389, 452, 453, 454, 22, 455, 51, 428, 429, 430, 431, 52, 46, 432, 408, 409, 410, 170, 411, 307, 308, 309, 376, 355, 356, 357, 40, 358, 254, 255, 256, 39, 38, 118, 2, 119, 359, 323, 324, 325, 42, 45, 326, 327, 328, 329, 53, 330, 331, 332, 333, 281, 282, 283, 171, 172, 173, 120, 121, 433, 434, 435, 436, 280, 757, 758, 759, 760, 761, 762, 763, 799, 800, 801, 802, 803, 804, 805, 806, 807, 808, 809, 810, 811, 812, 813, 814, 815, 816] (by decide +kernel) (by decide +kernel)
set_option maxRecDepth 20000 in
theorem gL_law_X3_year : GoodIn wsL_law (wsV RL 61 RX3 yX3_year wsX3_year) := goodIn_app (goodIn_of _ (by decide +kernel)) ggL_law_X3_year
set_option maxRecDepth 20000 in
theorem ggL_law_X4_year : GoodIn wsL_law wsX4_year := goodIn_r _ [459, 185, 460, 461, 462, 5, 463, 189, 68, 441, 442, 443, 444, 191, 445, 446, 447, 416, 417, 418, 419, 364, 365, 366, 367, 69, 265, 266, 267, 268, 71, 70, 342, 343, 344, 345, 192, 346, 347, 348, 349, 187, 66, 67, 764, 765, 766, 767, 768, 769, 770, 771, 772, 773, 774, 775, 776, 777, 778, 779, 780, 781, 782, 783, 784, 785, 786, 787, 788, 789, 790, 791, 792, 793, 794, 795] (by decide +kernel) (by decide +kernel)
set_option maxRecDepth 20000 in
theorem gL_law_X4_year : GoodIn wsL_law (wsV RL 64 RX4 yX4_year wsX4_year) := goodIn_app (goodIn_of _ (by decide +kernel)) ggL_law_X4_year
set_option maxRecDepth 20000 in
theorem ggL_law_X3_round : GoodIn wsL_law wsX3_round := goodIn_r _ [467, 23, 296, 19, 275, 94, 95, 2, 96, 468, 469, 470, 471, 252, 118, 119, 472, 120, 121, 452, 453, 454, 22, 455, 51, 428, 429, 430, 431, 52, 46, 432, 408, 409, 410, 170, 411, 307, 308, 309, 376, 355, 356, 357, 40, 358, 254, 255, 256, 39, 38, 359, 323, 324, 325, 42, 45, 326, 327, 328, 329, 53, 330, 331, 332, 333, 281, 282, 283, 171, 172, 173, 433, 434, 435, 436, 757, 758, 759, 760, 761, 762, 763, 799, 800, 801, 802, 803, 804, 805, 806, 807, 808, 809, 810, 811, 812, 813, 814, 815, 816] (by decide +kernel) (by decide +kernel)
set_option maxRecDepth 20000 in
theorem gL_law_X3_round : GoodIn wsL_law (wsV RL 65 RX3 yX3_round wsX3_round) := goodIn_app (goodIn_of _ (by decide +kernel)) ggL_law_X3_round
set_option maxRecDepth 20000 in
theorem ggL_law_X4_round : GoodIn wsL_law wsX4_round := goodIn_r _ [476, 185, 77, 198, 199, 5, 200, 395, 396, 397, 398, 189, 68, 460, 461, 462, 463, 441, 442, 443, 444, 191, 445, 446, 447, 416, 417, 418, 419, 364, 365, 366, 367, 69, 265, 266, 267, 268, 71, 70, 342, 343, 344, 345, 192, 346, 347, 348, 349, 187, 66, 67, 399, 400, 401, 402, 764, 765, 766, 767, 768, 769, 770, 771, 772, 773, 774, 775, 776, 777, 778, 779, 780, 781, 782, 783, 784, 785, 786, 787, 788, 789, 790, 791, 792, 793, 794, 795] (by decide +kernel) (by decide +kernel)
set_option maxRecDepth 20000 in
theorem gL_law_X4_round : GoodIn wsL_law (wsV RL 68 RX4 yX4_round wsX4_round) := goodIn_app (goodIn_of _ (by decide +kernel)) ggL_law_X4_round
set_option maxRecDepth 20000 in
theorem ggL_law_X3_best : GoodIn wsL_law wsX3_best := goodIn_r _ [480, 481, 482, 483, 2, 484, 23, 296, 485, 486, 487, 22, 488, 170, 489, 490, 491, 492, 51, 493, 494, 495, 496, 52, 326, 327, 328, 329, 376, 355, 356, 357, 40, 358, 254, 255, 256, 39, 38, 118, 119, 359, 323, 324, 325, 42, 45, 53, 330, 331, 332, 333, 281, 282, 283, 171, 172, 173, 497, 373, 374, 375, 498, 372, 499, 500, 501, 502, 276, 277, 278, 279, 280, 757, 758, 759, 760, 761, 762, 763, 799, 800, 801, 802, 803, 804, 805, 806, 807, 808, 809, 810, 811, 812, 813, 814, 815, 816] (by decide +kernel) (by decide +kernel)
set_option maxRecDepth 20000 in
theorem gL_law_X3_best : GoodIn wsL_law (wsV RL 69 RX3 yX3_best wsX3_best) := goodIn_app (goodIn_of _ (by decide +kernel)) ggL_law_X3_best
set_option maxRecDepth 20000 in
theorem ggL_law_X4_best : GoodIn wsL_law wsX4_best := goodIn_r _ [506, 185, 507, 508, 509, 510, 5, 511, 395, 396, 397, 398, 189, 68, 512, 513, 514, 515, 399, 400, 401, 402, 381, 382, 383, 384, 191, 364, 365, 366, 367, 69, 265, 266, 267, 268, 71, 70, 342, 343, 344, 345, 192, 346, 347, 348, 349, 187, 66, 67, 516, 517, 518, 519, 288, 289, 290, 291, 198, 199, 200, 520, 521, 522, 523, 764, 765, 766, 767, 768, 769, 770, 771, 772, 773, 774, 775, 776, 777, 778, 779, 780, 781, 782, 783, 784, 785, 786, 787, 788, 789, 790, 791, 792, 793, 794, 795] (by decide +kernel) (by decide +kernel)
set_option maxRecDepth 20000 in
theorem gL_law_X4_best : GoodIn wsL_law (wsV RL 72 RX4 yX4_best wsX4_best) := goodIn_app (goodIn_of _ (by decide +kernel)) ggL_law_X4_best
set_option maxRecDepth 20000 in
theorem ggL_law_X3_calm : GoodIn wsL_law wsX3_calm := goodIn_r _ [527, 481, 482, 483, 2, 484, 23, 296, 485, 486, 487, 22, 488, 170, 489, 490, 491, 492, 51, 493, 494, 495, 496, 52, 326, 327, 328, 329, 376, 355, 356, 357, 40, 358, 254, 255, 256, 39, 38, 118, 119, 359, 323, 324, 325, 42, 45, 53, 330, 331, 332, 333, 281, 282, 283, 171, 172, 173, 497, 373, 374, 375, 498, 372, 499, 500, 501, 502, 276, 277, 278, 279, 280, 757, 758, 759, 760, 761, 762, 763, 799, 800, 801, 802, 803, 804, 805, 806, 807, 808, 809, 810, 811, 812, 813, 814, 815, 816] (by decide +kernel) (by decide +kernel)
set_option maxRecDepth 20000 in
theorem gL_law_X3_calm : GoodIn wsL_law (wsV RL 73 RX3 yX3_calm wsX3_calm) := goodIn_app (goodIn_of _ (by decide +kernel)) ggL_law_X3_calm
set_option maxRecDepth 20000 in
theorem ggL_law_X4_calm : GoodIn wsL_law wsX4_calm := goodIn_r _ [531, 185, 507, 508, 509, 510, 5, 511, 395, 396, 397, 398, 189, 68, 512, 513, 514, 515, 399, 400, 401, 402, 381, 382, 383, 384, 191, 364, 365, 366, 367, 69, 265, 266, 267, 268, 71, 70, 342, 343, 344, 345, 192, 346, 347, 348, 349, 187, 66, 67, 516, 517, 518, 519, 288, 289, 290, 291, 198, 199, 200, 520, 521, 522, 523, 764, 765, 766, 767, 768, 769, 770, 771, 772, 773, 774, 775, 776, 777, 778, 779, 780, 781, 782, 783, 784, 785, 786, 787, 788, 789, 790, 791, 792, 793, 794, 795] (by decide +kernel) (by decide +kernel)
set_option maxRecDepth 20000 in
theorem gL_law_X4_calm : GoodIn wsL_law (wsV RL 76 RX4 yX4_calm wsX4_calm) := goodIn_app (goodIn_of _ (by decide +kernel)) ggL_law_X4_calm
set_option maxRecDepth 20000 in
theorem ggL_law_X3_bribe : GoodIn wsL_law wsX3_bribe := goodIn_r _ [535, 23, 276, 277, 278, 22, 279, 51, 94, 95, 2, 96, 536, 537, 538, 539, 54, 52, 428, 429, 430, 431, 46, 432, 408, 409, 410, 170, 411, 307, 308, 309, 376, 355, 356, 357, 40, 358, 254, 255, 256, 39, 38, 118, 119, 359, 323, 324, 325, 42, 45, 326, 327, 328, 329, 53, 330, 331, 332, 333, 281, 282, 283, 171, 172, 173, 120, 121, 540, 541, 542, 543, 544, 545, 546, 433, 434, 435, 436, 757, 758, 759, 760, 761, 762, 763, 799, 800, 801, 802, 803, 804, 805, 806, 807, 808, 809, 810, 811, 812, 813, 814, 815, 816] (by decide +kernel) (by decide +kernel)
set_option maxRecDepth 20000 in
theorem gL_law_X3_bribe : GoodIn wsL_law (wsV RL 77 RX3 yX3_bribe wsX3_bribe) := goodIn_app (goodIn_of _ (by decide +kernel)) ggL_law_X3_bribe
set_option maxRecDepth 20000 in
theorem ggL_law_X4_bribe : GoodIn wsL_law wsX4_bribe := goodIn_r _ [550, 197, 191, 288, 289, 290, 5, 291, 189, 198, 199, 200, 551, 552, 553, 441, 442, 443, 444, 445, 446, 447, 416, 417, 418, 419, 68, 364, 365, 366, 367, 69, 265, 266, 267, 268, 71, 70, 342, 343, 344, 345, 192, 346, 347, 348, 349, 187, 66, 67, 764, 765, 766, 767, 768, 769, 770, 771, 772, 773, 774, 775, 776, 777, 778, 779, 780, 781, 782, 783, 784, 785, 786, 787, 788, 789, 790, 791, 792, 793, 794, 795] (by decide +kernel) (by decide +kernel)
set_option maxRecDepth 20000 in
theorem gL_law_X4_bribe : GoodIn wsL_law (wsV RL 80 RX4 yX4_bribe wsX4_bribe) := goodIn_app (goodIn_of _ (by decide +kernel)) ggL_law_X4_bribe
set_option maxRecDepth 20000 in
theorem ggL_law_X3_reading : GoodIn wsL_law wsX3_reading := goodIn_r _ [557, 23, 558, 559, 560, 318, 319, 320, 22, 321, 50, 94, 95, 2, 96, 472, 120, 121, 757, 758, 759, 760, 761, 762, 763, 799, 800, 801, 802, 803, 804, 805, 806, 807, 808, 809, 810, 811, 812, 813, 814, 815, 816] (by decide +kernel) (by decide +kernel)
set_option maxRecDepth 20000 in
theorem gL_law_X3_reading : GoodIn wsL_law (wsV RL 81 RX3 yX3_reading wsX3_reading) := goodIn_app (goodIn_of _ (by decide +kernel)) ggL_law_X3_reading
set_option maxRecDepth 20000 in
theorem ggL_law_X4_reading : GoodIn wsL_law wsX4_reading := goodIn_r _ [564, 565, 193, 78, 79, 338, 339, 340, 5, 341, 185, 187, 198, 199, 200, 764, 765, 766, 767, 768, 769, 770, 771, 772, 773, 774, 775, 776, 777, 778, 779, 780, 781, 782, 783, 784, 785, 786, 787, 788, 789, 790, 791, 792, 793, 794, 795] (by decide +kernel) (by decide +kernel)
set_option maxRecDepth 20000 in
theorem gL_law_X4_reading : GoodIn wsL_law (wsV RL 84 RX4 yX4_reading wsX4_reading) := goodIn_app (goodIn_of _ (by decide +kernel)) ggL_law_X4_reading
set_option maxRecDepth 20000 in
theorem ggL_law_X3_back : GoodIn wsL_law wsX3_back := goodIn_r _ [569, 23, 558, 94, 95, 2, 96, 757, 758, 759, 760, 761, 762, 763, 799, 800, 801, 802, 803, 804, 805, 806, 807, 808, 809, 810, 811, 812, 813, 814, 815, 816] (by decide +kernel) (by decide +kernel)
set_option maxRecDepth 20000 in
theorem gL_law_X3_back : GoodIn wsL_law (wsV RL 85 RX3 yX3_back wsX3_back) := goodIn_app (goodIn_of _ (by decide +kernel)) ggL_law_X3_back
set_option maxRecDepth 20000 in
theorem ggL_law_X4_back : GoodIn wsL_law wsX4_back := goodIn_r _ [573, 193, 198, 199, 5, 200, 764, 765, 766, 767, 768, 769, 770, 771, 772, 773, 774, 775, 776, 777, 778, 779, 780, 781, 782, 783, 784, 785, 786, 787, 788, 789, 790, 791, 792, 793, 794, 795] (by decide +kernel) (by decide +kernel)
set_option maxRecDepth 20000 in
theorem gL_law_X4_back : GoodIn wsL_law (wsV RL 88 RX4 yX4_back wsX4_back) := goodIn_app (goodIn_of _ (by decide +kernel)) ggL_law_X4_back
set_option maxRecDepth 20000 in
theorem ggL_law_X3_settings : GoodIn wsL_law wsX3_settings := goodIn_r _ [577, 23, 296, 578, 490, 491, 22, 492, 51, 579, 580, 581, 582, 55, 43, 44, 118, 2, 119, 359, 323, 324, 325, 42, 45, 326, 327, 328, 329, 53, 330, 331, 332, 333, 281, 282, 283, 171, 172, 173, 499, 500, 501, 502, 276, 277, 278, 279, 280, 757, 758, 759, 760, 761, 762, 763, 799, 800, 801, 802, 803, 804, 805, 806, 807, 808, 809, 810, 811, 812, 813, 814, 815, 816] (by decide +kernel) (by decide +kernel)
set_option maxRecDepth 20000 in
theorem gL_law_X3_settings : GoodIn wsL_law (wsV RL 89 RX3 yX3_settings wsX3_settings) := goodIn_app (goodIn_of _ (by decide +kernel)) ggL_law_X3_settings
set_option maxRecDepth 20000 in
theorem ggL_law_X4_settings : GoodIn wsL_law wsX4_settings := goodIn_r _ [586, 185, 395, 396, 397, 5, 398, 189, 68, 512, 513, 514, 515, 399, 400, 401, 402, 587, 588, 589, 590, 193, 78, 79, 342, 343, 344, 345, 192, 346, 347, 348, 349, 187, 66, 67, 288, 289, 290, 291, 198, 199, 200, 520, 521, 522, 523, 764, 765, 766, 767, 768, 769, 770, 771, 772, 773, 774, 775, 776, 777, 778, 779, 780, 781, 782, 783, 784, 785, 786, 787, 788, 789, 790, 791, 792, 793, 794, 795] (by decide +kernel) (by decide +kernel)
set_option maxRecDepth 20000 in
theorem gL_law_X4_settings : GoodIn wsL_law (wsV RL 92 RX4 yX4_settings wsX4_settings) := goodIn_app (goodIn_of _ (by decide +kernel)) ggL_law_X4_settings
set_option maxRecDepth 20000 in
theorem ggL_law_X3_laws : GoodIn wsL_law wsX3_laws := goodIn_r _ [594, 23, 296, 297, 275, 579, 580, 581, 22, 582, 55, 43, 44, 118, 2, 119, 359, 323, 324, 325, 51, 42, 45, 326, 327, 328, 329, 53, 330, 331, 332, 333, 281, 282, 283, 171, 172, 173, 757, 758, 759, 760, 761, 762, 763, 799, 800, 801, 802, 803, 804, 805, 806, 807, 808, 809, 810, 811, 812, 813, 814, 815, 816] (by decide +kernel) (by decide +kernel)
set_option maxRecDepth 20000 in
theorem gL_law_X3_laws : GoodIn wsL_law (wsV RL 93 RX3 yX3_laws wsX3_laws) := goodIn_app (goodIn_of _ (by decide +kernel)) ggL_law_X3_laws
set_option maxRecDepth 20000 in
theorem ggL_law_X4_laws : GoodIn wsL_law wsX4_laws := goodIn_r _ [598, 185, 192, 587, 588, 589, 5, 590, 193, 78, 79, 342, 343, 344, 345, 189, 346, 347, 348, 349, 187, 66, 68, 67, 764, 765, 766, 767, 768, 769, 770, 771, 772, 773, 774, 775, 776, 777, 778, 779, 780, 781, 782, 783, 784, 785, 786, 787, 788, 789, 790, 791, 792, 793, 794, 795] (by decide +kernel) (by decide +kernel)
set_option maxRecDepth 20000 in
theorem gL_law_X4_laws : GoodIn wsL_law (wsV RL 96 RX4 yX4_laws wsX4_laws) := goodIn_app (goodIn_of _ (by decide +kernel)) ggL_law_X4_laws
set_option maxRecDepth 20000 in
theorem ggL_law_X3_powers : GoodIn wsL_law wsX3_powers := goodIn_r _ [602, 23, 274, 275, 276, 277, 278, 22, 279, 51, 252, 118, 2, 119, 472, 120, 121, 579, 580, 581, 582, 55, 43, 44, 359, 323, 324, 325, 42, 45, 326, 327, 328, 329, 53, 330, 331, 332, 333, 281, 282, 283, 171, 172, 173, 757, 758, 759, 760, 761, 762, 763, 799, 800, 801, 802, 803, 804, 805, 806, 807, 808, 809, 810, 811, 812, 813, 814, 815, 816] (by decide +kernel) (by decide +kernel)
set_option maxRecDepth 20000 in
theorem gL_law_X3_powers : GoodIn wsL_law (wsV RL 97 RX3 yX3_powers wsX3_powers) := goodIn_app (goodIn_of _ (by decide +kernel)) ggL_law_X3_powers
set_option maxRecDepth 20000 in
theorem ggL_law_X4_powers : GoodIn wsL_law wsX4_powers := goodIn_r _ [606, 67, 288, 289, 290, 5, 291, 189, 198, 199, 200, 587, 588, 589, 590, 193, 78, 79, 342, 343, 344, 345, 192, 346, 347, 348, 349, 187, 66, 68, 764, 765, 766, 767, 768, 769, 770, 771, 772, 773, 774, 775, 776, 777, 778, 779, 780, 781, 782, 783, 784, 785, 786, 787, 788, 789, 790, 791, 792, 793, 794, 795] (by decide +kernel) (by decide +kernel)
set_option maxRecDepth 20000 in
theorem gL_law_X4_powers : GoodIn wsL_law (wsV RL 100 RX4 yX4_powers wsX4_powers) := goodIn_app (goodIn_of _ (by decide +kernel)) ggL_law_X4_powers
set_option maxRecDepth 20000 in
theorem ggL_law_X3_odds : GoodIn wsL_law wsX3_odds := goodIn_r _ [610, 23, 611, 318, 319, 320, 22, 321, 50, 94, 95, 2, 96, 578, 490, 491, 492, 51, 322, 323, 324, 325, 42, 45, 326, 327, 328, 329, 53, 330, 331, 332, 333, 281, 282, 283, 171, 172, 173, 118, 119, 757, 758, 759, 760, 761, 762, 763, 799, 800, 801, 802, 803, 804, 805, 806, 807, 808, 809, 810, 811, 812, 813, 814, 815, 816] (by decide +kernel) (by decide +kernel)
set_option maxRecDepth 20000 in
theorem gL_law_X3_odds : GoodIn wsL_law (wsV RL 101 RX3 yX3_odds wsX3_odds) := goodIn_app (goodIn_of _ (by decide +kernel)) ggL_law_X3_odds
set_option maxRecDepth 20000 in
theorem ggL_law_X4_odds : GoodIn wsL_law wsX4_odds := goodIn_r _ [615, 565, 338, 339, 340, 5, 341, 185, 187, 198, 199, 200, 616, 617, 618, 619, 395, 396, 397, 398, 189, 68, 512, 513, 514, 515, 399, 400, 401, 402, 342, 343, 344, 345, 192, 346, 347, 348, 349, 66, 67, 620, 621, 622, 764, 765, 766, 767, 768, 769, 770, 771, 772, 773, 774, 775, 776, 777, 778, 779, 780, 781, 782, 783, 784, 785, 786, 787, 788, 789, 790, 791, 792, 793, 794, 795] (by decide +kernel) (by decide +kernel)
set_option maxRecDepth 20000 in
theorem gL_law_X4_odds : GoodIn wsL_law (wsV RL 105 RX4 yX4_odds wsX4_odds) := goodIn_app (goodIn_of _ (by decide +kernel)) ggL_law_X4_odds
set_option maxRecDepth 20000 in
theorem ggL_law_X3_sheet : GoodIn wsL_law wsX3_sheet := goodIn_r _ [626, 26, 90, 91, 92, 2, 93, 13, 94, 95, 96, 109, 110, 111, 112, 627, 628, 629, 28, 630, 60, 61, 59, 631, 469, 470, 471, 757, 758, 759, 760, 761, 762, 763, 817, 818, 819] (by decide +kernel) (by decide +kernel)
set_option maxRecDepth 20000 in
theorem gL_law_X3_sheet : GoodIn wsL_law (wsV RL 106 RX3 yX3_sheet wsX3_sheet) := goodIn_app (goodIn_of _ (by decide +kernel)) ggL_law_X3_sheet
set_option maxRecDepth 20000 in
theorem ggL_law_X4_sheet : GoodIn wsL_law wsX4_sheet := goodIn_r _ [635, 182, 80, 81, 82, 194, 195, 5, 196, 197, 198, 199, 200, 201, 202, 203, 204, 205, 210, 211, 212, 213, 764, 765, 766, 767, 768, 769, 770, 771, 772, 773, 774, 775, 776, 777, 778, 779, 780, 781, 782, 783, 784, 785, 786, 787, 788, 789, 790, 791, 792, 793, 794, 795] (by decide +kernel) (by decide +kernel)
set_option maxRecDepth 20000 in
theorem gL_law_X4_sheet : GoodIn wsL_law (wsV RL 110 RX4 yX4_sheet wsX4_sheet) := goodIn_app (goodIn_of _ (by decide +kernel)) ggL_law_X4_sheet
set_option maxRecDepth 20000 in
theorem ggL_law_X3_lose : GoodIn wsL_law wsX3_lose := goodIn_r _ [639, 90, 91, 92, 2, 93, 13, 640, 102, 103, 28, 104, 60, 627, 628, 629, 630, 61, 59, 631, 469, 470, 471, 757, 758, 759, 760, 761, 762, 763, 817, 818, 819] (by decide +kernel) (by decide +kernel)
set_option maxRecDepth 20000 in
theorem gL_law_X3_lose : GoodIn wsL_law (wsV RL 111 RX3 yX3_lose wsX3_lose) := goodIn_app (goodIn_of _ (by decide +kernel)) ggL_law_X3_lose
set_option maxRecDepth 20000 in
theorem ggL_law_X4_lose : GoodIn wsL_law wsX4_lose := goodIn_r _ [644, 80, 194, 195, 5, 196, 197, 198, 199, 200, 764, 765, 766, 767, 768, 769, 770, 771, 772, 773, 774, 775, 776, 777, 778, 779, 780, 781, 782, 783, 784, 785, 786, 787, 788, 789, 790, 791, 792, 793, 794, 795] (by decide +kernel) (by decide +kernel)
set_option maxRecDepth 20000 in
theorem gL_law_X4_lose : GoodIn wsL_law (wsV RL 114 RX4 yX4_lose wsX4_lose) := goodIn_app (goodIn_of _ (by decide +kernel)) ggL_law_X4_lose
set_option maxRecDepth 20000 in
theorem ggL_law_X3_put : GoodIn wsL_law wsX3_put := goodIn_r _ [648, 26, 649, 390, 90, 91, 92, 2, 93, 13, 97, 98, 99, 28, 100, 60, 101, 102, 103, 104, 105, 106, 107, 108, 61, 109, 110, 111, 112, 650, 651, 652, 653, 472, 120, 121, 757, 758, 759, 760, 761, 762, 763, 817, 818, 819] (by decide +kernel) (by decide +kernel)
set_option maxRecDepth 20000 in
theorem gL_law_X3_put : GoodIn wsL_law (wsV RL 115 RX3 yX3_put wsX3_put) := goodIn_app (goodIn_of _ (by decide +kernel)) ggL_law_X3_put
set_option maxRecDepth 20000 in
theorem ggL_law_X4_put : GoodIn wsL_law wsX4_put := goodIn_r _ [657, 82, 81, 194, 195, 5, 196, 197, 198, 199, 200, 201, 202, 203, 204, 205, 658, 659, 660, 661, 80, 210, 211, 212, 213, 764, 765, 766, 767, 768, 769, 770, 771, 772, 773, 774, 775, 776, 777, 778, 779, 780, 781, 782, 783, 784, 785, 786, 787, 788, 789, 790, 791, 792, 793, 794, 795] (by decide +kernel) (by decide +kernel)
set_option maxRecDepth 20000 in
theorem gL_law_X4_put : GoodIn wsL_law (wsV RL 118 RX4 yX4_put wsX4_put) := goodIn_app (goodIn_of _ (by decide +kernel)) ggL_law_X4_put
set_option maxRecDepth 20000 in
theorem ggL_law_X3_cell : GoodIn wsL_law wsX3_cell := goodIn_r _ [665, 26, 611, 390, 90, 91, 92, 2, 93, 13, 94, 95, 96, 97, 98, 99, 28, 100, 60, 101, 102, 103, 104, 105, 106, 107, 108, 61, 252, 118, 119, 757, 758, 759, 760, 761, 762, 763, 817, 818, 819] (by decide +kernel) (by decide +kernel)
set_option maxRecDepth 20000 in
theorem gL_law_X3_cell : GoodIn wsL_law (wsV RL 119 RX3 yX3_cell wsX3_cell) := goodIn_app (goodIn_of _ (by decide +kernel)) ggL_law_X3_cell
set_option maxRecDepth 20000 in
theorem ggL_law_X4_cell : GoodIn wsL_law wsX4_cell := goodIn_r _ [669, 205, 182, 80, 81, 82, 194, 195, 5, 196, 197, 198, 199, 200, 616, 617, 618, 619, 670, 671, 672, 673, 658, 659, 660, 661, 764, 765, 766, 767, 768, 769, 770, 771, 772, 773, 774, 775, 776, 777, 778, 779, 780, 781, 782, 783, 784, 785, 786, 787, 788, 789, 790, 791, 792, 793, 794, 795] (by decide +kernel) (by decide +kernel)
set_option maxRecDepth 20000 in
theorem gL_law_X4_cell : GoodIn wsL_law (wsV RL 122 RX4 yX4_cell wsX4_cell) := goodIn_app (goodIn_of _ (by decide +kernel)) ggL_law_X4_cell
set_option maxRecDepth 20000 in
theorem ggL_law_X3_copy : GoodIn wsL_law wsX3_copy := goodIn_r _ [677, 26, 649, 390, 678, 679, 680, 681, 90, 91, 92, 2, 93, 13, 640, 102, 103, 28, 104, 60, 109, 110, 111, 112, 682, 106, 107, 108, 61, 757, 758, 759, 760, 761, 762, 763, 817, 818, 819] (by decide +kernel) (by decide +kernel)
set_option maxRecDepth 20000 in
theorem gL_law_X3_copy : GoodIn wsL_law (wsV RL 123 RX3 yX3_copy wsX3_copy) := goodIn_app (goodIn_of _ (by decide +kernel)) ggL_law_X3_copy
set_option maxRecDepth 20000 in
theorem ggL_law_X4_copy : GoodIn wsL_law wsX4_copy := goodIn_r _ [686, 80, 81, 83, 82, 194, 195, 5, 196, 197, 198, 199, 200, 201, 202, 203, 204, 205, 210, 211, 212, 213, 214, 215, 216, 764, 765, 766, 767, 768, 769, 770, 771, 772, 773, 774, 775, 776, 777, 778, 779, 780, 781, 782, 783, 784, 785, 786, 787, 788, 789, 790, 791, 792, 793, 794, 795] (by decide +kernel) (by decide +kernel)
set_option maxRecDepth 20000 in
theorem gL_law_X4_copy : GoodIn wsL_law (wsV RL 127 RX4 yX4_copy wsX4_copy) := goodIn_app (goodIn_of _ (by decide +kernel)) ggL_law_X4_copy
set_option maxRecDepth 20000 in
theorem ggL_law_X3_tell : GoodIn wsL_law wsX3_tell := goodIn_r _ [690, 23, 245, 248, 249, 250, 22, 251, 52, 252, 118, 2, 119, 691, 692, 693, 694, 695, 696, 697, 698, 25, 699, 700, 701, 702, 703, 704, 705, 706, 246, 757, 758, 759, 760, 761, 762, 763, 799, 800, 801, 802, 803, 804, 805, 806, 807, 808, 809, 810, 811, 812, 813, 814, 815, 816] (by decide +kernel) (by decide +kernel)
set_option maxRecDepth 20000 in
theorem gL_law_X3_tell : GoodIn wsL_law (wsV RL 128 RX3 yX3_tell wsX3_tell) := goodIn_app (goodIn_of _ (by decide +kernel)) ggL_law_X3_tell
set_option maxRecDepth 20000 in
theorem ggL_law_X4_tell : GoodIn wsL_law wsX4_tell := goodIn_r _ [710, 70, 71, 261, 262, 263, 5, 264, 191, 198, 199, 200, 711, 712, 713, 714, 715, 764, 765, 766, 767, 768, 769, 770, 771, 772, 773, 774, 775, 776, 777, 778, 779, 780, 781, 782, 783, 784, 785, 786, 787, 788, 789, 790, 791, 792, 793, 794, 795] (by decide +kernel) (by decide +kernel)
set_option maxRecDepth 20000 in
theorem gL_law_X4_tell : GoodIn wsL_law (wsV RL 131 RX4 yX4_tell wsX4_tell) := goodIn_app (goodIn_of _ (by decide +kernel)) ggL_law_X4_tell
set_option maxRecDepth 20000 in
theorem ggL_law_X3_woo : GoodIn wsL_law wsX3_woo := goodIn_r _ [719, 23, 245, 248, 249, 250, 22, 251, 52, 252, 118, 2, 119, 695, 696, 697, 698, 25, 757, 758, 759, 760, 761, 762, 763, 799, 800, 801, 802, 803, 804, 805, 806, 807, 808, 809, 810, 811, 812, 813, 814, 815, 816] (by decide +kernel) (by decide +kernel)
set_option maxRecDepth 20000 in
theorem gL_law_X3_woo : GoodIn wsL_law (wsV RL 132 RX3 yX3_woo wsX3_woo) := goodIn_app (goodIn_of _ (by decide +kernel)) ggL_law_X3_woo
set_option maxRecDepth 20000 in
theorem ggL_law_X4_woo : GoodIn wsL_law wsX4_woo := goodIn_r _ [723, 70, 261, 262, 263, 5, 264, 191, 198, 199, 200, 711, 712, 713, 714, 715, 764, 765, 766, 767, 768, 769, 770, 771, 772, 773, 774, 775, 776, 777, 778, 779, 780, 781, 782, 783, 784, 785, 786, 787, 788, 789, 790, 791, 792, 793, 794, 795] (by decide +kernel) (by decide +kernel)
set_option maxRecDepth 20000 in
theorem gL_law_X4_woo : GoodIn wsL_law (wsV RL 135 RX4 yX4_woo wsX4_woo) := goodIn_app (goodIn_of _ (by decide +kernel)) ggL_law_X4_woo
set_option maxRecDepth 20000 in
theorem ggL_law_X3_as : GoodIn wsL_law wsX3_as := goodIn_r _ [727, 26, 23, 245, 248, 249, 250, 22, 251, 52, 94, 95, 2, 96, 252, 118, 119, 109, 110, 111, 112, 757, 758, 759, 760, 761, 762, 763, 799, 800, 801, 802, 803, 804, 805, 806, 807, 808, 809, 810, 811, 812, 813, 814, 815, 816] (by decide +kernel) (by decide +kernel)
set_option maxRecDepth 20000 in
theorem gL_law_X3_as : GoodIn wsL_law (wsV RL 136 RX3 yX3_as wsX3_as) := goodIn_app (goodIn_of _ (by decide +kernel)) ggL_law_X3_as
set_option maxRecDepth 20000 in
theorem ggL_law_X4_as : GoodIn wsL_law wsX4_as := goodIn_r _ [731, 182, 70, 261, 262, 263, 5, 264, 191, 198, 199, 200, 201, 202, 203, 204, 205, 210, 211, 212, 213, 764, 765, 766, 767, 768, 769, 770, 771, 772, 773, 774, 775, 776, 777, 778, 779, 780, 781, 782, 783, 784, 785, 786, 787, 788, 789, 790, 791, 792, 793, 794, 795] (by decide +kernel) (by decide +kernel)
set_option maxRecDepth 20000 in
theorem gL_law_X4_as : GoodIn wsL_law (wsV RL 139 RX4 yX4_as wsX4_as) := goodIn_app (goodIn_of _ (by decide +kernel)) ggL_law_X4_as
set_option maxRecDepth 20000 in
theorem ggL_law_X3_trace : GoodIn wsL_law wsX3_trace := goodIn_r _ [735, 25, 757, 758, 759, 760, 761, 762, 763] (by decide +kernel) (by decide +kernel)
set_option maxRecDepth 20000 in
theorem gL_law_X3_trace : GoodIn wsL_law (wsV RL 140 RX3 yX3_trace wsX3_trace) := goodIn_app (goodIn_of _ (by decide +kernel)) ggL_law_X3_trace
set_option maxRecDepth 20000 in
theorem ggL_law_X4_trace : GoodIn wsL_law wsX4_trace := goodIn_r _ [739, 715, 764, 765, 766, 767, 768, 769, 770, 771, 772, 773, 774, 775, 776, 777, 778, 779, 780, 781, 782, 783, 784, 785, 786, 787, 788, 789, 790, 791, 792, 793, 794, 795] (by decide +kernel) (by decide +kernel)
set_option maxRecDepth 20000 in
theorem gL_law_X4_trace : GoodIn wsL_law (wsV RL 143 RX4 yX4_trace wsX4_trace) := goodIn_app (goodIn_of _ (by decide +kernel)) ggL_law_X4_trace
set_option maxRecDepth 20000 in
theorem ggL_law_X3_fault : GoodIn wsL_law wsX3_fault := goodIn_r _ [743, 26, 757, 758, 759, 760, 761, 762, 763] (by decide +kernel) (by decide +kernel)
set_option maxRecDepth 20000 in
theorem gL_law_X3_fault : GoodIn wsL_law (wsV RL 144 RX3 yX3_fault wsX3_fault) := goodIn_app (goodIn_of _ (by decide +kernel)) ggL_law_X3_fault
set_option maxRecDepth 20000 in
theorem ggL_law_X4_fault : GoodIn wsL_law wsX4_fault := goodIn_r _ [747, 205, 764, 765, 766, 767, 768, 769, 770, 771, 772, 773, 774, 775, 776, 777, 778, 779, 780, 781, 782, 783, 784, 785, 786, 787, 788, 789, 790, 791, 792, 793, 794, 795] (by decide +kernel) (by decide +kernel)
set_option maxRecDepth 20000 in
theorem gL_law_X4_fault : GoodIn wsL_law (wsV RL 147 RX4 yX4_fault wsX4_fault) := goodIn_app (goodIn_of _ (by decide +kernel)) ggL_law_X4_fault
set_option maxRecDepth 20000 in
theorem ggL_law_X3_many : GoodIn wsL_law wsX3_many := goodIn_r _ [751, 23, 752, 389, 89, 297, 558, 757, 758, 759, 760, 761, 762, 763, 799, 800, 801, 802, 803, 804, 805, 806, 807, 808, 809, 810, 811, 812, 813, 814, 815, 816] (by decide +kernel) (by decide +kernel)
set_option maxRecDepth 20000 in
theorem gL_law_X3_many : GoodIn wsL_law (wsV RL 148 RX3 yX3_many wsX3_many) := goodIn_app (goodIn_of _ (by decide +kernel)) ggL_law_X3_many
set_option maxRecDepth 20000 in
theorem ggL_law_X4_many : GoodIn wsL_law wsX4_many := goodIn_r _ [756, 185, 187, 189, 191, 192, 193, 764, 765, 766, 767, 768, 769, 770, 771, 772, 773, 774, 775, 776, 777, 778, 779, 780, 781, 782, 783, 784, 785, 786, 787, 788, 789, 790, 791, 792, 793, 794, 795] (by decide +kernel) (by decide +kernel)
set_option maxRecDepth 20000 in
theorem gL_law_X4_many : GoodIn wsL_law (wsV RL 151 RX4 yX4_many wsX4_many) := goodIn_app (goodIn_of _ (by decide +kernel)) ggL_law_X4_many
