theorem dX4_init_0 : decode cX4_init 0 = .ok (.aload_n 0, 1) := by decide +kernel
theorem dX4_init_1 : decode cX4_init 1 = .ok (.invokespecial 1, 3) := by decide +kernel
theorem dX4_init_4 : decode cX4_init 4 = .ok (.aload_n 0, 1) := by decide +kernel
theorem dX4_init_5 : decode cX4_init 5 = .ok (.iconst 4, 1) := by decide +kernel
theorem dX4_init_6 : decode cX4_init 6 = .ok (.newarray .int, 2) := by decide +kernel
theorem dX4_init_8 : decode cX4_init 8 = .ok (.putfield 7, 3) := by decide +kernel
theorem dX4_init_11 : decode cX4_init 11 = .ok (.aload_n 0, 1) := by decide +kernel
theorem dX4_init_12 : decode cX4_init 12 = .ok (.iconst 4, 1) := by decide +kernel
theorem dX4_init_13 : decode cX4_init 13 = .ok (.newarray .int, 2) := by decide +kernel
theorem dX4_init_15 : decode cX4_init 15 = .ok (.putfield 13, 3) := by decide +kernel
theorem dX4_init_18 : decode cX4_init 18 = .ok (.aload_n 0, 1) := by decide +kernel
theorem dX4_init_19 : decode cX4_init 19 = .ok (.iconst 4, 1) := by decide +kernel
theorem dX4_init_20 : decode cX4_init 20 = .ok (.newarray .int, 2) := by decide +kernel
theorem dX4_init_22 : decode cX4_init 22 = .ok (.putfield 16, 3) := by decide +kernel
theorem dX4_init_25 : decode cX4_init 25 = .ok (.aload_n 0, 1) := by decide +kernel
theorem dX4_init_26 : decode cX4_init 26 = .ok (.bipush 6, 2) := by decide +kernel
theorem dX4_init_28 : decode cX4_init 28 = .ok (.newarray .int, 2) := by decide +kernel
theorem dX4_init_30 : decode cX4_init 30 = .ok (.putfield 19, 3) := by decide +kernel
theorem dX4_init_33 : decode cX4_init 33 = .ok (.aload_n 0, 1) := by decide +kernel
theorem dX4_init_34 : decode cX4_init 34 = .ok (.bipush 6, 2) := by decide +kernel
theorem dX4_init_36 : decode cX4_init 36 = .ok (.newarray .int, 2) := by decide +kernel
theorem dX4_init_38 : decode cX4_init 38 = .ok (.putfield 22, 3) := by decide +kernel
theorem dX4_init_41 : decode cX4_init 41 = .ok (.aload_n 0, 1) := by decide +kernel
theorem dX4_init_42 : decode cX4_init 42 = .ok (.bipush 6, 2) := by decide +kernel
theorem dX4_init_44 : decode cX4_init 44 = .ok (.newarray .int, 2) := by decide +kernel
theorem dX4_init_46 : decode cX4_init 46 = .ok (.putfield 25, 3) := by decide +kernel
theorem dX4_init_49 : decode cX4_init 49 = .ok (.aload_n 0, 1) := by decide +kernel
theorem dX4_init_50 : decode cX4_init 50 = .ok (.iconst 4, 1) := by decide +kernel
theorem dX4_init_51 : decode cX4_init 51 = .ok (.newarray .int, 2) := by decide +kernel
theorem dX4_init_53 : decode cX4_init 53 = .ok (.putfield 28, 3) := by decide +kernel
theorem dX4_init_56 : decode cX4_init 56 = .ok (.aload_n 0, 1) := by decide +kernel
theorem dX4_init_57 : decode cX4_init 57 = .ok (.iconst 4, 1) := by decide +kernel
theorem dX4_init_58 : decode cX4_init 58 = .ok (.newarray .int, 2) := by decide +kernel
theorem dX4_init_60 : decode cX4_init 60 = .ok (.putfield 31, 3) := by decide +kernel
theorem dX4_init_63 : decode cX4_init 63 = .ok (.aload_n 0, 1) := by decide +kernel
theorem dX4_init_64 : decode cX4_init 64 = .ok (.bipush 6, 2) := by decide +kernel
theorem dX4_init_66 : decode cX4_init 66 = .ok (.newarray .int, 2) := by decide +kernel
theorem dX4_init_68 : decode cX4_init 68 = .ok (.putfield 34, 3) := by decide +kernel
theorem dX4_init_71 : decode cX4_init 71 = .ok (.aload_n 0, 1) := by decide +kernel
theorem dX4_init_72 : decode cX4_init 72 = .ok (.bipush 6, 2) := by decide +kernel
theorem dX4_init_74 : decode cX4_init 74 = .ok (.newarray .int, 2) := by decide +kernel
theorem dX4_init_76 : decode cX4_init 76 = .ok (.putfield 37, 3) := by decide +kernel
theorem dX4_init_79 : decode cX4_init 79 = .ok (.aload_n 0, 1) := by decide +kernel
theorem dX4_init_80 : decode cX4_init 80 = .ok (.bipush 6, 2) := by decide +kernel
theorem dX4_init_82 : decode cX4_init 82 = .ok (.newarray .int, 2) := by decide +kernel
theorem dX4_init_84 : decode cX4_init 84 = .ok (.putfield 40, 3) := by decide +kernel
theorem dX4_init_87 : decode cX4_init 87 = .ok (.aload_n 0, 1) := by decide +kernel
theorem dX4_init_88 : decode cX4_init 88 = .ok (.sipush 256, 3) := by decide +kernel
theorem dX4_init_91 : decode cX4_init 91 = .ok (.newarray .int, 2) := by decide +kernel
theorem dX4_init_93 : decode cX4_init 93 = .ok (.putfield 43, 3) := by decide +kernel
theorem dX4_init_96 : decode cX4_init 96 = .ok (.aload_n 0, 1) := by decide +kernel
theorem dX4_init_97 : decode cX4_init 97 = .ok (.bipush 8, 2) := by decide +kernel
theorem dX4_init_99 : decode cX4_init 99 = .ok (.newarray .int, 2) := by decide +kernel
theorem dX4_init_101 : decode cX4_init 101 = .ok (.putfield 46, 3) := by decide +kernel
theorem dX4_init_104 : decode cX4_init 104 = .ok (.aload_n 0, 1) := by decide +kernel
theorem dX4_init_105 : decode cX4_init 105 = .ok (.bipush 8, 2) := by decide +kernel
theorem dX4_init_107 : decode cX4_init 107 = .ok (.newarray .int, 2) := by decide +kernel
theorem dX4_init_109 : decode cX4_init 109 = .ok (.putfield 49, 3) := by decide +kernel
theorem dX4_init_112 : decode cX4_init 112 = .ok (.aload_n 0, 1) := by decide +kernel
theorem dX4_init_113 : decode cX4_init 113 = .ok (.iconst 4, 1) := by decide +kernel
theorem dX4_init_114 : decode cX4_init 114 = .ok (.newarray .int, 2) := by decide +kernel
theorem dX4_init_116 : decode cX4_init 116 = .ok (.putfield 52, 3) := by decide +kernel
theorem dX4_init_119 : decode cX4_init 119 = .ok (.aload_n 0, 1) := by decide +kernel
theorem dX4_init_120 : decode cX4_init 120 = .ok (.iconst 4, 1) := by decide +kernel
theorem dX4_init_121 : decode cX4_init 121 = .ok (.newarray .int, 2) := by decide +kernel
theorem dX4_init_123 : decode cX4_init 123 = .ok (.putfield 55, 3) := by decide +kernel
theorem dX4_init_126 : decode cX4_init 126 = .ok (.aload_n 0, 1) := by decide +kernel
theorem dX4_init_127 : decode cX4_init 127 = .ok (.sipush 240, 3) := by decide +kernel
theorem dX4_init_130 : decode cX4_init 130 = .ok (.newarray .int, 2) := by decide +kernel
theorem dX4_init_132 : decode cX4_init 132 = .ok (.putfield 58, 3) := by decide +kernel
theorem dX4_init_135 : decode cX4_init 135 = .ok (.aload_n 0, 1) := by decide +kernel
theorem dX4_init_136 : decode cX4_init 136 = .ok (.bipush 60, 2) := by decide +kernel
theorem dX4_init_138 : decode cX4_init 138 = .ok (.newarray .int, 2) := by decide +kernel
theorem dX4_init_140 : decode cX4_init 140 = .ok (.putfield 61, 3) := by decide +kernel
theorem dX4_init_143 : decode cX4_init 143 = .ok (.iconst 0, 1) := by decide +kernel
theorem dX4_init_144 : decode cX4_init 144 = .ok (.istore_n 1, 1) := by decide +kernel
theorem dX4_init_145 : decode cX4_init 145 = .ok (.iload_n 1, 1) := by decide +kernel
theorem dX4_init_146 : decode cX4_init 146 = .ok (.iconst 4, 1) := by decide +kernel
theorem dX4_init_147 : decode cX4_init 147 = .ok (.if_icmp .ge 16, 3) := by decide +kernel
theorem dX4_init_150 : decode cX4_init 150 = .ok (.aload_n 0, 1) := by decide +kernel
theorem dX4_init_151 : decode cX4_init 151 = .ok (.getfield 52, 3) := by decide +kernel
theorem dX4_init_154 : decode cX4_init 154 = .ok (.iload_n 1, 1) := by decide +kernel
theorem dX4_init_155 : decode cX4_init 155 = .ok (.iconst (-1), 1) := by decide +kernel
theorem dX4_init_156 : decode cX4_init 156 = .ok (.iastore, 1) := by decide +kernel
theorem dX4_init_157 : decode cX4_init 157 = .ok (.iinc 1 1, 3) := by decide +kernel
theorem dX4_init_160 : decode cX4_init 160 = .ok (.goto (-15), 3) := by decide +kernel
theorem dX4_init_163 : decode cX4_init 163 = .ok (.return_, 1) := by decide +kernel
theorem dX4_in_0 : decode cX4_in 0 = .ok (.lload_n 0, 1) := by decide +kernel
theorem dX4_in_1 : decode cX4_in 1 = .ok (.lload_n 2, 1) := by decide +kernel
theorem dX4_in_2 : decode cX4_in 2 = .ok (.lcmp, 1) := by decide +kernel
theorem dX4_in_3 : decode cX4_in 3 = .ok (.ifCond .lt 14, 3) := by decide +kernel
theorem dX4_in_6 : decode cX4_in 6 = .ok (.lload_n 0, 1) := by decide +kernel
theorem dX4_in_7 : decode cX4_in 7 = .ok (.lload 4, 2) := by decide +kernel
theorem dX4_in_9 : decode cX4_in 9 = .ok (.lcmp, 1) := by decide +kernel
theorem dX4_in_10 : decode cX4_in 10 = .ok (.ifCond .gt 7, 3) := by decide +kernel
theorem dX4_in_13 : decode cX4_in 13 = .ok (.iconst 1, 1) := by decide +kernel
theorem dX4_in_14 : decode cX4_in 14 = .ok (.goto 4, 3) := by decide +kernel
theorem dX4_in_17 : decode cX4_in 17 = .ok (.iconst 0, 1) := by decide +kernel
theorem dX4_in_18 : decode cX4_in 18 = .ok (.ireturn, 1) := by decide +kernel
theorem dX4_lost_0 : decode cX4_lost 0 = .ok (.ldc2_w 64, 3) := by decide +kernel
theorem dX4_lost_3 : decode cX4_lost 3 = .ok (.lreturn, 1) := by decide +kernel
theorem dX4_isIn_0 : decode cX4_isIn 0 = .ok (.iload_n 0, 1) := by decide +kernel
theorem dX4_isIn_1 : decode cX4_isIn 1 = .ok (.iload_n 1, 1) := by decide +kernel
theorem dX4_isIn_2 : decode cX4_isIn 2 = .ok (.ishr, 1) := by decide +kernel
theorem dX4_isIn_3 : decode cX4_isIn 3 = .ok (.iconst 1, 1) := by decide +kernel
theorem dX4_isIn_4 : decode cX4_isIn 4 = .ok (.iand, 1) := by decide +kernel
theorem dX4_isIn_5 : decode cX4_isIn 5 = .ok (.iconst 1, 1) := by decide +kernel
theorem dX4_isIn_6 : decode cX4_isIn 6 = .ok (.if_icmp .ne 7, 3) := by decide +kernel
theorem dX4_isIn_9 : decode cX4_isIn 9 = .ok (.iconst 1, 1) := by decide +kernel
theorem dX4_isIn_10 : decode cX4_isIn 10 = .ok (.goto 4, 3) := by decide +kernel
theorem dX4_isIn_13 : decode cX4_isIn 13 = .ok (.iconst 0, 1) := by decide +kernel
theorem dX4_isIn_14 : decode cX4_isIn 14 = .ok (.ireturn, 1) := by decide +kernel
theorem dX4_bits_0 : decode cX4_bits 0 = .ok (.iconst 0, 1) := by decide +kernel
theorem dX4_bits_1 : decode cX4_bits 1 = .ok (.istore_n 1, 1) := by decide +kernel
theorem dX4_bits_2 : decode cX4_bits 2 = .ok (.iload_n 0, 1) := by decide +kernel
theorem dX4_bits_3 : decode cX4_bits 3 = .ok (.istore_n 2, 1) := by decide +kernel
theorem dX4_bits_4 : decode cX4_bits 4 = .ok (.iload_n 2, 1) := by decide +kernel
theorem dX4_bits_5 : decode cX4_bits 5 = .ok (.ifCond .le 16, 3) := by decide +kernel
theorem dX4_bits_8 : decode cX4_bits 8 = .ok (.iload_n 1, 1) := by decide +kernel
theorem dX4_bits_9 : decode cX4_bits 9 = .ok (.iload_n 2, 1) := by decide +kernel
theorem dX4_bits_10 : decode cX4_bits 10 = .ok (.iconst 1, 1) := by decide +kernel
theorem dX4_bits_11 : decode cX4_bits 11 = .ok (.iand, 1) := by decide +kernel
theorem dX4_bits_12 : decode cX4_bits 12 = .ok (.iadd, 1) := by decide +kernel
theorem dX4_bits_13 : decode cX4_bits 13 = .ok (.istore_n 1, 1) := by decide +kernel
theorem dX4_bits_14 : decode cX4_bits 14 = .ok (.iload_n 2, 1) := by decide +kernel
theorem dX4_bits_15 : decode cX4_bits 15 = .ok (.iconst 1, 1) := by decide +kernel
theorem dX4_bits_16 : decode cX4_bits 16 = .ok (.ishr, 1) := by decide +kernel
theorem dX4_bits_17 : decode cX4_bits 17 = .ok (.istore_n 2, 1) := by decide +kernel
theorem dX4_bits_18 : decode cX4_bits 18 = .ok (.goto (-14), 3) := by decide +kernel
theorem dX4_bits_21 : decode cX4_bits 21 = .ok (.iload_n 1, 1) := by decide +kernel
theorem dX4_bits_22 : decode cX4_bits 22 = .ok (.ireturn, 1) := by decide +kernel
theorem dX4_share_0 : decode cX4_share 0 = .ok (.lload_n 0, 1) := by decide +kernel
theorem dX4_share_1 : decode cX4_share 1 = .ok (.lstore 5, 2) := by decide +kernel
theorem dX4_share_3 : decode cX4_share 3 = .ok (.lload_n 2, 1) := by decide +kernel
theorem dX4_share_4 : decode cX4_share 4 = .ok (.lstore 7, 2) := by decide +kernel
theorem dX4_share_6 : decode cX4_share 6 = .ok (.lload 7, 2) := by decide +kernel
theorem dX4_share_8 : decode cX4_share 8 = .ok (.lconst 0, 1) := by decide +kernel
theorem dX4_share_9 : decode cX4_share 9 = .ok (.lcmp, 1) := by decide +kernel
theorem dX4_share_10 : decode cX4_share 10 = .ok (.ifCond .eq 21, 3) := by decide +kernel
theorem dX4_share_13 : decode cX4_share 13 = .ok (.lload 5, 2) := by decide +kernel
theorem dX4_share_15 : decode cX4_share 15 = .ok (.lload 7, 2) := by decide +kernel
theorem dX4_share_17 : decode cX4_share 17 = .ok (.lrem, 1) := by decide +kernel
theorem dX4_share_18 : decode cX4_share 18 = .ok (.lstore 9, 2) := by decide +kernel
theorem dX4_share_20 : decode cX4_share 20 = .ok (.lload 7, 2) := by decide +kernel
theorem dX4_share_22 : decode cX4_share 22 = .ok (.lstore 5, 2) := by decide +kernel
theorem dX4_share_24 : decode cX4_share 24 = .ok (.lload 9, 2) := by decide +kernel
theorem dX4_share_26 : decode cX4_share 26 = .ok (.lstore 7, 2) := by decide +kernel
theorem dX4_share_28 : decode cX4_share 28 = .ok (.goto (-22), 3) := by decide +kernel
theorem dX4_share_31 : decode cX4_share 31 = .ok (.iload 4, 2) := by decide +kernel
theorem dX4_share_33 : decode cX4_share 33 = .ok (.ifCond .ne 7, 3) := by decide +kernel
theorem dX4_share_36 : decode cX4_share 36 = .ok (.lload_n 0, 1) := by decide +kernel
theorem dX4_share_37 : decode cX4_share 37 = .ok (.goto 4, 3) := by decide +kernel
theorem dX4_share_40 : decode cX4_share 40 = .ok (.lload_n 2, 1) := by decide +kernel
theorem dX4_share_41 : decode cX4_share 41 = .ok (.lload 5, 2) := by decide +kernel
theorem dX4_share_43 : decode cX4_share 43 = .ok (.ldiv, 1) := by decide +kernel
theorem dX4_share_44 : decode cX4_share 44 = .ok (.lreturn, 1) := by decide +kernel
theorem dX4_refused_0 : decode cX4_refused 0 = .ok (.aload_n 0, 1) := by decide +kernel
theorem dX4_refused_1 : decode cX4_refused 1 = .ok (.iconst 0, 1) := by decide +kernel
theorem dX4_refused_2 : decode cX4_refused 2 = .ok (.putfield 66, 3) := by decide +kernel
theorem dX4_refused_5 : decode cX4_refused 5 = .ok (.iload_n 1, 1) := by decide +kernel
theorem dX4_refused_6 : decode cX4_refused 6 = .ok (.ireturn, 1) := by decide +kernel
theorem dX4_failed_0 : decode cX4_failed 0 = .ok (.aload_n 0, 1) := by decide +kernel
theorem dX4_failed_1 : decode cX4_failed 1 = .ok (.iload_n 1, 1) := by decide +kernel
theorem dX4_failed_2 : decode cX4_failed 2 = .ok (.putfield 66, 3) := by decide +kernel
theorem dX4_failed_5 : decode cX4_failed 5 = .ok (.bipush (-10), 2) := by decide +kernel
theorem dX4_failed_7 : decode cX4_failed 7 = .ok (.iload_n 1, 1) := by decide +kernel
theorem dX4_failed_8 : decode cX4_failed 8 = .ok (.isub, 1) := by decide +kernel
theorem dX4_failed_9 : decode cX4_failed 9 = .ok (.ireturn, 1) := by decide +kernel
set_option maxRecDepth 20000 in
theorem ggX4_failedLong_X4_lost : GoodIn wsX4_failedLong wsX4_lost := goodIn_r _ [5, 6] (by decide +kernel) (by decide +kernel)
set_option maxRecDepth 20000 in
theorem gX4_failedLong_X4_lost : GoodIn wsX4_failedLong (va_wsS RX4 70 yX4_lost wsX4_lost) := goodIn_app (goodIn_of _ (by decide +kernel)) ggX4_failedLong_X4_lost
theorem dX4_failedLong_0 : decode cX4_failedLong 0 = .ok (.aload_n 0, 1) := by decide +kernel
theorem dX4_failedLong_1 : decode cX4_failedLong 1 = .ok (.iload_n 1, 1) := by decide +kernel
theorem dX4_failedLong_2 : decode cX4_failedLong 2 = .ok (.putfield 66, 3) := by decide +kernel
theorem dX4_failedLong_5 : decode cX4_failedLong 5 = .ok (.invokestatic 70, 3) := by decide +kernel
theorem dX4_failedLong_8 : decode cX4_failedLong 8 = .ok (.lreturn, 1) := by decide +kernel
set_option maxRecDepth 20000 in
theorem ggX4_noSpot_X4_in : GoodIn wsX4_noSpot wsX4_in := goodIn_r _ [6] (by decide +kernel) (by decide +kernel)
set_option maxRecDepth 20000 in
theorem gX4_noSpot_X4_in : GoodIn wsX4_noSpot (va_wsS RX4 80 yX4_in wsX4_in) := goodIn_app (goodIn_of _ (by decide +kernel)) ggX4_noSpot_X4_in
theorem dX4_noSpot_0 : decode cX4_noSpot 0 = .ok (.iload_n 1, 1) := by decide +kernel
theorem dX4_noSpot_1 : decode cX4_noSpot 1 = .ok (.i2l, 1) := by decide +kernel
theorem dX4_noSpot_2 : decode cX4_noSpot 2 = .ok (.lconst 0, 1) := by decide +kernel
theorem dX4_noSpot_3 : decode cX4_noSpot 3 = .ok (.aload_n 0, 1) := by decide +kernel
theorem dX4_noSpot_4 : decode cX4_noSpot 4 = .ok (.getfield 74, 3) := by decide +kernel
theorem dX4_noSpot_7 : decode cX4_noSpot 7 = .ok (.aload_n 0, 1) := by decide +kernel
theorem dX4_noSpot_8 : decode cX4_noSpot 8 = .ok (.getfield 77, 3) := by decide +kernel
theorem dX4_noSpot_11 : decode cX4_noSpot 11 = .ok (.imul, 1) := by decide +kernel
theorem dX4_noSpot_12 : decode cX4_noSpot 12 = .ok (.i2l, 1) := by decide +kernel
theorem dX4_noSpot_13 : decode cX4_noSpot 13 = .ok (.lconst 1, 1) := by decide +kernel
theorem dX4_noSpot_14 : decode cX4_noSpot 14 = .ok (.lsub, 1) := by decide +kernel
theorem dX4_noSpot_15 : decode cX4_noSpot 15 = .ok (.invokestatic 80, 3) := by decide +kernel
theorem dX4_noSpot_18 : decode cX4_noSpot 18 = .ok (.ifCond .ne 7, 3) := by decide +kernel
theorem dX4_noSpot_21 : decode cX4_noSpot 21 = .ok (.iconst 1, 1) := by decide +kernel
theorem dX4_noSpot_22 : decode cX4_noSpot 22 = .ok (.goto 4, 3) := by decide +kernel
theorem dX4_noSpot_25 : decode cX4_noSpot 25 = .ok (.iconst 0, 1) := by decide +kernel
theorem dX4_noSpot_26 : decode cX4_noSpot 26 = .ok (.ireturn, 1) := by decide +kernel
set_option maxRecDepth 20000 in
theorem ggX4_noWork_X4_in : GoodIn wsX4_noWork wsX4_in := goodIn_r _ [5] (by decide +kernel) (by decide +kernel)
set_option maxRecDepth 20000 in
theorem gX4_noWork_X4_in : GoodIn wsX4_noWork (va_wsS RX4 80 yX4_in wsX4_in) := goodIn_app (goodIn_of _ (by decide +kernel)) ggX4_noWork_X4_in
theorem dX4_noWork_0 : decode cX4_noWork 0 = .ok (.iload_n 1, 1) := by decide +kernel
theorem dX4_noWork_1 : decode cX4_noWork 1 = .ok (.i2l, 1) := by decide +kernel
theorem dX4_noWork_2 : decode cX4_noWork 2 = .ok (.lconst 0, 1) := by decide +kernel
theorem dX4_noWork_3 : decode cX4_noWork 3 = .ok (.aload_n 0, 1) := by decide +kernel
theorem dX4_noWork_4 : decode cX4_noWork 4 = .ok (.getfield 84, 3) := by decide +kernel
theorem dX4_noWork_7 : decode cX4_noWork 7 = .ok (.i2l, 1) := by decide +kernel
theorem dX4_noWork_8 : decode cX4_noWork 8 = .ok (.lconst 1, 1) := by decide +kernel
theorem dX4_noWork_9 : decode cX4_noWork 9 = .ok (.lsub, 1) := by decide +kernel
theorem dX4_noWork_10 : decode cX4_noWork 10 = .ok (.invokestatic 80, 3) := by decide +kernel
theorem dX4_noWork_13 : decode cX4_noWork 13 = .ok (.ifCond .ne 7, 3) := by decide +kernel
theorem dX4_noWork_16 : decode cX4_noWork 16 = .ok (.iconst 1, 1) := by decide +kernel
theorem dX4_noWork_17 : decode cX4_noWork 17 = .ok (.goto 4, 3) := by decide +kernel
theorem dX4_noWork_20 : decode cX4_noWork 20 = .ok (.iconst 0, 1) := by decide +kernel
theorem dX4_noWork_21 : decode cX4_noWork 21 = .ok (.ireturn, 1) := by decide +kernel
set_option maxRecDepth 20000 in
theorem ggX4_noWard_X4_in : GoodIn wsX4_noWard wsX4_in := goodIn_r _ [5] (by decide +kernel) (by decide +kernel)
set_option maxRecDepth 20000 in
theorem gX4_noWard_X4_in : GoodIn wsX4_noWard (va_wsS RX4 80 yX4_in wsX4_in) := goodIn_app (goodIn_of _ (by decide +kernel)) ggX4_noWard_X4_in
theorem dX4_noWard_0 : decode cX4_noWard 0 = .ok (.iload_n 1, 1) := by decide +kernel
theorem dX4_noWard_1 : decode cX4_noWard 1 = .ok (.i2l, 1) := by decide +kernel
theorem dX4_noWard_2 : decode cX4_noWard 2 = .ok (.lconst 0, 1) := by decide +kernel
theorem dX4_noWard_3 : decode cX4_noWard 3 = .ok (.aload_n 0, 1) := by decide +kernel
theorem dX4_noWard_4 : decode cX4_noWard 4 = .ok (.getfield 87, 3) := by decide +kernel
theorem dX4_noWard_7 : decode cX4_noWard 7 = .ok (.i2l, 1) := by decide +kernel
theorem dX4_noWard_8 : decode cX4_noWard 8 = .ok (.lconst 1, 1) := by decide +kernel
theorem dX4_noWard_9 : decode cX4_noWard 9 = .ok (.lsub, 1) := by decide +kernel
theorem dX4_noWard_10 : decode cX4_noWard 10 = .ok (.invokestatic 80, 3) := by decide +kernel
theorem dX4_noWard_13 : decode cX4_noWard 13 = .ok (.ifCond .ne 7, 3) := by decide +kernel
theorem dX4_noWard_16 : decode cX4_noWard 16 = .ok (.iconst 1, 1) := by decide +kernel
theorem dX4_noWard_17 : decode cX4_noWard 17 = .ok (.goto 4, 3) := by decide +kernel
theorem dX4_noWard_20 : decode cX4_noWard 20 = .ok (.iconst 0, 1) := by decide +kernel
theorem dX4_noWard_21 : decode cX4_noWard 21 = .ok (.ireturn, 1) := by decide +kernel
theorem dX4_codeAt_0 : decode cX4_codeAt 0 = .ok (.aload_n 0, 1) := by decide +kernel
theorem dX4_codeAt_1 : decode cX4_codeAt 1 = .ok (.getfield 90, 3) := by decide +kernel
theorem dX4_codeAt_4 : decode cX4_codeAt 4 = .ok (.iload_n 2, 1) := by decide +kernel
theorem dX4_codeAt_5 : decode cX4_codeAt 5 = .ok (.if_icmp .ge 17, 3) := by decide +kernel
theorem dX4_codeAt_8 : decode cX4_codeAt 8 = .ok (.aload_n 0, 1) := by decide +kernel
theorem dX4_codeAt_9 : decode cX4_codeAt 9 = .ok (.getfield 58, 3) := by decide +kernel
theorem dX4_codeAt_12 : decode cX4_codeAt 12 = .ok (.iload_n 1, 1) := by decide +kernel
theorem dX4_codeAt_13 : decode cX4_codeAt 13 = .ok (.aload_n 0, 1) := by decide +kernel
theorem dX4_codeAt_14 : decode cX4_codeAt 14 = .ok (.getfield 90, 3) := by decide +kernel
theorem dX4_codeAt_17 : decode cX4_codeAt 17 = .ok (.iadd, 1) := by decide +kernel
theorem dX4_codeAt_18 : decode cX4_codeAt 18 = .ok (.iaload, 1) := by decide +kernel
theorem dX4_codeAt_19 : decode cX4_codeAt 19 = .ok (.goto 5, 3) := by decide +kernel
theorem dX4_codeAt_22 : decode cX4_codeAt 22 = .ok (.bipush (-9), 2) := by decide +kernel
theorem dX4_codeAt_24 : decode cX4_codeAt 24 = .ok (.ireturn, 1) := by decide +kernel
set_option maxRecDepth 20000 in
theorem ggX4_figure_X4_codeAt : GoodIn wsX4_figure wsX4_codeAt := goodIn_r _ [6, 1, 7, 11, 12, 13, 14, 15, 16, 17, 18, 19, 20, 21, 22, 23, 24, 25, 26, 27, 28, 29, 30, 31, 32, 33, 34, 35, 36, 37, 38, 39, 40, 41, 42] (by decide +kernel) (by decide +kernel)
set_option maxRecDepth 20000 in
theorem gX4_figure_X4_codeAt : GoodIn wsX4_figure (wsV RX4 93 RX4 yX4_codeAt wsX4_codeAt) := goodIn_app (goodIn_of _ (by decide +kernel)) ggX4_figure_X4_codeAt
set_option maxRecDepth 20000 in
theorem ggX4_figure_X4_in : GoodIn wsX4_figure wsX4_in := goodIn_r _ [10] (by decide +kernel) (by decide +kernel)
set_option maxRecDepth 20000 in
theorem gX4_figure_X4_in : GoodIn wsX4_figure (va_wsS RX4 80 yX4_in wsX4_in) := goodIn_app (goodIn_of _ (by decide +kernel)) ggX4_figure_X4_in
theorem dX4_figure_0 : decode cX4_figure 0 = .ok (.aload_n 0, 1) := by decide +kernel
theorem dX4_figure_1 : decode cX4_figure 1 = .ok (.iload_n 1, 1) := by decide +kernel
theorem dX4_figure_2 : decode cX4_figure 2 = .ok (.iload_n 2, 1) := by decide +kernel
theorem dX4_figure_3 : decode cX4_figure 3 = .ok (.invokevirtual 93, 3) := by decide +kernel
theorem dX4_figure_6 : decode cX4_figure 6 = .ok (.bipush 48, 2) := by decide +kernel
theorem dX4_figure_8 : decode cX4_figure 8 = .ok (.isub, 1) := by decide +kernel
theorem dX4_figure_9 : decode cX4_figure 9 = .ok (.istore 5, 2) := by decide +kernel
theorem dX4_figure_11 : decode cX4_figure 11 = .ok (.iload 5, 2) := by decide +kernel
theorem dX4_figure_13 : decode cX4_figure 13 = .ok (.i2l, 1) := by decide +kernel
theorem dX4_figure_14 : decode cX4_figure 14 = .ok (.iload_n 3, 1) := by decide +kernel
theorem dX4_figure_15 : decode cX4_figure 15 = .ok (.i2l, 1) := by decide +kernel
theorem dX4_figure_16 : decode cX4_figure 16 = .ok (.iload 4, 2) := by decide +kernel
theorem dX4_figure_18 : decode cX4_figure 18 = .ok (.i2l, 1) := by decide +kernel
theorem dX4_figure_19 : decode cX4_figure 19 = .ok (.invokestatic 80, 3) := by decide +kernel
theorem dX4_figure_22 : decode cX4_figure 22 = .ok (.istore 6, 2) := by decide +kernel
theorem dX4_figure_24 : decode cX4_figure 24 = .ok (.aload_n 0, 1) := by decide +kernel
theorem dX4_figure_25 : decode cX4_figure 25 = .ok (.dup, 1) := by decide +kernel
theorem dX4_figure_26 : decode cX4_figure 26 = .ok (.getfield 90, 3) := by decide +kernel
theorem dX4_figure_29 : decode cX4_figure 29 = .ok (.iload 6, 2) := by decide +kernel
theorem dX4_figure_31 : decode cX4_figure 31 = .ok (.ifCond .eq 7, 3) := by decide +kernel
theorem dX4_figure_34 : decode cX4_figure 34 = .ok (.iconst 1, 1) := by decide +kernel
theorem dX4_figure_35 : decode cX4_figure 35 = .ok (.goto 4, 3) := by decide +kernel
theorem dX4_figure_38 : decode cX4_figure 38 = .ok (.iconst 0, 1) := by decide +kernel
theorem dX4_figure_39 : decode cX4_figure 39 = .ok (.iadd, 1) := by decide +kernel
theorem dX4_figure_40 : decode cX4_figure 40 = .ok (.putfield 90, 3) := by decide +kernel
theorem dX4_figure_43 : decode cX4_figure 43 = .ok (.iload 6, 2) := by decide +kernel
theorem dX4_figure_45 : decode cX4_figure 45 = .ok (.ifCond .eq 8, 3) := by decide +kernel
theorem dX4_figure_48 : decode cX4_figure 48 = .ok (.iload 5, 2) := by decide +kernel
theorem dX4_figure_50 : decode cX4_figure 50 = .ok (.goto 5, 3) := by decide +kernel
theorem dX4_figure_53 : decode cX4_figure 53 = .ok (.bipush (-9), 2) := by decide +kernel
theorem dX4_figure_55 : decode cX4_figure 55 = .ok (.ireturn, 1) := by decide +kernel
set_option maxRecDepth 20000 in
theorem ggX4_readsWork_X4_figure : GoodIn wsX4_readsWork wsX4_figure := goodIn_r _ [9, 2, 10, 11, 12, 8, 13, 14, 15, 16, 17, 18, 19, 20, 21, 22, 23, 24, 25, 26, 27, 28, 29, 30, 31, 32, 33, 34, 35, 36, 37, 38, 39, 40, 41, 42, 43, 44, 45, 46, 47, 48, 49] (by decide +kernel) (by decide +kernel)
set_option maxRecDepth 20000 in
theorem gX4_readsWork_X4_figure : GoodIn wsX4_readsWork (wsV RX4 100 RX4 yX4_figure wsX4_figure) := goodIn_app (goodIn_of _ (by decide +kernel)) ggX4_readsWork_X4_figure
theorem dX4_readsWork_0 : decode cX4_readsWork 0 = .ok (.aload_n 0, 1) := by decide +kernel
theorem dX4_readsWork_1 : decode cX4_readsWork 1 = .ok (.getfield 97, 3) := by decide +kernel
theorem dX4_readsWork_4 : decode cX4_readsWork 4 = .ok (.iconst 4, 1) := by decide +kernel
theorem dX4_readsWork_5 : decode cX4_readsWork 5 = .ok (.if_icmp .ne 5, 3) := by decide +kernel
theorem dX4_readsWork_8 : decode cX4_readsWork 8 = .ok (.iconst 0, 1) := by decide +kernel
theorem dX4_readsWork_9 : decode cX4_readsWork 9 = .ok (.ireturn, 1) := by decide +kernel
theorem dX4_readsWork_10 : decode cX4_readsWork 10 = .ok (.aload_n 0, 1) := by decide +kernel
theorem dX4_readsWork_11 : decode cX4_readsWork 11 = .ok (.dup, 1) := by decide +kernel
theorem dX4_readsWork_12 : decode cX4_readsWork 12 = .ok (.getfield 90, 3) := by decide +kernel
theorem dX4_readsWork_15 : decode cX4_readsWork 15 = .ok (.iconst 1, 1) := by decide +kernel
theorem dX4_readsWork_16 : decode cX4_readsWork 16 = .ok (.iadd, 1) := by decide +kernel
theorem dX4_readsWork_17 : decode cX4_readsWork 17 = .ok (.putfield 90, 3) := by decide +kernel
theorem dX4_readsWork_20 : decode cX4_readsWork 20 = .ok (.aload_n 0, 1) := by decide +kernel
theorem dX4_readsWork_21 : decode cX4_readsWork 21 = .ok (.iload_n 1, 1) := by decide +kernel
theorem dX4_readsWork_22 : decode cX4_readsWork 22 = .ok (.iload_n 2, 1) := by decide +kernel
theorem dX4_readsWork_23 : decode cX4_readsWork 23 = .ok (.iconst 1, 1) := by decide +kernel
theorem dX4_readsWork_24 : decode cX4_readsWork 24 = .ok (.bipush 9, 2) := by decide +kernel
theorem dX4_readsWork_26 : decode cX4_readsWork 26 = .ok (.invokevirtual 100, 3) := by decide +kernel
theorem dX4_readsWork_29 : decode cX4_readsWork 29 = .ok (.istore 4, 2) := by decide +kernel
theorem dX4_readsWork_31 : decode cX4_readsWork 31 = .ok (.iload 4, 2) := by decide +kernel
theorem dX4_readsWork_33 : decode cX4_readsWork 33 = .ok (.ifCond .ge 5, 3) := by decide +kernel
theorem dX4_readsWork_36 : decode cX4_readsWork 36 = .ok (.iconst 0, 1) := by decide +kernel
theorem dX4_readsWork_37 : decode cX4_readsWork 37 = .ok (.ireturn, 1) := by decide +kernel
theorem dX4_readsWork_38 : decode cX4_readsWork 38 = .ok (.aload_n 0, 1) := by decide +kernel
theorem dX4_readsWork_39 : decode cX4_readsWork 39 = .ok (.getfield 28, 3) := by decide +kernel
theorem dX4_readsWork_42 : decode cX4_readsWork 42 = .ok (.aload_n 0, 1) := by decide +kernel
theorem dX4_readsWork_43 : decode cX4_readsWork 43 = .ok (.getfield 97, 3) := by decide +kernel
theorem dX4_readsWork_46 : decode cX4_readsWork 46 = .ok (.iload_n 3, 1) := by decide +kernel
theorem dX4_readsWork_47 : decode cX4_readsWork 47 = .ok (.iastore, 1) := by decide +kernel
theorem dX4_readsWork_48 : decode cX4_readsWork 48 = .ok (.aload_n 0, 1) := by decide +kernel
theorem dX4_readsWork_49 : decode cX4_readsWork 49 = .ok (.getfield 31, 3) := by decide +kernel
theorem dX4_readsWork_52 : decode cX4_readsWork 52 = .ok (.aload_n 0, 1) := by decide +kernel
theorem dX4_readsWork_53 : decode cX4_readsWork 53 = .ok (.getfield 97, 3) := by decide +kernel
theorem dX4_readsWork_56 : decode cX4_readsWork 56 = .ok (.iload 4, 2) := by decide +kernel
theorem dX4_readsWork_58 : decode cX4_readsWork 58 = .ok (.iastore, 1) := by decide +kernel
theorem dX4_readsWork_59 : decode cX4_readsWork 59 = .ok (.aload_n 0, 1) := by decide +kernel
theorem dX4_readsWork_60 : decode cX4_readsWork 60 = .ok (.dup, 1) := by decide +kernel
theorem dX4_readsWork_61 : decode cX4_readsWork 61 = .ok (.getfield 97, 3) := by decide +kernel
theorem dX4_readsWork_64 : decode cX4_readsWork 64 = .ok (.iconst 1, 1) := by decide +kernel
theorem dX4_readsWork_65 : decode cX4_readsWork 65 = .ok (.iadd, 1) := by decide +kernel
theorem dX4_readsWork_66 : decode cX4_readsWork 66 = .ok (.putfield 97, 3) := by decide +kernel
theorem dX4_readsWork_69 : decode cX4_readsWork 69 = .ok (.iconst 1, 1) := by decide +kernel
theorem dX4_readsWork_70 : decode cX4_readsWork 70 = .ok (.ireturn, 1) := by decide +kernel
set_option maxRecDepth 20000 in
theorem ggX4_readsWard_X4_figure : GoodIn wsX4_readsWard wsX4_figure := goodIn_r _ [10, 2, 11, 12, 13, 9, 14, 15, 16, 17, 18, 19, 20, 21, 22, 23, 24, 25, 26, 27, 28, 29, 30, 31, 32, 33, 34, 35, 36, 37, 38, 39, 40, 41, 42, 43, 44, 45, 46, 47, 48, 49, 50] (by decide +kernel) (by decide +kernel)
set_option maxRecDepth 20000 in
theorem gX4_readsWard_X4_figure : GoodIn wsX4_readsWard (wsV RX4 100 RX4 yX4_figure wsX4_figure) := goodIn_app (goodIn_of _ (by decide +kernel)) ggX4_readsWard_X4_figure
theorem dX4_readsWard_0 : decode cX4_readsWard 0 = .ok (.aload_n 0, 1) := by decide +kernel
theorem dX4_readsWard_1 : decode cX4_readsWard 1 = .ok (.getfield 104, 3) := by decide +kernel
theorem dX4_readsWard_4 : decode cX4_readsWard 4 = .ok (.bipush 6, 2) := by decide +kernel
theorem dX4_readsWard_6 : decode cX4_readsWard 6 = .ok (.if_icmp .ne 5, 3) := by decide +kernel
theorem dX4_readsWard_9 : decode cX4_readsWard 9 = .ok (.iconst 0, 1) := by decide +kernel
theorem dX4_readsWard_10 : decode cX4_readsWard 10 = .ok (.ireturn, 1) := by decide +kernel
theorem dX4_readsWard_11 : decode cX4_readsWard 11 = .ok (.aload_n 0, 1) := by decide +kernel
theorem dX4_readsWard_12 : decode cX4_readsWard 12 = .ok (.dup, 1) := by decide +kernel
theorem dX4_readsWard_13 : decode cX4_readsWard 13 = .ok (.getfield 90, 3) := by decide +kernel
theorem dX4_readsWard_16 : decode cX4_readsWard 16 = .ok (.iconst 1, 1) := by decide +kernel
theorem dX4_readsWard_17 : decode cX4_readsWard 17 = .ok (.iadd, 1) := by decide +kernel
theorem dX4_readsWard_18 : decode cX4_readsWard 18 = .ok (.putfield 90, 3) := by decide +kernel
theorem dX4_readsWard_21 : decode cX4_readsWard 21 = .ok (.aload_n 0, 1) := by decide +kernel
theorem dX4_readsWard_22 : decode cX4_readsWard 22 = .ok (.iload_n 1, 1) := by decide +kernel
theorem dX4_readsWard_23 : decode cX4_readsWard 23 = .ok (.iload_n 2, 1) := by decide +kernel
theorem dX4_readsWard_24 : decode cX4_readsWard 24 = .ok (.iconst 1, 1) := by decide +kernel
theorem dX4_readsWard_25 : decode cX4_readsWard 25 = .ok (.bipush 9, 2) := by decide +kernel
theorem dX4_readsWard_27 : decode cX4_readsWard 27 = .ok (.invokevirtual 100, 3) := by decide +kernel
theorem dX4_readsWard_30 : decode cX4_readsWard 30 = .ok (.istore 5, 2) := by decide +kernel
theorem dX4_readsWard_32 : decode cX4_readsWard 32 = .ok (.iload 5, 2) := by decide +kernel
theorem dX4_readsWard_34 : decode cX4_readsWard 34 = .ok (.ifCond .ge 5, 3) := by decide +kernel
theorem dX4_readsWard_37 : decode cX4_readsWard 37 = .ok (.iconst 0, 1) := by decide +kernel
theorem dX4_readsWard_38 : decode cX4_readsWard 38 = .ok (.ireturn, 1) := by decide +kernel
theorem dX4_readsWard_39 : decode cX4_readsWard 39 = .ok (.aload_n 0, 1) := by decide +kernel
theorem dX4_readsWard_40 : decode cX4_readsWard 40 = .ok (.getfield 34, 3) := by decide +kernel
theorem dX4_readsWard_43 : decode cX4_readsWard 43 = .ok (.aload_n 0, 1) := by decide +kernel
theorem dX4_readsWard_44 : decode cX4_readsWard 44 = .ok (.getfield 104, 3) := by decide +kernel
theorem dX4_readsWard_47 : decode cX4_readsWard 47 = .ok (.iload_n 3, 1) := by decide +kernel
theorem dX4_readsWard_48 : decode cX4_readsWard 48 = .ok (.iastore, 1) := by decide +kernel
theorem dX4_readsWard_49 : decode cX4_readsWard 49 = .ok (.aload_n 0, 1) := by decide +kernel
theorem dX4_readsWard_50 : decode cX4_readsWard 50 = .ok (.getfield 37, 3) := by decide +kernel
theorem dX4_readsWard_53 : decode cX4_readsWard 53 = .ok (.aload_n 0, 1) := by decide +kernel
theorem dX4_readsWard_54 : decode cX4_readsWard 54 = .ok (.getfield 104, 3) := by decide +kernel
theorem dX4_readsWard_57 : decode cX4_readsWard 57 = .ok (.iload 4, 2) := by decide +kernel
theorem dX4_readsWard_59 : decode cX4_readsWard 59 = .ok (.iastore, 1) := by decide +kernel
theorem dX4_readsWard_60 : decode cX4_readsWard 60 = .ok (.aload_n 0, 1) := by decide +kernel
theorem dX4_readsWard_61 : decode cX4_readsWard 61 = .ok (.getfield 40, 3) := by decide +kernel
theorem dX4_readsWard_64 : decode cX4_readsWard 64 = .ok (.aload_n 0, 1) := by decide +kernel
theorem dX4_readsWard_65 : decode cX4_readsWard 65 = .ok (.getfield 104, 3) := by decide +kernel
theorem dX4_readsWard_68 : decode cX4_readsWard 68 = .ok (.iload 5, 2) := by decide +kernel
theorem dX4_readsWard_70 : decode cX4_readsWard 70 = .ok (.iastore, 1) := by decide +kernel
theorem dX4_readsWard_71 : decode cX4_readsWard 71 = .ok (.aload_n 0, 1) := by decide +kernel
theorem dX4_readsWard_72 : decode cX4_readsWard 72 = .ok (.dup, 1) := by decide +kernel
theorem dX4_readsWard_73 : decode cX4_readsWard 73 = .ok (.getfield 104, 3) := by decide +kernel
theorem dX4_readsWard_76 : decode cX4_readsWard 76 = .ok (.iconst 1, 1) := by decide +kernel
theorem dX4_readsWard_77 : decode cX4_readsWard 77 = .ok (.iadd, 1) := by decide +kernel
theorem dX4_readsWard_78 : decode cX4_readsWard 78 = .ok (.putfield 104, 3) := by decide +kernel
theorem dX4_readsWard_81 : decode cX4_readsWard 81 = .ok (.iconst 1, 1) := by decide +kernel
theorem dX4_readsWard_82 : decode cX4_readsWard 82 = .ok (.ireturn, 1) := by decide +kernel
set_option maxRecDepth 20000 in
theorem ggX4_readsSpot_X4_codeAt : GoodIn wsX4_readsSpot wsX4_codeAt := goodIn_r _ [7, 2, 8, 31, 32, 33, 34, 35, 36, 37, 38, 39, 40, 41, 42, 43, 44, 45, 46, 47, 48, 49, 50, 51, 52, 53, 54, 55, 56, 57, 58, 59, 60, 61, 62] (by decide +kernel) (by decide +kernel)
set_option maxRecDepth 20000 in
theorem gX4_readsSpot_X4_codeAt : GoodIn wsX4_readsSpot (wsV RX4 93 RX4 yX4_codeAt wsX4_codeAt) := goodIn_app (goodIn_of _ (by decide +kernel)) ggX4_readsSpot_X4_codeAt
set_option maxRecDepth 20000 in
theorem ggX4_readsSpot_X4_readsWork : GoodIn wsX4_readsSpot wsX4_readsWork := goodIn_r _ [12, 13, 2, 14, 15, 16, 17, 18, 6, 19, 3, 4, 5, 7, 8, 20, 21, 22, 31, 32, 33, 34, 35, 36, 37, 38, 39, 40, 41, 42, 43, 44, 45, 46, 47, 48, 49, 50, 51, 52, 53, 54, 55, 56, 57, 58, 59, 60, 61, 62] (by decide +kernel) (by decide +kernel)
set_option maxRecDepth 20000 in
theorem gX4_readsSpot_X4_readsWork : GoodIn wsX4_readsSpot (wsV RX4 110 RX4 yX4_readsWork wsX4_readsWork) := goodIn_app (goodIn_of _ (by decide +kernel)) ggX4_readsSpot_X4_readsWork
set_option maxRecDepth 20000 in
theorem ggX4_readsSpot_X4_readsWard : GoodIn wsX4_readsSpot wsX4_readsWard := goodIn_r _ [26, 27, 2, 28, 29, 30, 16, 17, 18, 6, 19, 3, 4, 5, 7, 8, 20, 21, 22, 31, 32, 33, 34, 35, 36, 37, 38, 39, 40, 41, 42, 43, 44, 45, 46, 47, 48, 49, 50, 51, 52, 53, 54, 55, 56, 57, 58, 59, 60, 61, 62] (by decide +kernel) (by decide +kernel)
set_option maxRecDepth 20000 in
theorem gX4_readsSpot_X4_readsWard : GoodIn wsX4_readsSpot (wsV RX4 114 RX4 yX4_readsWard wsX4_readsWard) := goodIn_app (goodIn_of _ (by decide +kernel)) ggX4_readsSpot_X4_readsWard
theorem dX4_readsSpot_0 : decode cX4_readsSpot 0 = .ok (.iload_n 3, 1) := by decide +kernel
theorem dX4_readsSpot_1 : decode cX4_readsSpot 1 = .ok (.aload_n 0, 1) := by decide +kernel
theorem dX4_readsSpot_2 : decode cX4_readsSpot 2 = .ok (.getfield 107, 3) := by decide +kernel
theorem dX4_readsSpot_5 : decode cX4_readsSpot 5 = .ok (.irem, 1) := by decide +kernel
theorem dX4_readsSpot_6 : decode cX4_readsSpot 6 = .ok (.ifCond .ne 26, 3) := by decide +kernel
theorem dX4_readsSpot_9 : decode cX4_readsSpot 9 = .ok (.aload_n 0, 1) := by decide +kernel
theorem dX4_readsSpot_10 : decode cX4_readsSpot 10 = .ok (.iload_n 1, 1) := by decide +kernel
theorem dX4_readsSpot_11 : decode cX4_readsSpot 11 = .ok (.iload_n 2, 1) := by decide +kernel
theorem dX4_readsSpot_12 : decode cX4_readsSpot 12 = .ok (.invokevirtual 93, 3) := by decide +kernel
theorem dX4_readsSpot_15 : decode cX4_readsSpot 15 = .ok (.bipush 59, 2) := by decide +kernel
theorem dX4_readsSpot_17 : decode cX4_readsSpot 17 = .ok (.if_icmp .eq 5, 3) := by decide +kernel
theorem dX4_readsSpot_20 : decode cX4_readsSpot 20 = .ok (.iconst 0, 1) := by decide +kernel
theorem dX4_readsSpot_21 : decode cX4_readsSpot 21 = .ok (.ireturn, 1) := by decide +kernel
theorem dX4_readsSpot_22 : decode cX4_readsSpot 22 = .ok (.aload_n 0, 1) := by decide +kernel
theorem dX4_readsSpot_23 : decode cX4_readsSpot 23 = .ok (.dup, 1) := by decide +kernel
theorem dX4_readsSpot_24 : decode cX4_readsSpot 24 = .ok (.getfield 90, 3) := by decide +kernel
theorem dX4_readsSpot_27 : decode cX4_readsSpot 27 = .ok (.iconst 1, 1) := by decide +kernel
theorem dX4_readsSpot_28 : decode cX4_readsSpot 28 = .ok (.iadd, 1) := by decide +kernel
theorem dX4_readsSpot_29 : decode cX4_readsSpot 29 = .ok (.putfield 90, 3) := by decide +kernel
theorem dX4_readsSpot_32 : decode cX4_readsSpot 32 = .ok (.aload_n 0, 1) := by decide +kernel
theorem dX4_readsSpot_33 : decode cX4_readsSpot 33 = .ok (.iload_n 1, 1) := by decide +kernel
theorem dX4_readsSpot_34 : decode cX4_readsSpot 34 = .ok (.iload_n 2, 1) := by decide +kernel
theorem dX4_readsSpot_35 : decode cX4_readsSpot 35 = .ok (.invokevirtual 93, 3) := by decide +kernel
theorem dX4_readsSpot_38 : decode cX4_readsSpot 38 = .ok (.lookupswitch 97 #[(46, 50), (102, 88), (114, 79), (119, 70), (120, 62)], 50) := by decide +kernel
theorem dX4_readsSpot_88 : decode cX4_readsSpot 88 = .ok (.aload_n 0, 1) := by decide +kernel
theorem dX4_readsSpot_89 : decode cX4_readsSpot 89 = .ok (.dup, 1) := by decide +kernel
theorem dX4_readsSpot_90 : decode cX4_readsSpot 90 = .ok (.getfield 90, 3) := by decide +kernel
theorem dX4_readsSpot_93 : decode cX4_readsSpot 93 = .ok (.iconst 1, 1) := by decide +kernel
theorem dX4_readsSpot_94 : decode cX4_readsSpot 94 = .ok (.iadd, 1) := by decide +kernel
theorem dX4_readsSpot_95 : decode cX4_readsSpot 95 = .ok (.putfield 90, 3) := by decide +kernel
theorem dX4_readsSpot_98 : decode cX4_readsSpot 98 = .ok (.iconst 1, 1) := by decide +kernel
theorem dX4_readsSpot_99 : decode cX4_readsSpot 99 = .ok (.ireturn, 1) := by decide +kernel
theorem dX4_readsSpot_100 : decode cX4_readsSpot 100 = .ok (.aload_n 0, 1) := by decide +kernel
theorem dX4_readsSpot_101 : decode cX4_readsSpot 101 = .ok (.iload_n 1, 1) := by decide +kernel
theorem dX4_readsSpot_102 : decode cX4_readsSpot 102 = .ok (.iload_n 2, 1) := by decide +kernel
theorem dX4_readsSpot_103 : decode cX4_readsSpot 103 = .ok (.iload_n 3, 1) := by decide +kernel
theorem dX4_readsSpot_104 : decode cX4_readsSpot 104 = .ok (.invokevirtual 110, 3) := by decide +kernel
theorem dX4_readsSpot_107 : decode cX4_readsSpot 107 = .ok (.ireturn, 1) := by decide +kernel
theorem dX4_readsSpot_108 : decode cX4_readsSpot 108 = .ok (.aload_n 0, 1) := by decide +kernel
theorem dX4_readsSpot_109 : decode cX4_readsSpot 109 = .ok (.iload_n 1, 1) := by decide +kernel
theorem dX4_readsSpot_110 : decode cX4_readsSpot 110 = .ok (.iload_n 2, 1) := by decide +kernel
theorem dX4_readsSpot_111 : decode cX4_readsSpot 111 = .ok (.iload_n 3, 1) := by decide +kernel
theorem dX4_readsSpot_112 : decode cX4_readsSpot 112 = .ok (.iconst 0, 1) := by decide +kernel
theorem dX4_readsSpot_113 : decode cX4_readsSpot 113 = .ok (.invokevirtual 114, 3) := by decide +kernel
theorem dX4_readsSpot_116 : decode cX4_readsSpot 116 = .ok (.ireturn, 1) := by decide +kernel
theorem dX4_readsSpot_117 : decode cX4_readsSpot 117 = .ok (.aload_n 0, 1) := by decide +kernel
theorem dX4_readsSpot_118 : decode cX4_readsSpot 118 = .ok (.iload_n 1, 1) := by decide +kernel
theorem dX4_readsSpot_119 : decode cX4_readsSpot 119 = .ok (.iload_n 2, 1) := by decide +kernel
theorem dX4_readsSpot_120 : decode cX4_readsSpot 120 = .ok (.iload_n 3, 1) := by decide +kernel
theorem dX4_readsSpot_121 : decode cX4_readsSpot 121 = .ok (.iconst 1, 1) := by decide +kernel
theorem dX4_readsSpot_122 : decode cX4_readsSpot 122 = .ok (.invokevirtual 114, 3) := by decide +kernel
theorem dX4_readsSpot_125 : decode cX4_readsSpot 125 = .ok (.ireturn, 1) := by decide +kernel
theorem dX4_readsSpot_126 : decode cX4_readsSpot 126 = .ok (.aload_n 0, 1) := by decide +kernel
theorem dX4_readsSpot_127 : decode cX4_readsSpot 127 = .ok (.iload_n 1, 1) := by decide +kernel
theorem dX4_readsSpot_128 : decode cX4_readsSpot 128 = .ok (.iload_n 2, 1) := by decide +kernel
theorem dX4_readsSpot_129 : decode cX4_readsSpot 129 = .ok (.iload_n 3, 1) := by decide +kernel
theorem dX4_readsSpot_130 : decode cX4_readsSpot 130 = .ok (.iconst 2, 1) := by decide +kernel
theorem dX4_readsSpot_131 : decode cX4_readsSpot 131 = .ok (.invokevirtual 114, 3) := by decide +kernel
theorem dX4_readsSpot_134 : decode cX4_readsSpot 134 = .ok (.ireturn, 1) := by decide +kernel
theorem dX4_readsSpot_135 : decode cX4_readsSpot 135 = .ok (.iconst 0, 1) := by decide +kernel
theorem dX4_readsSpot_136 : decode cX4_readsSpot 136 = .ok (.ireturn, 1) := by decide +kernel
set_option maxRecDepth 20000 in
theorem ggX4_readsTown_X4_codeAt : GoodIn wsX4_readsTown wsX4_codeAt := goodIn_r _ [10, 1, 11, 36, 37, 38, 39, 40, 41, 42, 43, 44, 45, 46, 47, 48, 49, 50, 51, 52, 53, 54, 55, 56, 57, 58, 59, 60, 61, 62, 63, 64, 65, 66, 67] (by decide +kernel) (by decide +kernel)
set_option maxRecDepth 20000 in
theorem gX4_readsTown_X4_codeAt : GoodIn wsX4_readsTown (wsV RX4 93 RX4 yX4_codeAt wsX4_codeAt) := goodIn_app (goodIn_of _ (by decide +kernel)) ggX4_readsTown_X4_codeAt
set_option maxRecDepth 20000 in
theorem ggX4_readsTown_X4_figure : GoodIn wsX4_readsTown wsX4_figure := goodIn_r _ [15, 1, 6, 7, 8, 9, 10, 11, 16, 17, 18, 36, 37, 38, 39, 40, 41, 42, 43, 44, 45, 46, 47, 48, 49, 50, 51, 52, 53, 54, 55, 56, 57, 58, 59, 60, 61, 62, 63, 64, 65, 66, 67] (by decide +kernel) (by decide +kernel)
set_option maxRecDepth 20000 in
theorem gX4_readsTown_X4_figure : GoodIn wsX4_readsTown (wsV RX4 100 RX4 yX4_figure wsX4_figure) := goodIn_app (goodIn_of _ (by decide +kernel)) ggX4_readsTown_X4_figure
set_option maxRecDepth 20000 in
theorem ggX4_readsTown_X4_readsSpot : GoodIn wsX4_readsTown wsX4_readsSpot := goodIn_r _ [22, 5, 1, 6, 7, 8, 9, 10, 11, 23, 24, 25, 26, 2, 27, 28, 12, 13, 14, 15, 16, 17, 18, 29, 30, 31, 32, 3, 33, 34, 35, 36, 37, 38, 39, 40, 41, 42, 43, 44, 45, 46, 47, 48, 49, 50, 51, 52, 53, 54, 55, 56, 57, 58, 59, 60, 61, 62, 63, 64, 65, 66, 67] (by decide +kernel) (by decide +kernel)
set_option maxRecDepth 20000 in
theorem gX4_readsTown_X4_readsSpot : GoodIn wsX4_readsTown (wsV RX4 121 RX4 yX4_readsSpot wsX4_readsSpot) := goodIn_app (goodIn_of _ (by decide +kernel)) ggX4_readsTown_X4_readsSpot
theorem dX4_readsTown_0 : decode cX4_readsTown 0 = .ok (.aload_n 0, 1) := by decide +kernel
theorem dX4_readsTown_1 : decode cX4_readsTown 1 = .ok (.iconst 0, 1) := by decide +kernel
theorem dX4_readsTown_2 : decode cX4_readsTown 2 = .ok (.putfield 90, 3) := by decide +kernel
theorem dX4_readsTown_5 : decode cX4_readsTown 5 = .ok (.aload_n 0, 1) := by decide +kernel
theorem dX4_readsTown_6 : decode cX4_readsTown 6 = .ok (.iconst 0, 1) := by decide +kernel
theorem dX4_readsTown_7 : decode cX4_readsTown 7 = .ok (.putfield 97, 3) := by decide +kernel
theorem dX4_readsTown_10 : decode cX4_readsTown 10 = .ok (.aload_n 0, 1) := by decide +kernel
theorem dX4_readsTown_11 : decode cX4_readsTown 11 = .ok (.iconst 0, 1) := by decide +kernel
theorem dX4_readsTown_12 : decode cX4_readsTown 12 = .ok (.putfield 104, 3) := by decide +kernel
theorem dX4_readsTown_15 : decode cX4_readsTown 15 = .ok (.aload_n 0, 1) := by decide +kernel
theorem dX4_readsTown_16 : decode cX4_readsTown 16 = .ok (.iload_n 1, 1) := by decide +kernel
theorem dX4_readsTown_17 : decode cX4_readsTown 17 = .ok (.iload_n 2, 1) := by decide +kernel
theorem dX4_readsTown_18 : decode cX4_readsTown 18 = .ok (.invokevirtual 93, 3) := by decide +kernel
theorem dX4_readsTown_21 : decode cX4_readsTown 21 = .ok (.bipush 116, 2) := by decide +kernel
theorem dX4_readsTown_23 : decode cX4_readsTown 23 = .ok (.if_icmp .ne 7, 3) := by decide +kernel
theorem dX4_readsTown_26 : decode cX4_readsTown 26 = .ok (.iconst 1, 1) := by decide +kernel
theorem dX4_readsTown_27 : decode cX4_readsTown 27 = .ok (.goto 4, 3) := by decide +kernel
theorem dX4_readsTown_30 : decode cX4_readsTown 30 = .ok (.iconst 0, 1) := by decide +kernel
theorem dX4_readsTown_31 : decode cX4_readsTown 31 = .ok (.istore_n 3, 1) := by decide +kernel
theorem dX4_readsTown_32 : decode cX4_readsTown 32 = .ok (.aload_n 0, 1) := by decide +kernel
theorem dX4_readsTown_33 : decode cX4_readsTown 33 = .ok (.dup, 1) := by decide +kernel
theorem dX4_readsTown_34 : decode cX4_readsTown 34 = .ok (.getfield 90, 3) := by decide +kernel
theorem dX4_readsTown_37 : decode cX4_readsTown 37 = .ok (.iload_n 3, 1) := by decide +kernel
theorem dX4_readsTown_38 : decode cX4_readsTown 38 = .ok (.ifCond .eq 7, 3) := by decide +kernel
theorem dX4_readsTown_41 : decode cX4_readsTown 41 = .ok (.iconst 1, 1) := by decide +kernel
theorem dX4_readsTown_42 : decode cX4_readsTown 42 = .ok (.goto 4, 3) := by decide +kernel
theorem dX4_readsTown_45 : decode cX4_readsTown 45 = .ok (.iconst 0, 1) := by decide +kernel
theorem dX4_readsTown_46 : decode cX4_readsTown 46 = .ok (.iadd, 1) := by decide +kernel
theorem dX4_readsTown_47 : decode cX4_readsTown 47 = .ok (.putfield 90, 3) := by decide +kernel
theorem dX4_readsTown_50 : decode cX4_readsTown 50 = .ok (.aload_n 0, 1) := by decide +kernel
theorem dX4_readsTown_51 : decode cX4_readsTown 51 = .ok (.iload_n 3, 1) := by decide +kernel
theorem dX4_readsTown_52 : decode cX4_readsTown 52 = .ok (.ifCond .eq 14, 3) := by decide +kernel
theorem dX4_readsTown_55 : decode cX4_readsTown 55 = .ok (.aload_n 0, 1) := by decide +kernel
theorem dX4_readsTown_56 : decode cX4_readsTown 56 = .ok (.iload_n 1, 1) := by decide +kernel
theorem dX4_readsTown_57 : decode cX4_readsTown 57 = .ok (.iload_n 2, 1) := by decide +kernel
theorem dX4_readsTown_58 : decode cX4_readsTown 58 = .ok (.iconst 1, 1) := by decide +kernel
theorem dX4_readsTown_59 : decode cX4_readsTown 59 = .ok (.iconst 4, 1) := by decide +kernel
theorem dX4_readsTown_60 : decode cX4_readsTown 60 = .ok (.invokevirtual 100, 3) := by decide +kernel
theorem dX4_readsTown_63 : decode cX4_readsTown 63 = .ok (.goto 5, 3) := by decide +kernel
theorem dX4_readsTown_66 : decode cX4_readsTown 66 = .ok (.bipush (-9), 2) := by decide +kernel
theorem dX4_readsTown_68 : decode cX4_readsTown 68 = .ok (.putfield 118, 3) := by decide +kernel
theorem dX4_readsTown_71 : decode cX4_readsTown 71 = .ok (.aload_n 0, 1) := by decide +kernel
theorem dX4_readsTown_72 : decode cX4_readsTown 72 = .ok (.aload_n 0, 1) := by decide +kernel
theorem dX4_readsTown_73 : decode cX4_readsTown 73 = .ok (.getfield 118, 3) := by decide +kernel
theorem dX4_readsTown_76 : decode cX4_readsTown 76 = .ok (.ifCond .le 15, 3) := by decide +kernel
theorem dX4_readsTown_79 : decode cX4_readsTown 79 = .ok (.aload_n 0, 1) := by decide +kernel
theorem dX4_readsTown_80 : decode cX4_readsTown 80 = .ok (.iload_n 1, 1) := by decide +kernel
theorem dX4_readsTown_81 : decode cX4_readsTown 81 = .ok (.iload_n 2, 1) := by decide +kernel
theorem dX4_readsTown_82 : decode cX4_readsTown 82 = .ok (.iconst 2, 1) := by decide +kernel
theorem dX4_readsTown_83 : decode cX4_readsTown 83 = .ok (.bipush 6, 2) := by decide +kernel
theorem dX4_readsTown_85 : decode cX4_readsTown 85 = .ok (.invokevirtual 100, 3) := by decide +kernel
theorem dX4_readsTown_88 : decode cX4_readsTown 88 = .ok (.goto 5, 3) := by decide +kernel
theorem dX4_readsTown_91 : decode cX4_readsTown 91 = .ok (.bipush (-9), 2) := by decide +kernel
theorem dX4_readsTown_93 : decode cX4_readsTown 93 = .ok (.putfield 107, 3) := by decide +kernel
theorem dX4_readsTown_96 : decode cX4_readsTown 96 = .ok (.aload_n 0, 1) := by decide +kernel
theorem dX4_readsTown_97 : decode cX4_readsTown 97 = .ok (.getfield 107, 3) := by decide +kernel
theorem dX4_readsTown_100 : decode cX4_readsTown 100 = .ok (.ifCond .le 7, 3) := by decide +kernel
theorem dX4_readsTown_103 : decode cX4_readsTown 103 = .ok (.iconst 1, 1) := by decide +kernel
theorem dX4_readsTown_104 : decode cX4_readsTown 104 = .ok (.goto 4, 3) := by decide +kernel
theorem dX4_readsTown_107 : decode cX4_readsTown 107 = .ok (.iconst 0, 1) := by decide +kernel
theorem dX4_readsTown_108 : decode cX4_readsTown 108 = .ok (.istore_n 3, 1) := by decide +kernel
theorem dX4_readsTown_109 : decode cX4_readsTown 109 = .ok (.iconst 0, 1) := by decide +kernel
theorem dX4_readsTown_110 : decode cX4_readsTown 110 = .ok (.istore 4, 2) := by decide +kernel
theorem dX4_readsTown_112 : decode cX4_readsTown 112 = .ok (.iload_n 3, 1) := by decide +kernel
theorem dX4_readsTown_113 : decode cX4_readsTown 113 = .ok (.ifCond .eq 32, 3) := by decide +kernel
theorem dX4_readsTown_116 : decode cX4_readsTown 116 = .ok (.iload 4, 2) := by decide +kernel
theorem dX4_readsTown_118 : decode cX4_readsTown 118 = .ok (.aload_n 0, 1) := by decide +kernel
theorem dX4_readsTown_119 : decode cX4_readsTown 119 = .ok (.getfield 118, 3) := by decide +kernel
theorem dX4_readsTown_122 : decode cX4_readsTown 122 = .ok (.aload_n 0, 1) := by decide +kernel
theorem dX4_readsTown_123 : decode cX4_readsTown 123 = .ok (.getfield 107, 3) := by decide +kernel
theorem dX4_readsTown_126 : decode cX4_readsTown 126 = .ok (.imul, 1) := by decide +kernel
theorem dX4_readsTown_127 : decode cX4_readsTown 127 = .ok (.if_icmp .ge 18, 3) := by decide +kernel
theorem dX4_readsTown_130 : decode cX4_readsTown 130 = .ok (.aload_n 0, 1) := by decide +kernel
theorem dX4_readsTown_131 : decode cX4_readsTown 131 = .ok (.iload_n 1, 1) := by decide +kernel
theorem dX4_readsTown_132 : decode cX4_readsTown 132 = .ok (.iload_n 2, 1) := by decide +kernel
theorem dX4_readsTown_133 : decode cX4_readsTown 133 = .ok (.iload 4, 2) := by decide +kernel
theorem dX4_readsTown_135 : decode cX4_readsTown 135 = .ok (.invokevirtual 121, 3) := by decide +kernel
theorem dX4_readsTown_138 : decode cX4_readsTown 138 = .ok (.istore_n 3, 1) := by decide +kernel
theorem dX4_readsTown_139 : decode cX4_readsTown 139 = .ok (.iinc 4 1, 3) := by decide +kernel
theorem dX4_readsTown_142 : decode cX4_readsTown 142 = .ok (.goto (-30), 3) := by decide +kernel
theorem dX4_readsTown_145 : decode cX4_readsTown 145 = .ok (.iload_n 3, 1) := by decide +kernel
theorem dX4_readsTown_146 : decode cX4_readsTown 146 = .ok (.ifCond .eq 15, 3) := by decide +kernel
theorem dX4_readsTown_149 : decode cX4_readsTown 149 = .ok (.aload_n 0, 1) := by decide +kernel
theorem dX4_readsTown_150 : decode cX4_readsTown 150 = .ok (.getfield 90, 3) := by decide +kernel
theorem dX4_readsTown_153 : decode cX4_readsTown 153 = .ok (.iload_n 2, 1) := by decide +kernel
theorem dX4_readsTown_154 : decode cX4_readsTown 154 = .ok (.if_icmp .ne 7, 3) := by decide +kernel
theorem dX4_readsTown_157 : decode cX4_readsTown 157 = .ok (.iconst 1, 1) := by decide +kernel
theorem dX4_readsTown_158 : decode cX4_readsTown 158 = .ok (.goto 4, 3) := by decide +kernel
theorem dX4_readsTown_161 : decode cX4_readsTown 161 = .ok (.iconst 0, 1) := by decide +kernel
theorem dX4_readsTown_162 : decode cX4_readsTown 162 = .ok (.ireturn, 1) := by decide +kernel
set_option maxRecDepth 20000 in
theorem ggX4_cellsBarred_X4_failed : GoodIn wsX4_cellsBarred wsX4_failed := goodIn_r _ [7, 8, 12, 13, 14, 15, 16, 17, 18, 19, 20, 21, 22, 23, 24, 25, 26, 27, 28, 29, 30, 31, 32, 33, 34, 35, 36, 37, 38, 39, 40, 41, 42, 43] (by decide +kernel) (by decide +kernel)
set_option maxRecDepth 20000 in
theorem gX4_cellsBarred_X4_failed : GoodIn wsX4_cellsBarred (wsV RX4 124 RX4 yX4_failed wsX4_failed) := goodIn_app (goodIn_of _ (by decide +kernel)) ggX4_cellsBarred_X4_failed
set_option maxRecDepth 20000 in
theorem ggX4_cellsBarred_X4_isBeyond : GoodIn wsX4_cellsBarred wsX4_isBeyond := goodIn_r _ [11] (by decide +kernel) (by decide +kernel)
set_option maxRecDepth 20000 in
theorem gX4_cellsBarred_X4_isBeyond : GoodIn wsX4_cellsBarred (va_wsS RX4 128 yX4_isBeyond wsX4_isBeyond) := goodIn_app (goodIn_of _ (by decide +kernel)) ggX4_cellsBarred_X4_isBeyond
theorem dX4_cellsBarred_0 : decode cX4_cellsBarred 0 = .ok (.aload_n 0, 1) := by decide +kernel
theorem dX4_cellsBarred_1 : decode cX4_cellsBarred 1 = .ok (.getfield 52, 3) := by decide +kernel
theorem dX4_cellsBarred_4 : decode cX4_cellsBarred 4 = .ok (.iload_n 1, 1) := by decide +kernel
theorem dX4_cellsBarred_5 : decode cX4_cellsBarred 5 = .ok (.iaload, 1) := by decide +kernel
theorem dX4_cellsBarred_6 : decode cX4_cellsBarred 6 = .ok (.ifCond .lt 19, 3) := by decide +kernel
theorem dX4_cellsBarred_9 : decode cX4_cellsBarred 9 = .ok (.aload_n 0, 1) := by decide +kernel
theorem dX4_cellsBarred_10 : decode cX4_cellsBarred 10 = .ok (.getfield 55, 3) := by decide +kernel
theorem dX4_cellsBarred_13 : decode cX4_cellsBarred 13 = .ok (.iload_n 1, 1) := by decide +kernel
theorem dX4_cellsBarred_14 : decode cX4_cellsBarred 14 = .ok (.iaload, 1) := by decide +kernel
theorem dX4_cellsBarred_15 : decode cX4_cellsBarred 15 = .ok (.iload_n 2, 1) := by decide +kernel
theorem dX4_cellsBarred_16 : decode cX4_cellsBarred 16 = .ok (.if_icmp .eq 9, 3) := by decide +kernel
theorem dX4_cellsBarred_19 : decode cX4_cellsBarred 19 = .ok (.aload_n 0, 1) := by decide +kernel
theorem dX4_cellsBarred_20 : decode cX4_cellsBarred 20 = .ok (.iconst 2, 1) := by decide +kernel
theorem dX4_cellsBarred_21 : decode cX4_cellsBarred 21 = .ok (.invokevirtual 124, 3) := by decide +kernel
theorem dX4_cellsBarred_24 : decode cX4_cellsBarred 24 = .ok (.ireturn, 1) := by decide +kernel
theorem dX4_cellsBarred_25 : decode cX4_cellsBarred 25 = .ok (.aload_n 0, 1) := by decide +kernel
theorem dX4_cellsBarred_26 : decode cX4_cellsBarred 26 = .ok (.getfield 52, 3) := by decide +kernel
theorem dX4_cellsBarred_29 : decode cX4_cellsBarred 29 = .ok (.iload_n 1, 1) := by decide +kernel
theorem dX4_cellsBarred_30 : decode cX4_cellsBarred 30 = .ok (.iaload, 1) := by decide +kernel
theorem dX4_cellsBarred_31 : decode cX4_cellsBarred 31 = .ok (.ifCond .ge 9, 3) := by decide +kernel
theorem dX4_cellsBarred_34 : decode cX4_cellsBarred 34 = .ok (.aload_n 0, 1) := by decide +kernel
theorem dX4_cellsBarred_35 : decode cX4_cellsBarred 35 = .ok (.iconst 1, 1) := by decide +kernel
theorem dX4_cellsBarred_36 : decode cX4_cellsBarred 36 = .ok (.invokevirtual 124, 3) := by decide +kernel
theorem dX4_cellsBarred_39 : decode cX4_cellsBarred 39 = .ok (.ireturn, 1) := by decide +kernel
theorem dX4_cellsBarred_40 : decode cX4_cellsBarred 40 = .ok (.lload 4, 2) := by decide +kernel
theorem dX4_cellsBarred_42 : decode cX4_cellsBarred 42 = .ok (.lconst 0, 1) := by decide +kernel
theorem dX4_cellsBarred_43 : decode cX4_cellsBarred 43 = .ok (.lcmp, 1) := by decide +kernel
theorem dX4_cellsBarred_44 : decode cX4_cellsBarred 44 = .ok (.ifCond .ge 9, 3) := by decide +kernel
theorem dX4_cellsBarred_47 : decode cX4_cellsBarred 47 = .ok (.aload_n 0, 1) := by decide +kernel
theorem dX4_cellsBarred_48 : decode cX4_cellsBarred 48 = .ok (.iconst 4, 1) := by decide +kernel
theorem dX4_cellsBarred_49 : decode cX4_cellsBarred 49 = .ok (.invokevirtual 124, 3) := by decide +kernel
theorem dX4_cellsBarred_52 : decode cX4_cellsBarred 52 = .ok (.ireturn, 1) := by decide +kernel
theorem dX4_cellsBarred_53 : decode cX4_cellsBarred 53 = .ok (.iload_n 3, 1) := by decide +kernel
theorem dX4_cellsBarred_54 : decode cX4_cellsBarred 54 = .ok (.lload 4, 2) := by decide +kernel
theorem dX4_cellsBarred_56 : decode cX4_cellsBarred 56 = .ok (.aload_n 0, 1) := by decide +kernel
theorem dX4_cellsBarred_57 : decode cX4_cellsBarred 57 = .ok (.getfield 52, 3) := by decide +kernel
theorem dX4_cellsBarred_60 : decode cX4_cellsBarred 60 = .ok (.iload_n 1, 1) := by decide +kernel
theorem dX4_cellsBarred_61 : decode cX4_cellsBarred 61 = .ok (.iaload, 1) := by decide +kernel
theorem dX4_cellsBarred_62 : decode cX4_cellsBarred 62 = .ok (.invokestatic 128, 3) := by decide +kernel
theorem dX4_cellsBarred_65 : decode cX4_cellsBarred 65 = .ok (.ifCond .eq 11, 3) := by decide +kernel
theorem dX4_cellsBarred_68 : decode cX4_cellsBarred 68 = .ok (.aload_n 0, 1) := by decide +kernel
theorem dX4_cellsBarred_69 : decode cX4_cellsBarred 69 = .ok (.iconst 3, 1) := by decide +kernel
theorem dX4_cellsBarred_70 : decode cX4_cellsBarred 70 = .ok (.invokevirtual 124, 3) := by decide +kernel
theorem dX4_cellsBarred_73 : decode cX4_cellsBarred 73 = .ok (.goto 4, 3) := by decide +kernel
theorem dX4_cellsBarred_76 : decode cX4_cellsBarred 76 = .ok (.iconst 0, 1) := by decide +kernel
theorem dX4_cellsBarred_77 : decode cX4_cellsBarred 77 = .ok (.ireturn, 1) := by decide +kernel
set_option maxRecDepth 20000 in
theorem ggX4_town_X4_noSheet : GoodIn wsX4_town wsX4_noSheet := goodIn_r _ [27, 28, 29, 30, 26, 31] (by decide +kernel) (by decide +kernel)
set_option maxRecDepth 20000 in
theorem gX4_town_X4_noSheet : GoodIn wsX4_town (va_wsS RX4 132 yX4_noSheet wsX4_noSheet) := goodIn_app (goodIn_of _ (by decide +kernel)) ggX4_town_X4_noSheet
set_option maxRecDepth 20000 in
theorem ggX4_town_X4_refused : GoodIn wsX4_town wsX4_refused := goodIn_r _ [35, 36, 75, 76, 77, 78, 79, 80, 81, 82, 83, 84, 85, 86, 87, 88, 89, 90, 91, 92, 93, 94, 95, 96, 97, 98, 99, 100, 101, 102, 103, 104, 105, 106] (by decide +kernel) (by decide +kernel)
set_option maxRecDepth 20000 in
theorem gX4_town_X4_refused : GoodIn wsX4_town (wsV RX4 136 RX4 yX4_refused wsX4_refused) := goodIn_app (goodIn_of _ (by decide +kernel)) ggX4_town_X4_refused
set_option maxRecDepth 20000 in
theorem ggX4_town_X4_in : GoodIn wsX4_town wsX4_in := goodIn_r _ [31] (by decide +kernel) (by decide +kernel)
set_option maxRecDepth 20000 in
theorem gX4_town_X4_in : GoodIn wsX4_town (va_wsS RX4 80 yX4_in wsX4_in) := goodIn_app (goodIn_of _ (by decide +kernel)) ggX4_town_X4_in
set_option maxRecDepth 20000 in
theorem ggX4_town_X4_cellsBarred : GoodIn wsX4_town wsX4_cellsBarred := goodIn_r _ [40, 41, 42, 43, 44, 45, 26, 46, 36, 47, 48, 49, 75, 76, 77, 78, 79, 80, 81, 82, 83, 84, 85, 86, 87, 88, 89, 90, 91, 92, 93, 94, 95, 96, 97, 98, 99, 100, 101, 102, 103, 104, 105, 106] (by decide +kernel) (by decide +kernel)
set_option maxRecDepth 20000 in
theorem gX4_town_X4_cellsBarred : GoodIn wsX4_town (wsV RX4 141 RX4 yX4_cellsBarred wsX4_cellsBarred) := goodIn_app (goodIn_of _ (by decide +kernel)) ggX4_town_X4_cellsBarred
set_option maxRecDepth 20000 in
theorem ggX4_town_X4_readsTown : GoodIn wsX4_town wsX4_readsTown := goodIn_r _ [53, 2, 7, 9, 3, 5, 54, 55, 56, 26, 57, 58, 59, 60, 61, 62, 29, 30, 31, 63, 64, 65, 66, 67, 68, 69, 70, 12, 14, 71, 72, 73, 74, 17, 19, 21, 75, 76, 77, 78, 79, 80, 81, 82, 83, 84, 85, 86, 87, 88, 89, 90, 91, 92, 93, 94, 95, 96, 97, 98, 99, 100, 101, 102, 103, 104, 105, 106] (by decide +kernel) (by decide +kernel)
set_option maxRecDepth 20000 in
theorem gX4_town_X4_readsTown : GoodIn wsX4_town (wsV RX4 145 RX4 yX4_readsTown wsX4_readsTown) := goodIn_app (goodIn_of _ (by decide +kernel)) ggX4_town_X4_readsTown
theorem dX4_town_0 : decode cX4_town 0 = .ok (.iload_n 1, 1) := by decide +kernel
theorem dX4_town_1 : decode cX4_town 1 = .ok (.invokestatic 132, 3) := by decide +kernel
theorem dX4_town_4 : decode cX4_town 4 = .ok (.ifCond .eq 9, 3) := by decide +kernel
theorem dX4_town_7 : decode cX4_town 7 = .ok (.aload_n 0, 1) := by decide +kernel
theorem dX4_town_8 : decode cX4_town 8 = .ok (.iconst (-1), 1) := by decide +kernel
theorem dX4_town_9 : decode cX4_town 9 = .ok (.invokevirtual 136, 3) := by decide +kernel
theorem dX4_town_12 : decode cX4_town 12 = .ok (.ireturn, 1) := by decide +kernel
theorem dX4_town_13 : decode cX4_town 13 = .ok (.iload_n 2, 1) := by decide +kernel
theorem dX4_town_14 : decode cX4_town 14 = .ok (.i2l, 1) := by decide +kernel
theorem dX4_town_15 : decode cX4_town 15 = .ok (.lconst 0, 1) := by decide +kernel
theorem dX4_town_16 : decode cX4_town 16 = .ok (.ldc2_w 139, 3) := by decide +kernel
theorem dX4_town_19 : decode cX4_town 19 = .ok (.invokestatic 80, 3) := by decide +kernel
theorem dX4_town_22 : decode cX4_town 22 = .ok (.ifCond .ne 10, 3) := by decide +kernel
theorem dX4_town_25 : decode cX4_town 25 = .ok (.aload_n 0, 1) := by decide +kernel
theorem dX4_town_26 : decode cX4_town 26 = .ok (.bipush (-2), 2) := by decide +kernel
theorem dX4_town_28 : decode cX4_town 28 = .ok (.invokevirtual 136, 3) := by decide +kernel
theorem dX4_town_31 : decode cX4_town 31 = .ok (.ireturn, 1) := by decide +kernel
theorem dX4_town_32 : decode cX4_town 32 = .ok (.aload_n 0, 1) := by decide +kernel
theorem dX4_town_33 : decode cX4_town 33 = .ok (.iload_n 1, 1) := by decide +kernel
theorem dX4_town_34 : decode cX4_town 34 = .ok (.iload_n 2, 1) := by decide +kernel
theorem dX4_town_35 : decode cX4_town 35 = .ok (.iload_n 3, 1) := by decide +kernel
theorem dX4_town_36 : decode cX4_town 36 = .ok (.iload 4, 2) := by decide +kernel
theorem dX4_town_38 : decode cX4_town 38 = .ok (.i2l, 1) := by decide +kernel
theorem dX4_town_39 : decode cX4_town 39 = .ok (.invokevirtual 141, 3) := by decide +kernel
theorem dX4_town_42 : decode cX4_town 42 = .ok (.istore 5, 2) := by decide +kernel
theorem dX4_town_44 : decode cX4_town 44 = .ok (.iload 5, 2) := by decide +kernel
theorem dX4_town_46 : decode cX4_town 46 = .ok (.ifCond .ge 6, 3) := by decide +kernel
theorem dX4_town_49 : decode cX4_town 49 = .ok (.iload 5, 2) := by decide +kernel
theorem dX4_town_51 : decode cX4_town 51 = .ok (.ireturn, 1) := by decide +kernel
theorem dX4_town_52 : decode cX4_town 52 = .ok (.aload_n 0, 1) := by decide +kernel
theorem dX4_town_53 : decode cX4_town 53 = .ok (.bipush 60, 2) := by decide +kernel
theorem dX4_town_55 : decode cX4_town 55 = .ok (.iload_n 1, 1) := by decide +kernel
theorem dX4_town_56 : decode cX4_town 56 = .ok (.imul, 1) := by decide +kernel
theorem dX4_town_57 : decode cX4_town 57 = .ok (.iload_n 3, 1) := by decide +kernel
theorem dX4_town_58 : decode cX4_town 58 = .ok (.iadd, 1) := by decide +kernel
theorem dX4_town_59 : decode cX4_town 59 = .ok (.iload 4, 2) := by decide +kernel
theorem dX4_town_61 : decode cX4_town 61 = .ok (.invokevirtual 145, 3) := by decide +kernel
theorem dX4_town_64 : decode cX4_town 64 = .ok (.ifCond .ne 15, 3) := by decide +kernel
theorem dX4_town_67 : decode cX4_town 67 = .ok (.aload_n 0, 1) := by decide +kernel
theorem dX4_town_68 : decode cX4_town 68 = .ok (.bipush (-100), 2) := by decide +kernel
theorem dX4_town_70 : decode cX4_town 70 = .ok (.aload_n 0, 1) := by decide +kernel
theorem dX4_town_71 : decode cX4_town 71 = .ok (.getfield 90, 3) := by decide +kernel
theorem dX4_town_74 : decode cX4_town 74 = .ok (.isub, 1) := by decide +kernel
theorem dX4_town_75 : decode cX4_town 75 = .ok (.invokevirtual 136, 3) := by decide +kernel
theorem dX4_town_78 : decode cX4_town 78 = .ok (.ireturn, 1) := by decide +kernel
theorem dX4_town_79 : decode cX4_town 79 = .ok (.aload_n 0, 1) := by decide +kernel
theorem dX4_town_80 : decode cX4_town 80 = .ok (.aload_n 0, 1) := by decide +kernel
theorem dX4_town_81 : decode cX4_town 81 = .ok (.getfield 118, 3) := by decide +kernel
theorem dX4_town_84 : decode cX4_town 84 = .ok (.putfield 74, 3) := by decide +kernel
theorem dX4_town_87 : decode cX4_town 87 = .ok (.aload_n 0, 1) := by decide +kernel
theorem dX4_town_88 : decode cX4_town 88 = .ok (.aload_n 0, 1) := by decide +kernel
theorem dX4_town_89 : decode cX4_town 89 = .ok (.getfield 107, 3) := by decide +kernel
theorem dX4_town_92 : decode cX4_town 92 = .ok (.putfield 77, 3) := by decide +kernel
theorem dX4_town_95 : decode cX4_town 95 = .ok (.aload_n 0, 1) := by decide +kernel
theorem dX4_town_96 : decode cX4_town 96 = .ok (.aload_n 0, 1) := by decide +kernel
theorem dX4_town_97 : decode cX4_town 97 = .ok (.getfield 97, 3) := by decide +kernel
theorem dX4_town_100 : decode cX4_town 100 = .ok (.putfield 84, 3) := by decide +kernel
theorem dX4_town_103 : decode cX4_town 103 = .ok (.aload_n 0, 1) := by decide +kernel
theorem dX4_town_104 : decode cX4_town 104 = .ok (.aload_n 0, 1) := by decide +kernel
theorem dX4_town_105 : decode cX4_town 105 = .ok (.getfield 104, 3) := by decide +kernel
theorem dX4_town_108 : decode cX4_town 108 = .ok (.putfield 87, 3) := by decide +kernel
theorem dX4_town_111 : decode cX4_town 111 = .ok (.iconst 0, 1) := by decide +kernel
theorem dX4_town_112 : decode cX4_town 112 = .ok (.istore 6, 2) := by decide +kernel
theorem dX4_town_114 : decode cX4_town 114 = .ok (.iload 6, 2) := by decide +kernel
theorem dX4_town_116 : decode cX4_town 116 = .ok (.aload_n 0, 1) := by decide +kernel
theorem dX4_town_117 : decode cX4_town 117 = .ok (.getfield 84, 3) := by decide +kernel
theorem dX4_town_120 : decode cX4_town 120 = .ok (.if_icmp .ge 45, 3) := by decide +kernel
theorem dX4_town_123 : decode cX4_town 123 = .ok (.aload_n 0, 1) := by decide +kernel
theorem dX4_town_124 : decode cX4_town 124 = .ok (.getfield 7, 3) := by decide +kernel
theorem dX4_town_127 : decode cX4_town 127 = .ok (.iload 6, 2) := by decide +kernel
theorem dX4_town_129 : decode cX4_town 129 = .ok (.aload_n 0, 1) := by decide +kernel
theorem dX4_town_130 : decode cX4_town 130 = .ok (.getfield 28, 3) := by decide +kernel
theorem dX4_town_133 : decode cX4_town 133 = .ok (.iload 6, 2) := by decide +kernel
theorem dX4_town_135 : decode cX4_town 135 = .ok (.iaload, 1) := by decide +kernel
theorem dX4_town_136 : decode cX4_town 136 = .ok (.iastore, 1) := by decide +kernel
theorem dX4_town_137 : decode cX4_town 137 = .ok (.aload_n 0, 1) := by decide +kernel
theorem dX4_town_138 : decode cX4_town 138 = .ok (.getfield 13, 3) := by decide +kernel
theorem dX4_town_141 : decode cX4_town 141 = .ok (.iload 6, 2) := by decide +kernel
theorem dX4_town_143 : decode cX4_town 143 = .ok (.aload_n 0, 1) := by decide +kernel
theorem dX4_town_144 : decode cX4_town 144 = .ok (.getfield 31, 3) := by decide +kernel
theorem dX4_town_147 : decode cX4_town 147 = .ok (.iload 6, 2) := by decide +kernel
theorem dX4_town_149 : decode cX4_town 149 = .ok (.iaload, 1) := by decide +kernel
theorem dX4_town_150 : decode cX4_town 150 = .ok (.iastore, 1) := by decide +kernel
theorem dX4_town_151 : decode cX4_town 151 = .ok (.aload_n 0, 1) := by decide +kernel
theorem dX4_town_152 : decode cX4_town 152 = .ok (.getfield 16, 3) := by decide +kernel
theorem dX4_town_155 : decode cX4_town 155 = .ok (.iload 6, 2) := by decide +kernel
theorem dX4_town_157 : decode cX4_town 157 = .ok (.iconst 0, 1) := by decide +kernel
theorem dX4_town_158 : decode cX4_town 158 = .ok (.iastore, 1) := by decide +kernel
theorem dX4_town_159 : decode cX4_town 159 = .ok (.iinc 6 1, 3) := by decide +kernel
theorem dX4_town_162 : decode cX4_town 162 = .ok (.goto (-48), 3) := by decide +kernel
theorem dX4_town_165 : decode cX4_town 165 = .ok (.iconst 0, 1) := by decide +kernel
theorem dX4_town_166 : decode cX4_town 166 = .ok (.istore 6, 2) := by decide +kernel
theorem dX4_town_168 : decode cX4_town 168 = .ok (.iload 6, 2) := by decide +kernel
theorem dX4_town_170 : decode cX4_town 170 = .ok (.aload_n 0, 1) := by decide +kernel
theorem dX4_town_171 : decode cX4_town 171 = .ok (.getfield 87, 3) := by decide +kernel
theorem dX4_town_174 : decode cX4_town 174 = .ok (.if_icmp .ge 51, 3) := by decide +kernel
theorem dX4_town_177 : decode cX4_town 177 = .ok (.aload_n 0, 1) := by decide +kernel
theorem dX4_town_178 : decode cX4_town 178 = .ok (.getfield 19, 3) := by decide +kernel
theorem dX4_town_181 : decode cX4_town 181 = .ok (.iload 6, 2) := by decide +kernel
theorem dX4_town_183 : decode cX4_town 183 = .ok (.aload_n 0, 1) := by decide +kernel
theorem dX4_town_184 : decode cX4_town 184 = .ok (.getfield 34, 3) := by decide +kernel
theorem dX4_town_187 : decode cX4_town 187 = .ok (.iload 6, 2) := by decide +kernel
theorem dX4_town_189 : decode cX4_town 189 = .ok (.iaload, 1) := by decide +kernel
theorem dX4_town_190 : decode cX4_town 190 = .ok (.iastore, 1) := by decide +kernel
theorem dX4_town_191 : decode cX4_town 191 = .ok (.aload_n 0, 1) := by decide +kernel
theorem dX4_town_192 : decode cX4_town 192 = .ok (.getfield 22, 3) := by decide +kernel
theorem dX4_town_195 : decode cX4_town 195 = .ok (.iload 6, 2) := by decide +kernel
theorem dX4_town_197 : decode cX4_town 197 = .ok (.aload_n 0, 1) := by decide +kernel
theorem dX4_town_198 : decode cX4_town 198 = .ok (.getfield 37, 3) := by decide +kernel
theorem dX4_town_201 : decode cX4_town 201 = .ok (.iload 6, 2) := by decide +kernel
theorem dX4_town_203 : decode cX4_town 203 = .ok (.iaload, 1) := by decide +kernel
theorem dX4_town_204 : decode cX4_town 204 = .ok (.iastore, 1) := by decide +kernel
theorem dX4_town_205 : decode cX4_town 205 = .ok (.aload_n 0, 1) := by decide +kernel
theorem dX4_town_206 : decode cX4_town 206 = .ok (.getfield 25, 3) := by decide +kernel
theorem dX4_town_209 : decode cX4_town 209 = .ok (.iload 6, 2) := by decide +kernel
theorem dX4_town_211 : decode cX4_town 211 = .ok (.aload_n 0, 1) := by decide +kernel
theorem dX4_town_212 : decode cX4_town 212 = .ok (.getfield 40, 3) := by decide +kernel
theorem dX4_town_215 : decode cX4_town 215 = .ok (.iload 6, 2) := by decide +kernel
theorem dX4_town_217 : decode cX4_town 217 = .ok (.iaload, 1) := by decide +kernel
theorem dX4_town_218 : decode cX4_town 218 = .ok (.iastore, 1) := by decide +kernel
theorem dX4_town_219 : decode cX4_town 219 = .ok (.iinc 6 1, 3) := by decide +kernel
theorem dX4_town_222 : decode cX4_town 222 = .ok (.goto (-54), 3) := by decide +kernel
theorem dX4_town_225 : decode cX4_town 225 = .ok (.aload_n 0, 1) := by decide +kernel
theorem dX4_town_226 : decode cX4_town 226 = .ok (.iconst 0, 1) := by decide +kernel
theorem dX4_town_227 : decode cX4_town 227 = .ok (.putfield 149, 3) := by decide +kernel
theorem dX4_town_230 : decode cX4_town 230 = .ok (.aload_n 0, 1) := by decide +kernel
theorem dX4_town_231 : decode cX4_town 231 = .ok (.iconst 0, 1) := by decide +kernel
theorem dX4_town_232 : decode cX4_town 232 = .ok (.putfield 152, 3) := by decide +kernel
theorem dX4_town_235 : decode cX4_town 235 = .ok (.aload_n 0, 1) := by decide +kernel
theorem dX4_town_236 : decode cX4_town 236 = .ok (.aload_n 0, 1) := by decide +kernel
theorem dX4_town_237 : decode cX4_town 237 = .ok (.getfield 87, 3) := by decide +kernel
theorem dX4_town_240 : decode cX4_town 240 = .ok (.invokevirtual 136, 3) := by decide +kernel
theorem dX4_town_243 : decode cX4_town 243 = .ok (.ireturn, 1) := by decide +kernel
theorem dX4_mindsOfOne_0 : decode cX4_mindsOfOne 0 = .ok (.aload_n 0, 1) := by decide +kernel
theorem dX4_mindsOfOne_1 : decode cX4_mindsOfOne 1 = .ok (.getfield 25, 3) := by decide +kernel
theorem dX4_mindsOfOne_4 : decode cX4_mindsOfOne 4 = .ok (.iload_n 1, 1) := by decide +kernel
theorem dX4_mindsOfOne_5 : decode cX4_mindsOfOne 5 = .ok (.iaload, 1) := by decide +kernel
theorem dX4_mindsOfOne_6 : decode cX4_mindsOfOne 6 = .ok (.istore_n 2, 1) := by decide +kernel
theorem dX4_mindsOfOne_7 : decode cX4_mindsOfOne 7 = .ok (.aload_n 0, 1) := by decide +kernel
theorem dX4_mindsOfOne_8 : decode cX4_mindsOfOne 8 = .ok (.getfield 22, 3) := by decide +kernel
theorem dX4_mindsOfOne_11 : decode cX4_mindsOfOne 11 = .ok (.iload_n 1, 1) := by decide +kernel
theorem dX4_mindsOfOne_12 : decode cX4_mindsOfOne 12 = .ok (.iaload, 1) := by decide +kernel
theorem dX4_mindsOfOne_13 : decode cX4_mindsOfOne 13 = .ok (.ifCond .ne 7, 3) := by decide +kernel
theorem dX4_mindsOfOne_16 : decode cX4_mindsOfOne 16 = .ok (.iload_n 2, 1) := by decide +kernel
theorem dX4_mindsOfOne_17 : decode cX4_mindsOfOne 17 = .ok (.goto 24, 3) := by decide +kernel
theorem dX4_mindsOfOne_20 : decode cX4_mindsOfOne 20 = .ok (.aload_n 0, 1) := by decide +kernel
theorem dX4_mindsOfOne_21 : decode cX4_mindsOfOne 21 = .ok (.getfield 22, 3) := by decide +kernel
theorem dX4_mindsOfOne_24 : decode cX4_mindsOfOne 24 = .ok (.iload_n 1, 1) := by decide +kernel
theorem dX4_mindsOfOne_25 : decode cX4_mindsOfOne 25 = .ok (.iaload, 1) := by decide +kernel
theorem dX4_mindsOfOne_26 : decode cX4_mindsOfOne 26 = .ok (.iconst 1, 1) := by decide +kernel
theorem dX4_mindsOfOne_27 : decode cX4_mindsOfOne 27 = .ok (.if_icmp .ne 9, 3) := by decide +kernel
theorem dX4_mindsOfOne_30 : decode cX4_mindsOfOne 30 = .ok (.iload_n 2, 1) := by decide +kernel
theorem dX4_mindsOfOne_31 : decode cX4_mindsOfOne 31 = .ok (.iconst 1, 1) := by decide +kernel
theorem dX4_mindsOfOne_32 : decode cX4_mindsOfOne 32 = .ok (.iadd, 1) := by decide +kernel
theorem dX4_mindsOfOne_33 : decode cX4_mindsOfOne 33 = .ok (.goto 8, 3) := by decide +kernel
theorem dX4_mindsOfOne_36 : decode cX4_mindsOfOne 36 = .ok (.iconst 2, 1) := by decide +kernel
theorem dX4_mindsOfOne_37 : decode cX4_mindsOfOne 37 = .ok (.iload_n 2, 1) := by decide +kernel
theorem dX4_mindsOfOne_38 : decode cX4_mindsOfOne 38 = .ok (.iconst 1, 1) := by decide +kernel
theorem dX4_mindsOfOne_39 : decode cX4_mindsOfOne 39 = .ok (.iadd, 1) := by decide +kernel
theorem dX4_mindsOfOne_40 : decode cX4_mindsOfOne 40 = .ok (.imul, 1) := by decide +kernel
theorem dX4_mindsOfOne_41 : decode cX4_mindsOfOne 41 = .ok (.ireturn, 1) := by decide +kernel
set_option maxRecDepth 20000 in
theorem ggX4_ofWard_X4_noWard : GoodIn wsX4_ofWard wsX4_noWard := goodIn_r _ [8, 9, 10, 11, 7, 12, 17, 18, 19, 20, 21, 22, 23, 24, 25, 26, 27, 28, 29, 30, 31, 32, 33, 34, 35, 36, 37, 38, 39, 40, 41, 42, 43, 44, 45, 46, 47, 48] (by decide +kernel) (by decide +kernel)
set_option maxRecDepth 20000 in
theorem gX4_ofWard_X4_noWard : GoodIn wsX4_ofWard (wsV RX4 155 RX4 yX4_noWard wsX4_noWard) := goodIn_app (goodIn_of _ (by decide +kernel)) ggX4_ofWard_X4_noWard
set_option maxRecDepth 20000 in
theorem ggX4_ofWard_X4_mindsOfOne : GoodIn wsX4_ofWard wsX4_mindsOfOne := goodIn_r _ [16, 2, 1, 17, 18, 19, 20, 21, 22, 23, 24, 25, 26, 27, 28, 29, 30, 31, 32, 33, 34, 35, 36, 37, 38, 39, 40, 41, 42, 43, 44, 45, 46, 47, 48] (by decide +kernel) (by decide +kernel)
set_option maxRecDepth 20000 in
theorem gX4_ofWard_X4_mindsOfOne : GoodIn wsX4_ofWard (wsV RX4 158 RX4 yX4_mindsOfOne wsX4_mindsOfOne) := goodIn_app (goodIn_of _ (by decide +kernel)) ggX4_ofWard_X4_mindsOfOne
theorem dX4_ofWard_0 : decode cX4_ofWard 0 = .ok (.aload_n 0, 1) := by decide +kernel
theorem dX4_ofWard_1 : decode cX4_ofWard 1 = .ok (.iload_n 1, 1) := by decide +kernel
theorem dX4_ofWard_2 : decode cX4_ofWard 2 = .ok (.invokevirtual 155, 3) := by decide +kernel
theorem dX4_ofWard_5 : decode cX4_ofWard 5 = .ok (.ifCond .eq 5, 3) := by decide +kernel
theorem dX4_ofWard_8 : decode cX4_ofWard 8 = .ok (.iconst (-1), 1) := by decide +kernel
theorem dX4_ofWard_9 : decode cX4_ofWard 9 = .ok (.ireturn, 1) := by decide +kernel
theorem dX4_ofWard_10 : decode cX4_ofWard 10 = .ok (.iload_n 2, 1) := by decide +kernel
theorem dX4_ofWard_11 : decode cX4_ofWard 11 = .ok (.tableswitch 56 0 3 #[29, 36, 43, 50], 29) := by decide +kernel
theorem dX4_ofWard_40 : decode cX4_ofWard 40 = .ok (.aload_n 0, 1) := by decide +kernel
theorem dX4_ofWard_41 : decode cX4_ofWard 41 = .ok (.getfield 22, 3) := by decide +kernel
theorem dX4_ofWard_44 : decode cX4_ofWard 44 = .ok (.iload_n 1, 1) := by decide +kernel
theorem dX4_ofWard_45 : decode cX4_ofWard 45 = .ok (.iaload, 1) := by decide +kernel
theorem dX4_ofWard_46 : decode cX4_ofWard 46 = .ok (.ireturn, 1) := by decide +kernel
theorem dX4_ofWard_47 : decode cX4_ofWard 47 = .ok (.aload_n 0, 1) := by decide +kernel
theorem dX4_ofWard_48 : decode cX4_ofWard 48 = .ok (.getfield 25, 3) := by decide +kernel
theorem dX4_ofWard_51 : decode cX4_ofWard 51 = .ok (.iload_n 1, 1) := by decide +kernel
theorem dX4_ofWard_52 : decode cX4_ofWard 52 = .ok (.iaload, 1) := by decide +kernel
theorem dX4_ofWard_53 : decode cX4_ofWard 53 = .ok (.ireturn, 1) := by decide +kernel
theorem dX4_ofWard_54 : decode cX4_ofWard 54 = .ok (.aload_n 0, 1) := by decide +kernel
theorem dX4_ofWard_55 : decode cX4_ofWard 55 = .ok (.getfield 19, 3) := by decide +kernel
theorem dX4_ofWard_58 : decode cX4_ofWard 58 = .ok (.iload_n 1, 1) := by decide +kernel
theorem dX4_ofWard_59 : decode cX4_ofWard 59 = .ok (.iaload, 1) := by decide +kernel
theorem dX4_ofWard_60 : decode cX4_ofWard 60 = .ok (.ireturn, 1) := by decide +kernel
theorem dX4_ofWard_61 : decode cX4_ofWard 61 = .ok (.aload_n 0, 1) := by decide +kernel
theorem dX4_ofWard_62 : decode cX4_ofWard 62 = .ok (.iload_n 1, 1) := by decide +kernel
theorem dX4_ofWard_63 : decode cX4_ofWard 63 = .ok (.invokevirtual 158, 3) := by decide +kernel
theorem dX4_ofWard_66 : decode cX4_ofWard 66 = .ok (.ireturn, 1) := by decide +kernel
theorem dX4_ofWard_67 : decode cX4_ofWard 67 = .ok (.bipush (-2), 2) := by decide +kernel
theorem dX4_ofWard_69 : decode cX4_ofWard 69 = .ok (.ireturn, 1) := by decide +kernel
set_option maxRecDepth 20000 in
theorem ggX4_ofWork_X4_noWork : GoodIn wsX4_ofWork wsX4_noWork := goodIn_r _ [8, 9, 10, 11, 7, 12, 13, 14, 15, 16, 17, 18, 19, 20, 21, 22, 23, 24, 25, 26, 27, 28, 29, 30, 31, 32, 33, 34, 35, 36, 37, 38, 39, 40, 41, 42, 43, 44] (by decide +kernel) (by decide +kernel)
set_option maxRecDepth 20000 in
theorem gX4_ofWork_X4_noWork : GoodIn wsX4_ofWork (wsV RX4 161 RX4 yX4_noWork wsX4_noWork) := goodIn_app (goodIn_of _ (by decide +kernel)) ggX4_ofWork_X4_noWork
theorem dX4_ofWork_0 : decode cX4_ofWork 0 = .ok (.aload_n 0, 1) := by decide +kernel
theorem dX4_ofWork_1 : decode cX4_ofWork 1 = .ok (.iload_n 1, 1) := by decide +kernel
theorem dX4_ofWork_2 : decode cX4_ofWork 2 = .ok (.invokevirtual 161, 3) := by decide +kernel
theorem dX4_ofWork_5 : decode cX4_ofWork 5 = .ok (.ifCond .eq 5, 3) := by decide +kernel
theorem dX4_ofWork_8 : decode cX4_ofWork 8 = .ok (.iconst (-1), 1) := by decide +kernel
theorem dX4_ofWork_9 : decode cX4_ofWork 9 = .ok (.ireturn, 1) := by decide +kernel
theorem dX4_ofWork_10 : decode cX4_ofWork 10 = .ok (.iload_n 2, 1) := by decide +kernel
theorem dX4_ofWork_11 : decode cX4_ofWork 11 = .ok (.ifCond .ne 12, 3) := by decide +kernel
theorem dX4_ofWork_14 : decode cX4_ofWork 14 = .ok (.aload_n 0, 1) := by decide +kernel
theorem dX4_ofWork_15 : decode cX4_ofWork 15 = .ok (.getfield 7, 3) := by decide +kernel
theorem dX4_ofWork_18 : decode cX4_ofWork 18 = .ok (.iload_n 1, 1) := by decide +kernel
theorem dX4_ofWork_19 : decode cX4_ofWork 19 = .ok (.iaload, 1) := by decide +kernel
theorem dX4_ofWork_20 : decode cX4_ofWork 20 = .ok (.goto 33, 3) := by decide +kernel
theorem dX4_ofWork_23 : decode cX4_ofWork 23 = .ok (.iload_n 2, 1) := by decide +kernel
theorem dX4_ofWork_24 : decode cX4_ofWork 24 = .ok (.iconst 1, 1) := by decide +kernel
theorem dX4_ofWork_25 : decode cX4_ofWork 25 = .ok (.if_icmp .ne 12, 3) := by decide +kernel
theorem dX4_ofWork_28 : decode cX4_ofWork 28 = .ok (.aload_n 0, 1) := by decide +kernel
theorem dX4_ofWork_29 : decode cX4_ofWork 29 = .ok (.getfield 13, 3) := by decide +kernel
theorem dX4_ofWork_32 : decode cX4_ofWork 32 = .ok (.iload_n 1, 1) := by decide +kernel
theorem dX4_ofWork_33 : decode cX4_ofWork 33 = .ok (.iaload, 1) := by decide +kernel
theorem dX4_ofWork_34 : decode cX4_ofWork 34 = .ok (.goto 19, 3) := by decide +kernel
theorem dX4_ofWork_37 : decode cX4_ofWork 37 = .ok (.iload_n 2, 1) := by decide +kernel
theorem dX4_ofWork_38 : decode cX4_ofWork 38 = .ok (.iconst 2, 1) := by decide +kernel
theorem dX4_ofWork_39 : decode cX4_ofWork 39 = .ok (.if_icmp .ne 12, 3) := by decide +kernel
theorem dX4_ofWork_42 : decode cX4_ofWork 42 = .ok (.aload_n 0, 1) := by decide +kernel
theorem dX4_ofWork_43 : decode cX4_ofWork 43 = .ok (.getfield 16, 3) := by decide +kernel
theorem dX4_ofWork_46 : decode cX4_ofWork 46 = .ok (.iload_n 1, 1) := by decide +kernel
theorem dX4_ofWork_47 : decode cX4_ofWork 47 = .ok (.iaload, 1) := by decide +kernel
theorem dX4_ofWork_48 : decode cX4_ofWork 48 = .ok (.goto 5, 3) := by decide +kernel
theorem dX4_ofWork_51 : decode cX4_ofWork 51 = .ok (.bipush (-2), 2) := by decide +kernel
theorem dX4_ofWork_53 : decode cX4_ofWork 53 = .ok (.ireturn, 1) := by decide +kernel
set_option maxRecDepth 20000 in
theorem ggX4_law_X4_in : GoodIn wsX4_law wsX4_in := goodIn_r _ [7] (by decide +kernel) (by decide +kernel)
set_option maxRecDepth 20000 in
theorem gX4_law_X4_in : GoodIn wsX4_law (va_wsS RX4 80 yX4_in wsX4_in) := goodIn_app (goodIn_of _ (by decide +kernel)) ggX4_law_X4_in
theorem dX4_law_0 : decode cX4_law 0 = .ok (.iload_n 1, 1) := by decide +kernel
theorem dX4_law_1 : decode cX4_law 1 = .ok (.i2l, 1) := by decide +kernel
theorem dX4_law_2 : decode cX4_law 2 = .ok (.lconst 0, 1) := by decide +kernel
theorem dX4_law_3 : decode cX4_law 3 = .ok (.ldc2_w 139, 3) := by decide +kernel
theorem dX4_law_6 : decode cX4_law 6 = .ok (.invokestatic 80, 3) := by decide +kernel
theorem dX4_law_9 : decode cX4_law 9 = .ok (.ifCond .ne 6, 3) := by decide +kernel
theorem dX4_law_12 : decode cX4_law 12 = .ok (.bipush (-2), 2) := by decide +kernel
theorem dX4_law_14 : decode cX4_law 14 = .ok (.ireturn, 1) := by decide +kernel
theorem dX4_law_15 : decode cX4_law 15 = .ok (.aload_n 0, 1) := by decide +kernel
theorem dX4_law_16 : decode cX4_law 16 = .ok (.getfield 74, 3) := by decide +kernel
theorem dX4_law_19 : decode cX4_law 19 = .ok (.ifCond .ne 6, 3) := by decide +kernel
theorem dX4_law_22 : decode cX4_law 22 = .ok (.bipush (-3), 2) := by decide +kernel
theorem dX4_law_24 : decode cX4_law 24 = .ok (.ireturn, 1) := by decide +kernel
theorem dX4_law_25 : decode cX4_law 25 = .ok (.aload_n 0, 1) := by decide +kernel
theorem dX4_law_26 : decode cX4_law 26 = .ok (.getfield 149, 3) := by decide +kernel
theorem dX4_law_29 : decode cX4_law 29 = .ok (.istore_n 2, 1) := by decide +kernel
theorem dX4_law_30 : decode cX4_law 30 = .ok (.aload_n 0, 1) := by decide +kernel
theorem dX4_law_31 : decode cX4_law 31 = .ok (.iload_n 1, 1) := by decide +kernel
theorem dX4_law_32 : decode cX4_law 32 = .ok (.putfield 149, 3) := by decide +kernel
theorem dX4_law_35 : decode cX4_law 35 = .ok (.iload_n 2, 1) := by decide +kernel
theorem dX4_law_36 : decode cX4_law 36 = .ok (.ireturn, 1) := by decide +kernel
set_option maxRecDepth 20000 in
theorem ggX4_turn_X4_noWork : GoodIn wsX4_turn wsX4_noWork := goodIn_r _ [7, 8, 9, 10, 6, 11, 12, 13, 14, 15, 16, 17, 18, 19, 20, 21, 22, 23, 24, 25, 26, 27, 28, 29, 30, 31, 32, 33, 34, 35, 36, 37, 38, 39, 40, 41, 42, 43] (by decide +kernel) (by decide +kernel)
set_option maxRecDepth 20000 in
theorem gX4_turn_X4_noWork : GoodIn wsX4_turn (wsV RX4 161 RX4 yX4_noWork wsX4_noWork) := goodIn_app (goodIn_of _ (by decide +kernel)) ggX4_turn_X4_noWork
set_option maxRecDepth 20000 in
theorem ggX4_turn_X4_in : GoodIn wsX4_turn wsX4_in := goodIn_r _ [11] (by decide +kernel) (by decide +kernel)
set_option maxRecDepth 20000 in
theorem gX4_turn_X4_in : GoodIn wsX4_turn (va_wsS RX4 80 yX4_in wsX4_in) := goodIn_app (goodIn_of _ (by decide +kernel)) ggX4_turn_X4_in
theorem dX4_turn_0 : decode cX4_turn 0 = .ok (.aload_n 0, 1) := by decide +kernel
theorem dX4_turn_1 : decode cX4_turn 1 = .ok (.iload_n 1, 1) := by decide +kernel
theorem dX4_turn_2 : decode cX4_turn 2 = .ok (.invokevirtual 161, 3) := by decide +kernel
theorem dX4_turn_5 : decode cX4_turn 5 = .ok (.ifCond .eq 5, 3) := by decide +kernel
theorem dX4_turn_8 : decode cX4_turn 8 = .ok (.iconst (-1), 1) := by decide +kernel
theorem dX4_turn_9 : decode cX4_turn 9 = .ok (.ireturn, 1) := by decide +kernel
theorem dX4_turn_10 : decode cX4_turn 10 = .ok (.iload_n 2, 1) := by decide +kernel
theorem dX4_turn_11 : decode cX4_turn 11 = .ok (.i2l, 1) := by decide +kernel
theorem dX4_turn_12 : decode cX4_turn 12 = .ok (.lconst 0, 1) := by decide +kernel
theorem dX4_turn_13 : decode cX4_turn 13 = .ok (.ldc2_w 164, 3) := by decide +kernel
theorem dX4_turn_16 : decode cX4_turn 16 = .ok (.invokestatic 80, 3) := by decide +kernel
theorem dX4_turn_19 : decode cX4_turn 19 = .ok (.ifCond .ne 6, 3) := by decide +kernel
theorem dX4_turn_22 : decode cX4_turn 22 = .ok (.bipush (-2), 2) := by decide +kernel
theorem dX4_turn_24 : decode cX4_turn 24 = .ok (.ireturn, 1) := by decide +kernel
theorem dX4_turn_25 : decode cX4_turn 25 = .ok (.aload_n 0, 1) := by decide +kernel
theorem dX4_turn_26 : decode cX4_turn 26 = .ok (.getfield 16, 3) := by decide +kernel
theorem dX4_turn_29 : decode cX4_turn 29 = .ok (.iload_n 1, 1) := by decide +kernel
theorem dX4_turn_30 : decode cX4_turn 30 = .ok (.iaload, 1) := by decide +kernel
theorem dX4_turn_31 : decode cX4_turn 31 = .ok (.istore_n 3, 1) := by decide +kernel
theorem dX4_turn_32 : decode cX4_turn 32 = .ok (.aload_n 0, 1) := by decide +kernel
theorem dX4_turn_33 : decode cX4_turn 33 = .ok (.getfield 16, 3) := by decide +kernel
theorem dX4_turn_36 : decode cX4_turn 36 = .ok (.iload_n 1, 1) := by decide +kernel
theorem dX4_turn_37 : decode cX4_turn 37 = .ok (.iload_n 2, 1) := by decide +kernel
theorem dX4_turn_38 : decode cX4_turn 38 = .ok (.iastore, 1) := by decide +kernel
theorem dX4_turn_39 : decode cX4_turn 39 = .ok (.iload_n 3, 1) := by decide +kernel
theorem dX4_turn_40 : decode cX4_turn 40 = .ok (.ireturn, 1) := by decide +kernel
theorem dX4_comesTo_0 : decode cX4_comesTo 0 = .ok (.iload_n 2, 1) := by decide +kernel
theorem dX4_comesTo_1 : decode cX4_comesTo 1 = .ok (.aload_n 0, 1) := by decide +kernel
theorem dX4_comesTo_2 : decode cX4_comesTo 2 = .ok (.getfield 77, 3) := by decide +kernel
theorem dX4_comesTo_5 : decode cX4_comesTo 5 = .ok (.idiv, 1) := by decide +kernel
theorem dX4_comesTo_6 : decode cX4_comesTo 6 = .ok (.aload_n 0, 1) := by decide +kernel
theorem dX4_comesTo_7 : decode cX4_comesTo 7 = .ok (.getfield 7, 3) := by decide +kernel
theorem dX4_comesTo_10 : decode cX4_comesTo 10 = .ok (.iload_n 1, 1) := by decide +kernel
theorem dX4_comesTo_11 : decode cX4_comesTo 11 = .ok (.iaload, 1) := by decide +kernel
theorem dX4_comesTo_12 : decode cX4_comesTo 12 = .ok (.aload_n 0, 1) := by decide +kernel
theorem dX4_comesTo_13 : decode cX4_comesTo 13 = .ok (.getfield 77, 3) := by decide +kernel
theorem dX4_comesTo_16 : decode cX4_comesTo 16 = .ok (.idiv, 1) := by decide +kernel
theorem dX4_comesTo_17 : decode cX4_comesTo 17 = .ok (.isub, 1) := by decide +kernel
theorem dX4_comesTo_18 : decode cX4_comesTo 18 = .ok (.istore_n 3, 1) := by decide +kernel
theorem dX4_comesTo_19 : decode cX4_comesTo 19 = .ok (.iload_n 2, 1) := by decide +kernel
theorem dX4_comesTo_20 : decode cX4_comesTo 20 = .ok (.aload_n 0, 1) := by decide +kernel
theorem dX4_comesTo_21 : decode cX4_comesTo 21 = .ok (.getfield 77, 3) := by decide +kernel
theorem dX4_comesTo_24 : decode cX4_comesTo 24 = .ok (.irem, 1) := by decide +kernel
theorem dX4_comesTo_25 : decode cX4_comesTo 25 = .ok (.aload_n 0, 1) := by decide +kernel
theorem dX4_comesTo_26 : decode cX4_comesTo 26 = .ok (.getfield 7, 3) := by decide +kernel
theorem dX4_comesTo_29 : decode cX4_comesTo 29 = .ok (.iload_n 1, 1) := by decide +kernel
theorem dX4_comesTo_30 : decode cX4_comesTo 30 = .ok (.iaload, 1) := by decide +kernel
theorem dX4_comesTo_31 : decode cX4_comesTo 31 = .ok (.aload_n 0, 1) := by decide +kernel
theorem dX4_comesTo_32 : decode cX4_comesTo 32 = .ok (.getfield 77, 3) := by decide +kernel
theorem dX4_comesTo_35 : decode cX4_comesTo 35 = .ok (.irem, 1) := by decide +kernel
theorem dX4_comesTo_36 : decode cX4_comesTo 36 = .ok (.isub, 1) := by decide +kernel
theorem dX4_comesTo_37 : decode cX4_comesTo 37 = .ok (.istore 4, 2) := by decide +kernel
theorem dX4_comesTo_39 : decode cX4_comesTo 39 = .ok (.aload_n 0, 1) := by decide +kernel
theorem dX4_comesTo_40 : decode cX4_comesTo 40 = .ok (.getfield 16, 3) := by decide +kernel
theorem dX4_comesTo_43 : decode cX4_comesTo 43 = .ok (.iload_n 1, 1) := by decide +kernel
theorem dX4_comesTo_44 : decode cX4_comesTo 44 = .ok (.iaload, 1) := by decide +kernel
theorem dX4_comesTo_45 : decode cX4_comesTo 45 = .ok (.iconst 2, 1) := by decide +kernel
theorem dX4_comesTo_46 : decode cX4_comesTo 46 = .ok (.irem, 1) := by decide +kernel
theorem dX4_comesTo_47 : decode cX4_comesTo 47 = .ok (.ifCond .ne 16, 3) := by decide +kernel
theorem dX4_comesTo_50 : decode cX4_comesTo 50 = .ok (.iload 4, 2) := by decide +kernel
theorem dX4_comesTo_52 : decode cX4_comesTo 52 = .ok (.ifCond .ne 7, 3) := by decide +kernel
theorem dX4_comesTo_55 : decode cX4_comesTo 55 = .ok (.iconst 1, 1) := by decide +kernel
theorem dX4_comesTo_56 : decode cX4_comesTo 56 = .ok (.goto 16, 3) := by decide +kernel
theorem dX4_comesTo_59 : decode cX4_comesTo 59 = .ok (.iconst 0, 1) := by decide +kernel
theorem dX4_comesTo_60 : decode cX4_comesTo 60 = .ok (.goto 12, 3) := by decide +kernel
theorem dX4_comesTo_63 : decode cX4_comesTo 63 = .ok (.iload_n 3, 1) := by decide +kernel
theorem dX4_comesTo_64 : decode cX4_comesTo 64 = .ok (.ifCond .ne 7, 3) := by decide +kernel
theorem dX4_comesTo_67 : decode cX4_comesTo 67 = .ok (.iconst 1, 1) := by decide +kernel
theorem dX4_comesTo_68 : decode cX4_comesTo 68 = .ok (.goto 4, 3) := by decide +kernel
theorem dX4_comesTo_71 : decode cX4_comesTo 71 = .ok (.iconst 0, 1) := by decide +kernel
theorem dX4_comesTo_72 : decode cX4_comesTo 72 = .ok (.istore 5, 2) := by decide +kernel
theorem dX4_comesTo_74 : decode cX4_comesTo 74 = .ok (.aload_n 0, 1) := by decide +kernel
theorem dX4_comesTo_75 : decode cX4_comesTo 75 = .ok (.getfield 16, 3) := by decide +kernel
theorem dX4_comesTo_78 : decode cX4_comesTo 78 = .ok (.iload_n 1, 1) := by decide +kernel
theorem dX4_comesTo_79 : decode cX4_comesTo 79 = .ok (.iaload, 1) := by decide +kernel
theorem dX4_comesTo_80 : decode cX4_comesTo 80 = .ok (.ifCond .ne 8, 3) := by decide +kernel
theorem dX4_comesTo_83 : decode cX4_comesTo 83 = .ok (.iload_n 3, 1) := by decide +kernel
theorem dX4_comesTo_84 : decode cX4_comesTo 84 = .ok (.ineg, 1) := by decide +kernel
theorem dX4_comesTo_85 : decode cX4_comesTo 85 = .ok (.goto 35, 3) := by decide +kernel
theorem dX4_comesTo_88 : decode cX4_comesTo 88 = .ok (.aload_n 0, 1) := by decide +kernel
theorem dX4_comesTo_89 : decode cX4_comesTo 89 = .ok (.getfield 16, 3) := by decide +kernel
theorem dX4_comesTo_92 : decode cX4_comesTo 92 = .ok (.iload_n 1, 1) := by decide +kernel
theorem dX4_comesTo_93 : decode cX4_comesTo 93 = .ok (.iaload, 1) := by decide +kernel
theorem dX4_comesTo_94 : decode cX4_comesTo 94 = .ok (.iconst 1, 1) := by decide +kernel
theorem dX4_comesTo_95 : decode cX4_comesTo 95 = .ok (.if_icmp .ne 8, 3) := by decide +kernel
theorem dX4_comesTo_98 : decode cX4_comesTo 98 = .ok (.iload 4, 2) := by decide +kernel
theorem dX4_comesTo_100 : decode cX4_comesTo 100 = .ok (.goto 20, 3) := by decide +kernel
theorem dX4_comesTo_103 : decode cX4_comesTo 103 = .ok (.aload_n 0, 1) := by decide +kernel
theorem dX4_comesTo_104 : decode cX4_comesTo 104 = .ok (.getfield 16, 3) := by decide +kernel
theorem dX4_comesTo_107 : decode cX4_comesTo 107 = .ok (.iload_n 1, 1) := by decide +kernel
theorem dX4_comesTo_108 : decode cX4_comesTo 108 = .ok (.iaload, 1) := by decide +kernel
theorem dX4_comesTo_109 : decode cX4_comesTo 109 = .ok (.iconst 2, 1) := by decide +kernel
theorem dX4_comesTo_110 : decode cX4_comesTo 110 = .ok (.if_icmp .ne 7, 3) := by decide +kernel
theorem dX4_comesTo_113 : decode cX4_comesTo 113 = .ok (.iload_n 3, 1) := by decide +kernel
theorem dX4_comesTo_114 : decode cX4_comesTo 114 = .ok (.goto 6, 3) := by decide +kernel
theorem dX4_comesTo_117 : decode cX4_comesTo 117 = .ok (.iload 4, 2) := by decide +kernel
theorem dX4_comesTo_119 : decode cX4_comesTo 119 = .ok (.ineg, 1) := by decide +kernel
theorem dX4_comesTo_120 : decode cX4_comesTo 120 = .ok (.istore 6, 2) := by decide +kernel
theorem dX4_comesTo_122 : decode cX4_comesTo 122 = .ok (.iload 5, 2) := by decide +kernel
theorem dX4_comesTo_124 : decode cX4_comesTo 124 = .ok (.ifCond .eq 31, 3) := by decide +kernel
theorem dX4_comesTo_127 : decode cX4_comesTo 127 = .ok (.iload 6, 2) := by decide +kernel
theorem dX4_comesTo_129 : decode cX4_comesTo 129 = .ok (.ifCond .lt 26, 3) := by decide +kernel
theorem dX4_comesTo_132 : decode cX4_comesTo 132 = .ok (.iload 6, 2) := by decide +kernel
theorem dX4_comesTo_134 : decode cX4_comesTo 134 = .ok (.aload_n 0, 1) := by decide +kernel
theorem dX4_comesTo_135 : decode cX4_comesTo 135 = .ok (.getfield 13, 3) := by decide +kernel
theorem dX4_comesTo_138 : decode cX4_comesTo 138 = .ok (.iload_n 1, 1) := by decide +kernel
theorem dX4_comesTo_139 : decode cX4_comesTo 139 = .ok (.iaload, 1) := by decide +kernel
theorem dX4_comesTo_140 : decode cX4_comesTo 140 = .ok (.if_icmp .ge 15, 3) := by decide +kernel
theorem dX4_comesTo_143 : decode cX4_comesTo 143 = .ok (.aload_n 0, 1) := by decide +kernel
theorem dX4_comesTo_144 : decode cX4_comesTo 144 = .ok (.getfield 13, 3) := by decide +kernel
theorem dX4_comesTo_147 : decode cX4_comesTo 147 = .ok (.iload_n 1, 1) := by decide +kernel
theorem dX4_comesTo_148 : decode cX4_comesTo 148 = .ok (.iaload, 1) := by decide +kernel
theorem dX4_comesTo_149 : decode cX4_comesTo 149 = .ok (.iload 6, 2) := by decide +kernel
theorem dX4_comesTo_151 : decode cX4_comesTo 151 = .ok (.isub, 1) := by decide +kernel
theorem dX4_comesTo_152 : decode cX4_comesTo 152 = .ok (.goto 4, 3) := by decide +kernel
theorem dX4_comesTo_155 : decode cX4_comesTo 155 = .ok (.iconst 0, 1) := by decide +kernel
theorem dX4_comesTo_156 : decode cX4_comesTo 156 = .ok (.ireturn, 1) := by decide +kernel
set_option maxRecDepth 20000 in
theorem ggX4_smellOf_X4_comesTo : GoodIn wsX4_smellOf wsX4_comesTo := goodIn_r _ [7, 8, 9, 10, 11, 12, 13, 14, 15, 16, 17, 18, 19, 20, 21, 22, 23, 24, 25, 26, 27, 28, 29, 30, 31, 32, 33, 34, 35, 36, 37, 38, 39, 40, 41, 42, 43] (by decide +kernel) (by decide +kernel)
set_option maxRecDepth 20000 in
theorem gX4_smellOf_X4_comesTo : GoodIn wsX4_smellOf (wsV RX4 166 RX4 yX4_comesTo wsX4_comesTo) := goodIn_app (goodIn_of _ (by decide +kernel)) ggX4_smellOf_X4_comesTo
theorem dX4_smellOf_0 : decode cX4_smellOf 0 = .ok (.iconst 0, 1) := by decide +kernel
theorem dX4_smellOf_1 : decode cX4_smellOf 1 = .ok (.istore_n 2, 1) := by decide +kernel
theorem dX4_smellOf_2 : decode cX4_smellOf 2 = .ok (.iconst 0, 1) := by decide +kernel
theorem dX4_smellOf_3 : decode cX4_smellOf 3 = .ok (.istore_n 3, 1) := by decide +kernel
theorem dX4_smellOf_4 : decode cX4_smellOf 4 = .ok (.iload_n 3, 1) := by decide +kernel
theorem dX4_smellOf_5 : decode cX4_smellOf 5 = .ok (.aload_n 0, 1) := by decide +kernel
theorem dX4_smellOf_6 : decode cX4_smellOf 6 = .ok (.getfield 84, 3) := by decide +kernel
theorem dX4_smellOf_9 : decode cX4_smellOf 9 = .ok (.if_icmp .ge 89, 3) := by decide +kernel
theorem dX4_smellOf_12 : decode cX4_smellOf 12 = .ok (.aload_n 0, 1) := by decide +kernel
theorem dX4_smellOf_13 : decode cX4_smellOf 13 = .ok (.iload_n 3, 1) := by decide +kernel
theorem dX4_smellOf_14 : decode cX4_smellOf 14 = .ok (.iload_n 1, 1) := by decide +kernel
theorem dX4_smellOf_15 : decode cX4_smellOf 15 = .ok (.invokevirtual 166, 3) := by decide +kernel
theorem dX4_smellOf_18 : decode cX4_smellOf 18 = .ok (.istore 4, 2) := by decide +kernel
theorem dX4_smellOf_20 : decode cX4_smellOf 20 = .ok (.iload_n 2, 1) := by decide +kernel
theorem dX4_smellOf_21 : decode cX4_smellOf 21 = .ok (.iload 4, 2) := by decide +kernel
theorem dX4_smellOf_23 : decode cX4_smellOf 23 = .ok (.if_icmp .le 10, 3) := by decide +kernel
theorem dX4_smellOf_26 : decode cX4_smellOf 26 = .ok (.iload_n 2, 1) := by decide +kernel
theorem dX4_smellOf_27 : decode cX4_smellOf 27 = .ok (.iload 4, 2) := by decide +kernel
theorem dX4_smellOf_29 : decode cX4_smellOf 29 = .ok (.isub, 1) := by decide +kernel
theorem dX4_smellOf_30 : decode cX4_smellOf 30 = .ok (.goto 7, 3) := by decide +kernel
theorem dX4_smellOf_33 : decode cX4_smellOf 33 = .ok (.iload 4, 2) := by decide +kernel
theorem dX4_smellOf_35 : decode cX4_smellOf 35 = .ok (.iload_n 2, 1) := by decide +kernel
theorem dX4_smellOf_36 : decode cX4_smellOf 36 = .ok (.isub, 1) := by decide +kernel
theorem dX4_smellOf_37 : decode cX4_smellOf 37 = .ok (.istore 5, 2) := by decide +kernel
theorem dX4_smellOf_39 : decode cX4_smellOf 39 = .ok (.iload 4, 2) := by decide +kernel
theorem dX4_smellOf_41 : decode cX4_smellOf 41 = .ok (.iload_n 2, 1) := by decide +kernel
theorem dX4_smellOf_42 : decode cX4_smellOf 42 = .ok (.if_icmp .le 8, 3) := by decide +kernel
theorem dX4_smellOf_45 : decode cX4_smellOf 45 = .ok (.iload 4, 2) := by decide +kernel
theorem dX4_smellOf_47 : decode cX4_smellOf 47 = .ok (.goto 4, 3) := by decide +kernel
theorem dX4_smellOf_50 : decode cX4_smellOf 50 = .ok (.iload_n 2, 1) := by decide +kernel
theorem dX4_smellOf_51 : decode cX4_smellOf 51 = .ok (.istore 6, 2) := by decide +kernel
theorem dX4_smellOf_53 : decode cX4_smellOf 53 = .ok (.aload_n 0, 1) := by decide +kernel
theorem dX4_smellOf_54 : decode cX4_smellOf 54 = .ok (.getfield 149, 3) := by decide +kernel
theorem dX4_smellOf_57 : decode cX4_smellOf 57 = .ok (.ifCond .ne 10, 3) := by decide +kernel
theorem dX4_smellOf_60 : decode cX4_smellOf 60 = .ok (.iload_n 2, 1) := by decide +kernel
theorem dX4_smellOf_61 : decode cX4_smellOf 61 = .ok (.iload 4, 2) := by decide +kernel
theorem dX4_smellOf_63 : decode cX4_smellOf 63 = .ok (.iadd, 1) := by decide +kernel
theorem dX4_smellOf_64 : decode cX4_smellOf 64 = .ok (.goto 27, 3) := by decide +kernel
theorem dX4_smellOf_67 : decode cX4_smellOf 67 = .ok (.aload_n 0, 1) := by decide +kernel
theorem dX4_smellOf_68 : decode cX4_smellOf 68 = .ok (.getfield 149, 3) := by decide +kernel
theorem dX4_smellOf_71 : decode cX4_smellOf 71 = .ok (.iconst 1, 1) := by decide +kernel
theorem dX4_smellOf_72 : decode cX4_smellOf 72 = .ok (.if_icmp .ne 8, 3) := by decide +kernel
theorem dX4_smellOf_75 : decode cX4_smellOf 75 = .ok (.iload 6, 2) := by decide +kernel
theorem dX4_smellOf_77 : decode cX4_smellOf 77 = .ok (.goto 14, 3) := by decide +kernel
theorem dX4_smellOf_80 : decode cX4_smellOf 80 = .ok (.iload 4, 2) := by decide +kernel
theorem dX4_smellOf_82 : decode cX4_smellOf 82 = .ok (.ifCond .le 8, 3) := by decide +kernel
theorem dX4_smellOf_85 : decode cX4_smellOf 85 = .ok (.iload 5, 2) := by decide +kernel
theorem dX4_smellOf_87 : decode cX4_smellOf 87 = .ok (.goto 4, 3) := by decide +kernel
theorem dX4_smellOf_90 : decode cX4_smellOf 90 = .ok (.iload_n 2, 1) := by decide +kernel
theorem dX4_smellOf_91 : decode cX4_smellOf 91 = .ok (.istore_n 2, 1) := by decide +kernel
theorem dX4_smellOf_92 : decode cX4_smellOf 92 = .ok (.iinc 3 1, 3) := by decide +kernel
theorem dX4_smellOf_95 : decode cX4_smellOf 95 = .ok (.goto (-91), 3) := by decide +kernel
theorem dX4_smellOf_98 : decode cX4_smellOf 98 = .ok (.iload_n 2, 1) := by decide +kernel
theorem dX4_smellOf_99 : decode cX4_smellOf 99 = .ok (.ireturn, 1) := by decide +kernel
set_option maxRecDepth 20000 in
theorem ggX4_smell_X4_noSpot : GoodIn wsX4_smell wsX4_noSpot := goodIn_r _ [5, 6, 7, 8, 9, 4, 10, 24, 25, 26, 27, 28, 29, 30, 31, 32, 33, 34, 35, 36, 37, 38, 39, 40, 41, 42, 43, 44, 45, 46, 47, 48, 49, 50, 51, 52, 53, 54, 55] (by decide +kernel) (by decide +kernel)
set_option maxRecDepth 20000 in
theorem gX4_smell_X4_noSpot : GoodIn wsX4_smell (wsV RX4 169 RX4 yX4_noSpot wsX4_noSpot) := goodIn_app (goodIn_of _ (by decide +kernel)) ggX4_smell_X4_noSpot
set_option maxRecDepth 20000 in
theorem ggX4_smell_X4_smellOf : GoodIn wsX4_smell wsX4_smellOf := goodIn_r _ [14, 15, 16, 17, 18, 19, 4, 20, 7, 21, 22, 23, 24, 25, 26, 27, 28, 29, 30, 31, 32, 33, 34, 35, 36, 37, 38, 39, 40, 41, 42, 43, 44, 45, 46, 47, 48, 49, 50, 51, 52, 53, 54, 55] (by decide +kernel) (by decide +kernel)
set_option maxRecDepth 20000 in
theorem gX4_smell_X4_smellOf : GoodIn wsX4_smell (wsV RX4 172 RX4 yX4_smellOf wsX4_smellOf) := goodIn_app (goodIn_of _ (by decide +kernel)) ggX4_smell_X4_smellOf
theorem dX4_smell_0 : decode cX4_smell 0 = .ok (.aload_n 0, 1) := by decide +kernel
theorem dX4_smell_1 : decode cX4_smell 1 = .ok (.iload_n 1, 1) := by decide +kernel
theorem dX4_smell_2 : decode cX4_smell 2 = .ok (.invokevirtual 169, 3) := by decide +kernel
theorem dX4_smell_5 : decode cX4_smell 5 = .ok (.ifCond .eq 7, 3) := by decide +kernel
theorem dX4_smell_8 : decode cX4_smell 8 = .ok (.iconst (-1), 1) := by decide +kernel
theorem dX4_smell_9 : decode cX4_smell 9 = .ok (.goto 8, 3) := by decide +kernel
theorem dX4_smell_12 : decode cX4_smell 12 = .ok (.aload_n 0, 1) := by decide +kernel
theorem dX4_smell_13 : decode cX4_smell 13 = .ok (.iload_n 1, 1) := by decide +kernel
theorem dX4_smell_14 : decode cX4_smell 14 = .ok (.invokevirtual 172, 3) := by decide +kernel
theorem dX4_smell_17 : decode cX4_smell 17 = .ok (.ireturn, 1) := by decide +kernel
set_option maxRecDepth 20000 in
theorem ggX4_mindsNow_X4_mindsOfOne : GoodIn wsX4_mindsNow wsX4_mindsOfOne := goodIn_r _ [6, 7, 8, 23, 24, 25, 26, 27, 28, 29, 30, 31, 32, 33, 34, 35, 36, 37, 38, 39, 40, 41, 42, 43, 44, 45, 46, 47, 48, 49, 50, 51, 52, 53, 54] (by decide +kernel) (by decide +kernel)
set_option maxRecDepth 20000 in
theorem gX4_mindsNow_X4_mindsOfOne : GoodIn wsX4_mindsNow (wsV RX4 158 RX4 yX4_mindsOfOne wsX4_mindsOfOne) := goodIn_app (goodIn_of _ (by decide +kernel)) ggX4_mindsNow_X4_mindsOfOne
set_option maxRecDepth 20000 in
theorem ggX4_mindsNow_X4_smellOf : GoodIn wsX4_mindsNow wsX4_smellOf := goodIn_r _ [12, 13, 14, 15, 16, 17, 5, 18, 19, 20, 21, 22, 23, 24, 25, 26, 27, 28, 29, 30, 31, 32, 33, 34, 35, 36, 37, 38, 39, 40, 41, 42, 43, 44, 45, 46, 47, 48, 49, 50, 51, 52, 53, 54] (by decide +kernel) (by decide +kernel)
set_option maxRecDepth 20000 in
theorem gX4_mindsNow_X4_smellOf : GoodIn wsX4_mindsNow (wsV RX4 172 RX4 yX4_smellOf wsX4_smellOf) := goodIn_app (goodIn_of _ (by decide +kernel)) ggX4_mindsNow_X4_smellOf
theorem dX4_mindsNow_0 : decode cX4_mindsNow 0 = .ok (.aload_n 0, 1) := by decide +kernel
theorem dX4_mindsNow_1 : decode cX4_mindsNow 1 = .ok (.iload_n 1, 1) := by decide +kernel
theorem dX4_mindsNow_2 : decode cX4_mindsNow 2 = .ok (.invokevirtual 158, 3) := by decide +kernel
theorem dX4_mindsNow_5 : decode cX4_mindsNow 5 = .ok (.aload_n 0, 1) := by decide +kernel
theorem dX4_mindsNow_6 : decode cX4_mindsNow 6 = .ok (.aload_n 0, 1) := by decide +kernel
theorem dX4_mindsNow_7 : decode cX4_mindsNow 7 = .ok (.getfield 19, 3) := by decide +kernel
theorem dX4_mindsNow_10 : decode cX4_mindsNow 10 = .ok (.iload_n 1, 1) := by decide +kernel
theorem dX4_mindsNow_11 : decode cX4_mindsNow 11 = .ok (.iaload, 1) := by decide +kernel
theorem dX4_mindsNow_12 : decode cX4_mindsNow 12 = .ok (.invokevirtual 172, 3) := by decide +kernel
theorem dX4_mindsNow_15 : decode cX4_mindsNow 15 = .ok (.imul, 1) := by decide +kernel
theorem dX4_mindsNow_16 : decode cX4_mindsNow 16 = .ok (.ireturn, 1) := by decide +kernel
set_option maxRecDepth 20000 in
theorem ggX4_minds_X4_noWard : GoodIn wsX4_minds wsX4_noWard := goodIn_r _ [5, 6, 7, 8, 4, 9, 35, 36, 37, 38, 39, 40, 41, 42, 43, 44, 45, 46, 47, 48, 49, 50, 51, 52, 53, 54, 55, 56, 57, 58, 59, 60, 61, 62, 63, 64, 65, 66] (by decide +kernel) (by decide +kernel)
set_option maxRecDepth 20000 in
theorem gX4_minds_X4_noWard : GoodIn wsX4_minds (wsV RX4 155 RX4 yX4_noWard wsX4_noWard) := goodIn_app (goodIn_of _ (by decide +kernel)) ggX4_minds_X4_noWard
set_option maxRecDepth 20000 in
theorem ggX4_minds_X4_mindsNow : GoodIn wsX4_minds wsX4_mindsNow := goodIn_r _ [13, 14, 15, 16, 17, 4, 18, 19, 20, 21, 22, 23, 24, 25, 26, 27, 28, 29, 30, 31, 32, 33, 34, 35, 36, 37, 38, 39, 40, 41, 42, 43, 44, 45, 46, 47, 48, 49, 50, 51, 52, 53, 54, 55, 56, 57, 58, 59, 60, 61, 62, 63, 64, 65, 66] (by decide +kernel) (by decide +kernel)
set_option maxRecDepth 20000 in
theorem gX4_minds_X4_mindsNow : GoodIn wsX4_minds (wsV RX4 175 RX4 yX4_mindsNow wsX4_mindsNow) := goodIn_app (goodIn_of _ (by decide +kernel)) ggX4_minds_X4_mindsNow
theorem dX4_minds_0 : decode cX4_minds 0 = .ok (.aload_n 0, 1) := by decide +kernel
theorem dX4_minds_1 : decode cX4_minds 1 = .ok (.iload_n 1, 1) := by decide +kernel
theorem dX4_minds_2 : decode cX4_minds 2 = .ok (.invokevirtual 155, 3) := by decide +kernel
theorem dX4_minds_5 : decode cX4_minds 5 = .ok (.ifCond .eq 7, 3) := by decide +kernel
theorem dX4_minds_8 : decode cX4_minds 8 = .ok (.iconst (-1), 1) := by decide +kernel
theorem dX4_minds_9 : decode cX4_minds 9 = .ok (.goto 8, 3) := by decide +kernel
theorem dX4_minds_12 : decode cX4_minds 12 = .ok (.aload_n 0, 1) := by decide +kernel
theorem dX4_minds_13 : decode cX4_minds 13 = .ok (.iload_n 1, 1) := by decide +kernel
theorem dX4_minds_14 : decode cX4_minds 14 = .ok (.invokevirtual 175, 3) := by decide +kernel
theorem dX4_minds_17 : decode cX4_minds 17 = .ok (.ireturn, 1) := by decide +kernel
set_option maxRecDepth 20000 in
theorem ggX4_burdenNow_X4_mindsNow : GoodIn wsX4_burdenNow wsX4_mindsNow := goodIn_r _ [6, 7, 8, 9, 10, 5, 11, 12, 13, 14, 15, 16, 17, 18, 19, 20, 21, 22, 23, 24, 25, 26, 27, 28, 29, 30, 31, 32, 33, 34, 35, 36, 37, 38, 39, 40, 41, 42, 43, 44, 45, 46, 47, 48, 49, 50, 51, 52, 53, 54, 55, 56, 57, 58, 59] (by decide +kernel) (by decide +kernel)
set_option maxRecDepth 20000 in
theorem gX4_burdenNow_X4_mindsNow : GoodIn wsX4_burdenNow (wsV RX4 175 RX4 yX4_mindsNow wsX4_mindsNow) := goodIn_app (goodIn_of _ (by decide +kernel)) ggX4_burdenNow_X4_mindsNow
theorem dX4_burdenNow_0 : decode cX4_burdenNow 0 = .ok (.iconst 0, 1) := by decide +kernel
theorem dX4_burdenNow_1 : decode cX4_burdenNow 1 = .ok (.istore_n 1, 1) := by decide +kernel
theorem dX4_burdenNow_2 : decode cX4_burdenNow 2 = .ok (.iconst 0, 1) := by decide +kernel
theorem dX4_burdenNow_3 : decode cX4_burdenNow 3 = .ok (.istore_n 2, 1) := by decide +kernel
theorem dX4_burdenNow_4 : decode cX4_burdenNow 4 = .ok (.iload_n 2, 1) := by decide +kernel
theorem dX4_burdenNow_5 : decode cX4_burdenNow 5 = .ok (.aload_n 0, 1) := by decide +kernel
theorem dX4_burdenNow_6 : decode cX4_burdenNow 6 = .ok (.getfield 87, 3) := by decide +kernel
theorem dX4_burdenNow_9 : decode cX4_burdenNow 9 = .ok (.if_icmp .ge 17, 3) := by decide +kernel
theorem dX4_burdenNow_12 : decode cX4_burdenNow 12 = .ok (.iload_n 1, 1) := by decide +kernel
theorem dX4_burdenNow_13 : decode cX4_burdenNow 13 = .ok (.aload_n 0, 1) := by decide +kernel
theorem dX4_burdenNow_14 : decode cX4_burdenNow 14 = .ok (.iload_n 2, 1) := by decide +kernel
theorem dX4_burdenNow_15 : decode cX4_burdenNow 15 = .ok (.invokevirtual 175, 3) := by decide +kernel
theorem dX4_burdenNow_18 : decode cX4_burdenNow 18 = .ok (.iadd, 1) := by decide +kernel
theorem dX4_burdenNow_19 : decode cX4_burdenNow 19 = .ok (.istore_n 1, 1) := by decide +kernel
theorem dX4_burdenNow_20 : decode cX4_burdenNow 20 = .ok (.iinc 2 1, 3) := by decide +kernel
theorem dX4_burdenNow_23 : decode cX4_burdenNow 23 = .ok (.goto (-19), 3) := by decide +kernel
theorem dX4_burdenNow_26 : decode cX4_burdenNow 26 = .ok (.iload_n 1, 1) := by decide +kernel
theorem dX4_burdenNow_27 : decode cX4_burdenNow 27 = .ok (.ireturn, 1) := by decide +kernel
set_option maxRecDepth 20000 in
theorem ggX4_burden_X4_burdenNow : GoodIn wsX4_burden wsX4_burdenNow := goodIn_r _ [6, 7, 8, 9, 10, 5, 11, 12, 13, 14, 15, 16, 17, 18, 19, 20, 21, 22, 23, 24, 25, 26, 27, 28, 29, 30, 31, 32, 33, 34, 35, 36, 37, 38, 39, 40, 41, 42, 43, 44, 45, 46, 47, 48, 49, 50, 51, 52, 53, 54, 55, 56, 57, 58, 59, 60, 61, 62, 63, 64] (by decide +kernel) (by decide +kernel)
set_option maxRecDepth 20000 in
theorem gX4_burden_X4_burdenNow : GoodIn wsX4_burden (wsV RX4 178 RX4 yX4_burdenNow wsX4_burdenNow) := goodIn_app (goodIn_of _ (by decide +kernel)) ggX4_burden_X4_burdenNow
theorem dX4_burden_0 : decode cX4_burden 0 = .ok (.aload_n 0, 1) := by decide +kernel
theorem dX4_burden_1 : decode cX4_burden 1 = .ok (.getfield 74, 3) := by decide +kernel
theorem dX4_burden_4 : decode cX4_burden 4 = .ok (.ifCond .ne 8, 3) := by decide +kernel
theorem dX4_burden_7 : decode cX4_burden 7 = .ok (.bipush (-3), 2) := by decide +kernel
theorem dX4_burden_9 : decode cX4_burden 9 = .ok (.goto 7, 3) := by decide +kernel
theorem dX4_burden_12 : decode cX4_burden 12 = .ok (.aload_n 0, 1) := by decide +kernel
theorem dX4_burden_13 : decode cX4_burden 13 = .ok (.invokevirtual 178, 3) := by decide +kernel
theorem dX4_burden_16 : decode cX4_burden 16 = .ok (.ireturn, 1) := by decide +kernel
theorem dX4_vanesNow_0 : decode cX4_vanesNow 0 = .ok (.iconst 0, 1) := by decide +kernel
theorem dX4_vanesNow_1 : decode cX4_vanesNow 1 = .ok (.istore_n 1, 1) := by decide +kernel
theorem dX4_vanesNow_2 : decode cX4_vanesNow 2 = .ok (.iconst 0, 1) := by decide +kernel
theorem dX4_vanesNow_3 : decode cX4_vanesNow 3 = .ok (.istore_n 2, 1) := by decide +kernel
theorem dX4_vanesNow_4 : decode cX4_vanesNow 4 = .ok (.iload_n 2, 1) := by decide +kernel
theorem dX4_vanesNow_5 : decode cX4_vanesNow 5 = .ok (.aload_n 0, 1) := by decide +kernel
theorem dX4_vanesNow_6 : decode cX4_vanesNow 6 = .ok (.getfield 84, 3) := by decide +kernel
theorem dX4_vanesNow_9 : decode cX4_vanesNow 9 = .ok (.if_icmp .ge 20, 3) := by decide +kernel
theorem dX4_vanesNow_12 : decode cX4_vanesNow 12 = .ok (.iconst 4, 1) := by decide +kernel
theorem dX4_vanesNow_13 : decode cX4_vanesNow 13 = .ok (.iload_n 1, 1) := by decide +kernel
theorem dX4_vanesNow_14 : decode cX4_vanesNow 14 = .ok (.imul, 1) := by decide +kernel
theorem dX4_vanesNow_15 : decode cX4_vanesNow 15 = .ok (.aload_n 0, 1) := by decide +kernel
theorem dX4_vanesNow_16 : decode cX4_vanesNow 16 = .ok (.getfield 16, 3) := by decide +kernel
theorem dX4_vanesNow_19 : decode cX4_vanesNow 19 = .ok (.iload_n 2, 1) := by decide +kernel
theorem dX4_vanesNow_20 : decode cX4_vanesNow 20 = .ok (.iaload, 1) := by decide +kernel
theorem dX4_vanesNow_21 : decode cX4_vanesNow 21 = .ok (.iadd, 1) := by decide +kernel
theorem dX4_vanesNow_22 : decode cX4_vanesNow 22 = .ok (.istore_n 1, 1) := by decide +kernel
theorem dX4_vanesNow_23 : decode cX4_vanesNow 23 = .ok (.iinc 2 1, 3) := by decide +kernel
theorem dX4_vanesNow_26 : decode cX4_vanesNow 26 = .ok (.goto (-22), 3) := by decide +kernel
theorem dX4_vanesNow_29 : decode cX4_vanesNow 29 = .ok (.iload_n 1, 1) := by decide +kernel
theorem dX4_vanesNow_30 : decode cX4_vanesNow 30 = .ok (.ireturn, 1) := by decide +kernel
theorem dX4_turnAll_0 : decode cX4_turnAll 0 = .ok (.iload_n 1, 1) := by decide +kernel
theorem dX4_turnAll_1 : decode cX4_turnAll 1 = .ok (.istore_n 2, 1) := by decide +kernel
theorem dX4_turnAll_2 : decode cX4_turnAll 2 = .ok (.aload_n 0, 1) := by decide +kernel
theorem dX4_turnAll_3 : decode cX4_turnAll 3 = .ok (.getfield 84, 3) := by decide +kernel
theorem dX4_turnAll_6 : decode cX4_turnAll 6 = .ok (.iconst 1, 1) := by decide +kernel
theorem dX4_turnAll_7 : decode cX4_turnAll 7 = .ok (.isub, 1) := by decide +kernel
theorem dX4_turnAll_8 : decode cX4_turnAll 8 = .ok (.istore_n 3, 1) := by decide +kernel
theorem dX4_turnAll_9 : decode cX4_turnAll 9 = .ok (.iload_n 3, 1) := by decide +kernel
theorem dX4_turnAll_10 : decode cX4_turnAll 10 = .ok (.ifCond .lt 22, 3) := by decide +kernel
theorem dX4_turnAll_13 : decode cX4_turnAll 13 = .ok (.aload_n 0, 1) := by decide +kernel
theorem dX4_turnAll_14 : decode cX4_turnAll 14 = .ok (.getfield 16, 3) := by decide +kernel
theorem dX4_turnAll_17 : decode cX4_turnAll 17 = .ok (.iload_n 3, 1) := by decide +kernel
theorem dX4_turnAll_18 : decode cX4_turnAll 18 = .ok (.iload_n 2, 1) := by decide +kernel
theorem dX4_turnAll_19 : decode cX4_turnAll 19 = .ok (.iconst 4, 1) := by decide +kernel
theorem dX4_turnAll_20 : decode cX4_turnAll 20 = .ok (.irem, 1) := by decide +kernel
theorem dX4_turnAll_21 : decode cX4_turnAll 21 = .ok (.iastore, 1) := by decide +kernel
theorem dX4_turnAll_22 : decode cX4_turnAll 22 = .ok (.iload_n 2, 1) := by decide +kernel
theorem dX4_turnAll_23 : decode cX4_turnAll 23 = .ok (.iconst 4, 1) := by decide +kernel
theorem dX4_turnAll_24 : decode cX4_turnAll 24 = .ok (.idiv, 1) := by decide +kernel
theorem dX4_turnAll_25 : decode cX4_turnAll 25 = .ok (.istore_n 2, 1) := by decide +kernel
theorem dX4_turnAll_26 : decode cX4_turnAll 26 = .ok (.iinc 3 (-1), 3) := by decide +kernel
theorem dX4_turnAll_29 : decode cX4_turnAll 29 = .ok (.goto (-20), 3) := by decide +kernel
theorem dX4_turnAll_32 : decode cX4_turnAll 32 = .ok (.return_, 1) := by decide +kernel
theorem dX4_rows_0 : decode cX4_rows 0 = .ok (.iconst 1, 1) := by decide +kernel
theorem dX4_rows_1 : decode cX4_rows 1 = .ok (.istore_n 1, 1) := by decide +kernel
theorem dX4_rows_2 : decode cX4_rows 2 = .ok (.iconst 0, 1) := by decide +kernel
theorem dX4_rows_3 : decode cX4_rows 3 = .ok (.istore_n 2, 1) := by decide +kernel
theorem dX4_rows_4 : decode cX4_rows 4 = .ok (.iload_n 2, 1) := by decide +kernel
theorem dX4_rows_5 : decode cX4_rows 5 = .ok (.aload_n 0, 1) := by decide +kernel
theorem dX4_rows_6 : decode cX4_rows 6 = .ok (.getfield 84, 3) := by decide +kernel
theorem dX4_rows_9 : decode cX4_rows 9 = .ok (.if_icmp .ge 13, 3) := by decide +kernel
theorem dX4_rows_12 : decode cX4_rows 12 = .ok (.iload_n 1, 1) := by decide +kernel
theorem dX4_rows_13 : decode cX4_rows 13 = .ok (.iconst 4, 1) := by decide +kernel
theorem dX4_rows_14 : decode cX4_rows 14 = .ok (.imul, 1) := by decide +kernel
theorem dX4_rows_15 : decode cX4_rows 15 = .ok (.istore_n 1, 1) := by decide +kernel
theorem dX4_rows_16 : decode cX4_rows 16 = .ok (.iinc 2 1, 3) := by decide +kernel
theorem dX4_rows_19 : decode cX4_rows 19 = .ok (.goto (-15), 3) := by decide +kernel
theorem dX4_rows_22 : decode cX4_rows 22 = .ok (.iload_n 1, 1) := by decide +kernel
theorem dX4_rows_23 : decode cX4_rows 23 = .ok (.ireturn, 1) := by decide +kernel
set_option maxRecDepth 20000 in
theorem ggX4_told_X4_noSheet : GoodIn wsX4_told wsX4_noSheet := goodIn_r _ [10, 5, 11, 12, 9, 13] (by decide +kernel) (by decide +kernel)
set_option maxRecDepth 20000 in
theorem gX4_told_X4_noSheet : GoodIn wsX4_told (va_wsS RX4 132 yX4_noSheet wsX4_noSheet) := goodIn_app (goodIn_of _ (by decide +kernel)) ggX4_told_X4_noSheet
set_option maxRecDepth 20000 in
theorem ggX4_told_X4_refused : GoodIn wsX4_told wsX4_refused := goodIn_r _ [17, 18, 68, 69, 70, 71, 72, 73, 74, 75, 76, 77, 78, 79, 80, 81, 82, 83, 84, 85, 86, 87, 88, 89, 90, 91, 92, 93, 94, 95, 96, 97, 98, 99] (by decide +kernel) (by decide +kernel)
set_option maxRecDepth 20000 in
theorem gX4_told_X4_refused : GoodIn wsX4_told (wsV RX4 136 RX4 yX4_refused wsX4_refused) := goodIn_app (goodIn_of _ (by decide +kernel)) ggX4_told_X4_refused
set_option maxRecDepth 20000 in
theorem ggX4_told_X4_in : GoodIn wsX4_told wsX4_in := goodIn_r _ [13] (by decide +kernel) (by decide +kernel)
set_option maxRecDepth 20000 in
theorem gX4_told_X4_in : GoodIn wsX4_told (va_wsS RX4 80 yX4_in wsX4_in) := goodIn_app (goodIn_of _ (by decide +kernel)) ggX4_told_X4_in
set_option maxRecDepth 20000 in
theorem ggX4_told_X4_cellsBarred : GoodIn wsX4_told wsX4_cellsBarred := goodIn_r _ [22, 23, 24, 25, 26, 27, 9, 28, 18, 29, 30, 31, 68, 69, 70, 71, 72, 73, 74, 75, 76, 77, 78, 79, 80, 81, 82, 83, 84, 85, 86, 87, 88, 89, 90, 91, 92, 93, 94, 95, 96, 97, 98, 99] (by decide +kernel) (by decide +kernel)
set_option maxRecDepth 20000 in
theorem gX4_told_X4_cellsBarred : GoodIn wsX4_told (wsV RX4 141 RX4 yX4_cellsBarred wsX4_cellsBarred) := goodIn_app (goodIn_of _ (by decide +kernel)) ggX4_told_X4_cellsBarred
set_option maxRecDepth 20000 in
theorem ggX4_told_X4_vanesNow : GoodIn wsX4_told wsX4_vanesNow := goodIn_r _ [35, 3, 6, 68, 69, 70, 71, 72, 73, 74, 75, 76, 77, 78, 79, 80, 81, 82, 83, 84, 85, 86, 87, 88, 89, 90, 91, 92, 93, 94, 95, 96, 97, 98, 99] (by decide +kernel) (by decide +kernel)
set_option maxRecDepth 20000 in
theorem gX4_told_X4_vanesNow : GoodIn wsX4_told (wsV RX4 182 RX4 yX4_vanesNow wsX4_vanesNow) := goodIn_app (goodIn_of _ (by decide +kernel)) ggX4_told_X4_vanesNow
set_option maxRecDepth 20000 in
theorem ggX4_told_X4_burdenNow : GoodIn wsX4_told wsX4_burdenNow := goodIn_r _ [39, 40, 41, 42, 43, 9, 44, 45, 46, 47, 48, 49, 50, 51, 52, 53, 54, 55, 3, 56, 57, 58, 59, 60, 61, 62, 6, 63, 68, 69, 70, 71, 72, 73, 74, 75, 76, 77, 78, 79, 80, 81, 82, 83, 84, 85, 86, 87, 88, 89, 90, 91, 92, 93, 94, 95, 96, 97, 98, 99] (by decide +kernel) (by decide +kernel)
set_option maxRecDepth 20000 in
theorem gX4_told_X4_burdenNow : GoodIn wsX4_told (wsV RX4 178 RX4 yX4_burdenNow wsX4_burdenNow) := goodIn_app (goodIn_of _ (by decide +kernel)) ggX4_told_X4_burdenNow
set_option maxRecDepth 20000 in
theorem ggX4_told_X4_turnAll : GoodIn wsX4_told wsX4_turnAll := goodIn_r _ [67, 3, 6, 68, 69, 70, 71, 72, 73, 74, 75, 76, 77, 78, 79, 80, 81, 82, 83, 84, 85, 86, 87, 88, 89, 90, 91, 92, 93, 94, 95, 96, 97, 98, 99] (by decide +kernel) (by decide +kernel)
set_option maxRecDepth 20000 in
theorem gX4_told_X4_turnAll : GoodIn wsX4_told (wsV RX4 185 RX4 yX4_turnAll wsX4_turnAll) := goodIn_app (goodIn_of _ (by decide +kernel)) ggX4_told_X4_turnAll
theorem dX4_told_0 : decode cX4_told 0 = .ok (.iload_n 1, 1) := by decide +kernel
theorem dX4_told_1 : decode cX4_told 1 = .ok (.invokestatic 132, 3) := by decide +kernel
theorem dX4_told_4 : decode cX4_told 4 = .ok (.ifCond .eq 9, 3) := by decide +kernel
theorem dX4_told_7 : decode cX4_told 7 = .ok (.aload_n 0, 1) := by decide +kernel
theorem dX4_told_8 : decode cX4_told 8 = .ok (.iconst (-1), 1) := by decide +kernel
theorem dX4_told_9 : decode cX4_told 9 = .ok (.invokevirtual 136, 3) := by decide +kernel
theorem dX4_told_12 : decode cX4_told 12 = .ok (.ireturn, 1) := by decide +kernel
theorem dX4_told_13 : decode cX4_told 13 = .ok (.iload_n 2, 1) := by decide +kernel
theorem dX4_told_14 : decode cX4_told 14 = .ok (.i2l, 1) := by decide +kernel
theorem dX4_told_15 : decode cX4_told 15 = .ok (.lconst 0, 1) := by decide +kernel
theorem dX4_told_16 : decode cX4_told 16 = .ok (.ldc2_w 139, 3) := by decide +kernel
theorem dX4_told_19 : decode cX4_told 19 = .ok (.invokestatic 80, 3) := by decide +kernel
theorem dX4_told_22 : decode cX4_told 22 = .ok (.ifCond .ne 10, 3) := by decide +kernel
theorem dX4_told_25 : decode cX4_told 25 = .ok (.aload_n 0, 1) := by decide +kernel
theorem dX4_told_26 : decode cX4_told 26 = .ok (.bipush (-2), 2) := by decide +kernel
theorem dX4_told_28 : decode cX4_told 28 = .ok (.invokevirtual 136, 3) := by decide +kernel
theorem dX4_told_31 : decode cX4_told 31 = .ok (.ireturn, 1) := by decide +kernel
theorem dX4_told_32 : decode cX4_told 32 = .ok (.aload_n 0, 1) := by decide +kernel
theorem dX4_told_33 : decode cX4_told 33 = .ok (.getfield 74, 3) := by decide +kernel
theorem dX4_told_36 : decode cX4_told 36 = .ok (.ifCond .ne 10, 3) := by decide +kernel
theorem dX4_told_39 : decode cX4_told 39 = .ok (.aload_n 0, 1) := by decide +kernel
theorem dX4_told_40 : decode cX4_told 40 = .ok (.bipush (-3), 2) := by decide +kernel
theorem dX4_told_42 : decode cX4_told 42 = .ok (.invokevirtual 136, 3) := by decide +kernel
theorem dX4_told_45 : decode cX4_told 45 = .ok (.ireturn, 1) := by decide +kernel
theorem dX4_told_46 : decode cX4_told 46 = .ok (.aload_n 0, 1) := by decide +kernel
theorem dX4_told_47 : decode cX4_told 47 = .ok (.iload_n 1, 1) := by decide +kernel
theorem dX4_told_48 : decode cX4_told 48 = .ok (.iload_n 2, 1) := by decide +kernel
theorem dX4_told_49 : decode cX4_told 49 = .ok (.iload_n 3, 1) := by decide +kernel
theorem dX4_told_50 : decode cX4_told 50 = .ok (.iload 4, 2) := by decide +kernel
theorem dX4_told_52 : decode cX4_told 52 = .ok (.i2l, 1) := by decide +kernel
theorem dX4_told_53 : decode cX4_told 53 = .ok (.invokevirtual 141, 3) := by decide +kernel
theorem dX4_told_56 : decode cX4_told 56 = .ok (.istore 5, 2) := by decide +kernel
theorem dX4_told_58 : decode cX4_told 58 = .ok (.iload 5, 2) := by decide +kernel
theorem dX4_told_60 : decode cX4_told 60 = .ok (.ifCond .ge 6, 3) := by decide +kernel
theorem dX4_told_63 : decode cX4_told 63 = .ok (.iload 5, 2) := by decide +kernel
theorem dX4_told_65 : decode cX4_told 65 = .ok (.ireturn, 1) := by decide +kernel
theorem dX4_told_66 : decode cX4_told 66 = .ok (.iload 4, 2) := by decide +kernel
theorem dX4_told_68 : decode cX4_told 68 = .ok (.aload_n 0, 1) := by decide +kernel
theorem dX4_told_69 : decode cX4_told 69 = .ok (.getfield 84, 3) := by decide +kernel
theorem dX4_told_72 : decode cX4_told 72 = .ok (.if_icmp .ne 7, 3) := by decide +kernel
theorem dX4_told_75 : decode cX4_told 75 = .ok (.iconst 1, 1) := by decide +kernel
theorem dX4_told_76 : decode cX4_told 76 = .ok (.goto 4, 3) := by decide +kernel
theorem dX4_told_79 : decode cX4_told 79 = .ok (.iconst 0, 1) := by decide +kernel
theorem dX4_told_80 : decode cX4_told 80 = .ok (.istore 6, 2) := by decide +kernel
theorem dX4_told_82 : decode cX4_told 82 = .ok (.iconst 0, 1) := by decide +kernel
theorem dX4_told_83 : decode cX4_told 83 = .ok (.istore 7, 2) := by decide +kernel
theorem dX4_told_85 : decode cX4_told 85 = .ok (.iload 7, 2) := by decide +kernel
theorem dX4_told_87 : decode cX4_told 87 = .ok (.aload_n 0, 1) := by decide +kernel
theorem dX4_told_88 : decode cX4_told 88 = .ok (.getfield 84, 3) := by decide +kernel
theorem dX4_told_91 : decode cX4_told 91 = .ok (.if_icmp .ge 38, 3) := by decide +kernel
theorem dX4_told_94 : decode cX4_told 94 = .ok (.iload 6, 2) := by decide +kernel
theorem dX4_told_96 : decode cX4_told 96 = .ok (.ifCond .eq 33, 3) := by decide +kernel
theorem dX4_told_99 : decode cX4_told 99 = .ok (.aload_n 0, 1) := by decide +kernel
theorem dX4_told_100 : decode cX4_told 100 = .ok (.getfield 58, 3) := by decide +kernel
theorem dX4_told_103 : decode cX4_told 103 = .ok (.bipush 60, 2) := by decide +kernel
theorem dX4_told_105 : decode cX4_told 105 = .ok (.iload_n 1, 1) := by decide +kernel
theorem dX4_told_106 : decode cX4_told 106 = .ok (.imul, 1) := by decide +kernel
theorem dX4_told_107 : decode cX4_told 107 = .ok (.iload_n 3, 1) := by decide +kernel
theorem dX4_told_108 : decode cX4_told 108 = .ok (.iadd, 1) := by decide +kernel
theorem dX4_told_109 : decode cX4_told 109 = .ok (.iload 7, 2) := by decide +kernel
theorem dX4_told_111 : decode cX4_told 111 = .ok (.iadd, 1) := by decide +kernel
theorem dX4_told_112 : decode cX4_told 112 = .ok (.iaload, 1) := by decide +kernel
theorem dX4_told_113 : decode cX4_told 113 = .ok (.i2l, 1) := by decide +kernel
theorem dX4_told_114 : decode cX4_told 114 = .ok (.lconst 0, 1) := by decide +kernel
theorem dX4_told_115 : decode cX4_told 115 = .ok (.ldc2_w 164, 3) := by decide +kernel
theorem dX4_told_118 : decode cX4_told 118 = .ok (.invokestatic 80, 3) := by decide +kernel
theorem dX4_told_121 : decode cX4_told 121 = .ok (.istore 6, 2) := by decide +kernel
theorem dX4_told_123 : decode cX4_told 123 = .ok (.iinc 7 1, 3) := by decide +kernel
theorem dX4_told_126 : decode cX4_told 126 = .ok (.goto (-41), 3) := by decide +kernel
theorem dX4_told_129 : decode cX4_told 129 = .ok (.iload 6, 2) := by decide +kernel
theorem dX4_told_131 : decode cX4_told 131 = .ok (.ifCond .ne 10, 3) := by decide +kernel
theorem dX4_told_134 : decode cX4_told 134 = .ok (.aload_n 0, 1) := by decide +kernel
theorem dX4_told_135 : decode cX4_told 135 = .ok (.bipush (-2), 2) := by decide +kernel
theorem dX4_told_137 : decode cX4_told 137 = .ok (.invokevirtual 136, 3) := by decide +kernel
theorem dX4_told_140 : decode cX4_told 140 = .ok (.ireturn, 1) := by decide +kernel
theorem dX4_told_141 : decode cX4_told 141 = .ok (.aload_n 0, 1) := by decide +kernel
theorem dX4_told_142 : decode cX4_told 142 = .ok (.invokevirtual 182, 3) := by decide +kernel
theorem dX4_told_145 : decode cX4_told 145 = .ok (.istore 7, 2) := by decide +kernel
theorem dX4_told_147 : decode cX4_told 147 = .ok (.iconst 0, 1) := by decide +kernel
theorem dX4_told_148 : decode cX4_told 148 = .ok (.istore 8, 2) := by decide +kernel
theorem dX4_told_150 : decode cX4_told 150 = .ok (.iload 8, 2) := by decide +kernel
theorem dX4_told_152 : decode cX4_told 152 = .ok (.aload_n 0, 1) := by decide +kernel
theorem dX4_told_153 : decode cX4_told 153 = .ok (.getfield 84, 3) := by decide +kernel
theorem dX4_told_156 : decode cX4_told 156 = .ok (.if_icmp .ge 30, 3) := by decide +kernel
theorem dX4_told_159 : decode cX4_told 159 = .ok (.aload_n 0, 1) := by decide +kernel
theorem dX4_told_160 : decode cX4_told 160 = .ok (.getfield 16, 3) := by decide +kernel
theorem dX4_told_163 : decode cX4_told 163 = .ok (.iload 8, 2) := by decide +kernel
theorem dX4_told_165 : decode cX4_told 165 = .ok (.aload_n 0, 1) := by decide +kernel
theorem dX4_told_166 : decode cX4_told 166 = .ok (.getfield 58, 3) := by decide +kernel
theorem dX4_told_169 : decode cX4_told 169 = .ok (.bipush 60, 2) := by decide +kernel
theorem dX4_told_171 : decode cX4_told 171 = .ok (.iload_n 1, 1) := by decide +kernel
theorem dX4_told_172 : decode cX4_told 172 = .ok (.imul, 1) := by decide +kernel
theorem dX4_told_173 : decode cX4_told 173 = .ok (.iload_n 3, 1) := by decide +kernel
theorem dX4_told_174 : decode cX4_told 174 = .ok (.iadd, 1) := by decide +kernel
theorem dX4_told_175 : decode cX4_told 175 = .ok (.iload 8, 2) := by decide +kernel
theorem dX4_told_177 : decode cX4_told 177 = .ok (.iadd, 1) := by decide +kernel
theorem dX4_told_178 : decode cX4_told 178 = .ok (.iaload, 1) := by decide +kernel
theorem dX4_told_179 : decode cX4_told 179 = .ok (.iastore, 1) := by decide +kernel
theorem dX4_told_180 : decode cX4_told 180 = .ok (.iinc 8 1, 3) := by decide +kernel
theorem dX4_told_183 : decode cX4_told 183 = .ok (.goto (-33), 3) := by decide +kernel
theorem dX4_told_186 : decode cX4_told 186 = .ok (.aload_n 0, 1) := by decide +kernel
theorem dX4_told_187 : decode cX4_told 187 = .ok (.invokevirtual 178, 3) := by decide +kernel
theorem dX4_told_190 : decode cX4_told 190 = .ok (.istore 8, 2) := by decide +kernel
theorem dX4_told_192 : decode cX4_told 192 = .ok (.aload_n 0, 1) := by decide +kernel
theorem dX4_told_193 : decode cX4_told 193 = .ok (.iload 7, 2) := by decide +kernel
theorem dX4_told_195 : decode cX4_told 195 = .ok (.invokevirtual 185, 3) := by decide +kernel
theorem dX4_told_198 : decode cX4_told 198 = .ok (.aload_n 0, 1) := by decide +kernel
theorem dX4_told_199 : decode cX4_told 199 = .ok (.iload 8, 2) := by decide +kernel
theorem dX4_told_201 : decode cX4_told 201 = .ok (.invokevirtual 136, 3) := by decide +kernel
theorem dX4_told_204 : decode cX4_told 204 = .ok (.ireturn, 1) := by decide +kernel
set_option maxRecDepth 20000 in
theorem ggX4_voteOf_X4_mindsNow : GoodIn wsX4_voteOf wsX4_mindsNow := goodIn_r _ [6, 7, 8, 9, 10, 5, 11, 12, 13, 14, 15, 16, 17, 18, 19, 20, 21, 22, 23, 24, 25, 1, 26, 27, 28, 29, 30, 31, 32, 33, 34, 35, 36, 37, 38, 39, 40, 41, 42, 43, 44, 45, 46, 47, 48, 49, 50, 51, 52, 53, 54, 55, 56, 57, 58] (by decide +kernel) (by decide +kernel)
set_option maxRecDepth 20000 in
theorem gX4_voteOf_X4_mindsNow : GoodIn wsX4_voteOf (wsV RX4 175 RX4 yX4_mindsNow wsX4_mindsNow) := goodIn_app (goodIn_of _ (by decide +kernel)) ggX4_voteOf_X4_mindsNow
theorem dX4_voteOf_0 : decode cX4_voteOf 0 = .ok (.aload_n 0, 1) := by decide +kernel
theorem dX4_voteOf_1 : decode cX4_voteOf 1 = .ok (.getfield 16, 3) := by decide +kernel
theorem dX4_voteOf_4 : decode cX4_voteOf 4 = .ok (.iload_n 2, 1) := by decide +kernel
theorem dX4_voteOf_5 : decode cX4_voteOf 5 = .ok (.iaload, 1) := by decide +kernel
theorem dX4_voteOf_6 : decode cX4_voteOf 6 = .ok (.istore_n 3, 1) := by decide +kernel
theorem dX4_voteOf_7 : decode cX4_voteOf 7 = .ok (.iconst 0, 1) := by decide +kernel
theorem dX4_voteOf_8 : decode cX4_voteOf 8 = .ok (.istore 4, 2) := by decide +kernel
theorem dX4_voteOf_10 : decode cX4_voteOf 10 = .ok (.iconst (-1), 1) := by decide +kernel
theorem dX4_voteOf_11 : decode cX4_voteOf 11 = .ok (.istore 5, 2) := by decide +kernel
theorem dX4_voteOf_13 : decode cX4_voteOf 13 = .ok (.iconst 0, 1) := by decide +kernel
theorem dX4_voteOf_14 : decode cX4_voteOf 14 = .ok (.istore 6, 2) := by decide +kernel
theorem dX4_voteOf_16 : decode cX4_voteOf 16 = .ok (.iload 6, 2) := by decide +kernel
theorem dX4_voteOf_18 : decode cX4_voteOf 18 = .ok (.iconst 4, 1) := by decide +kernel
theorem dX4_voteOf_19 : decode cX4_voteOf 19 = .ok (.if_icmp .ge 61, 3) := by decide +kernel
theorem dX4_voteOf_22 : decode cX4_voteOf 22 = .ok (.aload_n 0, 1) := by decide +kernel
theorem dX4_voteOf_23 : decode cX4_voteOf 23 = .ok (.getfield 16, 3) := by decide +kernel
theorem dX4_voteOf_26 : decode cX4_voteOf 26 = .ok (.iload_n 2, 1) := by decide +kernel
theorem dX4_voteOf_27 : decode cX4_voteOf 27 = .ok (.iload 6, 2) := by decide +kernel
theorem dX4_voteOf_29 : decode cX4_voteOf 29 = .ok (.iastore, 1) := by decide +kernel
theorem dX4_voteOf_30 : decode cX4_voteOf 30 = .ok (.aload_n 0, 1) := by decide +kernel
theorem dX4_voteOf_31 : decode cX4_voteOf 31 = .ok (.iload_n 1, 1) := by decide +kernel
theorem dX4_voteOf_32 : decode cX4_voteOf 32 = .ok (.invokevirtual 175, 3) := by decide +kernel
theorem dX4_voteOf_35 : decode cX4_voteOf 35 = .ok (.istore 7, 2) := by decide +kernel
theorem dX4_voteOf_37 : decode cX4_voteOf 37 = .ok (.iload 5, 2) := by decide +kernel
theorem dX4_voteOf_39 : decode cX4_voteOf 39 = .ok (.ifCond .lt 10, 3) := by decide +kernel
theorem dX4_voteOf_42 : decode cX4_voteOf 42 = .ok (.iload 7, 2) := by decide +kernel
theorem dX4_voteOf_44 : decode cX4_voteOf 44 = .ok (.iload 5, 2) := by decide +kernel
theorem dX4_voteOf_46 : decode cX4_voteOf 46 = .ok (.if_icmp .ge 8, 3) := by decide +kernel
theorem dX4_voteOf_49 : decode cX4_voteOf 49 = .ok (.iload 6, 2) := by decide +kernel
theorem dX4_voteOf_51 : decode cX4_voteOf 51 = .ok (.goto 5, 3) := by decide +kernel
theorem dX4_voteOf_54 : decode cX4_voteOf 54 = .ok (.iload 4, 2) := by decide +kernel
theorem dX4_voteOf_56 : decode cX4_voteOf 56 = .ok (.istore 4, 2) := by decide +kernel
theorem dX4_voteOf_58 : decode cX4_voteOf 58 = .ok (.iload 4, 2) := by decide +kernel
theorem dX4_voteOf_60 : decode cX4_voteOf 60 = .ok (.iload 6, 2) := by decide +kernel
theorem dX4_voteOf_62 : decode cX4_voteOf 62 = .ok (.if_icmp .ne 8, 3) := by decide +kernel
theorem dX4_voteOf_65 : decode cX4_voteOf 65 = .ok (.iload 7, 2) := by decide +kernel
theorem dX4_voteOf_67 : decode cX4_voteOf 67 = .ok (.goto 5, 3) := by decide +kernel
theorem dX4_voteOf_70 : decode cX4_voteOf 70 = .ok (.iload 5, 2) := by decide +kernel
theorem dX4_voteOf_72 : decode cX4_voteOf 72 = .ok (.istore 5, 2) := by decide +kernel
theorem dX4_voteOf_74 : decode cX4_voteOf 74 = .ok (.iinc 6 1, 3) := by decide +kernel
theorem dX4_voteOf_77 : decode cX4_voteOf 77 = .ok (.goto (-61), 3) := by decide +kernel
theorem dX4_voteOf_80 : decode cX4_voteOf 80 = .ok (.aload_n 0, 1) := by decide +kernel
theorem dX4_voteOf_81 : decode cX4_voteOf 81 = .ok (.getfield 16, 3) := by decide +kernel
theorem dX4_voteOf_84 : decode cX4_voteOf 84 = .ok (.iload_n 2, 1) := by decide +kernel
theorem dX4_voteOf_85 : decode cX4_voteOf 85 = .ok (.iload_n 3, 1) := by decide +kernel
theorem dX4_voteOf_86 : decode cX4_voteOf 86 = .ok (.iastore, 1) := by decide +kernel
theorem dX4_voteOf_87 : decode cX4_voteOf 87 = .ok (.iload 4, 2) := by decide +kernel
theorem dX4_voteOf_89 : decode cX4_voteOf 89 = .ok (.ireturn, 1) := by decide +kernel
set_option maxRecDepth 20000 in
theorem ggX4_vote_X4_noWard : GoodIn wsX4_vote wsX4_noWard := goodIn_r _ [5, 6, 7, 8, 4, 9, 43, 44, 45, 46, 47, 48, 49, 50, 51, 52, 53, 54, 55, 56, 57, 58, 59, 60, 61, 62, 63, 64, 65, 66, 67, 68, 69, 70, 71, 72, 73, 74] (by decide +kernel) (by decide +kernel)
set_option maxRecDepth 20000 in
theorem gX4_vote_X4_noWard : GoodIn wsX4_vote (wsV RX4 155 RX4 yX4_noWard wsX4_noWard) := goodIn_app (goodIn_of _ (by decide +kernel)) ggX4_vote_X4_noWard
set_option maxRecDepth 20000 in
theorem ggX4_vote_X4_noWork : GoodIn wsX4_vote wsX4_noWork := goodIn_r _ [13, 14, 7, 8, 4, 9, 43, 44, 45, 46, 47, 48, 49, 50, 51, 52, 53, 54, 55, 56, 57, 58, 59, 60, 61, 62, 63, 64, 65, 66, 67, 68, 69, 70, 71, 72, 73, 74] (by decide +kernel) (by decide +kernel)
set_option maxRecDepth 20000 in
theorem gX4_vote_X4_noWork : GoodIn wsX4_vote (wsV RX4 161 RX4 yX4_noWork wsX4_noWork) := goodIn_app (goodIn_of _ (by decide +kernel)) ggX4_vote_X4_noWork
set_option maxRecDepth 20000 in
theorem ggX4_vote_X4_voteOf : GoodIn wsX4_vote wsX4_voteOf := goodIn_r _ [18, 19, 20, 21, 22, 4, 23, 24, 25, 26, 27, 28, 29, 30, 31, 32, 33, 34, 14, 35, 36, 37, 38, 39, 40, 41, 42, 43, 44, 45, 46, 47, 48, 49, 50, 51, 52, 53, 54, 55, 56, 57, 58, 59, 60, 61, 62, 63, 64, 65, 66, 67, 68, 69, 70, 71, 72, 73, 74] (by decide +kernel) (by decide +kernel)
set_option maxRecDepth 20000 in
theorem gX4_vote_X4_voteOf : GoodIn wsX4_vote (wsV RX4 189 RX4 yX4_voteOf wsX4_voteOf) := goodIn_app (goodIn_of _ (by decide +kernel)) ggX4_vote_X4_voteOf
theorem dX4_vote_0 : decode cX4_vote 0 = .ok (.aload_n 0, 1) := by decide +kernel
theorem dX4_vote_1 : decode cX4_vote 1 = .ok (.iload_n 1, 1) := by decide +kernel
theorem dX4_vote_2 : decode cX4_vote 2 = .ok (.invokevirtual 155, 3) := by decide +kernel
theorem dX4_vote_5 : decode cX4_vote 5 = .ok (.ifCond .ne 11, 3) := by decide +kernel
theorem dX4_vote_8 : decode cX4_vote 8 = .ok (.aload_n 0, 1) := by decide +kernel
theorem dX4_vote_9 : decode cX4_vote 9 = .ok (.iload_n 2, 1) := by decide +kernel
theorem dX4_vote_10 : decode cX4_vote 10 = .ok (.invokevirtual 161, 3) := by decide +kernel
theorem dX4_vote_13 : decode cX4_vote 13 = .ok (.ifCond .eq 7, 3) := by decide +kernel
theorem dX4_vote_16 : decode cX4_vote 16 = .ok (.iconst (-1), 1) := by decide +kernel
theorem dX4_vote_17 : decode cX4_vote 17 = .ok (.goto 9, 3) := by decide +kernel
theorem dX4_vote_20 : decode cX4_vote 20 = .ok (.aload_n 0, 1) := by decide +kernel
theorem dX4_vote_21 : decode cX4_vote 21 = .ok (.iload_n 1, 1) := by decide +kernel
theorem dX4_vote_22 : decode cX4_vote 22 = .ok (.iload_n 2, 1) := by decide +kernel
theorem dX4_vote_23 : decode cX4_vote 23 = .ok (.invokevirtual 189, 3) := by decide +kernel
theorem dX4_vote_26 : decode cX4_vote 26 = .ok (.ireturn, 1) := by decide +kernel
set_option maxRecDepth 20000 in
theorem ggX4_winsBy_X4_isIn : GoodIn wsX4_winsBy wsX4_isIn := goodIn_r _ [5] (by decide +kernel) (by decide +kernel)
set_option maxRecDepth 20000 in
theorem gX4_winsBy_X4_isIn : GoodIn wsX4_winsBy (va_wsS RX4 192 yX4_isIn wsX4_isIn) := goodIn_app (goodIn_of _ (by decide +kernel)) ggX4_winsBy_X4_isIn
set_option maxRecDepth 20000 in
theorem ggX4_winsBy_X4_voteOf : GoodIn wsX4_winsBy wsX4_voteOf := goodIn_r _ [9, 10, 11, 12, 13, 4, 14, 15, 16, 17, 18, 19, 20, 21, 22, 23, 24, 25, 26, 27, 28, 29, 30, 31, 32, 33, 34, 35, 36, 37, 38, 39, 40, 41, 42, 43, 44, 45, 46, 47, 48, 49, 50, 51, 52, 53, 54, 55, 56, 57, 58, 59, 60, 61, 62, 63, 64, 65, 66] (by decide +kernel) (by decide +kernel)
set_option maxRecDepth 20000 in
theorem gX4_winsBy_X4_voteOf : GoodIn wsX4_winsBy (wsV RX4 189 RX4 yX4_voteOf wsX4_voteOf) := goodIn_app (goodIn_of _ (by decide +kernel)) ggX4_winsBy_X4_voteOf
theorem dX4_winsBy_0 : decode cX4_winsBy 0 = .ok (.iconst 0, 1) := by decide +kernel
theorem dX4_winsBy_1 : decode cX4_winsBy 1 = .ok (.istore 4, 2) := by decide +kernel
theorem dX4_winsBy_3 : decode cX4_winsBy 3 = .ok (.iconst (-1), 1) := by decide +kernel
theorem dX4_winsBy_4 : decode cX4_winsBy 4 = .ok (.istore 5, 2) := by decide +kernel
theorem dX4_winsBy_6 : decode cX4_winsBy 6 = .ok (.iconst 0, 1) := by decide +kernel
theorem dX4_winsBy_7 : decode cX4_winsBy 7 = .ok (.istore 6, 2) := by decide +kernel
theorem dX4_winsBy_9 : decode cX4_winsBy 9 = .ok (.iload 6, 2) := by decide +kernel
theorem dX4_winsBy_11 : decode cX4_winsBy 11 = .ok (.iconst 4, 1) := by decide +kernel
theorem dX4_winsBy_12 : decode cX4_winsBy 12 = .ok (.if_icmp .ge 101, 3) := by decide +kernel
theorem dX4_winsBy_15 : decode cX4_winsBy 15 = .ok (.iconst 0, 1) := by decide +kernel
theorem dX4_winsBy_16 : decode cX4_winsBy 16 = .ok (.istore 7, 2) := by decide +kernel
theorem dX4_winsBy_18 : decode cX4_winsBy 18 = .ok (.iconst 0, 1) := by decide +kernel
theorem dX4_winsBy_19 : decode cX4_winsBy 19 = .ok (.istore 8, 2) := by decide +kernel
theorem dX4_winsBy_21 : decode cX4_winsBy 21 = .ok (.iload 8, 2) := by decide +kernel
theorem dX4_winsBy_23 : decode cX4_winsBy 23 = .ok (.aload_n 0, 1) := by decide +kernel
theorem dX4_winsBy_24 : decode cX4_winsBy 24 = .ok (.getfield 87, 3) := by decide +kernel
theorem dX4_winsBy_27 : decode cX4_winsBy 27 = .ok (.if_icmp .ge 48, 3) := by decide +kernel
theorem dX4_winsBy_30 : decode cX4_winsBy 30 = .ok (.iload_n 2, 1) := by decide +kernel
theorem dX4_winsBy_31 : decode cX4_winsBy 31 = .ok (.iload 8, 2) := by decide +kernel
theorem dX4_winsBy_33 : decode cX4_winsBy 33 = .ok (.invokestatic 192, 3) := by decide +kernel
theorem dX4_winsBy_36 : decode cX4_winsBy 36 = .ok (.ifCond .eq 7, 3) := by decide +kernel
theorem dX4_winsBy_39 : decode cX4_winsBy 39 = .ok (.iload_n 3, 1) := by decide +kernel
theorem dX4_winsBy_40 : decode cX4_winsBy 40 = .ok (.goto 10, 3) := by decide +kernel
theorem dX4_winsBy_43 : decode cX4_winsBy 43 = .ok (.aload_n 0, 1) := by decide +kernel
theorem dX4_winsBy_44 : decode cX4_winsBy 44 = .ok (.iload 8, 2) := by decide +kernel
theorem dX4_winsBy_46 : decode cX4_winsBy 46 = .ok (.iload_n 1, 1) := by decide +kernel
theorem dX4_winsBy_47 : decode cX4_winsBy 47 = .ok (.invokevirtual 189, 3) := by decide +kernel
theorem dX4_winsBy_50 : decode cX4_winsBy 50 = .ok (.istore 9, 2) := by decide +kernel
theorem dX4_winsBy_52 : decode cX4_winsBy 52 = .ok (.iload 7, 2) := by decide +kernel
theorem dX4_winsBy_54 : decode cX4_winsBy 54 = .ok (.iload 9, 2) := by decide +kernel
theorem dX4_winsBy_56 : decode cX4_winsBy 56 = .ok (.iload 6, 2) := by decide +kernel
theorem dX4_winsBy_58 : decode cX4_winsBy 58 = .ok (.if_icmp .ne 7, 3) := by decide +kernel
theorem dX4_winsBy_61 : decode cX4_winsBy 61 = .ok (.iconst 1, 1) := by decide +kernel
theorem dX4_winsBy_62 : decode cX4_winsBy 62 = .ok (.goto 4, 3) := by decide +kernel
theorem dX4_winsBy_65 : decode cX4_winsBy 65 = .ok (.iconst 0, 1) := by decide +kernel
theorem dX4_winsBy_66 : decode cX4_winsBy 66 = .ok (.iadd, 1) := by decide +kernel
theorem dX4_winsBy_67 : decode cX4_winsBy 67 = .ok (.istore 7, 2) := by decide +kernel
theorem dX4_winsBy_69 : decode cX4_winsBy 69 = .ok (.iinc 8 1, 3) := by decide +kernel
theorem dX4_winsBy_72 : decode cX4_winsBy 72 = .ok (.goto (-51), 3) := by decide +kernel
theorem dX4_winsBy_75 : decode cX4_winsBy 75 = .ok (.iload 7, 2) := by decide +kernel
theorem dX4_winsBy_77 : decode cX4_winsBy 77 = .ok (.iload 5, 2) := by decide +kernel
theorem dX4_winsBy_79 : decode cX4_winsBy 79 = .ok (.if_icmp .le 8, 3) := by decide +kernel
theorem dX4_winsBy_82 : decode cX4_winsBy 82 = .ok (.iload 6, 2) := by decide +kernel
theorem dX4_winsBy_84 : decode cX4_winsBy 84 = .ok (.goto 5, 3) := by decide +kernel
theorem dX4_winsBy_87 : decode cX4_winsBy 87 = .ok (.iload 4, 2) := by decide +kernel
theorem dX4_winsBy_89 : decode cX4_winsBy 89 = .ok (.istore 4, 2) := by decide +kernel
theorem dX4_winsBy_91 : decode cX4_winsBy 91 = .ok (.iload 7, 2) := by decide +kernel
theorem dX4_winsBy_93 : decode cX4_winsBy 93 = .ok (.iload 5, 2) := by decide +kernel
theorem dX4_winsBy_95 : decode cX4_winsBy 95 = .ok (.if_icmp .le 8, 3) := by decide +kernel
theorem dX4_winsBy_98 : decode cX4_winsBy 98 = .ok (.iload 7, 2) := by decide +kernel
theorem dX4_winsBy_100 : decode cX4_winsBy 100 = .ok (.goto 5, 3) := by decide +kernel
theorem dX4_winsBy_103 : decode cX4_winsBy 103 = .ok (.iload 5, 2) := by decide +kernel
theorem dX4_winsBy_105 : decode cX4_winsBy 105 = .ok (.istore 5, 2) := by decide +kernel
theorem dX4_winsBy_107 : decode cX4_winsBy 107 = .ok (.iinc 6 1, 3) := by decide +kernel
theorem dX4_winsBy_110 : decode cX4_winsBy 110 = .ok (.goto (-101), 3) := by decide +kernel
theorem dX4_winsBy_113 : decode cX4_winsBy 113 = .ok (.iload 4, 2) := by decide +kernel
theorem dX4_winsBy_115 : decode cX4_winsBy 115 = .ok (.ireturn, 1) := by decide +kernel
set_option maxRecDepth 20000 in
theorem ggX4_ballot_X4_noWork : GoodIn wsX4_ballot wsX4_noWork := goodIn_r _ [5, 6, 7, 8, 4, 9, 46, 47, 48, 49, 50, 51, 52, 53, 54, 55, 56, 57, 58, 59, 60, 61, 62, 63, 64, 65, 66, 67, 68, 69, 70, 71, 72, 73, 74, 75, 76, 77] (by decide +kernel) (by decide +kernel)
set_option maxRecDepth 20000 in
theorem gX4_ballot_X4_noWork : GoodIn wsX4_ballot (wsV RX4 161 RX4 yX4_noWork wsX4_noWork) := goodIn_app (goodIn_of _ (by decide +kernel)) ggX4_ballot_X4_noWork
set_option maxRecDepth 20000 in
theorem ggX4_ballot_X4_winsBy : GoodIn wsX4_ballot wsX4_winsBy := goodIn_r _ [13, 14, 15, 16, 4, 17, 18, 19, 20, 21, 22, 23, 24, 25, 26, 27, 28, 29, 30, 31, 32, 33, 34, 35, 36, 37, 6, 38, 39, 40, 41, 42, 43, 44, 45, 46, 47, 48, 49, 50, 51, 52, 53, 54, 55, 56, 57, 58, 59, 60, 61, 62, 63, 64, 65, 66, 67, 68, 69, 70, 71, 72, 73, 74, 75, 76, 77] (by decide +kernel) (by decide +kernel)
set_option maxRecDepth 20000 in
theorem gX4_ballot_X4_winsBy : GoodIn wsX4_ballot (wsV RX4 195 RX4 yX4_winsBy wsX4_winsBy) := goodIn_app (goodIn_of _ (by decide +kernel)) ggX4_ballot_X4_winsBy
theorem dX4_ballot_0 : decode cX4_ballot 0 = .ok (.aload_n 0, 1) := by decide +kernel
theorem dX4_ballot_1 : decode cX4_ballot 1 = .ok (.iload_n 1, 1) := by decide +kernel
theorem dX4_ballot_2 : decode cX4_ballot 2 = .ok (.invokevirtual 161, 3) := by decide +kernel
theorem dX4_ballot_5 : decode cX4_ballot 5 = .ok (.ifCond .eq 7, 3) := by decide +kernel
theorem dX4_ballot_8 : decode cX4_ballot 8 = .ok (.iconst (-1), 1) := by decide +kernel
theorem dX4_ballot_9 : decode cX4_ballot 9 = .ok (.goto 10, 3) := by decide +kernel
theorem dX4_ballot_12 : decode cX4_ballot 12 = .ok (.aload_n 0, 1) := by decide +kernel
theorem dX4_ballot_13 : decode cX4_ballot 13 = .ok (.iload_n 1, 1) := by decide +kernel
theorem dX4_ballot_14 : decode cX4_ballot 14 = .ok (.iconst 0, 1) := by decide +kernel
theorem dX4_ballot_15 : decode cX4_ballot 15 = .ok (.iconst 0, 1) := by decide +kernel
theorem dX4_ballot_16 : decode cX4_ballot 16 = .ok (.invokevirtual 195, 3) := by decide +kernel
theorem dX4_ballot_19 : decode cX4_ballot 19 = .ok (.ireturn, 1) := by decide +kernel
set_option maxRecDepth 20000 in
theorem ggX4_goYear_X4_winsBy : GoodIn wsX4_goYear wsX4_winsBy := goodIn_r _ [7, 8, 9, 10, 6, 11, 12, 13, 14, 15, 2, 16, 17, 18, 19, 20, 21, 22, 23, 24, 25, 26, 27, 28, 29, 30, 1, 31, 32, 33, 34, 35, 36, 37, 38, 39, 40, 41, 42, 43, 44, 45, 46, 47, 48, 49, 50, 51, 52, 53, 54, 55, 56, 57, 58, 59, 60, 61, 62, 63, 64, 65, 66, 67, 68, 69, 70] (by decide +kernel) (by decide +kernel)
set_option maxRecDepth 20000 in
theorem gX4_goYear_X4_winsBy : GoodIn wsX4_goYear (wsV RX4 195 RX4 yX4_winsBy wsX4_winsBy) := goodIn_app (goodIn_of _ (by decide +kernel)) ggX4_goYear_X4_winsBy
theorem dX4_goYear_0 : decode cX4_goYear 0 = .ok (.iconst 0, 1) := by decide +kernel
theorem dX4_goYear_1 : decode cX4_goYear 1 = .ok (.istore_n 1, 1) := by decide +kernel
theorem dX4_goYear_2 : decode cX4_goYear 2 = .ok (.iconst 0, 1) := by decide +kernel
theorem dX4_goYear_3 : decode cX4_goYear 3 = .ok (.istore_n 2, 1) := by decide +kernel
theorem dX4_goYear_4 : decode cX4_goYear 4 = .ok (.iload_n 2, 1) := by decide +kernel
theorem dX4_goYear_5 : decode cX4_goYear 5 = .ok (.aload_n 0, 1) := by decide +kernel
theorem dX4_goYear_6 : decode cX4_goYear 6 = .ok (.getfield 84, 3) := by decide +kernel
theorem dX4_goYear_9 : decode cX4_goYear 9 = .ok (.if_icmp .ge 42, 3) := by decide +kernel
theorem dX4_goYear_12 : decode cX4_goYear 12 = .ok (.aload_n 0, 1) := by decide +kernel
theorem dX4_goYear_13 : decode cX4_goYear 13 = .ok (.iload_n 2, 1) := by decide +kernel
theorem dX4_goYear_14 : decode cX4_goYear 14 = .ok (.iconst 0, 1) := by decide +kernel
theorem dX4_goYear_15 : decode cX4_goYear 15 = .ok (.iconst 0, 1) := by decide +kernel
theorem dX4_goYear_16 : decode cX4_goYear 16 = .ok (.invokevirtual 195, 3) := by decide +kernel
theorem dX4_goYear_19 : decode cX4_goYear 19 = .ok (.istore_n 3, 1) := by decide +kernel
theorem dX4_goYear_20 : decode cX4_goYear 20 = .ok (.iload_n 1, 1) := by decide +kernel
theorem dX4_goYear_21 : decode cX4_goYear 21 = .ok (.iload_n 3, 1) := by decide +kernel
theorem dX4_goYear_22 : decode cX4_goYear 22 = .ok (.aload_n 0, 1) := by decide +kernel
theorem dX4_goYear_23 : decode cX4_goYear 23 = .ok (.getfield 16, 3) := by decide +kernel
theorem dX4_goYear_26 : decode cX4_goYear 26 = .ok (.iload_n 2, 1) := by decide +kernel
theorem dX4_goYear_27 : decode cX4_goYear 27 = .ok (.iaload, 1) := by decide +kernel
theorem dX4_goYear_28 : decode cX4_goYear 28 = .ok (.if_icmp .ne 7, 3) := by decide +kernel
theorem dX4_goYear_31 : decode cX4_goYear 31 = .ok (.iconst 0, 1) := by decide +kernel
theorem dX4_goYear_32 : decode cX4_goYear 32 = .ok (.goto 4, 3) := by decide +kernel
theorem dX4_goYear_35 : decode cX4_goYear 35 = .ok (.iconst 1, 1) := by decide +kernel
theorem dX4_goYear_36 : decode cX4_goYear 36 = .ok (.iadd, 1) := by decide +kernel
theorem dX4_goYear_37 : decode cX4_goYear 37 = .ok (.istore_n 1, 1) := by decide +kernel
theorem dX4_goYear_38 : decode cX4_goYear 38 = .ok (.aload_n 0, 1) := by decide +kernel
theorem dX4_goYear_39 : decode cX4_goYear 39 = .ok (.getfield 16, 3) := by decide +kernel
theorem dX4_goYear_42 : decode cX4_goYear 42 = .ok (.iload_n 2, 1) := by decide +kernel
theorem dX4_goYear_43 : decode cX4_goYear 43 = .ok (.iload_n 3, 1) := by decide +kernel
theorem dX4_goYear_44 : decode cX4_goYear 44 = .ok (.iastore, 1) := by decide +kernel
theorem dX4_goYear_45 : decode cX4_goYear 45 = .ok (.iinc 2 1, 3) := by decide +kernel
theorem dX4_goYear_48 : decode cX4_goYear 48 = .ok (.goto (-44), 3) := by decide +kernel
theorem dX4_goYear_51 : decode cX4_goYear 51 = .ok (.iload_n 1, 1) := by decide +kernel
theorem dX4_goYear_52 : decode cX4_goYear 52 = .ok (.ireturn, 1) := by decide +kernel
set_option maxRecDepth 20000 in
theorem ggX4_year_X4_goYear : GoodIn wsX4_year wsX4_goYear := goodIn_r _ [6, 7, 8, 9, 10, 11, 5, 12, 13, 14, 15, 16, 17, 18, 19, 20, 21, 22, 23, 24, 25, 26, 27, 28, 29, 30, 31, 32, 33, 34, 35, 36, 37, 38, 39, 40, 41, 42, 43, 44, 45, 46, 47, 48, 49, 50, 51, 52, 53, 54, 55, 56, 57, 58, 59, 60, 61, 62, 63, 64, 65, 66, 67, 68, 69, 70, 71, 72, 73, 74, 75] (by decide +kernel) (by decide +kernel)
set_option maxRecDepth 20000 in
theorem gX4_year_X4_goYear : GoodIn wsX4_year (wsV RX4 199 RX4 yX4_goYear wsX4_goYear) := goodIn_app (goodIn_of _ (by decide +kernel)) ggX4_year_X4_goYear
theorem dX4_year_0 : decode cX4_year 0 = .ok (.aload_n 0, 1) := by decide +kernel
theorem dX4_year_1 : decode cX4_year 1 = .ok (.getfield 74, 3) := by decide +kernel
theorem dX4_year_4 : decode cX4_year 4 = .ok (.ifCond .ne 8, 3) := by decide +kernel
theorem dX4_year_7 : decode cX4_year 7 = .ok (.bipush (-3), 2) := by decide +kernel
theorem dX4_year_9 : decode cX4_year 9 = .ok (.goto 7, 3) := by decide +kernel
theorem dX4_year_12 : decode cX4_year 12 = .ok (.aload_n 0, 1) := by decide +kernel
theorem dX4_year_13 : decode cX4_year 13 = .ok (.invokevirtual 199, 3) := by decide +kernel
theorem dX4_year_16 : decode cX4_year 16 = .ok (.ireturn, 1) := by decide +kernel
set_option maxRecDepth 20000 in
theorem ggX4_round_X4_in : GoodIn wsX4_round wsX4_in := goodIn_r _ [6] (by decide +kernel) (by decide +kernel)
set_option maxRecDepth 20000 in
theorem gX4_round_X4_in : GoodIn wsX4_round (va_wsS RX4 80 yX4_in wsX4_in) := goodIn_app (goodIn_of _ (by decide +kernel)) ggX4_round_X4_in
set_option maxRecDepth 20000 in
theorem ggX4_round_X4_vanesNow : GoodIn wsX4_round wsX4_vanesNow := goodIn_r _ [10, 11, 12, 56, 57, 58, 59, 60, 61, 62, 63, 64, 65, 66, 67, 68, 69, 70, 71, 72, 73, 74, 75, 76, 77, 78, 79, 80, 81, 82, 83, 84, 85, 86, 87] (by decide +kernel) (by decide +kernel)
set_option maxRecDepth 20000 in
theorem gX4_round_X4_vanesNow : GoodIn wsX4_round (wsV RX4 182 RX4 yX4_vanesNow wsX4_vanesNow) := goodIn_app (goodIn_of _ (by decide +kernel)) ggX4_round_X4_vanesNow
set_option maxRecDepth 20000 in
theorem ggX4_round_X4_goYear : GoodIn wsX4_round wsX4_goYear := goodIn_r _ [16, 11, 12, 17, 18, 19, 5, 20, 21, 22, 23, 24, 25, 26, 27, 28, 29, 30, 31, 32, 33, 34, 35, 36, 37, 38, 39, 40, 41, 42, 43, 44, 45, 46, 47, 48, 49, 50, 51, 56, 57, 58, 59, 60, 61, 62, 63, 64, 65, 66, 67, 68, 69, 70, 71, 72, 73, 74, 75, 76, 77, 78, 79, 80, 81, 82, 83, 84, 85, 86, 87] (by decide +kernel) (by decide +kernel)
set_option maxRecDepth 20000 in
theorem gX4_round_X4_goYear : GoodIn wsX4_round (wsV RX4 199 RX4 yX4_goYear wsX4_goYear) := goodIn_app (goodIn_of _ (by decide +kernel)) ggX4_round_X4_goYear
set_option maxRecDepth 20000 in
theorem ggX4_round_X4_turnAll : GoodIn wsX4_round wsX4_turnAll := goodIn_r _ [55, 11, 12, 56, 57, 58, 59, 60, 61, 62, 63, 64, 65, 66, 67, 68, 69, 70, 71, 72, 73, 74, 75, 76, 77, 78, 79, 80, 81, 82, 83, 84, 85, 86, 87] (by decide +kernel) (by decide +kernel)
set_option maxRecDepth 20000 in
theorem gX4_round_X4_turnAll : GoodIn wsX4_round (wsV RX4 185 RX4 yX4_turnAll wsX4_turnAll) := goodIn_app (goodIn_of _ (by decide +kernel)) ggX4_round_X4_turnAll
theorem dX4_round_0 : decode cX4_round 0 = .ok (.iload_n 1, 1) := by decide +kernel
theorem dX4_round_1 : decode cX4_round 1 = .ok (.i2l, 1) := by decide +kernel
theorem dX4_round_2 : decode cX4_round 2 = .ok (.lconst 0, 1) := by decide +kernel
theorem dX4_round_3 : decode cX4_round 3 = .ok (.lconst 1, 1) := by decide +kernel
theorem dX4_round_4 : decode cX4_round 4 = .ok (.invokestatic 80, 3) := by decide +kernel
theorem dX4_round_7 : decode cX4_round 7 = .ok (.ifCond .ne 6, 3) := by decide +kernel
theorem dX4_round_10 : decode cX4_round 10 = .ok (.bipush (-2), 2) := by decide +kernel
theorem dX4_round_12 : decode cX4_round 12 = .ok (.ireturn, 1) := by decide +kernel
theorem dX4_round_13 : decode cX4_round 13 = .ok (.aload_n 0, 1) := by decide +kernel
theorem dX4_round_14 : decode cX4_round 14 = .ok (.getfield 74, 3) := by decide +kernel
theorem dX4_round_17 : decode cX4_round 17 = .ok (.ifCond .ne 6, 3) := by decide +kernel
theorem dX4_round_20 : decode cX4_round 20 = .ok (.bipush (-3), 2) := by decide +kernel
theorem dX4_round_22 : decode cX4_round 22 = .ok (.ireturn, 1) := by decide +kernel
theorem dX4_round_23 : decode cX4_round 23 = .ok (.aload_n 0, 1) := by decide +kernel
theorem dX4_round_24 : decode cX4_round 24 = .ok (.invokevirtual 182, 3) := by decide +kernel
theorem dX4_round_27 : decode cX4_round 27 = .ok (.istore_n 2, 1) := by decide +kernel
theorem dX4_round_28 : decode cX4_round 28 = .ok (.iconst 0, 1) := by decide +kernel
theorem dX4_round_29 : decode cX4_round 29 = .ok (.istore_n 3, 1) := by decide +kernel
theorem dX4_round_30 : decode cX4_round 30 = .ok (.iload_n 3, 1) := by decide +kernel
theorem dX4_round_31 : decode cX4_round 31 = .ok (.sipush 256, 3) := by decide +kernel
theorem dX4_round_34 : decode cX4_round 34 = .ok (.if_icmp .ge 17, 3) := by decide +kernel
theorem dX4_round_37 : decode cX4_round 37 = .ok (.aload_n 0, 1) := by decide +kernel
theorem dX4_round_38 : decode cX4_round 38 = .ok (.getfield 43, 3) := by decide +kernel
theorem dX4_round_41 : decode cX4_round 41 = .ok (.iload_n 3, 1) := by decide +kernel
theorem dX4_round_42 : decode cX4_round 42 = .ok (.bipush (-9), 2) := by decide +kernel
theorem dX4_round_44 : decode cX4_round 44 = .ok (.iastore, 1) := by decide +kernel
theorem dX4_round_45 : decode cX4_round 45 = .ok (.iinc 3 1, 3) := by decide +kernel
theorem dX4_round_48 : decode cX4_round 48 = .ok (.goto (-18), 3) := by decide +kernel
theorem dX4_round_51 : decode cX4_round 51 = .ok (.iconst 0, 1) := by decide +kernel
theorem dX4_round_52 : decode cX4_round 52 = .ok (.istore_n 3, 1) := by decide +kernel
theorem dX4_round_53 : decode cX4_round 53 = .ok (.aload_n 0, 1) := by decide +kernel
theorem dX4_round_54 : decode cX4_round 54 = .ok (.getfield 43, 3) := by decide +kernel
theorem dX4_round_57 : decode cX4_round 57 = .ok (.aload_n 0, 1) := by decide +kernel
theorem dX4_round_58 : decode cX4_round 58 = .ok (.invokevirtual 182, 3) := by decide +kernel
theorem dX4_round_61 : decode cX4_round 61 = .ok (.iaload, 1) := by decide +kernel
theorem dX4_round_62 : decode cX4_round 62 = .ok (.ifCond .ge 24, 3) := by decide +kernel
theorem dX4_round_65 : decode cX4_round 65 = .ok (.aload_n 0, 1) := by decide +kernel
theorem dX4_round_66 : decode cX4_round 66 = .ok (.getfield 43, 3) := by decide +kernel
theorem dX4_round_69 : decode cX4_round 69 = .ok (.aload_n 0, 1) := by decide +kernel
theorem dX4_round_70 : decode cX4_round 70 = .ok (.invokevirtual 182, 3) := by decide +kernel
theorem dX4_round_73 : decode cX4_round 73 = .ok (.iload_n 3, 1) := by decide +kernel
theorem dX4_round_74 : decode cX4_round 74 = .ok (.iastore, 1) := by decide +kernel
theorem dX4_round_75 : decode cX4_round 75 = .ok (.iinc 3 1, 3) := by decide +kernel
theorem dX4_round_78 : decode cX4_round 78 = .ok (.aload_n 0, 1) := by decide +kernel
theorem dX4_round_79 : decode cX4_round 79 = .ok (.invokevirtual 199, 3) := by decide +kernel
theorem dX4_round_82 : decode cX4_round 82 = .ok (.pop, 1) := by decide +kernel
theorem dX4_round_83 : decode cX4_round 83 = .ok (.goto (-30), 3) := by decide +kernel
theorem dX4_round_86 : decode cX4_round 86 = .ok (.aload_n 0, 1) := by decide +kernel
theorem dX4_round_87 : decode cX4_round 87 = .ok (.getfield 43, 3) := by decide +kernel
theorem dX4_round_90 : decode cX4_round 90 = .ok (.aload_n 0, 1) := by decide +kernel
theorem dX4_round_91 : decode cX4_round 91 = .ok (.invokevirtual 182, 3) := by decide +kernel
theorem dX4_round_94 : decode cX4_round 94 = .ok (.iaload, 1) := by decide +kernel
theorem dX4_round_95 : decode cX4_round 95 = .ok (.istore 4, 2) := by decide +kernel
theorem dX4_round_97 : decode cX4_round 97 = .ok (.aload_n 0, 1) := by decide +kernel
theorem dX4_round_98 : decode cX4_round 98 = .ok (.iload_n 2, 1) := by decide +kernel
theorem dX4_round_99 : decode cX4_round 99 = .ok (.invokevirtual 185, 3) := by decide +kernel
theorem dX4_round_102 : decode cX4_round 102 = .ok (.iload_n 1, 1) := by decide +kernel
theorem dX4_round_103 : decode cX4_round 103 = .ok (.ifCond .ne 8, 3) := by decide +kernel
theorem dX4_round_106 : decode cX4_round 106 = .ok (.iload 4, 2) := by decide +kernel
theorem dX4_round_108 : decode cX4_round 108 = .ok (.goto 7, 3) := by decide +kernel
theorem dX4_round_111 : decode cX4_round 111 = .ok (.iload_n 3, 1) := by decide +kernel
theorem dX4_round_112 : decode cX4_round 112 = .ok (.iload 4, 2) := by decide +kernel
theorem dX4_round_114 : decode cX4_round 114 = .ok (.isub, 1) := by decide +kernel
theorem dX4_round_115 : decode cX4_round 115 = .ok (.ireturn, 1) := by decide +kernel
set_option maxRecDepth 20000 in
theorem ggX4_mostMinded_X4_mindsNow : GoodIn wsX4_mostMinded wsX4_mindsNow := goodIn_r _ [6, 7, 8, 9, 10, 5, 11, 12, 13, 14, 15, 16, 17, 18, 19, 20, 21, 22, 23, 24, 25, 26, 27, 28, 29, 30, 31, 32, 33, 34, 35, 36, 37, 38, 39, 40, 41, 42, 43, 44, 45, 46, 47, 48, 49, 50, 51, 52, 53, 54, 55, 56, 57, 58, 59] (by decide +kernel) (by decide +kernel)
set_option maxRecDepth 20000 in
theorem gX4_mostMinded_X4_mindsNow : GoodIn wsX4_mostMinded (wsV RX4 175 RX4 yX4_mindsNow wsX4_mindsNow) := goodIn_app (goodIn_of _ (by decide +kernel)) ggX4_mostMinded_X4_mindsNow
theorem dX4_mostMinded_0 : decode cX4_mostMinded 0 = .ok (.iconst 0, 1) := by decide +kernel
theorem dX4_mostMinded_1 : decode cX4_mostMinded 1 = .ok (.istore_n 1, 1) := by decide +kernel
theorem dX4_mostMinded_2 : decode cX4_mostMinded 2 = .ok (.iconst 0, 1) := by decide +kernel
theorem dX4_mostMinded_3 : decode cX4_mostMinded 3 = .ok (.istore_n 2, 1) := by decide +kernel
theorem dX4_mostMinded_4 : decode cX4_mostMinded 4 = .ok (.iload_n 2, 1) := by decide +kernel
theorem dX4_mostMinded_5 : decode cX4_mostMinded 5 = .ok (.aload_n 0, 1) := by decide +kernel
theorem dX4_mostMinded_6 : decode cX4_mostMinded 6 = .ok (.getfield 87, 3) := by decide +kernel
theorem dX4_mostMinded_9 : decode cX4_mostMinded 9 = .ok (.if_icmp .ge 28, 3) := by decide +kernel
theorem dX4_mostMinded_12 : decode cX4_mostMinded 12 = .ok (.aload_n 0, 1) := by decide +kernel
theorem dX4_mostMinded_13 : decode cX4_mostMinded 13 = .ok (.iload_n 2, 1) := by decide +kernel
theorem dX4_mostMinded_14 : decode cX4_mostMinded 14 = .ok (.invokevirtual 175, 3) := by decide +kernel
theorem dX4_mostMinded_17 : decode cX4_mostMinded 17 = .ok (.iload_n 1, 1) := by decide +kernel
theorem dX4_mostMinded_18 : decode cX4_mostMinded 18 = .ok (.if_icmp .le 11, 3) := by decide +kernel
theorem dX4_mostMinded_21 : decode cX4_mostMinded 21 = .ok (.aload_n 0, 1) := by decide +kernel
theorem dX4_mostMinded_22 : decode cX4_mostMinded 22 = .ok (.iload_n 2, 1) := by decide +kernel
theorem dX4_mostMinded_23 : decode cX4_mostMinded 23 = .ok (.invokevirtual 175, 3) := by decide +kernel
theorem dX4_mostMinded_26 : decode cX4_mostMinded 26 = .ok (.goto 4, 3) := by decide +kernel
theorem dX4_mostMinded_29 : decode cX4_mostMinded 29 = .ok (.iload_n 1, 1) := by decide +kernel
theorem dX4_mostMinded_30 : decode cX4_mostMinded 30 = .ok (.istore_n 1, 1) := by decide +kernel
theorem dX4_mostMinded_31 : decode cX4_mostMinded 31 = .ok (.iinc 2 1, 3) := by decide +kernel
theorem dX4_mostMinded_34 : decode cX4_mostMinded 34 = .ok (.goto (-30), 3) := by decide +kernel
theorem dX4_mostMinded_37 : decode cX4_mostMinded 37 = .ok (.iload_n 1, 1) := by decide +kernel
theorem dX4_mostMinded_38 : decode cX4_mostMinded 38 = .ok (.ireturn, 1) := by decide +kernel
set_option maxRecDepth 20000 in
theorem ggX4_leastRow_X4_vanesNow : GoodIn wsX4_leastRow wsX4_vanesNow := goodIn_r _ [6, 7, 8, 49, 50, 51, 52, 53, 54, 55, 56, 57, 58, 59, 60, 61, 62, 63, 64, 65, 66, 67, 68, 69, 70, 71, 72, 73, 74, 75, 76, 77, 78, 79, 80] (by decide +kernel) (by decide +kernel)
set_option maxRecDepth 20000 in
theorem gX4_leastRow_X4_vanesNow : GoodIn wsX4_leastRow (wsV RX4 182 RX4 yX4_vanesNow wsX4_vanesNow) := goodIn_app (goodIn_of _ (by decide +kernel)) ggX4_leastRow_X4_vanesNow
set_option maxRecDepth 20000 in
theorem ggX4_leastRow_X4_rows : GoodIn wsX4_leastRow wsX4_rows := goodIn_r _ [12, 7, 49, 50, 51, 52, 53, 54, 55, 56, 57, 58, 59, 60, 61, 62, 63, 64, 65, 66, 67, 68, 69, 70, 71, 72, 73, 74, 75, 76, 77, 78, 79, 80] (by decide +kernel) (by decide +kernel)
set_option maxRecDepth 20000 in
theorem gX4_leastRow_X4_rows : GoodIn wsX4_leastRow (wsV RX4 205 RX4 yX4_rows wsX4_rows) := goodIn_app (goodIn_of _ (by decide +kernel)) ggX4_leastRow_X4_rows
set_option maxRecDepth 20000 in
theorem ggX4_leastRow_X4_turnAll : GoodIn wsX4_leastRow wsX4_turnAll := goodIn_r _ [16, 7, 8, 49, 50, 51, 52, 53, 54, 55, 56, 57, 58, 59, 60, 61, 62, 63, 64, 65, 66, 67, 68, 69, 70, 71, 72, 73, 74, 75, 76, 77, 78, 79, 80] (by decide +kernel) (by decide +kernel)
set_option maxRecDepth 20000 in
theorem gX4_leastRow_X4_turnAll : GoodIn wsX4_leastRow (wsV RX4 185 RX4 yX4_turnAll wsX4_turnAll) := goodIn_app (goodIn_of _ (by decide +kernel)) ggX4_leastRow_X4_turnAll
set_option maxRecDepth 20000 in
theorem ggX4_leastRow_X4_burdenNow : GoodIn wsX4_leastRow wsX4_burdenNow := goodIn_r _ [20, 21, 22, 23, 24, 5, 25, 26, 27, 28, 29, 30, 31, 32, 33, 34, 35, 36, 7, 37, 38, 39, 40, 41, 42, 43, 8, 44, 49, 50, 51, 52, 53, 54, 55, 56, 57, 58, 59, 60, 61, 62, 63, 64, 65, 66, 67, 68, 69, 70, 71, 72, 73, 74, 75, 76, 77, 78, 79, 80] (by decide +kernel) (by decide +kernel)
set_option maxRecDepth 20000 in
theorem gX4_leastRow_X4_burdenNow : GoodIn wsX4_leastRow (wsV RX4 178 RX4 yX4_burdenNow wsX4_burdenNow) := goodIn_app (goodIn_of _ (by decide +kernel)) ggX4_leastRow_X4_burdenNow
set_option maxRecDepth 20000 in
theorem ggX4_leastRow_X4_mostMinded : GoodIn wsX4_leastRow wsX4_mostMinded := goodIn_r _ [48, 21, 22, 23, 24, 5, 25, 26, 27, 28, 29, 30, 31, 32, 33, 34, 35, 36, 7, 37, 38, 39, 40, 41, 42, 43, 8, 44, 49, 50, 51, 52, 53, 54, 55, 56, 57, 58, 59, 60, 61, 62, 63, 64, 65, 66, 67, 68, 69, 70, 71, 72, 73, 74, 75, 76, 77, 78, 79, 80] (by decide +kernel) (by decide +kernel)
set_option maxRecDepth 20000 in
theorem gX4_leastRow_X4_mostMinded : GoodIn wsX4_leastRow (wsV RX4 208 RX4 yX4_mostMinded wsX4_mostMinded) := goodIn_app (goodIn_of _ (by decide +kernel)) ggX4_leastRow_X4_mostMinded
theorem dX4_leastRow_0 : decode cX4_leastRow 0 = .ok (.aload_n 0, 1) := by decide +kernel
theorem dX4_leastRow_1 : decode cX4_leastRow 1 = .ok (.invokevirtual 182, 3) := by decide +kernel
theorem dX4_leastRow_4 : decode cX4_leastRow 4 = .ok (.istore_n 2, 1) := by decide +kernel
theorem dX4_leastRow_5 : decode cX4_leastRow 5 = .ok (.iconst 0, 1) := by decide +kernel
theorem dX4_leastRow_6 : decode cX4_leastRow 6 = .ok (.istore_n 3, 1) := by decide +kernel
theorem dX4_leastRow_7 : decode cX4_leastRow 7 = .ok (.aload_n 0, 1) := by decide +kernel
theorem dX4_leastRow_8 : decode cX4_leastRow 8 = .ok (.iconst (-1), 1) := by decide +kernel
theorem dX4_leastRow_9 : decode cX4_leastRow 9 = .ok (.putfield 202, 3) := by decide +kernel
theorem dX4_leastRow_12 : decode cX4_leastRow 12 = .ok (.iconst 0, 1) := by decide +kernel
theorem dX4_leastRow_13 : decode cX4_leastRow 13 = .ok (.istore 4, 2) := by decide +kernel
theorem dX4_leastRow_15 : decode cX4_leastRow 15 = .ok (.iload 4, 2) := by decide +kernel
theorem dX4_leastRow_17 : decode cX4_leastRow 17 = .ok (.aload_n 0, 1) := by decide +kernel
theorem dX4_leastRow_18 : decode cX4_leastRow 18 = .ok (.invokevirtual 205, 3) := by decide +kernel
theorem dX4_leastRow_21 : decode cX4_leastRow 21 = .ok (.if_icmp .ge 74, 3) := by decide +kernel
theorem dX4_leastRow_24 : decode cX4_leastRow 24 = .ok (.aload_n 0, 1) := by decide +kernel
theorem dX4_leastRow_25 : decode cX4_leastRow 25 = .ok (.iload 4, 2) := by decide +kernel
theorem dX4_leastRow_27 : decode cX4_leastRow 27 = .ok (.invokevirtual 185, 3) := by decide +kernel
theorem dX4_leastRow_30 : decode cX4_leastRow 30 = .ok (.iload_n 1, 1) := by decide +kernel
theorem dX4_leastRow_31 : decode cX4_leastRow 31 = .ok (.ifCond .eq 10, 3) := by decide +kernel
theorem dX4_leastRow_34 : decode cX4_leastRow 34 = .ok (.aload_n 0, 1) := by decide +kernel
theorem dX4_leastRow_35 : decode cX4_leastRow 35 = .ok (.invokevirtual 178, 3) := by decide +kernel
theorem dX4_leastRow_38 : decode cX4_leastRow 38 = .ok (.goto 7, 3) := by decide +kernel
theorem dX4_leastRow_41 : decode cX4_leastRow 41 = .ok (.aload_n 0, 1) := by decide +kernel
theorem dX4_leastRow_42 : decode cX4_leastRow 42 = .ok (.invokevirtual 208, 3) := by decide +kernel
theorem dX4_leastRow_45 : decode cX4_leastRow 45 = .ok (.istore 5, 2) := by decide +kernel
theorem dX4_leastRow_47 : decode cX4_leastRow 47 = .ok (.aload_n 0, 1) := by decide +kernel
theorem dX4_leastRow_48 : decode cX4_leastRow 48 = .ok (.getfield 202, 3) := by decide +kernel
theorem dX4_leastRow_51 : decode cX4_leastRow 51 = .ok (.ifCond .lt 12, 3) := by decide +kernel
theorem dX4_leastRow_54 : decode cX4_leastRow 54 = .ok (.iload 5, 2) := by decide +kernel
theorem dX4_leastRow_56 : decode cX4_leastRow 56 = .ok (.aload_n 0, 1) := by decide +kernel
theorem dX4_leastRow_57 : decode cX4_leastRow 57 = .ok (.getfield 202, 3) := by decide +kernel
theorem dX4_leastRow_60 : decode cX4_leastRow 60 = .ok (.if_icmp .ge 8, 3) := by decide +kernel
theorem dX4_leastRow_63 : decode cX4_leastRow 63 = .ok (.iload 4, 2) := by decide +kernel
theorem dX4_leastRow_65 : decode cX4_leastRow 65 = .ok (.goto 4, 3) := by decide +kernel
theorem dX4_leastRow_68 : decode cX4_leastRow 68 = .ok (.iload_n 3, 1) := by decide +kernel
theorem dX4_leastRow_69 : decode cX4_leastRow 69 = .ok (.istore_n 3, 1) := by decide +kernel
theorem dX4_leastRow_70 : decode cX4_leastRow 70 = .ok (.aload_n 0, 1) := by decide +kernel
theorem dX4_leastRow_71 : decode cX4_leastRow 71 = .ok (.iload_n 3, 1) := by decide +kernel
theorem dX4_leastRow_72 : decode cX4_leastRow 72 = .ok (.iload 4, 2) := by decide +kernel
theorem dX4_leastRow_74 : decode cX4_leastRow 74 = .ok (.if_icmp .ne 8, 3) := by decide +kernel
theorem dX4_leastRow_77 : decode cX4_leastRow 77 = .ok (.iload 5, 2) := by decide +kernel
theorem dX4_leastRow_79 : decode cX4_leastRow 79 = .ok (.goto 7, 3) := by decide +kernel
theorem dX4_leastRow_82 : decode cX4_leastRow 82 = .ok (.aload_n 0, 1) := by decide +kernel
theorem dX4_leastRow_83 : decode cX4_leastRow 83 = .ok (.getfield 202, 3) := by decide +kernel
theorem dX4_leastRow_86 : decode cX4_leastRow 86 = .ok (.putfield 202, 3) := by decide +kernel
theorem dX4_leastRow_89 : decode cX4_leastRow 89 = .ok (.iinc 4 1, 3) := by decide +kernel
theorem dX4_leastRow_92 : decode cX4_leastRow 92 = .ok (.goto (-77), 3) := by decide +kernel
theorem dX4_leastRow_95 : decode cX4_leastRow 95 = .ok (.aload_n 0, 1) := by decide +kernel
theorem dX4_leastRow_96 : decode cX4_leastRow 96 = .ok (.iload_n 2, 1) := by decide +kernel
theorem dX4_leastRow_97 : decode cX4_leastRow 97 = .ok (.invokevirtual 185, 3) := by decide +kernel
theorem dX4_leastRow_100 : decode cX4_leastRow 100 = .ok (.iload_n 3, 1) := by decide +kernel
theorem dX4_leastRow_101 : decode cX4_leastRow 101 = .ok (.ireturn, 1) := by decide +kernel
theorem dX4_vaneIn_0 : decode cX4_vaneIn 0 = .ok (.iload_n 1, 1) := by decide +kernel
theorem dX4_vaneIn_1 : decode cX4_vaneIn 1 = .ok (.istore_n 3, 1) := by decide +kernel
theorem dX4_vaneIn_2 : decode cX4_vaneIn 2 = .ok (.aload_n 0, 1) := by decide +kernel
theorem dX4_vaneIn_3 : decode cX4_vaneIn 3 = .ok (.getfield 84, 3) := by decide +kernel
theorem dX4_vaneIn_6 : decode cX4_vaneIn 6 = .ok (.iconst 1, 1) := by decide +kernel
theorem dX4_vaneIn_7 : decode cX4_vaneIn 7 = .ok (.isub, 1) := by decide +kernel
theorem dX4_vaneIn_8 : decode cX4_vaneIn 8 = .ok (.istore 4, 2) := by decide +kernel
theorem dX4_vaneIn_10 : decode cX4_vaneIn 10 = .ok (.iload 4, 2) := by decide +kernel
theorem dX4_vaneIn_12 : decode cX4_vaneIn 12 = .ok (.iload_n 2, 1) := by decide +kernel
theorem dX4_vaneIn_13 : decode cX4_vaneIn 13 = .ok (.if_icmp .le 13, 3) := by decide +kernel
theorem dX4_vaneIn_16 : decode cX4_vaneIn 16 = .ok (.iload_n 3, 1) := by decide +kernel
theorem dX4_vaneIn_17 : decode cX4_vaneIn 17 = .ok (.iconst 4, 1) := by decide +kernel
theorem dX4_vaneIn_18 : decode cX4_vaneIn 18 = .ok (.idiv, 1) := by decide +kernel
theorem dX4_vaneIn_19 : decode cX4_vaneIn 19 = .ok (.istore_n 3, 1) := by decide +kernel
theorem dX4_vaneIn_20 : decode cX4_vaneIn 20 = .ok (.iinc 4 (-1), 3) := by decide +kernel
theorem dX4_vaneIn_23 : decode cX4_vaneIn 23 = .ok (.goto (-13), 3) := by decide +kernel
theorem dX4_vaneIn_26 : decode cX4_vaneIn 26 = .ok (.iload_n 3, 1) := by decide +kernel
theorem dX4_vaneIn_27 : decode cX4_vaneIn 27 = .ok (.iconst 4, 1) := by decide +kernel
theorem dX4_vaneIn_28 : decode cX4_vaneIn 28 = .ok (.irem, 1) := by decide +kernel
theorem dX4_vaneIn_29 : decode cX4_vaneIn 29 = .ok (.ireturn, 1) := by decide +kernel
set_option maxRecDepth 20000 in
theorem ggX4_best_X4_leastRow : GoodIn wsX4_best wsX4_leastRow := goodIn_r _ [7, 2, 8, 9, 10, 6, 11, 12, 13, 14, 15, 16, 17, 18, 19, 20, 21, 22, 23, 24, 25, 26, 27, 28, 29, 30, 31, 32, 33, 34, 35, 36, 37, 38, 39, 40, 41, 42, 43, 44, 45, 46, 47, 48, 49, 50, 51, 52, 53, 65, 66, 67, 68, 69, 70, 71, 72, 73, 74, 75, 76, 77, 78, 79, 80, 81, 82, 83, 84, 85, 86, 87, 88, 89, 90, 91, 92, 93, 94, 95, 96] (by decide +kernel) (by decide +kernel)
set_option maxRecDepth 20000 in
theorem gX4_best_X4_leastRow : GoodIn wsX4_best (wsV RX4 211 RX4 yX4_leastRow wsX4_leastRow) := goodIn_app (goodIn_of _ (by decide +kernel)) ggX4_best_X4_leastRow
set_option maxRecDepth 20000 in
theorem ggX4_best_X4_noWork : GoodIn wsX4_best wsX4_noWork := goodIn_r _ [57, 12, 58, 59, 6, 60, 65, 66, 67, 68, 69, 70, 71, 72, 73, 74, 75, 76, 77, 78, 79, 80, 81, 82, 83, 84, 85, 86, 87, 88, 89, 90, 91, 92, 93, 94, 95, 96] (by decide +kernel) (by decide +kernel)
set_option maxRecDepth 20000 in
theorem gX4_best_X4_noWork : GoodIn wsX4_best (wsV RX4 161 RX4 yX4_noWork wsX4_noWork) := goodIn_app (goodIn_of _ (by decide +kernel)) ggX4_best_X4_noWork
set_option maxRecDepth 20000 in
theorem ggX4_best_X4_vaneIn : GoodIn wsX4_best wsX4_vaneIn := goodIn_r _ [64, 12, 65, 66, 67, 68, 69, 70, 71, 72, 73, 74, 75, 76, 77, 78, 79, 80, 81, 82, 83, 84, 85, 86, 87, 88, 89, 90, 91, 92, 93, 94, 95, 96] (by decide +kernel) (by decide +kernel)
set_option maxRecDepth 20000 in
theorem gX4_best_X4_vaneIn : GoodIn wsX4_best (wsV RX4 215 RX4 yX4_vaneIn wsX4_vaneIn) := goodIn_app (goodIn_of _ (by decide +kernel)) ggX4_best_X4_vaneIn
theorem dX4_best_0 : decode cX4_best 0 = .ok (.iload_n 1, 1) := by decide +kernel
theorem dX4_best_1 : decode cX4_best 1 = .ok (.iconst (-1), 1) := by decide +kernel
theorem dX4_best_2 : decode cX4_best 2 = .ok (.if_icmp .ge 5, 3) := by decide +kernel
theorem dX4_best_5 : decode cX4_best 5 = .ok (.iconst (-1), 1) := by decide +kernel
theorem dX4_best_6 : decode cX4_best 6 = .ok (.ireturn, 1) := by decide +kernel
theorem dX4_best_7 : decode cX4_best 7 = .ok (.aload_n 0, 1) := by decide +kernel
theorem dX4_best_8 : decode cX4_best 8 = .ok (.getfield 74, 3) := by decide +kernel
theorem dX4_best_11 : decode cX4_best 11 = .ok (.ifCond .ne 6, 3) := by decide +kernel
theorem dX4_best_14 : decode cX4_best 14 = .ok (.bipush (-3), 2) := by decide +kernel
theorem dX4_best_16 : decode cX4_best 16 = .ok (.ireturn, 1) := by decide +kernel
theorem dX4_best_17 : decode cX4_best 17 = .ok (.aload_n 0, 1) := by decide +kernel
theorem dX4_best_18 : decode cX4_best 18 = .ok (.iconst 1, 1) := by decide +kernel
theorem dX4_best_19 : decode cX4_best 19 = .ok (.invokevirtual 211, 3) := by decide +kernel
theorem dX4_best_22 : decode cX4_best 22 = .ok (.istore_n 2, 1) := by decide +kernel
theorem dX4_best_23 : decode cX4_best 23 = .ok (.iload_n 1, 1) := by decide +kernel
theorem dX4_best_24 : decode cX4_best 24 = .ok (.ifCond .ge 10, 3) := by decide +kernel
theorem dX4_best_27 : decode cX4_best 27 = .ok (.aload_n 0, 1) := by decide +kernel
theorem dX4_best_28 : decode cX4_best 28 = .ok (.getfield 202, 3) := by decide +kernel
theorem dX4_best_31 : decode cX4_best 31 = .ok (.goto 22, 3) := by decide +kernel
theorem dX4_best_34 : decode cX4_best 34 = .ok (.aload_n 0, 1) := by decide +kernel
theorem dX4_best_35 : decode cX4_best 35 = .ok (.iload_n 1, 1) := by decide +kernel
theorem dX4_best_36 : decode cX4_best 36 = .ok (.invokevirtual 161, 3) := by decide +kernel
theorem dX4_best_39 : decode cX4_best 39 = .ok (.ifCond .eq 8, 3) := by decide +kernel
theorem dX4_best_42 : decode cX4_best 42 = .ok (.bipush (-9), 2) := by decide +kernel
theorem dX4_best_44 : decode cX4_best 44 = .ok (.goto 9, 3) := by decide +kernel
theorem dX4_best_47 : decode cX4_best 47 = .ok (.aload_n 0, 1) := by decide +kernel
theorem dX4_best_48 : decode cX4_best 48 = .ok (.iload_n 2, 1) := by decide +kernel
theorem dX4_best_49 : decode cX4_best 49 = .ok (.iload_n 1, 1) := by decide +kernel
theorem dX4_best_50 : decode cX4_best 50 = .ok (.invokevirtual 215, 3) := by decide +kernel
theorem dX4_best_53 : decode cX4_best 53 = .ok (.ireturn, 1) := by decide +kernel
set_option maxRecDepth 20000 in
theorem ggX4_calm_X4_leastRow : GoodIn wsX4_calm wsX4_leastRow := goodIn_r _ [7, 2, 8, 9, 10, 6, 11, 12, 13, 14, 15, 16, 17, 18, 19, 20, 21, 22, 23, 24, 25, 26, 27, 28, 29, 30, 31, 32, 33, 34, 35, 36, 37, 38, 39, 40, 41, 42, 43, 44, 45, 46, 47, 48, 49, 50, 51, 52, 53, 65, 66, 67, 68, 69, 70, 71, 72, 73, 74, 75, 76, 77, 78, 79, 80, 81, 82, 83, 84, 85, 86, 87, 88, 89, 90, 91, 92, 93, 94, 95, 96] (by decide +kernel) (by decide +kernel)
set_option maxRecDepth 20000 in
theorem gX4_calm_X4_leastRow : GoodIn wsX4_calm (wsV RX4 211 RX4 yX4_leastRow wsX4_leastRow) := goodIn_app (goodIn_of _ (by decide +kernel)) ggX4_calm_X4_leastRow
set_option maxRecDepth 20000 in
theorem ggX4_calm_X4_noWork : GoodIn wsX4_calm wsX4_noWork := goodIn_r _ [57, 12, 58, 59, 6, 60, 65, 66, 67, 68, 69, 70, 71, 72, 73, 74, 75, 76, 77, 78, 79, 80, 81, 82, 83, 84, 85, 86, 87, 88, 89, 90, 91, 92, 93, 94, 95, 96] (by decide +kernel) (by decide +kernel)
set_option maxRecDepth 20000 in
theorem gX4_calm_X4_noWork : GoodIn wsX4_calm (wsV RX4 161 RX4 yX4_noWork wsX4_noWork) := goodIn_app (goodIn_of _ (by decide +kernel)) ggX4_calm_X4_noWork
set_option maxRecDepth 20000 in
theorem ggX4_calm_X4_vaneIn : GoodIn wsX4_calm wsX4_vaneIn := goodIn_r _ [64, 12, 65, 66, 67, 68, 69, 70, 71, 72, 73, 74, 75, 76, 77, 78, 79, 80, 81, 82, 83, 84, 85, 86, 87, 88, 89, 90, 91, 92, 93, 94, 95, 96] (by decide +kernel) (by decide +kernel)
set_option maxRecDepth 20000 in
theorem gX4_calm_X4_vaneIn : GoodIn wsX4_calm (wsV RX4 215 RX4 yX4_vaneIn wsX4_vaneIn) := goodIn_app (goodIn_of _ (by decide +kernel)) ggX4_calm_X4_vaneIn
theorem dX4_calm_0 : decode cX4_calm 0 = .ok (.iload_n 1, 1) := by decide +kernel
theorem dX4_calm_1 : decode cX4_calm 1 = .ok (.iconst (-1), 1) := by decide +kernel
theorem dX4_calm_2 : decode cX4_calm 2 = .ok (.if_icmp .ge 5, 3) := by decide +kernel
theorem dX4_calm_5 : decode cX4_calm 5 = .ok (.iconst (-1), 1) := by decide +kernel
theorem dX4_calm_6 : decode cX4_calm 6 = .ok (.ireturn, 1) := by decide +kernel
theorem dX4_calm_7 : decode cX4_calm 7 = .ok (.aload_n 0, 1) := by decide +kernel
theorem dX4_calm_8 : decode cX4_calm 8 = .ok (.getfield 74, 3) := by decide +kernel
theorem dX4_calm_11 : decode cX4_calm 11 = .ok (.ifCond .ne 6, 3) := by decide +kernel
theorem dX4_calm_14 : decode cX4_calm 14 = .ok (.bipush (-3), 2) := by decide +kernel
theorem dX4_calm_16 : decode cX4_calm 16 = .ok (.ireturn, 1) := by decide +kernel
theorem dX4_calm_17 : decode cX4_calm 17 = .ok (.aload_n 0, 1) := by decide +kernel
theorem dX4_calm_18 : decode cX4_calm 18 = .ok (.iconst 0, 1) := by decide +kernel
theorem dX4_calm_19 : decode cX4_calm 19 = .ok (.invokevirtual 211, 3) := by decide +kernel
theorem dX4_calm_22 : decode cX4_calm 22 = .ok (.istore_n 2, 1) := by decide +kernel
theorem dX4_calm_23 : decode cX4_calm 23 = .ok (.iload_n 1, 1) := by decide +kernel
theorem dX4_calm_24 : decode cX4_calm 24 = .ok (.ifCond .ge 10, 3) := by decide +kernel
theorem dX4_calm_27 : decode cX4_calm 27 = .ok (.aload_n 0, 1) := by decide +kernel
theorem dX4_calm_28 : decode cX4_calm 28 = .ok (.getfield 202, 3) := by decide +kernel
theorem dX4_calm_31 : decode cX4_calm 31 = .ok (.goto 22, 3) := by decide +kernel
theorem dX4_calm_34 : decode cX4_calm 34 = .ok (.aload_n 0, 1) := by decide +kernel
theorem dX4_calm_35 : decode cX4_calm 35 = .ok (.iload_n 1, 1) := by decide +kernel
theorem dX4_calm_36 : decode cX4_calm 36 = .ok (.invokevirtual 161, 3) := by decide +kernel
theorem dX4_calm_39 : decode cX4_calm 39 = .ok (.ifCond .eq 8, 3) := by decide +kernel
theorem dX4_calm_42 : decode cX4_calm 42 = .ok (.bipush (-9), 2) := by decide +kernel
theorem dX4_calm_44 : decode cX4_calm 44 = .ok (.goto 9, 3) := by decide +kernel
theorem dX4_calm_47 : decode cX4_calm 47 = .ok (.aload_n 0, 1) := by decide +kernel
theorem dX4_calm_48 : decode cX4_calm 48 = .ok (.iload_n 2, 1) := by decide +kernel
theorem dX4_calm_49 : decode cX4_calm 49 = .ok (.iload_n 1, 1) := by decide +kernel
theorem dX4_calm_50 : decode cX4_calm 50 = .ok (.invokevirtual 215, 3) := by decide +kernel
theorem dX4_calm_53 : decode cX4_calm 53 = .ok (.ireturn, 1) := by decide +kernel
set_option maxRecDepth 20000 in
theorem ggX4_bribe_X4_noWork : GoodIn wsX4_bribe wsX4_noWork := goodIn_r _ [7, 8, 9, 10, 6, 11, 50, 51, 52, 53, 54, 55, 56, 57, 58, 59, 60, 61, 62, 63, 64, 65, 66, 67, 68, 69, 70, 71, 72, 73, 74, 75, 76, 77, 78, 79, 80, 81] (by decide +kernel) (by decide +kernel)
set_option maxRecDepth 20000 in
theorem gX4_bribe_X4_noWork : GoodIn wsX4_bribe (wsV RX4 161 RX4 yX4_noWork wsX4_noWork) := goodIn_app (goodIn_of _ (by decide +kernel)) ggX4_bribe_X4_noWork
set_option maxRecDepth 20000 in
theorem ggX4_bribe_X4_in : GoodIn wsX4_bribe wsX4_in := goodIn_r _ [11] (by decide +kernel) (by decide +kernel)
set_option maxRecDepth 20000 in
theorem gX4_bribe_X4_in : GoodIn wsX4_bribe (va_wsS RX4 80 yX4_in wsX4_in) := goodIn_app (goodIn_of _ (by decide +kernel)) ggX4_bribe_X4_in
set_option maxRecDepth 20000 in
theorem ggX4_bribe_X4_bits : GoodIn wsX4_bribe wsX4_bits := goodIn_r _ [14] (by decide +kernel) (by decide +kernel)
set_option maxRecDepth 20000 in
theorem gX4_bribe_X4_bits : GoodIn wsX4_bribe (va_wsS RX4 218 yX4_bits wsX4_bits) := goodIn_app (goodIn_of _ (by decide +kernel)) ggX4_bribe_X4_bits
set_option maxRecDepth 20000 in
theorem ggX4_bribe_X4_winsBy : GoodIn wsX4_bribe wsX4_winsBy := goodIn_r _ [18, 2, 19, 20, 6, 21, 22, 23, 24, 25, 26, 27, 28, 29, 30, 31, 32, 33, 34, 35, 36, 37, 38, 39, 40, 41, 8, 42, 43, 44, 45, 46, 47, 48, 49, 50, 51, 52, 53, 54, 55, 56, 57, 58, 59, 60, 61, 62, 63, 64, 65, 66, 67, 68, 69, 70, 71, 72, 73, 74, 75, 76, 77, 78, 79, 80, 81] (by decide +kernel) (by decide +kernel)
set_option maxRecDepth 20000 in
theorem gX4_bribe_X4_winsBy : GoodIn wsX4_bribe (wsV RX4 195 RX4 yX4_winsBy wsX4_winsBy) := goodIn_app (goodIn_of _ (by decide +kernel)) ggX4_bribe_X4_winsBy
theorem dX4_bribe_0 : decode cX4_bribe 0 = .ok (.aload_n 0, 1) := by decide +kernel
theorem dX4_bribe_1 : decode cX4_bribe 1 = .ok (.iload_n 1, 1) := by decide +kernel
theorem dX4_bribe_2 : decode cX4_bribe 2 = .ok (.invokevirtual 161, 3) := by decide +kernel
theorem dX4_bribe_5 : decode cX4_bribe 5 = .ok (.ifCond .eq 5, 3) := by decide +kernel
theorem dX4_bribe_8 : decode cX4_bribe 8 = .ok (.iconst (-1), 1) := by decide +kernel
theorem dX4_bribe_9 : decode cX4_bribe 9 = .ok (.ireturn, 1) := by decide +kernel
theorem dX4_bribe_10 : decode cX4_bribe 10 = .ok (.iload_n 2, 1) := by decide +kernel
theorem dX4_bribe_11 : decode cX4_bribe 11 = .ok (.i2l, 1) := by decide +kernel
theorem dX4_bribe_12 : decode cX4_bribe 12 = .ok (.lconst 0, 1) := by decide +kernel
theorem dX4_bribe_13 : decode cX4_bribe 13 = .ok (.ldc2_w 164, 3) := by decide +kernel
theorem dX4_bribe_16 : decode cX4_bribe 16 = .ok (.invokestatic 80, 3) := by decide +kernel
theorem dX4_bribe_19 : decode cX4_bribe 19 = .ok (.ifCond .ne 6, 3) := by decide +kernel
theorem dX4_bribe_22 : decode cX4_bribe 22 = .ok (.bipush (-2), 2) := by decide +kernel
theorem dX4_bribe_24 : decode cX4_bribe 24 = .ok (.ireturn, 1) := by decide +kernel
theorem dX4_bribe_25 : decode cX4_bribe 25 = .ok (.bipush (-9), 2) := by decide +kernel
theorem dX4_bribe_27 : decode cX4_bribe 27 = .ok (.istore_n 3, 1) := by decide +kernel
theorem dX4_bribe_28 : decode cX4_bribe 28 = .ok (.iconst 0, 1) := by decide +kernel
theorem dX4_bribe_29 : decode cX4_bribe 29 = .ok (.istore 4, 2) := by decide +kernel
theorem dX4_bribe_31 : decode cX4_bribe 31 = .ok (.iload 4, 2) := by decide +kernel
theorem dX4_bribe_33 : decode cX4_bribe 33 = .ok (.iconst 1, 1) := by decide +kernel
theorem dX4_bribe_34 : decode cX4_bribe 34 = .ok (.aload_n 0, 1) := by decide +kernel
theorem dX4_bribe_35 : decode cX4_bribe 35 = .ok (.getfield 87, 3) := by decide +kernel
theorem dX4_bribe_38 : decode cX4_bribe 38 = .ok (.ishl, 1) := by decide +kernel
theorem dX4_bribe_39 : decode cX4_bribe 39 = .ok (.if_icmp .ge 40, 3) := by decide +kernel
theorem dX4_bribe_42 : decode cX4_bribe 42 = .ok (.iload_n 3, 1) := by decide +kernel
theorem dX4_bribe_43 : decode cX4_bribe 43 = .ok (.ifCond .lt 15, 3) := by decide +kernel
theorem dX4_bribe_46 : decode cX4_bribe 46 = .ok (.iload 4, 2) := by decide +kernel
theorem dX4_bribe_48 : decode cX4_bribe 48 = .ok (.invokestatic 218, 3) := by decide +kernel
theorem dX4_bribe_51 : decode cX4_bribe 51 = .ok (.iload_n 3, 1) := by decide +kernel
theorem dX4_bribe_52 : decode cX4_bribe 52 = .ok (.invokestatic 218, 3) := by decide +kernel
theorem dX4_bribe_55 : decode cX4_bribe 55 = .ok (.if_icmp .ge 18, 3) := by decide +kernel
theorem dX4_bribe_58 : decode cX4_bribe 58 = .ok (.aload_n 0, 1) := by decide +kernel
theorem dX4_bribe_59 : decode cX4_bribe 59 = .ok (.iload_n 1, 1) := by decide +kernel
theorem dX4_bribe_60 : decode cX4_bribe 60 = .ok (.iload 4, 2) := by decide +kernel
theorem dX4_bribe_62 : decode cX4_bribe 62 = .ok (.iload_n 2, 1) := by decide +kernel
theorem dX4_bribe_63 : decode cX4_bribe 63 = .ok (.invokevirtual 195, 3) := by decide +kernel
theorem dX4_bribe_66 : decode cX4_bribe 66 = .ok (.iload_n 2, 1) := by decide +kernel
theorem dX4_bribe_67 : decode cX4_bribe 67 = .ok (.if_icmp .ne 6, 3) := by decide +kernel
theorem dX4_bribe_70 : decode cX4_bribe 70 = .ok (.iload 4, 2) := by decide +kernel
theorem dX4_bribe_72 : decode cX4_bribe 72 = .ok (.istore_n 3, 1) := by decide +kernel
theorem dX4_bribe_73 : decode cX4_bribe 73 = .ok (.iinc 4 1, 3) := by decide +kernel
theorem dX4_bribe_76 : decode cX4_bribe 76 = .ok (.goto (-45), 3) := by decide +kernel
theorem dX4_bribe_79 : decode cX4_bribe 79 = .ok (.iload_n 3, 1) := by decide +kernel
theorem dX4_bribe_80 : decode cX4_bribe 80 = .ok (.ireturn, 1) := by decide +kernel
set_option maxRecDepth 20000 in
theorem ggX4_reading_X4_noSpot : GoodIn wsX4_reading wsX4_noSpot := goodIn_r _ [9, 10, 11, 12, 13, 8, 14, 15, 16, 17, 18, 19, 20, 21, 22, 23, 24, 25, 26, 27, 28, 29, 30, 31, 32, 33, 34, 35, 36, 37, 38, 39, 40, 41, 42, 43, 44, 45, 46] (by decide +kernel) (by decide +kernel)
set_option maxRecDepth 20000 in
theorem gX4_reading_X4_noSpot : GoodIn wsX4_reading (wsV RX4 169 RX4 yX4_noSpot wsX4_noSpot) := goodIn_app (goodIn_of _ (by decide +kernel)) ggX4_reading_X4_noSpot
set_option maxRecDepth 20000 in
theorem ggX4_reading_X4_in : GoodIn wsX4_reading wsX4_in := goodIn_r _ [14] (by decide +kernel) (by decide +kernel)
set_option maxRecDepth 20000 in
theorem gX4_reading_X4_in : GoodIn wsX4_reading (va_wsS RX4 80 yX4_in wsX4_in) := goodIn_app (goodIn_of _ (by decide +kernel)) ggX4_reading_X4_in
theorem dX4_reading_0 : decode cX4_reading 0 = .ok (.aload_n 0, 1) := by decide +kernel
theorem dX4_reading_1 : decode cX4_reading 1 = .ok (.iload_n 1, 1) := by decide +kernel
theorem dX4_reading_2 : decode cX4_reading 2 = .ok (.invokevirtual 169, 3) := by decide +kernel
theorem dX4_reading_5 : decode cX4_reading 5 = .ok (.ifCond .eq 5, 3) := by decide +kernel
theorem dX4_reading_8 : decode cX4_reading 8 = .ok (.iconst (-1), 1) := by decide +kernel
theorem dX4_reading_9 : decode cX4_reading 9 = .ok (.ireturn, 1) := by decide +kernel
theorem dX4_reading_10 : decode cX4_reading 10 = .ok (.iload_n 2, 1) := by decide +kernel
theorem dX4_reading_11 : decode cX4_reading 11 = .ok (.i2l, 1) := by decide +kernel
theorem dX4_reading_12 : decode cX4_reading 12 = .ok (.lconst 0, 1) := by decide +kernel
theorem dX4_reading_13 : decode cX4_reading 13 = .ok (.ldc2_w 221, 3) := by decide +kernel
theorem dX4_reading_16 : decode cX4_reading 16 = .ok (.invokestatic 80, 3) := by decide +kernel
theorem dX4_reading_19 : decode cX4_reading 19 = .ok (.ifCond .ne 6, 3) := by decide +kernel
theorem dX4_reading_22 : decode cX4_reading 22 = .ok (.bipush (-2), 2) := by decide +kernel
theorem dX4_reading_24 : decode cX4_reading 24 = .ok (.ireturn, 1) := by decide +kernel
theorem dX4_reading_25 : decode cX4_reading 25 = .ok (.aload_n 0, 1) := by decide +kernel
theorem dX4_reading_26 : decode cX4_reading 26 = .ok (.getfield 152, 3) := by decide +kernel
theorem dX4_reading_29 : decode cX4_reading 29 = .ok (.bipush 8, 2) := by decide +kernel
theorem dX4_reading_31 : decode cX4_reading 31 = .ok (.if_icmp .ne 6, 3) := by decide +kernel
theorem dX4_reading_34 : decode cX4_reading 34 = .ok (.bipush (-4), 2) := by decide +kernel
theorem dX4_reading_36 : decode cX4_reading 36 = .ok (.ireturn, 1) := by decide +kernel
theorem dX4_reading_37 : decode cX4_reading 37 = .ok (.aload_n 0, 1) := by decide +kernel
theorem dX4_reading_38 : decode cX4_reading 38 = .ok (.getfield 46, 3) := by decide +kernel
theorem dX4_reading_41 : decode cX4_reading 41 = .ok (.aload_n 0, 1) := by decide +kernel
theorem dX4_reading_42 : decode cX4_reading 42 = .ok (.getfield 152, 3) := by decide +kernel
theorem dX4_reading_45 : decode cX4_reading 45 = .ok (.iload_n 1, 1) := by decide +kernel
theorem dX4_reading_46 : decode cX4_reading 46 = .ok (.iastore, 1) := by decide +kernel
theorem dX4_reading_47 : decode cX4_reading 47 = .ok (.aload_n 0, 1) := by decide +kernel
theorem dX4_reading_48 : decode cX4_reading 48 = .ok (.getfield 49, 3) := by decide +kernel
theorem dX4_reading_51 : decode cX4_reading 51 = .ok (.aload_n 0, 1) := by decide +kernel
theorem dX4_reading_52 : decode cX4_reading 52 = .ok (.getfield 152, 3) := by decide +kernel
theorem dX4_reading_55 : decode cX4_reading 55 = .ok (.iload_n 2, 1) := by decide +kernel
theorem dX4_reading_56 : decode cX4_reading 56 = .ok (.iastore, 1) := by decide +kernel
theorem dX4_reading_57 : decode cX4_reading 57 = .ok (.aload_n 0, 1) := by decide +kernel
theorem dX4_reading_58 : decode cX4_reading 58 = .ok (.dup, 1) := by decide +kernel
theorem dX4_reading_59 : decode cX4_reading 59 = .ok (.getfield 152, 3) := by decide +kernel
theorem dX4_reading_62 : decode cX4_reading 62 = .ok (.iconst 1, 1) := by decide +kernel
theorem dX4_reading_63 : decode cX4_reading 63 = .ok (.iadd, 1) := by decide +kernel
theorem dX4_reading_64 : decode cX4_reading 64 = .ok (.putfield 152, 3) := by decide +kernel
theorem dX4_reading_67 : decode cX4_reading 67 = .ok (.aload_n 0, 1) := by decide +kernel
theorem dX4_reading_68 : decode cX4_reading 68 = .ok (.getfield 152, 3) := by decide +kernel
theorem dX4_reading_71 : decode cX4_reading 71 = .ok (.iconst 1, 1) := by decide +kernel
theorem dX4_reading_72 : decode cX4_reading 72 = .ok (.isub, 1) := by decide +kernel
theorem dX4_reading_73 : decode cX4_reading 73 = .ok (.ireturn, 1) := by decide +kernel
set_option maxRecDepth 20000 in
theorem ggX4_back_X4_in : GoodIn wsX4_back wsX4_in := goodIn_r _ [5] (by decide +kernel) (by decide +kernel)
set_option maxRecDepth 20000 in
theorem gX4_back_X4_in : GoodIn wsX4_back (va_wsS RX4 80 yX4_in wsX4_in) := goodIn_app (goodIn_of _ (by decide +kernel)) ggX4_back_X4_in
theorem dX4_back_0 : decode cX4_back 0 = .ok (.iload_n 1, 1) := by decide +kernel
theorem dX4_back_1 : decode cX4_back 1 = .ok (.i2l, 1) := by decide +kernel
theorem dX4_back_2 : decode cX4_back 2 = .ok (.lconst 0, 1) := by decide +kernel
theorem dX4_back_3 : decode cX4_back 3 = .ok (.aload_n 0, 1) := by decide +kernel
theorem dX4_back_4 : decode cX4_back 4 = .ok (.getfield 152, 3) := by decide +kernel
theorem dX4_back_7 : decode cX4_back 7 = .ok (.i2l, 1) := by decide +kernel
theorem dX4_back_8 : decode cX4_back 8 = .ok (.invokestatic 80, 3) := by decide +kernel
theorem dX4_back_11 : decode cX4_back 11 = .ok (.ifCond .ne 6, 3) := by decide +kernel
theorem dX4_back_14 : decode cX4_back 14 = .ok (.bipush (-2), 2) := by decide +kernel
theorem dX4_back_16 : decode cX4_back 16 = .ok (.ireturn, 1) := by decide +kernel
theorem dX4_back_17 : decode cX4_back 17 = .ok (.aload_n 0, 1) := by decide +kernel
theorem dX4_back_18 : decode cX4_back 18 = .ok (.dup, 1) := by decide +kernel
theorem dX4_back_19 : decode cX4_back 19 = .ok (.getfield 152, 3) := by decide +kernel
theorem dX4_back_22 : decode cX4_back 22 = .ok (.iload_n 1, 1) := by decide +kernel
theorem dX4_back_23 : decode cX4_back 23 = .ok (.isub, 1) := by decide +kernel
theorem dX4_back_24 : decode cX4_back 24 = .ok (.putfield 152, 3) := by decide +kernel
theorem dX4_back_27 : decode cX4_back 27 = .ok (.aload_n 0, 1) := by decide +kernel
theorem dX4_back_28 : decode cX4_back 28 = .ok (.getfield 152, 3) := by decide +kernel
theorem dX4_back_31 : decode cX4_back 31 = .ok (.ireturn, 1) := by decide +kernel
set_option maxRecDepth 20000 in
theorem ggX4_areSo_X4_smellOf : GoodIn wsX4_areSo wsX4_smellOf := goodIn_r _ [8, 9, 10, 11, 12, 13, 7, 14, 15, 16, 17, 18, 19, 20, 21, 22, 23, 24, 25, 26, 27, 28, 29, 30, 31, 32, 33, 34, 35, 36, 37, 38, 39, 40, 41, 42, 43, 44, 45, 46, 47, 48, 49, 50] (by decide +kernel) (by decide +kernel)
set_option maxRecDepth 20000 in
theorem gX4_areSo_X4_smellOf : GoodIn wsX4_areSo (wsV RX4 172 RX4 yX4_smellOf wsX4_smellOf) := goodIn_app (goodIn_of _ (by decide +kernel)) ggX4_areSo_X4_smellOf
theorem dX4_areSo_0 : decode cX4_areSo 0 = .ok (.iconst 1, 1) := by decide +kernel
theorem dX4_areSo_1 : decode cX4_areSo 1 = .ok (.istore_n 1, 1) := by decide +kernel
theorem dX4_areSo_2 : decode cX4_areSo 2 = .ok (.iconst 0, 1) := by decide +kernel
theorem dX4_areSo_3 : decode cX4_areSo 3 = .ok (.istore_n 2, 1) := by decide +kernel
theorem dX4_areSo_4 : decode cX4_areSo 4 = .ok (.iload_n 2, 1) := by decide +kernel
theorem dX4_areSo_5 : decode cX4_areSo 5 = .ok (.aload_n 0, 1) := by decide +kernel
theorem dX4_areSo_6 : decode cX4_areSo 6 = .ok (.getfield 152, 3) := by decide +kernel
theorem dX4_areSo_9 : decode cX4_areSo 9 = .ok (.if_icmp .ge 38, 3) := by decide +kernel
theorem dX4_areSo_12 : decode cX4_areSo 12 = .ok (.iload_n 1, 1) := by decide +kernel
theorem dX4_areSo_13 : decode cX4_areSo 13 = .ok (.ifCond .eq 26, 3) := by decide +kernel
theorem dX4_areSo_16 : decode cX4_areSo 16 = .ok (.aload_n 0, 1) := by decide +kernel
theorem dX4_areSo_17 : decode cX4_areSo 17 = .ok (.aload_n 0, 1) := by decide +kernel
theorem dX4_areSo_18 : decode cX4_areSo 18 = .ok (.getfield 46, 3) := by decide +kernel
theorem dX4_areSo_21 : decode cX4_areSo 21 = .ok (.iload_n 2, 1) := by decide +kernel
theorem dX4_areSo_22 : decode cX4_areSo 22 = .ok (.iaload, 1) := by decide +kernel
theorem dX4_areSo_23 : decode cX4_areSo 23 = .ok (.invokevirtual 172, 3) := by decide +kernel
theorem dX4_areSo_26 : decode cX4_areSo 26 = .ok (.aload_n 0, 1) := by decide +kernel
theorem dX4_areSo_27 : decode cX4_areSo 27 = .ok (.getfield 49, 3) := by decide +kernel
theorem dX4_areSo_30 : decode cX4_areSo 30 = .ok (.iload_n 2, 1) := by decide +kernel
theorem dX4_areSo_31 : decode cX4_areSo 31 = .ok (.iaload, 1) := by decide +kernel
theorem dX4_areSo_32 : decode cX4_areSo 32 = .ok (.if_icmp .ne 7, 3) := by decide +kernel
theorem dX4_areSo_35 : decode cX4_areSo 35 = .ok (.iconst 1, 1) := by decide +kernel
theorem dX4_areSo_36 : decode cX4_areSo 36 = .ok (.goto 4, 3) := by decide +kernel
theorem dX4_areSo_39 : decode cX4_areSo 39 = .ok (.iconst 0, 1) := by decide +kernel
theorem dX4_areSo_40 : decode cX4_areSo 40 = .ok (.istore_n 1, 1) := by decide +kernel
theorem dX4_areSo_41 : decode cX4_areSo 41 = .ok (.iinc 2 1, 3) := by decide +kernel
theorem dX4_areSo_44 : decode cX4_areSo 44 = .ok (.goto (-40), 3) := by decide +kernel
theorem dX4_areSo_47 : decode cX4_areSo 47 = .ok (.iload_n 1, 1) := by decide +kernel
theorem dX4_areSo_48 : decode cX4_areSo 48 = .ok (.ireturn, 1) := by decide +kernel
set_option maxRecDepth 20000 in
theorem ggX4_settings_X4_vanesNow : GoodIn wsX4_settings wsX4_vanesNow := goodIn_r _ [6, 7, 8, 47, 48, 49, 50, 51, 52, 53, 54, 55, 56, 57, 58, 59, 60, 61, 62, 63, 64, 65, 66, 67, 68, 69, 70, 71, 72, 73, 74, 75, 76, 77, 78] (by decide +kernel) (by decide +kernel)
set_option maxRecDepth 20000 in
theorem gX4_settings_X4_vanesNow : GoodIn wsX4_settings (wsV RX4 182 RX4 yX4_vanesNow wsX4_vanesNow) := goodIn_app (goodIn_of _ (by decide +kernel)) ggX4_settings_X4_vanesNow
set_option maxRecDepth 20000 in
theorem ggX4_settings_X4_rows : GoodIn wsX4_settings wsX4_rows := goodIn_r _ [12, 7, 47, 48, 49, 50, 51, 52, 53, 54, 55, 56, 57, 58, 59, 60, 61, 62, 63, 64, 65, 66, 67, 68, 69, 70, 71, 72, 73, 74, 75, 76, 77, 78] (by decide +kernel) (by decide +kernel)
set_option maxRecDepth 20000 in
theorem gX4_settings_X4_rows : GoodIn wsX4_settings (wsV RX4 205 RX4 yX4_rows wsX4_rows) := goodIn_app (goodIn_of _ (by decide +kernel)) ggX4_settings_X4_rows
set_option maxRecDepth 20000 in
theorem ggX4_settings_X4_turnAll : GoodIn wsX4_settings wsX4_turnAll := goodIn_r _ [16, 7, 8, 47, 48, 49, 50, 51, 52, 53, 54, 55, 56, 57, 58, 59, 60, 61, 62, 63, 64, 65, 66, 67, 68, 69, 70, 71, 72, 73, 74, 75, 76, 77, 78] (by decide +kernel) (by decide +kernel)
set_option maxRecDepth 20000 in
theorem gX4_settings_X4_turnAll : GoodIn wsX4_settings (wsV RX4 185 RX4 yX4_turnAll wsX4_turnAll) := goodIn_app (goodIn_of _ (by decide +kernel)) ggX4_settings_X4_turnAll
set_option maxRecDepth 20000 in
theorem ggX4_settings_X4_areSo : GoodIn wsX4_settings wsX4_areSo := goodIn_r _ [20, 21, 22, 23, 24, 25, 26, 5, 27, 7, 28, 29, 30, 31, 32, 33, 34, 8, 35, 47, 48, 49, 50, 51, 52, 53, 54, 55, 56, 57, 58, 59, 60, 61, 62, 63, 64, 65, 66, 67, 68, 69, 70, 71, 72, 73, 74, 75, 76, 77, 78] (by decide +kernel) (by decide +kernel)
set_option maxRecDepth 20000 in
theorem gX4_settings_X4_areSo : GoodIn wsX4_settings (wsV RX4 223 RX4 yX4_areSo wsX4_areSo) := goodIn_app (goodIn_of _ (by decide +kernel)) ggX4_settings_X4_areSo
set_option maxRecDepth 20000 in
theorem ggX4_settings_X4_noWork : GoodIn wsX4_settings wsX4_noWork := goodIn_r _ [39, 7, 40, 41, 5, 42, 47, 48, 49, 50, 51, 52, 53, 54, 55, 56, 57, 58, 59, 60, 61, 62, 63, 64, 65, 66, 67, 68, 69, 70, 71, 72, 73, 74, 75, 76, 77, 78] (by decide +kernel) (by decide +kernel)
set_option maxRecDepth 20000 in
theorem gX4_settings_X4_noWork : GoodIn wsX4_settings (wsV RX4 161 RX4 yX4_noWork wsX4_noWork) := goodIn_app (goodIn_of _ (by decide +kernel)) ggX4_settings_X4_noWork
set_option maxRecDepth 20000 in
theorem ggX4_settings_X4_vaneIn : GoodIn wsX4_settings wsX4_vaneIn := goodIn_r _ [46, 7, 47, 48, 49, 50, 51, 52, 53, 54, 55, 56, 57, 58, 59, 60, 61, 62, 63, 64, 65, 66, 67, 68, 69, 70, 71, 72, 73, 74, 75, 76, 77, 78] (by decide +kernel) (by decide +kernel)
set_option maxRecDepth 20000 in
theorem gX4_settings_X4_vaneIn : GoodIn wsX4_settings (wsV RX4 215 RX4 yX4_vaneIn wsX4_vaneIn) := goodIn_app (goodIn_of _ (by decide +kernel)) ggX4_settings_X4_vaneIn
theorem dX4_settings_0 : decode cX4_settings 0 = .ok (.iload_n 1, 1) := by decide +kernel
theorem dX4_settings_1 : decode cX4_settings 1 = .ok (.iconst (-1), 1) := by decide +kernel
theorem dX4_settings_2 : decode cX4_settings 2 = .ok (.if_icmp .ge 5, 3) := by decide +kernel
theorem dX4_settings_5 : decode cX4_settings 5 = .ok (.iconst (-1), 1) := by decide +kernel
theorem dX4_settings_6 : decode cX4_settings 6 = .ok (.ireturn, 1) := by decide +kernel
theorem dX4_settings_7 : decode cX4_settings 7 = .ok (.aload_n 0, 1) := by decide +kernel
theorem dX4_settings_8 : decode cX4_settings 8 = .ok (.getfield 74, 3) := by decide +kernel
theorem dX4_settings_11 : decode cX4_settings 11 = .ok (.ifCond .ne 6, 3) := by decide +kernel
theorem dX4_settings_14 : decode cX4_settings 14 = .ok (.bipush (-3), 2) := by decide +kernel
theorem dX4_settings_16 : decode cX4_settings 16 = .ok (.ireturn, 1) := by decide +kernel
theorem dX4_settings_17 : decode cX4_settings 17 = .ok (.aload_n 0, 1) := by decide +kernel
theorem dX4_settings_18 : decode cX4_settings 18 = .ok (.invokevirtual 182, 3) := by decide +kernel
theorem dX4_settings_21 : decode cX4_settings 21 = .ok (.istore_n 2, 1) := by decide +kernel
theorem dX4_settings_22 : decode cX4_settings 22 = .ok (.iconst 0, 1) := by decide +kernel
theorem dX4_settings_23 : decode cX4_settings 23 = .ok (.istore_n 3, 1) := by decide +kernel
theorem dX4_settings_24 : decode cX4_settings 24 = .ok (.bipush (-9), 2) := by decide +kernel
theorem dX4_settings_26 : decode cX4_settings 26 = .ok (.istore 4, 2) := by decide +kernel
theorem dX4_settings_28 : decode cX4_settings 28 = .ok (.iconst 0, 1) := by decide +kernel
theorem dX4_settings_29 : decode cX4_settings 29 = .ok (.istore 5, 2) := by decide +kernel
theorem dX4_settings_31 : decode cX4_settings 31 = .ok (.iload 5, 2) := by decide +kernel
theorem dX4_settings_33 : decode cX4_settings 33 = .ok (.aload_n 0, 1) := by decide +kernel
theorem dX4_settings_34 : decode cX4_settings 34 = .ok (.invokevirtual 205, 3) := by decide +kernel
theorem dX4_settings_37 : decode cX4_settings 37 = .ok (.if_icmp .ge 39, 3) := by decide +kernel
theorem dX4_settings_40 : decode cX4_settings 40 = .ok (.aload_n 0, 1) := by decide +kernel
theorem dX4_settings_41 : decode cX4_settings 41 = .ok (.iload 5, 2) := by decide +kernel
theorem dX4_settings_43 : decode cX4_settings 43 = .ok (.invokevirtual 185, 3) := by decide +kernel
theorem dX4_settings_46 : decode cX4_settings 46 = .ok (.aload_n 0, 1) := by decide +kernel
theorem dX4_settings_47 : decode cX4_settings 47 = .ok (.invokevirtual 223, 3) := by decide +kernel
theorem dX4_settings_50 : decode cX4_settings 50 = .ok (.ifCond .eq 20, 3) := by decide +kernel
theorem dX4_settings_53 : decode cX4_settings 53 = .ok (.iinc 3 1, 3) := by decide +kernel
theorem dX4_settings_56 : decode cX4_settings 56 = .ok (.iload 4, 2) := by decide +kernel
theorem dX4_settings_58 : decode cX4_settings 58 = .ok (.ifCond .ge 8, 3) := by decide +kernel
theorem dX4_settings_61 : decode cX4_settings 61 = .ok (.iload 5, 2) := by decide +kernel
theorem dX4_settings_63 : decode cX4_settings 63 = .ok (.goto 5, 3) := by decide +kernel
theorem dX4_settings_66 : decode cX4_settings 66 = .ok (.iload 4, 2) := by decide +kernel
theorem dX4_settings_68 : decode cX4_settings 68 = .ok (.istore 4, 2) := by decide +kernel
theorem dX4_settings_70 : decode cX4_settings 70 = .ok (.iinc 5 1, 3) := by decide +kernel
theorem dX4_settings_73 : decode cX4_settings 73 = .ok (.goto (-42), 3) := by decide +kernel
theorem dX4_settings_76 : decode cX4_settings 76 = .ok (.aload_n 0, 1) := by decide +kernel
theorem dX4_settings_77 : decode cX4_settings 77 = .ok (.iload_n 2, 1) := by decide +kernel
theorem dX4_settings_78 : decode cX4_settings 78 = .ok (.invokevirtual 185, 3) := by decide +kernel
theorem dX4_settings_81 : decode cX4_settings 81 = .ok (.iload_n 1, 1) := by decide +kernel
theorem dX4_settings_82 : decode cX4_settings 82 = .ok (.ifCond .ge 7, 3) := by decide +kernel
theorem dX4_settings_85 : decode cX4_settings 85 = .ok (.iload_n 3, 1) := by decide +kernel
theorem dX4_settings_86 : decode cX4_settings 86 = .ok (.goto 28, 3) := by decide +kernel
theorem dX4_settings_89 : decode cX4_settings 89 = .ok (.iload 4, 2) := by decide +kernel
theorem dX4_settings_91 : decode cX4_settings 91 = .ok (.ifCond .lt 11, 3) := by decide +kernel
theorem dX4_settings_94 : decode cX4_settings 94 = .ok (.aload_n 0, 1) := by decide +kernel
theorem dX4_settings_95 : decode cX4_settings 95 = .ok (.iload_n 1, 1) := by decide +kernel
theorem dX4_settings_96 : decode cX4_settings 96 = .ok (.invokevirtual 161, 3) := by decide +kernel
theorem dX4_settings_99 : decode cX4_settings 99 = .ok (.ifCond .eq 8, 3) := by decide +kernel
theorem dX4_settings_102 : decode cX4_settings 102 = .ok (.bipush (-9), 2) := by decide +kernel
theorem dX4_settings_104 : decode cX4_settings 104 = .ok (.goto 10, 3) := by decide +kernel
theorem dX4_settings_107 : decode cX4_settings 107 = .ok (.aload_n 0, 1) := by decide +kernel
theorem dX4_settings_108 : decode cX4_settings 108 = .ok (.iload 4, 2) := by decide +kernel
theorem dX4_settings_110 : decode cX4_settings 110 = .ok (.iload_n 1, 1) := by decide +kernel
theorem dX4_settings_111 : decode cX4_settings 111 = .ok (.invokevirtual 215, 3) := by decide +kernel
theorem dX4_settings_114 : decode cX4_settings 114 = .ok (.ireturn, 1) := by decide +kernel
set_option maxRecDepth 20000 in
theorem ggX4_laws_X4_areSo : GoodIn wsX4_laws wsX4_areSo := goodIn_r _ [7, 8, 9, 10, 11, 12, 13, 6, 14, 15, 2, 16, 17, 18, 19, 20, 21, 22, 23, 24, 25, 26, 27, 28, 29, 30, 31, 32, 33, 34, 35, 36, 37, 38, 39, 40, 41, 42, 43, 44, 45, 46, 47, 48, 49, 50, 51, 52, 53, 54, 55] (by decide +kernel) (by decide +kernel)
set_option maxRecDepth 20000 in
theorem gX4_laws_X4_areSo : GoodIn wsX4_laws (wsV RX4 223 RX4 yX4_areSo wsX4_areSo) := goodIn_app (goodIn_of _ (by decide +kernel)) ggX4_laws_X4_areSo
theorem dX4_laws_0 : decode cX4_laws 0 = .ok (.aload_n 0, 1) := by decide +kernel
theorem dX4_laws_1 : decode cX4_laws 1 = .ok (.getfield 74, 3) := by decide +kernel
theorem dX4_laws_4 : decode cX4_laws 4 = .ok (.ifCond .ne 6, 3) := by decide +kernel
theorem dX4_laws_7 : decode cX4_laws 7 = .ok (.bipush (-3), 2) := by decide +kernel
theorem dX4_laws_9 : decode cX4_laws 9 = .ok (.ireturn, 1) := by decide +kernel
theorem dX4_laws_10 : decode cX4_laws 10 = .ok (.aload_n 0, 1) := by decide +kernel
theorem dX4_laws_11 : decode cX4_laws 11 = .ok (.getfield 149, 3) := by decide +kernel
theorem dX4_laws_14 : decode cX4_laws 14 = .ok (.istore_n 1, 1) := by decide +kernel
theorem dX4_laws_15 : decode cX4_laws 15 = .ok (.iconst 0, 1) := by decide +kernel
theorem dX4_laws_16 : decode cX4_laws 16 = .ok (.istore_n 2, 1) := by decide +kernel
theorem dX4_laws_17 : decode cX4_laws 17 = .ok (.iconst 0, 1) := by decide +kernel
theorem dX4_laws_18 : decode cX4_laws 18 = .ok (.istore_n 3, 1) := by decide +kernel
theorem dX4_laws_19 : decode cX4_laws 19 = .ok (.iload_n 3, 1) := by decide +kernel
theorem dX4_laws_20 : decode cX4_laws 20 = .ok (.iconst 3, 1) := by decide +kernel
theorem dX4_laws_21 : decode cX4_laws 21 = .ok (.if_icmp .ge 31, 3) := by decide +kernel
theorem dX4_laws_24 : decode cX4_laws 24 = .ok (.aload_n 0, 1) := by decide +kernel
theorem dX4_laws_25 : decode cX4_laws 25 = .ok (.iload_n 3, 1) := by decide +kernel
theorem dX4_laws_26 : decode cX4_laws 26 = .ok (.putfield 149, 3) := by decide +kernel
theorem dX4_laws_29 : decode cX4_laws 29 = .ok (.iload_n 2, 1) := by decide +kernel
theorem dX4_laws_30 : decode cX4_laws 30 = .ok (.aload_n 0, 1) := by decide +kernel
theorem dX4_laws_31 : decode cX4_laws 31 = .ok (.invokevirtual 223, 3) := by decide +kernel
theorem dX4_laws_34 : decode cX4_laws 34 = .ok (.ifCond .eq 9, 3) := by decide +kernel
theorem dX4_laws_37 : decode cX4_laws 37 = .ok (.iconst 1, 1) := by decide +kernel
theorem dX4_laws_38 : decode cX4_laws 38 = .ok (.iload_n 3, 1) := by decide +kernel
theorem dX4_laws_39 : decode cX4_laws 39 = .ok (.ishl, 1) := by decide +kernel
theorem dX4_laws_40 : decode cX4_laws 40 = .ok (.goto 4, 3) := by decide +kernel
theorem dX4_laws_43 : decode cX4_laws 43 = .ok (.iconst 0, 1) := by decide +kernel
theorem dX4_laws_44 : decode cX4_laws 44 = .ok (.ior, 1) := by decide +kernel
theorem dX4_laws_45 : decode cX4_laws 45 = .ok (.istore_n 2, 1) := by decide +kernel
theorem dX4_laws_46 : decode cX4_laws 46 = .ok (.iinc 3 1, 3) := by decide +kernel
theorem dX4_laws_49 : decode cX4_laws 49 = .ok (.goto (-30), 3) := by decide +kernel
theorem dX4_laws_52 : decode cX4_laws 52 = .ok (.aload_n 0, 1) := by decide +kernel
theorem dX4_laws_53 : decode cX4_laws 53 = .ok (.iload_n 1, 1) := by decide +kernel
theorem dX4_laws_54 : decode cX4_laws 54 = .ok (.putfield 149, 3) := by decide +kernel
theorem dX4_laws_57 : decode cX4_laws 57 = .ok (.iload_n 2, 1) := by decide +kernel
theorem dX4_laws_58 : decode cX4_laws 58 = .ok (.ireturn, 1) := by decide +kernel
set_option maxRecDepth 20000 in
theorem ggX4_powers_X4_noWork : GoodIn wsX4_powers wsX4_noWork := goodIn_r _ [6, 7, 8, 9, 5, 10, 30, 31, 32, 33, 34, 35, 36, 37, 38, 39, 40, 41, 42, 43, 44, 45, 46, 47, 48, 49, 50, 51, 52, 53, 54, 55, 56, 57, 58, 59, 60, 61] (by decide +kernel) (by decide +kernel)
set_option maxRecDepth 20000 in
theorem gX4_powers_X4_noWork : GoodIn wsX4_powers (wsV RX4 161 RX4 yX4_noWork wsX4_noWork) := goodIn_app (goodIn_of _ (by decide +kernel)) ggX4_powers_X4_noWork
set_option maxRecDepth 20000 in
theorem ggX4_powers_X4_areSo : GoodIn wsX4_powers wsX4_areSo := goodIn_r _ [14, 15, 16, 17, 18, 19, 20, 5, 21, 7, 22, 23, 24, 25, 26, 27, 28, 29, 1, 30, 31, 32, 33, 34, 35, 36, 37, 38, 39, 40, 41, 42, 43, 44, 45, 46, 47, 48, 49, 50, 51, 52, 53, 54, 55, 56, 57, 58, 59, 60, 61] (by decide +kernel) (by decide +kernel)
set_option maxRecDepth 20000 in
theorem gX4_powers_X4_areSo : GoodIn wsX4_powers (wsV RX4 223 RX4 yX4_areSo wsX4_areSo) := goodIn_app (goodIn_of _ (by decide +kernel)) ggX4_powers_X4_areSo
theorem dX4_powers_0 : decode cX4_powers 0 = .ok (.aload_n 0, 1) := by decide +kernel
theorem dX4_powers_1 : decode cX4_powers 1 = .ok (.iload_n 1, 1) := by decide +kernel
theorem dX4_powers_2 : decode cX4_powers 2 = .ok (.invokevirtual 161, 3) := by decide +kernel
theorem dX4_powers_5 : decode cX4_powers 5 = .ok (.ifCond .eq 5, 3) := by decide +kernel
theorem dX4_powers_8 : decode cX4_powers 8 = .ok (.iconst (-1), 1) := by decide +kernel
theorem dX4_powers_9 : decode cX4_powers 9 = .ok (.ireturn, 1) := by decide +kernel
theorem dX4_powers_10 : decode cX4_powers 10 = .ok (.aload_n 0, 1) := by decide +kernel
theorem dX4_powers_11 : decode cX4_powers 11 = .ok (.getfield 13, 3) := by decide +kernel
theorem dX4_powers_14 : decode cX4_powers 14 = .ok (.iload_n 1, 1) := by decide +kernel
theorem dX4_powers_15 : decode cX4_powers 15 = .ok (.iaload, 1) := by decide +kernel
theorem dX4_powers_16 : decode cX4_powers 16 = .ok (.istore_n 2, 1) := by decide +kernel
theorem dX4_powers_17 : decode cX4_powers 17 = .ok (.iconst 0, 1) := by decide +kernel
theorem dX4_powers_18 : decode cX4_powers 18 = .ok (.istore_n 3, 1) := by decide +kernel
theorem dX4_powers_19 : decode cX4_powers 19 = .ok (.iconst 1, 1) := by decide +kernel
theorem dX4_powers_20 : decode cX4_powers 20 = .ok (.istore 4, 2) := by decide +kernel
theorem dX4_powers_22 : decode cX4_powers 22 = .ok (.iload 4, 2) := by decide +kernel
theorem dX4_powers_24 : decode cX4_powers 24 = .ok (.bipush 10, 2) := by decide +kernel
theorem dX4_powers_26 : decode cX4_powers 26 = .ok (.if_icmp .ge 35, 3) := by decide +kernel
theorem dX4_powers_29 : decode cX4_powers 29 = .ok (.aload_n 0, 1) := by decide +kernel
theorem dX4_powers_30 : decode cX4_powers 30 = .ok (.getfield 13, 3) := by decide +kernel
theorem dX4_powers_33 : decode cX4_powers 33 = .ok (.iload_n 1, 1) := by decide +kernel
theorem dX4_powers_34 : decode cX4_powers 34 = .ok (.iload 4, 2) := by decide +kernel
theorem dX4_powers_36 : decode cX4_powers 36 = .ok (.iastore, 1) := by decide +kernel
theorem dX4_powers_37 : decode cX4_powers 37 = .ok (.iload_n 3, 1) := by decide +kernel
theorem dX4_powers_38 : decode cX4_powers 38 = .ok (.aload_n 0, 1) := by decide +kernel
theorem dX4_powers_39 : decode cX4_powers 39 = .ok (.invokevirtual 223, 3) := by decide +kernel
theorem dX4_powers_42 : decode cX4_powers 42 = .ok (.ifCond .eq 10, 3) := by decide +kernel
theorem dX4_powers_45 : decode cX4_powers 45 = .ok (.iconst 1, 1) := by decide +kernel
theorem dX4_powers_46 : decode cX4_powers 46 = .ok (.iload 4, 2) := by decide +kernel
theorem dX4_powers_48 : decode cX4_powers 48 = .ok (.ishl, 1) := by decide +kernel
theorem dX4_powers_49 : decode cX4_powers 49 = .ok (.goto 4, 3) := by decide +kernel
theorem dX4_powers_52 : decode cX4_powers 52 = .ok (.iconst 0, 1) := by decide +kernel
theorem dX4_powers_53 : decode cX4_powers 53 = .ok (.ior, 1) := by decide +kernel
theorem dX4_powers_54 : decode cX4_powers 54 = .ok (.istore_n 3, 1) := by decide +kernel
theorem dX4_powers_55 : decode cX4_powers 55 = .ok (.iinc 4 1, 3) := by decide +kernel
theorem dX4_powers_58 : decode cX4_powers 58 = .ok (.goto (-36), 3) := by decide +kernel
theorem dX4_powers_61 : decode cX4_powers 61 = .ok (.aload_n 0, 1) := by decide +kernel
theorem dX4_powers_62 : decode cX4_powers 62 = .ok (.getfield 13, 3) := by decide +kernel
theorem dX4_powers_65 : decode cX4_powers 65 = .ok (.iload_n 1, 1) := by decide +kernel
theorem dX4_powers_66 : decode cX4_powers 66 = .ok (.iload_n 2, 1) := by decide +kernel
theorem dX4_powers_67 : decode cX4_powers 67 = .ok (.iastore, 1) := by decide +kernel
theorem dX4_powers_68 : decode cX4_powers 68 = .ok (.iload_n 3, 1) := by decide +kernel
theorem dX4_powers_69 : decode cX4_powers 69 = .ok (.ireturn, 1) := by decide +kernel
set_option maxRecDepth 20000 in
theorem ggX4_odds_X4_noSpot : GoodIn wsX4_odds wsX4_noSpot := goodIn_r _ [6, 7, 8, 9, 10, 5, 11, 44, 45, 46, 47, 48, 49, 50, 51, 52, 53, 54, 55, 56, 57, 58, 59, 60, 61, 62, 63, 64, 65, 66, 67, 68, 69, 70, 71, 72, 73, 74, 75] (by decide +kernel) (by decide +kernel)
set_option maxRecDepth 20000 in
theorem gX4_odds_X4_noSpot : GoodIn wsX4_odds (wsV RX4 169 RX4 yX4_noSpot wsX4_noSpot) := goodIn_app (goodIn_of _ (by decide +kernel)) ggX4_odds_X4_noSpot
set_option maxRecDepth 20000 in
theorem ggX4_odds_X4_in : GoodIn wsX4_odds wsX4_in := goodIn_r _ [11] (by decide +kernel) (by decide +kernel)
set_option maxRecDepth 20000 in
theorem gX4_odds_X4_in : GoodIn wsX4_odds (va_wsS RX4 80 yX4_in wsX4_in) := goodIn_app (goodIn_of _ (by decide +kernel)) ggX4_odds_X4_in
set_option maxRecDepth 20000 in
theorem ggX4_odds_X4_lost : GoodIn wsX4_odds wsX4_lost := goodIn_r _ [14, 15] (by decide +kernel) (by decide +kernel)
set_option maxRecDepth 20000 in
theorem gX4_odds_X4_lost : GoodIn wsX4_odds (va_wsS RX4 70 yX4_lost wsX4_lost) := goodIn_app (goodIn_of _ (by decide +kernel)) ggX4_odds_X4_lost
set_option maxRecDepth 20000 in
theorem ggX4_odds_X4_vanesNow : GoodIn wsX4_odds wsX4_vanesNow := goodIn_r _ [19, 20, 21, 44, 45, 46, 47, 48, 49, 50, 51, 52, 53, 54, 55, 56, 57, 58, 59, 60, 61, 62, 63, 64, 65, 66, 67, 68, 69, 70, 71, 72, 73, 74, 75] (by decide +kernel) (by decide +kernel)
set_option maxRecDepth 20000 in
theorem gX4_odds_X4_vanesNow : GoodIn wsX4_odds (wsV RX4 182 RX4 yX4_vanesNow wsX4_vanesNow) := goodIn_app (goodIn_of _ (by decide +kernel)) ggX4_odds_X4_vanesNow
set_option maxRecDepth 20000 in
theorem ggX4_odds_X4_rows : GoodIn wsX4_odds wsX4_rows := goodIn_r _ [25, 20, 44, 45, 46, 47, 48, 49, 50, 51, 52, 53, 54, 55, 56, 57, 58, 59, 60, 61, 62, 63, 64, 65, 66, 67, 68, 69, 70, 71, 72, 73, 74, 75] (by decide +kernel) (by decide +kernel)
set_option maxRecDepth 20000 in
theorem gX4_odds_X4_rows : GoodIn wsX4_odds (wsV RX4 205 RX4 yX4_rows wsX4_rows) := goodIn_app (goodIn_of _ (by decide +kernel)) ggX4_odds_X4_rows
set_option maxRecDepth 20000 in
theorem ggX4_odds_X4_turnAll : GoodIn wsX4_odds wsX4_turnAll := goodIn_r _ [29, 20, 21, 44, 45, 46, 47, 48, 49, 50, 51, 52, 53, 54, 55, 56, 57, 58, 59, 60, 61, 62, 63, 64, 65, 66, 67, 68, 69, 70, 71, 72, 73, 74, 75] (by decide +kernel) (by decide +kernel)
set_option maxRecDepth 20000 in
theorem gX4_odds_X4_turnAll : GoodIn wsX4_odds (wsV RX4 185 RX4 yX4_turnAll wsX4_turnAll) := goodIn_app (goodIn_of _ (by decide +kernel)) ggX4_odds_X4_turnAll
set_option maxRecDepth 20000 in
theorem ggX4_odds_X4_smellOf : GoodIn wsX4_odds wsX4_smellOf := goodIn_r _ [33, 20, 34, 35, 36, 37, 5, 38, 8, 39, 21, 40, 44, 45, 46, 47, 48, 49, 50, 51, 52, 53, 54, 55, 56, 57, 58, 59, 60, 61, 62, 63, 64, 65, 66, 67, 68, 69, 70, 71, 72, 73, 74, 75] (by decide +kernel) (by decide +kernel)
set_option maxRecDepth 20000 in
theorem gX4_odds_X4_smellOf : GoodIn wsX4_odds (wsV RX4 172 RX4 yX4_smellOf wsX4_smellOf) := goodIn_app (goodIn_of _ (by decide +kernel)) ggX4_odds_X4_smellOf
set_option maxRecDepth 20000 in
theorem ggX4_odds_X4_share : GoodIn wsX4_odds wsX4_share := goodIn_r _ [43] (by decide +kernel) (by decide +kernel)
set_option maxRecDepth 20000 in
theorem gX4_odds_X4_share : GoodIn wsX4_odds (va_wsS RX4 227 yX4_share wsX4_share) := goodIn_app (goodIn_of _ (by decide +kernel)) ggX4_odds_X4_share
theorem dX4_odds_0 : decode cX4_odds 0 = .ok (.aload_n 0, 1) := by decide +kernel
theorem dX4_odds_1 : decode cX4_odds 1 = .ok (.iload_n 1, 1) := by decide +kernel
theorem dX4_odds_2 : decode cX4_odds 2 = .ok (.invokevirtual 169, 3) := by decide +kernel
theorem dX4_odds_5 : decode cX4_odds 5 = .ok (.ifCond .ne 25, 3) := by decide +kernel
theorem dX4_odds_8 : decode cX4_odds 8 = .ok (.iload_n 2, 1) := by decide +kernel
theorem dX4_odds_9 : decode cX4_odds 9 = .ok (.i2l, 1) := by decide +kernel
theorem dX4_odds_10 : decode cX4_odds 10 = .ok (.lconst 0, 1) := by decide +kernel
theorem dX4_odds_11 : decode cX4_odds 11 = .ok (.ldc2_w 221, 3) := by decide +kernel
theorem dX4_odds_14 : decode cX4_odds 14 = .ok (.invokestatic 80, 3) := by decide +kernel
theorem dX4_odds_17 : decode cX4_odds 17 = .ok (.ifCond .eq 13, 3) := by decide +kernel
theorem dX4_odds_20 : decode cX4_odds 20 = .ok (.iload_n 3, 1) := by decide +kernel
theorem dX4_odds_21 : decode cX4_odds 21 = .ok (.i2l, 1) := by decide +kernel
theorem dX4_odds_22 : decode cX4_odds 22 = .ok (.lconst 0, 1) := by decide +kernel
theorem dX4_odds_23 : decode cX4_odds 23 = .ok (.lconst 1, 1) := by decide +kernel
theorem dX4_odds_24 : decode cX4_odds 24 = .ok (.invokestatic 80, 3) := by decide +kernel
theorem dX4_odds_27 : decode cX4_odds 27 = .ok (.ifCond .ne 7, 3) := by decide +kernel
theorem dX4_odds_30 : decode cX4_odds 30 = .ok (.invokestatic 70, 3) := by decide +kernel
theorem dX4_odds_33 : decode cX4_odds 33 = .ok (.lreturn, 1) := by decide +kernel
theorem dX4_odds_34 : decode cX4_odds 34 = .ok (.aload_n 0, 1) := by decide +kernel
theorem dX4_odds_35 : decode cX4_odds 35 = .ok (.invokevirtual 182, 3) := by decide +kernel
theorem dX4_odds_38 : decode cX4_odds 38 = .ok (.istore 4, 2) := by decide +kernel
theorem dX4_odds_40 : decode cX4_odds 40 = .ok (.lconst 0, 1) := by decide +kernel
theorem dX4_odds_41 : decode cX4_odds 41 = .ok (.lstore 5, 2) := by decide +kernel
theorem dX4_odds_43 : decode cX4_odds 43 = .ok (.iconst 0, 1) := by decide +kernel
theorem dX4_odds_44 : decode cX4_odds 44 = .ok (.istore 7, 2) := by decide +kernel
theorem dX4_odds_46 : decode cX4_odds 46 = .ok (.iload 7, 2) := by decide +kernel
theorem dX4_odds_48 : decode cX4_odds 48 = .ok (.aload_n 0, 1) := by decide +kernel
theorem dX4_odds_49 : decode cX4_odds 49 = .ok (.invokevirtual 205, 3) := by decide +kernel
theorem dX4_odds_52 : decode cX4_odds 52 = .ok (.if_icmp .ge 34, 3) := by decide +kernel
theorem dX4_odds_55 : decode cX4_odds 55 = .ok (.aload_n 0, 1) := by decide +kernel
theorem dX4_odds_56 : decode cX4_odds 56 = .ok (.iload 7, 2) := by decide +kernel
theorem dX4_odds_58 : decode cX4_odds 58 = .ok (.invokevirtual 185, 3) := by decide +kernel
theorem dX4_odds_61 : decode cX4_odds 61 = .ok (.lload 5, 2) := by decide +kernel
theorem dX4_odds_63 : decode cX4_odds 63 = .ok (.aload_n 0, 1) := by decide +kernel
theorem dX4_odds_64 : decode cX4_odds 64 = .ok (.iload_n 1, 1) := by decide +kernel
theorem dX4_odds_65 : decode cX4_odds 65 = .ok (.invokevirtual 172, 3) := by decide +kernel
theorem dX4_odds_68 : decode cX4_odds 68 = .ok (.iload_n 2, 1) := by decide +kernel
theorem dX4_odds_69 : decode cX4_odds 69 = .ok (.if_icmp .lt 7, 3) := by decide +kernel
theorem dX4_odds_72 : decode cX4_odds 72 = .ok (.lconst 1, 1) := by decide +kernel
theorem dX4_odds_73 : decode cX4_odds 73 = .ok (.goto 4, 3) := by decide +kernel
theorem dX4_odds_76 : decode cX4_odds 76 = .ok (.lconst 0, 1) := by decide +kernel
theorem dX4_odds_77 : decode cX4_odds 77 = .ok (.ladd, 1) := by decide +kernel
theorem dX4_odds_78 : decode cX4_odds 78 = .ok (.lstore 5, 2) := by decide +kernel
theorem dX4_odds_80 : decode cX4_odds 80 = .ok (.iinc 7 1, 3) := by decide +kernel
theorem dX4_odds_83 : decode cX4_odds 83 = .ok (.goto (-37), 3) := by decide +kernel
theorem dX4_odds_86 : decode cX4_odds 86 = .ok (.aload_n 0, 1) := by decide +kernel
theorem dX4_odds_87 : decode cX4_odds 87 = .ok (.iload 4, 2) := by decide +kernel
theorem dX4_odds_89 : decode cX4_odds 89 = .ok (.invokevirtual 185, 3) := by decide +kernel
theorem dX4_odds_92 : decode cX4_odds 92 = .ok (.lload 5, 2) := by decide +kernel
theorem dX4_odds_94 : decode cX4_odds 94 = .ok (.aload_n 0, 1) := by decide +kernel
theorem dX4_odds_95 : decode cX4_odds 95 = .ok (.invokevirtual 205, 3) := by decide +kernel
theorem dX4_odds_98 : decode cX4_odds 98 = .ok (.i2l, 1) := by decide +kernel
theorem dX4_odds_99 : decode cX4_odds 99 = .ok (.iload_n 3, 1) := by decide +kernel
theorem dX4_odds_100 : decode cX4_odds 100 = .ok (.invokestatic 227, 3) := by decide +kernel
theorem dX4_odds_103 : decode cX4_odds 103 = .ok (.lreturn, 1) := by decide +kernel
set_option maxRecDepth 20000 in
theorem ggX4_noSheet_X4_in : GoodIn wsX4_noSheet wsX4_in := goodIn_r _ [5] (by decide +kernel) (by decide +kernel)
set_option maxRecDepth 20000 in
theorem gX4_noSheet_X4_in : GoodIn wsX4_noSheet (va_wsS RX4 80 yX4_in wsX4_in) := goodIn_app (goodIn_of _ (by decide +kernel)) ggX4_noSheet_X4_in
theorem dX4_noSheet_0 : decode cX4_noSheet 0 = .ok (.iload_n 0, 1) := by decide +kernel
theorem dX4_noSheet_1 : decode cX4_noSheet 1 = .ok (.i2l, 1) := by decide +kernel
theorem dX4_noSheet_2 : decode cX4_noSheet 2 = .ok (.lconst 0, 1) := by decide +kernel
theorem dX4_noSheet_3 : decode cX4_noSheet 3 = .ok (.ldc2_w 164, 3) := by decide +kernel
theorem dX4_noSheet_6 : decode cX4_noSheet 6 = .ok (.invokestatic 80, 3) := by decide +kernel
theorem dX4_noSheet_9 : decode cX4_noSheet 9 = .ok (.ifCond .ne 7, 3) := by decide +kernel
theorem dX4_noSheet_12 : decode cX4_noSheet 12 = .ok (.iconst 1, 1) := by decide +kernel
theorem dX4_noSheet_13 : decode cX4_noSheet 13 = .ok (.goto 4, 3) := by decide +kernel
theorem dX4_noSheet_16 : decode cX4_noSheet 16 = .ok (.iconst 0, 1) := by decide +kernel
theorem dX4_noSheet_17 : decode cX4_noSheet 17 = .ok (.ireturn, 1) := by decide +kernel
set_option maxRecDepth 20000 in
theorem ggX4_sheet_X4_noSheet : GoodIn wsX4_sheet wsX4_noSheet := goodIn_r _ [8, 9, 10, 11, 7, 12] (by decide +kernel) (by decide +kernel)
set_option maxRecDepth 20000 in
theorem gX4_sheet_X4_noSheet : GoodIn wsX4_sheet (va_wsS RX4 132 yX4_noSheet wsX4_noSheet) := goodIn_app (goodIn_of _ (by decide +kernel)) ggX4_sheet_X4_noSheet
set_option maxRecDepth 20000 in
theorem ggX4_sheet_X4_refused : GoodIn wsX4_sheet wsX4_refused := goodIn_r _ [16, 17, 22, 23, 24, 25, 26, 27, 28, 29, 30, 31, 32, 33, 34, 35, 36, 37, 38, 39, 40, 41, 42, 43, 44, 45, 46, 47, 48, 49, 50, 51, 52, 53] (by decide +kernel) (by decide +kernel)
set_option maxRecDepth 20000 in
theorem gX4_sheet_X4_refused : GoodIn wsX4_sheet (wsV RX4 136 RX4 yX4_refused wsX4_refused) := goodIn_app (goodIn_of _ (by decide +kernel)) ggX4_sheet_X4_refused
set_option maxRecDepth 20000 in
theorem ggX4_sheet_X4_in : GoodIn wsX4_sheet wsX4_in := goodIn_r _ [12] (by decide +kernel) (by decide +kernel)
set_option maxRecDepth 20000 in
theorem gX4_sheet_X4_in : GoodIn wsX4_sheet (va_wsS RX4 80 yX4_in wsX4_in) := goodIn_app (goodIn_of _ (by decide +kernel)) ggX4_sheet_X4_in
set_option maxRecDepth 20000 in
theorem ggX4_sheet_X4_failed : GoodIn wsX4_sheet wsX4_failed := goodIn_r _ [21, 17, 22, 23, 24, 25, 26, 27, 28, 29, 30, 31, 32, 33, 34, 35, 36, 37, 38, 39, 40, 41, 42, 43, 44, 45, 46, 47, 48, 49, 50, 51, 52, 53] (by decide +kernel) (by decide +kernel)
set_option maxRecDepth 20000 in
theorem gX4_sheet_X4_failed : GoodIn wsX4_sheet (wsV RX4 124 RX4 yX4_failed wsX4_failed) := goodIn_app (goodIn_of _ (by decide +kernel)) ggX4_sheet_X4_failed
theorem dX4_sheet_0 : decode cX4_sheet 0 = .ok (.iload_n 1, 1) := by decide +kernel
theorem dX4_sheet_1 : decode cX4_sheet 1 = .ok (.invokestatic 132, 3) := by decide +kernel
theorem dX4_sheet_4 : decode cX4_sheet 4 = .ok (.ifCond .eq 9, 3) := by decide +kernel
theorem dX4_sheet_7 : decode cX4_sheet 7 = .ok (.aload_n 0, 1) := by decide +kernel
theorem dX4_sheet_8 : decode cX4_sheet 8 = .ok (.iconst (-1), 1) := by decide +kernel
theorem dX4_sheet_9 : decode cX4_sheet 9 = .ok (.invokevirtual 136, 3) := by decide +kernel
theorem dX4_sheet_12 : decode cX4_sheet 12 = .ok (.ireturn, 1) := by decide +kernel
theorem dX4_sheet_13 : decode cX4_sheet 13 = .ok (.iload_n 2, 1) := by decide +kernel
theorem dX4_sheet_14 : decode cX4_sheet 14 = .ok (.i2l, 1) := by decide +kernel
theorem dX4_sheet_15 : decode cX4_sheet 15 = .ok (.lconst 0, 1) := by decide +kernel
theorem dX4_sheet_16 : decode cX4_sheet 16 = .ok (.ldc2_w 139, 3) := by decide +kernel
theorem dX4_sheet_19 : decode cX4_sheet 19 = .ok (.invokestatic 80, 3) := by decide +kernel
theorem dX4_sheet_22 : decode cX4_sheet 22 = .ok (.ifCond .eq 9, 3) := by decide +kernel
theorem dX4_sheet_25 : decode cX4_sheet 25 = .ok (.iload_n 3, 1) := by decide +kernel
theorem dX4_sheet_26 : decode cX4_sheet 26 = .ok (.bipush 60, 2) := by decide +kernel
theorem dX4_sheet_28 : decode cX4_sheet 28 = .ok (.if_icmp .le 10, 3) := by decide +kernel
theorem dX4_sheet_31 : decode cX4_sheet 31 = .ok (.aload_n 0, 1) := by decide +kernel
theorem dX4_sheet_32 : decode cX4_sheet 32 = .ok (.bipush (-2), 2) := by decide +kernel
theorem dX4_sheet_34 : decode cX4_sheet 34 = .ok (.invokevirtual 136, 3) := by decide +kernel
theorem dX4_sheet_37 : decode cX4_sheet 37 = .ok (.ireturn, 1) := by decide +kernel
theorem dX4_sheet_38 : decode cX4_sheet 38 = .ok (.iload_n 3, 1) := by decide +kernel
theorem dX4_sheet_39 : decode cX4_sheet 39 = .ok (.ifCond .ge 9, 3) := by decide +kernel
theorem dX4_sheet_42 : decode cX4_sheet 42 = .ok (.aload_n 0, 1) := by decide +kernel
theorem dX4_sheet_43 : decode cX4_sheet 43 = .ok (.iconst 4, 1) := by decide +kernel
theorem dX4_sheet_44 : decode cX4_sheet 44 = .ok (.invokevirtual 124, 3) := by decide +kernel
theorem dX4_sheet_47 : decode cX4_sheet 47 = .ok (.ireturn, 1) := by decide +kernel
theorem dX4_sheet_48 : decode cX4_sheet 48 = .ok (.aload_n 0, 1) := by decide +kernel
theorem dX4_sheet_49 : decode cX4_sheet 49 = .ok (.getfield 52, 3) := by decide +kernel
theorem dX4_sheet_52 : decode cX4_sheet 52 = .ok (.iload_n 1, 1) := by decide +kernel
theorem dX4_sheet_53 : decode cX4_sheet 53 = .ok (.iload_n 3, 1) := by decide +kernel
theorem dX4_sheet_54 : decode cX4_sheet 54 = .ok (.iastore, 1) := by decide +kernel
theorem dX4_sheet_55 : decode cX4_sheet 55 = .ok (.aload_n 0, 1) := by decide +kernel
theorem dX4_sheet_56 : decode cX4_sheet 56 = .ok (.getfield 55, 3) := by decide +kernel
theorem dX4_sheet_59 : decode cX4_sheet 59 = .ok (.iload_n 1, 1) := by decide +kernel
theorem dX4_sheet_60 : decode cX4_sheet 60 = .ok (.iload_n 2, 1) := by decide +kernel
theorem dX4_sheet_61 : decode cX4_sheet 61 = .ok (.iastore, 1) := by decide +kernel
theorem dX4_sheet_62 : decode cX4_sheet 62 = .ok (.iconst 0, 1) := by decide +kernel
theorem dX4_sheet_63 : decode cX4_sheet 63 = .ok (.istore 4, 2) := by decide +kernel
theorem dX4_sheet_65 : decode cX4_sheet 65 = .ok (.iload 4, 2) := by decide +kernel
theorem dX4_sheet_67 : decode cX4_sheet 67 = .ok (.iload_n 3, 1) := by decide +kernel
theorem dX4_sheet_68 : decode cX4_sheet 68 = .ok (.if_icmp .ge 22, 3) := by decide +kernel
theorem dX4_sheet_71 : decode cX4_sheet 71 = .ok (.aload_n 0, 1) := by decide +kernel
theorem dX4_sheet_72 : decode cX4_sheet 72 = .ok (.getfield 58, 3) := by decide +kernel
theorem dX4_sheet_75 : decode cX4_sheet 75 = .ok (.bipush 60, 2) := by decide +kernel
theorem dX4_sheet_77 : decode cX4_sheet 77 = .ok (.iload_n 1, 1) := by decide +kernel
theorem dX4_sheet_78 : decode cX4_sheet 78 = .ok (.imul, 1) := by decide +kernel
theorem dX4_sheet_79 : decode cX4_sheet 79 = .ok (.iload 4, 2) := by decide +kernel
theorem dX4_sheet_81 : decode cX4_sheet 81 = .ok (.iadd, 1) := by decide +kernel
theorem dX4_sheet_82 : decode cX4_sheet 82 = .ok (.iconst 0, 1) := by decide +kernel
theorem dX4_sheet_83 : decode cX4_sheet 83 = .ok (.iastore, 1) := by decide +kernel
theorem dX4_sheet_84 : decode cX4_sheet 84 = .ok (.iinc 4 1, 3) := by decide +kernel
theorem dX4_sheet_87 : decode cX4_sheet 87 = .ok (.goto (-22), 3) := by decide +kernel
theorem dX4_sheet_90 : decode cX4_sheet 90 = .ok (.aload_n 0, 1) := by decide +kernel
theorem dX4_sheet_91 : decode cX4_sheet 91 = .ok (.iconst 1, 1) := by decide +kernel
theorem dX4_sheet_92 : decode cX4_sheet 92 = .ok (.invokevirtual 136, 3) := by decide +kernel
theorem dX4_sheet_95 : decode cX4_sheet 95 = .ok (.ireturn, 1) := by decide +kernel
set_option maxRecDepth 20000 in
theorem ggX4_lose_X4_noSheet : GoodIn wsX4_lose wsX4_noSheet := goodIn_r _ [5, 6, 7, 8, 4, 9] (by decide +kernel) (by decide +kernel)
set_option maxRecDepth 20000 in
theorem gX4_lose_X4_noSheet : GoodIn wsX4_lose (va_wsS RX4 132 yX4_noSheet wsX4_noSheet) := goodIn_app (goodIn_of _ (by decide +kernel)) ggX4_lose_X4_noSheet
theorem dX4_lose_0 : decode cX4_lose 0 = .ok (.iload_n 1, 1) := by decide +kernel
theorem dX4_lose_1 : decode cX4_lose 1 = .ok (.invokestatic 132, 3) := by decide +kernel
theorem dX4_lose_4 : decode cX4_lose 4 = .ok (.ifCond .eq 5, 3) := by decide +kernel
theorem dX4_lose_7 : decode cX4_lose 7 = .ok (.iconst (-1), 1) := by decide +kernel
theorem dX4_lose_8 : decode cX4_lose 8 = .ok (.ireturn, 1) := by decide +kernel
theorem dX4_lose_9 : decode cX4_lose 9 = .ok (.aload_n 0, 1) := by decide +kernel
theorem dX4_lose_10 : decode cX4_lose 10 = .ok (.getfield 52, 3) := by decide +kernel
theorem dX4_lose_13 : decode cX4_lose 13 = .ok (.iload_n 1, 1) := by decide +kernel
theorem dX4_lose_14 : decode cX4_lose 14 = .ok (.iaload, 1) := by decide +kernel
theorem dX4_lose_15 : decode cX4_lose 15 = .ok (.ifCond .ge 7, 3) := by decide +kernel
theorem dX4_lose_18 : decode cX4_lose 18 = .ok (.iconst 0, 1) := by decide +kernel
theorem dX4_lose_19 : decode cX4_lose 19 = .ok (.goto 4, 3) := by decide +kernel
theorem dX4_lose_22 : decode cX4_lose 22 = .ok (.iconst 1, 1) := by decide +kernel
theorem dX4_lose_23 : decode cX4_lose 23 = .ok (.istore_n 2, 1) := by decide +kernel
theorem dX4_lose_24 : decode cX4_lose 24 = .ok (.aload_n 0, 1) := by decide +kernel
theorem dX4_lose_25 : decode cX4_lose 25 = .ok (.getfield 52, 3) := by decide +kernel
theorem dX4_lose_28 : decode cX4_lose 28 = .ok (.iload_n 1, 1) := by decide +kernel
theorem dX4_lose_29 : decode cX4_lose 29 = .ok (.iconst (-1), 1) := by decide +kernel
theorem dX4_lose_30 : decode cX4_lose 30 = .ok (.iastore, 1) := by decide +kernel
theorem dX4_lose_31 : decode cX4_lose 31 = .ok (.iload_n 2, 1) := by decide +kernel
theorem dX4_lose_32 : decode cX4_lose 32 = .ok (.ireturn, 1) := by decide +kernel
set_option maxRecDepth 20000 in
theorem ggX4_noCell_X4_in : GoodIn wsX4_noCell wsX4_in := goodIn_r _ [5] (by decide +kernel) (by decide +kernel)
set_option maxRecDepth 20000 in
theorem gX4_noCell_X4_in : GoodIn wsX4_noCell (va_wsS RX4 80 yX4_in wsX4_in) := goodIn_app (goodIn_of _ (by decide +kernel)) ggX4_noCell_X4_in
theorem dX4_noCell_0 : decode cX4_noCell 0 = .ok (.aload_n 0, 1) := by decide +kernel
theorem dX4_noCell_1 : decode cX4_noCell 1 = .ok (.getfield 52, 3) := by decide +kernel
theorem dX4_noCell_4 : decode cX4_noCell 4 = .ok (.iload_n 1, 1) := by decide +kernel
theorem dX4_noCell_5 : decode cX4_noCell 5 = .ok (.iaload, 1) := by decide +kernel
theorem dX4_noCell_6 : decode cX4_noCell 6 = .ok (.ifCond .ge 7, 3) := by decide +kernel
theorem dX4_noCell_9 : decode cX4_noCell 9 = .ok (.iconst 1, 1) := by decide +kernel
theorem dX4_noCell_10 : decode cX4_noCell 10 = .ok (.goto 26, 3) := by decide +kernel
theorem dX4_noCell_13 : decode cX4_noCell 13 = .ok (.iload_n 2, 1) := by decide +kernel
theorem dX4_noCell_14 : decode cX4_noCell 14 = .ok (.i2l, 1) := by decide +kernel
theorem dX4_noCell_15 : decode cX4_noCell 15 = .ok (.lconst 0, 1) := by decide +kernel
theorem dX4_noCell_16 : decode cX4_noCell 16 = .ok (.aload_n 0, 1) := by decide +kernel
theorem dX4_noCell_17 : decode cX4_noCell 17 = .ok (.getfield 52, 3) := by decide +kernel
theorem dX4_noCell_20 : decode cX4_noCell 20 = .ok (.iload_n 1, 1) := by decide +kernel
theorem dX4_noCell_21 : decode cX4_noCell 21 = .ok (.iaload, 1) := by decide +kernel
theorem dX4_noCell_22 : decode cX4_noCell 22 = .ok (.i2l, 1) := by decide +kernel
theorem dX4_noCell_23 : decode cX4_noCell 23 = .ok (.lconst 1, 1) := by decide +kernel
theorem dX4_noCell_24 : decode cX4_noCell 24 = .ok (.lsub, 1) := by decide +kernel
theorem dX4_noCell_25 : decode cX4_noCell 25 = .ok (.invokestatic 80, 3) := by decide +kernel
theorem dX4_noCell_28 : decode cX4_noCell 28 = .ok (.ifCond .eq 7, 3) := by decide +kernel
theorem dX4_noCell_31 : decode cX4_noCell 31 = .ok (.iconst 0, 1) := by decide +kernel
theorem dX4_noCell_32 : decode cX4_noCell 32 = .ok (.goto 4, 3) := by decide +kernel
theorem dX4_noCell_35 : decode cX4_noCell 35 = .ok (.iconst 3, 1) := by decide +kernel
theorem dX4_noCell_36 : decode cX4_noCell 36 = .ok (.ireturn, 1) := by decide +kernel
set_option maxRecDepth 20000 in
theorem ggX4_put_X4_noSheet : GoodIn wsX4_put wsX4_noSheet := goodIn_r _ [6, 7, 8, 9, 5, 10] (by decide +kernel) (by decide +kernel)
set_option maxRecDepth 20000 in
theorem gX4_put_X4_noSheet : GoodIn wsX4_put (va_wsS RX4 132 yX4_noSheet wsX4_noSheet) := goodIn_app (goodIn_of _ (by decide +kernel)) ggX4_put_X4_noSheet
set_option maxRecDepth 20000 in
theorem ggX4_put_X4_refused : GoodIn wsX4_put wsX4_refused := goodIn_r _ [14, 15, 25, 26, 27, 28, 29, 30, 31, 32, 33, 34, 35, 36, 37, 38, 39, 40, 41, 42, 43, 44, 45, 46, 47, 48, 49, 50, 51, 52, 53, 54, 55, 56] (by decide +kernel) (by decide +kernel)
set_option maxRecDepth 20000 in
theorem gX4_put_X4_refused : GoodIn wsX4_put (wsV RX4 136 RX4 yX4_refused wsX4_refused) := goodIn_app (goodIn_of _ (by decide +kernel)) ggX4_put_X4_refused
set_option maxRecDepth 20000 in
theorem ggX4_put_X4_noCell : GoodIn wsX4_put wsX4_noCell := goodIn_r _ [19, 20, 8, 9, 5, 10, 25, 26, 27, 28, 29, 30, 31, 32, 33, 34, 35, 36, 37, 38, 39, 40, 41, 42, 43, 44, 45, 46, 47, 48, 49, 50, 51, 52, 53, 54, 55, 56] (by decide +kernel) (by decide +kernel)
set_option maxRecDepth 20000 in
theorem gX4_put_X4_noCell : GoodIn wsX4_put (wsV RX4 231 RX4 yX4_noCell wsX4_noCell) := goodIn_app (goodIn_of _ (by decide +kernel)) ggX4_put_X4_noCell
set_option maxRecDepth 20000 in
theorem ggX4_put_X4_failed : GoodIn wsX4_put wsX4_failed := goodIn_r _ [24, 15, 25, 26, 27, 28, 29, 30, 31, 32, 33, 34, 35, 36, 37, 38, 39, 40, 41, 42, 43, 44, 45, 46, 47, 48, 49, 50, 51, 52, 53, 54, 55, 56] (by decide +kernel) (by decide +kernel)
set_option maxRecDepth 20000 in
theorem gX4_put_X4_failed : GoodIn wsX4_put (wsV RX4 124 RX4 yX4_failed wsX4_failed) := goodIn_app (goodIn_of _ (by decide +kernel)) ggX4_put_X4_failed
theorem dX4_put_0 : decode cX4_put 0 = .ok (.iload_n 1, 1) := by decide +kernel
theorem dX4_put_1 : decode cX4_put 1 = .ok (.invokestatic 132, 3) := by decide +kernel
theorem dX4_put_4 : decode cX4_put 4 = .ok (.ifCond .eq 9, 3) := by decide +kernel
theorem dX4_put_7 : decode cX4_put 7 = .ok (.aload_n 0, 1) := by decide +kernel
theorem dX4_put_8 : decode cX4_put 8 = .ok (.iconst (-1), 1) := by decide +kernel
theorem dX4_put_9 : decode cX4_put 9 = .ok (.invokevirtual 136, 3) := by decide +kernel
theorem dX4_put_12 : decode cX4_put 12 = .ok (.ireturn, 1) := by decide +kernel
theorem dX4_put_13 : decode cX4_put 13 = .ok (.aload_n 0, 1) := by decide +kernel
theorem dX4_put_14 : decode cX4_put 14 = .ok (.iload_n 1, 1) := by decide +kernel
theorem dX4_put_15 : decode cX4_put 15 = .ok (.iload_n 2, 1) := by decide +kernel
theorem dX4_put_16 : decode cX4_put 16 = .ok (.invokevirtual 231, 3) := by decide +kernel
theorem dX4_put_19 : decode cX4_put 19 = .ok (.ifCond .le 14, 3) := by decide +kernel
theorem dX4_put_22 : decode cX4_put 22 = .ok (.aload_n 0, 1) := by decide +kernel
theorem dX4_put_23 : decode cX4_put 23 = .ok (.aload_n 0, 1) := by decide +kernel
theorem dX4_put_24 : decode cX4_put 24 = .ok (.iload_n 1, 1) := by decide +kernel
theorem dX4_put_25 : decode cX4_put 25 = .ok (.iload_n 2, 1) := by decide +kernel
theorem dX4_put_26 : decode cX4_put 26 = .ok (.invokevirtual 231, 3) := by decide +kernel
theorem dX4_put_29 : decode cX4_put 29 = .ok (.invokevirtual 124, 3) := by decide +kernel
theorem dX4_put_32 : decode cX4_put 32 = .ok (.ireturn, 1) := by decide +kernel
theorem dX4_put_33 : decode cX4_put 33 = .ok (.aload_n 0, 1) := by decide +kernel
theorem dX4_put_34 : decode cX4_put 34 = .ok (.getfield 58, 3) := by decide +kernel
theorem dX4_put_37 : decode cX4_put 37 = .ok (.bipush 60, 2) := by decide +kernel
theorem dX4_put_39 : decode cX4_put 39 = .ok (.iload_n 1, 1) := by decide +kernel
theorem dX4_put_40 : decode cX4_put 40 = .ok (.imul, 1) := by decide +kernel
theorem dX4_put_41 : decode cX4_put 41 = .ok (.iload_n 2, 1) := by decide +kernel
theorem dX4_put_42 : decode cX4_put 42 = .ok (.iadd, 1) := by decide +kernel
theorem dX4_put_43 : decode cX4_put 43 = .ok (.aload_n 0, 1) := by decide +kernel
theorem dX4_put_44 : decode cX4_put 44 = .ok (.getfield 55, 3) := by decide +kernel
theorem dX4_put_47 : decode cX4_put 47 = .ok (.iload_n 1, 1) := by decide +kernel
theorem dX4_put_48 : decode cX4_put 48 = .ok (.iaload, 1) := by decide +kernel
theorem dX4_put_49 : decode cX4_put 49 = .ok (.ifCond .ne 8, 3) := by decide +kernel
theorem dX4_put_52 : decode cX4_put 52 = .ok (.iload_n 3, 1) := by decide +kernel
theorem dX4_put_53 : decode cX4_put 53 = .ok (.i2b, 1) := by decide +kernel
theorem dX4_put_54 : decode cX4_put 54 = .ok (.goto 19, 3) := by decide +kernel
theorem dX4_put_57 : decode cX4_put 57 = .ok (.aload_n 0, 1) := by decide +kernel
theorem dX4_put_58 : decode cX4_put 58 = .ok (.getfield 55, 3) := by decide +kernel
theorem dX4_put_61 : decode cX4_put 61 = .ok (.iload_n 1, 1) := by decide +kernel
theorem dX4_put_62 : decode cX4_put 62 = .ok (.iaload, 1) := by decide +kernel
theorem dX4_put_63 : decode cX4_put 63 = .ok (.iconst 1, 1) := by decide +kernel
theorem dX4_put_64 : decode cX4_put 64 = .ok (.if_icmp .ne 8, 3) := by decide +kernel
theorem dX4_put_67 : decode cX4_put 67 = .ok (.iload_n 3, 1) := by decide +kernel
theorem dX4_put_68 : decode cX4_put 68 = .ok (.i2s, 1) := by decide +kernel
theorem dX4_put_69 : decode cX4_put 69 = .ok (.goto 4, 3) := by decide +kernel
theorem dX4_put_72 : decode cX4_put 72 = .ok (.iload_n 3, 1) := by decide +kernel
theorem dX4_put_73 : decode cX4_put 73 = .ok (.iastore, 1) := by decide +kernel
theorem dX4_put_74 : decode cX4_put 74 = .ok (.aload_n 0, 1) := by decide +kernel
theorem dX4_put_75 : decode cX4_put 75 = .ok (.iconst 1, 1) := by decide +kernel
theorem dX4_put_76 : decode cX4_put 76 = .ok (.invokevirtual 136, 3) := by decide +kernel
theorem dX4_put_79 : decode cX4_put 79 = .ok (.ireturn, 1) := by decide +kernel
set_option maxRecDepth 20000 in
theorem ggX4_cell_X4_noSheet : GoodIn wsX4_cell wsX4_noSheet := goodIn_r _ [9, 10, 11, 12, 8, 13] (by decide +kernel) (by decide +kernel)
set_option maxRecDepth 20000 in
theorem gX4_cell_X4_noSheet : GoodIn wsX4_cell (va_wsS RX4 132 yX4_noSheet wsX4_noSheet) := goodIn_app (goodIn_of _ (by decide +kernel)) ggX4_cell_X4_noSheet
set_option maxRecDepth 20000 in
theorem ggX4_cell_X4_in : GoodIn wsX4_cell wsX4_in := goodIn_r _ [13] (by decide +kernel) (by decide +kernel)
set_option maxRecDepth 20000 in
theorem gX4_cell_X4_in : GoodIn wsX4_cell (va_wsS RX4 80 yX4_in wsX4_in) := goodIn_app (goodIn_of _ (by decide +kernel)) ggX4_cell_X4_in
set_option maxRecDepth 20000 in
theorem ggX4_cell_X4_lost : GoodIn wsX4_cell wsX4_lost := goodIn_r _ [16, 17] (by decide +kernel) (by decide +kernel)
set_option maxRecDepth 20000 in
theorem gX4_cell_X4_lost : GoodIn wsX4_cell (va_wsS RX4 70 yX4_lost wsX4_lost) := goodIn_app (goodIn_of _ (by decide +kernel)) ggX4_cell_X4_lost
set_option maxRecDepth 20000 in
theorem ggX4_cell_X4_failedLong : GoodIn wsX4_cell wsX4_failedLong := goodIn_r _ [21, 1, 14, 15, 8, 16, 17, 26, 27, 28, 29, 30, 31, 32, 33, 34, 35, 36, 37, 38, 39, 40, 41, 42, 43, 44, 45, 46, 47, 48, 49, 50, 51, 52, 53, 54, 55, 56, 57] (by decide +kernel) (by decide +kernel)
set_option maxRecDepth 20000 in
theorem gX4_cell_X4_failedLong : GoodIn wsX4_cell (wsV RX4 234 RX4 yX4_failedLong wsX4_failedLong) := goodIn_app (goodIn_of _ (by decide +kernel)) ggX4_cell_X4_failedLong
set_option maxRecDepth 20000 in
theorem ggX4_cell_X4_noCell : GoodIn wsX4_cell wsX4_noCell := goodIn_r _ [25, 3, 11, 12, 8, 13, 26, 27, 28, 29, 30, 31, 32, 33, 34, 35, 36, 37, 38, 39, 40, 41, 42, 43, 44, 45, 46, 47, 48, 49, 50, 51, 52, 53, 54, 55, 56, 57] (by decide +kernel) (by decide +kernel)
set_option maxRecDepth 20000 in
theorem gX4_cell_X4_noCell : GoodIn wsX4_cell (wsV RX4 231 RX4 yX4_noCell wsX4_noCell) := goodIn_app (goodIn_of _ (by decide +kernel)) ggX4_cell_X4_noCell
theorem dX4_cell_0 : decode cX4_cell 0 = .ok (.aload_n 0, 1) := by decide +kernel
theorem dX4_cell_1 : decode cX4_cell 1 = .ok (.iconst 0, 1) := by decide +kernel
theorem dX4_cell_2 : decode cX4_cell 2 = .ok (.putfield 66, 3) := by decide +kernel
theorem dX4_cell_5 : decode cX4_cell 5 = .ok (.iload_n 1, 1) := by decide +kernel
theorem dX4_cell_6 : decode cX4_cell 6 = .ok (.invokestatic 132, 3) := by decide +kernel
theorem dX4_cell_9 : decode cX4_cell 9 = .ok (.ifCond .ne 15, 3) := by decide +kernel
theorem dX4_cell_12 : decode cX4_cell 12 = .ok (.iload_n 3, 1) := by decide +kernel
theorem dX4_cell_13 : decode cX4_cell 13 = .ok (.i2l, 1) := by decide +kernel
theorem dX4_cell_14 : decode cX4_cell 14 = .ok (.lconst 0, 1) := by decide +kernel
theorem dX4_cell_15 : decode cX4_cell 15 = .ok (.ldc2_w 139, 3) := by decide +kernel
theorem dX4_cell_18 : decode cX4_cell 18 = .ok (.invokestatic 80, 3) := by decide +kernel
theorem dX4_cell_21 : decode cX4_cell 21 = .ok (.ifCond .ne 7, 3) := by decide +kernel
theorem dX4_cell_24 : decode cX4_cell 24 = .ok (.invokestatic 70, 3) := by decide +kernel
theorem dX4_cell_27 : decode cX4_cell 27 = .ok (.lreturn, 1) := by decide +kernel
theorem dX4_cell_28 : decode cX4_cell 28 = .ok (.aload_n 0, 1) := by decide +kernel
theorem dX4_cell_29 : decode cX4_cell 29 = .ok (.getfield 52, 3) := by decide +kernel
theorem dX4_cell_32 : decode cX4_cell 32 = .ok (.iload_n 1, 1) := by decide +kernel
theorem dX4_cell_33 : decode cX4_cell 33 = .ok (.iaload, 1) := by decide +kernel
theorem dX4_cell_34 : decode cX4_cell 34 = .ok (.ifCond .lt 19, 3) := by decide +kernel
theorem dX4_cell_37 : decode cX4_cell 37 = .ok (.aload_n 0, 1) := by decide +kernel
theorem dX4_cell_38 : decode cX4_cell 38 = .ok (.getfield 55, 3) := by decide +kernel
theorem dX4_cell_41 : decode cX4_cell 41 = .ok (.iload_n 1, 1) := by decide +kernel
theorem dX4_cell_42 : decode cX4_cell 42 = .ok (.iaload, 1) := by decide +kernel
theorem dX4_cell_43 : decode cX4_cell 43 = .ok (.iload_n 3, 1) := by decide +kernel
theorem dX4_cell_44 : decode cX4_cell 44 = .ok (.if_icmp .eq 9, 3) := by decide +kernel
theorem dX4_cell_47 : decode cX4_cell 47 = .ok (.aload_n 0, 1) := by decide +kernel
theorem dX4_cell_48 : decode cX4_cell 48 = .ok (.iconst 2, 1) := by decide +kernel
theorem dX4_cell_49 : decode cX4_cell 49 = .ok (.invokevirtual 234, 3) := by decide +kernel
theorem dX4_cell_52 : decode cX4_cell 52 = .ok (.lreturn, 1) := by decide +kernel
theorem dX4_cell_53 : decode cX4_cell 53 = .ok (.aload_n 0, 1) := by decide +kernel
theorem dX4_cell_54 : decode cX4_cell 54 = .ok (.iload_n 1, 1) := by decide +kernel
theorem dX4_cell_55 : decode cX4_cell 55 = .ok (.iload_n 2, 1) := by decide +kernel
theorem dX4_cell_56 : decode cX4_cell 56 = .ok (.invokevirtual 231, 3) := by decide +kernel
theorem dX4_cell_59 : decode cX4_cell 59 = .ok (.ifCond .le 16, 3) := by decide +kernel
theorem dX4_cell_62 : decode cX4_cell 62 = .ok (.aload_n 0, 1) := by decide +kernel
theorem dX4_cell_63 : decode cX4_cell 63 = .ok (.aload_n 0, 1) := by decide +kernel
theorem dX4_cell_64 : decode cX4_cell 64 = .ok (.iload_n 1, 1) := by decide +kernel
theorem dX4_cell_65 : decode cX4_cell 65 = .ok (.iload_n 2, 1) := by decide +kernel
theorem dX4_cell_66 : decode cX4_cell 66 = .ok (.invokevirtual 231, 3) := by decide +kernel
theorem dX4_cell_69 : decode cX4_cell 69 = .ok (.invokevirtual 234, 3) := by decide +kernel
theorem dX4_cell_72 : decode cX4_cell 72 = .ok (.goto 15, 3) := by decide +kernel
theorem dX4_cell_75 : decode cX4_cell 75 = .ok (.aload_n 0, 1) := by decide +kernel
theorem dX4_cell_76 : decode cX4_cell 76 = .ok (.getfield 58, 3) := by decide +kernel
theorem dX4_cell_79 : decode cX4_cell 79 = .ok (.bipush 60, 2) := by decide +kernel
theorem dX4_cell_81 : decode cX4_cell 81 = .ok (.iload_n 1, 1) := by decide +kernel
theorem dX4_cell_82 : decode cX4_cell 82 = .ok (.imul, 1) := by decide +kernel
theorem dX4_cell_83 : decode cX4_cell 83 = .ok (.iload_n 2, 1) := by decide +kernel
theorem dX4_cell_84 : decode cX4_cell 84 = .ok (.iadd, 1) := by decide +kernel
theorem dX4_cell_85 : decode cX4_cell 85 = .ok (.iaload, 1) := by decide +kernel
theorem dX4_cell_86 : decode cX4_cell 86 = .ok (.i2l, 1) := by decide +kernel
theorem dX4_cell_87 : decode cX4_cell 87 = .ok (.lreturn, 1) := by decide +kernel
theorem dX4_isBeyond_0 : decode cX4_isBeyond 0 = .ok (.iload_n 0, 1) := by decide +kernel
theorem dX4_isBeyond_1 : decode cX4_isBeyond 1 = .ok (.ifCond .lt 19, 3) := by decide +kernel
theorem dX4_isBeyond_4 : decode cX4_isBeyond 4 = .ok (.lload_n 1, 1) := by decide +kernel
theorem dX4_isBeyond_5 : decode cX4_isBeyond 5 = .ok (.lconst 0, 1) := by decide +kernel
theorem dX4_isBeyond_6 : decode cX4_isBeyond 6 = .ok (.lcmp, 1) := by decide +kernel
theorem dX4_isBeyond_7 : decode cX4_isBeyond 7 = .ok (.ifCond .lt 13, 3) := by decide +kernel
theorem dX4_isBeyond_10 : decode cX4_isBeyond 10 = .ok (.iload_n 0, 1) := by decide +kernel
theorem dX4_isBeyond_11 : decode cX4_isBeyond 11 = .ok (.i2l, 1) := by decide +kernel
theorem dX4_isBeyond_12 : decode cX4_isBeyond 12 = .ok (.lload_n 1, 1) := by decide +kernel
theorem dX4_isBeyond_13 : decode cX4_isBeyond 13 = .ok (.ladd, 1) := by decide +kernel
theorem dX4_isBeyond_14 : decode cX4_isBeyond 14 = .ok (.iload_n 3, 1) := by decide +kernel
theorem dX4_isBeyond_15 : decode cX4_isBeyond 15 = .ok (.i2l, 1) := by decide +kernel
theorem dX4_isBeyond_16 : decode cX4_isBeyond 16 = .ok (.lcmp, 1) := by decide +kernel
theorem dX4_isBeyond_17 : decode cX4_isBeyond 17 = .ok (.ifCond .le 7, 3) := by decide +kernel
theorem dX4_isBeyond_20 : decode cX4_isBeyond 20 = .ok (.iconst 1, 1) := by decide +kernel
theorem dX4_isBeyond_21 : decode cX4_isBeyond 21 = .ok (.goto 4, 3) := by decide +kernel
theorem dX4_isBeyond_24 : decode cX4_isBeyond 24 = .ok (.iconst 0, 1) := by decide +kernel
theorem dX4_isBeyond_25 : decode cX4_isBeyond 25 = .ok (.ireturn, 1) := by decide +kernel
set_option maxRecDepth 20000 in
theorem ggX4_copy_X4_noSheet : GoodIn wsX4_copy wsX4_noSheet := goodIn_r _ [8, 9, 10, 11, 7, 12] (by decide +kernel) (by decide +kernel)
set_option maxRecDepth 20000 in
theorem gX4_copy_X4_noSheet : GoodIn wsX4_copy (va_wsS RX4 132 yX4_noSheet wsX4_noSheet) := goodIn_app (goodIn_of _ (by decide +kernel)) ggX4_copy_X4_noSheet
set_option maxRecDepth 20000 in
theorem ggX4_copy_X4_refused : GoodIn wsX4_copy wsX4_refused := goodIn_r _ [16, 17, 25, 26, 27, 28, 29, 30, 31, 32, 33, 34, 35, 36, 37, 38, 39, 40, 41, 42, 43, 44, 45, 46, 47, 48, 49, 50, 51, 52, 53, 54, 55, 56] (by decide +kernel) (by decide +kernel)
set_option maxRecDepth 20000 in
theorem gX4_copy_X4_refused : GoodIn wsX4_copy (wsV RX4 136 RX4 yX4_refused wsX4_refused) := goodIn_app (goodIn_of _ (by decide +kernel)) ggX4_copy_X4_refused
set_option maxRecDepth 20000 in
theorem ggX4_copy_X4_failed : GoodIn wsX4_copy wsX4_failed := goodIn_r _ [21, 17, 25, 26, 27, 28, 29, 30, 31, 32, 33, 34, 35, 36, 37, 38, 39, 40, 41, 42, 43, 44, 45, 46, 47, 48, 49, 50, 51, 52, 53, 54, 55, 56] (by decide +kernel) (by decide +kernel)
set_option maxRecDepth 20000 in
theorem gX4_copy_X4_failed : GoodIn wsX4_copy (wsV RX4 124 RX4 yX4_failed wsX4_failed) := goodIn_app (goodIn_of _ (by decide +kernel)) ggX4_copy_X4_failed
set_option maxRecDepth 20000 in
theorem ggX4_copy_X4_isBeyond : GoodIn wsX4_copy wsX4_isBeyond := goodIn_r _ [24] (by decide +kernel) (by decide +kernel)
set_option maxRecDepth 20000 in
theorem gX4_copy_X4_isBeyond : GoodIn wsX4_copy (va_wsS RX4 128 yX4_isBeyond wsX4_isBeyond) := goodIn_app (goodIn_of _ (by decide +kernel)) ggX4_copy_X4_isBeyond
theorem dX4_copy_0 : decode cX4_copy 0 = .ok (.iload_n 1, 1) := by decide +kernel
theorem dX4_copy_1 : decode cX4_copy 1 = .ok (.invokestatic 132, 3) := by decide +kernel
theorem dX4_copy_4 : decode cX4_copy 4 = .ok (.ifCond .ne 10, 3) := by decide +kernel
theorem dX4_copy_7 : decode cX4_copy 7 = .ok (.iload_n 3, 1) := by decide +kernel
theorem dX4_copy_8 : decode cX4_copy 8 = .ok (.invokestatic 132, 3) := by decide +kernel
theorem dX4_copy_11 : decode cX4_copy 11 = .ok (.ifCond .eq 9, 3) := by decide +kernel
theorem dX4_copy_14 : decode cX4_copy 14 = .ok (.aload_n 0, 1) := by decide +kernel
theorem dX4_copy_15 : decode cX4_copy 15 = .ok (.iconst (-1), 1) := by decide +kernel
theorem dX4_copy_16 : decode cX4_copy 16 = .ok (.invokevirtual 136, 3) := by decide +kernel
theorem dX4_copy_19 : decode cX4_copy 19 = .ok (.ireturn, 1) := by decide +kernel
theorem dX4_copy_20 : decode cX4_copy 20 = .ok (.aload_n 0, 1) := by decide +kernel
theorem dX4_copy_21 : decode cX4_copy 21 = .ok (.getfield 52, 3) := by decide +kernel
theorem dX4_copy_24 : decode cX4_copy 24 = .ok (.iload_n 1, 1) := by decide +kernel
theorem dX4_copy_25 : decode cX4_copy 25 = .ok (.iaload, 1) := by decide +kernel
theorem dX4_copy_26 : decode cX4_copy 26 = .ok (.ifCond .lt 12, 3) := by decide +kernel
theorem dX4_copy_29 : decode cX4_copy 29 = .ok (.aload_n 0, 1) := by decide +kernel
theorem dX4_copy_30 : decode cX4_copy 30 = .ok (.getfield 52, 3) := by decide +kernel
theorem dX4_copy_33 : decode cX4_copy 33 = .ok (.iload_n 3, 1) := by decide +kernel
theorem dX4_copy_34 : decode cX4_copy 34 = .ok (.iaload, 1) := by decide +kernel
theorem dX4_copy_35 : decode cX4_copy 35 = .ok (.ifCond .ge 9, 3) := by decide +kernel
theorem dX4_copy_38 : decode cX4_copy 38 = .ok (.aload_n 0, 1) := by decide +kernel
theorem dX4_copy_39 : decode cX4_copy 39 = .ok (.iconst 1, 1) := by decide +kernel
theorem dX4_copy_40 : decode cX4_copy 40 = .ok (.invokevirtual 124, 3) := by decide +kernel
theorem dX4_copy_43 : decode cX4_copy 43 = .ok (.ireturn, 1) := by decide +kernel
theorem dX4_copy_44 : decode cX4_copy 44 = .ok (.aload_n 0, 1) := by decide +kernel
theorem dX4_copy_45 : decode cX4_copy 45 = .ok (.getfield 55, 3) := by decide +kernel
theorem dX4_copy_48 : decode cX4_copy 48 = .ok (.iload_n 1, 1) := by decide +kernel
theorem dX4_copy_49 : decode cX4_copy 49 = .ok (.iaload, 1) := by decide +kernel
theorem dX4_copy_50 : decode cX4_copy 50 = .ok (.aload_n 0, 1) := by decide +kernel
theorem dX4_copy_51 : decode cX4_copy 51 = .ok (.getfield 55, 3) := by decide +kernel
theorem dX4_copy_54 : decode cX4_copy 54 = .ok (.iload_n 3, 1) := by decide +kernel
theorem dX4_copy_55 : decode cX4_copy 55 = .ok (.iaload, 1) := by decide +kernel
theorem dX4_copy_56 : decode cX4_copy 56 = .ok (.if_icmp .eq 9, 3) := by decide +kernel
theorem dX4_copy_59 : decode cX4_copy 59 = .ok (.aload_n 0, 1) := by decide +kernel
theorem dX4_copy_60 : decode cX4_copy 60 = .ok (.iconst 2, 1) := by decide +kernel
theorem dX4_copy_61 : decode cX4_copy 61 = .ok (.invokevirtual 124, 3) := by decide +kernel
theorem dX4_copy_64 : decode cX4_copy 64 = .ok (.ireturn, 1) := by decide +kernel
theorem dX4_copy_65 : decode cX4_copy 65 = .ok (.iload_n 2, 1) := by decide +kernel
theorem dX4_copy_66 : decode cX4_copy 66 = .ok (.iload 5, 2) := by decide +kernel
theorem dX4_copy_68 : decode cX4_copy 68 = .ok (.i2l, 1) := by decide +kernel
theorem dX4_copy_69 : decode cX4_copy 69 = .ok (.aload_n 0, 1) := by decide +kernel
theorem dX4_copy_70 : decode cX4_copy 70 = .ok (.getfield 52, 3) := by decide +kernel
theorem dX4_copy_73 : decode cX4_copy 73 = .ok (.iload_n 1, 1) := by decide +kernel
theorem dX4_copy_74 : decode cX4_copy 74 = .ok (.iaload, 1) := by decide +kernel
theorem dX4_copy_75 : decode cX4_copy 75 = .ok (.invokestatic 128, 3) := by decide +kernel
theorem dX4_copy_78 : decode cX4_copy 78 = .ok (.ifCond .ne 20, 3) := by decide +kernel
theorem dX4_copy_81 : decode cX4_copy 81 = .ok (.iload 4, 2) := by decide +kernel
theorem dX4_copy_83 : decode cX4_copy 83 = .ok (.iload 5, 2) := by decide +kernel
theorem dX4_copy_85 : decode cX4_copy 85 = .ok (.i2l, 1) := by decide +kernel
theorem dX4_copy_86 : decode cX4_copy 86 = .ok (.aload_n 0, 1) := by decide +kernel
theorem dX4_copy_87 : decode cX4_copy 87 = .ok (.getfield 52, 3) := by decide +kernel
theorem dX4_copy_90 : decode cX4_copy 90 = .ok (.iload_n 3, 1) := by decide +kernel
theorem dX4_copy_91 : decode cX4_copy 91 = .ok (.iaload, 1) := by decide +kernel
theorem dX4_copy_92 : decode cX4_copy 92 = .ok (.invokestatic 128, 3) := by decide +kernel
theorem dX4_copy_95 : decode cX4_copy 95 = .ok (.ifCond .eq 9, 3) := by decide +kernel
theorem dX4_copy_98 : decode cX4_copy 98 = .ok (.aload_n 0, 1) := by decide +kernel
theorem dX4_copy_99 : decode cX4_copy 99 = .ok (.iconst 3, 1) := by decide +kernel
theorem dX4_copy_100 : decode cX4_copy 100 = .ok (.invokevirtual 124, 3) := by decide +kernel
theorem dX4_copy_103 : decode cX4_copy 103 = .ok (.ireturn, 1) := by decide +kernel
theorem dX4_copy_104 : decode cX4_copy 104 = .ok (.iconst 0, 1) := by decide +kernel
theorem dX4_copy_105 : decode cX4_copy 105 = .ok (.istore 6, 2) := by decide +kernel
theorem dX4_copy_107 : decode cX4_copy 107 = .ok (.iload 6, 2) := by decide +kernel
theorem dX4_copy_109 : decode cX4_copy 109 = .ok (.iload 5, 2) := by decide +kernel
theorem dX4_copy_111 : decode cX4_copy 111 = .ok (.if_icmp .ge 30, 3) := by decide +kernel
theorem dX4_copy_114 : decode cX4_copy 114 = .ok (.aload_n 0, 1) := by decide +kernel
theorem dX4_copy_115 : decode cX4_copy 115 = .ok (.getfield 61, 3) := by decide +kernel
theorem dX4_copy_118 : decode cX4_copy 118 = .ok (.iload 6, 2) := by decide +kernel
theorem dX4_copy_120 : decode cX4_copy 120 = .ok (.aload_n 0, 1) := by decide +kernel
theorem dX4_copy_121 : decode cX4_copy 121 = .ok (.getfield 58, 3) := by decide +kernel
theorem dX4_copy_124 : decode cX4_copy 124 = .ok (.bipush 60, 2) := by decide +kernel
theorem dX4_copy_126 : decode cX4_copy 126 = .ok (.iload_n 1, 1) := by decide +kernel
theorem dX4_copy_127 : decode cX4_copy 127 = .ok (.imul, 1) := by decide +kernel
theorem dX4_copy_128 : decode cX4_copy 128 = .ok (.iload_n 2, 1) := by decide +kernel
theorem dX4_copy_129 : decode cX4_copy 129 = .ok (.iadd, 1) := by decide +kernel
theorem dX4_copy_130 : decode cX4_copy 130 = .ok (.iload 6, 2) := by decide +kernel
theorem dX4_copy_132 : decode cX4_copy 132 = .ok (.iadd, 1) := by decide +kernel
theorem dX4_copy_133 : decode cX4_copy 133 = .ok (.iaload, 1) := by decide +kernel
theorem dX4_copy_134 : decode cX4_copy 134 = .ok (.iastore, 1) := by decide +kernel
theorem dX4_copy_135 : decode cX4_copy 135 = .ok (.iinc 6 1, 3) := by decide +kernel
theorem dX4_copy_138 : decode cX4_copy 138 = .ok (.goto (-31), 3) := by decide +kernel
theorem dX4_copy_141 : decode cX4_copy 141 = .ok (.iconst 0, 1) := by decide +kernel
theorem dX4_copy_142 : decode cX4_copy 142 = .ok (.istore 6, 2) := by decide +kernel
theorem dX4_copy_144 : decode cX4_copy 144 = .ok (.iload 6, 2) := by decide +kernel
theorem dX4_copy_146 : decode cX4_copy 146 = .ok (.iload 5, 2) := by decide +kernel
theorem dX4_copy_148 : decode cX4_copy 148 = .ok (.if_icmp .ge 31, 3) := by decide +kernel
theorem dX4_copy_151 : decode cX4_copy 151 = .ok (.aload_n 0, 1) := by decide +kernel
theorem dX4_copy_152 : decode cX4_copy 152 = .ok (.getfield 58, 3) := by decide +kernel
theorem dX4_copy_155 : decode cX4_copy 155 = .ok (.bipush 60, 2) := by decide +kernel
theorem dX4_copy_157 : decode cX4_copy 157 = .ok (.iload_n 3, 1) := by decide +kernel
theorem dX4_copy_158 : decode cX4_copy 158 = .ok (.imul, 1) := by decide +kernel
theorem dX4_copy_159 : decode cX4_copy 159 = .ok (.iload 4, 2) := by decide +kernel
theorem dX4_copy_161 : decode cX4_copy 161 = .ok (.iadd, 1) := by decide +kernel
theorem dX4_copy_162 : decode cX4_copy 162 = .ok (.iload 6, 2) := by decide +kernel
theorem dX4_copy_164 : decode cX4_copy 164 = .ok (.iadd, 1) := by decide +kernel
theorem dX4_copy_165 : decode cX4_copy 165 = .ok (.aload_n 0, 1) := by decide +kernel
theorem dX4_copy_166 : decode cX4_copy 166 = .ok (.getfield 61, 3) := by decide +kernel
theorem dX4_copy_169 : decode cX4_copy 169 = .ok (.iload 6, 2) := by decide +kernel
theorem dX4_copy_171 : decode cX4_copy 171 = .ok (.iaload, 1) := by decide +kernel
theorem dX4_copy_172 : decode cX4_copy 172 = .ok (.iastore, 1) := by decide +kernel
theorem dX4_copy_173 : decode cX4_copy 173 = .ok (.iinc 6 1, 3) := by decide +kernel
theorem dX4_copy_176 : decode cX4_copy 176 = .ok (.goto (-32), 3) := by decide +kernel
theorem dX4_copy_179 : decode cX4_copy 179 = .ok (.aload_n 0, 1) := by decide +kernel
theorem dX4_copy_180 : decode cX4_copy 180 = .ok (.iload 5, 2) := by decide +kernel
theorem dX4_copy_182 : decode cX4_copy 182 = .ok (.invokevirtual 136, 3) := by decide +kernel
theorem dX4_copy_185 : decode cX4_copy 185 = .ok (.ireturn, 1) := by decide +kernel
theorem dX4_traced_0 : decode cX4_traced 0 = .ok (.aload_n 0, 1) := by decide +kernel
theorem dX4_traced_1 : decode cX4_traced 1 = .ok (.bipush 31, 2) := by decide +kernel
theorem dX4_traced_3 : decode cX4_traced 3 = .ok (.aload_n 0, 1) := by decide +kernel
theorem dX4_traced_4 : decode cX4_traced 4 = .ok (.getfield 238, 3) := by decide +kernel
theorem dX4_traced_7 : decode cX4_traced 7 = .ok (.imul, 1) := by decide +kernel
theorem dX4_traced_8 : decode cX4_traced 8 = .ok (.iload_n 1, 1) := by decide +kernel
theorem dX4_traced_9 : decode cX4_traced 9 = .ok (.iadd, 1) := by decide +kernel
theorem dX4_traced_10 : decode cX4_traced 10 = .ok (.putfield 238, 3) := by decide +kernel
theorem dX4_traced_13 : decode cX4_traced 13 = .ok (.return_, 1) := by decide +kernel
set_option maxRecDepth 20000 in
theorem ggX4_tell_X4_noWard : GoodIn wsX4_tell wsX4_noWard := goodIn_r _ [7, 8, 9, 10, 6, 11, 17, 18, 19, 20, 21, 22, 23, 24, 25, 26, 27, 28, 29, 30, 31, 32, 33, 34, 35, 36, 37, 38, 39, 40, 41, 42, 43, 44, 45, 46, 47, 48] (by decide +kernel) (by decide +kernel)
set_option maxRecDepth 20000 in
theorem gX4_tell_X4_noWard : GoodIn wsX4_tell (wsV RX4 155 RX4 yX4_noWard wsX4_noWard) := goodIn_app (goodIn_of _ (by decide +kernel)) ggX4_tell_X4_noWard
set_option maxRecDepth 20000 in
theorem ggX4_tell_X4_traced : GoodIn wsX4_tell wsX4_traced := goodIn_r _ [15, 16, 17, 18, 19, 20, 21, 22, 23, 24, 25, 26, 27, 28, 29, 30, 31, 32, 33, 34, 35, 36, 37, 38, 39, 40, 41, 42, 43, 44, 45, 46, 47, 48] (by decide +kernel) (by decide +kernel)
set_option maxRecDepth 20000 in
theorem gX4_tell_X4_traced : GoodIn wsX4_tell (wsV RX4 241 RX4 yX4_traced wsX4_traced) := goodIn_app (goodIn_of _ (by decide +kernel)) ggX4_tell_X4_traced
theorem dX4_tell_0 : decode cX4_tell 0 = .ok (.aload_n 0, 1) := by decide +kernel
theorem dX4_tell_1 : decode cX4_tell 1 = .ok (.iload_n 1, 1) := by decide +kernel
theorem dX4_tell_2 : decode cX4_tell 2 = .ok (.invokevirtual 155, 3) := by decide +kernel
theorem dX4_tell_5 : decode cX4_tell 5 = .ok (.ifCond .eq 5, 3) := by decide +kernel
theorem dX4_tell_8 : decode cX4_tell 8 = .ok (.iconst (-1), 1) := by decide +kernel
theorem dX4_tell_9 : decode cX4_tell 9 = .ok (.ireturn, 1) := by decide +kernel
theorem dX4_tell_10 : decode cX4_tell 10 = .ok (.aload_n 0, 1) := by decide +kernel
theorem dX4_tell_11 : decode cX4_tell 11 = .ok (.getfield 22, 3) := by decide +kernel
theorem dX4_tell_14 : decode cX4_tell 14 = .ok (.iload_n 1, 1) := by decide +kernel
theorem dX4_tell_15 : decode cX4_tell 15 = .ok (.iaload, 1) := by decide +kernel
theorem dX4_tell_16 : decode cX4_tell 16 = .ok (.istore_n 2, 1) := by decide +kernel
theorem dX4_tell_17 : decode cX4_tell 17 = .ok (.iload_n 2, 1) := by decide +kernel
theorem dX4_tell_18 : decode cX4_tell 18 = .ok (.iconst 2, 1) := by decide +kernel
theorem dX4_tell_19 : decode cX4_tell 19 = .ok (.if_icmp .ne 8, 3) := by decide +kernel
theorem dX4_tell_22 : decode cX4_tell 22 = .ok (.aload_n 0, 1) := by decide +kernel
theorem dX4_tell_23 : decode cX4_tell 23 = .ok (.iconst 3, 1) := by decide +kernel
theorem dX4_tell_24 : decode cX4_tell 24 = .ok (.invokevirtual 241, 3) := by decide +kernel
theorem dX4_tell_27 : decode cX4_tell 27 = .ok (.iload_n 2, 1) := by decide +kernel
theorem dX4_tell_28 : decode cX4_tell 28 = .ok (.ifCond .le 8, 3) := by decide +kernel
theorem dX4_tell_31 : decode cX4_tell 31 = .ok (.aload_n 0, 1) := by decide +kernel
theorem dX4_tell_32 : decode cX4_tell 32 = .ok (.iconst 2, 1) := by decide +kernel
theorem dX4_tell_33 : decode cX4_tell 33 = .ok (.invokevirtual 241, 3) := by decide +kernel
theorem dX4_tell_36 : decode cX4_tell 36 = .ok (.aload_n 0, 1) := by decide +kernel
theorem dX4_tell_37 : decode cX4_tell 37 = .ok (.iconst 1, 1) := by decide +kernel
theorem dX4_tell_38 : decode cX4_tell 38 = .ok (.invokevirtual 241, 3) := by decide +kernel
theorem dX4_tell_41 : decode cX4_tell 41 = .ok (.iload_n 2, 1) := by decide +kernel
theorem dX4_tell_42 : decode cX4_tell 42 = .ok (.iconst 2, 1) := by decide +kernel
theorem dX4_tell_43 : decode cX4_tell 43 = .ok (.if_icmp .ne 8, 3) := by decide +kernel
theorem dX4_tell_46 : decode cX4_tell 46 = .ok (.aload_n 0, 1) := by decide +kernel
theorem dX4_tell_47 : decode cX4_tell 47 = .ok (.iconst 1, 1) := by decide +kernel
theorem dX4_tell_48 : decode cX4_tell 48 = .ok (.invokevirtual 241, 3) := by decide +kernel
theorem dX4_tell_51 : decode cX4_tell 51 = .ok (.aload_n 0, 1) := by decide +kernel
theorem dX4_tell_52 : decode cX4_tell 52 = .ok (.getfield 25, 3) := by decide +kernel
theorem dX4_tell_55 : decode cX4_tell 55 = .ok (.iload_n 1, 1) := by decide +kernel
theorem dX4_tell_56 : decode cX4_tell 56 = .ok (.iaload, 1) := by decide +kernel
theorem dX4_tell_57 : decode cX4_tell 57 = .ok (.istore_n 3, 1) := by decide +kernel
theorem dX4_tell_58 : decode cX4_tell 58 = .ok (.iload_n 2, 1) := by decide +kernel
theorem dX4_tell_59 : decode cX4_tell 59 = .ok (.ifCond .ne 7, 3) := by decide +kernel
theorem dX4_tell_62 : decode cX4_tell 62 = .ok (.iload_n 3, 1) := by decide +kernel
theorem dX4_tell_63 : decode cX4_tell 63 = .ok (.goto 21, 3) := by decide +kernel
theorem dX4_tell_66 : decode cX4_tell 66 = .ok (.iload_n 2, 1) := by decide +kernel
theorem dX4_tell_67 : decode cX4_tell 67 = .ok (.iconst 1, 1) := by decide +kernel
theorem dX4_tell_68 : decode cX4_tell 68 = .ok (.if_icmp .ne 10, 3) := by decide +kernel
theorem dX4_tell_71 : decode cX4_tell 71 = .ok (.iload_n 3, 1) := by decide +kernel
theorem dX4_tell_72 : decode cX4_tell 72 = .ok (.bipush 100, 2) := by decide +kernel
theorem dX4_tell_74 : decode cX4_tell 74 = .ok (.iadd, 1) := by decide +kernel
theorem dX4_tell_75 : decode cX4_tell 75 = .ok (.goto 9, 3) := by decide +kernel
theorem dX4_tell_78 : decode cX4_tell 78 = .ok (.iconst 2, 1) := by decide +kernel
theorem dX4_tell_79 : decode cX4_tell 79 = .ok (.iload_n 3, 1) := by decide +kernel
theorem dX4_tell_80 : decode cX4_tell 80 = .ok (.imul, 1) := by decide +kernel
theorem dX4_tell_81 : decode cX4_tell 81 = .ok (.bipush 100, 2) := by decide +kernel
theorem dX4_tell_83 : decode cX4_tell 83 = .ok (.iadd, 1) := by decide +kernel
theorem dX4_tell_84 : decode cX4_tell 84 = .ok (.ireturn, 1) := by decide +kernel
set_option maxRecDepth 20000 in
theorem ggX4_woo_X4_noWard : GoodIn wsX4_woo wsX4_noWard := goodIn_r _ [6, 7, 8, 9, 5, 10, 16, 17, 18, 19, 20, 21, 22, 23, 24, 25, 26, 27, 28, 29, 30, 31, 32, 33, 34, 35, 36, 37, 38, 39, 40, 41, 42, 43, 44, 45, 46, 47] (by decide +kernel) (by decide +kernel)
set_option maxRecDepth 20000 in
theorem gX4_woo_X4_noWard : GoodIn wsX4_woo (wsV RX4 155 RX4 yX4_noWard wsX4_noWard) := goodIn_app (goodIn_of _ (by decide +kernel)) ggX4_woo_X4_noWard
set_option maxRecDepth 20000 in
theorem ggX4_woo_X4_traced : GoodIn wsX4_woo wsX4_traced := goodIn_r _ [14, 15, 16, 17, 18, 19, 20, 21, 22, 23, 24, 25, 26, 27, 28, 29, 30, 31, 32, 33, 34, 35, 36, 37, 38, 39, 40, 41, 42, 43, 44, 45, 46, 47] (by decide +kernel) (by decide +kernel)
set_option maxRecDepth 20000 in
theorem gX4_woo_X4_traced : GoodIn wsX4_woo (wsV RX4 241 RX4 yX4_traced wsX4_traced) := goodIn_app (goodIn_of _ (by decide +kernel)) ggX4_woo_X4_traced
theorem dX4_woo_0 : decode cX4_woo 0 = .ok (.aload_n 0, 1) := by decide +kernel
theorem dX4_woo_1 : decode cX4_woo 1 = .ok (.iload_n 1, 1) := by decide +kernel
theorem dX4_woo_2 : decode cX4_woo 2 = .ok (.invokevirtual 155, 3) := by decide +kernel
theorem dX4_woo_5 : decode cX4_woo 5 = .ok (.ifCond .eq 5, 3) := by decide +kernel
theorem dX4_woo_8 : decode cX4_woo 8 = .ok (.iconst (-1), 1) := by decide +kernel
theorem dX4_woo_9 : decode cX4_woo 9 = .ok (.ireturn, 1) := by decide +kernel
theorem dX4_woo_10 : decode cX4_woo 10 = .ok (.aload_n 0, 1) := by decide +kernel
theorem dX4_woo_11 : decode cX4_woo 11 = .ok (.aload_n 0, 1) := by decide +kernel
theorem dX4_woo_12 : decode cX4_woo 12 = .ok (.getfield 22, 3) := by decide +kernel
theorem dX4_woo_15 : decode cX4_woo 15 = .ok (.iload_n 1, 1) := by decide +kernel
theorem dX4_woo_16 : decode cX4_woo 16 = .ok (.iaload, 1) := by decide +kernel
theorem dX4_woo_17 : decode cX4_woo 17 = .ok (.iconst 2, 1) := by decide +kernel
theorem dX4_woo_18 : decode cX4_woo 18 = .ok (.if_icmp .ne 7, 3) := by decide +kernel
theorem dX4_woo_21 : decode cX4_woo 21 = .ok (.iconst 5, 1) := by decide +kernel
theorem dX4_woo_22 : decode cX4_woo 22 = .ok (.goto 4, 3) := by decide +kernel
theorem dX4_woo_25 : decode cX4_woo 25 = .ok (.iconst 4, 1) := by decide +kernel
theorem dX4_woo_26 : decode cX4_woo 26 = .ok (.invokevirtual 241, 3) := by decide +kernel
theorem dX4_woo_29 : decode cX4_woo 29 = .ok (.aload_n 0, 1) := by decide +kernel
theorem dX4_woo_30 : decode cX4_woo 30 = .ok (.getfield 22, 3) := by decide +kernel
theorem dX4_woo_33 : decode cX4_woo 33 = .ok (.iload_n 1, 1) := by decide +kernel
theorem dX4_woo_34 : decode cX4_woo 34 = .ok (.iaload, 1) := by decide +kernel
theorem dX4_woo_35 : decode cX4_woo 35 = .ok (.iconst 2, 1) := by decide +kernel
theorem dX4_woo_36 : decode cX4_woo 36 = .ok (.if_icmp .ne 8, 3) := by decide +kernel
theorem dX4_woo_39 : decode cX4_woo 39 = .ok (.bipush 60, 2) := by decide +kernel
theorem dX4_woo_41 : decode cX4_woo 41 = .ok (.goto 4, 3) := by decide +kernel
theorem dX4_woo_44 : decode cX4_woo 44 = .ok (.iload_n 1, 1) := by decide +kernel
theorem dX4_woo_45 : decode cX4_woo 45 = .ok (.ireturn, 1) := by decide +kernel
set_option maxRecDepth 20000 in
theorem ggX4_as_X4_noWard : GoodIn wsX4_as wsX4_noWard := goodIn_r _ [7, 8, 9, 10, 6, 11, 21, 22, 23, 24, 25, 26, 27, 28, 29, 30, 31, 32, 33, 34, 35, 36, 37, 38, 39, 40, 41, 42, 43, 44, 45, 46, 47, 48, 49, 50, 51, 52] (by decide +kernel) (by decide +kernel)
set_option maxRecDepth 20000 in
theorem gX4_as_X4_noWard : GoodIn wsX4_as (wsV RX4 155 RX4 yX4_noWard wsX4_noWard) := goodIn_app (goodIn_of _ (by decide +kernel)) ggX4_as_X4_noWard
set_option maxRecDepth 20000 in
theorem ggX4_as_X4_refused : GoodIn wsX4_as wsX4_refused := goodIn_r _ [15, 16, 21, 22, 23, 24, 25, 26, 27, 28, 29, 30, 31, 32, 33, 34, 35, 36, 37, 38, 39, 40, 41, 42, 43, 44, 45, 46, 47, 48, 49, 50, 51, 52] (by decide +kernel) (by decide +kernel)
set_option maxRecDepth 20000 in
theorem gX4_as_X4_refused : GoodIn wsX4_as (wsV RX4 136 RX4 yX4_refused wsX4_refused) := goodIn_app (goodIn_of _ (by decide +kernel)) ggX4_as_X4_refused
set_option maxRecDepth 20000 in
theorem ggX4_as_X4_in : GoodIn wsX4_as wsX4_in := goodIn_r _ [11] (by decide +kernel) (by decide +kernel)
set_option maxRecDepth 20000 in
theorem gX4_as_X4_in : GoodIn wsX4_as (va_wsS RX4 80 yX4_in wsX4_in) := goodIn_app (goodIn_of _ (by decide +kernel)) ggX4_as_X4_in
set_option maxRecDepth 20000 in
theorem ggX4_as_X4_failed : GoodIn wsX4_as wsX4_failed := goodIn_r _ [20, 16, 21, 22, 23, 24, 25, 26, 27, 28, 29, 30, 31, 32, 33, 34, 35, 36, 37, 38, 39, 40, 41, 42, 43, 44, 45, 46, 47, 48, 49, 50, 51, 52] (by decide +kernel) (by decide +kernel)
set_option maxRecDepth 20000 in
theorem gX4_as_X4_failed : GoodIn wsX4_as (wsV RX4 124 RX4 yX4_failed wsX4_failed) := goodIn_app (goodIn_of _ (by decide +kernel)) ggX4_as_X4_failed
theorem dX4_as_0 : decode cX4_as 0 = .ok (.aload_n 0, 1) := by decide +kernel
theorem dX4_as_1 : decode cX4_as 1 = .ok (.iload_n 1, 1) := by decide +kernel
theorem dX4_as_2 : decode cX4_as 2 = .ok (.invokevirtual 155, 3) := by decide +kernel
theorem dX4_as_5 : decode cX4_as 5 = .ok (.ifCond .eq 9, 3) := by decide +kernel
theorem dX4_as_8 : decode cX4_as 8 = .ok (.aload_n 0, 1) := by decide +kernel
theorem dX4_as_9 : decode cX4_as 9 = .ok (.iconst (-1), 1) := by decide +kernel
theorem dX4_as_10 : decode cX4_as 10 = .ok (.invokevirtual 136, 3) := by decide +kernel
theorem dX4_as_13 : decode cX4_as 13 = .ok (.ireturn, 1) := by decide +kernel
theorem dX4_as_14 : decode cX4_as 14 = .ok (.iload_n 2, 1) := by decide +kernel
theorem dX4_as_15 : decode cX4_as 15 = .ok (.i2l, 1) := by decide +kernel
theorem dX4_as_16 : decode cX4_as 16 = .ok (.lconst 0, 1) := by decide +kernel
theorem dX4_as_17 : decode cX4_as 17 = .ok (.ldc2_w 139, 3) := by decide +kernel
theorem dX4_as_20 : decode cX4_as 20 = .ok (.invokestatic 80, 3) := by decide +kernel
theorem dX4_as_23 : decode cX4_as 23 = .ok (.ifCond .ne 10, 3) := by decide +kernel
theorem dX4_as_26 : decode cX4_as 26 = .ok (.aload_n 0, 1) := by decide +kernel
theorem dX4_as_27 : decode cX4_as 27 = .ok (.bipush (-2), 2) := by decide +kernel
theorem dX4_as_29 : decode cX4_as 29 = .ok (.invokevirtual 136, 3) := by decide +kernel
theorem dX4_as_32 : decode cX4_as 32 = .ok (.ireturn, 1) := by decide +kernel
theorem dX4_as_33 : decode cX4_as 33 = .ok (.aload_n 0, 1) := by decide +kernel
theorem dX4_as_34 : decode cX4_as 34 = .ok (.getfield 22, 3) := by decide +kernel
theorem dX4_as_37 : decode cX4_as 37 = .ok (.iload_n 1, 1) := by decide +kernel
theorem dX4_as_38 : decode cX4_as 38 = .ok (.iaload, 1) := by decide +kernel
theorem dX4_as_39 : decode cX4_as 39 = .ok (.iload_n 2, 1) := by decide +kernel
theorem dX4_as_40 : decode cX4_as 40 = .ok (.if_icmp .lt 11, 3) := by decide +kernel
theorem dX4_as_43 : decode cX4_as 43 = .ok (.aload_n 0, 1) := by decide +kernel
theorem dX4_as_44 : decode cX4_as 44 = .ok (.iconst 1, 1) := by decide +kernel
theorem dX4_as_45 : decode cX4_as 45 = .ok (.invokevirtual 136, 3) := by decide +kernel
theorem dX4_as_48 : decode cX4_as 48 = .ok (.goto 8, 3) := by decide +kernel
theorem dX4_as_51 : decode cX4_as 51 = .ok (.aload_n 0, 1) := by decide +kernel
theorem dX4_as_52 : decode cX4_as 52 = .ok (.iconst 2, 1) := by decide +kernel
theorem dX4_as_53 : decode cX4_as 53 = .ok (.invokevirtual 124, 3) := by decide +kernel
theorem dX4_as_56 : decode cX4_as 56 = .ok (.ireturn, 1) := by decide +kernel
theorem dX4_trace_0 : decode cX4_trace 0 = .ok (.aload_n 0, 1) := by decide +kernel
theorem dX4_trace_1 : decode cX4_trace 1 = .ok (.getfield 238, 3) := by decide +kernel
theorem dX4_trace_4 : decode cX4_trace 4 = .ok (.ireturn, 1) := by decide +kernel
theorem dX4_fault_0 : decode cX4_fault 0 = .ok (.aload_n 0, 1) := by decide +kernel
theorem dX4_fault_1 : decode cX4_fault 1 = .ok (.getfield 66, 3) := by decide +kernel
theorem dX4_fault_4 : decode cX4_fault 4 = .ok (.ireturn, 1) := by decide +kernel
theorem dX4_many_0 : decode cX4_many 0 = .ok (.iload_n 1, 1) := by decide +kernel
theorem dX4_many_1 : decode cX4_many 1 = .ok (.tableswitch 65 0 4 #[35, 45, 50, 55, 60], 35) := by decide +kernel
theorem dX4_many_36 : decode cX4_many 36 = .ok (.aload_n 0, 1) := by decide +kernel
theorem dX4_many_37 : decode cX4_many 37 = .ok (.getfield 74, 3) := by decide +kernel
theorem dX4_many_40 : decode cX4_many 40 = .ok (.aload_n 0, 1) := by decide +kernel
theorem dX4_many_41 : decode cX4_many 41 = .ok (.getfield 77, 3) := by decide +kernel
theorem dX4_many_44 : decode cX4_many 44 = .ok (.imul, 1) := by decide +kernel
theorem dX4_many_45 : decode cX4_many 45 = .ok (.ireturn, 1) := by decide +kernel
theorem dX4_many_46 : decode cX4_many 46 = .ok (.aload_n 0, 1) := by decide +kernel
theorem dX4_many_47 : decode cX4_many 47 = .ok (.getfield 84, 3) := by decide +kernel
theorem dX4_many_50 : decode cX4_many 50 = .ok (.ireturn, 1) := by decide +kernel
theorem dX4_many_51 : decode cX4_many 51 = .ok (.aload_n 0, 1) := by decide +kernel
theorem dX4_many_52 : decode cX4_many 52 = .ok (.getfield 87, 3) := by decide +kernel
theorem dX4_many_55 : decode cX4_many 55 = .ok (.ireturn, 1) := by decide +kernel
theorem dX4_many_56 : decode cX4_many 56 = .ok (.aload_n 0, 1) := by decide +kernel
theorem dX4_many_57 : decode cX4_many 57 = .ok (.getfield 149, 3) := by decide +kernel
theorem dX4_many_60 : decode cX4_many 60 = .ok (.ireturn, 1) := by decide +kernel
theorem dX4_many_61 : decode cX4_many 61 = .ok (.aload_n 0, 1) := by decide +kernel
theorem dX4_many_62 : decode cX4_many 62 = .ok (.getfield 152, 3) := by decide +kernel
theorem dX4_many_65 : decode cX4_many 65 = .ok (.ireturn, 1) := by decide +kernel
theorem dX4_many_66 : decode cX4_many 66 = .ok (.bipush (-2), 2) := by decide +kernel
theorem dX4_many_68 : decode cX4_many 68 = .ok (.ireturn, 1) := by decide +kernel
