theorem dX3_init_0 : decode cX3_init 0 = .ok (.aload_n 0, 1) := by decide +kernel
theorem dX3_init_1 : decode cX3_init 1 = .ok (.invokespecial 3, 3) := by decide +kernel
theorem dX3_init_4 : decode cX3_init 4 = .ok (.aload_n 0, 1) := by decide +kernel
theorem dX3_init_5 : decode cX3_init 5 = .ok (.iconst 4, 1) := by decide +kernel
theorem dX3_init_6 : decode cX3_init 6 = .ok (.anewarray 11, 3) := by decide +kernel
theorem dX3_init_9 : decode cX3_init 9 = .ok (.putfield 13, 3) := by decide +kernel
theorem dX3_init_12 : decode cX3_init 12 = .ok (.aload_n 0, 1) := by decide +kernel
theorem dX3_init_13 : decode cX3_init 13 = .ok (.new 17, 3) := by decide +kernel
theorem dX3_init_16 : decode cX3_init 16 = .ok (.dup, 1) := by decide +kernel
theorem dX3_init_17 : decode cX3_init 17 = .ok (.invokespecial 19, 3) := by decide +kernel
theorem dX3_init_20 : decode cX3_init 20 = .ok (.putfield 20, 3) := by decide +kernel
theorem dX3_init_23 : decode cX3_init 23 = .ok (.aload_n 0, 1) := by decide +kernel
theorem dX3_init_24 : decode cX3_init 24 = .ok (.sipush 256, 3) := by decide +kernel
theorem dX3_init_27 : decode cX3_init 27 = .ok (.newarray .int, 2) := by decide +kernel
theorem dX3_init_29 : decode cX3_init 29 = .ok (.putfield 24, 3) := by decide +kernel
theorem dX3_init_32 : decode cX3_init 32 = .ok (.aload_n 0, 1) := by decide +kernel
theorem dX3_init_33 : decode cX3_init 33 = .ok (.new 28, 3) := by decide +kernel
theorem dX3_init_36 : decode cX3_init 36 = .ok (.dup, 1) := by decide +kernel
theorem dX3_init_37 : decode cX3_init 37 = .ok (.invokespecial 30, 3) := by decide +kernel
theorem dX3_init_40 : decode cX3_init 40 = .ok (.putfield 31, 3) := by decide +kernel
theorem dX3_init_43 : decode cX3_init 43 = .ok (.aload_n 0, 1) := by decide +kernel
theorem dX3_init_44 : decode cX3_init 44 = .ok (.new 28, 3) := by decide +kernel
theorem dX3_init_47 : decode cX3_init 47 = .ok (.dup, 1) := by decide +kernel
theorem dX3_init_48 : decode cX3_init 48 = .ok (.invokespecial 30, 3) := by decide +kernel
theorem dX3_init_51 : decode cX3_init 51 = .ok (.putfield 35, 3) := by decide +kernel
theorem dX3_init_54 : decode cX3_init 54 = .ok (.aload_n 0, 1) := by decide +kernel
theorem dX3_init_55 : decode cX3_init 55 = .ok (.iconst 0, 1) := by decide +kernel
theorem dX3_init_56 : decode cX3_init 56 = .ok (.putfield 38, 3) := by decide +kernel
theorem dX3_init_59 : decode cX3_init 59 = .ok (.aload_n 0, 1) := by decide +kernel
theorem dX3_init_60 : decode cX3_init 60 = .ok (.iconst 0, 1) := by decide +kernel
theorem dX3_init_61 : decode cX3_init 61 = .ok (.putfield 42, 3) := by decide +kernel
theorem dX3_init_64 : decode cX3_init 64 = .ok (.iconst 0, 1) := by decide +kernel
theorem dX3_init_65 : decode cX3_init 65 = .ok (.istore_n 1, 1) := by decide +kernel
theorem dX3_init_66 : decode cX3_init 66 = .ok (.iload_n 1, 1) := by decide +kernel
theorem dX3_init_67 : decode cX3_init 67 = .ok (.aload_n 0, 1) := by decide +kernel
theorem dX3_init_68 : decode cX3_init 68 = .ok (.getfield 13, 3) := by decide +kernel
theorem dX3_init_71 : decode cX3_init 71 = .ok (.arraylength, 1) := by decide +kernel
theorem dX3_init_72 : decode cX3_init 72 = .ok (.if_icmp .ge 22, 3) := by decide +kernel
theorem dX3_init_75 : decode cX3_init 75 = .ok (.aload_n 0, 1) := by decide +kernel
theorem dX3_init_76 : decode cX3_init 76 = .ok (.getfield 13, 3) := by decide +kernel
theorem dX3_init_79 : decode cX3_init 79 = .ok (.iload_n 1, 1) := by decide +kernel
theorem dX3_init_80 : decode cX3_init 80 = .ok (.new 11, 3) := by decide +kernel
theorem dX3_init_83 : decode cX3_init 83 = .ok (.dup, 1) := by decide +kernel
theorem dX3_init_84 : decode cX3_init 84 = .ok (.invokespecial 45, 3) := by decide +kernel
theorem dX3_init_87 : decode cX3_init 87 = .ok (.aastore, 1) := by decide +kernel
theorem dX3_init_88 : decode cX3_init 88 = .ok (.iinc 1 1, 3) := by decide +kernel
theorem dX3_init_91 : decode cX3_init 91 = .ok (.goto (-25), 3) := by decide +kernel
theorem dX3_init_94 : decode cX3_init 94 = .ok (.return_, 1) := by decide +kernel
set_option maxRecDepth 20000 in
theorem ggX3_town_X3_sheetAt : GoodIn wsX3_town wsX3_sheetAt := goodIn_r _ [11, 12, 120, 121, 122, 123, 124, 125, 126] (by decide +kernel) (by decide +kernel)
set_option maxRecDepth 20000 in
theorem gX3_town_X3_sheetAt : GoodIn wsX3_town (wsV RX3 46 RX3 yX3_sheetAt wsX3_sheetAt) := goodIn_app (goodIn_of _ (by decide +kernel)) ggX3_town_X3_sheetAt
set_option maxRecDepth 20000 in
theorem ggX3_town_X3_isUpTo : GoodIn wsX3_town wsX3_isUpTo := goodIn_r _ [15] (by decide +kernel) (by decide +kernel)
set_option maxRecDepth 20000 in
theorem gX3_town_X3_isUpTo : GoodIn wsX3_town (va_wsS RX3 50 yX3_isUpTo wsX3_isUpTo) := goodIn_app (goodIn_of _ (by decide +kernel)) ggX3_town_X3_isUpTo
set_option maxRecDepth 20000 in
theorem ggX3_town_X0_faultOfTaking : GoodIn wsX3_town wsX0_faultOfTaking := goodIn_r _ [20, 21, 22, 23, 24, 19, 25, 26, 27, 28, 29, 30, 148, 149, 150] (by decide +kernel) (by decide +kernel)
set_option maxRecDepth 20000 in
theorem gX3_town_X0_faultOfTaking : GoodIn wsX3_town (wsV RX3 54 RX0 yX0_faultOfTaking wsX0_faultOfTaking) := goodIn_app (goodIn_of _ (by decide +kernel)) ggX3_town_X0_faultOfTaking
set_option maxRecDepth 20000 in
theorem ggX3_town_X3_fail : GoodIn wsX3_town wsX3_fail := goodIn_r _ [34, 1, 120, 121, 122, 123, 124, 125, 126] (by decide +kernel) (by decide +kernel)
set_option maxRecDepth 20000 in
theorem gX3_town_X3_fail : GoodIn wsX3_town (wsV RX3 58 RX3 yX3_fail wsX3_fail) := goodIn_app (goodIn_of _ (by decide +kernel)) ggX3_town_X3_fail
set_option maxRecDepth 20000 in
theorem ggX3_town_X1_load : GoodIn wsX3_town wsX1_load := goodIn_r _ [39, 40, 41, 42, 43, 44, 10, 45, 46, 47, 127, 128, 129, 148, 149, 150] (by decide +kernel) (by decide +kernel)
set_option maxRecDepth 20000 in
theorem gX3_town_X1_load : GoodIn wsX3_town (wsV RX3 62 RX1 yX1_load wsX1_load) := goodIn_app (goodIn_of _ (by decide +kernel)) ggX3_town_X1_load
set_option maxRecDepth 20000 in
theorem ggX3_town_X1_readInto : GoodIn wsX3_town wsX1_readInto := goodIn_r _ [51, 40, 41, 52, 53, 54, 55, 56, 57, 58, 59, 60, 61, 62, 63, 64, 65, 66, 67, 68, 69, 70, 71, 72, 73, 38, 74, 75, 76, 77, 78, 42, 44, 10, 45, 79, 80, 81, 82, 83, 84, 85, 86, 87, 88, 89, 90, 91, 92, 93, 94, 95, 96, 97, 98, 99, 100, 101, 102, 103, 46, 47, 104, 105, 106, 107, 108, 109, 110, 111, 112, 113, 114, 115, 116, 117, 118, 119, 127, 128, 129, 130, 131, 132, 133, 134, 135, 136, 137, 138, 139, 140, 141, 142, 143, 144, 145, 146, 147] (by decide +kernel) (by decide +kernel)
set_option maxRecDepth 20000 in
theorem gX3_town_X1_readInto : GoodIn wsX3_town (wsV RX3 66 RX1 yX1_readInto wsX1_readInto) := goodIn_app (goodIn_of _ (by decide +kernel)) ggX3_town_X1_readInto
theorem dX3_town_0 : decode cX3_town 0 = .ok (.aload_n 0, 1) := by decide +kernel
theorem dX3_town_1 : decode cX3_town 1 = .ok (.iconst 0, 1) := by decide +kernel
theorem dX3_town_2 : decode cX3_town 2 = .ok (.putfield 42, 3) := by decide +kernel
theorem dX3_town_5 : decode cX3_town 5 = .ok (.aload_n 0, 1) := by decide +kernel
theorem dX3_town_6 : decode cX3_town 6 = .ok (.iload_n 1, 1) := by decide +kernel
theorem dX3_town_7 : decode cX3_town 7 = .ok (.invokevirtual 46, 3) := by decide +kernel
theorem dX3_town_10 : decode cX3_town 10 = .ok (.astore 5, 2) := by decide +kernel
theorem dX3_town_12 : decode cX3_town 12 = .ok (.aload 5, 2) := by decide +kernel
theorem dX3_town_14 : decode cX3_town 14 = .ok (.ifnonnull 5, 3) := by decide +kernel
theorem dX3_town_17 : decode cX3_town 17 = .ok (.iconst (-1), 1) := by decide +kernel
theorem dX3_town_18 : decode cX3_town 18 = .ok (.ireturn, 1) := by decide +kernel
theorem dX3_town_19 : decode cX3_town 19 = .ok (.iload_n 2, 1) := by decide +kernel
theorem dX3_town_20 : decode cX3_town 20 = .ok (.iconst 2, 1) := by decide +kernel
theorem dX3_town_21 : decode cX3_town 21 = .ok (.invokestatic 50, 3) := by decide +kernel
theorem dX3_town_24 : decode cX3_town 24 = .ok (.ifCond .ne 6, 3) := by decide +kernel
theorem dX3_town_27 : decode cX3_town 27 = .ok (.bipush (-2), 2) := by decide +kernel
theorem dX3_town_29 : decode cX3_town 29 = .ok (.ireturn, 1) := by decide +kernel
theorem dX3_town_30 : decode cX3_town 30 = .ok (.aload 5, 2) := by decide +kernel
theorem dX3_town_32 : decode cX3_town 32 = .ok (.iload_n 2, 1) := by decide +kernel
theorem dX3_town_33 : decode cX3_town 33 = .ok (.iload_n 3, 1) := by decide +kernel
theorem dX3_town_34 : decode cX3_town 34 = .ok (.iload 4, 2) := by decide +kernel
theorem dX3_town_36 : decode cX3_town 36 = .ok (.invokevirtual 54, 3) := by decide +kernel
theorem dX3_town_39 : decode cX3_town 39 = .ok (.istore 6, 2) := by decide +kernel
theorem dX3_town_41 : decode cX3_town 41 = .ok (.iload 6, 2) := by decide +kernel
theorem dX3_town_43 : decode cX3_town 43 = .ok (.ifCond .eq 10, 3) := by decide +kernel
theorem dX3_town_46 : decode cX3_town 46 = .ok (.aload_n 0, 1) := by decide +kernel
theorem dX3_town_47 : decode cX3_town 47 = .ok (.iload 6, 2) := by decide +kernel
theorem dX3_town_49 : decode cX3_town 49 = .ok (.invokevirtual 58, 3) := by decide +kernel
theorem dX3_town_52 : decode cX3_town 52 = .ok (.ireturn, 1) := by decide +kernel
theorem dX3_town_53 : decode cX3_town 53 = .ok (.aload_n 0, 1) := by decide +kernel
theorem dX3_town_54 : decode cX3_town 54 = .ok (.getfield 20, 3) := by decide +kernel
theorem dX3_town_57 : decode cX3_town 57 = .ok (.aload 5, 2) := by decide +kernel
theorem dX3_town_59 : decode cX3_town 59 = .ok (.iload_n 3, 1) := by decide +kernel
theorem dX3_town_60 : decode cX3_town 60 = .ok (.iload 4, 2) := by decide +kernel
theorem dX3_town_62 : decode cX3_town 62 = .ok (.invokevirtual 62, 3) := by decide +kernel
theorem dX3_town_65 : decode cX3_town 65 = .ok (.aload_n 0, 1) := by decide +kernel
theorem dX3_town_66 : decode cX3_town 66 = .ok (.getfield 20, 3) := by decide +kernel
theorem dX3_town_69 : decode cX3_town 69 = .ok (.aload_n 0, 1) := by decide +kernel
theorem dX3_town_70 : decode cX3_town 70 = .ok (.getfield 35, 3) := by decide +kernel
theorem dX3_town_73 : decode cX3_town 73 = .ok (.invokevirtual 66, 3) := by decide +kernel
theorem dX3_town_76 : decode cX3_town 76 = .ok (.ifCond .ne 14, 3) := by decide +kernel
theorem dX3_town_79 : decode cX3_town 79 = .ok (.bipush (-100), 2) := by decide +kernel
theorem dX3_town_81 : decode cX3_town 81 = .ok (.aload_n 0, 1) := by decide +kernel
theorem dX3_town_82 : decode cX3_town 82 = .ok (.getfield 20, 3) := by decide +kernel
theorem dX3_town_85 : decode cX3_town 85 = .ok (.getfield 70, 3) := by decide +kernel
theorem dX3_town_88 : decode cX3_town 88 = .ok (.isub, 1) := by decide +kernel
theorem dX3_town_89 : decode cX3_town 89 = .ok (.ireturn, 1) := by decide +kernel
theorem dX3_town_90 : decode cX3_town 90 = .ok (.aload_n 0, 1) := by decide +kernel
theorem dX3_town_91 : decode cX3_town 91 = .ok (.getfield 31, 3) := by decide +kernel
theorem dX3_town_94 : decode cX3_town 94 = .ok (.astore 7, 2) := by decide +kernel
theorem dX3_town_96 : decode cX3_town 96 = .ok (.aload_n 0, 1) := by decide +kernel
theorem dX3_town_97 : decode cX3_town 97 = .ok (.aload_n 0, 1) := by decide +kernel
theorem dX3_town_98 : decode cX3_town 98 = .ok (.getfield 35, 3) := by decide +kernel
theorem dX3_town_101 : decode cX3_town 101 = .ok (.putfield 31, 3) := by decide +kernel
theorem dX3_town_104 : decode cX3_town 104 = .ok (.aload_n 0, 1) := by decide +kernel
theorem dX3_town_105 : decode cX3_town 105 = .ok (.aload 7, 2) := by decide +kernel
theorem dX3_town_107 : decode cX3_town 107 = .ok (.putfield 35, 3) := by decide +kernel
theorem dX3_town_110 : decode cX3_town 110 = .ok (.aload_n 0, 1) := by decide +kernel
theorem dX3_town_111 : decode cX3_town 111 = .ok (.getfield 31, 3) := by decide +kernel
theorem dX3_town_114 : decode cX3_town 114 = .ok (.getfield 73, 3) := by decide +kernel
theorem dX3_town_117 : decode cX3_town 117 = .ok (.ireturn, 1) := by decide +kernel
set_option maxRecDepth 20000 in
theorem ggX3_ofWard_X2_hasWard : GoodIn wsX3_ofWard wsX2_hasWard := goodIn_r _ [9, 10, 28, 29, 30, 31, 32, 33, 34, 35, 36, 37, 38, 39, 40, 41, 42, 43, 44, 45] (by decide +kernel) (by decide +kernel)
set_option maxRecDepth 20000 in
theorem gX3_ofWard_X2_hasWard : GoodIn wsX3_ofWard (wsV RX3 76 RX2 yX2_hasWard wsX2_hasWard) := goodIn_app (goodIn_of _ (by decide +kernel)) ggX3_ofWard_X2_hasWard
set_option maxRecDepth 20000 in
theorem ggX3_ofWard_X3_read : GoodIn wsX3_ofWard wsX3_read := goodIn_r _ [14] (by decide +kernel) (by decide +kernel)
set_option maxRecDepth 20000 in
theorem gX3_ofWard_X3_read : GoodIn wsX3_ofWard (va_wsS RX3 83 yX3_read wsX3_read) := goodIn_app (goodIn_of _ (by decide +kernel)) ggX3_ofWard_X3_read
set_option maxRecDepth 20000 in
theorem ggX3_ofWard_X2_factorOf : GoodIn wsX3_ofWard wsX2_factorOf := goodIn_r _ [18, 19, 20, 12, 13, 14, 28, 29, 30, 31, 32, 33, 34, 35, 36, 37, 38, 39, 40, 41, 42, 43, 44, 45] (by decide +kernel) (by decide +kernel)
set_option maxRecDepth 20000 in
theorem gX3_ofWard_X2_factorOf : GoodIn wsX3_ofWard (wsV RX3 93 RX2 yX2_factorOf wsX2_factorOf) := goodIn_app (goodIn_of _ (by decide +kernel)) ggX3_ofWard_X2_factorOf
theorem dX3_ofWard_0 : decode cX3_ofWard 0 = .ok (.aload_n 0, 1) := by decide +kernel
theorem dX3_ofWard_1 : decode cX3_ofWard 1 = .ok (.getfield 31, 3) := by decide +kernel
theorem dX3_ofWard_4 : decode cX3_ofWard 4 = .ok (.iload_n 1, 1) := by decide +kernel
theorem dX3_ofWard_5 : decode cX3_ofWard 5 = .ok (.invokevirtual 76, 3) := by decide +kernel
theorem dX3_ofWard_8 : decode cX3_ofWard 8 = .ok (.ifCond .ne 5, 3) := by decide +kernel
theorem dX3_ofWard_11 : decode cX3_ofWard 11 = .ok (.iconst (-1), 1) := by decide +kernel
theorem dX3_ofWard_12 : decode cX3_ofWard 12 = .ok (.ireturn, 1) := by decide +kernel
theorem dX3_ofWard_13 : decode cX3_ofWard 13 = .ok (.iload_n 2, 1) := by decide +kernel
theorem dX3_ofWard_14 : decode cX3_ofWard 14 = .ok (.tableswitch 75 0 3 #[30, 42, 54, 66], 30) := by decide +kernel
theorem dX3_ofWard_44 : decode cX3_ofWard 44 = .ok (.aload_n 0, 1) := by decide +kernel
theorem dX3_ofWard_45 : decode cX3_ofWard 45 = .ok (.getfield 31, 3) := by decide +kernel
theorem dX3_ofWard_48 : decode cX3_ofWard 48 = .ok (.getfield 80, 3) := by decide +kernel
theorem dX3_ofWard_51 : decode cX3_ofWard 51 = .ok (.iload_n 1, 1) := by decide +kernel
theorem dX3_ofWard_52 : decode cX3_ofWard 52 = .ok (.invokestatic 83, 3) := by decide +kernel
theorem dX3_ofWard_55 : decode cX3_ofWard 55 = .ok (.ireturn, 1) := by decide +kernel
theorem dX3_ofWard_56 : decode cX3_ofWard 56 = .ok (.aload_n 0, 1) := by decide +kernel
theorem dX3_ofWard_57 : decode cX3_ofWard 57 = .ok (.getfield 31, 3) := by decide +kernel
theorem dX3_ofWard_60 : decode cX3_ofWard 60 = .ok (.getfield 87, 3) := by decide +kernel
theorem dX3_ofWard_63 : decode cX3_ofWard 63 = .ok (.iload_n 1, 1) := by decide +kernel
theorem dX3_ofWard_64 : decode cX3_ofWard 64 = .ok (.invokestatic 83, 3) := by decide +kernel
theorem dX3_ofWard_67 : decode cX3_ofWard 67 = .ok (.ireturn, 1) := by decide +kernel
theorem dX3_ofWard_68 : decode cX3_ofWard 68 = .ok (.aload_n 0, 1) := by decide +kernel
theorem dX3_ofWard_69 : decode cX3_ofWard 69 = .ok (.getfield 31, 3) := by decide +kernel
theorem dX3_ofWard_72 : decode cX3_ofWard 72 = .ok (.getfield 90, 3) := by decide +kernel
theorem dX3_ofWard_75 : decode cX3_ofWard 75 = .ok (.iload_n 1, 1) := by decide +kernel
theorem dX3_ofWard_76 : decode cX3_ofWard 76 = .ok (.invokestatic 83, 3) := by decide +kernel
theorem dX3_ofWard_79 : decode cX3_ofWard 79 = .ok (.ireturn, 1) := by decide +kernel
theorem dX3_ofWard_80 : decode cX3_ofWard 80 = .ok (.aload_n 0, 1) := by decide +kernel
theorem dX3_ofWard_81 : decode cX3_ofWard 81 = .ok (.getfield 31, 3) := by decide +kernel
theorem dX3_ofWard_84 : decode cX3_ofWard 84 = .ok (.iload_n 1, 1) := by decide +kernel
theorem dX3_ofWard_85 : decode cX3_ofWard 85 = .ok (.invokevirtual 93, 3) := by decide +kernel
theorem dX3_ofWard_88 : decode cX3_ofWard 88 = .ok (.ireturn, 1) := by decide +kernel
theorem dX3_ofWard_89 : decode cX3_ofWard 89 = .ok (.bipush (-2), 2) := by decide +kernel
theorem dX3_ofWard_91 : decode cX3_ofWard 91 = .ok (.ireturn, 1) := by decide +kernel
set_option maxRecDepth 20000 in
theorem ggX3_ofWork_X2_hasWork : GoodIn wsX3_ofWork wsX2_hasWork := goodIn_r _ [9, 10, 26, 27, 28, 29, 30, 31, 32, 33, 34, 35, 36, 37, 38, 39, 40, 41, 42, 43] (by decide +kernel) (by decide +kernel)
set_option maxRecDepth 20000 in
theorem gX3_ofWork_X2_hasWork : GoodIn wsX3_ofWork (wsV RX3 96 RX2 yX2_hasWork wsX2_hasWork) := goodIn_app (goodIn_of _ (by decide +kernel)) ggX3_ofWork_X2_hasWork
set_option maxRecDepth 20000 in
theorem ggX3_ofWork_X3_read : GoodIn wsX3_ofWork wsX3_read := goodIn_r _ [14] (by decide +kernel) (by decide +kernel)
set_option maxRecDepth 20000 in
theorem gX3_ofWork_X3_read : GoodIn wsX3_ofWork (va_wsS RX3 83 yX3_read wsX3_read) := goodIn_app (goodIn_of _ (by decide +kernel)) ggX3_ofWork_X3_read
set_option maxRecDepth 20000 in
theorem ggX3_ofWork_X2_vaneIn : GoodIn wsX3_ofWork wsX2_vaneIn := goodIn_r _ [18, 10, 26, 27, 28, 29, 30, 31, 32, 33, 34, 35, 36, 37, 38, 39, 40, 41, 42, 43] (by decide +kernel) (by decide +kernel)
set_option maxRecDepth 20000 in
theorem gX3_ofWork_X2_vaneIn : GoodIn wsX3_ofWork (wsV RX3 108 RX2 yX2_vaneIn wsX2_vaneIn) := goodIn_app (goodIn_of _ (by decide +kernel)) ggX3_ofWork_X2_vaneIn
theorem dX3_ofWork_0 : decode cX3_ofWork 0 = .ok (.aload_n 0, 1) := by decide +kernel
theorem dX3_ofWork_1 : decode cX3_ofWork 1 = .ok (.getfield 31, 3) := by decide +kernel
theorem dX3_ofWork_4 : decode cX3_ofWork 4 = .ok (.iload_n 1, 1) := by decide +kernel
theorem dX3_ofWork_5 : decode cX3_ofWork 5 = .ok (.invokevirtual 96, 3) := by decide +kernel
theorem dX3_ofWork_8 : decode cX3_ofWork 8 = .ok (.ifCond .ne 5, 3) := by decide +kernel
theorem dX3_ofWork_11 : decode cX3_ofWork 11 = .ok (.iconst (-1), 1) := by decide +kernel
theorem dX3_ofWork_12 : decode cX3_ofWork 12 = .ok (.ireturn, 1) := by decide +kernel
theorem dX3_ofWork_13 : decode cX3_ofWork 13 = .ok (.iload_n 2, 1) := by decide +kernel
theorem dX3_ofWork_14 : decode cX3_ofWork 14 = .ok (.tableswitch 66 0 2 #[26, 38, 50], 26) := by decide +kernel
theorem dX3_ofWork_40 : decode cX3_ofWork 40 = .ok (.aload_n 0, 1) := by decide +kernel
theorem dX3_ofWork_41 : decode cX3_ofWork 41 = .ok (.getfield 31, 3) := by decide +kernel
theorem dX3_ofWork_44 : decode cX3_ofWork 44 = .ok (.getfield 99, 3) := by decide +kernel
theorem dX3_ofWork_47 : decode cX3_ofWork 47 = .ok (.iload_n 1, 1) := by decide +kernel
theorem dX3_ofWork_48 : decode cX3_ofWork 48 = .ok (.invokestatic 83, 3) := by decide +kernel
theorem dX3_ofWork_51 : decode cX3_ofWork 51 = .ok (.ireturn, 1) := by decide +kernel
theorem dX3_ofWork_52 : decode cX3_ofWork 52 = .ok (.aload_n 0, 1) := by decide +kernel
theorem dX3_ofWork_53 : decode cX3_ofWork 53 = .ok (.getfield 31, 3) := by decide +kernel
theorem dX3_ofWork_56 : decode cX3_ofWork 56 = .ok (.getfield 102, 3) := by decide +kernel
theorem dX3_ofWork_59 : decode cX3_ofWork 59 = .ok (.iload_n 1, 1) := by decide +kernel
theorem dX3_ofWork_60 : decode cX3_ofWork 60 = .ok (.invokestatic 83, 3) := by decide +kernel
theorem dX3_ofWork_63 : decode cX3_ofWork 63 = .ok (.ireturn, 1) := by decide +kernel
theorem dX3_ofWork_64 : decode cX3_ofWork 64 = .ok (.aload_n 0, 1) := by decide +kernel
theorem dX3_ofWork_65 : decode cX3_ofWork 65 = .ok (.getfield 31, 3) := by decide +kernel
theorem dX3_ofWork_68 : decode cX3_ofWork 68 = .ok (.aload_n 0, 1) := by decide +kernel
theorem dX3_ofWork_69 : decode cX3_ofWork 69 = .ok (.getfield 31, 3) := by decide +kernel
theorem dX3_ofWork_72 : decode cX3_ofWork 72 = .ok (.getfield 105, 3) := by decide +kernel
theorem dX3_ofWork_75 : decode cX3_ofWork 75 = .ok (.iload_n 1, 1) := by decide +kernel
theorem dX3_ofWork_76 : decode cX3_ofWork 76 = .ok (.invokevirtual 108, 3) := by decide +kernel
theorem dX3_ofWork_79 : decode cX3_ofWork 79 = .ok (.ireturn, 1) := by decide +kernel
theorem dX3_ofWork_80 : decode cX3_ofWork 80 = .ok (.bipush (-2), 2) := by decide +kernel
theorem dX3_ofWork_82 : decode cX3_ofWork 82 = .ok (.ireturn, 1) := by decide +kernel
set_option maxRecDepth 20000 in
theorem ggX3_law_X3_isUpTo : GoodIn wsX3_law wsX3_isUpTo := goodIn_r _ [7] (by decide +kernel) (by decide +kernel)
set_option maxRecDepth 20000 in
theorem gX3_law_X3_isUpTo : GoodIn wsX3_law (va_wsS RX3 50 yX3_isUpTo wsX3_isUpTo) := goodIn_app (goodIn_of _ (by decide +kernel)) ggX3_law_X3_isUpTo
theorem dX3_law_0 : decode cX3_law 0 = .ok (.iload_n 1, 1) := by decide +kernel
theorem dX3_law_1 : decode cX3_law 1 = .ok (.iconst 2, 1) := by decide +kernel
theorem dX3_law_2 : decode cX3_law 2 = .ok (.invokestatic 50, 3) := by decide +kernel
theorem dX3_law_5 : decode cX3_law 5 = .ok (.ifCond .ne 6, 3) := by decide +kernel
theorem dX3_law_8 : decode cX3_law 8 = .ok (.bipush (-2), 2) := by decide +kernel
theorem dX3_law_10 : decode cX3_law 10 = .ok (.ireturn, 1) := by decide +kernel
theorem dX3_law_11 : decode cX3_law 11 = .ok (.aload_n 0, 1) := by decide +kernel
theorem dX3_law_12 : decode cX3_law 12 = .ok (.getfield 31, 3) := by decide +kernel
theorem dX3_law_15 : decode cX3_law 15 = .ok (.getfield 112, 3) := by decide +kernel
theorem dX3_law_18 : decode cX3_law 18 = .ok (.ifCond .ne 6, 3) := by decide +kernel
theorem dX3_law_21 : decode cX3_law 21 = .ok (.bipush (-3), 2) := by decide +kernel
theorem dX3_law_23 : decode cX3_law 23 = .ok (.ireturn, 1) := by decide +kernel
theorem dX3_law_24 : decode cX3_law 24 = .ok (.aload_n 0, 1) := by decide +kernel
theorem dX3_law_25 : decode cX3_law 25 = .ok (.getfield 31, 3) := by decide +kernel
theorem dX3_law_28 : decode cX3_law 28 = .ok (.getfield 116, 3) := by decide +kernel
theorem dX3_law_31 : decode cX3_law 31 = .ok (.istore_n 2, 1) := by decide +kernel
theorem dX3_law_32 : decode cX3_law 32 = .ok (.aload_n 0, 1) := by decide +kernel
theorem dX3_law_33 : decode cX3_law 33 = .ok (.getfield 31, 3) := by decide +kernel
theorem dX3_law_36 : decode cX3_law 36 = .ok (.iload_n 1, 1) := by decide +kernel
theorem dX3_law_37 : decode cX3_law 37 = .ok (.putfield 116, 3) := by decide +kernel
theorem dX3_law_40 : decode cX3_law 40 = .ok (.iload_n 2, 1) := by decide +kernel
theorem dX3_law_41 : decode cX3_law 41 = .ok (.ireturn, 1) := by decide +kernel
set_option maxRecDepth 20000 in
theorem ggX3_turn_X2_hasWork : GoodIn wsX3_turn wsX2_hasWork := goodIn_r _ [7, 8, 28, 29, 30, 31, 32, 33, 34, 35, 36, 37, 38, 39, 40, 41, 42, 43, 44, 45] (by decide +kernel) (by decide +kernel)
set_option maxRecDepth 20000 in
theorem gX3_turn_X2_hasWork : GoodIn wsX3_turn (wsV RX3 96 RX2 yX2_hasWork wsX2_hasWork) := goodIn_app (goodIn_of _ (by decide +kernel)) ggX3_turn_X2_hasWork
set_option maxRecDepth 20000 in
theorem ggX3_turn_X3_isUpTo : GoodIn wsX3_turn wsX3_isUpTo := goodIn_r _ [12] (by decide +kernel) (by decide +kernel)
set_option maxRecDepth 20000 in
theorem gX3_turn_X3_isUpTo : GoodIn wsX3_turn (va_wsS RX3 50 yX3_isUpTo wsX3_isUpTo) := goodIn_app (goodIn_of _ (by decide +kernel)) ggX3_turn_X3_isUpTo
set_option maxRecDepth 20000 in
theorem ggX3_turn_X2_vaneIn : GoodIn wsX3_turn wsX2_vaneIn := goodIn_r _ [16, 8, 28, 29, 30, 31, 32, 33, 34, 35, 36, 37, 38, 39, 40, 41, 42, 43, 44, 45] (by decide +kernel) (by decide +kernel)
set_option maxRecDepth 20000 in
theorem gX3_turn_X2_vaneIn : GoodIn wsX3_turn (wsV RX3 108 RX2 yX2_vaneIn wsX2_vaneIn) := goodIn_app (goodIn_of _ (by decide +kernel)) ggX3_turn_X2_vaneIn
set_option maxRecDepth 20000 in
theorem ggX3_turn_X2_turned : GoodIn wsX3_turn wsX2_turned := goodIn_r _ [20, 8, 28, 29, 30, 31, 32, 33, 34, 35, 36, 37, 38, 39, 40, 41, 42, 43, 44, 45] (by decide +kernel) (by decide +kernel)
set_option maxRecDepth 20000 in
theorem gX3_turn_X2_turned : GoodIn wsX3_turn (wsV RX3 119 RX2 yX2_turned wsX2_turned) := goodIn_app (goodIn_of _ (by decide +kernel)) ggX3_turn_X2_turned
theorem dX3_turn_0 : decode cX3_turn 0 = .ok (.aload_n 0, 1) := by decide +kernel
theorem dX3_turn_1 : decode cX3_turn 1 = .ok (.getfield 31, 3) := by decide +kernel
theorem dX3_turn_4 : decode cX3_turn 4 = .ok (.iload_n 1, 1) := by decide +kernel
theorem dX3_turn_5 : decode cX3_turn 5 = .ok (.invokevirtual 96, 3) := by decide +kernel
theorem dX3_turn_8 : decode cX3_turn 8 = .ok (.ifCond .ne 5, 3) := by decide +kernel
theorem dX3_turn_11 : decode cX3_turn 11 = .ok (.iconst (-1), 1) := by decide +kernel
theorem dX3_turn_12 : decode cX3_turn 12 = .ok (.ireturn, 1) := by decide +kernel
theorem dX3_turn_13 : decode cX3_turn 13 = .ok (.iload_n 2, 1) := by decide +kernel
theorem dX3_turn_14 : decode cX3_turn 14 = .ok (.iconst 3, 1) := by decide +kernel
theorem dX3_turn_15 : decode cX3_turn 15 = .ok (.invokestatic 50, 3) := by decide +kernel
theorem dX3_turn_18 : decode cX3_turn 18 = .ok (.ifCond .ne 6, 3) := by decide +kernel
theorem dX3_turn_21 : decode cX3_turn 21 = .ok (.bipush (-2), 2) := by decide +kernel
theorem dX3_turn_23 : decode cX3_turn 23 = .ok (.ireturn, 1) := by decide +kernel
theorem dX3_turn_24 : decode cX3_turn 24 = .ok (.aload_n 0, 1) := by decide +kernel
theorem dX3_turn_25 : decode cX3_turn 25 = .ok (.getfield 31, 3) := by decide +kernel
theorem dX3_turn_28 : decode cX3_turn 28 = .ok (.aload_n 0, 1) := by decide +kernel
theorem dX3_turn_29 : decode cX3_turn 29 = .ok (.getfield 31, 3) := by decide +kernel
theorem dX3_turn_32 : decode cX3_turn 32 = .ok (.getfield 105, 3) := by decide +kernel
theorem dX3_turn_35 : decode cX3_turn 35 = .ok (.iload_n 1, 1) := by decide +kernel
theorem dX3_turn_36 : decode cX3_turn 36 = .ok (.invokevirtual 108, 3) := by decide +kernel
theorem dX3_turn_39 : decode cX3_turn 39 = .ok (.istore_n 3, 1) := by decide +kernel
theorem dX3_turn_40 : decode cX3_turn 40 = .ok (.aload_n 0, 1) := by decide +kernel
theorem dX3_turn_41 : decode cX3_turn 41 = .ok (.getfield 31, 3) := by decide +kernel
theorem dX3_turn_44 : decode cX3_turn 44 = .ok (.aload_n 0, 1) := by decide +kernel
theorem dX3_turn_45 : decode cX3_turn 45 = .ok (.getfield 31, 3) := by decide +kernel
theorem dX3_turn_48 : decode cX3_turn 48 = .ok (.aload_n 0, 1) := by decide +kernel
theorem dX3_turn_49 : decode cX3_turn 49 = .ok (.getfield 31, 3) := by decide +kernel
theorem dX3_turn_52 : decode cX3_turn 52 = .ok (.getfield 105, 3) := by decide +kernel
theorem dX3_turn_55 : decode cX3_turn 55 = .ok (.iload_n 1, 1) := by decide +kernel
theorem dX3_turn_56 : decode cX3_turn 56 = .ok (.iload_n 2, 1) := by decide +kernel
theorem dX3_turn_57 : decode cX3_turn 57 = .ok (.invokevirtual 119, 3) := by decide +kernel
theorem dX3_turn_60 : decode cX3_turn 60 = .ok (.putfield 105, 3) := by decide +kernel
theorem dX3_turn_63 : decode cX3_turn 63 = .ok (.iload_n 3, 1) := by decide +kernel
theorem dX3_turn_64 : decode cX3_turn 64 = .ok (.ireturn, 1) := by decide +kernel
set_option maxRecDepth 20000 in
theorem ggX3_smell_X2_hasCell : GoodIn wsX3_smell wsX2_hasCell := goodIn_r _ [7, 8, 41, 42, 43, 44, 45, 46, 47, 48, 49, 50, 51, 52, 53, 54, 55, 56, 57, 58] (by decide +kernel) (by decide +kernel)
set_option maxRecDepth 20000 in
theorem gX3_smell_X2_hasCell : GoodIn wsX3_smell (wsV RX3 122 RX2 yX2_hasCell wsX2_hasCell) := goodIn_app (goodIn_of _ (by decide +kernel)) ggX3_smell_X2_hasCell
set_option maxRecDepth 20000 in
theorem ggX3_smell_X2_smellBy : GoodIn wsX3_smell wsX2_smellBy := goodIn_r _ [12, 13, 14, 15, 16, 17, 18, 19, 20, 21, 22, 23, 24, 25, 26, 6, 27, 28, 29, 30, 31, 32, 33, 41, 42, 43, 44, 45, 46, 47, 48, 49, 50, 51, 52, 53, 54, 55, 56, 57, 58] (by decide +kernel) (by decide +kernel)
set_option maxRecDepth 20000 in
theorem gX3_smell_X2_smellBy : GoodIn wsX3_smell (wsV RX3 125 RX2 yX2_smellBy wsX2_smellBy) := goodIn_app (goodIn_of _ (by decide +kernel)) ggX3_smell_X2_smellBy
theorem dX3_smell_0 : decode cX3_smell 0 = .ok (.aload_n 0, 1) := by decide +kernel
theorem dX3_smell_1 : decode cX3_smell 1 = .ok (.getfield 31, 3) := by decide +kernel
theorem dX3_smell_4 : decode cX3_smell 4 = .ok (.iload_n 1, 1) := by decide +kernel
theorem dX3_smell_5 : decode cX3_smell 5 = .ok (.invokevirtual 122, 3) := by decide +kernel
theorem dX3_smell_8 : decode cX3_smell 8 = .ok (.ifCond .eq 21, 3) := by decide +kernel
theorem dX3_smell_11 : decode cX3_smell 11 = .ok (.aload_n 0, 1) := by decide +kernel
theorem dX3_smell_12 : decode cX3_smell 12 = .ok (.getfield 31, 3) := by decide +kernel
theorem dX3_smell_15 : decode cX3_smell 15 = .ok (.aload_n 0, 1) := by decide +kernel
theorem dX3_smell_16 : decode cX3_smell 16 = .ok (.getfield 31, 3) := by decide +kernel
theorem dX3_smell_19 : decode cX3_smell 19 = .ok (.getfield 105, 3) := by decide +kernel
theorem dX3_smell_22 : decode cX3_smell 22 = .ok (.iload_n 1, 1) := by decide +kernel
theorem dX3_smell_23 : decode cX3_smell 23 = .ok (.invokevirtual 125, 3) := by decide +kernel
theorem dX3_smell_26 : decode cX3_smell 26 = .ok (.goto 4, 3) := by decide +kernel
theorem dX3_smell_29 : decode cX3_smell 29 = .ok (.iconst (-1), 1) := by decide +kernel
theorem dX3_smell_30 : decode cX3_smell 30 = .ok (.ireturn, 1) := by decide +kernel
set_option maxRecDepth 20000 in
theorem ggX3_minds_X2_hasWard : GoodIn wsX3_minds wsX2_hasWard := goodIn_r _ [7, 8, 52, 53, 54, 55, 56, 57, 58, 59, 60, 61, 62, 63, 64, 65, 66, 67, 68, 69] (by decide +kernel) (by decide +kernel)
set_option maxRecDepth 20000 in
theorem gX3_minds_X2_hasWard : GoodIn wsX3_minds (wsV RX3 76 RX2 yX2_hasWard wsX2_hasWard) := goodIn_app (goodIn_of _ (by decide +kernel)) ggX3_minds_X2_hasWard
set_option maxRecDepth 20000 in
theorem ggX3_minds_X2_mindedBy : GoodIn wsX3_minds wsX2_mindedBy := goodIn_r _ [12, 13, 14, 15, 16, 6, 17, 18, 19, 20, 21, 22, 23, 24, 25, 26, 27, 28, 29, 30, 31, 32, 33, 34, 35, 36, 37, 38, 39, 40, 41, 42, 43, 44, 52, 53, 54, 55, 56, 57, 58, 59, 60, 61, 62, 63, 64, 65, 66, 67, 68, 69] (by decide +kernel) (by decide +kernel)
set_option maxRecDepth 20000 in
theorem gX3_minds_X2_mindedBy : GoodIn wsX3_minds (wsV RX3 128 RX2 yX2_mindedBy wsX2_mindedBy) := goodIn_app (goodIn_of _ (by decide +kernel)) ggX3_minds_X2_mindedBy
theorem dX3_minds_0 : decode cX3_minds 0 = .ok (.aload_n 0, 1) := by decide +kernel
theorem dX3_minds_1 : decode cX3_minds 1 = .ok (.getfield 31, 3) := by decide +kernel
theorem dX3_minds_4 : decode cX3_minds 4 = .ok (.iload_n 1, 1) := by decide +kernel
theorem dX3_minds_5 : decode cX3_minds 5 = .ok (.invokevirtual 76, 3) := by decide +kernel
theorem dX3_minds_8 : decode cX3_minds 8 = .ok (.ifCond .eq 21, 3) := by decide +kernel
theorem dX3_minds_11 : decode cX3_minds 11 = .ok (.aload_n 0, 1) := by decide +kernel
theorem dX3_minds_12 : decode cX3_minds 12 = .ok (.getfield 31, 3) := by decide +kernel
theorem dX3_minds_15 : decode cX3_minds 15 = .ok (.aload_n 0, 1) := by decide +kernel
theorem dX3_minds_16 : decode cX3_minds 16 = .ok (.getfield 31, 3) := by decide +kernel
theorem dX3_minds_19 : decode cX3_minds 19 = .ok (.getfield 105, 3) := by decide +kernel
theorem dX3_minds_22 : decode cX3_minds 22 = .ok (.iload_n 1, 1) := by decide +kernel
theorem dX3_minds_23 : decode cX3_minds 23 = .ok (.invokevirtual 128, 3) := by decide +kernel
theorem dX3_minds_26 : decode cX3_minds 26 = .ok (.goto 4, 3) := by decide +kernel
theorem dX3_minds_29 : decode cX3_minds 29 = .ok (.iconst (-1), 1) := by decide +kernel
theorem dX3_minds_30 : decode cX3_minds 30 = .ok (.ireturn, 1) := by decide +kernel
set_option maxRecDepth 20000 in
theorem ggX3_burden_X2_burdenBy : GoodIn wsX3_burden wsX2_burdenBy := goodIn_r _ [8, 9, 10, 11, 12, 7, 13, 14, 15, 16, 17, 18, 19, 20, 21, 22, 23, 24, 25, 26, 27, 28, 29, 30, 31, 32, 33, 34, 35, 36, 37, 38, 39, 40, 41, 42, 43, 44, 45, 53, 54, 55, 56, 57, 58, 59, 60, 61, 62, 63, 64, 65, 66, 67, 68, 69, 70] (by decide +kernel) (by decide +kernel)
set_option maxRecDepth 20000 in
theorem gX3_burden_X2_burdenBy : GoodIn wsX3_burden (wsV RX3 131 RX2 yX2_burdenBy wsX2_burdenBy) := goodIn_app (goodIn_of _ (by decide +kernel)) ggX3_burden_X2_burdenBy
theorem dX3_burden_0 : decode cX3_burden 0 = .ok (.aload_n 0, 1) := by decide +kernel
theorem dX3_burden_1 : decode cX3_burden 1 = .ok (.getfield 31, 3) := by decide +kernel
theorem dX3_burden_4 : decode cX3_burden 4 = .ok (.getfield 112, 3) := by decide +kernel
theorem dX3_burden_7 : decode cX3_burden 7 = .ok (.ifCond .eq 20, 3) := by decide +kernel
theorem dX3_burden_10 : decode cX3_burden 10 = .ok (.aload_n 0, 1) := by decide +kernel
theorem dX3_burden_11 : decode cX3_burden 11 = .ok (.getfield 31, 3) := by decide +kernel
theorem dX3_burden_14 : decode cX3_burden 14 = .ok (.aload_n 0, 1) := by decide +kernel
theorem dX3_burden_15 : decode cX3_burden 15 = .ok (.getfield 31, 3) := by decide +kernel
theorem dX3_burden_18 : decode cX3_burden 18 = .ok (.getfield 105, 3) := by decide +kernel
theorem dX3_burden_21 : decode cX3_burden 21 = .ok (.invokevirtual 131, 3) := by decide +kernel
theorem dX3_burden_24 : decode cX3_burden 24 = .ok (.goto 5, 3) := by decide +kernel
theorem dX3_burden_27 : decode cX3_burden 27 = .ok (.bipush (-3), 2) := by decide +kernel
theorem dX3_burden_29 : decode cX3_burden 29 = .ok (.ireturn, 1) := by decide +kernel
set_option maxRecDepth 20000 in
theorem ggX3_told_X3_sheetAt : GoodIn wsX3_told wsX3_sheetAt := goodIn_r _ [10, 11, 80, 81, 82, 83, 84, 85, 86] (by decide +kernel) (by decide +kernel)
set_option maxRecDepth 20000 in
theorem gX3_told_X3_sheetAt : GoodIn wsX3_told (wsV RX3 46 RX3 yX3_sheetAt wsX3_sheetAt) := goodIn_app (goodIn_of _ (by decide +kernel)) ggX3_told_X3_sheetAt
set_option maxRecDepth 20000 in
theorem ggX3_told_X3_isUpTo : GoodIn wsX3_told wsX3_isUpTo := goodIn_r _ [14] (by decide +kernel) (by decide +kernel)
set_option maxRecDepth 20000 in
theorem gX3_told_X3_isUpTo : GoodIn wsX3_told (va_wsS RX3 50 yX3_isUpTo wsX3_isUpTo) := goodIn_app (goodIn_of _ (by decide +kernel)) ggX3_told_X3_isUpTo
set_option maxRecDepth 20000 in
theorem ggX3_told_X0_faultOfTaking : GoodIn wsX3_told wsX0_faultOfTaking := goodIn_r _ [19, 20, 21, 22, 23, 18, 24, 25, 26, 27, 28, 29, 105, 106, 107] (by decide +kernel) (by decide +kernel)
set_option maxRecDepth 20000 in
theorem gX3_told_X0_faultOfTaking : GoodIn wsX3_told (wsV RX3 54 RX0 yX0_faultOfTaking wsX0_faultOfTaking) := goodIn_app (goodIn_of _ (by decide +kernel)) ggX3_told_X0_faultOfTaking
set_option maxRecDepth 20000 in
theorem ggX3_told_X3_fail : GoodIn wsX3_told wsX3_fail := goodIn_r _ [33, 1, 80, 81, 82, 83, 84, 85, 86] (by decide +kernel) (by decide +kernel)
set_option maxRecDepth 20000 in
theorem gX3_told_X3_fail : GoodIn wsX3_told (wsV RX3 58 RX3 yX3_fail wsX3_fail) := goodIn_app (goodIn_of _ (by decide +kernel)) ggX3_told_X3_fail
set_option maxRecDepth 20000 in
theorem ggX3_told_X3_read : GoodIn wsX3_told wsX3_read := goodIn_r _ [36] (by decide +kernel) (by decide +kernel)
set_option maxRecDepth 20000 in
theorem gX3_told_X3_read : GoodIn wsX3_told (va_wsS RX3 83 yX3_read wsX3_read) := goodIn_app (goodIn_of _ (by decide +kernel)) ggX3_told_X3_read
set_option maxRecDepth 20000 in
theorem ggX3_told_X2_turned : GoodIn wsX3_told wsX2_turned := goodIn_r _ [41, 42, 87, 88, 89, 90, 91, 92, 93, 94, 95, 96, 97, 98, 99, 100, 101, 102, 103, 104] (by decide +kernel) (by decide +kernel)
set_option maxRecDepth 20000 in
theorem gX3_told_X2_turned : GoodIn wsX3_told (wsV RX3 119 RX2 yX2_turned wsX2_turned) := goodIn_app (goodIn_of _ (by decide +kernel)) ggX3_told_X2_turned
set_option maxRecDepth 20000 in
theorem ggX3_told_X2_burdenBy : GoodIn wsX3_told wsX2_burdenBy := goodIn_r _ [46, 47, 48, 49, 50, 40, 51, 52, 53, 54, 55, 56, 57, 58, 35, 9, 36, 59, 60, 61, 62, 42, 63, 64, 65, 66, 67, 68, 69, 70, 71, 72, 73, 74, 75, 76, 77, 78, 79, 87, 88, 89, 90, 91, 92, 93, 94, 95, 96, 97, 98, 99, 100, 101, 102, 103, 104] (by decide +kernel) (by decide +kernel)
set_option maxRecDepth 20000 in
theorem gX3_told_X2_burdenBy : GoodIn wsX3_told (wsV RX3 131 RX2 yX2_burdenBy wsX2_burdenBy) := goodIn_app (goodIn_of _ (by decide +kernel)) ggX3_told_X2_burdenBy
theorem dX3_told_0 : decode cX3_told 0 = .ok (.aload_n 0, 1) := by decide +kernel
theorem dX3_told_1 : decode cX3_told 1 = .ok (.iconst 0, 1) := by decide +kernel
theorem dX3_told_2 : decode cX3_told 2 = .ok (.putfield 42, 3) := by decide +kernel
theorem dX3_told_5 : decode cX3_told 5 = .ok (.aload_n 0, 1) := by decide +kernel
theorem dX3_told_6 : decode cX3_told 6 = .ok (.iload_n 1, 1) := by decide +kernel
theorem dX3_told_7 : decode cX3_told 7 = .ok (.invokevirtual 46, 3) := by decide +kernel
theorem dX3_told_10 : decode cX3_told 10 = .ok (.astore 5, 2) := by decide +kernel
theorem dX3_told_12 : decode cX3_told 12 = .ok (.aload 5, 2) := by decide +kernel
theorem dX3_told_14 : decode cX3_told 14 = .ok (.ifnonnull 5, 3) := by decide +kernel
theorem dX3_told_17 : decode cX3_told 17 = .ok (.iconst (-1), 1) := by decide +kernel
theorem dX3_told_18 : decode cX3_told 18 = .ok (.ireturn, 1) := by decide +kernel
theorem dX3_told_19 : decode cX3_told 19 = .ok (.iload_n 2, 1) := by decide +kernel
theorem dX3_told_20 : decode cX3_told 20 = .ok (.iconst 2, 1) := by decide +kernel
theorem dX3_told_21 : decode cX3_told 21 = .ok (.invokestatic 50, 3) := by decide +kernel
theorem dX3_told_24 : decode cX3_told 24 = .ok (.ifCond .ne 6, 3) := by decide +kernel
theorem dX3_told_27 : decode cX3_told 27 = .ok (.bipush (-2), 2) := by decide +kernel
theorem dX3_told_29 : decode cX3_told 29 = .ok (.ireturn, 1) := by decide +kernel
theorem dX3_told_30 : decode cX3_told 30 = .ok (.aload_n 0, 1) := by decide +kernel
theorem dX3_told_31 : decode cX3_told 31 = .ok (.getfield 31, 3) := by decide +kernel
theorem dX3_told_34 : decode cX3_told 34 = .ok (.getfield 112, 3) := by decide +kernel
theorem dX3_told_37 : decode cX3_told 37 = .ok (.ifCond .ne 6, 3) := by decide +kernel
theorem dX3_told_40 : decode cX3_told 40 = .ok (.bipush (-3), 2) := by decide +kernel
theorem dX3_told_42 : decode cX3_told 42 = .ok (.ireturn, 1) := by decide +kernel
theorem dX3_told_43 : decode cX3_told 43 = .ok (.aload 5, 2) := by decide +kernel
theorem dX3_told_45 : decode cX3_told 45 = .ok (.iload_n 2, 1) := by decide +kernel
theorem dX3_told_46 : decode cX3_told 46 = .ok (.iload_n 3, 1) := by decide +kernel
theorem dX3_told_47 : decode cX3_told 47 = .ok (.iload 4, 2) := by decide +kernel
theorem dX3_told_49 : decode cX3_told 49 = .ok (.invokevirtual 54, 3) := by decide +kernel
theorem dX3_told_52 : decode cX3_told 52 = .ok (.istore 6, 2) := by decide +kernel
theorem dX3_told_54 : decode cX3_told 54 = .ok (.iload 6, 2) := by decide +kernel
theorem dX3_told_56 : decode cX3_told 56 = .ok (.ifCond .eq 10, 3) := by decide +kernel
theorem dX3_told_59 : decode cX3_told 59 = .ok (.aload_n 0, 1) := by decide +kernel
theorem dX3_told_60 : decode cX3_told 60 = .ok (.iload 6, 2) := by decide +kernel
theorem dX3_told_62 : decode cX3_told 62 = .ok (.invokevirtual 58, 3) := by decide +kernel
theorem dX3_told_65 : decode cX3_told 65 = .ok (.ireturn, 1) := by decide +kernel
theorem dX3_told_66 : decode cX3_told 66 = .ok (.iload 4, 2) := by decide +kernel
theorem dX3_told_68 : decode cX3_told 68 = .ok (.aload_n 0, 1) := by decide +kernel
theorem dX3_told_69 : decode cX3_told 69 = .ok (.getfield 31, 3) := by decide +kernel
theorem dX3_told_72 : decode cX3_told 72 = .ok (.getfield 134, 3) := by decide +kernel
theorem dX3_told_75 : decode cX3_told 75 = .ok (.if_icmp .eq 6, 3) := by decide +kernel
theorem dX3_told_78 : decode cX3_told 78 = .ok (.bipush (-2), 2) := by decide +kernel
theorem dX3_told_80 : decode cX3_told 80 = .ok (.ireturn, 1) := by decide +kernel
theorem dX3_told_81 : decode cX3_told 81 = .ok (.iconst 0, 1) := by decide +kernel
theorem dX3_told_82 : decode cX3_told 82 = .ok (.istore 7, 2) := by decide +kernel
theorem dX3_told_84 : decode cX3_told 84 = .ok (.iconst 0, 1) := by decide +kernel
theorem dX3_told_85 : decode cX3_told 85 = .ok (.istore 8, 2) := by decide +kernel
theorem dX3_told_87 : decode cX3_told 87 = .ok (.iload 8, 2) := by decide +kernel
theorem dX3_told_89 : decode cX3_told 89 = .ok (.iload 4, 2) := by decide +kernel
theorem dX3_told_91 : decode cX3_told 91 = .ok (.if_icmp .ge 50, 3) := by decide +kernel
theorem dX3_told_94 : decode cX3_told 94 = .ok (.aload 5, 2) := by decide +kernel
theorem dX3_told_96 : decode cX3_told 96 = .ok (.getfield 137, 3) := by decide +kernel
theorem dX3_told_99 : decode cX3_told 99 = .ok (.iload_n 3, 1) := by decide +kernel
theorem dX3_told_100 : decode cX3_told 100 = .ok (.iload 8, 2) := by decide +kernel
theorem dX3_told_102 : decode cX3_told 102 = .ok (.iadd, 1) := by decide +kernel
theorem dX3_told_103 : decode cX3_told 103 = .ok (.invokestatic 83, 3) := by decide +kernel
theorem dX3_told_106 : decode cX3_told 106 = .ok (.istore 9, 2) := by decide +kernel
theorem dX3_told_108 : decode cX3_told 108 = .ok (.iload 9, 2) := by decide +kernel
theorem dX3_told_110 : decode cX3_told 110 = .ok (.iconst 3, 1) := by decide +kernel
theorem dX3_told_111 : decode cX3_told 111 = .ok (.invokestatic 50, 3) := by decide +kernel
theorem dX3_told_114 : decode cX3_told 114 = .ok (.ifCond .ne 6, 3) := by decide +kernel
theorem dX3_told_117 : decode cX3_told 117 = .ok (.bipush (-2), 2) := by decide +kernel
theorem dX3_told_119 : decode cX3_told 119 = .ok (.ireturn, 1) := by decide +kernel
theorem dX3_told_120 : decode cX3_told 120 = .ok (.aload_n 0, 1) := by decide +kernel
theorem dX3_told_121 : decode cX3_told 121 = .ok (.getfield 31, 3) := by decide +kernel
theorem dX3_told_124 : decode cX3_told 124 = .ok (.iload 7, 2) := by decide +kernel
theorem dX3_told_126 : decode cX3_told 126 = .ok (.iload 8, 2) := by decide +kernel
theorem dX3_told_128 : decode cX3_told 128 = .ok (.iload 9, 2) := by decide +kernel
theorem dX3_told_130 : decode cX3_told 130 = .ok (.invokevirtual 119, 3) := by decide +kernel
theorem dX3_told_133 : decode cX3_told 133 = .ok (.istore 7, 2) := by decide +kernel
theorem dX3_told_135 : decode cX3_told 135 = .ok (.iinc 8 1, 3) := by decide +kernel
theorem dX3_told_138 : decode cX3_told 138 = .ok (.goto (-51), 3) := by decide +kernel
theorem dX3_told_141 : decode cX3_told 141 = .ok (.aload_n 0, 1) := by decide +kernel
theorem dX3_told_142 : decode cX3_told 142 = .ok (.getfield 31, 3) := by decide +kernel
theorem dX3_told_145 : decode cX3_told 145 = .ok (.iload 7, 2) := by decide +kernel
theorem dX3_told_147 : decode cX3_told 147 = .ok (.invokevirtual 131, 3) := by decide +kernel
theorem dX3_told_150 : decode cX3_told 150 = .ok (.ireturn, 1) := by decide +kernel
set_option maxRecDepth 20000 in
theorem ggX3_vote_X2_hasWard : GoodIn wsX3_vote wsX2_hasWard := goodIn_r _ [7, 8, 65, 66, 67, 68, 69, 70, 71, 72, 73, 74, 75, 76, 77, 78, 79, 80, 81, 82] (by decide +kernel) (by decide +kernel)
set_option maxRecDepth 20000 in
theorem gX3_vote_X2_hasWard : GoodIn wsX3_vote (wsV RX3 76 RX2 yX2_hasWard wsX2_hasWard) := goodIn_app (goodIn_of _ (by decide +kernel)) ggX3_vote_X2_hasWard
set_option maxRecDepth 20000 in
theorem ggX3_vote_X2_hasWork : GoodIn wsX3_vote wsX2_hasWork := goodIn_r _ [12, 13, 65, 66, 67, 68, 69, 70, 71, 72, 73, 74, 75, 76, 77, 78, 79, 80, 81, 82] (by decide +kernel) (by decide +kernel)
set_option maxRecDepth 20000 in
theorem gX3_vote_X2_hasWork : GoodIn wsX3_vote (wsV RX3 96 RX2 yX2_hasWork wsX2_hasWork) := goodIn_app (goodIn_of _ (by decide +kernel)) ggX3_vote_X2_hasWork
set_option maxRecDepth 20000 in
theorem ggX3_vote_X2_voteBy : GoodIn wsX3_vote wsX2_voteBy := goodIn_r _ [17, 18, 19, 20, 21, 6, 22, 13, 23, 24, 25, 26, 27, 28, 29, 30, 31, 32, 33, 34, 35, 36, 37, 38, 39, 40, 41, 42, 43, 44, 45, 46, 47, 48, 49, 50, 51, 52, 53, 54, 55, 56, 57, 65, 66, 67, 68, 69, 70, 71, 72, 73, 74, 75, 76, 77, 78, 79, 80, 81, 82] (by decide +kernel) (by decide +kernel)
set_option maxRecDepth 20000 in
theorem gX3_vote_X2_voteBy : GoodIn wsX3_vote (wsV RX3 140 RX2 yX2_voteBy wsX2_voteBy) := goodIn_app (goodIn_of _ (by decide +kernel)) ggX3_vote_X2_voteBy
theorem dX3_vote_0 : decode cX3_vote 0 = .ok (.aload_n 0, 1) := by decide +kernel
theorem dX3_vote_1 : decode cX3_vote 1 = .ok (.getfield 31, 3) := by decide +kernel
theorem dX3_vote_4 : decode cX3_vote 4 = .ok (.iload_n 1, 1) := by decide +kernel
theorem dX3_vote_5 : decode cX3_vote 5 = .ok (.invokevirtual 76, 3) := by decide +kernel
theorem dX3_vote_8 : decode cX3_vote 8 = .ok (.ifCond .eq 18, 3) := by decide +kernel
theorem dX3_vote_11 : decode cX3_vote 11 = .ok (.aload_n 0, 1) := by decide +kernel
theorem dX3_vote_12 : decode cX3_vote 12 = .ok (.getfield 31, 3) := by decide +kernel
theorem dX3_vote_15 : decode cX3_vote 15 = .ok (.iload_n 2, 1) := by decide +kernel
theorem dX3_vote_16 : decode cX3_vote 16 = .ok (.invokevirtual 96, 3) := by decide +kernel
theorem dX3_vote_19 : decode cX3_vote 19 = .ok (.ifCond .eq 7, 3) := by decide +kernel
theorem dX3_vote_22 : decode cX3_vote 22 = .ok (.iconst 1, 1) := by decide +kernel
theorem dX3_vote_23 : decode cX3_vote 23 = .ok (.goto 4, 3) := by decide +kernel
theorem dX3_vote_26 : decode cX3_vote 26 = .ok (.iconst 0, 1) := by decide +kernel
theorem dX3_vote_27 : decode cX3_vote 27 = .ok (.istore_n 3, 1) := by decide +kernel
theorem dX3_vote_28 : decode cX3_vote 28 = .ok (.iload_n 3, 1) := by decide +kernel
theorem dX3_vote_29 : decode cX3_vote 29 = .ok (.ifCond .eq 22, 3) := by decide +kernel
theorem dX3_vote_32 : decode cX3_vote 32 = .ok (.aload_n 0, 1) := by decide +kernel
theorem dX3_vote_33 : decode cX3_vote 33 = .ok (.getfield 31, 3) := by decide +kernel
theorem dX3_vote_36 : decode cX3_vote 36 = .ok (.aload_n 0, 1) := by decide +kernel
theorem dX3_vote_37 : decode cX3_vote 37 = .ok (.getfield 31, 3) := by decide +kernel
theorem dX3_vote_40 : decode cX3_vote 40 = .ok (.getfield 105, 3) := by decide +kernel
theorem dX3_vote_43 : decode cX3_vote 43 = .ok (.iload_n 1, 1) := by decide +kernel
theorem dX3_vote_44 : decode cX3_vote 44 = .ok (.iload_n 2, 1) := by decide +kernel
theorem dX3_vote_45 : decode cX3_vote 45 = .ok (.invokevirtual 140, 3) := by decide +kernel
theorem dX3_vote_48 : decode cX3_vote 48 = .ok (.goto 4, 3) := by decide +kernel
theorem dX3_vote_51 : decode cX3_vote 51 = .ok (.iconst (-1), 1) := by decide +kernel
theorem dX3_vote_52 : decode cX3_vote 52 = .ok (.ireturn, 1) := by decide +kernel
set_option maxRecDepth 20000 in
theorem ggX3_ballot_X2_hasWork : GoodIn wsX3_ballot wsX2_hasWork := goodIn_r _ [7, 8, 76, 77, 78, 79, 80, 81, 82, 83, 84, 85, 86, 87, 88, 89, 90, 91, 92, 93] (by decide +kernel) (by decide +kernel)
set_option maxRecDepth 20000 in
theorem gX3_ballot_X2_hasWork : GoodIn wsX3_ballot (wsV RX3 96 RX2 yX2_hasWork wsX2_hasWork) := goodIn_app (goodIn_of _ (by decide +kernel)) ggX3_ballot_X2_hasWork
set_option maxRecDepth 20000 in
theorem ggX3_ballot_X2_ballotBy : GoodIn wsX3_ballot wsX2_ballotBy := goodIn_r _ [12, 13, 14, 15, 6, 16, 17, 18, 19, 20, 21, 22, 23, 24, 25, 26, 27, 8, 28, 29, 30, 31, 32, 33, 34, 35, 36, 37, 38, 39, 40, 41, 42, 43, 44, 45, 46, 47, 48, 49, 50, 51, 52, 53, 54, 55, 56, 57, 58, 59, 60, 61, 62, 63, 64, 65, 66, 67, 68, 76, 77, 78, 79, 80, 81, 82, 83, 84, 85, 86, 87, 88, 89, 90, 91, 92, 93] (by decide +kernel) (by decide +kernel)
set_option maxRecDepth 20000 in
theorem gX3_ballot_X2_ballotBy : GoodIn wsX3_ballot (wsV RX3 143 RX2 yX2_ballotBy wsX2_ballotBy) := goodIn_app (goodIn_of _ (by decide +kernel)) ggX3_ballot_X2_ballotBy
theorem dX3_ballot_0 : decode cX3_ballot 0 = .ok (.aload_n 0, 1) := by decide +kernel
theorem dX3_ballot_1 : decode cX3_ballot 1 = .ok (.getfield 31, 3) := by decide +kernel
theorem dX3_ballot_4 : decode cX3_ballot 4 = .ok (.iload_n 1, 1) := by decide +kernel
theorem dX3_ballot_5 : decode cX3_ballot 5 = .ok (.invokevirtual 96, 3) := by decide +kernel
theorem dX3_ballot_8 : decode cX3_ballot 8 = .ok (.ifCond .eq 21, 3) := by decide +kernel
theorem dX3_ballot_11 : decode cX3_ballot 11 = .ok (.aload_n 0, 1) := by decide +kernel
theorem dX3_ballot_12 : decode cX3_ballot 12 = .ok (.getfield 31, 3) := by decide +kernel
theorem dX3_ballot_15 : decode cX3_ballot 15 = .ok (.aload_n 0, 1) := by decide +kernel
theorem dX3_ballot_16 : decode cX3_ballot 16 = .ok (.getfield 31, 3) := by decide +kernel
theorem dX3_ballot_19 : decode cX3_ballot 19 = .ok (.getfield 105, 3) := by decide +kernel
theorem dX3_ballot_22 : decode cX3_ballot 22 = .ok (.iload_n 1, 1) := by decide +kernel
theorem dX3_ballot_23 : decode cX3_ballot 23 = .ok (.invokevirtual 143, 3) := by decide +kernel
theorem dX3_ballot_26 : decode cX3_ballot 26 = .ok (.goto 4, 3) := by decide +kernel
theorem dX3_ballot_29 : decode cX3_ballot 29 = .ok (.iconst (-1), 1) := by decide +kernel
theorem dX3_ballot_30 : decode cX3_ballot 30 = .ok (.ireturn, 1) := by decide +kernel
set_option maxRecDepth 20000 in
theorem ggX3_year_X2_yearAfter : GoodIn wsX3_year wsX2_yearAfter := goodIn_r _ [9, 10, 11, 12, 13, 8, 14, 15, 16, 17, 18, 19, 20, 21, 22, 23, 24, 25, 26, 27, 28, 29, 30, 31, 32, 33, 34, 35, 36, 37, 38, 39, 40, 41, 42, 43, 44, 45, 46, 47, 48, 49, 50, 51, 52, 53, 54, 55, 56, 57, 58, 59, 60, 61, 62, 63, 64, 65, 66, 75, 76, 77, 78, 79, 80, 81, 82, 83, 84, 85, 86, 87, 88, 89, 90, 91, 92] (by decide +kernel) (by decide +kernel)
set_option maxRecDepth 20000 in
theorem gX3_year_X2_yearAfter : GoodIn wsX3_year (wsV RX3 146 RX2 yX2_yearAfter wsX2_yearAfter) := goodIn_app (goodIn_of _ (by decide +kernel)) ggX3_year_X2_yearAfter
set_option maxRecDepth 20000 in
theorem ggX3_year_X2_vaneIn : GoodIn wsX3_year wsX2_vaneIn := goodIn_r _ [57, 10, 75, 76, 77, 78, 79, 80, 81, 82, 83, 84, 85, 86, 87, 88, 89, 90, 91, 92] (by decide +kernel) (by decide +kernel)
set_option maxRecDepth 20000 in
theorem gX3_year_X2_vaneIn : GoodIn wsX3_year (wsV RX3 108 RX2 yX2_vaneIn wsX2_vaneIn) := goodIn_app (goodIn_of _ (by decide +kernel)) ggX3_year_X2_vaneIn
theorem dX3_year_0 : decode cX3_year 0 = .ok (.aload_n 0, 1) := by decide +kernel
theorem dX3_year_1 : decode cX3_year 1 = .ok (.getfield 31, 3) := by decide +kernel
theorem dX3_year_4 : decode cX3_year 4 = .ok (.getfield 112, 3) := by decide +kernel
theorem dX3_year_7 : decode cX3_year 7 = .ok (.ifCond .ne 6, 3) := by decide +kernel
theorem dX3_year_10 : decode cX3_year 10 = .ok (.bipush (-3), 2) := by decide +kernel
theorem dX3_year_12 : decode cX3_year 12 = .ok (.ireturn, 1) := by decide +kernel
theorem dX3_year_13 : decode cX3_year 13 = .ok (.aload_n 0, 1) := by decide +kernel
theorem dX3_year_14 : decode cX3_year 14 = .ok (.getfield 31, 3) := by decide +kernel
theorem dX3_year_17 : decode cX3_year 17 = .ok (.getfield 105, 3) := by decide +kernel
theorem dX3_year_20 : decode cX3_year 20 = .ok (.istore_n 1, 1) := by decide +kernel
theorem dX3_year_21 : decode cX3_year 21 = .ok (.aload_n 0, 1) := by decide +kernel
theorem dX3_year_22 : decode cX3_year 22 = .ok (.getfield 31, 3) := by decide +kernel
theorem dX3_year_25 : decode cX3_year 25 = .ok (.aload_n 0, 1) := by decide +kernel
theorem dX3_year_26 : decode cX3_year 26 = .ok (.getfield 31, 3) := by decide +kernel
theorem dX3_year_29 : decode cX3_year 29 = .ok (.iload_n 1, 1) := by decide +kernel
theorem dX3_year_30 : decode cX3_year 30 = .ok (.invokevirtual 146, 3) := by decide +kernel
theorem dX3_year_33 : decode cX3_year 33 = .ok (.putfield 105, 3) := by decide +kernel
theorem dX3_year_36 : decode cX3_year 36 = .ok (.iconst 0, 1) := by decide +kernel
theorem dX3_year_37 : decode cX3_year 37 = .ok (.istore_n 2, 1) := by decide +kernel
theorem dX3_year_38 : decode cX3_year 38 = .ok (.iconst 0, 1) := by decide +kernel
theorem dX3_year_39 : decode cX3_year 39 = .ok (.istore_n 3, 1) := by decide +kernel
theorem dX3_year_40 : decode cX3_year 40 = .ok (.iload_n 3, 1) := by decide +kernel
theorem dX3_year_41 : decode cX3_year 41 = .ok (.aload_n 0, 1) := by decide +kernel
theorem dX3_year_42 : decode cX3_year 42 = .ok (.getfield 31, 3) := by decide +kernel
theorem dX3_year_45 : decode cX3_year 45 = .ok (.getfield 134, 3) := by decide +kernel
theorem dX3_year_48 : decode cX3_year 48 = .ok (.if_icmp .ge 39, 3) := by decide +kernel
theorem dX3_year_51 : decode cX3_year 51 = .ok (.aload_n 0, 1) := by decide +kernel
theorem dX3_year_52 : decode cX3_year 52 = .ok (.getfield 31, 3) := by decide +kernel
theorem dX3_year_55 : decode cX3_year 55 = .ok (.iload_n 1, 1) := by decide +kernel
theorem dX3_year_56 : decode cX3_year 56 = .ok (.iload_n 3, 1) := by decide +kernel
theorem dX3_year_57 : decode cX3_year 57 = .ok (.invokevirtual 108, 3) := by decide +kernel
theorem dX3_year_60 : decode cX3_year 60 = .ok (.aload_n 0, 1) := by decide +kernel
theorem dX3_year_61 : decode cX3_year 61 = .ok (.getfield 31, 3) := by decide +kernel
theorem dX3_year_64 : decode cX3_year 64 = .ok (.aload_n 0, 1) := by decide +kernel
theorem dX3_year_65 : decode cX3_year 65 = .ok (.getfield 31, 3) := by decide +kernel
theorem dX3_year_68 : decode cX3_year 68 = .ok (.getfield 105, 3) := by decide +kernel
theorem dX3_year_71 : decode cX3_year 71 = .ok (.iload_n 3, 1) := by decide +kernel
theorem dX3_year_72 : decode cX3_year 72 = .ok (.invokevirtual 108, 3) := by decide +kernel
theorem dX3_year_75 : decode cX3_year 75 = .ok (.if_icmp .eq 6, 3) := by decide +kernel
theorem dX3_year_78 : decode cX3_year 78 = .ok (.iinc 2 1, 3) := by decide +kernel
theorem dX3_year_81 : decode cX3_year 81 = .ok (.iinc 3 1, 3) := by decide +kernel
theorem dX3_year_84 : decode cX3_year 84 = .ok (.goto (-44), 3) := by decide +kernel
theorem dX3_year_87 : decode cX3_year 87 = .ok (.iload_n 2, 1) := by decide +kernel
theorem dX3_year_88 : decode cX3_year 88 = .ok (.ireturn, 1) := by decide +kernel
set_option maxRecDepth 20000 in
theorem ggX3_round_X3_isUpTo : GoodIn wsX3_round wsX3_isUpTo := goodIn_r _ [8] (by decide +kernel) (by decide +kernel)
set_option maxRecDepth 20000 in
theorem gX3_round_X3_isUpTo : GoodIn wsX3_round (va_wsS RX3 50 yX3_isUpTo wsX3_isUpTo) := goodIn_app (goodIn_of _ (by decide +kernel)) ggX3_round_X3_isUpTo
set_option maxRecDepth 20000 in
theorem ggX3_round_J7_fill_53178 : GoodIn wsX3_round wsJ7_fill_53178 := goodIn_r _ [12] (by decide +kernel) (by decide +kernel)
set_option maxRecDepth 20000 in
theorem gX3_round_J7_fill_53178 : GoodIn wsX3_round (va_wsS RX3 149 yJ7_fill_53178 wsJ7_fill_53178) := goodIn_app (goodIn_of _ (by decide +kernel)) ggX3_round_J7_fill_53178
set_option maxRecDepth 20000 in
theorem ggX3_round_X3_read : GoodIn wsX3_round wsX3_read := goodIn_r _ [15] (by decide +kernel) (by decide +kernel)
set_option maxRecDepth 20000 in
theorem gX3_round_X3_read : GoodIn wsX3_round (va_wsS RX3 83 yX3_read wsX3_read) := goodIn_app (goodIn_of _ (by decide +kernel)) ggX3_round_X3_read
set_option maxRecDepth 20000 in
theorem ggX3_round_X3_write : GoodIn wsX3_round wsX3_write := goodIn_r _ [18] (by decide +kernel) (by decide +kernel)
set_option maxRecDepth 20000 in
theorem gX3_round_X3_write : GoodIn wsX3_round (va_wsS RX3 155 yX3_write wsX3_write) := goodIn_app (goodIn_of _ (by decide +kernel)) ggX3_round_X3_write
set_option maxRecDepth 20000 in
theorem ggX3_round_X2_yearAfter : GoodIn wsX3_round wsX2_yearAfter := goodIn_r _ [23, 24, 25, 26, 27, 22, 28, 29, 30, 31, 32, 33, 34, 35, 36, 37, 38, 39, 40, 41, 42, 43, 44, 45, 46, 47, 48, 49, 50, 14, 7, 15, 51, 52, 53, 54, 55, 56, 57, 58, 59, 60, 61, 62, 63, 64, 65, 66, 67, 68, 69, 70, 71, 17, 18, 72, 73, 74, 75, 83, 84, 85, 86, 87, 88, 89, 90, 91, 92, 93, 94, 95, 96, 97, 98, 99, 100] (by decide +kernel) (by decide +kernel)
set_option maxRecDepth 20000 in
theorem gX3_round_X2_yearAfter : GoodIn wsX3_round (wsV RX3 146 RX2 yX2_yearAfter wsX2_yearAfter) := goodIn_app (goodIn_of _ (by decide +kernel)) ggX3_round_X2_yearAfter
theorem dX3_round_0 : decode cX3_round 0 = .ok (.iload_n 1, 1) := by decide +kernel
theorem dX3_round_1 : decode cX3_round 1 = .ok (.iconst 1, 1) := by decide +kernel
theorem dX3_round_2 : decode cX3_round 2 = .ok (.invokestatic 50, 3) := by decide +kernel
theorem dX3_round_5 : decode cX3_round 5 = .ok (.ifCond .ne 6, 3) := by decide +kernel
theorem dX3_round_8 : decode cX3_round 8 = .ok (.bipush (-2), 2) := by decide +kernel
theorem dX3_round_10 : decode cX3_round 10 = .ok (.ireturn, 1) := by decide +kernel
theorem dX3_round_11 : decode cX3_round 11 = .ok (.aload_n 0, 1) := by decide +kernel
theorem dX3_round_12 : decode cX3_round 12 = .ok (.getfield 31, 3) := by decide +kernel
theorem dX3_round_15 : decode cX3_round 15 = .ok (.getfield 112, 3) := by decide +kernel
theorem dX3_round_18 : decode cX3_round 18 = .ok (.ifCond .ne 6, 3) := by decide +kernel
theorem dX3_round_21 : decode cX3_round 21 = .ok (.bipush (-3), 2) := by decide +kernel
theorem dX3_round_23 : decode cX3_round 23 = .ok (.ireturn, 1) := by decide +kernel
theorem dX3_round_24 : decode cX3_round 24 = .ok (.aload_n 0, 1) := by decide +kernel
theorem dX3_round_25 : decode cX3_round 25 = .ok (.getfield 24, 3) := by decide +kernel
theorem dX3_round_28 : decode cX3_round 28 = .ok (.iconst (-1), 1) := by decide +kernel
theorem dX3_round_29 : decode cX3_round 29 = .ok (.invokestatic 149, 3) := by decide +kernel
theorem dX3_round_32 : decode cX3_round 32 = .ok (.aload_n 0, 1) := by decide +kernel
theorem dX3_round_33 : decode cX3_round 33 = .ok (.getfield 31, 3) := by decide +kernel
theorem dX3_round_36 : decode cX3_round 36 = .ok (.getfield 105, 3) := by decide +kernel
theorem dX3_round_39 : decode cX3_round 39 = .ok (.istore_n 2, 1) := by decide +kernel
theorem dX3_round_40 : decode cX3_round 40 = .ok (.iconst 0, 1) := by decide +kernel
theorem dX3_round_41 : decode cX3_round 41 = .ok (.istore_n 3, 1) := by decide +kernel
theorem dX3_round_42 : decode cX3_round 42 = .ok (.iload_n 3, 1) := by decide +kernel
theorem dX3_round_43 : decode cX3_round 43 = .ok (.sipush 256, 3) := by decide +kernel
theorem dX3_round_46 : decode cX3_round 46 = .ok (.if_icmp .gt 39, 3) := by decide +kernel
theorem dX3_round_49 : decode cX3_round 49 = .ok (.aload_n 0, 1) := by decide +kernel
theorem dX3_round_50 : decode cX3_round 50 = .ok (.getfield 24, 3) := by decide +kernel
theorem dX3_round_53 : decode cX3_round 53 = .ok (.iload_n 2, 1) := by decide +kernel
theorem dX3_round_54 : decode cX3_round 54 = .ok (.invokestatic 83, 3) := by decide +kernel
theorem dX3_round_57 : decode cX3_round 57 = .ok (.iconst (-1), 1) := by decide +kernel
theorem dX3_round_58 : decode cX3_round 58 = .ok (.if_icmp .ne 27, 3) := by decide +kernel
theorem dX3_round_61 : decode cX3_round 61 = .ok (.aload_n 0, 1) := by decide +kernel
theorem dX3_round_62 : decode cX3_round 62 = .ok (.getfield 24, 3) := by decide +kernel
theorem dX3_round_65 : decode cX3_round 65 = .ok (.iload_n 2, 1) := by decide +kernel
theorem dX3_round_66 : decode cX3_round 66 = .ok (.iload_n 3, 1) := by decide +kernel
theorem dX3_round_67 : decode cX3_round 67 = .ok (.invokestatic 155, 3) := by decide +kernel
theorem dX3_round_70 : decode cX3_round 70 = .ok (.aload_n 0, 1) := by decide +kernel
theorem dX3_round_71 : decode cX3_round 71 = .ok (.getfield 31, 3) := by decide +kernel
theorem dX3_round_74 : decode cX3_round 74 = .ok (.iload_n 2, 1) := by decide +kernel
theorem dX3_round_75 : decode cX3_round 75 = .ok (.invokevirtual 146, 3) := by decide +kernel
theorem dX3_round_78 : decode cX3_round 78 = .ok (.istore_n 2, 1) := by decide +kernel
theorem dX3_round_79 : decode cX3_round 79 = .ok (.iinc 3 1, 3) := by decide +kernel
theorem dX3_round_82 : decode cX3_round 82 = .ok (.goto (-40), 3) := by decide +kernel
theorem dX3_round_85 : decode cX3_round 85 = .ok (.aload_n 0, 1) := by decide +kernel
theorem dX3_round_86 : decode cX3_round 86 = .ok (.getfield 24, 3) := by decide +kernel
theorem dX3_round_89 : decode cX3_round 89 = .ok (.iload_n 2, 1) := by decide +kernel
theorem dX3_round_90 : decode cX3_round 90 = .ok (.invokestatic 83, 3) := by decide +kernel
theorem dX3_round_93 : decode cX3_round 93 = .ok (.istore 4, 2) := by decide +kernel
theorem dX3_round_95 : decode cX3_round 95 = .ok (.iload_n 1, 1) := by decide +kernel
theorem dX3_round_96 : decode cX3_round 96 = .ok (.ifCond .ne 8, 3) := by decide +kernel
theorem dX3_round_99 : decode cX3_round 99 = .ok (.iload 4, 2) := by decide +kernel
theorem dX3_round_101 : decode cX3_round 101 = .ok (.goto 7, 3) := by decide +kernel
theorem dX3_round_104 : decode cX3_round 104 = .ok (.iload_n 3, 1) := by decide +kernel
theorem dX3_round_105 : decode cX3_round 105 = .ok (.iload 4, 2) := by decide +kernel
theorem dX3_round_107 : decode cX3_round 107 = .ok (.isub, 1) := by decide +kernel
theorem dX3_round_108 : decode cX3_round 108 = .ok (.ireturn, 1) := by decide +kernel
set_option maxRecDepth 20000 in
theorem ggX3_best_X3_leastBy : GoodIn wsX3_best wsX3_leastBy := goodIn_r _ [5, 6, 7, 8, 9, 10, 11, 12, 13, 14, 15, 16, 17, 18, 19, 20, 21, 22, 23, 24, 25, 26, 27, 28, 29, 30, 31, 32, 33, 34, 35, 36, 37, 38, 39, 4, 40, 41, 42, 43, 44, 45, 46, 47, 48, 49, 50, 51, 52, 53, 54, 55, 56, 57, 58, 59, 60, 61, 62, 63, 64, 65, 66, 67, 68, 69, 70, 71, 72, 73, 74, 75, 76, 77, 78, 79, 80, 81, 82, 83, 84, 85, 86, 87, 88, 89, 90, 91, 92, 93, 94, 95, 96, 97] (by decide +kernel) (by decide +kernel)
set_option maxRecDepth 20000 in
theorem gX3_best_X3_leastBy : GoodIn wsX3_best (wsV RX3 159 RX3 yX3_leastBy wsX3_leastBy) := goodIn_app (goodIn_of _ (by decide +kernel)) ggX3_best_X3_leastBy
theorem dX3_best_0 : decode cX3_best 0 = .ok (.aload_n 0, 1) := by decide +kernel
theorem dX3_best_1 : decode cX3_best 1 = .ok (.iload_n 1, 1) := by decide +kernel
theorem dX3_best_2 : decode cX3_best 2 = .ok (.iconst 0, 1) := by decide +kernel
theorem dX3_best_3 : decode cX3_best 3 = .ok (.invokevirtual 159, 3) := by decide +kernel
theorem dX3_best_6 : decode cX3_best 6 = .ok (.ireturn, 1) := by decide +kernel
set_option maxRecDepth 20000 in
theorem ggX3_calm_X3_leastBy : GoodIn wsX3_calm wsX3_leastBy := goodIn_r _ [5, 6, 7, 8, 9, 10, 11, 12, 13, 14, 15, 16, 17, 18, 19, 20, 21, 22, 23, 24, 25, 26, 27, 28, 29, 30, 31, 32, 33, 34, 35, 36, 37, 38, 39, 4, 40, 41, 42, 43, 44, 45, 46, 47, 48, 49, 50, 51, 52, 53, 54, 55, 56, 57, 58, 59, 60, 61, 62, 63, 64, 65, 66, 67, 68, 69, 70, 71, 72, 73, 74, 75, 76, 77, 78, 79, 80, 81, 82, 83, 84, 85, 86, 87, 88, 89, 90, 91, 92, 93, 94, 95, 96, 97] (by decide +kernel) (by decide +kernel)
set_option maxRecDepth 20000 in
theorem gX3_calm_X3_leastBy : GoodIn wsX3_calm (wsV RX3 159 RX3 yX3_leastBy wsX3_leastBy) := goodIn_app (goodIn_of _ (by decide +kernel)) ggX3_calm_X3_leastBy
theorem dX3_calm_0 : decode cX3_calm 0 = .ok (.aload_n 0, 1) := by decide +kernel
theorem dX3_calm_1 : decode cX3_calm 1 = .ok (.iload_n 1, 1) := by decide +kernel
theorem dX3_calm_2 : decode cX3_calm 2 = .ok (.iconst 1, 1) := by decide +kernel
theorem dX3_calm_3 : decode cX3_calm 3 = .ok (.invokevirtual 159, 3) := by decide +kernel
theorem dX3_calm_6 : decode cX3_calm 6 = .ok (.ireturn, 1) := by decide +kernel
set_option maxRecDepth 20000 in
theorem ggX3_bribe_X2_hasWork : GoodIn wsX3_bribe wsX2_hasWork := goodIn_r _ [6, 7, 86, 87, 88, 89, 90, 91, 92, 93, 94, 95, 96, 97, 98, 99, 100, 101, 102, 103] (by decide +kernel) (by decide +kernel)
set_option maxRecDepth 20000 in
theorem gX3_bribe_X2_hasWork : GoodIn wsX3_bribe (wsV RX3 96 RX2 yX2_hasWork wsX2_hasWork) := goodIn_app (goodIn_of _ (by decide +kernel)) ggX3_bribe_X2_hasWork
set_option maxRecDepth 20000 in
theorem ggX3_bribe_X3_isUpTo : GoodIn wsX3_bribe wsX3_isUpTo := goodIn_r _ [11] (by decide +kernel) (by decide +kernel)
set_option maxRecDepth 20000 in
theorem gX3_bribe_X3_isUpTo : GoodIn wsX3_bribe (va_wsS RX3 50 yX3_isUpTo wsX3_isUpTo) := goodIn_app (goodIn_of _ (by decide +kernel)) ggX3_bribe_X3_isUpTo
set_option maxRecDepth 20000 in
theorem ggX3_bribe_X2_fewestBribed : GoodIn wsX3_bribe wsX2_fewestBribed := goodIn_r _ [15, 16, 17, 18, 19, 20, 5, 21, 22, 23, 24, 25, 26, 27, 28, 29, 30, 31, 7, 32, 33, 34, 35, 36, 37, 38, 39, 40, 41, 42, 43, 10, 44, 45, 46, 47, 48, 49, 50, 51, 52, 53, 54, 55, 56, 57, 58, 59, 60, 61, 62, 63, 64, 65, 66, 67, 68, 69, 70, 71, 72, 73, 74, 75, 76, 77, 78, 86, 87, 88, 89, 90, 91, 92, 93, 94, 95, 96, 97, 98, 99, 100, 101, 102, 103] (by decide +kernel) (by decide +kernel)
set_option maxRecDepth 20000 in
theorem gX3_bribe_X2_fewestBribed : GoodIn wsX3_bribe (wsV RX3 163 RX2 yX2_fewestBribed wsX2_fewestBribed) := goodIn_app (goodIn_of _ (by decide +kernel)) ggX3_bribe_X2_fewestBribed
theorem dX3_bribe_0 : decode cX3_bribe 0 = .ok (.aload_n 0, 1) := by decide +kernel
theorem dX3_bribe_1 : decode cX3_bribe 1 = .ok (.getfield 31, 3) := by decide +kernel
theorem dX3_bribe_4 : decode cX3_bribe 4 = .ok (.iload_n 1, 1) := by decide +kernel
theorem dX3_bribe_5 : decode cX3_bribe 5 = .ok (.invokevirtual 96, 3) := by decide +kernel
theorem dX3_bribe_8 : decode cX3_bribe 8 = .ok (.ifCond .ne 5, 3) := by decide +kernel
theorem dX3_bribe_11 : decode cX3_bribe 11 = .ok (.iconst (-1), 1) := by decide +kernel
theorem dX3_bribe_12 : decode cX3_bribe 12 = .ok (.ireturn, 1) := by decide +kernel
theorem dX3_bribe_13 : decode cX3_bribe 13 = .ok (.iload_n 2, 1) := by decide +kernel
theorem dX3_bribe_14 : decode cX3_bribe 14 = .ok (.iconst 3, 1) := by decide +kernel
theorem dX3_bribe_15 : decode cX3_bribe 15 = .ok (.invokestatic 50, 3) := by decide +kernel
theorem dX3_bribe_18 : decode cX3_bribe 18 = .ok (.ifCond .eq 15, 3) := by decide +kernel
theorem dX3_bribe_21 : decode cX3_bribe 21 = .ok (.aload_n 0, 1) := by decide +kernel
theorem dX3_bribe_22 : decode cX3_bribe 22 = .ok (.getfield 31, 3) := by decide +kernel
theorem dX3_bribe_25 : decode cX3_bribe 25 = .ok (.iload_n 1, 1) := by decide +kernel
theorem dX3_bribe_26 : decode cX3_bribe 26 = .ok (.iload_n 2, 1) := by decide +kernel
theorem dX3_bribe_27 : decode cX3_bribe 27 = .ok (.invokevirtual 163, 3) := by decide +kernel
theorem dX3_bribe_30 : decode cX3_bribe 30 = .ok (.goto 5, 3) := by decide +kernel
theorem dX3_bribe_33 : decode cX3_bribe 33 = .ok (.bipush (-2), 2) := by decide +kernel
theorem dX3_bribe_35 : decode cX3_bribe 35 = .ok (.ireturn, 1) := by decide +kernel
set_option maxRecDepth 20000 in
theorem ggX3_reading_X2_hasCell : GoodIn wsX3_reading wsX2_hasCell := goodIn_r _ [9, 10, 25, 26, 27, 28, 29, 30, 31, 32, 33, 34, 35, 36, 37, 38, 39, 40, 41, 42] (by decide +kernel) (by decide +kernel)
set_option maxRecDepth 20000 in
theorem gX3_reading_X2_hasCell : GoodIn wsX3_reading (wsV RX3 122 RX2 yX2_hasCell wsX2_hasCell) := goodIn_app (goodIn_of _ (by decide +kernel)) ggX3_reading_X2_hasCell
set_option maxRecDepth 20000 in
theorem ggX3_reading_X3_isUpTo : GoodIn wsX3_reading wsX3_isUpTo := goodIn_r _ [14] (by decide +kernel) (by decide +kernel)
set_option maxRecDepth 20000 in
theorem gX3_reading_X3_isUpTo : GoodIn wsX3_reading (va_wsS RX3 50 yX3_isUpTo wsX3_isUpTo) := goodIn_app (goodIn_of _ (by decide +kernel)) ggX3_reading_X3_isUpTo
set_option maxRecDepth 20000 in
theorem ggX3_reading_X3_write : GoodIn wsX3_reading wsX3_write := goodIn_r _ [17] (by decide +kernel) (by decide +kernel)
set_option maxRecDepth 20000 in
theorem gX3_reading_X3_write : GoodIn wsX3_reading (va_wsS RX3 155 yX3_write wsX3_write) := goodIn_app (goodIn_of _ (by decide +kernel)) ggX3_reading_X3_write
theorem dX3_reading_0 : decode cX3_reading 0 = .ok (.aload_n 0, 1) := by decide +kernel
theorem dX3_reading_1 : decode cX3_reading 1 = .ok (.getfield 31, 3) := by decide +kernel
theorem dX3_reading_4 : decode cX3_reading 4 = .ok (.iload_n 1, 1) := by decide +kernel
theorem dX3_reading_5 : decode cX3_reading 5 = .ok (.invokevirtual 122, 3) := by decide +kernel
theorem dX3_reading_8 : decode cX3_reading 8 = .ok (.ifCond .ne 5, 3) := by decide +kernel
theorem dX3_reading_11 : decode cX3_reading 11 = .ok (.iconst (-1), 1) := by decide +kernel
theorem dX3_reading_12 : decode cX3_reading 12 = .ok (.ireturn, 1) := by decide +kernel
theorem dX3_reading_13 : decode cX3_reading 13 = .ok (.iload_n 2, 1) := by decide +kernel
theorem dX3_reading_14 : decode cX3_reading 14 = .ok (.bipush 99, 2) := by decide +kernel
theorem dX3_reading_16 : decode cX3_reading 16 = .ok (.invokestatic 50, 3) := by decide +kernel
theorem dX3_reading_19 : decode cX3_reading 19 = .ok (.ifCond .ne 6, 3) := by decide +kernel
theorem dX3_reading_22 : decode cX3_reading 22 = .ok (.bipush (-2), 2) := by decide +kernel
theorem dX3_reading_24 : decode cX3_reading 24 = .ok (.ireturn, 1) := by decide +kernel
theorem dX3_reading_25 : decode cX3_reading 25 = .ok (.aload_n 0, 1) := by decide +kernel
theorem dX3_reading_26 : decode cX3_reading 26 = .ok (.getfield 31, 3) := by decide +kernel
theorem dX3_reading_29 : decode cX3_reading 29 = .ok (.getfield 166, 3) := by decide +kernel
theorem dX3_reading_32 : decode cX3_reading 32 = .ok (.bipush 8, 2) := by decide +kernel
theorem dX3_reading_34 : decode cX3_reading 34 = .ok (.if_icmp .lt 6, 3) := by decide +kernel
theorem dX3_reading_37 : decode cX3_reading 37 = .ok (.bipush (-4), 2) := by decide +kernel
theorem dX3_reading_39 : decode cX3_reading 39 = .ok (.ireturn, 1) := by decide +kernel
theorem dX3_reading_40 : decode cX3_reading 40 = .ok (.aload_n 0, 1) := by decide +kernel
theorem dX3_reading_41 : decode cX3_reading 41 = .ok (.getfield 31, 3) := by decide +kernel
theorem dX3_reading_44 : decode cX3_reading 44 = .ok (.getfield 166, 3) := by decide +kernel
theorem dX3_reading_47 : decode cX3_reading 47 = .ok (.istore_n 3, 1) := by decide +kernel
theorem dX3_reading_48 : decode cX3_reading 48 = .ok (.aload_n 0, 1) := by decide +kernel
theorem dX3_reading_49 : decode cX3_reading 49 = .ok (.getfield 31, 3) := by decide +kernel
theorem dX3_reading_52 : decode cX3_reading 52 = .ok (.getfield 169, 3) := by decide +kernel
theorem dX3_reading_55 : decode cX3_reading 55 = .ok (.iload_n 3, 1) := by decide +kernel
theorem dX3_reading_56 : decode cX3_reading 56 = .ok (.iload_n 1, 1) := by decide +kernel
theorem dX3_reading_57 : decode cX3_reading 57 = .ok (.invokestatic 155, 3) := by decide +kernel
theorem dX3_reading_60 : decode cX3_reading 60 = .ok (.aload_n 0, 1) := by decide +kernel
theorem dX3_reading_61 : decode cX3_reading 61 = .ok (.getfield 31, 3) := by decide +kernel
theorem dX3_reading_64 : decode cX3_reading 64 = .ok (.getfield 172, 3) := by decide +kernel
theorem dX3_reading_67 : decode cX3_reading 67 = .ok (.iload_n 3, 1) := by decide +kernel
theorem dX3_reading_68 : decode cX3_reading 68 = .ok (.iload_n 2, 1) := by decide +kernel
theorem dX3_reading_69 : decode cX3_reading 69 = .ok (.invokestatic 155, 3) := by decide +kernel
theorem dX3_reading_72 : decode cX3_reading 72 = .ok (.aload_n 0, 1) := by decide +kernel
theorem dX3_reading_73 : decode cX3_reading 73 = .ok (.getfield 31, 3) := by decide +kernel
theorem dX3_reading_76 : decode cX3_reading 76 = .ok (.iload_n 3, 1) := by decide +kernel
theorem dX3_reading_77 : decode cX3_reading 77 = .ok (.iconst 1, 1) := by decide +kernel
theorem dX3_reading_78 : decode cX3_reading 78 = .ok (.iadd, 1) := by decide +kernel
theorem dX3_reading_79 : decode cX3_reading 79 = .ok (.putfield 166, 3) := by decide +kernel
theorem dX3_reading_82 : decode cX3_reading 82 = .ok (.iload_n 3, 1) := by decide +kernel
theorem dX3_reading_83 : decode cX3_reading 83 = .ok (.ireturn, 1) := by decide +kernel
set_option maxRecDepth 20000 in
theorem ggX3_back_X3_isUpTo : GoodIn wsX3_back wsX3_isUpTo := goodIn_r _ [6] (by decide +kernel) (by decide +kernel)
set_option maxRecDepth 20000 in
theorem gX3_back_X3_isUpTo : GoodIn wsX3_back (va_wsS RX3 50 yX3_isUpTo wsX3_isUpTo) := goodIn_app (goodIn_of _ (by decide +kernel)) ggX3_back_X3_isUpTo
theorem dX3_back_0 : decode cX3_back 0 = .ok (.iload_n 1, 1) := by decide +kernel
theorem dX3_back_1 : decode cX3_back 1 = .ok (.aload_n 0, 1) := by decide +kernel
theorem dX3_back_2 : decode cX3_back 2 = .ok (.getfield 31, 3) := by decide +kernel
theorem dX3_back_5 : decode cX3_back 5 = .ok (.getfield 166, 3) := by decide +kernel
theorem dX3_back_8 : decode cX3_back 8 = .ok (.invokestatic 50, 3) := by decide +kernel
theorem dX3_back_11 : decode cX3_back 11 = .ok (.ifCond .ne 6, 3) := by decide +kernel
theorem dX3_back_14 : decode cX3_back 14 = .ok (.bipush (-2), 2) := by decide +kernel
theorem dX3_back_16 : decode cX3_back 16 = .ok (.ireturn, 1) := by decide +kernel
theorem dX3_back_17 : decode cX3_back 17 = .ok (.aload_n 0, 1) := by decide +kernel
theorem dX3_back_18 : decode cX3_back 18 = .ok (.getfield 31, 3) := by decide +kernel
theorem dX3_back_21 : decode cX3_back 21 = .ok (.dup, 1) := by decide +kernel
theorem dX3_back_22 : decode cX3_back 22 = .ok (.getfield 166, 3) := by decide +kernel
theorem dX3_back_25 : decode cX3_back 25 = .ok (.iload_n 1, 1) := by decide +kernel
theorem dX3_back_26 : decode cX3_back 26 = .ok (.isub, 1) := by decide +kernel
theorem dX3_back_27 : decode cX3_back 27 = .ok (.putfield 166, 3) := by decide +kernel
theorem dX3_back_30 : decode cX3_back 30 = .ok (.aload_n 0, 1) := by decide +kernel
theorem dX3_back_31 : decode cX3_back 31 = .ok (.getfield 31, 3) := by decide +kernel
theorem dX3_back_34 : decode cX3_back 34 = .ok (.getfield 166, 3) := by decide +kernel
theorem dX3_back_37 : decode cX3_back 37 = .ok (.ireturn, 1) := by decide +kernel
set_option maxRecDepth 20000 in
theorem ggX3_settings_X2_settingsInAll : GoodIn wsX3_settings wsX2_settingsInAll := goodIn_r _ [7, 8, 56, 57, 58, 59, 60, 61, 62, 63, 64, 65, 66, 67, 68, 69, 70, 71, 72, 73] (by decide +kernel) (by decide +kernel)
set_option maxRecDepth 20000 in
theorem gX3_settings_X2_settingsInAll : GoodIn wsX3_settings (wsV RX3 175 RX2 yX2_settingsInAll wsX2_settingsInAll) := goodIn_app (goodIn_of _ (by decide +kernel)) ggX3_settings_X2_settingsInAll
set_option maxRecDepth 20000 in
theorem ggX3_settings_X2_agreesBy : GoodIn wsX3_settings wsX2_agreesBy := goodIn_r _ [12, 13, 14, 15, 16, 17, 18, 19, 20, 21, 6, 22, 8, 23, 24, 25, 26, 27, 28, 29, 30, 31, 32, 33, 34, 35, 36, 37, 38, 39, 56, 57, 58, 59, 60, 61, 62, 63, 64, 65, 66, 67, 68, 69, 70, 71, 72, 73] (by decide +kernel) (by decide +kernel)
set_option maxRecDepth 20000 in
theorem gX3_settings_X2_agreesBy : GoodIn wsX3_settings (wsV RX3 179 RX2 yX2_agreesBy wsX2_agreesBy) := goodIn_app (goodIn_of _ (by decide +kernel)) ggX3_settings_X2_agreesBy
set_option maxRecDepth 20000 in
theorem ggX3_settings_X3_vaneOrNone : GoodIn wsX3_settings wsX3_vaneOrNone := goodIn_r _ [43, 1, 44, 45, 46, 6, 47, 8, 48, 34, 35, 36, 49, 50, 51, 52, 53, 54, 55, 56, 57, 58, 59, 60, 61, 62, 63, 64, 65, 66, 67, 68, 69, 70, 71, 72, 73] (by decide +kernel) (by decide +kernel)
set_option maxRecDepth 20000 in
theorem gX3_settings_X3_vaneOrNone : GoodIn wsX3_settings (wsV RX3 182 RX3 yX3_vaneOrNone wsX3_vaneOrNone) := goodIn_app (goodIn_of _ (by decide +kernel)) ggX3_settings_X3_vaneOrNone
theorem dX3_settings_0 : decode cX3_settings 0 = .ok (.iload_n 1, 1) := by decide +kernel
theorem dX3_settings_1 : decode cX3_settings 1 = .ok (.iconst (-1), 1) := by decide +kernel
theorem dX3_settings_2 : decode cX3_settings 2 = .ok (.if_icmp .ge 5, 3) := by decide +kernel
theorem dX3_settings_5 : decode cX3_settings 5 = .ok (.iconst (-1), 1) := by decide +kernel
theorem dX3_settings_6 : decode cX3_settings 6 = .ok (.ireturn, 1) := by decide +kernel
theorem dX3_settings_7 : decode cX3_settings 7 = .ok (.aload_n 0, 1) := by decide +kernel
theorem dX3_settings_8 : decode cX3_settings 8 = .ok (.getfield 31, 3) := by decide +kernel
theorem dX3_settings_11 : decode cX3_settings 11 = .ok (.getfield 112, 3) := by decide +kernel
theorem dX3_settings_14 : decode cX3_settings 14 = .ok (.ifCond .ne 6, 3) := by decide +kernel
theorem dX3_settings_17 : decode cX3_settings 17 = .ok (.bipush (-3), 2) := by decide +kernel
theorem dX3_settings_19 : decode cX3_settings 19 = .ok (.ireturn, 1) := by decide +kernel
theorem dX3_settings_20 : decode cX3_settings 20 = .ok (.bipush (-9), 2) := by decide +kernel
theorem dX3_settings_22 : decode cX3_settings 22 = .ok (.istore_n 2, 1) := by decide +kernel
theorem dX3_settings_23 : decode cX3_settings 23 = .ok (.iconst 0, 1) := by decide +kernel
theorem dX3_settings_24 : decode cX3_settings 24 = .ok (.istore_n 3, 1) := by decide +kernel
theorem dX3_settings_25 : decode cX3_settings 25 = .ok (.iconst 0, 1) := by decide +kernel
theorem dX3_settings_26 : decode cX3_settings 26 = .ok (.istore 4, 2) := by decide +kernel
theorem dX3_settings_28 : decode cX3_settings 28 = .ok (.iload 4, 2) := by decide +kernel
theorem dX3_settings_30 : decode cX3_settings 30 = .ok (.aload_n 0, 1) := by decide +kernel
theorem dX3_settings_31 : decode cX3_settings 31 = .ok (.getfield 31, 3) := by decide +kernel
theorem dX3_settings_34 : decode cX3_settings 34 = .ok (.invokevirtual 175, 3) := by decide +kernel
theorem dX3_settings_37 : decode cX3_settings 37 = .ok (.if_icmp .ge 35, 3) := by decide +kernel
theorem dX3_settings_40 : decode cX3_settings 40 = .ok (.aload_n 0, 1) := by decide +kernel
theorem dX3_settings_41 : decode cX3_settings 41 = .ok (.getfield 31, 3) := by decide +kernel
theorem dX3_settings_44 : decode cX3_settings 44 = .ok (.iload 4, 2) := by decide +kernel
theorem dX3_settings_46 : decode cX3_settings 46 = .ok (.invokevirtual 179, 3) := by decide +kernel
theorem dX3_settings_49 : decode cX3_settings 49 = .ok (.ifCond .eq 17, 3) := by decide +kernel
theorem dX3_settings_52 : decode cX3_settings 52 = .ok (.iload_n 3, 1) := by decide +kernel
theorem dX3_settings_53 : decode cX3_settings 53 = .ok (.ifCond .ne 8, 3) := by decide +kernel
theorem dX3_settings_56 : decode cX3_settings 56 = .ok (.iload 4, 2) := by decide +kernel
theorem dX3_settings_58 : decode cX3_settings 58 = .ok (.goto 4, 3) := by decide +kernel
theorem dX3_settings_61 : decode cX3_settings 61 = .ok (.iload_n 2, 1) := by decide +kernel
theorem dX3_settings_62 : decode cX3_settings 62 = .ok (.istore_n 2, 1) := by decide +kernel
theorem dX3_settings_63 : decode cX3_settings 63 = .ok (.iinc 3 1, 3) := by decide +kernel
theorem dX3_settings_66 : decode cX3_settings 66 = .ok (.iinc 4 1, 3) := by decide +kernel
theorem dX3_settings_69 : decode cX3_settings 69 = .ok (.goto (-41), 3) := by decide +kernel
theorem dX3_settings_72 : decode cX3_settings 72 = .ok (.iload_n 1, 1) := by decide +kernel
theorem dX3_settings_73 : decode cX3_settings 73 = .ok (.iconst (-1), 1) := by decide +kernel
theorem dX3_settings_74 : decode cX3_settings 74 = .ok (.if_icmp .ne 5, 3) := by decide +kernel
theorem dX3_settings_77 : decode cX3_settings 77 = .ok (.iload_n 3, 1) := by decide +kernel
theorem dX3_settings_78 : decode cX3_settings 78 = .ok (.ireturn, 1) := by decide +kernel
theorem dX3_settings_79 : decode cX3_settings 79 = .ok (.iload_n 3, 1) := by decide +kernel
theorem dX3_settings_80 : decode cX3_settings 80 = .ok (.ifCond .ne 8, 3) := by decide +kernel
theorem dX3_settings_83 : decode cX3_settings 83 = .ok (.bipush (-9), 2) := by decide +kernel
theorem dX3_settings_85 : decode cX3_settings 85 = .ok (.goto 9, 3) := by decide +kernel
theorem dX3_settings_88 : decode cX3_settings 88 = .ok (.aload_n 0, 1) := by decide +kernel
theorem dX3_settings_89 : decode cX3_settings 89 = .ok (.iload_n 2, 1) := by decide +kernel
theorem dX3_settings_90 : decode cX3_settings 90 = .ok (.iload_n 1, 1) := by decide +kernel
theorem dX3_settings_91 : decode cX3_settings 91 = .ok (.invokevirtual 182, 3) := by decide +kernel
theorem dX3_settings_94 : decode cX3_settings 94 = .ok (.ireturn, 1) := by decide +kernel
set_option maxRecDepth 20000 in
theorem ggX3_laws_X2_agreesBy : GoodIn wsX3_laws wsX2_agreesBy := goodIn_r _ [9, 10, 11, 12, 13, 14, 15, 16, 17, 18, 8, 19, 20, 21, 22, 23, 24, 25, 26, 27, 28, 29, 30, 31, 32, 33, 34, 35, 36, 37, 45, 46, 47, 48, 49, 50, 51, 52, 53, 54, 55, 56, 57, 58, 59, 60, 61, 62] (by decide +kernel) (by decide +kernel)
set_option maxRecDepth 20000 in
theorem gX3_laws_X2_agreesBy : GoodIn wsX3_laws (wsV RX3 179 RX2 yX2_agreesBy wsX2_agreesBy) := goodIn_app (goodIn_of _ (by decide +kernel)) ggX3_laws_X2_agreesBy
theorem dX3_laws_0 : decode cX3_laws 0 = .ok (.aload_n 0, 1) := by decide +kernel
theorem dX3_laws_1 : decode cX3_laws 1 = .ok (.getfield 31, 3) := by decide +kernel
theorem dX3_laws_4 : decode cX3_laws 4 = .ok (.getfield 112, 3) := by decide +kernel
theorem dX3_laws_7 : decode cX3_laws 7 = .ok (.ifCond .ne 6, 3) := by decide +kernel
theorem dX3_laws_10 : decode cX3_laws 10 = .ok (.bipush (-3), 2) := by decide +kernel
theorem dX3_laws_12 : decode cX3_laws 12 = .ok (.ireturn, 1) := by decide +kernel
theorem dX3_laws_13 : decode cX3_laws 13 = .ok (.aload_n 0, 1) := by decide +kernel
theorem dX3_laws_14 : decode cX3_laws 14 = .ok (.getfield 31, 3) := by decide +kernel
theorem dX3_laws_17 : decode cX3_laws 17 = .ok (.getfield 116, 3) := by decide +kernel
theorem dX3_laws_20 : decode cX3_laws 20 = .ok (.istore_n 1, 1) := by decide +kernel
theorem dX3_laws_21 : decode cX3_laws 21 = .ok (.iconst 0, 1) := by decide +kernel
theorem dX3_laws_22 : decode cX3_laws 22 = .ok (.istore_n 2, 1) := by decide +kernel
theorem dX3_laws_23 : decode cX3_laws 23 = .ok (.iconst 0, 1) := by decide +kernel
theorem dX3_laws_24 : decode cX3_laws 24 = .ok (.istore_n 3, 1) := by decide +kernel
theorem dX3_laws_25 : decode cX3_laws 25 = .ok (.iload_n 3, 1) := by decide +kernel
theorem dX3_laws_26 : decode cX3_laws 26 = .ok (.iconst 3, 1) := by decide +kernel
theorem dX3_laws_27 : decode cX3_laws 27 = .ok (.if_icmp .ge 40, 3) := by decide +kernel
theorem dX3_laws_30 : decode cX3_laws 30 = .ok (.aload_n 0, 1) := by decide +kernel
theorem dX3_laws_31 : decode cX3_laws 31 = .ok (.getfield 31, 3) := by decide +kernel
theorem dX3_laws_34 : decode cX3_laws 34 = .ok (.iload_n 3, 1) := by decide +kernel
theorem dX3_laws_35 : decode cX3_laws 35 = .ok (.putfield 116, 3) := by decide +kernel
theorem dX3_laws_38 : decode cX3_laws 38 = .ok (.aload_n 0, 1) := by decide +kernel
theorem dX3_laws_39 : decode cX3_laws 39 = .ok (.getfield 31, 3) := by decide +kernel
theorem dX3_laws_42 : decode cX3_laws 42 = .ok (.aload_n 0, 1) := by decide +kernel
theorem dX3_laws_43 : decode cX3_laws 43 = .ok (.getfield 31, 3) := by decide +kernel
theorem dX3_laws_46 : decode cX3_laws 46 = .ok (.getfield 105, 3) := by decide +kernel
theorem dX3_laws_49 : decode cX3_laws 49 = .ok (.invokevirtual 179, 3) := by decide +kernel
theorem dX3_laws_52 : decode cX3_laws 52 = .ok (.ifCond .eq 9, 3) := by decide +kernel
theorem dX3_laws_55 : decode cX3_laws 55 = .ok (.iload_n 2, 1) := by decide +kernel
theorem dX3_laws_56 : decode cX3_laws 56 = .ok (.iconst 1, 1) := by decide +kernel
theorem dX3_laws_57 : decode cX3_laws 57 = .ok (.iload_n 3, 1) := by decide +kernel
theorem dX3_laws_58 : decode cX3_laws 58 = .ok (.ishl, 1) := by decide +kernel
theorem dX3_laws_59 : decode cX3_laws 59 = .ok (.ior, 1) := by decide +kernel
theorem dX3_laws_60 : decode cX3_laws 60 = .ok (.istore_n 2, 1) := by decide +kernel
theorem dX3_laws_61 : decode cX3_laws 61 = .ok (.iinc 3 1, 3) := by decide +kernel
theorem dX3_laws_64 : decode cX3_laws 64 = .ok (.goto (-39), 3) := by decide +kernel
theorem dX3_laws_67 : decode cX3_laws 67 = .ok (.aload_n 0, 1) := by decide +kernel
theorem dX3_laws_68 : decode cX3_laws 68 = .ok (.getfield 31, 3) := by decide +kernel
theorem dX3_laws_71 : decode cX3_laws 71 = .ok (.iload_n 1, 1) := by decide +kernel
theorem dX3_laws_72 : decode cX3_laws 72 = .ok (.putfield 116, 3) := by decide +kernel
theorem dX3_laws_75 : decode cX3_laws 75 = .ok (.iload_n 2, 1) := by decide +kernel
theorem dX3_laws_76 : decode cX3_laws 76 = .ok (.ireturn, 1) := by decide +kernel
set_option maxRecDepth 20000 in
theorem ggX3_powers_X2_hasWork : GoodIn wsX3_powers wsX2_hasWork := goodIn_r _ [8, 9, 52, 53, 54, 55, 56, 57, 58, 59, 60, 61, 62, 63, 64, 65, 66, 67, 68, 69] (by decide +kernel) (by decide +kernel)
set_option maxRecDepth 20000 in
theorem gX3_powers_X2_hasWork : GoodIn wsX3_powers (wsV RX3 96 RX2 yX2_hasWork wsX2_hasWork) := goodIn_app (goodIn_of _ (by decide +kernel)) ggX3_powers_X2_hasWork
set_option maxRecDepth 20000 in
theorem ggX3_powers_X3_read : GoodIn wsX3_powers wsX3_read := goodIn_r _ [13] (by decide +kernel) (by decide +kernel)
set_option maxRecDepth 20000 in
theorem gX3_powers_X3_read : GoodIn wsX3_powers (va_wsS RX3 83 yX3_read wsX3_read) := goodIn_app (goodIn_of _ (by decide +kernel)) ggX3_powers_X3_read
set_option maxRecDepth 20000 in
theorem ggX3_powers_X3_write : GoodIn wsX3_powers wsX3_write := goodIn_r _ [16] (by decide +kernel) (by decide +kernel)
set_option maxRecDepth 20000 in
theorem gX3_powers_X3_write : GoodIn wsX3_powers (va_wsS RX3 155 yX3_write wsX3_write) := goodIn_app (goodIn_of _ (by decide +kernel)) ggX3_powers_X3_write
set_option maxRecDepth 20000 in
theorem ggX3_powers_X2_agreesBy : GoodIn wsX3_powers wsX2_agreesBy := goodIn_r _ [20, 21, 22, 23, 11, 12, 13, 24, 25, 26, 7, 27, 9, 28, 29, 30, 31, 32, 33, 34, 35, 36, 37, 38, 39, 40, 41, 42, 43, 44, 52, 53, 54, 55, 56, 57, 58, 59, 60, 61, 62, 63, 64, 65, 66, 67, 68, 69] (by decide +kernel) (by decide +kernel)
set_option maxRecDepth 20000 in
theorem gX3_powers_X2_agreesBy : GoodIn wsX3_powers (wsV RX3 179 RX2 yX2_agreesBy wsX2_agreesBy) := goodIn_app (goodIn_of _ (by decide +kernel)) ggX3_powers_X2_agreesBy
theorem dX3_powers_0 : decode cX3_powers 0 = .ok (.aload_n 0, 1) := by decide +kernel
theorem dX3_powers_1 : decode cX3_powers 1 = .ok (.getfield 31, 3) := by decide +kernel
theorem dX3_powers_4 : decode cX3_powers 4 = .ok (.iload_n 1, 1) := by decide +kernel
theorem dX3_powers_5 : decode cX3_powers 5 = .ok (.invokevirtual 96, 3) := by decide +kernel
theorem dX3_powers_8 : decode cX3_powers 8 = .ok (.ifCond .ne 5, 3) := by decide +kernel
theorem dX3_powers_11 : decode cX3_powers 11 = .ok (.iconst (-1), 1) := by decide +kernel
theorem dX3_powers_12 : decode cX3_powers 12 = .ok (.ireturn, 1) := by decide +kernel
theorem dX3_powers_13 : decode cX3_powers 13 = .ok (.aload_n 0, 1) := by decide +kernel
theorem dX3_powers_14 : decode cX3_powers 14 = .ok (.getfield 31, 3) := by decide +kernel
theorem dX3_powers_17 : decode cX3_powers 17 = .ok (.getfield 102, 3) := by decide +kernel
theorem dX3_powers_20 : decode cX3_powers 20 = .ok (.iload_n 1, 1) := by decide +kernel
theorem dX3_powers_21 : decode cX3_powers 21 = .ok (.invokestatic 83, 3) := by decide +kernel
theorem dX3_powers_24 : decode cX3_powers 24 = .ok (.istore_n 2, 1) := by decide +kernel
theorem dX3_powers_25 : decode cX3_powers 25 = .ok (.iconst 0, 1) := by decide +kernel
theorem dX3_powers_26 : decode cX3_powers 26 = .ok (.istore_n 3, 1) := by decide +kernel
theorem dX3_powers_27 : decode cX3_powers 27 = .ok (.iconst 1, 1) := by decide +kernel
theorem dX3_powers_28 : decode cX3_powers 28 = .ok (.istore 4, 2) := by decide +kernel
theorem dX3_powers_30 : decode cX3_powers 30 = .ok (.iload 4, 2) := by decide +kernel
theorem dX3_powers_32 : decode cX3_powers 32 = .ok (.bipush 9, 2) := by decide +kernel
theorem dX3_powers_34 : decode cX3_powers 34 = .ok (.if_icmp .gt 46, 3) := by decide +kernel
theorem dX3_powers_37 : decode cX3_powers 37 = .ok (.aload_n 0, 1) := by decide +kernel
theorem dX3_powers_38 : decode cX3_powers 38 = .ok (.getfield 31, 3) := by decide +kernel
theorem dX3_powers_41 : decode cX3_powers 41 = .ok (.getfield 102, 3) := by decide +kernel
theorem dX3_powers_44 : decode cX3_powers 44 = .ok (.iload_n 1, 1) := by decide +kernel
theorem dX3_powers_45 : decode cX3_powers 45 = .ok (.iload 4, 2) := by decide +kernel
theorem dX3_powers_47 : decode cX3_powers 47 = .ok (.invokestatic 155, 3) := by decide +kernel
theorem dX3_powers_50 : decode cX3_powers 50 = .ok (.aload_n 0, 1) := by decide +kernel
theorem dX3_powers_51 : decode cX3_powers 51 = .ok (.getfield 31, 3) := by decide +kernel
theorem dX3_powers_54 : decode cX3_powers 54 = .ok (.aload_n 0, 1) := by decide +kernel
theorem dX3_powers_55 : decode cX3_powers 55 = .ok (.getfield 31, 3) := by decide +kernel
theorem dX3_powers_58 : decode cX3_powers 58 = .ok (.getfield 105, 3) := by decide +kernel
theorem dX3_powers_61 : decode cX3_powers 61 = .ok (.invokevirtual 179, 3) := by decide +kernel
theorem dX3_powers_64 : decode cX3_powers 64 = .ok (.ifCond .eq 10, 3) := by decide +kernel
theorem dX3_powers_67 : decode cX3_powers 67 = .ok (.iload_n 3, 1) := by decide +kernel
theorem dX3_powers_68 : decode cX3_powers 68 = .ok (.iconst 1, 1) := by decide +kernel
theorem dX3_powers_69 : decode cX3_powers 69 = .ok (.iload 4, 2) := by decide +kernel
theorem dX3_powers_71 : decode cX3_powers 71 = .ok (.ishl, 1) := by decide +kernel
theorem dX3_powers_72 : decode cX3_powers 72 = .ok (.ior, 1) := by decide +kernel
theorem dX3_powers_73 : decode cX3_powers 73 = .ok (.istore_n 3, 1) := by decide +kernel
theorem dX3_powers_74 : decode cX3_powers 74 = .ok (.iinc 4 1, 3) := by decide +kernel
theorem dX3_powers_77 : decode cX3_powers 77 = .ok (.goto (-47), 3) := by decide +kernel
theorem dX3_powers_80 : decode cX3_powers 80 = .ok (.aload_n 0, 1) := by decide +kernel
theorem dX3_powers_81 : decode cX3_powers 81 = .ok (.getfield 31, 3) := by decide +kernel
theorem dX3_powers_84 : decode cX3_powers 84 = .ok (.getfield 102, 3) := by decide +kernel
theorem dX3_powers_87 : decode cX3_powers 87 = .ok (.iload_n 1, 1) := by decide +kernel
theorem dX3_powers_88 : decode cX3_powers 88 = .ok (.iload_n 2, 1) := by decide +kernel
theorem dX3_powers_89 : decode cX3_powers 89 = .ok (.invokestatic 155, 3) := by decide +kernel
theorem dX3_powers_92 : decode cX3_powers 92 = .ok (.iload_n 3, 1) := by decide +kernel
theorem dX3_powers_93 : decode cX3_powers 93 = .ok (.ireturn, 1) := by decide +kernel
set_option maxRecDepth 20000 in
theorem ggX3_odds_X2_hasCell : GoodIn wsX3_odds wsX2_hasCell := goodIn_r _ [7, 8, 48, 49, 50, 51, 52, 53, 54, 55, 56, 57, 58, 59, 60, 61, 62, 63, 64, 65] (by decide +kernel) (by decide +kernel)
set_option maxRecDepth 20000 in
theorem gX3_odds_X2_hasCell : GoodIn wsX3_odds (wsV RX3 122 RX2 yX2_hasCell wsX2_hasCell) := goodIn_app (goodIn_of _ (by decide +kernel)) ggX3_odds_X2_hasCell
set_option maxRecDepth 20000 in
theorem ggX3_odds_X3_isUpTo : GoodIn wsX3_odds wsX3_isUpTo := goodIn_r _ [12] (by decide +kernel) (by decide +kernel)
set_option maxRecDepth 20000 in
theorem gX3_odds_X3_isUpTo : GoodIn wsX3_odds (va_wsS RX3 50 yX3_isUpTo wsX3_isUpTo) := goodIn_app (goodIn_of _ (by decide +kernel)) ggX3_odds_X3_isUpTo
set_option maxRecDepth 20000 in
theorem ggX3_odds_X2_settingsInAll : GoodIn wsX3_odds wsX2_settingsInAll := goodIn_r _ [16, 17, 48, 49, 50, 51, 52, 53, 54, 55, 56, 57, 58, 59, 60, 61, 62, 63, 64, 65] (by decide +kernel) (by decide +kernel)
set_option maxRecDepth 20000 in
theorem gX3_odds_X2_settingsInAll : GoodIn wsX3_odds (wsV RX3 175 RX2 yX2_settingsInAll wsX2_settingsInAll) := goodIn_app (goodIn_of _ (by decide +kernel)) ggX3_odds_X2_settingsInAll
set_option maxRecDepth 20000 in
theorem ggX3_odds_X2_smellBy : GoodIn wsX3_odds wsX2_smellBy := goodIn_r _ [21, 17, 22, 23, 24, 25, 26, 27, 28, 29, 30, 31, 32, 33, 34, 6, 35, 36, 37, 38, 39, 11, 40, 48, 49, 50, 51, 52, 53, 54, 55, 56, 57, 58, 59, 60, 61, 62, 63, 64, 65] (by decide +kernel) (by decide +kernel)
set_option maxRecDepth 20000 in
theorem gX3_odds_X2_smellBy : GoodIn wsX3_odds (wsV RX3 125 RX2 yX2_smellBy wsX2_smellBy) := goodIn_app (goodIn_of _ (by decide +kernel)) ggX3_odds_X2_smellBy
theorem dX3_odds_0 : decode cX3_odds 0 = .ok (.aload_n 0, 1) := by decide +kernel
theorem dX3_odds_1 : decode cX3_odds 1 = .ok (.getfield 31, 3) := by decide +kernel
theorem dX3_odds_4 : decode cX3_odds 4 = .ok (.iload_n 1, 1) := by decide +kernel
theorem dX3_odds_5 : decode cX3_odds 5 = .ok (.invokevirtual 122, 3) := by decide +kernel
theorem dX3_odds_8 : decode cX3_odds 8 = .ok (.ifCond .eq 20, 3) := by decide +kernel
theorem dX3_odds_11 : decode cX3_odds 11 = .ok (.iload_n 2, 1) := by decide +kernel
theorem dX3_odds_12 : decode cX3_odds 12 = .ok (.bipush 99, 2) := by decide +kernel
theorem dX3_odds_14 : decode cX3_odds 14 = .ok (.invokestatic 50, 3) := by decide +kernel
theorem dX3_odds_17 : decode cX3_odds 17 = .ok (.ifCond .eq 11, 3) := by decide +kernel
theorem dX3_odds_20 : decode cX3_odds 20 = .ok (.iload_n 3, 1) := by decide +kernel
theorem dX3_odds_21 : decode cX3_odds 21 = .ok (.iconst 1, 1) := by decide +kernel
theorem dX3_odds_22 : decode cX3_odds 22 = .ok (.invokestatic 50, 3) := by decide +kernel
theorem dX3_odds_25 : decode cX3_odds 25 = .ok (.ifCond .ne 7, 3) := by decide +kernel
theorem dX3_odds_28 : decode cX3_odds 28 = .ok (.ldc2_w 185, 3) := by decide +kernel
theorem dX3_odds_31 : decode cX3_odds 31 = .ok (.lreturn, 1) := by decide +kernel
theorem dX3_odds_32 : decode cX3_odds 32 = .ok (.aload_n 0, 1) := by decide +kernel
theorem dX3_odds_33 : decode cX3_odds 33 = .ok (.getfield 31, 3) := by decide +kernel
theorem dX3_odds_36 : decode cX3_odds 36 = .ok (.invokevirtual 175, 3) := by decide +kernel
theorem dX3_odds_39 : decode cX3_odds 39 = .ok (.istore 4, 2) := by decide +kernel
theorem dX3_odds_41 : decode cX3_odds 41 = .ok (.iconst 0, 1) := by decide +kernel
theorem dX3_odds_42 : decode cX3_odds 42 = .ok (.istore 5, 2) := by decide +kernel
theorem dX3_odds_44 : decode cX3_odds 44 = .ok (.iconst 0, 1) := by decide +kernel
theorem dX3_odds_45 : decode cX3_odds 45 = .ok (.istore 6, 2) := by decide +kernel
theorem dX3_odds_47 : decode cX3_odds 47 = .ok (.iload 6, 2) := by decide +kernel
theorem dX3_odds_49 : decode cX3_odds 49 = .ok (.aload_n 0, 1) := by decide +kernel
theorem dX3_odds_50 : decode cX3_odds 50 = .ok (.getfield 31, 3) := by decide +kernel
theorem dX3_odds_53 : decode cX3_odds 53 = .ok (.invokevirtual 175, 3) := by decide +kernel
theorem dX3_odds_56 : decode cX3_odds 56 = .ok (.if_icmp .ge 26, 3) := by decide +kernel
theorem dX3_odds_59 : decode cX3_odds 59 = .ok (.aload_n 0, 1) := by decide +kernel
theorem dX3_odds_60 : decode cX3_odds 60 = .ok (.getfield 31, 3) := by decide +kernel
theorem dX3_odds_63 : decode cX3_odds 63 = .ok (.iload 6, 2) := by decide +kernel
theorem dX3_odds_65 : decode cX3_odds 65 = .ok (.iload_n 1, 1) := by decide +kernel
theorem dX3_odds_66 : decode cX3_odds 66 = .ok (.invokevirtual 125, 3) := by decide +kernel
theorem dX3_odds_69 : decode cX3_odds 69 = .ok (.iload_n 2, 1) := by decide +kernel
theorem dX3_odds_70 : decode cX3_odds 70 = .ok (.if_icmp .lt 6, 3) := by decide +kernel
theorem dX3_odds_73 : decode cX3_odds 73 = .ok (.iinc 5 1, 3) := by decide +kernel
theorem dX3_odds_76 : decode cX3_odds 76 = .ok (.iinc 6 1, 3) := by decide +kernel
theorem dX3_odds_79 : decode cX3_odds 79 = .ok (.goto (-32), 3) := by decide +kernel
theorem dX3_odds_82 : decode cX3_odds 82 = .ok (.iconst 0, 1) := by decide +kernel
theorem dX3_odds_83 : decode cX3_odds 83 = .ok (.istore 6, 2) := by decide +kernel
theorem dX3_odds_85 : decode cX3_odds 85 = .ok (.iload 6, 2) := by decide +kernel
theorem dX3_odds_87 : decode cX3_odds 87 = .ok (.bipush 8, 2) := by decide +kernel
theorem dX3_odds_89 : decode cX3_odds 89 = .ok (.if_icmp .ge 34, 3) := by decide +kernel
theorem dX3_odds_92 : decode cX3_odds 92 = .ok (.iload 4, 2) := by decide +kernel
theorem dX3_odds_94 : decode cX3_odds 94 = .ok (.iconst 1, 1) := by decide +kernel
theorem dX3_odds_95 : decode cX3_odds 95 = .ok (.if_icmp .le 22, 3) := by decide +kernel
theorem dX3_odds_98 : decode cX3_odds 98 = .ok (.iload 5, 2) := by decide +kernel
theorem dX3_odds_100 : decode cX3_odds 100 = .ok (.iconst 1, 1) := by decide +kernel
theorem dX3_odds_101 : decode cX3_odds 101 = .ok (.iand, 1) := by decide +kernel
theorem dX3_odds_102 : decode cX3_odds 102 = .ok (.ifCond .ne 15, 3) := by decide +kernel
theorem dX3_odds_105 : decode cX3_odds 105 = .ok (.iload 5, 2) := by decide +kernel
theorem dX3_odds_107 : decode cX3_odds 107 = .ok (.iconst 1, 1) := by decide +kernel
theorem dX3_odds_108 : decode cX3_odds 108 = .ok (.ishr, 1) := by decide +kernel
theorem dX3_odds_109 : decode cX3_odds 109 = .ok (.istore 5, 2) := by decide +kernel
theorem dX3_odds_111 : decode cX3_odds 111 = .ok (.iload 4, 2) := by decide +kernel
theorem dX3_odds_113 : decode cX3_odds 113 = .ok (.iconst 1, 1) := by decide +kernel
theorem dX3_odds_114 : decode cX3_odds 114 = .ok (.ishr, 1) := by decide +kernel
theorem dX3_odds_115 : decode cX3_odds 115 = .ok (.istore 4, 2) := by decide +kernel
theorem dX3_odds_117 : decode cX3_odds 117 = .ok (.iinc 6 1, 3) := by decide +kernel
theorem dX3_odds_120 : decode cX3_odds 120 = .ok (.goto (-35), 3) := by decide +kernel
theorem dX3_odds_123 : decode cX3_odds 123 = .ok (.iload_n 3, 1) := by decide +kernel
theorem dX3_odds_124 : decode cX3_odds 124 = .ok (.ifCond .ne 9, 3) := by decide +kernel
theorem dX3_odds_127 : decode cX3_odds 127 = .ok (.iload 5, 2) := by decide +kernel
theorem dX3_odds_129 : decode cX3_odds 129 = .ok (.i2l, 1) := by decide +kernel
theorem dX3_odds_130 : decode cX3_odds 130 = .ok (.goto 6, 3) := by decide +kernel
theorem dX3_odds_133 : decode cX3_odds 133 = .ok (.iload 4, 2) := by decide +kernel
theorem dX3_odds_135 : decode cX3_odds 135 = .ok (.i2l, 1) := by decide +kernel
theorem dX3_odds_136 : decode cX3_odds 136 = .ok (.lreturn, 1) := by decide +kernel
set_option maxRecDepth 20000 in
theorem ggX3_sheet_X3_sheetAt : GoodIn wsX3_sheet wsX3_sheetAt := goodIn_r _ [6, 7, 27, 28, 29, 30, 31, 32, 33] (by decide +kernel) (by decide +kernel)
set_option maxRecDepth 20000 in
theorem gX3_sheet_X3_sheetAt : GoodIn wsX3_sheet (wsV RX3 46 RX3 yX3_sheetAt wsX3_sheetAt) := goodIn_app (goodIn_of _ (by decide +kernel)) ggX3_sheet_X3_sheetAt
set_option maxRecDepth 20000 in
theorem ggX3_sheet_X3_isUpTo : GoodIn wsX3_sheet wsX3_isUpTo := goodIn_r _ [10] (by decide +kernel) (by decide +kernel)
set_option maxRecDepth 20000 in
theorem gX3_sheet_X3_isUpTo : GoodIn wsX3_sheet (va_wsS RX3 50 yX3_isUpTo wsX3_isUpTo) := goodIn_app (goodIn_of _ (by decide +kernel)) ggX3_sheet_X3_isUpTo
set_option maxRecDepth 20000 in
theorem ggX3_sheet_X3_fail : GoodIn wsX3_sheet wsX3_fail := goodIn_r _ [14, 1, 27, 28, 29, 30, 31, 32, 33] (by decide +kernel) (by decide +kernel)
set_option maxRecDepth 20000 in
theorem gX3_sheet_X3_fail : GoodIn wsX3_sheet (wsV RX3 58 RX3 yX3_fail wsX3_fail) := goodIn_app (goodIn_of _ (by decide +kernel)) ggX3_sheet_X3_fail
set_option maxRecDepth 20000 in
theorem ggX3_sheet_X0_renew : GoodIn wsX3_sheet wsX0_renew := goodIn_r _ [19, 20, 21, 22, 23, 24, 25, 26, 34, 35, 36] (by decide +kernel) (by decide +kernel)
set_option maxRecDepth 20000 in
theorem gX3_sheet_X0_renew : GoodIn wsX3_sheet (wsV RX3 187 RX0 yX0_renew wsX0_renew) := goodIn_app (goodIn_of _ (by decide +kernel)) ggX3_sheet_X0_renew
theorem dX3_sheet_0 : decode cX3_sheet 0 = .ok (.aload_n 0, 1) := by decide +kernel
theorem dX3_sheet_1 : decode cX3_sheet 1 = .ok (.iconst 0, 1) := by decide +kernel
theorem dX3_sheet_2 : decode cX3_sheet 2 = .ok (.putfield 42, 3) := by decide +kernel
theorem dX3_sheet_5 : decode cX3_sheet 5 = .ok (.aload_n 0, 1) := by decide +kernel
theorem dX3_sheet_6 : decode cX3_sheet 6 = .ok (.iload_n 1, 1) := by decide +kernel
theorem dX3_sheet_7 : decode cX3_sheet 7 = .ok (.invokevirtual 46, 3) := by decide +kernel
theorem dX3_sheet_10 : decode cX3_sheet 10 = .ok (.astore 4, 2) := by decide +kernel
theorem dX3_sheet_12 : decode cX3_sheet 12 = .ok (.aload 4, 2) := by decide +kernel
theorem dX3_sheet_14 : decode cX3_sheet 14 = .ok (.ifnonnull 5, 3) := by decide +kernel
theorem dX3_sheet_17 : decode cX3_sheet 17 = .ok (.iconst (-1), 1) := by decide +kernel
theorem dX3_sheet_18 : decode cX3_sheet 18 = .ok (.ireturn, 1) := by decide +kernel
theorem dX3_sheet_19 : decode cX3_sheet 19 = .ok (.iload_n 2, 1) := by decide +kernel
theorem dX3_sheet_20 : decode cX3_sheet 20 = .ok (.iconst 2, 1) := by decide +kernel
theorem dX3_sheet_21 : decode cX3_sheet 21 = .ok (.invokestatic 50, 3) := by decide +kernel
theorem dX3_sheet_24 : decode cX3_sheet 24 = .ok (.ifCond .eq 9, 3) := by decide +kernel
theorem dX3_sheet_27 : decode cX3_sheet 27 = .ok (.iload_n 3, 1) := by decide +kernel
theorem dX3_sheet_28 : decode cX3_sheet 28 = .ok (.bipush 60, 2) := by decide +kernel
theorem dX3_sheet_30 : decode cX3_sheet 30 = .ok (.if_icmp .le 6, 3) := by decide +kernel
theorem dX3_sheet_33 : decode cX3_sheet 33 = .ok (.bipush (-2), 2) := by decide +kernel
theorem dX3_sheet_35 : decode cX3_sheet 35 = .ok (.ireturn, 1) := by decide +kernel
theorem dX3_sheet_36 : decode cX3_sheet 36 = .ok (.iload_n 3, 1) := by decide +kernel
theorem dX3_sheet_37 : decode cX3_sheet 37 = .ok (.ifCond .ge 9, 3) := by decide +kernel
theorem dX3_sheet_40 : decode cX3_sheet 40 = .ok (.aload_n 0, 1) := by decide +kernel
theorem dX3_sheet_41 : decode cX3_sheet 41 = .ok (.iconst 4, 1) := by decide +kernel
theorem dX3_sheet_42 : decode cX3_sheet 42 = .ok (.invokevirtual 58, 3) := by decide +kernel
theorem dX3_sheet_45 : decode cX3_sheet 45 = .ok (.ireturn, 1) := by decide +kernel
theorem dX3_sheet_46 : decode cX3_sheet 46 = .ok (.aload 4, 2) := by decide +kernel
theorem dX3_sheet_48 : decode cX3_sheet 48 = .ok (.iload_n 2, 1) := by decide +kernel
theorem dX3_sheet_49 : decode cX3_sheet 49 = .ok (.iload_n 3, 1) := by decide +kernel
theorem dX3_sheet_50 : decode cX3_sheet 50 = .ok (.invokevirtual 187, 3) := by decide +kernel
theorem dX3_sheet_53 : decode cX3_sheet 53 = .ok (.iconst 1, 1) := by decide +kernel
theorem dX3_sheet_54 : decode cX3_sheet 54 = .ok (.ireturn, 1) := by decide +kernel
set_option maxRecDepth 20000 in
theorem ggX3_lose_X3_sheetAt : GoodIn wsX3_lose wsX3_sheetAt := goodIn_r _ [5, 6, 23, 24, 25, 26, 27, 28, 29] (by decide +kernel) (by decide +kernel)
set_option maxRecDepth 20000 in
theorem gX3_lose_X3_sheetAt : GoodIn wsX3_lose (wsV RX3 46 RX3 yX3_sheetAt wsX3_sheetAt) := goodIn_app (goodIn_of _ (by decide +kernel)) ggX3_lose_X3_sheetAt
set_option maxRecDepth 20000 in
theorem ggX3_lose_X0_hasRow : GoodIn wsX3_lose wsX0_hasRow := goodIn_r _ [11, 12, 30, 31, 32] (by decide +kernel) (by decide +kernel)
set_option maxRecDepth 20000 in
theorem gX3_lose_X0_hasRow : GoodIn wsX3_lose (wsV RX3 191 RX0 yX0_hasRow wsX0_hasRow) := goodIn_app (goodIn_of _ (by decide +kernel)) ggX3_lose_X0_hasRow
set_option maxRecDepth 20000 in
theorem ggX3_lose_X0_renew : GoodIn wsX3_lose wsX0_renew := goodIn_r _ [16, 12, 17, 18, 19, 20, 21, 22, 30, 31, 32] (by decide +kernel) (by decide +kernel)
set_option maxRecDepth 20000 in
theorem gX3_lose_X0_renew : GoodIn wsX3_lose (wsV RX3 187 RX0 yX0_renew wsX0_renew) := goodIn_app (goodIn_of _ (by decide +kernel)) ggX3_lose_X0_renew
theorem dX3_lose_0 : decode cX3_lose 0 = .ok (.aload_n 0, 1) := by decide +kernel
theorem dX3_lose_1 : decode cX3_lose 1 = .ok (.iload_n 1, 1) := by decide +kernel
theorem dX3_lose_2 : decode cX3_lose 2 = .ok (.invokevirtual 46, 3) := by decide +kernel
theorem dX3_lose_5 : decode cX3_lose 5 = .ok (.astore_n 2, 1) := by decide +kernel
theorem dX3_lose_6 : decode cX3_lose 6 = .ok (.aload_n 2, 1) := by decide +kernel
theorem dX3_lose_7 : decode cX3_lose 7 = .ok (.ifnonnull 5, 3) := by decide +kernel
theorem dX3_lose_10 : decode cX3_lose 10 = .ok (.iconst (-1), 1) := by decide +kernel
theorem dX3_lose_11 : decode cX3_lose 11 = .ok (.ireturn, 1) := by decide +kernel
theorem dX3_lose_12 : decode cX3_lose 12 = .ok (.aload_n 2, 1) := by decide +kernel
theorem dX3_lose_13 : decode cX3_lose 13 = .ok (.invokevirtual 191, 3) := by decide +kernel
theorem dX3_lose_16 : decode cX3_lose 16 = .ok (.ifCond .ne 5, 3) := by decide +kernel
theorem dX3_lose_19 : decode cX3_lose 19 = .ok (.iconst 0, 1) := by decide +kernel
theorem dX3_lose_20 : decode cX3_lose 20 = .ok (.ireturn, 1) := by decide +kernel
theorem dX3_lose_21 : decode cX3_lose 21 = .ok (.aload_n 2, 1) := by decide +kernel
theorem dX3_lose_22 : decode cX3_lose 22 = .ok (.iconst (-1), 1) := by decide +kernel
theorem dX3_lose_23 : decode cX3_lose 23 = .ok (.iconst 0, 1) := by decide +kernel
theorem dX3_lose_24 : decode cX3_lose 24 = .ok (.invokevirtual 187, 3) := by decide +kernel
theorem dX3_lose_27 : decode cX3_lose 27 = .ok (.iconst 1, 1) := by decide +kernel
theorem dX3_lose_28 : decode cX3_lose 28 = .ok (.ireturn, 1) := by decide +kernel
set_option maxRecDepth 20000 in
theorem ggX3_put_X3_sheetAt : GoodIn wsX3_put wsX3_sheetAt := goodIn_r _ [8, 9, 36, 37, 38, 39, 40, 41, 42] (by decide +kernel) (by decide +kernel)
set_option maxRecDepth 20000 in
theorem gX3_put_X3_sheetAt : GoodIn wsX3_put (wsV RX3 46 RX3 yX3_sheetAt wsX3_sheetAt) := goodIn_app (goodIn_of _ (by decide +kernel)) ggX3_put_X3_sheetAt
set_option maxRecDepth 20000 in
theorem ggX3_put_X0_faultOfTaking : GoodIn wsX3_put wsX0_faultOfTaking := goodIn_r _ [14, 15, 16, 17, 18, 13, 19, 20, 21, 22, 23, 24, 43, 44, 45] (by decide +kernel) (by decide +kernel)
set_option maxRecDepth 20000 in
theorem gX3_put_X0_faultOfTaking : GoodIn wsX3_put (wsV RX3 54 RX0 yX0_faultOfTaking wsX0_faultOfTaking) := goodIn_app (goodIn_of _ (by decide +kernel)) ggX3_put_X0_faultOfTaking
set_option maxRecDepth 20000 in
theorem ggX3_put_X3_fail : GoodIn wsX3_put wsX3_fail := goodIn_r _ [28, 1, 36, 37, 38, 39, 40, 41, 42] (by decide +kernel) (by decide +kernel)
set_option maxRecDepth 20000 in
theorem gX3_put_X3_fail : GoodIn wsX3_put (wsV RX3 58 RX3 yX3_fail wsX3_fail) := goodIn_app (goodIn_of _ (by decide +kernel)) ggX3_put_X3_fail
set_option maxRecDepth 20000 in
theorem ggX3_put_X0_cut : GoodIn wsX3_put wsX0_cut := goodIn_r _ [32, 15, 43, 44, 45] (by decide +kernel) (by decide +kernel)
set_option maxRecDepth 20000 in
theorem gX3_put_X0_cut : GoodIn wsX3_put (wsV RX3 198 RX0 yX0_cut wsX0_cut) := goodIn_app (goodIn_of _ (by decide +kernel)) ggX3_put_X0_cut
set_option maxRecDepth 20000 in
theorem ggX3_put_X3_write : GoodIn wsX3_put wsX3_write := goodIn_r _ [35] (by decide +kernel) (by decide +kernel)
set_option maxRecDepth 20000 in
theorem gX3_put_X3_write : GoodIn wsX3_put (va_wsS RX3 155 yX3_write wsX3_write) := goodIn_app (goodIn_of _ (by decide +kernel)) ggX3_put_X3_write
theorem dX3_put_0 : decode cX3_put 0 = .ok (.aload_n 0, 1) := by decide +kernel
theorem dX3_put_1 : decode cX3_put 1 = .ok (.iconst 0, 1) := by decide +kernel
theorem dX3_put_2 : decode cX3_put 2 = .ok (.putfield 42, 3) := by decide +kernel
theorem dX3_put_5 : decode cX3_put 5 = .ok (.aload_n 0, 1) := by decide +kernel
theorem dX3_put_6 : decode cX3_put 6 = .ok (.iload_n 1, 1) := by decide +kernel
theorem dX3_put_7 : decode cX3_put 7 = .ok (.invokevirtual 46, 3) := by decide +kernel
theorem dX3_put_10 : decode cX3_put 10 = .ok (.astore 4, 2) := by decide +kernel
theorem dX3_put_12 : decode cX3_put 12 = .ok (.aload 4, 2) := by decide +kernel
theorem dX3_put_14 : decode cX3_put 14 = .ok (.ifnonnull 5, 3) := by decide +kernel
theorem dX3_put_17 : decode cX3_put 17 = .ok (.iconst (-1), 1) := by decide +kernel
theorem dX3_put_18 : decode cX3_put 18 = .ok (.ireturn, 1) := by decide +kernel
theorem dX3_put_19 : decode cX3_put 19 = .ok (.aload 4, 2) := by decide +kernel
theorem dX3_put_21 : decode cX3_put 21 = .ok (.aload 4, 2) := by decide +kernel
theorem dX3_put_23 : decode cX3_put 23 = .ok (.getfield 195, 3) := by decide +kernel
theorem dX3_put_26 : decode cX3_put 26 = .ok (.iload_n 2, 1) := by decide +kernel
theorem dX3_put_27 : decode cX3_put 27 = .ok (.iconst 1, 1) := by decide +kernel
theorem dX3_put_28 : decode cX3_put 28 = .ok (.invokevirtual 54, 3) := by decide +kernel
theorem dX3_put_31 : decode cX3_put 31 = .ok (.istore 5, 2) := by decide +kernel
theorem dX3_put_33 : decode cX3_put 33 = .ok (.iload 5, 2) := by decide +kernel
theorem dX3_put_35 : decode cX3_put 35 = .ok (.ifCond .eq 10, 3) := by decide +kernel
theorem dX3_put_38 : decode cX3_put 38 = .ok (.aload_n 0, 1) := by decide +kernel
theorem dX3_put_39 : decode cX3_put 39 = .ok (.iload 5, 2) := by decide +kernel
theorem dX3_put_41 : decode cX3_put 41 = .ok (.invokevirtual 58, 3) := by decide +kernel
theorem dX3_put_44 : decode cX3_put 44 = .ok (.ireturn, 1) := by decide +kernel
theorem dX3_put_45 : decode cX3_put 45 = .ok (.aload 4, 2) := by decide +kernel
theorem dX3_put_47 : decode cX3_put 47 = .ok (.getfield 137, 3) := by decide +kernel
theorem dX3_put_50 : decode cX3_put 50 = .ok (.iload_n 2, 1) := by decide +kernel
theorem dX3_put_51 : decode cX3_put 51 = .ok (.aload 4, 2) := by decide +kernel
theorem dX3_put_53 : decode cX3_put 53 = .ok (.iload_n 3, 1) := by decide +kernel
theorem dX3_put_54 : decode cX3_put 54 = .ok (.invokevirtual 198, 3) := by decide +kernel
theorem dX3_put_57 : decode cX3_put 57 = .ok (.invokestatic 155, 3) := by decide +kernel
theorem dX3_put_60 : decode cX3_put 60 = .ok (.iconst 1, 1) := by decide +kernel
theorem dX3_put_61 : decode cX3_put 61 = .ok (.ireturn, 1) := by decide +kernel
set_option maxRecDepth 20000 in
theorem ggX3_cell_X3_sheetAt : GoodIn wsX3_cell wsX3_sheetAt := goodIn_r _ [8, 9, 31, 32, 33, 34, 35, 36, 37] (by decide +kernel) (by decide +kernel)
set_option maxRecDepth 20000 in
theorem gX3_cell_X3_sheetAt : GoodIn wsX3_cell (wsV RX3 46 RX3 yX3_sheetAt wsX3_sheetAt) := goodIn_app (goodIn_of _ (by decide +kernel)) ggX3_cell_X3_sheetAt
set_option maxRecDepth 20000 in
theorem ggX3_cell_X3_isUpTo : GoodIn wsX3_cell wsX3_isUpTo := goodIn_r _ [12] (by decide +kernel) (by decide +kernel)
set_option maxRecDepth 20000 in
theorem gX3_cell_X3_isUpTo : GoodIn wsX3_cell (va_wsS RX3 50 yX3_isUpTo wsX3_isUpTo) := goodIn_app (goodIn_of _ (by decide +kernel)) ggX3_cell_X3_isUpTo
set_option maxRecDepth 20000 in
theorem ggX3_cell_X0_faultOfTaking : GoodIn wsX3_cell wsX0_faultOfTaking := goodIn_r _ [17, 18, 19, 20, 21, 16, 22, 23, 24, 25, 26, 27, 38, 39, 40] (by decide +kernel) (by decide +kernel)
set_option maxRecDepth 20000 in
theorem gX3_cell_X0_faultOfTaking : GoodIn wsX3_cell (wsV RX3 54 RX0 yX0_faultOfTaking wsX0_faultOfTaking) := goodIn_app (goodIn_of _ (by decide +kernel)) ggX3_cell_X0_faultOfTaking
set_option maxRecDepth 20000 in
theorem ggX3_cell_X3_read : GoodIn wsX3_cell wsX3_read := goodIn_r _ [30] (by decide +kernel) (by decide +kernel)
set_option maxRecDepth 20000 in
theorem gX3_cell_X3_read : GoodIn wsX3_cell (va_wsS RX3 83 yX3_read wsX3_read) := goodIn_app (goodIn_of _ (by decide +kernel)) ggX3_cell_X3_read
theorem dX3_cell_0 : decode cX3_cell 0 = .ok (.aload_n 0, 1) := by decide +kernel
theorem dX3_cell_1 : decode cX3_cell 1 = .ok (.iconst 0, 1) := by decide +kernel
theorem dX3_cell_2 : decode cX3_cell 2 = .ok (.putfield 42, 3) := by decide +kernel
theorem dX3_cell_5 : decode cX3_cell 5 = .ok (.aload_n 0, 1) := by decide +kernel
theorem dX3_cell_6 : decode cX3_cell 6 = .ok (.iload_n 1, 1) := by decide +kernel
theorem dX3_cell_7 : decode cX3_cell 7 = .ok (.invokevirtual 46, 3) := by decide +kernel
theorem dX3_cell_10 : decode cX3_cell 10 = .ok (.astore 4, 2) := by decide +kernel
theorem dX3_cell_12 : decode cX3_cell 12 = .ok (.aload 4, 2) := by decide +kernel
theorem dX3_cell_14 : decode cX3_cell 14 = .ok (.ifnull 11, 3) := by decide +kernel
theorem dX3_cell_17 : decode cX3_cell 17 = .ok (.iload_n 3, 1) := by decide +kernel
theorem dX3_cell_18 : decode cX3_cell 18 = .ok (.iconst 2, 1) := by decide +kernel
theorem dX3_cell_19 : decode cX3_cell 19 = .ok (.invokestatic 50, 3) := by decide +kernel
theorem dX3_cell_22 : decode cX3_cell 22 = .ok (.ifCond .ne 7, 3) := by decide +kernel
theorem dX3_cell_25 : decode cX3_cell 25 = .ok (.ldc2_w 185, 3) := by decide +kernel
theorem dX3_cell_28 : decode cX3_cell 28 = .ok (.lreturn, 1) := by decide +kernel
theorem dX3_cell_29 : decode cX3_cell 29 = .ok (.aload_n 0, 1) := by decide +kernel
theorem dX3_cell_30 : decode cX3_cell 30 = .ok (.aload 4, 2) := by decide +kernel
theorem dX3_cell_32 : decode cX3_cell 32 = .ok (.iload_n 3, 1) := by decide +kernel
theorem dX3_cell_33 : decode cX3_cell 33 = .ok (.iload_n 2, 1) := by decide +kernel
theorem dX3_cell_34 : decode cX3_cell 34 = .ok (.iconst 1, 1) := by decide +kernel
theorem dX3_cell_35 : decode cX3_cell 35 = .ok (.invokevirtual 54, 3) := by decide +kernel
theorem dX3_cell_38 : decode cX3_cell 38 = .ok (.putfield 42, 3) := by decide +kernel
theorem dX3_cell_41 : decode cX3_cell 41 = .ok (.aload_n 0, 1) := by decide +kernel
theorem dX3_cell_42 : decode cX3_cell 42 = .ok (.getfield 42, 3) := by decide +kernel
theorem dX3_cell_45 : decode cX3_cell 45 = .ok (.ifCond .ne 16, 3) := by decide +kernel
theorem dX3_cell_48 : decode cX3_cell 48 = .ok (.aload 4, 2) := by decide +kernel
theorem dX3_cell_50 : decode cX3_cell 50 = .ok (.getfield 137, 3) := by decide +kernel
theorem dX3_cell_53 : decode cX3_cell 53 = .ok (.iload_n 2, 1) := by decide +kernel
theorem dX3_cell_54 : decode cX3_cell 54 = .ok (.invokestatic 83, 3) := by decide +kernel
theorem dX3_cell_57 : decode cX3_cell 57 = .ok (.i2l, 1) := by decide +kernel
theorem dX3_cell_58 : decode cX3_cell 58 = .ok (.goto 6, 3) := by decide +kernel
theorem dX3_cell_61 : decode cX3_cell 61 = .ok (.ldc2_w 185, 3) := by decide +kernel
theorem dX3_cell_64 : decode cX3_cell 64 = .ok (.lreturn, 1) := by decide +kernel
set_option maxRecDepth 20000 in
theorem ggX3_copy_X3_sheetAt : GoodIn wsX3_copy wsX3_sheetAt := goodIn_r _ [12, 13, 29, 30, 31, 32, 33, 34, 35] (by decide +kernel) (by decide +kernel)
set_option maxRecDepth 20000 in
theorem gX3_copy_X3_sheetAt : GoodIn wsX3_copy (wsV RX3 46 RX3 yX3_sheetAt wsX3_sheetAt) := goodIn_app (goodIn_of _ (by decide +kernel)) ggX3_copy_X3_sheetAt
set_option maxRecDepth 20000 in
theorem ggX3_copy_X0_hasRow : GoodIn wsX3_copy wsX0_hasRow := goodIn_r _ [18, 19, 36, 37, 38] (by decide +kernel) (by decide +kernel)
set_option maxRecDepth 20000 in
theorem gX3_copy_X0_hasRow : GoodIn wsX3_copy (wsV RX3 191 RX0 yX0_hasRow wsX0_hasRow) := goodIn_app (goodIn_of _ (by decide +kernel)) ggX3_copy_X0_hasRow
set_option maxRecDepth 20000 in
theorem ggX3_copy_X3_fail : GoodIn wsX3_copy wsX3_fail := goodIn_r _ [23, 1, 29, 30, 31, 32, 33, 34, 35] (by decide +kernel) (by decide +kernel)
set_option maxRecDepth 20000 in
theorem gX3_copy_X3_fail : GoodIn wsX3_copy (wsV RX3 58 RX3 yX3_fail wsX3_fail) := goodIn_app (goodIn_of _ (by decide +kernel)) ggX3_copy_X3_fail
set_option maxRecDepth 20000 in
theorem ggX3_copy_X0_holds : GoodIn wsX3_copy wsX0_holds := goodIn_r _ [27, 28, 36, 37, 38] (by decide +kernel) (by decide +kernel)
set_option maxRecDepth 20000 in
theorem gX3_copy_X0_holds : GoodIn wsX3_copy (wsV RX3 201 RX0 yX0_holds wsX0_holds) := goodIn_app (goodIn_of _ (by decide +kernel)) ggX3_copy_X0_holds
theorem dX3_copy_0 : decode cX3_copy 0 = .ok (.aload_n 0, 1) := by decide +kernel
theorem dX3_copy_1 : decode cX3_copy 1 = .ok (.iconst 0, 1) := by decide +kernel
theorem dX3_copy_2 : decode cX3_copy 2 = .ok (.putfield 42, 3) := by decide +kernel
theorem dX3_copy_5 : decode cX3_copy 5 = .ok (.aload_n 0, 1) := by decide +kernel
theorem dX3_copy_6 : decode cX3_copy 6 = .ok (.iload_n 1, 1) := by decide +kernel
theorem dX3_copy_7 : decode cX3_copy 7 = .ok (.invokevirtual 46, 3) := by decide +kernel
theorem dX3_copy_10 : decode cX3_copy 10 = .ok (.astore 6, 2) := by decide +kernel
theorem dX3_copy_12 : decode cX3_copy 12 = .ok (.aload_n 0, 1) := by decide +kernel
theorem dX3_copy_13 : decode cX3_copy 13 = .ok (.iload_n 3, 1) := by decide +kernel
theorem dX3_copy_14 : decode cX3_copy 14 = .ok (.invokevirtual 46, 3) := by decide +kernel
theorem dX3_copy_17 : decode cX3_copy 17 = .ok (.astore 7, 2) := by decide +kernel
theorem dX3_copy_19 : decode cX3_copy 19 = .ok (.aload 6, 2) := by decide +kernel
theorem dX3_copy_21 : decode cX3_copy 21 = .ok (.ifnull 8, 3) := by decide +kernel
theorem dX3_copy_24 : decode cX3_copy 24 = .ok (.aload 7, 2) := by decide +kernel
theorem dX3_copy_26 : decode cX3_copy 26 = .ok (.ifnonnull 5, 3) := by decide +kernel
theorem dX3_copy_29 : decode cX3_copy 29 = .ok (.iconst (-1), 1) := by decide +kernel
theorem dX3_copy_30 : decode cX3_copy 30 = .ok (.ireturn, 1) := by decide +kernel
theorem dX3_copy_31 : decode cX3_copy 31 = .ok (.aload 6, 2) := by decide +kernel
theorem dX3_copy_33 : decode cX3_copy 33 = .ok (.invokevirtual 191, 3) := by decide +kernel
theorem dX3_copy_36 : decode cX3_copy 36 = .ok (.ifCond .eq 11, 3) := by decide +kernel
theorem dX3_copy_39 : decode cX3_copy 39 = .ok (.aload 7, 2) := by decide +kernel
theorem dX3_copy_41 : decode cX3_copy 41 = .ok (.invokevirtual 191, 3) := by decide +kernel
theorem dX3_copy_44 : decode cX3_copy 44 = .ok (.ifCond .ne 9, 3) := by decide +kernel
theorem dX3_copy_47 : decode cX3_copy 47 = .ok (.aload_n 0, 1) := by decide +kernel
theorem dX3_copy_48 : decode cX3_copy 48 = .ok (.iconst 1, 1) := by decide +kernel
theorem dX3_copy_49 : decode cX3_copy 49 = .ok (.invokevirtual 58, 3) := by decide +kernel
theorem dX3_copy_52 : decode cX3_copy 52 = .ok (.ireturn, 1) := by decide +kernel
theorem dX3_copy_53 : decode cX3_copy 53 = .ok (.aload 6, 2) := by decide +kernel
theorem dX3_copy_55 : decode cX3_copy 55 = .ok (.getfield 195, 3) := by decide +kernel
theorem dX3_copy_58 : decode cX3_copy 58 = .ok (.aload 7, 2) := by decide +kernel
theorem dX3_copy_60 : decode cX3_copy 60 = .ok (.getfield 195, 3) := by decide +kernel
theorem dX3_copy_63 : decode cX3_copy 63 = .ok (.if_icmp .eq 9, 3) := by decide +kernel
theorem dX3_copy_66 : decode cX3_copy 66 = .ok (.aload_n 0, 1) := by decide +kernel
theorem dX3_copy_67 : decode cX3_copy 67 = .ok (.iconst 2, 1) := by decide +kernel
theorem dX3_copy_68 : decode cX3_copy 68 = .ok (.invokevirtual 58, 3) := by decide +kernel
theorem dX3_copy_71 : decode cX3_copy 71 = .ok (.ireturn, 1) := by decide +kernel
theorem dX3_copy_72 : decode cX3_copy 72 = .ok (.aload 6, 2) := by decide +kernel
theorem dX3_copy_74 : decode cX3_copy 74 = .ok (.iload_n 2, 1) := by decide +kernel
theorem dX3_copy_75 : decode cX3_copy 75 = .ok (.iload 5, 2) := by decide +kernel
theorem dX3_copy_77 : decode cX3_copy 77 = .ok (.invokevirtual 201, 3) := by decide +kernel
theorem dX3_copy_80 : decode cX3_copy 80 = .ok (.ifCond .eq 15, 3) := by decide +kernel
theorem dX3_copy_83 : decode cX3_copy 83 = .ok (.aload 7, 2) := by decide +kernel
theorem dX3_copy_85 : decode cX3_copy 85 = .ok (.iload 4, 2) := by decide +kernel
theorem dX3_copy_87 : decode cX3_copy 87 = .ok (.iload 5, 2) := by decide +kernel
theorem dX3_copy_89 : decode cX3_copy 89 = .ok (.invokevirtual 201, 3) := by decide +kernel
theorem dX3_copy_92 : decode cX3_copy 92 = .ok (.ifCond .ne 9, 3) := by decide +kernel
theorem dX3_copy_95 : decode cX3_copy 95 = .ok (.aload_n 0, 1) := by decide +kernel
theorem dX3_copy_96 : decode cX3_copy 96 = .ok (.iconst 3, 1) := by decide +kernel
theorem dX3_copy_97 : decode cX3_copy 97 = .ok (.invokevirtual 58, 3) := by decide +kernel
theorem dX3_copy_100 : decode cX3_copy 100 = .ok (.ireturn, 1) := by decide +kernel
theorem dX3_copy_101 : decode cX3_copy 101 = .ok (.aload 6, 2) := by decide +kernel
theorem dX3_copy_103 : decode cX3_copy 103 = .ok (.getfield 137, 3) := by decide +kernel
theorem dX3_copy_106 : decode cX3_copy 106 = .ok (.iload_n 2, 1) := by decide +kernel
theorem dX3_copy_107 : decode cX3_copy 107 = .ok (.aload 7, 2) := by decide +kernel
theorem dX3_copy_109 : decode cX3_copy 109 = .ok (.getfield 137, 3) := by decide +kernel
theorem dX3_copy_112 : decode cX3_copy 112 = .ok (.iload 4, 2) := by decide +kernel
theorem dX3_copy_114 : decode cX3_copy 114 = .ok (.iload 5, 2) := by decide +kernel
theorem dX3_copy_116 : decode cX3_copy 116 = .ok (.invokestatic 204, 3) := by decide +kernel
theorem dX3_copy_119 : decode cX3_copy 119 = .ok (.iload 5, 2) := by decide +kernel
theorem dX3_copy_121 : decode cX3_copy 121 = .ok (.ireturn, 1) := by decide +kernel
set_option maxRecDepth 20000 in
theorem ggX3_tell_X2_hasWard : GoodIn wsX3_tell wsX2_hasWard := goodIn_r _ [7, 8, 38, 39, 40, 41, 42, 43, 44, 45, 46, 47, 48, 49, 50, 51, 52, 53, 54, 55] (by decide +kernel) (by decide +kernel)
set_option maxRecDepth 20000 in
theorem gX3_tell_X2_hasWard : GoodIn wsX3_tell (wsV RX3 76 RX2 yX2_hasWard wsX2_hasWard) := goodIn_app (goodIn_of _ (by decide +kernel)) ggX3_tell_X2_hasWard
set_option maxRecDepth 20000 in
theorem ggX3_tell_X3_read : GoodIn wsX3_tell wsX3_read := goodIn_r _ [12] (by decide +kernel) (by decide +kernel)
set_option maxRecDepth 20000 in
theorem gX3_tell_X3_read : GoodIn wsX3_tell (va_wsS RX3 83 yX3_read wsX3_read) := goodIn_app (goodIn_of _ (by decide +kernel)) ggX3_tell_X3_read
set_option maxRecDepth 20000 in
theorem ggX3_tell_X3_tellFine : GoodIn wsX3_tell wsX3_tellFine := goodIn_r _ [16, 17, 18, 19, 11, 20, 21, 22, 23, 24, 25, 26, 27, 28, 29, 1, 30, 9, 10, 12, 31, 32, 33, 34, 35, 36, 37, 38, 39, 40, 41, 42, 43, 44, 45, 46, 47, 48, 49, 50, 51, 52, 53, 54, 55] (by decide +kernel) (by decide +kernel)
set_option maxRecDepth 20000 in
theorem gX3_tell_X3_tellFine : GoodIn wsX3_tell (wsV RX3 210 RX3 yX3_tellFine wsX3_tellFine) := goodIn_app (goodIn_of _ (by decide +kernel)) ggX3_tell_X3_tellFine
set_option maxRecDepth 20000 in
theorem ggX3_tell_X3_tellRich : GoodIn wsX3_tell wsX3_tellRich := goodIn_r _ [25, 17, 18, 19, 11, 20, 21, 26, 27, 28, 29, 1, 30, 9, 10, 12, 31, 32, 33, 34, 35, 36, 37, 38, 39, 40, 41, 42, 43, 44, 45, 46, 47, 48, 49, 50, 51, 52, 53, 54, 55] (by decide +kernel) (by decide +kernel)
set_option maxRecDepth 20000 in
theorem gX3_tell_X3_tellRich : GoodIn wsX3_tell (wsV RX3 213 RX3 yX3_tellRich wsX3_tellRich) := goodIn_app (goodIn_of _ (by decide +kernel)) ggX3_tell_X3_tellRich
set_option maxRecDepth 20000 in
theorem ggX3_tell_X3_tellWard : GoodIn wsX3_tell wsX3_tellWard := goodIn_r _ [29, 1, 30, 17, 18, 19, 11, 20, 21, 9, 10, 12, 31, 32, 33, 34, 35, 36, 37, 38, 39, 40, 41, 42, 43, 44, 45, 46, 47, 48, 49, 50, 51, 52, 53, 54, 55] (by decide +kernel) (by decide +kernel)
set_option maxRecDepth 20000 in
theorem gX3_tell_X3_tellWard : GoodIn wsX3_tell (wsV RX3 216 RX3 yX3_tellWard wsX3_tellWard) := goodIn_app (goodIn_of _ (by decide +kernel)) ggX3_tell_X3_tellWard
theorem dX3_tell_0 : decode cX3_tell 0 = .ok (.aload_n 0, 1) := by decide +kernel
theorem dX3_tell_1 : decode cX3_tell 1 = .ok (.getfield 31, 3) := by decide +kernel
theorem dX3_tell_4 : decode cX3_tell 4 = .ok (.iload_n 1, 1) := by decide +kernel
theorem dX3_tell_5 : decode cX3_tell 5 = .ok (.invokevirtual 76, 3) := by decide +kernel
theorem dX3_tell_8 : decode cX3_tell 8 = .ok (.ifCond .ne 5, 3) := by decide +kernel
theorem dX3_tell_11 : decode cX3_tell 11 = .ok (.iconst (-1), 1) := by decide +kernel
theorem dX3_tell_12 : decode cX3_tell 12 = .ok (.ireturn, 1) := by decide +kernel
theorem dX3_tell_13 : decode cX3_tell 13 = .ok (.aload_n 0, 1) := by decide +kernel
theorem dX3_tell_14 : decode cX3_tell 14 = .ok (.getfield 31, 3) := by decide +kernel
theorem dX3_tell_17 : decode cX3_tell 17 = .ok (.getfield 80, 3) := by decide +kernel
theorem dX3_tell_20 : decode cX3_tell 20 = .ok (.iload_n 1, 1) := by decide +kernel
theorem dX3_tell_21 : decode cX3_tell 21 = .ok (.invokestatic 83, 3) := by decide +kernel
theorem dX3_tell_24 : decode cX3_tell 24 = .ok (.lookupswitch 40 #[(1, 34), (2, 28)], 28) := by decide +kernel
theorem dX3_tell_52 : decode cX3_tell 52 = .ok (.aload_n 0, 1) := by decide +kernel
theorem dX3_tell_53 : decode cX3_tell 53 = .ok (.iload_n 1, 1) := by decide +kernel
theorem dX3_tell_54 : decode cX3_tell 54 = .ok (.invokevirtual 210, 3) := by decide +kernel
theorem dX3_tell_57 : decode cX3_tell 57 = .ok (.ireturn, 1) := by decide +kernel
theorem dX3_tell_58 : decode cX3_tell 58 = .ok (.aload_n 0, 1) := by decide +kernel
theorem dX3_tell_59 : decode cX3_tell 59 = .ok (.iload_n 1, 1) := by decide +kernel
theorem dX3_tell_60 : decode cX3_tell 60 = .ok (.invokevirtual 213, 3) := by decide +kernel
theorem dX3_tell_63 : decode cX3_tell 63 = .ok (.ireturn, 1) := by decide +kernel
theorem dX3_tell_64 : decode cX3_tell 64 = .ok (.aload_n 0, 1) := by decide +kernel
theorem dX3_tell_65 : decode cX3_tell 65 = .ok (.iload_n 1, 1) := by decide +kernel
theorem dX3_tell_66 : decode cX3_tell 66 = .ok (.invokevirtual 216, 3) := by decide +kernel
theorem dX3_tell_69 : decode cX3_tell 69 = .ok (.ireturn, 1) := by decide +kernel
set_option maxRecDepth 20000 in
theorem ggX3_woo_X2_hasWard : GoodIn wsX3_woo wsX2_hasWard := goodIn_r _ [7, 8, 25, 26, 27, 28, 29, 30, 31, 32, 33, 34, 35, 36, 37, 38, 39, 40, 41, 42] (by decide +kernel) (by decide +kernel)
set_option maxRecDepth 20000 in
theorem gX3_woo_X2_hasWard : GoodIn wsX3_woo (wsV RX3 76 RX2 yX2_hasWard wsX2_hasWard) := goodIn_app (goodIn_of _ (by decide +kernel)) ggX3_woo_X2_hasWard
set_option maxRecDepth 20000 in
theorem ggX3_woo_X3_read : GoodIn wsX3_woo wsX3_read := goodIn_r _ [12] (by decide +kernel) (by decide +kernel)
set_option maxRecDepth 20000 in
theorem gX3_woo_X3_read : GoodIn wsX3_woo (va_wsS RX3 83 yX3_read wsX3_read) := goodIn_app (goodIn_of _ (by decide +kernel)) ggX3_woo_X3_read
set_option maxRecDepth 20000 in
theorem ggX3_woo_X3_leave : GoodIn wsX3_woo wsX3_leave := goodIn_r _ [16, 17, 18, 19, 20, 21, 22, 23, 24] (by decide +kernel) (by decide +kernel)
set_option maxRecDepth 20000 in
theorem gX3_woo_X3_leave : GoodIn wsX3_woo (wsV RX3 219 RX3 yX3_leave wsX3_leave) := goodIn_app (goodIn_of _ (by decide +kernel)) ggX3_woo_X3_leave
theorem dX3_woo_0 : decode cX3_woo 0 = .ok (.aload_n 0, 1) := by decide +kernel
theorem dX3_woo_1 : decode cX3_woo 1 = .ok (.getfield 31, 3) := by decide +kernel
theorem dX3_woo_4 : decode cX3_woo 4 = .ok (.iload_n 1, 1) := by decide +kernel
theorem dX3_woo_5 : decode cX3_woo 5 = .ok (.invokevirtual 76, 3) := by decide +kernel
theorem dX3_woo_8 : decode cX3_woo 8 = .ok (.ifCond .ne 5, 3) := by decide +kernel
theorem dX3_woo_11 : decode cX3_woo 11 = .ok (.iconst (-1), 1) := by decide +kernel
theorem dX3_woo_12 : decode cX3_woo 12 = .ok (.ireturn, 1) := by decide +kernel
theorem dX3_woo_13 : decode cX3_woo 13 = .ok (.aload_n 0, 1) := by decide +kernel
theorem dX3_woo_14 : decode cX3_woo 14 = .ok (.getfield 31, 3) := by decide +kernel
theorem dX3_woo_17 : decode cX3_woo 17 = .ok (.getfield 80, 3) := by decide +kernel
theorem dX3_woo_20 : decode cX3_woo 20 = .ok (.iload_n 1, 1) := by decide +kernel
theorem dX3_woo_21 : decode cX3_woo 21 = .ok (.invokestatic 83, 3) := by decide +kernel
theorem dX3_woo_24 : decode cX3_woo 24 = .ok (.iconst 2, 1) := by decide +kernel
theorem dX3_woo_25 : decode cX3_woo 25 = .ok (.if_icmp .ne 11, 3) := by decide +kernel
theorem dX3_woo_28 : decode cX3_woo 28 = .ok (.aload_n 0, 1) := by decide +kernel
theorem dX3_woo_29 : decode cX3_woo 29 = .ok (.iconst 5, 1) := by decide +kernel
theorem dX3_woo_30 : decode cX3_woo 30 = .ok (.invokevirtual 219, 3) := by decide +kernel
theorem dX3_woo_33 : decode cX3_woo 33 = .ok (.bipush 60, 2) := by decide +kernel
theorem dX3_woo_35 : decode cX3_woo 35 = .ok (.ireturn, 1) := by decide +kernel
theorem dX3_woo_36 : decode cX3_woo 36 = .ok (.aload_n 0, 1) := by decide +kernel
theorem dX3_woo_37 : decode cX3_woo 37 = .ok (.iconst 4, 1) := by decide +kernel
theorem dX3_woo_38 : decode cX3_woo 38 = .ok (.invokevirtual 219, 3) := by decide +kernel
theorem dX3_woo_41 : decode cX3_woo 41 = .ok (.iload_n 1, 1) := by decide +kernel
theorem dX3_woo_42 : decode cX3_woo 42 = .ok (.ireturn, 1) := by decide +kernel
set_option maxRecDepth 20000 in
theorem ggX3_as_X2_hasWard : GoodIn wsX3_as wsX2_hasWard := goodIn_r _ [8, 9, 28, 29, 30, 31, 32, 33, 34, 35, 36, 37, 38, 39, 40, 41, 42, 43, 44, 45] (by decide +kernel) (by decide +kernel)
set_option maxRecDepth 20000 in
theorem gX3_as_X2_hasWard : GoodIn wsX3_as (wsV RX3 76 RX2 yX2_hasWard wsX2_hasWard) := goodIn_app (goodIn_of _ (by decide +kernel)) ggX3_as_X2_hasWard
set_option maxRecDepth 20000 in
theorem ggX3_as_X3_isUpTo : GoodIn wsX3_as wsX3_isUpTo := goodIn_r _ [13] (by decide +kernel) (by decide +kernel)
set_option maxRecDepth 20000 in
theorem gX3_as_X3_isUpTo : GoodIn wsX3_as (va_wsS RX3 50 yX3_isUpTo wsX3_isUpTo) := goodIn_app (goodIn_of _ (by decide +kernel)) ggX3_as_X3_isUpTo
set_option maxRecDepth 20000 in
theorem ggX3_as_X3_read : GoodIn wsX3_as wsX3_read := goodIn_r _ [16] (by decide +kernel) (by decide +kernel)
set_option maxRecDepth 20000 in
theorem gX3_as_X3_read : GoodIn wsX3_as (va_wsS RX3 83 yX3_read wsX3_read) := goodIn_app (goodIn_of _ (by decide +kernel)) ggX3_as_X3_read
set_option maxRecDepth 20000 in
theorem ggX3_as_X3_fail : GoodIn wsX3_as wsX3_fail := goodIn_r _ [20, 1, 21, 22, 23, 24, 25, 26, 27] (by decide +kernel) (by decide +kernel)
set_option maxRecDepth 20000 in
theorem gX3_as_X3_fail : GoodIn wsX3_as (wsV RX3 58 RX3 yX3_fail wsX3_fail) := goodIn_app (goodIn_of _ (by decide +kernel)) ggX3_as_X3_fail
theorem dX3_as_0 : decode cX3_as 0 = .ok (.aload_n 0, 1) := by decide +kernel
theorem dX3_as_1 : decode cX3_as 1 = .ok (.iconst 0, 1) := by decide +kernel
theorem dX3_as_2 : decode cX3_as 2 = .ok (.putfield 42, 3) := by decide +kernel
theorem dX3_as_5 : decode cX3_as 5 = .ok (.aload_n 0, 1) := by decide +kernel
theorem dX3_as_6 : decode cX3_as 6 = .ok (.getfield 31, 3) := by decide +kernel
theorem dX3_as_9 : decode cX3_as 9 = .ok (.iload_n 1, 1) := by decide +kernel
theorem dX3_as_10 : decode cX3_as 10 = .ok (.invokevirtual 76, 3) := by decide +kernel
theorem dX3_as_13 : decode cX3_as 13 = .ok (.ifCond .ne 5, 3) := by decide +kernel
theorem dX3_as_16 : decode cX3_as 16 = .ok (.iconst (-1), 1) := by decide +kernel
theorem dX3_as_17 : decode cX3_as 17 = .ok (.ireturn, 1) := by decide +kernel
theorem dX3_as_18 : decode cX3_as 18 = .ok (.iload_n 2, 1) := by decide +kernel
theorem dX3_as_19 : decode cX3_as 19 = .ok (.iconst 2, 1) := by decide +kernel
theorem dX3_as_20 : decode cX3_as 20 = .ok (.invokestatic 50, 3) := by decide +kernel
theorem dX3_as_23 : decode cX3_as 23 = .ok (.ifCond .ne 6, 3) := by decide +kernel
theorem dX3_as_26 : decode cX3_as 26 = .ok (.bipush (-2), 2) := by decide +kernel
theorem dX3_as_28 : decode cX3_as 28 = .ok (.ireturn, 1) := by decide +kernel
theorem dX3_as_29 : decode cX3_as 29 = .ok (.aload_n 0, 1) := by decide +kernel
theorem dX3_as_30 : decode cX3_as 30 = .ok (.getfield 31, 3) := by decide +kernel
theorem dX3_as_33 : decode cX3_as 33 = .ok (.getfield 80, 3) := by decide +kernel
theorem dX3_as_36 : decode cX3_as 36 = .ok (.iload_n 1, 1) := by decide +kernel
theorem dX3_as_37 : decode cX3_as 37 = .ok (.invokestatic 83, 3) := by decide +kernel
theorem dX3_as_40 : decode cX3_as 40 = .ok (.iload_n 2, 1) := by decide +kernel
theorem dX3_as_41 : decode cX3_as 41 = .ok (.if_icmp .lt 7, 3) := by decide +kernel
theorem dX3_as_44 : decode cX3_as 44 = .ok (.iconst 1, 1) := by decide +kernel
theorem dX3_as_45 : decode cX3_as 45 = .ok (.goto 8, 3) := by decide +kernel
theorem dX3_as_48 : decode cX3_as 48 = .ok (.aload_n 0, 1) := by decide +kernel
theorem dX3_as_49 : decode cX3_as 49 = .ok (.iconst 2, 1) := by decide +kernel
theorem dX3_as_50 : decode cX3_as 50 = .ok (.invokevirtual 58, 3) := by decide +kernel
theorem dX3_as_53 : decode cX3_as 53 = .ok (.ireturn, 1) := by decide +kernel
theorem dX3_trace_0 : decode cX3_trace 0 = .ok (.aload_n 0, 1) := by decide +kernel
theorem dX3_trace_1 : decode cX3_trace 1 = .ok (.getfield 38, 3) := by decide +kernel
theorem dX3_trace_4 : decode cX3_trace 4 = .ok (.ireturn, 1) := by decide +kernel
theorem dX3_fault_0 : decode cX3_fault 0 = .ok (.aload_n 0, 1) := by decide +kernel
theorem dX3_fault_1 : decode cX3_fault 1 = .ok (.getfield 42, 3) := by decide +kernel
theorem dX3_fault_4 : decode cX3_fault 4 = .ok (.ireturn, 1) := by decide +kernel
theorem dX3_many_0 : decode cX3_many 0 = .ok (.iload_n 1, 1) := by decide +kernel
theorem dX3_many_1 : decode cX3_many 1 = .ok (.tableswitch 75 0 4 #[35, 43, 51, 59, 67], 35) := by decide +kernel
theorem dX3_many_36 : decode cX3_many 36 = .ok (.aload_n 0, 1) := by decide +kernel
theorem dX3_many_37 : decode cX3_many 37 = .ok (.getfield 31, 3) := by decide +kernel
theorem dX3_many_40 : decode cX3_many 40 = .ok (.getfield 223, 3) := by decide +kernel
theorem dX3_many_43 : decode cX3_many 43 = .ok (.ireturn, 1) := by decide +kernel
theorem dX3_many_44 : decode cX3_many 44 = .ok (.aload_n 0, 1) := by decide +kernel
theorem dX3_many_45 : decode cX3_many 45 = .ok (.getfield 31, 3) := by decide +kernel
theorem dX3_many_48 : decode cX3_many 48 = .ok (.getfield 134, 3) := by decide +kernel
theorem dX3_many_51 : decode cX3_many 51 = .ok (.ireturn, 1) := by decide +kernel
theorem dX3_many_52 : decode cX3_many 52 = .ok (.aload_n 0, 1) := by decide +kernel
theorem dX3_many_53 : decode cX3_many 53 = .ok (.getfield 31, 3) := by decide +kernel
theorem dX3_many_56 : decode cX3_many 56 = .ok (.getfield 73, 3) := by decide +kernel
theorem dX3_many_59 : decode cX3_many 59 = .ok (.ireturn, 1) := by decide +kernel
theorem dX3_many_60 : decode cX3_many 60 = .ok (.aload_n 0, 1) := by decide +kernel
theorem dX3_many_61 : decode cX3_many 61 = .ok (.getfield 31, 3) := by decide +kernel
theorem dX3_many_64 : decode cX3_many 64 = .ok (.getfield 116, 3) := by decide +kernel
theorem dX3_many_67 : decode cX3_many 67 = .ok (.ireturn, 1) := by decide +kernel
theorem dX3_many_68 : decode cX3_many 68 = .ok (.aload_n 0, 1) := by decide +kernel
theorem dX3_many_69 : decode cX3_many 69 = .ok (.getfield 31, 3) := by decide +kernel
theorem dX3_many_72 : decode cX3_many 72 = .ok (.getfield 166, 3) := by decide +kernel
theorem dX3_many_75 : decode cX3_many 75 = .ok (.ireturn, 1) := by decide +kernel
theorem dX3_many_76 : decode cX3_many 76 = .ok (.bipush (-2), 2) := by decide +kernel
theorem dX3_many_78 : decode cX3_many 78 = .ok (.ireturn, 1) := by decide +kernel
theorem dX3_isUpTo_0 : decode cX3_isUpTo 0 = .ok (.iload_n 0, 1) := by decide +kernel
theorem dX3_isUpTo_1 : decode cX3_isUpTo 1 = .ok (.ifCond .lt 12, 3) := by decide +kernel
theorem dX3_isUpTo_4 : decode cX3_isUpTo 4 = .ok (.iload_n 0, 1) := by decide +kernel
theorem dX3_isUpTo_5 : decode cX3_isUpTo 5 = .ok (.iload_n 1, 1) := by decide +kernel
theorem dX3_isUpTo_6 : decode cX3_isUpTo 6 = .ok (.if_icmp .gt 7, 3) := by decide +kernel
theorem dX3_isUpTo_9 : decode cX3_isUpTo 9 = .ok (.iconst 1, 1) := by decide +kernel
theorem dX3_isUpTo_10 : decode cX3_isUpTo 10 = .ok (.goto 4, 3) := by decide +kernel
theorem dX3_isUpTo_13 : decode cX3_isUpTo 13 = .ok (.iconst 0, 1) := by decide +kernel
theorem dX3_isUpTo_14 : decode cX3_isUpTo 14 = .ok (.ireturn, 1) := by decide +kernel
theorem dX3_read_0 : decode cX3_read 0 = .ok (.iload_n 1, 1) := by decide +kernel
theorem dX3_read_1 : decode cX3_read 1 = .ok (.ifCond .lt 15, 3) := by decide +kernel
theorem dX3_read_4 : decode cX3_read 4 = .ok (.iload_n 1, 1) := by decide +kernel
theorem dX3_read_5 : decode cX3_read 5 = .ok (.aload_n 0, 1) := by decide +kernel
theorem dX3_read_6 : decode cX3_read 6 = .ok (.arraylength, 1) := by decide +kernel
theorem dX3_read_7 : decode cX3_read 7 = .ok (.if_icmp .ge 9, 3) := by decide +kernel
theorem dX3_read_10 : decode cX3_read 10 = .ok (.aload_n 0, 1) := by decide +kernel
theorem dX3_read_11 : decode cX3_read 11 = .ok (.iload_n 1, 1) := by decide +kernel
theorem dX3_read_12 : decode cX3_read 12 = .ok (.iaload, 1) := by decide +kernel
theorem dX3_read_13 : decode cX3_read 13 = .ok (.goto 4, 3) := by decide +kernel
theorem dX3_read_16 : decode cX3_read 16 = .ok (.iconst 0, 1) := by decide +kernel
theorem dX3_read_17 : decode cX3_read 17 = .ok (.ireturn, 1) := by decide +kernel
theorem dX3_write_0 : decode cX3_write 0 = .ok (.iload_n 1, 1) := by decide +kernel
theorem dX3_write_1 : decode cX3_write 1 = .ok (.ifCond .lt 13, 3) := by decide +kernel
theorem dX3_write_4 : decode cX3_write 4 = .ok (.iload_n 1, 1) := by decide +kernel
theorem dX3_write_5 : decode cX3_write 5 = .ok (.aload_n 0, 1) := by decide +kernel
theorem dX3_write_6 : decode cX3_write 6 = .ok (.arraylength, 1) := by decide +kernel
theorem dX3_write_7 : decode cX3_write 7 = .ok (.if_icmp .ge 7, 3) := by decide +kernel
theorem dX3_write_10 : decode cX3_write 10 = .ok (.aload_n 0, 1) := by decide +kernel
theorem dX3_write_11 : decode cX3_write 11 = .ok (.iload_n 1, 1) := by decide +kernel
theorem dX3_write_12 : decode cX3_write 12 = .ok (.iload_n 2, 1) := by decide +kernel
theorem dX3_write_13 : decode cX3_write 13 = .ok (.iastore, 1) := by decide +kernel
theorem dX3_write_14 : decode cX3_write 14 = .ok (.return_, 1) := by decide +kernel
theorem dX3_sheetAt_0 : decode cX3_sheetAt 0 = .ok (.iload_n 1, 1) := by decide +kernel
theorem dX3_sheetAt_1 : decode cX3_sheetAt 1 = .ok (.ifCond .lt 21, 3) := by decide +kernel
theorem dX3_sheetAt_4 : decode cX3_sheetAt 4 = .ok (.iload_n 1, 1) := by decide +kernel
theorem dX3_sheetAt_5 : decode cX3_sheetAt 5 = .ok (.aload_n 0, 1) := by decide +kernel
theorem dX3_sheetAt_6 : decode cX3_sheetAt 6 = .ok (.getfield 13, 3) := by decide +kernel
theorem dX3_sheetAt_9 : decode cX3_sheetAt 9 = .ok (.arraylength, 1) := by decide +kernel
theorem dX3_sheetAt_10 : decode cX3_sheetAt 10 = .ok (.if_icmp .ge 12, 3) := by decide +kernel
theorem dX3_sheetAt_13 : decode cX3_sheetAt 13 = .ok (.aload_n 0, 1) := by decide +kernel
theorem dX3_sheetAt_14 : decode cX3_sheetAt 14 = .ok (.getfield 13, 3) := by decide +kernel
theorem dX3_sheetAt_17 : decode cX3_sheetAt 17 = .ok (.iload_n 1, 1) := by decide +kernel
theorem dX3_sheetAt_18 : decode cX3_sheetAt 18 = .ok (.aaload, 1) := by decide +kernel
theorem dX3_sheetAt_19 : decode cX3_sheetAt 19 = .ok (.goto 4, 3) := by decide +kernel
theorem dX3_sheetAt_22 : decode cX3_sheetAt 22 = .ok (.aconst_null, 1) := by decide +kernel
theorem dX3_sheetAt_23 : decode cX3_sheetAt 23 = .ok (.areturn, 1) := by decide +kernel
theorem dX3_fail_0 : decode cX3_fail 0 = .ok (.aload_n 0, 1) := by decide +kernel
theorem dX3_fail_1 : decode cX3_fail 1 = .ok (.iload_n 1, 1) := by decide +kernel
theorem dX3_fail_2 : decode cX3_fail 2 = .ok (.putfield 42, 3) := by decide +kernel
theorem dX3_fail_5 : decode cX3_fail 5 = .ok (.bipush (-10), 2) := by decide +kernel
theorem dX3_fail_7 : decode cX3_fail 7 = .ok (.iload_n 1, 1) := by decide +kernel
theorem dX3_fail_8 : decode cX3_fail 8 = .ok (.isub, 1) := by decide +kernel
theorem dX3_fail_9 : decode cX3_fail 9 = .ok (.ireturn, 1) := by decide +kernel
set_option maxRecDepth 20000 in
theorem ggX3_leastBy_X2_leastSetting : GoodIn wsX3_leastBy wsX2_leastSetting := goodIn_r _ [7, 8, 9, 10, 11, 6, 12, 13, 14, 15, 16, 17, 18, 19, 20, 21, 22, 23, 24, 25, 26, 27, 28, 29, 30, 31, 32, 33, 34, 35, 36, 37, 38, 39, 40, 41, 42, 43, 44, 45, 46, 47, 48, 49, 50, 51, 52, 53, 54, 55, 56, 57, 76, 77, 78, 79, 80, 81, 82, 83, 84, 85, 86, 87, 88, 89, 90, 91, 92, 93] (by decide +kernel) (by decide +kernel)
set_option maxRecDepth 20000 in
theorem gX3_leastBy_X2_leastSetting : GoodIn wsX3_leastBy (wsV RX3 226 RX2 yX2_leastSetting wsX2_leastSetting) := goodIn_app (goodIn_of _ (by decide +kernel)) ggX3_leastBy_X2_leastSetting
set_option maxRecDepth 20000 in
theorem ggX3_leastBy_X2_mostMindedBy : GoodIn wsX3_leastBy wsX2_mostMindedBy := goodIn_r _ [17, 18, 19, 20, 21, 22, 23, 24, 25, 6, 26, 27, 28, 29, 30, 31, 32, 33, 34, 35, 36, 37, 38, 39, 40, 13, 41, 42, 43, 44, 45, 46, 47, 48, 49, 50, 51, 52, 53, 76, 77, 78, 79, 80, 81, 82, 83, 84, 85, 86, 87, 88, 89, 90, 91, 92, 93] (by decide +kernel) (by decide +kernel)
set_option maxRecDepth 20000 in
theorem gX3_leastBy_X2_mostMindedBy : GoodIn wsX3_leastBy (wsV RX3 230 RX2 yX2_mostMindedBy wsX2_mostMindedBy) := goodIn_app (goodIn_of _ (by decide +kernel)) ggX3_leastBy_X2_mostMindedBy
set_option maxRecDepth 20000 in
theorem ggX3_leastBy_X2_burdenBy : GoodIn wsX3_leastBy wsX2_burdenBy := goodIn_r _ [57, 18, 23, 24, 25, 6, 26, 27, 28, 29, 30, 31, 32, 33, 34, 35, 36, 37, 38, 39, 40, 13, 41, 42, 19, 20, 21, 22, 43, 44, 45, 46, 47, 48, 49, 50, 51, 52, 53, 76, 77, 78, 79, 80, 81, 82, 83, 84, 85, 86, 87, 88, 89, 90, 91, 92, 93] (by decide +kernel) (by decide +kernel)
set_option maxRecDepth 20000 in
theorem gX3_leastBy_X2_burdenBy : GoodIn wsX3_leastBy (wsV RX3 131 RX2 yX2_burdenBy wsX2_burdenBy) := goodIn_app (goodIn_of _ (by decide +kernel)) ggX3_leastBy_X2_burdenBy
set_option maxRecDepth 20000 in
theorem ggX3_leastBy_X3_vaneOrNone : GoodIn wsX3_leastBy wsX3_vaneOrNone := goodIn_r _ [63, 1, 64, 65, 66, 6, 67, 13, 68, 48, 49, 50, 69, 70, 71, 72, 73, 74, 75, 76, 77, 78, 79, 80, 81, 82, 83, 84, 85, 86, 87, 88, 89, 90, 91, 92, 93] (by decide +kernel) (by decide +kernel)
set_option maxRecDepth 20000 in
theorem gX3_leastBy_X3_vaneOrNone : GoodIn wsX3_leastBy (wsV RX3 182 RX3 yX3_vaneOrNone wsX3_vaneOrNone) := goodIn_app (goodIn_of _ (by decide +kernel)) ggX3_leastBy_X3_vaneOrNone
theorem dX3_leastBy_0 : decode cX3_leastBy 0 = .ok (.iload_n 1, 1) := by decide +kernel
theorem dX3_leastBy_1 : decode cX3_leastBy 1 = .ok (.iconst (-1), 1) := by decide +kernel
theorem dX3_leastBy_2 : decode cX3_leastBy 2 = .ok (.if_icmp .ge 5, 3) := by decide +kernel
theorem dX3_leastBy_5 : decode cX3_leastBy 5 = .ok (.iconst (-1), 1) := by decide +kernel
theorem dX3_leastBy_6 : decode cX3_leastBy 6 = .ok (.ireturn, 1) := by decide +kernel
theorem dX3_leastBy_7 : decode cX3_leastBy 7 = .ok (.aload_n 0, 1) := by decide +kernel
theorem dX3_leastBy_8 : decode cX3_leastBy 8 = .ok (.getfield 31, 3) := by decide +kernel
theorem dX3_leastBy_11 : decode cX3_leastBy 11 = .ok (.getfield 112, 3) := by decide +kernel
theorem dX3_leastBy_14 : decode cX3_leastBy 14 = .ok (.ifCond .ne 6, 3) := by decide +kernel
theorem dX3_leastBy_17 : decode cX3_leastBy 17 = .ok (.bipush (-3), 2) := by decide +kernel
theorem dX3_leastBy_19 : decode cX3_leastBy 19 = .ok (.ireturn, 1) := by decide +kernel
theorem dX3_leastBy_20 : decode cX3_leastBy 20 = .ok (.aload_n 0, 1) := by decide +kernel
theorem dX3_leastBy_21 : decode cX3_leastBy 21 = .ok (.getfield 31, 3) := by decide +kernel
theorem dX3_leastBy_24 : decode cX3_leastBy 24 = .ok (.iload_n 2, 1) := by decide +kernel
theorem dX3_leastBy_25 : decode cX3_leastBy 25 = .ok (.invokevirtual 226, 3) := by decide +kernel
theorem dX3_leastBy_28 : decode cX3_leastBy 28 = .ok (.istore_n 3, 1) := by decide +kernel
theorem dX3_leastBy_29 : decode cX3_leastBy 29 = .ok (.iload_n 1, 1) := by decide +kernel
theorem dX3_leastBy_30 : decode cX3_leastBy 30 = .ok (.iconst (-1), 1) := by decide +kernel
theorem dX3_leastBy_31 : decode cX3_leastBy 31 = .ok (.if_icmp .ne 27, 3) := by decide +kernel
theorem dX3_leastBy_34 : decode cX3_leastBy 34 = .ok (.iload_n 2, 1) := by decide +kernel
theorem dX3_leastBy_35 : decode cX3_leastBy 35 = .ok (.ifCond .eq 14, 3) := by decide +kernel
theorem dX3_leastBy_38 : decode cX3_leastBy 38 = .ok (.aload_n 0, 1) := by decide +kernel
theorem dX3_leastBy_39 : decode cX3_leastBy 39 = .ok (.getfield 31, 3) := by decide +kernel
theorem dX3_leastBy_42 : decode cX3_leastBy 42 = .ok (.iload_n 3, 1) := by decide +kernel
theorem dX3_leastBy_43 : decode cX3_leastBy 43 = .ok (.invokevirtual 230, 3) := by decide +kernel
theorem dX3_leastBy_46 : decode cX3_leastBy 46 = .ok (.goto 11, 3) := by decide +kernel
theorem dX3_leastBy_49 : decode cX3_leastBy 49 = .ok (.aload_n 0, 1) := by decide +kernel
theorem dX3_leastBy_50 : decode cX3_leastBy 50 = .ok (.getfield 31, 3) := by decide +kernel
theorem dX3_leastBy_53 : decode cX3_leastBy 53 = .ok (.iload_n 3, 1) := by decide +kernel
theorem dX3_leastBy_54 : decode cX3_leastBy 54 = .ok (.invokevirtual 131, 3) := by decide +kernel
theorem dX3_leastBy_57 : decode cX3_leastBy 57 = .ok (.ireturn, 1) := by decide +kernel
theorem dX3_leastBy_58 : decode cX3_leastBy 58 = .ok (.aload_n 0, 1) := by decide +kernel
theorem dX3_leastBy_59 : decode cX3_leastBy 59 = .ok (.iload_n 3, 1) := by decide +kernel
theorem dX3_leastBy_60 : decode cX3_leastBy 60 = .ok (.iload_n 1, 1) := by decide +kernel
theorem dX3_leastBy_61 : decode cX3_leastBy 61 = .ok (.invokevirtual 182, 3) := by decide +kernel
theorem dX3_leastBy_64 : decode cX3_leastBy 64 = .ok (.ireturn, 1) := by decide +kernel
set_option maxRecDepth 20000 in
theorem ggX3_vaneOrNone_X2_hasWork : GoodIn wsX3_vaneOrNone wsX2_hasWork := goodIn_r _ [6, 7, 19, 20, 21, 22, 23, 24, 25, 26, 27, 28, 29, 30, 31, 32, 33, 34, 35, 36] (by decide +kernel) (by decide +kernel)
set_option maxRecDepth 20000 in
theorem gX3_vaneOrNone_X2_hasWork : GoodIn wsX3_vaneOrNone (wsV RX3 96 RX2 yX2_hasWork wsX2_hasWork) := goodIn_app (goodIn_of _ (by decide +kernel)) ggX3_vaneOrNone_X2_hasWork
set_option maxRecDepth 20000 in
theorem ggX3_vaneOrNone_X2_vaneIn : GoodIn wsX3_vaneOrNone wsX2_vaneIn := goodIn_r _ [11, 7, 19, 20, 21, 22, 23, 24, 25, 26, 27, 28, 29, 30, 31, 32, 33, 34, 35, 36] (by decide +kernel) (by decide +kernel)
set_option maxRecDepth 20000 in
theorem gX3_vaneOrNone_X2_vaneIn : GoodIn wsX3_vaneOrNone (wsV RX3 108 RX2 yX2_vaneIn wsX2_vaneIn) := goodIn_app (goodIn_of _ (by decide +kernel)) ggX3_vaneOrNone_X2_vaneIn
theorem dX3_vaneOrNone_0 : decode cX3_vaneOrNone 0 = .ok (.aload_n 0, 1) := by decide +kernel
theorem dX3_vaneOrNone_1 : decode cX3_vaneOrNone 1 = .ok (.getfield 31, 3) := by decide +kernel
theorem dX3_vaneOrNone_4 : decode cX3_vaneOrNone 4 = .ok (.iload_n 2, 1) := by decide +kernel
theorem dX3_vaneOrNone_5 : decode cX3_vaneOrNone 5 = .ok (.invokevirtual 96, 3) := by decide +kernel
theorem dX3_vaneOrNone_8 : decode cX3_vaneOrNone 8 = .ok (.ifCond .eq 15, 3) := by decide +kernel
theorem dX3_vaneOrNone_11 : decode cX3_vaneOrNone 11 = .ok (.aload_n 0, 1) := by decide +kernel
theorem dX3_vaneOrNone_12 : decode cX3_vaneOrNone 12 = .ok (.getfield 31, 3) := by decide +kernel
theorem dX3_vaneOrNone_15 : decode cX3_vaneOrNone 15 = .ok (.iload_n 1, 1) := by decide +kernel
theorem dX3_vaneOrNone_16 : decode cX3_vaneOrNone 16 = .ok (.iload_n 2, 1) := by decide +kernel
theorem dX3_vaneOrNone_17 : decode cX3_vaneOrNone 17 = .ok (.invokevirtual 108, 3) := by decide +kernel
theorem dX3_vaneOrNone_20 : decode cX3_vaneOrNone 20 = .ok (.goto 5, 3) := by decide +kernel
theorem dX3_vaneOrNone_23 : decode cX3_vaneOrNone 23 = .ok (.bipush (-9), 2) := by decide +kernel
theorem dX3_vaneOrNone_25 : decode cX3_vaneOrNone 25 = .ok (.ireturn, 1) := by decide +kernel
theorem dX3_leave_0 : decode cX3_leave 0 = .ok (.aload_n 0, 1) := by decide +kernel
theorem dX3_leave_1 : decode cX3_leave 1 = .ok (.bipush 31, 2) := by decide +kernel
theorem dX3_leave_3 : decode cX3_leave 3 = .ok (.aload_n 0, 1) := by decide +kernel
theorem dX3_leave_4 : decode cX3_leave 4 = .ok (.getfield 38, 3) := by decide +kernel
theorem dX3_leave_7 : decode cX3_leave 7 = .ok (.imul, 1) := by decide +kernel
theorem dX3_leave_8 : decode cX3_leave 8 = .ok (.iload_n 1, 1) := by decide +kernel
theorem dX3_leave_9 : decode cX3_leave 9 = .ok (.iadd, 1) := by decide +kernel
theorem dX3_leave_10 : decode cX3_leave 10 = .ok (.putfield 38, 3) := by decide +kernel
theorem dX3_leave_13 : decode cX3_leave 13 = .ok (.return_, 1) := by decide +kernel
set_option maxRecDepth 20000 in
theorem ggX3_tellWard_X3_leave : GoodIn wsX3_tellWard wsX3_leave := goodIn_r _ [7, 8, 12, 13, 14, 15, 16, 17, 18] (by decide +kernel) (by decide +kernel)
set_option maxRecDepth 20000 in
theorem gX3_tellWard_X3_leave : GoodIn wsX3_tellWard (wsV RX3 219 RX3 yX3_leave wsX3_leave) := goodIn_app (goodIn_of _ (by decide +kernel)) ggX3_tellWard_X3_leave
set_option maxRecDepth 20000 in
theorem ggX3_tellWard_X3_read : GoodIn wsX3_tellWard wsX3_read := goodIn_r _ [11] (by decide +kernel) (by decide +kernel)
set_option maxRecDepth 20000 in
theorem gX3_tellWard_X3_read : GoodIn wsX3_tellWard (va_wsS RX3 83 yX3_read wsX3_read) := goodIn_app (goodIn_of _ (by decide +kernel)) ggX3_tellWard_X3_read
theorem dX3_tellWard_0 : decode cX3_tellWard 0 = .ok (.aload_n 0, 1) := by decide +kernel
theorem dX3_tellWard_1 : decode cX3_tellWard 1 = .ok (.iconst 1, 1) := by decide +kernel
theorem dX3_tellWard_2 : decode cX3_tellWard 2 = .ok (.invokevirtual 219, 3) := by decide +kernel
theorem dX3_tellWard_5 : decode cX3_tellWard 5 = .ok (.aload_n 0, 1) := by decide +kernel
theorem dX3_tellWard_6 : decode cX3_tellWard 6 = .ok (.getfield 31, 3) := by decide +kernel
theorem dX3_tellWard_9 : decode cX3_tellWard 9 = .ok (.getfield 87, 3) := by decide +kernel
theorem dX3_tellWard_12 : decode cX3_tellWard 12 = .ok (.iload_n 1, 1) := by decide +kernel
theorem dX3_tellWard_13 : decode cX3_tellWard 13 = .ok (.invokestatic 83, 3) := by decide +kernel
theorem dX3_tellWard_16 : decode cX3_tellWard 16 = .ok (.ireturn, 1) := by decide +kernel
set_option maxRecDepth 20000 in
theorem ggX3_tellRich_X3_leave : GoodIn wsX3_tellRich wsX3_leave := goodIn_r _ [5, 6, 16, 17, 18, 19, 20, 21, 22] (by decide +kernel) (by decide +kernel)
set_option maxRecDepth 20000 in
theorem gX3_tellRich_X3_leave : GoodIn wsX3_tellRich (wsV RX3 219 RX3 yX3_leave wsX3_leave) := goodIn_app (goodIn_of _ (by decide +kernel)) ggX3_tellRich_X3_leave
set_option maxRecDepth 20000 in
theorem ggX3_tellRich_X3_tellWard : GoodIn wsX3_tellRich wsX3_tellWard := goodIn_r _ [10, 11, 12, 1, 2, 3, 4, 5, 6, 13, 14, 15, 16, 17, 18, 19, 20, 21, 22, 23, 24, 25, 26, 27, 28, 29, 30, 31, 32, 33, 34, 35, 36, 37, 38, 39, 40] (by decide +kernel) (by decide +kernel)
set_option maxRecDepth 20000 in
theorem gX3_tellRich_X3_tellWard : GoodIn wsX3_tellRich (wsV RX3 216 RX3 yX3_tellWard wsX3_tellWard) := goodIn_app (goodIn_of _ (by decide +kernel)) ggX3_tellRich_X3_tellWard
theorem dX3_tellRich_0 : decode cX3_tellRich 0 = .ok (.aload_n 0, 1) := by decide +kernel
theorem dX3_tellRich_1 : decode cX3_tellRich 1 = .ok (.iconst 2, 1) := by decide +kernel
theorem dX3_tellRich_2 : decode cX3_tellRich 2 = .ok (.invokevirtual 219, 3) := by decide +kernel
theorem dX3_tellRich_5 : decode cX3_tellRich 5 = .ok (.aload_n 0, 1) := by decide +kernel
theorem dX3_tellRich_6 : decode cX3_tellRich 6 = .ok (.iload_n 1, 1) := by decide +kernel
theorem dX3_tellRich_7 : decode cX3_tellRich 7 = .ok (.invokevirtual 216, 3) := by decide +kernel
theorem dX3_tellRich_10 : decode cX3_tellRich 10 = .ok (.bipush 100, 2) := by decide +kernel
theorem dX3_tellRich_12 : decode cX3_tellRich 12 = .ok (.iadd, 1) := by decide +kernel
theorem dX3_tellRich_13 : decode cX3_tellRich 13 = .ok (.ireturn, 1) := by decide +kernel
set_option maxRecDepth 20000 in
theorem ggX3_tellFine_X3_leave : GoodIn wsX3_tellFine wsX3_leave := goodIn_r _ [5, 6, 20, 21, 22, 23, 24, 25, 26] (by decide +kernel) (by decide +kernel)
set_option maxRecDepth 20000 in
theorem gX3_tellFine_X3_leave : GoodIn wsX3_tellFine (wsV RX3 219 RX3 yX3_leave wsX3_leave) := goodIn_app (goodIn_of _ (by decide +kernel)) ggX3_tellFine_X3_leave
set_option maxRecDepth 20000 in
theorem ggX3_tellFine_X3_tellRich : GoodIn wsX3_tellFine wsX3_tellRich := goodIn_r _ [10, 1, 2, 3, 4, 5, 6, 11, 12, 13, 14, 15, 16, 17, 18, 19, 20, 21, 22, 23, 24, 25, 26, 27, 28, 29, 30, 31, 32, 33, 34, 35, 36, 37, 38, 39, 40, 41, 42, 43, 44] (by decide +kernel) (by decide +kernel)
set_option maxRecDepth 20000 in
theorem gX3_tellFine_X3_tellRich : GoodIn wsX3_tellFine (wsV RX3 213 RX3 yX3_tellRich wsX3_tellRich) := goodIn_app (goodIn_of _ (by decide +kernel)) ggX3_tellFine_X3_tellRich
set_option maxRecDepth 20000 in
theorem ggX3_tellFine_X3_tellWard : GoodIn wsX3_tellFine wsX3_tellWard := goodIn_r _ [14, 15, 16, 1, 2, 3, 4, 5, 6, 17, 18, 19, 20, 21, 22, 23, 24, 25, 26, 27, 28, 29, 30, 31, 32, 33, 34, 35, 36, 37, 38, 39, 40, 41, 42, 43, 44] (by decide +kernel) (by decide +kernel)
set_option maxRecDepth 20000 in
theorem gX3_tellFine_X3_tellWard : GoodIn wsX3_tellFine (wsV RX3 216 RX3 yX3_tellWard wsX3_tellWard) := goodIn_app (goodIn_of _ (by decide +kernel)) ggX3_tellFine_X3_tellWard
theorem dX3_tellFine_0 : decode cX3_tellFine 0 = .ok (.aload_n 0, 1) := by decide +kernel
theorem dX3_tellFine_1 : decode cX3_tellFine 1 = .ok (.iconst 3, 1) := by decide +kernel
theorem dX3_tellFine_2 : decode cX3_tellFine 2 = .ok (.invokevirtual 219, 3) := by decide +kernel
theorem dX3_tellFine_5 : decode cX3_tellFine 5 = .ok (.aload_n 0, 1) := by decide +kernel
theorem dX3_tellFine_6 : decode cX3_tellFine 6 = .ok (.iload_n 1, 1) := by decide +kernel
theorem dX3_tellFine_7 : decode cX3_tellFine 7 = .ok (.invokevirtual 213, 3) := by decide +kernel
theorem dX3_tellFine_10 : decode cX3_tellFine 10 = .ok (.istore_n 2, 1) := by decide +kernel
theorem dX3_tellFine_11 : decode cX3_tellFine 11 = .ok (.iload_n 2, 1) := by decide +kernel
theorem dX3_tellFine_12 : decode cX3_tellFine 12 = .ok (.aload_n 0, 1) := by decide +kernel
theorem dX3_tellFine_13 : decode cX3_tellFine 13 = .ok (.iload_n 1, 1) := by decide +kernel
theorem dX3_tellFine_14 : decode cX3_tellFine 14 = .ok (.invokevirtual 216, 3) := by decide +kernel
theorem dX3_tellFine_17 : decode cX3_tellFine 17 = .ok (.iadd, 1) := by decide +kernel
theorem dX3_tellFine_18 : decode cX3_tellFine 18 = .ok (.ireturn, 1) := by decide +kernel
