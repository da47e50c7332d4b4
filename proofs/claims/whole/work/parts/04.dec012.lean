theorem inlX0 : ∀ w ∈ wsX00, w ∈ wsL_law := fun _ h => List.mem_append_left _ (List.mem_append_right _ h)
theorem inX0 : ∀ w ∈ wsX00, w ∈ lw_tbl := fun w h => wsL_law_in w (inlX0 w h)
theorem inlX1 : ∀ w ∈ wsX10, w ∈ wsL_law := fun _ h => List.mem_append_left _ (List.mem_append_left _ (List.mem_append_left _ (List.mem_append_right _ h)))
theorem inX1 : ∀ w ∈ wsX10, w ∈ lw_tbl := fun w h => wsL_law_in w (inlX1 w h)
theorem inlX2 : ∀ w ∈ wsX20, w ∈ wsL_law := fun _ h => List.mem_append_left _ (List.mem_append_left _ (List.mem_append_right _ h))
theorem inX2 : ∀ w ∈ wsX20, w ∈ lw_tbl := fun w h => wsL_law_in w (inlX2 w h)
theorem inlX3 : ∀ w ∈ wsX30, w ∈ wsL_law := fun _ h => List.mem_append_left _ (List.mem_append_left _ (List.mem_append_left _ (List.mem_append_left _ (List.mem_append_left _ (List.mem_append_right _ h)))))
theorem inX3 : ∀ w ∈ wsX30, w ∈ lw_tbl := fun w h => wsL_law_in w (inlX3 w h)
theorem inlX4 : ∀ w ∈ wsX40, w ∈ wsL_law := fun _ h => List.mem_append_left _ (List.mem_append_left _ (List.mem_append_left _ (List.mem_append_left _ (List.mem_append_right _ h))))
theorem inX4 : ∀ w ∈ wsX40, w ∈ lw_tbl := fun w h => wsL_law_in w (inlX4 w h)
theorem inJ6 : ∀ w ∈ wsJ60, w ∈ lw_tbl := by decide +kernel
theorem inJ9 : ∀ w ∈ wsJ90, w ∈ lw_tbl := by decide +kernel
theorem inJ10 : ∀ w ∈ wsJ100, w ∈ lw_tbl := by decide +kernel
theorem inJ7 : ∀ w ∈ wsJ70, w ∈ lw_tbl := by decide +kernel
theorem dX0_init_0 : decode cX0_init 0 = .ok (.aload_n 0, 1) := by decide +kernel
theorem dX0_init_1 : decode cX0_init 1 = .ok (.invokespecial 3, 3) := by decide +kernel
theorem dX0_init_4 : decode cX0_init 4 = .ok (.aload_n 0, 1) := by decide +kernel
theorem dX0_init_5 : decode cX0_init 5 = .ok (.bipush 60, 2) := by decide +kernel
theorem dX0_init_7 : decode cX0_init 7 = .ok (.newarray .int, 2) := by decide +kernel
theorem dX0_init_9 : decode cX0_init 9 = .ok (.putfield 9, 3) := by decide +kernel
theorem dX0_init_12 : decode cX0_init 12 = .ok (.aload_n 0, 1) := by decide +kernel
theorem dX0_init_13 : decode cX0_init 13 = .ok (.iconst (-1), 1) := by decide +kernel
theorem dX0_init_14 : decode cX0_init 14 = .ok (.putfield 15, 3) := by decide +kernel
theorem dX0_init_17 : decode cX0_init 17 = .ok (.aload_n 0, 1) := by decide +kernel
theorem dX0_init_18 : decode cX0_init 18 = .ok (.iconst 0, 1) := by decide +kernel
theorem dX0_init_19 : decode cX0_init 19 = .ok (.putfield 19, 3) := by decide +kernel
theorem dX0_init_22 : decode cX0_init 22 = .ok (.return_, 1) := by decide +kernel
theorem dX0_hasRow_0 : decode cX0_hasRow 0 = .ok (.aload_n 0, 1) := by decide +kernel
theorem dX0_hasRow_1 : decode cX0_hasRow 1 = .ok (.getfield 15, 3) := by decide +kernel
theorem dX0_hasRow_4 : decode cX0_hasRow 4 = .ok (.iconst (-1), 1) := by decide +kernel
theorem dX0_hasRow_5 : decode cX0_hasRow 5 = .ok (.if_icmp .eq 7, 3) := by decide +kernel
theorem dX0_hasRow_8 : decode cX0_hasRow 8 = .ok (.iconst 1, 1) := by decide +kernel
theorem dX0_hasRow_9 : decode cX0_hasRow 9 = .ok (.goto 4, 3) := by decide +kernel
theorem dX0_hasRow_12 : decode cX0_hasRow 12 = .ok (.iconst 0, 1) := by decide +kernel
theorem dX0_hasRow_13 : decode cX0_hasRow 13 = .ok (.ireturn, 1) := by decide +kernel
set_option maxRecDepth 20000 in
theorem ggX0_renew_J7_fill_53178 : GoodIn wsX0_renew wsJ7_fill_53178 := goodIn_r _ [7] (by decide +kernel) (by decide +kernel)
set_option maxRecDepth 20000 in
theorem gX0_renew_J7_fill_53178 : GoodIn wsX0_renew (va_wsS RX0 22 yJ7_fill_53178 wsJ7_fill_53178) := goodIn_app (goodIn_of _ (by decide +kernel)) ggX0_renew_J7_fill_53178
theorem dX0_renew_0 : decode cX0_renew 0 = .ok (.aload_n 0, 1) := by decide +kernel
theorem dX0_renew_1 : decode cX0_renew 1 = .ok (.iload_n 1, 1) := by decide +kernel
theorem dX0_renew_2 : decode cX0_renew 2 = .ok (.putfield 15, 3) := by decide +kernel
theorem dX0_renew_5 : decode cX0_renew 5 = .ok (.aload_n 0, 1) := by decide +kernel
theorem dX0_renew_6 : decode cX0_renew 6 = .ok (.iload_n 2, 1) := by decide +kernel
theorem dX0_renew_7 : decode cX0_renew 7 = .ok (.putfield 19, 3) := by decide +kernel
theorem dX0_renew_10 : decode cX0_renew 10 = .ok (.aload_n 0, 1) := by decide +kernel
theorem dX0_renew_11 : decode cX0_renew 11 = .ok (.getfield 9, 3) := by decide +kernel
theorem dX0_renew_14 : decode cX0_renew 14 = .ok (.iconst 0, 1) := by decide +kernel
theorem dX0_renew_15 : decode cX0_renew 15 = .ok (.invokestatic 22, 3) := by decide +kernel
theorem dX0_renew_18 : decode cX0_renew 18 = .ok (.return_, 1) := by decide +kernel
theorem dX0_cut_0 : decode cX0_cut 0 = .ok (.aload_n 0, 1) := by decide +kernel
theorem dX0_cut_1 : decode cX0_cut 1 = .ok (.getfield 15, 3) := by decide +kernel
theorem dX0_cut_4 : decode cX0_cut 4 = .ok (.lookupswitch 34 #[(0, 28), (1, 31)], 28) := by decide +kernel
theorem dX0_cut_32 : decode cX0_cut 32 = .ok (.iload_n 1, 1) := by decide +kernel
theorem dX0_cut_33 : decode cX0_cut 33 = .ok (.i2b, 1) := by decide +kernel
theorem dX0_cut_34 : decode cX0_cut 34 = .ok (.ireturn, 1) := by decide +kernel
theorem dX0_cut_35 : decode cX0_cut 35 = .ok (.iload_n 1, 1) := by decide +kernel
theorem dX0_cut_36 : decode cX0_cut 36 = .ok (.i2s, 1) := by decide +kernel
theorem dX0_cut_37 : decode cX0_cut 37 = .ok (.ireturn, 1) := by decide +kernel
theorem dX0_cut_38 : decode cX0_cut 38 = .ok (.iload_n 1, 1) := by decide +kernel
theorem dX0_cut_39 : decode cX0_cut 39 = .ok (.ireturn, 1) := by decide +kernel
theorem dX0_holds_0 : decode cX0_holds 0 = .ok (.iload_n 1, 1) := by decide +kernel
theorem dX0_holds_1 : decode cX0_holds 1 = .ok (.ifCond .lt 29, 3) := by decide +kernel
theorem dX0_holds_4 : decode cX0_holds 4 = .ok (.iload_n 1, 1) := by decide +kernel
theorem dX0_holds_5 : decode cX0_holds 5 = .ok (.aload_n 0, 1) := by decide +kernel
theorem dX0_holds_6 : decode cX0_holds 6 = .ok (.getfield 19, 3) := by decide +kernel
theorem dX0_holds_9 : decode cX0_holds 9 = .ok (.if_icmp .gt 21, 3) := by decide +kernel
theorem dX0_holds_12 : decode cX0_holds 12 = .ok (.iload_n 2, 1) := by decide +kernel
theorem dX0_holds_13 : decode cX0_holds 13 = .ok (.ifCond .lt 17, 3) := by decide +kernel
theorem dX0_holds_16 : decode cX0_holds 16 = .ok (.iload_n 2, 1) := by decide +kernel
theorem dX0_holds_17 : decode cX0_holds 17 = .ok (.aload_n 0, 1) := by decide +kernel
theorem dX0_holds_18 : decode cX0_holds 18 = .ok (.getfield 19, 3) := by decide +kernel
theorem dX0_holds_21 : decode cX0_holds 21 = .ok (.iload_n 1, 1) := by decide +kernel
theorem dX0_holds_22 : decode cX0_holds 22 = .ok (.isub, 1) := by decide +kernel
theorem dX0_holds_23 : decode cX0_holds 23 = .ok (.if_icmp .gt 7, 3) := by decide +kernel
theorem dX0_holds_26 : decode cX0_holds 26 = .ok (.iconst 1, 1) := by decide +kernel
theorem dX0_holds_27 : decode cX0_holds 27 = .ok (.goto 4, 3) := by decide +kernel
theorem dX0_holds_30 : decode cX0_holds 30 = .ok (.iconst 0, 1) := by decide +kernel
theorem dX0_holds_31 : decode cX0_holds 31 = .ok (.ireturn, 1) := by decide +kernel
set_option maxRecDepth 20000 in
theorem ggX0_faultOfTaking_X0_hasRow : GoodIn wsX0_faultOfTaking wsX0_hasRow := goodIn_r _ [6, 1, 12, 13, 14] (by decide +kernel) (by decide +kernel)
set_option maxRecDepth 20000 in
theorem gX0_faultOfTaking_X0_hasRow : GoodIn wsX0_faultOfTaking (wsV RX0 28 RX0 yX0_hasRow wsX0_hasRow) := goodIn_app (goodIn_of _ (by decide +kernel)) ggX0_faultOfTaking_X0_hasRow
set_option maxRecDepth 20000 in
theorem ggX0_faultOfTaking_X0_holds : GoodIn wsX0_faultOfTaking wsX0_holds := goodIn_r _ [10, 11, 12, 13, 14] (by decide +kernel) (by decide +kernel)
set_option maxRecDepth 20000 in
theorem gX0_faultOfTaking_X0_holds : GoodIn wsX0_faultOfTaking (wsV RX0 32 RX0 yX0_holds wsX0_holds) := goodIn_app (goodIn_of _ (by decide +kernel)) ggX0_faultOfTaking_X0_holds
theorem dX0_faultOfTaking_0 : decode cX0_faultOfTaking 0 = .ok (.aload_n 0, 1) := by decide +kernel
theorem dX0_faultOfTaking_1 : decode cX0_faultOfTaking 1 = .ok (.invokevirtual 28, 3) := by decide +kernel
theorem dX0_faultOfTaking_4 : decode cX0_faultOfTaking 4 = .ok (.ifCond .ne 5, 3) := by decide +kernel
theorem dX0_faultOfTaking_7 : decode cX0_faultOfTaking 7 = .ok (.iconst 1, 1) := by decide +kernel
theorem dX0_faultOfTaking_8 : decode cX0_faultOfTaking 8 = .ok (.ireturn, 1) := by decide +kernel
theorem dX0_faultOfTaking_9 : decode cX0_faultOfTaking 9 = .ok (.aload_n 0, 1) := by decide +kernel
theorem dX0_faultOfTaking_10 : decode cX0_faultOfTaking 10 = .ok (.getfield 15, 3) := by decide +kernel
theorem dX0_faultOfTaking_13 : decode cX0_faultOfTaking 13 = .ok (.iload_n 1, 1) := by decide +kernel
theorem dX0_faultOfTaking_14 : decode cX0_faultOfTaking 14 = .ok (.if_icmp .eq 5, 3) := by decide +kernel
theorem dX0_faultOfTaking_17 : decode cX0_faultOfTaking 17 = .ok (.iconst 2, 1) := by decide +kernel
theorem dX0_faultOfTaking_18 : decode cX0_faultOfTaking 18 = .ok (.ireturn, 1) := by decide +kernel
theorem dX0_faultOfTaking_19 : decode cX0_faultOfTaking 19 = .ok (.iload_n 3, 1) := by decide +kernel
theorem dX0_faultOfTaking_20 : decode cX0_faultOfTaking 20 = .ok (.ifCond .ge 5, 3) := by decide +kernel
theorem dX0_faultOfTaking_23 : decode cX0_faultOfTaking 23 = .ok (.iconst 4, 1) := by decide +kernel
theorem dX0_faultOfTaking_24 : decode cX0_faultOfTaking 24 = .ok (.ireturn, 1) := by decide +kernel
theorem dX0_faultOfTaking_25 : decode cX0_faultOfTaking 25 = .ok (.aload_n 0, 1) := by decide +kernel
theorem dX0_faultOfTaking_26 : decode cX0_faultOfTaking 26 = .ok (.iload_n 2, 1) := by decide +kernel
theorem dX0_faultOfTaking_27 : decode cX0_faultOfTaking 27 = .ok (.iload_n 3, 1) := by decide +kernel
theorem dX0_faultOfTaking_28 : decode cX0_faultOfTaking 28 = .ok (.invokevirtual 32, 3) := by decide +kernel
theorem dX0_faultOfTaking_31 : decode cX0_faultOfTaking 31 = .ok (.ifCond .eq 7, 3) := by decide +kernel
theorem dX0_faultOfTaking_34 : decode cX0_faultOfTaking 34 = .ok (.iconst 0, 1) := by decide +kernel
theorem dX0_faultOfTaking_35 : decode cX0_faultOfTaking 35 = .ok (.goto 4, 3) := by decide +kernel
theorem dX0_faultOfTaking_38 : decode cX0_faultOfTaking 38 = .ok (.iconst 3, 1) := by decide +kernel
theorem dX0_faultOfTaking_39 : decode cX0_faultOfTaking 39 = .ok (.ireturn, 1) := by decide +kernel
theorem dX1_init_0 : decode cX1_init 0 = .ok (.aload_n 0, 1) := by decide +kernel
theorem dX1_init_1 : decode cX1_init 1 = .ok (.invokespecial 3, 3) := by decide +kernel
theorem dX1_init_4 : decode cX1_init 4 = .ok (.aload_n 0, 1) := by decide +kernel
theorem dX1_init_5 : decode cX1_init 5 = .ok (.bipush 60, 2) := by decide +kernel
theorem dX1_init_7 : decode cX1_init 7 = .ok (.newarray .int, 2) := by decide +kernel
theorem dX1_init_9 : decode cX1_init 9 = .ok (.putfield 9, 3) := by decide +kernel
theorem dX1_init_12 : decode cX1_init 12 = .ok (.aload_n 0, 1) := by decide +kernel
theorem dX1_init_13 : decode cX1_init 13 = .ok (.iconst 0, 1) := by decide +kernel
theorem dX1_init_14 : decode cX1_init 14 = .ok (.putfield 15, 3) := by decide +kernel
theorem dX1_init_17 : decode cX1_init 17 = .ok (.aload_n 0, 1) := by decide +kernel
theorem dX1_init_18 : decode cX1_init 18 = .ok (.iconst 0, 1) := by decide +kernel
theorem dX1_init_19 : decode cX1_init 19 = .ok (.putfield 19, 3) := by decide +kernel
theorem dX1_init_22 : decode cX1_init 22 = .ok (.return_, 1) := by decide +kernel
set_option maxRecDepth 20000 in
theorem ggX1_load_X3_read : GoodIn wsX1_load wsX3_read := goodIn_r _ [7] (by decide +kernel) (by decide +kernel)
set_option maxRecDepth 20000 in
theorem gX1_load_X3_read_n27 : GoodIn wsX1_load (wsX3_read) := ggX1_load_X3_read
set_option maxRecDepth 20000 in
theorem ggX1_load_X3_write : GoodIn wsX1_load wsX3_write := goodIn_r _ [9] (by decide +kernel) (by decide +kernel)
set_option maxRecDepth 20000 in
theorem gX1_load_X3_write_n31 : GoodIn wsX1_load (wsX3_write) := ggX1_load_X3_write
theorem dX1_load_0 : decode cX1_load 0 = .ok (.aload_n 0, 1) := by decide +kernel
theorem dX1_load_1 : decode cX1_load 1 = .ok (.iconst 0, 1) := by decide +kernel
theorem dX1_load_2 : decode cX1_load 2 = .ok (.putfield 19, 3) := by decide +kernel
theorem dX1_load_5 : decode cX1_load 5 = .ok (.aload_n 0, 1) := by decide +kernel
theorem dX1_load_6 : decode cX1_load 6 = .ok (.iload_n 3, 1) := by decide +kernel
theorem dX1_load_7 : decode cX1_load 7 = .ok (.putfield 15, 3) := by decide +kernel
theorem dX1_load_10 : decode cX1_load 10 = .ok (.iconst 0, 1) := by decide +kernel
theorem dX1_load_11 : decode cX1_load 11 = .ok (.istore 4, 2) := by decide +kernel
theorem dX1_load_13 : decode cX1_load 13 = .ok (.iload 4, 2) := by decide +kernel
theorem dX1_load_15 : decode cX1_load 15 = .ok (.iload_n 3, 1) := by decide +kernel
theorem dX1_load_16 : decode cX1_load 16 = .ok (.if_icmp .ge 29, 3) := by decide +kernel
theorem dX1_load_19 : decode cX1_load 19 = .ok (.aload_n 0, 1) := by decide +kernel
theorem dX1_load_20 : decode cX1_load 20 = .ok (.getfield 9, 3) := by decide +kernel
theorem dX1_load_23 : decode cX1_load 23 = .ok (.iload 4, 2) := by decide +kernel
theorem dX1_load_25 : decode cX1_load 25 = .ok (.aload_n 1, 1) := by decide +kernel
theorem dX1_load_26 : decode cX1_load 26 = .ok (.getfield 22, 3) := by decide +kernel
theorem dX1_load_29 : decode cX1_load 29 = .ok (.iload_n 2, 1) := by decide +kernel
theorem dX1_load_30 : decode cX1_load 30 = .ok (.iload 4, 2) := by decide +kernel
theorem dX1_load_32 : decode cX1_load 32 = .ok (.iadd, 1) := by decide +kernel
theorem dX1_load_33 : decode cX1_load 33 = .ok (.invokestatic 27, 3) := by decide +kernel
theorem dX1_load_36 : decode cX1_load 36 = .ok (.invokestatic 31, 3) := by decide +kernel
theorem dX1_load_39 : decode cX1_load 39 = .ok (.iinc 4 1, 3) := by decide +kernel
theorem dX1_load_42 : decode cX1_load 42 = .ok (.goto (-29), 3) := by decide +kernel
theorem dX1_load_45 : decode cX1_load 45 = .ok (.return_, 1) := by decide +kernel
set_option maxRecDepth 20000 in
theorem ggX1_readInto_X2_clear : GoodIn wsX1_readInto wsX2_clear := goodIn_r _ [8, 9, 10, 11, 12, 13, 14, 15, 16, 17, 7, 18, 19, 20, 21, 81, 82, 83, 84, 85, 86, 87, 88, 89, 90, 91, 92, 93, 94, 95, 96, 97, 98] (by decide +kernel) (by decide +kernel)
set_option maxRecDepth 20000 in
theorem gX1_readInto_X2_clear : GoodIn wsX1_readInto (wsV RX1 35 RX2 yX2_clear wsX2_clear) := goodIn_app (goodIn_of _ (by decide +kernel)) ggX1_readInto_X2_clear
set_option maxRecDepth 20000 in
theorem ggX1_readInto_X1_takes : GoodIn wsX1_readInto wsX1_takes := goodIn_r _ [26, 1, 27, 28, 29, 25, 30, 2, 31, 32, 33, 34, 78, 79, 80] (by decide +kernel) (by decide +kernel)
set_option maxRecDepth 20000 in
theorem gX1_readInto_X1_takes : GoodIn wsX1_readInto (wsV RX1 40 RX1 yX1_takes wsX1_takes) := goodIn_app (goodIn_of _ (by decide +kernel)) ggX1_readInto_X1_takes
set_option maxRecDepth 20000 in
theorem ggX1_readInto_X1_digit : GoodIn wsX1_readInto wsX1_digit := goodIn_r _ [38, 1, 27, 28, 29, 25, 30, 2, 31, 32, 33, 34, 78, 79, 80] (by decide +kernel) (by decide +kernel)
set_option maxRecDepth 20000 in
theorem gX1_readInto_X1_digit : GoodIn wsX1_readInto (wsV RX1 44 RX1 yX1_digit wsX1_digit) := goodIn_app (goodIn_of _ (by decide +kernel)) ggX1_readInto_X1_digit
set_option maxRecDepth 20000 in
theorem ggX1_readInto_X2_measure : GoodIn wsX1_readInto wsX2_measure := goodIn_r _ [18, 19, 20, 21, 81, 82, 83, 84, 85, 86, 87, 88, 89, 90, 91, 92, 93, 94, 95, 96, 97, 98] (by decide +kernel) (by decide +kernel)
set_option maxRecDepth 20000 in
theorem gX1_readInto_X2_measure : GoodIn wsX1_readInto (wsV RX1 48 RX2 yX2_measure wsX2_measure) := goodIn_app (goodIn_of _ (by decide +kernel)) ggX1_readInto_X2_measure
set_option maxRecDepth 20000 in
theorem ggX1_readInto_X1_readRow : GoodIn wsX1_readInto wsX1_readRow := goodIn_r _ [43, 44, 22, 23, 24, 25, 26, 1, 27, 28, 29, 30, 2, 31, 32, 33, 34, 45, 46, 47, 48, 49, 50, 51, 52, 53, 35, 36, 37, 38, 54, 55, 56, 7, 57, 58, 10, 20, 59, 60, 61, 62, 63, 64, 65, 66, 67, 19, 68, 69, 70, 71, 72, 73, 74, 75, 11, 76, 77, 81, 82, 83, 84, 85, 86, 87, 88, 89, 90, 91, 92, 93, 94, 95, 96, 97, 98, 78, 79, 80] (by decide +kernel) (by decide +kernel)
set_option maxRecDepth 20000 in
theorem gX1_readInto_X1_readRow : GoodIn wsX1_readInto (wsV RX1 52 RX1 yX1_readRow wsX1_readRow) := goodIn_app (goodIn_of _ (by decide +kernel)) ggX1_readInto_X1_readRow
theorem dX1_readInto_0 : decode cX1_readInto 0 = .ok (.aload_n 1, 1) := by decide +kernel
theorem dX1_readInto_1 : decode cX1_readInto 1 = .ok (.invokevirtual 35, 3) := by decide +kernel
theorem dX1_readInto_4 : decode cX1_readInto 4 = .ok (.aload_n 0, 1) := by decide +kernel
theorem dX1_readInto_5 : decode cX1_readInto 5 = .ok (.bipush 116, 2) := by decide +kernel
theorem dX1_readInto_7 : decode cX1_readInto 7 = .ok (.invokevirtual 40, 3) := by decide +kernel
theorem dX1_readInto_10 : decode cX1_readInto 10 = .ok (.ifCond .ne 5, 3) := by decide +kernel
theorem dX1_readInto_13 : decode cX1_readInto 13 = .ok (.iconst 0, 1) := by decide +kernel
theorem dX1_readInto_14 : decode cX1_readInto 14 = .ok (.ireturn, 1) := by decide +kernel
theorem dX1_readInto_15 : decode cX1_readInto 15 = .ok (.aload_n 0, 1) := by decide +kernel
theorem dX1_readInto_16 : decode cX1_readInto 16 = .ok (.iconst 1, 1) := by decide +kernel
theorem dX1_readInto_17 : decode cX1_readInto 17 = .ok (.iconst 4, 1) := by decide +kernel
theorem dX1_readInto_18 : decode cX1_readInto 18 = .ok (.invokevirtual 44, 3) := by decide +kernel
theorem dX1_readInto_21 : decode cX1_readInto 21 = .ok (.istore_n 2, 1) := by decide +kernel
theorem dX1_readInto_22 : decode cX1_readInto 22 = .ok (.iload_n 2, 1) := by decide +kernel
theorem dX1_readInto_23 : decode cX1_readInto 23 = .ok (.iconst (-1), 1) := by decide +kernel
theorem dX1_readInto_24 : decode cX1_readInto 24 = .ok (.if_icmp .ne 7, 3) := by decide +kernel
theorem dX1_readInto_27 : decode cX1_readInto 27 = .ok (.iconst (-1), 1) := by decide +kernel
theorem dX1_readInto_28 : decode cX1_readInto 28 = .ok (.goto 10, 3) := by decide +kernel
theorem dX1_readInto_31 : decode cX1_readInto 31 = .ok (.aload_n 0, 1) := by decide +kernel
theorem dX1_readInto_32 : decode cX1_readInto 32 = .ok (.iconst 2, 1) := by decide +kernel
theorem dX1_readInto_33 : decode cX1_readInto 33 = .ok (.bipush 6, 2) := by decide +kernel
theorem dX1_readInto_35 : decode cX1_readInto 35 = .ok (.invokevirtual 44, 3) := by decide +kernel
theorem dX1_readInto_38 : decode cX1_readInto 38 = .ok (.istore_n 3, 1) := by decide +kernel
theorem dX1_readInto_39 : decode cX1_readInto 39 = .ok (.iload_n 3, 1) := by decide +kernel
theorem dX1_readInto_40 : decode cX1_readInto 40 = .ok (.iconst (-1), 1) := by decide +kernel
theorem dX1_readInto_41 : decode cX1_readInto 41 = .ok (.if_icmp .ne 5, 3) := by decide +kernel
theorem dX1_readInto_44 : decode cX1_readInto 44 = .ok (.iconst 0, 1) := by decide +kernel
theorem dX1_readInto_45 : decode cX1_readInto 45 = .ok (.ireturn, 1) := by decide +kernel
theorem dX1_readInto_46 : decode cX1_readInto 46 = .ok (.aload_n 1, 1) := by decide +kernel
theorem dX1_readInto_47 : decode cX1_readInto 47 = .ok (.iload_n 2, 1) := by decide +kernel
theorem dX1_readInto_48 : decode cX1_readInto 48 = .ok (.iload_n 3, 1) := by decide +kernel
theorem dX1_readInto_49 : decode cX1_readInto 49 = .ok (.invokevirtual 48, 3) := by decide +kernel
theorem dX1_readInto_52 : decode cX1_readInto 52 = .ok (.iconst 0, 1) := by decide +kernel
theorem dX1_readInto_53 : decode cX1_readInto 53 = .ok (.istore 4, 2) := by decide +kernel
theorem dX1_readInto_55 : decode cX1_readInto 55 = .ok (.iload 4, 2) := by decide +kernel
theorem dX1_readInto_57 : decode cX1_readInto 57 = .ok (.iload_n 2, 1) := by decide +kernel
theorem dX1_readInto_58 : decode cX1_readInto 58 = .ok (.if_icmp .ge 21, 3) := by decide +kernel
theorem dX1_readInto_61 : decode cX1_readInto 61 = .ok (.aload_n 0, 1) := by decide +kernel
theorem dX1_readInto_62 : decode cX1_readInto 62 = .ok (.aload_n 1, 1) := by decide +kernel
theorem dX1_readInto_63 : decode cX1_readInto 63 = .ok (.iload 4, 2) := by decide +kernel
theorem dX1_readInto_65 : decode cX1_readInto 65 = .ok (.invokevirtual 52, 3) := by decide +kernel
theorem dX1_readInto_68 : decode cX1_readInto 68 = .ok (.ifCond .ne 5, 3) := by decide +kernel
theorem dX1_readInto_71 : decode cX1_readInto 71 = .ok (.iconst 0, 1) := by decide +kernel
theorem dX1_readInto_72 : decode cX1_readInto 72 = .ok (.ireturn, 1) := by decide +kernel
theorem dX1_readInto_73 : decode cX1_readInto 73 = .ok (.iinc 4 1, 3) := by decide +kernel
theorem dX1_readInto_76 : decode cX1_readInto 76 = .ok (.goto (-21), 3) := by decide +kernel
theorem dX1_readInto_79 : decode cX1_readInto 79 = .ok (.aload_n 1, 1) := by decide +kernel
theorem dX1_readInto_80 : decode cX1_readInto 80 = .ok (.aload_n 0, 1) := by decide +kernel
theorem dX1_readInto_81 : decode cX1_readInto 81 = .ok (.getfield 19, 3) := by decide +kernel
theorem dX1_readInto_84 : decode cX1_readInto 84 = .ok (.aload_n 0, 1) := by decide +kernel
theorem dX1_readInto_85 : decode cX1_readInto 85 = .ok (.getfield 15, 3) := by decide +kernel
theorem dX1_readInto_88 : decode cX1_readInto 88 = .ok (.if_icmp .ne 7, 3) := by decide +kernel
theorem dX1_readInto_91 : decode cX1_readInto 91 = .ok (.iconst 1, 1) := by decide +kernel
theorem dX1_readInto_92 : decode cX1_readInto 92 = .ok (.goto 4, 3) := by decide +kernel
theorem dX1_readInto_95 : decode cX1_readInto 95 = .ok (.iconst 0, 1) := by decide +kernel
theorem dX1_readInto_96 : decode cX1_readInto 96 = .ok (.putfield 56, 3) := by decide +kernel
theorem dX1_readInto_99 : decode cX1_readInto 99 = .ok (.aload_n 1, 1) := by decide +kernel
theorem dX1_readInto_100 : decode cX1_readInto 100 = .ok (.getfield 56, 3) := by decide +kernel
theorem dX1_readInto_103 : decode cX1_readInto 103 = .ok (.ireturn, 1) := by decide +kernel
set_option maxRecDepth 20000 in
theorem ggX1_readRow_X1_takes : GoodIn wsX1_readRow wsX1_takes := goodIn_r _ [6, 7, 8, 9, 10, 5, 11, 12, 13, 14, 15, 16, 77, 78, 79] (by decide +kernel) (by decide +kernel)
set_option maxRecDepth 20000 in
theorem gX1_readRow_X1_takes : GoodIn wsX1_readRow (wsV RX1 40 RX1 yX1_takes wsX1_takes) := goodIn_app (goodIn_of _ (by decide +kernel)) ggX1_readRow_X1_takes
set_option maxRecDepth 20000 in
theorem ggX1_readRow_X1_readPart : GoodIn wsX1_readRow wsX1_readPart := goodIn_r _ [20, 21, 22, 7, 1, 8, 9, 10, 5, 11, 12, 13, 14, 15, 16, 23, 24, 25, 26, 27, 28, 29, 30, 31, 32, 33, 34, 35, 36, 37, 38, 39, 40, 41, 42, 43, 44, 45, 46, 47, 48, 49, 50, 51, 52, 53, 54, 55, 56, 57, 58, 59, 60, 61, 62, 63, 64, 65, 66, 67, 68, 69, 70, 71, 72, 73, 74, 75, 76, 77, 78, 79] (by decide +kernel) (by decide +kernel)
set_option maxRecDepth 20000 in
theorem gX1_readRow_X1_readPart : GoodIn wsX1_readRow (wsV RX1 63 RX1 yX1_readPart wsX1_readPart) := goodIn_app (goodIn_of _ (by decide +kernel)) ggX1_readRow_X1_readPart
theorem dX1_readRow_0 : decode cX1_readRow 0 = .ok (.aload_n 0, 1) := by decide +kernel
theorem dX1_readRow_1 : decode cX1_readRow 1 = .ok (.bipush 59, 2) := by decide +kernel
theorem dX1_readRow_3 : decode cX1_readRow 3 = .ok (.invokevirtual 40, 3) := by decide +kernel
theorem dX1_readRow_6 : decode cX1_readRow 6 = .ok (.ifCond .ne 5, 3) := by decide +kernel
theorem dX1_readRow_9 : decode cX1_readRow 9 = .ok (.iconst 0, 1) := by decide +kernel
theorem dX1_readRow_10 : decode cX1_readRow 10 = .ok (.ireturn, 1) := by decide +kernel
theorem dX1_readRow_11 : decode cX1_readRow 11 = .ok (.iconst 0, 1) := by decide +kernel
theorem dX1_readRow_12 : decode cX1_readRow 12 = .ok (.istore_n 3, 1) := by decide +kernel
theorem dX1_readRow_13 : decode cX1_readRow 13 = .ok (.iload_n 3, 1) := by decide +kernel
theorem dX1_readRow_14 : decode cX1_readRow 14 = .ok (.aload_n 1, 1) := by decide +kernel
theorem dX1_readRow_15 : decode cX1_readRow 15 = .ok (.getfield 60, 3) := by decide +kernel
theorem dX1_readRow_18 : decode cX1_readRow 18 = .ok (.if_icmp .ge 30, 3) := by decide +kernel
theorem dX1_readRow_21 : decode cX1_readRow 21 = .ok (.aload_n 0, 1) := by decide +kernel
theorem dX1_readRow_22 : decode cX1_readRow 22 = .ok (.bipush 46, 2) := by decide +kernel
theorem dX1_readRow_24 : decode cX1_readRow 24 = .ok (.invokevirtual 40, 3) := by decide +kernel
theorem dX1_readRow_27 : decode cX1_readRow 27 = .ok (.ifCond .ne 15, 3) := by decide +kernel
theorem dX1_readRow_30 : decode cX1_readRow 30 = .ok (.aload_n 0, 1) := by decide +kernel
theorem dX1_readRow_31 : decode cX1_readRow 31 = .ok (.aload_n 1, 1) := by decide +kernel
theorem dX1_readRow_32 : decode cX1_readRow 32 = .ok (.iload_n 2, 1) := by decide +kernel
theorem dX1_readRow_33 : decode cX1_readRow 33 = .ok (.iload_n 3, 1) := by decide +kernel
theorem dX1_readRow_34 : decode cX1_readRow 34 = .ok (.invokevirtual 63, 3) := by decide +kernel
theorem dX1_readRow_37 : decode cX1_readRow 37 = .ok (.ifCond .ne 5, 3) := by decide +kernel
theorem dX1_readRow_40 : decode cX1_readRow 40 = .ok (.iconst 0, 1) := by decide +kernel
theorem dX1_readRow_41 : decode cX1_readRow 41 = .ok (.ireturn, 1) := by decide +kernel
theorem dX1_readRow_42 : decode cX1_readRow 42 = .ok (.iinc 3 1, 3) := by decide +kernel
theorem dX1_readRow_45 : decode cX1_readRow 45 = .ok (.goto (-32), 3) := by decide +kernel
theorem dX1_readRow_48 : decode cX1_readRow 48 = .ok (.iconst 1, 1) := by decide +kernel
theorem dX1_readRow_49 : decode cX1_readRow 49 = .ok (.ireturn, 1) := by decide +kernel
set_option maxRecDepth 20000 in
theorem ggX1_readPart_X1_next : GoodIn wsX1_readPart wsX1_next := goodIn_r _ [9, 3, 10, 11, 12, 13, 14, 69, 70, 71] (by decide +kernel) (by decide +kernel)
set_option maxRecDepth 20000 in
theorem gX1_readPart_X1_next : GoodIn wsX1_readPart (wsV RX1 67 RX1 yX1_next wsX1_next) := goodIn_app (goodIn_of _ (by decide +kernel)) ggX1_readPart_X1_next
set_option maxRecDepth 20000 in
theorem ggX1_readPart_X1_kindOf : GoodIn wsX1_readPart wsX1_kindOf := goodIn_r _ [17] (by decide +kernel) (by decide +kernel)
set_option maxRecDepth 20000 in
theorem gX1_readPart_X1_kindOf : GoodIn wsX1_readPart (va_wsS RX1 71 yX1_kindOf wsX1_kindOf) := goodIn_app (goodIn_of _ (by decide +kernel)) ggX1_readPart_X1_kindOf
set_option maxRecDepth 20000 in
theorem ggX1_readPart_X1_digit : GoodIn wsX1_readPart wsX1_digit := goodIn_r _ [21, 3, 5, 6, 7, 8, 9, 10, 11, 12, 13, 14, 69, 70, 71] (by decide +kernel) (by decide +kernel)
set_option maxRecDepth 20000 in
theorem gX1_readPart_X1_digit : GoodIn wsX1_readPart (wsV RX1 44 RX1 yX1_digit wsX1_digit) := goodIn_app (goodIn_of _ (by decide +kernel)) ggX1_readPart_X1_digit
set_option maxRecDepth 20000 in
theorem ggX1_readPart_X2_addWork : GoodIn wsX1_readPart wsX2_addWork := goodIn_r _ [26, 27, 28, 29, 30, 31, 13, 32, 33, 34, 35, 25, 36, 37, 38, 39, 40, 41, 42, 12, 14, 51, 52, 53, 54, 55, 56, 57, 58, 59, 60, 61, 62, 63, 64, 65, 66, 67, 68] (by decide +kernel) (by decide +kernel)
set_option maxRecDepth 20000 in
theorem gX1_readPart_X2_addWork : GoodIn wsX1_readPart (wsV RX1 81 RX2 yX2_addWork wsX2_addWork) := goodIn_app (goodIn_of _ (by decide +kernel)) ggX1_readPart_X2_addWork
set_option maxRecDepth 20000 in
theorem ggX1_readPart_X2_addWard : GoodIn wsX1_readPart wsX2_addWard := goodIn_r _ [46, 47, 48, 49, 50, 31, 13, 32, 51, 52, 53, 54, 55, 56, 57, 58, 59, 60, 61, 62, 63, 64, 65, 66, 67, 68] (by decide +kernel) (by decide +kernel)
set_option maxRecDepth 20000 in
theorem gX1_readPart_X2_addWard : GoodIn wsX1_readPart (wsV RX1 85 RX2 yX2_addWard wsX2_addWard) := goodIn_app (goodIn_of _ (by decide +kernel)) ggX1_readPart_X2_addWard
theorem dX1_readPart_0 : decode cX1_readPart 0 = .ok (.aload_n 0, 1) := by decide +kernel
theorem dX1_readPart_1 : decode cX1_readPart 1 = .ok (.invokevirtual 67, 3) := by decide +kernel
theorem dX1_readPart_4 : decode cX1_readPart 4 = .ok (.bipush 120, 2) := by decide +kernel
theorem dX1_readPart_6 : decode cX1_readPart 6 = .ok (.if_icmp .ne 7, 3) := by decide +kernel
theorem dX1_readPart_9 : decode cX1_readPart 9 = .ok (.iconst 1, 1) := by decide +kernel
theorem dX1_readPart_10 : decode cX1_readPart 10 = .ok (.goto 4, 3) := by decide +kernel
theorem dX1_readPart_13 : decode cX1_readPart 13 = .ok (.iconst 0, 1) := by decide +kernel
theorem dX1_readPart_14 : decode cX1_readPart 14 = .ok (.istore 4, 2) := by decide +kernel
theorem dX1_readPart_16 : decode cX1_readPart 16 = .ok (.aload_n 0, 1) := by decide +kernel
theorem dX1_readPart_17 : decode cX1_readPart 17 = .ok (.invokevirtual 67, 3) := by decide +kernel
theorem dX1_readPart_20 : decode cX1_readPart 20 = .ok (.invokestatic 71, 3) := by decide +kernel
theorem dX1_readPart_23 : decode cX1_readPart 23 = .ok (.istore 5, 2) := by decide +kernel
theorem dX1_readPart_25 : decode cX1_readPart 25 = .ok (.iload 5, 2) := by decide +kernel
theorem dX1_readPart_27 : decode cX1_readPart 27 = .ok (.iconst (-1), 1) := by decide +kernel
theorem dX1_readPart_28 : decode cX1_readPart 28 = .ok (.if_icmp .eq 7, 3) := by decide +kernel
theorem dX1_readPart_31 : decode cX1_readPart 31 = .ok (.iconst 1, 1) := by decide +kernel
theorem dX1_readPart_32 : decode cX1_readPart 32 = .ok (.goto 4, 3) := by decide +kernel
theorem dX1_readPart_35 : decode cX1_readPart 35 = .ok (.iconst 0, 1) := by decide +kernel
theorem dX1_readPart_36 : decode cX1_readPart 36 = .ok (.istore 6, 2) := by decide +kernel
theorem dX1_readPart_38 : decode cX1_readPart 38 = .ok (.iload 4, 2) := by decide +kernel
theorem dX1_readPart_40 : decode cX1_readPart 40 = .ok (.ifCond .eq 11, 3) := by decide +kernel
theorem dX1_readPart_43 : decode cX1_readPart 43 = .ok (.aload_n 1, 1) := by decide +kernel
theorem dX1_readPart_44 : decode cX1_readPart 44 = .ok (.getfield 75, 3) := by decide +kernel
theorem dX1_readPart_47 : decode cX1_readPart 47 = .ok (.iconst 4, 1) := by decide +kernel
theorem dX1_readPart_48 : decode cX1_readPart 48 = .ok (.if_icmp .lt 19, 3) := by decide +kernel
theorem dX1_readPart_51 : decode cX1_readPart 51 = .ok (.iload 6, 2) := by decide +kernel
theorem dX1_readPart_53 : decode cX1_readPart 53 = .ok (.ifCond .eq 12, 3) := by decide +kernel
theorem dX1_readPart_56 : decode cX1_readPart 56 = .ok (.aload_n 1, 1) := by decide +kernel
theorem dX1_readPart_57 : decode cX1_readPart 57 = .ok (.getfield 78, 3) := by decide +kernel
theorem dX1_readPart_60 : decode cX1_readPart 60 = .ok (.bipush 6, 2) := by decide +kernel
theorem dX1_readPart_62 : decode cX1_readPart 62 = .ok (.if_icmp .lt 5, 3) := by decide +kernel
theorem dX1_readPart_65 : decode cX1_readPart 65 = .ok (.iconst 0, 1) := by decide +kernel
theorem dX1_readPart_66 : decode cX1_readPart 66 = .ok (.ireturn, 1) := by decide +kernel
theorem dX1_readPart_67 : decode cX1_readPart 67 = .ok (.aload_n 0, 1) := by decide +kernel
theorem dX1_readPart_68 : decode cX1_readPart 68 = .ok (.dup, 1) := by decide +kernel
theorem dX1_readPart_69 : decode cX1_readPart 69 = .ok (.getfield 19, 3) := by decide +kernel
theorem dX1_readPart_72 : decode cX1_readPart 72 = .ok (.iconst 1, 1) := by decide +kernel
theorem dX1_readPart_73 : decode cX1_readPart 73 = .ok (.iadd, 1) := by decide +kernel
theorem dX1_readPart_74 : decode cX1_readPart 74 = .ok (.putfield 19, 3) := by decide +kernel
theorem dX1_readPart_77 : decode cX1_readPart 77 = .ok (.aload_n 0, 1) := by decide +kernel
theorem dX1_readPart_78 : decode cX1_readPart 78 = .ok (.iconst 1, 1) := by decide +kernel
theorem dX1_readPart_79 : decode cX1_readPart 79 = .ok (.bipush 9, 2) := by decide +kernel
theorem dX1_readPart_81 : decode cX1_readPart 81 = .ok (.invokevirtual 44, 3) := by decide +kernel
theorem dX1_readPart_84 : decode cX1_readPart 84 = .ok (.istore 7, 2) := by decide +kernel
theorem dX1_readPart_86 : decode cX1_readPart 86 = .ok (.iload 7, 2) := by decide +kernel
theorem dX1_readPart_88 : decode cX1_readPart 88 = .ok (.iconst (-1), 1) := by decide +kernel
theorem dX1_readPart_89 : decode cX1_readPart 89 = .ok (.if_icmp .ne 5, 3) := by decide +kernel
theorem dX1_readPart_92 : decode cX1_readPart 92 = .ok (.iconst 0, 1) := by decide +kernel
theorem dX1_readPart_93 : decode cX1_readPart 93 = .ok (.ireturn, 1) := by decide +kernel
theorem dX1_readPart_94 : decode cX1_readPart 94 = .ok (.iload 4, 2) := by decide +kernel
theorem dX1_readPart_96 : decode cX1_readPart 96 = .ok (.ifCond .eq 14, 3) := by decide +kernel
theorem dX1_readPart_99 : decode cX1_readPart 99 = .ok (.aload_n 1, 1) := by decide +kernel
theorem dX1_readPart_100 : decode cX1_readPart 100 = .ok (.iload_n 2, 1) := by decide +kernel
theorem dX1_readPart_101 : decode cX1_readPart 101 = .ok (.iload_n 3, 1) := by decide +kernel
theorem dX1_readPart_102 : decode cX1_readPart 102 = .ok (.iload 7, 2) := by decide +kernel
theorem dX1_readPart_104 : decode cX1_readPart 104 = .ok (.invokevirtual 81, 3) := by decide +kernel
theorem dX1_readPart_107 : decode cX1_readPart 107 = .ok (.goto 19, 3) := by decide +kernel
theorem dX1_readPart_110 : decode cX1_readPart 110 = .ok (.aload_n 1, 1) := by decide +kernel
theorem dX1_readPart_111 : decode cX1_readPart 111 = .ok (.iload 5, 2) := by decide +kernel
theorem dX1_readPart_113 : decode cX1_readPart 113 = .ok (.iload_n 2, 1) := by decide +kernel
theorem dX1_readPart_114 : decode cX1_readPart 114 = .ok (.aload_n 1, 1) := by decide +kernel
theorem dX1_readPart_115 : decode cX1_readPart 115 = .ok (.getfield 60, 3) := by decide +kernel
theorem dX1_readPart_118 : decode cX1_readPart 118 = .ok (.imul, 1) := by decide +kernel
theorem dX1_readPart_119 : decode cX1_readPart 119 = .ok (.iload_n 3, 1) := by decide +kernel
theorem dX1_readPart_120 : decode cX1_readPart 120 = .ok (.iadd, 1) := by decide +kernel
theorem dX1_readPart_121 : decode cX1_readPart 121 = .ok (.iload 7, 2) := by decide +kernel
theorem dX1_readPart_123 : decode cX1_readPart 123 = .ok (.invokevirtual 85, 3) := by decide +kernel
theorem dX1_readPart_126 : decode cX1_readPart 126 = .ok (.iconst 1, 1) := by decide +kernel
theorem dX1_readPart_127 : decode cX1_readPart 127 = .ok (.ireturn, 1) := by decide +kernel
theorem dX1_kindOf_0 : decode cX1_kindOf 0 = .ok (.iload_n 0, 1) := by decide +kernel
theorem dX1_kindOf_1 : decode cX1_kindOf 1 = .ok (.lookupswitch 41 #[(102, 39), (114, 37), (119, 35)], 35) := by decide +kernel
theorem dX1_kindOf_36 : decode cX1_kindOf 36 = .ok (.iconst 0, 1) := by decide +kernel
theorem dX1_kindOf_37 : decode cX1_kindOf 37 = .ok (.ireturn, 1) := by decide +kernel
theorem dX1_kindOf_38 : decode cX1_kindOf 38 = .ok (.iconst 1, 1) := by decide +kernel
theorem dX1_kindOf_39 : decode cX1_kindOf 39 = .ok (.ireturn, 1) := by decide +kernel
theorem dX1_kindOf_40 : decode cX1_kindOf 40 = .ok (.iconst 2, 1) := by decide +kernel
theorem dX1_kindOf_41 : decode cX1_kindOf 41 = .ok (.ireturn, 1) := by decide +kernel
theorem dX1_kindOf_42 : decode cX1_kindOf 42 = .ok (.iconst (-1), 1) := by decide +kernel
theorem dX1_kindOf_43 : decode cX1_kindOf 43 = .ok (.ireturn, 1) := by decide +kernel
set_option maxRecDepth 20000 in
theorem ggX1_next_X3_read : GoodIn wsX1_next wsX3_read := goodIn_r _ [6] (by decide +kernel) (by decide +kernel)
set_option maxRecDepth 20000 in
theorem gX1_next_X3_read_n27 : GoodIn wsX1_next (wsX3_read) := ggX1_next_X3_read
theorem dX1_next_0 : decode cX1_next 0 = .ok (.aload_n 0, 1) := by decide +kernel
theorem dX1_next_1 : decode cX1_next 1 = .ok (.getfield 19, 3) := by decide +kernel
theorem dX1_next_4 : decode cX1_next 4 = .ok (.aload_n 0, 1) := by decide +kernel
theorem dX1_next_5 : decode cX1_next 5 = .ok (.getfield 15, 3) := by decide +kernel
theorem dX1_next_8 : decode cX1_next 8 = .ok (.if_icmp .ge 17, 3) := by decide +kernel
theorem dX1_next_11 : decode cX1_next 11 = .ok (.aload_n 0, 1) := by decide +kernel
theorem dX1_next_12 : decode cX1_next 12 = .ok (.getfield 9, 3) := by decide +kernel
theorem dX1_next_15 : decode cX1_next 15 = .ok (.aload_n 0, 1) := by decide +kernel
theorem dX1_next_16 : decode cX1_next 16 = .ok (.getfield 19, 3) := by decide +kernel
theorem dX1_next_19 : decode cX1_next 19 = .ok (.invokestatic 27, 3) := by decide +kernel
theorem dX1_next_22 : decode cX1_next 22 = .ok (.goto 4, 3) := by decide +kernel
theorem dX1_next_25 : decode cX1_next 25 = .ok (.iconst (-1), 1) := by decide +kernel
theorem dX1_next_26 : decode cX1_next 26 = .ok (.ireturn, 1) := by decide +kernel
set_option maxRecDepth 20000 in
theorem ggX1_takes_X1_next : GoodIn wsX1_takes wsX1_next := goodIn_r _ [6, 1, 7, 8, 9, 10, 11, 12, 13, 14] (by decide +kernel) (by decide +kernel)
set_option maxRecDepth 20000 in
theorem gX1_takes_X1_next : GoodIn wsX1_takes (wsV RX1 67 RX1 yX1_next wsX1_next) := goodIn_app (goodIn_of _ (by decide +kernel)) ggX1_takes_X1_next
theorem dX1_takes_0 : decode cX1_takes 0 = .ok (.aload_n 0, 1) := by decide +kernel
theorem dX1_takes_1 : decode cX1_takes 1 = .ok (.invokevirtual 67, 3) := by decide +kernel
theorem dX1_takes_4 : decode cX1_takes 4 = .ok (.iload_n 1, 1) := by decide +kernel
theorem dX1_takes_5 : decode cX1_takes 5 = .ok (.if_icmp .eq 5, 3) := by decide +kernel
theorem dX1_takes_8 : decode cX1_takes 8 = .ok (.iconst 0, 1) := by decide +kernel
theorem dX1_takes_9 : decode cX1_takes 9 = .ok (.ireturn, 1) := by decide +kernel
theorem dX1_takes_10 : decode cX1_takes 10 = .ok (.aload_n 0, 1) := by decide +kernel
theorem dX1_takes_11 : decode cX1_takes 11 = .ok (.dup, 1) := by decide +kernel
theorem dX1_takes_12 : decode cX1_takes 12 = .ok (.getfield 19, 3) := by decide +kernel
theorem dX1_takes_15 : decode cX1_takes 15 = .ok (.iconst 1, 1) := by decide +kernel
theorem dX1_takes_16 : decode cX1_takes 16 = .ok (.iadd, 1) := by decide +kernel
theorem dX1_takes_17 : decode cX1_takes 17 = .ok (.putfield 19, 3) := by decide +kernel
theorem dX1_takes_20 : decode cX1_takes 20 = .ok (.iconst 1, 1) := by decide +kernel
theorem dX1_takes_21 : decode cX1_takes 21 = .ok (.ireturn, 1) := by decide +kernel
set_option maxRecDepth 20000 in
theorem ggX1_digit_X1_next : GoodIn wsX1_digit wsX1_next := goodIn_r _ [6, 1, 7, 8, 9, 10, 11, 12, 13, 14] (by decide +kernel) (by decide +kernel)
set_option maxRecDepth 20000 in
theorem gX1_digit_X1_next : GoodIn wsX1_digit (wsV RX1 67 RX1 yX1_next wsX1_next) := goodIn_app (goodIn_of _ (by decide +kernel)) ggX1_digit_X1_next
theorem dX1_digit_0 : decode cX1_digit 0 = .ok (.aload_n 0, 1) := by decide +kernel
theorem dX1_digit_1 : decode cX1_digit 1 = .ok (.invokevirtual 67, 3) := by decide +kernel
theorem dX1_digit_4 : decode cX1_digit 4 = .ok (.istore_n 3, 1) := by decide +kernel
theorem dX1_digit_5 : decode cX1_digit 5 = .ok (.iload_n 3, 1) := by decide +kernel
theorem dX1_digit_6 : decode cX1_digit 6 = .ok (.bipush 48, 2) := by decide +kernel
theorem dX1_digit_8 : decode cX1_digit 8 = .ok (.iload_n 1, 1) := by decide +kernel
theorem dX1_digit_9 : decode cX1_digit 9 = .ok (.iadd, 1) := by decide +kernel
theorem dX1_digit_10 : decode cX1_digit 10 = .ok (.if_icmp .lt 11, 3) := by decide +kernel
theorem dX1_digit_13 : decode cX1_digit 13 = .ok (.iload_n 3, 1) := by decide +kernel
theorem dX1_digit_14 : decode cX1_digit 14 = .ok (.bipush 48, 2) := by decide +kernel
theorem dX1_digit_16 : decode cX1_digit 16 = .ok (.iload_n 2, 1) := by decide +kernel
theorem dX1_digit_17 : decode cX1_digit 17 = .ok (.iadd, 1) := by decide +kernel
theorem dX1_digit_18 : decode cX1_digit 18 = .ok (.if_icmp .le 5, 3) := by decide +kernel
theorem dX1_digit_21 : decode cX1_digit 21 = .ok (.iconst (-1), 1) := by decide +kernel
theorem dX1_digit_22 : decode cX1_digit 22 = .ok (.ireturn, 1) := by decide +kernel
theorem dX1_digit_23 : decode cX1_digit 23 = .ok (.aload_n 0, 1) := by decide +kernel
theorem dX1_digit_24 : decode cX1_digit 24 = .ok (.dup, 1) := by decide +kernel
theorem dX1_digit_25 : decode cX1_digit 25 = .ok (.getfield 19, 3) := by decide +kernel
theorem dX1_digit_28 : decode cX1_digit 28 = .ok (.iconst 1, 1) := by decide +kernel
theorem dX1_digit_29 : decode cX1_digit 29 = .ok (.iadd, 1) := by decide +kernel
theorem dX1_digit_30 : decode cX1_digit 30 = .ok (.putfield 19, 3) := by decide +kernel
theorem dX1_digit_33 : decode cX1_digit 33 = .ok (.iload_n 3, 1) := by decide +kernel
theorem dX1_digit_34 : decode cX1_digit 34 = .ok (.bipush 48, 2) := by decide +kernel
theorem dX1_digit_36 : decode cX1_digit 36 = .ok (.isub, 1) := by decide +kernel
theorem dX1_digit_37 : decode cX1_digit 37 = .ok (.ireturn, 1) := by decide +kernel
theorem dX2_init_0 : decode cX2_init 0 = .ok (.aload_n 0, 1) := by decide +kernel
theorem dX2_init_1 : decode cX2_init 1 = .ok (.invokespecial 3, 3) := by decide +kernel
theorem dX2_init_4 : decode cX2_init 4 = .ok (.aload_n 0, 1) := by decide +kernel
theorem dX2_init_5 : decode cX2_init 5 = .ok (.bipush 6, 2) := by decide +kernel
theorem dX2_init_7 : decode cX2_init 7 = .ok (.newarray .int, 2) := by decide +kernel
theorem dX2_init_9 : decode cX2_init 9 = .ok (.putfield 9, 3) := by decide +kernel
theorem dX2_init_12 : decode cX2_init 12 = .ok (.aload_n 0, 1) := by decide +kernel
theorem dX2_init_13 : decode cX2_init 13 = .ok (.bipush 6, 2) := by decide +kernel
theorem dX2_init_15 : decode cX2_init 15 = .ok (.newarray .int, 2) := by decide +kernel
theorem dX2_init_17 : decode cX2_init 17 = .ok (.putfield 15, 3) := by decide +kernel
theorem dX2_init_20 : decode cX2_init 20 = .ok (.aload_n 0, 1) := by decide +kernel
theorem dX2_init_21 : decode cX2_init 21 = .ok (.bipush 6, 2) := by decide +kernel
theorem dX2_init_23 : decode cX2_init 23 = .ok (.newarray .int, 2) := by decide +kernel
theorem dX2_init_25 : decode cX2_init 25 = .ok (.putfield 18, 3) := by decide +kernel
theorem dX2_init_28 : decode cX2_init 28 = .ok (.aload_n 0, 1) := by decide +kernel
theorem dX2_init_29 : decode cX2_init 29 = .ok (.iconst 4, 1) := by decide +kernel
theorem dX2_init_30 : decode cX2_init 30 = .ok (.newarray .int, 2) := by decide +kernel
theorem dX2_init_32 : decode cX2_init 32 = .ok (.putfield 21, 3) := by decide +kernel
theorem dX2_init_35 : decode cX2_init 35 = .ok (.aload_n 0, 1) := by decide +kernel
theorem dX2_init_36 : decode cX2_init 36 = .ok (.iconst 4, 1) := by decide +kernel
theorem dX2_init_37 : decode cX2_init 37 = .ok (.newarray .int, 2) := by decide +kernel
theorem dX2_init_39 : decode cX2_init 39 = .ok (.putfield 24, 3) := by decide +kernel
theorem dX2_init_42 : decode cX2_init 42 = .ok (.aload_n 0, 1) := by decide +kernel
theorem dX2_init_43 : decode cX2_init 43 = .ok (.bipush 8, 2) := by decide +kernel
theorem dX2_init_45 : decode cX2_init 45 = .ok (.newarray .int, 2) := by decide +kernel
theorem dX2_init_47 : decode cX2_init 47 = .ok (.putfield 27, 3) := by decide +kernel
theorem dX2_init_50 : decode cX2_init 50 = .ok (.aload_n 0, 1) := by decide +kernel
theorem dX2_init_51 : decode cX2_init 51 = .ok (.bipush 8, 2) := by decide +kernel
theorem dX2_init_53 : decode cX2_init 53 = .ok (.newarray .int, 2) := by decide +kernel
theorem dX2_init_55 : decode cX2_init 55 = .ok (.putfield 30, 3) := by decide +kernel
theorem dX2_init_58 : decode cX2_init 58 = .ok (.aload_n 0, 1) := by decide +kernel
theorem dX2_init_59 : decode cX2_init 59 = .ok (.sipush 384, 3) := by decide +kernel
theorem dX2_init_62 : decode cX2_init 62 = .ok (.newarray .int, 2) := by decide +kernel
theorem dX2_init_64 : decode cX2_init 64 = .ok (.putfield 33, 3) := by decide +kernel
theorem dX2_init_67 : decode cX2_init 67 = .ok (.aload_n 0, 1) := by decide +kernel
theorem dX2_init_68 : decode cX2_init 68 = .ok (.bipush 6, 2) := by decide +kernel
theorem dX2_init_70 : decode cX2_init 70 = .ok (.newarray .int, 2) := by decide +kernel
theorem dX2_init_72 : decode cX2_init 72 = .ok (.putfield 36, 3) := by decide +kernel
theorem dX2_init_75 : decode cX2_init 75 = .ok (.aload_n 0, 1) := by decide +kernel
theorem dX2_init_76 : decode cX2_init 76 = .ok (.iconst 0, 1) := by decide +kernel
theorem dX2_init_77 : decode cX2_init 77 = .ok (.putfield 39, 3) := by decide +kernel
theorem dX2_init_80 : decode cX2_init 80 = .ok (.aload_n 0, 1) := by decide +kernel
theorem dX2_init_81 : decode cX2_init 81 = .ok (.iconst 0, 1) := by decide +kernel
theorem dX2_init_82 : decode cX2_init 82 = .ok (.putfield 43, 3) := by decide +kernel
theorem dX2_init_85 : decode cX2_init 85 = .ok (.aload_n 0, 1) := by decide +kernel
theorem dX2_init_86 : decode cX2_init 86 = .ok (.iconst 0, 1) := by decide +kernel
theorem dX2_init_87 : decode cX2_init 87 = .ok (.putfield 47, 3) := by decide +kernel
theorem dX2_init_90 : decode cX2_init 90 = .ok (.aload_n 0, 1) := by decide +kernel
theorem dX2_init_91 : decode cX2_init 91 = .ok (.iconst 0, 1) := by decide +kernel
theorem dX2_init_92 : decode cX2_init 92 = .ok (.putfield 50, 3) := by decide +kernel
theorem dX2_init_95 : decode cX2_init 95 = .ok (.aload_n 0, 1) := by decide +kernel
theorem dX2_init_96 : decode cX2_init 96 = .ok (.iconst 0, 1) := by decide +kernel
theorem dX2_init_97 : decode cX2_init 97 = .ok (.putfield 53, 3) := by decide +kernel
theorem dX2_init_100 : decode cX2_init 100 = .ok (.aload_n 0, 1) := by decide +kernel
theorem dX2_init_101 : decode cX2_init 101 = .ok (.iconst 0, 1) := by decide +kernel
theorem dX2_init_102 : decode cX2_init 102 = .ok (.putfield 56, 3) := by decide +kernel
theorem dX2_init_105 : decode cX2_init 105 = .ok (.aload_n 0, 1) := by decide +kernel
theorem dX2_init_106 : decode cX2_init 106 = .ok (.iconst 0, 1) := by decide +kernel
theorem dX2_init_107 : decode cX2_init 107 = .ok (.putfield 59, 3) := by decide +kernel
theorem dX2_init_110 : decode cX2_init 110 = .ok (.aload_n 0, 1) := by decide +kernel
theorem dX2_init_111 : decode cX2_init 111 = .ok (.iconst 0, 1) := by decide +kernel
theorem dX2_init_112 : decode cX2_init 112 = .ok (.putfield 62, 3) := by decide +kernel
theorem dX2_init_115 : decode cX2_init 115 = .ok (.aload_n 0, 1) := by decide +kernel
theorem dX2_init_116 : decode cX2_init 116 = .ok (.iconst 0, 1) := by decide +kernel
theorem dX2_init_117 : decode cX2_init 117 = .ok (.putfield 65, 3) := by decide +kernel
theorem dX2_init_120 : decode cX2_init 120 = .ok (.return_, 1) := by decide +kernel
set_option maxRecDepth 20000 in
theorem ggX2_clear_X2_measure : GoodIn wsX2_clear wsX2_measure := goodIn_r _ [11, 12, 13, 14, 15, 16, 17, 18, 19, 20, 21, 22, 23, 24, 25, 26, 27, 28, 29, 30, 31, 32] (by decide +kernel) (by decide +kernel)
set_option maxRecDepth 20000 in
theorem gX2_clear_X2_measure : GoodIn wsX2_clear (wsV RX2 68 RX2 yX2_measure wsX2_measure) := goodIn_app (goodIn_of _ (by decide +kernel)) ggX2_clear_X2_measure
theorem dX2_clear_0 : decode cX2_clear 0 = .ok (.aload_n 0, 1) := by decide +kernel
theorem dX2_clear_1 : decode cX2_clear 1 = .ok (.iconst 0, 1) := by decide +kernel
theorem dX2_clear_2 : decode cX2_clear 2 = .ok (.putfield 39, 3) := by decide +kernel
theorem dX2_clear_5 : decode cX2_clear 5 = .ok (.aload_n 0, 1) := by decide +kernel
theorem dX2_clear_6 : decode cX2_clear 6 = .ok (.iconst 0, 1) := by decide +kernel
theorem dX2_clear_7 : decode cX2_clear 7 = .ok (.putfield 53, 3) := by decide +kernel
theorem dX2_clear_10 : decode cX2_clear 10 = .ok (.aload_n 0, 1) := by decide +kernel
theorem dX2_clear_11 : decode cX2_clear 11 = .ok (.iconst 0, 1) := by decide +kernel
theorem dX2_clear_12 : decode cX2_clear 12 = .ok (.putfield 56, 3) := by decide +kernel
theorem dX2_clear_15 : decode cX2_clear 15 = .ok (.aload_n 0, 1) := by decide +kernel
theorem dX2_clear_16 : decode cX2_clear 16 = .ok (.iconst 0, 1) := by decide +kernel
theorem dX2_clear_17 : decode cX2_clear 17 = .ok (.putfield 59, 3) := by decide +kernel
theorem dX2_clear_20 : decode cX2_clear 20 = .ok (.aload_n 0, 1) := by decide +kernel
theorem dX2_clear_21 : decode cX2_clear 21 = .ok (.iconst 0, 1) := by decide +kernel
theorem dX2_clear_22 : decode cX2_clear 22 = .ok (.putfield 62, 3) := by decide +kernel
theorem dX2_clear_25 : decode cX2_clear 25 = .ok (.aload_n 0, 1) := by decide +kernel
theorem dX2_clear_26 : decode cX2_clear 26 = .ok (.iconst 0, 1) := by decide +kernel
theorem dX2_clear_27 : decode cX2_clear 27 = .ok (.putfield 65, 3) := by decide +kernel
theorem dX2_clear_30 : decode cX2_clear 30 = .ok (.aload_n 0, 1) := by decide +kernel
theorem dX2_clear_31 : decode cX2_clear 31 = .ok (.iconst 0, 1) := by decide +kernel
theorem dX2_clear_32 : decode cX2_clear 32 = .ok (.iconst 0, 1) := by decide +kernel
theorem dX2_clear_33 : decode cX2_clear 33 = .ok (.invokevirtual 68, 3) := by decide +kernel
theorem dX2_clear_36 : decode cX2_clear 36 = .ok (.return_, 1) := by decide +kernel
theorem dX2_measure_0 : decode cX2_measure 0 = .ok (.aload_n 0, 1) := by decide +kernel
theorem dX2_measure_1 : decode cX2_measure 1 = .ok (.iload_n 1, 1) := by decide +kernel
theorem dX2_measure_2 : decode cX2_measure 2 = .ok (.putfield 43, 3) := by decide +kernel
theorem dX2_measure_5 : decode cX2_measure 5 = .ok (.aload_n 0, 1) := by decide +kernel
theorem dX2_measure_6 : decode cX2_measure 6 = .ok (.iload_n 2, 1) := by decide +kernel
theorem dX2_measure_7 : decode cX2_measure 7 = .ok (.putfield 47, 3) := by decide +kernel
theorem dX2_measure_10 : decode cX2_measure 10 = .ok (.aload_n 0, 1) := by decide +kernel
theorem dX2_measure_11 : decode cX2_measure 11 = .ok (.iload_n 1, 1) := by decide +kernel
theorem dX2_measure_12 : decode cX2_measure 12 = .ok (.iload_n 2, 1) := by decide +kernel
theorem dX2_measure_13 : decode cX2_measure 13 = .ok (.imul, 1) := by decide +kernel
theorem dX2_measure_14 : decode cX2_measure 14 = .ok (.putfield 50, 3) := by decide +kernel
theorem dX2_measure_17 : decode cX2_measure 17 = .ok (.return_, 1) := by decide +kernel
set_option maxRecDepth 20000 in
theorem ggX2_addWard_X3_write : GoodIn wsX2_addWard wsX3_write := goodIn_r _ [7] (by decide +kernel) (by decide +kernel)
set_option maxRecDepth 20000 in
theorem gX2_addWard_X3_write_n72 : GoodIn wsX2_addWard (wsX3_write) := ggX2_addWard_X3_write
theorem dX2_addWard_0 : decode cX2_addWard 0 = .ok (.aload_n 0, 1) := by decide +kernel
theorem dX2_addWard_1 : decode cX2_addWard 1 = .ok (.getfield 9, 3) := by decide +kernel
theorem dX2_addWard_4 : decode cX2_addWard 4 = .ok (.aload_n 0, 1) := by decide +kernel
theorem dX2_addWard_5 : decode cX2_addWard 5 = .ok (.getfield 56, 3) := by decide +kernel
theorem dX2_addWard_8 : decode cX2_addWard 8 = .ok (.iload_n 1, 1) := by decide +kernel
theorem dX2_addWard_9 : decode cX2_addWard 9 = .ok (.invokestatic 72, 3) := by decide +kernel
theorem dX2_addWard_12 : decode cX2_addWard 12 = .ok (.aload_n 0, 1) := by decide +kernel
theorem dX2_addWard_13 : decode cX2_addWard 13 = .ok (.getfield 18, 3) := by decide +kernel
theorem dX2_addWard_16 : decode cX2_addWard 16 = .ok (.aload_n 0, 1) := by decide +kernel
theorem dX2_addWard_17 : decode cX2_addWard 17 = .ok (.getfield 56, 3) := by decide +kernel
theorem dX2_addWard_20 : decode cX2_addWard 20 = .ok (.iload_n 2, 1) := by decide +kernel
theorem dX2_addWard_21 : decode cX2_addWard 21 = .ok (.invokestatic 72, 3) := by decide +kernel
theorem dX2_addWard_24 : decode cX2_addWard 24 = .ok (.aload_n 0, 1) := by decide +kernel
theorem dX2_addWard_25 : decode cX2_addWard 25 = .ok (.getfield 15, 3) := by decide +kernel
theorem dX2_addWard_28 : decode cX2_addWard 28 = .ok (.aload_n 0, 1) := by decide +kernel
theorem dX2_addWard_29 : decode cX2_addWard 29 = .ok (.getfield 56, 3) := by decide +kernel
theorem dX2_addWard_32 : decode cX2_addWard 32 = .ok (.iload_n 3, 1) := by decide +kernel
theorem dX2_addWard_33 : decode cX2_addWard 33 = .ok (.invokestatic 72, 3) := by decide +kernel
theorem dX2_addWard_36 : decode cX2_addWard 36 = .ok (.aload_n 0, 1) := by decide +kernel
theorem dX2_addWard_37 : decode cX2_addWard 37 = .ok (.dup, 1) := by decide +kernel
theorem dX2_addWard_38 : decode cX2_addWard 38 = .ok (.getfield 56, 3) := by decide +kernel
theorem dX2_addWard_41 : decode cX2_addWard 41 = .ok (.iconst 1, 1) := by decide +kernel
theorem dX2_addWard_42 : decode cX2_addWard 42 = .ok (.iadd, 1) := by decide +kernel
theorem dX2_addWard_43 : decode cX2_addWard 43 = .ok (.putfield 56, 3) := by decide +kernel
theorem dX2_addWard_46 : decode cX2_addWard 46 = .ok (.return_, 1) := by decide +kernel
set_option maxRecDepth 20000 in
theorem ggX2_addWork_X3_write : GoodIn wsX2_addWork wsX3_write := goodIn_r _ [7] (by decide +kernel) (by decide +kernel)
set_option maxRecDepth 20000 in
theorem gX2_addWork_X3_write_n72 : GoodIn wsX2_addWork (wsX3_write) := ggX2_addWork_X3_write
set_option maxRecDepth 20000 in
theorem ggX2_addWork_X2_measureWay : GoodIn wsX2_addWork wsX2_measureWay := goodIn_r _ [12, 13, 14, 15, 3, 16, 17, 11, 18, 5, 6, 7, 19, 20, 21, 22, 23, 24, 25, 26, 27, 28, 29, 30, 31, 32, 33, 34, 35, 36, 37, 38] (by decide +kernel) (by decide +kernel)
set_option maxRecDepth 20000 in
theorem gX2_addWork_X2_measureWay : GoodIn wsX2_addWork (wsV RX2 76 RX2 yX2_measureWay wsX2_measureWay) := goodIn_app (goodIn_of _ (by decide +kernel)) ggX2_addWork_X2_measureWay
theorem dX2_addWork_0 : decode cX2_addWork 0 = .ok (.aload_n 0, 1) := by decide +kernel
theorem dX2_addWork_1 : decode cX2_addWork 1 = .ok (.getfield 21, 3) := by decide +kernel
theorem dX2_addWork_4 : decode cX2_addWork 4 = .ok (.aload_n 0, 1) := by decide +kernel
theorem dX2_addWork_5 : decode cX2_addWork 5 = .ok (.getfield 53, 3) := by decide +kernel
theorem dX2_addWork_8 : decode cX2_addWork 8 = .ok (.iload_n 1, 1) := by decide +kernel
theorem dX2_addWork_9 : decode cX2_addWork 9 = .ok (.aload_n 0, 1) := by decide +kernel
theorem dX2_addWork_10 : decode cX2_addWork 10 = .ok (.getfield 47, 3) := by decide +kernel
theorem dX2_addWork_13 : decode cX2_addWork 13 = .ok (.imul, 1) := by decide +kernel
theorem dX2_addWork_14 : decode cX2_addWork 14 = .ok (.iload_n 2, 1) := by decide +kernel
theorem dX2_addWork_15 : decode cX2_addWork 15 = .ok (.iadd, 1) := by decide +kernel
theorem dX2_addWork_16 : decode cX2_addWork 16 = .ok (.invokestatic 72, 3) := by decide +kernel
theorem dX2_addWork_19 : decode cX2_addWork 19 = .ok (.aload_n 0, 1) := by decide +kernel
theorem dX2_addWork_20 : decode cX2_addWork 20 = .ok (.getfield 24, 3) := by decide +kernel
theorem dX2_addWork_23 : decode cX2_addWork 23 = .ok (.aload_n 0, 1) := by decide +kernel
theorem dX2_addWork_24 : decode cX2_addWork 24 = .ok (.getfield 53, 3) := by decide +kernel
theorem dX2_addWork_27 : decode cX2_addWork 27 = .ok (.iload_n 3, 1) := by decide +kernel
theorem dX2_addWork_28 : decode cX2_addWork 28 = .ok (.invokestatic 72, 3) := by decide +kernel
theorem dX2_addWork_31 : decode cX2_addWork 31 = .ok (.iconst 0, 1) := by decide +kernel
theorem dX2_addWork_32 : decode cX2_addWork 32 = .ok (.istore 4, 2) := by decide +kernel
theorem dX2_addWork_34 : decode cX2_addWork 34 = .ok (.iload 4, 2) := by decide +kernel
theorem dX2_addWork_36 : decode cX2_addWork 36 = .ok (.iconst 4, 1) := by decide +kernel
theorem dX2_addWork_37 : decode cX2_addWork 37 = .ok (.if_icmp .ge 21, 3) := by decide +kernel
theorem dX2_addWork_40 : decode cX2_addWork 40 = .ok (.aload_n 0, 1) := by decide +kernel
theorem dX2_addWork_41 : decode cX2_addWork 41 = .ok (.aload_n 0, 1) := by decide +kernel
theorem dX2_addWork_42 : decode cX2_addWork 42 = .ok (.getfield 53, 3) := by decide +kernel
theorem dX2_addWork_45 : decode cX2_addWork 45 = .ok (.iload 4, 2) := by decide +kernel
theorem dX2_addWork_47 : decode cX2_addWork 47 = .ok (.iload_n 1, 1) := by decide +kernel
theorem dX2_addWork_48 : decode cX2_addWork 48 = .ok (.iload_n 2, 1) := by decide +kernel
theorem dX2_addWork_49 : decode cX2_addWork 49 = .ok (.invokevirtual 76, 3) := by decide +kernel
theorem dX2_addWork_52 : decode cX2_addWork 52 = .ok (.iinc 4 1, 3) := by decide +kernel
theorem dX2_addWork_55 : decode cX2_addWork 55 = .ok (.goto (-21), 3) := by decide +kernel
theorem dX2_addWork_58 : decode cX2_addWork 58 = .ok (.aload_n 0, 1) := by decide +kernel
theorem dX2_addWork_59 : decode cX2_addWork 59 = .ok (.dup, 1) := by decide +kernel
theorem dX2_addWork_60 : decode cX2_addWork 60 = .ok (.getfield 53, 3) := by decide +kernel
theorem dX2_addWork_63 : decode cX2_addWork 63 = .ok (.iconst 1, 1) := by decide +kernel
theorem dX2_addWork_64 : decode cX2_addWork 64 = .ok (.iadd, 1) := by decide +kernel
theorem dX2_addWork_65 : decode cX2_addWork 65 = .ok (.putfield 53, 3) := by decide +kernel
theorem dX2_addWork_68 : decode cX2_addWork 68 = .ok (.return_, 1) := by decide +kernel
set_option maxRecDepth 20000 in
theorem ggX2_measureWay_X2_wayIndex : GoodIn wsX2_measureWay wsX2_wayIndex := goodIn_r _ [8] (by decide +kernel) (by decide +kernel)
set_option maxRecDepth 20000 in
theorem gX2_measureWay_X2_wayIndex : GoodIn wsX2_measureWay (va_wsS RX2 80 yX2_wayIndex wsX2_wayIndex) := goodIn_app (goodIn_of _ (by decide +kernel)) ggX2_measureWay_X2_wayIndex
set_option maxRecDepth 20000 in
theorem ggX2_measureWay_X3_write : GoodIn wsX2_measureWay wsX3_write := goodIn_r _ [11] (by decide +kernel) (by decide +kernel)
set_option maxRecDepth 20000 in
theorem gX2_measureWay_X3_write_n72 : GoodIn wsX2_measureWay (wsX3_write) := ggX2_measureWay_X3_write
set_option maxRecDepth 20000 in
theorem ggX2_measureWay_X3_read : GoodIn wsX2_measureWay wsX3_read := goodIn_r _ [13] (by decide +kernel) (by decide +kernel)
set_option maxRecDepth 20000 in
theorem gX2_measureWay_X3_read_n88 : GoodIn wsX2_measureWay (wsX3_read) := ggX2_measureWay_X3_read
theorem dX2_measureWay_0 : decode cX2_measureWay 0 = .ok (.iconst 0, 1) := by decide +kernel
theorem dX2_measureWay_1 : decode cX2_measureWay 1 = .ok (.istore 5, 2) := by decide +kernel
theorem dX2_measureWay_3 : decode cX2_measureWay 3 = .ok (.iload 5, 2) := by decide +kernel
theorem dX2_measureWay_5 : decode cX2_measureWay 5 = .ok (.bipush 24, 2) := by decide +kernel
theorem dX2_measureWay_7 : decode cX2_measureWay 7 = .ok (.if_icmp .ge 26, 3) := by decide +kernel
theorem dX2_measureWay_10 : decode cX2_measureWay 10 = .ok (.aload_n 0, 1) := by decide +kernel
theorem dX2_measureWay_11 : decode cX2_measureWay 11 = .ok (.getfield 33, 3) := by decide +kernel
theorem dX2_measureWay_14 : decode cX2_measureWay 14 = .ok (.iload_n 1, 1) := by decide +kernel
theorem dX2_measureWay_15 : decode cX2_measureWay 15 = .ok (.iload_n 2, 1) := by decide +kernel
theorem dX2_measureWay_16 : decode cX2_measureWay 16 = .ok (.invokestatic 80, 3) := by decide +kernel
theorem dX2_measureWay_19 : decode cX2_measureWay 19 = .ok (.iload 5, 2) := by decide +kernel
theorem dX2_measureWay_21 : decode cX2_measureWay 21 = .ok (.iadd, 1) := by decide +kernel
theorem dX2_measureWay_22 : decode cX2_measureWay 22 = .ok (.ldc 84, 2) := by decide +kernel
theorem dX2_measureWay_24 : decode cX2_measureWay 24 = .ok (.invokestatic 72, 3) := by decide +kernel
theorem dX2_measureWay_27 : decode cX2_measureWay 27 = .ok (.iinc 5 1, 3) := by decide +kernel
theorem dX2_measureWay_30 : decode cX2_measureWay 30 = .ok (.goto (-27), 3) := by decide +kernel
theorem dX2_measureWay_33 : decode cX2_measureWay 33 = .ok (.iload_n 3, 1) := by decide +kernel
theorem dX2_measureWay_34 : decode cX2_measureWay 34 = .ok (.istore 5, 2) := by decide +kernel
theorem dX2_measureWay_36 : decode cX2_measureWay 36 = .ok (.iload 4, 2) := by decide +kernel
theorem dX2_measureWay_38 : decode cX2_measureWay 38 = .ok (.istore 6, 2) := by decide +kernel
theorem dX2_measureWay_40 : decode cX2_measureWay 40 = .ok (.iconst 0, 1) := by decide +kernel
theorem dX2_measureWay_41 : decode cX2_measureWay 41 = .ok (.istore 7, 2) := by decide +kernel
theorem dX2_measureWay_43 : decode cX2_measureWay 43 = .ok (.iload 7, 2) := by decide +kernel
theorem dX2_measureWay_45 : decode cX2_measureWay 45 = .ok (.bipush 6, 2) := by decide +kernel
theorem dX2_measureWay_47 : decode cX2_measureWay 47 = .ok (.if_icmp .ge 86, 3) := by decide +kernel
theorem dX2_measureWay_50 : decode cX2_measureWay 50 = .ok (.iload 5, 2) := by decide +kernel
theorem dX2_measureWay_52 : decode cX2_measureWay 52 = .ok (.ifCond .lt 51, 3) := by decide +kernel
theorem dX2_measureWay_55 : decode cX2_measureWay 55 = .ok (.iload 5, 2) := by decide +kernel
theorem dX2_measureWay_57 : decode cX2_measureWay 57 = .ok (.aload_n 0, 1) := by decide +kernel
theorem dX2_measureWay_58 : decode cX2_measureWay 58 = .ok (.getfield 43, 3) := by decide +kernel
theorem dX2_measureWay_61 : decode cX2_measureWay 61 = .ok (.if_icmp .ge 42, 3) := by decide +kernel
theorem dX2_measureWay_64 : decode cX2_measureWay 64 = .ok (.iload 6, 2) := by decide +kernel
theorem dX2_measureWay_66 : decode cX2_measureWay 66 = .ok (.ifCond .lt 37, 3) := by decide +kernel
theorem dX2_measureWay_69 : decode cX2_measureWay 69 = .ok (.iload 6, 2) := by decide +kernel
theorem dX2_measureWay_71 : decode cX2_measureWay 71 = .ok (.aload_n 0, 1) := by decide +kernel
theorem dX2_measureWay_72 : decode cX2_measureWay 72 = .ok (.getfield 47, 3) := by decide +kernel
theorem dX2_measureWay_75 : decode cX2_measureWay 75 = .ok (.if_icmp .ge 28, 3) := by decide +kernel
theorem dX2_measureWay_78 : decode cX2_measureWay 78 = .ok (.aload_n 0, 1) := by decide +kernel
theorem dX2_measureWay_79 : decode cX2_measureWay 79 = .ok (.getfield 33, 3) := by decide +kernel
theorem dX2_measureWay_82 : decode cX2_measureWay 82 = .ok (.iload_n 1, 1) := by decide +kernel
theorem dX2_measureWay_83 : decode cX2_measureWay 83 = .ok (.iload_n 2, 1) := by decide +kernel
theorem dX2_measureWay_84 : decode cX2_measureWay 84 = .ok (.invokestatic 80, 3) := by decide +kernel
theorem dX2_measureWay_87 : decode cX2_measureWay 87 = .ok (.iload 5, 2) := by decide +kernel
theorem dX2_measureWay_89 : decode cX2_measureWay 89 = .ok (.aload_n 0, 1) := by decide +kernel
theorem dX2_measureWay_90 : decode cX2_measureWay 90 = .ok (.getfield 47, 3) := by decide +kernel
theorem dX2_measureWay_93 : decode cX2_measureWay 93 = .ok (.imul, 1) := by decide +kernel
theorem dX2_measureWay_94 : decode cX2_measureWay 94 = .ok (.iadd, 1) := by decide +kernel
theorem dX2_measureWay_95 : decode cX2_measureWay 95 = .ok (.iload 6, 2) := by decide +kernel
theorem dX2_measureWay_97 : decode cX2_measureWay 97 = .ok (.iadd, 1) := by decide +kernel
theorem dX2_measureWay_98 : decode cX2_measureWay 98 = .ok (.iload 7, 2) := by decide +kernel
theorem dX2_measureWay_100 : decode cX2_measureWay 100 = .ok (.invokestatic 72, 3) := by decide +kernel
theorem dX2_measureWay_103 : decode cX2_measureWay 103 = .ok (.iload 5, 2) := by decide +kernel
theorem dX2_measureWay_105 : decode cX2_measureWay 105 = .ok (.getstatic 85, 3) := by decide +kernel
theorem dX2_measureWay_108 : decode cX2_measureWay 108 = .ok (.iload_n 2, 1) := by decide +kernel
theorem dX2_measureWay_109 : decode cX2_measureWay 109 = .ok (.invokestatic 88, 3) := by decide +kernel
theorem dX2_measureWay_112 : decode cX2_measureWay 112 = .ok (.iadd, 1) := by decide +kernel
theorem dX2_measureWay_113 : decode cX2_measureWay 113 = .ok (.istore 5, 2) := by decide +kernel
theorem dX2_measureWay_115 : decode cX2_measureWay 115 = .ok (.iload 6, 2) := by decide +kernel
theorem dX2_measureWay_117 : decode cX2_measureWay 117 = .ok (.getstatic 92, 3) := by decide +kernel
theorem dX2_measureWay_120 : decode cX2_measureWay 120 = .ok (.iload_n 2, 1) := by decide +kernel
theorem dX2_measureWay_121 : decode cX2_measureWay 121 = .ok (.invokestatic 88, 3) := by decide +kernel
theorem dX2_measureWay_124 : decode cX2_measureWay 124 = .ok (.iadd, 1) := by decide +kernel
theorem dX2_measureWay_125 : decode cX2_measureWay 125 = .ok (.istore 6, 2) := by decide +kernel
theorem dX2_measureWay_127 : decode cX2_measureWay 127 = .ok (.iinc 7 1, 3) := by decide +kernel
theorem dX2_measureWay_130 : decode cX2_measureWay 130 = .ok (.goto (-87), 3) := by decide +kernel
theorem dX2_measureWay_133 : decode cX2_measureWay 133 = .ok (.return_, 1) := by decide +kernel
theorem dX2_wayIndex_0 : decode cX2_wayIndex 0 = .ok (.iload_n 0, 1) := by decide +kernel
theorem dX2_wayIndex_1 : decode cX2_wayIndex 1 = .ok (.iconst 4, 1) := by decide +kernel
theorem dX2_wayIndex_2 : decode cX2_wayIndex 2 = .ok (.imul, 1) := by decide +kernel
theorem dX2_wayIndex_3 : decode cX2_wayIndex 3 = .ok (.iload_n 1, 1) := by decide +kernel
theorem dX2_wayIndex_4 : decode cX2_wayIndex 4 = .ok (.iadd, 1) := by decide +kernel
theorem dX2_wayIndex_5 : decode cX2_wayIndex 5 = .ok (.bipush 24, 2) := by decide +kernel
theorem dX2_wayIndex_7 : decode cX2_wayIndex 7 = .ok (.imul, 1) := by decide +kernel
theorem dX2_wayIndex_8 : decode cX2_wayIndex 8 = .ok (.ireturn, 1) := by decide +kernel
theorem dX2_hasCell_0 : decode cX2_hasCell 0 = .ok (.iload_n 1, 1) := by decide +kernel
theorem dX2_hasCell_1 : decode cX2_hasCell 1 = .ok (.ifCond .lt 15, 3) := by decide +kernel
theorem dX2_hasCell_4 : decode cX2_hasCell 4 = .ok (.iload_n 1, 1) := by decide +kernel
theorem dX2_hasCell_5 : decode cX2_hasCell 5 = .ok (.aload_n 0, 1) := by decide +kernel
theorem dX2_hasCell_6 : decode cX2_hasCell 6 = .ok (.getfield 50, 3) := by decide +kernel
theorem dX2_hasCell_9 : decode cX2_hasCell 9 = .ok (.if_icmp .ge 7, 3) := by decide +kernel
theorem dX2_hasCell_12 : decode cX2_hasCell 12 = .ok (.iconst 1, 1) := by decide +kernel
theorem dX2_hasCell_13 : decode cX2_hasCell 13 = .ok (.goto 4, 3) := by decide +kernel
theorem dX2_hasCell_16 : decode cX2_hasCell 16 = .ok (.iconst 0, 1) := by decide +kernel
theorem dX2_hasCell_17 : decode cX2_hasCell 17 = .ok (.ireturn, 1) := by decide +kernel
theorem dX2_hasWork_0 : decode cX2_hasWork 0 = .ok (.iload_n 1, 1) := by decide +kernel
theorem dX2_hasWork_1 : decode cX2_hasWork 1 = .ok (.ifCond .lt 15, 3) := by decide +kernel
theorem dX2_hasWork_4 : decode cX2_hasWork 4 = .ok (.iload_n 1, 1) := by decide +kernel
theorem dX2_hasWork_5 : decode cX2_hasWork 5 = .ok (.aload_n 0, 1) := by decide +kernel
theorem dX2_hasWork_6 : decode cX2_hasWork 6 = .ok (.getfield 53, 3) := by decide +kernel
theorem dX2_hasWork_9 : decode cX2_hasWork 9 = .ok (.if_icmp .ge 7, 3) := by decide +kernel
theorem dX2_hasWork_12 : decode cX2_hasWork 12 = .ok (.iconst 1, 1) := by decide +kernel
theorem dX2_hasWork_13 : decode cX2_hasWork 13 = .ok (.goto 4, 3) := by decide +kernel
theorem dX2_hasWork_16 : decode cX2_hasWork 16 = .ok (.iconst 0, 1) := by decide +kernel
theorem dX2_hasWork_17 : decode cX2_hasWork 17 = .ok (.ireturn, 1) := by decide +kernel
theorem dX2_hasWard_0 : decode cX2_hasWard 0 = .ok (.iload_n 1, 1) := by decide +kernel
theorem dX2_hasWard_1 : decode cX2_hasWard 1 = .ok (.ifCond .lt 15, 3) := by decide +kernel
theorem dX2_hasWard_4 : decode cX2_hasWard 4 = .ok (.iload_n 1, 1) := by decide +kernel
theorem dX2_hasWard_5 : decode cX2_hasWard 5 = .ok (.aload_n 0, 1) := by decide +kernel
theorem dX2_hasWard_6 : decode cX2_hasWard 6 = .ok (.getfield 56, 3) := by decide +kernel
theorem dX2_hasWard_9 : decode cX2_hasWard 9 = .ok (.if_icmp .ge 7, 3) := by decide +kernel
theorem dX2_hasWard_12 : decode cX2_hasWard 12 = .ok (.iconst 1, 1) := by decide +kernel
theorem dX2_hasWard_13 : decode cX2_hasWard 13 = .ok (.goto 4, 3) := by decide +kernel
theorem dX2_hasWard_16 : decode cX2_hasWard 16 = .ok (.iconst 0, 1) := by decide +kernel
theorem dX2_hasWard_17 : decode cX2_hasWard 17 = .ok (.ireturn, 1) := by decide +kernel
theorem dX2_settingsInAll_0 : decode cX2_settingsInAll 0 = .ok (.iconst 1, 1) := by decide +kernel
theorem dX2_settingsInAll_1 : decode cX2_settingsInAll 1 = .ok (.iconst 2, 1) := by decide +kernel
theorem dX2_settingsInAll_2 : decode cX2_settingsInAll 2 = .ok (.aload_n 0, 1) := by decide +kernel
theorem dX2_settingsInAll_3 : decode cX2_settingsInAll 3 = .ok (.getfield 53, 3) := by decide +kernel
theorem dX2_settingsInAll_6 : decode cX2_settingsInAll 6 = .ok (.imul, 1) := by decide +kernel
theorem dX2_settingsInAll_7 : decode cX2_settingsInAll 7 = .ok (.ishl, 1) := by decide +kernel
theorem dX2_settingsInAll_8 : decode cX2_settingsInAll 8 = .ok (.ireturn, 1) := by decide +kernel
theorem dX2_vaneIn_0 : decode cX2_vaneIn 0 = .ok (.iload_n 1, 1) := by decide +kernel
theorem dX2_vaneIn_1 : decode cX2_vaneIn 1 = .ok (.iconst 2, 1) := by decide +kernel
theorem dX2_vaneIn_2 : decode cX2_vaneIn 2 = .ok (.aload_n 0, 1) := by decide +kernel
theorem dX2_vaneIn_3 : decode cX2_vaneIn 3 = .ok (.getfield 53, 3) := by decide +kernel
theorem dX2_vaneIn_6 : decode cX2_vaneIn 6 = .ok (.iconst 1, 1) := by decide +kernel
theorem dX2_vaneIn_7 : decode cX2_vaneIn 7 = .ok (.isub, 1) := by decide +kernel
theorem dX2_vaneIn_8 : decode cX2_vaneIn 8 = .ok (.iload_n 2, 1) := by decide +kernel
theorem dX2_vaneIn_9 : decode cX2_vaneIn 9 = .ok (.isub, 1) := by decide +kernel
theorem dX2_vaneIn_10 : decode cX2_vaneIn 10 = .ok (.imul, 1) := by decide +kernel
theorem dX2_vaneIn_11 : decode cX2_vaneIn 11 = .ok (.ishr, 1) := by decide +kernel
theorem dX2_vaneIn_12 : decode cX2_vaneIn 12 = .ok (.iconst 3, 1) := by decide +kernel
theorem dX2_vaneIn_13 : decode cX2_vaneIn 13 = .ok (.iand, 1) := by decide +kernel
theorem dX2_vaneIn_14 : decode cX2_vaneIn 14 = .ok (.ireturn, 1) := by decide +kernel
theorem dX2_turned_0 : decode cX2_turned 0 = .ok (.iconst 2, 1) := by decide +kernel
theorem dX2_turned_1 : decode cX2_turned 1 = .ok (.aload_n 0, 1) := by decide +kernel
theorem dX2_turned_2 : decode cX2_turned 2 = .ok (.getfield 53, 3) := by decide +kernel
theorem dX2_turned_5 : decode cX2_turned 5 = .ok (.iconst 1, 1) := by decide +kernel
theorem dX2_turned_6 : decode cX2_turned 6 = .ok (.isub, 1) := by decide +kernel
theorem dX2_turned_7 : decode cX2_turned 7 = .ok (.iload_n 2, 1) := by decide +kernel
theorem dX2_turned_8 : decode cX2_turned 8 = .ok (.isub, 1) := by decide +kernel
theorem dX2_turned_9 : decode cX2_turned 9 = .ok (.imul, 1) := by decide +kernel
theorem dX2_turned_10 : decode cX2_turned 10 = .ok (.istore 4, 2) := by decide +kernel
theorem dX2_turned_12 : decode cX2_turned 12 = .ok (.iload_n 1, 1) := by decide +kernel
theorem dX2_turned_13 : decode cX2_turned 13 = .ok (.iconst 3, 1) := by decide +kernel
theorem dX2_turned_14 : decode cX2_turned 14 = .ok (.iload 4, 2) := by decide +kernel
theorem dX2_turned_16 : decode cX2_turned 16 = .ok (.ishl, 1) := by decide +kernel
theorem dX2_turned_17 : decode cX2_turned 17 = .ok (.iconst (-1), 1) := by decide +kernel
theorem dX2_turned_18 : decode cX2_turned 18 = .ok (.ixor, 1) := by decide +kernel
theorem dX2_turned_19 : decode cX2_turned 19 = .ok (.iand, 1) := by decide +kernel
theorem dX2_turned_20 : decode cX2_turned 20 = .ok (.iload_n 3, 1) := by decide +kernel
theorem dX2_turned_21 : decode cX2_turned 21 = .ok (.iload 4, 2) := by decide +kernel
theorem dX2_turned_23 : decode cX2_turned 23 = .ok (.ishl, 1) := by decide +kernel
theorem dX2_turned_24 : decode cX2_turned 24 = .ok (.ior, 1) := by decide +kernel
theorem dX2_turned_25 : decode cX2_turned 25 = .ok (.ireturn, 1) := by decide +kernel
set_option maxRecDepth 20000 in
theorem ggX2_factorOf_X3_read : GoodIn wsX2_factorOf wsX3_read := goodIn_r _ [5] (by decide +kernel) (by decide +kernel)
set_option maxRecDepth 20000 in
theorem gX2_factorOf_X3_read_n88 : GoodIn wsX2_factorOf (wsX3_read) := ggX2_factorOf_X3_read
theorem dX2_factorOf_0 : decode cX2_factorOf 0 = .ok (.aload_n 0, 1) := by decide +kernel
theorem dX2_factorOf_1 : decode cX2_factorOf 1 = .ok (.getfield 15, 3) := by decide +kernel
theorem dX2_factorOf_4 : decode cX2_factorOf 4 = .ok (.iload_n 1, 1) := by decide +kernel
theorem dX2_factorOf_5 : decode cX2_factorOf 5 = .ok (.invokestatic 88, 3) := by decide +kernel
theorem dX2_factorOf_8 : decode cX2_factorOf 8 = .ok (.istore_n 2, 1) := by decide +kernel
theorem dX2_factorOf_9 : decode cX2_factorOf 9 = .ok (.aload_n 0, 1) := by decide +kernel
theorem dX2_factorOf_10 : decode cX2_factorOf 10 = .ok (.getfield 9, 3) := by decide +kernel
theorem dX2_factorOf_13 : decode cX2_factorOf 13 = .ok (.iload_n 1, 1) := by decide +kernel
theorem dX2_factorOf_14 : decode cX2_factorOf 14 = .ok (.invokestatic 88, 3) := by decide +kernel
theorem dX2_factorOf_17 : decode cX2_factorOf 17 = .ok (.lookupswitch 37 #[(1, 33), (2, 27)], 27) := by decide +kernel
theorem dX2_factorOf_44 : decode cX2_factorOf 44 = .ok (.iconst 2, 1) := by decide +kernel
theorem dX2_factorOf_45 : decode cX2_factorOf 45 = .ok (.iload_n 2, 1) := by decide +kernel
theorem dX2_factorOf_46 : decode cX2_factorOf 46 = .ok (.iconst 1, 1) := by decide +kernel
theorem dX2_factorOf_47 : decode cX2_factorOf 47 = .ok (.iadd, 1) := by decide +kernel
theorem dX2_factorOf_48 : decode cX2_factorOf 48 = .ok (.imul, 1) := by decide +kernel
theorem dX2_factorOf_49 : decode cX2_factorOf 49 = .ok (.ireturn, 1) := by decide +kernel
theorem dX2_factorOf_50 : decode cX2_factorOf 50 = .ok (.iload_n 2, 1) := by decide +kernel
theorem dX2_factorOf_51 : decode cX2_factorOf 51 = .ok (.iconst 1, 1) := by decide +kernel
theorem dX2_factorOf_52 : decode cX2_factorOf 52 = .ok (.iadd, 1) := by decide +kernel
theorem dX2_factorOf_53 : decode cX2_factorOf 53 = .ok (.ireturn, 1) := by decide +kernel
theorem dX2_factorOf_54 : decode cX2_factorOf 54 = .ok (.iload_n 2, 1) := by decide +kernel
theorem dX2_factorOf_55 : decode cX2_factorOf 55 = .ok (.ireturn, 1) := by decide +kernel
set_option maxRecDepth 20000 in
theorem ggX2_smellBy_X2_vaneIn : GoodIn wsX2_smellBy wsX2_vaneIn := goodIn_r _ [16, 1, 23, 24, 25, 26, 27, 28, 29, 30, 31, 32, 33, 34, 35, 36, 37, 38, 39, 40] (by decide +kernel) (by decide +kernel)
set_option maxRecDepth 20000 in
theorem gX2_smellBy_X2_vaneIn : GoodIn wsX2_smellBy (wsV RX2 95 RX2 yX2_vaneIn wsX2_vaneIn) := goodIn_app (goodIn_of _ (by decide +kernel)) ggX2_smellBy_X2_vaneIn
set_option maxRecDepth 20000 in
theorem ggX2_smellBy_X2_wayIndex : GoodIn wsX2_smellBy wsX2_wayIndex := goodIn_r _ [19] (by decide +kernel) (by decide +kernel)
set_option maxRecDepth 20000 in
theorem gX2_smellBy_X2_wayIndex : GoodIn wsX2_smellBy (va_wsS RX2 80 yX2_wayIndex wsX2_wayIndex) := goodIn_app (goodIn_of _ (by decide +kernel)) ggX2_smellBy_X2_wayIndex
set_option maxRecDepth 20000 in
theorem ggX2_smellBy_X3_read : GoodIn wsX2_smellBy wsX3_read := goodIn_r _ [22] (by decide +kernel) (by decide +kernel)
set_option maxRecDepth 20000 in
theorem gX2_smellBy_X3_read_n88 : GoodIn wsX2_smellBy (wsX3_read) := ggX2_smellBy_X3_read
theorem dX2_smellBy_0 : decode cX2_smellBy 0 = .ok (.iconst 0, 1) := by decide +kernel
theorem dX2_smellBy_1 : decode cX2_smellBy 1 = .ok (.istore_n 3, 1) := by decide +kernel
theorem dX2_smellBy_2 : decode cX2_smellBy 2 = .ok (.iconst 0, 1) := by decide +kernel
theorem dX2_smellBy_3 : decode cX2_smellBy 3 = .ok (.istore 4, 2) := by decide +kernel
theorem dX2_smellBy_5 : decode cX2_smellBy 5 = .ok (.iload 4, 2) := by decide +kernel
theorem dX2_smellBy_7 : decode cX2_smellBy 7 = .ok (.aload_n 0, 1) := by decide +kernel
theorem dX2_smellBy_8 : decode cX2_smellBy 8 = .ok (.getfield 53, 3) := by decide +kernel
theorem dX2_smellBy_11 : decode cX2_smellBy 11 = .ok (.if_icmp .ge 91, 3) := by decide +kernel
theorem dX2_smellBy_14 : decode cX2_smellBy 14 = .ok (.iload 4, 2) := by decide +kernel
theorem dX2_smellBy_16 : decode cX2_smellBy 16 = .ok (.aload_n 0, 1) := by decide +kernel
theorem dX2_smellBy_17 : decode cX2_smellBy 17 = .ok (.iload_n 1, 1) := by decide +kernel
theorem dX2_smellBy_18 : decode cX2_smellBy 18 = .ok (.iload 4, 2) := by decide +kernel
theorem dX2_smellBy_20 : decode cX2_smellBy 20 = .ok (.invokevirtual 95, 3) := by decide +kernel
theorem dX2_smellBy_23 : decode cX2_smellBy 23 = .ok (.invokestatic 80, 3) := by decide +kernel
theorem dX2_smellBy_26 : decode cX2_smellBy 26 = .ok (.istore 5, 2) := by decide +kernel
theorem dX2_smellBy_28 : decode cX2_smellBy 28 = .ok (.iconst 0, 1) := by decide +kernel
theorem dX2_smellBy_29 : decode cX2_smellBy 29 = .ok (.aload_n 0, 1) := by decide +kernel
theorem dX2_smellBy_30 : decode cX2_smellBy 30 = .ok (.getfield 24, 3) := by decide +kernel
theorem dX2_smellBy_33 : decode cX2_smellBy 33 = .ok (.iload 4, 2) := by decide +kernel
theorem dX2_smellBy_35 : decode cX2_smellBy 35 = .ok (.invokestatic 88, 3) := by decide +kernel
theorem dX2_smellBy_38 : decode cX2_smellBy 38 = .ok (.aload_n 0, 1) := by decide +kernel
theorem dX2_smellBy_39 : decode cX2_smellBy 39 = .ok (.getfield 33, 3) := by decide +kernel
theorem dX2_smellBy_42 : decode cX2_smellBy 42 = .ok (.iload 5, 2) := by decide +kernel
theorem dX2_smellBy_44 : decode cX2_smellBy 44 = .ok (.iload_n 2, 1) := by decide +kernel
theorem dX2_smellBy_45 : decode cX2_smellBy 45 = .ok (.iadd, 1) := by decide +kernel
theorem dX2_smellBy_46 : decode cX2_smellBy 46 = .ok (.invokestatic 88, 3) := by decide +kernel
theorem dX2_smellBy_49 : decode cX2_smellBy 49 = .ok (.isub, 1) := by decide +kernel
theorem dX2_smellBy_50 : decode cX2_smellBy 50 = .ok (.invokestatic 98, 3) := by decide +kernel
theorem dX2_smellBy_53 : decode cX2_smellBy 53 = .ok (.istore 6, 2) := by decide +kernel
theorem dX2_smellBy_55 : decode cX2_smellBy 55 = .ok (.aload_n 0, 1) := by decide +kernel
theorem dX2_smellBy_56 : decode cX2_smellBy 56 = .ok (.getfield 59, 3) := by decide +kernel
theorem dX2_smellBy_59 : decode cX2_smellBy 59 = .ok (.ifCond .ne 11, 3) := by decide +kernel
theorem dX2_smellBy_62 : decode cX2_smellBy 62 = .ok (.iload_n 3, 1) := by decide +kernel
theorem dX2_smellBy_63 : decode cX2_smellBy 63 = .ok (.iload 6, 2) := by decide +kernel
theorem dX2_smellBy_65 : decode cX2_smellBy 65 = .ok (.iadd, 1) := by decide +kernel
theorem dX2_smellBy_66 : decode cX2_smellBy 66 = .ok (.istore_n 3, 1) := by decide +kernel
theorem dX2_smellBy_67 : decode cX2_smellBy 67 = .ok (.goto 29, 3) := by decide +kernel
theorem dX2_smellBy_70 : decode cX2_smellBy 70 = .ok (.aload_n 0, 1) := by decide +kernel
theorem dX2_smellBy_71 : decode cX2_smellBy 71 = .ok (.getfield 59, 3) := by decide +kernel
theorem dX2_smellBy_74 : decode cX2_smellBy 74 = .ok (.iconst 1, 1) := by decide +kernel
theorem dX2_smellBy_75 : decode cX2_smellBy 75 = .ok (.if_icmp .ne 13, 3) := by decide +kernel
theorem dX2_smellBy_78 : decode cX2_smellBy 78 = .ok (.iload_n 3, 1) := by decide +kernel
theorem dX2_smellBy_79 : decode cX2_smellBy 79 = .ok (.iload 6, 2) := by decide +kernel
theorem dX2_smellBy_81 : decode cX2_smellBy 81 = .ok (.invokestatic 98, 3) := by decide +kernel
theorem dX2_smellBy_84 : decode cX2_smellBy 84 = .ok (.istore_n 3, 1) := by decide +kernel
theorem dX2_smellBy_85 : decode cX2_smellBy 85 = .ok (.goto 11, 3) := by decide +kernel
theorem dX2_smellBy_88 : decode cX2_smellBy 88 = .ok (.iload_n 3, 1) := by decide +kernel
theorem dX2_smellBy_89 : decode cX2_smellBy 89 = .ok (.iload 6, 2) := by decide +kernel
theorem dX2_smellBy_91 : decode cX2_smellBy 91 = .ok (.isub, 1) := by decide +kernel
theorem dX2_smellBy_92 : decode cX2_smellBy 92 = .ok (.invokestatic 103, 3) := by decide +kernel
theorem dX2_smellBy_95 : decode cX2_smellBy 95 = .ok (.istore_n 3, 1) := by decide +kernel
theorem dX2_smellBy_96 : decode cX2_smellBy 96 = .ok (.iinc 4 1, 3) := by decide +kernel
theorem dX2_smellBy_99 : decode cX2_smellBy 99 = .ok (.goto (-94), 3) := by decide +kernel
theorem dX2_smellBy_102 : decode cX2_smellBy 102 = .ok (.iload_n 3, 1) := by decide +kernel
theorem dX2_smellBy_103 : decode cX2_smellBy 103 = .ok (.ireturn, 1) := by decide +kernel
set_option maxRecDepth 20000 in
theorem ggX2_mindedBy_X2_factorOf : GoodIn wsX2_mindedBy wsX2_factorOf := goodIn_r _ [6, 7, 8, 9, 10, 11, 34, 35, 36, 37, 38, 39, 40, 41, 42, 43, 44, 45, 46, 47, 48, 49, 50, 51] (by decide +kernel) (by decide +kernel)
set_option maxRecDepth 20000 in
theorem gX2_mindedBy_X2_factorOf : GoodIn wsX2_mindedBy (wsV RX2 107 RX2 yX2_factorOf wsX2_factorOf) := goodIn_app (goodIn_of _ (by decide +kernel)) ggX2_mindedBy_X2_factorOf
set_option maxRecDepth 20000 in
theorem ggX2_mindedBy_X3_read : GoodIn wsX2_mindedBy wsX3_read := goodIn_r _ [11] (by decide +kernel) (by decide +kernel)
set_option maxRecDepth 20000 in
theorem gX2_mindedBy_X3_read_n88 : GoodIn wsX2_mindedBy (wsX3_read) := ggX2_mindedBy_X3_read
set_option maxRecDepth 20000 in
theorem ggX2_mindedBy_X2_smellBy : GoodIn wsX2_mindedBy wsX2_smellBy := goodIn_r _ [15, 16, 17, 18, 19, 20, 21, 22, 23, 24, 25, 26, 27, 28, 29, 5, 30, 31, 32, 33, 9, 10, 11, 34, 35, 36, 37, 38, 39, 40, 41, 42, 43, 44, 45, 46, 47, 48, 49, 50, 51] (by decide +kernel) (by decide +kernel)
set_option maxRecDepth 20000 in
theorem gX2_mindedBy_X2_smellBy : GoodIn wsX2_mindedBy (wsV RX2 110 RX2 yX2_smellBy wsX2_smellBy) := goodIn_app (goodIn_of _ (by decide +kernel)) ggX2_mindedBy_X2_smellBy
theorem dX2_mindedBy_0 : decode cX2_mindedBy 0 = .ok (.aload_n 0, 1) := by decide +kernel
theorem dX2_mindedBy_1 : decode cX2_mindedBy 1 = .ok (.iload_n 2, 1) := by decide +kernel
theorem dX2_mindedBy_2 : decode cX2_mindedBy 2 = .ok (.invokevirtual 107, 3) := by decide +kernel
theorem dX2_mindedBy_5 : decode cX2_mindedBy 5 = .ok (.aload_n 0, 1) := by decide +kernel
theorem dX2_mindedBy_6 : decode cX2_mindedBy 6 = .ok (.iload_n 1, 1) := by decide +kernel
theorem dX2_mindedBy_7 : decode cX2_mindedBy 7 = .ok (.aload_n 0, 1) := by decide +kernel
theorem dX2_mindedBy_8 : decode cX2_mindedBy 8 = .ok (.getfield 18, 3) := by decide +kernel
theorem dX2_mindedBy_11 : decode cX2_mindedBy 11 = .ok (.iload_n 2, 1) := by decide +kernel
theorem dX2_mindedBy_12 : decode cX2_mindedBy 12 = .ok (.invokestatic 88, 3) := by decide +kernel
theorem dX2_mindedBy_15 : decode cX2_mindedBy 15 = .ok (.invokevirtual 110, 3) := by decide +kernel
theorem dX2_mindedBy_18 : decode cX2_mindedBy 18 = .ok (.imul, 1) := by decide +kernel
theorem dX2_mindedBy_19 : decode cX2_mindedBy 19 = .ok (.ireturn, 1) := by decide +kernel
set_option maxRecDepth 20000 in
theorem ggX2_burdenBy_X2_mindedBy : GoodIn wsX2_burdenBy wsX2_mindedBy := goodIn_r _ [6, 7, 8, 9, 10, 5, 11, 12, 13, 14, 15, 16, 17, 18, 19, 20, 21, 22, 23, 24, 25, 26, 27, 28, 29, 30, 31, 32, 33, 34, 35, 36, 37, 38, 39, 40, 41, 42, 43, 44, 45, 46, 47, 48, 49, 50, 51, 52, 53, 54, 55, 56] (by decide +kernel) (by decide +kernel)
set_option maxRecDepth 20000 in
theorem gX2_burdenBy_X2_mindedBy : GoodIn wsX2_burdenBy (wsV RX2 113 RX2 yX2_mindedBy wsX2_mindedBy) := goodIn_app (goodIn_of _ (by decide +kernel)) ggX2_burdenBy_X2_mindedBy
theorem dX2_burdenBy_0 : decode cX2_burdenBy 0 = .ok (.iconst 0, 1) := by decide +kernel
theorem dX2_burdenBy_1 : decode cX2_burdenBy 1 = .ok (.istore_n 2, 1) := by decide +kernel
theorem dX2_burdenBy_2 : decode cX2_burdenBy 2 = .ok (.iconst 0, 1) := by decide +kernel
theorem dX2_burdenBy_3 : decode cX2_burdenBy 3 = .ok (.istore_n 3, 1) := by decide +kernel
theorem dX2_burdenBy_4 : decode cX2_burdenBy 4 = .ok (.iload_n 3, 1) := by decide +kernel
theorem dX2_burdenBy_5 : decode cX2_burdenBy 5 = .ok (.aload_n 0, 1) := by decide +kernel
theorem dX2_burdenBy_6 : decode cX2_burdenBy 6 = .ok (.getfield 56, 3) := by decide +kernel
theorem dX2_burdenBy_9 : decode cX2_burdenBy 9 = .ok (.if_icmp .ge 18, 3) := by decide +kernel
theorem dX2_burdenBy_12 : decode cX2_burdenBy 12 = .ok (.iload_n 2, 1) := by decide +kernel
theorem dX2_burdenBy_13 : decode cX2_burdenBy 13 = .ok (.aload_n 0, 1) := by decide +kernel
theorem dX2_burdenBy_14 : decode cX2_burdenBy 14 = .ok (.iload_n 1, 1) := by decide +kernel
theorem dX2_burdenBy_15 : decode cX2_burdenBy 15 = .ok (.iload_n 3, 1) := by decide +kernel
theorem dX2_burdenBy_16 : decode cX2_burdenBy 16 = .ok (.invokevirtual 113, 3) := by decide +kernel
theorem dX2_burdenBy_19 : decode cX2_burdenBy 19 = .ok (.iadd, 1) := by decide +kernel
theorem dX2_burdenBy_20 : decode cX2_burdenBy 20 = .ok (.istore_n 2, 1) := by decide +kernel
theorem dX2_burdenBy_21 : decode cX2_burdenBy 21 = .ok (.iinc 3 1, 3) := by decide +kernel
theorem dX2_burdenBy_24 : decode cX2_burdenBy 24 = .ok (.goto (-20), 3) := by decide +kernel
theorem dX2_burdenBy_27 : decode cX2_burdenBy 27 = .ok (.iload_n 2, 1) := by decide +kernel
theorem dX2_burdenBy_28 : decode cX2_burdenBy 28 = .ok (.ireturn, 1) := by decide +kernel
set_option maxRecDepth 20000 in
theorem ggX2_mostMindedBy_X2_mindedBy : GoodIn wsX2_mostMindedBy wsX2_mindedBy := goodIn_r _ [10, 11, 12, 13, 14, 9, 15, 16, 17, 18, 19, 20, 21, 22, 23, 24, 25, 26, 27, 2, 3, 4, 5, 28, 29, 30, 31, 32, 33, 34, 35, 36, 37, 38, 39, 40, 41, 42, 43, 44, 45, 46, 47, 48, 49, 50, 51, 52, 53, 54, 55, 56] (by decide +kernel) (by decide +kernel)
set_option maxRecDepth 20000 in
theorem gX2_mostMindedBy_X2_mindedBy : GoodIn wsX2_mostMindedBy (wsV RX2 113 RX2 yX2_mindedBy wsX2_mindedBy) := goodIn_app (goodIn_of _ (by decide +kernel)) ggX2_mostMindedBy_X2_mindedBy
theorem dX2_mostMindedBy_0 : decode cX2_mostMindedBy 0 = .ok (.iconst 0, 1) := by decide +kernel
theorem dX2_mostMindedBy_1 : decode cX2_mostMindedBy 1 = .ok (.istore_n 2, 1) := by decide +kernel
theorem dX2_mostMindedBy_2 : decode cX2_mostMindedBy 2 = .ok (.iconst 0, 1) := by decide +kernel
theorem dX2_mostMindedBy_3 : decode cX2_mostMindedBy 3 = .ok (.istore_n 3, 1) := by decide +kernel
theorem dX2_mostMindedBy_4 : decode cX2_mostMindedBy 4 = .ok (.iload_n 3, 1) := by decide +kernel
theorem dX2_mostMindedBy_5 : decode cX2_mostMindedBy 5 = .ok (.aload_n 0, 1) := by decide +kernel
theorem dX2_mostMindedBy_6 : decode cX2_mostMindedBy 6 = .ok (.getfield 56, 3) := by decide +kernel
theorem dX2_mostMindedBy_9 : decode cX2_mostMindedBy 9 = .ok (.if_icmp .ge 20, 3) := by decide +kernel
theorem dX2_mostMindedBy_12 : decode cX2_mostMindedBy 12 = .ok (.iload_n 2, 1) := by decide +kernel
theorem dX2_mostMindedBy_13 : decode cX2_mostMindedBy 13 = .ok (.aload_n 0, 1) := by decide +kernel
theorem dX2_mostMindedBy_14 : decode cX2_mostMindedBy 14 = .ok (.iload_n 1, 1) := by decide +kernel
theorem dX2_mostMindedBy_15 : decode cX2_mostMindedBy 15 = .ok (.iload_n 3, 1) := by decide +kernel
theorem dX2_mostMindedBy_16 : decode cX2_mostMindedBy 16 = .ok (.invokevirtual 113, 3) := by decide +kernel
theorem dX2_mostMindedBy_19 : decode cX2_mostMindedBy 19 = .ok (.invokestatic 98, 3) := by decide +kernel
theorem dX2_mostMindedBy_22 : decode cX2_mostMindedBy 22 = .ok (.istore_n 2, 1) := by decide +kernel
theorem dX2_mostMindedBy_23 : decode cX2_mostMindedBy 23 = .ok (.iinc 3 1, 3) := by decide +kernel
theorem dX2_mostMindedBy_26 : decode cX2_mostMindedBy 26 = .ok (.goto (-22), 3) := by decide +kernel
theorem dX2_mostMindedBy_29 : decode cX2_mostMindedBy 29 = .ok (.iload_n 2, 1) := by decide +kernel
theorem dX2_mostMindedBy_30 : decode cX2_mostMindedBy 30 = .ok (.ireturn, 1) := by decide +kernel
set_option maxRecDepth 20000 in
theorem ggX2_voteBy_X2_turned : GoodIn wsX2_voteBy wsX2_turned := goodIn_r _ [6, 7, 43, 44, 45, 46, 47, 48, 49, 50, 51, 52, 53, 54, 55, 56, 57, 58, 59, 60] (by decide +kernel) (by decide +kernel)
set_option maxRecDepth 20000 in
theorem gX2_voteBy_X2_turned : GoodIn wsX2_voteBy (wsV RX2 116 RX2 yX2_turned wsX2_turned) := goodIn_app (goodIn_of _ (by decide +kernel)) ggX2_voteBy_X2_turned
set_option maxRecDepth 20000 in
theorem ggX2_voteBy_X2_mindedBy : GoodIn wsX2_voteBy wsX2_mindedBy := goodIn_r _ [11, 12, 13, 14, 15, 5, 16, 17, 18, 19, 20, 21, 22, 23, 24, 25, 7, 26, 27, 28, 29, 30, 31, 32, 33, 34, 35, 36, 37, 38, 39, 40, 41, 42, 43, 44, 45, 46, 47, 48, 49, 50, 51, 52, 53, 54, 55, 56, 57, 58, 59, 60] (by decide +kernel) (by decide +kernel)
set_option maxRecDepth 20000 in
theorem gX2_voteBy_X2_mindedBy : GoodIn wsX2_voteBy (wsV RX2 113 RX2 yX2_mindedBy wsX2_mindedBy) := goodIn_app (goodIn_of _ (by decide +kernel)) ggX2_voteBy_X2_mindedBy
theorem dX2_voteBy_0 : decode cX2_voteBy 0 = .ok (.iconst 0, 1) := by decide +kernel
theorem dX2_voteBy_1 : decode cX2_voteBy 1 = .ok (.istore 4, 2) := by decide +kernel
theorem dX2_voteBy_3 : decode cX2_voteBy 3 = .ok (.ldc 84, 2) := by decide +kernel
theorem dX2_voteBy_5 : decode cX2_voteBy 5 = .ok (.istore 5, 2) := by decide +kernel
theorem dX2_voteBy_7 : decode cX2_voteBy 7 = .ok (.iconst 0, 1) := by decide +kernel
theorem dX2_voteBy_8 : decode cX2_voteBy 8 = .ok (.istore 6, 2) := by decide +kernel
theorem dX2_voteBy_10 : decode cX2_voteBy 10 = .ok (.iload 6, 2) := by decide +kernel
theorem dX2_voteBy_12 : decode cX2_voteBy 12 = .ok (.iconst 4, 1) := by decide +kernel
theorem dX2_voteBy_13 : decode cX2_voteBy 13 = .ok (.if_icmp .ge 39, 3) := by decide +kernel
theorem dX2_voteBy_16 : decode cX2_voteBy 16 = .ok (.aload_n 0, 1) := by decide +kernel
theorem dX2_voteBy_17 : decode cX2_voteBy 17 = .ok (.aload_n 0, 1) := by decide +kernel
theorem dX2_voteBy_18 : decode cX2_voteBy 18 = .ok (.iload_n 1, 1) := by decide +kernel
theorem dX2_voteBy_19 : decode cX2_voteBy 19 = .ok (.iload_n 3, 1) := by decide +kernel
theorem dX2_voteBy_20 : decode cX2_voteBy 20 = .ok (.iload 6, 2) := by decide +kernel
theorem dX2_voteBy_22 : decode cX2_voteBy 22 = .ok (.invokevirtual 116, 3) := by decide +kernel
theorem dX2_voteBy_25 : decode cX2_voteBy 25 = .ok (.iload_n 2, 1) := by decide +kernel
theorem dX2_voteBy_26 : decode cX2_voteBy 26 = .ok (.invokevirtual 113, 3) := by decide +kernel
theorem dX2_voteBy_29 : decode cX2_voteBy 29 = .ok (.istore 7, 2) := by decide +kernel
theorem dX2_voteBy_31 : decode cX2_voteBy 31 = .ok (.iload 7, 2) := by decide +kernel
theorem dX2_voteBy_33 : decode cX2_voteBy 33 = .ok (.iload 5, 2) := by decide +kernel
theorem dX2_voteBy_35 : decode cX2_voteBy 35 = .ok (.if_icmp .ge 11, 3) := by decide +kernel
theorem dX2_voteBy_38 : decode cX2_voteBy 38 = .ok (.iload 7, 2) := by decide +kernel
theorem dX2_voteBy_40 : decode cX2_voteBy 40 = .ok (.istore 5, 2) := by decide +kernel
theorem dX2_voteBy_42 : decode cX2_voteBy 42 = .ok (.iload 6, 2) := by decide +kernel
theorem dX2_voteBy_44 : decode cX2_voteBy 44 = .ok (.istore 4, 2) := by decide +kernel
theorem dX2_voteBy_46 : decode cX2_voteBy 46 = .ok (.iinc 6 1, 3) := by decide +kernel
theorem dX2_voteBy_49 : decode cX2_voteBy 49 = .ok (.goto (-39), 3) := by decide +kernel
theorem dX2_voteBy_52 : decode cX2_voteBy 52 = .ok (.iload 4, 2) := by decide +kernel
theorem dX2_voteBy_54 : decode cX2_voteBy 54 = .ok (.ireturn, 1) := by decide +kernel
set_option maxRecDepth 20000 in
theorem ggX2_castVotes_X2_voteBy : GoodIn wsX2_castVotes wsX2_voteBy := goodIn_r _ [7, 8, 9, 10, 11, 6, 12, 13, 14, 15, 16, 17, 18, 19, 20, 21, 22, 23, 24, 25, 26, 27, 28, 29, 30, 31, 32, 33, 34, 35, 36, 37, 38, 39, 40, 41, 42, 43, 44, 45, 46, 47, 48, 51, 52, 53, 54, 55, 56, 57, 58, 59, 60, 61, 62, 63, 64, 65, 66, 67, 68] (by decide +kernel) (by decide +kernel)
set_option maxRecDepth 20000 in
theorem gX2_castVotes_X2_voteBy : GoodIn wsX2_castVotes (wsV RX2 120 RX2 yX2_voteBy wsX2_voteBy) := goodIn_app (goodIn_of _ (by decide +kernel)) ggX2_castVotes_X2_voteBy
set_option maxRecDepth 20000 in
theorem ggX2_castVotes_X3_write : GoodIn wsX2_castVotes wsX3_write := goodIn_r _ [50] (by decide +kernel) (by decide +kernel)
set_option maxRecDepth 20000 in
theorem gX2_castVotes_X3_write_n72 : GoodIn wsX2_castVotes (wsX3_write) := ggX2_castVotes_X3_write
theorem dX2_castVotes_0 : decode cX2_castVotes 0 = .ok (.iconst 0, 1) := by decide +kernel
theorem dX2_castVotes_1 : decode cX2_castVotes 1 = .ok (.istore_n 3, 1) := by decide +kernel
theorem dX2_castVotes_2 : decode cX2_castVotes 2 = .ok (.iload_n 3, 1) := by decide +kernel
theorem dX2_castVotes_3 : decode cX2_castVotes 3 = .ok (.aload_n 0, 1) := by decide +kernel
theorem dX2_castVotes_4 : decode cX2_castVotes 4 = .ok (.getfield 56, 3) := by decide +kernel
theorem dX2_castVotes_7 : decode cX2_castVotes 7 = .ok (.if_icmp .ge 24, 3) := by decide +kernel
theorem dX2_castVotes_10 : decode cX2_castVotes 10 = .ok (.aload_n 0, 1) := by decide +kernel
theorem dX2_castVotes_11 : decode cX2_castVotes 11 = .ok (.getfield 36, 3) := by decide +kernel
theorem dX2_castVotes_14 : decode cX2_castVotes 14 = .ok (.iload_n 3, 1) := by decide +kernel
theorem dX2_castVotes_15 : decode cX2_castVotes 15 = .ok (.aload_n 0, 1) := by decide +kernel
theorem dX2_castVotes_16 : decode cX2_castVotes 16 = .ok (.iload_n 1, 1) := by decide +kernel
theorem dX2_castVotes_17 : decode cX2_castVotes 17 = .ok (.iload_n 3, 1) := by decide +kernel
theorem dX2_castVotes_18 : decode cX2_castVotes 18 = .ok (.iload_n 2, 1) := by decide +kernel
theorem dX2_castVotes_19 : decode cX2_castVotes 19 = .ok (.invokevirtual 120, 3) := by decide +kernel
theorem dX2_castVotes_22 : decode cX2_castVotes 22 = .ok (.invokestatic 72, 3) := by decide +kernel
theorem dX2_castVotes_25 : decode cX2_castVotes 25 = .ok (.iinc 3 1, 3) := by decide +kernel
theorem dX2_castVotes_28 : decode cX2_castVotes 28 = .ok (.goto (-26), 3) := by decide +kernel
theorem dX2_castVotes_31 : decode cX2_castVotes 31 = .ok (.return_, 1) := by decide +kernel
set_option maxRecDepth 20000 in
theorem ggX2_winner_X3_read : GoodIn wsX2_winner wsX3_read := goodIn_r _ [5] (by decide +kernel) (by decide +kernel)
set_option maxRecDepth 20000 in
theorem gX2_winner_X3_read_n88 : GoodIn wsX2_winner (wsX3_read) := ggX2_winner_X3_read
theorem dX2_winner_0 : decode cX2_winner 0 = .ok (.iconst 0, 1) := by decide +kernel
theorem dX2_winner_1 : decode cX2_winner 1 = .ok (.istore_n 3, 1) := by decide +kernel
theorem dX2_winner_2 : decode cX2_winner 2 = .ok (.iconst 0, 1) := by decide +kernel
theorem dX2_winner_3 : decode cX2_winner 3 = .ok (.istore 4, 2) := by decide +kernel
theorem dX2_winner_5 : decode cX2_winner 5 = .ok (.iconst 0, 1) := by decide +kernel
theorem dX2_winner_6 : decode cX2_winner 6 = .ok (.istore 5, 2) := by decide +kernel
theorem dX2_winner_8 : decode cX2_winner 8 = .ok (.iload 5, 2) := by decide +kernel
theorem dX2_winner_10 : decode cX2_winner 10 = .ok (.iconst 4, 1) := by decide +kernel
theorem dX2_winner_11 : decode cX2_winner 11 = .ok (.if_icmp .ge 94, 3) := by decide +kernel
theorem dX2_winner_14 : decode cX2_winner 14 = .ok (.iconst 0, 1) := by decide +kernel
theorem dX2_winner_15 : decode cX2_winner 15 = .ok (.istore 6, 2) := by decide +kernel
theorem dX2_winner_17 : decode cX2_winner 17 = .ok (.iconst 0, 1) := by decide +kernel
theorem dX2_winner_18 : decode cX2_winner 18 = .ok (.istore 7, 2) := by decide +kernel
theorem dX2_winner_20 : decode cX2_winner 20 = .ok (.iload 7, 2) := by decide +kernel
theorem dX2_winner_22 : decode cX2_winner 22 = .ok (.aload_n 0, 1) := by decide +kernel
theorem dX2_winner_23 : decode cX2_winner 23 = .ok (.getfield 56, 3) := by decide +kernel
theorem dX2_winner_26 : decode cX2_winner 26 = .ok (.if_icmp .ge 59, 3) := by decide +kernel
theorem dX2_winner_29 : decode cX2_winner 29 = .ok (.iload_n 1, 1) := by decide +kernel
theorem dX2_winner_30 : decode cX2_winner 30 = .ok (.iload 7, 2) := by decide +kernel
theorem dX2_winner_32 : decode cX2_winner 32 = .ok (.ishr, 1) := by decide +kernel
theorem dX2_winner_33 : decode cX2_winner 33 = .ok (.iconst 1, 1) := by decide +kernel
theorem dX2_winner_34 : decode cX2_winner 34 = .ok (.iand, 1) := by decide +kernel
theorem dX2_winner_35 : decode cX2_winner 35 = .ok (.iconst 1, 1) := by decide +kernel
theorem dX2_winner_36 : decode cX2_winner 36 = .ok (.if_icmp .ne 7, 3) := by decide +kernel
theorem dX2_winner_39 : decode cX2_winner 39 = .ok (.iconst 1, 1) := by decide +kernel
theorem dX2_winner_40 : decode cX2_winner 40 = .ok (.goto 4, 3) := by decide +kernel
theorem dX2_winner_43 : decode cX2_winner 43 = .ok (.iconst 0, 1) := by decide +kernel
theorem dX2_winner_44 : decode cX2_winner 44 = .ok (.istore 8, 2) := by decide +kernel
theorem dX2_winner_46 : decode cX2_winner 46 = .ok (.iload 6, 2) := by decide +kernel
theorem dX2_winner_48 : decode cX2_winner 48 = .ok (.iload 8, 2) := by decide +kernel
theorem dX2_winner_50 : decode cX2_winner 50 = .ok (.ifCond .eq 7, 3) := by decide +kernel
theorem dX2_winner_53 : decode cX2_winner 53 = .ok (.iload_n 2, 1) := by decide +kernel
theorem dX2_winner_54 : decode cX2_winner 54 = .ok (.goto 12, 3) := by decide +kernel
theorem dX2_winner_57 : decode cX2_winner 57 = .ok (.aload_n 0, 1) := by decide +kernel
theorem dX2_winner_58 : decode cX2_winner 58 = .ok (.getfield 36, 3) := by decide +kernel
theorem dX2_winner_61 : decode cX2_winner 61 = .ok (.iload 7, 2) := by decide +kernel
theorem dX2_winner_63 : decode cX2_winner 63 = .ok (.invokestatic 88, 3) := by decide +kernel
theorem dX2_winner_66 : decode cX2_winner 66 = .ok (.iload 5, 2) := by decide +kernel
theorem dX2_winner_68 : decode cX2_winner 68 = .ok (.if_icmp .ne 7, 3) := by decide +kernel
theorem dX2_winner_71 : decode cX2_winner 71 = .ok (.iconst 1, 1) := by decide +kernel
theorem dX2_winner_72 : decode cX2_winner 72 = .ok (.goto 4, 3) := by decide +kernel
theorem dX2_winner_75 : decode cX2_winner 75 = .ok (.iconst 0, 1) := by decide +kernel
theorem dX2_winner_76 : decode cX2_winner 76 = .ok (.iadd, 1) := by decide +kernel
theorem dX2_winner_77 : decode cX2_winner 77 = .ok (.istore 6, 2) := by decide +kernel
theorem dX2_winner_79 : decode cX2_winner 79 = .ok (.iinc 7 1, 3) := by decide +kernel
theorem dX2_winner_82 : decode cX2_winner 82 = .ok (.goto (-62), 3) := by decide +kernel
theorem dX2_winner_85 : decode cX2_winner 85 = .ok (.iload 6, 2) := by decide +kernel
theorem dX2_winner_87 : decode cX2_winner 87 = .ok (.iload 4, 2) := by decide +kernel
theorem dX2_winner_89 : decode cX2_winner 89 = .ok (.if_icmp .le 10, 3) := by decide +kernel
theorem dX2_winner_92 : decode cX2_winner 92 = .ok (.iload 6, 2) := by decide +kernel
theorem dX2_winner_94 : decode cX2_winner 94 = .ok (.istore 4, 2) := by decide +kernel
theorem dX2_winner_96 : decode cX2_winner 96 = .ok (.iload 5, 2) := by decide +kernel
theorem dX2_winner_98 : decode cX2_winner 98 = .ok (.istore_n 3, 1) := by decide +kernel
theorem dX2_winner_99 : decode cX2_winner 99 = .ok (.iinc 5 1, 3) := by decide +kernel
theorem dX2_winner_102 : decode cX2_winner 102 = .ok (.goto (-94), 3) := by decide +kernel
theorem dX2_winner_105 : decode cX2_winner 105 = .ok (.iload_n 3, 1) := by decide +kernel
theorem dX2_winner_106 : decode cX2_winner 106 = .ok (.ireturn, 1) := by decide +kernel
set_option maxRecDepth 20000 in
theorem ggX2_ballotBy_X2_castVotes : GoodIn wsX2_ballotBy wsX2_castVotes := goodIn_r _ [5, 6, 7, 8, 9, 10, 4, 11, 12, 13, 14, 15, 16, 17, 18, 19, 20, 21, 22, 23, 24, 25, 26, 27, 28, 29, 30, 31, 32, 33, 34, 35, 36, 37, 38, 39, 40, 41, 42, 43, 44, 45, 46, 47, 48, 49, 50, 51, 52, 53, 54, 59, 60, 61, 62, 63, 64, 65, 66, 67, 68, 69, 70, 71, 72, 73, 74, 75, 76] (by decide +kernel) (by decide +kernel)
set_option maxRecDepth 20000 in
theorem gX2_ballotBy_X2_castVotes : GoodIn wsX2_ballotBy (wsV RX2 123 RX2 yX2_castVotes wsX2_castVotes) := goodIn_app (goodIn_of _ (by decide +kernel)) ggX2_ballotBy_X2_castVotes
set_option maxRecDepth 20000 in
theorem ggX2_ballotBy_X2_winner : GoodIn wsX2_ballotBy wsX2_winner := goodIn_r _ [58, 6, 7, 29, 30, 31, 59, 60, 61, 62, 63, 64, 65, 66, 67, 68, 69, 70, 71, 72, 73, 74, 75, 76] (by decide +kernel) (by decide +kernel)
set_option maxRecDepth 20000 in
theorem gX2_ballotBy_X2_winner : GoodIn wsX2_ballotBy (wsV RX2 126 RX2 yX2_winner wsX2_winner) := goodIn_app (goodIn_of _ (by decide +kernel)) ggX2_ballotBy_X2_winner
theorem dX2_ballotBy_0 : decode cX2_ballotBy 0 = .ok (.aload_n 0, 1) := by decide +kernel
theorem dX2_ballotBy_1 : decode cX2_ballotBy 1 = .ok (.iload_n 1, 1) := by decide +kernel
theorem dX2_ballotBy_2 : decode cX2_ballotBy 2 = .ok (.iload_n 2, 1) := by decide +kernel
theorem dX2_ballotBy_3 : decode cX2_ballotBy 3 = .ok (.invokevirtual 123, 3) := by decide +kernel
theorem dX2_ballotBy_6 : decode cX2_ballotBy 6 = .ok (.aload_n 0, 1) := by decide +kernel
theorem dX2_ballotBy_7 : decode cX2_ballotBy 7 = .ok (.iconst 0, 1) := by decide +kernel
theorem dX2_ballotBy_8 : decode cX2_ballotBy 8 = .ok (.iconst 0, 1) := by decide +kernel
theorem dX2_ballotBy_9 : decode cX2_ballotBy 9 = .ok (.invokevirtual 126, 3) := by decide +kernel
theorem dX2_ballotBy_12 : decode cX2_ballotBy 12 = .ok (.ireturn, 1) := by decide +kernel
set_option maxRecDepth 20000 in
theorem ggX2_fewestBribed_X2_castVotes : GoodIn wsX2_fewestBribed wsX2_castVotes := goodIn_r _ [7, 2, 8, 9, 10, 11, 6, 12, 13, 14, 15, 16, 17, 18, 19, 20, 21, 22, 23, 24, 25, 26, 27, 28, 29, 30, 31, 32, 33, 34, 35, 36, 37, 38, 39, 40, 41, 42, 43, 44, 45, 46, 47, 48, 49, 50, 51, 52, 53, 54, 55, 67, 68, 69, 70, 71, 72, 73, 74, 75, 76, 77, 78, 79, 80, 81, 82, 83, 84] (by decide +kernel) (by decide +kernel)
set_option maxRecDepth 20000 in
theorem gX2_fewestBribed_X2_castVotes : GoodIn wsX2_fewestBribed (wsV RX2 123 RX2 yX2_castVotes wsX2_castVotes) := goodIn_app (goodIn_of _ (by decide +kernel)) ggX2_fewestBribed_X2_castVotes
set_option maxRecDepth 20000 in
theorem ggX2_fewestBribed_J6_bitCount_0f7a4 : GoodIn wsX2_fewestBribed wsJ6_bitCount_0f7a4 := goodIn_r _ [59, 60, 61, 62] (by decide +kernel) (by decide +kernel)
set_option maxRecDepth 20000 in
theorem gX2_fewestBribed_J6_bitCount_0f7a4 : GoodIn wsX2_fewestBribed (va_wsS RX2 129 yJ6_bitCount_0f7a4 wsJ6_bitCount_0f7a4) := goodIn_app (goodIn_of _ (by decide +kernel)) ggX2_fewestBribed_J6_bitCount_0f7a4
set_option maxRecDepth 20000 in
theorem ggX2_fewestBribed_X2_winner : GoodIn wsX2_fewestBribed wsX2_winner := goodIn_r _ [66, 2, 8, 30, 31, 32, 67, 68, 69, 70, 71, 72, 73, 74, 75, 76, 77, 78, 79, 80, 81, 82, 83, 84] (by decide +kernel) (by decide +kernel)
set_option maxRecDepth 20000 in
theorem gX2_fewestBribed_X2_winner : GoodIn wsX2_fewestBribed (wsV RX2 126 RX2 yX2_winner wsX2_winner) := goodIn_app (goodIn_of _ (by decide +kernel)) ggX2_fewestBribed_X2_winner
theorem dX2_fewestBribed_0 : decode cX2_fewestBribed 0 = .ok (.aload_n 0, 1) := by decide +kernel
theorem dX2_fewestBribed_1 : decode cX2_fewestBribed 1 = .ok (.aload_n 0, 1) := by decide +kernel
theorem dX2_fewestBribed_2 : decode cX2_fewestBribed 2 = .ok (.getfield 62, 3) := by decide +kernel
theorem dX2_fewestBribed_5 : decode cX2_fewestBribed 5 = .ok (.iload_n 1, 1) := by decide +kernel
theorem dX2_fewestBribed_6 : decode cX2_fewestBribed 6 = .ok (.invokevirtual 123, 3) := by decide +kernel
theorem dX2_fewestBribed_9 : decode cX2_fewestBribed 9 = .ok (.bipush (-9), 2) := by decide +kernel
theorem dX2_fewestBribed_11 : decode cX2_fewestBribed 11 = .ok (.istore_n 3, 1) := by decide +kernel
theorem dX2_fewestBribed_12 : decode cX2_fewestBribed 12 = .ok (.bipush 7, 2) := by decide +kernel
theorem dX2_fewestBribed_14 : decode cX2_fewestBribed 14 = .ok (.istore 4, 2) := by decide +kernel
theorem dX2_fewestBribed_16 : decode cX2_fewestBribed 16 = .ok (.iconst 0, 1) := by decide +kernel
theorem dX2_fewestBribed_17 : decode cX2_fewestBribed 17 = .ok (.istore 5, 2) := by decide +kernel
theorem dX2_fewestBribed_19 : decode cX2_fewestBribed 19 = .ok (.iload 5, 2) := by decide +kernel
theorem dX2_fewestBribed_21 : decode cX2_fewestBribed 21 = .ok (.iconst 1, 1) := by decide +kernel
theorem dX2_fewestBribed_22 : decode cX2_fewestBribed 22 = .ok (.aload_n 0, 1) := by decide +kernel
theorem dX2_fewestBribed_23 : decode cX2_fewestBribed 23 = .ok (.getfield 56, 3) := by decide +kernel
theorem dX2_fewestBribed_26 : decode cX2_fewestBribed 26 = .ok (.ishl, 1) := by decide +kernel
theorem dX2_fewestBribed_27 : decode cX2_fewestBribed 27 = .ok (.if_icmp .ge 41, 3) := by decide +kernel
theorem dX2_fewestBribed_30 : decode cX2_fewestBribed 30 = .ok (.iload 5, 2) := by decide +kernel
theorem dX2_fewestBribed_32 : decode cX2_fewestBribed 32 = .ok (.invokestatic 129, 3) := by decide +kernel
theorem dX2_fewestBribed_35 : decode cX2_fewestBribed 35 = .ok (.istore 6, 2) := by decide +kernel
theorem dX2_fewestBribed_37 : decode cX2_fewestBribed 37 = .ok (.iload 6, 2) := by decide +kernel
theorem dX2_fewestBribed_39 : decode cX2_fewestBribed 39 = .ok (.iload 4, 2) := by decide +kernel
theorem dX2_fewestBribed_41 : decode cX2_fewestBribed 41 = .ok (.if_icmp .ge 21, 3) := by decide +kernel
theorem dX2_fewestBribed_44 : decode cX2_fewestBribed 44 = .ok (.aload_n 0, 1) := by decide +kernel
theorem dX2_fewestBribed_45 : decode cX2_fewestBribed 45 = .ok (.iload 5, 2) := by decide +kernel
theorem dX2_fewestBribed_47 : decode cX2_fewestBribed 47 = .ok (.iload_n 2, 1) := by decide +kernel
theorem dX2_fewestBribed_48 : decode cX2_fewestBribed 48 = .ok (.invokevirtual 126, 3) := by decide +kernel
theorem dX2_fewestBribed_51 : decode cX2_fewestBribed 51 = .ok (.iload_n 2, 1) := by decide +kernel
theorem dX2_fewestBribed_52 : decode cX2_fewestBribed 52 = .ok (.if_icmp .ne 10, 3) := by decide +kernel
theorem dX2_fewestBribed_55 : decode cX2_fewestBribed 55 = .ok (.iload 5, 2) := by decide +kernel
theorem dX2_fewestBribed_57 : decode cX2_fewestBribed 57 = .ok (.istore_n 3, 1) := by decide +kernel
theorem dX2_fewestBribed_58 : decode cX2_fewestBribed 58 = .ok (.iload 6, 2) := by decide +kernel
theorem dX2_fewestBribed_60 : decode cX2_fewestBribed 60 = .ok (.istore 4, 2) := by decide +kernel
theorem dX2_fewestBribed_62 : decode cX2_fewestBribed 62 = .ok (.iinc 5 1, 3) := by decide +kernel
theorem dX2_fewestBribed_65 : decode cX2_fewestBribed 65 = .ok (.goto (-46), 3) := by decide +kernel
theorem dX2_fewestBribed_68 : decode cX2_fewestBribed 68 = .ok (.iload_n 3, 1) := by decide +kernel
theorem dX2_fewestBribed_69 : decode cX2_fewestBribed 69 = .ok (.ireturn, 1) := by decide +kernel
set_option maxRecDepth 20000 in
theorem ggX2_yearAfter_X2_castVotes : GoodIn wsX2_yearAfter wsX2_castVotes := goodIn_r _ [6, 7, 8, 9, 10, 11, 5, 12, 13, 14, 15, 16, 17, 1, 18, 19, 20, 21, 22, 23, 24, 25, 26, 27, 28, 29, 30, 31, 32, 33, 34, 35, 36, 37, 38, 39, 40, 41, 42, 43, 44, 45, 46, 47, 48, 49, 50, 51, 52, 53, 54, 59, 60, 61, 62, 63, 64, 65, 66, 67, 68, 69, 70, 71, 72, 73, 74, 75, 76] (by decide +kernel) (by decide +kernel)
set_option maxRecDepth 20000 in
theorem gX2_yearAfter_X2_castVotes : GoodIn wsX2_yearAfter (wsV RX2 123 RX2 yX2_castVotes wsX2_castVotes) := goodIn_app (goodIn_of _ (by decide +kernel)) ggX2_yearAfter_X2_castVotes
set_option maxRecDepth 20000 in
theorem ggX2_yearAfter_X2_winner : GoodIn wsX2_yearAfter wsX2_winner := goodIn_r _ [58, 7, 8, 29, 30, 31, 59, 60, 61, 62, 63, 64, 65, 66, 67, 68, 69, 70, 71, 72, 73, 74, 75, 76] (by decide +kernel) (by decide +kernel)
set_option maxRecDepth 20000 in
theorem gX2_yearAfter_X2_winner : GoodIn wsX2_yearAfter (wsV RX2 126 RX2 yX2_winner wsX2_winner) := goodIn_app (goodIn_of _ (by decide +kernel)) ggX2_yearAfter_X2_winner
set_option maxRecDepth 20000 in
theorem ggX2_yearAfter_X2_turned : GoodIn wsX2_yearAfter wsX2_turned := goodIn_r _ [17, 1, 59, 60, 61, 62, 63, 64, 65, 66, 67, 68, 69, 70, 71, 72, 73, 74, 75, 76] (by decide +kernel) (by decide +kernel)
set_option maxRecDepth 20000 in
theorem gX2_yearAfter_X2_turned : GoodIn wsX2_yearAfter (wsV RX2 116 RX2 yX2_turned wsX2_turned) := goodIn_app (goodIn_of _ (by decide +kernel)) ggX2_yearAfter_X2_turned
theorem dX2_yearAfter_0 : decode cX2_yearAfter 0 = .ok (.iload_n 1, 1) := by decide +kernel
theorem dX2_yearAfter_1 : decode cX2_yearAfter 1 = .ok (.istore_n 2, 1) := by decide +kernel
theorem dX2_yearAfter_2 : decode cX2_yearAfter 2 = .ok (.iconst 0, 1) := by decide +kernel
theorem dX2_yearAfter_3 : decode cX2_yearAfter 3 = .ok (.istore_n 3, 1) := by decide +kernel
theorem dX2_yearAfter_4 : decode cX2_yearAfter 4 = .ok (.iload_n 3, 1) := by decide +kernel
theorem dX2_yearAfter_5 : decode cX2_yearAfter 5 = .ok (.aload_n 0, 1) := by decide +kernel
theorem dX2_yearAfter_6 : decode cX2_yearAfter 6 = .ok (.getfield 53, 3) := by decide +kernel
theorem dX2_yearAfter_9 : decode cX2_yearAfter 9 = .ok (.if_icmp .ge 28, 3) := by decide +kernel
theorem dX2_yearAfter_12 : decode cX2_yearAfter 12 = .ok (.aload_n 0, 1) := by decide +kernel
theorem dX2_yearAfter_13 : decode cX2_yearAfter 13 = .ok (.iload_n 2, 1) := by decide +kernel
theorem dX2_yearAfter_14 : decode cX2_yearAfter 14 = .ok (.iload_n 3, 1) := by decide +kernel
theorem dX2_yearAfter_15 : decode cX2_yearAfter 15 = .ok (.invokevirtual 123, 3) := by decide +kernel
theorem dX2_yearAfter_18 : decode cX2_yearAfter 18 = .ok (.aload_n 0, 1) := by decide +kernel
theorem dX2_yearAfter_19 : decode cX2_yearAfter 19 = .ok (.iload_n 2, 1) := by decide +kernel
theorem dX2_yearAfter_20 : decode cX2_yearAfter 20 = .ok (.iload_n 3, 1) := by decide +kernel
theorem dX2_yearAfter_21 : decode cX2_yearAfter 21 = .ok (.aload_n 0, 1) := by decide +kernel
theorem dX2_yearAfter_22 : decode cX2_yearAfter 22 = .ok (.iconst 0, 1) := by decide +kernel
theorem dX2_yearAfter_23 : decode cX2_yearAfter 23 = .ok (.iconst 0, 1) := by decide +kernel
theorem dX2_yearAfter_24 : decode cX2_yearAfter 24 = .ok (.invokevirtual 126, 3) := by decide +kernel
theorem dX2_yearAfter_27 : decode cX2_yearAfter 27 = .ok (.invokevirtual 116, 3) := by decide +kernel
theorem dX2_yearAfter_30 : decode cX2_yearAfter 30 = .ok (.istore_n 2, 1) := by decide +kernel
theorem dX2_yearAfter_31 : decode cX2_yearAfter 31 = .ok (.iinc 3 1, 3) := by decide +kernel
theorem dX2_yearAfter_34 : decode cX2_yearAfter 34 = .ok (.goto (-30), 3) := by decide +kernel
theorem dX2_yearAfter_37 : decode cX2_yearAfter 37 = .ok (.iload_n 2, 1) := by decide +kernel
theorem dX2_yearAfter_38 : decode cX2_yearAfter 38 = .ok (.ireturn, 1) := by decide +kernel
set_option maxRecDepth 20000 in
theorem ggX2_leastSetting_X2_settingsInAll : GoodIn wsX2_leastSetting wsX2_settingsInAll := goodIn_r _ [6, 7, 52, 53, 54, 55, 56, 57, 58, 59, 60, 61, 62, 63, 64, 65, 66, 67, 68, 69] (by decide +kernel) (by decide +kernel)
set_option maxRecDepth 20000 in
theorem gX2_leastSetting_X2_settingsInAll : GoodIn wsX2_leastSetting (wsV RX2 134 RX2 yX2_settingsInAll wsX2_settingsInAll) := goodIn_app (goodIn_of _ (by decide +kernel)) ggX2_leastSetting_X2_settingsInAll
set_option maxRecDepth 20000 in
theorem ggX2_leastSetting_X2_mostMindedBy : GoodIn wsX2_leastSetting wsX2_mostMindedBy := goodIn_r _ [11, 12, 13, 14, 15, 16, 17, 18, 19, 5, 20, 21, 22, 23, 24, 25, 26, 27, 28, 29, 30, 31, 32, 33, 34, 7, 35, 36, 37, 38, 39, 40, 41, 42, 43, 44, 45, 46, 47, 52, 53, 54, 55, 56, 57, 58, 59, 60, 61, 62, 63, 64, 65, 66, 67, 68, 69] (by decide +kernel) (by decide +kernel)
set_option maxRecDepth 20000 in
theorem gX2_leastSetting_X2_mostMindedBy : GoodIn wsX2_leastSetting (wsV RX2 138 RX2 yX2_mostMindedBy wsX2_mostMindedBy) := goodIn_app (goodIn_of _ (by decide +kernel)) ggX2_leastSetting_X2_mostMindedBy
set_option maxRecDepth 20000 in
theorem ggX2_leastSetting_X2_burdenBy : GoodIn wsX2_leastSetting wsX2_burdenBy := goodIn_r _ [51, 12, 17, 18, 19, 5, 20, 21, 22, 23, 24, 25, 26, 27, 28, 29, 30, 31, 32, 33, 34, 7, 35, 36, 13, 14, 15, 16, 37, 38, 39, 40, 41, 42, 43, 44, 45, 46, 47, 52, 53, 54, 55, 56, 57, 58, 59, 60, 61, 62, 63, 64, 65, 66, 67, 68, 69] (by decide +kernel) (by decide +kernel)
set_option maxRecDepth 20000 in
theorem gX2_leastSetting_X2_burdenBy : GoodIn wsX2_leastSetting (wsV RX2 141 RX2 yX2_burdenBy wsX2_burdenBy) := goodIn_app (goodIn_of _ (by decide +kernel)) ggX2_leastSetting_X2_burdenBy
theorem dX2_leastSetting_0 : decode cX2_leastSetting 0 = .ok (.iconst 0, 1) := by decide +kernel
theorem dX2_leastSetting_1 : decode cX2_leastSetting 1 = .ok (.istore_n 2, 1) := by decide +kernel
theorem dX2_leastSetting_2 : decode cX2_leastSetting 2 = .ok (.ldc 84, 2) := by decide +kernel
theorem dX2_leastSetting_4 : decode cX2_leastSetting 4 = .ok (.istore_n 3, 1) := by decide +kernel
theorem dX2_leastSetting_5 : decode cX2_leastSetting 5 = .ok (.iconst 0, 1) := by decide +kernel
theorem dX2_leastSetting_6 : decode cX2_leastSetting 6 = .ok (.istore 4, 2) := by decide +kernel
theorem dX2_leastSetting_8 : decode cX2_leastSetting 8 = .ok (.iload 4, 2) := by decide +kernel
theorem dX2_leastSetting_10 : decode cX2_leastSetting 10 = .ok (.aload_n 0, 1) := by decide +kernel
theorem dX2_leastSetting_11 : decode cX2_leastSetting 11 = .ok (.invokevirtual 134, 3) := by decide +kernel
theorem dX2_leastSetting_14 : decode cX2_leastSetting 14 = .ok (.if_icmp .ge 42, 3) := by decide +kernel
theorem dX2_leastSetting_17 : decode cX2_leastSetting 17 = .ok (.iload_n 1, 1) := by decide +kernel
theorem dX2_leastSetting_18 : decode cX2_leastSetting 18 = .ok (.ifCond .eq 12, 3) := by decide +kernel
theorem dX2_leastSetting_21 : decode cX2_leastSetting 21 = .ok (.aload_n 0, 1) := by decide +kernel
theorem dX2_leastSetting_22 : decode cX2_leastSetting 22 = .ok (.iload 4, 2) := by decide +kernel
theorem dX2_leastSetting_24 : decode cX2_leastSetting 24 = .ok (.invokevirtual 138, 3) := by decide +kernel
theorem dX2_leastSetting_27 : decode cX2_leastSetting 27 = .ok (.goto 9, 3) := by decide +kernel
theorem dX2_leastSetting_30 : decode cX2_leastSetting 30 = .ok (.aload_n 0, 1) := by decide +kernel
theorem dX2_leastSetting_31 : decode cX2_leastSetting 31 = .ok (.iload 4, 2) := by decide +kernel
theorem dX2_leastSetting_33 : decode cX2_leastSetting 33 = .ok (.invokevirtual 141, 3) := by decide +kernel
theorem dX2_leastSetting_36 : decode cX2_leastSetting 36 = .ok (.istore 5, 2) := by decide +kernel
theorem dX2_leastSetting_38 : decode cX2_leastSetting 38 = .ok (.iload 5, 2) := by decide +kernel
theorem dX2_leastSetting_40 : decode cX2_leastSetting 40 = .ok (.iload_n 3, 1) := by decide +kernel
theorem dX2_leastSetting_41 : decode cX2_leastSetting 41 = .ok (.if_icmp .ge 9, 3) := by decide +kernel
theorem dX2_leastSetting_44 : decode cX2_leastSetting 44 = .ok (.iload 5, 2) := by decide +kernel
theorem dX2_leastSetting_46 : decode cX2_leastSetting 46 = .ok (.istore_n 3, 1) := by decide +kernel
theorem dX2_leastSetting_47 : decode cX2_leastSetting 47 = .ok (.iload 4, 2) := by decide +kernel
theorem dX2_leastSetting_49 : decode cX2_leastSetting 49 = .ok (.istore_n 2, 1) := by decide +kernel
theorem dX2_leastSetting_50 : decode cX2_leastSetting 50 = .ok (.iinc 4 1, 3) := by decide +kernel
theorem dX2_leastSetting_53 : decode cX2_leastSetting 53 = .ok (.goto (-45), 3) := by decide +kernel
theorem dX2_leastSetting_56 : decode cX2_leastSetting 56 = .ok (.iload_n 2, 1) := by decide +kernel
theorem dX2_leastSetting_57 : decode cX2_leastSetting 57 = .ok (.ireturn, 1) := by decide +kernel
set_option maxRecDepth 20000 in
theorem ggX2_agreesBy_X3_read : GoodIn wsX2_agreesBy wsX3_read := goodIn_r _ [6] (by decide +kernel) (by decide +kernel)
set_option maxRecDepth 20000 in
theorem gX2_agreesBy_X3_read_n88 : GoodIn wsX2_agreesBy (wsX3_read) := ggX2_agreesBy_X3_read
set_option maxRecDepth 20000 in
theorem ggX2_agreesBy_X2_smellBy : GoodIn wsX2_agreesBy wsX2_smellBy := goodIn_r _ [11, 12, 13, 14, 15, 16, 17, 18, 19, 20, 21, 22, 23, 24, 25, 10, 26, 27, 28, 29, 4, 5, 6, 30, 31, 32, 33, 34, 35, 36, 37, 38, 39, 40, 41, 42, 43, 44, 45, 46, 47] (by decide +kernel) (by decide +kernel)
set_option maxRecDepth 20000 in
theorem gX2_agreesBy_X2_smellBy : GoodIn wsX2_agreesBy (wsV RX2 110 RX2 yX2_smellBy wsX2_smellBy) := goodIn_app (goodIn_of _ (by decide +kernel)) ggX2_agreesBy_X2_smellBy
theorem dX2_agreesBy_0 : decode cX2_agreesBy 0 = .ok (.iconst 0, 1) := by decide +kernel
theorem dX2_agreesBy_1 : decode cX2_agreesBy 1 = .ok (.istore_n 2, 1) := by decide +kernel
theorem dX2_agreesBy_2 : decode cX2_agreesBy 2 = .ok (.iload_n 2, 1) := by decide +kernel
theorem dX2_agreesBy_3 : decode cX2_agreesBy 3 = .ok (.aload_n 0, 1) := by decide +kernel
theorem dX2_agreesBy_4 : decode cX2_agreesBy 4 = .ok (.getfield 65, 3) := by decide +kernel
theorem dX2_agreesBy_7 : decode cX2_agreesBy 7 = .ok (.if_icmp .ge 35, 3) := by decide +kernel
theorem dX2_agreesBy_10 : decode cX2_agreesBy 10 = .ok (.aload_n 0, 1) := by decide +kernel
theorem dX2_agreesBy_11 : decode cX2_agreesBy 11 = .ok (.iload_n 1, 1) := by decide +kernel
theorem dX2_agreesBy_12 : decode cX2_agreesBy 12 = .ok (.aload_n 0, 1) := by decide +kernel
theorem dX2_agreesBy_13 : decode cX2_agreesBy 13 = .ok (.getfield 27, 3) := by decide +kernel
theorem dX2_agreesBy_16 : decode cX2_agreesBy 16 = .ok (.iload_n 2, 1) := by decide +kernel
theorem dX2_agreesBy_17 : decode cX2_agreesBy 17 = .ok (.invokestatic 88, 3) := by decide +kernel
theorem dX2_agreesBy_20 : decode cX2_agreesBy 20 = .ok (.invokevirtual 110, 3) := by decide +kernel
theorem dX2_agreesBy_23 : decode cX2_agreesBy 23 = .ok (.aload_n 0, 1) := by decide +kernel
theorem dX2_agreesBy_24 : decode cX2_agreesBy 24 = .ok (.getfield 30, 3) := by decide +kernel
theorem dX2_agreesBy_27 : decode cX2_agreesBy 27 = .ok (.iload_n 2, 1) := by decide +kernel
theorem dX2_agreesBy_28 : decode cX2_agreesBy 28 = .ok (.invokestatic 88, 3) := by decide +kernel
theorem dX2_agreesBy_31 : decode cX2_agreesBy 31 = .ok (.if_icmp .eq 5, 3) := by decide +kernel
theorem dX2_agreesBy_34 : decode cX2_agreesBy 34 = .ok (.iconst 0, 1) := by decide +kernel
theorem dX2_agreesBy_35 : decode cX2_agreesBy 35 = .ok (.ireturn, 1) := by decide +kernel
theorem dX2_agreesBy_36 : decode cX2_agreesBy 36 = .ok (.iinc 2 1, 3) := by decide +kernel
theorem dX2_agreesBy_39 : decode cX2_agreesBy 39 = .ok (.goto (-37), 3) := by decide +kernel
theorem dX2_agreesBy_42 : decode cX2_agreesBy 42 = .ok (.iconst 1, 1) := by decide +kernel
theorem dX2_agreesBy_43 : decode cX2_agreesBy 43 = .ok (.ireturn, 1) := by decide +kernel
set_option maxRecDepth 20000 in
theorem ggX3_init_X1_init : GoodIn wsX3_init wsX1_init := goodIn_r _ [22, 23, 2, 3, 10, 24, 25, 26, 61, 62, 63] (by decide +kernel) (by decide +kernel)
set_option maxRecDepth 20000 in
theorem gX3_init_X1_init_n19 : GoodIn wsX3_init (wsX1_init) := ggX3_init_X1_init
set_option maxRecDepth 20000 in
theorem ggX3_init_X2_init : GoodIn wsX3_init wsX2_init := goodIn_r _ [28, 29, 2, 3, 10, 30, 31, 32, 33, 34, 35, 36, 37, 38, 39, 40, 41, 42, 43, 44, 45, 46, 47, 64, 65, 66, 67, 68, 69, 70, 71, 72, 73, 74, 75, 76, 77, 78, 79, 80, 81] (by decide +kernel) (by decide +kernel)
set_option maxRecDepth 20000 in
theorem gX3_init_X2_init_n30 : GoodIn wsX3_init (wsX2_init) := ggX3_init_X2_init
set_option maxRecDepth 20000 in
theorem ggX3_init_X0_init : GoodIn wsX3_init wsX0_init := goodIn_r _ [49, 50, 2, 3, 10, 51, 52, 53, 82, 83, 84] (by decide +kernel) (by decide +kernel)
set_option maxRecDepth 20000 in
theorem gX3_init_X0_init_n45 : GoodIn wsX3_init (wsX0_init) := ggX3_init_X0_init
