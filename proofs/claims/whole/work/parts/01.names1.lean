theorem inlX0 : ∀ w ∈ wsX00, w ∈ wsL_law := fun _ h => List.mem_append_left _ (List.mem_append_left _ (List.mem_append_right _ h))
theorem inlX1 : ∀ w ∈ wsX10, w ∈ wsL_law := fun _ h => List.mem_append_left _ (List.mem_append_left _ (List.mem_append_left _ (List.mem_append_left _ (List.mem_append_left _ (List.mem_append_left _ (List.mem_append_left _ (List.mem_append_left _ (List.mem_append_right _ h))))))))
theorem inX2 : ∀ w ∈ wsX20, w ∈ lw_tbl := by decide +kernel
theorem inlX3 : ∀ w ∈ wsX30, w ∈ wsL_law := fun _ h => List.mem_append_left _ (List.mem_append_left _ (List.mem_append_left _ (List.mem_append_left _ (List.mem_append_left _ (List.mem_append_right _ h)))))
theorem inX4 : ∀ w ∈ wsX40, w ∈ lw_tbl := by decide +kernel
theorem inlX5 : ∀ w ∈ wsX50, w ∈ wsL_law := fun _ h => List.mem_append_left _ (List.mem_append_right _ h)
theorem inlX6 : ∀ w ∈ wsX60, w ∈ wsL_law := fun _ h => List.mem_append_left _ (List.mem_append_left _ (List.mem_append_left _ (List.mem_append_right _ h)))
theorem inlX7 : ∀ w ∈ wsX70, w ∈ wsL_law := fun _ h => List.mem_append_left _ (List.mem_append_left _ (List.mem_append_left _ (List.mem_append_left _ (List.mem_append_left _ (List.mem_append_left _ (List.mem_append_left _ (List.mem_append_right _ h)))))))
theorem inlX8 : ∀ w ∈ wsX80, w ∈ wsL_law := fun _ h => List.mem_append_left _ (List.mem_append_left _ (List.mem_append_left _ (List.mem_append_left _ (List.mem_append_right _ h))))
theorem inlX9 : ∀ w ∈ wsX90, w ∈ wsL_law := fun _ h => List.mem_append_left _ (List.mem_append_left _ (List.mem_append_left _ (List.mem_append_left _ (List.mem_append_left _ (List.mem_append_left _ (List.mem_append_right _ h))))))
theorem inlX10 : ∀ w ∈ wsX100, w ∈ wsL_law := fun _ h => List.mem_append_left _ (List.mem_append_left _ (List.mem_append_left _ (List.mem_append_left _ (List.mem_append_left _ (List.mem_append_left _ (List.mem_append_left _ (List.mem_append_left _ (List.mem_append_left _ (List.mem_append_left _ (List.mem_append_right _ h))))))))))
theorem inlX11 : ∀ w ∈ wsX110, w ∈ wsL_law := fun _ h => List.mem_append_left _ (List.mem_append_left _ (List.mem_append_left _ (List.mem_append_left _ (List.mem_append_left _ (List.mem_append_left _ (List.mem_append_left _ (List.mem_append_left _ (List.mem_append_left _ (List.mem_append_right _ h)))))))))
theorem inJ6 : ∀ w ∈ wsJ60, w ∈ lw_tbl := by decide +kernel
theorem inJ10 : ∀ w ∈ wsJ100, w ∈ lw_tbl := by decide +kernel
set_option maxRecDepth 20000 in
theorem ggX0_init_X2_init : GoodIn wsX0_init wsX2_init := goodIn_r _ [6, 7, 8, 9, 10, 11, 12, 13, 14, 15, 16, 17, 18, 19, 20, 21, 22, 23, 24, 25, 26, 27, 28, 29, 30, 31, 32, 33, 34] (by decide +kernel) (by decide +kernel)
set_option maxRecDepth 20000 in
theorem gX0_init_X2_init : GoodIn wsX0_init (wsX2_init) := ggX0_init_X2_init
theorem dX0_init_0 : decode cX0_init 0 = .ok (.aload_n 0, 1) := by decide +kernel
theorem dX0_init_1 : decode cX0_init 1 = .ok (.iconst 1, 1) := by decide +kernel
theorem dX0_init_2 : decode cX0_init 2 = .ok (.bipush 96, 2) := by decide +kernel
theorem dX0_init_4 : decode cX0_init 4 = .ok (.invokespecial 3, 3) := by decide +kernel
theorem dX0_init_7 : decode cX0_init 7 = .ok (.aload_n 0, 1) := by decide +kernel
theorem dX0_init_8 : decode cX0_init 8 = .ok (.iconst 4, 1) := by decide +kernel
theorem dX0_init_9 : decode cX0_init 9 = .ok (.newarray .int, 2) := by decide +kernel
theorem dX0_init_11 : decode cX0_init 11 = .ok (.putfield 9, 3) := by decide +kernel
theorem dX0_init_14 : decode cX0_init 14 = .ok (.return_, 1) := by decide +kernel
set_option maxRecDepth 20000 in
theorem ggX0_read_X4_ofOrder : GoodIn wsX0_read wsX4_ofOrder := goodIn_r _ [5] (by decide +kernel) (by decide +kernel)
set_option maxRecDepth 20000 in
theorem gX0_read_X4_ofOrder : GoodIn wsX0_read (va_wsS RX0 20 yX4_ofOrder wsX4_ofOrder) := goodIn_app (goodIn_of _ (by decide +kernel)) ggX0_read_X4_ofOrder
theorem dX0_read_0 : decode cX0_read 0 = .ok (.aload_n 1, 1) := by decide +kernel
theorem dX0_read_1 : decode cX0_read 1 = .ok (.getfield 15, 3) := by decide +kernel
theorem dX0_read_4 : decode cX0_read 4 = .ok (.astore_n 2, 1) := by decide +kernel
theorem dX0_read_5 : decode cX0_read 5 = .ok (.aload_n 2, 1) := by decide +kernel
theorem dX0_read_6 : decode cX0_read 6 = .ok (.iconst 0, 1) := by decide +kernel
theorem dX0_read_7 : decode cX0_read 7 = .ok (.iaload, 1) := by decide +kernel
theorem dX0_read_8 : decode cX0_read 8 = .ok (.iconst 1, 1) := by decide +kernel
theorem dX0_read_9 : decode cX0_read 9 = .ok (.ishr, 1) := by decide +kernel
theorem dX0_read_10 : decode cX0_read 10 = .ok (.aload_n 2, 1) := by decide +kernel
theorem dX0_read_11 : decode cX0_read 11 = .ok (.iconst 3, 1) := by decide +kernel
theorem dX0_read_12 : decode cX0_read 12 = .ok (.iaload, 1) := by decide +kernel
theorem dX0_read_13 : decode cX0_read 13 = .ok (.iconst 1, 1) := by decide +kernel
theorem dX0_read_14 : decode cX0_read 14 = .ok (.ishr, 1) := by decide +kernel
theorem dX0_read_15 : decode cX0_read 15 = .ok (.aload_n 2, 1) := by decide +kernel
theorem dX0_read_16 : decode cX0_read 16 = .ok (.iconst 5, 1) := by decide +kernel
theorem dX0_read_17 : decode cX0_read 17 = .ok (.iaload, 1) := by decide +kernel
theorem dX0_read_18 : decode cX0_read 18 = .ok (.iconst 1, 1) := by decide +kernel
theorem dX0_read_19 : decode cX0_read 19 = .ok (.ishr, 1) := by decide +kernel
theorem dX0_read_20 : decode cX0_read 20 = .ok (.aload_n 2, 1) := by decide +kernel
theorem dX0_read_21 : decode cX0_read 21 = .ok (.bipush 6, 2) := by decide +kernel
theorem dX0_read_23 : decode cX0_read 23 = .ok (.iaload, 1) := by decide +kernel
theorem dX0_read_24 : decode cX0_read 24 = .ok (.iconst 1, 1) := by decide +kernel
theorem dX0_read_25 : decode cX0_read 25 = .ok (.ishr, 1) := by decide +kernel
theorem dX0_read_26 : decode cX0_read 26 = .ok (.invokestatic 20, 3) := by decide +kernel
theorem dX0_read_29 : decode cX0_read 29 = .ok (.istore_n 3, 1) := by decide +kernel
theorem dX0_read_30 : decode cX0_read 30 = .ok (.iload_n 3, 1) := by decide +kernel
theorem dX0_read_31 : decode cX0_read 31 = .ok (.iconst 4, 1) := by decide +kernel
theorem dX0_read_32 : decode cX0_read 32 = .ok (.imul, 1) := by decide +kernel
theorem dX0_read_33 : decode cX0_read 33 = .ok (.aload_n 2, 1) := by decide +kernel
theorem dX0_read_34 : decode cX0_read 34 = .ok (.iconst 1, 1) := by decide +kernel
theorem dX0_read_35 : decode cX0_read 35 = .ok (.iaload, 1) := by decide +kernel
theorem dX0_read_36 : decode cX0_read 36 = .ok (.iconst 1, 1) := by decide +kernel
theorem dX0_read_37 : decode cX0_read 37 = .ok (.ishr, 1) := by decide +kernel
theorem dX0_read_38 : decode cX0_read 38 = .ok (.iadd, 1) := by decide +kernel
theorem dX0_read_39 : decode cX0_read 39 = .ok (.ireturn, 1) := by decide +kernel
set_option maxRecDepth 20000 in
theorem ggX0_show_X4_toOrder : GoodIn wsX0_show wsX4_toOrder := goodIn_r _ [7] (by decide +kernel) (by decide +kernel)
set_option maxRecDepth 20000 in
theorem gX0_show_X4_toOrder : GoodIn wsX0_show (va_wsS RX0 24 yX4_toOrder wsX4_toOrder) := goodIn_app (goodIn_of _ (by decide +kernel)) ggX0_show_X4_toOrder
theorem dX0_show_0 : decode cX0_show 0 = .ok (.iload_n 1, 1) := by decide +kernel
theorem dX0_show_1 : decode cX0_show 1 = .ok (.iconst 4, 1) := by decide +kernel
theorem dX0_show_2 : decode cX0_show 2 = .ok (.idiv, 1) := by decide +kernel
theorem dX0_show_3 : decode cX0_show 3 = .ok (.aload_n 0, 1) := by decide +kernel
theorem dX0_show_4 : decode cX0_show 4 = .ok (.getfield 9, 3) := by decide +kernel
theorem dX0_show_7 : decode cX0_show 7 = .ok (.invokestatic 24, 3) := by decide +kernel
theorem dX0_show_10 : decode cX0_show 10 = .ok (.getstatic 28, 3) := by decide +kernel
theorem dX0_show_13 : decode cX0_show 13 = .ok (.aload_n 0, 1) := by decide +kernel
theorem dX0_show_14 : decode cX0_show 14 = .ok (.getfield 9, 3) := by decide +kernel
theorem dX0_show_17 : decode cX0_show 17 = .ok (.iconst 0, 1) := by decide +kernel
theorem dX0_show_18 : decode cX0_show 18 = .ok (.iaload, 1) := by decide +kernel
theorem dX0_show_19 : decode cX0_show 19 = .ok (.iaload, 1) := by decide +kernel
theorem dX0_show_20 : decode cX0_show 20 = .ok (.getstatic 28, 3) := by decide +kernel
theorem dX0_show_23 : decode cX0_show 23 = .ok (.iload_n 1, 1) := by decide +kernel
theorem dX0_show_24 : decode cX0_show 24 = .ok (.iconst 4, 1) := by decide +kernel
theorem dX0_show_25 : decode cX0_show 25 = .ok (.irem, 1) := by decide +kernel
theorem dX0_show_26 : decode cX0_show 26 = .ok (.iaload, 1) := by decide +kernel
theorem dX0_show_27 : decode cX0_show 27 = .ok (.ixor, 1) := by decide +kernel
theorem dX0_show_28 : decode cX0_show 28 = .ok (.iconst 1, 1) := by decide +kernel
theorem dX0_show_29 : decode cX0_show 29 = .ok (.ixor, 1) := by decide +kernel
theorem dX0_show_30 : decode cX0_show 30 = .ok (.istore_n 3, 1) := by decide +kernel
theorem dX0_show_31 : decode cX0_show 31 = .ok (.iconst 0, 1) := by decide +kernel
theorem dX0_show_32 : decode cX0_show 32 = .ok (.istore 4, 2) := by decide +kernel
theorem dX0_show_34 : decode cX0_show 34 = .ok (.iload 4, 2) := by decide +kernel
theorem dX0_show_36 : decode cX0_show 36 = .ok (.iconst 4, 1) := by decide +kernel
theorem dX0_show_37 : decode cX0_show 37 = .ok (.if_icmp .ge 52, 3) := by decide +kernel
theorem dX0_show_40 : decode cX0_show 40 = .ok (.getstatic 28, 3) := by decide +kernel
theorem dX0_show_43 : decode cX0_show 43 = .ok (.iload 4, 2) := by decide +kernel
theorem dX0_show_45 : decode cX0_show 45 = .ok (.iaload, 1) := by decide +kernel
theorem dX0_show_46 : decode cX0_show 46 = .ok (.istore 5, 2) := by decide +kernel
theorem dX0_show_48 : decode cX0_show 48 = .ok (.getstatic 28, 3) := by decide +kernel
theorem dX0_show_51 : decode cX0_show 51 = .ok (.aload_n 0, 1) := by decide +kernel
theorem dX0_show_52 : decode cX0_show 52 = .ok (.getfield 9, 3) := by decide +kernel
theorem dX0_show_55 : decode cX0_show 55 = .ok (.iload 4, 2) := by decide +kernel
theorem dX0_show_57 : decode cX0_show 57 = .ok (.iaload, 1) := by decide +kernel
theorem dX0_show_58 : decode cX0_show 58 = .ok (.iaload, 1) := by decide +kernel
theorem dX0_show_59 : decode cX0_show 59 = .ok (.istore 6, 2) := by decide +kernel
theorem dX0_show_61 : decode cX0_show 61 = .ok (.aload_n 2, 1) := by decide +kernel
theorem dX0_show_62 : decode cX0_show 62 = .ok (.getfield 15, 3) := by decide +kernel
theorem dX0_show_65 : decode cX0_show 65 = .ok (.iload 5, 2) := by decide +kernel
theorem dX0_show_67 : decode cX0_show 67 = .ok (.iload 6, 2) := by decide +kernel
theorem dX0_show_69 : decode cX0_show 69 = .ok (.iastore, 1) := by decide +kernel
theorem dX0_show_70 : decode cX0_show 70 = .ok (.aload_n 2, 1) := by decide +kernel
theorem dX0_show_71 : decode cX0_show 71 = .ok (.getfield 15, 3) := by decide +kernel
theorem dX0_show_74 : decode cX0_show 74 = .ok (.iload 5, 2) := by decide +kernel
theorem dX0_show_76 : decode cX0_show 76 = .ok (.iconst 1, 1) := by decide +kernel
theorem dX0_show_77 : decode cX0_show 77 = .ok (.ixor, 1) := by decide +kernel
theorem dX0_show_78 : decode cX0_show 78 = .ok (.iload 6, 2) := by decide +kernel
theorem dX0_show_80 : decode cX0_show 80 = .ok (.iload_n 3, 1) := by decide +kernel
theorem dX0_show_81 : decode cX0_show 81 = .ok (.ixor, 1) := by decide +kernel
theorem dX0_show_82 : decode cX0_show 82 = .ok (.iastore, 1) := by decide +kernel
theorem dX0_show_83 : decode cX0_show 83 = .ok (.iinc 4 1, 3) := by decide +kernel
theorem dX0_show_86 : decode cX0_show 86 = .ok (.goto (-52), 3) := by decide +kernel
theorem dX0_show_89 : decode cX0_show 89 = .ok (.return_, 1) := by decide +kernel
set_option maxRecDepth 20000 in
theorem ggX1_init_X7_init : GoodIn wsX1_init wsX7_init := goodIn_r _ [11, 12, 2, 3, 13, 14, 15, 16, 17, 18, 19, 20, 21, 22, 23, 24, 25, 26, 6, 27, 28, 29, 30, 31, 32, 33] (by decide +kernel) (by decide +kernel)
set_option maxRecDepth 20000 in
theorem gX1_init_X7_init : GoodIn wsX1_init (wsX7_init) := ggX1_init_X7_init
theorem dX1_init_0 : decode cX1_init 0 = .ok (.aload_n 0, 1) := by decide +kernel
theorem dX1_init_1 : decode cX1_init 1 = .ok (.invokespecial 1, 3) := by decide +kernel
theorem dX1_init_4 : decode cX1_init 4 = .ok (.aload_n 0, 1) := by decide +kernel
theorem dX1_init_5 : decode cX1_init 5 = .ok (.new 7, 3) := by decide +kernel
theorem dX1_init_8 : decode cX1_init 8 = .ok (.dup, 1) := by decide +kernel
theorem dX1_init_9 : decode cX1_init 9 = .ok (.iconst 1, 1) := by decide +kernel
theorem dX1_init_10 : decode cX1_init 10 = .ok (.invokespecial 9, 3) := by decide +kernel
theorem dX1_init_13 : decode cX1_init 13 = .ok (.putfield 12, 3) := by decide +kernel
theorem dX1_init_16 : decode cX1_init 16 = .ok (.aload_n 0, 1) := by decide +kernel
theorem dX1_init_17 : decode cX1_init 17 = .ok (.new 7, 3) := by decide +kernel
theorem dX1_init_20 : decode cX1_init 20 = .ok (.dup, 1) := by decide +kernel
theorem dX1_init_21 : decode cX1_init 21 = .ok (.iconst 0, 1) := by decide +kernel
theorem dX1_init_22 : decode cX1_init 22 = .ok (.invokespecial 9, 3) := by decide +kernel
theorem dX1_init_25 : decode cX1_init 25 = .ok (.putfield 18, 3) := by decide +kernel
theorem dX1_init_28 : decode cX1_init 28 = .ok (.return_, 1) := by decide +kernel
set_option maxRecDepth 20000 in
theorem ggX1_reset_X7_reset : GoodIn wsX1_reset wsX7_reset := goodIn_r _ [7, 8, 9, 10, 13, 14, 15, 16, 17, 18] (by decide +kernel) (by decide +kernel)
set_option maxRecDepth 20000 in
theorem gX1_reset_X7_reset : GoodIn wsX1_reset (wsV RX1 21 RX7 yX7_reset wsX7_reset) := goodIn_app (goodIn_of _ (by decide +kernel)) ggX1_reset_X7_reset
theorem dX1_reset_0 : decode cX1_reset 0 = .ok (.aload_n 0, 1) := by decide +kernel
theorem dX1_reset_1 : decode cX1_reset 1 = .ok (.getfield 12, 3) := by decide +kernel
theorem dX1_reset_4 : decode cX1_reset 4 = .ok (.invokevirtual 21, 3) := by decide +kernel
theorem dX1_reset_7 : decode cX1_reset 7 = .ok (.aload_n 0, 1) := by decide +kernel
theorem dX1_reset_8 : decode cX1_reset 8 = .ok (.getfield 18, 3) := by decide +kernel
theorem dX1_reset_11 : decode cX1_reset 11 = .ok (.invokevirtual 21, 3) := by decide +kernel
theorem dX1_reset_14 : decode cX1_reset 14 = .ok (.return_, 1) := by decide +kernel
set_option maxRecDepth 20000 in
theorem ggX1_copyFrom_X7_copyFrom : GoodIn wsX1_copyFrom wsX7_copyFrom := goodIn_r _ [7, 8, 9, 10, 13, 14, 15, 16, 17, 18] (by decide +kernel) (by decide +kernel)
set_option maxRecDepth 20000 in
theorem gX1_copyFrom_X7_copyFrom : GoodIn wsX1_copyFrom (wsV RX1 24 RX7 yX7_copyFrom wsX7_copyFrom) := goodIn_app (goodIn_of _ (by decide +kernel)) ggX1_copyFrom_X7_copyFrom
theorem dX1_copyFrom_0 : decode cX1_copyFrom 0 = .ok (.aload_n 0, 1) := by decide +kernel
theorem dX1_copyFrom_1 : decode cX1_copyFrom 1 = .ok (.getfield 12, 3) := by decide +kernel
theorem dX1_copyFrom_4 : decode cX1_copyFrom 4 = .ok (.aload_n 1, 1) := by decide +kernel
theorem dX1_copyFrom_5 : decode cX1_copyFrom 5 = .ok (.getfield 12, 3) := by decide +kernel
theorem dX1_copyFrom_8 : decode cX1_copyFrom 8 = .ok (.invokevirtual 24, 3) := by decide +kernel
theorem dX1_copyFrom_11 : decode cX1_copyFrom 11 = .ok (.aload_n 0, 1) := by decide +kernel
theorem dX1_copyFrom_12 : decode cX1_copyFrom 12 = .ok (.getfield 18, 3) := by decide +kernel
theorem dX1_copyFrom_15 : decode cX1_copyFrom 15 = .ok (.aload_n 1, 1) := by decide +kernel
theorem dX1_copyFrom_16 : decode cX1_copyFrom 16 = .ok (.getfield 18, 3) := by decide +kernel
theorem dX1_copyFrom_19 : decode cX1_copyFrom 19 = .ok (.invokevirtual 24, 3) := by decide +kernel
theorem dX1_copyFrom_22 : decode cX1_copyFrom 22 = .ok (.return_, 1) := by decide +kernel
set_option maxRecDepth 20000 in
theorem ggX1_make_X7_quarter : GoodIn wsX1_make wsX7_quarter := goodIn_r _ [7, 8, 9, 10, 11, 12, 15, 16, 17, 18, 19, 20] (by decide +kernel) (by decide +kernel)
set_option maxRecDepth 20000 in
theorem gX1_make_X7_quarter : GoodIn wsX1_make (wsV RX1 28 RX7 yX7_quarter wsX7_quarter) := goodIn_app (goodIn_of _ (by decide +kernel)) ggX1_make_X7_quarter
theorem dX1_make_0 : decode cX1_make 0 = .ok (.iload_n 1, 1) := by decide +kernel
theorem dX1_make_1 : decode cX1_make 1 = .ok (.iconst 3, 1) := by decide +kernel
theorem dX1_make_2 : decode cX1_make 2 = .ok (.idiv, 1) := by decide +kernel
theorem dX1_make_3 : decode cX1_make 3 = .ok (.istore_n 2, 1) := by decide +kernel
theorem dX1_make_4 : decode cX1_make 4 = .ok (.iload_n 1, 1) := by decide +kernel
theorem dX1_make_5 : decode cX1_make 5 = .ok (.iconst 3, 1) := by decide +kernel
theorem dX1_make_6 : decode cX1_make 6 = .ok (.irem, 1) := by decide +kernel
theorem dX1_make_7 : decode cX1_make 7 = .ok (.iconst 1, 1) := by decide +kernel
theorem dX1_make_8 : decode cX1_make 8 = .ok (.iadd, 1) := by decide +kernel
theorem dX1_make_9 : decode cX1_make 9 = .ok (.istore_n 3, 1) := by decide +kernel
theorem dX1_make_10 : decode cX1_make 10 = .ok (.iconst 0, 1) := by decide +kernel
theorem dX1_make_11 : decode cX1_make 11 = .ok (.istore 4, 2) := by decide +kernel
theorem dX1_make_13 : decode cX1_make 13 = .ok (.iload 4, 2) := by decide +kernel
theorem dX1_make_15 : decode cX1_make 15 = .ok (.iload_n 3, 1) := by decide +kernel
theorem dX1_make_16 : decode cX1_make 16 = .ok (.if_icmp .ge 25, 3) := by decide +kernel
theorem dX1_make_19 : decode cX1_make 19 = .ok (.aload_n 0, 1) := by decide +kernel
theorem dX1_make_20 : decode cX1_make 20 = .ok (.getfield 12, 3) := by decide +kernel
theorem dX1_make_23 : decode cX1_make 23 = .ok (.iload_n 2, 1) := by decide +kernel
theorem dX1_make_24 : decode cX1_make 24 = .ok (.invokevirtual 28, 3) := by decide +kernel
theorem dX1_make_27 : decode cX1_make 27 = .ok (.aload_n 0, 1) := by decide +kernel
theorem dX1_make_28 : decode cX1_make 28 = .ok (.getfield 18, 3) := by decide +kernel
theorem dX1_make_31 : decode cX1_make 31 = .ok (.iload_n 2, 1) := by decide +kernel
theorem dX1_make_32 : decode cX1_make 32 = .ok (.invokevirtual 28, 3) := by decide +kernel
theorem dX1_make_35 : decode cX1_make 35 = .ok (.iinc 4 1, 3) := by decide +kernel
theorem dX1_make_38 : decode cX1_make 38 = .ok (.goto (-25), 3) := by decide +kernel
theorem dX1_make_41 : decode cX1_make 41 = .ok (.return_, 1) := by decide +kernel
theorem dX2_init_0 : decode cX2_init 0 = .ok (.aload_n 0, 1) := by decide +kernel
theorem dX2_init_1 : decode cX2_init 1 = .ok (.invokespecial 3, 3) := by decide +kernel
theorem dX2_init_4 : decode cX2_init 4 = .ok (.aload_n 0, 1) := by decide +kernel
theorem dX2_init_5 : decode cX2_init 5 = .ok (.iload_n 1, 1) := by decide +kernel
theorem dX2_init_6 : decode cX2_init 6 = .ok (.putfield 9, 3) := by decide +kernel
theorem dX2_init_9 : decode cX2_init 9 = .ok (.aload_n 0, 1) := by decide +kernel
theorem dX2_init_10 : decode cX2_init 10 = .ok (.iload_n 2, 1) := by decide +kernel
theorem dX2_init_11 : decode cX2_init 11 = .ok (.putfield 15, 3) := by decide +kernel
theorem dX2_init_14 : decode cX2_init 14 = .ok (.return_, 1) := by decide +kernel
set_option maxRecDepth 20000 in
theorem ggX2_readFrom_X0_read : GoodIn wsX2_readFrom wsX0_read := goodIn_r _ [9, 10, 11, 12, 13, 14, 90, 91, 92, 93, 94, 95] (by decide +kernel) (by decide +kernel)
set_option maxRecDepth 20000 in
theorem gX2_readFrom_X0_read_u28X0 : GoodIn wsX2_readFrom (va_wsU RX2 28 RX0 "StageCube$Feature" ⟨"StageCube$Feature", "read", "(LStageCube$Pieces;)I"⟩ yX0_read wsX0_read) := goodIn_app (goodIn_of _ (by decide +kernel)) ggX2_readFrom_X0_read
set_option maxRecDepth 20000 in
theorem ggX2_readFrom_X3_read : GoodIn wsX2_readFrom wsX3_read := goodIn_r _ [18, 19, 20, 21, 90, 91, 92, 93, 94, 95] (by decide +kernel) (by decide +kernel)
set_option maxRecDepth 20000 in
theorem gX2_readFrom_X3_read_u28X3 : GoodIn wsX2_readFrom (va_wsU RX2 28 RX3 "StageCube$Feature" ⟨"StageCube$Feature", "read", "(LStageCube$Pieces;)I"⟩ yX3_read wsX3_read) := goodIn_app (goodIn_of _ (by decide +kernel)) ggX2_readFrom_X3_read
set_option maxRecDepth 20000 in
theorem ggX2_readFrom_X5_read : GoodIn wsX2_readFrom wsX5_read := goodIn_r _ [25, 26, 27, 28, 12, 13, 14, 90, 91, 92, 93, 94, 95, 72, 73, 74, 75, 76] (by decide +kernel) (by decide +kernel)
set_option maxRecDepth 20000 in
theorem gX2_readFrom_X5_read_u28X5 : GoodIn wsX2_readFrom (va_wsU RX2 28 RX5 "StageCube$Feature" ⟨"StageCube$Feature", "read", "(LStageCube$Pieces;)I"⟩ yX5_read wsX5_read) := goodIn_app (goodIn_of _ (by decide +kernel)) ggX2_readFrom_X5_read
set_option maxRecDepth 20000 in
theorem ggX2_readFrom_X6_read : GoodIn wsX2_readFrom wsX6_read := goodIn_r _ [32, 33, 34, 35, 36, 37, 38, 39, 40, 41, 42, 43, 44, 45, 46, 31, 47, 48, 12, 13, 14, 49, 50, 51, 52, 90, 91, 92, 93, 94, 95, 77, 78, 79, 80, 81, 82] (by decide +kernel) (by decide +kernel)
set_option maxRecDepth 20000 in
theorem gX2_readFrom_X6_read_u28X6 : GoodIn wsX2_readFrom (va_wsU RX2 28 RX6 "StageCube$Feature" ⟨"StageCube$Feature", "read", "(LStageCube$Pieces;)I"⟩ yX6_read wsX6_read) := goodIn_app (goodIn_of _ (by decide +kernel)) ggX2_readFrom_X6_read
set_option maxRecDepth 20000 in
theorem ggX2_readFrom_X8_read : GoodIn wsX2_readFrom wsX8_read := goodIn_r _ [56, 57, 58, 59, 60, 61, 62, 55, 63, 64, 50, 13, 51, 52, 83, 84, 85, 86, 87, 90, 91, 92, 93, 94, 95] (by decide +kernel) (by decide +kernel)
set_option maxRecDepth 20000 in
theorem gX2_readFrom_X8_read_u28X8 : GoodIn wsX2_readFrom (va_wsU RX2 28 RX8 "StageCube$Feature" ⟨"StageCube$Feature", "read", "(LStageCube$Pieces;)I"⟩ yX8_read wsX8_read) := goodIn_app (goodIn_of _ (by decide +kernel)) ggX2_readFrom_X8_read
theorem dX2_readFrom_0 : decode cX2_readFrom 0 = .ok (.aload_n 0, 1) := by decide +kernel
theorem dX2_readFrom_1 : decode cX2_readFrom 1 = .ok (.aload_n 0, 1) := by decide +kernel
theorem dX2_readFrom_2 : decode cX2_readFrom 2 = .ok (.getfield 9, 3) := by decide +kernel
theorem dX2_readFrom_5 : decode cX2_readFrom 5 = .ok (.ifCond .eq 10, 3) := by decide +kernel
theorem dX2_readFrom_8 : decode cX2_readFrom 8 = .ok (.aload_n 1, 1) := by decide +kernel
theorem dX2_readFrom_9 : decode cX2_readFrom 9 = .ok (.getfield 19, 3) := by decide +kernel
theorem dX2_readFrom_12 : decode cX2_readFrom 12 = .ok (.goto 7, 3) := by decide +kernel
theorem dX2_readFrom_15 : decode cX2_readFrom 15 = .ok (.aload_n 1, 1) := by decide +kernel
theorem dX2_readFrom_16 : decode cX2_readFrom 16 = .ok (.getfield 25, 3) := by decide +kernel
theorem dX2_readFrom_19 : decode cX2_readFrom 19 = .ok (.invokevirtual 28, 3) := by decide +kernel
theorem dX2_readFrom_22 : decode cX2_readFrom 22 = .ok (.ireturn, 1) := by decide +kernel
set_option maxRecDepth 20000 in
theorem ggX2_learn_X7_init : GoodIn wsX2_learn wsX7_init := goodIn_r _ [10, 11, 12, 13, 14, 15, 16, 17, 18, 19, 20, 21, 6, 22, 23, 24, 25, 26, 3, 27, 124, 125, 126, 127, 128, 129] (by decide +kernel) (by decide +kernel)
set_option maxRecDepth 20000 in
theorem gX2_learn_X7_init : GoodIn wsX2_learn (wsX7_init) := ggX2_learn_X7_init
set_option maxRecDepth 20000 in
theorem ggX2_learn_X0_show : GoodIn wsX2_learn wsX0_show := goodIn_r _ [33, 34, 35, 36, 37, 38, 39, 40, 130, 131, 132, 133, 124, 125, 126, 127, 128, 129] (by decide +kernel) (by decide +kernel)
set_option maxRecDepth 20000 in
theorem gX2_learn_X0_show_u41X0 : GoodIn wsX2_learn (va_wsU RX2 41 RX0 "StageCube$Feature" ⟨"StageCube$Feature", "show", "(ILStageCube$Pieces;)V"⟩ yX0_show wsX0_show) := goodIn_app (goodIn_of _ (by decide +kernel)) ggX2_learn_X0_show
set_option maxRecDepth 20000 in
theorem ggX2_learn_X3_show : GoodIn wsX2_learn wsX3_show := goodIn_r _ [44, 45, 46, 47, 124, 125, 126, 127, 128, 129] (by decide +kernel) (by decide +kernel)
set_option maxRecDepth 20000 in
theorem gX2_learn_X3_show_u41X3 : GoodIn wsX2_learn (va_wsU RX2 41 RX3 "StageCube$Feature" ⟨"StageCube$Feature", "show", "(ILStageCube$Pieces;)V"⟩ yX3_show wsX3_show) := goodIn_app (goodIn_of _ (by decide +kernel)) ggX2_learn_X3_show
set_option maxRecDepth 20000 in
theorem ggX2_learn_X5_show : GoodIn wsX2_learn wsX5_show := goodIn_r _ [51, 52, 53, 54, 55, 38, 39, 40, 137, 138, 139, 140, 141, 124, 125, 126, 127, 128, 129] (by decide +kernel) (by decide +kernel)
set_option maxRecDepth 20000 in
theorem gX2_learn_X5_show_u41X5 : GoodIn wsX2_learn (va_wsU RX2 41 RX5 "StageCube$Feature" ⟨"StageCube$Feature", "show", "(ILStageCube$Pieces;)V"⟩ yX5_show wsX5_show) := goodIn_app (goodIn_of _ (by decide +kernel)) ggX2_learn_X5_show
set_option maxRecDepth 20000 in
theorem ggX2_learn_X6_show : GoodIn wsX2_learn wsX6_show := goodIn_r _ [59, 60, 61, 62, 63, 64, 65, 39, 66, 67, 68, 38, 40, 142, 143, 144, 145, 146, 147, 124, 125, 126, 127, 128, 129] (by decide +kernel) (by decide +kernel)
set_option maxRecDepth 20000 in
theorem gX2_learn_X6_show_u41X6 : GoodIn wsX2_learn (va_wsU RX2 41 RX6 "StageCube$Feature" ⟨"StageCube$Feature", "show", "(ILStageCube$Pieces;)V"⟩ yX6_show wsX6_show) := goodIn_app (goodIn_of _ (by decide +kernel)) ggX2_learn_X6_show
set_option maxRecDepth 20000 in
theorem ggX2_learn_X8_show : GoodIn wsX2_learn wsX8_show := goodIn_r _ [72, 73, 74, 75, 76, 65, 39, 66, 67, 77, 78, 79, 71, 80, 148, 149, 150, 151, 152, 124, 125, 126, 127, 128, 129] (by decide +kernel) (by decide +kernel)
set_option maxRecDepth 20000 in
theorem gX2_learn_X8_show_u41X8 : GoodIn wsX2_learn (va_wsU RX2 41 RX8 "StageCube$Feature" ⟨"StageCube$Feature", "show", "(ILStageCube$Pieces;)V"⟩ yX8_show wsX8_show) := goodIn_app (goodIn_of _ (by decide +kernel)) ggX2_learn_X8_show
set_option maxRecDepth 20000 in
theorem ggX2_learn_X7_quarter : GoodIn wsX2_learn wsX7_quarter := goodIn_r _ [84, 22, 18, 23, 21, 15, 124, 125, 126, 127, 128, 129] (by decide +kernel) (by decide +kernel)
set_option maxRecDepth 20000 in
theorem gX2_learn_X7_quarter : GoodIn wsX2_learn (wsV RX2 45 RX7 yX7_quarter wsX7_quarter) := goodIn_app (goodIn_of _ (by decide +kernel)) ggX2_learn_X7_quarter
set_option maxRecDepth 20000 in
theorem ggX2_learn_X0_read : GoodIn wsX2_learn wsX0_read := goodIn_r _ [89, 36, 90, 91, 39, 92, 124, 125, 126, 127, 128, 129] (by decide +kernel) (by decide +kernel)
set_option maxRecDepth 20000 in
theorem gX2_learn_X0_read_u28X0 : GoodIn wsX2_learn (va_wsU RX2 28 RX0 "StageCube$Feature" ⟨"StageCube$Feature", "read", "(LStageCube$Pieces;)I"⟩ yX0_read wsX0_read) := goodIn_app (goodIn_of _ (by decide +kernel)) ggX2_learn_X0_read
set_option maxRecDepth 20000 in
theorem ggX2_learn_X3_read : GoodIn wsX2_learn wsX3_read := goodIn_r _ [95, 45, 46, 47, 124, 125, 126, 127, 128, 129] (by decide +kernel) (by decide +kernel)
set_option maxRecDepth 20000 in
theorem gX2_learn_X3_read_u28X3 : GoodIn wsX2_learn (va_wsU RX2 28 RX3 "StageCube$Feature" ⟨"StageCube$Feature", "read", "(LStageCube$Pieces;)I"⟩ yX3_read wsX3_read) := goodIn_app (goodIn_of _ (by decide +kernel)) ggX2_learn_X3_read
set_option maxRecDepth 20000 in
theorem ggX2_learn_X5_read : GoodIn wsX2_learn wsX5_read := goodIn_r _ [98, 53, 54, 99, 91, 39, 92, 124, 125, 126, 127, 128, 129, 137, 138, 139, 140, 141] (by decide +kernel) (by decide +kernel)
set_option maxRecDepth 20000 in
theorem gX2_learn_X5_read_u28X5 : GoodIn wsX2_learn (va_wsU RX2 28 RX5 "StageCube$Feature" ⟨"StageCube$Feature", "read", "(LStageCube$Pieces;)I"⟩ yX5_read wsX5_read) := goodIn_app (goodIn_of _ (by decide +kernel)) ggX2_learn_X5_read
set_option maxRecDepth 20000 in
theorem ggX2_learn_X6_read : GoodIn wsX2_learn wsX6_read := goodIn_r _ [102, 61, 62, 103, 104, 105, 106, 107, 108, 109, 110, 111, 112, 113, 114, 58, 115, 116, 91, 39, 92, 117, 118, 119, 67, 124, 125, 126, 127, 128, 129, 142, 143, 144, 145, 146, 147] (by decide +kernel) (by decide +kernel)
set_option maxRecDepth 20000 in
theorem gX2_learn_X6_read_u28X6 : GoodIn wsX2_learn (va_wsU RX2 28 RX6 "StageCube$Feature" ⟨"StageCube$Feature", "read", "(LStageCube$Pieces;)I"⟩ yX6_read wsX6_read) := goodIn_app (goodIn_of _ (by decide +kernel)) ggX2_learn_X6_read
set_option maxRecDepth 20000 in
theorem ggX2_learn_X8_read : GoodIn wsX2_learn wsX8_read := goodIn_r _ [122, 73, 75, 74, 77, 78, 79, 71, 80, 123, 118, 39, 119, 67, 148, 149, 150, 151, 152, 124, 125, 126, 127, 128, 129] (by decide +kernel) (by decide +kernel)
set_option maxRecDepth 20000 in
theorem gX2_learn_X8_read_u28X8 : GoodIn wsX2_learn (va_wsU RX2 28 RX8 "StageCube$Feature" ⟨"StageCube$Feature", "read", "(LStageCube$Pieces;)I"⟩ yX8_read wsX8_read) := goodIn_app (goodIn_of _ (by decide +kernel)) ggX2_learn_X8_read
theorem dX2_learn_0 : decode cX2_learn 0 = .ok (.new 32, 3) := by decide +kernel
theorem dX2_learn_3 : decode cX2_learn 3 = .ok (.dup, 1) := by decide +kernel
theorem dX2_learn_4 : decode cX2_learn 4 = .ok (.aload_n 0, 1) := by decide +kernel
theorem dX2_learn_5 : decode cX2_learn 5 = .ok (.getfield 9, 3) := by decide +kernel
theorem dX2_learn_8 : decode cX2_learn 8 = .ok (.invokespecial 34, 3) := by decide +kernel
theorem dX2_learn_11 : decode cX2_learn 11 = .ok (.astore_n 2, 1) := by decide +kernel
theorem dX2_learn_12 : decode cX2_learn 12 = .ok (.aload_n 0, 1) := by decide +kernel
theorem dX2_learn_13 : decode cX2_learn 13 = .ok (.bipush 6, 2) := by decide +kernel
theorem dX2_learn_15 : decode cX2_learn 15 = .ok (.aload_n 0, 1) := by decide +kernel
theorem dX2_learn_16 : decode cX2_learn 16 = .ok (.getfield 15, 3) := by decide +kernel
theorem dX2_learn_19 : decode cX2_learn 19 = .ok (.imul, 1) := by decide +kernel
theorem dX2_learn_20 : decode cX2_learn 20 = .ok (.newarray .int, 2) := by decide +kernel
theorem dX2_learn_22 : decode cX2_learn 22 = .ok (.putfield 37, 3) := by decide +kernel
theorem dX2_learn_25 : decode cX2_learn 25 = .ok (.iconst 0, 1) := by decide +kernel
theorem dX2_learn_26 : decode cX2_learn 26 = .ok (.istore_n 3, 1) := by decide +kernel
theorem dX2_learn_27 : decode cX2_learn 27 = .ok (.iload_n 3, 1) := by decide +kernel
theorem dX2_learn_28 : decode cX2_learn 28 = .ok (.aload_n 0, 1) := by decide +kernel
theorem dX2_learn_29 : decode cX2_learn 29 = .ok (.getfield 15, 3) := by decide +kernel
theorem dX2_learn_32 : decode cX2_learn 32 = .ok (.if_icmp .ge 66, 3) := by decide +kernel
theorem dX2_learn_35 : decode cX2_learn 35 = .ok (.iconst 0, 1) := by decide +kernel
theorem dX2_learn_36 : decode cX2_learn 36 = .ok (.istore 4, 2) := by decide +kernel
theorem dX2_learn_38 : decode cX2_learn 38 = .ok (.iload 4, 2) := by decide +kernel
theorem dX2_learn_40 : decode cX2_learn 40 = .ok (.bipush 6, 2) := by decide +kernel
theorem dX2_learn_42 : decode cX2_learn 42 = .ok (.if_icmp .ge 50, 3) := by decide +kernel
theorem dX2_learn_45 : decode cX2_learn 45 = .ok (.aload_n 0, 1) := by decide +kernel
theorem dX2_learn_46 : decode cX2_learn 46 = .ok (.iload_n 3, 1) := by decide +kernel
theorem dX2_learn_47 : decode cX2_learn 47 = .ok (.aload_n 2, 1) := by decide +kernel
theorem dX2_learn_48 : decode cX2_learn 48 = .ok (.invokevirtual 41, 3) := by decide +kernel
theorem dX2_learn_51 : decode cX2_learn 51 = .ok (.aload_n 2, 1) := by decide +kernel
theorem dX2_learn_52 : decode cX2_learn 52 = .ok (.iload 4, 2) := by decide +kernel
theorem dX2_learn_54 : decode cX2_learn 54 = .ok (.invokevirtual 45, 3) := by decide +kernel
theorem dX2_learn_57 : decode cX2_learn 57 = .ok (.iload 4, 2) := by decide +kernel
theorem dX2_learn_59 : decode cX2_learn 59 = .ok (.iload_n 1, 1) := by decide +kernel
theorem dX2_learn_60 : decode cX2_learn 60 = .ok (.if_icmp .lt 9, 3) := by decide +kernel
theorem dX2_learn_63 : decode cX2_learn 63 = .ok (.aload_n 2, 1) := by decide +kernel
theorem dX2_learn_64 : decode cX2_learn 64 = .ok (.iload 4, 2) := by decide +kernel
theorem dX2_learn_66 : decode cX2_learn 66 = .ok (.invokevirtual 45, 3) := by decide +kernel
theorem dX2_learn_69 : decode cX2_learn 69 = .ok (.aload_n 0, 1) := by decide +kernel
theorem dX2_learn_70 : decode cX2_learn 70 = .ok (.getfield 37, 3) := by decide +kernel
theorem dX2_learn_73 : decode cX2_learn 73 = .ok (.bipush 6, 2) := by decide +kernel
theorem dX2_learn_75 : decode cX2_learn 75 = .ok (.iload_n 3, 1) := by decide +kernel
theorem dX2_learn_76 : decode cX2_learn 76 = .ok (.imul, 1) := by decide +kernel
theorem dX2_learn_77 : decode cX2_learn 77 = .ok (.iload 4, 2) := by decide +kernel
theorem dX2_learn_79 : decode cX2_learn 79 = .ok (.iadd, 1) := by decide +kernel
theorem dX2_learn_80 : decode cX2_learn 80 = .ok (.aload_n 0, 1) := by decide +kernel
theorem dX2_learn_81 : decode cX2_learn 81 = .ok (.aload_n 2, 1) := by decide +kernel
theorem dX2_learn_82 : decode cX2_learn 82 = .ok (.invokevirtual 28, 3) := by decide +kernel
theorem dX2_learn_85 : decode cX2_learn 85 = .ok (.iastore, 1) := by decide +kernel
theorem dX2_learn_86 : decode cX2_learn 86 = .ok (.iinc 4 1, 3) := by decide +kernel
theorem dX2_learn_89 : decode cX2_learn 89 = .ok (.goto (-51), 3) := by decide +kernel
theorem dX2_learn_92 : decode cX2_learn 92 = .ok (.iinc 3 1, 3) := by decide +kernel
theorem dX2_learn_95 : decode cX2_learn 95 = .ok (.goto (-68), 3) := by decide +kernel
theorem dX2_learn_98 : decode cX2_learn 98 = .ok (.return_, 1) := by decide +kernel
set_option maxRecDepth 20000 in
theorem ggX3_init_X2_init : GoodIn wsX3_init wsX2_init := goodIn_r _ [4, 5, 6, 7, 8, 9, 10, 11, 12, 13, 14, 15, 16, 17, 18, 19, 20, 21, 22, 23, 24, 25, 26, 27, 28, 29, 30, 31, 32] (by decide +kernel) (by decide +kernel)
set_option maxRecDepth 20000 in
theorem gX3_init_X2_init : GoodIn wsX3_init (wsX2_init) := ggX3_init_X2_init
theorem dX3_init_0 : decode cX3_init 0 = .ok (.aload_n 0, 1) := by decide +kernel
theorem dX3_init_1 : decode cX3_init 1 = .ok (.iload_n 1, 1) := by decide +kernel
theorem dX3_init_2 : decode cX3_init 2 = .ok (.iload_n 1, 1) := by decide +kernel
theorem dX3_init_3 : decode cX3_init 3 = .ok (.ifCond .eq 9, 3) := by decide +kernel
theorem dX3_init_6 : decode cX3_init 6 = .ok (.sipush 2187, 3) := by decide +kernel
theorem dX3_init_9 : decode cX3_init 9 = .ok (.goto 6, 3) := by decide +kernel
theorem dX3_init_12 : decode cX3_init 12 = .ok (.sipush 2048, 3) := by decide +kernel
theorem dX3_init_15 : decode cX3_init 15 = .ok (.invokespecial 1, 3) := by decide +kernel
theorem dX3_init_18 : decode cX3_init 18 = .ok (.return_, 1) := by decide +kernel
theorem dX3_read_0 : decode cX3_read 0 = .ok (.iconst 0, 1) := by decide +kernel
theorem dX3_read_1 : decode cX3_read 1 = .ok (.istore_n 2, 1) := by decide +kernel
theorem dX3_read_2 : decode cX3_read 2 = .ok (.iconst 0, 1) := by decide +kernel
theorem dX3_read_3 : decode cX3_read 3 = .ok (.istore_n 3, 1) := by decide +kernel
theorem dX3_read_4 : decode cX3_read 4 = .ok (.iload_n 3, 1) := by decide +kernel
theorem dX3_read_5 : decode cX3_read 5 = .ok (.aload_n 1, 1) := by decide +kernel
theorem dX3_read_6 : decode cX3_read 6 = .ok (.getfield 7, 3) := by decide +kernel
theorem dX3_read_9 : decode cX3_read 9 = .ok (.iconst 1, 1) := by decide +kernel
theorem dX3_read_10 : decode cX3_read 10 = .ok (.isub, 1) := by decide +kernel
theorem dX3_read_11 : decode cX3_read 11 = .ok (.if_icmp .ge 23, 3) := by decide +kernel
theorem dX3_read_14 : decode cX3_read 14 = .ok (.iload_n 2, 1) := by decide +kernel
theorem dX3_read_15 : decode cX3_read 15 = .ok (.aload_n 1, 1) := by decide +kernel
theorem dX3_read_16 : decode cX3_read 16 = .ok (.getfield 13, 3) := by decide +kernel
theorem dX3_read_19 : decode cX3_read 19 = .ok (.imul, 1) := by decide +kernel
theorem dX3_read_20 : decode cX3_read 20 = .ok (.aload_n 1, 1) := by decide +kernel
theorem dX3_read_21 : decode cX3_read 21 = .ok (.getfield 16, 3) := by decide +kernel
theorem dX3_read_24 : decode cX3_read 24 = .ok (.iload_n 3, 1) := by decide +kernel
theorem dX3_read_25 : decode cX3_read 25 = .ok (.iaload, 1) := by decide +kernel
theorem dX3_read_26 : decode cX3_read 26 = .ok (.iadd, 1) := by decide +kernel
theorem dX3_read_27 : decode cX3_read 27 = .ok (.istore_n 2, 1) := by decide +kernel
theorem dX3_read_28 : decode cX3_read 28 = .ok (.iinc 3 1, 3) := by decide +kernel
theorem dX3_read_31 : decode cX3_read 31 = .ok (.goto (-27), 3) := by decide +kernel
theorem dX3_read_34 : decode cX3_read 34 = .ok (.iload_n 2, 1) := by decide +kernel
theorem dX3_read_35 : decode cX3_read 35 = .ok (.ireturn, 1) := by decide +kernel
theorem dX3_show_0 : decode cX3_show 0 = .ok (.iload_n 1, 1) := by decide +kernel
theorem dX3_show_1 : decode cX3_show 1 = .ok (.istore_n 3, 1) := by decide +kernel
theorem dX3_show_2 : decode cX3_show 2 = .ok (.iconst 0, 1) := by decide +kernel
theorem dX3_show_3 : decode cX3_show 3 = .ok (.istore 4, 2) := by decide +kernel
theorem dX3_show_5 : decode cX3_show 5 = .ok (.aload_n 2, 1) := by decide +kernel
theorem dX3_show_6 : decode cX3_show 6 = .ok (.getfield 7, 3) := by decide +kernel
theorem dX3_show_9 : decode cX3_show 9 = .ok (.iconst 2, 1) := by decide +kernel
theorem dX3_show_10 : decode cX3_show 10 = .ok (.isub, 1) := by decide +kernel
theorem dX3_show_11 : decode cX3_show 11 = .ok (.istore 5, 2) := by decide +kernel
theorem dX3_show_13 : decode cX3_show 13 = .ok (.iload 5, 2) := by decide +kernel
theorem dX3_show_15 : decode cX3_show 15 = .ok (.ifCond .lt 40, 3) := by decide +kernel
theorem dX3_show_18 : decode cX3_show 18 = .ok (.iload_n 3, 1) := by decide +kernel
theorem dX3_show_19 : decode cX3_show 19 = .ok (.aload_n 2, 1) := by decide +kernel
theorem dX3_show_20 : decode cX3_show 20 = .ok (.getfield 13, 3) := by decide +kernel
theorem dX3_show_23 : decode cX3_show 23 = .ok (.irem, 1) := by decide +kernel
theorem dX3_show_24 : decode cX3_show 24 = .ok (.istore 6, 2) := by decide +kernel
theorem dX3_show_26 : decode cX3_show 26 = .ok (.aload_n 2, 1) := by decide +kernel
theorem dX3_show_27 : decode cX3_show 27 = .ok (.getfield 16, 3) := by decide +kernel
theorem dX3_show_30 : decode cX3_show 30 = .ok (.iload 5, 2) := by decide +kernel
theorem dX3_show_32 : decode cX3_show 32 = .ok (.iload 6, 2) := by decide +kernel
theorem dX3_show_34 : decode cX3_show 34 = .ok (.iastore, 1) := by decide +kernel
theorem dX3_show_35 : decode cX3_show 35 = .ok (.iload 4, 2) := by decide +kernel
theorem dX3_show_37 : decode cX3_show 37 = .ok (.iload 6, 2) := by decide +kernel
theorem dX3_show_39 : decode cX3_show 39 = .ok (.iadd, 1) := by decide +kernel
theorem dX3_show_40 : decode cX3_show 40 = .ok (.istore 4, 2) := by decide +kernel
theorem dX3_show_42 : decode cX3_show 42 = .ok (.iload_n 3, 1) := by decide +kernel
theorem dX3_show_43 : decode cX3_show 43 = .ok (.aload_n 2, 1) := by decide +kernel
theorem dX3_show_44 : decode cX3_show 44 = .ok (.getfield 13, 3) := by decide +kernel
theorem dX3_show_47 : decode cX3_show 47 = .ok (.idiv, 1) := by decide +kernel
theorem dX3_show_48 : decode cX3_show 48 = .ok (.istore_n 3, 1) := by decide +kernel
theorem dX3_show_49 : decode cX3_show 49 = .ok (.iinc 5 (-1), 3) := by decide +kernel
theorem dX3_show_52 : decode cX3_show 52 = .ok (.goto (-39), 3) := by decide +kernel
theorem dX3_show_55 : decode cX3_show 55 = .ok (.aload_n 2, 1) := by decide +kernel
theorem dX3_show_56 : decode cX3_show 56 = .ok (.getfield 16, 3) := by decide +kernel
theorem dX3_show_59 : decode cX3_show 59 = .ok (.aload_n 2, 1) := by decide +kernel
theorem dX3_show_60 : decode cX3_show 60 = .ok (.getfield 7, 3) := by decide +kernel
theorem dX3_show_63 : decode cX3_show 63 = .ok (.iconst 1, 1) := by decide +kernel
theorem dX3_show_64 : decode cX3_show 64 = .ok (.isub, 1) := by decide +kernel
theorem dX3_show_65 : decode cX3_show 65 = .ok (.aload_n 2, 1) := by decide +kernel
theorem dX3_show_66 : decode cX3_show 66 = .ok (.getfield 13, 3) := by decide +kernel
theorem dX3_show_69 : decode cX3_show 69 = .ok (.iload 4, 2) := by decide +kernel
theorem dX3_show_71 : decode cX3_show 71 = .ok (.aload_n 2, 1) := by decide +kernel
theorem dX3_show_72 : decode cX3_show 72 = .ok (.getfield 13, 3) := by decide +kernel
theorem dX3_show_75 : decode cX3_show 75 = .ok (.irem, 1) := by decide +kernel
theorem dX3_show_76 : decode cX3_show 76 = .ok (.isub, 1) := by decide +kernel
theorem dX3_show_77 : decode cX3_show 77 = .ok (.aload_n 2, 1) := by decide +kernel
theorem dX3_show_78 : decode cX3_show 78 = .ok (.getfield 13, 3) := by decide +kernel
theorem dX3_show_81 : decode cX3_show 81 = .ok (.irem, 1) := by decide +kernel
theorem dX3_show_82 : decode cX3_show 82 = .ok (.iastore, 1) := by decide +kernel
theorem dX3_show_83 : decode cX3_show 83 = .ok (.return_, 1) := by decide +kernel
theorem dX4_ofSet_0 : decode cX4_ofSet 0 = .ok (.iconst 0, 1) := by decide +kernel
theorem dX4_ofSet_1 : decode cX4_ofSet 1 = .ok (.istore_n 2, 1) := by decide +kernel
theorem dX4_ofSet_2 : decode cX4_ofSet 2 = .ok (.iconst 0, 1) := by decide +kernel
theorem dX4_ofSet_3 : decode cX4_ofSet 3 = .ok (.istore_n 3, 1) := by decide +kernel
theorem dX4_ofSet_4 : decode cX4_ofSet 4 = .ok (.iconst 0, 1) := by decide +kernel
theorem dX4_ofSet_5 : decode cX4_ofSet 5 = .ok (.istore 4, 2) := by decide +kernel
theorem dX4_ofSet_7 : decode cX4_ofSet 7 = .ok (.iload 4, 2) := by decide +kernel
theorem dX4_ofSet_9 : decode cX4_ofSet 9 = .ok (.iload_n 1, 1) := by decide +kernel
theorem dX4_ofSet_10 : decode cX4_ofSet 10 = .ok (.if_icmp .ge 39, 3) := by decide +kernel
theorem dX4_ofSet_13 : decode cX4_ofSet 13 = .ok (.iload_n 3, 1) := by decide +kernel
theorem dX4_ofSet_14 : decode cX4_ofSet 14 = .ok (.iconst 4, 1) := by decide +kernel
theorem dX4_ofSet_15 : decode cX4_ofSet 15 = .ok (.if_icmp .ge 34, 3) := by decide +kernel
theorem dX4_ofSet_18 : decode cX4_ofSet 18 = .ok (.iload_n 0, 1) := by decide +kernel
theorem dX4_ofSet_19 : decode cX4_ofSet 19 = .ok (.iload 4, 2) := by decide +kernel
theorem dX4_ofSet_21 : decode cX4_ofSet 21 = .ok (.ishr, 1) := by decide +kernel
theorem dX4_ofSet_22 : decode cX4_ofSet 22 = .ok (.iconst 1, 1) := by decide +kernel
theorem dX4_ofSet_23 : decode cX4_ofSet 23 = .ok (.iand, 1) := by decide +kernel
theorem dX4_ofSet_24 : decode cX4_ofSet 24 = .ok (.ifCond .eq 19, 3) := by decide +kernel
theorem dX4_ofSet_27 : decode cX4_ofSet 27 = .ok (.iinc 3 1, 3) := by decide +kernel
theorem dX4_ofSet_30 : decode cX4_ofSet 30 = .ok (.iload_n 2, 1) := by decide +kernel
theorem dX4_ofSet_31 : decode cX4_ofSet 31 = .ok (.getstatic 7, 3) := by decide +kernel
theorem dX4_ofSet_34 : decode cX4_ofSet 34 = .ok (.iconst 5, 1) := by decide +kernel
theorem dX4_ofSet_35 : decode cX4_ofSet 35 = .ok (.iload 4, 2) := by decide +kernel
theorem dX4_ofSet_37 : decode cX4_ofSet 37 = .ok (.imul, 1) := by decide +kernel
theorem dX4_ofSet_38 : decode cX4_ofSet 38 = .ok (.iload_n 3, 1) := by decide +kernel
theorem dX4_ofSet_39 : decode cX4_ofSet 39 = .ok (.iadd, 1) := by decide +kernel
theorem dX4_ofSet_40 : decode cX4_ofSet 40 = .ok (.iaload, 1) := by decide +kernel
theorem dX4_ofSet_41 : decode cX4_ofSet 41 = .ok (.iadd, 1) := by decide +kernel
theorem dX4_ofSet_42 : decode cX4_ofSet 42 = .ok (.istore_n 2, 1) := by decide +kernel
theorem dX4_ofSet_43 : decode cX4_ofSet 43 = .ok (.iinc 4 1, 3) := by decide +kernel
theorem dX4_ofSet_46 : decode cX4_ofSet 46 = .ok (.goto (-39), 3) := by decide +kernel
theorem dX4_ofSet_49 : decode cX4_ofSet 49 = .ok (.iload_n 2, 1) := by decide +kernel
theorem dX4_ofSet_50 : decode cX4_ofSet 50 = .ok (.ireturn, 1) := by decide +kernel
theorem dX4_toSet_0 : decode cX4_toSet 0 = .ok (.iconst 0, 1) := by decide +kernel
theorem dX4_toSet_1 : decode cX4_toSet 1 = .ok (.istore_n 2, 1) := by decide +kernel
theorem dX4_toSet_2 : decode cX4_toSet 2 = .ok (.iload_n 0, 1) := by decide +kernel
theorem dX4_toSet_3 : decode cX4_toSet 3 = .ok (.istore_n 3, 1) := by decide +kernel
theorem dX4_toSet_4 : decode cX4_toSet 4 = .ok (.iconst 4, 1) := by decide +kernel
theorem dX4_toSet_5 : decode cX4_toSet 5 = .ok (.istore 4, 2) := by decide +kernel
theorem dX4_toSet_7 : decode cX4_toSet 7 = .ok (.iload_n 1, 1) := by decide +kernel
theorem dX4_toSet_8 : decode cX4_toSet 8 = .ok (.iconst 1, 1) := by decide +kernel
theorem dX4_toSet_9 : decode cX4_toSet 9 = .ok (.isub, 1) := by decide +kernel
theorem dX4_toSet_10 : decode cX4_toSet 10 = .ok (.istore 5, 2) := by decide +kernel
theorem dX4_toSet_12 : decode cX4_toSet 12 = .ok (.iload 5, 2) := by decide +kernel
theorem dX4_toSet_14 : decode cX4_toSet 14 = .ok (.ifCond .lt 48, 3) := by decide +kernel
theorem dX4_toSet_17 : decode cX4_toSet 17 = .ok (.iload 4, 2) := by decide +kernel
theorem dX4_toSet_19 : decode cX4_toSet 19 = .ok (.ifCond .le 43, 3) := by decide +kernel
theorem dX4_toSet_22 : decode cX4_toSet 22 = .ok (.getstatic 7, 3) := by decide +kernel
theorem dX4_toSet_25 : decode cX4_toSet 25 = .ok (.iconst 5, 1) := by decide +kernel
theorem dX4_toSet_26 : decode cX4_toSet 26 = .ok (.iload 5, 2) := by decide +kernel
theorem dX4_toSet_28 : decode cX4_toSet 28 = .ok (.imul, 1) := by decide +kernel
theorem dX4_toSet_29 : decode cX4_toSet 29 = .ok (.iload 4, 2) := by decide +kernel
theorem dX4_toSet_31 : decode cX4_toSet 31 = .ok (.iadd, 1) := by decide +kernel
theorem dX4_toSet_32 : decode cX4_toSet 32 = .ok (.iaload, 1) := by decide +kernel
theorem dX4_toSet_33 : decode cX4_toSet 33 = .ok (.istore 6, 2) := by decide +kernel
theorem dX4_toSet_35 : decode cX4_toSet 35 = .ok (.iload_n 3, 1) := by decide +kernel
theorem dX4_toSet_36 : decode cX4_toSet 36 = .ok (.iload 6, 2) := by decide +kernel
theorem dX4_toSet_38 : decode cX4_toSet 38 = .ok (.if_icmp .lt 18, 3) := by decide +kernel
theorem dX4_toSet_41 : decode cX4_toSet 41 = .ok (.iload_n 3, 1) := by decide +kernel
theorem dX4_toSet_42 : decode cX4_toSet 42 = .ok (.iload 6, 2) := by decide +kernel
theorem dX4_toSet_44 : decode cX4_toSet 44 = .ok (.isub, 1) := by decide +kernel
theorem dX4_toSet_45 : decode cX4_toSet 45 = .ok (.istore_n 3, 1) := by decide +kernel
theorem dX4_toSet_46 : decode cX4_toSet 46 = .ok (.iinc 4 (-1), 3) := by decide +kernel
theorem dX4_toSet_49 : decode cX4_toSet 49 = .ok (.iload_n 2, 1) := by decide +kernel
theorem dX4_toSet_50 : decode cX4_toSet 50 = .ok (.iconst 1, 1) := by decide +kernel
theorem dX4_toSet_51 : decode cX4_toSet 51 = .ok (.iload 5, 2) := by decide +kernel
theorem dX4_toSet_53 : decode cX4_toSet 53 = .ok (.ishl, 1) := by decide +kernel
theorem dX4_toSet_54 : decode cX4_toSet 54 = .ok (.ior, 1) := by decide +kernel
theorem dX4_toSet_55 : decode cX4_toSet 55 = .ok (.istore_n 2, 1) := by decide +kernel
theorem dX4_toSet_56 : decode cX4_toSet 56 = .ok (.iinc 5 (-1), 3) := by decide +kernel
theorem dX4_toSet_59 : decode cX4_toSet 59 = .ok (.goto (-47), 3) := by decide +kernel
theorem dX4_toSet_62 : decode cX4_toSet 62 = .ok (.iload_n 2, 1) := by decide +kernel
theorem dX4_toSet_63 : decode cX4_toSet 63 = .ok (.ireturn, 1) := by decide +kernel
theorem dX4_ofOrder_0 : decode cX4_ofOrder 0 = .ok (.iload_n 0, 1) := by decide +kernel
theorem dX4_ofOrder_1 : decode cX4_ofOrder 1 = .ok (.bipush 6, 2) := by decide +kernel
theorem dX4_ofOrder_3 : decode cX4_ofOrder 3 = .ok (.imul, 1) := by decide +kernel
theorem dX4_ofOrder_4 : decode cX4_ofOrder 4 = .ok (.iload_n 1, 1) := by decide +kernel
theorem dX4_ofOrder_5 : decode cX4_ofOrder 5 = .ok (.iload_n 0, 1) := by decide +kernel
theorem dX4_ofOrder_6 : decode cX4_ofOrder 6 = .ok (.if_icmp .le 9, 3) := by decide +kernel
theorem dX4_ofOrder_9 : decode cX4_ofOrder 9 = .ok (.iload_n 1, 1) := by decide +kernel
theorem dX4_ofOrder_10 : decode cX4_ofOrder 10 = .ok (.iconst 1, 1) := by decide +kernel
theorem dX4_ofOrder_11 : decode cX4_ofOrder 11 = .ok (.isub, 1) := by decide +kernel
theorem dX4_ofOrder_12 : decode cX4_ofOrder 12 = .ok (.goto 4, 3) := by decide +kernel
theorem dX4_ofOrder_15 : decode cX4_ofOrder 15 = .ok (.iload_n 1, 1) := by decide +kernel
theorem dX4_ofOrder_16 : decode cX4_ofOrder 16 = .ok (.iconst 2, 1) := by decide +kernel
theorem dX4_ofOrder_17 : decode cX4_ofOrder 17 = .ok (.imul, 1) := by decide +kernel
theorem dX4_ofOrder_18 : decode cX4_ofOrder 18 = .ok (.iadd, 1) := by decide +kernel
theorem dX4_ofOrder_19 : decode cX4_ofOrder 19 = .ok (.iload_n 2, 1) := by decide +kernel
theorem dX4_ofOrder_20 : decode cX4_ofOrder 20 = .ok (.iload_n 3, 1) := by decide +kernel
theorem dX4_ofOrder_21 : decode cX4_ofOrder 21 = .ok (.if_icmp .le 7, 3) := by decide +kernel
theorem dX4_ofOrder_24 : decode cX4_ofOrder 24 = .ok (.iconst 1, 1) := by decide +kernel
theorem dX4_ofOrder_25 : decode cX4_ofOrder 25 = .ok (.goto 4, 3) := by decide +kernel
theorem dX4_ofOrder_28 : decode cX4_ofOrder 28 = .ok (.iconst 0, 1) := by decide +kernel
theorem dX4_ofOrder_29 : decode cX4_ofOrder 29 = .ok (.iadd, 1) := by decide +kernel
theorem dX4_ofOrder_30 : decode cX4_ofOrder 30 = .ok (.ireturn, 1) := by decide +kernel
theorem dX4_toOrder_0 : decode cX4_toOrder 0 = .ok (.iload_n 0, 1) := by decide +kernel
theorem dX4_toOrder_1 : decode cX4_toOrder 1 = .ok (.bipush 6, 2) := by decide +kernel
theorem dX4_toOrder_3 : decode cX4_toOrder 3 = .ok (.idiv, 1) := by decide +kernel
theorem dX4_toOrder_4 : decode cX4_toOrder 4 = .ok (.istore_n 2, 1) := by decide +kernel
theorem dX4_toOrder_5 : decode cX4_toOrder 5 = .ok (.iload_n 0, 1) := by decide +kernel
theorem dX4_toOrder_6 : decode cX4_toOrder 6 = .ok (.iconst 2, 1) := by decide +kernel
theorem dX4_toOrder_7 : decode cX4_toOrder 7 = .ok (.idiv, 1) := by decide +kernel
theorem dX4_toOrder_8 : decode cX4_toOrder 8 = .ok (.iconst 3, 1) := by decide +kernel
theorem dX4_toOrder_9 : decode cX4_toOrder 9 = .ok (.irem, 1) := by decide +kernel
theorem dX4_toOrder_10 : decode cX4_toOrder 10 = .ok (.istore_n 3, 1) := by decide +kernel
theorem dX4_toOrder_11 : decode cX4_toOrder 11 = .ok (.iload_n 3, 1) := by decide +kernel
theorem dX4_toOrder_12 : decode cX4_toOrder 12 = .ok (.iload_n 2, 1) := by decide +kernel
theorem dX4_toOrder_13 : decode cX4_toOrder 13 = .ok (.if_icmp .lt 6, 3) := by decide +kernel
theorem dX4_toOrder_16 : decode cX4_toOrder 16 = .ok (.iinc 3 1, 3) := by decide +kernel
theorem dX4_toOrder_19 : decode cX4_toOrder 19 = .ok (.iload_n 2, 1) := by decide +kernel
theorem dX4_toOrder_20 : decode cX4_toOrder 20 = .ok (.ifCond .eq 11, 3) := by decide +kernel
theorem dX4_toOrder_23 : decode cX4_toOrder 23 = .ok (.iload_n 3, 1) := by decide +kernel
theorem dX4_toOrder_24 : decode cX4_toOrder 24 = .ok (.ifCond .eq 7, 3) := by decide +kernel
theorem dX4_toOrder_27 : decode cX4_toOrder 27 = .ok (.iconst 0, 1) := by decide +kernel
theorem dX4_toOrder_28 : decode cX4_toOrder 28 = .ok (.goto 18, 3) := by decide +kernel
theorem dX4_toOrder_31 : decode cX4_toOrder 31 = .ok (.iload_n 2, 1) := by decide +kernel
theorem dX4_toOrder_32 : decode cX4_toOrder 32 = .ok (.iconst 1, 1) := by decide +kernel
theorem dX4_toOrder_33 : decode cX4_toOrder 33 = .ok (.if_icmp .eq 12, 3) := by decide +kernel
theorem dX4_toOrder_36 : decode cX4_toOrder 36 = .ok (.iload_n 3, 1) := by decide +kernel
theorem dX4_toOrder_37 : decode cX4_toOrder 37 = .ok (.iconst 1, 1) := by decide +kernel
theorem dX4_toOrder_38 : decode cX4_toOrder 38 = .ok (.if_icmp .eq 7, 3) := by decide +kernel
theorem dX4_toOrder_41 : decode cX4_toOrder 41 = .ok (.iconst 1, 1) := by decide +kernel
theorem dX4_toOrder_42 : decode cX4_toOrder 42 = .ok (.goto 4, 3) := by decide +kernel
theorem dX4_toOrder_45 : decode cX4_toOrder 45 = .ok (.iconst 2, 1) := by decide +kernel
theorem dX4_toOrder_46 : decode cX4_toOrder 46 = .ok (.istore 4, 2) := by decide +kernel
theorem dX4_toOrder_48 : decode cX4_toOrder 48 = .ok (.bipush 6, 2) := by decide +kernel
theorem dX4_toOrder_50 : decode cX4_toOrder 50 = .ok (.iload_n 2, 1) := by decide +kernel
theorem dX4_toOrder_51 : decode cX4_toOrder 51 = .ok (.isub, 1) := by decide +kernel
theorem dX4_toOrder_52 : decode cX4_toOrder 52 = .ok (.iload_n 3, 1) := by decide +kernel
theorem dX4_toOrder_53 : decode cX4_toOrder 53 = .ok (.isub, 1) := by decide +kernel
theorem dX4_toOrder_54 : decode cX4_toOrder 54 = .ok (.iload 4, 2) := by decide +kernel
theorem dX4_toOrder_56 : decode cX4_toOrder 56 = .ok (.isub, 1) := by decide +kernel
theorem dX4_toOrder_57 : decode cX4_toOrder 57 = .ok (.istore 5, 2) := by decide +kernel
theorem dX4_toOrder_59 : decode cX4_toOrder 59 = .ok (.iload_n 0, 1) := by decide +kernel
theorem dX4_toOrder_60 : decode cX4_toOrder 60 = .ok (.iconst 2, 1) := by decide +kernel
theorem dX4_toOrder_61 : decode cX4_toOrder 61 = .ok (.irem, 1) := by decide +kernel
theorem dX4_toOrder_62 : decode cX4_toOrder 62 = .ok (.ifCond .ne 7, 3) := by decide +kernel
theorem dX4_toOrder_65 : decode cX4_toOrder 65 = .ok (.iconst 1, 1) := by decide +kernel
theorem dX4_toOrder_66 : decode cX4_toOrder 66 = .ok (.goto 4, 3) := by decide +kernel
theorem dX4_toOrder_69 : decode cX4_toOrder 69 = .ok (.iconst 0, 1) := by decide +kernel
theorem dX4_toOrder_70 : decode cX4_toOrder 70 = .ok (.istore 6, 2) := by decide +kernel
theorem dX4_toOrder_72 : decode cX4_toOrder 72 = .ok (.aload_n 1, 1) := by decide +kernel
theorem dX4_toOrder_73 : decode cX4_toOrder 73 = .ok (.iconst 0, 1) := by decide +kernel
theorem dX4_toOrder_74 : decode cX4_toOrder 74 = .ok (.iload_n 2, 1) := by decide +kernel
theorem dX4_toOrder_75 : decode cX4_toOrder 75 = .ok (.iastore, 1) := by decide +kernel
theorem dX4_toOrder_76 : decode cX4_toOrder 76 = .ok (.aload_n 1, 1) := by decide +kernel
theorem dX4_toOrder_77 : decode cX4_toOrder 77 = .ok (.iconst 1, 1) := by decide +kernel
theorem dX4_toOrder_78 : decode cX4_toOrder 78 = .ok (.iload_n 3, 1) := by decide +kernel
theorem dX4_toOrder_79 : decode cX4_toOrder 79 = .ok (.iastore, 1) := by decide +kernel
theorem dX4_toOrder_80 : decode cX4_toOrder 80 = .ok (.aload_n 1, 1) := by decide +kernel
theorem dX4_toOrder_81 : decode cX4_toOrder 81 = .ok (.iconst 2, 1) := by decide +kernel
theorem dX4_toOrder_82 : decode cX4_toOrder 82 = .ok (.iload 6, 2) := by decide +kernel
theorem dX4_toOrder_84 : decode cX4_toOrder 84 = .ok (.ifCond .eq 8, 3) := by decide +kernel
theorem dX4_toOrder_87 : decode cX4_toOrder 87 = .ok (.iload 4, 2) := by decide +kernel
theorem dX4_toOrder_89 : decode cX4_toOrder 89 = .ok (.goto 5, 3) := by decide +kernel
theorem dX4_toOrder_92 : decode cX4_toOrder 92 = .ok (.iload 5, 2) := by decide +kernel
theorem dX4_toOrder_94 : decode cX4_toOrder 94 = .ok (.iastore, 1) := by decide +kernel
theorem dX4_toOrder_95 : decode cX4_toOrder 95 = .ok (.aload_n 1, 1) := by decide +kernel
theorem dX4_toOrder_96 : decode cX4_toOrder 96 = .ok (.iconst 3, 1) := by decide +kernel
theorem dX4_toOrder_97 : decode cX4_toOrder 97 = .ok (.iload 6, 2) := by decide +kernel
theorem dX4_toOrder_99 : decode cX4_toOrder 99 = .ok (.ifCond .eq 8, 3) := by decide +kernel
theorem dX4_toOrder_102 : decode cX4_toOrder 102 = .ok (.iload 5, 2) := by decide +kernel
theorem dX4_toOrder_104 : decode cX4_toOrder 104 = .ok (.goto 5, 3) := by decide +kernel
theorem dX4_toOrder_107 : decode cX4_toOrder 107 = .ok (.iload 4, 2) := by decide +kernel
theorem dX4_toOrder_109 : decode cX4_toOrder 109 = .ok (.iastore, 1) := by decide +kernel
theorem dX4_toOrder_110 : decode cX4_toOrder 110 = .ok (.return_, 1) := by decide +kernel
set_option maxRecDepth 20000 in
theorem ggX5_init_X2_init : GoodIn wsX5_init wsX2_init := goodIn_r _ [7, 8, 9, 10, 11, 12, 18, 19, 20, 21, 22, 23, 24, 13, 14, 15, 16, 17, 25, 26, 27, 28, 29, 30, 31, 32, 33, 34, 35] (by decide +kernel) (by decide +kernel)
set_option maxRecDepth 20000 in
theorem gX5_init_X2_init : GoodIn wsX5_init (wsX2_init) := ggX5_init_X2_init
theorem dX5_init_0 : decode cX5_init 0 = .ok (.aload_n 0, 1) := by decide +kernel
theorem dX5_init_1 : decode cX5_init 1 = .ok (.iconst 0, 1) := by decide +kernel
theorem dX5_init_2 : decode cX5_init 2 = .ok (.bipush 24, 2) := by decide +kernel
theorem dX5_init_4 : decode cX5_init 4 = .ok (.invokespecial 3, 3) := by decide +kernel
theorem dX5_init_7 : decode cX5_init 7 = .ok (.aload_n 0, 1) := by decide +kernel
theorem dX5_init_8 : decode cX5_init 8 = .ok (.iconst 4, 1) := by decide +kernel
theorem dX5_init_9 : decode cX5_init 9 = .ok (.iload_n 1, 1) := by decide +kernel
theorem dX5_init_10 : decode cX5_init 10 = .ok (.imul, 1) := by decide +kernel
theorem dX5_init_11 : decode cX5_init 11 = .ok (.putfield 9, 3) := by decide +kernel
theorem dX5_init_14 : decode cX5_init 14 = .ok (.aload_n 0, 1) := by decide +kernel
theorem dX5_init_15 : decode cX5_init 15 = .ok (.iconst 4, 1) := by decide +kernel
theorem dX5_init_16 : decode cX5_init 16 = .ok (.newarray .int, 2) := by decide +kernel
theorem dX5_init_18 : decode cX5_init 18 = .ok (.putfield 15, 3) := by decide +kernel
theorem dX5_init_21 : decode cX5_init 21 = .ok (.return_, 1) := by decide +kernel
set_option maxRecDepth 20000 in
theorem ggX5_read_X4_ofOrder : GoodIn wsX5_read wsX4_ofOrder := goodIn_r _ [6] (by decide +kernel) (by decide +kernel)
set_option maxRecDepth 20000 in
theorem gX5_read_X4_ofOrder : GoodIn wsX5_read (va_wsS RX5 24 yX4_ofOrder wsX4_ofOrder) := goodIn_app (goodIn_of _ (by decide +kernel)) ggX5_read_X4_ofOrder
theorem dX5_read_0 : decode cX5_read 0 = .ok (.aload_n 1, 1) := by decide +kernel
theorem dX5_read_1 : decode cX5_read 1 = .ok (.getfield 19, 3) := by decide +kernel
theorem dX5_read_4 : decode cX5_read 4 = .ok (.astore_n 2, 1) := by decide +kernel
theorem dX5_read_5 : decode cX5_read 5 = .ok (.aload_n 2, 1) := by decide +kernel
theorem dX5_read_6 : decode cX5_read 6 = .ok (.aload_n 0, 1) := by decide +kernel
theorem dX5_read_7 : decode cX5_read 7 = .ok (.getfield 9, 3) := by decide +kernel
theorem dX5_read_10 : decode cX5_read 10 = .ok (.iaload, 1) := by decide +kernel
theorem dX5_read_11 : decode cX5_read 11 = .ok (.iconst 3, 1) := by decide +kernel
theorem dX5_read_12 : decode cX5_read 12 = .ok (.iand, 1) := by decide +kernel
theorem dX5_read_13 : decode cX5_read 13 = .ok (.aload_n 2, 1) := by decide +kernel
theorem dX5_read_14 : decode cX5_read 14 = .ok (.aload_n 0, 1) := by decide +kernel
theorem dX5_read_15 : decode cX5_read 15 = .ok (.getfield 9, 3) := by decide +kernel
theorem dX5_read_18 : decode cX5_read 18 = .ok (.iconst 1, 1) := by decide +kernel
theorem dX5_read_19 : decode cX5_read 19 = .ok (.iadd, 1) := by decide +kernel
theorem dX5_read_20 : decode cX5_read 20 = .ok (.iaload, 1) := by decide +kernel
theorem dX5_read_21 : decode cX5_read 21 = .ok (.iconst 3, 1) := by decide +kernel
theorem dX5_read_22 : decode cX5_read 22 = .ok (.iand, 1) := by decide +kernel
theorem dX5_read_23 : decode cX5_read 23 = .ok (.aload_n 2, 1) := by decide +kernel
theorem dX5_read_24 : decode cX5_read 24 = .ok (.aload_n 0, 1) := by decide +kernel
theorem dX5_read_25 : decode cX5_read 25 = .ok (.getfield 9, 3) := by decide +kernel
theorem dX5_read_28 : decode cX5_read 28 = .ok (.iconst 2, 1) := by decide +kernel
theorem dX5_read_29 : decode cX5_read 29 = .ok (.iadd, 1) := by decide +kernel
theorem dX5_read_30 : decode cX5_read 30 = .ok (.iaload, 1) := by decide +kernel
theorem dX5_read_31 : decode cX5_read 31 = .ok (.iconst 3, 1) := by decide +kernel
theorem dX5_read_32 : decode cX5_read 32 = .ok (.iand, 1) := by decide +kernel
theorem dX5_read_33 : decode cX5_read 33 = .ok (.aload_n 2, 1) := by decide +kernel
theorem dX5_read_34 : decode cX5_read 34 = .ok (.aload_n 0, 1) := by decide +kernel
theorem dX5_read_35 : decode cX5_read 35 = .ok (.getfield 9, 3) := by decide +kernel
theorem dX5_read_38 : decode cX5_read 38 = .ok (.iconst 3, 1) := by decide +kernel
theorem dX5_read_39 : decode cX5_read 39 = .ok (.iadd, 1) := by decide +kernel
theorem dX5_read_40 : decode cX5_read 40 = .ok (.iaload, 1) := by decide +kernel
theorem dX5_read_41 : decode cX5_read 41 = .ok (.iconst 3, 1) := by decide +kernel
theorem dX5_read_42 : decode cX5_read 42 = .ok (.iand, 1) := by decide +kernel
theorem dX5_read_43 : decode cX5_read 43 = .ok (.invokestatic 24, 3) := by decide +kernel
theorem dX5_read_46 : decode cX5_read 46 = .ok (.ireturn, 1) := by decide +kernel
set_option maxRecDepth 20000 in
theorem ggX5_show_X4_toOrder : GoodIn wsX5_show wsX4_toOrder := goodIn_r _ [7] (by decide +kernel) (by decide +kernel)
set_option maxRecDepth 20000 in
theorem gX5_show_X4_toOrder : GoodIn wsX5_show (va_wsS RX5 28 yX4_toOrder wsX4_toOrder) := goodIn_app (goodIn_of _ (by decide +kernel)) ggX5_show_X4_toOrder
theorem dX5_show_0 : decode cX5_show 0 = .ok (.iload_n 1, 1) := by decide +kernel
theorem dX5_show_1 : decode cX5_show 1 = .ok (.aload_n 0, 1) := by decide +kernel
theorem dX5_show_2 : decode cX5_show 2 = .ok (.getfield 15, 3) := by decide +kernel
theorem dX5_show_5 : decode cX5_show 5 = .ok (.invokestatic 28, 3) := by decide +kernel
theorem dX5_show_8 : decode cX5_show 8 = .ok (.iconst 0, 1) := by decide +kernel
theorem dX5_show_9 : decode cX5_show 9 = .ok (.istore_n 3, 1) := by decide +kernel
theorem dX5_show_10 : decode cX5_show 10 = .ok (.iload_n 3, 1) := by decide +kernel
theorem dX5_show_11 : decode cX5_show 11 = .ok (.iconst 4, 1) := by decide +kernel
theorem dX5_show_12 : decode cX5_show 12 = .ok (.if_icmp .ge 31, 3) := by decide +kernel
theorem dX5_show_15 : decode cX5_show 15 = .ok (.aload_n 2, 1) := by decide +kernel
theorem dX5_show_16 : decode cX5_show 16 = .ok (.getfield 19, 3) := by decide +kernel
theorem dX5_show_19 : decode cX5_show 19 = .ok (.aload_n 0, 1) := by decide +kernel
theorem dX5_show_20 : decode cX5_show 20 = .ok (.getfield 9, 3) := by decide +kernel
theorem dX5_show_23 : decode cX5_show 23 = .ok (.iload_n 3, 1) := by decide +kernel
theorem dX5_show_24 : decode cX5_show 24 = .ok (.iadd, 1) := by decide +kernel
theorem dX5_show_25 : decode cX5_show 25 = .ok (.aload_n 0, 1) := by decide +kernel
theorem dX5_show_26 : decode cX5_show 26 = .ok (.getfield 9, 3) := by decide +kernel
theorem dX5_show_29 : decode cX5_show 29 = .ok (.aload_n 0, 1) := by decide +kernel
theorem dX5_show_30 : decode cX5_show 30 = .ok (.getfield 15, 3) := by decide +kernel
theorem dX5_show_33 : decode cX5_show 33 = .ok (.iload_n 3, 1) := by decide +kernel
theorem dX5_show_34 : decode cX5_show 34 = .ok (.iaload, 1) := by decide +kernel
theorem dX5_show_35 : decode cX5_show 35 = .ok (.iadd, 1) := by decide +kernel
theorem dX5_show_36 : decode cX5_show 36 = .ok (.iastore, 1) := by decide +kernel
theorem dX5_show_37 : decode cX5_show 37 = .ok (.iinc 3 1, 3) := by decide +kernel
theorem dX5_show_40 : decode cX5_show 40 = .ok (.goto (-30), 3) := by decide +kernel
theorem dX5_show_43 : decode cX5_show 43 = .ok (.return_, 1) := by decide +kernel
set_option maxRecDepth 20000 in
theorem ggX6_init_X2_init : GoodIn wsX6_init wsX2_init := goodIn_r _ [8, 9, 10, 11, 12, 13, 20, 21, 22, 23, 24, 25, 26, 27, 28, 29, 30, 31, 14, 15, 16, 17, 18, 19, 32, 33, 34, 35, 36] (by decide +kernel) (by decide +kernel)
set_option maxRecDepth 20000 in
theorem gX6_init_X2_init : GoodIn wsX6_init (wsX2_init) := ggX6_init_X2_init
theorem dX6_init_0 : decode cX6_init 0 = .ok (.aload_n 0, 1) := by decide +kernel
theorem dX6_init_1 : decode cX6_init 1 = .ok (.iconst 1, 1) := by decide +kernel
theorem dX6_init_2 : decode cX6_init 2 = .ok (.sipush 420, 3) := by decide +kernel
theorem dX6_init_5 : decode cX6_init 5 = .ok (.invokespecial 5, 3) := by decide +kernel
theorem dX6_init_8 : decode cX6_init 8 = .ok (.aload_n 0, 1) := by decide +kernel
theorem dX6_init_9 : decode cX6_init 9 = .ok (.bipush 8, 2) := by decide +kernel
theorem dX6_init_11 : decode cX6_init 11 = .ok (.newarray .int, 2) := by decide +kernel
theorem dX6_init_13 : decode cX6_init 13 = .ok (.putfield 11, 3) := by decide +kernel
theorem dX6_init_16 : decode cX6_init 16 = .ok (.aload_n 0, 1) := by decide +kernel
theorem dX6_init_17 : decode cX6_init 17 = .ok (.bipush 8, 2) := by decide +kernel
theorem dX6_init_19 : decode cX6_init 19 = .ok (.newarray .int, 2) := by decide +kernel
theorem dX6_init_21 : decode cX6_init 21 = .ok (.putfield 17, 3) := by decide +kernel
theorem dX6_init_24 : decode cX6_init 24 = .ok (.aload_n 0, 1) := by decide +kernel
theorem dX6_init_25 : decode cX6_init 25 = .ok (.iconst 4, 1) := by decide +kernel
theorem dX6_init_26 : decode cX6_init 26 = .ok (.newarray .int, 2) := by decide +kernel
theorem dX6_init_28 : decode cX6_init 28 = .ok (.putfield 20, 3) := by decide +kernel
theorem dX6_init_31 : decode cX6_init 31 = .ok (.return_, 1) := by decide +kernel
set_option maxRecDepth 20000 in
theorem ggX6_read_J6_bitCount_0f7a4 : GoodIn wsX6_read wsJ6_bitCount_0f7a4 := goodIn_r _ [8, 9, 10, 11] (by decide +kernel) (by decide +kernel)
set_option maxRecDepth 20000 in
theorem gX6_read_J6_bitCount_0f7a4 : GoodIn wsX6_read (va_wsS RX6 31 yJ6_bitCount_0f7a4 wsJ6_bitCount_0f7a4) := goodIn_app (goodIn_of _ (by decide +kernel)) ggX6_read_J6_bitCount_0f7a4
set_option maxRecDepth 20000 in
theorem ggX6_read_X6_partner : GoodIn wsX6_read wsX6_partner := goodIn_r _ [16, 4, 3, 31, 32, 33, 34, 35, 36] (by decide +kernel) (by decide +kernel)
set_option maxRecDepth 20000 in
theorem gX6_read_X6_partner : GoodIn wsX6_read (wsV RX6 37 RX6 yX6_partner wsX6_partner) := goodIn_app (goodIn_of _ (by decide +kernel)) ggX6_read_X6_partner
set_option maxRecDepth 20000 in
theorem ggX6_read_X4_ofOrder : GoodIn wsX6_read wsX4_ofOrder := goodIn_r _ [20] (by decide +kernel) (by decide +kernel)
set_option maxRecDepth 20000 in
theorem gX6_read_X4_ofOrder : GoodIn wsX6_read (va_wsS RX6 40 yX4_ofOrder wsX4_ofOrder) := goodIn_app (goodIn_of _ (by decide +kernel)) ggX6_read_X4_ofOrder
set_option maxRecDepth 20000 in
theorem ggX6_read_X4_ofSet : GoodIn wsX6_read wsX4_ofSet := goodIn_r _ [23, 24] (by decide +kernel) (by decide +kernel)
set_option maxRecDepth 20000 in
theorem gX6_read_X4_ofSet : GoodIn wsX6_read (va_wsS RX6 44 yX4_ofSet wsX4_ofSet) := goodIn_app (goodIn_of _ (by decide +kernel)) ggX6_read_X4_ofSet
theorem dX6_read_0 : decode cX6_read 0 = .ok (.iconst 0, 1) := by decide +kernel
theorem dX6_read_1 : decode cX6_read 1 = .ok (.istore_n 2, 1) := by decide +kernel
theorem dX6_read_2 : decode cX6_read 2 = .ok (.iconst 0, 1) := by decide +kernel
theorem dX6_read_3 : decode cX6_read 3 = .ok (.istore_n 3, 1) := by decide +kernel
theorem dX6_read_4 : decode cX6_read 4 = .ok (.iconst 0, 1) := by decide +kernel
theorem dX6_read_5 : decode cX6_read 5 = .ok (.istore 4, 2) := by decide +kernel
theorem dX6_read_7 : decode cX6_read 7 = .ok (.iload 4, 2) := by decide +kernel
theorem dX6_read_9 : decode cX6_read 9 = .ok (.bipush 8, 2) := by decide +kernel
theorem dX6_read_11 : decode cX6_read 11 = .ok (.if_icmp .ge 64, 3) := by decide +kernel
theorem dX6_read_14 : decode cX6_read 14 = .ok (.aload_n 1, 1) := by decide +kernel
theorem dX6_read_15 : decode cX6_read 15 = .ok (.getfield 23, 3) := by decide +kernel
theorem dX6_read_18 : decode cX6_read 18 = .ok (.getstatic 28, 3) := by decide +kernel
theorem dX6_read_21 : decode cX6_read 21 = .ok (.iload 4, 2) := by decide +kernel
theorem dX6_read_23 : decode cX6_read 23 = .ok (.iaload, 1) := by decide +kernel
theorem dX6_read_24 : decode cX6_read 24 = .ok (.iaload, 1) := by decide +kernel
theorem dX6_read_25 : decode cX6_read 25 = .ok (.istore 5, 2) := by decide +kernel
theorem dX6_read_27 : decode cX6_read 27 = .ok (.iload 5, 2) := by decide +kernel
theorem dX6_read_29 : decode cX6_read 29 = .ok (.invokestatic 31, 3) := by decide +kernel
theorem dX6_read_32 : decode cX6_read 32 = .ok (.iconst 2, 1) := by decide +kernel
theorem dX6_read_33 : decode cX6_read 33 = .ok (.irem, 1) := by decide +kernel
theorem dX6_read_34 : decode cX6_read 34 = .ok (.ifCond .ne 24, 3) := by decide +kernel
theorem dX6_read_37 : decode cX6_read 37 = .ok (.iload_n 2, 1) := by decide +kernel
theorem dX6_read_38 : decode cX6_read 38 = .ok (.iconst 1, 1) := by decide +kernel
theorem dX6_read_39 : decode cX6_read 39 = .ok (.iload 4, 2) := by decide +kernel
theorem dX6_read_41 : decode cX6_read 41 = .ok (.ishl, 1) := by decide +kernel
theorem dX6_read_42 : decode cX6_read 42 = .ok (.ior, 1) := by decide +kernel
theorem dX6_read_43 : decode cX6_read 43 = .ok (.istore_n 2, 1) := by decide +kernel
theorem dX6_read_44 : decode cX6_read 44 = .ok (.aload_n 0, 1) := by decide +kernel
theorem dX6_read_45 : decode cX6_read 45 = .ok (.getfield 11, 3) := by decide +kernel
theorem dX6_read_48 : decode cX6_read 48 = .ok (.iload_n 3, 1) := by decide +kernel
theorem dX6_read_49 : decode cX6_read 49 = .ok (.iload 5, 2) := by decide +kernel
theorem dX6_read_51 : decode cX6_read 51 = .ok (.iastore, 1) := by decide +kernel
theorem dX6_read_52 : decode cX6_read 52 = .ok (.iinc 3 1, 3) := by decide +kernel
theorem dX6_read_55 : decode cX6_read 55 = .ok (.goto 14, 3) := by decide +kernel
theorem dX6_read_58 : decode cX6_read 58 = .ok (.aload_n 0, 1) := by decide +kernel
theorem dX6_read_59 : decode cX6_read 59 = .ok (.getfield 17, 3) := by decide +kernel
theorem dX6_read_62 : decode cX6_read 62 = .ok (.iload 4, 2) := by decide +kernel
theorem dX6_read_64 : decode cX6_read 64 = .ok (.iload_n 3, 1) := by decide +kernel
theorem dX6_read_65 : decode cX6_read 65 = .ok (.isub, 1) := by decide +kernel
theorem dX6_read_66 : decode cX6_read 66 = .ok (.iload 5, 2) := by decide +kernel
theorem dX6_read_68 : decode cX6_read 68 = .ok (.iastore, 1) := by decide +kernel
theorem dX6_read_69 : decode cX6_read 69 = .ok (.iinc 4 1, 3) := by decide +kernel
theorem dX6_read_72 : decode cX6_read 72 = .ok (.goto (-65), 3) := by decide +kernel
theorem dX6_read_75 : decode cX6_read 75 = .ok (.iconst 0, 1) := by decide +kernel
theorem dX6_read_76 : decode cX6_read 76 = .ok (.aload_n 0, 1) := by decide +kernel
theorem dX6_read_77 : decode cX6_read 77 = .ok (.iconst 1, 1) := by decide +kernel
theorem dX6_read_78 : decode cX6_read 78 = .ok (.invokevirtual 37, 3) := by decide +kernel
theorem dX6_read_81 : decode cX6_read 81 = .ok (.aload_n 0, 1) := by decide +kernel
theorem dX6_read_82 : decode cX6_read 82 = .ok (.iconst 2, 1) := by decide +kernel
theorem dX6_read_83 : decode cX6_read 83 = .ok (.invokevirtual 37, 3) := by decide +kernel
theorem dX6_read_86 : decode cX6_read 86 = .ok (.aload_n 0, 1) := by decide +kernel
theorem dX6_read_87 : decode cX6_read 87 = .ok (.iconst 3, 1) := by decide +kernel
theorem dX6_read_88 : decode cX6_read 88 = .ok (.invokevirtual 37, 3) := by decide +kernel
theorem dX6_read_91 : decode cX6_read 91 = .ok (.invokestatic 40, 3) := by decide +kernel
theorem dX6_read_94 : decode cX6_read 94 = .ok (.istore 4, 2) := by decide +kernel
theorem dX6_read_96 : decode cX6_read 96 = .ok (.iload_n 2, 1) := by decide +kernel
theorem dX6_read_97 : decode cX6_read 97 = .ok (.bipush 8, 2) := by decide +kernel
theorem dX6_read_99 : decode cX6_read 99 = .ok (.invokestatic 44, 3) := by decide +kernel
theorem dX6_read_102 : decode cX6_read 102 = .ok (.bipush 6, 2) := by decide +kernel
theorem dX6_read_104 : decode cX6_read 104 = .ok (.imul, 1) := by decide +kernel
theorem dX6_read_105 : decode cX6_read 105 = .ok (.iload 4, 2) := by decide +kernel
theorem dX6_read_107 : decode cX6_read 107 = .ok (.iadd, 1) := by decide +kernel
theorem dX6_read_108 : decode cX6_read 108 = .ok (.ireturn, 1) := by decide +kernel
theorem dX6_partner_0 : decode cX6_partner 0 = .ok (.aload_n 0, 1) := by decide +kernel
theorem dX6_partner_1 : decode cX6_partner 1 = .ok (.getfield 17, 3) := by decide +kernel
theorem dX6_partner_4 : decode cX6_partner 4 = .ok (.iconst 0, 1) := by decide +kernel
theorem dX6_partner_5 : decode cX6_partner 5 = .ok (.iaload, 1) := by decide +kernel
theorem dX6_partner_6 : decode cX6_partner 6 = .ok (.aload_n 0, 1) := by decide +kernel
theorem dX6_partner_7 : decode cX6_partner 7 = .ok (.getfield 17, 3) := by decide +kernel
theorem dX6_partner_10 : decode cX6_partner 10 = .ok (.iload_n 1, 1) := by decide +kernel
theorem dX6_partner_11 : decode cX6_partner 11 = .ok (.iaload, 1) := by decide +kernel
theorem dX6_partner_12 : decode cX6_partner 12 = .ok (.ixor, 1) := by decide +kernel
theorem dX6_partner_13 : decode cX6_partner 13 = .ok (.istore_n 2, 1) := by decide +kernel
theorem dX6_partner_14 : decode cX6_partner 14 = .ok (.aload_n 0, 1) := by decide +kernel
theorem dX6_partner_15 : decode cX6_partner 15 = .ok (.getfield 11, 3) := by decide +kernel
theorem dX6_partner_18 : decode cX6_partner 18 = .ok (.iconst 0, 1) := by decide +kernel
theorem dX6_partner_19 : decode cX6_partner 19 = .ok (.iaload, 1) := by decide +kernel
theorem dX6_partner_20 : decode cX6_partner 20 = .ok (.aload_n 0, 1) := by decide +kernel
theorem dX6_partner_21 : decode cX6_partner 21 = .ok (.getfield 11, 3) := by decide +kernel
theorem dX6_partner_24 : decode cX6_partner 24 = .ok (.iconst 1, 1) := by decide +kernel
theorem dX6_partner_25 : decode cX6_partner 25 = .ok (.iaload, 1) := by decide +kernel
theorem dX6_partner_26 : decode cX6_partner 26 = .ok (.ixor, 1) := by decide +kernel
theorem dX6_partner_27 : decode cX6_partner 27 = .ok (.iload_n 2, 1) := by decide +kernel
theorem dX6_partner_28 : decode cX6_partner 28 = .ok (.if_icmp .ne 7, 3) := by decide +kernel
theorem dX6_partner_31 : decode cX6_partner 31 = .ok (.iconst 1, 1) := by decide +kernel
theorem dX6_partner_32 : decode cX6_partner 32 = .ok (.goto 25, 3) := by decide +kernel
theorem dX6_partner_35 : decode cX6_partner 35 = .ok (.aload_n 0, 1) := by decide +kernel
theorem dX6_partner_36 : decode cX6_partner 36 = .ok (.getfield 11, 3) := by decide +kernel
theorem dX6_partner_39 : decode cX6_partner 39 = .ok (.iconst 0, 1) := by decide +kernel
theorem dX6_partner_40 : decode cX6_partner 40 = .ok (.iaload, 1) := by decide +kernel
theorem dX6_partner_41 : decode cX6_partner 41 = .ok (.aload_n 0, 1) := by decide +kernel
theorem dX6_partner_42 : decode cX6_partner 42 = .ok (.getfield 11, 3) := by decide +kernel
theorem dX6_partner_45 : decode cX6_partner 45 = .ok (.iconst 2, 1) := by decide +kernel
theorem dX6_partner_46 : decode cX6_partner 46 = .ok (.iaload, 1) := by decide +kernel
theorem dX6_partner_47 : decode cX6_partner 47 = .ok (.ixor, 1) := by decide +kernel
theorem dX6_partner_48 : decode cX6_partner 48 = .ok (.iload_n 2, 1) := by decide +kernel
theorem dX6_partner_49 : decode cX6_partner 49 = .ok (.if_icmp .ne 7, 3) := by decide +kernel
theorem dX6_partner_52 : decode cX6_partner 52 = .ok (.iconst 2, 1) := by decide +kernel
theorem dX6_partner_53 : decode cX6_partner 53 = .ok (.goto 4, 3) := by decide +kernel
theorem dX6_partner_56 : decode cX6_partner 56 = .ok (.iconst 3, 1) := by decide +kernel
theorem dX6_partner_57 : decode cX6_partner 57 = .ok (.ireturn, 1) := by decide +kernel
set_option maxRecDepth 20000 in
theorem ggX6_show_X4_toSet : GoodIn wsX6_show wsX4_toSet := goodIn_r _ [8, 9] (by decide +kernel) (by decide +kernel)
set_option maxRecDepth 20000 in
theorem gX6_show_X4_toSet : GoodIn wsX6_show (va_wsS RX6 48 yX4_toSet wsX4_toSet) := goodIn_app (goodIn_of _ (by decide +kernel)) ggX6_show_X4_toSet
set_option maxRecDepth 20000 in
theorem ggX6_show_X4_toOrder : GoodIn wsX6_show wsX4_toOrder := goodIn_r _ [12] (by decide +kernel) (by decide +kernel)
set_option maxRecDepth 20000 in
theorem gX6_show_X4_toOrder : GoodIn wsX6_show (va_wsS RX6 51 yX4_toOrder wsX4_toOrder) := goodIn_app (goodIn_of _ (by decide +kernel)) ggX6_show_X4_toOrder
theorem dX6_show_0 : decode cX6_show 0 = .ok (.iload_n 1, 1) := by decide +kernel
theorem dX6_show_1 : decode cX6_show 1 = .ok (.bipush 6, 2) := by decide +kernel
theorem dX6_show_3 : decode cX6_show 3 = .ok (.idiv, 1) := by decide +kernel
theorem dX6_show_4 : decode cX6_show 4 = .ok (.bipush 8, 2) := by decide +kernel
theorem dX6_show_6 : decode cX6_show 6 = .ok (.invokestatic 48, 3) := by decide +kernel
theorem dX6_show_9 : decode cX6_show 9 = .ok (.istore_n 3, 1) := by decide +kernel
theorem dX6_show_10 : decode cX6_show 10 = .ok (.iload_n 1, 1) := by decide +kernel
theorem dX6_show_11 : decode cX6_show 11 = .ok (.bipush 6, 2) := by decide +kernel
theorem dX6_show_13 : decode cX6_show 13 = .ok (.irem, 1) := by decide +kernel
theorem dX6_show_14 : decode cX6_show 14 = .ok (.aload_n 0, 1) := by decide +kernel
theorem dX6_show_15 : decode cX6_show 15 = .ok (.getfield 20, 3) := by decide +kernel
theorem dX6_show_18 : decode cX6_show 18 = .ok (.invokestatic 51, 3) := by decide +kernel
theorem dX6_show_21 : decode cX6_show 21 = .ok (.iconst 0, 1) := by decide +kernel
theorem dX6_show_22 : decode cX6_show 22 = .ok (.istore 4, 2) := by decide +kernel
theorem dX6_show_24 : decode cX6_show 24 = .ok (.iconst 0, 1) := by decide +kernel
theorem dX6_show_25 : decode cX6_show 25 = .ok (.istore 5, 2) := by decide +kernel
theorem dX6_show_27 : decode cX6_show 27 = .ok (.iload 5, 2) := by decide +kernel
theorem dX6_show_29 : decode cX6_show 29 = .ok (.bipush 8, 2) := by decide +kernel
theorem dX6_show_31 : decode cX6_show 31 = .ok (.if_icmp .ge 72, 3) := by decide +kernel
theorem dX6_show_34 : decode cX6_show 34 = .ok (.iload_n 3, 1) := by decide +kernel
theorem dX6_show_35 : decode cX6_show 35 = .ok (.iload 5, 2) := by decide +kernel
theorem dX6_show_37 : decode cX6_show 37 = .ok (.ishr, 1) := by decide +kernel
theorem dX6_show_38 : decode cX6_show 38 = .ok (.iconst 1, 1) := by decide +kernel
theorem dX6_show_39 : decode cX6_show 39 = .ok (.iand, 1) := by decide +kernel
theorem dX6_show_40 : decode cX6_show 40 = .ok (.ifCond .eq 28, 3) := by decide +kernel
theorem dX6_show_43 : decode cX6_show 43 = .ok (.aload_n 2, 1) := by decide +kernel
theorem dX6_show_44 : decode cX6_show 44 = .ok (.getfield 23, 3) := by decide +kernel
theorem dX6_show_47 : decode cX6_show 47 = .ok (.getstatic 28, 3) := by decide +kernel
theorem dX6_show_50 : decode cX6_show 50 = .ok (.iload 5, 2) := by decide +kernel
theorem dX6_show_52 : decode cX6_show 52 = .ok (.iaload, 1) := by decide +kernel
theorem dX6_show_53 : decode cX6_show 53 = .ok (.getstatic 55, 3) := by decide +kernel
theorem dX6_show_56 : decode cX6_show 56 = .ok (.iload 4, 2) := by decide +kernel
theorem dX6_show_58 : decode cX6_show 58 = .ok (.iconst 3, 1) := by decide +kernel
theorem dX6_show_59 : decode cX6_show 59 = .ok (.iand, 1) := by decide +kernel
theorem dX6_show_60 : decode cX6_show 60 = .ok (.iaload, 1) := by decide +kernel
theorem dX6_show_61 : decode cX6_show 61 = .ok (.iastore, 1) := by decide +kernel
theorem dX6_show_62 : decode cX6_show 62 = .ok (.iinc 4 1, 3) := by decide +kernel
theorem dX6_show_65 : decode cX6_show 65 = .ok (.goto 32, 3) := by decide +kernel
theorem dX6_show_68 : decode cX6_show 68 = .ok (.aload_n 2, 1) := by decide +kernel
theorem dX6_show_69 : decode cX6_show 69 = .ok (.getfield 23, 3) := by decide +kernel
theorem dX6_show_72 : decode cX6_show 72 = .ok (.getstatic 28, 3) := by decide +kernel
theorem dX6_show_75 : decode cX6_show 75 = .ok (.iload 5, 2) := by decide +kernel
theorem dX6_show_77 : decode cX6_show 77 = .ok (.iaload, 1) := by decide +kernel
theorem dX6_show_78 : decode cX6_show 78 = .ok (.getstatic 55, 3) := by decide +kernel
theorem dX6_show_81 : decode cX6_show 81 = .ok (.aload_n 0, 1) := by decide +kernel
theorem dX6_show_82 : decode cX6_show 82 = .ok (.getfield 20, 3) := by decide +kernel
theorem dX6_show_85 : decode cX6_show 85 = .ok (.iload 5, 2) := by decide +kernel
theorem dX6_show_87 : decode cX6_show 87 = .ok (.iload 4, 2) := by decide +kernel
theorem dX6_show_89 : decode cX6_show 89 = .ok (.isub, 1) := by decide +kernel
theorem dX6_show_90 : decode cX6_show 90 = .ok (.iconst 3, 1) := by decide +kernel
theorem dX6_show_91 : decode cX6_show 91 = .ok (.iand, 1) := by decide +kernel
theorem dX6_show_92 : decode cX6_show 92 = .ok (.iaload, 1) := by decide +kernel
theorem dX6_show_93 : decode cX6_show 93 = .ok (.iaload, 1) := by decide +kernel
theorem dX6_show_94 : decode cX6_show 94 = .ok (.iconst 1, 1) := by decide +kernel
theorem dX6_show_95 : decode cX6_show 95 = .ok (.ixor, 1) := by decide +kernel
theorem dX6_show_96 : decode cX6_show 96 = .ok (.iastore, 1) := by decide +kernel
theorem dX6_show_97 : decode cX6_show 97 = .ok (.iinc 5 1, 3) := by decide +kernel
theorem dX6_show_100 : decode cX6_show 100 = .ok (.goto (-73), 3) := by decide +kernel
theorem dX6_show_103 : decode cX6_show 103 = .ok (.return_, 1) := by decide +kernel
set_option maxRecDepth 20000 in
theorem ggX7_init_X7_reset : GoodIn wsX7_init wsX7_reset := goodIn_r _ [19, 4, 13, 14, 20, 21, 22, 23, 24, 25] (by decide +kernel) (by decide +kernel)
set_option maxRecDepth 20000 in
theorem gX7_init_X7_reset : GoodIn wsX7_init (wsV RX7 43 RX7 yX7_reset wsX7_reset) := goodIn_app (goodIn_of _ (by decide +kernel)) ggX7_init_X7_reset
theorem dX7_init_0 : decode cX7_init 0 = .ok (.aload_n 0, 1) := by decide +kernel
theorem dX7_init_1 : decode cX7_init 1 = .ok (.invokespecial 3, 3) := by decide +kernel
theorem dX7_init_4 : decode cX7_init 4 = .ok (.aload_n 0, 1) := by decide +kernel
theorem dX7_init_5 : decode cX7_init 5 = .ok (.iload_n 1, 1) := by decide +kernel
theorem dX7_init_6 : decode cX7_init 6 = .ok (.ifCond .eq 8, 3) := by decide +kernel
theorem dX7_init_9 : decode cX7_init 9 = .ok (.bipush 8, 2) := by decide +kernel
theorem dX7_init_11 : decode cX7_init 11 = .ok (.goto 5, 3) := by decide +kernel
theorem dX7_init_14 : decode cX7_init 14 = .ok (.bipush 12, 2) := by decide +kernel
theorem dX7_init_16 : decode cX7_init 16 = .ok (.putfield 9, 3) := by decide +kernel
theorem dX7_init_19 : decode cX7_init 19 = .ok (.aload_n 0, 1) := by decide +kernel
theorem dX7_init_20 : decode cX7_init 20 = .ok (.iload_n 1, 1) := by decide +kernel
theorem dX7_init_21 : decode cX7_init 21 = .ok (.ifCond .eq 7, 3) := by decide +kernel
theorem dX7_init_24 : decode cX7_init 24 = .ok (.iconst 3, 1) := by decide +kernel
theorem dX7_init_25 : decode cX7_init 25 = .ok (.goto 4, 3) := by decide +kernel
theorem dX7_init_28 : decode cX7_init 28 = .ok (.iconst 2, 1) := by decide +kernel
theorem dX7_init_29 : decode cX7_init 29 = .ok (.putfield 15, 3) := by decide +kernel
theorem dX7_init_32 : decode cX7_init 32 = .ok (.aload_n 0, 1) := by decide +kernel
theorem dX7_init_33 : decode cX7_init 33 = .ok (.iload_n 1, 1) := by decide +kernel
theorem dX7_init_34 : decode cX7_init 34 = .ok (.ifCond .eq 9, 3) := by decide +kernel
theorem dX7_init_37 : decode cX7_init 37 = .ok (.getstatic 18, 3) := by decide +kernel
theorem dX7_init_40 : decode cX7_init 40 = .ok (.goto 6, 3) := by decide +kernel
theorem dX7_init_43 : decode cX7_init 43 = .ok (.getstatic 22, 3) := by decide +kernel
theorem dX7_init_46 : decode cX7_init 46 = .ok (.putfield 25, 3) := by decide +kernel
theorem dX7_init_49 : decode cX7_init 49 = .ok (.aload_n 0, 1) := by decide +kernel
theorem dX7_init_50 : decode cX7_init 50 = .ok (.iload_n 1, 1) := by decide +kernel
theorem dX7_init_51 : decode cX7_init 51 = .ok (.ifCond .eq 9, 3) := by decide +kernel
theorem dX7_init_54 : decode cX7_init 54 = .ok (.getstatic 28, 3) := by decide +kernel
theorem dX7_init_57 : decode cX7_init 57 = .ok (.goto 6, 3) := by decide +kernel
theorem dX7_init_60 : decode cX7_init 60 = .ok (.getstatic 31, 3) := by decide +kernel
theorem dX7_init_63 : decode cX7_init 63 = .ok (.putfield 34, 3) := by decide +kernel
theorem dX7_init_66 : decode cX7_init 66 = .ok (.aload_n 0, 1) := by decide +kernel
theorem dX7_init_67 : decode cX7_init 67 = .ok (.aload_n 0, 1) := by decide +kernel
theorem dX7_init_68 : decode cX7_init 68 = .ok (.getfield 9, 3) := by decide +kernel
theorem dX7_init_71 : decode cX7_init 71 = .ok (.newarray .int, 2) := by decide +kernel
theorem dX7_init_73 : decode cX7_init 73 = .ok (.putfield 37, 3) := by decide +kernel
theorem dX7_init_76 : decode cX7_init 76 = .ok (.aload_n 0, 1) := by decide +kernel
theorem dX7_init_77 : decode cX7_init 77 = .ok (.aload_n 0, 1) := by decide +kernel
theorem dX7_init_78 : decode cX7_init 78 = .ok (.getfield 9, 3) := by decide +kernel
theorem dX7_init_81 : decode cX7_init 81 = .ok (.newarray .int, 2) := by decide +kernel
theorem dX7_init_83 : decode cX7_init 83 = .ok (.putfield 40, 3) := by decide +kernel
theorem dX7_init_86 : decode cX7_init 86 = .ok (.aload_n 0, 1) := by decide +kernel
theorem dX7_init_87 : decode cX7_init 87 = .ok (.invokevirtual 43, 3) := by decide +kernel
theorem dX7_init_90 : decode cX7_init 90 = .ok (.return_, 1) := by decide +kernel
theorem dX7_reset_0 : decode cX7_reset 0 = .ok (.iconst 0, 1) := by decide +kernel
theorem dX7_reset_1 : decode cX7_reset 1 = .ok (.istore_n 1, 1) := by decide +kernel
theorem dX7_reset_2 : decode cX7_reset 2 = .ok (.iload_n 1, 1) := by decide +kernel
theorem dX7_reset_3 : decode cX7_reset 3 = .ok (.aload_n 0, 1) := by decide +kernel
theorem dX7_reset_4 : decode cX7_reset 4 = .ok (.getfield 9, 3) := by decide +kernel
theorem dX7_reset_7 : decode cX7_reset 7 = .ok (.if_icmp .ge 23, 3) := by decide +kernel
theorem dX7_reset_10 : decode cX7_reset 10 = .ok (.aload_n 0, 1) := by decide +kernel
theorem dX7_reset_11 : decode cX7_reset 11 = .ok (.getfield 37, 3) := by decide +kernel
theorem dX7_reset_14 : decode cX7_reset 14 = .ok (.iload_n 1, 1) := by decide +kernel
theorem dX7_reset_15 : decode cX7_reset 15 = .ok (.iload_n 1, 1) := by decide +kernel
theorem dX7_reset_16 : decode cX7_reset 16 = .ok (.iastore, 1) := by decide +kernel
theorem dX7_reset_17 : decode cX7_reset 17 = .ok (.aload_n 0, 1) := by decide +kernel
theorem dX7_reset_18 : decode cX7_reset 18 = .ok (.getfield 40, 3) := by decide +kernel
theorem dX7_reset_21 : decode cX7_reset 21 = .ok (.iload_n 1, 1) := by decide +kernel
theorem dX7_reset_22 : decode cX7_reset 22 = .ok (.iconst 0, 1) := by decide +kernel
theorem dX7_reset_23 : decode cX7_reset 23 = .ok (.iastore, 1) := by decide +kernel
theorem dX7_reset_24 : decode cX7_reset 24 = .ok (.iinc 1 1, 3) := by decide +kernel
theorem dX7_reset_27 : decode cX7_reset 27 = .ok (.goto (-25), 3) := by decide +kernel
theorem dX7_reset_30 : decode cX7_reset 30 = .ok (.return_, 1) := by decide +kernel
theorem dX7_copyFrom_0 : decode cX7_copyFrom 0 = .ok (.iconst 0, 1) := by decide +kernel
theorem dX7_copyFrom_1 : decode cX7_copyFrom 1 = .ok (.istore_n 2, 1) := by decide +kernel
theorem dX7_copyFrom_2 : decode cX7_copyFrom 2 = .ok (.iload_n 2, 1) := by decide +kernel
theorem dX7_copyFrom_3 : decode cX7_copyFrom 3 = .ok (.aload_n 0, 1) := by decide +kernel
theorem dX7_copyFrom_4 : decode cX7_copyFrom 4 = .ok (.getfield 9, 3) := by decide +kernel
theorem dX7_copyFrom_7 : decode cX7_copyFrom 7 = .ok (.if_icmp .ge 41, 3) := by decide +kernel
theorem dX7_copyFrom_10 : decode cX7_copyFrom 10 = .ok (.iload_n 2, 1) := by decide +kernel
theorem dX7_copyFrom_11 : decode cX7_copyFrom 11 = .ok (.aload_n 1, 1) := by decide +kernel
theorem dX7_copyFrom_12 : decode cX7_copyFrom 12 = .ok (.getfield 9, 3) := by decide +kernel
theorem dX7_copyFrom_15 : decode cX7_copyFrom 15 = .ok (.if_icmp .ge 33, 3) := by decide +kernel
theorem dX7_copyFrom_18 : decode cX7_copyFrom 18 = .ok (.aload_n 0, 1) := by decide +kernel
theorem dX7_copyFrom_19 : decode cX7_copyFrom 19 = .ok (.getfield 37, 3) := by decide +kernel
theorem dX7_copyFrom_22 : decode cX7_copyFrom 22 = .ok (.iload_n 2, 1) := by decide +kernel
theorem dX7_copyFrom_23 : decode cX7_copyFrom 23 = .ok (.aload_n 1, 1) := by decide +kernel
theorem dX7_copyFrom_24 : decode cX7_copyFrom 24 = .ok (.getfield 37, 3) := by decide +kernel
theorem dX7_copyFrom_27 : decode cX7_copyFrom 27 = .ok (.iload_n 2, 1) := by decide +kernel
theorem dX7_copyFrom_28 : decode cX7_copyFrom 28 = .ok (.iaload, 1) := by decide +kernel
theorem dX7_copyFrom_29 : decode cX7_copyFrom 29 = .ok (.iastore, 1) := by decide +kernel
theorem dX7_copyFrom_30 : decode cX7_copyFrom 30 = .ok (.aload_n 0, 1) := by decide +kernel
theorem dX7_copyFrom_31 : decode cX7_copyFrom 31 = .ok (.getfield 40, 3) := by decide +kernel
theorem dX7_copyFrom_34 : decode cX7_copyFrom 34 = .ok (.iload_n 2, 1) := by decide +kernel
theorem dX7_copyFrom_35 : decode cX7_copyFrom 35 = .ok (.aload_n 1, 1) := by decide +kernel
theorem dX7_copyFrom_36 : decode cX7_copyFrom 36 = .ok (.getfield 40, 3) := by decide +kernel
theorem dX7_copyFrom_39 : decode cX7_copyFrom 39 = .ok (.iload_n 2, 1) := by decide +kernel
theorem dX7_copyFrom_40 : decode cX7_copyFrom 40 = .ok (.iaload, 1) := by decide +kernel
theorem dX7_copyFrom_41 : decode cX7_copyFrom 41 = .ok (.iastore, 1) := by decide +kernel
theorem dX7_copyFrom_42 : decode cX7_copyFrom 42 = .ok (.iinc 2 1, 3) := by decide +kernel
theorem dX7_copyFrom_45 : decode cX7_copyFrom 45 = .ok (.goto (-43), 3) := by decide +kernel
theorem dX7_copyFrom_48 : decode cX7_copyFrom 48 = .ok (.return_, 1) := by decide +kernel
set_option maxRecDepth 20000 in
theorem ggX7_put_X7_isNumber : GoodIn wsX7_put wsX7_isNumber := goodIn_r _ [8] (by decide +kernel) (by decide +kernel)
set_option maxRecDepth 20000 in
theorem gX7_put_X7_isNumber : GoodIn wsX7_put (va_wsS RX7 46 yX7_isNumber wsX7_isNumber) := goodIn_app (goodIn_of _ (by decide +kernel)) ggX7_put_X7_isNumber
theorem dX7_put_0 : decode cX7_put 0 = .ok (.iload_n 1, 1) := by decide +kernel
theorem dX7_put_1 : decode cX7_put 1 = .ok (.aload_n 0, 1) := by decide +kernel
theorem dX7_put_2 : decode cX7_put 2 = .ok (.getfield 9, 3) := by decide +kernel
theorem dX7_put_5 : decode cX7_put 5 = .ok (.invokestatic 46, 3) := by decide +kernel
theorem dX7_put_8 : decode cX7_put 8 = .ok (.ifCond .eq 25, 3) := by decide +kernel
theorem dX7_put_11 : decode cX7_put 11 = .ok (.iload_n 2, 1) := by decide +kernel
theorem dX7_put_12 : decode cX7_put 12 = .ok (.aload_n 0, 1) := by decide +kernel
theorem dX7_put_13 : decode cX7_put 13 = .ok (.getfield 9, 3) := by decide +kernel
theorem dX7_put_16 : decode cX7_put 16 = .ok (.invokestatic 46, 3) := by decide +kernel
theorem dX7_put_19 : decode cX7_put 19 = .ok (.ifCond .eq 14, 3) := by decide +kernel
theorem dX7_put_22 : decode cX7_put 22 = .ok (.iload_n 3, 1) := by decide +kernel
theorem dX7_put_23 : decode cX7_put 23 = .ok (.aload_n 0, 1) := by decide +kernel
theorem dX7_put_24 : decode cX7_put 24 = .ok (.getfield 15, 3) := by decide +kernel
theorem dX7_put_27 : decode cX7_put 27 = .ok (.invokestatic 46, 3) := by decide +kernel
theorem dX7_put_30 : decode cX7_put 30 = .ok (.ifCond .ne 5, 3) := by decide +kernel
theorem dX7_put_33 : decode cX7_put 33 = .ok (.iconst 0, 1) := by decide +kernel
theorem dX7_put_34 : decode cX7_put 34 = .ok (.ireturn, 1) := by decide +kernel
theorem dX7_put_35 : decode cX7_put 35 = .ok (.aload_n 0, 1) := by decide +kernel
theorem dX7_put_36 : decode cX7_put 36 = .ok (.getfield 37, 3) := by decide +kernel
theorem dX7_put_39 : decode cX7_put 39 = .ok (.iload_n 1, 1) := by decide +kernel
theorem dX7_put_40 : decode cX7_put 40 = .ok (.iload_n 2, 1) := by decide +kernel
theorem dX7_put_41 : decode cX7_put 41 = .ok (.iastore, 1) := by decide +kernel
theorem dX7_put_42 : decode cX7_put 42 = .ok (.aload_n 0, 1) := by decide +kernel
theorem dX7_put_43 : decode cX7_put 43 = .ok (.getfield 40, 3) := by decide +kernel
theorem dX7_put_46 : decode cX7_put 46 = .ok (.iload_n 1, 1) := by decide +kernel
theorem dX7_put_47 : decode cX7_put 47 = .ok (.iload_n 3, 1) := by decide +kernel
theorem dX7_put_48 : decode cX7_put 48 = .ok (.iastore, 1) := by decide +kernel
theorem dX7_put_49 : decode cX7_put 49 = .ok (.iconst 1, 1) := by decide +kernel
theorem dX7_put_50 : decode cX7_put 50 = .ok (.ireturn, 1) := by decide +kernel
set_option maxRecDepth 20000 in
theorem ggX7_describe_X7_isNumber : GoodIn wsX7_describe wsX7_isNumber := goodIn_r _ [8] (by decide +kernel) (by decide +kernel)
set_option maxRecDepth 20000 in
theorem gX7_describe_X7_isNumber : GoodIn wsX7_describe (va_wsS RX7 46 yX7_isNumber wsX7_isNumber) := goodIn_app (goodIn_of _ (by decide +kernel)) ggX7_describe_X7_isNumber
theorem dX7_describe_0 : decode cX7_describe 0 = .ok (.iload_n 1, 1) := by decide +kernel
theorem dX7_describe_1 : decode cX7_describe 1 = .ok (.aload_n 0, 1) := by decide +kernel
theorem dX7_describe_2 : decode cX7_describe 2 = .ok (.getfield 9, 3) := by decide +kernel
theorem dX7_describe_5 : decode cX7_describe 5 = .ok (.invokestatic 46, 3) := by decide +kernel
theorem dX7_describe_8 : decode cX7_describe 8 = .ok (.ifCond .eq 24, 3) := by decide +kernel
theorem dX7_describe_11 : decode cX7_describe 11 = .ok (.aload_n 0, 1) := by decide +kernel
theorem dX7_describe_12 : decode cX7_describe 12 = .ok (.getfield 15, 3) := by decide +kernel
theorem dX7_describe_15 : decode cX7_describe 15 = .ok (.aload_n 0, 1) := by decide +kernel
theorem dX7_describe_16 : decode cX7_describe 16 = .ok (.getfield 37, 3) := by decide +kernel
theorem dX7_describe_19 : decode cX7_describe 19 = .ok (.iload_n 1, 1) := by decide +kernel
theorem dX7_describe_20 : decode cX7_describe 20 = .ok (.iaload, 1) := by decide +kernel
theorem dX7_describe_21 : decode cX7_describe 21 = .ok (.imul, 1) := by decide +kernel
theorem dX7_describe_22 : decode cX7_describe 22 = .ok (.aload_n 0, 1) := by decide +kernel
theorem dX7_describe_23 : decode cX7_describe 23 = .ok (.getfield 40, 3) := by decide +kernel
theorem dX7_describe_26 : decode cX7_describe 26 = .ok (.iload_n 1, 1) := by decide +kernel
theorem dX7_describe_27 : decode cX7_describe 27 = .ok (.iaload, 1) := by decide +kernel
theorem dX7_describe_28 : decode cX7_describe 28 = .ok (.iadd, 1) := by decide +kernel
theorem dX7_describe_29 : decode cX7_describe 29 = .ok (.goto 4, 3) := by decide +kernel
theorem dX7_describe_32 : decode cX7_describe 32 = .ok (.iconst (-1), 1) := by decide +kernel
theorem dX7_describe_33 : decode cX7_describe 33 = .ok (.ireturn, 1) := by decide +kernel
theorem dX7_isNumber_0 : decode cX7_isNumber 0 = .ok (.iload_n 0, 1) := by decide +kernel
theorem dX7_isNumber_1 : decode cX7_isNumber 1 = .ok (.ifCond .lt 12, 3) := by decide +kernel
theorem dX7_isNumber_4 : decode cX7_isNumber 4 = .ok (.iload_n 0, 1) := by decide +kernel
theorem dX7_isNumber_5 : decode cX7_isNumber 5 = .ok (.iload_n 1, 1) := by decide +kernel
theorem dX7_isNumber_6 : decode cX7_isNumber 6 = .ok (.if_icmp .ge 7, 3) := by decide +kernel
theorem dX7_isNumber_9 : decode cX7_isNumber 9 = .ok (.iconst 1, 1) := by decide +kernel
theorem dX7_isNumber_10 : decode cX7_isNumber 10 = .ok (.goto 4, 3) := by decide +kernel
theorem dX7_isNumber_13 : decode cX7_isNumber 13 = .ok (.iconst 0, 1) := by decide +kernel
theorem dX7_isNumber_14 : decode cX7_isNumber 14 = .ok (.ireturn, 1) := by decide +kernel
theorem dX7_quarter_0 : decode cX7_quarter 0 = .ok (.iconst 4, 1) := by decide +kernel
theorem dX7_quarter_1 : decode cX7_quarter 1 = .ok (.iload_n 1, 1) := by decide +kernel
theorem dX7_quarter_2 : decode cX7_quarter 2 = .ok (.imul, 1) := by decide +kernel
theorem dX7_quarter_3 : decode cX7_quarter 3 = .ok (.istore_n 2, 1) := by decide +kernel
theorem dX7_quarter_4 : decode cX7_quarter 4 = .ok (.iload_n 2, 1) := by decide +kernel
theorem dX7_quarter_5 : decode cX7_quarter 5 = .ok (.iconst 3, 1) := by decide +kernel
theorem dX7_quarter_6 : decode cX7_quarter 6 = .ok (.iadd, 1) := by decide +kernel
theorem dX7_quarter_7 : decode cX7_quarter 7 = .ok (.istore_n 3, 1) := by decide +kernel
theorem dX7_quarter_8 : decode cX7_quarter 8 = .ok (.aload_n 0, 1) := by decide +kernel
theorem dX7_quarter_9 : decode cX7_quarter 9 = .ok (.getfield 37, 3) := by decide +kernel
theorem dX7_quarter_12 : decode cX7_quarter 12 = .ok (.aload_n 0, 1) := by decide +kernel
theorem dX7_quarter_13 : decode cX7_quarter 13 = .ok (.getfield 25, 3) := by decide +kernel
theorem dX7_quarter_16 : decode cX7_quarter 16 = .ok (.iload_n 3, 1) := by decide +kernel
theorem dX7_quarter_17 : decode cX7_quarter 17 = .ok (.iaload, 1) := by decide +kernel
theorem dX7_quarter_18 : decode cX7_quarter 18 = .ok (.iaload, 1) := by decide +kernel
theorem dX7_quarter_19 : decode cX7_quarter 19 = .ok (.istore 4, 2) := by decide +kernel
theorem dX7_quarter_21 : decode cX7_quarter 21 = .ok (.aload_n 0, 1) := by decide +kernel
theorem dX7_quarter_22 : decode cX7_quarter 22 = .ok (.getfield 40, 3) := by decide +kernel
theorem dX7_quarter_25 : decode cX7_quarter 25 = .ok (.aload_n 0, 1) := by decide +kernel
theorem dX7_quarter_26 : decode cX7_quarter 26 = .ok (.getfield 25, 3) := by decide +kernel
theorem dX7_quarter_29 : decode cX7_quarter 29 = .ok (.iload_n 3, 1) := by decide +kernel
theorem dX7_quarter_30 : decode cX7_quarter 30 = .ok (.iaload, 1) := by decide +kernel
theorem dX7_quarter_31 : decode cX7_quarter 31 = .ok (.iaload, 1) := by decide +kernel
theorem dX7_quarter_32 : decode cX7_quarter 32 = .ok (.istore 5, 2) := by decide +kernel
theorem dX7_quarter_34 : decode cX7_quarter 34 = .ok (.iload_n 3, 1) := by decide +kernel
theorem dX7_quarter_35 : decode cX7_quarter 35 = .ok (.istore 6, 2) := by decide +kernel
theorem dX7_quarter_37 : decode cX7_quarter 37 = .ok (.iload 6, 2) := by decide +kernel
theorem dX7_quarter_39 : decode cX7_quarter 39 = .ok (.iload_n 2, 1) := by decide +kernel
theorem dX7_quarter_40 : decode cX7_quarter 40 = .ok (.if_icmp .le 76, 3) := by decide +kernel
theorem dX7_quarter_43 : decode cX7_quarter 43 = .ok (.aload_n 0, 1) := by decide +kernel
theorem dX7_quarter_44 : decode cX7_quarter 44 = .ok (.getfield 37, 3) := by decide +kernel
theorem dX7_quarter_47 : decode cX7_quarter 47 = .ok (.aload_n 0, 1) := by decide +kernel
theorem dX7_quarter_48 : decode cX7_quarter 48 = .ok (.getfield 25, 3) := by decide +kernel
theorem dX7_quarter_51 : decode cX7_quarter 51 = .ok (.iload 6, 2) := by decide +kernel
theorem dX7_quarter_53 : decode cX7_quarter 53 = .ok (.iaload, 1) := by decide +kernel
theorem dX7_quarter_54 : decode cX7_quarter 54 = .ok (.aload_n 0, 1) := by decide +kernel
theorem dX7_quarter_55 : decode cX7_quarter 55 = .ok (.getfield 37, 3) := by decide +kernel
theorem dX7_quarter_58 : decode cX7_quarter 58 = .ok (.aload_n 0, 1) := by decide +kernel
theorem dX7_quarter_59 : decode cX7_quarter 59 = .ok (.getfield 25, 3) := by decide +kernel
theorem dX7_quarter_62 : decode cX7_quarter 62 = .ok (.iload 6, 2) := by decide +kernel
theorem dX7_quarter_64 : decode cX7_quarter 64 = .ok (.iconst 1, 1) := by decide +kernel
theorem dX7_quarter_65 : decode cX7_quarter 65 = .ok (.isub, 1) := by decide +kernel
theorem dX7_quarter_66 : decode cX7_quarter 66 = .ok (.iaload, 1) := by decide +kernel
theorem dX7_quarter_67 : decode cX7_quarter 67 = .ok (.iaload, 1) := by decide +kernel
theorem dX7_quarter_68 : decode cX7_quarter 68 = .ok (.iastore, 1) := by decide +kernel
theorem dX7_quarter_69 : decode cX7_quarter 69 = .ok (.aload_n 0, 1) := by decide +kernel
theorem dX7_quarter_70 : decode cX7_quarter 70 = .ok (.getfield 40, 3) := by decide +kernel
theorem dX7_quarter_73 : decode cX7_quarter 73 = .ok (.aload_n 0, 1) := by decide +kernel
theorem dX7_quarter_74 : decode cX7_quarter 74 = .ok (.getfield 25, 3) := by decide +kernel
theorem dX7_quarter_77 : decode cX7_quarter 77 = .ok (.iload 6, 2) := by decide +kernel
theorem dX7_quarter_79 : decode cX7_quarter 79 = .ok (.iaload, 1) := by decide +kernel
theorem dX7_quarter_80 : decode cX7_quarter 80 = .ok (.aload_n 0, 1) := by decide +kernel
theorem dX7_quarter_81 : decode cX7_quarter 81 = .ok (.getfield 40, 3) := by decide +kernel
theorem dX7_quarter_84 : decode cX7_quarter 84 = .ok (.aload_n 0, 1) := by decide +kernel
theorem dX7_quarter_85 : decode cX7_quarter 85 = .ok (.getfield 25, 3) := by decide +kernel
theorem dX7_quarter_88 : decode cX7_quarter 88 = .ok (.iload 6, 2) := by decide +kernel
theorem dX7_quarter_90 : decode cX7_quarter 90 = .ok (.iconst 1, 1) := by decide +kernel
theorem dX7_quarter_91 : decode cX7_quarter 91 = .ok (.isub, 1) := by decide +kernel
theorem dX7_quarter_92 : decode cX7_quarter 92 = .ok (.iaload, 1) := by decide +kernel
theorem dX7_quarter_93 : decode cX7_quarter 93 = .ok (.iaload, 1) := by decide +kernel
theorem dX7_quarter_94 : decode cX7_quarter 94 = .ok (.aload_n 0, 1) := by decide +kernel
theorem dX7_quarter_95 : decode cX7_quarter 95 = .ok (.getfield 34, 3) := by decide +kernel
theorem dX7_quarter_98 : decode cX7_quarter 98 = .ok (.iload 6, 2) := by decide +kernel
theorem dX7_quarter_100 : decode cX7_quarter 100 = .ok (.iconst 1, 1) := by decide +kernel
theorem dX7_quarter_101 : decode cX7_quarter 101 = .ok (.isub, 1) := by decide +kernel
theorem dX7_quarter_102 : decode cX7_quarter 102 = .ok (.iaload, 1) := by decide +kernel
theorem dX7_quarter_103 : decode cX7_quarter 103 = .ok (.iadd, 1) := by decide +kernel
theorem dX7_quarter_104 : decode cX7_quarter 104 = .ok (.aload_n 0, 1) := by decide +kernel
theorem dX7_quarter_105 : decode cX7_quarter 105 = .ok (.getfield 15, 3) := by decide +kernel
theorem dX7_quarter_108 : decode cX7_quarter 108 = .ok (.irem, 1) := by decide +kernel
theorem dX7_quarter_109 : decode cX7_quarter 109 = .ok (.iastore, 1) := by decide +kernel
theorem dX7_quarter_110 : decode cX7_quarter 110 = .ok (.iinc 6 (-1), 3) := by decide +kernel
theorem dX7_quarter_113 : decode cX7_quarter 113 = .ok (.goto (-76), 3) := by decide +kernel
theorem dX7_quarter_116 : decode cX7_quarter 116 = .ok (.aload_n 0, 1) := by decide +kernel
theorem dX7_quarter_117 : decode cX7_quarter 117 = .ok (.getfield 37, 3) := by decide +kernel
theorem dX7_quarter_120 : decode cX7_quarter 120 = .ok (.aload_n 0, 1) := by decide +kernel
theorem dX7_quarter_121 : decode cX7_quarter 121 = .ok (.getfield 25, 3) := by decide +kernel
theorem dX7_quarter_124 : decode cX7_quarter 124 = .ok (.iload_n 2, 1) := by decide +kernel
theorem dX7_quarter_125 : decode cX7_quarter 125 = .ok (.iaload, 1) := by decide +kernel
theorem dX7_quarter_126 : decode cX7_quarter 126 = .ok (.iload 4, 2) := by decide +kernel
theorem dX7_quarter_128 : decode cX7_quarter 128 = .ok (.iastore, 1) := by decide +kernel
theorem dX7_quarter_129 : decode cX7_quarter 129 = .ok (.aload_n 0, 1) := by decide +kernel
theorem dX7_quarter_130 : decode cX7_quarter 130 = .ok (.getfield 40, 3) := by decide +kernel
theorem dX7_quarter_133 : decode cX7_quarter 133 = .ok (.aload_n 0, 1) := by decide +kernel
theorem dX7_quarter_134 : decode cX7_quarter 134 = .ok (.getfield 25, 3) := by decide +kernel
theorem dX7_quarter_137 : decode cX7_quarter 137 = .ok (.iload_n 2, 1) := by decide +kernel
theorem dX7_quarter_138 : decode cX7_quarter 138 = .ok (.iaload, 1) := by decide +kernel
theorem dX7_quarter_139 : decode cX7_quarter 139 = .ok (.iload 5, 2) := by decide +kernel
theorem dX7_quarter_141 : decode cX7_quarter 141 = .ok (.aload_n 0, 1) := by decide +kernel
theorem dX7_quarter_142 : decode cX7_quarter 142 = .ok (.getfield 34, 3) := by decide +kernel
theorem dX7_quarter_145 : decode cX7_quarter 145 = .ok (.iload_n 3, 1) := by decide +kernel
theorem dX7_quarter_146 : decode cX7_quarter 146 = .ok (.iaload, 1) := by decide +kernel
