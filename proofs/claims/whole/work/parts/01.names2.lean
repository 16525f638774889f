theorem dX7_quarter_147 : decode cX7_quarter 147 = .ok (.iadd, 1) := by decide +kernel
theorem dX7_quarter_148 : decode cX7_quarter 148 = .ok (.aload_n 0, 1) := by decide +kernel
theorem dX7_quarter_149 : decode cX7_quarter 149 = .ok (.getfield 15, 3) := by decide +kernel
theorem dX7_quarter_152 : decode cX7_quarter 152 = .ok (.irem, 1) := by decide +kernel
theorem dX7_quarter_153 : decode cX7_quarter 153 = .ok (.iastore, 1) := by decide +kernel
theorem dX7_quarter_154 : decode cX7_quarter 154 = .ok (.return_, 1) := by decide +kernel
theorem dX7_atHome_0 : decode cX7_atHome 0 = .ok (.iconst 0, 1) := by decide +kernel
theorem dX7_atHome_1 : decode cX7_atHome 1 = .ok (.istore_n 1, 1) := by decide +kernel
theorem dX7_atHome_2 : decode cX7_atHome 2 = .ok (.iload_n 1, 1) := by decide +kernel
theorem dX7_atHome_3 : decode cX7_atHome 3 = .ok (.aload_n 0, 1) := by decide +kernel
theorem dX7_atHome_4 : decode cX7_atHome 4 = .ok (.getfield 9, 3) := by decide +kernel
theorem dX7_atHome_7 : decode cX7_atHome 7 = .ok (.if_icmp .ge 30, 3) := by decide +kernel
theorem dX7_atHome_10 : decode cX7_atHome 10 = .ok (.aload_n 0, 1) := by decide +kernel
theorem dX7_atHome_11 : decode cX7_atHome 11 = .ok (.getfield 37, 3) := by decide +kernel
theorem dX7_atHome_14 : decode cX7_atHome 14 = .ok (.iload_n 1, 1) := by decide +kernel
theorem dX7_atHome_15 : decode cX7_atHome 15 = .ok (.iaload, 1) := by decide +kernel
theorem dX7_atHome_16 : decode cX7_atHome 16 = .ok (.iload_n 1, 1) := by decide +kernel
theorem dX7_atHome_17 : decode cX7_atHome 17 = .ok (.if_icmp .ne 12, 3) := by decide +kernel
theorem dX7_atHome_20 : decode cX7_atHome 20 = .ok (.aload_n 0, 1) := by decide +kernel
theorem dX7_atHome_21 : decode cX7_atHome 21 = .ok (.getfield 40, 3) := by decide +kernel
theorem dX7_atHome_24 : decode cX7_atHome 24 = .ok (.iload_n 1, 1) := by decide +kernel
theorem dX7_atHome_25 : decode cX7_atHome 25 = .ok (.iaload, 1) := by decide +kernel
theorem dX7_atHome_26 : decode cX7_atHome 26 = .ok (.ifCond .eq 5, 3) := by decide +kernel
theorem dX7_atHome_29 : decode cX7_atHome 29 = .ok (.iconst 0, 1) := by decide +kernel
theorem dX7_atHome_30 : decode cX7_atHome 30 = .ok (.ireturn, 1) := by decide +kernel
theorem dX7_atHome_31 : decode cX7_atHome 31 = .ok (.iinc 1 1, 3) := by decide +kernel
theorem dX7_atHome_34 : decode cX7_atHome 34 = .ok (.goto (-32), 3) := by decide +kernel
theorem dX7_atHome_37 : decode cX7_atHome 37 = .ok (.iconst 1, 1) := by decide +kernel
theorem dX7_atHome_38 : decode cX7_atHome 38 = .ok (.ireturn, 1) := by decide +kernel
theorem dX7_allThere_0 : decode cX7_allThere 0 = .ok (.iconst 0, 1) := by decide +kernel
theorem dX7_allThere_1 : decode cX7_allThere 1 = .ok (.istore_n 1, 1) := by decide +kernel
theorem dX7_allThere_2 : decode cX7_allThere 2 = .ok (.iconst 0, 1) := by decide +kernel
theorem dX7_allThere_3 : decode cX7_allThere 3 = .ok (.istore_n 2, 1) := by decide +kernel
theorem dX7_allThere_4 : decode cX7_allThere 4 = .ok (.iload_n 2, 1) := by decide +kernel
theorem dX7_allThere_5 : decode cX7_allThere 5 = .ok (.aload_n 0, 1) := by decide +kernel
theorem dX7_allThere_6 : decode cX7_allThere 6 = .ok (.getfield 9, 3) := by decide +kernel
theorem dX7_allThere_9 : decode cX7_allThere 9 = .ok (.if_icmp .ge 20, 3) := by decide +kernel
theorem dX7_allThere_12 : decode cX7_allThere 12 = .ok (.iload_n 1, 1) := by decide +kernel
theorem dX7_allThere_13 : decode cX7_allThere 13 = .ok (.iconst 1, 1) := by decide +kernel
theorem dX7_allThere_14 : decode cX7_allThere 14 = .ok (.aload_n 0, 1) := by decide +kernel
theorem dX7_allThere_15 : decode cX7_allThere 15 = .ok (.getfield 37, 3) := by decide +kernel
theorem dX7_allThere_18 : decode cX7_allThere 18 = .ok (.iload_n 2, 1) := by decide +kernel
theorem dX7_allThere_19 : decode cX7_allThere 19 = .ok (.iaload, 1) := by decide +kernel
theorem dX7_allThere_20 : decode cX7_allThere 20 = .ok (.ishl, 1) := by decide +kernel
theorem dX7_allThere_21 : decode cX7_allThere 21 = .ok (.ior, 1) := by decide +kernel
theorem dX7_allThere_22 : decode cX7_allThere 22 = .ok (.istore_n 1, 1) := by decide +kernel
theorem dX7_allThere_23 : decode cX7_allThere 23 = .ok (.iinc 2 1, 3) := by decide +kernel
theorem dX7_allThere_26 : decode cX7_allThere 26 = .ok (.goto (-22), 3) := by decide +kernel
theorem dX7_allThere_29 : decode cX7_allThere 29 = .ok (.iload_n 1, 1) := by decide +kernel
theorem dX7_allThere_30 : decode cX7_allThere 30 = .ok (.iconst 1, 1) := by decide +kernel
theorem dX7_allThere_31 : decode cX7_allThere 31 = .ok (.aload_n 0, 1) := by decide +kernel
theorem dX7_allThere_32 : decode cX7_allThere 32 = .ok (.getfield 9, 3) := by decide +kernel
theorem dX7_allThere_35 : decode cX7_allThere 35 = .ok (.ishl, 1) := by decide +kernel
theorem dX7_allThere_36 : decode cX7_allThere 36 = .ok (.iconst 1, 1) := by decide +kernel
theorem dX7_allThere_37 : decode cX7_allThere 37 = .ok (.isub, 1) := by decide +kernel
theorem dX7_allThere_38 : decode cX7_allThere 38 = .ok (.if_icmp .ne 7, 3) := by decide +kernel
theorem dX7_allThere_41 : decode cX7_allThere 41 = .ok (.iconst 1, 1) := by decide +kernel
theorem dX7_allThere_42 : decode cX7_allThere 42 = .ok (.goto 4, 3) := by decide +kernel
theorem dX7_allThere_45 : decode cX7_allThere 45 = .ok (.iconst 0, 1) := by decide +kernel
theorem dX7_allThere_46 : decode cX7_allThere 46 = .ok (.ireturn, 1) := by decide +kernel
theorem dX7_marksCancel_0 : decode cX7_marksCancel 0 = .ok (.iconst 0, 1) := by decide +kernel
theorem dX7_marksCancel_1 : decode cX7_marksCancel 1 = .ok (.istore_n 1, 1) := by decide +kernel
theorem dX7_marksCancel_2 : decode cX7_marksCancel 2 = .ok (.iconst 0, 1) := by decide +kernel
theorem dX7_marksCancel_3 : decode cX7_marksCancel 3 = .ok (.istore_n 2, 1) := by decide +kernel
theorem dX7_marksCancel_4 : decode cX7_marksCancel 4 = .ok (.iload_n 2, 1) := by decide +kernel
theorem dX7_marksCancel_5 : decode cX7_marksCancel 5 = .ok (.aload_n 0, 1) := by decide +kernel
theorem dX7_marksCancel_6 : decode cX7_marksCancel 6 = .ok (.getfield 9, 3) := by decide +kernel
theorem dX7_marksCancel_9 : decode cX7_marksCancel 9 = .ok (.if_icmp .ge 18, 3) := by decide +kernel
theorem dX7_marksCancel_12 : decode cX7_marksCancel 12 = .ok (.iload_n 1, 1) := by decide +kernel
theorem dX7_marksCancel_13 : decode cX7_marksCancel 13 = .ok (.aload_n 0, 1) := by decide +kernel
theorem dX7_marksCancel_14 : decode cX7_marksCancel 14 = .ok (.getfield 40, 3) := by decide +kernel
theorem dX7_marksCancel_17 : decode cX7_marksCancel 17 = .ok (.iload_n 2, 1) := by decide +kernel
theorem dX7_marksCancel_18 : decode cX7_marksCancel 18 = .ok (.iaload, 1) := by decide +kernel
theorem dX7_marksCancel_19 : decode cX7_marksCancel 19 = .ok (.iadd, 1) := by decide +kernel
theorem dX7_marksCancel_20 : decode cX7_marksCancel 20 = .ok (.istore_n 1, 1) := by decide +kernel
theorem dX7_marksCancel_21 : decode cX7_marksCancel 21 = .ok (.iinc 2 1, 3) := by decide +kernel
theorem dX7_marksCancel_24 : decode cX7_marksCancel 24 = .ok (.goto (-20), 3) := by decide +kernel
theorem dX7_marksCancel_27 : decode cX7_marksCancel 27 = .ok (.iload_n 1, 1) := by decide +kernel
theorem dX7_marksCancel_28 : decode cX7_marksCancel 28 = .ok (.aload_n 0, 1) := by decide +kernel
theorem dX7_marksCancel_29 : decode cX7_marksCancel 29 = .ok (.getfield 15, 3) := by decide +kernel
theorem dX7_marksCancel_32 : decode cX7_marksCancel 32 = .ok (.irem, 1) := by decide +kernel
theorem dX7_marksCancel_33 : decode cX7_marksCancel 33 = .ok (.ifCond .ne 7, 3) := by decide +kernel
theorem dX7_marksCancel_36 : decode cX7_marksCancel 36 = .ok (.iconst 1, 1) := by decide +kernel
theorem dX7_marksCancel_37 : decode cX7_marksCancel 37 = .ok (.goto 4, 3) := by decide +kernel
theorem dX7_marksCancel_40 : decode cX7_marksCancel 40 = .ok (.iconst 0, 1) := by decide +kernel
theorem dX7_marksCancel_41 : decode cX7_marksCancel 41 = .ok (.ireturn, 1) := by decide +kernel
theorem dX7_oddlySwapped_0 : decode cX7_oddlySwapped 0 = .ok (.iconst 0, 1) := by decide +kernel
theorem dX7_oddlySwapped_1 : decode cX7_oddlySwapped 1 = .ok (.istore_n 1, 1) := by decide +kernel
theorem dX7_oddlySwapped_2 : decode cX7_oddlySwapped 2 = .ok (.iconst 0, 1) := by decide +kernel
theorem dX7_oddlySwapped_3 : decode cX7_oddlySwapped 3 = .ok (.istore_n 2, 1) := by decide +kernel
theorem dX7_oddlySwapped_4 : decode cX7_oddlySwapped 4 = .ok (.iload_n 2, 1) := by decide +kernel
theorem dX7_oddlySwapped_5 : decode cX7_oddlySwapped 5 = .ok (.aload_n 0, 1) := by decide +kernel
theorem dX7_oddlySwapped_6 : decode cX7_oddlySwapped 6 = .ok (.getfield 9, 3) := by decide +kernel
theorem dX7_oddlySwapped_9 : decode cX7_oddlySwapped 9 = .ok (.if_icmp .ge 52, 3) := by decide +kernel
theorem dX7_oddlySwapped_12 : decode cX7_oddlySwapped 12 = .ok (.iload_n 2, 1) := by decide +kernel
theorem dX7_oddlySwapped_13 : decode cX7_oddlySwapped 13 = .ok (.iconst 1, 1) := by decide +kernel
theorem dX7_oddlySwapped_14 : decode cX7_oddlySwapped 14 = .ok (.iadd, 1) := by decide +kernel
theorem dX7_oddlySwapped_15 : decode cX7_oddlySwapped 15 = .ok (.istore_n 3, 1) := by decide +kernel
theorem dX7_oddlySwapped_16 : decode cX7_oddlySwapped 16 = .ok (.iload_n 3, 1) := by decide +kernel
theorem dX7_oddlySwapped_17 : decode cX7_oddlySwapped 17 = .ok (.aload_n 0, 1) := by decide +kernel
theorem dX7_oddlySwapped_18 : decode cX7_oddlySwapped 18 = .ok (.getfield 9, 3) := by decide +kernel
theorem dX7_oddlySwapped_21 : decode cX7_oddlySwapped 21 = .ok (.if_icmp .ge 34, 3) := by decide +kernel
theorem dX7_oddlySwapped_24 : decode cX7_oddlySwapped 24 = .ok (.aload_n 0, 1) := by decide +kernel
theorem dX7_oddlySwapped_25 : decode cX7_oddlySwapped 25 = .ok (.getfield 37, 3) := by decide +kernel
theorem dX7_oddlySwapped_28 : decode cX7_oddlySwapped 28 = .ok (.iload_n 2, 1) := by decide +kernel
theorem dX7_oddlySwapped_29 : decode cX7_oddlySwapped 29 = .ok (.iaload, 1) := by decide +kernel
theorem dX7_oddlySwapped_30 : decode cX7_oddlySwapped 30 = .ok (.aload_n 0, 1) := by decide +kernel
theorem dX7_oddlySwapped_31 : decode cX7_oddlySwapped 31 = .ok (.getfield 37, 3) := by decide +kernel
theorem dX7_oddlySwapped_34 : decode cX7_oddlySwapped 34 = .ok (.iload_n 3, 1) := by decide +kernel
theorem dX7_oddlySwapped_35 : decode cX7_oddlySwapped 35 = .ok (.iaload, 1) := by decide +kernel
theorem dX7_oddlySwapped_36 : decode cX7_oddlySwapped 36 = .ok (.if_icmp .le 13, 3) := by decide +kernel
theorem dX7_oddlySwapped_39 : decode cX7_oddlySwapped 39 = .ok (.iload_n 1, 1) := by decide +kernel
theorem dX7_oddlySwapped_40 : decode cX7_oddlySwapped 40 = .ok (.ifCond .ne 7, 3) := by decide +kernel
theorem dX7_oddlySwapped_43 : decode cX7_oddlySwapped 43 = .ok (.iconst 1, 1) := by decide +kernel
theorem dX7_oddlySwapped_44 : decode cX7_oddlySwapped 44 = .ok (.goto 4, 3) := by decide +kernel
theorem dX7_oddlySwapped_47 : decode cX7_oddlySwapped 47 = .ok (.iconst 0, 1) := by decide +kernel
theorem dX7_oddlySwapped_48 : decode cX7_oddlySwapped 48 = .ok (.istore_n 1, 1) := by decide +kernel
theorem dX7_oddlySwapped_49 : decode cX7_oddlySwapped 49 = .ok (.iinc 3 1, 3) := by decide +kernel
theorem dX7_oddlySwapped_52 : decode cX7_oddlySwapped 52 = .ok (.goto (-36), 3) := by decide +kernel
theorem dX7_oddlySwapped_55 : decode cX7_oddlySwapped 55 = .ok (.iinc 2 1, 3) := by decide +kernel
theorem dX7_oddlySwapped_58 : decode cX7_oddlySwapped 58 = .ok (.goto (-54), 3) := by decide +kernel
theorem dX7_oddlySwapped_61 : decode cX7_oddlySwapped 61 = .ok (.iload_n 1, 1) := by decide +kernel
theorem dX7_oddlySwapped_62 : decode cX7_oddlySwapped 62 = .ok (.ireturn, 1) := by decide +kernel
set_option maxRecDepth 20000 in
theorem ggX8_init_X2_init : GoodIn wsX8_init wsX2_init := goodIn_r _ [6, 7, 8, 9, 10, 11, 17, 18, 19, 20, 21, 22, 23, 24, 25, 26, 27, 28, 29, 30, 31, 32, 33, 34, 12, 13, 14, 15, 16] (by decide +kernel) (by decide +kernel)
set_option maxRecDepth 20000 in
theorem gX8_init_X2_init : GoodIn wsX8_init (wsX2_init) := ggX8_init_X2_init
theorem dX8_init_0 : decode cX8_init 0 = .ok (.aload_n 0, 1) := by decide +kernel
theorem dX8_init_1 : decode cX8_init 1 = .ok (.iconst 0, 1) := by decide +kernel
theorem dX8_init_2 : decode cX8_init 2 = .ok (.iload_n 2, 1) := by decide +kernel
theorem dX8_init_3 : decode cX8_init 3 = .ok (.bipush 12, 2) := by decide +kernel
theorem dX8_init_5 : decode cX8_init 5 = .ok (.if_icmp .ne 9, 3) := by decide +kernel
theorem dX8_init_8 : decode cX8_init 8 = .ok (.sipush 495, 3) := by decide +kernel
theorem dX8_init_11 : decode cX8_init 11 = .ok (.goto 5, 3) := by decide +kernel
theorem dX8_init_14 : decode cX8_init 14 = .ok (.bipush 70, 2) := by decide +kernel
theorem dX8_init_16 : decode cX8_init 16 = .ok (.invokespecial 5, 3) := by decide +kernel
theorem dX8_init_19 : decode cX8_init 19 = .ok (.aload_n 0, 1) := by decide +kernel
theorem dX8_init_20 : decode cX8_init 20 = .ok (.iload_n 1, 1) := by decide +kernel
theorem dX8_init_21 : decode cX8_init 21 = .ok (.putfield 11, 3) := by decide +kernel
theorem dX8_init_24 : decode cX8_init 24 = .ok (.aload_n 0, 1) := by decide +kernel
theorem dX8_init_25 : decode cX8_init 25 = .ok (.iload_n 2, 1) := by decide +kernel
theorem dX8_init_26 : decode cX8_init 26 = .ok (.putfield 17, 3) := by decide +kernel
theorem dX8_init_29 : decode cX8_init 29 = .ok (.return_, 1) := by decide +kernel
set_option maxRecDepth 20000 in
theorem ggX8_read_X8_position : GoodIn wsX8_read wsX8_position := goodIn_r _ [8, 3, 1, 14, 15, 16, 17, 18] (by decide +kernel) (by decide +kernel)
set_option maxRecDepth 20000 in
theorem gX8_read_X8_position : GoodIn wsX8_read (wsV RX8 26 RX8 yX8_position wsX8_position) := goodIn_app (goodIn_of _ (by decide +kernel)) ggX8_read_X8_position
set_option maxRecDepth 20000 in
theorem ggX8_read_X4_ofSet : GoodIn wsX8_read wsX4_ofSet := goodIn_r _ [12, 13] (by decide +kernel) (by decide +kernel)
set_option maxRecDepth 20000 in
theorem gX8_read_X4_ofSet : GoodIn wsX8_read (va_wsS RX8 30 yX4_ofSet wsX4_ofSet) := goodIn_app (goodIn_of _ (by decide +kernel)) ggX8_read_X4_ofSet
theorem dX8_read_0 : decode cX8_read 0 = .ok (.iconst 0, 1) := by decide +kernel
theorem dX8_read_1 : decode cX8_read 1 = .ok (.istore_n 2, 1) := by decide +kernel
theorem dX8_read_2 : decode cX8_read 2 = .ok (.iconst 0, 1) := by decide +kernel
theorem dX8_read_3 : decode cX8_read 3 = .ok (.istore_n 3, 1) := by decide +kernel
theorem dX8_read_4 : decode cX8_read 4 = .ok (.iload_n 3, 1) := by decide +kernel
theorem dX8_read_5 : decode cX8_read 5 = .ok (.aload_n 0, 1) := by decide +kernel
theorem dX8_read_6 : decode cX8_read 6 = .ok (.getfield 17, 3) := by decide +kernel
theorem dX8_read_9 : decode cX8_read 9 = .ok (.if_icmp .ge 34, 3) := by decide +kernel
theorem dX8_read_12 : decode cX8_read 12 = .ok (.aload_n 1, 1) := by decide +kernel
theorem dX8_read_13 : decode cX8_read 13 = .ok (.getfield 20, 3) := by decide +kernel
theorem dX8_read_16 : decode cX8_read 16 = .ok (.aload_n 0, 1) := by decide +kernel
theorem dX8_read_17 : decode cX8_read 17 = .ok (.iload_n 3, 1) := by decide +kernel
theorem dX8_read_18 : decode cX8_read 18 = .ok (.invokevirtual 26, 3) := by decide +kernel
theorem dX8_read_21 : decode cX8_read 21 = .ok (.iaload, 1) := by decide +kernel
theorem dX8_read_22 : decode cX8_read 22 = .ok (.iconst 4, 1) := by decide +kernel
theorem dX8_read_23 : decode cX8_read 23 = .ok (.idiv, 1) := by decide +kernel
theorem dX8_read_24 : decode cX8_read 24 = .ok (.aload_n 0, 1) := by decide +kernel
theorem dX8_read_25 : decode cX8_read 25 = .ok (.getfield 11, 3) := by decide +kernel
theorem dX8_read_28 : decode cX8_read 28 = .ok (.if_icmp .ne 9, 3) := by decide +kernel
theorem dX8_read_31 : decode cX8_read 31 = .ok (.iload_n 2, 1) := by decide +kernel
theorem dX8_read_32 : decode cX8_read 32 = .ok (.iconst 1, 1) := by decide +kernel
theorem dX8_read_33 : decode cX8_read 33 = .ok (.iload_n 3, 1) := by decide +kernel
theorem dX8_read_34 : decode cX8_read 34 = .ok (.ishl, 1) := by decide +kernel
theorem dX8_read_35 : decode cX8_read 35 = .ok (.ior, 1) := by decide +kernel
theorem dX8_read_36 : decode cX8_read 36 = .ok (.istore_n 2, 1) := by decide +kernel
theorem dX8_read_37 : decode cX8_read 37 = .ok (.iinc 3 1, 3) := by decide +kernel
theorem dX8_read_40 : decode cX8_read 40 = .ok (.goto (-36), 3) := by decide +kernel
theorem dX8_read_43 : decode cX8_read 43 = .ok (.iload_n 2, 1) := by decide +kernel
theorem dX8_read_44 : decode cX8_read 44 = .ok (.aload_n 0, 1) := by decide +kernel
theorem dX8_read_45 : decode cX8_read 45 = .ok (.getfield 17, 3) := by decide +kernel
theorem dX8_read_48 : decode cX8_read 48 = .ok (.invokestatic 30, 3) := by decide +kernel
theorem dX8_read_51 : decode cX8_read 51 = .ok (.ireturn, 1) := by decide +kernel
set_option maxRecDepth 20000 in
theorem ggX8_show_X4_toSet : GoodIn wsX8_show wsX4_toSet := goodIn_r _ [7, 8] (by decide +kernel) (by decide +kernel)
set_option maxRecDepth 20000 in
theorem gX8_show_X4_toSet : GoodIn wsX8_show (va_wsS RX8 34 yX4_toSet wsX4_toSet) := goodIn_app (goodIn_of _ (by decide +kernel)) ggX8_show_X4_toSet
set_option maxRecDepth 20000 in
theorem ggX8_show_X8_position : GoodIn wsX8_show wsX8_position := goodIn_r _ [13, 2, 1, 14, 15, 16, 17, 18] (by decide +kernel) (by decide +kernel)
set_option maxRecDepth 20000 in
theorem gX8_show_X8_position : GoodIn wsX8_show (wsV RX8 26 RX8 yX8_position wsX8_position) := goodIn_app (goodIn_of _ (by decide +kernel)) ggX8_show_X8_position
theorem dX8_show_0 : decode cX8_show 0 = .ok (.iload_n 1, 1) := by decide +kernel
theorem dX8_show_1 : decode cX8_show 1 = .ok (.aload_n 0, 1) := by decide +kernel
theorem dX8_show_2 : decode cX8_show 2 = .ok (.getfield 17, 3) := by decide +kernel
theorem dX8_show_5 : decode cX8_show 5 = .ok (.invokestatic 34, 3) := by decide +kernel
theorem dX8_show_8 : decode cX8_show 8 = .ok (.istore_n 3, 1) := by decide +kernel
theorem dX8_show_9 : decode cX8_show 9 = .ok (.iconst 4, 1) := by decide +kernel
theorem dX8_show_10 : decode cX8_show 10 = .ok (.aload_n 0, 1) := by decide +kernel
theorem dX8_show_11 : decode cX8_show 11 = .ok (.getfield 11, 3) := by decide +kernel
theorem dX8_show_14 : decode cX8_show 14 = .ok (.iconst 1, 1) := by decide +kernel
theorem dX8_show_15 : decode cX8_show 15 = .ok (.iadd, 1) := by decide +kernel
theorem dX8_show_16 : decode cX8_show 16 = .ok (.iconst 3, 1) := by decide +kernel
theorem dX8_show_17 : decode cX8_show 17 = .ok (.irem, 1) := by decide +kernel
theorem dX8_show_18 : decode cX8_show 18 = .ok (.imul, 1) := by decide +kernel
theorem dX8_show_19 : decode cX8_show 19 = .ok (.istore 4, 2) := by decide +kernel
theorem dX8_show_21 : decode cX8_show 21 = .ok (.iconst 0, 1) := by decide +kernel
theorem dX8_show_22 : decode cX8_show 22 = .ok (.istore 5, 2) := by decide +kernel
theorem dX8_show_24 : decode cX8_show 24 = .ok (.iload 5, 2) := by decide +kernel
theorem dX8_show_26 : decode cX8_show 26 = .ok (.aload_n 0, 1) := by decide +kernel
theorem dX8_show_27 : decode cX8_show 27 = .ok (.getfield 17, 3) := by decide +kernel
theorem dX8_show_30 : decode cX8_show 30 = .ok (.if_icmp .ge 40, 3) := by decide +kernel
theorem dX8_show_33 : decode cX8_show 33 = .ok (.aload_n 2, 1) := by decide +kernel
theorem dX8_show_34 : decode cX8_show 34 = .ok (.getfield 20, 3) := by decide +kernel
theorem dX8_show_37 : decode cX8_show 37 = .ok (.aload_n 0, 1) := by decide +kernel
theorem dX8_show_38 : decode cX8_show 38 = .ok (.iload 5, 2) := by decide +kernel
theorem dX8_show_40 : decode cX8_show 40 = .ok (.invokevirtual 26, 3) := by decide +kernel
theorem dX8_show_43 : decode cX8_show 43 = .ok (.iload_n 3, 1) := by decide +kernel
theorem dX8_show_44 : decode cX8_show 44 = .ok (.iload 5, 2) := by decide +kernel
theorem dX8_show_46 : decode cX8_show 46 = .ok (.ishr, 1) := by decide +kernel
theorem dX8_show_47 : decode cX8_show 47 = .ok (.iconst 1, 1) := by decide +kernel
theorem dX8_show_48 : decode cX8_show 48 = .ok (.iand, 1) := by decide +kernel
theorem dX8_show_49 : decode cX8_show 49 = .ok (.ifCond .eq 12, 3) := by decide +kernel
theorem dX8_show_52 : decode cX8_show 52 = .ok (.iconst 4, 1) := by decide +kernel
theorem dX8_show_53 : decode cX8_show 53 = .ok (.aload_n 0, 1) := by decide +kernel
theorem dX8_show_54 : decode cX8_show 54 = .ok (.getfield 11, 3) := by decide +kernel
theorem dX8_show_57 : decode cX8_show 57 = .ok (.imul, 1) := by decide +kernel
theorem dX8_show_58 : decode cX8_show 58 = .ok (.goto 5, 3) := by decide +kernel
theorem dX8_show_61 : decode cX8_show 61 = .ok (.iload 4, 2) := by decide +kernel
theorem dX8_show_63 : decode cX8_show 63 = .ok (.iastore, 1) := by decide +kernel
theorem dX8_show_64 : decode cX8_show 64 = .ok (.iinc 5 1, 3) := by decide +kernel
theorem dX8_show_67 : decode cX8_show 67 = .ok (.goto (-43), 3) := by decide +kernel
theorem dX8_show_70 : decode cX8_show 70 = .ok (.return_, 1) := by decide +kernel
theorem dX8_position_0 : decode cX8_position 0 = .ok (.iconst 4, 1) := by decide +kernel
theorem dX8_position_1 : decode cX8_position 1 = .ok (.aload_n 0, 1) := by decide +kernel
theorem dX8_position_2 : decode cX8_position 2 = .ok (.getfield 11, 3) := by decide +kernel
theorem dX8_position_5 : decode cX8_position 5 = .ok (.imul, 1) := by decide +kernel
theorem dX8_position_6 : decode cX8_position 6 = .ok (.iload_n 1, 1) := by decide +kernel
theorem dX8_position_7 : decode cX8_position 7 = .ok (.iadd, 1) := by decide +kernel
theorem dX8_position_8 : decode cX8_position 8 = .ok (.aload_n 0, 1) := by decide +kernel
theorem dX8_position_9 : decode cX8_position 9 = .ok (.getfield 17, 3) := by decide +kernel
theorem dX8_position_12 : decode cX8_position 12 = .ok (.irem, 1) := by decide +kernel
theorem dX8_position_13 : decode cX8_position 13 = .ok (.ireturn, 1) := by decide +kernel
theorem dX9_init_0 : decode cX9_init 0 = .ok (.aload_n 0, 1) := by decide +kernel
theorem dX9_init_1 : decode cX9_init 1 = .ok (.invokespecial 3, 3) := by decide +kernel
theorem dX9_init_4 : decode cX9_init 4 = .ok (.aload_n 0, 1) := by decide +kernel
theorem dX9_init_5 : decode cX9_init 5 = .ok (.iload_n 1, 1) := by decide +kernel
theorem dX9_init_6 : decode cX9_init 6 = .ok (.putfield 9, 3) := by decide +kernel
theorem dX9_init_9 : decode cX9_init 9 = .ok (.aload_n 0, 1) := by decide +kernel
theorem dX9_init_10 : decode cX9_init 10 = .ok (.iload_n 2, 1) := by decide +kernel
theorem dX9_init_11 : decode cX9_init 11 = .ok (.putfield 15, 3) := by decide +kernel
theorem dX9_init_14 : decode cX9_init 14 = .ok (.aload_n 0, 1) := by decide +kernel
theorem dX9_init_15 : decode cX9_init 15 = .ok (.iload_n 3, 1) := by decide +kernel
theorem dX9_init_16 : decode cX9_init 16 = .ok (.putfield 18, 3) := by decide +kernel
theorem dX9_init_19 : decode cX9_init 19 = .ok (.aload_n 0, 1) := by decide +kernel
theorem dX9_init_20 : decode cX9_init 20 = .ok (.aload 4, 2) := by decide +kernel
theorem dX9_init_22 : decode cX9_init 22 = .ok (.putfield 21, 3) := by decide +kernel
theorem dX9_init_25 : decode cX9_init 25 = .ok (.aload_n 0, 1) := by decide +kernel
theorem dX9_init_26 : decode cX9_init 26 = .ok (.bipush 16, 2) := by decide +kernel
theorem dX9_init_28 : decode cX9_init 28 = .ok (.aload 4, 2) := by decide +kernel
theorem dX9_init_30 : decode cX9_init 30 = .ok (.arraylength, 1) := by decide +kernel
theorem dX9_init_31 : decode cX9_init 31 = .ok (.imul, 1) := by decide +kernel
theorem dX9_init_32 : decode cX9_init 32 = .ok (.newarray .int, 2) := by decide +kernel
theorem dX9_init_34 : decode cX9_init 34 = .ok (.putfield 25, 3) := by decide +kernel
theorem dX9_init_37 : decode cX9_init 37 = .ok (.aload_n 0, 1) := by decide +kernel
theorem dX9_init_38 : decode cX9_init 38 = .ok (.bipush 15, 2) := by decide +kernel
theorem dX9_init_40 : decode cX9_init 40 = .ok (.newarray .int, 2) := by decide +kernel
theorem dX9_init_42 : decode cX9_init 42 = .ok (.putfield 29, 3) := by decide +kernel
theorem dX9_init_45 : decode cX9_init 45 = .ok (.return_, 1) := by decide +kernel
set_option maxRecDepth 20000 in
theorem ggX9_find_X9_readStart : GoodIn wsX9_find wsX9_readStart := goodIn_r _ [6, 7, 8, 9, 10, 11, 12, 13, 14, 15, 16, 17, 18, 19, 20, 21, 22, 23, 24, 25, 26, 27, 28, 29, 30, 31, 32, 33, 34, 35, 36, 37, 38, 39, 40, 41, 42, 43, 44, 45, 46, 47, 48, 49, 50, 51, 52, 53, 54, 55, 56, 57, 58, 59, 60, 61, 62, 63, 64, 65, 66, 67, 68, 69, 70, 71, 72, 73, 74, 75, 76, 77, 78, 79, 80, 81, 82, 83, 84, 85, 5, 86, 87, 219, 220, 221, 222, 223, 224, 225, 226, 227, 228, 229, 230, 231, 232, 233, 234, 235, 236, 237, 238, 239, 240, 241, 242, 243, 244, 245, 246, 247, 248, 249, 250, 251, 252, 253, 254, 255, 256] (by decide +kernel) (by decide +kernel)
set_option maxRecDepth 20000 in
theorem gX9_find_X9_readStart : GoodIn wsX9_find (wsV RX9 32 RX9 yX9_readStart wsX9_readStart) := goodIn_app (goodIn_of _ (by decide +kernel)) ggX9_find_X9_readStart
set_option maxRecDepth 20000 in
theorem ggX9_find_X9_prepare : GoodIn wsX9_find wsX9_prepare := goodIn_r _ [91, 7, 92, 87, 93, 1, 94, 95, 96, 97, 13, 98, 99, 100, 101, 15, 102, 103, 104, 105, 106, 107, 108, 109, 110, 111, 112, 113, 114, 115, 116, 117, 118, 119, 120, 121, 122, 123, 124, 125, 126, 127, 128, 22, 129, 130, 131, 24, 132, 133, 27, 134, 135, 136, 31, 137, 33, 34, 35, 138, 139, 38, 140, 141, 40, 41, 142, 143, 144, 45, 145, 146, 47, 48, 147, 148, 149, 150, 66, 151, 152, 153, 69, 154, 71, 73, 72, 155, 74, 75, 76, 77, 156, 157, 158, 159, 18, 19, 20, 21, 23, 25, 26, 28, 29, 30, 32, 36, 37, 39, 42, 43, 44, 46, 49, 50, 51, 52, 53, 54, 55, 56, 57, 58, 59, 60, 61, 62, 63, 64, 65, 67, 68, 70, 78, 160, 161, 162, 163, 164, 165, 166, 5, 167, 168, 169, 170, 171, 172, 173, 174, 175, 176, 177, 178, 179, 180, 181, 182, 183, 184, 185, 8, 186, 187, 188, 189, 190, 191, 192, 193, 194, 195, 196, 197, 198, 199, 200, 201, 202, 83, 84, 85, 86, 219, 220, 221, 222, 223, 224, 225, 226, 227, 228, 229, 230, 231, 232, 233, 234, 235, 236, 237, 238, 239, 240, 241, 242, 243, 244, 245, 246, 247, 248, 251, 252, 253, 254, 255, 256] (by decide +kernel) (by decide +kernel)
set_option maxRecDepth 20000 in
theorem gX9_find_X9_prepare : GoodIn wsX9_find (wsV RX9 40 RX9 yX9_prepare wsX9_prepare) := goodIn_app (goodIn_of _ (by decide +kernel)) ggX9_find_X9_prepare
set_option maxRecDepth 20000 in
theorem ggX9_find_X9_stateAt : GoodIn wsX9_find wsX9_stateAt := goodIn_r _ [86, 7, 87, 8, 219, 220, 221, 222, 223, 224, 225, 226, 227, 228, 229, 230, 231, 232, 233, 234, 235, 236, 237, 238, 239, 240, 241, 242, 243, 244, 245, 246, 247, 248] (by decide +kernel) (by decide +kernel)
set_option maxRecDepth 20000 in
theorem gX9_find_X9_stateAt : GoodIn wsX9_find (wsV RX9 43 RX9 yX9_stateAt wsX9_stateAt) := goodIn_app (goodIn_of _ (by decide +kernel)) ggX9_find_X9_stateAt
set_option maxRecDepth 20000 in
theorem ggX9_find_X9_turnsToGoal : GoodIn wsX9_find wsX9_turnsToGoal := goodIn_r _ [206, 177, 178, 179, 180, 5, 181, 1, 219, 220, 221, 222, 223, 224, 225] (by decide +kernel) (by decide +kernel)
set_option maxRecDepth 20000 in
theorem gX9_find_X9_turnsToGoal : GoodIn wsX9_find (wsV RX9 47 RX9 yX9_turnsToGoal wsX9_turnsToGoal) := goodIn_app (goodIn_of _ (by decide +kernel)) ggX9_find_X9_turnsToGoal
set_option maxRecDepth 20000 in
theorem ggX9_find_X9_dive : GoodIn wsX9_find wsX9_dive := goodIn_r _ [210, 211, 212, 213, 5, 214, 186, 187, 188, 189, 7, 8, 190, 191, 192, 193, 194, 195, 196, 197, 92, 198, 199, 200, 201, 202, 83, 84, 85, 86, 87, 203, 204, 205, 206, 177, 178, 179, 180, 181, 1, 215, 216, 217, 218, 207, 208, 209, 219, 220, 221, 222, 223, 224, 225, 226, 227, 228, 229, 230, 231, 232, 233, 234, 235, 236, 237, 238, 239, 240, 241, 242, 243, 244, 245, 246, 247, 248] (by decide +kernel) (by decide +kernel)
set_option maxRecDepth 20000 in
theorem gX9_find_X9_dive : GoodIn wsX9_find (wsV RX9 50 RX9 yX9_dive wsX9_dive) := goodIn_app (goodIn_of _ (by decide +kernel)) ggX9_find_X9_dive
theorem dX9_find_0 : decode cX9_find 0 = .ok (.aload_n 0, 1) := by decide +kernel
theorem dX9_find_1 : decode cX9_find 1 = .ok (.aload_n 1, 1) := by decide +kernel
theorem dX9_find_2 : decode cX9_find 2 = .ok (.invokevirtual 32, 3) := by decide +kernel
theorem dX9_find_5 : decode cX9_find 5 = .ok (.ifCond .ne 5, 3) := by decide +kernel
theorem dX9_find_8 : decode cX9_find 8 = .ok (.iconst 0, 1) := by decide +kernel
theorem dX9_find_9 : decode cX9_find 9 = .ok (.ireturn, 1) := by decide +kernel
theorem dX9_find_10 : decode cX9_find 10 = .ok (.aload_n 0, 1) := by decide +kernel
theorem dX9_find_11 : decode cX9_find 11 = .ok (.getfield 36, 3) := by decide +kernel
theorem dX9_find_14 : decode cX9_find 14 = .ok (.ifnonnull 13, 3) := by decide +kernel
theorem dX9_find_17 : decode cX9_find 17 = .ok (.aload_n 0, 1) := by decide +kernel
theorem dX9_find_18 : decode cX9_find 18 = .ok (.invokevirtual 40, 3) := by decide +kernel
theorem dX9_find_21 : decode cX9_find 21 = .ok (.aload_n 0, 1) := by decide +kernel
theorem dX9_find_22 : decode cX9_find 22 = .ok (.aload_n 1, 1) := by decide +kernel
theorem dX9_find_23 : decode cX9_find 23 = .ok (.invokevirtual 32, 3) := by decide +kernel
theorem dX9_find_26 : decode cX9_find 26 = .ok (.pop, 1) := by decide +kernel
theorem dX9_find_27 : decode cX9_find 27 = .ok (.aload_n 0, 1) := by decide +kernel
theorem dX9_find_28 : decode cX9_find 28 = .ok (.aload_n 0, 1) := by decide +kernel
theorem dX9_find_29 : decode cX9_find 29 = .ok (.iconst 0, 1) := by decide +kernel
theorem dX9_find_30 : decode cX9_find 30 = .ok (.invokevirtual 43, 3) := by decide +kernel
theorem dX9_find_33 : decode cX9_find 33 = .ok (.invokevirtual 47, 3) := by decide +kernel
theorem dX9_find_36 : decode cX9_find 36 = .ok (.istore_n 2, 1) := by decide +kernel
theorem dX9_find_37 : decode cX9_find 37 = .ok (.iload_n 2, 1) := by decide +kernel
theorem dX9_find_38 : decode cX9_find 38 = .ok (.istore_n 3, 1) := by decide +kernel
theorem dX9_find_39 : decode cX9_find 39 = .ok (.iload_n 3, 1) := by decide +kernel
theorem dX9_find_40 : decode cX9_find 40 = .ok (.bipush 15, 2) := by decide +kernel
theorem dX9_find_42 : decode cX9_find 42 = .ok (.if_icmp .gt 21, 3) := by decide +kernel
theorem dX9_find_45 : decode cX9_find 45 = .ok (.aload_n 0, 1) := by decide +kernel
theorem dX9_find_46 : decode cX9_find 46 = .ok (.iconst 0, 1) := by decide +kernel
theorem dX9_find_47 : decode cX9_find 47 = .ok (.iload_n 3, 1) := by decide +kernel
theorem dX9_find_48 : decode cX9_find 48 = .ok (.iconst (-1), 1) := by decide +kernel
theorem dX9_find_49 : decode cX9_find 49 = .ok (.invokevirtual 50, 3) := by decide +kernel
theorem dX9_find_52 : decode cX9_find 52 = .ok (.ifCond .eq 5, 3) := by decide +kernel
theorem dX9_find_55 : decode cX9_find 55 = .ok (.iload_n 3, 1) := by decide +kernel
theorem dX9_find_56 : decode cX9_find 56 = .ok (.ireturn, 1) := by decide +kernel
theorem dX9_find_57 : decode cX9_find 57 = .ok (.iinc 3 1, 3) := by decide +kernel
theorem dX9_find_60 : decode cX9_find 60 = .ok (.goto (-21), 3) := by decide +kernel
theorem dX9_find_63 : decode cX9_find 63 = .ok (.iconst 0, 1) := by decide +kernel
theorem dX9_find_64 : decode cX9_find 64 = .ok (.ireturn, 1) := by decide +kernel
set_option maxRecDepth 20000 in
theorem ggX9_readStart_X2_readFrom : GoodIn wsX9_readStart wsX2_readFrom := goodIn_r _ [8, 9, 10, 11, 12, 13, 14, 15, 16, 17, 18, 19, 20, 21, 22, 23, 24, 25, 26, 27, 28, 29, 30, 31, 32, 33, 34, 35, 36, 37, 38, 39, 40, 41, 42, 43, 44, 45, 46, 47, 48, 49, 50, 51, 52, 53, 54, 55, 56, 57, 58, 59, 60, 61, 62, 63, 64, 65, 66, 67, 68, 69, 70, 71, 72, 90, 91, 92, 93, 94, 95, 96, 97, 98, 99, 100, 101, 102, 103, 104, 105, 106, 107, 108, 109, 110, 111, 112, 113, 114, 115, 116, 117, 118, 119, 120] (by decide +kernel) (by decide +kernel)
set_option maxRecDepth 20000 in
theorem gX9_readStart_X2_readFrom_u54X0 : GoodIn wsX9_readStart (va_wsU RX9 54 RX0 "StageCube$Feature" ⟨"StageCube$Feature", "readFrom", "(LStageCube$Cube;)I"⟩ yX2_readFrom wsX2_readFrom) := goodIn_app (goodIn_of _ (by decide +kernel)) ggX9_readStart_X2_readFrom
set_option maxRecDepth 20000 in
theorem gX9_readStart_X2_readFrom_u54X3 : GoodIn wsX9_readStart (va_wsU RX9 54 RX3 "StageCube$Feature" ⟨"StageCube$Feature", "readFrom", "(LStageCube$Cube;)I"⟩ yX2_readFrom wsX2_readFrom) := goodIn_app (goodIn_of _ (by decide +kernel)) ggX9_readStart_X2_readFrom
set_option maxRecDepth 20000 in
theorem gX9_readStart_X2_readFrom_u54X5 : GoodIn wsX9_readStart (va_wsU RX9 54 RX5 "StageCube$Feature" ⟨"StageCube$Feature", "readFrom", "(LStageCube$Cube;)I"⟩ yX2_readFrom wsX2_readFrom) := goodIn_app (goodIn_of _ (by decide +kernel)) ggX9_readStart_X2_readFrom
set_option maxRecDepth 20000 in
theorem gX9_readStart_X2_readFrom_u54X6 : GoodIn wsX9_readStart (va_wsU RX9 54 RX6 "StageCube$Feature" ⟨"StageCube$Feature", "readFrom", "(LStageCube$Cube;)I"⟩ yX2_readFrom wsX2_readFrom) := goodIn_app (goodIn_of _ (by decide +kernel)) ggX9_readStart_X2_readFrom
set_option maxRecDepth 20000 in
theorem gX9_readStart_X2_readFrom_u54X8 : GoodIn wsX9_readStart (va_wsU RX9 54 RX8 "StageCube$Feature" ⟨"StageCube$Feature", "readFrom", "(LStageCube$Cube;)I"⟩ yX2_readFrom wsX2_readFrom) := goodIn_app (goodIn_of _ (by decide +kernel)) ggX9_readStart_X2_readFrom
set_option maxRecDepth 20000 in
theorem ggX9_readStart_X9_stateAt : GoodIn wsX9_readStart wsX9_stateAt := goodIn_r _ [81, 1, 82, 2, 83, 84, 85, 86, 87, 88, 89, 90, 91, 92, 93, 94, 95, 96, 97, 98, 99, 100, 101, 102, 103, 104, 105, 106, 107, 108, 109, 110, 111, 112] (by decide +kernel) (by decide +kernel)
set_option maxRecDepth 20000 in
theorem gX9_readStart_X9_stateAt : GoodIn wsX9_readStart (wsV RX9 43 RX9 yX9_stateAt wsX9_stateAt) := goodIn_app (goodIn_of _ (by decide +kernel)) ggX9_readStart_X9_stateAt
theorem dX9_readStart_0 : decode cX9_readStart 0 = .ok (.iconst 0, 1) := by decide +kernel
theorem dX9_readStart_1 : decode cX9_readStart 1 = .ok (.istore_n 2, 1) := by decide +kernel
theorem dX9_readStart_2 : decode cX9_readStart 2 = .ok (.iload_n 2, 1) := by decide +kernel
theorem dX9_readStart_3 : decode cX9_readStart 3 = .ok (.aload_n 0, 1) := by decide +kernel
theorem dX9_readStart_4 : decode cX9_readStart 4 = .ok (.getfield 21, 3) := by decide +kernel
theorem dX9_readStart_7 : decode cX9_readStart 7 = .ok (.arraylength, 1) := by decide +kernel
theorem dX9_readStart_8 : decode cX9_readStart 8 = .ok (.if_icmp .ge 25, 3) := by decide +kernel
theorem dX9_readStart_11 : decode cX9_readStart 11 = .ok (.aload_n 0, 1) := by decide +kernel
theorem dX9_readStart_12 : decode cX9_readStart 12 = .ok (.getfield 25, 3) := by decide +kernel
theorem dX9_readStart_15 : decode cX9_readStart 15 = .ok (.iload_n 2, 1) := by decide +kernel
theorem dX9_readStart_16 : decode cX9_readStart 16 = .ok (.aload_n 0, 1) := by decide +kernel
theorem dX9_readStart_17 : decode cX9_readStart 17 = .ok (.getfield 21, 3) := by decide +kernel
theorem dX9_readStart_20 : decode cX9_readStart 20 = .ok (.iload_n 2, 1) := by decide +kernel
theorem dX9_readStart_21 : decode cX9_readStart 21 = .ok (.aaload, 1) := by decide +kernel
theorem dX9_readStart_22 : decode cX9_readStart 22 = .ok (.aload_n 1, 1) := by decide +kernel
theorem dX9_readStart_23 : decode cX9_readStart 23 = .ok (.invokevirtual 54, 3) := by decide +kernel
theorem dX9_readStart_26 : decode cX9_readStart 26 = .ok (.iastore, 1) := by decide +kernel
theorem dX9_readStart_27 : decode cX9_readStart 27 = .ok (.iinc 2 1, 3) := by decide +kernel
theorem dX9_readStart_30 : decode cX9_readStart 30 = .ok (.goto (-28), 3) := by decide +kernel
theorem dX9_readStart_33 : decode cX9_readStart 33 = .ok (.aload_n 0, 1) := by decide +kernel
theorem dX9_readStart_34 : decode cX9_readStart 34 = .ok (.iconst 0, 1) := by decide +kernel
theorem dX9_readStart_35 : decode cX9_readStart 35 = .ok (.invokevirtual 43, 3) := by decide +kernel
theorem dX9_readStart_38 : decode cX9_readStart 38 = .ok (.ireturn, 1) := by decide +kernel
set_option maxRecDepth 20000 in
theorem ggX9_dive_X9_isNeedless : GoodIn wsX9_dive wsX9_isNeedless := goodIn_r _ [5] (by decide +kernel) (by decide +kernel)
set_option maxRecDepth 20000 in
theorem gX9_dive_X9_isNeedless : GoodIn wsX9_dive (va_wsS RX9 59 yX9_isNeedless wsX9_isNeedless) := goodIn_app (goodIn_of _ (by decide +kernel)) ggX9_dive_X9_isNeedless
set_option maxRecDepth 20000 in
theorem ggX9_dive_X9_copyDown : GoodIn wsX9_dive wsX9_copyDown := goodIn_r _ [9, 10, 11, 12, 13, 14, 15, 48, 49, 50, 51, 52, 53, 54] (by decide +kernel) (by decide +kernel)
set_option maxRecDepth 20000 in
theorem gX9_dive_X9_copyDown : GoodIn wsX9_dive (wsV RX9 63 RX9 yX9_copyDown wsX9_copyDown) := goodIn_app (goodIn_of _ (by decide +kernel)) ggX9_dive_X9_copyDown
set_option maxRecDepth 20000 in
theorem ggX9_dive_X9_turnsOf : GoodIn wsX9_dive wsX9_turnsOf := goodIn_r _ [19, 20, 48, 49, 50, 51, 52, 53, 54] (by decide +kernel) (by decide +kernel)
set_option maxRecDepth 20000 in
theorem gX9_dive_X9_turnsOf : GoodIn wsX9_dive (wsV RX9 67 RX9 yX9_turnsOf wsX9_turnsOf) := goodIn_app (goodIn_of _ (by decide +kernel)) ggX9_dive_X9_turnsOf
set_option maxRecDepth 20000 in
theorem ggX9_dive_X9_advance : GoodIn wsX9_dive wsX9_advance := goodIn_r _ [24, 10, 11, 25, 48, 49, 50, 51, 52, 53, 54, 55, 56, 57, 58, 59, 60, 61, 62, 63, 64, 65, 66, 67, 68, 69, 70, 71, 72, 73, 74, 75, 76, 77] (by decide +kernel) (by decide +kernel)
set_option maxRecDepth 20000 in
theorem gX9_dive_X9_advance : GoodIn wsX9_dive (wsV RX9 70 RX9 yX9_advance wsX9_advance) := goodIn_app (goodIn_of _ (by decide +kernel)) ggX9_dive_X9_advance
set_option maxRecDepth 20000 in
theorem ggX9_dive_X9_stateAt : GoodIn wsX9_dive wsX9_stateAt := goodIn_r _ [29, 10, 30, 11, 48, 49, 50, 51, 52, 53, 54, 55, 56, 57, 58, 59, 60, 61, 62, 63, 64, 65, 66, 67, 68, 69, 70, 71, 72, 73, 74, 75, 76, 77] (by decide +kernel) (by decide +kernel)
set_option maxRecDepth 20000 in
theorem gX9_dive_X9_stateAt : GoodIn wsX9_dive (wsV RX9 43 RX9 yX9_stateAt wsX9_stateAt) := goodIn_app (goodIn_of _ (by decide +kernel)) ggX9_dive_X9_stateAt
set_option maxRecDepth 20000 in
theorem ggX9_dive_X9_turnsToGoal : GoodIn wsX9_dive wsX9_turnsToGoal := goodIn_r _ [34, 35, 36, 37, 38, 4, 39, 40, 48, 49, 50, 51, 52, 53, 54] (by decide +kernel) (by decide +kernel)
set_option maxRecDepth 20000 in
theorem gX9_dive_X9_turnsToGoal : GoodIn wsX9_dive (wsV RX9 47 RX9 yX9_turnsToGoal wsX9_turnsToGoal) := goodIn_app (goodIn_of _ (by decide +kernel)) ggX9_dive_X9_turnsToGoal
set_option maxRecDepth 20000 in
theorem ggX9_dive_X9_firstTurnOf : GoodIn wsX9_dive wsX9_firstTurnOf := goodIn_r _ [44, 20, 48, 49, 50, 51, 52, 53, 54] (by decide +kernel) (by decide +kernel)
set_option maxRecDepth 20000 in
theorem gX9_dive_X9_firstTurnOf : GoodIn wsX9_dive (wsV RX9 74 RX9 yX9_firstTurnOf wsX9_firstTurnOf) := goodIn_app (goodIn_of _ (by decide +kernel)) ggX9_dive_X9_firstTurnOf
set_option maxRecDepth 20000 in
theorem ggX9_dive_X9_dive : GoodIn wsX9_dive wsX9_dive := goodIn_r _ [0, 1, 2, 3, 4, 5, 6, 7, 8, 9, 10, 11, 12, 13, 14, 15, 16, 17, 18, 19, 20, 21, 22, 23, 24, 25, 26, 27, 28, 29, 30, 31, 32, 33, 34, 35, 36, 37, 38, 39, 40, 41, 42, 43, 44, 45, 46, 47, 48, 49, 50, 51, 52, 53, 54, 55, 56, 57, 58, 59, 60, 61, 62, 63, 64, 65, 66, 67, 68, 69, 70, 71, 72, 73, 74, 75, 76, 77] (by decide +kernel) (by decide +kernel)
set_option maxRecDepth 20000 in
theorem gX9_dive_X9_dive : GoodIn wsX9_dive (wsV RX9 50 RX9 yX9_dive wsX9_dive) := goodIn_app (goodIn_of _ (by decide +kernel)) ggX9_dive_X9_dive
theorem dX9_dive_0 : decode cX9_dive 0 = .ok (.iload_n 2, 1) := by decide +kernel
theorem dX9_dive_1 : decode cX9_dive 1 = .ok (.ifCond .eq 9, 3) := by decide +kernel
theorem dX9_dive_4 : decode cX9_dive 4 = .ok (.iload_n 1, 1) := by decide +kernel
theorem dX9_dive_5 : decode cX9_dive 5 = .ok (.bipush 15, 2) := by decide +kernel
theorem dX9_dive_7 : decode cX9_dive 7 = .ok (.if_icmp .lt 13, 3) := by decide +kernel
theorem dX9_dive_10 : decode cX9_dive 10 = .ok (.iload_n 2, 1) := by decide +kernel
theorem dX9_dive_11 : decode cX9_dive 11 = .ok (.ifCond .ne 7, 3) := by decide +kernel
theorem dX9_dive_14 : decode cX9_dive 14 = .ok (.iconst 1, 1) := by decide +kernel
theorem dX9_dive_15 : decode cX9_dive 15 = .ok (.goto 4, 3) := by decide +kernel
theorem dX9_dive_18 : decode cX9_dive 18 = .ok (.iconst 0, 1) := by decide +kernel
theorem dX9_dive_19 : decode cX9_dive 19 = .ok (.ireturn, 1) := by decide +kernel
theorem dX9_dive_20 : decode cX9_dive 20 = .ok (.iconst 0, 1) := by decide +kernel
theorem dX9_dive_21 : decode cX9_dive 21 = .ok (.istore 4, 2) := by decide +kernel
theorem dX9_dive_23 : decode cX9_dive 23 = .ok (.iload 4, 2) := by decide +kernel
theorem dX9_dive_25 : decode cX9_dive 25 = .ok (.bipush 6, 2) := by decide +kernel
theorem dX9_dive_27 : decode cX9_dive 27 = .ok (.if_icmp .ge 102, 3) := by decide +kernel
theorem dX9_dive_30 : decode cX9_dive 30 = .ok (.iload_n 3, 1) := by decide +kernel
theorem dX9_dive_31 : decode cX9_dive 31 = .ok (.iload 4, 2) := by decide +kernel
theorem dX9_dive_33 : decode cX9_dive 33 = .ok (.invokestatic 59, 3) := by decide +kernel
theorem dX9_dive_36 : decode cX9_dive 36 = .ok (.ifCond .eq 6, 3) := by decide +kernel
theorem dX9_dive_39 : decode cX9_dive 39 = .ok (.goto 84, 3) := by decide +kernel
theorem dX9_dive_42 : decode cX9_dive 42 = .ok (.aload_n 0, 1) := by decide +kernel
theorem dX9_dive_43 : decode cX9_dive 43 = .ok (.iload_n 1, 1) := by decide +kernel
theorem dX9_dive_44 : decode cX9_dive 44 = .ok (.invokevirtual 63, 3) := by decide +kernel
theorem dX9_dive_47 : decode cX9_dive 47 = .ok (.iconst 0, 1) := by decide +kernel
theorem dX9_dive_48 : decode cX9_dive 48 = .ok (.istore 5, 2) := by decide +kernel
theorem dX9_dive_50 : decode cX9_dive 50 = .ok (.iload 5, 2) := by decide +kernel
theorem dX9_dive_52 : decode cX9_dive 52 = .ok (.aload_n 0, 1) := by decide +kernel
theorem dX9_dive_53 : decode cX9_dive 53 = .ok (.iload 4, 2) := by decide +kernel
theorem dX9_dive_55 : decode cX9_dive 55 = .ok (.invokevirtual 67, 3) := by decide +kernel
theorem dX9_dive_58 : decode cX9_dive 58 = .ok (.if_icmp .ge 65, 3) := by decide +kernel
theorem dX9_dive_61 : decode cX9_dive 61 = .ok (.aload_n 0, 1) := by decide +kernel
theorem dX9_dive_62 : decode cX9_dive 62 = .ok (.iload_n 1, 1) := by decide +kernel
theorem dX9_dive_63 : decode cX9_dive 63 = .ok (.iconst 1, 1) := by decide +kernel
theorem dX9_dive_64 : decode cX9_dive 64 = .ok (.iadd, 1) := by decide +kernel
theorem dX9_dive_65 : decode cX9_dive 65 = .ok (.iload 4, 2) := by decide +kernel
theorem dX9_dive_67 : decode cX9_dive 67 = .ok (.invokevirtual 70, 3) := by decide +kernel
theorem dX9_dive_70 : decode cX9_dive 70 = .ok (.aload_n 0, 1) := by decide +kernel
theorem dX9_dive_71 : decode cX9_dive 71 = .ok (.aload_n 0, 1) := by decide +kernel
theorem dX9_dive_72 : decode cX9_dive 72 = .ok (.iload_n 1, 1) := by decide +kernel
theorem dX9_dive_73 : decode cX9_dive 73 = .ok (.iconst 1, 1) := by decide +kernel
theorem dX9_dive_74 : decode cX9_dive 74 = .ok (.iadd, 1) := by decide +kernel
theorem dX9_dive_75 : decode cX9_dive 75 = .ok (.invokevirtual 43, 3) := by decide +kernel
theorem dX9_dive_78 : decode cX9_dive 78 = .ok (.invokevirtual 47, 3) := by decide +kernel
theorem dX9_dive_81 : decode cX9_dive 81 = .ok (.iload_n 2, 1) := by decide +kernel
theorem dX9_dive_82 : decode cX9_dive 82 = .ok (.if_icmp .ge 35, 3) := by decide +kernel
theorem dX9_dive_85 : decode cX9_dive 85 = .ok (.aload_n 0, 1) := by decide +kernel
theorem dX9_dive_86 : decode cX9_dive 86 = .ok (.getfield 29, 3) := by decide +kernel
theorem dX9_dive_89 : decode cX9_dive 89 = .ok (.iload_n 1, 1) := by decide +kernel
theorem dX9_dive_90 : decode cX9_dive 90 = .ok (.aload_n 0, 1) := by decide +kernel
theorem dX9_dive_91 : decode cX9_dive 91 = .ok (.iload 4, 2) := by decide +kernel
theorem dX9_dive_93 : decode cX9_dive 93 = .ok (.invokevirtual 74, 3) := by decide +kernel
theorem dX9_dive_96 : decode cX9_dive 96 = .ok (.iload 5, 2) := by decide +kernel
theorem dX9_dive_98 : decode cX9_dive 98 = .ok (.iadd, 1) := by decide +kernel
theorem dX9_dive_99 : decode cX9_dive 99 = .ok (.iastore, 1) := by decide +kernel
theorem dX9_dive_100 : decode cX9_dive 100 = .ok (.aload_n 0, 1) := by decide +kernel
theorem dX9_dive_101 : decode cX9_dive 101 = .ok (.iload_n 1, 1) := by decide +kernel
theorem dX9_dive_102 : decode cX9_dive 102 = .ok (.iconst 1, 1) := by decide +kernel
theorem dX9_dive_103 : decode cX9_dive 103 = .ok (.iadd, 1) := by decide +kernel
theorem dX9_dive_104 : decode cX9_dive 104 = .ok (.iload_n 2, 1) := by decide +kernel
theorem dX9_dive_105 : decode cX9_dive 105 = .ok (.iconst 1, 1) := by decide +kernel
theorem dX9_dive_106 : decode cX9_dive 106 = .ok (.isub, 1) := by decide +kernel
theorem dX9_dive_107 : decode cX9_dive 107 = .ok (.iload 4, 2) := by decide +kernel
theorem dX9_dive_109 : decode cX9_dive 109 = .ok (.invokevirtual 50, 3) := by decide +kernel
theorem dX9_dive_112 : decode cX9_dive 112 = .ok (.ifCond .eq 5, 3) := by decide +kernel
theorem dX9_dive_115 : decode cX9_dive 115 = .ok (.iconst 1, 1) := by decide +kernel
theorem dX9_dive_116 : decode cX9_dive 116 = .ok (.ireturn, 1) := by decide +kernel
theorem dX9_dive_117 : decode cX9_dive 117 = .ok (.iinc 5 1, 3) := by decide +kernel
theorem dX9_dive_120 : decode cX9_dive 120 = .ok (.goto (-70), 3) := by decide +kernel
theorem dX9_dive_123 : decode cX9_dive 123 = .ok (.iinc 4 1, 3) := by decide +kernel
theorem dX9_dive_126 : decode cX9_dive 126 = .ok (.goto (-103), 3) := by decide +kernel
theorem dX9_dive_129 : decode cX9_dive 129 = .ok (.iconst 0, 1) := by decide +kernel
theorem dX9_dive_130 : decode cX9_dive 130 = .ok (.ireturn, 1) := by decide +kernel
theorem dX9_isNeedless_0 : decode cX9_isNeedless 0 = .ok (.iload_n 1, 1) := by decide +kernel
theorem dX9_isNeedless_1 : decode cX9_isNeedless 1 = .ok (.iload_n 0, 1) := by decide +kernel
theorem dX9_isNeedless_2 : decode cX9_isNeedless 2 = .ok (.if_icmp .eq 19, 3) := by decide +kernel
theorem dX9_isNeedless_5 : decode cX9_isNeedless 5 = .ok (.iload_n 1, 1) := by decide +kernel
theorem dX9_isNeedless_6 : decode cX9_isNeedless 6 = .ok (.iload_n 0, 1) := by decide +kernel
theorem dX9_isNeedless_7 : decode cX9_isNeedless 7 = .ok (.iconst 1, 1) := by decide +kernel
theorem dX9_isNeedless_8 : decode cX9_isNeedless 8 = .ok (.isub, 1) := by decide +kernel
theorem dX9_isNeedless_9 : decode cX9_isNeedless 9 = .ok (.if_icmp .ne 16, 3) := by decide +kernel
theorem dX9_isNeedless_12 : decode cX9_isNeedless 12 = .ok (.iload_n 1, 1) := by decide +kernel
theorem dX9_isNeedless_13 : decode cX9_isNeedless 13 = .ok (.iconst 2, 1) := by decide +kernel
theorem dX9_isNeedless_14 : decode cX9_isNeedless 14 = .ok (.idiv, 1) := by decide +kernel
theorem dX9_isNeedless_15 : decode cX9_isNeedless 15 = .ok (.iload_n 0, 1) := by decide +kernel
theorem dX9_isNeedless_16 : decode cX9_isNeedless 16 = .ok (.iconst 2, 1) := by decide +kernel
theorem dX9_isNeedless_17 : decode cX9_isNeedless 17 = .ok (.idiv, 1) := by decide +kernel
theorem dX9_isNeedless_18 : decode cX9_isNeedless 18 = .ok (.if_icmp .ne 7, 3) := by decide +kernel
theorem dX9_isNeedless_21 : decode cX9_isNeedless 21 = .ok (.iconst 1, 1) := by decide +kernel
theorem dX9_isNeedless_22 : decode cX9_isNeedless 22 = .ok (.goto 4, 3) := by decide +kernel
theorem dX9_isNeedless_25 : decode cX9_isNeedless 25 = .ok (.iconst 0, 1) := by decide +kernel
theorem dX9_isNeedless_26 : decode cX9_isNeedless 26 = .ok (.ireturn, 1) := by decide +kernel
theorem dX9_turnsOf_0 : decode cX9_turnsOf 0 = .ok (.iload_n 1, 1) := by decide +kernel
theorem dX9_turnsOf_1 : decode cX9_turnsOf 1 = .ok (.aload_n 0, 1) := by decide +kernel
theorem dX9_turnsOf_2 : decode cX9_turnsOf 2 = .ok (.getfield 9, 3) := by decide +kernel
theorem dX9_turnsOf_5 : decode cX9_turnsOf 5 = .ok (.if_icmp .ge 7, 3) := by decide +kernel
theorem dX9_turnsOf_8 : decode cX9_turnsOf 8 = .ok (.iconst 3, 1) := by decide +kernel
theorem dX9_turnsOf_9 : decode cX9_turnsOf 9 = .ok (.goto 4, 3) := by decide +kernel
theorem dX9_turnsOf_12 : decode cX9_turnsOf 12 = .ok (.iconst 1, 1) := by decide +kernel
theorem dX9_turnsOf_13 : decode cX9_turnsOf 13 = .ok (.ireturn, 1) := by decide +kernel
theorem dX9_firstTurnOf_0 : decode cX9_firstTurnOf 0 = .ok (.iload_n 1, 1) := by decide +kernel
theorem dX9_firstTurnOf_1 : decode cX9_firstTurnOf 1 = .ok (.aload_n 0, 1) := by decide +kernel
theorem dX9_firstTurnOf_2 : decode cX9_firstTurnOf 2 = .ok (.getfield 9, 3) := by decide +kernel
theorem dX9_firstTurnOf_5 : decode cX9_firstTurnOf 5 = .ok (.if_icmp .ge 9, 3) := by decide +kernel
theorem dX9_firstTurnOf_8 : decode cX9_firstTurnOf 8 = .ok (.iconst 3, 1) := by decide +kernel
theorem dX9_firstTurnOf_9 : decode cX9_firstTurnOf 9 = .ok (.iload_n 1, 1) := by decide +kernel
theorem dX9_firstTurnOf_10 : decode cX9_firstTurnOf 10 = .ok (.imul, 1) := by decide +kernel
theorem dX9_firstTurnOf_11 : decode cX9_firstTurnOf 11 = .ok (.goto 8, 3) := by decide +kernel
theorem dX9_firstTurnOf_14 : decode cX9_firstTurnOf 14 = .ok (.iconst 3, 1) := by decide +kernel
theorem dX9_firstTurnOf_15 : decode cX9_firstTurnOf 15 = .ok (.iload_n 1, 1) := by decide +kernel
theorem dX9_firstTurnOf_16 : decode cX9_firstTurnOf 16 = .ok (.imul, 1) := by decide +kernel
theorem dX9_firstTurnOf_17 : decode cX9_firstTurnOf 17 = .ok (.iconst 1, 1) := by decide +kernel
theorem dX9_firstTurnOf_18 : decode cX9_firstTurnOf 18 = .ok (.iadd, 1) := by decide +kernel
theorem dX9_firstTurnOf_19 : decode cX9_firstTurnOf 19 = .ok (.ireturn, 1) := by decide +kernel
theorem dX9_copyDown_0 : decode cX9_copyDown 0 = .ok (.iload_n 1, 1) := by decide +kernel
theorem dX9_copyDown_1 : decode cX9_copyDown 1 = .ok (.aload_n 0, 1) := by decide +kernel
theorem dX9_copyDown_2 : decode cX9_copyDown 2 = .ok (.getfield 21, 3) := by decide +kernel
theorem dX9_copyDown_5 : decode cX9_copyDown 5 = .ok (.arraylength, 1) := by decide +kernel
theorem dX9_copyDown_6 : decode cX9_copyDown 6 = .ok (.imul, 1) := by decide +kernel
theorem dX9_copyDown_7 : decode cX9_copyDown 7 = .ok (.istore_n 2, 1) := by decide +kernel
theorem dX9_copyDown_8 : decode cX9_copyDown 8 = .ok (.aload_n 0, 1) := by decide +kernel
theorem dX9_copyDown_9 : decode cX9_copyDown 9 = .ok (.getfield 25, 3) := by decide +kernel
theorem dX9_copyDown_12 : decode cX9_copyDown 12 = .ok (.iload_n 2, 1) := by decide +kernel
theorem dX9_copyDown_13 : decode cX9_copyDown 13 = .ok (.aload_n 0, 1) := by decide +kernel
theorem dX9_copyDown_14 : decode cX9_copyDown 14 = .ok (.getfield 25, 3) := by decide +kernel
theorem dX9_copyDown_17 : decode cX9_copyDown 17 = .ok (.iload_n 2, 1) := by decide +kernel
theorem dX9_copyDown_18 : decode cX9_copyDown 18 = .ok (.aload_n 0, 1) := by decide +kernel
theorem dX9_copyDown_19 : decode cX9_copyDown 19 = .ok (.getfield 21, 3) := by decide +kernel
theorem dX9_copyDown_22 : decode cX9_copyDown 22 = .ok (.arraylength, 1) := by decide +kernel
theorem dX9_copyDown_23 : decode cX9_copyDown 23 = .ok (.iadd, 1) := by decide +kernel
theorem dX9_copyDown_24 : decode cX9_copyDown 24 = .ok (.aload_n 0, 1) := by decide +kernel
theorem dX9_copyDown_25 : decode cX9_copyDown 25 = .ok (.getfield 21, 3) := by decide +kernel
theorem dX9_copyDown_28 : decode cX9_copyDown 28 = .ok (.arraylength, 1) := by decide +kernel
theorem dX9_copyDown_29 : decode cX9_copyDown 29 = .ok (.invokestatic 77, 3) := by decide +kernel
theorem dX9_copyDown_32 : decode cX9_copyDown 32 = .ok (.return_, 1) := by decide +kernel
theorem dX9_advance_0 : decode cX9_advance 0 = .ok (.iload_n 1, 1) := by decide +kernel
theorem dX9_advance_1 : decode cX9_advance 1 = .ok (.aload_n 0, 1) := by decide +kernel
theorem dX9_advance_2 : decode cX9_advance 2 = .ok (.getfield 21, 3) := by decide +kernel
theorem dX9_advance_5 : decode cX9_advance 5 = .ok (.arraylength, 1) := by decide +kernel
theorem dX9_advance_6 : decode cX9_advance 6 = .ok (.imul, 1) := by decide +kernel
theorem dX9_advance_7 : decode cX9_advance 7 = .ok (.istore_n 3, 1) := by decide +kernel
theorem dX9_advance_8 : decode cX9_advance 8 = .ok (.iconst 0, 1) := by decide +kernel
theorem dX9_advance_9 : decode cX9_advance 9 = .ok (.istore 4, 2) := by decide +kernel
theorem dX9_advance_11 : decode cX9_advance 11 = .ok (.iload 4, 2) := by decide +kernel
theorem dX9_advance_13 : decode cX9_advance 13 = .ok (.aload_n 0, 1) := by decide +kernel
theorem dX9_advance_14 : decode cX9_advance 14 = .ok (.getfield 21, 3) := by decide +kernel
theorem dX9_advance_17 : decode cX9_advance 17 = .ok (.arraylength, 1) := by decide +kernel
theorem dX9_advance_18 : decode cX9_advance 18 = .ok (.if_icmp .ge 43, 3) := by decide +kernel
theorem dX9_advance_21 : decode cX9_advance 21 = .ok (.aload_n 0, 1) := by decide +kernel
theorem dX9_advance_22 : decode cX9_advance 22 = .ok (.getfield 25, 3) := by decide +kernel
theorem dX9_advance_25 : decode cX9_advance 25 = .ok (.iload_n 3, 1) := by decide +kernel
theorem dX9_advance_26 : decode cX9_advance 26 = .ok (.iload 4, 2) := by decide +kernel
theorem dX9_advance_28 : decode cX9_advance 28 = .ok (.iadd, 1) := by decide +kernel
theorem dX9_advance_29 : decode cX9_advance 29 = .ok (.aload_n 0, 1) := by decide +kernel
theorem dX9_advance_30 : decode cX9_advance 30 = .ok (.getfield 21, 3) := by decide +kernel
theorem dX9_advance_33 : decode cX9_advance 33 = .ok (.iload 4, 2) := by decide +kernel
theorem dX9_advance_35 : decode cX9_advance 35 = .ok (.aaload, 1) := by decide +kernel
theorem dX9_advance_36 : decode cX9_advance 36 = .ok (.getfield 83, 3) := by decide +kernel
theorem dX9_advance_39 : decode cX9_advance 39 = .ok (.bipush 6, 2) := by decide +kernel
theorem dX9_advance_41 : decode cX9_advance 41 = .ok (.aload_n 0, 1) := by decide +kernel
theorem dX9_advance_42 : decode cX9_advance 42 = .ok (.getfield 25, 3) := by decide +kernel
theorem dX9_advance_45 : decode cX9_advance 45 = .ok (.iload_n 3, 1) := by decide +kernel
theorem dX9_advance_46 : decode cX9_advance 46 = .ok (.iload 4, 2) := by decide +kernel
theorem dX9_advance_48 : decode cX9_advance 48 = .ok (.iadd, 1) := by decide +kernel
theorem dX9_advance_49 : decode cX9_advance 49 = .ok (.iaload, 1) := by decide +kernel
theorem dX9_advance_50 : decode cX9_advance 50 = .ok (.imul, 1) := by decide +kernel
theorem dX9_advance_51 : decode cX9_advance 51 = .ok (.iload_n 2, 1) := by decide +kernel
theorem dX9_advance_52 : decode cX9_advance 52 = .ok (.iadd, 1) := by decide +kernel
theorem dX9_advance_53 : decode cX9_advance 53 = .ok (.iaload, 1) := by decide +kernel
theorem dX9_advance_54 : decode cX9_advance 54 = .ok (.iastore, 1) := by decide +kernel
theorem dX9_advance_55 : decode cX9_advance 55 = .ok (.iinc 4 1, 3) := by decide +kernel
theorem dX9_advance_58 : decode cX9_advance 58 = .ok (.goto (-47), 3) := by decide +kernel
theorem dX9_advance_61 : decode cX9_advance 61 = .ok (.return_, 1) := by decide +kernel
theorem dX9_stateAt_0 : decode cX9_stateAt 0 = .ok (.iload_n 1, 1) := by decide +kernel
theorem dX9_stateAt_1 : decode cX9_stateAt 1 = .ok (.aload_n 0, 1) := by decide +kernel
theorem dX9_stateAt_2 : decode cX9_stateAt 2 = .ok (.getfield 21, 3) := by decide +kernel
theorem dX9_stateAt_5 : decode cX9_stateAt 5 = .ok (.arraylength, 1) := by decide +kernel
theorem dX9_stateAt_6 : decode cX9_stateAt 6 = .ok (.imul, 1) := by decide +kernel
theorem dX9_stateAt_7 : decode cX9_stateAt 7 = .ok (.istore_n 2, 1) := by decide +kernel
theorem dX9_stateAt_8 : decode cX9_stateAt 8 = .ok (.iconst 0, 1) := by decide +kernel
theorem dX9_stateAt_9 : decode cX9_stateAt 9 = .ok (.istore_n 3, 1) := by decide +kernel
theorem dX9_stateAt_10 : decode cX9_stateAt 10 = .ok (.iconst 0, 1) := by decide +kernel
theorem dX9_stateAt_11 : decode cX9_stateAt 11 = .ok (.istore 4, 2) := by decide +kernel
theorem dX9_stateAt_13 : decode cX9_stateAt 13 = .ok (.iload 4, 2) := by decide +kernel
theorem dX9_stateAt_15 : decode cX9_stateAt 15 = .ok (.aload_n 0, 1) := by decide +kernel
theorem dX9_stateAt_16 : decode cX9_stateAt 16 = .ok (.getfield 21, 3) := by decide +kernel
theorem dX9_stateAt_19 : decode cX9_stateAt 19 = .ok (.arraylength, 1) := by decide +kernel
theorem dX9_stateAt_20 : decode cX9_stateAt 20 = .ok (.if_icmp .ge 32, 3) := by decide +kernel
theorem dX9_stateAt_23 : decode cX9_stateAt 23 = .ok (.iload_n 3, 1) := by decide +kernel
theorem dX9_stateAt_24 : decode cX9_stateAt 24 = .ok (.aload_n 0, 1) := by decide +kernel
theorem dX9_stateAt_25 : decode cX9_stateAt 25 = .ok (.getfield 21, 3) := by decide +kernel
theorem dX9_stateAt_28 : decode cX9_stateAt 28 = .ok (.iload 4, 2) := by decide +kernel
theorem dX9_stateAt_30 : decode cX9_stateAt 30 = .ok (.aaload, 1) := by decide +kernel
theorem dX9_stateAt_31 : decode cX9_stateAt 31 = .ok (.getfield 86, 3) := by decide +kernel
theorem dX9_stateAt_34 : decode cX9_stateAt 34 = .ok (.imul, 1) := by decide +kernel
theorem dX9_stateAt_35 : decode cX9_stateAt 35 = .ok (.aload_n 0, 1) := by decide +kernel
theorem dX9_stateAt_36 : decode cX9_stateAt 36 = .ok (.getfield 25, 3) := by decide +kernel
theorem dX9_stateAt_39 : decode cX9_stateAt 39 = .ok (.iload_n 2, 1) := by decide +kernel
theorem dX9_stateAt_40 : decode cX9_stateAt 40 = .ok (.iload 4, 2) := by decide +kernel
theorem dX9_stateAt_42 : decode cX9_stateAt 42 = .ok (.iadd, 1) := by decide +kernel
theorem dX9_stateAt_43 : decode cX9_stateAt 43 = .ok (.iaload, 1) := by decide +kernel
theorem dX9_stateAt_44 : decode cX9_stateAt 44 = .ok (.iadd, 1) := by decide +kernel
theorem dX9_stateAt_45 : decode cX9_stateAt 45 = .ok (.istore_n 3, 1) := by decide +kernel
theorem dX9_stateAt_46 : decode cX9_stateAt 46 = .ok (.iinc 4 1, 3) := by decide +kernel
theorem dX9_stateAt_49 : decode cX9_stateAt 49 = .ok (.goto (-36), 3) := by decide +kernel
theorem dX9_stateAt_52 : decode cX9_stateAt 52 = .ok (.iload_n 3, 1) := by decide +kernel
theorem dX9_stateAt_53 : decode cX9_stateAt 53 = .ok (.ireturn, 1) := by decide +kernel
theorem dX9_showState_0 : decode cX9_showState 0 = .ok (.iload_n 1, 1) := by decide +kernel
theorem dX9_showState_1 : decode cX9_showState 1 = .ok (.istore_n 2, 1) := by decide +kernel
theorem dX9_showState_2 : decode cX9_showState 2 = .ok (.aload_n 0, 1) := by decide +kernel
theorem dX9_showState_3 : decode cX9_showState 3 = .ok (.getfield 21, 3) := by decide +kernel
theorem dX9_showState_6 : decode cX9_showState 6 = .ok (.arraylength, 1) := by decide +kernel
theorem dX9_showState_7 : decode cX9_showState 7 = .ok (.iconst 1, 1) := by decide +kernel
theorem dX9_showState_8 : decode cX9_showState 8 = .ok (.isub, 1) := by decide +kernel
theorem dX9_showState_9 : decode cX9_showState 9 = .ok (.istore_n 3, 1) := by decide +kernel
theorem dX9_showState_10 : decode cX9_showState 10 = .ok (.iload_n 3, 1) := by decide +kernel
theorem dX9_showState_11 : decode cX9_showState 11 = .ok (.ifCond .lt 38, 3) := by decide +kernel
theorem dX9_showState_14 : decode cX9_showState 14 = .ok (.aload_n 0, 1) := by decide +kernel
theorem dX9_showState_15 : decode cX9_showState 15 = .ok (.getfield 25, 3) := by decide +kernel
theorem dX9_showState_18 : decode cX9_showState 18 = .ok (.iload_n 3, 1) := by decide +kernel
theorem dX9_showState_19 : decode cX9_showState 19 = .ok (.iload_n 2, 1) := by decide +kernel
theorem dX9_showState_20 : decode cX9_showState 20 = .ok (.aload_n 0, 1) := by decide +kernel
theorem dX9_showState_21 : decode cX9_showState 21 = .ok (.getfield 21, 3) := by decide +kernel
theorem dX9_showState_24 : decode cX9_showState 24 = .ok (.iload_n 3, 1) := by decide +kernel
theorem dX9_showState_25 : decode cX9_showState 25 = .ok (.aaload, 1) := by decide +kernel
theorem dX9_showState_26 : decode cX9_showState 26 = .ok (.getfield 86, 3) := by decide +kernel
theorem dX9_showState_29 : decode cX9_showState 29 = .ok (.irem, 1) := by decide +kernel
theorem dX9_showState_30 : decode cX9_showState 30 = .ok (.iastore, 1) := by decide +kernel
theorem dX9_showState_31 : decode cX9_showState 31 = .ok (.iload_n 2, 1) := by decide +kernel
theorem dX9_showState_32 : decode cX9_showState 32 = .ok (.aload_n 0, 1) := by decide +kernel
theorem dX9_showState_33 : decode cX9_showState 33 = .ok (.getfield 21, 3) := by decide +kernel
theorem dX9_showState_36 : decode cX9_showState 36 = .ok (.iload_n 3, 1) := by decide +kernel
theorem dX9_showState_37 : decode cX9_showState 37 = .ok (.aaload, 1) := by decide +kernel
theorem dX9_showState_38 : decode cX9_showState 38 = .ok (.getfield 86, 3) := by decide +kernel
theorem dX9_showState_41 : decode cX9_showState 41 = .ok (.idiv, 1) := by decide +kernel
theorem dX9_showState_42 : decode cX9_showState 42 = .ok (.istore_n 2, 1) := by decide +kernel
theorem dX9_showState_43 : decode cX9_showState 43 = .ok (.iinc 3 (-1), 3) := by decide +kernel
theorem dX9_showState_46 : decode cX9_showState 46 = .ok (.goto (-36), 3) := by decide +kernel
theorem dX9_showState_49 : decode cX9_showState 49 = .ok (.return_, 1) := by decide +kernel
set_option maxRecDepth 20000 in
theorem ggX9_turnsToGoal_X9_stored : GoodIn wsX9_turnsToGoal wsX9_stored := goodIn_r _ [6, 7, 8, 9, 10, 11, 12, 13, 14] (by decide +kernel) (by decide +kernel)
set_option maxRecDepth 20000 in
theorem gX9_turnsToGoal_X9_stored : GoodIn wsX9_turnsToGoal (wsV RX9 89 RX9 yX9_stored wsX9_stored) := goodIn_app (goodIn_of _ (by decide +kernel)) ggX9_turnsToGoal_X9_stored
theorem dX9_turnsToGoal_0 : decode cX9_turnsToGoal 0 = .ok (.aload_n 0, 1) := by decide +kernel
theorem dX9_turnsToGoal_1 : decode cX9_turnsToGoal 1 = .ok (.iload_n 1, 1) := by decide +kernel
theorem dX9_turnsToGoal_2 : decode cX9_turnsToGoal 2 = .ok (.invokevirtual 89, 3) := by decide +kernel
theorem dX9_turnsToGoal_5 : decode cX9_turnsToGoal 5 = .ok (.istore_n 2, 1) := by decide +kernel
theorem dX9_turnsToGoal_6 : decode cX9_turnsToGoal 6 = .ok (.iload_n 2, 1) := by decide +kernel
theorem dX9_turnsToGoal_7 : decode cX9_turnsToGoal 7 = .ok (.ifCond .ne 12, 3) := by decide +kernel
theorem dX9_turnsToGoal_10 : decode cX9_turnsToGoal 10 = .ok (.aload_n 0, 1) := by decide +kernel
theorem dX9_turnsToGoal_11 : decode cX9_turnsToGoal 11 = .ok (.getfield 15, 3) := by decide +kernel
theorem dX9_turnsToGoal_14 : decode cX9_turnsToGoal 14 = .ok (.iconst 1, 1) := by decide +kernel
theorem dX9_turnsToGoal_15 : decode cX9_turnsToGoal 15 = .ok (.iadd, 1) := by decide +kernel
theorem dX9_turnsToGoal_16 : decode cX9_turnsToGoal 16 = .ok (.goto 6, 3) := by decide +kernel
theorem dX9_turnsToGoal_19 : decode cX9_turnsToGoal 19 = .ok (.iload_n 2, 1) := by decide +kernel
theorem dX9_turnsToGoal_20 : decode cX9_turnsToGoal 20 = .ok (.iconst 1, 1) := by decide +kernel
theorem dX9_turnsToGoal_21 : decode cX9_turnsToGoal 21 = .ok (.isub, 1) := by decide +kernel
theorem dX9_turnsToGoal_22 : decode cX9_turnsToGoal 22 = .ok (.ireturn, 1) := by decide +kernel
theorem dX9_stored_0 : decode cX9_stored 0 = .ok (.aload_n 0, 1) := by decide +kernel
theorem dX9_stored_1 : decode cX9_stored 1 = .ok (.getfield 36, 3) := by decide +kernel
theorem dX9_stored_4 : decode cX9_stored 4 = .ok (.iload_n 1, 1) := by decide +kernel
theorem dX9_stored_5 : decode cX9_stored 5 = .ok (.iconst 4, 1) := by decide +kernel
theorem dX9_stored_6 : decode cX9_stored 6 = .ok (.ishr, 1) := by decide +kernel
theorem dX9_stored_7 : decode cX9_stored 7 = .ok (.laload, 1) := by decide +kernel
theorem dX9_stored_8 : decode cX9_stored 8 = .ok (.iconst 4, 1) := by decide +kernel
theorem dX9_stored_9 : decode cX9_stored 9 = .ok (.iload_n 1, 1) := by decide +kernel
theorem dX9_stored_10 : decode cX9_stored 10 = .ok (.bipush 15, 2) := by decide +kernel
theorem dX9_stored_12 : decode cX9_stored 12 = .ok (.iand, 1) := by decide +kernel
theorem dX9_stored_13 : decode cX9_stored 13 = .ok (.imul, 1) := by decide +kernel
theorem dX9_stored_14 : decode cX9_stored 14 = .ok (.lushr, 1) := by decide +kernel
theorem dX9_stored_15 : decode cX9_stored 15 = .ok (.l2i, 1) := by decide +kernel
theorem dX9_stored_16 : decode cX9_stored 16 = .ok (.bipush 15, 2) := by decide +kernel
theorem dX9_stored_18 : decode cX9_stored 18 = .ok (.iand, 1) := by decide +kernel
theorem dX9_stored_19 : decode cX9_stored 19 = .ok (.ireturn, 1) := by decide +kernel
theorem dX9_store_0 : decode cX9_store 0 = .ok (.aload_n 0, 1) := by decide +kernel
theorem dX9_store_1 : decode cX9_store 1 = .ok (.getfield 36, 3) := by decide +kernel
theorem dX9_store_4 : decode cX9_store 4 = .ok (.iload_n 1, 1) := by decide +kernel
theorem dX9_store_5 : decode cX9_store 5 = .ok (.iconst 4, 1) := by decide +kernel
theorem dX9_store_6 : decode cX9_store 6 = .ok (.ishr, 1) := by decide +kernel
theorem dX9_store_7 : decode cX9_store 7 = .ok (.dup2, 1) := by decide +kernel
theorem dX9_store_8 : decode cX9_store 8 = .ok (.laload, 1) := by decide +kernel
theorem dX9_store_9 : decode cX9_store 9 = .ok (.iload_n 2, 1) := by decide +kernel
theorem dX9_store_10 : decode cX9_store 10 = .ok (.i2l, 1) := by decide +kernel
theorem dX9_store_11 : decode cX9_store 11 = .ok (.lconst 1, 1) := by decide +kernel
theorem dX9_store_12 : decode cX9_store 12 = .ok (.ladd, 1) := by decide +kernel
theorem dX9_store_13 : decode cX9_store 13 = .ok (.iconst 4, 1) := by decide +kernel
theorem dX9_store_14 : decode cX9_store 14 = .ok (.iload_n 1, 1) := by decide +kernel
theorem dX9_store_15 : decode cX9_store 15 = .ok (.bipush 15, 2) := by decide +kernel
theorem dX9_store_17 : decode cX9_store 17 = .ok (.iand, 1) := by decide +kernel
theorem dX9_store_18 : decode cX9_store 18 = .ok (.imul, 1) := by decide +kernel
theorem dX9_store_19 : decode cX9_store 19 = .ok (.lshl, 1) := by decide +kernel
theorem dX9_store_20 : decode cX9_store 20 = .ok (.lor, 1) := by decide +kernel
theorem dX9_store_21 : decode cX9_store 21 = .ok (.lastore, 1) := by decide +kernel
theorem dX9_store_22 : decode cX9_store 22 = .ok (.return_, 1) := by decide +kernel
set_option maxRecDepth 20000 in
theorem ggX9_prepare_X2_learn : GoodIn wsX9_prepare wsX2_learn := goodIn_r _ [11, 12, 13, 14, 15, 16, 17, 18, 19, 20, 21, 22, 23, 24, 25, 26, 27, 28, 29, 30, 31, 32, 33, 34, 35, 36, 37, 38, 39, 40, 41, 42, 43, 44, 45, 46, 47, 48, 49, 50, 51, 52, 53, 54, 55, 56, 57, 58, 59, 60, 61, 62, 63, 64, 65, 66, 67, 68, 69, 70, 71, 72, 73, 74, 75, 76, 77, 78, 79, 80, 81, 82, 83, 84, 85, 86, 87, 88, 89, 90, 91, 92, 93, 94, 95, 96, 97, 98, 99, 100, 101, 102, 103, 104, 105, 106, 107, 108, 109, 110, 111, 112, 113, 114, 115, 116, 117, 118, 119, 120, 121, 122, 123, 124, 125, 126, 127, 128, 129, 130, 131, 132, 133, 134, 214, 215, 216, 217, 218, 219, 191, 192, 193, 194, 195, 196, 197, 198, 199, 200, 201, 202, 203, 204, 205, 206, 207, 208, 209, 210, 211, 212, 213] (by decide +kernel) (by decide +kernel)
set_option maxRecDepth 20000 in
theorem gX9_prepare_X2_learn_u92X0 : GoodIn wsX9_prepare (va_wsU RX9 92 RX0 "StageCube$Feature" ⟨"StageCube$Feature", "learn", "(I)V"⟩ yX2_learn wsX2_learn) := goodIn_app (goodIn_of _ (by decide +kernel)) ggX9_prepare_X2_learn
set_option maxRecDepth 20000 in
theorem gX9_prepare_X2_learn_u92X3 : GoodIn wsX9_prepare (va_wsU RX9 92 RX3 "StageCube$Feature" ⟨"StageCube$Feature", "learn", "(I)V"⟩ yX2_learn wsX2_learn) := goodIn_app (goodIn_of _ (by decide +kernel)) ggX9_prepare_X2_learn
set_option maxRecDepth 20000 in
theorem gX9_prepare_X2_learn_u92X5 : GoodIn wsX9_prepare (va_wsU RX9 92 RX5 "StageCube$Feature" ⟨"StageCube$Feature", "learn", "(I)V"⟩ yX2_learn wsX2_learn) := goodIn_app (goodIn_of _ (by decide +kernel)) ggX9_prepare_X2_learn
set_option maxRecDepth 20000 in
theorem gX9_prepare_X2_learn_u92X6 : GoodIn wsX9_prepare (va_wsU RX9 92 RX6 "StageCube$Feature" ⟨"StageCube$Feature", "learn", "(I)V"⟩ yX2_learn wsX2_learn) := goodIn_app (goodIn_of _ (by decide +kernel)) ggX9_prepare_X2_learn
set_option maxRecDepth 20000 in
theorem gX9_prepare_X2_learn_u92X8 : GoodIn wsX9_prepare (va_wsU RX9 92 RX8 "StageCube$Feature" ⟨"StageCube$Feature", "learn", "(I)V"⟩ yX2_learn wsX2_learn) := goodIn_app (goodIn_of _ (by decide +kernel)) ggX9_prepare_X2_learn
set_option maxRecDepth 20000 in
theorem ggX9_prepare_X9_spreadFromGoal : GoodIn wsX9_prepare wsX9_spreadFromGoal := goodIn_r _ [143, 144, 17, 145, 146, 147, 142, 148, 5, 149, 150, 151, 152, 153, 154, 155, 156, 157, 158, 159, 160, 161, 1, 162, 3, 163, 164, 165, 166, 167, 168, 169, 170, 171, 172, 173, 174, 2, 175, 176, 177, 178, 179, 180, 181, 182, 183, 184, 185, 186, 187, 188, 189, 190, 191, 192, 193, 194, 195, 196, 197, 198, 199, 200, 201, 202, 203, 204, 205, 206, 207, 208, 209, 210, 211, 212, 213] (by decide +kernel) (by decide +kernel)
set_option maxRecDepth 20000 in
theorem gX9_prepare_X9_spreadFromGoal : GoodIn wsX9_prepare (wsV RX9 95 RX9 yX9_spreadFromGoal wsX9_spreadFromGoal) := goodIn_app (goodIn_of _ (by decide +kernel)) ggX9_prepare_X9_spreadFromGoal
theorem dX9_prepare_0 : decode cX9_prepare 0 = .ok (.iconst 1, 1) := by decide +kernel
theorem dX9_prepare_1 : decode cX9_prepare 1 = .ok (.istore_n 1, 1) := by decide +kernel
theorem dX9_prepare_2 : decode cX9_prepare 2 = .ok (.iconst 0, 1) := by decide +kernel
theorem dX9_prepare_3 : decode cX9_prepare 3 = .ok (.istore_n 2, 1) := by decide +kernel
theorem dX9_prepare_4 : decode cX9_prepare 4 = .ok (.iload_n 2, 1) := by decide +kernel
theorem dX9_prepare_5 : decode cX9_prepare 5 = .ok (.aload_n 0, 1) := by decide +kernel
theorem dX9_prepare_6 : decode cX9_prepare 6 = .ok (.getfield 21, 3) := by decide +kernel
theorem dX9_prepare_9 : decode cX9_prepare 9 = .ok (.arraylength, 1) := by decide +kernel
theorem dX9_prepare_10 : decode cX9_prepare 10 = .ok (.if_icmp .ge 34, 3) := by decide +kernel
theorem dX9_prepare_13 : decode cX9_prepare 13 = .ok (.aload_n 0, 1) := by decide +kernel
theorem dX9_prepare_14 : decode cX9_prepare 14 = .ok (.getfield 21, 3) := by decide +kernel
theorem dX9_prepare_17 : decode cX9_prepare 17 = .ok (.iload_n 2, 1) := by decide +kernel
theorem dX9_prepare_18 : decode cX9_prepare 18 = .ok (.aaload, 1) := by decide +kernel
theorem dX9_prepare_19 : decode cX9_prepare 19 = .ok (.aload_n 0, 1) := by decide +kernel
theorem dX9_prepare_20 : decode cX9_prepare 20 = .ok (.getfield 9, 3) := by decide +kernel
theorem dX9_prepare_23 : decode cX9_prepare 23 = .ok (.invokevirtual 92, 3) := by decide +kernel
theorem dX9_prepare_26 : decode cX9_prepare 26 = .ok (.iload_n 1, 1) := by decide +kernel
theorem dX9_prepare_27 : decode cX9_prepare 27 = .ok (.aload_n 0, 1) := by decide +kernel
theorem dX9_prepare_28 : decode cX9_prepare 28 = .ok (.getfield 21, 3) := by decide +kernel
theorem dX9_prepare_31 : decode cX9_prepare 31 = .ok (.iload_n 2, 1) := by decide +kernel
theorem dX9_prepare_32 : decode cX9_prepare 32 = .ok (.aaload, 1) := by decide +kernel
theorem dX9_prepare_33 : decode cX9_prepare 33 = .ok (.getfield 86, 3) := by decide +kernel
theorem dX9_prepare_36 : decode cX9_prepare 36 = .ok (.imul, 1) := by decide +kernel
theorem dX9_prepare_37 : decode cX9_prepare 37 = .ok (.istore_n 1, 1) := by decide +kernel
theorem dX9_prepare_38 : decode cX9_prepare 38 = .ok (.iinc 2 1, 3) := by decide +kernel
theorem dX9_prepare_41 : decode cX9_prepare 41 = .ok (.goto (-37), 3) := by decide +kernel
theorem dX9_prepare_44 : decode cX9_prepare 44 = .ok (.aload_n 0, 1) := by decide +kernel
theorem dX9_prepare_45 : decode cX9_prepare 45 = .ok (.iload_n 1, 1) := by decide +kernel
theorem dX9_prepare_46 : decode cX9_prepare 46 = .ok (.bipush 15, 2) := by decide +kernel
theorem dX9_prepare_48 : decode cX9_prepare 48 = .ok (.iadd, 1) := by decide +kernel
theorem dX9_prepare_49 : decode cX9_prepare 49 = .ok (.bipush 16, 2) := by decide +kernel
theorem dX9_prepare_51 : decode cX9_prepare 51 = .ok (.idiv, 1) := by decide +kernel
theorem dX9_prepare_52 : decode cX9_prepare 52 = .ok (.newarray .long, 2) := by decide +kernel
theorem dX9_prepare_54 : decode cX9_prepare 54 = .ok (.putfield 36, 3) := by decide +kernel
theorem dX9_prepare_57 : decode cX9_prepare 57 = .ok (.aload_n 0, 1) := by decide +kernel
theorem dX9_prepare_58 : decode cX9_prepare 58 = .ok (.invokevirtual 95, 3) := by decide +kernel
theorem dX9_prepare_61 : decode cX9_prepare 61 = .ok (.return_, 1) := by decide +kernel
set_option maxRecDepth 20000 in
theorem ggX9_spreadFromGoal_X9_store : GoodIn wsX9_spreadFromGoal wsX9_store := goodIn_r _ [7, 8, 47, 48, 49, 50, 51, 52, 53] (by decide +kernel) (by decide +kernel)
set_option maxRecDepth 20000 in
theorem gX9_spreadFromGoal_X9_store : GoodIn wsX9_spreadFromGoal (wsV RX9 98 RX9 yX9_store wsX9_store) := goodIn_app (goodIn_of _ (by decide +kernel)) ggX9_spreadFromGoal_X9_store
set_option maxRecDepth 20000 in
theorem ggX9_spreadFromGoal_X9_spread : GoodIn wsX9_spreadFromGoal wsX9_spread := goodIn_r _ [12, 13, 14, 15, 16, 6, 17, 8, 18, 19, 20, 21, 22, 23, 24, 25, 26, 27, 28, 29, 30, 31, 32, 33, 34, 35, 36, 37, 38, 39, 40, 41, 42, 43, 44, 45, 46, 3, 4, 5, 7, 47, 48, 49, 50, 51, 52, 53, 54, 55, 56, 57, 58, 59, 60, 61, 62, 63, 64, 65, 66, 67, 68, 69, 70, 71, 72, 73, 74, 75, 76] (by decide +kernel) (by decide +kernel)
set_option maxRecDepth 20000 in
theorem gX9_spreadFromGoal_X9_spread : GoodIn wsX9_spreadFromGoal (wsV RX9 101 RX9 yX9_spread wsX9_spread) := goodIn_app (goodIn_of _ (by decide +kernel)) ggX9_spreadFromGoal_X9_spread
theorem dX9_spreadFromGoal_0 : decode cX9_spreadFromGoal 0 = .ok (.aload_n 0, 1) := by decide +kernel
theorem dX9_spreadFromGoal_1 : decode cX9_spreadFromGoal 1 = .ok (.getfield 18, 3) := by decide +kernel
theorem dX9_spreadFromGoal_4 : decode cX9_spreadFromGoal 4 = .ok (.newarray .int, 2) := by decide +kernel
theorem dX9_spreadFromGoal_6 : decode cX9_spreadFromGoal 6 = .ok (.astore_n 1, 1) := by decide +kernel
theorem dX9_spreadFromGoal_7 : decode cX9_spreadFromGoal 7 = .ok (.iconst 1, 1) := by decide +kernel
theorem dX9_spreadFromGoal_8 : decode cX9_spreadFromGoal 8 = .ok (.istore_n 2, 1) := by decide +kernel
theorem dX9_spreadFromGoal_9 : decode cX9_spreadFromGoal 9 = .ok (.aload_n 0, 1) := by decide +kernel
theorem dX9_spreadFromGoal_10 : decode cX9_spreadFromGoal 10 = .ok (.iconst 0, 1) := by decide +kernel
theorem dX9_spreadFromGoal_11 : decode cX9_spreadFromGoal 11 = .ok (.iconst 0, 1) := by decide +kernel
theorem dX9_spreadFromGoal_12 : decode cX9_spreadFromGoal 12 = .ok (.invokevirtual 98, 3) := by decide +kernel
theorem dX9_spreadFromGoal_15 : decode cX9_spreadFromGoal 15 = .ok (.iconst 0, 1) := by decide +kernel
theorem dX9_spreadFromGoal_16 : decode cX9_spreadFromGoal 16 = .ok (.istore_n 3, 1) := by decide +kernel
theorem dX9_spreadFromGoal_17 : decode cX9_spreadFromGoal 17 = .ok (.iload_n 3, 1) := by decide +kernel
theorem dX9_spreadFromGoal_18 : decode cX9_spreadFromGoal 18 = .ok (.iload_n 2, 1) := by decide +kernel
theorem dX9_spreadFromGoal_19 : decode cX9_spreadFromGoal 19 = .ok (.if_icmp .ge 25, 3) := by decide +kernel
theorem dX9_spreadFromGoal_22 : decode cX9_spreadFromGoal 22 = .ok (.iload_n 3, 1) := by decide +kernel
theorem dX9_spreadFromGoal_23 : decode cX9_spreadFromGoal 23 = .ok (.aload_n 1, 1) := by decide +kernel
theorem dX9_spreadFromGoal_24 : decode cX9_spreadFromGoal 24 = .ok (.arraylength, 1) := by decide +kernel
theorem dX9_spreadFromGoal_25 : decode cX9_spreadFromGoal 25 = .ok (.if_icmp .ge 19, 3) := by decide +kernel
theorem dX9_spreadFromGoal_28 : decode cX9_spreadFromGoal 28 = .ok (.aload_n 0, 1) := by decide +kernel
theorem dX9_spreadFromGoal_29 : decode cX9_spreadFromGoal 29 = .ok (.aload_n 1, 1) := by decide +kernel
theorem dX9_spreadFromGoal_30 : decode cX9_spreadFromGoal 30 = .ok (.iload_n 3, 1) := by decide +kernel
theorem dX9_spreadFromGoal_31 : decode cX9_spreadFromGoal 31 = .ok (.iaload, 1) := by decide +kernel
theorem dX9_spreadFromGoal_32 : decode cX9_spreadFromGoal 32 = .ok (.aload_n 1, 1) := by decide +kernel
theorem dX9_spreadFromGoal_33 : decode cX9_spreadFromGoal 33 = .ok (.iload_n 2, 1) := by decide +kernel
theorem dX9_spreadFromGoal_34 : decode cX9_spreadFromGoal 34 = .ok (.invokevirtual 101, 3) := by decide +kernel
theorem dX9_spreadFromGoal_37 : decode cX9_spreadFromGoal 37 = .ok (.istore_n 2, 1) := by decide +kernel
theorem dX9_spreadFromGoal_38 : decode cX9_spreadFromGoal 38 = .ok (.iinc 3 1, 3) := by decide +kernel
theorem dX9_spreadFromGoal_41 : decode cX9_spreadFromGoal 41 = .ok (.goto (-24), 3) := by decide +kernel
theorem dX9_spreadFromGoal_44 : decode cX9_spreadFromGoal 44 = .ok (.return_, 1) := by decide +kernel
set_option maxRecDepth 20000 in
theorem ggX9_spread_X9_stored : GoodIn wsX9_spread wsX9_stored := goodIn_r _ [6, 7, 41, 42, 43, 44, 45, 46, 47] (by decide +kernel) (by decide +kernel)
set_option maxRecDepth 20000 in
theorem gX9_spread_X9_stored : GoodIn wsX9_spread (wsV RX9 89 RX9 yX9_stored wsX9_stored) := goodIn_app (goodIn_of _ (by decide +kernel)) ggX9_spread_X9_stored
set_option maxRecDepth 20000 in
theorem ggX9_spread_X9_showState : GoodIn wsX9_spread wsX9_showState := goodIn_r _ [11, 12, 13, 14, 41, 42, 43, 44, 45, 46, 47, 48, 49, 50, 51, 52, 53, 54, 55, 56, 57, 58, 59, 60, 61, 62, 63, 64, 65, 66, 67, 68, 69, 70] (by decide +kernel) (by decide +kernel)
set_option maxRecDepth 20000 in
theorem gX9_spread_X9_showState : GoodIn wsX9_spread (wsV RX9 105 RX9 yX9_showState wsX9_showState) := goodIn_app (goodIn_of _ (by decide +kernel)) ggX9_spread_X9_showState
set_option maxRecDepth 20000 in
theorem ggX9_spread_X9_copyDown : GoodIn wsX9_spread wsX9_copyDown := goodIn_r _ [18, 12, 13, 19, 20, 21, 22, 41, 42, 43, 44, 45, 46, 47] (by decide +kernel) (by decide +kernel)
set_option maxRecDepth 20000 in
theorem gX9_spread_X9_copyDown : GoodIn wsX9_spread (wsV RX9 63 RX9 yX9_copyDown wsX9_copyDown) := goodIn_app (goodIn_of _ (by decide +kernel)) ggX9_spread_X9_copyDown
set_option maxRecDepth 20000 in
theorem ggX9_spread_X9_turnsOf : GoodIn wsX9_spread wsX9_turnsOf := goodIn_r _ [26, 27, 41, 42, 43, 44, 45, 46, 47] (by decide +kernel) (by decide +kernel)
set_option maxRecDepth 20000 in
theorem gX9_spread_X9_turnsOf : GoodIn wsX9_spread (wsV RX9 67 RX9 yX9_turnsOf wsX9_turnsOf) := goodIn_app (goodIn_of _ (by decide +kernel)) ggX9_spread_X9_turnsOf
set_option maxRecDepth 20000 in
theorem ggX9_spread_X9_advance : GoodIn wsX9_spread wsX9_advance := goodIn_r _ [31, 12, 13, 32, 41, 42, 43, 44, 45, 46, 47, 48, 49, 50, 51, 52, 53, 54, 55, 56, 57, 58, 59, 60, 61, 62, 63, 64, 65, 66, 67, 68, 69, 70] (by decide +kernel) (by decide +kernel)
set_option maxRecDepth 20000 in
theorem gX9_spread_X9_advance : GoodIn wsX9_spread (wsV RX9 70 RX9 yX9_advance wsX9_advance) := goodIn_app (goodIn_of _ (by decide +kernel)) ggX9_spread_X9_advance
set_option maxRecDepth 20000 in
theorem ggX9_spread_X9_stateAt : GoodIn wsX9_spread wsX9_stateAt := goodIn_r _ [36, 12, 14, 13, 41, 42, 43, 44, 45, 46, 47, 48, 49, 50, 51, 52, 53, 54, 55, 56, 57, 58, 59, 60, 61, 62, 63, 64, 65, 66, 67, 68, 69, 70] (by decide +kernel) (by decide +kernel)
set_option maxRecDepth 20000 in
theorem gX9_spread_X9_stateAt : GoodIn wsX9_spread (wsV RX9 43 RX9 yX9_stateAt wsX9_stateAt) := goodIn_app (goodIn_of _ (by decide +kernel)) ggX9_spread_X9_stateAt
set_option maxRecDepth 20000 in
theorem ggX9_spread_X9_store : GoodIn wsX9_spread wsX9_store := goodIn_r _ [40, 7, 41, 42, 43, 44, 45, 46, 47] (by decide +kernel) (by decide +kernel)
set_option maxRecDepth 20000 in
theorem gX9_spread_X9_store : GoodIn wsX9_spread (wsV RX9 98 RX9 yX9_store wsX9_store) := goodIn_app (goodIn_of _ (by decide +kernel)) ggX9_spread_X9_store
theorem dX9_spread_0 : decode cX9_spread 0 = .ok (.iload_n 3, 1) := by decide +kernel
theorem dX9_spread_1 : decode cX9_spread 1 = .ok (.istore 4, 2) := by decide +kernel
theorem dX9_spread_3 : decode cX9_spread 3 = .ok (.aload_n 0, 1) := by decide +kernel
theorem dX9_spread_4 : decode cX9_spread 4 = .ok (.iload_n 1, 1) := by decide +kernel
theorem dX9_spread_5 : decode cX9_spread 5 = .ok (.invokevirtual 89, 3) := by decide +kernel
theorem dX9_spread_8 : decode cX9_spread 8 = .ok (.istore 5, 2) := by decide +kernel
theorem dX9_spread_10 : decode cX9_spread 10 = .ok (.aload_n 0, 1) := by decide +kernel
theorem dX9_spread_11 : decode cX9_spread 11 = .ok (.iload_n 1, 1) := by decide +kernel
theorem dX9_spread_12 : decode cX9_spread 12 = .ok (.invokevirtual 105, 3) := by decide +kernel
theorem dX9_spread_15 : decode cX9_spread 15 = .ok (.iconst 0, 1) := by decide +kernel
theorem dX9_spread_16 : decode cX9_spread 16 = .ok (.istore 6, 2) := by decide +kernel
theorem dX9_spread_18 : decode cX9_spread 18 = .ok (.iload 6, 2) := by decide +kernel
theorem dX9_spread_20 : decode cX9_spread 20 = .ok (.bipush 6, 2) := by decide +kernel
theorem dX9_spread_22 : decode cX9_spread 22 = .ok (.if_icmp .ge 90, 3) := by decide +kernel
theorem dX9_spread_25 : decode cX9_spread 25 = .ok (.aload_n 0, 1) := by decide +kernel
theorem dX9_spread_26 : decode cX9_spread 26 = .ok (.iconst 0, 1) := by decide +kernel
theorem dX9_spread_27 : decode cX9_spread 27 = .ok (.invokevirtual 63, 3) := by decide +kernel
theorem dX9_spread_30 : decode cX9_spread 30 = .ok (.iconst 0, 1) := by decide +kernel
theorem dX9_spread_31 : decode cX9_spread 31 = .ok (.istore 7, 2) := by decide +kernel
theorem dX9_spread_33 : decode cX9_spread 33 = .ok (.iload 7, 2) := by decide +kernel
theorem dX9_spread_35 : decode cX9_spread 35 = .ok (.aload_n 0, 1) := by decide +kernel
theorem dX9_spread_36 : decode cX9_spread 36 = .ok (.iload 6, 2) := by decide +kernel
theorem dX9_spread_38 : decode cX9_spread 38 = .ok (.invokevirtual 67, 3) := by decide +kernel
theorem dX9_spread_41 : decode cX9_spread 41 = .ok (.if_icmp .ge 65, 3) := by decide +kernel
theorem dX9_spread_44 : decode cX9_spread 44 = .ok (.aload_n 0, 1) := by decide +kernel
theorem dX9_spread_45 : decode cX9_spread 45 = .ok (.iconst 1, 1) := by decide +kernel
theorem dX9_spread_46 : decode cX9_spread 46 = .ok (.iload 6, 2) := by decide +kernel
theorem dX9_spread_48 : decode cX9_spread 48 = .ok (.invokevirtual 70, 3) := by decide +kernel
theorem dX9_spread_51 : decode cX9_spread 51 = .ok (.aload_n 0, 1) := by decide +kernel
theorem dX9_spread_52 : decode cX9_spread 52 = .ok (.iconst 1, 1) := by decide +kernel
theorem dX9_spread_53 : decode cX9_spread 53 = .ok (.invokevirtual 43, 3) := by decide +kernel
theorem dX9_spread_56 : decode cX9_spread 56 = .ok (.istore 8, 2) := by decide +kernel
theorem dX9_spread_58 : decode cX9_spread 58 = .ok (.aload_n 0, 1) := by decide +kernel
theorem dX9_spread_59 : decode cX9_spread 59 = .ok (.iload 8, 2) := by decide +kernel
theorem dX9_spread_61 : decode cX9_spread 61 = .ok (.invokevirtual 89, 3) := by decide +kernel
theorem dX9_spread_64 : decode cX9_spread 64 = .ok (.ifCond .ne 36, 3) := by decide +kernel
theorem dX9_spread_67 : decode cX9_spread 67 = .ok (.aload_n 0, 1) := by decide +kernel
theorem dX9_spread_68 : decode cX9_spread 68 = .ok (.iload 8, 2) := by decide +kernel
theorem dX9_spread_70 : decode cX9_spread 70 = .ok (.iload 5, 2) := by decide +kernel
theorem dX9_spread_72 : decode cX9_spread 72 = .ok (.invokevirtual 98, 3) := by decide +kernel
theorem dX9_spread_75 : decode cX9_spread 75 = .ok (.iload 5, 2) := by decide +kernel
theorem dX9_spread_77 : decode cX9_spread 77 = .ok (.aload_n 0, 1) := by decide +kernel
theorem dX9_spread_78 : decode cX9_spread 78 = .ok (.getfield 15, 3) := by decide +kernel
theorem dX9_spread_81 : decode cX9_spread 81 = .ok (.if_icmp .ge 19, 3) := by decide +kernel
theorem dX9_spread_84 : decode cX9_spread 84 = .ok (.iload 4, 2) := by decide +kernel
theorem dX9_spread_86 : decode cX9_spread 86 = .ok (.aload_n 2, 1) := by decide +kernel
theorem dX9_spread_87 : decode cX9_spread 87 = .ok (.arraylength, 1) := by decide +kernel
theorem dX9_spread_88 : decode cX9_spread 88 = .ok (.if_icmp .ge 12, 3) := by decide +kernel
theorem dX9_spread_91 : decode cX9_spread 91 = .ok (.aload_n 2, 1) := by decide +kernel
theorem dX9_spread_92 : decode cX9_spread 92 = .ok (.iload 4, 2) := by decide +kernel
theorem dX9_spread_94 : decode cX9_spread 94 = .ok (.iload 8, 2) := by decide +kernel
theorem dX9_spread_96 : decode cX9_spread 96 = .ok (.iastore, 1) := by decide +kernel
theorem dX9_spread_97 : decode cX9_spread 97 = .ok (.iinc 4 1, 3) := by decide +kernel
theorem dX9_spread_100 : decode cX9_spread 100 = .ok (.iinc 7 1, 3) := by decide +kernel
theorem dX9_spread_103 : decode cX9_spread 103 = .ok (.goto (-70), 3) := by decide +kernel
theorem dX9_spread_106 : decode cX9_spread 106 = .ok (.iinc 6 1, 3) := by decide +kernel
theorem dX9_spread_109 : decode cX9_spread 109 = .ok (.goto (-91), 3) := by decide +kernel
theorem dX9_spread_112 : decode cX9_spread 112 = .ok (.iload 4, 2) := by decide +kernel
theorem dX9_spread_114 : decode cX9_spread 114 = .ok (.ireturn, 1) := by decide +kernel
set_option maxRecDepth 20000 in
theorem ggX10_init_X1_init : GoodIn wsX10_init wsX1_init := goodIn_r _ [18, 19, 2, 3, 20, 21, 22, 23, 24, 25, 26, 27, 28, 29, 30, 31, 32, 33, 34, 35, 36, 11, 37, 38, 39, 40, 41, 42, 52, 53, 54, 55, 56, 57, 43, 44] (by decide +kernel) (by decide +kernel)
set_option maxRecDepth 20000 in
theorem gX10_init_X1_init : GoodIn wsX10_init (wsX1_init) := ggX10_init_X1_init
theorem dX10_init_0 : decode cX10_init 0 = .ok (.aload_n 0, 1) := by decide +kernel
theorem dX10_init_1 : decode cX10_init 1 = .ok (.invokespecial 1, 3) := by decide +kernel
theorem dX10_init_4 : decode cX10_init 4 = .ok (.aload_n 0, 1) := by decide +kernel
theorem dX10_init_5 : decode cX10_init 5 = .ok (.new 7, 3) := by decide +kernel
theorem dX10_init_8 : decode cX10_init 8 = .ok (.dup, 1) := by decide +kernel
theorem dX10_init_9 : decode cX10_init 9 = .ok (.invokespecial 9, 3) := by decide +kernel
theorem dX10_init_12 : decode cX10_init 12 = .ok (.putfield 10, 3) := by decide +kernel
theorem dX10_init_15 : decode cX10_init 15 = .ok (.aload_n 0, 1) := by decide +kernel
theorem dX10_init_16 : decode cX10_init 16 = .ok (.new 7, 3) := by decide +kernel
theorem dX10_init_19 : decode cX10_init 19 = .ok (.dup, 1) := by decide +kernel
theorem dX10_init_20 : decode cX10_init 20 = .ok (.invokespecial 9, 3) := by decide +kernel
theorem dX10_init_23 : decode cX10_init 23 = .ok (.putfield 16, 3) := by decide +kernel
theorem dX10_init_26 : decode cX10_init 26 = .ok (.aload_n 0, 1) := by decide +kernel
theorem dX10_init_27 : decode cX10_init 27 = .ok (.iconst 4, 1) := by decide +kernel
theorem dX10_init_28 : decode cX10_init 28 = .ok (.anewarray 19, 3) := by decide +kernel
theorem dX10_init_31 : decode cX10_init 31 = .ok (.putfield 21, 3) := by decide +kernel
theorem dX10_init_34 : decode cX10_init 34 = .ok (.aload_n 0, 1) := by decide +kernel
theorem dX10_init_35 : decode cX10_init 35 = .ok (.iconst 4, 1) := by decide +kernel
theorem dX10_init_36 : decode cX10_init 36 = .ok (.newarray .int, 2) := by decide +kernel
theorem dX10_init_38 : decode cX10_init 38 = .ok (.putfield 25, 3) := by decide +kernel
theorem dX10_init_41 : decode cX10_init 41 = .ok (.aload_n 0, 1) := by decide +kernel
theorem dX10_init_42 : decode cX10_init 42 = .ok (.bipush 60, 2) := by decide +kernel
theorem dX10_init_44 : decode cX10_init 44 = .ok (.newarray .int, 2) := by decide +kernel
theorem dX10_init_46 : decode cX10_init 46 = .ok (.putfield 29, 3) := by decide +kernel
theorem dX10_init_49 : decode cX10_init 49 = .ok (.aload_n 0, 1) := by decide +kernel
theorem dX10_init_50 : decode cX10_init 50 = .ok (.iconst 0, 1) := by decide +kernel
theorem dX10_init_51 : decode cX10_init 51 = .ok (.putfield 32, 3) := by decide +kernel
theorem dX10_init_54 : decode cX10_init 54 = .ok (.aload_n 0, 1) := by decide +kernel
theorem dX10_init_55 : decode cX10_init 55 = .ok (.iconst 0, 1) := by decide +kernel
theorem dX10_init_56 : decode cX10_init 56 = .ok (.putfield 36, 3) := by decide +kernel
theorem dX10_init_59 : decode cX10_init 59 = .ok (.return_, 1) := by decide +kernel
set_option maxRecDepth 20000 in
theorem ggX10_corner_X7_put : GoodIn wsX10_corner wsX7_put := goodIn_r _ [7, 8, 9, 10, 11, 12, 13, 6, 14, 24, 25, 26, 27, 28, 29] (by decide +kernel) (by decide +kernel)
set_option maxRecDepth 20000 in
theorem gX10_corner_X7_put : GoodIn wsX10_corner (wsV RX10 43 RX7 yX7_put wsX7_put) := goodIn_app (goodIn_of _ (by decide +kernel)) ggX10_corner_X7_put
theorem dX10_corner_0 : decode cX10_corner 0 = .ok (.aload_n 0, 1) := by decide +kernel
theorem dX10_corner_1 : decode cX10_corner 1 = .ok (.getfield 10, 3) := by decide +kernel
theorem dX10_corner_4 : decode cX10_corner 4 = .ok (.getfield 39, 3) := by decide +kernel
theorem dX10_corner_7 : decode cX10_corner 7 = .ok (.iload_n 1, 1) := by decide +kernel
theorem dX10_corner_8 : decode cX10_corner 8 = .ok (.iload_n 2, 1) := by decide +kernel
theorem dX10_corner_9 : decode cX10_corner 9 = .ok (.iload_n 3, 1) := by decide +kernel
theorem dX10_corner_10 : decode cX10_corner 10 = .ok (.invokevirtual 43, 3) := by decide +kernel
theorem dX10_corner_13 : decode cX10_corner 13 = .ok (.ifCond .eq 7, 3) := by decide +kernel
theorem dX10_corner_16 : decode cX10_corner 16 = .ok (.iconst 1, 1) := by decide +kernel
theorem dX10_corner_17 : decode cX10_corner 17 = .ok (.goto 4, 3) := by decide +kernel
theorem dX10_corner_20 : decode cX10_corner 20 = .ok (.iconst (-1), 1) := by decide +kernel
theorem dX10_corner_21 : decode cX10_corner 21 = .ok (.ireturn, 1) := by decide +kernel
set_option maxRecDepth 20000 in
theorem ggX10_edge_X7_put : GoodIn wsX10_edge wsX7_put := goodIn_r _ [7, 8, 9, 10, 11, 12, 13, 6, 14, 24, 25, 26, 27, 28, 29] (by decide +kernel) (by decide +kernel)
set_option maxRecDepth 20000 in
theorem gX10_edge_X7_put : GoodIn wsX10_edge (wsV RX10 43 RX7 yX7_put wsX7_put) := goodIn_app (goodIn_of _ (by decide +kernel)) ggX10_edge_X7_put
theorem dX10_edge_0 : decode cX10_edge 0 = .ok (.aload_n 0, 1) := by decide +kernel
theorem dX10_edge_1 : decode cX10_edge 1 = .ok (.getfield 10, 3) := by decide +kernel
theorem dX10_edge_4 : decode cX10_edge 4 = .ok (.getfield 49, 3) := by decide +kernel
theorem dX10_edge_7 : decode cX10_edge 7 = .ok (.iload_n 1, 1) := by decide +kernel
theorem dX10_edge_8 : decode cX10_edge 8 = .ok (.iload_n 2, 1) := by decide +kernel
theorem dX10_edge_9 : decode cX10_edge 9 = .ok (.iload_n 3, 1) := by decide +kernel
theorem dX10_edge_10 : decode cX10_edge 10 = .ok (.invokevirtual 43, 3) := by decide +kernel
theorem dX10_edge_13 : decode cX10_edge 13 = .ok (.ifCond .eq 7, 3) := by decide +kernel
theorem dX10_edge_16 : decode cX10_edge 16 = .ok (.iconst 1, 1) := by decide +kernel
theorem dX10_edge_17 : decode cX10_edge 17 = .ok (.goto 4, 3) := by decide +kernel
theorem dX10_edge_20 : decode cX10_edge 20 = .ok (.iconst (-1), 1) := by decide +kernel
theorem dX10_edge_21 : decode cX10_edge 21 = .ok (.ireturn, 1) := by decide +kernel
set_option maxRecDepth 20000 in
theorem ggX10_at_X7_describe : GoodIn wsX10_at wsX7_describe := goodIn_r _ [8, 9, 10, 11, 12, 13, 14, 7, 15, 25, 26, 27, 28, 29, 30] (by decide +kernel) (by decide +kernel)
set_option maxRecDepth 20000 in
theorem gX10_at_X7_describe : GoodIn wsX10_at (wsV RX10 52 RX7 yX7_describe wsX7_describe) := goodIn_app (goodIn_of _ (by decide +kernel)) ggX10_at_X7_describe
theorem dX10_at_0 : decode cX10_at 0 = .ok (.iload_n 1, 1) := by decide +kernel
theorem dX10_at_1 : decode cX10_at 1 = .ok (.ifCond .ne 15, 3) := by decide +kernel
theorem dX10_at_4 : decode cX10_at 4 = .ok (.aload_n 0, 1) := by decide +kernel
theorem dX10_at_5 : decode cX10_at 5 = .ok (.getfield 10, 3) := by decide +kernel
theorem dX10_at_8 : decode cX10_at 8 = .ok (.getfield 39, 3) := by decide +kernel
theorem dX10_at_11 : decode cX10_at 11 = .ok (.iload_n 2, 1) := by decide +kernel
theorem dX10_at_12 : decode cX10_at 12 = .ok (.invokevirtual 52, 3) := by decide +kernel
theorem dX10_at_15 : decode cX10_at 15 = .ok (.ireturn, 1) := by decide +kernel
theorem dX10_at_16 : decode cX10_at 16 = .ok (.iload_n 1, 1) := by decide +kernel
theorem dX10_at_17 : decode cX10_at 17 = .ok (.iconst 1, 1) := by decide +kernel
theorem dX10_at_18 : decode cX10_at 18 = .ok (.if_icmp .ne 15, 3) := by decide +kernel
theorem dX10_at_21 : decode cX10_at 21 = .ok (.aload_n 0, 1) := by decide +kernel
theorem dX10_at_22 : decode cX10_at 22 = .ok (.getfield 10, 3) := by decide +kernel
theorem dX10_at_25 : decode cX10_at 25 = .ok (.getfield 49, 3) := by decide +kernel
theorem dX10_at_28 : decode cX10_at 28 = .ok (.iload_n 2, 1) := by decide +kernel
theorem dX10_at_29 : decode cX10_at 29 = .ok (.invokevirtual 52, 3) := by decide +kernel
theorem dX10_at_32 : decode cX10_at 32 = .ok (.ireturn, 1) := by decide +kernel
theorem dX10_at_33 : decode cX10_at 33 = .ok (.iconst (-1), 1) := by decide +kernel
theorem dX10_at_34 : decode cX10_at 34 = .ok (.ireturn, 1) := by decide +kernel
set_option maxRecDepth 20000 in
theorem ggX10_lawful_X7_allThere : GoodIn wsX10_lawful wsX7_allThere := goodIn_r _ [8, 9, 10, 30, 31, 32, 33, 34, 35] (by decide +kernel) (by decide +kernel)
set_option maxRecDepth 20000 in
theorem gX10_lawful_X7_allThere : GoodIn wsX10_lawful (wsV RX10 56 RX7 yX7_allThere wsX7_allThere) := goodIn_app (goodIn_of _ (by decide +kernel)) ggX10_lawful_X7_allThere
set_option maxRecDepth 20000 in
theorem ggX10_lawful_X7_marksCancel : GoodIn wsX10_lawful wsX7_marksCancel := goodIn_r _ [14, 9, 15, 16, 30, 31, 32, 33, 34, 35] (by decide +kernel) (by decide +kernel)
set_option maxRecDepth 20000 in
theorem gX10_lawful_X7_marksCancel : GoodIn wsX10_lawful (wsV RX10 60 RX7 yX7_marksCancel wsX7_marksCancel) := goodIn_app (goodIn_of _ (by decide +kernel)) ggX10_lawful_X7_marksCancel
set_option maxRecDepth 20000 in
theorem ggX10_lawful_X7_oddlySwapped : GoodIn wsX10_lawful wsX7_oddlySwapped := goodIn_r _ [20, 9, 10, 30, 31, 32, 33, 34, 35] (by decide +kernel) (by decide +kernel)
set_option maxRecDepth 20000 in
theorem gX10_lawful_X7_oddlySwapped : GoodIn wsX10_lawful (wsV RX10 63 RX7 yX7_oddlySwapped wsX7_oddlySwapped) := goodIn_app (goodIn_of _ (by decide +kernel)) ggX10_lawful_X7_oddlySwapped
theorem dX10_lawful_0 : decode cX10_lawful 0 = .ok (.aload_n 0, 1) := by decide +kernel
theorem dX10_lawful_1 : decode cX10_lawful 1 = .ok (.getfield 10, 3) := by decide +kernel
theorem dX10_lawful_4 : decode cX10_lawful 4 = .ok (.getfield 39, 3) := by decide +kernel
theorem dX10_lawful_7 : decode cX10_lawful 7 = .ok (.invokevirtual 56, 3) := by decide +kernel
theorem dX10_lawful_10 : decode cX10_lawful 10 = .ok (.ifCond .ne 6, 3) := by decide +kernel
theorem dX10_lawful_13 : decode cX10_lawful 13 = .ok (.bipush (-2), 2) := by decide +kernel
theorem dX10_lawful_15 : decode cX10_lawful 15 = .ok (.ireturn, 1) := by decide +kernel
theorem dX10_lawful_16 : decode cX10_lawful 16 = .ok (.aload_n 0, 1) := by decide +kernel
theorem dX10_lawful_17 : decode cX10_lawful 17 = .ok (.getfield 10, 3) := by decide +kernel
theorem dX10_lawful_20 : decode cX10_lawful 20 = .ok (.getfield 49, 3) := by decide +kernel
theorem dX10_lawful_23 : decode cX10_lawful 23 = .ok (.invokevirtual 56, 3) := by decide +kernel
theorem dX10_lawful_26 : decode cX10_lawful 26 = .ok (.ifCond .ne 6, 3) := by decide +kernel
theorem dX10_lawful_29 : decode cX10_lawful 29 = .ok (.bipush (-3), 2) := by decide +kernel
theorem dX10_lawful_31 : decode cX10_lawful 31 = .ok (.ireturn, 1) := by decide +kernel
theorem dX10_lawful_32 : decode cX10_lawful 32 = .ok (.aload_n 0, 1) := by decide +kernel
theorem dX10_lawful_33 : decode cX10_lawful 33 = .ok (.getfield 10, 3) := by decide +kernel
theorem dX10_lawful_36 : decode cX10_lawful 36 = .ok (.getfield 39, 3) := by decide +kernel
theorem dX10_lawful_39 : decode cX10_lawful 39 = .ok (.invokevirtual 60, 3) := by decide +kernel
theorem dX10_lawful_42 : decode cX10_lawful 42 = .ok (.ifCond .ne 6, 3) := by decide +kernel
theorem dX10_lawful_45 : decode cX10_lawful 45 = .ok (.bipush (-4), 2) := by decide +kernel
theorem dX10_lawful_47 : decode cX10_lawful 47 = .ok (.ireturn, 1) := by decide +kernel
theorem dX10_lawful_48 : decode cX10_lawful 48 = .ok (.aload_n 0, 1) := by decide +kernel
theorem dX10_lawful_49 : decode cX10_lawful 49 = .ok (.getfield 10, 3) := by decide +kernel
theorem dX10_lawful_52 : decode cX10_lawful 52 = .ok (.getfield 49, 3) := by decide +kernel
theorem dX10_lawful_55 : decode cX10_lawful 55 = .ok (.invokevirtual 60, 3) := by decide +kernel
theorem dX10_lawful_58 : decode cX10_lawful 58 = .ok (.ifCond .ne 6, 3) := by decide +kernel
theorem dX10_lawful_61 : decode cX10_lawful 61 = .ok (.bipush (-5), 2) := by decide +kernel
theorem dX10_lawful_63 : decode cX10_lawful 63 = .ok (.ireturn, 1) := by decide +kernel
theorem dX10_lawful_64 : decode cX10_lawful 64 = .ok (.aload_n 0, 1) := by decide +kernel
theorem dX10_lawful_65 : decode cX10_lawful 65 = .ok (.getfield 10, 3) := by decide +kernel
theorem dX10_lawful_68 : decode cX10_lawful 68 = .ok (.getfield 39, 3) := by decide +kernel
theorem dX10_lawful_71 : decode cX10_lawful 71 = .ok (.invokevirtual 63, 3) := by decide +kernel
theorem dX10_lawful_74 : decode cX10_lawful 74 = .ok (.aload_n 0, 1) := by decide +kernel
theorem dX10_lawful_75 : decode cX10_lawful 75 = .ok (.getfield 10, 3) := by decide +kernel
theorem dX10_lawful_78 : decode cX10_lawful 78 = .ok (.getfield 49, 3) := by decide +kernel
theorem dX10_lawful_81 : decode cX10_lawful 81 = .ok (.invokevirtual 63, 3) := by decide +kernel
theorem dX10_lawful_84 : decode cX10_lawful 84 = .ok (.if_icmp .ne 7, 3) := by decide +kernel
theorem dX10_lawful_87 : decode cX10_lawful 87 = .ok (.iconst 1, 1) := by decide +kernel
theorem dX10_lawful_88 : decode cX10_lawful 88 = .ok (.goto 5, 3) := by decide +kernel
theorem dX10_lawful_91 : decode cX10_lawful 91 = .ok (.bipush (-6), 2) := by decide +kernel
theorem dX10_lawful_93 : decode cX10_lawful 93 = .ok (.ireturn, 1) := by decide +kernel
set_option maxRecDepth 20000 in
theorem ggX10_turn_X1_make : GoodIn wsX10_turn wsX1_make := goodIn_r _ [7, 8, 9, 10, 11, 12, 13, 14, 15, 16, 17, 18, 19, 27, 28, 29, 30, 31, 32, 33, 34] (by decide +kernel) (by decide +kernel)
set_option maxRecDepth 20000 in
theorem gX10_turn_X1_make : GoodIn wsX10_turn (wsV RX10 66 RX1 yX1_make wsX1_make) := goodIn_app (goodIn_of _ (by decide +kernel)) ggX10_turn_X1_make
theorem dX10_turn_0 : decode cX10_turn 0 = .ok (.iload_n 1, 1) := by decide +kernel
theorem dX10_turn_1 : decode cX10_turn 1 = .ok (.ifCond .lt 9, 3) := by decide +kernel
theorem dX10_turn_4 : decode cX10_turn 4 = .ok (.iload_n 1, 1) := by decide +kernel
theorem dX10_turn_5 : decode cX10_turn 5 = .ok (.bipush 18, 2) := by decide +kernel
theorem dX10_turn_7 : decode cX10_turn 7 = .ok (.if_icmp .lt 5, 3) := by decide +kernel
theorem dX10_turn_10 : decode cX10_turn 10 = .ok (.iconst (-1), 1) := by decide +kernel
theorem dX10_turn_11 : decode cX10_turn 11 = .ok (.ireturn, 1) := by decide +kernel
theorem dX10_turn_12 : decode cX10_turn 12 = .ok (.aload_n 0, 1) := by decide +kernel
theorem dX10_turn_13 : decode cX10_turn 13 = .ok (.getfield 10, 3) := by decide +kernel
theorem dX10_turn_16 : decode cX10_turn 16 = .ok (.iload_n 1, 1) := by decide +kernel
theorem dX10_turn_17 : decode cX10_turn 17 = .ok (.invokevirtual 66, 3) := by decide +kernel
theorem dX10_turn_20 : decode cX10_turn 20 = .ok (.aload_n 0, 1) := by decide +kernel
theorem dX10_turn_21 : decode cX10_turn 21 = .ok (.dup, 1) := by decide +kernel
theorem dX10_turn_22 : decode cX10_turn 22 = .ok (.getfield 36, 3) := by decide +kernel
theorem dX10_turn_25 : decode cX10_turn 25 = .ok (.iconst 1, 1) := by decide +kernel
theorem dX10_turn_26 : decode cX10_turn 26 = .ok (.iadd, 1) := by decide +kernel
theorem dX10_turn_27 : decode cX10_turn 27 = .ok (.putfield 36, 3) := by decide +kernel
theorem dX10_turn_30 : decode cX10_turn 30 = .ok (.iconst 1, 1) := by decide +kernel
theorem dX10_turn_31 : decode cX10_turn 31 = .ok (.ireturn, 1) := by decide +kernel
set_option maxRecDepth 20000 in
theorem ggX10_home_X1_reset : GoodIn wsX10_home wsX1_reset := goodIn_r _ [7, 8, 9, 10, 11, 12, 13, 14, 15, 16, 17, 25, 26, 27, 28, 29, 30, 31, 32] (by decide +kernel) (by decide +kernel)
set_option maxRecDepth 20000 in
theorem gX10_home_X1_reset : GoodIn wsX10_home (wsV RX10 70 RX1 yX1_reset wsX1_reset) := goodIn_app (goodIn_of _ (by decide +kernel)) ggX10_home_X1_reset
theorem dX10_home_0 : decode cX10_home 0 = .ok (.aload_n 0, 1) := by decide +kernel
theorem dX10_home_1 : decode cX10_home 1 = .ok (.getfield 36, 3) := by decide +kernel
theorem dX10_home_4 : decode cX10_home 4 = .ok (.istore_n 1, 1) := by decide +kernel
theorem dX10_home_5 : decode cX10_home 5 = .ok (.aload_n 0, 1) := by decide +kernel
theorem dX10_home_6 : decode cX10_home 6 = .ok (.getfield 10, 3) := by decide +kernel
theorem dX10_home_9 : decode cX10_home 9 = .ok (.invokevirtual 70, 3) := by decide +kernel
theorem dX10_home_12 : decode cX10_home 12 = .ok (.aload_n 0, 1) := by decide +kernel
theorem dX10_home_13 : decode cX10_home 13 = .ok (.iconst 0, 1) := by decide +kernel
theorem dX10_home_14 : decode cX10_home 14 = .ok (.putfield 36, 3) := by decide +kernel
theorem dX10_home_17 : decode cX10_home 17 = .ok (.iload_n 1, 1) := by decide +kernel
theorem dX10_home_18 : decode cX10_home 18 = .ok (.ireturn, 1) := by decide +kernel
set_option maxRecDepth 20000 in
theorem ggX10_isHome_X7_atHome : GoodIn wsX10_isHome wsX7_atHome := goodIn_r _ [8, 9, 10, 11, 21, 22, 23, 24, 25, 26] (by decide +kernel) (by decide +kernel)
set_option maxRecDepth 20000 in
theorem gX10_isHome_X7_atHome : GoodIn wsX10_isHome (wsV RX10 73 RX7 yX7_atHome wsX7_atHome) := goodIn_app (goodIn_of _ (by decide +kernel)) ggX10_isHome_X7_atHome
theorem dX10_isHome_0 : decode cX10_isHome 0 = .ok (.aload_n 0, 1) := by decide +kernel
theorem dX10_isHome_1 : decode cX10_isHome 1 = .ok (.getfield 10, 3) := by decide +kernel
theorem dX10_isHome_4 : decode cX10_isHome 4 = .ok (.getfield 39, 3) := by decide +kernel
theorem dX10_isHome_7 : decode cX10_isHome 7 = .ok (.invokevirtual 73, 3) := by decide +kernel
theorem dX10_isHome_10 : decode cX10_isHome 10 = .ok (.ifCond .eq 20, 3) := by decide +kernel
theorem dX10_isHome_13 : decode cX10_isHome 13 = .ok (.aload_n 0, 1) := by decide +kernel
theorem dX10_isHome_14 : decode cX10_isHome 14 = .ok (.getfield 10, 3) := by decide +kernel
theorem dX10_isHome_17 : decode cX10_isHome 17 = .ok (.getfield 49, 3) := by decide +kernel
theorem dX10_isHome_20 : decode cX10_isHome 20 = .ok (.invokevirtual 73, 3) := by decide +kernel
theorem dX10_isHome_23 : decode cX10_isHome 23 = .ok (.ifCond .eq 7, 3) := by decide +kernel
theorem dX10_isHome_26 : decode cX10_isHome 26 = .ok (.iconst 1, 1) := by decide +kernel
theorem dX10_isHome_27 : decode cX10_isHome 27 = .ok (.goto 4, 3) := by decide +kernel
theorem dX10_isHome_30 : decode cX10_isHome 30 = .ok (.iconst 0, 1) := by decide +kernel
theorem dX10_isHome_31 : decode cX10_isHome 31 = .ok (.ireturn, 1) := by decide +kernel
set_option maxRecDepth 20000 in
theorem ggX10_solve_X10_forgetWay : GoodIn wsX10_solve wsX10_forgetWay := goodIn_r _ [8, 3, 9, 320, 321, 322, 323, 324, 325, 326] (by decide +kernel) (by decide +kernel)
set_option maxRecDepth 20000 in
theorem gX10_solve_X10_forgetWay : GoodIn wsX10_solve (wsV RX10 76 RX10 yX10_forgetWay wsX10_forgetWay) := goodIn_app (goodIn_of _ (by decide +kernel)) ggX10_solve_X10_forgetWay
set_option maxRecDepth 20000 in
theorem ggX10_solve_X10_lawful : GoodIn wsX10_solve wsX10_lawful := goodIn_r _ [13, 2, 14, 15, 16, 17, 18, 19, 20, 21, 22, 23, 24, 25, 26, 27, 28, 29, 30, 31, 32, 320, 321, 322, 323, 324, 325, 326, 327, 328, 329, 330, 331, 332, 333, 334] (by decide +kernel) (by decide +kernel)
set_option maxRecDepth 20000 in
theorem gX10_solve_X10_lawful : GoodIn wsX10_solve (wsV RX10 79 RX10 yX10_lawful wsX10_lawful) := goodIn_app (goodIn_of _ (by decide +kernel)) ggX10_solve_X10_lawful
set_option maxRecDepth 20000 in
theorem ggX10_solve_X1_copyFrom : GoodIn wsX10_solve wsX1_copyFrom := goodIn_r _ [37, 38, 39, 40, 41, 42, 19, 43, 21, 22, 27, 327, 328, 329, 330, 331, 332, 333, 334] (by decide +kernel) (by decide +kernel)
set_option maxRecDepth 20000 in
theorem gX10_solve_X1_copyFrom : GoodIn wsX10_solve (wsV RX10 83 RX1 yX1_copyFrom wsX1_copyFrom) := goodIn_app (goodIn_of _ (by decide +kernel)) ggX10_solve_X1_copyFrom
set_option maxRecDepth 20000 in
theorem ggX10_solve_X10_walkStage : GoodIn wsX10_solve wsX10_walkStage := goodIn_r _ [47, 1, 9, 48, 49, 3, 50, 51, 52, 7, 53, 54, 55, 56, 57, 58, 59, 60, 61, 62, 63, 64, 65, 66, 67, 68, 69, 70, 71, 72, 73, 74, 75, 76, 77, 78, 79, 80, 81, 82, 83, 84, 85, 86, 87, 88, 89, 90, 91, 92, 93, 94, 95, 96, 97, 98, 99, 100, 101, 102, 103, 104, 105, 106, 107, 108, 109, 110, 111, 112, 113, 114, 115, 116, 117, 118, 119, 120, 121, 122, 123, 124, 125, 126, 127, 128, 129, 130, 131, 132, 133, 134, 135, 136, 137, 138, 139, 140, 141, 142, 143, 144, 145, 146, 147, 148, 149, 150, 151, 152, 153, 154, 155, 156, 157, 158, 159, 160, 161, 162, 163, 164, 165, 166, 167, 168, 169, 170, 171, 172, 173, 174, 175, 176, 177, 178, 179, 180, 181, 182, 183, 184, 185, 186, 187, 188, 189, 190, 191, 192, 193, 194, 195, 196, 197, 198, 199, 200, 201, 202, 203, 204, 205, 206, 207, 208, 209, 210, 211, 19, 212, 213, 214, 215, 216, 21, 28, 217, 218, 219, 220, 221, 222, 22, 27, 223, 224, 225, 226, 227, 228, 229, 230, 231, 232, 233, 234, 235, 236, 237, 238, 239, 240, 241, 242, 243, 244, 245, 246, 247, 248, 249, 250, 251, 252, 253, 254, 255, 256, 257, 258, 259, 260, 261, 262, 263, 264, 265, 266, 267, 268, 269, 270, 271, 272, 273, 274, 275, 276, 277, 278, 279, 280, 281, 282, 283, 284, 285, 286, 287, 288, 289, 290, 291, 292, 293, 294, 295, 296, 297, 298, 299, 300, 301, 302, 303, 304, 305, 306, 307, 308, 309, 310, 311, 312, 313, 314, 315, 316, 317, 36, 318, 38, 39, 319, 320, 321, 322, 323, 324, 325, 326, 335, 336, 337, 338, 339, 340, 341, 342, 343, 344, 345, 346, 347, 348, 349, 350, 351, 352, 353, 354, 355, 356, 357, 358, 359, 360, 361, 362, 363, 364, 327, 328, 329, 330, 331, 332, 333, 334] (by decide +kernel) (by decide +kernel)
set_option maxRecDepth 20000 in
theorem gX10_solve_X10_walkStage : GoodIn wsX10_solve (wsV RX10 87 RX10 yX10_walkStage wsX10_walkStage) := goodIn_app (goodIn_of _ (by decide +kernel)) ggX10_solve_X10_walkStage
theorem dX10_solve_0 : decode cX10_solve 0 = .ok (.aload_n 0, 1) := by decide +kernel
theorem dX10_solve_1 : decode cX10_solve 1 = .ok (.invokevirtual 76, 3) := by decide +kernel
theorem dX10_solve_4 : decode cX10_solve 4 = .ok (.aload_n 0, 1) := by decide +kernel
theorem dX10_solve_5 : decode cX10_solve 5 = .ok (.invokevirtual 79, 3) := by decide +kernel
theorem dX10_solve_8 : decode cX10_solve 8 = .ok (.istore_n 1, 1) := by decide +kernel
theorem dX10_solve_9 : decode cX10_solve 9 = .ok (.iload_n 1, 1) := by decide +kernel
theorem dX10_solve_10 : decode cX10_solve 10 = .ok (.iconst 1, 1) := by decide +kernel
theorem dX10_solve_11 : decode cX10_solve 11 = .ok (.if_icmp .eq 5, 3) := by decide +kernel
theorem dX10_solve_14 : decode cX10_solve 14 = .ok (.iload_n 1, 1) := by decide +kernel
theorem dX10_solve_15 : decode cX10_solve 15 = .ok (.ireturn, 1) := by decide +kernel
theorem dX10_solve_16 : decode cX10_solve 16 = .ok (.aload_n 0, 1) := by decide +kernel
theorem dX10_solve_17 : decode cX10_solve 17 = .ok (.getfield 16, 3) := by decide +kernel
theorem dX10_solve_20 : decode cX10_solve 20 = .ok (.aload_n 0, 1) := by decide +kernel
theorem dX10_solve_21 : decode cX10_solve 21 = .ok (.getfield 10, 3) := by decide +kernel
theorem dX10_solve_24 : decode cX10_solve 24 = .ok (.invokevirtual 83, 3) := by decide +kernel
theorem dX10_solve_27 : decode cX10_solve 27 = .ok (.iconst 0, 1) := by decide +kernel
theorem dX10_solve_28 : decode cX10_solve 28 = .ok (.istore_n 2, 1) := by decide +kernel
theorem dX10_solve_29 : decode cX10_solve 29 = .ok (.iload_n 2, 1) := by decide +kernel
theorem dX10_solve_30 : decode cX10_solve 30 = .ok (.iconst 4, 1) := by decide +kernel
theorem dX10_solve_31 : decode cX10_solve 31 = .ok (.if_icmp .ge 14, 3) := by decide +kernel
theorem dX10_solve_34 : decode cX10_solve 34 = .ok (.aload_n 0, 1) := by decide +kernel
theorem dX10_solve_35 : decode cX10_solve 35 = .ok (.iload_n 2, 1) := by decide +kernel
theorem dX10_solve_36 : decode cX10_solve 36 = .ok (.invokevirtual 87, 3) := by decide +kernel
theorem dX10_solve_39 : decode cX10_solve 39 = .ok (.iinc 2 1, 3) := by decide +kernel
theorem dX10_solve_42 : decode cX10_solve 42 = .ok (.goto (-13), 3) := by decide +kernel
theorem dX10_solve_45 : decode cX10_solve 45 = .ok (.aload_n 0, 1) := by decide +kernel
theorem dX10_solve_46 : decode cX10_solve 46 = .ok (.getfield 32, 3) := by decide +kernel
theorem dX10_solve_49 : decode cX10_solve 49 = .ok (.ireturn, 1) := by decide +kernel
theorem dX10_stage_0 : decode cX10_stage 0 = .ok (.iload_n 1, 1) := by decide +kernel
theorem dX10_stage_1 : decode cX10_stage 1 = .ok (.iconst 1, 1) := by decide +kernel
theorem dX10_stage_2 : decode cX10_stage 2 = .ok (.if_icmp .lt 19, 3) := by decide +kernel
theorem dX10_stage_5 : decode cX10_stage 5 = .ok (.iload_n 1, 1) := by decide +kernel
theorem dX10_stage_6 : decode cX10_stage 6 = .ok (.iconst 4, 1) := by decide +kernel
theorem dX10_stage_7 : decode cX10_stage 7 = .ok (.if_icmp .gt 14, 3) := by decide +kernel
theorem dX10_stage_10 : decode cX10_stage 10 = .ok (.aload_n 0, 1) := by decide +kernel
theorem dX10_stage_11 : decode cX10_stage 11 = .ok (.getfield 25, 3) := by decide +kernel
theorem dX10_stage_14 : decode cX10_stage 14 = .ok (.iload_n 1, 1) := by decide +kernel
theorem dX10_stage_15 : decode cX10_stage 15 = .ok (.iconst 1, 1) := by decide +kernel
theorem dX10_stage_16 : decode cX10_stage 16 = .ok (.isub, 1) := by decide +kernel
theorem dX10_stage_17 : decode cX10_stage 17 = .ok (.iaload, 1) := by decide +kernel
theorem dX10_stage_18 : decode cX10_stage 18 = .ok (.goto 4, 3) := by decide +kernel
theorem dX10_stage_21 : decode cX10_stage 21 = .ok (.iconst (-1), 1) := by decide +kernel
theorem dX10_stage_22 : decode cX10_stage 22 = .ok (.ireturn, 1) := by decide +kernel
theorem dX10_step_0 : decode cX10_step 0 = .ok (.iload_n 1, 1) := by decide +kernel
theorem dX10_step_1 : decode cX10_step 1 = .ok (.ifCond .lt 20, 3) := by decide +kernel
theorem dX10_step_4 : decode cX10_step 4 = .ok (.iload_n 1, 1) := by decide +kernel
theorem dX10_step_5 : decode cX10_step 5 = .ok (.aload_n 0, 1) := by decide +kernel
theorem dX10_step_6 : decode cX10_step 6 = .ok (.getfield 32, 3) := by decide +kernel
theorem dX10_step_9 : decode cX10_step 9 = .ok (.if_icmp .ge 12, 3) := by decide +kernel
theorem dX10_step_12 : decode cX10_step 12 = .ok (.aload_n 0, 1) := by decide +kernel
theorem dX10_step_13 : decode cX10_step 13 = .ok (.getfield 29, 3) := by decide +kernel
theorem dX10_step_16 : decode cX10_step 16 = .ok (.iload_n 1, 1) := by decide +kernel
theorem dX10_step_17 : decode cX10_step 17 = .ok (.iaload, 1) := by decide +kernel
theorem dX10_step_18 : decode cX10_step 18 = .ok (.goto 4, 3) := by decide +kernel
theorem dX10_step_21 : decode cX10_step 21 = .ok (.iconst (-1), 1) := by decide +kernel
theorem dX10_step_22 : decode cX10_step 22 = .ok (.ireturn, 1) := by decide +kernel
set_option maxRecDepth 20000 in
theorem ggX10_flips_X10_lawful : GoodIn wsX10_flips wsX10_lawful := goodIn_r _ [6, 1, 7, 8, 9, 10, 11, 12, 13, 14, 15, 16, 17, 18, 19, 20, 21, 22, 23, 24, 25, 291, 292, 293, 294, 295, 296, 297, 298, 299, 300, 301, 302, 303, 304, 305] (by decide +kernel) (by decide +kernel)
set_option maxRecDepth 20000 in
theorem gX10_flips_X10_lawful : GoodIn wsX10_flips (wsV RX10 79 RX10 yX10_lawful wsX10_lawful) := goodIn_app (goodIn_of _ (by decide +kernel)) ggX10_flips_X10_lawful
set_option maxRecDepth 20000 in
theorem ggX10_flips_X10_knownStage : GoodIn wsX10_flips wsX10_knownStage := goodIn_r _ [29, 30, 31, 32, 5, 33, 34, 35, 36, 37, 38, 39, 40, 41, 42, 43, 44, 45, 46, 47, 48, 49, 50, 51, 52, 53, 54, 55, 56, 57, 58, 59, 60, 61, 62, 63, 64, 65, 66, 67, 68, 69, 70, 71, 72, 73, 74, 75, 76, 77, 78, 79, 80, 81, 82, 83, 84, 85, 86, 87, 88, 89, 90, 91, 92, 93, 94, 95, 96, 97, 98, 99, 291, 292, 293, 294, 295, 296, 297, 306, 307, 308, 309, 310, 311, 312, 313, 314, 315, 316, 317, 318, 319, 320, 321, 322, 323, 324, 325, 326, 327, 328, 329, 330, 331, 332, 333, 334, 335] (by decide +kernel) (by decide +kernel)
set_option maxRecDepth 20000 in
theorem gX10_flips_X10_knownStage : GoodIn wsX10_flips (wsV RX10 90 RX10 yX10_knownStage wsX10_knownStage) := goodIn_app (goodIn_of _ (by decide +kernel)) ggX10_flips_X10_knownStage
set_option maxRecDepth 20000 in
theorem ggX10_flips_X9_find : GoodIn wsX10_flips wsX9_find := goodIn_r _ [103, 104, 105, 106, 107, 36, 108, 72, 74, 109, 110, 111, 112, 58, 113, 63, 114, 115, 116, 117, 118, 119, 49, 120, 121, 122, 123, 124, 125, 126, 127, 40, 128, 129, 130, 131, 132, 133, 52, 134, 135, 97, 136, 137, 138, 46, 139, 140, 141, 85, 86, 142, 143, 144, 145, 146, 147, 148, 149, 150, 151, 152, 153, 154, 155, 156, 157, 158, 159, 43, 160, 80, 161, 79, 162, 163, 164, 165, 166, 167, 168, 169, 170, 171, 172, 173, 174, 175, 176, 177, 178, 179, 69, 180, 181, 182, 183, 184, 185, 186, 187, 12, 64, 73, 188, 189, 190, 191, 192, 61, 62, 14, 21, 193, 194, 195, 196, 197, 198, 15, 20, 199, 200, 201, 202, 203, 204, 205, 206, 207, 92, 208, 209, 210, 211, 212, 213, 214, 215, 216, 217, 98, 218, 219, 220, 221, 87, 222, 223, 224, 225, 226, 227, 228, 229, 230, 231, 232, 233, 234, 235, 236, 237, 238, 239, 240, 241, 242, 71, 243, 244, 245, 246, 247, 248, 249, 250, 70, 251, 252, 253, 254, 255, 256, 257, 258, 259, 260, 261, 262, 263, 264, 265, 266, 267, 268, 269, 270, 271, 272, 273, 274, 275, 276, 277, 278, 279, 280, 281, 282, 283, 75, 284, 285, 286, 287, 288, 289, 290, 306, 307, 308, 309, 310, 311, 312, 327, 328, 329, 330, 313, 314, 315, 331, 332, 333, 334, 335, 321, 322, 323, 324, 325, 326, 316, 317, 318, 319, 320, 298, 299, 300, 301, 302, 303, 304, 305] (by decide +kernel) (by decide +kernel)
set_option maxRecDepth 20000 in
theorem gX10_flips_X9_find : GoodIn wsX10_flips (wsV RX10 94 RX9 yX9_find wsX9_find) := goodIn_app (goodIn_of _ (by decide +kernel)) ggX10_flips_X9_find
