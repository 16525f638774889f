set_option maxRecDepth 20000 in
theorem gX11_solve_X11_make : GoodIn wsX11_solve (wsV RX11 206 RX11 yX11_make wsX11_make) := goodIn_app (goodIn_of _ (by decide +kernel)) ggX11_solve_X11_make
set_option maxRecDepth 20000 in
theorem ggX11_solve_X11_look : GoodIn wsX11_solve wsX11_look := goodIn_r _ [104, 105, 10, 106, 11, 107, 8, 108, 9, 124, 125, 126, 127, 128, 129, 130, 131, 132, 133, 134, 135, 136, 137, 138, 139, 140, 141, 142, 143, 144, 145, 146, 147, 148, 149, 150, 151, 152, 153, 154, 155, 156, 157, 158, 159, 160, 161] (by decide +kernel) (by decide +kernel)
set_option maxRecDepth 20000 in
theorem gX11_solve_X11_look : GoodIn wsX11_solve (wsV RX11 129 RX11 yX11_look wsX11_look) := goodIn_app (goodIn_of _ (by decide +kernel)) ggX11_solve_X11_look
set_option maxRecDepth 20000 in
theorem ggX11_solve_X11_walk : GoodIn wsX11_solve wsX11_walk := goodIn_r _ [112, 113, 114, 2, 115, 116, 117, 6, 118, 106, 21, 108, 105, 45, 28, 39, 107, 89, 63, 30, 62, 96, 75, 76, 77, 78, 54, 55, 56, 119, 120, 121, 122, 123, 83, 40, 41, 22, 23, 124, 125, 126, 127, 128, 129, 130, 131, 132, 133, 134, 135, 136, 137, 138, 139, 140, 141, 142, 143, 144, 145, 146, 147, 148, 149, 150, 151, 152, 153, 154, 155, 156, 157, 158, 159, 160, 161] (by decide +kernel) (by decide +kernel)
set_option maxRecDepth 20000 in
theorem gX11_solve_X11_walk : GoodIn wsX11_solve (wsV RX11 209 RX11 yX11_walk wsX11_walk) := goodIn_app (goodIn_of _ (by decide +kernel)) ggX11_solve_X11_walk
theorem dX11_solve_0 : decode cX11_solve 0 = .ok (.aload_n 0, 1) := by decide +kernel
theorem dX11_solve_1 : decode cX11_solve 1 = .ok (.iconst 0, 1) := by decide +kernel
theorem dX11_solve_2 : decode cX11_solve 2 = .ok (.putfield 199, 3) := by decide +kernel
theorem dX11_solve_5 : decode cX11_solve 5 = .ok (.aload_n 0, 1) := by decide +kernel
theorem dX11_solve_6 : decode cX11_solve 6 = .ok (.iconst 0, 1) := by decide +kernel
theorem dX11_solve_7 : decode cX11_solve 7 = .ok (.putfield 196, 3) := by decide +kernel
theorem dX11_solve_10 : decode cX11_solve 10 = .ok (.aload_n 0, 1) := by decide +kernel
theorem dX11_solve_11 : decode cX11_solve 11 = .ok (.invokevirtual 202, 3) := by decide +kernel
theorem dX11_solve_14 : decode cX11_solve 14 = .ok (.istore_n 1, 1) := by decide +kernel
theorem dX11_solve_15 : decode cX11_solve 15 = .ok (.iload_n 1, 1) := by decide +kernel
theorem dX11_solve_16 : decode cX11_solve 16 = .ok (.iconst 1, 1) := by decide +kernel
theorem dX11_solve_17 : decode cX11_solve 17 = .ok (.if_icmp .eq 5, 3) := by decide +kernel
theorem dX11_solve_20 : decode cX11_solve 20 = .ok (.iload_n 1, 1) := by decide +kernel
theorem dX11_solve_21 : decode cX11_solve 21 = .ok (.ireturn, 1) := by decide +kernel
theorem dX11_solve_22 : decode cX11_solve 22 = .ok (.aload_n 0, 1) := by decide +kernel
theorem dX11_solve_23 : decode cX11_solve 23 = .ok (.invokevirtual 206, 3) := by decide +kernel
theorem dX11_solve_26 : decode cX11_solve 26 = .ok (.aload_n 0, 1) := by decide +kernel
theorem dX11_solve_27 : decode cX11_solve 27 = .ok (.invokevirtual 129, 3) := by decide +kernel
theorem dX11_solve_30 : decode cX11_solve 30 = .ok (.iconst 0, 1) := by decide +kernel
theorem dX11_solve_31 : decode cX11_solve 31 = .ok (.istore_n 2, 1) := by decide +kernel
theorem dX11_solve_32 : decode cX11_solve 32 = .ok (.iload_n 2, 1) := by decide +kernel
theorem dX11_solve_33 : decode cX11_solve 33 = .ok (.iconst 4, 1) := by decide +kernel
theorem dX11_solve_34 : decode cX11_solve 34 = .ok (.if_icmp .ge 14, 3) := by decide +kernel
theorem dX11_solve_37 : decode cX11_solve 37 = .ok (.aload_n 0, 1) := by decide +kernel
theorem dX11_solve_38 : decode cX11_solve 38 = .ok (.iload_n 2, 1) := by decide +kernel
theorem dX11_solve_39 : decode cX11_solve 39 = .ok (.invokevirtual 209, 3) := by decide +kernel
theorem dX11_solve_42 : decode cX11_solve 42 = .ok (.iinc 2 1, 3) := by decide +kernel
theorem dX11_solve_45 : decode cX11_solve 45 = .ok (.goto (-13), 3) := by decide +kernel
theorem dX11_solve_48 : decode cX11_solve 48 = .ok (.aload_n 0, 1) := by decide +kernel
theorem dX11_solve_49 : decode cX11_solve 49 = .ok (.iconst 1, 1) := by decide +kernel
theorem dX11_solve_50 : decode cX11_solve 50 = .ok (.putfield 199, 3) := by decide +kernel
theorem dX11_solve_53 : decode cX11_solve 53 = .ok (.aload_n 0, 1) := by decide +kernel
theorem dX11_solve_54 : decode cX11_solve 54 = .ok (.getfield 196, 3) := by decide +kernel
theorem dX11_solve_57 : decode cX11_solve 57 = .ok (.ireturn, 1) := by decide +kernel
theorem dX11_stage_0 : decode cX11_stage 0 = .ok (.iload_n 1, 1) := by decide +kernel
theorem dX11_stage_1 : decode cX11_stage 1 = .ok (.iconst 1, 1) := by decide +kernel
theorem dX11_stage_2 : decode cX11_stage 2 = .ok (.if_icmp .lt 8, 3) := by decide +kernel
theorem dX11_stage_5 : decode cX11_stage 5 = .ok (.iload_n 1, 1) := by decide +kernel
theorem dX11_stage_6 : decode cX11_stage 6 = .ok (.iconst 4, 1) := by decide +kernel
theorem dX11_stage_7 : decode cX11_stage 7 = .ok (.if_icmp .le 7, 3) := by decide +kernel
theorem dX11_stage_10 : decode cX11_stage 10 = .ok (.iconst (-1), 1) := by decide +kernel
theorem dX11_stage_11 : decode cX11_stage 11 = .ok (.goto 22, 3) := by decide +kernel
theorem dX11_stage_14 : decode cX11_stage 14 = .ok (.aload_n 0, 1) := by decide +kernel
theorem dX11_stage_15 : decode cX11_stage 15 = .ok (.getfield 199, 3) := by decide +kernel
theorem dX11_stage_18 : decode cX11_stage 18 = .ok (.ifCond .eq 14, 3) := by decide +kernel
theorem dX11_stage_21 : decode cX11_stage 21 = .ok (.aload_n 0, 1) := by decide +kernel
theorem dX11_stage_22 : decode cX11_stage 22 = .ok (.getfield 55, 3) := by decide +kernel
theorem dX11_stage_25 : decode cX11_stage 25 = .ok (.iload_n 1, 1) := by decide +kernel
theorem dX11_stage_26 : decode cX11_stage 26 = .ok (.iconst 1, 1) := by decide +kernel
theorem dX11_stage_27 : decode cX11_stage 27 = .ok (.isub, 1) := by decide +kernel
theorem dX11_stage_28 : decode cX11_stage 28 = .ok (.iaload, 1) := by decide +kernel
theorem dX11_stage_29 : decode cX11_stage 29 = .ok (.goto 4, 3) := by decide +kernel
theorem dX11_stage_32 : decode cX11_stage 32 = .ok (.iconst 0, 1) := by decide +kernel
theorem dX11_stage_33 : decode cX11_stage 33 = .ok (.ireturn, 1) := by decide +kernel
theorem dX11_step_0 : decode cX11_step 0 = .ok (.aload_n 0, 1) := by decide +kernel
theorem dX11_step_1 : decode cX11_step 1 = .ok (.getfield 199, 3) := by decide +kernel
theorem dX11_step_4 : decode cX11_step 4 = .ok (.ifCond .eq 24, 3) := by decide +kernel
theorem dX11_step_7 : decode cX11_step 7 = .ok (.iload_n 1, 1) := by decide +kernel
theorem dX11_step_8 : decode cX11_step 8 = .ok (.ifCond .lt 20, 3) := by decide +kernel
theorem dX11_step_11 : decode cX11_step 11 = .ok (.iload_n 1, 1) := by decide +kernel
theorem dX11_step_12 : decode cX11_step 12 = .ok (.aload_n 0, 1) := by decide +kernel
theorem dX11_step_13 : decode cX11_step 13 = .ok (.getfield 196, 3) := by decide +kernel
theorem dX11_step_16 : decode cX11_step 16 = .ok (.if_icmp .ge 12, 3) := by decide +kernel
theorem dX11_step_19 : decode cX11_step 19 = .ok (.aload_n 0, 1) := by decide +kernel
theorem dX11_step_20 : decode cX11_step 20 = .ok (.getfield 52, 3) := by decide +kernel
theorem dX11_step_23 : decode cX11_step 23 = .ok (.iload_n 1, 1) := by decide +kernel
theorem dX11_step_24 : decode cX11_step 24 = .ok (.iaload, 1) := by decide +kernel
theorem dX11_step_25 : decode cX11_step 25 = .ok (.goto 4, 3) := by decide +kernel
theorem dX11_step_28 : decode cX11_step 28 = .ok (.iconst (-1), 1) := by decide +kernel
theorem dX11_step_29 : decode cX11_step 29 = .ok (.ireturn, 1) := by decide +kernel
set_option maxRecDepth 20000 in
theorem ggX11_flips_X11_lawful : GoodIn wsX11_flips wsX11_lawful := goodIn_r _ [5, 6, 7, 8, 9, 111, 112, 113, 114, 115, 116, 117, 118, 119, 120, 121, 122, 123, 124, 125, 126, 127, 128, 129, 130, 131, 132, 133, 134, 135, 136, 137, 138, 139, 140, 141, 142, 143, 144, 145, 146, 147, 148] (by decide +kernel) (by decide +kernel)
set_option maxRecDepth 20000 in
theorem gX11_flips_X11_lawful : GoodIn wsX11_flips (wsV RX11 202 RX11 yX11_lawful wsX11_lawful) := goodIn_app (goodIn_of _ (by decide +kernel)) ggX11_flips_X11_lawful
