theorem dX10_flips_0 : decode cX10_flips 0 = .ok (.aload_n 0, 1) := by decide +kernel
theorem dX10_flips_1 : decode cX10_flips 1 = .ok (.invokevirtual 79, 3) := by decide +kernel
theorem dX10_flips_4 : decode cX10_flips 4 = .ok (.istore_n 1, 1) := by decide +kernel
theorem dX10_flips_5 : decode cX10_flips 5 = .ok (.iload_n 1, 1) := by decide +kernel
theorem dX10_flips_6 : decode cX10_flips 6 = .ok (.iconst 1, 1) := by decide +kernel
theorem dX10_flips_7 : decode cX10_flips 7 = .ok (.if_icmp .ne 18, 3) := by decide +kernel
theorem dX10_flips_10 : decode cX10_flips 10 = .ok (.aload_n 0, 1) := by decide +kernel
theorem dX10_flips_11 : decode cX10_flips 11 = .ok (.iconst 0, 1) := by decide +kernel
theorem dX10_flips_12 : decode cX10_flips 12 = .ok (.invokevirtual 90, 3) := by decide +kernel
theorem dX10_flips_15 : decode cX10_flips 15 = .ok (.aload_n 0, 1) := by decide +kernel
theorem dX10_flips_16 : decode cX10_flips 16 = .ok (.getfield 10, 3) := by decide +kernel
theorem dX10_flips_19 : decode cX10_flips 19 = .ok (.invokevirtual 94, 3) := by decide +kernel
theorem dX10_flips_22 : decode cX10_flips 22 = .ok (.goto 4, 3) := by decide +kernel
theorem dX10_flips_25 : decode cX10_flips 25 = .ok (.iload_n 1, 1) := by decide +kernel
theorem dX10_flips_26 : decode cX10_flips 26 = .ok (.ireturn, 1) := by decide +kernel
theorem dX10_forgetWay_0 : decode cX10_forgetWay 0 = .ok (.aload_n 0, 1) := by decide +kernel
theorem dX10_forgetWay_1 : decode cX10_forgetWay 1 = .ok (.iconst 0, 1) := by decide +kernel
theorem dX10_forgetWay_2 : decode cX10_forgetWay 2 = .ok (.putfield 32, 3) := by decide +kernel
theorem dX10_forgetWay_5 : decode cX10_forgetWay 5 = .ok (.iconst 0, 1) := by decide +kernel
theorem dX10_forgetWay_6 : decode cX10_forgetWay 6 = .ok (.istore_n 1, 1) := by decide +kernel
theorem dX10_forgetWay_7 : decode cX10_forgetWay 7 = .ok (.iload_n 1, 1) := by decide +kernel
theorem dX10_forgetWay_8 : decode cX10_forgetWay 8 = .ok (.iconst 4, 1) := by decide +kernel
theorem dX10_forgetWay_9 : decode cX10_forgetWay 9 = .ok (.if_icmp .ge 16, 3) := by decide +kernel
theorem dX10_forgetWay_12 : decode cX10_forgetWay 12 = .ok (.aload_n 0, 1) := by decide +kernel
theorem dX10_forgetWay_13 : decode cX10_forgetWay 13 = .ok (.getfield 25, 3) := by decide +kernel
theorem dX10_forgetWay_16 : decode cX10_forgetWay 16 = .ok (.iload_n 1, 1) := by decide +kernel
theorem dX10_forgetWay_17 : decode cX10_forgetWay 17 = .ok (.iconst 0, 1) := by decide +kernel
theorem dX10_forgetWay_18 : decode cX10_forgetWay 18 = .ok (.iastore, 1) := by decide +kernel
theorem dX10_forgetWay_19 : decode cX10_forgetWay 19 = .ok (.iinc 1 1, 3) := by decide +kernel
theorem dX10_forgetWay_22 : decode cX10_forgetWay 22 = .ok (.goto (-15), 3) := by decide +kernel
theorem dX10_forgetWay_25 : decode cX10_forgetWay 25 = .ok (.return_, 1) := by decide +kernel
set_option maxRecDepth 20000 in
theorem ggX10_walkStage_X10_knownStage : GoodIn wsX10_walkStage wsX10_knownStage := goodIn_r _ [10, 11, 12, 13, 9, 14, 15, 16, 17, 18, 19, 20, 21, 22, 23, 24, 25, 26, 27, 28, 29, 30, 31, 32, 33, 34, 35, 36, 37, 38, 39, 40, 41, 42, 43, 44, 45, 46, 47, 48, 49, 50, 51, 52, 53, 54, 55, 56, 57, 58, 59, 60, 61, 62, 63, 64, 65, 66, 67, 68, 69, 70, 71, 72, 73, 74, 75, 76, 77, 78, 79, 80, 285, 286, 287, 288, 289, 290, 291, 292, 293, 294, 295, 296, 297, 298, 299, 300, 301, 302, 303, 304, 305, 306, 307, 308, 309, 310, 311, 312, 313, 314, 315, 316, 317, 318, 319, 320, 321] (by decide +kernel) (by decide +kernel)
set_option maxRecDepth 20000 in
theorem gX10_walkStage_X10_knownStage : GoodIn wsX10_walkStage (wsV RX10 90 RX10 yX10_knownStage wsX10_knownStage) := goodIn_app (goodIn_of _ (by decide +kernel)) ggX10_walkStage_X10_knownStage
set_option maxRecDepth 20000 in
theorem ggX10_walkStage_X9_find : GoodIn wsX10_walkStage wsX9_find := goodIn_r _ [84, 85, 86, 87, 88, 17, 89, 53, 55, 90, 91, 92, 93, 39, 94, 44, 95, 96, 97, 98, 99, 100, 30, 101, 102, 103, 104, 105, 106, 107, 108, 21, 109, 110, 111, 112, 113, 114, 33, 115, 116, 78, 117, 118, 119, 27, 120, 121, 122, 66, 67, 123, 124, 125, 126, 127, 128, 129, 130, 131, 132, 133, 134, 135, 136, 137, 138, 139, 140, 24, 141, 61, 142, 60, 143, 144, 145, 146, 147, 148, 149, 150, 151, 152, 153, 154, 155, 156, 157, 158, 159, 160, 50, 161, 162, 163, 164, 165, 166, 167, 168, 169, 45, 54, 170, 171, 172, 173, 174, 42, 43, 175, 176, 177, 178, 179, 180, 181, 182, 183, 184, 185, 186, 187, 188, 189, 190, 191, 192, 193, 73, 194, 195, 196, 197, 198, 199, 200, 201, 202, 203, 79, 204, 205, 206, 207, 68, 208, 209, 210, 211, 212, 213, 214, 215, 216, 217, 218, 219, 220, 221, 222, 223, 224, 225, 226, 227, 228, 52, 229, 230, 231, 232, 233, 234, 235, 236, 51, 237, 238, 239, 240, 241, 242, 243, 244, 245, 246, 247, 248, 249, 250, 251, 252, 253, 254, 255, 256, 257, 258, 259, 260, 261, 262, 263, 264, 265, 266, 267, 268, 269, 56, 270, 271, 272, 273, 274, 275, 276, 292, 293, 294, 295, 296, 297, 298, 313, 314, 315, 316, 299, 300, 301, 317, 318, 319, 320, 321, 307, 308, 309, 310, 311, 312, 302, 303, 304, 305, 306, 322, 323, 324, 325, 326, 327, 328, 329] (by decide +kernel) (by decide +kernel)
set_option maxRecDepth 20000 in
theorem gX10_walkStage_X9_find : GoodIn wsX10_walkStage (wsV RX10 94 RX9 yX9_find wsX9_find) := goodIn_app (goodIn_of _ (by decide +kernel)) ggX10_walkStage_X9_find
set_option maxRecDepth 20000 in
theorem ggX10_walkStage_X1_make : GoodIn wsX10_walkStage wsX1_make := goodIn_r _ [281, 282, 283, 284, 218, 219, 169, 220, 183, 179, 184, 182, 176, 322, 323, 324, 325, 326, 327, 328, 329] (by decide +kernel) (by decide +kernel)
set_option maxRecDepth 20000 in
theorem gX10_walkStage_X1_make : GoodIn wsX10_walkStage (wsV RX10 66 RX1 yX1_make wsX1_make) := goodIn_app (goodIn_of _ (by decide +kernel)) ggX10_walkStage_X1_make
theorem dX10_walkStage_0 : decode cX10_walkStage 0 = .ok (.aload_n 0, 1) := by decide +kernel
theorem dX10_walkStage_1 : decode cX10_walkStage 1 = .ok (.iload_n 1, 1) := by decide +kernel
theorem dX10_walkStage_2 : decode cX10_walkStage 2 = .ok (.invokevirtual 90, 3) := by decide +kernel
theorem dX10_walkStage_5 : decode cX10_walkStage 5 = .ok (.astore_n 2, 1) := by decide +kernel
theorem dX10_walkStage_6 : decode cX10_walkStage 6 = .ok (.aload_n 2, 1) := by decide +kernel
theorem dX10_walkStage_7 : decode cX10_walkStage 7 = .ok (.aload_n 0, 1) := by decide +kernel
theorem dX10_walkStage_8 : decode cX10_walkStage 8 = .ok (.getfield 16, 3) := by decide +kernel
theorem dX10_walkStage_11 : decode cX10_walkStage 11 = .ok (.invokevirtual 94, 3) := by decide +kernel
theorem dX10_walkStage_14 : decode cX10_walkStage 14 = .ok (.istore_n 3, 1) := by decide +kernel
theorem dX10_walkStage_15 : decode cX10_walkStage 15 = .ok (.aload_n 0, 1) := by decide +kernel
theorem dX10_walkStage_16 : decode cX10_walkStage 16 = .ok (.getfield 25, 3) := by decide +kernel
theorem dX10_walkStage_19 : decode cX10_walkStage 19 = .ok (.iload_n 1, 1) := by decide +kernel
theorem dX10_walkStage_20 : decode cX10_walkStage 20 = .ok (.iload_n 3, 1) := by decide +kernel
theorem dX10_walkStage_21 : decode cX10_walkStage 21 = .ok (.iastore, 1) := by decide +kernel
theorem dX10_walkStage_22 : decode cX10_walkStage 22 = .ok (.iconst 0, 1) := by decide +kernel
theorem dX10_walkStage_23 : decode cX10_walkStage 23 = .ok (.istore 4, 2) := by decide +kernel
theorem dX10_walkStage_25 : decode cX10_walkStage 25 = .ok (.iload 4, 2) := by decide +kernel
theorem dX10_walkStage_27 : decode cX10_walkStage 27 = .ok (.iload_n 3, 1) := by decide +kernel
theorem dX10_walkStage_28 : decode cX10_walkStage 28 = .ok (.if_icmp .ge 49, 3) := by decide +kernel
theorem dX10_walkStage_31 : decode cX10_walkStage 31 = .ok (.aload_n 0, 1) := by decide +kernel
theorem dX10_walkStage_32 : decode cX10_walkStage 32 = .ok (.getfield 16, 3) := by decide +kernel
theorem dX10_walkStage_35 : decode cX10_walkStage 35 = .ok (.aload_n 2, 1) := by decide +kernel
theorem dX10_walkStage_36 : decode cX10_walkStage 36 = .ok (.getfield 98, 3) := by decide +kernel
theorem dX10_walkStage_39 : decode cX10_walkStage 39 = .ok (.iload 4, 2) := by decide +kernel
theorem dX10_walkStage_41 : decode cX10_walkStage 41 = .ok (.iaload, 1) := by decide +kernel
theorem dX10_walkStage_42 : decode cX10_walkStage 42 = .ok (.invokevirtual 66, 3) := by decide +kernel
theorem dX10_walkStage_45 : decode cX10_walkStage 45 = .ok (.aload_n 0, 1) := by decide +kernel
theorem dX10_walkStage_46 : decode cX10_walkStage 46 = .ok (.getfield 29, 3) := by decide +kernel
theorem dX10_walkStage_49 : decode cX10_walkStage 49 = .ok (.aload_n 0, 1) := by decide +kernel
theorem dX10_walkStage_50 : decode cX10_walkStage 50 = .ok (.getfield 32, 3) := by decide +kernel
theorem dX10_walkStage_53 : decode cX10_walkStage 53 = .ok (.aload_n 2, 1) := by decide +kernel
theorem dX10_walkStage_54 : decode cX10_walkStage 54 = .ok (.getfield 98, 3) := by decide +kernel
theorem dX10_walkStage_57 : decode cX10_walkStage 57 = .ok (.iload 4, 2) := by decide +kernel
theorem dX10_walkStage_59 : decode cX10_walkStage 59 = .ok (.iaload, 1) := by decide +kernel
theorem dX10_walkStage_60 : decode cX10_walkStage 60 = .ok (.iastore, 1) := by decide +kernel
theorem dX10_walkStage_61 : decode cX10_walkStage 61 = .ok (.aload_n 0, 1) := by decide +kernel
theorem dX10_walkStage_62 : decode cX10_walkStage 62 = .ok (.dup, 1) := by decide +kernel
theorem dX10_walkStage_63 : decode cX10_walkStage 63 = .ok (.getfield 32, 3) := by decide +kernel
theorem dX10_walkStage_66 : decode cX10_walkStage 66 = .ok (.iconst 1, 1) := by decide +kernel
theorem dX10_walkStage_67 : decode cX10_walkStage 67 = .ok (.iadd, 1) := by decide +kernel
theorem dX10_walkStage_68 : decode cX10_walkStage 68 = .ok (.putfield 32, 3) := by decide +kernel
theorem dX10_walkStage_71 : decode cX10_walkStage 71 = .ok (.iinc 4 1, 3) := by decide +kernel
theorem dX10_walkStage_74 : decode cX10_walkStage 74 = .ok (.goto (-49), 3) := by decide +kernel
theorem dX10_walkStage_77 : decode cX10_walkStage 77 = .ok (.return_, 1) := by decide +kernel
set_option maxRecDepth 20000 in
theorem ggX10_knownStage_X10_newStage : GoodIn wsX10_knownStage wsX10_newStage := goodIn_r _ [5, 6, 7, 8, 9, 10, 11, 12, 13, 14, 15, 16, 17, 18, 19, 20, 21, 22, 23, 24, 25, 26, 27, 28, 29, 30, 31, 32, 33, 34, 35, 36, 37, 38, 39, 40, 41, 42, 43, 44, 45, 46, 47, 48, 49, 50, 51, 52, 53, 54, 55, 56, 57, 58, 59, 60, 61, 62, 63, 64, 65, 66, 67, 68, 69, 70, 71, 79, 80, 81, 82, 83, 84, 85, 86, 87, 88, 89, 90, 91, 92, 93, 94, 95, 96, 97, 98, 99, 100, 101, 102, 103, 104, 105, 106, 107, 108] (by decide +kernel) (by decide +kernel)
set_option maxRecDepth 20000 in
theorem gX10_knownStage_X10_newStage : GoodIn wsX10_knownStage (va_wsS RX10 101 yX10_newStage wsX10_newStage) := goodIn_app (goodIn_of _ (by decide +kernel)) ggX10_knownStage_X10_newStage
theorem dX10_knownStage_0 : decode cX10_knownStage 0 = .ok (.aload_n 0, 1) := by decide +kernel
theorem dX10_knownStage_1 : decode cX10_knownStage 1 = .ok (.getfield 21, 3) := by decide +kernel
theorem dX10_knownStage_4 : decode cX10_knownStage 4 = .ok (.iload_n 1, 1) := by decide +kernel
theorem dX10_knownStage_5 : decode cX10_knownStage 5 = .ok (.aaload, 1) := by decide +kernel
theorem dX10_knownStage_6 : decode cX10_knownStage 6 = .ok (.ifnonnull 13, 3) := by decide +kernel
theorem dX10_knownStage_9 : decode cX10_knownStage 9 = .ok (.aload_n 0, 1) := by decide +kernel
theorem dX10_knownStage_10 : decode cX10_knownStage 10 = .ok (.getfield 21, 3) := by decide +kernel
theorem dX10_knownStage_13 : decode cX10_knownStage 13 = .ok (.iload_n 1, 1) := by decide +kernel
theorem dX10_knownStage_14 : decode cX10_knownStage 14 = .ok (.iload_n 1, 1) := by decide +kernel
theorem dX10_knownStage_15 : decode cX10_knownStage 15 = .ok (.invokestatic 101, 3) := by decide +kernel
theorem dX10_knownStage_18 : decode cX10_knownStage 18 = .ok (.aastore, 1) := by decide +kernel
theorem dX10_knownStage_19 : decode cX10_knownStage 19 = .ok (.aload_n 0, 1) := by decide +kernel
theorem dX10_knownStage_20 : decode cX10_knownStage 20 = .ok (.getfield 21, 3) := by decide +kernel
theorem dX10_knownStage_23 : decode cX10_knownStage 23 = .ok (.iload_n 1, 1) := by decide +kernel
theorem dX10_knownStage_24 : decode cX10_knownStage 24 = .ok (.aaload, 1) := by decide +kernel
theorem dX10_knownStage_25 : decode cX10_knownStage 25 = .ok (.areturn, 1) := by decide +kernel
set_option maxRecDepth 20000 in
theorem ggX10_newStage_X3_init : GoodIn wsX10_newStage wsX3_init := goodIn_r _ [22, 23, 24, 25, 26, 27, 28, 29, 30, 31, 88, 89, 90, 91, 74, 75, 76, 92, 93, 94, 95, 96, 82, 83, 84, 85, 86, 87, 77, 78, 79, 80, 81] (by decide +kernel) (by decide +kernel)
set_option maxRecDepth 20000 in
theorem gX10_newStage_X3_init : GoodIn wsX10_newStage (wsX3_init) := ggX10_newStage_X3_init
set_option maxRecDepth 20000 in
theorem ggX10_newStage_X9_init : GoodIn wsX10_newStage wsX9_init := goodIn_r _ [34, 35, 28, 29, 36, 37, 38, 39, 40, 41, 42, 67, 68, 69, 70, 71, 72, 73] (by decide +kernel) (by decide +kernel)
set_option maxRecDepth 20000 in
theorem gX10_newStage_X9_init : GoodIn wsX10_newStage (wsX9_init) := ggX10_newStage_X9_init
set_option maxRecDepth 20000 in
theorem ggX10_newStage_X8_init : GoodIn wsX10_newStage wsX8_init := goodIn_r _ [45, 46, 47, 48, 24, 25, 26, 27, 28, 29, 30, 31, 77, 78, 79, 80, 81, 88, 89, 90, 91, 74, 75, 76, 92, 93, 94, 95, 96, 82, 83, 84, 85, 86, 87] (by decide +kernel) (by decide +kernel)
set_option maxRecDepth 20000 in
theorem gX10_newStage_X8_init : GoodIn wsX10_newStage (wsX8_init) := ggX10_newStage_X8_init
set_option maxRecDepth 20000 in
theorem ggX10_newStage_X6_init : GoodIn wsX10_newStage wsX6_init := goodIn_r _ [51, 40, 52, 53, 54, 55, 24, 25, 26, 27, 28, 29, 30, 31, 82, 83, 84, 85, 86, 87, 88, 89, 90, 91, 74, 75, 76, 92, 93, 94, 95, 96, 77, 78, 79, 80, 81] (by decide +kernel) (by decide +kernel)
set_option maxRecDepth 20000 in
theorem gX10_newStage_X6_init : GoodIn wsX10_newStage (wsX6_init) := ggX10_newStage_X6_init
set_option maxRecDepth 20000 in
theorem ggX10_newStage_X0_init : GoodIn wsX10_newStage wsX0_init := goodIn_r _ [58, 40, 59, 60, 24, 25, 26, 27, 28, 29, 30, 31, 88, 89, 90, 91, 74, 75, 76, 92, 93, 94, 95, 96, 82, 83, 84, 85, 86, 87, 77, 78, 79, 80, 81] (by decide +kernel) (by decide +kernel)
set_option maxRecDepth 20000 in
theorem gX10_newStage_X0_init : GoodIn wsX10_newStage (wsX0_init) := ggX10_newStage_X0_init
set_option maxRecDepth 20000 in
theorem ggX10_newStage_X5_init : GoodIn wsX10_newStage wsX5_init := goodIn_r _ [63, 64, 40, 65, 66, 24, 25, 26, 27, 28, 29, 30, 31, 92, 93, 94, 95, 96, 88, 89, 90, 91, 74, 75, 76, 82, 83, 84, 85, 86, 87, 77, 78, 79, 80, 81] (by decide +kernel) (by decide +kernel)
set_option maxRecDepth 20000 in
theorem gX10_newStage_X5_init : GoodIn wsX10_newStage (wsX5_init) := ggX10_newStage_X5_init
theorem dX10_newStage_0 : decode cX10_newStage 0 = .ok (.iload_n 0, 1) := by decide +kernel
theorem dX10_newStage_1 : decode cX10_newStage 1 = .ok (.tableswitch 139 0 2 #[27, 57, 98], 27) := by decide +kernel
theorem dX10_newStage_28 : decode cX10_newStage 28 = .ok (.new 19, 3) := by decide +kernel
theorem dX10_newStage_31 : decode cX10_newStage 31 = .ok (.dup, 1) := by decide +kernel
theorem dX10_newStage_32 : decode cX10_newStage 32 = .ok (.bipush 6, 2) := by decide +kernel
theorem dX10_newStage_34 : decode cX10_newStage 34 = .ok (.bipush 7, 2) := by decide +kernel
theorem dX10_newStage_36 : decode cX10_newStage 36 = .ok (.sipush 2048, 3) := by decide +kernel
theorem dX10_newStage_39 : decode cX10_newStage 39 = .ok (.iconst 1, 1) := by decide +kernel
theorem dX10_newStage_40 : decode cX10_newStage 40 = .ok (.anewarray 104, 3) := by decide +kernel
theorem dX10_newStage_43 : decode cX10_newStage 43 = .ok (.dup, 1) := by decide +kernel
theorem dX10_newStage_44 : decode cX10_newStage 44 = .ok (.iconst 0, 1) := by decide +kernel
theorem dX10_newStage_45 : decode cX10_newStage 45 = .ok (.new 106, 3) := by decide +kernel
theorem dX10_newStage_48 : decode cX10_newStage 48 = .ok (.dup, 1) := by decide +kernel
theorem dX10_newStage_49 : decode cX10_newStage 49 = .ok (.iconst 0, 1) := by decide +kernel
theorem dX10_newStage_50 : decode cX10_newStage 50 = .ok (.invokespecial 108, 3) := by decide +kernel
theorem dX10_newStage_53 : decode cX10_newStage 53 = .ok (.aastore, 1) := by decide +kernel
theorem dX10_newStage_54 : decode cX10_newStage 54 = .ok (.invokespecial 111, 3) := by decide +kernel
theorem dX10_newStage_57 : decode cX10_newStage 57 = .ok (.areturn, 1) := by decide +kernel
theorem dX10_newStage_58 : decode cX10_newStage 58 = .ok (.new 19, 3) := by decide +kernel
theorem dX10_newStage_61 : decode cX10_newStage 61 = .ok (.dup, 1) := by decide +kernel
theorem dX10_newStage_62 : decode cX10_newStage 62 = .ok (.iconst 4, 1) := by decide +kernel
theorem dX10_newStage_63 : decode cX10_newStage 63 = .ok (.iconst 5, 1) := by decide +kernel
theorem dX10_newStage_64 : decode cX10_newStage 64 = .ok (.sipush 2048, 3) := by decide +kernel
theorem dX10_newStage_67 : decode cX10_newStage 67 = .ok (.iconst 2, 1) := by decide +kernel
theorem dX10_newStage_68 : decode cX10_newStage 68 = .ok (.anewarray 104, 3) := by decide +kernel
theorem dX10_newStage_71 : decode cX10_newStage 71 = .ok (.dup, 1) := by decide +kernel
theorem dX10_newStage_72 : decode cX10_newStage 72 = .ok (.iconst 0, 1) := by decide +kernel
theorem dX10_newStage_73 : decode cX10_newStage 73 = .ok (.new 106, 3) := by decide +kernel
theorem dX10_newStage_76 : decode cX10_newStage 76 = .ok (.dup, 1) := by decide +kernel
theorem dX10_newStage_77 : decode cX10_newStage 77 = .ok (.iconst 1, 1) := by decide +kernel
theorem dX10_newStage_78 : decode cX10_newStage 78 = .ok (.invokespecial 108, 3) := by decide +kernel
theorem dX10_newStage_81 : decode cX10_newStage 81 = .ok (.aastore, 1) := by decide +kernel
theorem dX10_newStage_82 : decode cX10_newStage 82 = .ok (.dup, 1) := by decide +kernel
theorem dX10_newStage_83 : decode cX10_newStage 83 = .ok (.iconst 1, 1) := by decide +kernel
theorem dX10_newStage_84 : decode cX10_newStage 84 = .ok (.new 114, 3) := by decide +kernel
theorem dX10_newStage_87 : decode cX10_newStage 87 = .ok (.dup, 1) := by decide +kernel
theorem dX10_newStage_88 : decode cX10_newStage 88 = .ok (.iconst 2, 1) := by decide +kernel
theorem dX10_newStage_89 : decode cX10_newStage 89 = .ok (.bipush 12, 2) := by decide +kernel
theorem dX10_newStage_91 : decode cX10_newStage 91 = .ok (.invokespecial 116, 3) := by decide +kernel
theorem dX10_newStage_94 : decode cX10_newStage 94 = .ok (.aastore, 1) := by decide +kernel
theorem dX10_newStage_95 : decode cX10_newStage 95 = .ok (.invokespecial 111, 3) := by decide +kernel
theorem dX10_newStage_98 : decode cX10_newStage 98 = .ok (.areturn, 1) := by decide +kernel
theorem dX10_newStage_99 : decode cX10_newStage 99 = .ok (.new 19, 3) := by decide +kernel
theorem dX10_newStage_102 : decode cX10_newStage 102 = .ok (.dup, 1) := by decide +kernel
theorem dX10_newStage_103 : decode cX10_newStage 103 = .ok (.iconst 2, 1) := by decide +kernel
theorem dX10_newStage_104 : decode cX10_newStage 104 = .ok (.bipush 7, 2) := by decide +kernel
theorem dX10_newStage_106 : decode cX10_newStage 106 = .ok (.sipush 4096, 3) := by decide +kernel
theorem dX10_newStage_109 : decode cX10_newStage 109 = .ok (.iconst 2, 1) := by decide +kernel
theorem dX10_newStage_110 : decode cX10_newStage 110 = .ok (.anewarray 104, 3) := by decide +kernel
theorem dX10_newStage_113 : decode cX10_newStage 113 = .ok (.dup, 1) := by decide +kernel
theorem dX10_newStage_114 : decode cX10_newStage 114 = .ok (.iconst 0, 1) := by decide +kernel
theorem dX10_newStage_115 : decode cX10_newStage 115 = .ok (.new 119, 3) := by decide +kernel
theorem dX10_newStage_118 : decode cX10_newStage 118 = .ok (.dup, 1) := by decide +kernel
theorem dX10_newStage_119 : decode cX10_newStage 119 = .ok (.invokespecial 121, 3) := by decide +kernel
theorem dX10_newStage_122 : decode cX10_newStage 122 = .ok (.aastore, 1) := by decide +kernel
theorem dX10_newStage_123 : decode cX10_newStage 123 = .ok (.dup, 1) := by decide +kernel
theorem dX10_newStage_124 : decode cX10_newStage 124 = .ok (.iconst 1, 1) := by decide +kernel
theorem dX10_newStage_125 : decode cX10_newStage 125 = .ok (.new 114, 3) := by decide +kernel
theorem dX10_newStage_128 : decode cX10_newStage 128 = .ok (.dup, 1) := by decide +kernel
theorem dX10_newStage_129 : decode cX10_newStage 129 = .ok (.iconst 0, 1) := by decide +kernel
theorem dX10_newStage_130 : decode cX10_newStage 130 = .ok (.bipush 8, 2) := by decide +kernel
theorem dX10_newStage_132 : decode cX10_newStage 132 = .ok (.invokespecial 116, 3) := by decide +kernel
theorem dX10_newStage_135 : decode cX10_newStage 135 = .ok (.aastore, 1) := by decide +kernel
theorem dX10_newStage_136 : decode cX10_newStage 136 = .ok (.invokespecial 111, 3) := by decide +kernel
theorem dX10_newStage_139 : decode cX10_newStage 139 = .ok (.areturn, 1) := by decide +kernel
theorem dX10_newStage_140 : decode cX10_newStage 140 = .ok (.new 19, 3) := by decide +kernel
theorem dX10_newStage_143 : decode cX10_newStage 143 = .ok (.dup, 1) := by decide +kernel
theorem dX10_newStage_144 : decode cX10_newStage 144 = .ok (.iconst 0, 1) := by decide +kernel
theorem dX10_newStage_145 : decode cX10_newStage 145 = .ok (.bipush 7, 2) := by decide +kernel
theorem dX10_newStage_147 : decode cX10_newStage 147 = .ok (.sipush 10240, 3) := by decide +kernel
theorem dX10_newStage_150 : decode cX10_newStage 150 = .ok (.iconst 4, 1) := by decide +kernel
theorem dX10_newStage_151 : decode cX10_newStage 151 = .ok (.anewarray 104, 3) := by decide +kernel
theorem dX10_newStage_154 : decode cX10_newStage 154 = .ok (.dup, 1) := by decide +kernel
theorem dX10_newStage_155 : decode cX10_newStage 155 = .ok (.iconst 0, 1) := by decide +kernel
theorem dX10_newStage_156 : decode cX10_newStage 156 = .ok (.new 122, 3) := by decide +kernel
theorem dX10_newStage_159 : decode cX10_newStage 159 = .ok (.dup, 1) := by decide +kernel
theorem dX10_newStage_160 : decode cX10_newStage 160 = .ok (.invokespecial 124, 3) := by decide +kernel
theorem dX10_newStage_163 : decode cX10_newStage 163 = .ok (.aastore, 1) := by decide +kernel
theorem dX10_newStage_164 : decode cX10_newStage 164 = .ok (.dup, 1) := by decide +kernel
theorem dX10_newStage_165 : decode cX10_newStage 165 = .ok (.iconst 1, 1) := by decide +kernel
theorem dX10_newStage_166 : decode cX10_newStage 166 = .ok (.new 125, 3) := by decide +kernel
theorem dX10_newStage_169 : decode cX10_newStage 169 = .ok (.dup, 1) := by decide +kernel
theorem dX10_newStage_170 : decode cX10_newStage 170 = .ok (.iconst 0, 1) := by decide +kernel
theorem dX10_newStage_171 : decode cX10_newStage 171 = .ok (.invokespecial 127, 3) := by decide +kernel
theorem dX10_newStage_174 : decode cX10_newStage 174 = .ok (.aastore, 1) := by decide +kernel
theorem dX10_newStage_175 : decode cX10_newStage 175 = .ok (.dup, 1) := by decide +kernel
theorem dX10_newStage_176 : decode cX10_newStage 176 = .ok (.iconst 2, 1) := by decide +kernel
theorem dX10_newStage_177 : decode cX10_newStage 177 = .ok (.new 125, 3) := by decide +kernel
theorem dX10_newStage_180 : decode cX10_newStage 180 = .ok (.dup, 1) := by decide +kernel
theorem dX10_newStage_181 : decode cX10_newStage 181 = .ok (.iconst 1, 1) := by decide +kernel
theorem dX10_newStage_182 : decode cX10_newStage 182 = .ok (.invokespecial 127, 3) := by decide +kernel
theorem dX10_newStage_185 : decode cX10_newStage 185 = .ok (.aastore, 1) := by decide +kernel
theorem dX10_newStage_186 : decode cX10_newStage 186 = .ok (.dup, 1) := by decide +kernel
theorem dX10_newStage_187 : decode cX10_newStage 187 = .ok (.iconst 3, 1) := by decide +kernel
theorem dX10_newStage_188 : decode cX10_newStage 188 = .ok (.new 125, 3) := by decide +kernel
theorem dX10_newStage_191 : decode cX10_newStage 191 = .ok (.dup, 1) := by decide +kernel
theorem dX10_newStage_192 : decode cX10_newStage 192 = .ok (.iconst 2, 1) := by decide +kernel
theorem dX10_newStage_193 : decode cX10_newStage 193 = .ok (.invokespecial 127, 3) := by decide +kernel
theorem dX10_newStage_196 : decode cX10_newStage 196 = .ok (.aastore, 1) := by decide +kernel
theorem dX10_newStage_197 : decode cX10_newStage 197 = .ok (.invokespecial 111, 3) := by decide +kernel
theorem dX10_newStage_200 : decode cX10_newStage 200 = .ok (.areturn, 1) := by decide +kernel
set_option maxRecDepth 20000 in
theorem ggX11_init_X11_face : GoodIn wsX11_init wsX11_face := goodIn_r _ [49, 43, 15, 17, 16, 18, 50, 51, 48, 52, 57, 58, 59, 60, 61, 62, 63, 64, 65, 66, 67, 68, 69, 70, 71, 72, 73, 74, 75, 76, 77, 78, 79, 80, 81, 82, 83, 84, 85, 86, 87, 88, 89, 90, 91, 92, 93, 94] (by decide +kernel) (by decide +kernel)
set_option maxRecDepth 20000 in
theorem gX11_init_X11_face : GoodIn wsX11_init (wsV RX11 118 RX11 yX11_face wsX11_face) := goodIn_app (goodIn_of _ (by decide +kernel)) ggX11_init_X11_face
set_option maxRecDepth 20000 in
theorem ggX11_init_X11_bringHome : GoodIn wsX11_init wsX11_bringHome := goodIn_r _ [56, 7, 8, 5, 6, 57, 58, 59, 60, 61, 62, 63, 64, 65, 66, 67, 68, 69, 70, 71, 72, 73, 74, 75, 76, 77, 78, 79, 80, 81, 82, 83, 84, 85, 86, 87, 88, 89, 90, 91, 92, 93, 94] (by decide +kernel) (by decide +kernel)
set_option maxRecDepth 20000 in
theorem gX11_init_X11_bringHome : GoodIn wsX11_init (wsV RX11 122 RX11 yX11_bringHome wsX11_bringHome) := goodIn_app (goodIn_of _ (by decide +kernel)) ggX11_init_X11_bringHome
theorem dX11_init_0 : decode cX11_init 0 = .ok (.aload_n 0, 1) := by decide +kernel
theorem dX11_init_1 : decode cX11_init 1 = .ok (.invokespecial 1, 3) := by decide +kernel
theorem dX11_init_4 : decode cX11_init 4 = .ok (.aload_n 0, 1) := by decide +kernel
theorem dX11_init_5 : decode cX11_init 5 = .ok (.bipush 8, 2) := by decide +kernel
theorem dX11_init_7 : decode cX11_init 7 = .ok (.newarray .int, 2) := by decide +kernel
theorem dX11_init_9 : decode cX11_init 9 = .ok (.putfield 7, 3) := by decide +kernel
theorem dX11_init_12 : decode cX11_init 12 = .ok (.aload_n 0, 1) := by decide +kernel
theorem dX11_init_13 : decode cX11_init 13 = .ok (.bipush 8, 2) := by decide +kernel
theorem dX11_init_15 : decode cX11_init 15 = .ok (.newarray .int, 2) := by decide +kernel
theorem dX11_init_17 : decode cX11_init 17 = .ok (.putfield 13, 3) := by decide +kernel
theorem dX11_init_20 : decode cX11_init 20 = .ok (.aload_n 0, 1) := by decide +kernel
theorem dX11_init_21 : decode cX11_init 21 = .ok (.bipush 12, 2) := by decide +kernel
theorem dX11_init_23 : decode cX11_init 23 = .ok (.newarray .int, 2) := by decide +kernel
theorem dX11_init_25 : decode cX11_init 25 = .ok (.putfield 16, 3) := by decide +kernel
theorem dX11_init_28 : decode cX11_init 28 = .ok (.aload_n 0, 1) := by decide +kernel
theorem dX11_init_29 : decode cX11_init 29 = .ok (.bipush 12, 2) := by decide +kernel
theorem dX11_init_31 : decode cX11_init 31 = .ok (.newarray .int, 2) := by decide +kernel
theorem dX11_init_33 : decode cX11_init 33 = .ok (.putfield 19, 3) := by decide +kernel
theorem dX11_init_36 : decode cX11_init 36 = .ok (.aload_n 0, 1) := by decide +kernel
theorem dX11_init_37 : decode cX11_init 37 = .ok (.bipush 8, 2) := by decide +kernel
theorem dX11_init_39 : decode cX11_init 39 = .ok (.newarray .int, 2) := by decide +kernel
theorem dX11_init_41 : decode cX11_init 41 = .ok (.putfield 22, 3) := by decide +kernel
theorem dX11_init_44 : decode cX11_init 44 = .ok (.aload_n 0, 1) := by decide +kernel
theorem dX11_init_45 : decode cX11_init 45 = .ok (.bipush 8, 2) := by decide +kernel
theorem dX11_init_47 : decode cX11_init 47 = .ok (.newarray .int, 2) := by decide +kernel
theorem dX11_init_49 : decode cX11_init 49 = .ok (.putfield 25, 3) := by decide +kernel
theorem dX11_init_52 : decode cX11_init 52 = .ok (.aload_n 0, 1) := by decide +kernel
theorem dX11_init_53 : decode cX11_init 53 = .ok (.bipush 12, 2) := by decide +kernel
theorem dX11_init_55 : decode cX11_init 55 = .ok (.newarray .int, 2) := by decide +kernel
theorem dX11_init_57 : decode cX11_init 57 = .ok (.putfield 28, 3) := by decide +kernel
theorem dX11_init_60 : decode cX11_init 60 = .ok (.aload_n 0, 1) := by decide +kernel
theorem dX11_init_61 : decode cX11_init 61 = .ok (.bipush 12, 2) := by decide +kernel
theorem dX11_init_63 : decode cX11_init 63 = .ok (.newarray .int, 2) := by decide +kernel
theorem dX11_init_65 : decode cX11_init 65 = .ok (.putfield 31, 3) := by decide +kernel
theorem dX11_init_68 : decode cX11_init 68 = .ok (.aload_n 0, 1) := by decide +kernel
theorem dX11_init_69 : decode cX11_init 69 = .ok (.bipush 12, 2) := by decide +kernel
theorem dX11_init_71 : decode cX11_init 71 = .ok (.newarray .int, 2) := by decide +kernel
theorem dX11_init_73 : decode cX11_init 73 = .ok (.putfield 34, 3) := by decide +kernel
theorem dX11_init_76 : decode cX11_init 76 = .ok (.aload_n 0, 1) := by decide +kernel
theorem dX11_init_77 : decode cX11_init 77 = .ok (.bipush 12, 2) := by decide +kernel
theorem dX11_init_79 : decode cX11_init 79 = .ok (.newarray .int, 2) := by decide +kernel
theorem dX11_init_81 : decode cX11_init 81 = .ok (.putfield 37, 3) := by decide +kernel
theorem dX11_init_84 : decode cX11_init 84 = .ok (.aload_n 0, 1) := by decide +kernel
theorem dX11_init_85 : decode cX11_init 85 = .ok (.sipush 144, 3) := by decide +kernel
theorem dX11_init_88 : decode cX11_init 88 = .ok (.newarray .int, 2) := by decide +kernel
theorem dX11_init_90 : decode cX11_init 90 = .ok (.putfield 40, 3) := by decide +kernel
theorem dX11_init_93 : decode cX11_init 93 = .ok (.aload_n 0, 1) := by decide +kernel
theorem dX11_init_94 : decode cX11_init 94 = .ok (.sipush 144, 3) := by decide +kernel
theorem dX11_init_97 : decode cX11_init 97 = .ok (.newarray .int, 2) := by decide +kernel
theorem dX11_init_99 : decode cX11_init 99 = .ok (.putfield 43, 3) := by decide +kernel
theorem dX11_init_102 : decode cX11_init 102 = .ok (.aload_n 0, 1) := by decide +kernel
theorem dX11_init_103 : decode cX11_init 103 = .ok (.sipush 216, 3) := by decide +kernel
theorem dX11_init_106 : decode cX11_init 106 = .ok (.newarray .int, 2) := by decide +kernel
theorem dX11_init_108 : decode cX11_init 108 = .ok (.putfield 46, 3) := by decide +kernel
theorem dX11_init_111 : decode cX11_init 111 = .ok (.aload_n 0, 1) := by decide +kernel
theorem dX11_init_112 : decode cX11_init 112 = .ok (.sipush 216, 3) := by decide +kernel
theorem dX11_init_115 : decode cX11_init 115 = .ok (.newarray .int, 2) := by decide +kernel
theorem dX11_init_117 : decode cX11_init 117 = .ok (.putfield 49, 3) := by decide +kernel
theorem dX11_init_120 : decode cX11_init 120 = .ok (.aload_n 0, 1) := by decide +kernel
theorem dX11_init_121 : decode cX11_init 121 = .ok (.bipush 100, 2) := by decide +kernel
theorem dX11_init_123 : decode cX11_init 123 = .ok (.newarray .int, 2) := by decide +kernel
theorem dX11_init_125 : decode cX11_init 125 = .ok (.putfield 52, 3) := by decide +kernel
theorem dX11_init_128 : decode cX11_init 128 = .ok (.aload_n 0, 1) := by decide +kernel
theorem dX11_init_129 : decode cX11_init 129 = .ok (.iconst 4, 1) := by decide +kernel
theorem dX11_init_130 : decode cX11_init 130 = .ok (.newarray .int, 2) := by decide +kernel
theorem dX11_init_132 : decode cX11_init 132 = .ok (.putfield 55, 3) := by decide +kernel
theorem dX11_init_135 : decode cX11_init 135 = .ok (.aload_n 0, 1) := by decide +kernel
theorem dX11_init_136 : decode cX11_init 136 = .ok (.sipush 4096, 3) := by decide +kernel
theorem dX11_init_139 : decode cX11_init 139 = .ok (.newarray .byte, 2) := by decide +kernel
theorem dX11_init_141 : decode cX11_init 141 = .ok (.putfield 58, 3) := by decide +kernel
theorem dX11_init_144 : decode cX11_init 144 = .ok (.aload_n 0, 1) := by decide +kernel
theorem dX11_init_145 : decode cX11_init 145 = .ok (.ldc 62, 2) := by decide +kernel
theorem dX11_init_147 : decode cX11_init 147 = .ok (.newarray .byte, 2) := by decide +kernel
theorem dX11_init_149 : decode cX11_init 149 = .ok (.putfield 63, 3) := by decide +kernel
theorem dX11_init_152 : decode cX11_init 152 = .ok (.aload_n 0, 1) := by decide +kernel
theorem dX11_init_153 : decode cX11_init 153 = .ok (.sipush 29400, 3) := by decide +kernel
theorem dX11_init_156 : decode cX11_init 156 = .ok (.newarray .byte, 2) := by decide +kernel
theorem dX11_init_158 : decode cX11_init 158 = .ok (.putfield 66, 3) := by decide +kernel
theorem dX11_init_161 : decode cX11_init 161 = .ok (.aload_n 0, 1) := by decide +kernel
theorem dX11_init_162 : decode cX11_init 162 = .ok (.ldc 69, 2) := by decide +kernel
theorem dX11_init_164 : decode cX11_init 164 = .ok (.newarray .byte, 2) := by decide +kernel
theorem dX11_init_166 : decode cX11_init 166 = .ok (.putfield 70, 3) := by decide +kernel
theorem dX11_init_169 : decode cX11_init 169 = .ok (.aload_n 0, 1) := by decide +kernel
theorem dX11_init_170 : decode cX11_init 170 = .ok (.sipush 4096, 3) := by decide +kernel
theorem dX11_init_173 : decode cX11_init 173 = .ok (.newarray .short, 2) := by decide +kernel
theorem dX11_init_175 : decode cX11_init 175 = .ok (.putfield 73, 3) := by decide +kernel
theorem dX11_init_178 : decode cX11_init 178 = .ok (.aload_n 0, 1) := by decide +kernel
theorem dX11_init_179 : decode cX11_init 179 = .ok (.sipush 495, 3) := by decide +kernel
theorem dX11_init_182 : decode cX11_init 182 = .ok (.newarray .short, 2) := by decide +kernel
theorem dX11_init_184 : decode cX11_init 184 = .ok (.putfield 77, 3) := by decide +kernel
theorem dX11_init_187 : decode cX11_init 187 = .ok (.aload_n 0, 1) := by decide +kernel
theorem dX11_init_188 : decode cX11_init 188 = .ok (.sipush 256, 3) := by decide +kernel
theorem dX11_init_191 : decode cX11_init 191 = .ok (.newarray .short, 2) := by decide +kernel
theorem dX11_init_193 : decode cX11_init 193 = .ok (.putfield 80, 3) := by decide +kernel
theorem dX11_init_196 : decode cX11_init 196 = .ok (.aload_n 0, 1) := by decide +kernel
theorem dX11_init_197 : decode cX11_init 197 = .ok (.bipush 70, 2) := by decide +kernel
theorem dX11_init_199 : decode cX11_init 199 = .ok (.newarray .short, 2) := by decide +kernel
theorem dX11_init_201 : decode cX11_init 201 = .ok (.putfield 83, 3) := by decide +kernel
theorem dX11_init_204 : decode cX11_init 204 = .ok (.aload_n 0, 1) := by decide +kernel
theorem dX11_init_205 : decode cX11_init 205 = .ok (.ldc 86, 2) := by decide +kernel
theorem dX11_init_207 : decode cX11_init 207 = .ok (.newarray .short, 2) := by decide +kernel
theorem dX11_init_209 : decode cX11_init 209 = .ok (.putfield 87, 3) := by decide +kernel
theorem dX11_init_212 : decode cX11_init 212 = .ok (.aload_n 0, 1) := by decide +kernel
theorem dX11_init_213 : decode cX11_init 213 = .ok (.sipush 420, 3) := by decide +kernel
theorem dX11_init_216 : decode cX11_init 216 = .ok (.newarray .int, 2) := by decide +kernel
theorem dX11_init_218 : decode cX11_init 218 = .ok (.putfield 90, 3) := by decide +kernel
theorem dX11_init_221 : decode cX11_init 221 = .ok (.aload_n 0, 1) := by decide +kernel
theorem dX11_init_222 : decode cX11_init 222 = .ok (.ldc 86, 2) := by decide +kernel
theorem dX11_init_224 : decode cX11_init 224 = .ok (.newarray .short, 2) := by decide +kernel
theorem dX11_init_226 : decode cX11_init 226 = .ok (.putfield 93, 3) := by decide +kernel
theorem dX11_init_229 : decode cX11_init 229 = .ok (.aload_n 0, 1) := by decide +kernel
theorem dX11_init_230 : decode cX11_init 230 = .ok (.bipush 96, 2) := by decide +kernel
theorem dX11_init_232 : decode cX11_init 232 = .ok (.newarray .int, 2) := by decide +kernel
theorem dX11_init_234 : decode cX11_init 234 = .ok (.putfield 96, 3) := by decide +kernel
theorem dX11_init_237 : decode cX11_init 237 = .ok (.aload_n 0, 1) := by decide +kernel
theorem dX11_init_238 : decode cX11_init 238 = .ok (.ldc 99, 2) := by decide +kernel
theorem dX11_init_240 : decode cX11_init 240 = .ok (.newarray .int, 2) := by decide +kernel
theorem dX11_init_242 : decode cX11_init 242 = .ok (.putfield 100, 3) := by decide +kernel
theorem dX11_init_245 : decode cX11_init 245 = .ok (.aload_n 0, 1) := by decide +kernel
theorem dX11_init_246 : decode cX11_init 246 = .ok (.sipush 8910, 3) := by decide +kernel
theorem dX11_init_249 : decode cX11_init 249 = .ok (.newarray .int, 2) := by decide +kernel
theorem dX11_init_251 : decode cX11_init 251 = .ok (.putfield 103, 3) := by decide +kernel
theorem dX11_init_254 : decode cX11_init 254 = .ok (.aload_n 0, 1) := by decide +kernel
theorem dX11_init_255 : decode cX11_init 255 = .ok (.sipush 7560, 3) := by decide +kernel
theorem dX11_init_258 : decode cX11_init 258 = .ok (.newarray .int, 2) := by decide +kernel
theorem dX11_init_260 : decode cX11_init 260 = .ok (.putfield 106, 3) := by decide +kernel
theorem dX11_init_263 : decode cX11_init 263 = .ok (.aload_n 0, 1) := by decide +kernel
theorem dX11_init_264 : decode cX11_init 264 = .ok (.sipush 1296, 3) := by decide +kernel
theorem dX11_init_267 : decode cX11_init 267 = .ok (.newarray .int, 2) := by decide +kernel
theorem dX11_init_269 : decode cX11_init 269 = .ok (.putfield 109, 3) := by decide +kernel
theorem dX11_init_272 : decode cX11_init 272 = .ok (.aload_n 0, 1) := by decide +kernel
theorem dX11_init_273 : decode cX11_init 273 = .ok (.bipush 8, 2) := by decide +kernel
theorem dX11_init_275 : decode cX11_init 275 = .ok (.newarray .int, 2) := by decide +kernel
theorem dX11_init_277 : decode cX11_init 277 = .ok (.putfield 112, 3) := by decide +kernel
theorem dX11_init_280 : decode cX11_init 280 = .ok (.aload_n 0, 1) := by decide +kernel
theorem dX11_init_281 : decode cX11_init 281 = .ok (.bipush 8, 2) := by decide +kernel
theorem dX11_init_283 : decode cX11_init 283 = .ok (.newarray .int, 2) := by decide +kernel
theorem dX11_init_285 : decode cX11_init 285 = .ok (.putfield 115, 3) := by decide +kernel
theorem dX11_init_288 : decode cX11_init 288 = .ok (.aload_n 0, 1) := by decide +kernel
theorem dX11_init_289 : decode cX11_init 289 = .ok (.iconst 0, 1) := by decide +kernel
theorem dX11_init_290 : decode cX11_init 290 = .ok (.iconst 4, 1) := by decide +kernel
theorem dX11_init_291 : decode cX11_init 291 = .ok (.bipush 6, 2) := by decide +kernel
theorem dX11_init_293 : decode cX11_init 293 = .ok (.bipush 7, 2) := by decide +kernel
theorem dX11_init_295 : decode cX11_init 295 = .ok (.iconst 5, 1) := by decide +kernel
theorem dX11_init_296 : decode cX11_init 296 = .ok (.invokevirtual 118, 3) := by decide +kernel
theorem dX11_init_299 : decode cX11_init 299 = .ok (.aload_n 0, 1) := by decide +kernel
theorem dX11_init_300 : decode cX11_init 300 = .ok (.iconst 1, 1) := by decide +kernel
theorem dX11_init_301 : decode cX11_init 301 = .ok (.iconst 0, 1) := by decide +kernel
theorem dX11_init_302 : decode cX11_init 302 = .ok (.iconst 1, 1) := by decide +kernel
theorem dX11_init_303 : decode cX11_init 303 = .ok (.iconst 3, 1) := by decide +kernel
theorem dX11_init_304 : decode cX11_init 304 = .ok (.iconst 2, 1) := by decide +kernel
theorem dX11_init_305 : decode cX11_init 305 = .ok (.invokevirtual 118, 3) := by decide +kernel
theorem dX11_init_308 : decode cX11_init 308 = .ok (.aload_n 0, 1) := by decide +kernel
theorem dX11_init_309 : decode cX11_init 309 = .ok (.iconst 2, 1) := by decide +kernel
theorem dX11_init_310 : decode cX11_init 310 = .ok (.iconst 4, 1) := by decide +kernel
theorem dX11_init_311 : decode cX11_init 311 = .ok (.iconst 0, 1) := by decide +kernel
theorem dX11_init_312 : decode cX11_init 312 = .ok (.iconst 2, 1) := by decide +kernel
theorem dX11_init_313 : decode cX11_init 313 = .ok (.bipush 6, 2) := by decide +kernel
theorem dX11_init_315 : decode cX11_init 315 = .ok (.invokevirtual 118, 3) := by decide +kernel
theorem dX11_init_318 : decode cX11_init 318 = .ok (.aload_n 0, 1) := by decide +kernel
theorem dX11_init_319 : decode cX11_init 319 = .ok (.iconst 3, 1) := by decide +kernel
theorem dX11_init_320 : decode cX11_init 320 = .ok (.iconst 5, 1) := by decide +kernel
theorem dX11_init_321 : decode cX11_init 321 = .ok (.bipush 7, 2) := by decide +kernel
theorem dX11_init_323 : decode cX11_init 323 = .ok (.iconst 3, 1) := by decide +kernel
theorem dX11_init_324 : decode cX11_init 324 = .ok (.iconst 1, 1) := by decide +kernel
theorem dX11_init_325 : decode cX11_init 325 = .ok (.invokevirtual 118, 3) := by decide +kernel
theorem dX11_init_328 : decode cX11_init 328 = .ok (.aload_n 0, 1) := by decide +kernel
theorem dX11_init_329 : decode cX11_init 329 = .ok (.iconst 4, 1) := by decide +kernel
theorem dX11_init_330 : decode cX11_init 330 = .ok (.iconst 4, 1) := by decide +kernel
theorem dX11_init_331 : decode cX11_init 331 = .ok (.iconst 5, 1) := by decide +kernel
theorem dX11_init_332 : decode cX11_init 332 = .ok (.iconst 1, 1) := by decide +kernel
theorem dX11_init_333 : decode cX11_init 333 = .ok (.iconst 0, 1) := by decide +kernel
theorem dX11_init_334 : decode cX11_init 334 = .ok (.invokevirtual 118, 3) := by decide +kernel
theorem dX11_init_337 : decode cX11_init 337 = .ok (.aload_n 0, 1) := by decide +kernel
theorem dX11_init_338 : decode cX11_init 338 = .ok (.iconst 5, 1) := by decide +kernel
theorem dX11_init_339 : decode cX11_init 339 = .ok (.bipush 7, 2) := by decide +kernel
theorem dX11_init_341 : decode cX11_init 341 = .ok (.bipush 6, 2) := by decide +kernel
theorem dX11_init_343 : decode cX11_init 343 = .ok (.iconst 2, 1) := by decide +kernel
theorem dX11_init_344 : decode cX11_init 344 = .ok (.iconst 3, 1) := by decide +kernel
theorem dX11_init_345 : decode cX11_init 345 = .ok (.invokevirtual 118, 3) := by decide +kernel
theorem dX11_init_348 : decode cX11_init 348 = .ok (.aload_n 0, 1) := by decide +kernel
theorem dX11_init_349 : decode cX11_init 349 = .ok (.invokevirtual 122, 3) := by decide +kernel
theorem dX11_init_352 : decode cX11_init 352 = .ok (.return_, 1) := by decide +kernel
theorem dX11_between_0 : decode cX11_between 0 = .ok (.iload_n 0, 1) := by decide +kernel
theorem dX11_between_1 : decode cX11_between 1 = .ok (.iload_n 1, 1) := by decide +kernel
theorem dX11_between_2 : decode cX11_between 2 = .ok (.if_icmp .ge 7, 3) := by decide +kernel
theorem dX11_between_5 : decode cX11_between 5 = .ok (.iload_n 0, 1) := by decide +kernel
theorem dX11_between_6 : decode cX11_between 6 = .ok (.goto 4, 3) := by decide +kernel
theorem dX11_between_9 : decode cX11_between 9 = .ok (.iload_n 1, 1) := by decide +kernel
theorem dX11_between_10 : decode cX11_between 10 = .ok (.istore_n 2, 1) := by decide +kernel
theorem dX11_between_11 : decode cX11_between 11 = .ok (.iload_n 2, 1) := by decide +kernel
theorem dX11_between_12 : decode cX11_between 12 = .ok (.iconst 1, 1) := by decide +kernel
theorem dX11_between_13 : decode cX11_between 13 = .ok (.iand, 1) := by decide +kernel
theorem dX11_between_14 : decode cX11_between 14 = .ok (.istore_n 3, 1) := by decide +kernel
theorem dX11_between_15 : decode cX11_between 15 = .ok (.iload_n 2, 1) := by decide +kernel
theorem dX11_between_16 : decode cX11_between 16 = .ok (.iconst 1, 1) := by decide +kernel
theorem dX11_between_17 : decode cX11_between 17 = .ok (.ishr, 1) := by decide +kernel
theorem dX11_between_18 : decode cX11_between 18 = .ok (.iconst 1, 1) := by decide +kernel
theorem dX11_between_19 : decode cX11_between 19 = .ok (.iand, 1) := by decide +kernel
theorem dX11_between_20 : decode cX11_between 20 = .ok (.istore 4, 2) := by decide +kernel
theorem dX11_between_22 : decode cX11_between 22 = .ok (.iload_n 2, 1) := by decide +kernel
theorem dX11_between_23 : decode cX11_between 23 = .ok (.iconst 2, 1) := by decide +kernel
theorem dX11_between_24 : decode cX11_between 24 = .ok (.ishr, 1) := by decide +kernel
theorem dX11_between_25 : decode cX11_between 25 = .ok (.istore 5, 2) := by decide +kernel
theorem dX11_between_27 : decode cX11_between 27 = .ok (.iload_n 0, 1) := by decide +kernel
theorem dX11_between_28 : decode cX11_between 28 = .ok (.iload_n 1, 1) := by decide +kernel
theorem dX11_between_29 : decode cX11_between 29 = .ok (.ixor, 1) := by decide +kernel
theorem dX11_between_30 : decode cX11_between 30 = .ok (.istore 6, 2) := by decide +kernel
theorem dX11_between_32 : decode cX11_between 32 = .ok (.iload 6, 2) := by decide +kernel
theorem dX11_between_34 : decode cX11_between 34 = .ok (.iconst 1, 1) := by decide +kernel
theorem dX11_between_35 : decode cX11_between 35 = .ok (.if_icmp .ne 13, 3) := by decide +kernel
theorem dX11_between_38 : decode cX11_between 38 = .ok (.iconst 2, 1) := by decide +kernel
theorem dX11_between_39 : decode cX11_between 39 = .ok (.iload 5, 2) := by decide +kernel
theorem dX11_between_41 : decode cX11_between 41 = .ok (.imul, 1) := by decide +kernel
theorem dX11_between_42 : decode cX11_between 42 = .ok (.iload 4, 2) := by decide +kernel
theorem dX11_between_44 : decode cX11_between 44 = .ok (.iadd, 1) := by decide +kernel
theorem dX11_between_45 : decode cX11_between 45 = .ok (.goto 29, 3) := by decide +kernel
theorem dX11_between_48 : decode cX11_between 48 = .ok (.iload 6, 2) := by decide +kernel
theorem dX11_between_50 : decode cX11_between 50 = .ok (.iconst 2, 1) := by decide +kernel
theorem dX11_between_51 : decode cX11_between 51 = .ok (.if_icmp .ne 14, 3) := by decide +kernel
theorem dX11_between_54 : decode cX11_between 54 = .ok (.iconst 4, 1) := by decide +kernel
theorem dX11_between_55 : decode cX11_between 55 = .ok (.iconst 2, 1) := by decide +kernel
theorem dX11_between_56 : decode cX11_between 56 = .ok (.iload 5, 2) := by decide +kernel
theorem dX11_between_58 : decode cX11_between 58 = .ok (.imul, 1) := by decide +kernel
theorem dX11_between_59 : decode cX11_between 59 = .ok (.iadd, 1) := by decide +kernel
theorem dX11_between_60 : decode cX11_between 60 = .ok (.iload_n 3, 1) := by decide +kernel
theorem dX11_between_61 : decode cX11_between 61 = .ok (.iadd, 1) := by decide +kernel
theorem dX11_between_62 : decode cX11_between 62 = .ok (.goto 12, 3) := by decide +kernel
theorem dX11_between_65 : decode cX11_between 65 = .ok (.bipush 8, 2) := by decide +kernel
theorem dX11_between_67 : decode cX11_between 67 = .ok (.iconst 2, 1) := by decide +kernel
theorem dX11_between_68 : decode cX11_between 68 = .ok (.iload 4, 2) := by decide +kernel
theorem dX11_between_70 : decode cX11_between 70 = .ok (.imul, 1) := by decide +kernel
theorem dX11_between_71 : decode cX11_between 71 = .ok (.iadd, 1) := by decide +kernel
theorem dX11_between_72 : decode cX11_between 72 = .ok (.iload_n 3, 1) := by decide +kernel
theorem dX11_between_73 : decode cX11_between 73 = .ok (.iadd, 1) := by decide +kernel
theorem dX11_between_74 : decode cX11_between 74 = .ok (.ireturn, 1) := by decide +kernel
set_option maxRecDepth 20000 in
theorem ggX11_face_X11_between : GoodIn wsX11_face wsX11_between := goodIn_r _ [9] (by decide +kernel) (by decide +kernel)
set_option maxRecDepth 20000 in
theorem gX11_face_X11_between : GoodIn wsX11_face (va_wsS RX11 125 yX11_between wsX11_between) := goodIn_app (goodIn_of _ (by decide +kernel)) ggX11_face_X11_between
theorem dX11_face_0 : decode cX11_face 0 = .ok (.aload_n 0, 1) := by decide +kernel
theorem dX11_face_1 : decode cX11_face 1 = .ok (.getfield 112, 3) := by decide +kernel
theorem dX11_face_4 : decode cX11_face 4 = .ok (.astore 6, 2) := by decide +kernel
theorem dX11_face_6 : decode cX11_face 6 = .ok (.aload 6, 2) := by decide +kernel
theorem dX11_face_8 : decode cX11_face 8 = .ok (.iconst 0, 1) := by decide +kernel
theorem dX11_face_9 : decode cX11_face 9 = .ok (.iload_n 2, 1) := by decide +kernel
theorem dX11_face_10 : decode cX11_face 10 = .ok (.iastore, 1) := by decide +kernel
theorem dX11_face_11 : decode cX11_face 11 = .ok (.aload 6, 2) := by decide +kernel
theorem dX11_face_13 : decode cX11_face 13 = .ok (.iconst 1, 1) := by decide +kernel
theorem dX11_face_14 : decode cX11_face 14 = .ok (.iload_n 3, 1) := by decide +kernel
theorem dX11_face_15 : decode cX11_face 15 = .ok (.iastore, 1) := by decide +kernel
theorem dX11_face_16 : decode cX11_face 16 = .ok (.aload 6, 2) := by decide +kernel
theorem dX11_face_18 : decode cX11_face 18 = .ok (.iconst 2, 1) := by decide +kernel
theorem dX11_face_19 : decode cX11_face 19 = .ok (.iload 4, 2) := by decide +kernel
theorem dX11_face_21 : decode cX11_face 21 = .ok (.iastore, 1) := by decide +kernel
theorem dX11_face_22 : decode cX11_face 22 = .ok (.aload 6, 2) := by decide +kernel
theorem dX11_face_24 : decode cX11_face 24 = .ok (.iconst 3, 1) := by decide +kernel
theorem dX11_face_25 : decode cX11_face 25 = .ok (.iload 5, 2) := by decide +kernel
theorem dX11_face_27 : decode cX11_face 27 = .ok (.iastore, 1) := by decide +kernel
theorem dX11_face_28 : decode cX11_face 28 = .ok (.iconst 3, 1) := by decide +kernel
theorem dX11_face_29 : decode cX11_face 29 = .ok (.iload_n 1, 1) := by decide +kernel
theorem dX11_face_30 : decode cX11_face 30 = .ok (.imul, 1) := by decide +kernel
theorem dX11_face_31 : decode cX11_face 31 = .ok (.istore 7, 2) := by decide +kernel
theorem dX11_face_33 : decode cX11_face 33 = .ok (.iconst 0, 1) := by decide +kernel
theorem dX11_face_34 : decode cX11_face 34 = .ok (.istore 8, 2) := by decide +kernel
theorem dX11_face_36 : decode cX11_face 36 = .ok (.iload 8, 2) := by decide +kernel
theorem dX11_face_38 : decode cX11_face 38 = .ok (.bipush 8, 2) := by decide +kernel
theorem dX11_face_40 : decode cX11_face 40 = .ok (.if_icmp .ge 24, 3) := by decide +kernel
theorem dX11_face_43 : decode cX11_face 43 = .ok (.aload_n 0, 1) := by decide +kernel
theorem dX11_face_44 : decode cX11_face 44 = .ok (.getfield 40, 3) := by decide +kernel
theorem dX11_face_47 : decode cX11_face 47 = .ok (.bipush 8, 2) := by decide +kernel
theorem dX11_face_49 : decode cX11_face 49 = .ok (.iload 7, 2) := by decide +kernel
theorem dX11_face_51 : decode cX11_face 51 = .ok (.imul, 1) := by decide +kernel
theorem dX11_face_52 : decode cX11_face 52 = .ok (.iload 8, 2) := by decide +kernel
theorem dX11_face_54 : decode cX11_face 54 = .ok (.iadd, 1) := by decide +kernel
theorem dX11_face_55 : decode cX11_face 55 = .ok (.iload 8, 2) := by decide +kernel
theorem dX11_face_57 : decode cX11_face 57 = .ok (.iastore, 1) := by decide +kernel
theorem dX11_face_58 : decode cX11_face 58 = .ok (.iinc 8 1, 3) := by decide +kernel
theorem dX11_face_61 : decode cX11_face 61 = .ok (.goto (-25), 3) := by decide +kernel
theorem dX11_face_64 : decode cX11_face 64 = .ok (.iconst 0, 1) := by decide +kernel
theorem dX11_face_65 : decode cX11_face 65 = .ok (.istore 8, 2) := by decide +kernel
theorem dX11_face_67 : decode cX11_face 67 = .ok (.iload 8, 2) := by decide +kernel
theorem dX11_face_69 : decode cX11_face 69 = .ok (.bipush 12, 2) := by decide +kernel
theorem dX11_face_71 : decode cX11_face 71 = .ok (.if_icmp .ge 24, 3) := by decide +kernel
theorem dX11_face_74 : decode cX11_face 74 = .ok (.aload_n 0, 1) := by decide +kernel
theorem dX11_face_75 : decode cX11_face 75 = .ok (.getfield 46, 3) := by decide +kernel
theorem dX11_face_78 : decode cX11_face 78 = .ok (.bipush 12, 2) := by decide +kernel
theorem dX11_face_80 : decode cX11_face 80 = .ok (.iload 7, 2) := by decide +kernel
theorem dX11_face_82 : decode cX11_face 82 = .ok (.imul, 1) := by decide +kernel
theorem dX11_face_83 : decode cX11_face 83 = .ok (.iload 8, 2) := by decide +kernel
theorem dX11_face_85 : decode cX11_face 85 = .ok (.iadd, 1) := by decide +kernel
theorem dX11_face_86 : decode cX11_face 86 = .ok (.iload 8, 2) := by decide +kernel
theorem dX11_face_88 : decode cX11_face 88 = .ok (.iastore, 1) := by decide +kernel
theorem dX11_face_89 : decode cX11_face 89 = .ok (.iinc 8 1, 3) := by decide +kernel
theorem dX11_face_92 : decode cX11_face 92 = .ok (.goto (-25), 3) := by decide +kernel
theorem dX11_face_95 : decode cX11_face 95 = .ok (.iconst 0, 1) := by decide +kernel
theorem dX11_face_96 : decode cX11_face 96 = .ok (.istore 8, 2) := by decide +kernel
theorem dX11_face_98 : decode cX11_face 98 = .ok (.iload 8, 2) := by decide +kernel
theorem dX11_face_100 : decode cX11_face 100 = .ok (.iconst 4, 1) := by decide +kernel
theorem dX11_face_101 : decode cX11_face 101 = .ok (.if_icmp .ge 139, 3) := by decide +kernel
theorem dX11_face_104 : decode cX11_face 104 = .ok (.aload 6, 2) := by decide +kernel
theorem dX11_face_106 : decode cX11_face 106 = .ok (.iload 8, 2) := by decide +kernel
theorem dX11_face_108 : decode cX11_face 108 = .ok (.iaload, 1) := by decide +kernel
theorem dX11_face_109 : decode cX11_face 109 = .ok (.istore 9, 2) := by decide +kernel
theorem dX11_face_111 : decode cX11_face 111 = .ok (.aload 6, 2) := by decide +kernel
theorem dX11_face_113 : decode cX11_face 113 = .ok (.iload 8, 2) := by decide +kernel
theorem dX11_face_115 : decode cX11_face 115 = .ok (.iconst 1, 1) := by decide +kernel
theorem dX11_face_116 : decode cX11_face 116 = .ok (.iadd, 1) := by decide +kernel
theorem dX11_face_117 : decode cX11_face 117 = .ok (.iconst 4, 1) := by decide +kernel
theorem dX11_face_118 : decode cX11_face 118 = .ok (.irem, 1) := by decide +kernel
theorem dX11_face_119 : decode cX11_face 119 = .ok (.iaload, 1) := by decide +kernel
theorem dX11_face_120 : decode cX11_face 120 = .ok (.istore 10, 2) := by decide +kernel
theorem dX11_face_122 : decode cX11_face 122 = .ok (.aload_n 0, 1) := by decide +kernel
theorem dX11_face_123 : decode cX11_face 123 = .ok (.getfield 40, 3) := by decide +kernel
theorem dX11_face_126 : decode cX11_face 126 = .ok (.bipush 8, 2) := by decide +kernel
theorem dX11_face_128 : decode cX11_face 128 = .ok (.iload 7, 2) := by decide +kernel
theorem dX11_face_130 : decode cX11_face 130 = .ok (.imul, 1) := by decide +kernel
theorem dX11_face_131 : decode cX11_face 131 = .ok (.iload 10, 2) := by decide +kernel
theorem dX11_face_133 : decode cX11_face 133 = .ok (.iadd, 1) := by decide +kernel
theorem dX11_face_134 : decode cX11_face 134 = .ok (.iload 9, 2) := by decide +kernel
theorem dX11_face_136 : decode cX11_face 136 = .ok (.iastore, 1) := by decide +kernel
theorem dX11_face_137 : decode cX11_face 137 = .ok (.aload_n 0, 1) := by decide +kernel
theorem dX11_face_138 : decode cX11_face 138 = .ok (.getfield 43, 3) := by decide +kernel
theorem dX11_face_141 : decode cX11_face 141 = .ok (.bipush 8, 2) := by decide +kernel
theorem dX11_face_143 : decode cX11_face 143 = .ok (.iload 7, 2) := by decide +kernel
theorem dX11_face_145 : decode cX11_face 145 = .ok (.imul, 1) := by decide +kernel
theorem dX11_face_146 : decode cX11_face 146 = .ok (.iload 10, 2) := by decide +kernel
theorem dX11_face_148 : decode cX11_face 148 = .ok (.iadd, 1) := by decide +kernel
theorem dX11_face_149 : decode cX11_face 149 = .ok (.iload_n 1, 1) := by decide +kernel
theorem dX11_face_150 : decode cX11_face 150 = .ok (.iconst 2, 1) := by decide +kernel
theorem dX11_face_151 : decode cX11_face 151 = .ok (.if_icmp .ge 7, 3) := by decide +kernel
theorem dX11_face_154 : decode cX11_face 154 = .ok (.iconst 0, 1) := by decide +kernel
theorem dX11_face_155 : decode cX11_face 155 = .ok (.goto 19, 3) := by decide +kernel
theorem dX11_face_158 : decode cX11_face 158 = .ok (.iload 9, 2) := by decide +kernel
theorem dX11_face_160 : decode cX11_face 160 = .ok (.iconst 2, 1) := by decide +kernel
theorem dX11_face_161 : decode cX11_face 161 = .ok (.ishr, 1) := by decide +kernel
theorem dX11_face_162 : decode cX11_face 162 = .ok (.iload 10, 2) := by decide +kernel
theorem dX11_face_164 : decode cX11_face 164 = .ok (.iconst 2, 1) := by decide +kernel
theorem dX11_face_165 : decode cX11_face 165 = .ok (.ishr, 1) := by decide +kernel
theorem dX11_face_166 : decode cX11_face 166 = .ok (.if_icmp .ne 7, 3) := by decide +kernel
theorem dX11_face_169 : decode cX11_face 169 = .ok (.iconst 1, 1) := by decide +kernel
theorem dX11_face_170 : decode cX11_face 170 = .ok (.goto 4, 3) := by decide +kernel
theorem dX11_face_173 : decode cX11_face 173 = .ok (.iconst 2, 1) := by decide +kernel
theorem dX11_face_174 : decode cX11_face 174 = .ok (.iastore, 1) := by decide +kernel
theorem dX11_face_175 : decode cX11_face 175 = .ok (.iload 10, 2) := by decide +kernel
theorem dX11_face_177 : decode cX11_face 177 = .ok (.aload 6, 2) := by decide +kernel
theorem dX11_face_179 : decode cX11_face 179 = .ok (.iload 8, 2) := by decide +kernel
theorem dX11_face_181 : decode cX11_face 181 = .ok (.iconst 2, 1) := by decide +kernel
theorem dX11_face_182 : decode cX11_face 182 = .ok (.iadd, 1) := by decide +kernel
theorem dX11_face_183 : decode cX11_face 183 = .ok (.iconst 4, 1) := by decide +kernel
theorem dX11_face_184 : decode cX11_face 184 = .ok (.irem, 1) := by decide +kernel
theorem dX11_face_185 : decode cX11_face 185 = .ok (.iaload, 1) := by decide +kernel
theorem dX11_face_186 : decode cX11_face 186 = .ok (.invokestatic 125, 3) := by decide +kernel
theorem dX11_face_189 : decode cX11_face 189 = .ok (.istore 11, 2) := by decide +kernel
theorem dX11_face_191 : decode cX11_face 191 = .ok (.aload_n 0, 1) := by decide +kernel
theorem dX11_face_192 : decode cX11_face 192 = .ok (.getfield 46, 3) := by decide +kernel
theorem dX11_face_195 : decode cX11_face 195 = .ok (.bipush 12, 2) := by decide +kernel
theorem dX11_face_197 : decode cX11_face 197 = .ok (.iload 7, 2) := by decide +kernel
theorem dX11_face_199 : decode cX11_face 199 = .ok (.imul, 1) := by decide +kernel
theorem dX11_face_200 : decode cX11_face 200 = .ok (.iload 11, 2) := by decide +kernel
theorem dX11_face_202 : decode cX11_face 202 = .ok (.iadd, 1) := by decide +kernel
theorem dX11_face_203 : decode cX11_face 203 = .ok (.iload 9, 2) := by decide +kernel
theorem dX11_face_205 : decode cX11_face 205 = .ok (.iload 10, 2) := by decide +kernel
theorem dX11_face_207 : decode cX11_face 207 = .ok (.invokestatic 125, 3) := by decide +kernel
theorem dX11_face_210 : decode cX11_face 210 = .ok (.iastore, 1) := by decide +kernel
theorem dX11_face_211 : decode cX11_face 211 = .ok (.aload_n 0, 1) := by decide +kernel
theorem dX11_face_212 : decode cX11_face 212 = .ok (.getfield 49, 3) := by decide +kernel
theorem dX11_face_215 : decode cX11_face 215 = .ok (.bipush 12, 2) := by decide +kernel
theorem dX11_face_217 : decode cX11_face 217 = .ok (.iload 7, 2) := by decide +kernel
theorem dX11_face_219 : decode cX11_face 219 = .ok (.imul, 1) := by decide +kernel
theorem dX11_face_220 : decode cX11_face 220 = .ok (.iload 11, 2) := by decide +kernel
theorem dX11_face_222 : decode cX11_face 222 = .ok (.iadd, 1) := by decide +kernel
theorem dX11_face_223 : decode cX11_face 223 = .ok (.iload_n 1, 1) := by decide +kernel
theorem dX11_face_224 : decode cX11_face 224 = .ok (.iconst 3, 1) := by decide +kernel
theorem dX11_face_225 : decode cX11_face 225 = .ok (.if_icmp .le 7, 3) := by decide +kernel
theorem dX11_face_228 : decode cX11_face 228 = .ok (.iconst 1, 1) := by decide +kernel
theorem dX11_face_229 : decode cX11_face 229 = .ok (.goto 4, 3) := by decide +kernel
theorem dX11_face_232 : decode cX11_face 232 = .ok (.iconst 0, 1) := by decide +kernel
theorem dX11_face_233 : decode cX11_face 233 = .ok (.iastore, 1) := by decide +kernel
theorem dX11_face_234 : decode cX11_face 234 = .ok (.iinc 8 1, 3) := by decide +kernel
theorem dX11_face_237 : decode cX11_face 237 = .ok (.goto (-139), 3) := by decide +kernel
theorem dX11_face_240 : decode cX11_face 240 = .ok (.iconst 1, 1) := by decide +kernel
theorem dX11_face_241 : decode cX11_face 241 = .ok (.istore 8, 2) := by decide +kernel
theorem dX11_face_243 : decode cX11_face 243 = .ok (.iload 8, 2) := by decide +kernel
theorem dX11_face_245 : decode cX11_face 245 = .ok (.iconst 3, 1) := by decide +kernel
theorem dX11_face_246 : decode cX11_face 246 = .ok (.if_icmp .ge 237, 3) := by decide +kernel
theorem dX11_face_249 : decode cX11_face 249 = .ok (.iconst 0, 1) := by decide +kernel
theorem dX11_face_250 : decode cX11_face 250 = .ok (.istore 9, 2) := by decide +kernel
theorem dX11_face_252 : decode cX11_face 252 = .ok (.iload 9, 2) := by decide +kernel
theorem dX11_face_254 : decode cX11_face 254 = .ok (.bipush 8, 2) := by decide +kernel
theorem dX11_face_256 : decode cX11_face 256 = .ok (.if_icmp .ge 108, 3) := by decide +kernel
theorem dX11_face_259 : decode cX11_face 259 = .ok (.aload_n 0, 1) := by decide +kernel
theorem dX11_face_260 : decode cX11_face 260 = .ok (.getfield 40, 3) := by decide +kernel
theorem dX11_face_263 : decode cX11_face 263 = .ok (.bipush 8, 2) := by decide +kernel
theorem dX11_face_265 : decode cX11_face 265 = .ok (.iload 7, 2) := by decide +kernel
theorem dX11_face_267 : decode cX11_face 267 = .ok (.imul, 1) := by decide +kernel
theorem dX11_face_268 : decode cX11_face 268 = .ok (.iload 9, 2) := by decide +kernel
theorem dX11_face_270 : decode cX11_face 270 = .ok (.iadd, 1) := by decide +kernel
theorem dX11_face_271 : decode cX11_face 271 = .ok (.iaload, 1) := by decide +kernel
theorem dX11_face_272 : decode cX11_face 272 = .ok (.istore 10, 2) := by decide +kernel
theorem dX11_face_274 : decode cX11_face 274 = .ok (.aload_n 0, 1) := by decide +kernel
theorem dX11_face_275 : decode cX11_face 275 = .ok (.getfield 40, 3) := by decide +kernel
theorem dX11_face_278 : decode cX11_face 278 = .ok (.bipush 8, 2) := by decide +kernel
theorem dX11_face_280 : decode cX11_face 280 = .ok (.iload 7, 2) := by decide +kernel
theorem dX11_face_282 : decode cX11_face 282 = .ok (.iload 8, 2) := by decide +kernel
theorem dX11_face_284 : decode cX11_face 284 = .ok (.iadd, 1) := by decide +kernel
theorem dX11_face_285 : decode cX11_face 285 = .ok (.imul, 1) := by decide +kernel
theorem dX11_face_286 : decode cX11_face 286 = .ok (.iload 9, 2) := by decide +kernel
theorem dX11_face_288 : decode cX11_face 288 = .ok (.iadd, 1) := by decide +kernel
theorem dX11_face_289 : decode cX11_face 289 = .ok (.aload_n 0, 1) := by decide +kernel
theorem dX11_face_290 : decode cX11_face 290 = .ok (.getfield 40, 3) := by decide +kernel
theorem dX11_face_293 : decode cX11_face 293 = .ok (.bipush 8, 2) := by decide +kernel
theorem dX11_face_295 : decode cX11_face 295 = .ok (.iload 7, 2) := by decide +kernel
theorem dX11_face_297 : decode cX11_face 297 = .ok (.iload 8, 2) := by decide +kernel
theorem dX11_face_299 : decode cX11_face 299 = .ok (.iadd, 1) := by decide +kernel
theorem dX11_face_300 : decode cX11_face 300 = .ok (.iconst 1, 1) := by decide +kernel
theorem dX11_face_301 : decode cX11_face 301 = .ok (.isub, 1) := by decide +kernel
theorem dX11_face_302 : decode cX11_face 302 = .ok (.imul, 1) := by decide +kernel
theorem dX11_face_303 : decode cX11_face 303 = .ok (.iload 10, 2) := by decide +kernel
theorem dX11_face_305 : decode cX11_face 305 = .ok (.iadd, 1) := by decide +kernel
theorem dX11_face_306 : decode cX11_face 306 = .ok (.iaload, 1) := by decide +kernel
theorem dX11_face_307 : decode cX11_face 307 = .ok (.iastore, 1) := by decide +kernel
theorem dX11_face_308 : decode cX11_face 308 = .ok (.aload_n 0, 1) := by decide +kernel
theorem dX11_face_309 : decode cX11_face 309 = .ok (.getfield 43, 3) := by decide +kernel
theorem dX11_face_312 : decode cX11_face 312 = .ok (.bipush 8, 2) := by decide +kernel
theorem dX11_face_314 : decode cX11_face 314 = .ok (.iload 7, 2) := by decide +kernel
theorem dX11_face_316 : decode cX11_face 316 = .ok (.iload 8, 2) := by decide +kernel
theorem dX11_face_318 : decode cX11_face 318 = .ok (.iadd, 1) := by decide +kernel
theorem dX11_face_319 : decode cX11_face 319 = .ok (.imul, 1) := by decide +kernel
theorem dX11_face_320 : decode cX11_face 320 = .ok (.iload 9, 2) := by decide +kernel
theorem dX11_face_322 : decode cX11_face 322 = .ok (.iadd, 1) := by decide +kernel
theorem dX11_face_323 : decode cX11_face 323 = .ok (.aload_n 0, 1) := by decide +kernel
theorem dX11_face_324 : decode cX11_face 324 = .ok (.getfield 43, 3) := by decide +kernel
theorem dX11_face_327 : decode cX11_face 327 = .ok (.bipush 8, 2) := by decide +kernel
theorem dX11_face_329 : decode cX11_face 329 = .ok (.iload 7, 2) := by decide +kernel
theorem dX11_face_331 : decode cX11_face 331 = .ok (.iload 8, 2) := by decide +kernel
theorem dX11_face_333 : decode cX11_face 333 = .ok (.iadd, 1) := by decide +kernel
theorem dX11_face_334 : decode cX11_face 334 = .ok (.iconst 1, 1) := by decide +kernel
theorem dX11_face_335 : decode cX11_face 335 = .ok (.isub, 1) := by decide +kernel
theorem dX11_face_336 : decode cX11_face 336 = .ok (.imul, 1) := by decide +kernel
theorem dX11_face_337 : decode cX11_face 337 = .ok (.iload 10, 2) := by decide +kernel
theorem dX11_face_339 : decode cX11_face 339 = .ok (.iadd, 1) := by decide +kernel
theorem dX11_face_340 : decode cX11_face 340 = .ok (.iaload, 1) := by decide +kernel
theorem dX11_face_341 : decode cX11_face 341 = .ok (.aload_n 0, 1) := by decide +kernel
theorem dX11_face_342 : decode cX11_face 342 = .ok (.getfield 43, 3) := by decide +kernel
theorem dX11_face_345 : decode cX11_face 345 = .ok (.bipush 8, 2) := by decide +kernel
theorem dX11_face_347 : decode cX11_face 347 = .ok (.iload 7, 2) := by decide +kernel
theorem dX11_face_349 : decode cX11_face 349 = .ok (.imul, 1) := by decide +kernel
theorem dX11_face_350 : decode cX11_face 350 = .ok (.iload 9, 2) := by decide +kernel
theorem dX11_face_352 : decode cX11_face 352 = .ok (.iadd, 1) := by decide +kernel
theorem dX11_face_353 : decode cX11_face 353 = .ok (.iaload, 1) := by decide +kernel
theorem dX11_face_354 : decode cX11_face 354 = .ok (.iadd, 1) := by decide +kernel
theorem dX11_face_355 : decode cX11_face 355 = .ok (.iconst 3, 1) := by decide +kernel
theorem dX11_face_356 : decode cX11_face 356 = .ok (.irem, 1) := by decide +kernel
theorem dX11_face_357 : decode cX11_face 357 = .ok (.iastore, 1) := by decide +kernel
theorem dX11_face_358 : decode cX11_face 358 = .ok (.iinc 9 1, 3) := by decide +kernel
theorem dX11_face_361 : decode cX11_face 361 = .ok (.goto (-109), 3) := by decide +kernel
theorem dX11_face_364 : decode cX11_face 364 = .ok (.iconst 0, 1) := by decide +kernel
theorem dX11_face_365 : decode cX11_face 365 = .ok (.istore 9, 2) := by decide +kernel
theorem dX11_face_367 : decode cX11_face 367 = .ok (.iload 9, 2) := by decide +kernel
theorem dX11_face_369 : decode cX11_face 369 = .ok (.bipush 12, 2) := by decide +kernel
theorem dX11_face_371 : decode cX11_face 371 = .ok (.if_icmp .ge 106, 3) := by decide +kernel
theorem dX11_face_374 : decode cX11_face 374 = .ok (.aload_n 0, 1) := by decide +kernel
theorem dX11_face_375 : decode cX11_face 375 = .ok (.getfield 46, 3) := by decide +kernel
theorem dX11_face_378 : decode cX11_face 378 = .ok (.bipush 12, 2) := by decide +kernel
theorem dX11_face_380 : decode cX11_face 380 = .ok (.iload 7, 2) := by decide +kernel
theorem dX11_face_382 : decode cX11_face 382 = .ok (.imul, 1) := by decide +kernel
theorem dX11_face_383 : decode cX11_face 383 = .ok (.iload 9, 2) := by decide +kernel
theorem dX11_face_385 : decode cX11_face 385 = .ok (.iadd, 1) := by decide +kernel
theorem dX11_face_386 : decode cX11_face 386 = .ok (.iaload, 1) := by decide +kernel
theorem dX11_face_387 : decode cX11_face 387 = .ok (.istore 10, 2) := by decide +kernel
theorem dX11_face_389 : decode cX11_face 389 = .ok (.aload_n 0, 1) := by decide +kernel
theorem dX11_face_390 : decode cX11_face 390 = .ok (.getfield 46, 3) := by decide +kernel
theorem dX11_face_393 : decode cX11_face 393 = .ok (.bipush 12, 2) := by decide +kernel
theorem dX11_face_395 : decode cX11_face 395 = .ok (.iload 7, 2) := by decide +kernel
theorem dX11_face_397 : decode cX11_face 397 = .ok (.iload 8, 2) := by decide +kernel
theorem dX11_face_399 : decode cX11_face 399 = .ok (.iadd, 1) := by decide +kernel
theorem dX11_face_400 : decode cX11_face 400 = .ok (.imul, 1) := by decide +kernel
theorem dX11_face_401 : decode cX11_face 401 = .ok (.iload 9, 2) := by decide +kernel
theorem dX11_face_403 : decode cX11_face 403 = .ok (.iadd, 1) := by decide +kernel
theorem dX11_face_404 : decode cX11_face 404 = .ok (.aload_n 0, 1) := by decide +kernel
theorem dX11_face_405 : decode cX11_face 405 = .ok (.getfield 46, 3) := by decide +kernel
theorem dX11_face_408 : decode cX11_face 408 = .ok (.bipush 12, 2) := by decide +kernel
theorem dX11_face_410 : decode cX11_face 410 = .ok (.iload 7, 2) := by decide +kernel
theorem dX11_face_412 : decode cX11_face 412 = .ok (.iload 8, 2) := by decide +kernel
theorem dX11_face_414 : decode cX11_face 414 = .ok (.iadd, 1) := by decide +kernel
theorem dX11_face_415 : decode cX11_face 415 = .ok (.iconst 1, 1) := by decide +kernel
theorem dX11_face_416 : decode cX11_face 416 = .ok (.isub, 1) := by decide +kernel
theorem dX11_face_417 : decode cX11_face 417 = .ok (.imul, 1) := by decide +kernel
theorem dX11_face_418 : decode cX11_face 418 = .ok (.iload 10, 2) := by decide +kernel
theorem dX11_face_420 : decode cX11_face 420 = .ok (.iadd, 1) := by decide +kernel
theorem dX11_face_421 : decode cX11_face 421 = .ok (.iaload, 1) := by decide +kernel
theorem dX11_face_422 : decode cX11_face 422 = .ok (.iastore, 1) := by decide +kernel
theorem dX11_face_423 : decode cX11_face 423 = .ok (.aload_n 0, 1) := by decide +kernel
theorem dX11_face_424 : decode cX11_face 424 = .ok (.getfield 49, 3) := by decide +kernel
theorem dX11_face_427 : decode cX11_face 427 = .ok (.bipush 12, 2) := by decide +kernel
theorem dX11_face_429 : decode cX11_face 429 = .ok (.iload 7, 2) := by decide +kernel
theorem dX11_face_431 : decode cX11_face 431 = .ok (.iload 8, 2) := by decide +kernel
theorem dX11_face_433 : decode cX11_face 433 = .ok (.iadd, 1) := by decide +kernel
theorem dX11_face_434 : decode cX11_face 434 = .ok (.imul, 1) := by decide +kernel
theorem dX11_face_435 : decode cX11_face 435 = .ok (.iload 9, 2) := by decide +kernel
theorem dX11_face_437 : decode cX11_face 437 = .ok (.iadd, 1) := by decide +kernel
theorem dX11_face_438 : decode cX11_face 438 = .ok (.aload_n 0, 1) := by decide +kernel
theorem dX11_face_439 : decode cX11_face 439 = .ok (.getfield 49, 3) := by decide +kernel
theorem dX11_face_442 : decode cX11_face 442 = .ok (.bipush 12, 2) := by decide +kernel
theorem dX11_face_444 : decode cX11_face 444 = .ok (.iload 7, 2) := by decide +kernel
theorem dX11_face_446 : decode cX11_face 446 = .ok (.iload 8, 2) := by decide +kernel
theorem dX11_face_448 : decode cX11_face 448 = .ok (.iadd, 1) := by decide +kernel
theorem dX11_face_449 : decode cX11_face 449 = .ok (.iconst 1, 1) := by decide +kernel
theorem dX11_face_450 : decode cX11_face 450 = .ok (.isub, 1) := by decide +kernel
theorem dX11_face_451 : decode cX11_face 451 = .ok (.imul, 1) := by decide +kernel
theorem dX11_face_452 : decode cX11_face 452 = .ok (.iload 10, 2) := by decide +kernel
theorem dX11_face_454 : decode cX11_face 454 = .ok (.iadd, 1) := by decide +kernel
theorem dX11_face_455 : decode cX11_face 455 = .ok (.iaload, 1) := by decide +kernel
theorem dX11_face_456 : decode cX11_face 456 = .ok (.aload_n 0, 1) := by decide +kernel
theorem dX11_face_457 : decode cX11_face 457 = .ok (.getfield 49, 3) := by decide +kernel
theorem dX11_face_460 : decode cX11_face 460 = .ok (.bipush 12, 2) := by decide +kernel
theorem dX11_face_462 : decode cX11_face 462 = .ok (.iload 7, 2) := by decide +kernel
theorem dX11_face_464 : decode cX11_face 464 = .ok (.imul, 1) := by decide +kernel
theorem dX11_face_465 : decode cX11_face 465 = .ok (.iload 9, 2) := by decide +kernel
theorem dX11_face_467 : decode cX11_face 467 = .ok (.iadd, 1) := by decide +kernel
theorem dX11_face_468 : decode cX11_face 468 = .ok (.iaload, 1) := by decide +kernel
theorem dX11_face_469 : decode cX11_face 469 = .ok (.ixor, 1) := by decide +kernel
theorem dX11_face_470 : decode cX11_face 470 = .ok (.iastore, 1) := by decide +kernel
theorem dX11_face_471 : decode cX11_face 471 = .ok (.iinc 9 1, 3) := by decide +kernel
theorem dX11_face_474 : decode cX11_face 474 = .ok (.goto (-107), 3) := by decide +kernel
theorem dX11_face_477 : decode cX11_face 477 = .ok (.iinc 8 1, 3) := by decide +kernel
theorem dX11_face_480 : decode cX11_face 480 = .ok (.goto (-237), 3) := by decide +kernel
theorem dX11_face_483 : decode cX11_face 483 = .ok (.return_, 1) := by decide +kernel
theorem dX11_bringHome_0 : decode cX11_bringHome 0 = .ok (.iconst 0, 1) := by decide +kernel
theorem dX11_bringHome_1 : decode cX11_bringHome 1 = .ok (.istore_n 1, 1) := by decide +kernel
theorem dX11_bringHome_2 : decode cX11_bringHome 2 = .ok (.iload_n 1, 1) := by decide +kernel
theorem dX11_bringHome_3 : decode cX11_bringHome 3 = .ok (.bipush 12, 2) := by decide +kernel
theorem dX11_bringHome_5 : decode cX11_bringHome 5 = .ok (.if_icmp .ge 43, 3) := by decide +kernel
theorem dX11_bringHome_8 : decode cX11_bringHome 8 = .ok (.aload_n 0, 1) := by decide +kernel
theorem dX11_bringHome_9 : decode cX11_bringHome 9 = .ok (.getfield 16, 3) := by decide +kernel
theorem dX11_bringHome_12 : decode cX11_bringHome 12 = .ok (.iload_n 1, 1) := by decide +kernel
theorem dX11_bringHome_13 : decode cX11_bringHome 13 = .ok (.iload_n 1, 1) := by decide +kernel
theorem dX11_bringHome_14 : decode cX11_bringHome 14 = .ok (.iastore, 1) := by decide +kernel
theorem dX11_bringHome_15 : decode cX11_bringHome 15 = .ok (.aload_n 0, 1) := by decide +kernel
theorem dX11_bringHome_16 : decode cX11_bringHome 16 = .ok (.getfield 19, 3) := by decide +kernel
theorem dX11_bringHome_19 : decode cX11_bringHome 19 = .ok (.iload_n 1, 1) := by decide +kernel
theorem dX11_bringHome_20 : decode cX11_bringHome 20 = .ok (.iconst 0, 1) := by decide +kernel
theorem dX11_bringHome_21 : decode cX11_bringHome 21 = .ok (.iastore, 1) := by decide +kernel
theorem dX11_bringHome_22 : decode cX11_bringHome 22 = .ok (.iload_n 1, 1) := by decide +kernel
theorem dX11_bringHome_23 : decode cX11_bringHome 23 = .ok (.bipush 8, 2) := by decide +kernel
theorem dX11_bringHome_25 : decode cX11_bringHome 25 = .ok (.if_icmp .ge 17, 3) := by decide +kernel
theorem dX11_bringHome_28 : decode cX11_bringHome 28 = .ok (.aload_n 0, 1) := by decide +kernel
theorem dX11_bringHome_29 : decode cX11_bringHome 29 = .ok (.getfield 7, 3) := by decide +kernel
theorem dX11_bringHome_32 : decode cX11_bringHome 32 = .ok (.iload_n 1, 1) := by decide +kernel
theorem dX11_bringHome_33 : decode cX11_bringHome 33 = .ok (.iload_n 1, 1) := by decide +kernel
theorem dX11_bringHome_34 : decode cX11_bringHome 34 = .ok (.iastore, 1) := by decide +kernel
theorem dX11_bringHome_35 : decode cX11_bringHome 35 = .ok (.aload_n 0, 1) := by decide +kernel
theorem dX11_bringHome_36 : decode cX11_bringHome 36 = .ok (.getfield 13, 3) := by decide +kernel
theorem dX11_bringHome_39 : decode cX11_bringHome 39 = .ok (.iload_n 1, 1) := by decide +kernel
theorem dX11_bringHome_40 : decode cX11_bringHome 40 = .ok (.iconst 0, 1) := by decide +kernel
theorem dX11_bringHome_41 : decode cX11_bringHome 41 = .ok (.iastore, 1) := by decide +kernel
theorem dX11_bringHome_42 : decode cX11_bringHome 42 = .ok (.iinc 1 1, 3) := by decide +kernel
theorem dX11_bringHome_45 : decode cX11_bringHome 45 = .ok (.goto (-43), 3) := by decide +kernel
theorem dX11_bringHome_48 : decode cX11_bringHome 48 = .ok (.return_, 1) := by decide +kernel
theorem dX11_turnIt_0 : decode cX11_turnIt 0 = .ok (.iconst 0, 1) := by decide +kernel
theorem dX11_turnIt_1 : decode cX11_turnIt 1 = .ok (.istore_n 2, 1) := by decide +kernel
theorem dX11_turnIt_2 : decode cX11_turnIt 2 = .ok (.iload_n 2, 1) := by decide +kernel
theorem dX11_turnIt_3 : decode cX11_turnIt 3 = .ok (.bipush 8, 2) := by decide +kernel
theorem dX11_turnIt_5 : decode cX11_turnIt 5 = .ok (.if_icmp .ge 33, 3) := by decide +kernel
theorem dX11_turnIt_8 : decode cX11_turnIt 8 = .ok (.aload_n 0, 1) := by decide +kernel
theorem dX11_turnIt_9 : decode cX11_turnIt 9 = .ok (.getfield 34, 3) := by decide +kernel
theorem dX11_turnIt_12 : decode cX11_turnIt 12 = .ok (.iload_n 2, 1) := by decide +kernel
theorem dX11_turnIt_13 : decode cX11_turnIt 13 = .ok (.aload_n 0, 1) := by decide +kernel
theorem dX11_turnIt_14 : decode cX11_turnIt 14 = .ok (.getfield 22, 3) := by decide +kernel
theorem dX11_turnIt_17 : decode cX11_turnIt 17 = .ok (.iload_n 2, 1) := by decide +kernel
theorem dX11_turnIt_18 : decode cX11_turnIt 18 = .ok (.iaload, 1) := by decide +kernel
theorem dX11_turnIt_19 : decode cX11_turnIt 19 = .ok (.iastore, 1) := by decide +kernel
theorem dX11_turnIt_20 : decode cX11_turnIt 20 = .ok (.aload_n 0, 1) := by decide +kernel
theorem dX11_turnIt_21 : decode cX11_turnIt 21 = .ok (.getfield 37, 3) := by decide +kernel
theorem dX11_turnIt_24 : decode cX11_turnIt 24 = .ok (.iload_n 2, 1) := by decide +kernel
theorem dX11_turnIt_25 : decode cX11_turnIt 25 = .ok (.aload_n 0, 1) := by decide +kernel
theorem dX11_turnIt_26 : decode cX11_turnIt 26 = .ok (.getfield 25, 3) := by decide +kernel
theorem dX11_turnIt_29 : decode cX11_turnIt 29 = .ok (.iload_n 2, 1) := by decide +kernel
theorem dX11_turnIt_30 : decode cX11_turnIt 30 = .ok (.iaload, 1) := by decide +kernel
theorem dX11_turnIt_31 : decode cX11_turnIt 31 = .ok (.iastore, 1) := by decide +kernel
theorem dX11_turnIt_32 : decode cX11_turnIt 32 = .ok (.iinc 2 1, 3) := by decide +kernel
theorem dX11_turnIt_35 : decode cX11_turnIt 35 = .ok (.goto (-33), 3) := by decide +kernel
theorem dX11_turnIt_38 : decode cX11_turnIt 38 = .ok (.iconst 0, 1) := by decide +kernel
theorem dX11_turnIt_39 : decode cX11_turnIt 39 = .ok (.istore_n 2, 1) := by decide +kernel
theorem dX11_turnIt_40 : decode cX11_turnIt 40 = .ok (.iload_n 2, 1) := by decide +kernel
theorem dX11_turnIt_41 : decode cX11_turnIt 41 = .ok (.bipush 8, 2) := by decide +kernel
theorem dX11_turnIt_43 : decode cX11_turnIt 43 = .ok (.if_icmp .ge 59, 3) := by decide +kernel
theorem dX11_turnIt_46 : decode cX11_turnIt 46 = .ok (.aload_n 0, 1) := by decide +kernel
theorem dX11_turnIt_47 : decode cX11_turnIt 47 = .ok (.getfield 40, 3) := by decide +kernel
theorem dX11_turnIt_50 : decode cX11_turnIt 50 = .ok (.bipush 8, 2) := by decide +kernel
theorem dX11_turnIt_52 : decode cX11_turnIt 52 = .ok (.iload_n 1, 1) := by decide +kernel
theorem dX11_turnIt_53 : decode cX11_turnIt 53 = .ok (.imul, 1) := by decide +kernel
theorem dX11_turnIt_54 : decode cX11_turnIt 54 = .ok (.iload_n 2, 1) := by decide +kernel
theorem dX11_turnIt_55 : decode cX11_turnIt 55 = .ok (.iadd, 1) := by decide +kernel
theorem dX11_turnIt_56 : decode cX11_turnIt 56 = .ok (.iaload, 1) := by decide +kernel
theorem dX11_turnIt_57 : decode cX11_turnIt 57 = .ok (.istore_n 3, 1) := by decide +kernel
theorem dX11_turnIt_58 : decode cX11_turnIt 58 = .ok (.aload_n 0, 1) := by decide +kernel
theorem dX11_turnIt_59 : decode cX11_turnIt 59 = .ok (.getfield 22, 3) := by decide +kernel
theorem dX11_turnIt_62 : decode cX11_turnIt 62 = .ok (.iload_n 2, 1) := by decide +kernel
theorem dX11_turnIt_63 : decode cX11_turnIt 63 = .ok (.aload_n 0, 1) := by decide +kernel
theorem dX11_turnIt_64 : decode cX11_turnIt 64 = .ok (.getfield 34, 3) := by decide +kernel
theorem dX11_turnIt_67 : decode cX11_turnIt 67 = .ok (.iload_n 3, 1) := by decide +kernel
theorem dX11_turnIt_68 : decode cX11_turnIt 68 = .ok (.iaload, 1) := by decide +kernel
theorem dX11_turnIt_69 : decode cX11_turnIt 69 = .ok (.iastore, 1) := by decide +kernel
theorem dX11_turnIt_70 : decode cX11_turnIt 70 = .ok (.aload_n 0, 1) := by decide +kernel
theorem dX11_turnIt_71 : decode cX11_turnIt 71 = .ok (.getfield 25, 3) := by decide +kernel
theorem dX11_turnIt_74 : decode cX11_turnIt 74 = .ok (.iload_n 2, 1) := by decide +kernel
theorem dX11_turnIt_75 : decode cX11_turnIt 75 = .ok (.aload_n 0, 1) := by decide +kernel
theorem dX11_turnIt_76 : decode cX11_turnIt 76 = .ok (.getfield 37, 3) := by decide +kernel
theorem dX11_turnIt_79 : decode cX11_turnIt 79 = .ok (.iload_n 3, 1) := by decide +kernel
theorem dX11_turnIt_80 : decode cX11_turnIt 80 = .ok (.iaload, 1) := by decide +kernel
theorem dX11_turnIt_81 : decode cX11_turnIt 81 = .ok (.aload_n 0, 1) := by decide +kernel
theorem dX11_turnIt_82 : decode cX11_turnIt 82 = .ok (.getfield 43, 3) := by decide +kernel
theorem dX11_turnIt_85 : decode cX11_turnIt 85 = .ok (.bipush 8, 2) := by decide +kernel
theorem dX11_turnIt_87 : decode cX11_turnIt 87 = .ok (.iload_n 1, 1) := by decide +kernel
theorem dX11_turnIt_88 : decode cX11_turnIt 88 = .ok (.imul, 1) := by decide +kernel
theorem dX11_turnIt_89 : decode cX11_turnIt 89 = .ok (.iload_n 2, 1) := by decide +kernel
theorem dX11_turnIt_90 : decode cX11_turnIt 90 = .ok (.iadd, 1) := by decide +kernel
theorem dX11_turnIt_91 : decode cX11_turnIt 91 = .ok (.iaload, 1) := by decide +kernel
theorem dX11_turnIt_92 : decode cX11_turnIt 92 = .ok (.iadd, 1) := by decide +kernel
theorem dX11_turnIt_93 : decode cX11_turnIt 93 = .ok (.iconst 3, 1) := by decide +kernel
theorem dX11_turnIt_94 : decode cX11_turnIt 94 = .ok (.irem, 1) := by decide +kernel
theorem dX11_turnIt_95 : decode cX11_turnIt 95 = .ok (.iastore, 1) := by decide +kernel
theorem dX11_turnIt_96 : decode cX11_turnIt 96 = .ok (.iinc 2 1, 3) := by decide +kernel
theorem dX11_turnIt_99 : decode cX11_turnIt 99 = .ok (.goto (-59), 3) := by decide +kernel
theorem dX11_turnIt_102 : decode cX11_turnIt 102 = .ok (.iconst 0, 1) := by decide +kernel
theorem dX11_turnIt_103 : decode cX11_turnIt 103 = .ok (.istore_n 2, 1) := by decide +kernel
theorem dX11_turnIt_104 : decode cX11_turnIt 104 = .ok (.iload_n 2, 1) := by decide +kernel
theorem dX11_turnIt_105 : decode cX11_turnIt 105 = .ok (.bipush 12, 2) := by decide +kernel
theorem dX11_turnIt_107 : decode cX11_turnIt 107 = .ok (.if_icmp .ge 33, 3) := by decide +kernel
theorem dX11_turnIt_110 : decode cX11_turnIt 110 = .ok (.aload_n 0, 1) := by decide +kernel
theorem dX11_turnIt_111 : decode cX11_turnIt 111 = .ok (.getfield 34, 3) := by decide +kernel
theorem dX11_turnIt_114 : decode cX11_turnIt 114 = .ok (.iload_n 2, 1) := by decide +kernel
theorem dX11_turnIt_115 : decode cX11_turnIt 115 = .ok (.aload_n 0, 1) := by decide +kernel
theorem dX11_turnIt_116 : decode cX11_turnIt 116 = .ok (.getfield 28, 3) := by decide +kernel
theorem dX11_turnIt_119 : decode cX11_turnIt 119 = .ok (.iload_n 2, 1) := by decide +kernel
theorem dX11_turnIt_120 : decode cX11_turnIt 120 = .ok (.iaload, 1) := by decide +kernel
theorem dX11_turnIt_121 : decode cX11_turnIt 121 = .ok (.iastore, 1) := by decide +kernel
theorem dX11_turnIt_122 : decode cX11_turnIt 122 = .ok (.aload_n 0, 1) := by decide +kernel
theorem dX11_turnIt_123 : decode cX11_turnIt 123 = .ok (.getfield 37, 3) := by decide +kernel
theorem dX11_turnIt_126 : decode cX11_turnIt 126 = .ok (.iload_n 2, 1) := by decide +kernel
theorem dX11_turnIt_127 : decode cX11_turnIt 127 = .ok (.aload_n 0, 1) := by decide +kernel
theorem dX11_turnIt_128 : decode cX11_turnIt 128 = .ok (.getfield 31, 3) := by decide +kernel
theorem dX11_turnIt_131 : decode cX11_turnIt 131 = .ok (.iload_n 2, 1) := by decide +kernel
theorem dX11_turnIt_132 : decode cX11_turnIt 132 = .ok (.iaload, 1) := by decide +kernel
theorem dX11_turnIt_133 : decode cX11_turnIt 133 = .ok (.iastore, 1) := by decide +kernel
theorem dX11_turnIt_134 : decode cX11_turnIt 134 = .ok (.iinc 2 1, 3) := by decide +kernel
theorem dX11_turnIt_137 : decode cX11_turnIt 137 = .ok (.goto (-33), 3) := by decide +kernel
theorem dX11_turnIt_140 : decode cX11_turnIt 140 = .ok (.iconst 0, 1) := by decide +kernel
theorem dX11_turnIt_141 : decode cX11_turnIt 141 = .ok (.istore_n 2, 1) := by decide +kernel
theorem dX11_turnIt_142 : decode cX11_turnIt 142 = .ok (.iload_n 2, 1) := by decide +kernel
theorem dX11_turnIt_143 : decode cX11_turnIt 143 = .ok (.bipush 12, 2) := by decide +kernel
theorem dX11_turnIt_145 : decode cX11_turnIt 145 = .ok (.if_icmp .ge 57, 3) := by decide +kernel
theorem dX11_turnIt_148 : decode cX11_turnIt 148 = .ok (.aload_n 0, 1) := by decide +kernel
theorem dX11_turnIt_149 : decode cX11_turnIt 149 = .ok (.getfield 46, 3) := by decide +kernel
theorem dX11_turnIt_152 : decode cX11_turnIt 152 = .ok (.bipush 12, 2) := by decide +kernel
theorem dX11_turnIt_154 : decode cX11_turnIt 154 = .ok (.iload_n 1, 1) := by decide +kernel
theorem dX11_turnIt_155 : decode cX11_turnIt 155 = .ok (.imul, 1) := by decide +kernel
theorem dX11_turnIt_156 : decode cX11_turnIt 156 = .ok (.iload_n 2, 1) := by decide +kernel
theorem dX11_turnIt_157 : decode cX11_turnIt 157 = .ok (.iadd, 1) := by decide +kernel
theorem dX11_turnIt_158 : decode cX11_turnIt 158 = .ok (.iaload, 1) := by decide +kernel
theorem dX11_turnIt_159 : decode cX11_turnIt 159 = .ok (.istore_n 3, 1) := by decide +kernel
theorem dX11_turnIt_160 : decode cX11_turnIt 160 = .ok (.aload_n 0, 1) := by decide +kernel
theorem dX11_turnIt_161 : decode cX11_turnIt 161 = .ok (.getfield 28, 3) := by decide +kernel
theorem dX11_turnIt_164 : decode cX11_turnIt 164 = .ok (.iload_n 2, 1) := by decide +kernel
theorem dX11_turnIt_165 : decode cX11_turnIt 165 = .ok (.aload_n 0, 1) := by decide +kernel
theorem dX11_turnIt_166 : decode cX11_turnIt 166 = .ok (.getfield 34, 3) := by decide +kernel
theorem dX11_turnIt_169 : decode cX11_turnIt 169 = .ok (.iload_n 3, 1) := by decide +kernel
theorem dX11_turnIt_170 : decode cX11_turnIt 170 = .ok (.iaload, 1) := by decide +kernel
theorem dX11_turnIt_171 : decode cX11_turnIt 171 = .ok (.iastore, 1) := by decide +kernel
theorem dX11_turnIt_172 : decode cX11_turnIt 172 = .ok (.aload_n 0, 1) := by decide +kernel
theorem dX11_turnIt_173 : decode cX11_turnIt 173 = .ok (.getfield 31, 3) := by decide +kernel
theorem dX11_turnIt_176 : decode cX11_turnIt 176 = .ok (.iload_n 2, 1) := by decide +kernel
theorem dX11_turnIt_177 : decode cX11_turnIt 177 = .ok (.aload_n 0, 1) := by decide +kernel
theorem dX11_turnIt_178 : decode cX11_turnIt 178 = .ok (.getfield 37, 3) := by decide +kernel
theorem dX11_turnIt_181 : decode cX11_turnIt 181 = .ok (.iload_n 3, 1) := by decide +kernel
theorem dX11_turnIt_182 : decode cX11_turnIt 182 = .ok (.iaload, 1) := by decide +kernel
theorem dX11_turnIt_183 : decode cX11_turnIt 183 = .ok (.aload_n 0, 1) := by decide +kernel
theorem dX11_turnIt_184 : decode cX11_turnIt 184 = .ok (.getfield 49, 3) := by decide +kernel
theorem dX11_turnIt_187 : decode cX11_turnIt 187 = .ok (.bipush 12, 2) := by decide +kernel
theorem dX11_turnIt_189 : decode cX11_turnIt 189 = .ok (.iload_n 1, 1) := by decide +kernel
theorem dX11_turnIt_190 : decode cX11_turnIt 190 = .ok (.imul, 1) := by decide +kernel
theorem dX11_turnIt_191 : decode cX11_turnIt 191 = .ok (.iload_n 2, 1) := by decide +kernel
theorem dX11_turnIt_192 : decode cX11_turnIt 192 = .ok (.iadd, 1) := by decide +kernel
theorem dX11_turnIt_193 : decode cX11_turnIt 193 = .ok (.iaload, 1) := by decide +kernel
theorem dX11_turnIt_194 : decode cX11_turnIt 194 = .ok (.ixor, 1) := by decide +kernel
theorem dX11_turnIt_195 : decode cX11_turnIt 195 = .ok (.iastore, 1) := by decide +kernel
theorem dX11_turnIt_196 : decode cX11_turnIt 196 = .ok (.iinc 2 1, 3) := by decide +kernel
theorem dX11_turnIt_199 : decode cX11_turnIt 199 = .ok (.goto (-57), 3) := by decide +kernel
theorem dX11_turnIt_202 : decode cX11_turnIt 202 = .ok (.return_, 1) := by decide +kernel
theorem dX11_look_0 : decode cX11_look 0 = .ok (.iconst 0, 1) := by decide +kernel
theorem dX11_look_1 : decode cX11_look 1 = .ok (.istore_n 1, 1) := by decide +kernel
theorem dX11_look_2 : decode cX11_look 2 = .ok (.iload_n 1, 1) := by decide +kernel
theorem dX11_look_3 : decode cX11_look 3 = .ok (.bipush 12, 2) := by decide +kernel
theorem dX11_look_5 : decode cX11_look 5 = .ok (.if_icmp .ge 63, 3) := by decide +kernel
theorem dX11_look_8 : decode cX11_look 8 = .ok (.aload_n 0, 1) := by decide +kernel
theorem dX11_look_9 : decode cX11_look 9 = .ok (.getfield 28, 3) := by decide +kernel
theorem dX11_look_12 : decode cX11_look 12 = .ok (.iload_n 1, 1) := by decide +kernel
theorem dX11_look_13 : decode cX11_look 13 = .ok (.aload_n 0, 1) := by decide +kernel
theorem dX11_look_14 : decode cX11_look 14 = .ok (.getfield 16, 3) := by decide +kernel
theorem dX11_look_17 : decode cX11_look 17 = .ok (.iload_n 1, 1) := by decide +kernel
theorem dX11_look_18 : decode cX11_look 18 = .ok (.iaload, 1) := by decide +kernel
theorem dX11_look_19 : decode cX11_look 19 = .ok (.iastore, 1) := by decide +kernel
theorem dX11_look_20 : decode cX11_look 20 = .ok (.aload_n 0, 1) := by decide +kernel
theorem dX11_look_21 : decode cX11_look 21 = .ok (.getfield 31, 3) := by decide +kernel
theorem dX11_look_24 : decode cX11_look 24 = .ok (.iload_n 1, 1) := by decide +kernel
theorem dX11_look_25 : decode cX11_look 25 = .ok (.aload_n 0, 1) := by decide +kernel
theorem dX11_look_26 : decode cX11_look 26 = .ok (.getfield 19, 3) := by decide +kernel
theorem dX11_look_29 : decode cX11_look 29 = .ok (.iload_n 1, 1) := by decide +kernel
theorem dX11_look_30 : decode cX11_look 30 = .ok (.iaload, 1) := by decide +kernel
theorem dX11_look_31 : decode cX11_look 31 = .ok (.iastore, 1) := by decide +kernel
theorem dX11_look_32 : decode cX11_look 32 = .ok (.iload_n 1, 1) := by decide +kernel
theorem dX11_look_33 : decode cX11_look 33 = .ok (.bipush 8, 2) := by decide +kernel
theorem dX11_look_35 : decode cX11_look 35 = .ok (.if_icmp .ge 27, 3) := by decide +kernel
theorem dX11_look_38 : decode cX11_look 38 = .ok (.aload_n 0, 1) := by decide +kernel
theorem dX11_look_39 : decode cX11_look 39 = .ok (.getfield 22, 3) := by decide +kernel
theorem dX11_look_42 : decode cX11_look 42 = .ok (.iload_n 1, 1) := by decide +kernel
theorem dX11_look_43 : decode cX11_look 43 = .ok (.aload_n 0, 1) := by decide +kernel
theorem dX11_look_44 : decode cX11_look 44 = .ok (.getfield 7, 3) := by decide +kernel
theorem dX11_look_47 : decode cX11_look 47 = .ok (.iload_n 1, 1) := by decide +kernel
theorem dX11_look_48 : decode cX11_look 48 = .ok (.iaload, 1) := by decide +kernel
theorem dX11_look_49 : decode cX11_look 49 = .ok (.iastore, 1) := by decide +kernel
theorem dX11_look_50 : decode cX11_look 50 = .ok (.aload_n 0, 1) := by decide +kernel
theorem dX11_look_51 : decode cX11_look 51 = .ok (.getfield 25, 3) := by decide +kernel
theorem dX11_look_54 : decode cX11_look 54 = .ok (.iload_n 1, 1) := by decide +kernel
theorem dX11_look_55 : decode cX11_look 55 = .ok (.aload_n 0, 1) := by decide +kernel
theorem dX11_look_56 : decode cX11_look 56 = .ok (.getfield 13, 3) := by decide +kernel
theorem dX11_look_59 : decode cX11_look 59 = .ok (.iload_n 1, 1) := by decide +kernel
theorem dX11_look_60 : decode cX11_look 60 = .ok (.iaload, 1) := by decide +kernel
theorem dX11_look_61 : decode cX11_look 61 = .ok (.iastore, 1) := by decide +kernel
theorem dX11_look_62 : decode cX11_look 62 = .ok (.iinc 1 1, 3) := by decide +kernel
theorem dX11_look_65 : decode cX11_look 65 = .ok (.goto (-63), 3) := by decide +kernel
theorem dX11_look_68 : decode cX11_look 68 = .ok (.return_, 1) := by decide +kernel
theorem dX11_corner_0 : decode cX11_corner 0 = .ok (.iload_n 1, 1) := by decide +kernel
theorem dX11_corner_1 : decode cX11_corner 1 = .ok (.ifCond .lt 28, 3) := by decide +kernel
theorem dX11_corner_4 : decode cX11_corner 4 = .ok (.iload_n 1, 1) := by decide +kernel
theorem dX11_corner_5 : decode cX11_corner 5 = .ok (.bipush 7, 2) := by decide +kernel
theorem dX11_corner_7 : decode cX11_corner 7 = .ok (.if_icmp .gt 22, 3) := by decide +kernel
theorem dX11_corner_10 : decode cX11_corner 10 = .ok (.iload_n 2, 1) := by decide +kernel
theorem dX11_corner_11 : decode cX11_corner 11 = .ok (.ifCond .lt 18, 3) := by decide +kernel
theorem dX11_corner_14 : decode cX11_corner 14 = .ok (.iload_n 2, 1) := by decide +kernel
theorem dX11_corner_15 : decode cX11_corner 15 = .ok (.bipush 7, 2) := by decide +kernel
theorem dX11_corner_17 : decode cX11_corner 17 = .ok (.if_icmp .gt 12, 3) := by decide +kernel
theorem dX11_corner_20 : decode cX11_corner 20 = .ok (.iload_n 3, 1) := by decide +kernel
theorem dX11_corner_21 : decode cX11_corner 21 = .ok (.ifCond .lt 8, 3) := by decide +kernel
theorem dX11_corner_24 : decode cX11_corner 24 = .ok (.iload_n 3, 1) := by decide +kernel
theorem dX11_corner_25 : decode cX11_corner 25 = .ok (.iconst 2, 1) := by decide +kernel
theorem dX11_corner_26 : decode cX11_corner 26 = .ok (.if_icmp .le 5, 3) := by decide +kernel
theorem dX11_corner_29 : decode cX11_corner 29 = .ok (.iconst (-1), 1) := by decide +kernel
theorem dX11_corner_30 : decode cX11_corner 30 = .ok (.ireturn, 1) := by decide +kernel
theorem dX11_corner_31 : decode cX11_corner 31 = .ok (.aload_n 0, 1) := by decide +kernel
theorem dX11_corner_32 : decode cX11_corner 32 = .ok (.getfield 7, 3) := by decide +kernel
theorem dX11_corner_35 : decode cX11_corner 35 = .ok (.iload_n 1, 1) := by decide +kernel
theorem dX11_corner_36 : decode cX11_corner 36 = .ok (.iload_n 2, 1) := by decide +kernel
theorem dX11_corner_37 : decode cX11_corner 37 = .ok (.iastore, 1) := by decide +kernel
theorem dX11_corner_38 : decode cX11_corner 38 = .ok (.aload_n 0, 1) := by decide +kernel
theorem dX11_corner_39 : decode cX11_corner 39 = .ok (.getfield 13, 3) := by decide +kernel
theorem dX11_corner_42 : decode cX11_corner 42 = .ok (.iload_n 1, 1) := by decide +kernel
theorem dX11_corner_43 : decode cX11_corner 43 = .ok (.iload_n 3, 1) := by decide +kernel
theorem dX11_corner_44 : decode cX11_corner 44 = .ok (.iastore, 1) := by decide +kernel
theorem dX11_corner_45 : decode cX11_corner 45 = .ok (.iconst 1, 1) := by decide +kernel
theorem dX11_corner_46 : decode cX11_corner 46 = .ok (.ireturn, 1) := by decide +kernel
theorem dX11_edge_0 : decode cX11_edge 0 = .ok (.iload_n 1, 1) := by decide +kernel
theorem dX11_edge_1 : decode cX11_edge 1 = .ok (.ifCond .lt 28, 3) := by decide +kernel
theorem dX11_edge_4 : decode cX11_edge 4 = .ok (.iload_n 1, 1) := by decide +kernel
theorem dX11_edge_5 : decode cX11_edge 5 = .ok (.bipush 11, 2) := by decide +kernel
theorem dX11_edge_7 : decode cX11_edge 7 = .ok (.if_icmp .gt 22, 3) := by decide +kernel
theorem dX11_edge_10 : decode cX11_edge 10 = .ok (.iload_n 2, 1) := by decide +kernel
theorem dX11_edge_11 : decode cX11_edge 11 = .ok (.ifCond .lt 18, 3) := by decide +kernel
theorem dX11_edge_14 : decode cX11_edge 14 = .ok (.iload_n 2, 1) := by decide +kernel
theorem dX11_edge_15 : decode cX11_edge 15 = .ok (.bipush 11, 2) := by decide +kernel
theorem dX11_edge_17 : decode cX11_edge 17 = .ok (.if_icmp .gt 12, 3) := by decide +kernel
theorem dX11_edge_20 : decode cX11_edge 20 = .ok (.iload_n 3, 1) := by decide +kernel
theorem dX11_edge_21 : decode cX11_edge 21 = .ok (.ifCond .lt 8, 3) := by decide +kernel
theorem dX11_edge_24 : decode cX11_edge 24 = .ok (.iload_n 3, 1) := by decide +kernel
theorem dX11_edge_25 : decode cX11_edge 25 = .ok (.iconst 1, 1) := by decide +kernel
theorem dX11_edge_26 : decode cX11_edge 26 = .ok (.if_icmp .le 5, 3) := by decide +kernel
theorem dX11_edge_29 : decode cX11_edge 29 = .ok (.iconst (-1), 1) := by decide +kernel
theorem dX11_edge_30 : decode cX11_edge 30 = .ok (.ireturn, 1) := by decide +kernel
theorem dX11_edge_31 : decode cX11_edge 31 = .ok (.aload_n 0, 1) := by decide +kernel
theorem dX11_edge_32 : decode cX11_edge 32 = .ok (.getfield 16, 3) := by decide +kernel
theorem dX11_edge_35 : decode cX11_edge 35 = .ok (.iload_n 1, 1) := by decide +kernel
theorem dX11_edge_36 : decode cX11_edge 36 = .ok (.iload_n 2, 1) := by decide +kernel
theorem dX11_edge_37 : decode cX11_edge 37 = .ok (.iastore, 1) := by decide +kernel
theorem dX11_edge_38 : decode cX11_edge 38 = .ok (.aload_n 0, 1) := by decide +kernel
theorem dX11_edge_39 : decode cX11_edge 39 = .ok (.getfield 19, 3) := by decide +kernel
theorem dX11_edge_42 : decode cX11_edge 42 = .ok (.iload_n 1, 1) := by decide +kernel
theorem dX11_edge_43 : decode cX11_edge 43 = .ok (.iload_n 3, 1) := by decide +kernel
theorem dX11_edge_44 : decode cX11_edge 44 = .ok (.iastore, 1) := by decide +kernel
theorem dX11_edge_45 : decode cX11_edge 45 = .ok (.iconst 1, 1) := by decide +kernel
theorem dX11_edge_46 : decode cX11_edge 46 = .ok (.ireturn, 1) := by decide +kernel
theorem dX11_at_0 : decode cX11_at 0 = .ok (.iload_n 1, 1) := by decide +kernel
theorem dX11_at_1 : decode cX11_at 1 = .ok (.ifCond .ne 29, 3) := by decide +kernel
theorem dX11_at_4 : decode cX11_at 4 = .ok (.iload_n 2, 1) := by decide +kernel
theorem dX11_at_5 : decode cX11_at 5 = .ok (.ifCond .lt 25, 3) := by decide +kernel
theorem dX11_at_8 : decode cX11_at 8 = .ok (.iload_n 2, 1) := by decide +kernel
theorem dX11_at_9 : decode cX11_at 9 = .ok (.bipush 8, 2) := by decide +kernel
theorem dX11_at_11 : decode cX11_at 11 = .ok (.if_icmp .ge 19, 3) := by decide +kernel
theorem dX11_at_14 : decode cX11_at 14 = .ok (.iconst 3, 1) := by decide +kernel
theorem dX11_at_15 : decode cX11_at 15 = .ok (.aload_n 0, 1) := by decide +kernel
theorem dX11_at_16 : decode cX11_at 16 = .ok (.getfield 7, 3) := by decide +kernel
theorem dX11_at_19 : decode cX11_at 19 = .ok (.iload_n 2, 1) := by decide +kernel
theorem dX11_at_20 : decode cX11_at 20 = .ok (.iaload, 1) := by decide +kernel
theorem dX11_at_21 : decode cX11_at 21 = .ok (.imul, 1) := by decide +kernel
theorem dX11_at_22 : decode cX11_at 22 = .ok (.aload_n 0, 1) := by decide +kernel
theorem dX11_at_23 : decode cX11_at 23 = .ok (.getfield 13, 3) := by decide +kernel
theorem dX11_at_26 : decode cX11_at 26 = .ok (.iload_n 2, 1) := by decide +kernel
theorem dX11_at_27 : decode cX11_at 27 = .ok (.iaload, 1) := by decide +kernel
theorem dX11_at_28 : decode cX11_at 28 = .ok (.iadd, 1) := by decide +kernel
theorem dX11_at_29 : decode cX11_at 29 = .ok (.ireturn, 1) := by decide +kernel
theorem dX11_at_30 : decode cX11_at 30 = .ok (.iload_n 1, 1) := by decide +kernel
theorem dX11_at_31 : decode cX11_at 31 = .ok (.iconst 1, 1) := by decide +kernel
theorem dX11_at_32 : decode cX11_at 32 = .ok (.if_icmp .ne 31, 3) := by decide +kernel
theorem dX11_at_35 : decode cX11_at 35 = .ok (.iload_n 2, 1) := by decide +kernel
theorem dX11_at_36 : decode cX11_at 36 = .ok (.ifCond .lt 27, 3) := by decide +kernel
theorem dX11_at_39 : decode cX11_at 39 = .ok (.iload_n 2, 1) := by decide +kernel
theorem dX11_at_40 : decode cX11_at 40 = .ok (.bipush 12, 2) := by decide +kernel
theorem dX11_at_42 : decode cX11_at 42 = .ok (.if_icmp .ge 21, 3) := by decide +kernel
theorem dX11_at_45 : decode cX11_at 45 = .ok (.iconst 2, 1) := by decide +kernel
theorem dX11_at_46 : decode cX11_at 46 = .ok (.aload_n 0, 1) := by decide +kernel
theorem dX11_at_47 : decode cX11_at 47 = .ok (.getfield 16, 3) := by decide +kernel
theorem dX11_at_50 : decode cX11_at 50 = .ok (.iload_n 2, 1) := by decide +kernel
theorem dX11_at_51 : decode cX11_at 51 = .ok (.iaload, 1) := by decide +kernel
theorem dX11_at_52 : decode cX11_at 52 = .ok (.imul, 1) := by decide +kernel
theorem dX11_at_53 : decode cX11_at 53 = .ok (.aload_n 0, 1) := by decide +kernel
theorem dX11_at_54 : decode cX11_at 54 = .ok (.getfield 19, 3) := by decide +kernel
theorem dX11_at_57 : decode cX11_at 57 = .ok (.iload_n 2, 1) := by decide +kernel
theorem dX11_at_58 : decode cX11_at 58 = .ok (.iaload, 1) := by decide +kernel
theorem dX11_at_59 : decode cX11_at 59 = .ok (.iadd, 1) := by decide +kernel
theorem dX11_at_60 : decode cX11_at 60 = .ok (.goto 4, 3) := by decide +kernel
theorem dX11_at_63 : decode cX11_at 63 = .ok (.iconst (-1), 1) := by decide +kernel
theorem dX11_at_64 : decode cX11_at 64 = .ok (.ireturn, 1) := by decide +kernel
theorem dX11_lawful_0 : decode cX11_lawful 0 = .ok (.iconst 0, 1) := by decide +kernel
theorem dX11_lawful_1 : decode cX11_lawful 1 = .ok (.istore_n 1, 1) := by decide +kernel
theorem dX11_lawful_2 : decode cX11_lawful 2 = .ok (.iconst 0, 1) := by decide +kernel
theorem dX11_lawful_3 : decode cX11_lawful 3 = .ok (.istore_n 2, 1) := by decide +kernel
theorem dX11_lawful_4 : decode cX11_lawful 4 = .ok (.iconst 0, 1) := by decide +kernel
theorem dX11_lawful_5 : decode cX11_lawful 5 = .ok (.istore_n 3, 1) := by decide +kernel
theorem dX11_lawful_6 : decode cX11_lawful 6 = .ok (.iconst 0, 1) := by decide +kernel
theorem dX11_lawful_7 : decode cX11_lawful 7 = .ok (.istore 4, 2) := by decide +kernel
theorem dX11_lawful_9 : decode cX11_lawful 9 = .ok (.iload 4, 2) := by decide +kernel
theorem dX11_lawful_11 : decode cX11_lawful 11 = .ok (.bipush 8, 2) := by decide +kernel
theorem dX11_lawful_13 : decode cX11_lawful 13 = .ok (.if_icmp .ge 72, 3) := by decide +kernel
theorem dX11_lawful_16 : decode cX11_lawful 16 = .ok (.iload_n 1, 1) := by decide +kernel
theorem dX11_lawful_17 : decode cX11_lawful 17 = .ok (.iconst 1, 1) := by decide +kernel
theorem dX11_lawful_18 : decode cX11_lawful 18 = .ok (.aload_n 0, 1) := by decide +kernel
theorem dX11_lawful_19 : decode cX11_lawful 19 = .ok (.getfield 7, 3) := by decide +kernel
theorem dX11_lawful_22 : decode cX11_lawful 22 = .ok (.iload 4, 2) := by decide +kernel
theorem dX11_lawful_24 : decode cX11_lawful 24 = .ok (.iaload, 1) := by decide +kernel
theorem dX11_lawful_25 : decode cX11_lawful 25 = .ok (.ishl, 1) := by decide +kernel
theorem dX11_lawful_26 : decode cX11_lawful 26 = .ok (.ior, 1) := by decide +kernel
theorem dX11_lawful_27 : decode cX11_lawful 27 = .ok (.istore_n 1, 1) := by decide +kernel
theorem dX11_lawful_28 : decode cX11_lawful 28 = .ok (.iload_n 2, 1) := by decide +kernel
theorem dX11_lawful_29 : decode cX11_lawful 29 = .ok (.aload_n 0, 1) := by decide +kernel
theorem dX11_lawful_30 : decode cX11_lawful 30 = .ok (.getfield 13, 3) := by decide +kernel
theorem dX11_lawful_33 : decode cX11_lawful 33 = .ok (.iload 4, 2) := by decide +kernel
theorem dX11_lawful_35 : decode cX11_lawful 35 = .ok (.iaload, 1) := by decide +kernel
theorem dX11_lawful_36 : decode cX11_lawful 36 = .ok (.iadd, 1) := by decide +kernel
theorem dX11_lawful_37 : decode cX11_lawful 37 = .ok (.istore_n 2, 1) := by decide +kernel
theorem dX11_lawful_38 : decode cX11_lawful 38 = .ok (.iconst 0, 1) := by decide +kernel
theorem dX11_lawful_39 : decode cX11_lawful 39 = .ok (.istore 5, 2) := by decide +kernel
theorem dX11_lawful_41 : decode cX11_lawful 41 = .ok (.iload 5, 2) := by decide +kernel
theorem dX11_lawful_43 : decode cX11_lawful 43 = .ok (.iload 4, 2) := by decide +kernel
theorem dX11_lawful_45 : decode cX11_lawful 45 = .ok (.if_icmp .ge 34, 3) := by decide +kernel
theorem dX11_lawful_48 : decode cX11_lawful 48 = .ok (.iload_n 3, 1) := by decide +kernel
theorem dX11_lawful_49 : decode cX11_lawful 49 = .ok (.aload_n 0, 1) := by decide +kernel
theorem dX11_lawful_50 : decode cX11_lawful 50 = .ok (.getfield 7, 3) := by decide +kernel
theorem dX11_lawful_53 : decode cX11_lawful 53 = .ok (.iload 5, 2) := by decide +kernel
theorem dX11_lawful_55 : decode cX11_lawful 55 = .ok (.iaload, 1) := by decide +kernel
theorem dX11_lawful_56 : decode cX11_lawful 56 = .ok (.aload_n 0, 1) := by decide +kernel
theorem dX11_lawful_57 : decode cX11_lawful 57 = .ok (.getfield 7, 3) := by decide +kernel
theorem dX11_lawful_60 : decode cX11_lawful 60 = .ok (.iload 4, 2) := by decide +kernel
theorem dX11_lawful_62 : decode cX11_lawful 62 = .ok (.iaload, 1) := by decide +kernel
theorem dX11_lawful_63 : decode cX11_lawful 63 = .ok (.if_icmp .le 7, 3) := by decide +kernel
theorem dX11_lawful_66 : decode cX11_lawful 66 = .ok (.iconst 1, 1) := by decide +kernel
theorem dX11_lawful_67 : decode cX11_lawful 67 = .ok (.goto 4, 3) := by decide +kernel
theorem dX11_lawful_70 : decode cX11_lawful 70 = .ok (.iconst 0, 1) := by decide +kernel
theorem dX11_lawful_71 : decode cX11_lawful 71 = .ok (.iadd, 1) := by decide +kernel
theorem dX11_lawful_72 : decode cX11_lawful 72 = .ok (.istore_n 3, 1) := by decide +kernel
theorem dX11_lawful_73 : decode cX11_lawful 73 = .ok (.iinc 5 1, 3) := by decide +kernel
theorem dX11_lawful_76 : decode cX11_lawful 76 = .ok (.goto (-35), 3) := by decide +kernel
theorem dX11_lawful_79 : decode cX11_lawful 79 = .ok (.iinc 4 1, 3) := by decide +kernel
theorem dX11_lawful_82 : decode cX11_lawful 82 = .ok (.goto (-73), 3) := by decide +kernel
theorem dX11_lawful_85 : decode cX11_lawful 85 = .ok (.iconst 0, 1) := by decide +kernel
theorem dX11_lawful_86 : decode cX11_lawful 86 = .ok (.istore 4, 2) := by decide +kernel
theorem dX11_lawful_88 : decode cX11_lawful 88 = .ok (.iconst 0, 1) := by decide +kernel
theorem dX11_lawful_89 : decode cX11_lawful 89 = .ok (.istore 5, 2) := by decide +kernel
theorem dX11_lawful_91 : decode cX11_lawful 91 = .ok (.iconst 0, 1) := by decide +kernel
theorem dX11_lawful_92 : decode cX11_lawful 92 = .ok (.istore 6, 2) := by decide +kernel
theorem dX11_lawful_94 : decode cX11_lawful 94 = .ok (.iload 6, 2) := by decide +kernel
theorem dX11_lawful_96 : decode cX11_lawful 96 = .ok (.bipush 12, 2) := by decide +kernel
theorem dX11_lawful_98 : decode cX11_lawful 98 = .ok (.if_icmp .ge 76, 3) := by decide +kernel
theorem dX11_lawful_101 : decode cX11_lawful 101 = .ok (.iload 4, 2) := by decide +kernel
theorem dX11_lawful_103 : decode cX11_lawful 103 = .ok (.iconst 1, 1) := by decide +kernel
theorem dX11_lawful_104 : decode cX11_lawful 104 = .ok (.aload_n 0, 1) := by decide +kernel
theorem dX11_lawful_105 : decode cX11_lawful 105 = .ok (.getfield 16, 3) := by decide +kernel
theorem dX11_lawful_108 : decode cX11_lawful 108 = .ok (.iload 6, 2) := by decide +kernel
theorem dX11_lawful_110 : decode cX11_lawful 110 = .ok (.iaload, 1) := by decide +kernel
theorem dX11_lawful_111 : decode cX11_lawful 111 = .ok (.ishl, 1) := by decide +kernel
theorem dX11_lawful_112 : decode cX11_lawful 112 = .ok (.ior, 1) := by decide +kernel
theorem dX11_lawful_113 : decode cX11_lawful 113 = .ok (.istore 4, 2) := by decide +kernel
theorem dX11_lawful_115 : decode cX11_lawful 115 = .ok (.iload 5, 2) := by decide +kernel
theorem dX11_lawful_117 : decode cX11_lawful 117 = .ok (.aload_n 0, 1) := by decide +kernel
theorem dX11_lawful_118 : decode cX11_lawful 118 = .ok (.getfield 19, 3) := by decide +kernel
theorem dX11_lawful_121 : decode cX11_lawful 121 = .ok (.iload 6, 2) := by decide +kernel
theorem dX11_lawful_123 : decode cX11_lawful 123 = .ok (.iaload, 1) := by decide +kernel
theorem dX11_lawful_124 : decode cX11_lawful 124 = .ok (.iadd, 1) := by decide +kernel
theorem dX11_lawful_125 : decode cX11_lawful 125 = .ok (.istore 5, 2) := by decide +kernel
theorem dX11_lawful_127 : decode cX11_lawful 127 = .ok (.iconst 0, 1) := by decide +kernel
