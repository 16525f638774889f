theorem dX11_lawful_128 : decode cX11_lawful 128 = .ok (.istore 7, 2) := by decide +kernel
theorem dX11_lawful_130 : decode cX11_lawful 130 = .ok (.iload 7, 2) := by decide +kernel
theorem dX11_lawful_132 : decode cX11_lawful 132 = .ok (.iload 6, 2) := by decide +kernel
theorem dX11_lawful_134 : decode cX11_lawful 134 = .ok (.if_icmp .ge 34, 3) := by decide +kernel
theorem dX11_lawful_137 : decode cX11_lawful 137 = .ok (.iload_n 3, 1) := by decide +kernel
theorem dX11_lawful_138 : decode cX11_lawful 138 = .ok (.aload_n 0, 1) := by decide +kernel
theorem dX11_lawful_139 : decode cX11_lawful 139 = .ok (.getfield 16, 3) := by decide +kernel
theorem dX11_lawful_142 : decode cX11_lawful 142 = .ok (.iload 7, 2) := by decide +kernel
theorem dX11_lawful_144 : decode cX11_lawful 144 = .ok (.iaload, 1) := by decide +kernel
theorem dX11_lawful_145 : decode cX11_lawful 145 = .ok (.aload_n 0, 1) := by decide +kernel
theorem dX11_lawful_146 : decode cX11_lawful 146 = .ok (.getfield 16, 3) := by decide +kernel
theorem dX11_lawful_149 : decode cX11_lawful 149 = .ok (.iload 6, 2) := by decide +kernel
theorem dX11_lawful_151 : decode cX11_lawful 151 = .ok (.iaload, 1) := by decide +kernel
theorem dX11_lawful_152 : decode cX11_lawful 152 = .ok (.if_icmp .le 7, 3) := by decide +kernel
theorem dX11_lawful_155 : decode cX11_lawful 155 = .ok (.iconst 1, 1) := by decide +kernel
theorem dX11_lawful_156 : decode cX11_lawful 156 = .ok (.goto 4, 3) := by decide +kernel
theorem dX11_lawful_159 : decode cX11_lawful 159 = .ok (.iconst 0, 1) := by decide +kernel
theorem dX11_lawful_160 : decode cX11_lawful 160 = .ok (.iadd, 1) := by decide +kernel
theorem dX11_lawful_161 : decode cX11_lawful 161 = .ok (.istore_n 3, 1) := by decide +kernel
theorem dX11_lawful_162 : decode cX11_lawful 162 = .ok (.iinc 7 1, 3) := by decide +kernel
theorem dX11_lawful_165 : decode cX11_lawful 165 = .ok (.goto (-35), 3) := by decide +kernel
theorem dX11_lawful_168 : decode cX11_lawful 168 = .ok (.iinc 6 1, 3) := by decide +kernel
theorem dX11_lawful_171 : decode cX11_lawful 171 = .ok (.goto (-77), 3) := by decide +kernel
theorem dX11_lawful_174 : decode cX11_lawful 174 = .ok (.iload_n 1, 1) := by decide +kernel
theorem dX11_lawful_175 : decode cX11_lawful 175 = .ok (.sipush 255, 3) := by decide +kernel
theorem dX11_lawful_178 : decode cX11_lawful 178 = .ok (.if_icmp .eq 6, 3) := by decide +kernel
theorem dX11_lawful_181 : decode cX11_lawful 181 = .ok (.bipush (-2), 2) := by decide +kernel
theorem dX11_lawful_183 : decode cX11_lawful 183 = .ok (.ireturn, 1) := by decide +kernel
theorem dX11_lawful_184 : decode cX11_lawful 184 = .ok (.iload 4, 2) := by decide +kernel
theorem dX11_lawful_186 : decode cX11_lawful 186 = .ok (.sipush 4095, 3) := by decide +kernel
theorem dX11_lawful_189 : decode cX11_lawful 189 = .ok (.if_icmp .eq 6, 3) := by decide +kernel
theorem dX11_lawful_192 : decode cX11_lawful 192 = .ok (.bipush (-3), 2) := by decide +kernel
theorem dX11_lawful_194 : decode cX11_lawful 194 = .ok (.ireturn, 1) := by decide +kernel
theorem dX11_lawful_195 : decode cX11_lawful 195 = .ok (.iload_n 2, 1) := by decide +kernel
theorem dX11_lawful_196 : decode cX11_lawful 196 = .ok (.iconst 3, 1) := by decide +kernel
theorem dX11_lawful_197 : decode cX11_lawful 197 = .ok (.irem, 1) := by decide +kernel
theorem dX11_lawful_198 : decode cX11_lawful 198 = .ok (.ifCond .eq 8, 3) := by decide +kernel
theorem dX11_lawful_201 : decode cX11_lawful 201 = .ok (.bipush (-4), 2) := by decide +kernel
theorem dX11_lawful_203 : decode cX11_lawful 203 = .ok (.goto 27, 3) := by decide +kernel
theorem dX11_lawful_206 : decode cX11_lawful 206 = .ok (.iload 5, 2) := by decide +kernel
theorem dX11_lawful_208 : decode cX11_lawful 208 = .ok (.iconst 2, 1) := by decide +kernel
theorem dX11_lawful_209 : decode cX11_lawful 209 = .ok (.irem, 1) := by decide +kernel
theorem dX11_lawful_210 : decode cX11_lawful 210 = .ok (.ifCond .eq 8, 3) := by decide +kernel
theorem dX11_lawful_213 : decode cX11_lawful 213 = .ok (.bipush (-5), 2) := by decide +kernel
theorem dX11_lawful_215 : decode cX11_lawful 215 = .ok (.goto 15, 3) := by decide +kernel
theorem dX11_lawful_218 : decode cX11_lawful 218 = .ok (.iload_n 3, 1) := by decide +kernel
theorem dX11_lawful_219 : decode cX11_lawful 219 = .ok (.iconst 2, 1) := by decide +kernel
theorem dX11_lawful_220 : decode cX11_lawful 220 = .ok (.irem, 1) := by decide +kernel
theorem dX11_lawful_221 : decode cX11_lawful 221 = .ok (.ifCond .eq 8, 3) := by decide +kernel
theorem dX11_lawful_224 : decode cX11_lawful 224 = .ok (.bipush (-6), 2) := by decide +kernel
theorem dX11_lawful_226 : decode cX11_lawful 226 = .ok (.goto 4, 3) := by decide +kernel
theorem dX11_lawful_229 : decode cX11_lawful 229 = .ok (.iconst 1, 1) := by decide +kernel
theorem dX11_lawful_230 : decode cX11_lawful 230 = .ok (.ireturn, 1) := by decide +kernel
set_option maxRecDepth 20000 in
theorem ggX11_turn_X11_look : GoodIn wsX11_turn wsX11_look := goodIn_r _ [14, 2, 1, 4, 3, 6, 5, 8, 7, 25, 26, 27, 28, 29, 30, 31, 32, 33, 34, 35, 36, 37, 38, 39, 40, 41, 42, 43, 44, 45, 46, 47, 48, 49, 50, 51, 52, 53, 54, 55, 56, 57, 58, 59, 60, 61, 62] (by decide +kernel) (by decide +kernel)
set_option maxRecDepth 20000 in
theorem gX11_turn_X11_look : GoodIn wsX11_turn (wsV RX11 129 RX11 yX11_look wsX11_look) := goodIn_app (goodIn_of _ (by decide +kernel)) ggX11_turn_X11_look
set_option maxRecDepth 20000 in
theorem ggX11_turn_X11_turnIt : GoodIn wsX11_turn wsX11_turnIt := goodIn_r _ [18, 19, 6, 20, 8, 21, 22, 2, 4, 23, 24, 25, 26, 27, 28, 29, 30, 31, 32, 33, 34, 35, 36, 37, 38, 39, 40, 41, 42, 43, 44, 45, 46, 47, 48, 49, 50, 51, 52, 53, 54, 55, 56, 57, 58, 59, 60, 61, 62] (by decide +kernel) (by decide +kernel)
set_option maxRecDepth 20000 in
theorem gX11_turn_X11_turnIt : GoodIn wsX11_turn (wsV RX11 132 RX11 yX11_turnIt wsX11_turnIt) := goodIn_app (goodIn_of _ (by decide +kernel)) ggX11_turn_X11_turnIt
theorem dX11_turn_0 : decode cX11_turn 0 = .ok (.iload_n 1, 1) := by decide +kernel
theorem dX11_turn_1 : decode cX11_turn 1 = .ok (.ifCond .lt 9, 3) := by decide +kernel
theorem dX11_turn_4 : decode cX11_turn 4 = .ok (.iload_n 1, 1) := by decide +kernel
theorem dX11_turn_5 : decode cX11_turn 5 = .ok (.bipush 18, 2) := by decide +kernel
theorem dX11_turn_7 : decode cX11_turn 7 = .ok (.if_icmp .lt 5, 3) := by decide +kernel
theorem dX11_turn_10 : decode cX11_turn 10 = .ok (.iconst (-1), 1) := by decide +kernel
theorem dX11_turn_11 : decode cX11_turn 11 = .ok (.ireturn, 1) := by decide +kernel
theorem dX11_turn_12 : decode cX11_turn 12 = .ok (.aload_n 0, 1) := by decide +kernel
theorem dX11_turn_13 : decode cX11_turn 13 = .ok (.invokevirtual 129, 3) := by decide +kernel
theorem dX11_turn_16 : decode cX11_turn 16 = .ok (.aload_n 0, 1) := by decide +kernel
theorem dX11_turn_17 : decode cX11_turn 17 = .ok (.iload_n 1, 1) := by decide +kernel
theorem dX11_turn_18 : decode cX11_turn 18 = .ok (.invokevirtual 132, 3) := by decide +kernel
theorem dX11_turn_21 : decode cX11_turn 21 = .ok (.iconst 0, 1) := by decide +kernel
theorem dX11_turn_22 : decode cX11_turn 22 = .ok (.istore_n 2, 1) := by decide +kernel
theorem dX11_turn_23 : decode cX11_turn 23 = .ok (.iload_n 2, 1) := by decide +kernel
theorem dX11_turn_24 : decode cX11_turn 24 = .ok (.bipush 12, 2) := by decide +kernel
theorem dX11_turn_26 : decode cX11_turn 26 = .ok (.if_icmp .ge 63, 3) := by decide +kernel
theorem dX11_turn_29 : decode cX11_turn 29 = .ok (.aload_n 0, 1) := by decide +kernel
theorem dX11_turn_30 : decode cX11_turn 30 = .ok (.getfield 16, 3) := by decide +kernel
theorem dX11_turn_33 : decode cX11_turn 33 = .ok (.iload_n 2, 1) := by decide +kernel
theorem dX11_turn_34 : decode cX11_turn 34 = .ok (.aload_n 0, 1) := by decide +kernel
theorem dX11_turn_35 : decode cX11_turn 35 = .ok (.getfield 28, 3) := by decide +kernel
theorem dX11_turn_38 : decode cX11_turn 38 = .ok (.iload_n 2, 1) := by decide +kernel
theorem dX11_turn_39 : decode cX11_turn 39 = .ok (.iaload, 1) := by decide +kernel
theorem dX11_turn_40 : decode cX11_turn 40 = .ok (.iastore, 1) := by decide +kernel
theorem dX11_turn_41 : decode cX11_turn 41 = .ok (.aload_n 0, 1) := by decide +kernel
theorem dX11_turn_42 : decode cX11_turn 42 = .ok (.getfield 19, 3) := by decide +kernel
theorem dX11_turn_45 : decode cX11_turn 45 = .ok (.iload_n 2, 1) := by decide +kernel
theorem dX11_turn_46 : decode cX11_turn 46 = .ok (.aload_n 0, 1) := by decide +kernel
theorem dX11_turn_47 : decode cX11_turn 47 = .ok (.getfield 31, 3) := by decide +kernel
theorem dX11_turn_50 : decode cX11_turn 50 = .ok (.iload_n 2, 1) := by decide +kernel
theorem dX11_turn_51 : decode cX11_turn 51 = .ok (.iaload, 1) := by decide +kernel
theorem dX11_turn_52 : decode cX11_turn 52 = .ok (.iastore, 1) := by decide +kernel
theorem dX11_turn_53 : decode cX11_turn 53 = .ok (.iload_n 2, 1) := by decide +kernel
theorem dX11_turn_54 : decode cX11_turn 54 = .ok (.bipush 8, 2) := by decide +kernel
theorem dX11_turn_56 : decode cX11_turn 56 = .ok (.if_icmp .ge 27, 3) := by decide +kernel
theorem dX11_turn_59 : decode cX11_turn 59 = .ok (.aload_n 0, 1) := by decide +kernel
theorem dX11_turn_60 : decode cX11_turn 60 = .ok (.getfield 7, 3) := by decide +kernel
theorem dX11_turn_63 : decode cX11_turn 63 = .ok (.iload_n 2, 1) := by decide +kernel
theorem dX11_turn_64 : decode cX11_turn 64 = .ok (.aload_n 0, 1) := by decide +kernel
theorem dX11_turn_65 : decode cX11_turn 65 = .ok (.getfield 22, 3) := by decide +kernel
theorem dX11_turn_68 : decode cX11_turn 68 = .ok (.iload_n 2, 1) := by decide +kernel
theorem dX11_turn_69 : decode cX11_turn 69 = .ok (.iaload, 1) := by decide +kernel
theorem dX11_turn_70 : decode cX11_turn 70 = .ok (.iastore, 1) := by decide +kernel
theorem dX11_turn_71 : decode cX11_turn 71 = .ok (.aload_n 0, 1) := by decide +kernel
theorem dX11_turn_72 : decode cX11_turn 72 = .ok (.getfield 13, 3) := by decide +kernel
theorem dX11_turn_75 : decode cX11_turn 75 = .ok (.iload_n 2, 1) := by decide +kernel
theorem dX11_turn_76 : decode cX11_turn 76 = .ok (.aload_n 0, 1) := by decide +kernel
theorem dX11_turn_77 : decode cX11_turn 77 = .ok (.getfield 25, 3) := by decide +kernel
theorem dX11_turn_80 : decode cX11_turn 80 = .ok (.iload_n 2, 1) := by decide +kernel
theorem dX11_turn_81 : decode cX11_turn 81 = .ok (.iaload, 1) := by decide +kernel
theorem dX11_turn_82 : decode cX11_turn 82 = .ok (.iastore, 1) := by decide +kernel
theorem dX11_turn_83 : decode cX11_turn 83 = .ok (.iinc 2 1, 3) := by decide +kernel
theorem dX11_turn_86 : decode cX11_turn 86 = .ok (.goto (-63), 3) := by decide +kernel
theorem dX11_turn_89 : decode cX11_turn 89 = .ok (.aload_n 0, 1) := by decide +kernel
theorem dX11_turn_90 : decode cX11_turn 90 = .ok (.dup, 1) := by decide +kernel
theorem dX11_turn_91 : decode cX11_turn 91 = .ok (.getfield 136, 3) := by decide +kernel
theorem dX11_turn_94 : decode cX11_turn 94 = .ok (.iconst 1, 1) := by decide +kernel
theorem dX11_turn_95 : decode cX11_turn 95 = .ok (.iadd, 1) := by decide +kernel
theorem dX11_turn_96 : decode cX11_turn 96 = .ok (.putfield 136, 3) := by decide +kernel
theorem dX11_turn_99 : decode cX11_turn 99 = .ok (.iconst 1, 1) := by decide +kernel
theorem dX11_turn_100 : decode cX11_turn 100 = .ok (.ireturn, 1) := by decide +kernel
set_option maxRecDepth 20000 in
theorem ggX11_home_X11_bringHome : GoodIn wsX11_home wsX11_bringHome := goodIn_r _ [6, 7, 8, 9, 10, 11, 12, 13, 14, 15, 16, 17, 18, 19, 20, 21, 22, 23, 24, 25, 26, 27, 28, 29, 30, 31, 32, 33, 34, 35, 36, 37, 38, 39, 40, 41, 42, 43, 44, 45, 46, 47, 48] (by decide +kernel) (by decide +kernel)
set_option maxRecDepth 20000 in
theorem gX11_home_X11_bringHome : GoodIn wsX11_home (wsV RX11 122 RX11 yX11_bringHome wsX11_bringHome) := goodIn_app (goodIn_of _ (by decide +kernel)) ggX11_home_X11_bringHome
theorem dX11_home_0 : decode cX11_home 0 = .ok (.aload_n 0, 1) := by decide +kernel
theorem dX11_home_1 : decode cX11_home 1 = .ok (.getfield 136, 3) := by decide +kernel
theorem dX11_home_4 : decode cX11_home 4 = .ok (.istore_n 1, 1) := by decide +kernel
theorem dX11_home_5 : decode cX11_home 5 = .ok (.aload_n 0, 1) := by decide +kernel
theorem dX11_home_6 : decode cX11_home 6 = .ok (.iconst 0, 1) := by decide +kernel
theorem dX11_home_7 : decode cX11_home 7 = .ok (.putfield 136, 3) := by decide +kernel
theorem dX11_home_10 : decode cX11_home 10 = .ok (.aload_n 0, 1) := by decide +kernel
theorem dX11_home_11 : decode cX11_home 11 = .ok (.invokevirtual 122, 3) := by decide +kernel
theorem dX11_home_14 : decode cX11_home 14 = .ok (.iload_n 1, 1) := by decide +kernel
theorem dX11_home_15 : decode cX11_home 15 = .ok (.ireturn, 1) := by decide +kernel
theorem dX11_isHome_0 : decode cX11_isHome 0 = .ok (.iconst 1, 1) := by decide +kernel
theorem dX11_isHome_1 : decode cX11_isHome 1 = .ok (.istore_n 1, 1) := by decide +kernel
theorem dX11_isHome_2 : decode cX11_isHome 2 = .ok (.iconst 0, 1) := by decide +kernel
theorem dX11_isHome_3 : decode cX11_isHome 3 = .ok (.istore_n 2, 1) := by decide +kernel
theorem dX11_isHome_4 : decode cX11_isHome 4 = .ok (.iload_n 2, 1) := by decide +kernel
theorem dX11_isHome_5 : decode cX11_isHome 5 = .ok (.bipush 12, 2) := by decide +kernel
theorem dX11_isHome_7 : decode cX11_isHome 7 = .ok (.if_icmp .ge 63, 3) := by decide +kernel
theorem dX11_isHome_10 : decode cX11_isHome 10 = .ok (.iload_n 1, 1) := by decide +kernel
theorem dX11_isHome_11 : decode cX11_isHome 11 = .ok (.ifCond .eq 51, 3) := by decide +kernel
theorem dX11_isHome_14 : decode cX11_isHome 14 = .ok (.aload_n 0, 1) := by decide +kernel
theorem dX11_isHome_15 : decode cX11_isHome 15 = .ok (.getfield 16, 3) := by decide +kernel
theorem dX11_isHome_18 : decode cX11_isHome 18 = .ok (.iload_n 2, 1) := by decide +kernel
theorem dX11_isHome_19 : decode cX11_isHome 19 = .ok (.iaload, 1) := by decide +kernel
theorem dX11_isHome_20 : decode cX11_isHome 20 = .ok (.iload_n 2, 1) := by decide +kernel
theorem dX11_isHome_21 : decode cX11_isHome 21 = .ok (.if_icmp .ne 41, 3) := by decide +kernel
theorem dX11_isHome_24 : decode cX11_isHome 24 = .ok (.aload_n 0, 1) := by decide +kernel
theorem dX11_isHome_25 : decode cX11_isHome 25 = .ok (.getfield 19, 3) := by decide +kernel
theorem dX11_isHome_28 : decode cX11_isHome 28 = .ok (.iload_n 2, 1) := by decide +kernel
theorem dX11_isHome_29 : decode cX11_isHome 29 = .ok (.iaload, 1) := by decide +kernel
theorem dX11_isHome_30 : decode cX11_isHome 30 = .ok (.ifCond .ne 32, 3) := by decide +kernel
theorem dX11_isHome_33 : decode cX11_isHome 33 = .ok (.iload_n 2, 1) := by decide +kernel
theorem dX11_isHome_34 : decode cX11_isHome 34 = .ok (.bipush 7, 2) := by decide +kernel
theorem dX11_isHome_36 : decode cX11_isHome 36 = .ok (.if_icmp .gt 22, 3) := by decide +kernel
theorem dX11_isHome_39 : decode cX11_isHome 39 = .ok (.aload_n 0, 1) := by decide +kernel
theorem dX11_isHome_40 : decode cX11_isHome 40 = .ok (.getfield 7, 3) := by decide +kernel
theorem dX11_isHome_43 : decode cX11_isHome 43 = .ok (.iload_n 2, 1) := by decide +kernel
theorem dX11_isHome_44 : decode cX11_isHome 44 = .ok (.iaload, 1) := by decide +kernel
theorem dX11_isHome_45 : decode cX11_isHome 45 = .ok (.iload_n 2, 1) := by decide +kernel
theorem dX11_isHome_46 : decode cX11_isHome 46 = .ok (.if_icmp .ne 16, 3) := by decide +kernel
theorem dX11_isHome_49 : decode cX11_isHome 49 = .ok (.aload_n 0, 1) := by decide +kernel
theorem dX11_isHome_50 : decode cX11_isHome 50 = .ok (.getfield 13, 3) := by decide +kernel
theorem dX11_isHome_53 : decode cX11_isHome 53 = .ok (.iload_n 2, 1) := by decide +kernel
theorem dX11_isHome_54 : decode cX11_isHome 54 = .ok (.iaload, 1) := by decide +kernel
theorem dX11_isHome_55 : decode cX11_isHome 55 = .ok (.ifCond .ne 7, 3) := by decide +kernel
theorem dX11_isHome_58 : decode cX11_isHome 58 = .ok (.iconst 1, 1) := by decide +kernel
theorem dX11_isHome_59 : decode cX11_isHome 59 = .ok (.goto 4, 3) := by decide +kernel
theorem dX11_isHome_62 : decode cX11_isHome 62 = .ok (.iconst 0, 1) := by decide +kernel
theorem dX11_isHome_63 : decode cX11_isHome 63 = .ok (.istore_n 1, 1) := by decide +kernel
theorem dX11_isHome_64 : decode cX11_isHome 64 = .ok (.iinc 2 1, 3) := by decide +kernel
theorem dX11_isHome_67 : decode cX11_isHome 67 = .ok (.goto (-63), 3) := by decide +kernel
theorem dX11_isHome_70 : decode cX11_isHome 70 = .ok (.iload_n 1, 1) := by decide +kernel
theorem dX11_isHome_71 : decode cX11_isHome 71 = .ok (.ifCond .eq 7, 3) := by decide +kernel
theorem dX11_isHome_74 : decode cX11_isHome 74 = .ok (.iconst 1, 1) := by decide +kernel
theorem dX11_isHome_75 : decode cX11_isHome 75 = .ok (.goto 4, 3) := by decide +kernel
theorem dX11_isHome_78 : decode cX11_isHome 78 = .ok (.iconst 0, 1) := by decide +kernel
theorem dX11_isHome_79 : decode cX11_isHome 79 = .ok (.ireturn, 1) := by decide +kernel
theorem dX11_may_0 : decode cX11_may 0 = .ok (.iload_n 1, 1) := by decide +kernel
theorem dX11_may_1 : decode cX11_may 1 = .ok (.iconst 3, 1) := by decide +kernel
theorem dX11_may_2 : decode cX11_may 2 = .ok (.irem, 1) := by decide +kernel
theorem dX11_may_3 : decode cX11_may 3 = .ok (.iconst 1, 1) := by decide +kernel
theorem dX11_may_4 : decode cX11_may 4 = .ok (.if_icmp .ne 7, 3) := by decide +kernel
theorem dX11_may_7 : decode cX11_may 7 = .ok (.iconst 1, 1) := by decide +kernel
theorem dX11_may_8 : decode cX11_may 8 = .ok (.goto 4, 3) := by decide +kernel
theorem dX11_may_11 : decode cX11_may 11 = .ok (.iconst 0, 1) := by decide +kernel
theorem dX11_may_12 : decode cX11_may 12 = .ok (.istore_n 2, 1) := by decide +kernel
theorem dX11_may_13 : decode cX11_may 13 = .ok (.iload_n 1, 1) := by decide +kernel
theorem dX11_may_14 : decode cX11_may 14 = .ok (.iconst 3, 1) := by decide +kernel
theorem dX11_may_15 : decode cX11_may 15 = .ok (.idiv, 1) := by decide +kernel
theorem dX11_may_16 : decode cX11_may 16 = .ok (.istore_n 3, 1) := by decide +kernel
theorem dX11_may_17 : decode cX11_may 17 = .ok (.iload_n 0, 1) := by decide +kernel
theorem dX11_may_18 : decode cX11_may 18 = .ok (.ifCond .eq 27, 3) := by decide +kernel
theorem dX11_may_21 : decode cX11_may 21 = .ok (.iload_n 2, 1) := by decide +kernel
theorem dX11_may_22 : decode cX11_may 22 = .ok (.ifCond .ne 23, 3) := by decide +kernel
theorem dX11_may_25 : decode cX11_may 25 = .ok (.iload_n 0, 1) := by decide +kernel
theorem dX11_may_26 : decode cX11_may 26 = .ok (.iconst 1, 1) := by decide +kernel
theorem dX11_may_27 : decode cX11_may 27 = .ok (.if_icmp .ne 8, 3) := by decide +kernel
theorem dX11_may_30 : decode cX11_may 30 = .ok (.iload_n 3, 1) := by decide +kernel
theorem dX11_may_31 : decode cX11_may 31 = .ok (.iconst 4, 1) := by decide +kernel
theorem dX11_may_32 : decode cX11_may 32 = .ok (.if_icmp .lt 13, 3) := by decide +kernel
theorem dX11_may_35 : decode cX11_may 35 = .ok (.iload_n 0, 1) := by decide +kernel
theorem dX11_may_36 : decode cX11_may 36 = .ok (.iconst 2, 1) := by decide +kernel
theorem dX11_may_37 : decode cX11_may 37 = .ok (.if_icmp .ne 12, 3) := by decide +kernel
theorem dX11_may_40 : decode cX11_may 40 = .ok (.iload_n 3, 1) := by decide +kernel
theorem dX11_may_41 : decode cX11_may 41 = .ok (.iconst 2, 1) := by decide +kernel
theorem dX11_may_42 : decode cX11_may 42 = .ok (.if_icmp .ge 7, 3) := by decide +kernel
theorem dX11_may_45 : decode cX11_may 45 = .ok (.iconst 1, 1) := by decide +kernel
theorem dX11_may_46 : decode cX11_may 46 = .ok (.goto 4, 3) := by decide +kernel
theorem dX11_may_49 : decode cX11_may 49 = .ok (.iconst 0, 1) := by decide +kernel
theorem dX11_may_50 : decode cX11_may 50 = .ok (.ireturn, 1) := by decide +kernel
theorem dX11_rank_0 : decode cX11_rank 0 = .ok (.iconst 0, 1) := by decide +kernel
theorem dX11_rank_1 : decode cX11_rank 1 = .ok (.istore_n 2, 1) := by decide +kernel
theorem dX11_rank_2 : decode cX11_rank 2 = .ok (.iconst 0, 1) := by decide +kernel
theorem dX11_rank_3 : decode cX11_rank 3 = .ok (.istore_n 3, 1) := by decide +kernel
theorem dX11_rank_4 : decode cX11_rank 4 = .ok (.iload_n 3, 1) := by decide +kernel
theorem dX11_rank_5 : decode cX11_rank 5 = .ok (.iload_n 1, 1) := by decide +kernel
theorem dX11_rank_6 : decode cX11_rank 6 = .ok (.if_icmp .ge 64, 3) := by decide +kernel
theorem dX11_rank_9 : decode cX11_rank 9 = .ok (.iconst 0, 1) := by decide +kernel
theorem dX11_rank_10 : decode cX11_rank 10 = .ok (.istore 4, 2) := by decide +kernel
theorem dX11_rank_12 : decode cX11_rank 12 = .ok (.iload_n 3, 1) := by decide +kernel
theorem dX11_rank_13 : decode cX11_rank 13 = .ok (.iconst 1, 1) := by decide +kernel
theorem dX11_rank_14 : decode cX11_rank 14 = .ok (.iadd, 1) := by decide +kernel
theorem dX11_rank_15 : decode cX11_rank 15 = .ok (.istore 5, 2) := by decide +kernel
theorem dX11_rank_17 : decode cX11_rank 17 = .ok (.iload 5, 2) := by decide +kernel
theorem dX11_rank_19 : decode cX11_rank 19 = .ok (.iload_n 1, 1) := by decide +kernel
theorem dX11_rank_20 : decode cX11_rank 20 = .ok (.if_icmp .ge 35, 3) := by decide +kernel
theorem dX11_rank_23 : decode cX11_rank 23 = .ok (.iload 4, 2) := by decide +kernel
theorem dX11_rank_25 : decode cX11_rank 25 = .ok (.aload_n 0, 1) := by decide +kernel
theorem dX11_rank_26 : decode cX11_rank 26 = .ok (.getfield 112, 3) := by decide +kernel
theorem dX11_rank_29 : decode cX11_rank 29 = .ok (.iload 5, 2) := by decide +kernel
theorem dX11_rank_31 : decode cX11_rank 31 = .ok (.iaload, 1) := by decide +kernel
theorem dX11_rank_32 : decode cX11_rank 32 = .ok (.aload_n 0, 1) := by decide +kernel
theorem dX11_rank_33 : decode cX11_rank 33 = .ok (.getfield 112, 3) := by decide +kernel
theorem dX11_rank_36 : decode cX11_rank 36 = .ok (.iload_n 3, 1) := by decide +kernel
theorem dX11_rank_37 : decode cX11_rank 37 = .ok (.iaload, 1) := by decide +kernel
theorem dX11_rank_38 : decode cX11_rank 38 = .ok (.if_icmp .ge 7, 3) := by decide +kernel
theorem dX11_rank_41 : decode cX11_rank 41 = .ok (.iconst 1, 1) := by decide +kernel
theorem dX11_rank_42 : decode cX11_rank 42 = .ok (.goto 4, 3) := by decide +kernel
theorem dX11_rank_45 : decode cX11_rank 45 = .ok (.iconst 0, 1) := by decide +kernel
theorem dX11_rank_46 : decode cX11_rank 46 = .ok (.iadd, 1) := by decide +kernel
theorem dX11_rank_47 : decode cX11_rank 47 = .ok (.istore 4, 2) := by decide +kernel
theorem dX11_rank_49 : decode cX11_rank 49 = .ok (.iinc 5 1, 3) := by decide +kernel
theorem dX11_rank_52 : decode cX11_rank 52 = .ok (.goto (-35), 3) := by decide +kernel
theorem dX11_rank_55 : decode cX11_rank 55 = .ok (.iload_n 2, 1) := by decide +kernel
theorem dX11_rank_56 : decode cX11_rank 56 = .ok (.iload_n 1, 1) := by decide +kernel
theorem dX11_rank_57 : decode cX11_rank 57 = .ok (.iload_n 3, 1) := by decide +kernel
theorem dX11_rank_58 : decode cX11_rank 58 = .ok (.isub, 1) := by decide +kernel
theorem dX11_rank_59 : decode cX11_rank 59 = .ok (.imul, 1) := by decide +kernel
theorem dX11_rank_60 : decode cX11_rank 60 = .ok (.iload 4, 2) := by decide +kernel
theorem dX11_rank_62 : decode cX11_rank 62 = .ok (.iadd, 1) := by decide +kernel
theorem dX11_rank_63 : decode cX11_rank 63 = .ok (.istore_n 2, 1) := by decide +kernel
theorem dX11_rank_64 : decode cX11_rank 64 = .ok (.iinc 3 1, 3) := by decide +kernel
theorem dX11_rank_67 : decode cX11_rank 67 = .ok (.goto (-63), 3) := by decide +kernel
theorem dX11_rank_70 : decode cX11_rank 70 = .ok (.iload_n 2, 1) := by decide +kernel
theorem dX11_rank_71 : decode cX11_rank 71 = .ok (.ireturn, 1) := by decide +kernel
theorem dX11_unrank_0 : decode cX11_unrank 0 = .ok (.iload_n 2, 1) := by decide +kernel
theorem dX11_unrank_1 : decode cX11_unrank 1 = .ok (.istore_n 3, 1) := by decide +kernel
theorem dX11_unrank_2 : decode cX11_unrank 2 = .ok (.iload_n 1, 1) := by decide +kernel
theorem dX11_unrank_3 : decode cX11_unrank 3 = .ok (.iconst 1, 1) := by decide +kernel
theorem dX11_unrank_4 : decode cX11_unrank 4 = .ok (.isub, 1) := by decide +kernel
theorem dX11_unrank_5 : decode cX11_unrank 5 = .ok (.istore 4, 2) := by decide +kernel
theorem dX11_unrank_7 : decode cX11_unrank 7 = .ok (.iload 4, 2) := by decide +kernel
theorem dX11_unrank_9 : decode cX11_unrank 9 = .ok (.ifCond .lt 31, 3) := by decide +kernel
theorem dX11_unrank_12 : decode cX11_unrank 12 = .ok (.iload_n 1, 1) := by decide +kernel
theorem dX11_unrank_13 : decode cX11_unrank 13 = .ok (.iload 4, 2) := by decide +kernel
theorem dX11_unrank_15 : decode cX11_unrank 15 = .ok (.isub, 1) := by decide +kernel
theorem dX11_unrank_16 : decode cX11_unrank 16 = .ok (.istore 5, 2) := by decide +kernel
theorem dX11_unrank_18 : decode cX11_unrank 18 = .ok (.aload_n 0, 1) := by decide +kernel
theorem dX11_unrank_19 : decode cX11_unrank 19 = .ok (.getfield 112, 3) := by decide +kernel
theorem dX11_unrank_22 : decode cX11_unrank 22 = .ok (.iload 4, 2) := by decide +kernel
theorem dX11_unrank_24 : decode cX11_unrank 24 = .ok (.iload_n 3, 1) := by decide +kernel
theorem dX11_unrank_25 : decode cX11_unrank 25 = .ok (.iload 5, 2) := by decide +kernel
theorem dX11_unrank_27 : decode cX11_unrank 27 = .ok (.irem, 1) := by decide +kernel
theorem dX11_unrank_28 : decode cX11_unrank 28 = .ok (.iastore, 1) := by decide +kernel
theorem dX11_unrank_29 : decode cX11_unrank 29 = .ok (.iload_n 3, 1) := by decide +kernel
theorem dX11_unrank_30 : decode cX11_unrank 30 = .ok (.iload 5, 2) := by decide +kernel
theorem dX11_unrank_32 : decode cX11_unrank 32 = .ok (.idiv, 1) := by decide +kernel
theorem dX11_unrank_33 : decode cX11_unrank 33 = .ok (.istore_n 3, 1) := by decide +kernel
theorem dX11_unrank_34 : decode cX11_unrank 34 = .ok (.iinc 4 (-1), 3) := by decide +kernel
theorem dX11_unrank_37 : decode cX11_unrank 37 = .ok (.goto (-30), 3) := by decide +kernel
theorem dX11_unrank_40 : decode cX11_unrank 40 = .ok (.iload_n 1, 1) := by decide +kernel
theorem dX11_unrank_41 : decode cX11_unrank 41 = .ok (.iconst 2, 1) := by decide +kernel
theorem dX11_unrank_42 : decode cX11_unrank 42 = .ok (.isub, 1) := by decide +kernel
theorem dX11_unrank_43 : decode cX11_unrank 43 = .ok (.istore 4, 2) := by decide +kernel
theorem dX11_unrank_45 : decode cX11_unrank 45 = .ok (.iload 4, 2) := by decide +kernel
theorem dX11_unrank_47 : decode cX11_unrank 47 = .ok (.ifCond .lt 59, 3) := by decide +kernel
theorem dX11_unrank_50 : decode cX11_unrank 50 = .ok (.iload 4, 2) := by decide +kernel
theorem dX11_unrank_52 : decode cX11_unrank 52 = .ok (.iconst 1, 1) := by decide +kernel
theorem dX11_unrank_53 : decode cX11_unrank 53 = .ok (.iadd, 1) := by decide +kernel
theorem dX11_unrank_54 : decode cX11_unrank 54 = .ok (.istore 5, 2) := by decide +kernel
theorem dX11_unrank_56 : decode cX11_unrank 56 = .ok (.iload 5, 2) := by decide +kernel
theorem dX11_unrank_58 : decode cX11_unrank 58 = .ok (.iload_n 1, 1) := by decide +kernel
theorem dX11_unrank_59 : decode cX11_unrank 59 = .ok (.if_icmp .ge 41, 3) := by decide +kernel
theorem dX11_unrank_62 : decode cX11_unrank 62 = .ok (.aload_n 0, 1) := by decide +kernel
theorem dX11_unrank_63 : decode cX11_unrank 63 = .ok (.getfield 112, 3) := by decide +kernel
theorem dX11_unrank_66 : decode cX11_unrank 66 = .ok (.iload 5, 2) := by decide +kernel
theorem dX11_unrank_68 : decode cX11_unrank 68 = .ok (.dup2, 1) := by decide +kernel
theorem dX11_unrank_69 : decode cX11_unrank 69 = .ok (.iaload, 1) := by decide +kernel
theorem dX11_unrank_70 : decode cX11_unrank 70 = .ok (.aload_n 0, 1) := by decide +kernel
theorem dX11_unrank_71 : decode cX11_unrank 71 = .ok (.getfield 112, 3) := by decide +kernel
theorem dX11_unrank_74 : decode cX11_unrank 74 = .ok (.iload 5, 2) := by decide +kernel
theorem dX11_unrank_76 : decode cX11_unrank 76 = .ok (.iaload, 1) := by decide +kernel
theorem dX11_unrank_77 : decode cX11_unrank 77 = .ok (.aload_n 0, 1) := by decide +kernel
theorem dX11_unrank_78 : decode cX11_unrank 78 = .ok (.getfield 112, 3) := by decide +kernel
theorem dX11_unrank_81 : decode cX11_unrank 81 = .ok (.iload 4, 2) := by decide +kernel
theorem dX11_unrank_83 : decode cX11_unrank 83 = .ok (.iaload, 1) := by decide +kernel
theorem dX11_unrank_84 : decode cX11_unrank 84 = .ok (.if_icmp .lt 7, 3) := by decide +kernel
theorem dX11_unrank_87 : decode cX11_unrank 87 = .ok (.iconst 1, 1) := by decide +kernel
theorem dX11_unrank_88 : decode cX11_unrank 88 = .ok (.goto 4, 3) := by decide +kernel
theorem dX11_unrank_91 : decode cX11_unrank 91 = .ok (.iconst 0, 1) := by decide +kernel
theorem dX11_unrank_92 : decode cX11_unrank 92 = .ok (.iadd, 1) := by decide +kernel
theorem dX11_unrank_93 : decode cX11_unrank 93 = .ok (.iastore, 1) := by decide +kernel
theorem dX11_unrank_94 : decode cX11_unrank 94 = .ok (.iinc 5 1, 3) := by decide +kernel
theorem dX11_unrank_97 : decode cX11_unrank 97 = .ok (.goto (-41), 3) := by decide +kernel
theorem dX11_unrank_100 : decode cX11_unrank 100 = .ok (.iinc 4 (-1), 3) := by decide +kernel
theorem dX11_unrank_103 : decode cX11_unrank 103 = .ok (.goto (-58), 3) := by decide +kernel
theorem dX11_unrank_106 : decode cX11_unrank 106 = .ok (.return_, 1) := by decide +kernel
theorem dX11_turnRow_0 : decode cX11_turnRow 0 = .ok (.iconst 0, 1) := by decide +kernel
theorem dX11_turnRow_1 : decode cX11_turnRow 1 = .ok (.istore_n 2, 1) := by decide +kernel
theorem dX11_turnRow_2 : decode cX11_turnRow 2 = .ok (.iload_n 2, 1) := by decide +kernel
theorem dX11_turnRow_3 : decode cX11_turnRow 3 = .ok (.bipush 8, 2) := by decide +kernel
theorem dX11_turnRow_5 : decode cX11_turnRow 5 = .ok (.if_icmp .ge 21, 3) := by decide +kernel
theorem dX11_turnRow_8 : decode cX11_turnRow 8 = .ok (.aload_n 0, 1) := by decide +kernel
theorem dX11_turnRow_9 : decode cX11_turnRow 9 = .ok (.getfield 115, 3) := by decide +kernel
theorem dX11_turnRow_12 : decode cX11_turnRow 12 = .ok (.iload_n 2, 1) := by decide +kernel
theorem dX11_turnRow_13 : decode cX11_turnRow 13 = .ok (.aload_n 0, 1) := by decide +kernel
theorem dX11_turnRow_14 : decode cX11_turnRow 14 = .ok (.getfield 112, 3) := by decide +kernel
theorem dX11_turnRow_17 : decode cX11_turnRow 17 = .ok (.iload_n 2, 1) := by decide +kernel
theorem dX11_turnRow_18 : decode cX11_turnRow 18 = .ok (.iaload, 1) := by decide +kernel
theorem dX11_turnRow_19 : decode cX11_turnRow 19 = .ok (.iastore, 1) := by decide +kernel
theorem dX11_turnRow_20 : decode cX11_turnRow 20 = .ok (.iinc 2 1, 3) := by decide +kernel
theorem dX11_turnRow_23 : decode cX11_turnRow 23 = .ok (.goto (-21), 3) := by decide +kernel
theorem dX11_turnRow_26 : decode cX11_turnRow 26 = .ok (.iconst 0, 1) := by decide +kernel
theorem dX11_turnRow_27 : decode cX11_turnRow 27 = .ok (.istore_n 2, 1) := by decide +kernel
theorem dX11_turnRow_28 : decode cX11_turnRow 28 = .ok (.iload_n 2, 1) := by decide +kernel
theorem dX11_turnRow_29 : decode cX11_turnRow 29 = .ok (.bipush 8, 2) := by decide +kernel
theorem dX11_turnRow_31 : decode cX11_turnRow 31 = .ok (.if_icmp .ge 31, 3) := by decide +kernel
theorem dX11_turnRow_34 : decode cX11_turnRow 34 = .ok (.aload_n 0, 1) := by decide +kernel
theorem dX11_turnRow_35 : decode cX11_turnRow 35 = .ok (.getfield 112, 3) := by decide +kernel
theorem dX11_turnRow_38 : decode cX11_turnRow 38 = .ok (.iload_n 2, 1) := by decide +kernel
theorem dX11_turnRow_39 : decode cX11_turnRow 39 = .ok (.aload_n 0, 1) := by decide +kernel
theorem dX11_turnRow_40 : decode cX11_turnRow 40 = .ok (.getfield 115, 3) := by decide +kernel
theorem dX11_turnRow_43 : decode cX11_turnRow 43 = .ok (.aload_n 0, 1) := by decide +kernel
theorem dX11_turnRow_44 : decode cX11_turnRow 44 = .ok (.getfield 40, 3) := by decide +kernel
theorem dX11_turnRow_47 : decode cX11_turnRow 47 = .ok (.bipush 8, 2) := by decide +kernel
theorem dX11_turnRow_49 : decode cX11_turnRow 49 = .ok (.iload_n 1, 1) := by decide +kernel
theorem dX11_turnRow_50 : decode cX11_turnRow 50 = .ok (.imul, 1) := by decide +kernel
theorem dX11_turnRow_51 : decode cX11_turnRow 51 = .ok (.iload_n 2, 1) := by decide +kernel
theorem dX11_turnRow_52 : decode cX11_turnRow 52 = .ok (.iadd, 1) := by decide +kernel
theorem dX11_turnRow_53 : decode cX11_turnRow 53 = .ok (.iaload, 1) := by decide +kernel
theorem dX11_turnRow_54 : decode cX11_turnRow 54 = .ok (.iaload, 1) := by decide +kernel
theorem dX11_turnRow_55 : decode cX11_turnRow 55 = .ok (.iastore, 1) := by decide +kernel
theorem dX11_turnRow_56 : decode cX11_turnRow 56 = .ok (.iinc 2 1, 3) := by decide +kernel
theorem dX11_turnRow_59 : decode cX11_turnRow 59 = .ok (.goto (-31), 3) := by decide +kernel
theorem dX11_turnRow_62 : decode cX11_turnRow 62 = .ok (.return_, 1) := by decide +kernel
theorem dX11_maskBy_0 : decode cX11_maskBy 0 = .ok (.iconst 0, 1) := by decide +kernel
theorem dX11_maskBy_1 : decode cX11_maskBy 1 = .ok (.istore 4, 2) := by decide +kernel
theorem dX11_maskBy_3 : decode cX11_maskBy 3 = .ok (.iconst 0, 1) := by decide +kernel
theorem dX11_maskBy_4 : decode cX11_maskBy 4 = .ok (.istore 5, 2) := by decide +kernel
theorem dX11_maskBy_6 : decode cX11_maskBy 6 = .ok (.iload 5, 2) := by decide +kernel
theorem dX11_maskBy_8 : decode cX11_maskBy 8 = .ok (.iload_n 3, 1) := by decide +kernel
theorem dX11_maskBy_9 : decode cX11_maskBy 9 = .ok (.if_icmp .ge 33, 3) := by decide +kernel
theorem dX11_maskBy_12 : decode cX11_maskBy 12 = .ok (.iload 4, 2) := by decide +kernel
theorem dX11_maskBy_14 : decode cX11_maskBy 14 = .ok (.iload_n 1, 1) := by decide +kernel
theorem dX11_maskBy_15 : decode cX11_maskBy 15 = .ok (.aload_n 0, 1) := by decide +kernel
theorem dX11_maskBy_16 : decode cX11_maskBy 16 = .ok (.getfield 46, 3) := by decide +kernel
theorem dX11_maskBy_19 : decode cX11_maskBy 19 = .ok (.bipush 12, 2) := by decide +kernel
theorem dX11_maskBy_21 : decode cX11_maskBy 21 = .ok (.iload_n 2, 1) := by decide +kernel
theorem dX11_maskBy_22 : decode cX11_maskBy 22 = .ok (.imul, 1) := by decide +kernel
theorem dX11_maskBy_23 : decode cX11_maskBy 23 = .ok (.iload 5, 2) := by decide +kernel
theorem dX11_maskBy_25 : decode cX11_maskBy 25 = .ok (.iadd, 1) := by decide +kernel
theorem dX11_maskBy_26 : decode cX11_maskBy 26 = .ok (.iaload, 1) := by decide +kernel
theorem dX11_maskBy_27 : decode cX11_maskBy 27 = .ok (.ishr, 1) := by decide +kernel
theorem dX11_maskBy_28 : decode cX11_maskBy 28 = .ok (.iconst 1, 1) := by decide +kernel
theorem dX11_maskBy_29 : decode cX11_maskBy 29 = .ok (.iand, 1) := by decide +kernel
theorem dX11_maskBy_30 : decode cX11_maskBy 30 = .ok (.iload 5, 2) := by decide +kernel
theorem dX11_maskBy_32 : decode cX11_maskBy 32 = .ok (.ishl, 1) := by decide +kernel
theorem dX11_maskBy_33 : decode cX11_maskBy 33 = .ok (.ior, 1) := by decide +kernel
theorem dX11_maskBy_34 : decode cX11_maskBy 34 = .ok (.istore 4, 2) := by decide +kernel
theorem dX11_maskBy_36 : decode cX11_maskBy 36 = .ok (.iinc 5 1, 3) := by decide +kernel
theorem dX11_maskBy_39 : decode cX11_maskBy 39 = .ok (.goto (-33), 3) := by decide +kernel
theorem dX11_maskBy_42 : decode cX11_maskBy 42 = .ok (.iload 4, 2) := by decide +kernel
theorem dX11_maskBy_44 : decode cX11_maskBy 44 = .ok (.ireturn, 1) := by decide +kernel
theorem dX11_ones_0 : decode cX11_ones 0 = .ok (.iconst 0, 1) := by decide +kernel
theorem dX11_ones_1 : decode cX11_ones 1 = .ok (.istore_n 1, 1) := by decide +kernel
theorem dX11_ones_2 : decode cX11_ones 2 = .ok (.iload_n 0, 1) := by decide +kernel
theorem dX11_ones_3 : decode cX11_ones 3 = .ok (.istore_n 2, 1) := by decide +kernel
theorem dX11_ones_4 : decode cX11_ones 4 = .ok (.iload_n 2, 1) := by decide +kernel
theorem dX11_ones_5 : decode cX11_ones 5 = .ok (.ifCond .le 16, 3) := by decide +kernel
theorem dX11_ones_8 : decode cX11_ones 8 = .ok (.iload_n 1, 1) := by decide +kernel
theorem dX11_ones_9 : decode cX11_ones 9 = .ok (.iload_n 2, 1) := by decide +kernel
theorem dX11_ones_10 : decode cX11_ones 10 = .ok (.iconst 1, 1) := by decide +kernel
theorem dX11_ones_11 : decode cX11_ones 11 = .ok (.iand, 1) := by decide +kernel
theorem dX11_ones_12 : decode cX11_ones 12 = .ok (.iadd, 1) := by decide +kernel
theorem dX11_ones_13 : decode cX11_ones 13 = .ok (.istore_n 1, 1) := by decide +kernel
theorem dX11_ones_14 : decode cX11_ones 14 = .ok (.iload_n 2, 1) := by decide +kernel
theorem dX11_ones_15 : decode cX11_ones 15 = .ok (.iconst 1, 1) := by decide +kernel
theorem dX11_ones_16 : decode cX11_ones 16 = .ok (.ishr, 1) := by decide +kernel
theorem dX11_ones_17 : decode cX11_ones 17 = .ok (.istore_n 2, 1) := by decide +kernel
theorem dX11_ones_18 : decode cX11_ones 18 = .ok (.goto (-14), 3) := by decide +kernel
theorem dX11_ones_21 : decode cX11_ones 21 = .ok (.iload_n 1, 1) := by decide +kernel
theorem dX11_ones_22 : decode cX11_ones 22 = .ok (.ireturn, 1) := by decide +kernel
set_option maxRecDepth 20000 in
theorem ggX11_make_X11_makeFirst : GoodIn wsX11_make wsX11_makeFirst := goodIn_r _ [6, 7, 8, 9, 87, 88, 89, 90, 91, 92, 93, 94, 95, 96, 97, 98, 99, 100, 101, 102, 103, 104, 105, 106, 107, 108, 109, 110, 111, 112, 113, 114, 115, 116, 117, 118, 119, 120, 121, 122, 123, 124] (by decide +kernel) (by decide +kernel)
set_option maxRecDepth 20000 in
theorem gX11_make_X11_makeFirst : GoodIn wsX11_make (wsV RX11 144 RX11 yX11_makeFirst wsX11_makeFirst) := goodIn_app (goodIn_of _ (by decide +kernel)) ggX11_make_X11_makeFirst
set_option maxRecDepth 20000 in
theorem ggX11_make_X11_makeNumbers : GoodIn wsX11_make wsX11_makeNumbers := goodIn_r _ [13, 14, 15, 16, 17, 18, 19, 5, 20, 87, 88, 89, 90, 91, 92, 93, 94, 95, 96, 97, 98, 99, 100, 101, 102, 103, 104, 105, 106, 107, 108, 109, 110, 111, 112, 113, 114, 115, 116, 117, 118, 119, 120, 121, 122, 123, 124] (by decide +kernel) (by decide +kernel)
set_option maxRecDepth 20000 in
theorem gX11_make_X11_makeNumbers : GoodIn wsX11_make (wsV RX11 147 RX11 yX11_makeNumbers wsX11_makeNumbers) := goodIn_app (goodIn_of _ (by decide +kernel)) ggX11_make_X11_makeNumbers
set_option maxRecDepth 20000 in
theorem ggX11_make_X11_makeSecond : GoodIn wsX11_make wsX11_makeSecond := goodIn_r _ [24, 25, 26, 27, 28, 29, 14, 15, 30, 31, 32, 33, 34, 5, 35, 8, 36, 37, 38, 39, 40, 41, 42, 87, 88, 89, 90, 91, 92, 93, 94, 95, 96, 97, 98, 99, 100, 101, 102, 103, 104, 105, 106, 107, 108, 109, 110, 111, 112, 113, 114, 115, 116, 117, 118, 119, 120, 121, 122, 123, 124] (by decide +kernel) (by decide +kernel)
set_option maxRecDepth 20000 in
theorem gX11_make_X11_makeSecond : GoodIn wsX11_make (wsV RX11 150 RX11 yX11_makeSecond wsX11_makeSecond) := goodIn_app (goodIn_of _ (by decide +kernel)) ggX11_make_X11_makeSecond
set_option maxRecDepth 20000 in
theorem ggX11_make_X11_makeKinds : GoodIn wsX11_make wsX11_makeKinds := goodIn_r _ [46, 47, 48, 49, 50, 51, 52, 53, 54, 5, 55, 25, 56, 57, 58, 59, 60, 26, 61, 62, 63, 64, 65, 66, 67, 68, 69, 87, 88, 89, 90, 91, 92, 93, 94, 95, 96, 97, 98, 99, 100, 101, 102, 103, 104, 105, 106, 107, 108, 109, 110, 111, 112, 113, 114, 115, 116, 117, 118, 119, 120, 121, 122, 123, 124] (by decide +kernel) (by decide +kernel)
set_option maxRecDepth 20000 in
theorem gX11_make_X11_makeKinds : GoodIn wsX11_make (wsV RX11 153 RX11 yX11_makeKinds wsX11_makeKinds) := goodIn_app (goodIn_of _ (by decide +kernel)) ggX11_make_X11_makeKinds
set_option maxRecDepth 20000 in
theorem ggX11_make_X11_makeThird : GoodIn wsX11_make wsX11_makeThird := goodIn_r _ [73, 51, 74, 49, 75, 16, 17, 52, 53, 54, 5, 55, 25, 56, 57, 58, 59, 60, 26, 61, 62, 63, 64, 40, 41, 42, 32, 33, 34, 35, 8, 87, 88, 89, 90, 91, 92, 93, 94, 95, 96, 97, 98, 99, 100, 101, 102, 103, 104, 105, 106, 107, 108, 109, 110, 111, 112, 113, 114, 115, 116, 117, 118, 119, 120, 121, 122, 123, 124] (by decide +kernel) (by decide +kernel)
set_option maxRecDepth 20000 in
theorem gX11_make_X11_makeThird : GoodIn wsX11_make (wsV RX11 156 RX11 yX11_makeThird wsX11_makeThird) := goodIn_app (goodIn_of _ (by decide +kernel)) ggX11_make_X11_makeThird
set_option maxRecDepth 20000 in
theorem ggX11_make_X11_makeFourth : GoodIn wsX11_make wsX11_makeFourth := goodIn_r _ [79, 60, 25, 8, 80, 50, 48, 81, 82, 52, 53, 54, 5, 55, 61, 62, 63, 64, 56, 57, 58, 59, 26, 83, 84, 85, 86, 87, 88, 89, 90, 91, 92, 93, 94, 95, 96, 97, 98, 99, 100, 101, 102, 103, 104, 105, 106, 107, 108, 109, 110, 111, 112, 113, 114, 115, 116, 117, 118, 119, 120, 121, 122, 123, 124] (by decide +kernel) (by decide +kernel)
set_option maxRecDepth 20000 in
theorem gX11_make_X11_makeFourth : GoodIn wsX11_make (wsV RX11 159 RX11 yX11_makeFourth wsX11_makeFourth) := goodIn_app (goodIn_of _ (by decide +kernel)) ggX11_make_X11_makeFourth
theorem dX11_make_0 : decode cX11_make 0 = .ok (.aload_n 0, 1) := by decide +kernel
theorem dX11_make_1 : decode cX11_make 1 = .ok (.getfield 140, 3) := by decide +kernel
theorem dX11_make_4 : decode cX11_make 4 = .ok (.ifCond .eq 4, 3) := by decide +kernel
theorem dX11_make_7 : decode cX11_make 7 = .ok (.return_, 1) := by decide +kernel
theorem dX11_make_8 : decode cX11_make 8 = .ok (.aload_n 0, 1) := by decide +kernel
theorem dX11_make_9 : decode cX11_make 9 = .ok (.iconst 1, 1) := by decide +kernel
theorem dX11_make_10 : decode cX11_make 10 = .ok (.putfield 140, 3) := by decide +kernel
theorem dX11_make_13 : decode cX11_make 13 = .ok (.aload_n 0, 1) := by decide +kernel
theorem dX11_make_14 : decode cX11_make 14 = .ok (.invokevirtual 144, 3) := by decide +kernel
theorem dX11_make_17 : decode cX11_make 17 = .ok (.aload_n 0, 1) := by decide +kernel
theorem dX11_make_18 : decode cX11_make 18 = .ok (.invokevirtual 147, 3) := by decide +kernel
theorem dX11_make_21 : decode cX11_make 21 = .ok (.aload_n 0, 1) := by decide +kernel
theorem dX11_make_22 : decode cX11_make 22 = .ok (.invokevirtual 150, 3) := by decide +kernel
theorem dX11_make_25 : decode cX11_make 25 = .ok (.aload_n 0, 1) := by decide +kernel
theorem dX11_make_26 : decode cX11_make 26 = .ok (.invokevirtual 153, 3) := by decide +kernel
theorem dX11_make_29 : decode cX11_make 29 = .ok (.aload_n 0, 1) := by decide +kernel
theorem dX11_make_30 : decode cX11_make 30 = .ok (.invokevirtual 156, 3) := by decide +kernel
theorem dX11_make_33 : decode cX11_make 33 = .ok (.aload_n 0, 1) := by decide +kernel
theorem dX11_make_34 : decode cX11_make 34 = .ok (.invokevirtual 159, 3) := by decide +kernel
theorem dX11_make_37 : decode cX11_make 37 = .ok (.return_, 1) := by decide +kernel
theorem dX11_makeFirst_0 : decode cX11_makeFirst 0 = .ok (.iconst 0, 1) := by decide +kernel
theorem dX11_makeFirst_1 : decode cX11_makeFirst 1 = .ok (.istore_n 1, 1) := by decide +kernel
theorem dX11_makeFirst_2 : decode cX11_makeFirst 2 = .ok (.iload_n 1, 1) := by decide +kernel
theorem dX11_makeFirst_3 : decode cX11_makeFirst 3 = .ok (.sipush 4096, 3) := by decide +kernel
theorem dX11_makeFirst_6 : decode cX11_makeFirst 6 = .ok (.if_icmp .ge 17, 3) := by decide +kernel
theorem dX11_makeFirst_9 : decode cX11_makeFirst 9 = .ok (.aload_n 0, 1) := by decide +kernel
theorem dX11_makeFirst_10 : decode cX11_makeFirst 10 = .ok (.getfield 58, 3) := by decide +kernel
theorem dX11_makeFirst_13 : decode cX11_makeFirst 13 = .ok (.iload_n 1, 1) := by decide +kernel
theorem dX11_makeFirst_14 : decode cX11_makeFirst 14 = .ok (.bipush 100, 2) := by decide +kernel
theorem dX11_makeFirst_16 : decode cX11_makeFirst 16 = .ok (.bastore, 1) := by decide +kernel
theorem dX11_makeFirst_17 : decode cX11_makeFirst 17 = .ok (.iinc 1 1, 3) := by decide +kernel
theorem dX11_makeFirst_20 : decode cX11_makeFirst 20 = .ok (.goto (-18), 3) := by decide +kernel
theorem dX11_makeFirst_23 : decode cX11_makeFirst 23 = .ok (.aload_n 0, 1) := by decide +kernel
theorem dX11_makeFirst_24 : decode cX11_makeFirst 24 = .ok (.getfield 58, 3) := by decide +kernel
theorem dX11_makeFirst_27 : decode cX11_makeFirst 27 = .ok (.iconst 0, 1) := by decide +kernel
theorem dX11_makeFirst_28 : decode cX11_makeFirst 28 = .ok (.iconst 0, 1) := by decide +kernel
theorem dX11_makeFirst_29 : decode cX11_makeFirst 29 = .ok (.bastore, 1) := by decide +kernel
theorem dX11_makeFirst_30 : decode cX11_makeFirst 30 = .ok (.iconst 1, 1) := by decide +kernel
theorem dX11_makeFirst_31 : decode cX11_makeFirst 31 = .ok (.istore_n 1, 1) := by decide +kernel
theorem dX11_makeFirst_32 : decode cX11_makeFirst 32 = .ok (.iconst 0, 1) := by decide +kernel
theorem dX11_makeFirst_33 : decode cX11_makeFirst 33 = .ok (.istore_n 2, 1) := by decide +kernel
theorem dX11_makeFirst_34 : decode cX11_makeFirst 34 = .ok (.iload_n 1, 1) := by decide +kernel
theorem dX11_makeFirst_35 : decode cX11_makeFirst 35 = .ok (.ifCond .eq 135, 3) := by decide +kernel
theorem dX11_makeFirst_38 : decode cX11_makeFirst 38 = .ok (.iconst 0, 1) := by decide +kernel
theorem dX11_makeFirst_39 : decode cX11_makeFirst 39 = .ok (.istore_n 1, 1) := by decide +kernel
theorem dX11_makeFirst_40 : decode cX11_makeFirst 40 = .ok (.iconst 0, 1) := by decide +kernel
theorem dX11_makeFirst_41 : decode cX11_makeFirst 41 = .ok (.istore_n 3, 1) := by decide +kernel
theorem dX11_makeFirst_42 : decode cX11_makeFirst 42 = .ok (.iload_n 3, 1) := by decide +kernel
theorem dX11_makeFirst_43 : decode cX11_makeFirst 43 = .ok (.sipush 4096, 3) := by decide +kernel
theorem dX11_makeFirst_46 : decode cX11_makeFirst 46 = .ok (.if_icmp .ge 118, 3) := by decide +kernel
theorem dX11_makeFirst_49 : decode cX11_makeFirst 49 = .ok (.iconst 0, 1) := by decide +kernel
theorem dX11_makeFirst_50 : decode cX11_makeFirst 50 = .ok (.istore 4, 2) := by decide +kernel
theorem dX11_makeFirst_52 : decode cX11_makeFirst 52 = .ok (.iload 4, 2) := by decide +kernel
theorem dX11_makeFirst_54 : decode cX11_makeFirst 54 = .ok (.bipush 18, 2) := by decide +kernel
theorem dX11_makeFirst_56 : decode cX11_makeFirst 56 = .ok (.if_icmp .ge 102, 3) := by decide +kernel
theorem dX11_makeFirst_59 : decode cX11_makeFirst 59 = .ok (.aload_n 0, 1) := by decide +kernel
theorem dX11_makeFirst_60 : decode cX11_makeFirst 60 = .ok (.getfield 58, 3) := by decide +kernel
theorem dX11_makeFirst_63 : decode cX11_makeFirst 63 = .ok (.iload_n 3, 1) := by decide +kernel
theorem dX11_makeFirst_64 : decode cX11_makeFirst 64 = .ok (.baload, 1) := by decide +kernel
theorem dX11_makeFirst_65 : decode cX11_makeFirst 65 = .ok (.iload_n 2, 1) := by decide +kernel
theorem dX11_makeFirst_66 : decode cX11_makeFirst 66 = .ok (.if_icmp .ne 92, 3) := by decide +kernel
theorem dX11_makeFirst_69 : decode cX11_makeFirst 69 = .ok (.iconst 0, 1) := by decide +kernel
theorem dX11_makeFirst_70 : decode cX11_makeFirst 70 = .ok (.istore 5, 2) := by decide +kernel
theorem dX11_makeFirst_72 : decode cX11_makeFirst 72 = .ok (.iconst 0, 1) := by decide +kernel
theorem dX11_makeFirst_73 : decode cX11_makeFirst 73 = .ok (.istore 6, 2) := by decide +kernel
theorem dX11_makeFirst_75 : decode cX11_makeFirst 75 = .ok (.iload 6, 2) := by decide +kernel
theorem dX11_makeFirst_77 : decode cX11_makeFirst 77 = .ok (.bipush 12, 2) := by decide +kernel
theorem dX11_makeFirst_79 : decode cX11_makeFirst 79 = .ok (.if_icmp .ge 48, 3) := by decide +kernel
theorem dX11_makeFirst_82 : decode cX11_makeFirst 82 = .ok (.iload 5, 2) := by decide +kernel
theorem dX11_makeFirst_84 : decode cX11_makeFirst 84 = .ok (.iload_n 3, 1) := by decide +kernel
theorem dX11_makeFirst_85 : decode cX11_makeFirst 85 = .ok (.aload_n 0, 1) := by decide +kernel
theorem dX11_makeFirst_86 : decode cX11_makeFirst 86 = .ok (.getfield 46, 3) := by decide +kernel
theorem dX11_makeFirst_89 : decode cX11_makeFirst 89 = .ok (.bipush 12, 2) := by decide +kernel
theorem dX11_makeFirst_91 : decode cX11_makeFirst 91 = .ok (.iload 4, 2) := by decide +kernel
theorem dX11_makeFirst_93 : decode cX11_makeFirst 93 = .ok (.imul, 1) := by decide +kernel
theorem dX11_makeFirst_94 : decode cX11_makeFirst 94 = .ok (.iload 6, 2) := by decide +kernel
theorem dX11_makeFirst_96 : decode cX11_makeFirst 96 = .ok (.iadd, 1) := by decide +kernel
theorem dX11_makeFirst_97 : decode cX11_makeFirst 97 = .ok (.iaload, 1) := by decide +kernel
theorem dX11_makeFirst_98 : decode cX11_makeFirst 98 = .ok (.ishr, 1) := by decide +kernel
theorem dX11_makeFirst_99 : decode cX11_makeFirst 99 = .ok (.iconst 1, 1) := by decide +kernel
theorem dX11_makeFirst_100 : decode cX11_makeFirst 100 = .ok (.iand, 1) := by decide +kernel
theorem dX11_makeFirst_101 : decode cX11_makeFirst 101 = .ok (.aload_n 0, 1) := by decide +kernel
theorem dX11_makeFirst_102 : decode cX11_makeFirst 102 = .ok (.getfield 49, 3) := by decide +kernel
theorem dX11_makeFirst_105 : decode cX11_makeFirst 105 = .ok (.bipush 12, 2) := by decide +kernel
theorem dX11_makeFirst_107 : decode cX11_makeFirst 107 = .ok (.iload 4, 2) := by decide +kernel
theorem dX11_makeFirst_109 : decode cX11_makeFirst 109 = .ok (.imul, 1) := by decide +kernel
theorem dX11_makeFirst_110 : decode cX11_makeFirst 110 = .ok (.iload 6, 2) := by decide +kernel
theorem dX11_makeFirst_112 : decode cX11_makeFirst 112 = .ok (.iadd, 1) := by decide +kernel
theorem dX11_makeFirst_113 : decode cX11_makeFirst 113 = .ok (.iaload, 1) := by decide +kernel
theorem dX11_makeFirst_114 : decode cX11_makeFirst 114 = .ok (.ixor, 1) := by decide +kernel
theorem dX11_makeFirst_115 : decode cX11_makeFirst 115 = .ok (.iload 6, 2) := by decide +kernel
theorem dX11_makeFirst_117 : decode cX11_makeFirst 117 = .ok (.ishl, 1) := by decide +kernel
theorem dX11_makeFirst_118 : decode cX11_makeFirst 118 = .ok (.ior, 1) := by decide +kernel
theorem dX11_makeFirst_119 : decode cX11_makeFirst 119 = .ok (.istore 5, 2) := by decide +kernel
theorem dX11_makeFirst_121 : decode cX11_makeFirst 121 = .ok (.iinc 6 1, 3) := by decide +kernel
theorem dX11_makeFirst_124 : decode cX11_makeFirst 124 = .ok (.goto (-49), 3) := by decide +kernel
theorem dX11_makeFirst_127 : decode cX11_makeFirst 127 = .ok (.aload_n 0, 1) := by decide +kernel
theorem dX11_makeFirst_128 : decode cX11_makeFirst 128 = .ok (.getfield 58, 3) := by decide +kernel
theorem dX11_makeFirst_131 : decode cX11_makeFirst 131 = .ok (.iload 5, 2) := by decide +kernel
theorem dX11_makeFirst_133 : decode cX11_makeFirst 133 = .ok (.baload, 1) := by decide +kernel
theorem dX11_makeFirst_134 : decode cX11_makeFirst 134 = .ok (.bipush 100, 2) := by decide +kernel
theorem dX11_makeFirst_136 : decode cX11_makeFirst 136 = .ok (.if_icmp .ne 16, 3) := by decide +kernel
theorem dX11_makeFirst_139 : decode cX11_makeFirst 139 = .ok (.aload_n 0, 1) := by decide +kernel
theorem dX11_makeFirst_140 : decode cX11_makeFirst 140 = .ok (.getfield 58, 3) := by decide +kernel
theorem dX11_makeFirst_143 : decode cX11_makeFirst 143 = .ok (.iload 5, 2) := by decide +kernel
theorem dX11_makeFirst_145 : decode cX11_makeFirst 145 = .ok (.iload_n 2, 1) := by decide +kernel
theorem dX11_makeFirst_146 : decode cX11_makeFirst 146 = .ok (.iconst 1, 1) := by decide +kernel
theorem dX11_makeFirst_147 : decode cX11_makeFirst 147 = .ok (.iadd, 1) := by decide +kernel
theorem dX11_makeFirst_148 : decode cX11_makeFirst 148 = .ok (.i2b, 1) := by decide +kernel
theorem dX11_makeFirst_149 : decode cX11_makeFirst 149 = .ok (.bastore, 1) := by decide +kernel
theorem dX11_makeFirst_150 : decode cX11_makeFirst 150 = .ok (.iconst 1, 1) := by decide +kernel
theorem dX11_makeFirst_151 : decode cX11_makeFirst 151 = .ok (.istore_n 1, 1) := by decide +kernel
theorem dX11_makeFirst_152 : decode cX11_makeFirst 152 = .ok (.iinc 4 1, 3) := by decide +kernel
theorem dX11_makeFirst_155 : decode cX11_makeFirst 155 = .ok (.goto (-103), 3) := by decide +kernel
theorem dX11_makeFirst_158 : decode cX11_makeFirst 158 = .ok (.iinc 3 1, 3) := by decide +kernel
theorem dX11_makeFirst_161 : decode cX11_makeFirst 161 = .ok (.goto (-119), 3) := by decide +kernel
theorem dX11_makeFirst_164 : decode cX11_makeFirst 164 = .ok (.iinc 2 1, 3) := by decide +kernel
theorem dX11_makeFirst_167 : decode cX11_makeFirst 167 = .ok (.goto (-133), 3) := by decide +kernel
theorem dX11_makeFirst_170 : decode cX11_makeFirst 170 = .ok (.return_, 1) := by decide +kernel
set_option maxRecDepth 20000 in
theorem ggX11_makeNumbers_X11_ones : GoodIn wsX11_makeNumbers wsX11_ones := goodIn_r _ [8] (by decide +kernel) (by decide +kernel)
set_option maxRecDepth 20000 in
theorem gX11_makeNumbers_X11_ones : GoodIn wsX11_makeNumbers (va_wsS RX11 162 yX11_ones wsX11_ones) := goodIn_app (goodIn_of _ (by decide +kernel)) ggX11_makeNumbers_X11_ones
theorem dX11_makeNumbers_0 : decode cX11_makeNumbers 0 = .ok (.iconst 0, 1) := by decide +kernel
theorem dX11_makeNumbers_1 : decode cX11_makeNumbers 1 = .ok (.istore_n 1, 1) := by decide +kernel
theorem dX11_makeNumbers_2 : decode cX11_makeNumbers 2 = .ok (.iconst 0, 1) := by decide +kernel
theorem dX11_makeNumbers_3 : decode cX11_makeNumbers 3 = .ok (.istore_n 2, 1) := by decide +kernel
theorem dX11_makeNumbers_4 : decode cX11_makeNumbers 4 = .ok (.iload_n 2, 1) := by decide +kernel
theorem dX11_makeNumbers_5 : decode cX11_makeNumbers 5 = .ok (.sipush 4096, 3) := by decide +kernel
theorem dX11_makeNumbers_8 : decode cX11_makeNumbers 8 = .ok (.if_icmp .ge 36, 3) := by decide +kernel
theorem dX11_makeNumbers_11 : decode cX11_makeNumbers 11 = .ok (.iload_n 2, 1) := by decide +kernel
theorem dX11_makeNumbers_12 : decode cX11_makeNumbers 12 = .ok (.invokestatic 162, 3) := by decide +kernel
theorem dX11_makeNumbers_15 : decode cX11_makeNumbers 15 = .ok (.iconst 4, 1) := by decide +kernel
theorem dX11_makeNumbers_16 : decode cX11_makeNumbers 16 = .ok (.if_icmp .ne 22, 3) := by decide +kernel
theorem dX11_makeNumbers_19 : decode cX11_makeNumbers 19 = .ok (.aload_n 0, 1) := by decide +kernel
theorem dX11_makeNumbers_20 : decode cX11_makeNumbers 20 = .ok (.getfield 73, 3) := by decide +kernel
theorem dX11_makeNumbers_23 : decode cX11_makeNumbers 23 = .ok (.iload_n 2, 1) := by decide +kernel
theorem dX11_makeNumbers_24 : decode cX11_makeNumbers 24 = .ok (.iload_n 1, 1) := by decide +kernel
theorem dX11_makeNumbers_25 : decode cX11_makeNumbers 25 = .ok (.i2s, 1) := by decide +kernel
theorem dX11_makeNumbers_26 : decode cX11_makeNumbers 26 = .ok (.sastore, 1) := by decide +kernel
theorem dX11_makeNumbers_27 : decode cX11_makeNumbers 27 = .ok (.aload_n 0, 1) := by decide +kernel
theorem dX11_makeNumbers_28 : decode cX11_makeNumbers 28 = .ok (.getfield 77, 3) := by decide +kernel
theorem dX11_makeNumbers_31 : decode cX11_makeNumbers 31 = .ok (.iload_n 1, 1) := by decide +kernel
theorem dX11_makeNumbers_32 : decode cX11_makeNumbers 32 = .ok (.iload_n 2, 1) := by decide +kernel
theorem dX11_makeNumbers_33 : decode cX11_makeNumbers 33 = .ok (.i2s, 1) := by decide +kernel
theorem dX11_makeNumbers_34 : decode cX11_makeNumbers 34 = .ok (.sastore, 1) := by decide +kernel
theorem dX11_makeNumbers_35 : decode cX11_makeNumbers 35 = .ok (.iinc 1 1, 3) := by decide +kernel
theorem dX11_makeNumbers_38 : decode cX11_makeNumbers 38 = .ok (.iinc 2 1, 3) := by decide +kernel
theorem dX11_makeNumbers_41 : decode cX11_makeNumbers 41 = .ok (.goto (-37), 3) := by decide +kernel
theorem dX11_makeNumbers_44 : decode cX11_makeNumbers 44 = .ok (.iconst 0, 1) := by decide +kernel
theorem dX11_makeNumbers_45 : decode cX11_makeNumbers 45 = .ok (.istore_n 1, 1) := by decide +kernel
theorem dX11_makeNumbers_46 : decode cX11_makeNumbers 46 = .ok (.iconst 0, 1) := by decide +kernel
theorem dX11_makeNumbers_47 : decode cX11_makeNumbers 47 = .ok (.istore_n 2, 1) := by decide +kernel
theorem dX11_makeNumbers_48 : decode cX11_makeNumbers 48 = .ok (.iload_n 2, 1) := by decide +kernel
theorem dX11_makeNumbers_49 : decode cX11_makeNumbers 49 = .ok (.sipush 256, 3) := by decide +kernel
theorem dX11_makeNumbers_52 : decode cX11_makeNumbers 52 = .ok (.if_icmp .ge 36, 3) := by decide +kernel
theorem dX11_makeNumbers_55 : decode cX11_makeNumbers 55 = .ok (.iload_n 2, 1) := by decide +kernel
theorem dX11_makeNumbers_56 : decode cX11_makeNumbers 56 = .ok (.invokestatic 162, 3) := by decide +kernel
theorem dX11_makeNumbers_59 : decode cX11_makeNumbers 59 = .ok (.iconst 4, 1) := by decide +kernel
theorem dX11_makeNumbers_60 : decode cX11_makeNumbers 60 = .ok (.if_icmp .ne 22, 3) := by decide +kernel
theorem dX11_makeNumbers_63 : decode cX11_makeNumbers 63 = .ok (.aload_n 0, 1) := by decide +kernel
theorem dX11_makeNumbers_64 : decode cX11_makeNumbers 64 = .ok (.getfield 80, 3) := by decide +kernel
theorem dX11_makeNumbers_67 : decode cX11_makeNumbers 67 = .ok (.iload_n 2, 1) := by decide +kernel
theorem dX11_makeNumbers_68 : decode cX11_makeNumbers 68 = .ok (.iload_n 1, 1) := by decide +kernel
theorem dX11_makeNumbers_69 : decode cX11_makeNumbers 69 = .ok (.i2s, 1) := by decide +kernel
theorem dX11_makeNumbers_70 : decode cX11_makeNumbers 70 = .ok (.sastore, 1) := by decide +kernel
theorem dX11_makeNumbers_71 : decode cX11_makeNumbers 71 = .ok (.aload_n 0, 1) := by decide +kernel
theorem dX11_makeNumbers_72 : decode cX11_makeNumbers 72 = .ok (.getfield 83, 3) := by decide +kernel
theorem dX11_makeNumbers_75 : decode cX11_makeNumbers 75 = .ok (.iload_n 1, 1) := by decide +kernel
theorem dX11_makeNumbers_76 : decode cX11_makeNumbers 76 = .ok (.iload_n 2, 1) := by decide +kernel
theorem dX11_makeNumbers_77 : decode cX11_makeNumbers 77 = .ok (.i2s, 1) := by decide +kernel
theorem dX11_makeNumbers_78 : decode cX11_makeNumbers 78 = .ok (.sastore, 1) := by decide +kernel
theorem dX11_makeNumbers_79 : decode cX11_makeNumbers 79 = .ok (.iinc 1 1, 3) := by decide +kernel
theorem dX11_makeNumbers_82 : decode cX11_makeNumbers 82 = .ok (.iinc 2 1, 3) := by decide +kernel
theorem dX11_makeNumbers_85 : decode cX11_makeNumbers 85 = .ok (.goto (-37), 3) := by decide +kernel
theorem dX11_makeNumbers_88 : decode cX11_makeNumbers 88 = .ok (.return_, 1) := by decide +kernel
set_option maxRecDepth 20000 in
theorem ggX11_makeSecond_X11_maskBy : GoodIn wsX11_makeSecond wsX11_maskBy := goodIn_r _ [14, 15, 23, 24, 25, 26, 27, 28, 29, 30, 31, 32, 33, 34, 35, 36, 37, 38, 39, 40, 41, 42, 43, 44, 45, 46, 47, 48, 49, 50, 51, 52, 53, 54, 55, 56, 57, 58, 59, 60] (by decide +kernel) (by decide +kernel)
set_option maxRecDepth 20000 in
theorem gX11_makeSecond_X11_maskBy : GoodIn wsX11_makeSecond (wsV RX11 166 RX11 yX11_maskBy wsX11_maskBy) := goodIn_app (goodIn_of _ (by decide +kernel)) ggX11_makeSecond_X11_maskBy
set_option maxRecDepth 20000 in
theorem ggX11_makeSecond_X11_spread2 : GoodIn wsX11_makeSecond wsX11_spread2 := goodIn_r _ [19, 4, 5, 9, 20, 21, 13, 22, 23, 24, 25, 26, 27, 28, 29, 30, 31, 32, 33, 34, 35, 36, 37, 38, 39, 40, 41, 42, 43, 44, 45, 46, 47, 48, 49, 50, 51, 52, 53, 54, 55, 56, 57, 58, 59, 60] (by decide +kernel) (by decide +kernel)
set_option maxRecDepth 20000 in
theorem gX11_makeSecond_X11_spread2 : GoodIn wsX11_makeSecond (wsV RX11 170 RX11 yX11_spread2 wsX11_spread2) := goodIn_app (goodIn_of _ (by decide +kernel)) ggX11_makeSecond_X11_spread2
theorem dX11_makeSecond_0 : decode cX11_makeSecond 0 = .ok (.iconst 0, 1) := by decide +kernel
theorem dX11_makeSecond_1 : decode cX11_makeSecond 1 = .ok (.istore_n 1, 1) := by decide +kernel
theorem dX11_makeSecond_2 : decode cX11_makeSecond 2 = .ok (.iload_n 1, 1) := by decide +kernel
theorem dX11_makeSecond_3 : decode cX11_makeSecond 3 = .ok (.sipush 2187, 3) := by decide +kernel
theorem dX11_makeSecond_6 : decode cX11_makeSecond 6 = .ok (.if_icmp .ge 155, 3) := by decide +kernel
theorem dX11_makeSecond_9 : decode cX11_makeSecond 9 = .ok (.iload_n 1, 1) := by decide +kernel
theorem dX11_makeSecond_10 : decode cX11_makeSecond 10 = .ok (.istore_n 2, 1) := by decide +kernel
theorem dX11_makeSecond_11 : decode cX11_makeSecond 11 = .ok (.iconst 0, 1) := by decide +kernel
theorem dX11_makeSecond_12 : decode cX11_makeSecond 12 = .ok (.istore_n 3, 1) := by decide +kernel
theorem dX11_makeSecond_13 : decode cX11_makeSecond 13 = .ok (.iconst 0, 1) := by decide +kernel
theorem dX11_makeSecond_14 : decode cX11_makeSecond 14 = .ok (.istore 4, 2) := by decide +kernel
theorem dX11_makeSecond_16 : decode cX11_makeSecond 16 = .ok (.iload 4, 2) := by decide +kernel
theorem dX11_makeSecond_18 : decode cX11_makeSecond 18 = .ok (.bipush 7, 2) := by decide +kernel
theorem dX11_makeSecond_20 : decode cX11_makeSecond 20 = .ok (.if_icmp .ge 33, 3) := by decide +kernel
theorem dX11_makeSecond_23 : decode cX11_makeSecond 23 = .ok (.aload_n 0, 1) := by decide +kernel
theorem dX11_makeSecond_24 : decode cX11_makeSecond 24 = .ok (.getfield 112, 3) := by decide +kernel
theorem dX11_makeSecond_27 : decode cX11_makeSecond 27 = .ok (.iload 4, 2) := by decide +kernel
theorem dX11_makeSecond_29 : decode cX11_makeSecond 29 = .ok (.iload_n 2, 1) := by decide +kernel
theorem dX11_makeSecond_30 : decode cX11_makeSecond 30 = .ok (.iconst 3, 1) := by decide +kernel
theorem dX11_makeSecond_31 : decode cX11_makeSecond 31 = .ok (.irem, 1) := by decide +kernel
theorem dX11_makeSecond_32 : decode cX11_makeSecond 32 = .ok (.iastore, 1) := by decide +kernel
theorem dX11_makeSecond_33 : decode cX11_makeSecond 33 = .ok (.iload_n 3, 1) := by decide +kernel
theorem dX11_makeSecond_34 : decode cX11_makeSecond 34 = .ok (.aload_n 0, 1) := by decide +kernel
theorem dX11_makeSecond_35 : decode cX11_makeSecond 35 = .ok (.getfield 112, 3) := by decide +kernel
theorem dX11_makeSecond_38 : decode cX11_makeSecond 38 = .ok (.iload 4, 2) := by decide +kernel
theorem dX11_makeSecond_40 : decode cX11_makeSecond 40 = .ok (.iaload, 1) := by decide +kernel
theorem dX11_makeSecond_41 : decode cX11_makeSecond 41 = .ok (.iadd, 1) := by decide +kernel
theorem dX11_makeSecond_42 : decode cX11_makeSecond 42 = .ok (.istore_n 3, 1) := by decide +kernel
theorem dX11_makeSecond_43 : decode cX11_makeSecond 43 = .ok (.iload_n 2, 1) := by decide +kernel
theorem dX11_makeSecond_44 : decode cX11_makeSecond 44 = .ok (.iconst 3, 1) := by decide +kernel
theorem dX11_makeSecond_45 : decode cX11_makeSecond 45 = .ok (.idiv, 1) := by decide +kernel
theorem dX11_makeSecond_46 : decode cX11_makeSecond 46 = .ok (.istore_n 2, 1) := by decide +kernel
theorem dX11_makeSecond_47 : decode cX11_makeSecond 47 = .ok (.iinc 4 1, 3) := by decide +kernel
theorem dX11_makeSecond_50 : decode cX11_makeSecond 50 = .ok (.goto (-34), 3) := by decide +kernel
theorem dX11_makeSecond_53 : decode cX11_makeSecond 53 = .ok (.aload_n 0, 1) := by decide +kernel
theorem dX11_makeSecond_54 : decode cX11_makeSecond 54 = .ok (.getfield 112, 3) := by decide +kernel
theorem dX11_makeSecond_57 : decode cX11_makeSecond 57 = .ok (.bipush 7, 2) := by decide +kernel
theorem dX11_makeSecond_59 : decode cX11_makeSecond 59 = .ok (.bipush 24, 2) := by decide +kernel
theorem dX11_makeSecond_61 : decode cX11_makeSecond 61 = .ok (.iload_n 3, 1) := by decide +kernel
theorem dX11_makeSecond_62 : decode cX11_makeSecond 62 = .ok (.isub, 1) := by decide +kernel
theorem dX11_makeSecond_63 : decode cX11_makeSecond 63 = .ok (.iconst 3, 1) := by decide +kernel
theorem dX11_makeSecond_64 : decode cX11_makeSecond 64 = .ok (.irem, 1) := by decide +kernel
theorem dX11_makeSecond_65 : decode cX11_makeSecond 65 = .ok (.iastore, 1) := by decide +kernel
theorem dX11_makeSecond_66 : decode cX11_makeSecond 66 = .ok (.iconst 0, 1) := by decide +kernel
theorem dX11_makeSecond_67 : decode cX11_makeSecond 67 = .ok (.istore 4, 2) := by decide +kernel
theorem dX11_makeSecond_69 : decode cX11_makeSecond 69 = .ok (.iload 4, 2) := by decide +kernel
theorem dX11_makeSecond_71 : decode cX11_makeSecond 71 = .ok (.bipush 18, 2) := by decide +kernel
theorem dX11_makeSecond_73 : decode cX11_makeSecond 73 = .ok (.if_icmp .ge 82, 3) := by decide +kernel
theorem dX11_makeSecond_76 : decode cX11_makeSecond 76 = .ok (.iconst 0, 1) := by decide +kernel
theorem dX11_makeSecond_77 : decode cX11_makeSecond 77 = .ok (.istore 5, 2) := by decide +kernel
theorem dX11_makeSecond_79 : decode cX11_makeSecond 79 = .ok (.bipush 6, 2) := by decide +kernel
theorem dX11_makeSecond_81 : decode cX11_makeSecond 81 = .ok (.istore 6, 2) := by decide +kernel
theorem dX11_makeSecond_83 : decode cX11_makeSecond 83 = .ok (.iload 6, 2) := by decide +kernel
theorem dX11_makeSecond_85 : decode cX11_makeSecond 85 = .ok (.ifCond .lt 50, 3) := by decide +kernel
theorem dX11_makeSecond_88 : decode cX11_makeSecond 88 = .ok (.iconst 3, 1) := by decide +kernel
theorem dX11_makeSecond_89 : decode cX11_makeSecond 89 = .ok (.iload 5, 2) := by decide +kernel
theorem dX11_makeSecond_91 : decode cX11_makeSecond 91 = .ok (.imul, 1) := by decide +kernel
theorem dX11_makeSecond_92 : decode cX11_makeSecond 92 = .ok (.aload_n 0, 1) := by decide +kernel
theorem dX11_makeSecond_93 : decode cX11_makeSecond 93 = .ok (.getfield 112, 3) := by decide +kernel
theorem dX11_makeSecond_96 : decode cX11_makeSecond 96 = .ok (.aload_n 0, 1) := by decide +kernel
theorem dX11_makeSecond_97 : decode cX11_makeSecond 97 = .ok (.getfield 40, 3) := by decide +kernel
theorem dX11_makeSecond_100 : decode cX11_makeSecond 100 = .ok (.bipush 8, 2) := by decide +kernel
theorem dX11_makeSecond_102 : decode cX11_makeSecond 102 = .ok (.iload 4, 2) := by decide +kernel
theorem dX11_makeSecond_104 : decode cX11_makeSecond 104 = .ok (.imul, 1) := by decide +kernel
theorem dX11_makeSecond_105 : decode cX11_makeSecond 105 = .ok (.iload 6, 2) := by decide +kernel
theorem dX11_makeSecond_107 : decode cX11_makeSecond 107 = .ok (.iadd, 1) := by decide +kernel
theorem dX11_makeSecond_108 : decode cX11_makeSecond 108 = .ok (.iaload, 1) := by decide +kernel
theorem dX11_makeSecond_109 : decode cX11_makeSecond 109 = .ok (.iaload, 1) := by decide +kernel
theorem dX11_makeSecond_110 : decode cX11_makeSecond 110 = .ok (.aload_n 0, 1) := by decide +kernel
theorem dX11_makeSecond_111 : decode cX11_makeSecond 111 = .ok (.getfield 43, 3) := by decide +kernel
theorem dX11_makeSecond_114 : decode cX11_makeSecond 114 = .ok (.bipush 8, 2) := by decide +kernel
theorem dX11_makeSecond_116 : decode cX11_makeSecond 116 = .ok (.iload 4, 2) := by decide +kernel
theorem dX11_makeSecond_118 : decode cX11_makeSecond 118 = .ok (.imul, 1) := by decide +kernel
theorem dX11_makeSecond_119 : decode cX11_makeSecond 119 = .ok (.iload 6, 2) := by decide +kernel
theorem dX11_makeSecond_121 : decode cX11_makeSecond 121 = .ok (.iadd, 1) := by decide +kernel
theorem dX11_makeSecond_122 : decode cX11_makeSecond 122 = .ok (.iaload, 1) := by decide +kernel
theorem dX11_makeSecond_123 : decode cX11_makeSecond 123 = .ok (.iadd, 1) := by decide +kernel
theorem dX11_makeSecond_124 : decode cX11_makeSecond 124 = .ok (.iconst 3, 1) := by decide +kernel
theorem dX11_makeSecond_125 : decode cX11_makeSecond 125 = .ok (.irem, 1) := by decide +kernel
theorem dX11_makeSecond_126 : decode cX11_makeSecond 126 = .ok (.iadd, 1) := by decide +kernel
theorem dX11_makeSecond_127 : decode cX11_makeSecond 127 = .ok (.istore 5, 2) := by decide +kernel
theorem dX11_makeSecond_129 : decode cX11_makeSecond 129 = .ok (.iinc 6 (-1), 3) := by decide +kernel
theorem dX11_makeSecond_132 : decode cX11_makeSecond 132 = .ok (.goto (-49), 3) := by decide +kernel
theorem dX11_makeSecond_135 : decode cX11_makeSecond 135 = .ok (.aload_n 0, 1) := by decide +kernel
theorem dX11_makeSecond_136 : decode cX11_makeSecond 136 = .ok (.getfield 100, 3) := by decide +kernel
theorem dX11_makeSecond_139 : decode cX11_makeSecond 139 = .ok (.bipush 18, 2) := by decide +kernel
theorem dX11_makeSecond_141 : decode cX11_makeSecond 141 = .ok (.iload_n 1, 1) := by decide +kernel
theorem dX11_makeSecond_142 : decode cX11_makeSecond 142 = .ok (.imul, 1) := by decide +kernel
theorem dX11_makeSecond_143 : decode cX11_makeSecond 143 = .ok (.iload 4, 2) := by decide +kernel
theorem dX11_makeSecond_145 : decode cX11_makeSecond 145 = .ok (.iadd, 1) := by decide +kernel
theorem dX11_makeSecond_146 : decode cX11_makeSecond 146 = .ok (.iload 5, 2) := by decide +kernel
theorem dX11_makeSecond_148 : decode cX11_makeSecond 148 = .ok (.iastore, 1) := by decide +kernel
theorem dX11_makeSecond_149 : decode cX11_makeSecond 149 = .ok (.iinc 4 1, 3) := by decide +kernel
theorem dX11_makeSecond_152 : decode cX11_makeSecond 152 = .ok (.goto (-83), 3) := by decide +kernel
theorem dX11_makeSecond_155 : decode cX11_makeSecond 155 = .ok (.iinc 1 1, 3) := by decide +kernel
theorem dX11_makeSecond_158 : decode cX11_makeSecond 158 = .ok (.goto (-156), 3) := by decide +kernel
theorem dX11_makeSecond_161 : decode cX11_makeSecond 161 = .ok (.iconst 0, 1) := by decide +kernel
theorem dX11_makeSecond_162 : decode cX11_makeSecond 162 = .ok (.istore_n 1, 1) := by decide +kernel
theorem dX11_makeSecond_163 : decode cX11_makeSecond 163 = .ok (.iload_n 1, 1) := by decide +kernel
theorem dX11_makeSecond_164 : decode cX11_makeSecond 164 = .ok (.sipush 495, 3) := by decide +kernel
theorem dX11_makeSecond_167 : decode cX11_makeSecond 167 = .ok (.if_icmp .ge 52, 3) := by decide +kernel
theorem dX11_makeSecond_170 : decode cX11_makeSecond 170 = .ok (.iconst 0, 1) := by decide +kernel
theorem dX11_makeSecond_171 : decode cX11_makeSecond 171 = .ok (.istore_n 2, 1) := by decide +kernel
theorem dX11_makeSecond_172 : decode cX11_makeSecond 172 = .ok (.iload_n 2, 1) := by decide +kernel
theorem dX11_makeSecond_173 : decode cX11_makeSecond 173 = .ok (.bipush 18, 2) := by decide +kernel
theorem dX11_makeSecond_175 : decode cX11_makeSecond 175 = .ok (.if_icmp .ge 38, 3) := by decide +kernel
theorem dX11_makeSecond_178 : decode cX11_makeSecond 178 = .ok (.aload_n 0, 1) := by decide +kernel
theorem dX11_makeSecond_179 : decode cX11_makeSecond 179 = .ok (.getfield 103, 3) := by decide +kernel
theorem dX11_makeSecond_182 : decode cX11_makeSecond 182 = .ok (.bipush 18, 2) := by decide +kernel
theorem dX11_makeSecond_184 : decode cX11_makeSecond 184 = .ok (.iload_n 1, 1) := by decide +kernel
theorem dX11_makeSecond_185 : decode cX11_makeSecond 185 = .ok (.imul, 1) := by decide +kernel
theorem dX11_makeSecond_186 : decode cX11_makeSecond 186 = .ok (.iload_n 2, 1) := by decide +kernel
theorem dX11_makeSecond_187 : decode cX11_makeSecond 187 = .ok (.iadd, 1) := by decide +kernel
theorem dX11_makeSecond_188 : decode cX11_makeSecond 188 = .ok (.aload_n 0, 1) := by decide +kernel
theorem dX11_makeSecond_189 : decode cX11_makeSecond 189 = .ok (.getfield 73, 3) := by decide +kernel
theorem dX11_makeSecond_192 : decode cX11_makeSecond 192 = .ok (.aload_n 0, 1) := by decide +kernel
theorem dX11_makeSecond_193 : decode cX11_makeSecond 193 = .ok (.aload_n 0, 1) := by decide +kernel
theorem dX11_makeSecond_194 : decode cX11_makeSecond 194 = .ok (.getfield 77, 3) := by decide +kernel
theorem dX11_makeSecond_197 : decode cX11_makeSecond 197 = .ok (.iload_n 1, 1) := by decide +kernel
theorem dX11_makeSecond_198 : decode cX11_makeSecond 198 = .ok (.saload, 1) := by decide +kernel
theorem dX11_makeSecond_199 : decode cX11_makeSecond 199 = .ok (.iload_n 2, 1) := by decide +kernel
theorem dX11_makeSecond_200 : decode cX11_makeSecond 200 = .ok (.bipush 12, 2) := by decide +kernel
theorem dX11_makeSecond_202 : decode cX11_makeSecond 202 = .ok (.invokevirtual 166, 3) := by decide +kernel
theorem dX11_makeSecond_205 : decode cX11_makeSecond 205 = .ok (.saload, 1) := by decide +kernel
theorem dX11_makeSecond_206 : decode cX11_makeSecond 206 = .ok (.iastore, 1) := by decide +kernel
theorem dX11_makeSecond_207 : decode cX11_makeSecond 207 = .ok (.iinc 2 1, 3) := by decide +kernel
theorem dX11_makeSecond_210 : decode cX11_makeSecond 210 = .ok (.goto (-38), 3) := by decide +kernel
theorem dX11_makeSecond_213 : decode cX11_makeSecond 213 = .ok (.iinc 1 1, 3) := by decide +kernel
theorem dX11_makeSecond_216 : decode cX11_makeSecond 216 = .ok (.goto (-53), 3) := by decide +kernel
theorem dX11_makeSecond_219 : decode cX11_makeSecond 219 = .ok (.ldc 62, 2) := by decide +kernel
theorem dX11_makeSecond_221 : decode cX11_makeSecond 221 = .ok (.istore_n 1, 1) := by decide +kernel
theorem dX11_makeSecond_222 : decode cX11_makeSecond 222 = .ok (.iconst 0, 1) := by decide +kernel
theorem dX11_makeSecond_223 : decode cX11_makeSecond 223 = .ok (.istore_n 2, 1) := by decide +kernel
theorem dX11_makeSecond_224 : decode cX11_makeSecond 224 = .ok (.iload_n 2, 1) := by decide +kernel
theorem dX11_makeSecond_225 : decode cX11_makeSecond 225 = .ok (.iload_n 1, 1) := by decide +kernel
theorem dX11_makeSecond_226 : decode cX11_makeSecond 226 = .ok (.if_icmp .ge 17, 3) := by decide +kernel
theorem dX11_makeSecond_229 : decode cX11_makeSecond 229 = .ok (.aload_n 0, 1) := by decide +kernel
theorem dX11_makeSecond_230 : decode cX11_makeSecond 230 = .ok (.getfield 63, 3) := by decide +kernel
theorem dX11_makeSecond_233 : decode cX11_makeSecond 233 = .ok (.iload_n 2, 1) := by decide +kernel
theorem dX11_makeSecond_234 : decode cX11_makeSecond 234 = .ok (.bipush 100, 2) := by decide +kernel
theorem dX11_makeSecond_236 : decode cX11_makeSecond 236 = .ok (.bastore, 1) := by decide +kernel
theorem dX11_makeSecond_237 : decode cX11_makeSecond 237 = .ok (.iinc 2 1, 3) := by decide +kernel
theorem dX11_makeSecond_240 : decode cX11_makeSecond 240 = .ok (.goto (-16), 3) := by decide +kernel
theorem dX11_makeSecond_243 : decode cX11_makeSecond 243 = .ok (.aload_n 0, 1) := by decide +kernel
theorem dX11_makeSecond_244 : decode cX11_makeSecond 244 = .ok (.getfield 63, 3) := by decide +kernel
theorem dX11_makeSecond_247 : decode cX11_makeSecond 247 = .ok (.aload_n 0, 1) := by decide +kernel
theorem dX11_makeSecond_248 : decode cX11_makeSecond 248 = .ok (.getfield 73, 3) := by decide +kernel
theorem dX11_makeSecond_251 : decode cX11_makeSecond 251 = .ok (.sipush 3840, 3) := by decide +kernel
theorem dX11_makeSecond_254 : decode cX11_makeSecond 254 = .ok (.saload, 1) := by decide +kernel
theorem dX11_makeSecond_255 : decode cX11_makeSecond 255 = .ok (.iconst 0, 1) := by decide +kernel
theorem dX11_makeSecond_256 : decode cX11_makeSecond 256 = .ok (.bastore, 1) := by decide +kernel
theorem dX11_makeSecond_257 : decode cX11_makeSecond 257 = .ok (.iconst 1, 1) := by decide +kernel
theorem dX11_makeSecond_258 : decode cX11_makeSecond 258 = .ok (.istore_n 2, 1) := by decide +kernel
theorem dX11_makeSecond_259 : decode cX11_makeSecond 259 = .ok (.iconst 0, 1) := by decide +kernel
theorem dX11_makeSecond_260 : decode cX11_makeSecond 260 = .ok (.istore_n 3, 1) := by decide +kernel
theorem dX11_makeSecond_261 : decode cX11_makeSecond 261 = .ok (.iload_n 2, 1) := by decide +kernel
theorem dX11_makeSecond_262 : decode cX11_makeSecond 262 = .ok (.ifCond .eq 57, 3) := by decide +kernel
theorem dX11_makeSecond_265 : decode cX11_makeSecond 265 = .ok (.iconst 0, 1) := by decide +kernel
theorem dX11_makeSecond_266 : decode cX11_makeSecond 266 = .ok (.istore_n 2, 1) := by decide +kernel
theorem dX11_makeSecond_267 : decode cX11_makeSecond 267 = .ok (.iconst 0, 1) := by decide +kernel
theorem dX11_makeSecond_268 : decode cX11_makeSecond 268 = .ok (.istore 4, 2) := by decide +kernel
theorem dX11_makeSecond_270 : decode cX11_makeSecond 270 = .ok (.iload 4, 2) := by decide +kernel
theorem dX11_makeSecond_272 : decode cX11_makeSecond 272 = .ok (.iload_n 1, 1) := by decide +kernel
theorem dX11_makeSecond_273 : decode cX11_makeSecond 273 = .ok (.if_icmp .ge 40, 3) := by decide +kernel
theorem dX11_makeSecond_276 : decode cX11_makeSecond 276 = .ok (.aload_n 0, 1) := by decide +kernel
theorem dX11_makeSecond_277 : decode cX11_makeSecond 277 = .ok (.getfield 63, 3) := by decide +kernel
theorem dX11_makeSecond_280 : decode cX11_makeSecond 280 = .ok (.iload 4, 2) := by decide +kernel
theorem dX11_makeSecond_282 : decode cX11_makeSecond 282 = .ok (.baload, 1) := by decide +kernel
theorem dX11_makeSecond_283 : decode cX11_makeSecond 283 = .ok (.iload_n 3, 1) := by decide +kernel
theorem dX11_makeSecond_284 : decode cX11_makeSecond 284 = .ok (.if_icmp .ne 23, 3) := by decide +kernel
theorem dX11_makeSecond_287 : decode cX11_makeSecond 287 = .ok (.aload_n 0, 1) := by decide +kernel
theorem dX11_makeSecond_288 : decode cX11_makeSecond 288 = .ok (.iload 4, 2) := by decide +kernel
theorem dX11_makeSecond_290 : decode cX11_makeSecond 290 = .ok (.iload_n 3, 1) := by decide +kernel
theorem dX11_makeSecond_291 : decode cX11_makeSecond 291 = .ok (.invokevirtual 170, 3) := by decide +kernel
theorem dX11_makeSecond_294 : decode cX11_makeSecond 294 = .ok (.ifCond .ne 7, 3) := by decide +kernel
theorem dX11_makeSecond_297 : decode cX11_makeSecond 297 = .ok (.iload_n 2, 1) := by decide +kernel
theorem dX11_makeSecond_298 : decode cX11_makeSecond 298 = .ok (.ifCond .eq 7, 3) := by decide +kernel
theorem dX11_makeSecond_301 : decode cX11_makeSecond 301 = .ok (.iconst 1, 1) := by decide +kernel
theorem dX11_makeSecond_302 : decode cX11_makeSecond 302 = .ok (.goto 4, 3) := by decide +kernel
theorem dX11_makeSecond_305 : decode cX11_makeSecond 305 = .ok (.iconst 0, 1) := by decide +kernel
theorem dX11_makeSecond_306 : decode cX11_makeSecond 306 = .ok (.istore_n 2, 1) := by decide +kernel
theorem dX11_makeSecond_307 : decode cX11_makeSecond 307 = .ok (.iinc 4 1, 3) := by decide +kernel
theorem dX11_makeSecond_310 : decode cX11_makeSecond 310 = .ok (.goto (-40), 3) := by decide +kernel
theorem dX11_makeSecond_313 : decode cX11_makeSecond 313 = .ok (.iinc 3 1, 3) := by decide +kernel
theorem dX11_makeSecond_316 : decode cX11_makeSecond 316 = .ok (.goto (-55), 3) := by decide +kernel
theorem dX11_makeSecond_319 : decode cX11_makeSecond 319 = .ok (.return_, 1) := by decide +kernel
set_option maxRecDepth 20000 in
theorem ggX11_spread2_X11_may : GoodIn wsX11_spread2 wsX11_may := goodIn_r _ [7] (by decide +kernel) (by decide +kernel)
set_option maxRecDepth 20000 in
theorem gX11_spread2_X11_may : GoodIn wsX11_spread2 (va_wsS RX11 174 yX11_may wsX11_may) := goodIn_app (goodIn_of _ (by decide +kernel)) ggX11_spread2_X11_may
theorem dX11_spread2_0 : decode cX11_spread2 0 = .ok (.iconst 0, 1) := by decide +kernel
theorem dX11_spread2_1 : decode cX11_spread2 1 = .ok (.istore_n 3, 1) := by decide +kernel
theorem dX11_spread2_2 : decode cX11_spread2 2 = .ok (.iconst 0, 1) := by decide +kernel
theorem dX11_spread2_3 : decode cX11_spread2 3 = .ok (.istore 4, 2) := by decide +kernel
theorem dX11_spread2_5 : decode cX11_spread2 5 = .ok (.iload 4, 2) := by decide +kernel
theorem dX11_spread2_7 : decode cX11_spread2 7 = .ok (.bipush 18, 2) := by decide +kernel
theorem dX11_spread2_9 : decode cX11_spread2 9 = .ok (.if_icmp .ge 82, 3) := by decide +kernel
theorem dX11_spread2_12 : decode cX11_spread2 12 = .ok (.sipush 495, 3) := by decide +kernel
theorem dX11_spread2_15 : decode cX11_spread2 15 = .ok (.aload_n 0, 1) := by decide +kernel
theorem dX11_spread2_16 : decode cX11_spread2 16 = .ok (.getfield 100, 3) := by decide +kernel
theorem dX11_spread2_19 : decode cX11_spread2 19 = .ok (.bipush 18, 2) := by decide +kernel
theorem dX11_spread2_21 : decode cX11_spread2 21 = .ok (.iload_n 1, 1) := by decide +kernel
theorem dX11_spread2_22 : decode cX11_spread2 22 = .ok (.sipush 495, 3) := by decide +kernel
theorem dX11_spread2_25 : decode cX11_spread2 25 = .ok (.idiv, 1) := by decide +kernel
theorem dX11_spread2_26 : decode cX11_spread2 26 = .ok (.imul, 1) := by decide +kernel
theorem dX11_spread2_27 : decode cX11_spread2 27 = .ok (.iload 4, 2) := by decide +kernel
theorem dX11_spread2_29 : decode cX11_spread2 29 = .ok (.iadd, 1) := by decide +kernel
theorem dX11_spread2_30 : decode cX11_spread2 30 = .ok (.iaload, 1) := by decide +kernel
theorem dX11_spread2_31 : decode cX11_spread2 31 = .ok (.imul, 1) := by decide +kernel
theorem dX11_spread2_32 : decode cX11_spread2 32 = .ok (.aload_n 0, 1) := by decide +kernel
theorem dX11_spread2_33 : decode cX11_spread2 33 = .ok (.getfield 103, 3) := by decide +kernel
theorem dX11_spread2_36 : decode cX11_spread2 36 = .ok (.bipush 18, 2) := by decide +kernel
theorem dX11_spread2_38 : decode cX11_spread2 38 = .ok (.iload_n 1, 1) := by decide +kernel
theorem dX11_spread2_39 : decode cX11_spread2 39 = .ok (.sipush 495, 3) := by decide +kernel
theorem dX11_spread2_42 : decode cX11_spread2 42 = .ok (.irem, 1) := by decide +kernel
theorem dX11_spread2_43 : decode cX11_spread2 43 = .ok (.imul, 1) := by decide +kernel
theorem dX11_spread2_44 : decode cX11_spread2 44 = .ok (.iload 4, 2) := by decide +kernel
theorem dX11_spread2_46 : decode cX11_spread2 46 = .ok (.iadd, 1) := by decide +kernel
theorem dX11_spread2_47 : decode cX11_spread2 47 = .ok (.iaload, 1) := by decide +kernel
theorem dX11_spread2_48 : decode cX11_spread2 48 = .ok (.iadd, 1) := by decide +kernel
theorem dX11_spread2_49 : decode cX11_spread2 49 = .ok (.istore 5, 2) := by decide +kernel
theorem dX11_spread2_51 : decode cX11_spread2 51 = .ok (.iconst 1, 1) := by decide +kernel
theorem dX11_spread2_52 : decode cX11_spread2 52 = .ok (.iload 4, 2) := by decide +kernel
theorem dX11_spread2_54 : decode cX11_spread2 54 = .ok (.invokestatic 174, 3) := by decide +kernel
theorem dX11_spread2_57 : decode cX11_spread2 57 = .ok (.ifCond .eq 28, 3) := by decide +kernel
theorem dX11_spread2_60 : decode cX11_spread2 60 = .ok (.aload_n 0, 1) := by decide +kernel
theorem dX11_spread2_61 : decode cX11_spread2 61 = .ok (.getfield 63, 3) := by decide +kernel
theorem dX11_spread2_64 : decode cX11_spread2 64 = .ok (.iload 5, 2) := by decide +kernel
theorem dX11_spread2_66 : decode cX11_spread2 66 = .ok (.baload, 1) := by decide +kernel
theorem dX11_spread2_67 : decode cX11_spread2 67 = .ok (.bipush 100, 2) := by decide +kernel
theorem dX11_spread2_69 : decode cX11_spread2 69 = .ok (.if_icmp .ne 16, 3) := by decide +kernel
theorem dX11_spread2_72 : decode cX11_spread2 72 = .ok (.aload_n 0, 1) := by decide +kernel
theorem dX11_spread2_73 : decode cX11_spread2 73 = .ok (.getfield 63, 3) := by decide +kernel
theorem dX11_spread2_76 : decode cX11_spread2 76 = .ok (.iload 5, 2) := by decide +kernel
theorem dX11_spread2_78 : decode cX11_spread2 78 = .ok (.iload_n 2, 1) := by decide +kernel
theorem dX11_spread2_79 : decode cX11_spread2 79 = .ok (.iconst 1, 1) := by decide +kernel
theorem dX11_spread2_80 : decode cX11_spread2 80 = .ok (.iadd, 1) := by decide +kernel
theorem dX11_spread2_81 : decode cX11_spread2 81 = .ok (.i2b, 1) := by decide +kernel
theorem dX11_spread2_82 : decode cX11_spread2 82 = .ok (.bastore, 1) := by decide +kernel
theorem dX11_spread2_83 : decode cX11_spread2 83 = .ok (.iconst 1, 1) := by decide +kernel
theorem dX11_spread2_84 : decode cX11_spread2 84 = .ok (.istore_n 3, 1) := by decide +kernel
theorem dX11_spread2_85 : decode cX11_spread2 85 = .ok (.iinc 4 1, 3) := by decide +kernel
theorem dX11_spread2_88 : decode cX11_spread2 88 = .ok (.goto (-83), 3) := by decide +kernel
theorem dX11_spread2_91 : decode cX11_spread2 91 = .ok (.iload_n 3, 1) := by decide +kernel
theorem dX11_spread2_92 : decode cX11_spread2 92 = .ok (.ireturn, 1) := by decide +kernel
set_option maxRecDepth 20000 in
theorem ggX11_makeKinds_X11_unrank : GoodIn wsX11_makeKinds wsX11_unrank := goodIn_r _ [10, 11, 27, 28, 29, 30, 31, 32, 33, 34, 35, 36, 37, 38, 39, 40, 41, 42, 43, 44, 45, 46, 47, 48, 49, 50, 51, 52, 53, 54, 55, 56, 57, 58, 59, 60, 61, 62, 63, 64] (by decide +kernel) (by decide +kernel)
set_option maxRecDepth 20000 in
theorem gX11_makeKinds_X11_unrank : GoodIn wsX11_makeKinds (wsV RX11 177 RX11 yX11_unrank wsX11_unrank) := goodIn_app (goodIn_of _ (by decide +kernel)) ggX11_makeKinds_X11_unrank
set_option maxRecDepth 20000 in
theorem ggX11_makeKinds_X11_turnRow : GoodIn wsX11_makeKinds wsX11_turnRow := goodIn_r _ [15, 16, 11, 17, 27, 28, 29, 30, 31, 32, 33, 34, 35, 36, 37, 38, 39, 40, 41, 42, 43, 44, 45, 46, 47, 48, 49, 50, 51, 52, 53, 54, 55, 56, 57, 58, 59, 60, 61, 62, 63, 64] (by decide +kernel) (by decide +kernel)
set_option maxRecDepth 20000 in
theorem gX11_makeKinds_X11_turnRow : GoodIn wsX11_makeKinds (wsV RX11 181 RX11 yX11_turnRow wsX11_turnRow) := goodIn_app (goodIn_of _ (by decide +kernel)) ggX11_makeKinds_X11_turnRow
set_option maxRecDepth 20000 in
theorem ggX11_makeKinds_X11_rank : GoodIn wsX11_makeKinds wsX11_rank := goodIn_r _ [21, 11, 27, 28, 29, 30, 31, 32, 33, 34, 35, 36, 37, 38, 39, 40, 41, 42, 43, 44, 45, 46, 47, 48, 49, 50, 51, 52, 53, 54, 55, 56, 57, 58, 59, 60, 61, 62, 63, 64] (by decide +kernel) (by decide +kernel)
set_option maxRecDepth 20000 in
theorem gX11_makeKinds_X11_rank : GoodIn wsX11_makeKinds (wsV RX11 184 RX11 yX11_rank wsX11_rank) := goodIn_app (goodIn_of _ (by decide +kernel)) ggX11_makeKinds_X11_rank
set_option maxRecDepth 20000 in
theorem ggX11_makeKinds_X11_nameKind : GoodIn wsX11_makeKinds wsX11_nameKind := goodIn_r _ [25, 26, 11, 4, 16, 3, 6, 7, 8, 9, 10, 18, 19, 20, 21, 27, 28, 29, 30, 31, 32, 33, 34, 35, 36, 37, 38, 39, 40, 41, 42, 43, 44, 45, 46, 47, 48, 49, 50, 51, 52, 53, 54, 55, 56, 57, 58, 59, 60, 61, 62, 63, 64] (by decide +kernel) (by decide +kernel)
set_option maxRecDepth 20000 in
theorem gX11_makeKinds_X11_nameKind : GoodIn wsX11_makeKinds (wsV RX11 187 RX11 yX11_nameKind wsX11_nameKind) := goodIn_app (goodIn_of _ (by decide +kernel)) ggX11_makeKinds_X11_nameKind
theorem dX11_makeKinds_0 : decode cX11_makeKinds 0 = .ok (.iconst 0, 1) := by decide +kernel
theorem dX11_makeKinds_1 : decode cX11_makeKinds 1 = .ok (.istore_n 1, 1) := by decide +kernel
theorem dX11_makeKinds_2 : decode cX11_makeKinds 2 = .ok (.iload_n 1, 1) := by decide +kernel
theorem dX11_makeKinds_3 : decode cX11_makeKinds 3 = .ok (.ldc 86, 2) := by decide +kernel
theorem dX11_makeKinds_5 : decode cX11_makeKinds 5 = .ok (.if_icmp .ge 23, 3) := by decide +kernel
theorem dX11_makeKinds_8 : decode cX11_makeKinds 8 = .ok (.aload_n 0, 1) := by decide +kernel
theorem dX11_makeKinds_9 : decode cX11_makeKinds 9 = .ok (.getfield 93, 3) := by decide +kernel
theorem dX11_makeKinds_12 : decode cX11_makeKinds 12 = .ok (.iload_n 1, 1) := by decide +kernel
theorem dX11_makeKinds_13 : decode cX11_makeKinds 13 = .ok (.iconst (-1), 1) := by decide +kernel
theorem dX11_makeKinds_14 : decode cX11_makeKinds 14 = .ok (.sastore, 1) := by decide +kernel
theorem dX11_makeKinds_15 : decode cX11_makeKinds 15 = .ok (.aload_n 0, 1) := by decide +kernel
theorem dX11_makeKinds_16 : decode cX11_makeKinds 16 = .ok (.getfield 87, 3) := by decide +kernel
theorem dX11_makeKinds_19 : decode cX11_makeKinds 19 = .ok (.iload_n 1, 1) := by decide +kernel
theorem dX11_makeKinds_20 : decode cX11_makeKinds 20 = .ok (.iconst (-1), 1) := by decide +kernel
theorem dX11_makeKinds_21 : decode cX11_makeKinds 21 = .ok (.sastore, 1) := by decide +kernel
theorem dX11_makeKinds_22 : decode cX11_makeKinds 22 = .ok (.iinc 1 1, 3) := by decide +kernel
theorem dX11_makeKinds_25 : decode cX11_makeKinds 25 = .ok (.goto (-23), 3) := by decide +kernel
theorem dX11_makeKinds_28 : decode cX11_makeKinds 28 = .ok (.aload_n 0, 1) := by decide +kernel
theorem dX11_makeKinds_29 : decode cX11_makeKinds 29 = .ok (.getfield 93, 3) := by decide +kernel
theorem dX11_makeKinds_32 : decode cX11_makeKinds 32 = .ok (.iconst 0, 1) := by decide +kernel
theorem dX11_makeKinds_33 : decode cX11_makeKinds 33 = .ok (.iconst 0, 1) := by decide +kernel
theorem dX11_makeKinds_34 : decode cX11_makeKinds 34 = .ok (.sastore, 1) := by decide +kernel
theorem dX11_makeKinds_35 : decode cX11_makeKinds 35 = .ok (.aload_n 0, 1) := by decide +kernel
theorem dX11_makeKinds_36 : decode cX11_makeKinds 36 = .ok (.getfield 96, 3) := by decide +kernel
theorem dX11_makeKinds_39 : decode cX11_makeKinds 39 = .ok (.iconst 0, 1) := by decide +kernel
theorem dX11_makeKinds_40 : decode cX11_makeKinds 40 = .ok (.iconst 0, 1) := by decide +kernel
theorem dX11_makeKinds_41 : decode cX11_makeKinds 41 = .ok (.iastore, 1) := by decide +kernel
theorem dX11_makeKinds_42 : decode cX11_makeKinds 42 = .ok (.iconst 1, 1) := by decide +kernel
theorem dX11_makeKinds_43 : decode cX11_makeKinds 43 = .ok (.istore_n 1, 1) := by decide +kernel
theorem dX11_makeKinds_44 : decode cX11_makeKinds 44 = .ok (.iconst 0, 1) := by decide +kernel
theorem dX11_makeKinds_45 : decode cX11_makeKinds 45 = .ok (.istore_n 2, 1) := by decide +kernel
theorem dX11_makeKinds_46 : decode cX11_makeKinds 46 = .ok (.iload_n 2, 1) := by decide +kernel
theorem dX11_makeKinds_47 : decode cX11_makeKinds 47 = .ok (.iload_n 1, 1) := by decide +kernel
theorem dX11_makeKinds_48 : decode cX11_makeKinds 48 = .ok (.if_icmp .ge 78, 3) := by decide +kernel
theorem dX11_makeKinds_51 : decode cX11_makeKinds 51 = .ok (.iconst 1, 1) := by decide +kernel
theorem dX11_makeKinds_52 : decode cX11_makeKinds 52 = .ok (.istore_n 3, 1) := by decide +kernel
theorem dX11_makeKinds_53 : decode cX11_makeKinds 53 = .ok (.iload_n 3, 1) := by decide +kernel
theorem dX11_makeKinds_54 : decode cX11_makeKinds 54 = .ok (.bipush 18, 2) := by decide +kernel
theorem dX11_makeKinds_56 : decode cX11_makeKinds 56 = .ok (.if_icmp .ge 64, 3) := by decide +kernel
theorem dX11_makeKinds_59 : decode cX11_makeKinds 59 = .ok (.aload_n 0, 1) := by decide +kernel
theorem dX11_makeKinds_60 : decode cX11_makeKinds 60 = .ok (.bipush 8, 2) := by decide +kernel
theorem dX11_makeKinds_62 : decode cX11_makeKinds 62 = .ok (.aload_n 0, 1) := by decide +kernel
theorem dX11_makeKinds_63 : decode cX11_makeKinds 63 = .ok (.getfield 96, 3) := by decide +kernel
theorem dX11_makeKinds_66 : decode cX11_makeKinds 66 = .ok (.iload_n 2, 1) := by decide +kernel
theorem dX11_makeKinds_67 : decode cX11_makeKinds 67 = .ok (.iaload, 1) := by decide +kernel
theorem dX11_makeKinds_68 : decode cX11_makeKinds 68 = .ok (.invokevirtual 177, 3) := by decide +kernel
theorem dX11_makeKinds_71 : decode cX11_makeKinds 71 = .ok (.aload_n 0, 1) := by decide +kernel
theorem dX11_makeKinds_72 : decode cX11_makeKinds 72 = .ok (.iload_n 3, 1) := by decide +kernel
theorem dX11_makeKinds_73 : decode cX11_makeKinds 73 = .ok (.invokevirtual 181, 3) := by decide +kernel
theorem dX11_makeKinds_76 : decode cX11_makeKinds 76 = .ok (.aload_n 0, 1) := by decide +kernel
theorem dX11_makeKinds_77 : decode cX11_makeKinds 77 = .ok (.bipush 8, 2) := by decide +kernel
theorem dX11_makeKinds_79 : decode cX11_makeKinds 79 = .ok (.invokevirtual 184, 3) := by decide +kernel
theorem dX11_makeKinds_82 : decode cX11_makeKinds 82 = .ok (.istore 4, 2) := by decide +kernel
theorem dX11_makeKinds_84 : decode cX11_makeKinds 84 = .ok (.aload_n 0, 1) := by decide +kernel
theorem dX11_makeKinds_85 : decode cX11_makeKinds 85 = .ok (.getfield 93, 3) := by decide +kernel
theorem dX11_makeKinds_88 : decode cX11_makeKinds 88 = .ok (.iload 4, 2) := by decide +kernel
theorem dX11_makeKinds_90 : decode cX11_makeKinds 90 = .ok (.saload, 1) := by decide +kernel
theorem dX11_makeKinds_91 : decode cX11_makeKinds 91 = .ok (.ifCond .ge 23, 3) := by decide +kernel
theorem dX11_makeKinds_94 : decode cX11_makeKinds 94 = .ok (.aload_n 0, 1) := by decide +kernel
theorem dX11_makeKinds_95 : decode cX11_makeKinds 95 = .ok (.getfield 93, 3) := by decide +kernel
theorem dX11_makeKinds_98 : decode cX11_makeKinds 98 = .ok (.iload 4, 2) := by decide +kernel
theorem dX11_makeKinds_100 : decode cX11_makeKinds 100 = .ok (.iload_n 1, 1) := by decide +kernel
theorem dX11_makeKinds_101 : decode cX11_makeKinds 101 = .ok (.i2s, 1) := by decide +kernel
theorem dX11_makeKinds_102 : decode cX11_makeKinds 102 = .ok (.sastore, 1) := by decide +kernel
theorem dX11_makeKinds_103 : decode cX11_makeKinds 103 = .ok (.aload_n 0, 1) := by decide +kernel
theorem dX11_makeKinds_104 : decode cX11_makeKinds 104 = .ok (.getfield 96, 3) := by decide +kernel
theorem dX11_makeKinds_107 : decode cX11_makeKinds 107 = .ok (.iload_n 1, 1) := by decide +kernel
theorem dX11_makeKinds_108 : decode cX11_makeKinds 108 = .ok (.iload 4, 2) := by decide +kernel
theorem dX11_makeKinds_110 : decode cX11_makeKinds 110 = .ok (.iastore, 1) := by decide +kernel
theorem dX11_makeKinds_111 : decode cX11_makeKinds 111 = .ok (.iinc 1 1, 3) := by decide +kernel
theorem dX11_makeKinds_114 : decode cX11_makeKinds 114 = .ok (.iinc 3 3, 3) := by decide +kernel
theorem dX11_makeKinds_117 : decode cX11_makeKinds 117 = .ok (.goto (-64), 3) := by decide +kernel
theorem dX11_makeKinds_120 : decode cX11_makeKinds 120 = .ok (.iinc 2 1, 3) := by decide +kernel
theorem dX11_makeKinds_123 : decode cX11_makeKinds 123 = .ok (.goto (-77), 3) := by decide +kernel
theorem dX11_makeKinds_126 : decode cX11_makeKinds 126 = .ok (.iconst 0, 1) := by decide +kernel
theorem dX11_makeKinds_127 : decode cX11_makeKinds 127 = .ok (.istore_n 2, 1) := by decide +kernel
theorem dX11_makeKinds_128 : decode cX11_makeKinds 128 = .ok (.iconst 0, 1) := by decide +kernel
theorem dX11_makeKinds_129 : decode cX11_makeKinds 129 = .ok (.istore_n 3, 1) := by decide +kernel
theorem dX11_makeKinds_130 : decode cX11_makeKinds 130 = .ok (.iload_n 3, 1) := by decide +kernel
theorem dX11_makeKinds_131 : decode cX11_makeKinds 131 = .ok (.ldc 86, 2) := by decide +kernel
theorem dX11_makeKinds_133 : decode cX11_makeKinds 133 = .ok (.if_icmp .ge 34, 3) := by decide +kernel
theorem dX11_makeKinds_136 : decode cX11_makeKinds 136 = .ok (.aload_n 0, 1) := by decide +kernel
theorem dX11_makeKinds_137 : decode cX11_makeKinds 137 = .ok (.getfield 87, 3) := by decide +kernel
theorem dX11_makeKinds_140 : decode cX11_makeKinds 140 = .ok (.iload_n 3, 1) := by decide +kernel
theorem dX11_makeKinds_141 : decode cX11_makeKinds 141 = .ok (.saload, 1) := by decide +kernel
theorem dX11_makeKinds_142 : decode cX11_makeKinds 142 = .ok (.ifCond .ge 19, 3) := by decide +kernel
theorem dX11_makeKinds_145 : decode cX11_makeKinds 145 = .ok (.aload_n 0, 1) := by decide +kernel
theorem dX11_makeKinds_146 : decode cX11_makeKinds 146 = .ok (.getfield 90, 3) := by decide +kernel
theorem dX11_makeKinds_149 : decode cX11_makeKinds 149 = .ok (.iload_n 2, 1) := by decide +kernel
theorem dX11_makeKinds_150 : decode cX11_makeKinds 150 = .ok (.iload_n 3, 1) := by decide +kernel
theorem dX11_makeKinds_151 : decode cX11_makeKinds 151 = .ok (.iastore, 1) := by decide +kernel
theorem dX11_makeKinds_152 : decode cX11_makeKinds 152 = .ok (.aload_n 0, 1) := by decide +kernel
theorem dX11_makeKinds_153 : decode cX11_makeKinds 153 = .ok (.iload_n 3, 1) := by decide +kernel
theorem dX11_makeKinds_154 : decode cX11_makeKinds 154 = .ok (.iload_n 2, 1) := by decide +kernel
theorem dX11_makeKinds_155 : decode cX11_makeKinds 155 = .ok (.invokevirtual 187, 3) := by decide +kernel
theorem dX11_makeKinds_158 : decode cX11_makeKinds 158 = .ok (.iinc 2 1, 3) := by decide +kernel
theorem dX11_makeKinds_161 : decode cX11_makeKinds 161 = .ok (.iinc 3 1, 3) := by decide +kernel
theorem dX11_makeKinds_164 : decode cX11_makeKinds 164 = .ok (.goto (-34), 3) := by decide +kernel
theorem dX11_makeKinds_167 : decode cX11_makeKinds 167 = .ok (.return_, 1) := by decide +kernel
set_option maxRecDepth 20000 in
theorem ggX11_nameKind_X11_unrank : GoodIn wsX11_nameKind wsX11_unrank := goodIn_r _ [10, 2, 15, 16, 17, 18, 19, 20, 21, 22, 23, 24, 25, 26, 27, 28, 29, 30, 31, 32, 33, 34, 35, 36, 37, 38, 39, 40, 41, 42, 43, 44, 45, 46, 47, 48, 49, 50, 51, 52] (by decide +kernel) (by decide +kernel)
set_option maxRecDepth 20000 in
theorem gX11_nameKind_X11_unrank : GoodIn wsX11_nameKind (wsV RX11 177 RX11 yX11_unrank wsX11_unrank) := goodIn_app (goodIn_of _ (by decide +kernel)) ggX11_nameKind_X11_unrank
set_option maxRecDepth 20000 in
theorem ggX11_nameKind_X11_rank : GoodIn wsX11_nameKind wsX11_rank := goodIn_r _ [14, 2, 15, 16, 17, 18, 19, 20, 21, 22, 23, 24, 25, 26, 27, 28, 29, 30, 31, 32, 33, 34, 35, 36, 37, 38, 39, 40, 41, 42, 43, 44, 45, 46, 47, 48, 49, 50, 51, 52] (by decide +kernel) (by decide +kernel)
set_option maxRecDepth 20000 in
theorem gX11_nameKind_X11_rank : GoodIn wsX11_nameKind (wsV RX11 184 RX11 yX11_rank wsX11_rank) := goodIn_app (goodIn_of _ (by decide +kernel)) ggX11_nameKind_X11_rank
theorem dX11_nameKind_0 : decode cX11_nameKind 0 = .ok (.aload_n 0, 1) := by decide +kernel
theorem dX11_nameKind_1 : decode cX11_nameKind 1 = .ok (.getfield 37, 3) := by decide +kernel
theorem dX11_nameKind_4 : decode cX11_nameKind 4 = .ok (.astore_n 3, 1) := by decide +kernel
theorem dX11_nameKind_5 : decode cX11_nameKind 5 = .ok (.aload_n 0, 1) := by decide +kernel
theorem dX11_nameKind_6 : decode cX11_nameKind 6 = .ok (.bipush 8, 2) := by decide +kernel
theorem dX11_nameKind_8 : decode cX11_nameKind 8 = .ok (.iload_n 1, 1) := by decide +kernel
theorem dX11_nameKind_9 : decode cX11_nameKind 9 = .ok (.invokevirtual 177, 3) := by decide +kernel
theorem dX11_nameKind_12 : decode cX11_nameKind 12 = .ok (.iconst 0, 1) := by decide +kernel
theorem dX11_nameKind_13 : decode cX11_nameKind 13 = .ok (.istore 4, 2) := by decide +kernel
theorem dX11_nameKind_15 : decode cX11_nameKind 15 = .ok (.iload 4, 2) := by decide +kernel
theorem dX11_nameKind_17 : decode cX11_nameKind 17 = .ok (.bipush 8, 2) := by decide +kernel
theorem dX11_nameKind_19 : decode cX11_nameKind 19 = .ok (.if_icmp .ge 20, 3) := by decide +kernel
theorem dX11_nameKind_22 : decode cX11_nameKind 22 = .ok (.aload_n 3, 1) := by decide +kernel
theorem dX11_nameKind_23 : decode cX11_nameKind 23 = .ok (.iload 4, 2) := by decide +kernel
theorem dX11_nameKind_25 : decode cX11_nameKind 25 = .ok (.aload_n 0, 1) := by decide +kernel
theorem dX11_nameKind_26 : decode cX11_nameKind 26 = .ok (.getfield 112, 3) := by decide +kernel
theorem dX11_nameKind_29 : decode cX11_nameKind 29 = .ok (.iload 4, 2) := by decide +kernel
theorem dX11_nameKind_31 : decode cX11_nameKind 31 = .ok (.iaload, 1) := by decide +kernel
theorem dX11_nameKind_32 : decode cX11_nameKind 32 = .ok (.iastore, 1) := by decide +kernel
theorem dX11_nameKind_33 : decode cX11_nameKind 33 = .ok (.iinc 4 1, 3) := by decide +kernel
theorem dX11_nameKind_36 : decode cX11_nameKind 36 = .ok (.goto (-21), 3) := by decide +kernel
theorem dX11_nameKind_39 : decode cX11_nameKind 39 = .ok (.iconst 0, 1) := by decide +kernel
theorem dX11_nameKind_40 : decode cX11_nameKind 40 = .ok (.istore 4, 2) := by decide +kernel
theorem dX11_nameKind_42 : decode cX11_nameKind 42 = .ok (.iload 4, 2) := by decide +kernel
theorem dX11_nameKind_44 : decode cX11_nameKind 44 = .ok (.bipush 96, 2) := by decide +kernel
theorem dX11_nameKind_46 : decode cX11_nameKind 46 = .ok (.if_icmp .ge 97, 3) := by decide +kernel
theorem dX11_nameKind_49 : decode cX11_nameKind 49 = .ok (.aload_n 0, 1) := by decide +kernel
theorem dX11_nameKind_50 : decode cX11_nameKind 50 = .ok (.bipush 8, 2) := by decide +kernel
theorem dX11_nameKind_52 : decode cX11_nameKind 52 = .ok (.aload_n 0, 1) := by decide +kernel
theorem dX11_nameKind_53 : decode cX11_nameKind 53 = .ok (.getfield 96, 3) := by decide +kernel
theorem dX11_nameKind_56 : decode cX11_nameKind 56 = .ok (.iload 4, 2) := by decide +kernel
theorem dX11_nameKind_58 : decode cX11_nameKind 58 = .ok (.iaload, 1) := by decide +kernel
theorem dX11_nameKind_59 : decode cX11_nameKind 59 = .ok (.invokevirtual 177, 3) := by decide +kernel
theorem dX11_nameKind_62 : decode cX11_nameKind 62 = .ok (.iconst 0, 1) := by decide +kernel
theorem dX11_nameKind_63 : decode cX11_nameKind 63 = .ok (.istore 5, 2) := by decide +kernel
theorem dX11_nameKind_65 : decode cX11_nameKind 65 = .ok (.iload 5, 2) := by decide +kernel
theorem dX11_nameKind_67 : decode cX11_nameKind 67 = .ok (.bipush 8, 2) := by decide +kernel
theorem dX11_nameKind_69 : decode cX11_nameKind 69 = .ok (.if_icmp .ge 25, 3) := by decide +kernel
theorem dX11_nameKind_72 : decode cX11_nameKind 72 = .ok (.aload_n 0, 1) := by decide +kernel
theorem dX11_nameKind_73 : decode cX11_nameKind 73 = .ok (.getfield 115, 3) := by decide +kernel
theorem dX11_nameKind_76 : decode cX11_nameKind 76 = .ok (.iload 5, 2) := by decide +kernel
theorem dX11_nameKind_78 : decode cX11_nameKind 78 = .ok (.aload_n 0, 1) := by decide +kernel
theorem dX11_nameKind_79 : decode cX11_nameKind 79 = .ok (.getfield 112, 3) := by decide +kernel
theorem dX11_nameKind_82 : decode cX11_nameKind 82 = .ok (.aload_n 3, 1) := by decide +kernel
theorem dX11_nameKind_83 : decode cX11_nameKind 83 = .ok (.iload 5, 2) := by decide +kernel
theorem dX11_nameKind_85 : decode cX11_nameKind 85 = .ok (.iaload, 1) := by decide +kernel
theorem dX11_nameKind_86 : decode cX11_nameKind 86 = .ok (.iaload, 1) := by decide +kernel
theorem dX11_nameKind_87 : decode cX11_nameKind 87 = .ok (.iastore, 1) := by decide +kernel
theorem dX11_nameKind_88 : decode cX11_nameKind 88 = .ok (.iinc 5 1, 3) := by decide +kernel
theorem dX11_nameKind_91 : decode cX11_nameKind 91 = .ok (.goto (-26), 3) := by decide +kernel
theorem dX11_nameKind_94 : decode cX11_nameKind 94 = .ok (.iconst 0, 1) := by decide +kernel
theorem dX11_nameKind_95 : decode cX11_nameKind 95 = .ok (.istore 5, 2) := by decide +kernel
theorem dX11_nameKind_97 : decode cX11_nameKind 97 = .ok (.iload 5, 2) := by decide +kernel
theorem dX11_nameKind_99 : decode cX11_nameKind 99 = .ok (.bipush 8, 2) := by decide +kernel
theorem dX11_nameKind_101 : decode cX11_nameKind 101 = .ok (.if_icmp .ge 23, 3) := by decide +kernel
theorem dX11_nameKind_104 : decode cX11_nameKind 104 = .ok (.aload_n 0, 1) := by decide +kernel
theorem dX11_nameKind_105 : decode cX11_nameKind 105 = .ok (.getfield 112, 3) := by decide +kernel
theorem dX11_nameKind_108 : decode cX11_nameKind 108 = .ok (.iload 5, 2) := by decide +kernel
theorem dX11_nameKind_110 : decode cX11_nameKind 110 = .ok (.aload_n 0, 1) := by decide +kernel
theorem dX11_nameKind_111 : decode cX11_nameKind 111 = .ok (.getfield 115, 3) := by decide +kernel
theorem dX11_nameKind_114 : decode cX11_nameKind 114 = .ok (.iload 5, 2) := by decide +kernel
theorem dX11_nameKind_116 : decode cX11_nameKind 116 = .ok (.iaload, 1) := by decide +kernel
theorem dX11_nameKind_117 : decode cX11_nameKind 117 = .ok (.iastore, 1) := by decide +kernel
theorem dX11_nameKind_118 : decode cX11_nameKind 118 = .ok (.iinc 5 1, 3) := by decide +kernel
theorem dX11_nameKind_121 : decode cX11_nameKind 121 = .ok (.goto (-24), 3) := by decide +kernel
theorem dX11_nameKind_124 : decode cX11_nameKind 124 = .ok (.aload_n 0, 1) := by decide +kernel
theorem dX11_nameKind_125 : decode cX11_nameKind 125 = .ok (.getfield 87, 3) := by decide +kernel
theorem dX11_nameKind_128 : decode cX11_nameKind 128 = .ok (.aload_n 0, 1) := by decide +kernel
theorem dX11_nameKind_129 : decode cX11_nameKind 129 = .ok (.bipush 8, 2) := by decide +kernel
theorem dX11_nameKind_131 : decode cX11_nameKind 131 = .ok (.invokevirtual 184, 3) := by decide +kernel
theorem dX11_nameKind_134 : decode cX11_nameKind 134 = .ok (.iload_n 2, 1) := by decide +kernel
theorem dX11_nameKind_135 : decode cX11_nameKind 135 = .ok (.i2s, 1) := by decide +kernel
theorem dX11_nameKind_136 : decode cX11_nameKind 136 = .ok (.sastore, 1) := by decide +kernel
theorem dX11_nameKind_137 : decode cX11_nameKind 137 = .ok (.iinc 4 1, 3) := by decide +kernel
theorem dX11_nameKind_140 : decode cX11_nameKind 140 = .ok (.goto (-98), 3) := by decide +kernel
theorem dX11_nameKind_143 : decode cX11_nameKind 143 = .ok (.return_, 1) := by decide +kernel
set_option maxRecDepth 20000 in
theorem ggX11_makeThird_X11_unrank : GoodIn wsX11_makeThird wsX11_unrank := goodIn_r _ [11, 12, 31, 32, 33, 34, 35, 36, 37, 38, 39, 40, 41, 42, 43, 44, 45, 46, 47, 48, 49, 50, 51, 52, 53, 54, 55, 56, 57, 58, 59, 60, 61, 62, 63, 64, 65, 66, 67, 68] (by decide +kernel) (by decide +kernel)
set_option maxRecDepth 20000 in
theorem gX11_makeThird_X11_unrank : GoodIn wsX11_makeThird (wsV RX11 177 RX11 yX11_unrank wsX11_unrank) := goodIn_app (goodIn_of _ (by decide +kernel)) ggX11_makeThird_X11_unrank
set_option maxRecDepth 20000 in
theorem ggX11_makeThird_X11_turnRow : GoodIn wsX11_makeThird wsX11_turnRow := goodIn_r _ [16, 17, 12, 18, 31, 32, 33, 34, 35, 36, 37, 38, 39, 40, 41, 42, 43, 44, 45, 46, 47, 48, 49, 50, 51, 52, 53, 54, 55, 56, 57, 58, 59, 60, 61, 62, 63, 64, 65, 66, 67, 68] (by decide +kernel) (by decide +kernel)
set_option maxRecDepth 20000 in
theorem gX11_makeThird_X11_turnRow : GoodIn wsX11_makeThird (wsV RX11 181 RX11 yX11_turnRow wsX11_turnRow) := goodIn_app (goodIn_of _ (by decide +kernel)) ggX11_makeThird_X11_turnRow
set_option maxRecDepth 20000 in
theorem ggX11_makeThird_X11_rank : GoodIn wsX11_makeThird wsX11_rank := goodIn_r _ [22, 12, 31, 32, 33, 34, 35, 36, 37, 38, 39, 40, 41, 42, 43, 44, 45, 46, 47, 48, 49, 50, 51, 52, 53, 54, 55, 56, 57, 58, 59, 60, 61, 62, 63, 64, 65, 66, 67, 68] (by decide +kernel) (by decide +kernel)
set_option maxRecDepth 20000 in
theorem gX11_makeThird_X11_rank : GoodIn wsX11_makeThird (wsV RX11 184 RX11 yX11_rank wsX11_rank) := goodIn_app (goodIn_of _ (by decide +kernel)) ggX11_makeThird_X11_rank
set_option maxRecDepth 20000 in
theorem ggX11_makeThird_X11_may : GoodIn wsX11_makeThird wsX11_may := goodIn_r _ [25] (by decide +kernel) (by decide +kernel)
set_option maxRecDepth 20000 in
theorem gX11_makeThird_X11_may : GoodIn wsX11_makeThird (va_wsS RX11 174 yX11_may wsX11_may) := goodIn_app (goodIn_of _ (by decide +kernel)) ggX11_makeThird_X11_may
set_option maxRecDepth 20000 in
theorem ggX11_makeThird_X11_maskBy : GoodIn wsX11_makeThird wsX11_maskBy := goodIn_r _ [29, 30, 31, 32, 33, 34, 35, 36, 37, 38, 39, 40, 41, 42, 43, 44, 45, 46, 47, 48, 49, 50, 51, 52, 53, 54, 55, 56, 57, 58, 59, 60, 61, 62, 63, 64, 65, 66, 67, 68] (by decide +kernel) (by decide +kernel)
set_option maxRecDepth 20000 in
theorem gX11_makeThird_X11_maskBy : GoodIn wsX11_makeThird (wsV RX11 166 RX11 yX11_maskBy wsX11_maskBy) := goodIn_app (goodIn_of _ (by decide +kernel)) ggX11_makeThird_X11_maskBy
theorem dX11_makeThird_0 : decode cX11_makeThird 0 = .ok (.iconst 0, 1) := by decide +kernel
theorem dX11_makeThird_1 : decode cX11_makeThird 1 = .ok (.istore_n 1, 1) := by decide +kernel
theorem dX11_makeThird_2 : decode cX11_makeThird 2 = .ok (.iload_n 1, 1) := by decide +kernel
theorem dX11_makeThird_3 : decode cX11_makeThird 3 = .ok (.sipush 420, 3) := by decide +kernel
theorem dX11_makeThird_6 : decode cX11_makeThird 6 = .ok (.if_icmp .ge 62, 3) := by decide +kernel
theorem dX11_makeThird_9 : decode cX11_makeThird 9 = .ok (.iconst 0, 1) := by decide +kernel
theorem dX11_makeThird_10 : decode cX11_makeThird 10 = .ok (.istore_n 2, 1) := by decide +kernel
theorem dX11_makeThird_11 : decode cX11_makeThird 11 = .ok (.iload_n 2, 1) := by decide +kernel
theorem dX11_makeThird_12 : decode cX11_makeThird 12 = .ok (.bipush 18, 2) := by decide +kernel
theorem dX11_makeThird_14 : decode cX11_makeThird 14 = .ok (.if_icmp .ge 48, 3) := by decide +kernel
theorem dX11_makeThird_17 : decode cX11_makeThird 17 = .ok (.aload_n 0, 1) := by decide +kernel
theorem dX11_makeThird_18 : decode cX11_makeThird 18 = .ok (.bipush 8, 2) := by decide +kernel
theorem dX11_makeThird_20 : decode cX11_makeThird 20 = .ok (.aload_n 0, 1) := by decide +kernel
theorem dX11_makeThird_21 : decode cX11_makeThird 21 = .ok (.getfield 90, 3) := by decide +kernel
theorem dX11_makeThird_24 : decode cX11_makeThird 24 = .ok (.iload_n 1, 1) := by decide +kernel
theorem dX11_makeThird_25 : decode cX11_makeThird 25 = .ok (.iaload, 1) := by decide +kernel
theorem dX11_makeThird_26 : decode cX11_makeThird 26 = .ok (.invokevirtual 177, 3) := by decide +kernel
theorem dX11_makeThird_29 : decode cX11_makeThird 29 = .ok (.aload_n 0, 1) := by decide +kernel
theorem dX11_makeThird_30 : decode cX11_makeThird 30 = .ok (.iload_n 2, 1) := by decide +kernel
theorem dX11_makeThird_31 : decode cX11_makeThird 31 = .ok (.invokevirtual 181, 3) := by decide +kernel
theorem dX11_makeThird_34 : decode cX11_makeThird 34 = .ok (.aload_n 0, 1) := by decide +kernel
theorem dX11_makeThird_35 : decode cX11_makeThird 35 = .ok (.getfield 106, 3) := by decide +kernel
theorem dX11_makeThird_38 : decode cX11_makeThird 38 = .ok (.bipush 18, 2) := by decide +kernel
theorem dX11_makeThird_40 : decode cX11_makeThird 40 = .ok (.iload_n 1, 1) := by decide +kernel
theorem dX11_makeThird_41 : decode cX11_makeThird 41 = .ok (.imul, 1) := by decide +kernel
theorem dX11_makeThird_42 : decode cX11_makeThird 42 = .ok (.iload_n 2, 1) := by decide +kernel
theorem dX11_makeThird_43 : decode cX11_makeThird 43 = .ok (.iadd, 1) := by decide +kernel
theorem dX11_makeThird_44 : decode cX11_makeThird 44 = .ok (.aload_n 0, 1) := by decide +kernel
theorem dX11_makeThird_45 : decode cX11_makeThird 45 = .ok (.getfield 87, 3) := by decide +kernel
theorem dX11_makeThird_48 : decode cX11_makeThird 48 = .ok (.aload_n 0, 1) := by decide +kernel
theorem dX11_makeThird_49 : decode cX11_makeThird 49 = .ok (.bipush 8, 2) := by decide +kernel
theorem dX11_makeThird_51 : decode cX11_makeThird 51 = .ok (.invokevirtual 184, 3) := by decide +kernel
theorem dX11_makeThird_54 : decode cX11_makeThird 54 = .ok (.saload, 1) := by decide +kernel
theorem dX11_makeThird_55 : decode cX11_makeThird 55 = .ok (.iastore, 1) := by decide +kernel
theorem dX11_makeThird_56 : decode cX11_makeThird 56 = .ok (.iinc 2 1, 3) := by decide +kernel
theorem dX11_makeThird_59 : decode cX11_makeThird 59 = .ok (.goto (-48), 3) := by decide +kernel
theorem dX11_makeThird_62 : decode cX11_makeThird 62 = .ok (.iinc 1 1, 3) := by decide +kernel
theorem dX11_makeThird_65 : decode cX11_makeThird 65 = .ok (.goto (-63), 3) := by decide +kernel
theorem dX11_makeThird_68 : decode cX11_makeThird 68 = .ok (.sipush 29400, 3) := by decide +kernel
theorem dX11_makeThird_71 : decode cX11_makeThird 71 = .ok (.istore_n 1, 1) := by decide +kernel
theorem dX11_makeThird_72 : decode cX11_makeThird 72 = .ok (.iconst 0, 1) := by decide +kernel
theorem dX11_makeThird_73 : decode cX11_makeThird 73 = .ok (.istore_n 2, 1) := by decide +kernel
theorem dX11_makeThird_74 : decode cX11_makeThird 74 = .ok (.iload_n 2, 1) := by decide +kernel
theorem dX11_makeThird_75 : decode cX11_makeThird 75 = .ok (.iload_n 1, 1) := by decide +kernel
theorem dX11_makeThird_76 : decode cX11_makeThird 76 = .ok (.if_icmp .ge 17, 3) := by decide +kernel
theorem dX11_makeThird_79 : decode cX11_makeThird 79 = .ok (.aload_n 0, 1) := by decide +kernel
theorem dX11_makeThird_80 : decode cX11_makeThird 80 = .ok (.getfield 66, 3) := by decide +kernel
theorem dX11_makeThird_83 : decode cX11_makeThird 83 = .ok (.iload_n 2, 1) := by decide +kernel
theorem dX11_makeThird_84 : decode cX11_makeThird 84 = .ok (.bipush 100, 2) := by decide +kernel
theorem dX11_makeThird_86 : decode cX11_makeThird 86 = .ok (.bastore, 1) := by decide +kernel
theorem dX11_makeThird_87 : decode cX11_makeThird 87 = .ok (.iinc 2 1, 3) := by decide +kernel
theorem dX11_makeThird_90 : decode cX11_makeThird 90 = .ok (.goto (-16), 3) := by decide +kernel
theorem dX11_makeThird_93 : decode cX11_makeThird 93 = .ok (.aload_n 0, 1) := by decide +kernel
theorem dX11_makeThird_94 : decode cX11_makeThird 94 = .ok (.getfield 66, 3) := by decide +kernel
theorem dX11_makeThird_97 : decode cX11_makeThird 97 = .ok (.aload_n 0, 1) := by decide +kernel
theorem dX11_makeThird_98 : decode cX11_makeThird 98 = .ok (.getfield 80, 3) := by decide +kernel
theorem dX11_makeThird_101 : decode cX11_makeThird 101 = .ok (.bipush 15, 2) := by decide +kernel
theorem dX11_makeThird_103 : decode cX11_makeThird 103 = .ok (.saload, 1) := by decide +kernel
theorem dX11_makeThird_104 : decode cX11_makeThird 104 = .ok (.iconst 0, 1) := by decide +kernel
theorem dX11_makeThird_105 : decode cX11_makeThird 105 = .ok (.bastore, 1) := by decide +kernel
theorem dX11_makeThird_106 : decode cX11_makeThird 106 = .ok (.iconst 1, 1) := by decide +kernel
theorem dX11_makeThird_107 : decode cX11_makeThird 107 = .ok (.istore_n 2, 1) := by decide +kernel
theorem dX11_makeThird_108 : decode cX11_makeThird 108 = .ok (.iconst 0, 1) := by decide +kernel
theorem dX11_makeThird_109 : decode cX11_makeThird 109 = .ok (.istore_n 3, 1) := by decide +kernel
theorem dX11_makeThird_110 : decode cX11_makeThird 110 = .ok (.iload_n 2, 1) := by decide +kernel
theorem dX11_makeThird_111 : decode cX11_makeThird 111 = .ok (.ifCond .eq 132, 3) := by decide +kernel
theorem dX11_makeThird_114 : decode cX11_makeThird 114 = .ok (.iconst 0, 1) := by decide +kernel
theorem dX11_makeThird_115 : decode cX11_makeThird 115 = .ok (.istore_n 2, 1) := by decide +kernel
theorem dX11_makeThird_116 : decode cX11_makeThird 116 = .ok (.iconst 0, 1) := by decide +kernel
theorem dX11_makeThird_117 : decode cX11_makeThird 117 = .ok (.istore 4, 2) := by decide +kernel
