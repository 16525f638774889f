theorem dX11_makeThird_119 : decode cX11_makeThird 119 = .ok (.iload 4, 2) := by decide +kernel
theorem dX11_makeThird_121 : decode cX11_makeThird 121 = .ok (.iload_n 1, 1) := by decide +kernel
theorem dX11_makeThird_122 : decode cX11_makeThird 122 = .ok (.if_icmp .ge 115, 3) := by decide +kernel
theorem dX11_makeThird_125 : decode cX11_makeThird 125 = .ok (.iconst 0, 1) := by decide +kernel
theorem dX11_makeThird_126 : decode cX11_makeThird 126 = .ok (.istore 5, 2) := by decide +kernel
theorem dX11_makeThird_128 : decode cX11_makeThird 128 = .ok (.iload 5, 2) := by decide +kernel
theorem dX11_makeThird_130 : decode cX11_makeThird 130 = .ok (.bipush 18, 2) := by decide +kernel
theorem dX11_makeThird_132 : decode cX11_makeThird 132 = .ok (.if_icmp .ge 99, 3) := by decide +kernel
theorem dX11_makeThird_135 : decode cX11_makeThird 135 = .ok (.aload_n 0, 1) := by decide +kernel
theorem dX11_makeThird_136 : decode cX11_makeThird 136 = .ok (.getfield 66, 3) := by decide +kernel
theorem dX11_makeThird_139 : decode cX11_makeThird 139 = .ok (.iload 4, 2) := by decide +kernel
theorem dX11_makeThird_141 : decode cX11_makeThird 141 = .ok (.baload, 1) := by decide +kernel
theorem dX11_makeThird_142 : decode cX11_makeThird 142 = .ok (.iload_n 3, 1) := by decide +kernel
theorem dX11_makeThird_143 : decode cX11_makeThird 143 = .ok (.if_icmp .ne 88, 3) := by decide +kernel
theorem dX11_makeThird_146 : decode cX11_makeThird 146 = .ok (.iconst 2, 1) := by decide +kernel
theorem dX11_makeThird_147 : decode cX11_makeThird 147 = .ok (.iload 5, 2) := by decide +kernel
theorem dX11_makeThird_149 : decode cX11_makeThird 149 = .ok (.invokestatic 174, 3) := by decide +kernel
theorem dX11_makeThird_152 : decode cX11_makeThird 152 = .ok (.ifCond .eq 73, 3) := by decide +kernel
theorem dX11_makeThird_155 : decode cX11_makeThird 155 = .ok (.bipush 70, 2) := by decide +kernel
theorem dX11_makeThird_157 : decode cX11_makeThird 157 = .ok (.aload_n 0, 1) := by decide +kernel
theorem dX11_makeThird_158 : decode cX11_makeThird 158 = .ok (.getfield 106, 3) := by decide +kernel
theorem dX11_makeThird_161 : decode cX11_makeThird 161 = .ok (.bipush 18, 2) := by decide +kernel
theorem dX11_makeThird_163 : decode cX11_makeThird 163 = .ok (.iload 4, 2) := by decide +kernel
theorem dX11_makeThird_165 : decode cX11_makeThird 165 = .ok (.bipush 70, 2) := by decide +kernel
theorem dX11_makeThird_167 : decode cX11_makeThird 167 = .ok (.idiv, 1) := by decide +kernel
theorem dX11_makeThird_168 : decode cX11_makeThird 168 = .ok (.imul, 1) := by decide +kernel
theorem dX11_makeThird_169 : decode cX11_makeThird 169 = .ok (.iload 5, 2) := by decide +kernel
theorem dX11_makeThird_171 : decode cX11_makeThird 171 = .ok (.iadd, 1) := by decide +kernel
theorem dX11_makeThird_172 : decode cX11_makeThird 172 = .ok (.iaload, 1) := by decide +kernel
theorem dX11_makeThird_173 : decode cX11_makeThird 173 = .ok (.imul, 1) := by decide +kernel
theorem dX11_makeThird_174 : decode cX11_makeThird 174 = .ok (.aload_n 0, 1) := by decide +kernel
theorem dX11_makeThird_175 : decode cX11_makeThird 175 = .ok (.getfield 80, 3) := by decide +kernel
theorem dX11_makeThird_178 : decode cX11_makeThird 178 = .ok (.aload_n 0, 1) := by decide +kernel
theorem dX11_makeThird_179 : decode cX11_makeThird 179 = .ok (.aload_n 0, 1) := by decide +kernel
theorem dX11_makeThird_180 : decode cX11_makeThird 180 = .ok (.getfield 83, 3) := by decide +kernel
theorem dX11_makeThird_183 : decode cX11_makeThird 183 = .ok (.iload 4, 2) := by decide +kernel
theorem dX11_makeThird_185 : decode cX11_makeThird 185 = .ok (.bipush 70, 2) := by decide +kernel
theorem dX11_makeThird_187 : decode cX11_makeThird 187 = .ok (.irem, 1) := by decide +kernel
theorem dX11_makeThird_188 : decode cX11_makeThird 188 = .ok (.saload, 1) := by decide +kernel
theorem dX11_makeThird_189 : decode cX11_makeThird 189 = .ok (.iload 5, 2) := by decide +kernel
theorem dX11_makeThird_191 : decode cX11_makeThird 191 = .ok (.bipush 8, 2) := by decide +kernel
theorem dX11_makeThird_193 : decode cX11_makeThird 193 = .ok (.invokevirtual 166, 3) := by decide +kernel
theorem dX11_makeThird_196 : decode cX11_makeThird 196 = .ok (.saload, 1) := by decide +kernel
theorem dX11_makeThird_197 : decode cX11_makeThird 197 = .ok (.iadd, 1) := by decide +kernel
theorem dX11_makeThird_198 : decode cX11_makeThird 198 = .ok (.istore 6, 2) := by decide +kernel
theorem dX11_makeThird_200 : decode cX11_makeThird 200 = .ok (.aload_n 0, 1) := by decide +kernel
theorem dX11_makeThird_201 : decode cX11_makeThird 201 = .ok (.getfield 66, 3) := by decide +kernel
theorem dX11_makeThird_204 : decode cX11_makeThird 204 = .ok (.iload 6, 2) := by decide +kernel
theorem dX11_makeThird_206 : decode cX11_makeThird 206 = .ok (.baload, 1) := by decide +kernel
theorem dX11_makeThird_207 : decode cX11_makeThird 207 = .ok (.bipush 100, 2) := by decide +kernel
theorem dX11_makeThird_209 : decode cX11_makeThird 209 = .ok (.if_icmp .ne 16, 3) := by decide +kernel
theorem dX11_makeThird_212 : decode cX11_makeThird 212 = .ok (.aload_n 0, 1) := by decide +kernel
theorem dX11_makeThird_213 : decode cX11_makeThird 213 = .ok (.getfield 66, 3) := by decide +kernel
theorem dX11_makeThird_216 : decode cX11_makeThird 216 = .ok (.iload 6, 2) := by decide +kernel
theorem dX11_makeThird_218 : decode cX11_makeThird 218 = .ok (.iload_n 3, 1) := by decide +kernel
theorem dX11_makeThird_219 : decode cX11_makeThird 219 = .ok (.iconst 1, 1) := by decide +kernel
theorem dX11_makeThird_220 : decode cX11_makeThird 220 = .ok (.iadd, 1) := by decide +kernel
theorem dX11_makeThird_221 : decode cX11_makeThird 221 = .ok (.i2b, 1) := by decide +kernel
theorem dX11_makeThird_222 : decode cX11_makeThird 222 = .ok (.bastore, 1) := by decide +kernel
theorem dX11_makeThird_223 : decode cX11_makeThird 223 = .ok (.iconst 1, 1) := by decide +kernel
theorem dX11_makeThird_224 : decode cX11_makeThird 224 = .ok (.istore_n 2, 1) := by decide +kernel
theorem dX11_makeThird_225 : decode cX11_makeThird 225 = .ok (.iinc 5 1, 3) := by decide +kernel
theorem dX11_makeThird_228 : decode cX11_makeThird 228 = .ok (.goto (-100), 3) := by decide +kernel
theorem dX11_makeThird_231 : decode cX11_makeThird 231 = .ok (.iinc 4 1, 3) := by decide +kernel
theorem dX11_makeThird_234 : decode cX11_makeThird 234 = .ok (.goto (-115), 3) := by decide +kernel
theorem dX11_makeThird_237 : decode cX11_makeThird 237 = .ok (.iinc 3 1, 3) := by decide +kernel
theorem dX11_makeThird_240 : decode cX11_makeThird 240 = .ok (.goto (-130), 3) := by decide +kernel
theorem dX11_makeThird_243 : decode cX11_makeThird 243 = .ok (.return_, 1) := by decide +kernel
set_option maxRecDepth 20000 in
theorem ggX11_makeFourth_X11_unrank : GoodIn wsX11_makeFourth wsX11_unrank := goodIn_r _ [13, 2, 27, 28, 29, 30, 31, 32, 33, 34, 35, 36, 37, 38, 39, 40, 41, 42, 43, 44, 45, 46, 47, 48, 49, 50, 51, 52, 53, 54, 55, 56, 57, 58, 59, 60, 61, 62, 63, 64] (by decide +kernel) (by decide +kernel)
set_option maxRecDepth 20000 in
theorem gX11_makeFourth_X11_unrank : GoodIn wsX11_makeFourth (wsV RX11 177 RX11 yX11_unrank wsX11_unrank) := goodIn_app (goodIn_of _ (by decide +kernel)) ggX11_makeFourth_X11_unrank
set_option maxRecDepth 20000 in
theorem ggX11_makeFourth_X11_rank : GoodIn wsX11_makeFourth wsX11_rank := goodIn_r _ [17, 2, 27, 28, 29, 30, 31, 32, 33, 34, 35, 36, 37, 38, 39, 40, 41, 42, 43, 44, 45, 46, 47, 48, 49, 50, 51, 52, 53, 54, 55, 56, 57, 58, 59, 60, 61, 62, 63, 64] (by decide +kernel) (by decide +kernel)
set_option maxRecDepth 20000 in
theorem gX11_makeFourth_X11_rank : GoodIn wsX11_makeFourth (wsV RX11 184 RX11 yX11_rank wsX11_rank) := goodIn_app (goodIn_of _ (by decide +kernel)) ggX11_makeFourth_X11_rank
set_option maxRecDepth 20000 in
theorem ggX11_makeFourth_X11_turnRow : GoodIn wsX11_makeFourth wsX11_turnRow := goodIn_r _ [21, 1, 2, 22, 27, 28, 29, 30, 31, 32, 33, 34, 35, 36, 37, 38, 39, 40, 41, 42, 43, 44, 45, 46, 47, 48, 49, 50, 51, 52, 53, 54, 55, 56, 57, 58, 59, 60, 61, 62, 63, 64] (by decide +kernel) (by decide +kernel)
set_option maxRecDepth 20000 in
theorem gX11_makeFourth_X11_turnRow : GoodIn wsX11_makeFourth (wsV RX11 181 RX11 yX11_turnRow wsX11_turnRow) := goodIn_app (goodIn_of _ (by decide +kernel)) ggX11_makeFourth_X11_turnRow
set_option maxRecDepth 20000 in
theorem ggX11_makeFourth_X11_spread4 : GoodIn wsX11_makeFourth wsX11_spread4 := goodIn_r _ [26, 4, 8, 27, 28, 29, 30, 31, 32, 33, 34, 35, 36, 37, 38, 39, 40, 41, 42, 43, 44, 45, 46, 47, 48, 49, 50, 51, 52, 53, 54, 55, 56, 57, 58, 59, 60, 61, 62, 63, 64] (by decide +kernel) (by decide +kernel)
set_option maxRecDepth 20000 in
theorem gX11_makeFourth_X11_spread4 : GoodIn wsX11_makeFourth (wsV RX11 190 RX11 yX11_spread4 wsX11_spread4) := goodIn_app (goodIn_of _ (by decide +kernel)) ggX11_makeFourth_X11_spread4
theorem dX11_makeFourth_0 : decode cX11_makeFourth 0 = .ok (.iconst 0, 1) := by decide +kernel
theorem dX11_makeFourth_1 : decode cX11_makeFourth 1 = .ok (.istore_n 1, 1) := by decide +kernel
theorem dX11_makeFourth_2 : decode cX11_makeFourth 2 = .ok (.iload_n 1, 1) := by decide +kernel
theorem dX11_makeFourth_3 : decode cX11_makeFourth 3 = .ok (.iconst 3, 1) := by decide +kernel
theorem dX11_makeFourth_4 : decode cX11_makeFourth 4 = .ok (.if_icmp .ge 144, 3) := by decide +kernel
theorem dX11_makeFourth_7 : decode cX11_makeFourth 7 = .ok (.iconst 0, 1) := by decide +kernel
theorem dX11_makeFourth_8 : decode cX11_makeFourth 8 = .ok (.istore_n 2, 1) := by decide +kernel
theorem dX11_makeFourth_9 : decode cX11_makeFourth 9 = .ok (.iload_n 2, 1) := by decide +kernel
theorem dX11_makeFourth_10 : decode cX11_makeFourth 10 = .ok (.bipush 24, 2) := by decide +kernel
theorem dX11_makeFourth_12 : decode cX11_makeFourth 12 = .ok (.if_icmp .ge 130, 3) := by decide +kernel
theorem dX11_makeFourth_15 : decode cX11_makeFourth 15 = .ok (.iconst 0, 1) := by decide +kernel
theorem dX11_makeFourth_16 : decode cX11_makeFourth 16 = .ok (.istore_n 3, 1) := by decide +kernel
theorem dX11_makeFourth_17 : decode cX11_makeFourth 17 = .ok (.iload_n 3, 1) := by decide +kernel
theorem dX11_makeFourth_18 : decode cX11_makeFourth 18 = .ok (.bipush 6, 2) := by decide +kernel
theorem dX11_makeFourth_20 : decode cX11_makeFourth 20 = .ok (.if_icmp .ge 116, 3) := by decide +kernel
theorem dX11_makeFourth_23 : decode cX11_makeFourth 23 = .ok (.aload_n 0, 1) := by decide +kernel
theorem dX11_makeFourth_24 : decode cX11_makeFourth 24 = .ok (.iconst 4, 1) := by decide +kernel
theorem dX11_makeFourth_25 : decode cX11_makeFourth 25 = .ok (.iload_n 2, 1) := by decide +kernel
theorem dX11_makeFourth_26 : decode cX11_makeFourth 26 = .ok (.invokevirtual 177, 3) := by decide +kernel
theorem dX11_makeFourth_29 : decode cX11_makeFourth 29 = .ok (.iconst 0, 1) := by decide +kernel
theorem dX11_makeFourth_30 : decode cX11_makeFourth 30 = .ok (.istore 4, 2) := by decide +kernel
theorem dX11_makeFourth_32 : decode cX11_makeFourth 32 = .ok (.iload 4, 2) := by decide +kernel
theorem dX11_makeFourth_34 : decode cX11_makeFourth 34 = .ok (.iconst 4, 1) := by decide +kernel
theorem dX11_makeFourth_35 : decode cX11_makeFourth 35 = .ok (.if_icmp .ge 23, 3) := by decide +kernel
theorem dX11_makeFourth_38 : decode cX11_makeFourth 38 = .ok (.aload_n 0, 1) := by decide +kernel
theorem dX11_makeFourth_39 : decode cX11_makeFourth 39 = .ok (.getfield 115, 3) := by decide +kernel
theorem dX11_makeFourth_42 : decode cX11_makeFourth 42 = .ok (.iload 4, 2) := by decide +kernel
theorem dX11_makeFourth_44 : decode cX11_makeFourth 44 = .ok (.aload_n 0, 1) := by decide +kernel
theorem dX11_makeFourth_45 : decode cX11_makeFourth 45 = .ok (.getfield 112, 3) := by decide +kernel
theorem dX11_makeFourth_48 : decode cX11_makeFourth 48 = .ok (.iload 4, 2) := by decide +kernel
theorem dX11_makeFourth_50 : decode cX11_makeFourth 50 = .ok (.iaload, 1) := by decide +kernel
theorem dX11_makeFourth_51 : decode cX11_makeFourth 51 = .ok (.iastore, 1) := by decide +kernel
theorem dX11_makeFourth_52 : decode cX11_makeFourth 52 = .ok (.iinc 4 1, 3) := by decide +kernel
theorem dX11_makeFourth_55 : decode cX11_makeFourth 55 = .ok (.goto (-23), 3) := by decide +kernel
theorem dX11_makeFourth_58 : decode cX11_makeFourth 58 = .ok (.iconst 0, 1) := by decide +kernel
theorem dX11_makeFourth_59 : decode cX11_makeFourth 59 = .ok (.istore 4, 2) := by decide +kernel
theorem dX11_makeFourth_61 : decode cX11_makeFourth 61 = .ok (.iload 4, 2) := by decide +kernel
theorem dX11_makeFourth_63 : decode cX11_makeFourth 63 = .ok (.iconst 4, 1) := by decide +kernel
theorem dX11_makeFourth_64 : decode cX11_makeFourth 64 = .ok (.if_icmp .ge 45, 3) := by decide +kernel
theorem dX11_makeFourth_67 : decode cX11_makeFourth 67 = .ok (.aload_n 0, 1) := by decide +kernel
theorem dX11_makeFourth_68 : decode cX11_makeFourth 68 = .ok (.getfield 112, 3) := by decide +kernel
theorem dX11_makeFourth_71 : decode cX11_makeFourth 71 = .ok (.iload 4, 2) := by decide +kernel
theorem dX11_makeFourth_73 : decode cX11_makeFourth 73 = .ok (.aload_n 0, 1) := by decide +kernel
theorem dX11_makeFourth_74 : decode cX11_makeFourth 74 = .ok (.getfield 115, 3) := by decide +kernel
theorem dX11_makeFourth_77 : decode cX11_makeFourth 77 = .ok (.aload_n 0, 1) := by decide +kernel
theorem dX11_makeFourth_78 : decode cX11_makeFourth 78 = .ok (.getfield 46, 3) := by decide +kernel
theorem dX11_makeFourth_81 : decode cX11_makeFourth 81 = .ok (.bipush 12, 2) := by decide +kernel
theorem dX11_makeFourth_83 : decode cX11_makeFourth 83 = .ok (.iconst 3, 1) := by decide +kernel
theorem dX11_makeFourth_84 : decode cX11_makeFourth 84 = .ok (.iload_n 3, 1) := by decide +kernel
theorem dX11_makeFourth_85 : decode cX11_makeFourth 85 = .ok (.imul, 1) := by decide +kernel
theorem dX11_makeFourth_86 : decode cX11_makeFourth 86 = .ok (.iconst 1, 1) := by decide +kernel
theorem dX11_makeFourth_87 : decode cX11_makeFourth 87 = .ok (.iadd, 1) := by decide +kernel
theorem dX11_makeFourth_88 : decode cX11_makeFourth 88 = .ok (.imul, 1) := by decide +kernel
theorem dX11_makeFourth_89 : decode cX11_makeFourth 89 = .ok (.iconst 4, 1) := by decide +kernel
theorem dX11_makeFourth_90 : decode cX11_makeFourth 90 = .ok (.iload_n 1, 1) := by decide +kernel
theorem dX11_makeFourth_91 : decode cX11_makeFourth 91 = .ok (.imul, 1) := by decide +kernel
theorem dX11_makeFourth_92 : decode cX11_makeFourth 92 = .ok (.iadd, 1) := by decide +kernel
theorem dX11_makeFourth_93 : decode cX11_makeFourth 93 = .ok (.iload 4, 2) := by decide +kernel
theorem dX11_makeFourth_95 : decode cX11_makeFourth 95 = .ok (.iadd, 1) := by decide +kernel
theorem dX11_makeFourth_96 : decode cX11_makeFourth 96 = .ok (.iaload, 1) := by decide +kernel
theorem dX11_makeFourth_97 : decode cX11_makeFourth 97 = .ok (.iconst 4, 1) := by decide +kernel
theorem dX11_makeFourth_98 : decode cX11_makeFourth 98 = .ok (.iload_n 1, 1) := by decide +kernel
theorem dX11_makeFourth_99 : decode cX11_makeFourth 99 = .ok (.imul, 1) := by decide +kernel
theorem dX11_makeFourth_100 : decode cX11_makeFourth 100 = .ok (.isub, 1) := by decide +kernel
theorem dX11_makeFourth_101 : decode cX11_makeFourth 101 = .ok (.iaload, 1) := by decide +kernel
theorem dX11_makeFourth_102 : decode cX11_makeFourth 102 = .ok (.iastore, 1) := by decide +kernel
theorem dX11_makeFourth_103 : decode cX11_makeFourth 103 = .ok (.iinc 4 1, 3) := by decide +kernel
theorem dX11_makeFourth_106 : decode cX11_makeFourth 106 = .ok (.goto (-45), 3) := by decide +kernel
theorem dX11_makeFourth_109 : decode cX11_makeFourth 109 = .ok (.aload_n 0, 1) := by decide +kernel
theorem dX11_makeFourth_110 : decode cX11_makeFourth 110 = .ok (.getfield 109, 3) := by decide +kernel
theorem dX11_makeFourth_113 : decode cX11_makeFourth 113 = .ok (.bipush 6, 2) := by decide +kernel
theorem dX11_makeFourth_115 : decode cX11_makeFourth 115 = .ok (.bipush 24, 2) := by decide +kernel
theorem dX11_makeFourth_117 : decode cX11_makeFourth 117 = .ok (.iload_n 1, 1) := by decide +kernel
theorem dX11_makeFourth_118 : decode cX11_makeFourth 118 = .ok (.imul, 1) := by decide +kernel
theorem dX11_makeFourth_119 : decode cX11_makeFourth 119 = .ok (.iload_n 2, 1) := by decide +kernel
theorem dX11_makeFourth_120 : decode cX11_makeFourth 120 = .ok (.iadd, 1) := by decide +kernel
theorem dX11_makeFourth_121 : decode cX11_makeFourth 121 = .ok (.imul, 1) := by decide +kernel
theorem dX11_makeFourth_122 : decode cX11_makeFourth 122 = .ok (.iload_n 3, 1) := by decide +kernel
theorem dX11_makeFourth_123 : decode cX11_makeFourth 123 = .ok (.iadd, 1) := by decide +kernel
theorem dX11_makeFourth_124 : decode cX11_makeFourth 124 = .ok (.aload_n 0, 1) := by decide +kernel
theorem dX11_makeFourth_125 : decode cX11_makeFourth 125 = .ok (.iconst 4, 1) := by decide +kernel
theorem dX11_makeFourth_126 : decode cX11_makeFourth 126 = .ok (.invokevirtual 184, 3) := by decide +kernel
theorem dX11_makeFourth_129 : decode cX11_makeFourth 129 = .ok (.iastore, 1) := by decide +kernel
theorem dX11_makeFourth_130 : decode cX11_makeFourth 130 = .ok (.iinc 3 1, 3) := by decide +kernel
theorem dX11_makeFourth_133 : decode cX11_makeFourth 133 = .ok (.goto (-116), 3) := by decide +kernel
theorem dX11_makeFourth_136 : decode cX11_makeFourth 136 = .ok (.iinc 2 1, 3) := by decide +kernel
theorem dX11_makeFourth_139 : decode cX11_makeFourth 139 = .ok (.goto (-130), 3) := by decide +kernel
theorem dX11_makeFourth_142 : decode cX11_makeFourth 142 = .ok (.iinc 1 1, 3) := by decide +kernel
theorem dX11_makeFourth_145 : decode cX11_makeFourth 145 = .ok (.goto (-143), 3) := by decide +kernel
theorem dX11_makeFourth_148 : decode cX11_makeFourth 148 = .ok (.iconst 0, 1) := by decide +kernel
theorem dX11_makeFourth_149 : decode cX11_makeFourth 149 = .ok (.istore_n 1, 1) := by decide +kernel
theorem dX11_makeFourth_150 : decode cX11_makeFourth 150 = .ok (.iload_n 1, 1) := by decide +kernel
theorem dX11_makeFourth_151 : decode cX11_makeFourth 151 = .ok (.bipush 96, 2) := by decide +kernel
theorem dX11_makeFourth_153 : decode cX11_makeFourth 153 = .ok (.if_icmp .ge 69, 3) := by decide +kernel
theorem dX11_makeFourth_156 : decode cX11_makeFourth 156 = .ok (.iconst 0, 1) := by decide +kernel
theorem dX11_makeFourth_157 : decode cX11_makeFourth 157 = .ok (.istore_n 2, 1) := by decide +kernel
theorem dX11_makeFourth_158 : decode cX11_makeFourth 158 = .ok (.iload_n 2, 1) := by decide +kernel
theorem dX11_makeFourth_159 : decode cX11_makeFourth 159 = .ok (.bipush 6, 2) := by decide +kernel
theorem dX11_makeFourth_161 : decode cX11_makeFourth 161 = .ok (.if_icmp .ge 55, 3) := by decide +kernel
theorem dX11_makeFourth_164 : decode cX11_makeFourth 164 = .ok (.aload_n 0, 1) := by decide +kernel
theorem dX11_makeFourth_165 : decode cX11_makeFourth 165 = .ok (.bipush 8, 2) := by decide +kernel
theorem dX11_makeFourth_167 : decode cX11_makeFourth 167 = .ok (.aload_n 0, 1) := by decide +kernel
theorem dX11_makeFourth_168 : decode cX11_makeFourth 168 = .ok (.getfield 96, 3) := by decide +kernel
theorem dX11_makeFourth_171 : decode cX11_makeFourth 171 = .ok (.iload_n 1, 1) := by decide +kernel
theorem dX11_makeFourth_172 : decode cX11_makeFourth 172 = .ok (.iaload, 1) := by decide +kernel
theorem dX11_makeFourth_173 : decode cX11_makeFourth 173 = .ok (.invokevirtual 177, 3) := by decide +kernel
theorem dX11_makeFourth_176 : decode cX11_makeFourth 176 = .ok (.aload_n 0, 1) := by decide +kernel
theorem dX11_makeFourth_177 : decode cX11_makeFourth 177 = .ok (.iconst 3, 1) := by decide +kernel
theorem dX11_makeFourth_178 : decode cX11_makeFourth 178 = .ok (.iload_n 2, 1) := by decide +kernel
theorem dX11_makeFourth_179 : decode cX11_makeFourth 179 = .ok (.imul, 1) := by decide +kernel
theorem dX11_makeFourth_180 : decode cX11_makeFourth 180 = .ok (.iconst 1, 1) := by decide +kernel
theorem dX11_makeFourth_181 : decode cX11_makeFourth 181 = .ok (.iadd, 1) := by decide +kernel
theorem dX11_makeFourth_182 : decode cX11_makeFourth 182 = .ok (.invokevirtual 181, 3) := by decide +kernel
theorem dX11_makeFourth_185 : decode cX11_makeFourth 185 = .ok (.aload_n 0, 1) := by decide +kernel
theorem dX11_makeFourth_186 : decode cX11_makeFourth 186 = .ok (.getfield 109, 3) := by decide +kernel
theorem dX11_makeFourth_189 : decode cX11_makeFourth 189 = .ok (.bipush 6, 2) := by decide +kernel
theorem dX11_makeFourth_191 : decode cX11_makeFourth 191 = .ok (.bipush 72, 2) := by decide +kernel
theorem dX11_makeFourth_193 : decode cX11_makeFourth 193 = .ok (.iload_n 1, 1) := by decide +kernel
theorem dX11_makeFourth_194 : decode cX11_makeFourth 194 = .ok (.iadd, 1) := by decide +kernel
theorem dX11_makeFourth_195 : decode cX11_makeFourth 195 = .ok (.imul, 1) := by decide +kernel
theorem dX11_makeFourth_196 : decode cX11_makeFourth 196 = .ok (.iload_n 2, 1) := by decide +kernel
theorem dX11_makeFourth_197 : decode cX11_makeFourth 197 = .ok (.iadd, 1) := by decide +kernel
theorem dX11_makeFourth_198 : decode cX11_makeFourth 198 = .ok (.aload_n 0, 1) := by decide +kernel
theorem dX11_makeFourth_199 : decode cX11_makeFourth 199 = .ok (.getfield 93, 3) := by decide +kernel
theorem dX11_makeFourth_202 : decode cX11_makeFourth 202 = .ok (.aload_n 0, 1) := by decide +kernel
theorem dX11_makeFourth_203 : decode cX11_makeFourth 203 = .ok (.bipush 8, 2) := by decide +kernel
theorem dX11_makeFourth_205 : decode cX11_makeFourth 205 = .ok (.invokevirtual 184, 3) := by decide +kernel
theorem dX11_makeFourth_208 : decode cX11_makeFourth 208 = .ok (.saload, 1) := by decide +kernel
theorem dX11_makeFourth_209 : decode cX11_makeFourth 209 = .ok (.iastore, 1) := by decide +kernel
theorem dX11_makeFourth_210 : decode cX11_makeFourth 210 = .ok (.iinc 2 1, 3) := by decide +kernel
theorem dX11_makeFourth_213 : decode cX11_makeFourth 213 = .ok (.goto (-55), 3) := by decide +kernel
theorem dX11_makeFourth_216 : decode cX11_makeFourth 216 = .ok (.iinc 1 1, 3) := by decide +kernel
theorem dX11_makeFourth_219 : decode cX11_makeFourth 219 = .ok (.goto (-69), 3) := by decide +kernel
theorem dX11_makeFourth_222 : decode cX11_makeFourth 222 = .ok (.ldc 69, 2) := by decide +kernel
theorem dX11_makeFourth_224 : decode cX11_makeFourth 224 = .ok (.istore_n 1, 1) := by decide +kernel
theorem dX11_makeFourth_225 : decode cX11_makeFourth 225 = .ok (.iconst 0, 1) := by decide +kernel
theorem dX11_makeFourth_226 : decode cX11_makeFourth 226 = .ok (.istore_n 2, 1) := by decide +kernel
theorem dX11_makeFourth_227 : decode cX11_makeFourth 227 = .ok (.iload_n 2, 1) := by decide +kernel
theorem dX11_makeFourth_228 : decode cX11_makeFourth 228 = .ok (.iload_n 1, 1) := by decide +kernel
theorem dX11_makeFourth_229 : decode cX11_makeFourth 229 = .ok (.if_icmp .ge 17, 3) := by decide +kernel
theorem dX11_makeFourth_232 : decode cX11_makeFourth 232 = .ok (.aload_n 0, 1) := by decide +kernel
theorem dX11_makeFourth_233 : decode cX11_makeFourth 233 = .ok (.getfield 70, 3) := by decide +kernel
theorem dX11_makeFourth_236 : decode cX11_makeFourth 236 = .ok (.iload_n 2, 1) := by decide +kernel
theorem dX11_makeFourth_237 : decode cX11_makeFourth 237 = .ok (.bipush 100, 2) := by decide +kernel
theorem dX11_makeFourth_239 : decode cX11_makeFourth 239 = .ok (.bastore, 1) := by decide +kernel
theorem dX11_makeFourth_240 : decode cX11_makeFourth 240 = .ok (.iinc 2 1, 3) := by decide +kernel
theorem dX11_makeFourth_243 : decode cX11_makeFourth 243 = .ok (.goto (-16), 3) := by decide +kernel
theorem dX11_makeFourth_246 : decode cX11_makeFourth 246 = .ok (.aload_n 0, 1) := by decide +kernel
theorem dX11_makeFourth_247 : decode cX11_makeFourth 247 = .ok (.getfield 70, 3) := by decide +kernel
theorem dX11_makeFourth_250 : decode cX11_makeFourth 250 = .ok (.iconst 0, 1) := by decide +kernel
theorem dX11_makeFourth_251 : decode cX11_makeFourth 251 = .ok (.iconst 0, 1) := by decide +kernel
theorem dX11_makeFourth_252 : decode cX11_makeFourth 252 = .ok (.bastore, 1) := by decide +kernel
theorem dX11_makeFourth_253 : decode cX11_makeFourth 253 = .ok (.iconst 1, 1) := by decide +kernel
theorem dX11_makeFourth_254 : decode cX11_makeFourth 254 = .ok (.istore_n 2, 1) := by decide +kernel
theorem dX11_makeFourth_255 : decode cX11_makeFourth 255 = .ok (.iconst 0, 1) := by decide +kernel
theorem dX11_makeFourth_256 : decode cX11_makeFourth 256 = .ok (.istore_n 3, 1) := by decide +kernel
theorem dX11_makeFourth_257 : decode cX11_makeFourth 257 = .ok (.iload_n 2, 1) := by decide +kernel
theorem dX11_makeFourth_258 : decode cX11_makeFourth 258 = .ok (.ifCond .eq 57, 3) := by decide +kernel
theorem dX11_makeFourth_261 : decode cX11_makeFourth 261 = .ok (.iconst 0, 1) := by decide +kernel
theorem dX11_makeFourth_262 : decode cX11_makeFourth 262 = .ok (.istore_n 2, 1) := by decide +kernel
theorem dX11_makeFourth_263 : decode cX11_makeFourth 263 = .ok (.iconst 0, 1) := by decide +kernel
theorem dX11_makeFourth_264 : decode cX11_makeFourth 264 = .ok (.istore 4, 2) := by decide +kernel
theorem dX11_makeFourth_266 : decode cX11_makeFourth 266 = .ok (.iload 4, 2) := by decide +kernel
theorem dX11_makeFourth_268 : decode cX11_makeFourth 268 = .ok (.iload_n 1, 1) := by decide +kernel
theorem dX11_makeFourth_269 : decode cX11_makeFourth 269 = .ok (.if_icmp .ge 40, 3) := by decide +kernel
theorem dX11_makeFourth_272 : decode cX11_makeFourth 272 = .ok (.aload_n 0, 1) := by decide +kernel
theorem dX11_makeFourth_273 : decode cX11_makeFourth 273 = .ok (.getfield 70, 3) := by decide +kernel
theorem dX11_makeFourth_276 : decode cX11_makeFourth 276 = .ok (.iload 4, 2) := by decide +kernel
theorem dX11_makeFourth_278 : decode cX11_makeFourth 278 = .ok (.baload, 1) := by decide +kernel
theorem dX11_makeFourth_279 : decode cX11_makeFourth 279 = .ok (.iload_n 3, 1) := by decide +kernel
theorem dX11_makeFourth_280 : decode cX11_makeFourth 280 = .ok (.if_icmp .ne 23, 3) := by decide +kernel
theorem dX11_makeFourth_283 : decode cX11_makeFourth 283 = .ok (.aload_n 0, 1) := by decide +kernel
theorem dX11_makeFourth_284 : decode cX11_makeFourth 284 = .ok (.iload 4, 2) := by decide +kernel
theorem dX11_makeFourth_286 : decode cX11_makeFourth 286 = .ok (.iload_n 3, 1) := by decide +kernel
theorem dX11_makeFourth_287 : decode cX11_makeFourth 287 = .ok (.invokevirtual 190, 3) := by decide +kernel
theorem dX11_makeFourth_290 : decode cX11_makeFourth 290 = .ok (.ifCond .ne 7, 3) := by decide +kernel
theorem dX11_makeFourth_293 : decode cX11_makeFourth 293 = .ok (.iload_n 2, 1) := by decide +kernel
theorem dX11_makeFourth_294 : decode cX11_makeFourth 294 = .ok (.ifCond .eq 7, 3) := by decide +kernel
theorem dX11_makeFourth_297 : decode cX11_makeFourth 297 = .ok (.iconst 1, 1) := by decide +kernel
theorem dX11_makeFourth_298 : decode cX11_makeFourth 298 = .ok (.goto 4, 3) := by decide +kernel
theorem dX11_makeFourth_301 : decode cX11_makeFourth 301 = .ok (.iconst 0, 1) := by decide +kernel
theorem dX11_makeFourth_302 : decode cX11_makeFourth 302 = .ok (.istore_n 2, 1) := by decide +kernel
theorem dX11_makeFourth_303 : decode cX11_makeFourth 303 = .ok (.iinc 4 1, 3) := by decide +kernel
theorem dX11_makeFourth_306 : decode cX11_makeFourth 306 = .ok (.goto (-40), 3) := by decide +kernel
theorem dX11_makeFourth_309 : decode cX11_makeFourth 309 = .ok (.iinc 3 1, 3) := by decide +kernel
theorem dX11_makeFourth_312 : decode cX11_makeFourth 312 = .ok (.goto (-55), 3) := by decide +kernel
theorem dX11_makeFourth_315 : decode cX11_makeFourth 315 = .ok (.return_, 1) := by decide +kernel
theorem dX11_spread4_0 : decode cX11_spread4 0 = .ok (.iconst 0, 1) := by decide +kernel
theorem dX11_spread4_1 : decode cX11_spread4 1 = .ok (.istore_n 3, 1) := by decide +kernel
theorem dX11_spread4_2 : decode cX11_spread4 2 = .ok (.iconst 0, 1) := by decide +kernel
theorem dX11_spread4_3 : decode cX11_spread4 3 = .ok (.istore 4, 2) := by decide +kernel
theorem dX11_spread4_5 : decode cX11_spread4 5 = .ok (.iload 4, 2) := by decide +kernel
theorem dX11_spread4_7 : decode cX11_spread4 7 = .ok (.bipush 6, 2) := by decide +kernel
theorem dX11_spread4_9 : decode cX11_spread4 9 = .ok (.if_icmp .ge 141, 3) := by decide +kernel
theorem dX11_spread4_12 : decode cX11_spread4 12 = .ok (.aload_n 0, 1) := by decide +kernel
theorem dX11_spread4_13 : decode cX11_spread4 13 = .ok (.getfield 109, 3) := by decide +kernel
theorem dX11_spread4_16 : decode cX11_spread4 16 = .ok (.bipush 6, 2) := by decide +kernel
theorem dX11_spread4_18 : decode cX11_spread4 18 = .ok (.bipush 72, 2) := by decide +kernel
theorem dX11_spread4_20 : decode cX11_spread4 20 = .ok (.iload_n 1, 1) := by decide +kernel
theorem dX11_spread4_21 : decode cX11_spread4 21 = .ok (.sipush 13824, 3) := by decide +kernel
theorem dX11_spread4_24 : decode cX11_spread4 24 = .ok (.idiv, 1) := by decide +kernel
theorem dX11_spread4_25 : decode cX11_spread4 25 = .ok (.iadd, 1) := by decide +kernel
theorem dX11_spread4_26 : decode cX11_spread4 26 = .ok (.imul, 1) := by decide +kernel
theorem dX11_spread4_27 : decode cX11_spread4 27 = .ok (.iload 4, 2) := by decide +kernel
theorem dX11_spread4_29 : decode cX11_spread4 29 = .ok (.iadd, 1) := by decide +kernel
theorem dX11_spread4_30 : decode cX11_spread4 30 = .ok (.iaload, 1) := by decide +kernel
theorem dX11_spread4_31 : decode cX11_spread4 31 = .ok (.istore 5, 2) := by decide +kernel
theorem dX11_spread4_33 : decode cX11_spread4 33 = .ok (.aload_n 0, 1) := by decide +kernel
theorem dX11_spread4_34 : decode cX11_spread4 34 = .ok (.getfield 109, 3) := by decide +kernel
theorem dX11_spread4_37 : decode cX11_spread4 37 = .ok (.bipush 6, 2) := by decide +kernel
theorem dX11_spread4_39 : decode cX11_spread4 39 = .ok (.iload_n 1, 1) := by decide +kernel
theorem dX11_spread4_40 : decode cX11_spread4 40 = .ok (.sipush 576, 3) := by decide +kernel
theorem dX11_spread4_43 : decode cX11_spread4 43 = .ok (.idiv, 1) := by decide +kernel
theorem dX11_spread4_44 : decode cX11_spread4 44 = .ok (.bipush 24, 2) := by decide +kernel
theorem dX11_spread4_46 : decode cX11_spread4 46 = .ok (.irem, 1) := by decide +kernel
theorem dX11_spread4_47 : decode cX11_spread4 47 = .ok (.imul, 1) := by decide +kernel
theorem dX11_spread4_48 : decode cX11_spread4 48 = .ok (.iload 4, 2) := by decide +kernel
theorem dX11_spread4_50 : decode cX11_spread4 50 = .ok (.iadd, 1) := by decide +kernel
theorem dX11_spread4_51 : decode cX11_spread4 51 = .ok (.iaload, 1) := by decide +kernel
theorem dX11_spread4_52 : decode cX11_spread4 52 = .ok (.istore 6, 2) := by decide +kernel
theorem dX11_spread4_54 : decode cX11_spread4 54 = .ok (.aload_n 0, 1) := by decide +kernel
theorem dX11_spread4_55 : decode cX11_spread4 55 = .ok (.getfield 109, 3) := by decide +kernel
theorem dX11_spread4_58 : decode cX11_spread4 58 = .ok (.bipush 6, 2) := by decide +kernel
theorem dX11_spread4_60 : decode cX11_spread4 60 = .ok (.bipush 24, 2) := by decide +kernel
theorem dX11_spread4_62 : decode cX11_spread4 62 = .ok (.iload_n 1, 1) := by decide +kernel
theorem dX11_spread4_63 : decode cX11_spread4 63 = .ok (.bipush 24, 2) := by decide +kernel
theorem dX11_spread4_65 : decode cX11_spread4 65 = .ok (.idiv, 1) := by decide +kernel
theorem dX11_spread4_66 : decode cX11_spread4 66 = .ok (.bipush 24, 2) := by decide +kernel
theorem dX11_spread4_68 : decode cX11_spread4 68 = .ok (.irem, 1) := by decide +kernel
theorem dX11_spread4_69 : decode cX11_spread4 69 = .ok (.iadd, 1) := by decide +kernel
theorem dX11_spread4_70 : decode cX11_spread4 70 = .ok (.imul, 1) := by decide +kernel
theorem dX11_spread4_71 : decode cX11_spread4 71 = .ok (.iload 4, 2) := by decide +kernel
theorem dX11_spread4_73 : decode cX11_spread4 73 = .ok (.iadd, 1) := by decide +kernel
theorem dX11_spread4_74 : decode cX11_spread4 74 = .ok (.iaload, 1) := by decide +kernel
theorem dX11_spread4_75 : decode cX11_spread4 75 = .ok (.istore 7, 2) := by decide +kernel
theorem dX11_spread4_77 : decode cX11_spread4 77 = .ok (.aload_n 0, 1) := by decide +kernel
theorem dX11_spread4_78 : decode cX11_spread4 78 = .ok (.getfield 109, 3) := by decide +kernel
theorem dX11_spread4_81 : decode cX11_spread4 81 = .ok (.bipush 6, 2) := by decide +kernel
theorem dX11_spread4_83 : decode cX11_spread4 83 = .ok (.bipush 48, 2) := by decide +kernel
theorem dX11_spread4_85 : decode cX11_spread4 85 = .ok (.iload_n 1, 1) := by decide +kernel
theorem dX11_spread4_86 : decode cX11_spread4 86 = .ok (.bipush 24, 2) := by decide +kernel
theorem dX11_spread4_88 : decode cX11_spread4 88 = .ok (.irem, 1) := by decide +kernel
theorem dX11_spread4_89 : decode cX11_spread4 89 = .ok (.iadd, 1) := by decide +kernel
theorem dX11_spread4_90 : decode cX11_spread4 90 = .ok (.imul, 1) := by decide +kernel
theorem dX11_spread4_91 : decode cX11_spread4 91 = .ok (.iload 4, 2) := by decide +kernel
theorem dX11_spread4_93 : decode cX11_spread4 93 = .ok (.iadd, 1) := by decide +kernel
theorem dX11_spread4_94 : decode cX11_spread4 94 = .ok (.iaload, 1) := by decide +kernel
theorem dX11_spread4_95 : decode cX11_spread4 95 = .ok (.istore 8, 2) := by decide +kernel
theorem dX11_spread4_97 : decode cX11_spread4 97 = .ok (.iload 5, 2) := by decide +kernel
theorem dX11_spread4_99 : decode cX11_spread4 99 = .ok (.bipush 24, 2) := by decide +kernel
theorem dX11_spread4_101 : decode cX11_spread4 101 = .ok (.imul, 1) := by decide +kernel
theorem dX11_spread4_102 : decode cX11_spread4 102 = .ok (.iload 6, 2) := by decide +kernel
theorem dX11_spread4_104 : decode cX11_spread4 104 = .ok (.iadd, 1) := by decide +kernel
theorem dX11_spread4_105 : decode cX11_spread4 105 = .ok (.bipush 24, 2) := by decide +kernel
theorem dX11_spread4_107 : decode cX11_spread4 107 = .ok (.imul, 1) := by decide +kernel
theorem dX11_spread4_108 : decode cX11_spread4 108 = .ok (.iload 7, 2) := by decide +kernel
theorem dX11_spread4_110 : decode cX11_spread4 110 = .ok (.iadd, 1) := by decide +kernel
theorem dX11_spread4_111 : decode cX11_spread4 111 = .ok (.bipush 24, 2) := by decide +kernel
theorem dX11_spread4_113 : decode cX11_spread4 113 = .ok (.imul, 1) := by decide +kernel
theorem dX11_spread4_114 : decode cX11_spread4 114 = .ok (.iload 8, 2) := by decide +kernel
theorem dX11_spread4_116 : decode cX11_spread4 116 = .ok (.iadd, 1) := by decide +kernel
theorem dX11_spread4_117 : decode cX11_spread4 117 = .ok (.istore 9, 2) := by decide +kernel
theorem dX11_spread4_119 : decode cX11_spread4 119 = .ok (.aload_n 0, 1) := by decide +kernel
theorem dX11_spread4_120 : decode cX11_spread4 120 = .ok (.getfield 70, 3) := by decide +kernel
theorem dX11_spread4_123 : decode cX11_spread4 123 = .ok (.iload 9, 2) := by decide +kernel
theorem dX11_spread4_125 : decode cX11_spread4 125 = .ok (.baload, 1) := by decide +kernel
theorem dX11_spread4_126 : decode cX11_spread4 126 = .ok (.bipush 100, 2) := by decide +kernel
theorem dX11_spread4_128 : decode cX11_spread4 128 = .ok (.if_icmp .ne 16, 3) := by decide +kernel
theorem dX11_spread4_131 : decode cX11_spread4 131 = .ok (.aload_n 0, 1) := by decide +kernel
theorem dX11_spread4_132 : decode cX11_spread4 132 = .ok (.getfield 70, 3) := by decide +kernel
theorem dX11_spread4_135 : decode cX11_spread4 135 = .ok (.iload 9, 2) := by decide +kernel
theorem dX11_spread4_137 : decode cX11_spread4 137 = .ok (.iload_n 2, 1) := by decide +kernel
theorem dX11_spread4_138 : decode cX11_spread4 138 = .ok (.iconst 1, 1) := by decide +kernel
theorem dX11_spread4_139 : decode cX11_spread4 139 = .ok (.iadd, 1) := by decide +kernel
theorem dX11_spread4_140 : decode cX11_spread4 140 = .ok (.i2b, 1) := by decide +kernel
theorem dX11_spread4_141 : decode cX11_spread4 141 = .ok (.bastore, 1) := by decide +kernel
theorem dX11_spread4_142 : decode cX11_spread4 142 = .ok (.iconst 1, 1) := by decide +kernel
theorem dX11_spread4_143 : decode cX11_spread4 143 = .ok (.istore_n 3, 1) := by decide +kernel
theorem dX11_spread4_144 : decode cX11_spread4 144 = .ok (.iinc 4 1, 3) := by decide +kernel
theorem dX11_spread4_147 : decode cX11_spread4 147 = .ok (.goto (-142), 3) := by decide +kernel
theorem dX11_spread4_150 : decode cX11_spread4 150 = .ok (.iload_n 3, 1) := by decide +kernel
theorem dX11_spread4_151 : decode cX11_spread4 151 = .ok (.ireturn, 1) := by decide +kernel
set_option maxRecDepth 20000 in
theorem ggX11_far_X11_rank : GoodIn wsX11_far wsX11_rank := goodIn_r _ [18, 7, 19, 20, 21, 22, 23, 24, 25, 26, 27, 28, 29, 30, 31, 32, 33, 34, 35, 36, 37, 38, 39, 40, 41, 42, 43, 44, 45, 46, 47, 48, 49, 50, 51, 52, 53, 54, 55, 56] (by decide +kernel) (by decide +kernel)
set_option maxRecDepth 20000 in
theorem gX11_far_X11_rank : GoodIn wsX11_far (wsV RX11 184 RX11 yX11_rank wsX11_rank) := goodIn_app (goodIn_of _ (by decide +kernel)) ggX11_far_X11_rank
theorem dX11_far_0 : decode cX11_far 0 = .ok (.iload_n 1, 1) := by decide +kernel
theorem dX11_far_1 : decode cX11_far 1 = .ok (.ifCond .ne 37, 3) := by decide +kernel
theorem dX11_far_4 : decode cX11_far 4 = .ok (.iconst 0, 1) := by decide +kernel
theorem dX11_far_5 : decode cX11_far 5 = .ok (.istore_n 2, 1) := by decide +kernel
theorem dX11_far_6 : decode cX11_far 6 = .ok (.iconst 0, 1) := by decide +kernel
theorem dX11_far_7 : decode cX11_far 7 = .ok (.istore_n 3, 1) := by decide +kernel
theorem dX11_far_8 : decode cX11_far 8 = .ok (.iload_n 3, 1) := by decide +kernel
theorem dX11_far_9 : decode cX11_far 9 = .ok (.bipush 12, 2) := by decide +kernel
theorem dX11_far_11 : decode cX11_far 11 = .ok (.if_icmp .ge 20, 3) := by decide +kernel
theorem dX11_far_14 : decode cX11_far 14 = .ok (.iload_n 2, 1) := by decide +kernel
theorem dX11_far_15 : decode cX11_far 15 = .ok (.aload_n 0, 1) := by decide +kernel
theorem dX11_far_16 : decode cX11_far 16 = .ok (.getfield 31, 3) := by decide +kernel
theorem dX11_far_19 : decode cX11_far 19 = .ok (.iload_n 3, 1) := by decide +kernel
theorem dX11_far_20 : decode cX11_far 20 = .ok (.iaload, 1) := by decide +kernel
theorem dX11_far_21 : decode cX11_far 21 = .ok (.iload_n 3, 1) := by decide +kernel
theorem dX11_far_22 : decode cX11_far 22 = .ok (.ishl, 1) := by decide +kernel
theorem dX11_far_23 : decode cX11_far 23 = .ok (.ior, 1) := by decide +kernel
theorem dX11_far_24 : decode cX11_far 24 = .ok (.istore_n 2, 1) := by decide +kernel
theorem dX11_far_25 : decode cX11_far 25 = .ok (.iinc 3 1, 3) := by decide +kernel
theorem dX11_far_28 : decode cX11_far 28 = .ok (.goto (-20), 3) := by decide +kernel
theorem dX11_far_31 : decode cX11_far 31 = .ok (.aload_n 0, 1) := by decide +kernel
theorem dX11_far_32 : decode cX11_far 32 = .ok (.getfield 58, 3) := by decide +kernel
theorem dX11_far_35 : decode cX11_far 35 = .ok (.iload_n 2, 1) := by decide +kernel
theorem dX11_far_36 : decode cX11_far 36 = .ok (.baload, 1) := by decide +kernel
theorem dX11_far_37 : decode cX11_far 37 = .ok (.ireturn, 1) := by decide +kernel
theorem dX11_far_38 : decode cX11_far 38 = .ok (.iload_n 1, 1) := by decide +kernel
theorem dX11_far_39 : decode cX11_far 39 = .ok (.iconst 1, 1) := by decide +kernel
theorem dX11_far_40 : decode cX11_far 40 = .ok (.if_icmp .ne 88, 3) := by decide +kernel
theorem dX11_far_43 : decode cX11_far 43 = .ok (.iconst 0, 1) := by decide +kernel
theorem dX11_far_44 : decode cX11_far 44 = .ok (.istore_n 2, 1) := by decide +kernel
theorem dX11_far_45 : decode cX11_far 45 = .ok (.bipush 6, 2) := by decide +kernel
theorem dX11_far_47 : decode cX11_far 47 = .ok (.istore_n 3, 1) := by decide +kernel
theorem dX11_far_48 : decode cX11_far 48 = .ok (.iload_n 3, 1) := by decide +kernel
theorem dX11_far_49 : decode cX11_far 49 = .ok (.ifCond .lt 20, 3) := by decide +kernel
theorem dX11_far_52 : decode cX11_far 52 = .ok (.iconst 3, 1) := by decide +kernel
theorem dX11_far_53 : decode cX11_far 53 = .ok (.iload_n 2, 1) := by decide +kernel
theorem dX11_far_54 : decode cX11_far 54 = .ok (.imul, 1) := by decide +kernel
theorem dX11_far_55 : decode cX11_far 55 = .ok (.aload_n 0, 1) := by decide +kernel
theorem dX11_far_56 : decode cX11_far 56 = .ok (.getfield 25, 3) := by decide +kernel
theorem dX11_far_59 : decode cX11_far 59 = .ok (.iload_n 3, 1) := by decide +kernel
theorem dX11_far_60 : decode cX11_far 60 = .ok (.iaload, 1) := by decide +kernel
theorem dX11_far_61 : decode cX11_far 61 = .ok (.iadd, 1) := by decide +kernel
theorem dX11_far_62 : decode cX11_far 62 = .ok (.istore_n 2, 1) := by decide +kernel
theorem dX11_far_63 : decode cX11_far 63 = .ok (.iinc 3 (-1), 3) := by decide +kernel
theorem dX11_far_66 : decode cX11_far 66 = .ok (.goto (-18), 3) := by decide +kernel
theorem dX11_far_69 : decode cX11_far 69 = .ok (.iconst 0, 1) := by decide +kernel
theorem dX11_far_70 : decode cX11_far 70 = .ok (.istore_n 3, 1) := by decide +kernel
theorem dX11_far_71 : decode cX11_far 71 = .ok (.iconst 0, 1) := by decide +kernel
theorem dX11_far_72 : decode cX11_far 72 = .ok (.istore 4, 2) := by decide +kernel
theorem dX11_far_74 : decode cX11_far 74 = .ok (.iload 4, 2) := by decide +kernel
theorem dX11_far_76 : decode cX11_far 76 = .ok (.bipush 12, 2) := by decide +kernel
theorem dX11_far_78 : decode cX11_far 78 = .ok (.if_icmp .ge 32, 3) := by decide +kernel
theorem dX11_far_81 : decode cX11_far 81 = .ok (.iload_n 3, 1) := by decide +kernel
theorem dX11_far_82 : decode cX11_far 82 = .ok (.aload_n 0, 1) := by decide +kernel
theorem dX11_far_83 : decode cX11_far 83 = .ok (.getfield 28, 3) := by decide +kernel
theorem dX11_far_86 : decode cX11_far 86 = .ok (.iload 4, 2) := by decide +kernel
theorem dX11_far_88 : decode cX11_far 88 = .ok (.iaload, 1) := by decide +kernel
theorem dX11_far_89 : decode cX11_far 89 = .ok (.bipush 7, 2) := by decide +kernel
theorem dX11_far_91 : decode cX11_far 91 = .ok (.if_icmp .le 10, 3) := by decide +kernel
theorem dX11_far_94 : decode cX11_far 94 = .ok (.iconst 1, 1) := by decide +kernel
theorem dX11_far_95 : decode cX11_far 95 = .ok (.iload 4, 2) := by decide +kernel
theorem dX11_far_97 : decode cX11_far 97 = .ok (.ishl, 1) := by decide +kernel
theorem dX11_far_98 : decode cX11_far 98 = .ok (.goto 4, 3) := by decide +kernel
theorem dX11_far_101 : decode cX11_far 101 = .ok (.iconst 0, 1) := by decide +kernel
theorem dX11_far_102 : decode cX11_far 102 = .ok (.ior, 1) := by decide +kernel
theorem dX11_far_103 : decode cX11_far 103 = .ok (.istore_n 3, 1) := by decide +kernel
theorem dX11_far_104 : decode cX11_far 104 = .ok (.iinc 4 1, 3) := by decide +kernel
theorem dX11_far_107 : decode cX11_far 107 = .ok (.goto (-33), 3) := by decide +kernel
theorem dX11_far_110 : decode cX11_far 110 = .ok (.aload_n 0, 1) := by decide +kernel
theorem dX11_far_111 : decode cX11_far 111 = .ok (.getfield 63, 3) := by decide +kernel
theorem dX11_far_114 : decode cX11_far 114 = .ok (.sipush 495, 3) := by decide +kernel
theorem dX11_far_117 : decode cX11_far 117 = .ok (.iload_n 2, 1) := by decide +kernel
theorem dX11_far_118 : decode cX11_far 118 = .ok (.imul, 1) := by decide +kernel
theorem dX11_far_119 : decode cX11_far 119 = .ok (.aload_n 0, 1) := by decide +kernel
theorem dX11_far_120 : decode cX11_far 120 = .ok (.getfield 73, 3) := by decide +kernel
theorem dX11_far_123 : decode cX11_far 123 = .ok (.iload_n 3, 1) := by decide +kernel
theorem dX11_far_124 : decode cX11_far 124 = .ok (.saload, 1) := by decide +kernel
theorem dX11_far_125 : decode cX11_far 125 = .ok (.iadd, 1) := by decide +kernel
theorem dX11_far_126 : decode cX11_far 126 = .ok (.baload, 1) := by decide +kernel
theorem dX11_far_127 : decode cX11_far 127 = .ok (.ireturn, 1) := by decide +kernel
theorem dX11_far_128 : decode cX11_far 128 = .ok (.iconst 0, 1) := by decide +kernel
theorem dX11_far_129 : decode cX11_far 129 = .ok (.istore_n 2, 1) := by decide +kernel
theorem dX11_far_130 : decode cX11_far 130 = .ok (.iload_n 2, 1) := by decide +kernel
theorem dX11_far_131 : decode cX11_far 131 = .ok (.bipush 8, 2) := by decide +kernel
theorem dX11_far_133 : decode cX11_far 133 = .ok (.if_icmp .ge 21, 3) := by decide +kernel
theorem dX11_far_136 : decode cX11_far 136 = .ok (.aload_n 0, 1) := by decide +kernel
theorem dX11_far_137 : decode cX11_far 137 = .ok (.getfield 112, 3) := by decide +kernel
theorem dX11_far_140 : decode cX11_far 140 = .ok (.iload_n 2, 1) := by decide +kernel
theorem dX11_far_141 : decode cX11_far 141 = .ok (.aload_n 0, 1) := by decide +kernel
theorem dX11_far_142 : decode cX11_far 142 = .ok (.getfield 22, 3) := by decide +kernel
theorem dX11_far_145 : decode cX11_far 145 = .ok (.iload_n 2, 1) := by decide +kernel
theorem dX11_far_146 : decode cX11_far 146 = .ok (.iaload, 1) := by decide +kernel
theorem dX11_far_147 : decode cX11_far 147 = .ok (.iastore, 1) := by decide +kernel
theorem dX11_far_148 : decode cX11_far 148 = .ok (.iinc 2 1, 3) := by decide +kernel
theorem dX11_far_151 : decode cX11_far 151 = .ok (.goto (-21), 3) := by decide +kernel
theorem dX11_far_154 : decode cX11_far 154 = .ok (.aload_n 0, 1) := by decide +kernel
theorem dX11_far_155 : decode cX11_far 155 = .ok (.bipush 8, 2) := by decide +kernel
theorem dX11_far_157 : decode cX11_far 157 = .ok (.invokevirtual 184, 3) := by decide +kernel
theorem dX11_far_160 : decode cX11_far 160 = .ok (.istore_n 2, 1) := by decide +kernel
theorem dX11_far_161 : decode cX11_far 161 = .ok (.iload_n 1, 1) := by decide +kernel
theorem dX11_far_162 : decode cX11_far 162 = .ok (.iconst 2, 1) := by decide +kernel
theorem dX11_far_163 : decode cX11_far 163 = .ok (.if_icmp .ne 65, 3) := by decide +kernel
theorem dX11_far_166 : decode cX11_far 166 = .ok (.iconst 0, 1) := by decide +kernel
theorem dX11_far_167 : decode cX11_far 167 = .ok (.istore_n 3, 1) := by decide +kernel
theorem dX11_far_168 : decode cX11_far 168 = .ok (.iconst 0, 1) := by decide +kernel
theorem dX11_far_169 : decode cX11_far 169 = .ok (.istore 4, 2) := by decide +kernel
theorem dX11_far_171 : decode cX11_far 171 = .ok (.iload 4, 2) := by decide +kernel
theorem dX11_far_173 : decode cX11_far 173 = .ok (.bipush 8, 2) := by decide +kernel
theorem dX11_far_175 : decode cX11_far 175 = .ok (.if_icmp .ge 31, 3) := by decide +kernel
theorem dX11_far_178 : decode cX11_far 178 = .ok (.iload_n 3, 1) := by decide +kernel
theorem dX11_far_179 : decode cX11_far 179 = .ok (.aload_n 0, 1) := by decide +kernel
theorem dX11_far_180 : decode cX11_far 180 = .ok (.getfield 28, 3) := by decide +kernel
theorem dX11_far_183 : decode cX11_far 183 = .ok (.iload 4, 2) := by decide +kernel
theorem dX11_far_185 : decode cX11_far 185 = .ok (.iaload, 1) := by decide +kernel
theorem dX11_far_186 : decode cX11_far 186 = .ok (.iconst 4, 1) := by decide +kernel
theorem dX11_far_187 : decode cX11_far 187 = .ok (.if_icmp .ge 10, 3) := by decide +kernel
theorem dX11_far_190 : decode cX11_far 190 = .ok (.iconst 1, 1) := by decide +kernel
theorem dX11_far_191 : decode cX11_far 191 = .ok (.iload 4, 2) := by decide +kernel
theorem dX11_far_193 : decode cX11_far 193 = .ok (.ishl, 1) := by decide +kernel
theorem dX11_far_194 : decode cX11_far 194 = .ok (.goto 4, 3) := by decide +kernel
theorem dX11_far_197 : decode cX11_far 197 = .ok (.iconst 0, 1) := by decide +kernel
theorem dX11_far_198 : decode cX11_far 198 = .ok (.ior, 1) := by decide +kernel
theorem dX11_far_199 : decode cX11_far 199 = .ok (.istore_n 3, 1) := by decide +kernel
theorem dX11_far_200 : decode cX11_far 200 = .ok (.iinc 4 1, 3) := by decide +kernel
theorem dX11_far_203 : decode cX11_far 203 = .ok (.goto (-32), 3) := by decide +kernel
theorem dX11_far_206 : decode cX11_far 206 = .ok (.aload_n 0, 1) := by decide +kernel
theorem dX11_far_207 : decode cX11_far 207 = .ok (.getfield 66, 3) := by decide +kernel
theorem dX11_far_210 : decode cX11_far 210 = .ok (.bipush 70, 2) := by decide +kernel
theorem dX11_far_212 : decode cX11_far 212 = .ok (.aload_n 0, 1) := by decide +kernel
theorem dX11_far_213 : decode cX11_far 213 = .ok (.getfield 87, 3) := by decide +kernel
theorem dX11_far_216 : decode cX11_far 216 = .ok (.iload_n 2, 1) := by decide +kernel
theorem dX11_far_217 : decode cX11_far 217 = .ok (.saload, 1) := by decide +kernel
theorem dX11_far_218 : decode cX11_far 218 = .ok (.imul, 1) := by decide +kernel
theorem dX11_far_219 : decode cX11_far 219 = .ok (.aload_n 0, 1) := by decide +kernel
theorem dX11_far_220 : decode cX11_far 220 = .ok (.getfield 80, 3) := by decide +kernel
theorem dX11_far_223 : decode cX11_far 223 = .ok (.iload_n 3, 1) := by decide +kernel
theorem dX11_far_224 : decode cX11_far 224 = .ok (.saload, 1) := by decide +kernel
theorem dX11_far_225 : decode cX11_far 225 = .ok (.iadd, 1) := by decide +kernel
theorem dX11_far_226 : decode cX11_far 226 = .ok (.baload, 1) := by decide +kernel
theorem dX11_far_227 : decode cX11_far 227 = .ok (.ireturn, 1) := by decide +kernel
theorem dX11_far_228 : decode cX11_far 228 = .ok (.aload_n 0, 1) := by decide +kernel
theorem dX11_far_229 : decode cX11_far 229 = .ok (.getfield 93, 3) := by decide +kernel
theorem dX11_far_232 : decode cX11_far 232 = .ok (.iload_n 2, 1) := by decide +kernel
theorem dX11_far_233 : decode cX11_far 233 = .ok (.saload, 1) := by decide +kernel
theorem dX11_far_234 : decode cX11_far 234 = .ok (.istore_n 3, 1) := by decide +kernel
theorem dX11_far_235 : decode cX11_far 235 = .ok (.iconst 0, 1) := by decide +kernel
theorem dX11_far_236 : decode cX11_far 236 = .ok (.istore 4, 2) := by decide +kernel
theorem dX11_far_238 : decode cX11_far 238 = .ok (.iload 4, 2) := by decide +kernel
theorem dX11_far_240 : decode cX11_far 240 = .ok (.iconst 3, 1) := by decide +kernel
theorem dX11_far_241 : decode cX11_far 241 = .ok (.if_icmp .ge 59, 3) := by decide +kernel
theorem dX11_far_244 : decode cX11_far 244 = .ok (.iconst 0, 1) := by decide +kernel
theorem dX11_far_245 : decode cX11_far 245 = .ok (.istore 5, 2) := by decide +kernel
theorem dX11_far_247 : decode cX11_far 247 = .ok (.iload 5, 2) := by decide +kernel
theorem dX11_far_249 : decode cX11_far 249 = .ok (.iconst 4, 1) := by decide +kernel
theorem dX11_far_250 : decode cX11_far 250 = .ok (.if_icmp .ge 33, 3) := by decide +kernel
theorem dX11_far_253 : decode cX11_far 253 = .ok (.aload_n 0, 1) := by decide +kernel
theorem dX11_far_254 : decode cX11_far 254 = .ok (.getfield 112, 3) := by decide +kernel
theorem dX11_far_257 : decode cX11_far 257 = .ok (.iload 5, 2) := by decide +kernel
theorem dX11_far_259 : decode cX11_far 259 = .ok (.aload_n 0, 1) := by decide +kernel
theorem dX11_far_260 : decode cX11_far 260 = .ok (.getfield 28, 3) := by decide +kernel
theorem dX11_far_263 : decode cX11_far 263 = .ok (.iconst 4, 1) := by decide +kernel
theorem dX11_far_264 : decode cX11_far 264 = .ok (.iload 4, 2) := by decide +kernel
theorem dX11_far_266 : decode cX11_far 266 = .ok (.imul, 1) := by decide +kernel
theorem dX11_far_267 : decode cX11_far 267 = .ok (.iload 5, 2) := by decide +kernel
theorem dX11_far_269 : decode cX11_far 269 = .ok (.iadd, 1) := by decide +kernel
theorem dX11_far_270 : decode cX11_far 270 = .ok (.iaload, 1) := by decide +kernel
theorem dX11_far_271 : decode cX11_far 271 = .ok (.iconst 4, 1) := by decide +kernel
theorem dX11_far_272 : decode cX11_far 272 = .ok (.iload 4, 2) := by decide +kernel
theorem dX11_far_274 : decode cX11_far 274 = .ok (.imul, 1) := by decide +kernel
theorem dX11_far_275 : decode cX11_far 275 = .ok (.isub, 1) := by decide +kernel
theorem dX11_far_276 : decode cX11_far 276 = .ok (.iastore, 1) := by decide +kernel
theorem dX11_far_277 : decode cX11_far 277 = .ok (.iinc 5 1, 3) := by decide +kernel
theorem dX11_far_280 : decode cX11_far 280 = .ok (.goto (-33), 3) := by decide +kernel
theorem dX11_far_283 : decode cX11_far 283 = .ok (.bipush 24, 2) := by decide +kernel
theorem dX11_far_285 : decode cX11_far 285 = .ok (.iload_n 3, 1) := by decide +kernel
theorem dX11_far_286 : decode cX11_far 286 = .ok (.imul, 1) := by decide +kernel
theorem dX11_far_287 : decode cX11_far 287 = .ok (.aload_n 0, 1) := by decide +kernel
theorem dX11_far_288 : decode cX11_far 288 = .ok (.iconst 4, 1) := by decide +kernel
theorem dX11_far_289 : decode cX11_far 289 = .ok (.invokevirtual 184, 3) := by decide +kernel
theorem dX11_far_292 : decode cX11_far 292 = .ok (.iadd, 1) := by decide +kernel
theorem dX11_far_293 : decode cX11_far 293 = .ok (.istore_n 3, 1) := by decide +kernel
theorem dX11_far_294 : decode cX11_far 294 = .ok (.iinc 4 1, 3) := by decide +kernel
theorem dX11_far_297 : decode cX11_far 297 = .ok (.goto (-59), 3) := by decide +kernel
theorem dX11_far_300 : decode cX11_far 300 = .ok (.aload_n 0, 1) := by decide +kernel
theorem dX11_far_301 : decode cX11_far 301 = .ok (.getfield 70, 3) := by decide +kernel
theorem dX11_far_304 : decode cX11_far 304 = .ok (.iload_n 3, 1) := by decide +kernel
theorem dX11_far_305 : decode cX11_far 305 = .ok (.baload, 1) := by decide +kernel
theorem dX11_far_306 : decode cX11_far 306 = .ok (.ireturn, 1) := by decide +kernel
set_option maxRecDepth 20000 in
theorem ggX11_walk_X11_far : GoodIn wsX11_walk wsX11_far := goodIn_r _ [8, 9, 10, 11, 12, 13, 14, 15, 16, 17, 18, 19, 20, 21, 22, 23, 24, 7, 25, 39, 40, 41, 42, 43, 44, 45, 46, 47, 48, 49, 50, 51, 52, 53, 54, 55, 56, 57, 58, 59, 60, 61, 62, 63, 64, 65, 66, 67, 68, 69, 70, 71, 72, 73, 74, 75, 76] (by decide +kernel) (by decide +kernel)
set_option maxRecDepth 20000 in
theorem gX11_walk_X11_far : GoodIn wsX11_walk (wsV RX11 193 RX11 yX11_far wsX11_far) := goodIn_app (goodIn_of _ (by decide +kernel)) ggX11_walk_X11_far
set_option maxRecDepth 20000 in
theorem ggX11_walk_X11_may : GoodIn wsX11_walk wsX11_may := goodIn_r _ [28] (by decide +kernel) (by decide +kernel)
set_option maxRecDepth 20000 in
theorem gX11_walk_X11_may : GoodIn wsX11_walk (va_wsS RX11 174 yX11_may wsX11_may) := goodIn_app (goodIn_of _ (by decide +kernel)) ggX11_walk_X11_may
set_option maxRecDepth 20000 in
theorem ggX11_walk_X11_turnIt : GoodIn wsX11_walk wsX11_turnIt := goodIn_r _ [32, 33, 16, 34, 11, 35, 36, 12, 9, 37, 38, 39, 40, 41, 42, 43, 44, 45, 46, 47, 48, 49, 50, 51, 52, 53, 54, 55, 56, 57, 58, 59, 60, 61, 62, 63, 64, 65, 66, 67, 68, 69, 70, 71, 72, 73, 74, 75, 76] (by decide +kernel) (by decide +kernel)
set_option maxRecDepth 20000 in
theorem gX11_walk_X11_turnIt : GoodIn wsX11_walk (wsV RX11 132 RX11 yX11_turnIt wsX11_turnIt) := goodIn_app (goodIn_of _ (by decide +kernel)) ggX11_walk_X11_turnIt
theorem dX11_walk_0 : decode cX11_walk 0 = .ok (.aload_n 0, 1) := by decide +kernel
theorem dX11_walk_1 : decode cX11_walk 1 = .ok (.iload_n 1, 1) := by decide +kernel
theorem dX11_walk_2 : decode cX11_walk 2 = .ok (.invokevirtual 193, 3) := by decide +kernel
theorem dX11_walk_5 : decode cX11_walk 5 = .ok (.istore_n 2, 1) := by decide +kernel
theorem dX11_walk_6 : decode cX11_walk 6 = .ok (.aload_n 0, 1) := by decide +kernel
theorem dX11_walk_7 : decode cX11_walk 7 = .ok (.getfield 55, 3) := by decide +kernel
theorem dX11_walk_10 : decode cX11_walk 10 = .ok (.iload_n 1, 1) := by decide +kernel
theorem dX11_walk_11 : decode cX11_walk 11 = .ok (.iload_n 2, 1) := by decide +kernel
theorem dX11_walk_12 : decode cX11_walk 12 = .ok (.iastore, 1) := by decide +kernel
theorem dX11_walk_13 : decode cX11_walk 13 = .ok (.iload_n 2, 1) := by decide +kernel
theorem dX11_walk_14 : decode cX11_walk 14 = .ok (.ifCond .le 98, 3) := by decide +kernel
theorem dX11_walk_17 : decode cX11_walk 17 = .ok (.iconst 0, 1) := by decide +kernel
theorem dX11_walk_18 : decode cX11_walk 18 = .ok (.istore_n 3, 1) := by decide +kernel
theorem dX11_walk_19 : decode cX11_walk 19 = .ok (.iconst 0, 1) := by decide +kernel
theorem dX11_walk_20 : decode cX11_walk 20 = .ok (.istore 4, 2) := by decide +kernel
theorem dX11_walk_22 : decode cX11_walk 22 = .ok (.iload 4, 2) := by decide +kernel
theorem dX11_walk_24 : decode cX11_walk 24 = .ok (.ifCond .ne 60, 3) := by decide +kernel
theorem dX11_walk_27 : decode cX11_walk 27 = .ok (.iload_n 1, 1) := by decide +kernel
theorem dX11_walk_28 : decode cX11_walk 28 = .ok (.iload_n 3, 1) := by decide +kernel
theorem dX11_walk_29 : decode cX11_walk 29 = .ok (.invokestatic 174, 3) := by decide +kernel
theorem dX11_walk_32 : decode cX11_walk 32 = .ok (.ifCond .eq 46, 3) := by decide +kernel
theorem dX11_walk_35 : decode cX11_walk 35 = .ok (.aload_n 0, 1) := by decide +kernel
theorem dX11_walk_36 : decode cX11_walk 36 = .ok (.iload_n 3, 1) := by decide +kernel
theorem dX11_walk_37 : decode cX11_walk 37 = .ok (.invokevirtual 132, 3) := by decide +kernel
theorem dX11_walk_40 : decode cX11_walk 40 = .ok (.aload_n 0, 1) := by decide +kernel
theorem dX11_walk_41 : decode cX11_walk 41 = .ok (.iload_n 1, 1) := by decide +kernel
theorem dX11_walk_42 : decode cX11_walk 42 = .ok (.invokevirtual 193, 3) := by decide +kernel
theorem dX11_walk_45 : decode cX11_walk 45 = .ok (.iload_n 2, 1) := by decide +kernel
theorem dX11_walk_46 : decode cX11_walk 46 = .ok (.iconst 1, 1) := by decide +kernel
theorem dX11_walk_47 : decode cX11_walk 47 = .ok (.isub, 1) := by decide +kernel
theorem dX11_walk_48 : decode cX11_walk 48 = .ok (.if_icmp .ne 7, 3) := by decide +kernel
theorem dX11_walk_51 : decode cX11_walk 51 = .ok (.iconst 1, 1) := by decide +kernel
theorem dX11_walk_52 : decode cX11_walk 52 = .ok (.goto 4, 3) := by decide +kernel
theorem dX11_walk_55 : decode cX11_walk 55 = .ok (.iconst 0, 1) := by decide +kernel
theorem dX11_walk_56 : decode cX11_walk 56 = .ok (.istore 4, 2) := by decide +kernel
theorem dX11_walk_58 : decode cX11_walk 58 = .ok (.iload 4, 2) := by decide +kernel
theorem dX11_walk_60 : decode cX11_walk 60 = .ok (.ifCond .ne 18, 3) := by decide +kernel
theorem dX11_walk_63 : decode cX11_walk 63 = .ok (.aload_n 0, 1) := by decide +kernel
theorem dX11_walk_64 : decode cX11_walk 64 = .ok (.iload_n 3, 1) := by decide +kernel
theorem dX11_walk_65 : decode cX11_walk 65 = .ok (.iload_n 3, 1) := by decide +kernel
theorem dX11_walk_66 : decode cX11_walk 66 = .ok (.iconst 3, 1) := by decide +kernel
theorem dX11_walk_67 : decode cX11_walk 67 = .ok (.irem, 1) := by decide +kernel
theorem dX11_walk_68 : decode cX11_walk 68 = .ok (.isub, 1) := by decide +kernel
theorem dX11_walk_69 : decode cX11_walk 69 = .ok (.iconst 2, 1) := by decide +kernel
theorem dX11_walk_70 : decode cX11_walk 70 = .ok (.iadd, 1) := by decide +kernel
theorem dX11_walk_71 : decode cX11_walk 71 = .ok (.iload_n 3, 1) := by decide +kernel
theorem dX11_walk_72 : decode cX11_walk 72 = .ok (.iconst 3, 1) := by decide +kernel
theorem dX11_walk_73 : decode cX11_walk 73 = .ok (.irem, 1) := by decide +kernel
theorem dX11_walk_74 : decode cX11_walk 74 = .ok (.isub, 1) := by decide +kernel
theorem dX11_walk_75 : decode cX11_walk 75 = .ok (.invokevirtual 132, 3) := by decide +kernel
theorem dX11_walk_78 : decode cX11_walk 78 = .ok (.iinc 3 1, 3) := by decide +kernel
theorem dX11_walk_81 : decode cX11_walk 81 = .ok (.goto (-59), 3) := by decide +kernel
theorem dX11_walk_84 : decode cX11_walk 84 = .ok (.aload_n 0, 1) := by decide +kernel
theorem dX11_walk_85 : decode cX11_walk 85 = .ok (.getfield 52, 3) := by decide +kernel
theorem dX11_walk_88 : decode cX11_walk 88 = .ok (.aload_n 0, 1) := by decide +kernel
theorem dX11_walk_89 : decode cX11_walk 89 = .ok (.getfield 196, 3) := by decide +kernel
theorem dX11_walk_92 : decode cX11_walk 92 = .ok (.iload_n 3, 1) := by decide +kernel
theorem dX11_walk_93 : decode cX11_walk 93 = .ok (.iconst 1, 1) := by decide +kernel
theorem dX11_walk_94 : decode cX11_walk 94 = .ok (.isub, 1) := by decide +kernel
theorem dX11_walk_95 : decode cX11_walk 95 = .ok (.iastore, 1) := by decide +kernel
theorem dX11_walk_96 : decode cX11_walk 96 = .ok (.aload_n 0, 1) := by decide +kernel
theorem dX11_walk_97 : decode cX11_walk 97 = .ok (.dup, 1) := by decide +kernel
theorem dX11_walk_98 : decode cX11_walk 98 = .ok (.getfield 196, 3) := by decide +kernel
theorem dX11_walk_101 : decode cX11_walk 101 = .ok (.iconst 1, 1) := by decide +kernel
theorem dX11_walk_102 : decode cX11_walk 102 = .ok (.iadd, 1) := by decide +kernel
theorem dX11_walk_103 : decode cX11_walk 103 = .ok (.putfield 196, 3) := by decide +kernel
theorem dX11_walk_106 : decode cX11_walk 106 = .ok (.iinc 2 (-1), 3) := by decide +kernel
theorem dX11_walk_109 : decode cX11_walk 109 = .ok (.goto (-96), 3) := by decide +kernel
theorem dX11_walk_112 : decode cX11_walk 112 = .ok (.return_, 1) := by decide +kernel
set_option maxRecDepth 20000 in
theorem ggX11_solve_X11_lawful : GoodIn wsX11_solve wsX11_lawful := goodIn_r _ [7, 8, 9, 10, 11, 124, 125, 126, 127, 128, 129, 130, 131, 132, 133, 134, 135, 136, 137, 138, 139, 140, 141, 142, 143, 144, 145, 146, 147, 148, 149, 150, 151, 152, 153, 154, 155, 156, 157, 158, 159, 160, 161] (by decide +kernel) (by decide +kernel)
set_option maxRecDepth 20000 in
theorem gX11_solve_X11_lawful : GoodIn wsX11_solve (wsV RX11 202 RX11 yX11_lawful wsX11_lawful) := goodIn_app (goodIn_of _ (by decide +kernel)) ggX11_solve_X11_lawful
