set_option maxRecDepth 20000 in
theorem ggL_isBox_X9_van : GoodIn wsL_isBox wsX9_van := goodIn_r _ [9, 10, 11, 12, 13, 14, 15, 16, 17, 18, 19, 20, 21, 22, 23, 24, 25, 26, 27, 28, 29, 30, 31, 32, 8, 33, 34, 35, 36, 37, 38, 39, 40, 41, 42, 43, 44, 45, 46, 47, 48, 49, 50, 51, 52, 53, 54, 55, 56, 57, 58, 59, 60, 61, 62, 63, 64, 65, 66, 67, 68, 168, 169, 170, 171, 172, 173, 174, 175, 176, 177, 178, 179, 180, 181, 182, 183, 184, 185, 186, 187, 188, 189, 190, 191, 192, 193, 194, 195, 196, 197, 198, 199, 200] (by decide +kernel) (by decide +kernel)
set_option maxRecDepth 20000 in
theorem gL_isBox_X9_van : GoodIn wsL_isBox (wsV RL 8 RX9 yX9_van wsX9_van) := goodIn_app (goodIn_of _ (by decide +kernel)) ggL_isBox_X9_van
set_option maxRecDepth 20000 in
theorem ggL_isBox_L_cell : GoodIn wsL_isBox wsL_cell := goodIn_r _ [72, 73] (by decide +kernel) (by decide +kernel)
set_option maxRecDepth 20000 in
theorem gL_isBox_L_cell : GoodIn wsL_isBox (va_wsS RL 51 yL_cell wsL_cell) := goodIn_app (goodIn_of _ (by decide +kernel)) ggL_isBox_L_cell
set_option maxRecDepth 20000 in
theorem ggL_isBox_X9_box : GoodIn wsL_isBox wsX9_box := goodIn_r _ [77, 11, 26, 78, 79, 80, 81, 14, 15, 12, 82, 83, 84, 85, 86, 87, 88, 32, 8, 33, 34, 35, 36, 37, 38, 39, 89, 90, 91, 92, 93, 94, 95, 96, 97, 98, 99, 100, 101, 102, 103, 67, 68, 168, 169, 170, 171, 172, 173, 174, 175, 176, 177, 178, 179, 180, 181, 182, 183, 201, 202, 203, 204, 184, 185, 186, 187, 188, 189, 190, 196, 197, 200] (by decide +kernel) (by decide +kernel)
set_option maxRecDepth 20000 in
theorem gL_isBox_X9_box : GoodIn wsL_isBox (wsV RL 18 RX9 yX9_box wsX9_box) := goodIn_app (goodIn_of _ (by decide +kernel)) ggL_isBox_X9_box
set_option maxRecDepth 20000 in
theorem ggL_isBox_X9_account : GoodIn wsL_isBox wsX9_account := goodIn_r _ [107, 11, 26, 108, 109, 110, 111, 112, 113, 114, 115, 116, 85, 117, 87, 88, 118, 168, 169, 170, 171, 172, 173, 174, 175, 176, 177, 178, 179, 180, 181, 182, 183, 196, 197, 201, 202, 203, 204] (by decide +kernel) (by decide +kernel)
set_option maxRecDepth 20000 in
theorem gL_isBox_X9_account : GoodIn wsL_isBox (wsV RL 34 RX9 yX9_account wsX9_account) := goodIn_app (goodIn_of _ (by decide +kernel)) ggL_isBox_X9_account
set_option maxRecDepth 20000 in
theorem ggL_isBox_X9_load : GoodIn wsL_isBox wsX9_load := goodIn_r _ [122, 123, 124, 11, 26, 27, 14, 21, 108, 31, 32, 8, 33, 125, 126, 127, 85, 128, 87, 88, 129, 130, 118, 131, 168, 169, 170, 171, 172, 173, 174, 175, 176, 177, 178, 179, 180, 181, 182, 183, 196, 197, 184, 185, 186, 187, 188, 189, 190, 201, 202, 203, 204] (by decide +kernel) (by decide +kernel)
set_option maxRecDepth 20000 in
theorem gL_isBox_X9_load : GoodIn wsL_isBox (wsV RL 56 RX9 yX9_load wsX9_load) := goodIn_app (goodIn_of _ (by decide +kernel)) ggL_isBox_X9_load
set_option maxRecDepth 20000 in
theorem ggL_isBox_X9_unload : GoodIn wsL_isBox wsX9_unload := goodIn_r _ [135, 11, 26, 14, 21, 80, 109, 82, 83, 84, 85, 86, 87, 88, 32, 8, 33, 136, 137, 138, 139, 140, 141, 142, 143, 168, 169, 170, 171, 172, 173, 174, 175, 176, 177, 178, 179, 180, 181, 182, 183, 184, 185, 186, 187, 188, 189, 190, 201, 202, 203, 204, 196, 197] (by decide +kernel) (by decide +kernel)
set_option maxRecDepth 20000 in
theorem gL_isBox_X9_unload : GoodIn wsL_isBox (wsV RL 60 RX9 yX9_unload wsX9_unload) := goodIn_app (goodIn_of _ (by decide +kernel)) ggL_isBox_X9_unload
set_option maxRecDepth 20000 in
theorem ggL_isBox_X9_spill : GoodIn wsL_isBox wsX9_spill := goodIn_r _ [147, 11, 26, 124, 80, 112, 82, 83, 84, 85, 86, 87, 88, 32, 8, 33, 31, 168, 169, 170, 171, 172, 173, 174, 175, 176, 177, 178, 179, 180, 181, 182, 183, 201, 202, 203, 204, 196, 197] (by decide +kernel) (by decide +kernel)
set_option maxRecDepth 20000 in
theorem gL_isBox_X9_spill : GoodIn wsL_isBox (wsV RL 64 RX9 yX9_spill wsX9_spill) := goodIn_app (goodIn_of _ (by decide +kernel)) ggL_isBox_X9_spill
set_option maxRecDepth 20000 in
theorem ggL_isBox_X9_weigh : GoodIn wsL_isBox wsX9_weigh := goodIn_r _ [151, 11, 26, 16, 79, 80, 82, 83, 84, 85, 86, 87, 88, 32, 8, 33, 152, 153, 154, 43, 155, 156, 168, 169, 170, 171, 172, 173, 174, 175, 176, 177, 178, 179, 180, 181, 182, 183, 201, 202, 203, 204, 196, 197, 191, 192, 193, 194, 195] (by decide +kernel) (by decide +kernel)
set_option maxRecDepth 20000 in
theorem gL_isBox_X9_weigh : GoodIn wsL_isBox (wsV RL 67 RX9 yX9_weigh wsX9_weigh) := goodIn_app (goodIn_of _ (by decide +kernel)) ggL_isBox_X9_weigh
set_option maxRecDepth 20000 in
theorem ggL_isBox_X9_check : GoodIn wsL_isBox wsX9_check := goodIn_r _ [160, 11, 26, 161, 16, 162, 81, 80, 82, 83, 84, 85, 86, 87, 88, 32, 8, 33, 152, 153, 154, 43, 155, 156, 168, 169, 170, 171, 172, 173, 174, 175, 176, 177, 178, 179, 180, 181, 182, 183, 201, 202, 203, 204, 196, 197, 191, 192, 193, 194, 195] (by decide +kernel) (by decide +kernel)
set_option maxRecDepth 20000 in
theorem gL_isBox_X9_check : GoodIn wsL_isBox (wsV RL 70 RX9 yX9_check wsX9_check) := goodIn_app (goodIn_of _ (by decide +kernel)) ggL_isBox_X9_check
set_option maxRecDepth 20000 in
theorem ggL_isBox_X9_shift : GoodIn wsL_isBox wsX9_shift := goodIn_r _ [166, 11, 26, 80, 82, 83, 84, 85, 86, 87, 88, 32, 8, 33, 167, 141, 142, 143, 168, 169, 170, 171, 172, 173, 174, 175, 176, 177, 178, 179, 180, 181, 182, 183, 201, 202, 203, 204, 196, 197] (by decide +kernel) (by decide +kernel)
set_option maxRecDepth 20000 in
theorem gL_isBox_X9_shift : GoodIn wsL_isBox (wsV RL 75 RX9 yX9_shift wsX9_shift) := goodIn_app (goodIn_of _ (by decide +kernel)) ggL_isBox_X9_shift
theorem dL_isBox_0 : decode cL_isBox 0 = .ok (.aload_n 0, 1) := by decide +kernel
theorem dL_isBox_1 : decode cL_isBox 1 = .ok (.bipush 12, 2) := by decide +kernel
theorem dL_isBox_3 : decode cL_isBox 3 = .ok (.invokevirtual 8, 3) := by decide +kernel
theorem dL_isBox_6 : decode cL_isBox 6 = .ok (.istore_n 3, 1) := by decide +kernel
theorem dL_isBox_7 : decode cL_isBox 7 = .ok (.aload_n 0, 1) := by decide +kernel
theorem dL_isBox_8 : decode cL_isBox 8 = .ok (.bipush 8, 2) := by decide +kernel
theorem dL_isBox_10 : decode cL_isBox 10 = .ok (.invokevirtual 8, 3) := by decide +kernel
theorem dL_isBox_13 : decode cL_isBox 13 = .ok (.iconst 1, 1) := by decide +kernel
theorem dL_isBox_14 : decode cL_isBox 14 = .ok (.if_icmp .ne 7, 3) := by decide +kernel
theorem dL_isBox_17 : decode cL_isBox 17 = .ok (.iconst 1, 1) := by decide +kernel
theorem dL_isBox_18 : decode cL_isBox 18 = .ok (.goto 4, 3) := by decide +kernel
theorem dL_isBox_21 : decode cL_isBox 21 = .ok (.iconst 0, 1) := by decide +kernel
theorem dL_isBox_22 : decode cL_isBox 22 = .ok (.istore 4, 2) := by decide +kernel
theorem dL_isBox_24 : decode cL_isBox 24 = .ok (.aload_n 0, 1) := by decide +kernel
theorem dL_isBox_25 : decode cL_isBox 25 = .ok (.bipush 10, 2) := by decide +kernel
theorem dL_isBox_27 : decode cL_isBox 27 = .ok (.invokevirtual 8, 3) := by decide +kernel
theorem dL_isBox_30 : decode cL_isBox 30 = .ok (.ifCond .le 7, 3) := by decide +kernel
theorem dL_isBox_33 : decode cL_isBox 33 = .ok (.iconst 1, 1) := by decide +kernel
theorem dL_isBox_34 : decode cL_isBox 34 = .ok (.goto 4, 3) := by decide +kernel
theorem dL_isBox_37 : decode cL_isBox 37 = .ok (.iconst 0, 1) := by decide +kernel
theorem dL_isBox_38 : decode cL_isBox 38 = .ok (.istore 5, 2) := by decide +kernel
theorem dL_isBox_40 : decode cL_isBox 40 = .ok (.aload_n 1, 1) := by decide +kernel
theorem dL_isBox_41 : decode cL_isBox 41 = .ok (.iload_n 2, 1) := by decide +kernel
theorem dL_isBox_42 : decode cL_isBox 42 = .ok (.iconst 5, 1) := by decide +kernel
theorem dL_isBox_43 : decode cL_isBox 43 = .ok (.invokestatic 51, 3) := by decide +kernel
theorem dL_isBox_46 : decode cL_isBox 46 = .ok (.istore 6, 2) := by decide +kernel
theorem dL_isBox_48 : decode cL_isBox 48 = .ok (.aload_n 1, 1) := by decide +kernel
theorem dL_isBox_49 : decode cL_isBox 49 = .ok (.iload_n 2, 1) := by decide +kernel
theorem dL_isBox_50 : decode cL_isBox 50 = .ok (.iconst 1, 1) := by decide +kernel
theorem dL_isBox_51 : decode cL_isBox 51 = .ok (.iadd, 1) := by decide +kernel
theorem dL_isBox_52 : decode cL_isBox 52 = .ok (.bipush 10, 2) := by decide +kernel
theorem dL_isBox_54 : decode cL_isBox 54 = .ok (.invokestatic 51, 3) := by decide +kernel
theorem dL_isBox_57 : decode cL_isBox 57 = .ok (.istore 7, 2) := by decide +kernel
theorem dL_isBox_59 : decode cL_isBox 59 = .ok (.iload 7, 2) := by decide +kernel
theorem dL_isBox_61 : decode cL_isBox 61 = .ok (.iload_n 3, 1) := by decide +kernel
theorem dL_isBox_62 : decode cL_isBox 62 = .ok (.if_icmp .ge 7, 3) := by decide +kernel
theorem dL_isBox_65 : decode cL_isBox 65 = .ok (.iconst 1, 1) := by decide +kernel
theorem dL_isBox_66 : decode cL_isBox 66 = .ok (.goto 4, 3) := by decide +kernel
theorem dL_isBox_69 : decode cL_isBox 69 = .ok (.iconst 0, 1) := by decide +kernel
theorem dL_isBox_70 : decode cL_isBox 70 = .ok (.istore 8, 2) := by decide +kernel
theorem dL_isBox_72 : decode cL_isBox 72 = .ok (.iload 8, 2) := by decide +kernel
theorem dL_isBox_74 : decode cL_isBox 74 = .ok (.ifCond .eq 13, 3) := by decide +kernel
theorem dL_isBox_77 : decode cL_isBox 77 = .ok (.aload_n 0, 1) := by decide +kernel
theorem dL_isBox_78 : decode cL_isBox 78 = .ok (.iload 7, 2) := by decide +kernel
theorem dL_isBox_80 : decode cL_isBox 80 = .ok (.iconst 2, 1) := by decide +kernel
theorem dL_isBox_81 : decode cL_isBox 81 = .ok (.invokevirtual 18, 3) := by decide +kernel
theorem dL_isBox_84 : decode cL_isBox 84 = .ok (.goto 4, 3) := by decide +kernel
theorem dL_isBox_87 : decode cL_isBox 87 = .ok (.iconst 0, 1) := by decide +kernel
theorem dL_isBox_88 : decode cL_isBox 88 = .ok (.istore 9, 2) := by decide +kernel
theorem dL_isBox_90 : decode cL_isBox 90 = .ok (.iload 8, 2) := by decide +kernel
theorem dL_isBox_92 : decode cL_isBox 92 = .ok (.ifCond .eq 13, 3) := by decide +kernel
theorem dL_isBox_95 : decode cL_isBox 95 = .ok (.aload_n 0, 1) := by decide +kernel
theorem dL_isBox_96 : decode cL_isBox 96 = .ok (.iload 7, 2) := by decide +kernel
theorem dL_isBox_98 : decode cL_isBox 98 = .ok (.iconst 3, 1) := by decide +kernel
theorem dL_isBox_99 : decode cL_isBox 99 = .ok (.invokevirtual 18, 3) := by decide +kernel
theorem dL_isBox_102 : decode cL_isBox 102 = .ok (.goto 4, 3) := by decide +kernel
theorem dL_isBox_105 : decode cL_isBox 105 = .ok (.iconst 0, 1) := by decide +kernel
theorem dL_isBox_106 : decode cL_isBox 106 = .ok (.istore 10, 2) := by decide +kernel
theorem dL_isBox_108 : decode cL_isBox 108 = .ok (.iload 6, 2) := by decide +kernel
theorem dL_isBox_110 : decode cL_isBox 110 = .ok (.ifCond .ne 151, 3) := by decide +kernel
theorem dL_isBox_113 : decode cL_isBox 113 = .ok (.aload_n 1, 1) := by decide +kernel
theorem dL_isBox_114 : decode cL_isBox 114 = .ok (.iload_n 2, 1) := by decide +kernel
theorem dL_isBox_115 : decode cL_isBox 115 = .ok (.iconst 2, 1) := by decide +kernel
theorem dL_isBox_116 : decode cL_isBox 116 = .ok (.iadd, 1) := by decide +kernel
theorem dL_isBox_117 : decode cL_isBox 117 = .ok (.ldc 55, 2) := by decide +kernel
theorem dL_isBox_119 : decode cL_isBox 119 = .ok (.invokestatic 51, 3) := by decide +kernel
theorem dL_isBox_122 : decode cL_isBox 122 = .ok (.istore 11, 2) := by decide +kernel
theorem dL_isBox_124 : decode cL_isBox 124 = .ok (.aload_n 0, 1) := by decide +kernel
theorem dL_isBox_125 : decode cL_isBox 125 = .ok (.iconst 1, 1) := by decide +kernel
theorem dL_isBox_126 : decode cL_isBox 126 = .ok (.invokevirtual 34, 3) := by decide +kernel
theorem dL_isBox_129 : decode cL_isBox 129 = .ok (.lstore 12, 2) := by decide +kernel
theorem dL_isBox_131 : decode cL_isBox 131 = .ok (.iload_n 3, 1) := by decide +kernel
theorem dL_isBox_132 : decode cL_isBox 132 = .ok (.bipush 10, 2) := by decide +kernel
theorem dL_isBox_134 : decode cL_isBox 134 = .ok (.if_icmp .ge 12, 3) := by decide +kernel
theorem dL_isBox_137 : decode cL_isBox 137 = .ok (.iload 4, 2) := by decide +kernel
theorem dL_isBox_139 : decode cL_isBox 139 = .ok (.ifCond .eq 7, 3) := by decide +kernel
theorem dL_isBox_142 : decode cL_isBox 142 = .ok (.iconst 1, 1) := by decide +kernel
theorem dL_isBox_143 : decode cL_isBox 143 = .ok (.goto 4, 3) := by decide +kernel
theorem dL_isBox_146 : decode cL_isBox 146 = .ok (.iconst 0, 1) := by decide +kernel
theorem dL_isBox_147 : decode cL_isBox 147 = .ok (.istore 14, 2) := by decide +kernel
theorem dL_isBox_149 : decode cL_isBox 149 = .ok (.aload_n 0, 1) := by decide +kernel
theorem dL_isBox_150 : decode cL_isBox 150 = .ok (.iconst 1, 1) := by decide +kernel
theorem dL_isBox_151 : decode cL_isBox 151 = .ok (.aload_n 1, 1) := by decide +kernel
theorem dL_isBox_152 : decode cL_isBox 152 = .ok (.iload_n 2, 1) := by decide +kernel
theorem dL_isBox_153 : decode cL_isBox 153 = .ok (.iconst 3, 1) := by decide +kernel
theorem dL_isBox_154 : decode cL_isBox 154 = .ok (.iadd, 1) := by decide +kernel
theorem dL_isBox_155 : decode cL_isBox 155 = .ok (.bipush 20, 2) := by decide +kernel
theorem dL_isBox_157 : decode cL_isBox 157 = .ok (.invokestatic 51, 3) := by decide +kernel
theorem dL_isBox_160 : decode cL_isBox 160 = .ok (.iadd, 1) := by decide +kernel
theorem dL_isBox_161 : decode cL_isBox 161 = .ok (.bipush 7, 2) := by decide +kernel
theorem dL_isBox_163 : decode cL_isBox 163 = .ok (.iload 11, 2) := by decide +kernel
theorem dL_isBox_165 : decode cL_isBox 165 = .ok (.invokevirtual 56, 3) := by decide +kernel
theorem dL_isBox_168 : decode cL_isBox 168 = .ok (.iload_n 3, 1) := by decide +kernel
theorem dL_isBox_169 : decode cL_isBox 169 = .ok (.bipush 10, 2) := by decide +kernel
theorem dL_isBox_171 : decode cL_isBox 171 = .ok (.if_icmp .ne 8, 3) := by decide +kernel
theorem dL_isBox_174 : decode cL_isBox 174 = .ok (.bipush (-4), 2) := by decide +kernel
theorem dL_isBox_176 : decode cL_isBox 176 = .ok (.goto 14, 3) := by decide +kernel
theorem dL_isBox_179 : decode cL_isBox 179 = .ok (.iload 4, 2) := by decide +kernel
theorem dL_isBox_181 : decode cL_isBox 181 = .ok (.ifCond .eq 7, 3) := by decide +kernel
theorem dL_isBox_184 : decode cL_isBox 184 = .ok (.iload_n 3, 1) := by decide +kernel
theorem dL_isBox_185 : decode cL_isBox 185 = .ok (.goto 5, 3) := by decide +kernel
theorem dL_isBox_188 : decode cL_isBox 188 = .ok (.bipush (-5), 2) := by decide +kernel
theorem dL_isBox_190 : decode cL_isBox 190 = .ok (.if_icmp .ne 69, 3) := by decide +kernel
theorem dL_isBox_193 : decode cL_isBox 193 = .ok (.aload_n 0, 1) := by decide +kernel
theorem dL_isBox_194 : decode cL_isBox 194 = .ok (.iconst 1, 1) := by decide +kernel
theorem dL_isBox_195 : decode cL_isBox 195 = .ok (.invokevirtual 34, 3) := by decide +kernel
theorem dL_isBox_198 : decode cL_isBox 198 = .ok (.lload 12, 2) := by decide +kernel
theorem dL_isBox_200 : decode cL_isBox 200 = .ok (.iload 14, 2) := by decide +kernel
theorem dL_isBox_202 : decode cL_isBox 202 = .ok (.ifCond .eq 8, 3) := by decide +kernel
theorem dL_isBox_205 : decode cL_isBox 205 = .ok (.iload 11, 2) := by decide +kernel
theorem dL_isBox_207 : decode cL_isBox 207 = .ok (.goto 4, 3) := by decide +kernel
theorem dL_isBox_210 : decode cL_isBox 210 = .ok (.iconst 0, 1) := by decide +kernel
theorem dL_isBox_211 : decode cL_isBox 211 = .ok (.i2l, 1) := by decide +kernel
theorem dL_isBox_212 : decode cL_isBox 212 = .ok (.ladd, 1) := by decide +kernel
theorem dL_isBox_213 : decode cL_isBox 213 = .ok (.lcmp, 1) := by decide +kernel
theorem dL_isBox_214 : decode cL_isBox 214 = .ok (.ifCond .ne 45, 3) := by decide +kernel
theorem dL_isBox_217 : decode cL_isBox 217 = .ok (.iload 14, 2) := by decide +kernel
theorem dL_isBox_219 : decode cL_isBox 219 = .ok (.ifCond .eq 36, 3) := by decide +kernel
theorem dL_isBox_222 : decode cL_isBox 222 = .ok (.aload_n 0, 1) := by decide +kernel
theorem dL_isBox_223 : decode cL_isBox 223 = .ok (.iload_n 3, 1) := by decide +kernel
theorem dL_isBox_224 : decode cL_isBox 224 = .ok (.iconst 2, 1) := by decide +kernel
theorem dL_isBox_225 : decode cL_isBox 225 = .ok (.invokevirtual 18, 3) := by decide +kernel
theorem dL_isBox_228 : decode cL_isBox 228 = .ok (.iload 11, 2) := by decide +kernel
theorem dL_isBox_230 : decode cL_isBox 230 = .ok (.if_icmp .ne 29, 3) := by decide +kernel
theorem dL_isBox_233 : decode cL_isBox 233 = .ok (.aload_n 0, 1) := by decide +kernel
theorem dL_isBox_234 : decode cL_isBox 234 = .ok (.iload_n 3, 1) := by decide +kernel
theorem dL_isBox_235 : decode cL_isBox 235 = .ok (.iconst 3, 1) := by decide +kernel
theorem dL_isBox_236 : decode cL_isBox 236 = .ok (.invokevirtual 18, 3) := by decide +kernel
theorem dL_isBox_239 : decode cL_isBox 239 = .ok (.iload 11, 2) := by decide +kernel
theorem dL_isBox_241 : decode cL_isBox 241 = .ok (.if_icmp .ne 18, 3) := by decide +kernel
theorem dL_isBox_244 : decode cL_isBox 244 = .ok (.aload_n 0, 1) := by decide +kernel
theorem dL_isBox_245 : decode cL_isBox 245 = .ok (.iload_n 3, 1) := by decide +kernel
theorem dL_isBox_246 : decode cL_isBox 246 = .ok (.iconst 1, 1) := by decide +kernel
theorem dL_isBox_247 : decode cL_isBox 247 = .ok (.invokevirtual 18, 3) := by decide +kernel
theorem dL_isBox_250 : decode cL_isBox 250 = .ok (.bipush 7, 2) := by decide +kernel
theorem dL_isBox_252 : decode cL_isBox 252 = .ok (.if_icmp .ne 7, 3) := by decide +kernel
theorem dL_isBox_255 : decode cL_isBox 255 = .ok (.iconst 1, 1) := by decide +kernel
theorem dL_isBox_256 : decode cL_isBox 256 = .ok (.goto 4, 3) := by decide +kernel
theorem dL_isBox_259 : decode cL_isBox 259 = .ok (.iconst 0, 1) := by decide +kernel
theorem dL_isBox_260 : decode cL_isBox 260 = .ok (.ireturn, 1) := by decide +kernel
theorem dL_isBox_261 : decode cL_isBox 261 = .ok (.iload 6, 2) := by decide +kernel
theorem dL_isBox_263 : decode cL_isBox 263 = .ok (.iconst 1, 1) := by decide +kernel
theorem dL_isBox_264 : decode cL_isBox 264 = .ok (.if_icmp .ne 108, 3) := by decide +kernel
theorem dL_isBox_267 : decode cL_isBox 267 = .ok (.aload_n 0, 1) := by decide +kernel
theorem dL_isBox_268 : decode cL_isBox 268 = .ok (.iconst 2, 1) := by decide +kernel
theorem dL_isBox_269 : decode cL_isBox 269 = .ok (.invokevirtual 34, 3) := by decide +kernel
theorem dL_isBox_272 : decode cL_isBox 272 = .ok (.lstore 11, 2) := by decide +kernel
theorem dL_isBox_274 : decode cL_isBox 274 = .ok (.iload 8, 2) := by decide +kernel
theorem dL_isBox_276 : decode cL_isBox 276 = .ok (.ifCond .eq 12, 3) := by decide +kernel
theorem dL_isBox_279 : decode cL_isBox 279 = .ok (.iload 4, 2) := by decide +kernel
theorem dL_isBox_281 : decode cL_isBox 281 = .ok (.ifCond .eq 7, 3) := by decide +kernel
theorem dL_isBox_284 : decode cL_isBox 284 = .ok (.iconst 1, 1) := by decide +kernel
theorem dL_isBox_285 : decode cL_isBox 285 = .ok (.goto 4, 3) := by decide +kernel
theorem dL_isBox_288 : decode cL_isBox 288 = .ok (.iconst 0, 1) := by decide +kernel
theorem dL_isBox_289 : decode cL_isBox 289 = .ok (.istore 13, 2) := by decide +kernel
theorem dL_isBox_291 : decode cL_isBox 291 = .ok (.aload_n 0, 1) := by decide +kernel
theorem dL_isBox_292 : decode cL_isBox 292 = .ok (.iload 7, 2) := by decide +kernel
theorem dL_isBox_294 : decode cL_isBox 294 = .ok (.invokevirtual 60, 3) := by decide +kernel
theorem dL_isBox_297 : decode cL_isBox 297 = .ok (.iload 8, 2) := by decide +kernel
theorem dL_isBox_299 : decode cL_isBox 299 = .ok (.ifCond .ne 7, 3) := by decide +kernel
theorem dL_isBox_302 : decode cL_isBox 302 = .ok (.iconst (-1), 1) := by decide +kernel
theorem dL_isBox_303 : decode cL_isBox 303 = .ok (.goto 15, 3) := by decide +kernel
theorem dL_isBox_306 : decode cL_isBox 306 = .ok (.iload 4, 2) := by decide +kernel
theorem dL_isBox_308 : decode cL_isBox 308 = .ok (.ifCond .eq 8, 3) := by decide +kernel
theorem dL_isBox_311 : decode cL_isBox 311 = .ok (.iload 9, 2) := by decide +kernel
theorem dL_isBox_313 : decode cL_isBox 313 = .ok (.goto 5, 3) := by decide +kernel
theorem dL_isBox_316 : decode cL_isBox 316 = .ok (.bipush (-5), 2) := by decide +kernel
theorem dL_isBox_318 : decode cL_isBox 318 = .ok (.if_icmp .ne 52, 3) := by decide +kernel
theorem dL_isBox_321 : decode cL_isBox 321 = .ok (.aload_n 0, 1) := by decide +kernel
theorem dL_isBox_322 : decode cL_isBox 322 = .ok (.bipush 12, 2) := by decide +kernel
theorem dL_isBox_324 : decode cL_isBox 324 = .ok (.invokevirtual 8, 3) := by decide +kernel
theorem dL_isBox_327 : decode cL_isBox 327 = .ok (.iload 13, 2) := by decide +kernel
theorem dL_isBox_329 : decode cL_isBox 329 = .ok (.ifCond .eq 9, 3) := by decide +kernel
theorem dL_isBox_332 : decode cL_isBox 332 = .ok (.iload_n 3, 1) := by decide +kernel
theorem dL_isBox_333 : decode cL_isBox 333 = .ok (.iconst 1, 1) := by decide +kernel
theorem dL_isBox_334 : decode cL_isBox 334 = .ok (.isub, 1) := by decide +kernel
theorem dL_isBox_335 : decode cL_isBox 335 = .ok (.goto 4, 3) := by decide +kernel
theorem dL_isBox_338 : decode cL_isBox 338 = .ok (.iload_n 3, 1) := by decide +kernel
theorem dL_isBox_339 : decode cL_isBox 339 = .ok (.if_icmp .ne 31, 3) := by decide +kernel
theorem dL_isBox_342 : decode cL_isBox 342 = .ok (.aload_n 0, 1) := by decide +kernel
theorem dL_isBox_343 : decode cL_isBox 343 = .ok (.iconst 2, 1) := by decide +kernel
theorem dL_isBox_344 : decode cL_isBox 344 = .ok (.invokevirtual 34, 3) := by decide +kernel
theorem dL_isBox_347 : decode cL_isBox 347 = .ok (.lload 11, 2) := by decide +kernel
theorem dL_isBox_349 : decode cL_isBox 349 = .ok (.iload 13, 2) := by decide +kernel
theorem dL_isBox_351 : decode cL_isBox 351 = .ok (.ifCond .eq 8, 3) := by decide +kernel
theorem dL_isBox_354 : decode cL_isBox 354 = .ok (.iload 9, 2) := by decide +kernel
theorem dL_isBox_356 : decode cL_isBox 356 = .ok (.goto 4, 3) := by decide +kernel
theorem dL_isBox_359 : decode cL_isBox 359 = .ok (.iconst 0, 1) := by decide +kernel
theorem dL_isBox_360 : decode cL_isBox 360 = .ok (.i2l, 1) := by decide +kernel
theorem dL_isBox_361 : decode cL_isBox 361 = .ok (.ladd, 1) := by decide +kernel
theorem dL_isBox_362 : decode cL_isBox 362 = .ok (.lcmp, 1) := by decide +kernel
theorem dL_isBox_363 : decode cL_isBox 363 = .ok (.ifCond .ne 7, 3) := by decide +kernel
theorem dL_isBox_366 : decode cL_isBox 366 = .ok (.iconst 1, 1) := by decide +kernel
theorem dL_isBox_367 : decode cL_isBox 367 = .ok (.goto 4, 3) := by decide +kernel
theorem dL_isBox_370 : decode cL_isBox 370 = .ok (.iconst 0, 1) := by decide +kernel
theorem dL_isBox_371 : decode cL_isBox 371 = .ok (.ireturn, 1) := by decide +kernel
theorem dL_isBox_372 : decode cL_isBox 372 = .ok (.iload 6, 2) := by decide +kernel
theorem dL_isBox_374 : decode cL_isBox 374 = .ok (.iconst 2, 1) := by decide +kernel
theorem dL_isBox_375 : decode cL_isBox 375 = .ok (.if_icmp .ne 93, 3) := by decide +kernel
theorem dL_isBox_378 : decode cL_isBox 378 = .ok (.iconst 1, 1) := by decide +kernel
theorem dL_isBox_379 : decode cL_isBox 379 = .ok (.aload_n 1, 1) := by decide +kernel
theorem dL_isBox_380 : decode cL_isBox 380 = .ok (.iload_n 2, 1) := by decide +kernel
theorem dL_isBox_381 : decode cL_isBox 381 = .ok (.iconst 2, 1) := by decide +kernel
theorem dL_isBox_382 : decode cL_isBox 382 = .ok (.iadd, 1) := by decide +kernel
theorem dL_isBox_383 : decode cL_isBox 383 = .ok (.ldc 63, 2) := by decide +kernel
theorem dL_isBox_385 : decode cL_isBox 385 = .ok (.invokestatic 51, 3) := by decide +kernel
theorem dL_isBox_388 : decode cL_isBox 388 = .ok (.iadd, 1) := by decide +kernel
theorem dL_isBox_389 : decode cL_isBox 389 = .ok (.istore 11, 2) := by decide +kernel
theorem dL_isBox_391 : decode cL_isBox 391 = .ok (.iload 8, 2) := by decide +kernel
theorem dL_isBox_393 : decode cL_isBox 393 = .ok (.ifCond .eq 14, 3) := by decide +kernel
theorem dL_isBox_396 : decode cL_isBox 396 = .ok (.iload 11, 2) := by decide +kernel
theorem dL_isBox_398 : decode cL_isBox 398 = .ok (.iload 9, 2) := by decide +kernel
theorem dL_isBox_400 : decode cL_isBox 400 = .ok (.if_icmp .gt 7, 3) := by decide +kernel
theorem dL_isBox_403 : decode cL_isBox 403 = .ok (.iconst 1, 1) := by decide +kernel
theorem dL_isBox_404 : decode cL_isBox 404 = .ok (.goto 4, 3) := by decide +kernel
theorem dL_isBox_407 : decode cL_isBox 407 = .ok (.iconst 0, 1) := by decide +kernel
theorem dL_isBox_408 : decode cL_isBox 408 = .ok (.istore 12, 2) := by decide +kernel
theorem dL_isBox_410 : decode cL_isBox 410 = .ok (.aload_n 0, 1) := by decide +kernel
theorem dL_isBox_411 : decode cL_isBox 411 = .ok (.iload 7, 2) := by decide +kernel
theorem dL_isBox_413 : decode cL_isBox 413 = .ok (.iload 11, 2) := by decide +kernel
theorem dL_isBox_415 : decode cL_isBox 415 = .ok (.invokevirtual 64, 3) := by decide +kernel
theorem dL_isBox_418 : decode cL_isBox 418 = .ok (.iload 8, 2) := by decide +kernel
theorem dL_isBox_420 : decode cL_isBox 420 = .ok (.ifCond .ne 7, 3) := by decide +kernel
theorem dL_isBox_423 : decode cL_isBox 423 = .ok (.iconst (-1), 1) := by decide +kernel
theorem dL_isBox_424 : decode cL_isBox 424 = .ok (.goto 18, 3) := by decide +kernel
theorem dL_isBox_427 : decode cL_isBox 427 = .ok (.iload 12, 2) := by decide +kernel
theorem dL_isBox_429 : decode cL_isBox 429 = .ok (.ifCond .eq 11, 3) := by decide +kernel
theorem dL_isBox_432 : decode cL_isBox 432 = .ok (.iload 9, 2) := by decide +kernel
theorem dL_isBox_434 : decode cL_isBox 434 = .ok (.iload 11, 2) := by decide +kernel
theorem dL_isBox_436 : decode cL_isBox 436 = .ok (.isub, 1) := by decide +kernel
theorem dL_isBox_437 : decode cL_isBox 437 = .ok (.goto 5, 3) := by decide +kernel
theorem dL_isBox_440 : decode cL_isBox 440 = .ok (.bipush (-2), 2) := by decide +kernel
theorem dL_isBox_442 : decode cL_isBox 442 = .ok (.if_icmp .ne 24, 3) := by decide +kernel
theorem dL_isBox_445 : decode cL_isBox 445 = .ok (.iload 8, 2) := by decide +kernel
theorem dL_isBox_447 : decode cL_isBox 447 = .ok (.ifCond .eq 15, 3) := by decide +kernel
theorem dL_isBox_450 : decode cL_isBox 450 = .ok (.aload_n 0, 1) := by decide +kernel
theorem dL_isBox_451 : decode cL_isBox 451 = .ok (.iload 7, 2) := by decide +kernel
theorem dL_isBox_453 : decode cL_isBox 453 = .ok (.iconst 3, 1) := by decide +kernel
theorem dL_isBox_454 : decode cL_isBox 454 = .ok (.invokevirtual 18, 3) := by decide +kernel
theorem dL_isBox_457 : decode cL_isBox 457 = .ok (.iload 10, 2) := by decide +kernel
theorem dL_isBox_459 : decode cL_isBox 459 = .ok (.if_icmp .ne 7, 3) := by decide +kernel
theorem dL_isBox_462 : decode cL_isBox 462 = .ok (.iconst 1, 1) := by decide +kernel
theorem dL_isBox_463 : decode cL_isBox 463 = .ok (.goto 4, 3) := by decide +kernel
theorem dL_isBox_466 : decode cL_isBox 466 = .ok (.iconst 0, 1) := by decide +kernel
theorem dL_isBox_467 : decode cL_isBox 467 = .ok (.ireturn, 1) := by decide +kernel
theorem dL_isBox_468 : decode cL_isBox 468 = .ok (.iload 6, 2) := by decide +kernel
theorem dL_isBox_470 : decode cL_isBox 470 = .ok (.iconst 3, 1) := by decide +kernel
theorem dL_isBox_471 : decode cL_isBox 471 = .ok (.if_icmp .ne 108, 3) := by decide +kernel
theorem dL_isBox_474 : decode cL_isBox 474 = .ok (.aload_n 0, 1) := by decide +kernel
theorem dL_isBox_475 : decode cL_isBox 475 = .ok (.iload 7, 2) := by decide +kernel
theorem dL_isBox_477 : decode cL_isBox 477 = .ok (.invokevirtual 67, 3) := by decide +kernel
theorem dL_isBox_480 : decode cL_isBox 480 = .ok (.iload 8, 2) := by decide +kernel
theorem dL_isBox_482 : decode cL_isBox 482 = .ok (.ifCond .ne 7, 3) := by decide +kernel
theorem dL_isBox_485 : decode cL_isBox 485 = .ok (.iconst (-1), 1) := by decide +kernel
theorem dL_isBox_486 : decode cL_isBox 486 = .ok (.goto 23, 3) := by decide +kernel
theorem dL_isBox_489 : decode cL_isBox 489 = .ok (.iload 5, 2) := by decide +kernel
theorem dL_isBox_491 : decode cL_isBox 491 = .ok (.ifCond .eq 8, 3) := by decide +kernel
theorem dL_isBox_494 : decode cL_isBox 494 = .ok (.bipush (-5), 2) := by decide +kernel
theorem dL_isBox_496 : decode cL_isBox 496 = .ok (.goto 13, 3) := by decide +kernel
theorem dL_isBox_499 : decode cL_isBox 499 = .ok (.aload_n 0, 1) := by decide +kernel
theorem dL_isBox_500 : decode cL_isBox 500 = .ok (.iload 7, 2) := by decide +kernel
theorem dL_isBox_502 : decode cL_isBox 502 = .ok (.iconst 1, 1) := by decide +kernel
theorem dL_isBox_503 : decode cL_isBox 503 = .ok (.invokevirtual 18, 3) := by decide +kernel
theorem dL_isBox_506 : decode cL_isBox 506 = .ok (.iload 9, 2) := by decide +kernel
theorem dL_isBox_508 : decode cL_isBox 508 = .ok (.iadd, 1) := by decide +kernel
theorem dL_isBox_509 : decode cL_isBox 509 = .ok (.if_icmp .ne 68, 3) := by decide +kernel
theorem dL_isBox_512 : decode cL_isBox 512 = .ok (.aload_n 0, 1) := by decide +kernel
theorem dL_isBox_513 : decode cL_isBox 513 = .ok (.iload 7, 2) := by decide +kernel
theorem dL_isBox_515 : decode cL_isBox 515 = .ok (.invokevirtual 70, 3) := by decide +kernel
theorem dL_isBox_518 : decode cL_isBox 518 = .ok (.iload 8, 2) := by decide +kernel
theorem dL_isBox_520 : decode cL_isBox 520 = .ok (.ifCond .ne 8, 3) := by decide +kernel
theorem dL_isBox_523 : decode cL_isBox 523 = .ok (.ldc 73, 2) := by decide +kernel
theorem dL_isBox_525 : decode cL_isBox 525 = .ok (.goto 18, 3) := by decide +kernel
theorem dL_isBox_528 : decode cL_isBox 528 = .ok (.iload 5, 2) := by decide +kernel
theorem dL_isBox_530 : decode cL_isBox 530 = .ok (.ifCond .eq 8, 3) := by decide +kernel
theorem dL_isBox_533 : decode cL_isBox 533 = .ok (.ldc 74, 2) := by decide +kernel
theorem dL_isBox_535 : decode cL_isBox 535 = .ok (.goto 8, 3) := by decide +kernel
theorem dL_isBox_538 : decode cL_isBox 538 = .ok (.iload 10, 2) := by decide +kernel
theorem dL_isBox_540 : decode cL_isBox 540 = .ok (.iload 9, 2) := by decide +kernel
theorem dL_isBox_542 : decode cL_isBox 542 = .ok (.isub, 1) := by decide +kernel
theorem dL_isBox_543 : decode cL_isBox 543 = .ok (.if_icmp .ne 34, 3) := by decide +kernel
theorem dL_isBox_546 : decode cL_isBox 546 = .ok (.iload 8, 2) := by decide +kernel
theorem dL_isBox_548 : decode cL_isBox 548 = .ok (.ifCond .eq 25, 3) := by decide +kernel
theorem dL_isBox_551 : decode cL_isBox 551 = .ok (.aload_n 0, 1) := by decide +kernel
theorem dL_isBox_552 : decode cL_isBox 552 = .ok (.iload 7, 2) := by decide +kernel
theorem dL_isBox_554 : decode cL_isBox 554 = .ok (.iconst 3, 1) := by decide +kernel
theorem dL_isBox_555 : decode cL_isBox 555 = .ok (.invokevirtual 18, 3) := by decide +kernel
theorem dL_isBox_558 : decode cL_isBox 558 = .ok (.iload 5, 2) := by decide +kernel
theorem dL_isBox_560 : decode cL_isBox 560 = .ok (.ifCond .eq 8, 3) := by decide +kernel
theorem dL_isBox_563 : decode cL_isBox 563 = .ok (.iload 10, 2) := by decide +kernel
theorem dL_isBox_565 : decode cL_isBox 565 = .ok (.goto 5, 3) := by decide +kernel
theorem dL_isBox_568 : decode cL_isBox 568 = .ok (.iload 9, 2) := by decide +kernel
theorem dL_isBox_570 : decode cL_isBox 570 = .ok (.if_icmp .ne 7, 3) := by decide +kernel
theorem dL_isBox_573 : decode cL_isBox 573 = .ok (.iconst 1, 1) := by decide +kernel
theorem dL_isBox_574 : decode cL_isBox 574 = .ok (.goto 4, 3) := by decide +kernel
theorem dL_isBox_577 : decode cL_isBox 577 = .ok (.iconst 0, 1) := by decide +kernel
theorem dL_isBox_578 : decode cL_isBox 578 = .ok (.ireturn, 1) := by decide +kernel
theorem dL_isBox_579 : decode cL_isBox 579 = .ok (.aload_n 1, 1) := by decide +kernel
theorem dL_isBox_580 : decode cL_isBox 580 = .ok (.iload_n 2, 1) := by decide +kernel
theorem dL_isBox_581 : decode cL_isBox 581 = .ok (.iconst 2, 1) := by decide +kernel
theorem dL_isBox_582 : decode cL_isBox 582 = .ok (.iadd, 1) := by decide +kernel
theorem dL_isBox_583 : decode cL_isBox 583 = .ok (.bipush 10, 2) := by decide +kernel
theorem dL_isBox_585 : decode cL_isBox 585 = .ok (.invokestatic 51, 3) := by decide +kernel
theorem dL_isBox_588 : decode cL_isBox 588 = .ok (.istore 11, 2) := by decide +kernel
theorem dL_isBox_590 : decode cL_isBox 590 = .ok (.iload 8, 2) := by decide +kernel
theorem dL_isBox_592 : decode cL_isBox 592 = .ok (.ifCond .eq 13, 3) := by decide +kernel
theorem dL_isBox_595 : decode cL_isBox 595 = .ok (.iload 11, 2) := by decide +kernel
theorem dL_isBox_597 : decode cL_isBox 597 = .ok (.iload_n 3, 1) := by decide +kernel
theorem dL_isBox_598 : decode cL_isBox 598 = .ok (.if_icmp .ge 7, 3) := by decide +kernel
theorem dL_isBox_601 : decode cL_isBox 601 = .ok (.iconst 1, 1) := by decide +kernel
theorem dL_isBox_602 : decode cL_isBox 602 = .ok (.goto 4, 3) := by decide +kernel
theorem dL_isBox_605 : decode cL_isBox 605 = .ok (.iconst 0, 1) := by decide +kernel
theorem dL_isBox_606 : decode cL_isBox 606 = .ok (.istore 12, 2) := by decide +kernel
theorem dL_isBox_608 : decode cL_isBox 608 = .ok (.iload 12, 2) := by decide +kernel
theorem dL_isBox_610 : decode cL_isBox 610 = .ok (.ifCond .eq 13, 3) := by decide +kernel
theorem dL_isBox_613 : decode cL_isBox 613 = .ok (.aload_n 0, 1) := by decide +kernel
theorem dL_isBox_614 : decode cL_isBox 614 = .ok (.iload 11, 2) := by decide +kernel
theorem dL_isBox_616 : decode cL_isBox 616 = .ok (.iconst 2, 1) := by decide +kernel
theorem dL_isBox_617 : decode cL_isBox 617 = .ok (.invokevirtual 18, 3) := by decide +kernel
theorem dL_isBox_620 : decode cL_isBox 620 = .ok (.goto 4, 3) := by decide +kernel
theorem dL_isBox_623 : decode cL_isBox 623 = .ok (.iconst 0, 1) := by decide +kernel
theorem dL_isBox_624 : decode cL_isBox 624 = .ok (.istore 13, 2) := by decide +kernel
theorem dL_isBox_626 : decode cL_isBox 626 = .ok (.aload_n 0, 1) := by decide +kernel
theorem dL_isBox_627 : decode cL_isBox 627 = .ok (.iload 7, 2) := by decide +kernel
theorem dL_isBox_629 : decode cL_isBox 629 = .ok (.iload 11, 2) := by decide +kernel
theorem dL_isBox_631 : decode cL_isBox 631 = .ok (.invokevirtual 75, 3) := by decide +kernel
theorem dL_isBox_634 : decode cL_isBox 634 = .ok (.iload 12, 2) := by decide +kernel
theorem dL_isBox_636 : decode cL_isBox 636 = .ok (.ifCond .eq 8, 3) := by decide +kernel
theorem dL_isBox_639 : decode cL_isBox 639 = .ok (.iload 9, 2) := by decide +kernel
theorem dL_isBox_641 : decode cL_isBox 641 = .ok (.goto 4, 3) := by decide +kernel
theorem dL_isBox_644 : decode cL_isBox 644 = .ok (.iconst (-1), 1) := by decide +kernel
theorem dL_isBox_645 : decode cL_isBox 645 = .ok (.if_icmp .ne 71, 3) := by decide +kernel
theorem dL_isBox_648 : decode cL_isBox 648 = .ok (.iload 12, 2) := by decide +kernel
theorem dL_isBox_650 : decode cL_isBox 650 = .ok (.ifCond .eq 62, 3) := by decide +kernel
theorem dL_isBox_653 : decode cL_isBox 653 = .ok (.aload_n 0, 1) := by decide +kernel
theorem dL_isBox_654 : decode cL_isBox 654 = .ok (.iload 11, 2) := by decide +kernel
theorem dL_isBox_656 : decode cL_isBox 656 = .ok (.iconst 2, 1) := by decide +kernel
theorem dL_isBox_657 : decode cL_isBox 657 = .ok (.invokevirtual 18, 3) := by decide +kernel
theorem dL_isBox_660 : decode cL_isBox 660 = .ok (.iload 9, 2) := by decide +kernel
theorem dL_isBox_662 : decode cL_isBox 662 = .ok (.if_icmp .ne 54, 3) := by decide +kernel
theorem dL_isBox_665 : decode cL_isBox 665 = .ok (.aload_n 0, 1) := by decide +kernel
theorem dL_isBox_666 : decode cL_isBox 666 = .ok (.iload 11, 2) := by decide +kernel
theorem dL_isBox_668 : decode cL_isBox 668 = .ok (.iconst 3, 1) := by decide +kernel
theorem dL_isBox_669 : decode cL_isBox 669 = .ok (.invokevirtual 18, 3) := by decide +kernel
theorem dL_isBox_672 : decode cL_isBox 672 = .ok (.iload 10, 2) := by decide +kernel
theorem dL_isBox_674 : decode cL_isBox 674 = .ok (.if_icmp .ne 42, 3) := by decide +kernel
theorem dL_isBox_677 : decode cL_isBox 677 = .ok (.iload 7, 2) := by decide +kernel
theorem dL_isBox_679 : decode cL_isBox 679 = .ok (.iload 11, 2) := by decide +kernel
theorem dL_isBox_681 : decode cL_isBox 681 = .ok (.if_icmp .eq 31, 3) := by decide +kernel
theorem dL_isBox_684 : decode cL_isBox 684 = .ok (.aload_n 0, 1) := by decide +kernel
theorem dL_isBox_685 : decode cL_isBox 685 = .ok (.iload 7, 2) := by decide +kernel
theorem dL_isBox_687 : decode cL_isBox 687 = .ok (.iload 11, 2) := by decide +kernel
theorem dL_isBox_689 : decode cL_isBox 689 = .ok (.if_icmp .ge 10, 3) := by decide +kernel
theorem dL_isBox_692 : decode cL_isBox 692 = .ok (.iload 11, 2) := by decide +kernel
theorem dL_isBox_694 : decode cL_isBox 694 = .ok (.iconst 1, 1) := by decide +kernel
theorem dL_isBox_695 : decode cL_isBox 695 = .ok (.isub, 1) := by decide +kernel
theorem dL_isBox_696 : decode cL_isBox 696 = .ok (.goto 7, 3) := by decide +kernel
theorem dL_isBox_699 : decode cL_isBox 699 = .ok (.iload 11, 2) := by decide +kernel
theorem dL_isBox_701 : decode cL_isBox 701 = .ok (.iconst 1, 1) := by decide +kernel
theorem dL_isBox_702 : decode cL_isBox 702 = .ok (.iadd, 1) := by decide +kernel
theorem dL_isBox_703 : decode cL_isBox 703 = .ok (.iconst 2, 1) := by decide +kernel
theorem dL_isBox_704 : decode cL_isBox 704 = .ok (.invokevirtual 18, 3) := by decide +kernel
theorem dL_isBox_707 : decode cL_isBox 707 = .ok (.iload 13, 2) := by decide +kernel
theorem dL_isBox_709 : decode cL_isBox 709 = .ok (.if_icmp .ne 7, 3) := by decide +kernel
theorem dL_isBox_712 : decode cL_isBox 712 = .ok (.iconst 1, 1) := by decide +kernel
theorem dL_isBox_713 : decode cL_isBox 713 = .ok (.goto 4, 3) := by decide +kernel
theorem dL_isBox_716 : decode cL_isBox 716 = .ok (.iconst 0, 1) := by decide +kernel
theorem dL_isBox_717 : decode cL_isBox 717 = .ok (.ireturn, 1) := by decide +kernel
set_option maxRecDepth 20000 in
theorem ggL_law_X9_init : GoodIn wsL_law wsX9_init := goodIn_r _ [7, 8, 9, 10, 11, 12, 13, 14, 15, 16, 17, 18, 19, 20, 21, 22, 23, 24, 25, 26, 27, 28, 29, 30, 31, 32, 33, 34, 35, 36, 37, 38, 39, 40, 41, 42, 43, 44, 45, 46, 47, 48, 49, 50, 51, 52, 53, 54, 55, 56, 57, 58, 59, 60, 61, 62, 63, 64, 65, 66, 67, 68, 69, 70, 71, 72, 73, 74, 75, 76, 77, 78, 79, 80, 81, 82, 83, 84, 85, 86, 87, 88, 89, 90, 91, 92, 93, 94, 431, 432, 433, 434, 435, 436, 437, 438, 439, 440, 425, 426, 427, 428, 429, 430, 441, 442, 443, 444, 445, 446, 447, 448, 449, 450, 451, 452, 453, 454, 455, 456, 457, 458, 459, 460, 461, 462, 463, 464, 465, 466, 467, 468, 469, 470] (by decide +kernel) (by decide +kernel)
set_option maxRecDepth 20000 in
theorem gL_law_X9_init : GoodIn wsL_law (wsX9_init) := ggL_law_X9_init
set_option maxRecDepth 20000 in
theorem ggL_law_L_cell : GoodIn wsL_law wsL_cell := goodIn_r _ [98, 99] (by decide +kernel) (by decide +kernel)
set_option maxRecDepth 20000 in
theorem gL_law_L_cell : GoodIn wsL_law (va_wsS RL 51 yL_cell wsL_cell) := goodIn_app (goodIn_of _ (by decide +kernel)) ggL_law_L_cell
set_option maxRecDepth 20000 in
theorem ggL_law_X9_set : GoodIn wsL_law wsX9_set := goodIn_r _ [103, 14, 104, 105, 106, 107, 34, 108, 109, 2, 110, 111, 112, 113, 114, 57, 115, 116, 117, 118, 119, 425, 426, 427, 428, 429, 430, 431, 432, 433, 434, 435, 436, 437, 438, 439, 440, 452] (by decide +kernel) (by decide +kernel)
set_option maxRecDepth 20000 in
theorem gL_law_X9_set : GoodIn wsL_law (wsV RL 79 RX9 yX9_set wsX9_set) := goodIn_app (goodIn_of _ (by decide +kernel)) ggL_law_X9_set
set_option maxRecDepth 20000 in
theorem ggL_law_X9_leg : GoodIn wsL_law wsX9_leg := goodIn_r _ [123, 14, 124, 125, 126, 109, 2, 110, 127, 128, 129, 46, 130, 131, 78, 79, 425, 426, 427, 428, 429, 430, 431, 432, 433, 434, 435, 436, 437, 438, 439, 440, 462, 463, 464, 465, 466] (by decide +kernel) (by decide +kernel)
set_option maxRecDepth 20000 in
theorem gL_law_X9_leg : GoodIn wsL_law (wsV RL 82 RX9 yX9_leg wsX9_leg) := goodIn_app (goodIn_of _ (by decide +kernel)) ggL_law_X9_leg
set_option maxRecDepth 20000 in
theorem ggL_law_X9_open : GoodIn wsL_law wsX9_open := goodIn_r _ [135, 14, 124, 136, 137, 138, 139, 140, 46, 141, 142, 143, 144, 145, 13, 146, 35, 147, 148, 149, 150, 43, 151, 152, 153, 42, 154, 155, 156, 157, 116, 117, 34, 118, 57, 109, 2, 110, 158, 159, 160, 161, 162, 163, 164, 165, 166, 425, 426, 427, 428, 429, 430, 431, 432, 433, 434, 435, 436, 437, 438, 439, 440, 455, 456, 457, 458, 459, 460, 461, 462, 463, 464, 465, 466, 452] (by decide +kernel) (by decide +kernel)
set_option maxRecDepth 20000 in
theorem gL_law_X9_open : GoodIn wsL_law (wsV RL 44 RX9 yX9_open wsX9_open) := goodIn_app (goodIn_of _ (by decide +kernel)) ggL_law_X9_open
set_option maxRecDepth 20000 in
theorem ggL_law_X9_load : GoodIn wsL_law wsX9_load := goodIn_r _ [170, 171, 172, 14, 173, 174, 136, 137, 175, 126, 109, 2, 110, 176, 177, 178, 38, 179, 180, 63, 181, 182, 183, 184, 425, 426, 427, 428, 429, 430, 431, 432, 433, 434, 435, 436, 437, 438, 439, 440, 453, 454, 455, 456, 457, 458, 459, 460, 461, 467, 468, 469, 470] (by decide +kernel) (by decide +kernel)
set_option maxRecDepth 20000 in
theorem gL_law_X9_load : GoodIn wsL_law (wsV RL 56 RX9 yX9_load wsX9_load) := goodIn_app (goodIn_of _ (by decide +kernel)) ggL_law_X9_load
set_option maxRecDepth 20000 in
theorem ggL_law_L_isSold : GoodIn wsL_law wsL_isSold := goodIn_r _ [187, 77, 188, 189, 190, 2, 191, 192, 14, 104, 193, 136, 194, 124, 195, 196, 197, 198, 137, 199, 200, 201, 202, 173, 174, 125, 24, 203, 126, 109, 110, 204, 116, 117, 34, 118, 57, 205, 206, 207, 46, 208, 80, 79, 209, 210, 211, 212, 131, 166, 148, 149, 13, 150, 43, 35, 151, 152, 153, 42, 154, 155, 156, 157, 158, 159, 213, 214, 215, 216, 175, 217, 218, 219, 220, 221, 222, 223, 224, 38, 225, 180, 63, 183, 226, 227, 228, 229, 230, 231, 232, 233, 234, 235, 236, 237, 238, 239, 240, 65, 241, 242, 243, 244, 245, 246, 247, 248, 249, 250, 251, 252, 253, 254, 255, 256, 257, 258, 259, 260, 261, 262, 263, 264, 265, 266, 267, 268, 269, 270, 271, 425, 426, 427, 428, 429, 430, 431, 432, 433, 434, 435, 436, 437, 438, 439, 440, 455, 456, 457, 458, 459, 460, 461, 462, 463, 464, 465, 466, 453, 454, 443, 444, 452, 467, 468, 469, 470] (by decide +kernel) (by decide +kernel)
set_option maxRecDepth 20000 in
theorem gL_law_L_isSold : GoodIn wsL_law (va_wsS RL 87 yL_isSold wsL_isSold) := goodIn_app (goodIn_of _ (by decide +kernel)) ggL_law_L_isSold
set_option maxRecDepth 20000 in
theorem ggL_law_L_isDoor : GoodIn wsL_law wsL_isDoor := goodIn_r _ [274, 188, 189, 190, 2, 191, 192, 14, 104, 193, 136, 194, 124, 195, 196, 197, 198, 137, 199, 200, 201, 202, 173, 174, 125, 24, 203, 126, 109, 110, 204, 116, 117, 34, 118, 57, 205, 206, 207, 46, 208, 80, 79, 209, 210, 211, 212, 131, 166, 148, 149, 13, 150, 43, 35, 151, 152, 153, 42, 154, 155, 156, 157, 158, 159, 132, 133, 134, 135, 138, 139, 140, 141, 142, 143, 144, 145, 146, 147, 160, 161, 162, 163, 164, 165, 275, 276, 277, 278, 425, 426, 427, 428, 429, 430, 431, 432, 433, 434, 435, 436, 437, 438, 439, 440, 455, 456, 457, 458, 459, 460, 461, 462, 463, 464, 465, 466, 453, 454, 443, 444, 452] (by decide +kernel) (by decide +kernel)
set_option maxRecDepth 20000 in
theorem gL_law_L_isDoor : GoodIn wsL_law (va_wsS RL 91 yL_isDoor wsL_isDoor) := goodIn_app (goodIn_of _ (by decide +kernel)) ggL_law_L_isDoor
set_option maxRecDepth 20000 in
theorem ggL_law_L_isBox : GoodIn wsL_law wsL_isBox := fun w h => (List.mem_cons.mp h).elim (fun e => (goodIn_p [.code yL_isBox cL_isBox 15 (some .boolean)] [281] (by rfl) (by decide +kernel)) w (List.mem_cons.mpr (Or.inl e))) (fun h => (goodIn_r wsL_isBox.tail [282, 283, 284, 285, 188, 189, 190, 2, 191, 192, 14, 104, 193, 136, 194, 124, 195, 196, 197, 198, 137, 199, 200, 201, 202, 173, 174, 125, 24, 203, 126, 109, 110, 204, 116, 117, 34, 118, 57, 205, 206, 207, 46, 208, 80, 79, 209, 210, 211, 212, 131, 166, 148, 149, 13, 150, 43, 35, 151, 152, 153, 42, 154, 155, 156, 157, 158, 159, 95, 96, 97, 98, 99, 226, 227, 228, 229, 230, 231, 232, 233, 234, 235, 236, 38, 237, 180, 63, 238, 239, 240, 65, 241, 242, 243, 244, 245, 246, 247, 248, 249, 250, 251, 213, 214, 215, 216, 175, 217, 218, 219, 220, 221, 222, 223, 224, 225, 183, 167, 168, 169, 170, 171, 172, 176, 177, 178, 179, 181, 182, 184, 286, 287, 288, 289, 290, 291, 292, 293, 294, 295, 296, 297, 298, 299, 300, 301, 302, 303, 304, 305, 138, 139, 140, 141, 142, 306, 307, 308, 309, 310, 311, 312, 313, 314, 315, 316, 425, 426, 427, 428, 429, 430, 431, 432, 433, 434, 435, 436, 437, 438, 439, 440, 455, 456, 457, 458, 459, 460, 461, 462, 463, 464, 465, 466, 453, 454, 443, 444, 452, 467, 468, 469, 470] (by decide +kernel) (by decide +kernel)) w h)
set_option maxRecDepth 20000 in
theorem gL_law_L_isBox : GoodIn wsL_law (va_wsS RL 95 yL_isBox wsL_isBox) := goodIn_app (goodIn_of _ (by decide +kernel)) ggL_law_L_isBox
set_option maxRecDepth 20000 in
theorem ggL_law_X9_van : GoodIn wsL_law wsX9_van := goodIn_r _ [191, 192, 14, 104, 193, 136, 194, 124, 195, 196, 197, 198, 137, 199, 200, 201, 202, 173, 174, 125, 24, 203, 126, 109, 2, 110, 204, 116, 117, 34, 118, 57, 205, 206, 207, 46, 208, 80, 79, 209, 210, 211, 212, 131, 166, 148, 149, 13, 150, 43, 35, 151, 152, 153, 42, 154, 155, 156, 157, 158, 159, 425, 426, 427, 428, 429, 430, 431, 432, 433, 434, 435, 436, 437, 438, 439, 440, 455, 456, 457, 458, 459, 460, 461, 462, 463, 464, 465, 466, 453, 454, 443, 444, 452] (by decide +kernel) (by decide +kernel)
set_option maxRecDepth 20000 in
theorem gL_law_X9_van : GoodIn wsL_law (wsV RL 8 RX9 yX9_van wsX9_van) := goodIn_app (goodIn_of _ (by decide +kernel)) ggL_law_X9_van
set_option maxRecDepth 20000 in
theorem ggL_law_X9_depart : GoodIn wsL_law wsX9_depart := goodIn_r _ [320, 14, 124, 136, 137, 199, 138, 139, 140, 46, 141, 142, 321, 322, 323, 324, 80, 209, 210, 211, 212, 131, 109, 2, 110, 325, 326, 327, 328, 78, 329, 425, 426, 427, 428, 429, 430, 431, 432, 433, 434, 435, 436, 437, 438, 439, 440, 455, 456, 457, 458, 459, 460, 461, 462, 463, 464, 465, 466] (by decide +kernel) (by decide +kernel)
set_option maxRecDepth 20000 in
theorem gL_law_X9_depart : GoodIn wsL_law (wsV RL 99 RX9 yX9_depart wsX9_depart) := goodIn_app (goodIn_of _ (by decide +kernel)) ggL_law_X9_depart
set_option maxRecDepth 20000 in
theorem ggL_law_X9_way : GoodIn wsL_law wsX9_way := goodIn_r _ [333, 14, 124, 310, 192, 334, 210, 211, 46, 212, 131, 109, 2, 110, 335, 336, 337, 338, 78, 209, 339, 340, 341, 342, 79, 425, 426, 427, 428, 429, 430, 431, 432, 433, 434, 435, 436, 437, 438, 439, 440, 462, 463, 464, 465, 466] (by decide +kernel) (by decide +kernel)
set_option maxRecDepth 20000 in
theorem gL_law_X9_way : GoodIn wsL_law (wsV RL 102 RX9 yX9_way wsX9_way) := goodIn_app (goodIn_of _ (by decide +kernel)) ggL_law_X9_way
set_option maxRecDepth 20000 in
theorem ggL_law_X9_vent : GoodIn wsL_law wsX9_vent := goodIn_r _ [346, 14, 136, 196, 126, 109, 2, 110, 347, 348, 349, 42, 350, 73, 351, 352, 353, 354, 355, 162, 163, 164, 165, 356, 357, 358, 359, 360, 425, 426, 427, 428, 429, 430, 431, 432, 433, 434, 435, 436, 437, 438, 439, 440, 455, 456, 457, 458, 459, 460, 461] (by decide +kernel) (by decide +kernel)
set_option maxRecDepth 20000 in
theorem gL_law_X9_vent : GoodIn wsL_law (wsV RL 105 RX9 yX9_vent wsX9_vent) := goodIn_app (goodIn_of _ (by decide +kernel)) ggL_law_X9_vent
set_option maxRecDepth 20000 in
theorem ggL_law_L_isMinute : GoodIn wsL_law wsL_isMinute := fun w h => (List.mem_cons.mp h).elim (fun e => (goodIn_p [.code yL_isMinute cL_isMinute 27 (some .boolean)] [363] (by rfl) (by decide +kernel)) w (List.mem_cons.mpr (Or.inl e))) (fun h => (goodIn_r wsL_isMinute.tail [77, 364, 365, 366, 188, 189, 190, 2, 191, 192, 14, 104, 193, 136, 194, 124, 195, 196, 197, 198, 137, 199, 200, 201, 202, 173, 174, 125, 24, 203, 126, 109, 110, 204, 116, 117, 34, 118, 57, 205, 206, 207, 46, 208, 80, 79, 209, 210, 211, 212, 131, 166, 148, 149, 13, 150, 43, 35, 151, 152, 153, 42, 154, 155, 156, 157, 158, 159, 367, 368, 97, 369, 370, 371, 226, 227, 228, 229, 230, 231, 232, 233, 234, 235, 236, 38, 237, 180, 63, 238, 239, 240, 65, 241, 242, 243, 244, 245, 246, 247, 248, 249, 250, 251, 213, 214, 215, 216, 175, 217, 218, 219, 220, 221, 222, 223, 224, 225, 183, 372, 373, 374, 375, 376, 377, 262, 263, 378, 379, 380, 381, 382, 383, 384, 385, 39, 386, 387, 47, 388, 160, 389, 390, 391, 392, 393, 264, 265, 266, 267, 268, 269, 270, 271, 394, 395, 396, 397, 398, 399, 400, 401, 402, 403, 404, 72, 165, 405, 406, 407, 408, 409, 410, 411, 412, 413, 414, 415, 416, 73, 360, 351, 352, 353, 354, 355, 162, 163, 164, 356, 357, 358, 359, 417, 418, 419, 420, 142, 421, 139, 140, 141, 425, 426, 427, 428, 429, 430, 431, 432, 433, 434, 435, 436, 437, 438, 439, 440, 455, 456, 457, 458, 459, 460, 461, 462, 463, 464, 465, 466, 453, 454, 443, 444, 452, 467, 468, 469, 470] (by decide +kernel) (by decide +kernel)) w h)
set_option maxRecDepth 20000 in
theorem gL_law_L_isMinute : GoodIn wsL_law (va_wsS RL 108 yL_isMinute wsL_isMinute) := goodIn_app (goodIn_of _ (by decide +kernel)) ggL_law_L_isMinute
set_option maxRecDepth 20000 in
theorem ggL_law_L_addsUp : GoodIn wsL_law wsL_addsUp := goodIn_r _ [424, 188, 189, 190, 2, 191, 192, 14, 104, 193, 136, 194, 124, 195, 196, 197, 198, 137, 199, 200, 201, 202, 173, 174, 125, 24, 203, 126, 109, 110, 204, 116, 117, 34, 118, 57, 205, 206, 207, 46, 208, 80, 79, 209, 210, 211, 212, 131, 166, 148, 149, 13, 150, 43, 35, 151, 152, 153, 42, 154, 155, 156, 157, 158, 159, 226, 227, 228, 229, 230, 231, 232, 233, 234, 235, 236, 38, 237, 180, 63, 238, 239, 240, 65, 241, 242, 243, 244, 245, 246, 247, 248, 249, 250, 251, 213, 214, 215, 216, 175, 217, 218, 219, 220, 221, 222, 223, 224, 225, 183, 425, 426, 427, 428, 429, 430, 431, 432, 433, 434, 435, 436, 437, 438, 439, 440, 455, 456, 457, 458, 459, 460, 461, 462, 463, 464, 465, 466, 453, 454, 443, 444, 452, 467, 468, 469, 470] (by decide +kernel) (by decide +kernel)
set_option maxRecDepth 20000 in
theorem gL_law_L_addsUp : GoodIn wsL_law (va_wsS RL 111 yL_addsUp wsL_addsUp) := goodIn_app (goodIn_of _ (by decide +kernel)) ggL_law_L_addsUp
theorem dL_law_0 : decode cL_law 0 = .ok (.new 9, 3) := by decide +kernel
theorem dL_law_3 : decode cL_law 3 = .ok (.dup, 1) := by decide +kernel
theorem dL_law_4 : decode cL_law 4 = .ok (.invokespecial 78, 3) := by decide +kernel
theorem dL_law_7 : decode cL_law 7 = .ok (.astore_n 1, 1) := by decide +kernel
theorem dL_law_8 : decode cL_law 8 = .ok (.aload_n 1, 1) := by decide +kernel
theorem dL_law_9 : decode cL_law 9 = .ok (.iconst 0, 1) := by decide +kernel
theorem dL_law_10 : decode cL_law 10 = .ok (.aload_n 0, 1) := by decide +kernel
theorem dL_law_11 : decode cL_law 11 = .ok (.iconst 0, 1) := by decide +kernel
theorem dL_law_12 : decode cL_law 12 = .ok (.sipush 1001, 3) := by decide +kernel
theorem dL_law_15 : decode cL_law 15 = .ok (.invokestatic 51, 3) := by decide +kernel
theorem dL_law_18 : decode cL_law 18 = .ok (.invokevirtual 79, 3) := by decide +kernel
theorem dL_law_21 : decode cL_law 21 = .ok (.pop, 1) := by decide +kernel
theorem dL_law_22 : decode cL_law 22 = .ok (.aload_n 1, 1) := by decide +kernel
theorem dL_law_23 : decode cL_law 23 = .ok (.iconst 1, 1) := by decide +kernel
theorem dL_law_24 : decode cL_law 24 = .ok (.iconst 1, 1) := by decide +kernel
theorem dL_law_25 : decode cL_law 25 = .ok (.aload_n 0, 1) := by decide +kernel
theorem dL_law_26 : decode cL_law 26 = .ok (.iconst 1, 1) := by decide +kernel
theorem dL_law_27 : decode cL_law 27 = .ok (.bipush 100, 2) := by decide +kernel
theorem dL_law_29 : decode cL_law 29 = .ok (.invokestatic 51, 3) := by decide +kernel
theorem dL_law_32 : decode cL_law 32 = .ok (.iadd, 1) := by decide +kernel
theorem dL_law_33 : decode cL_law 33 = .ok (.invokevirtual 79, 3) := by decide +kernel
theorem dL_law_36 : decode cL_law 36 = .ok (.pop, 1) := by decide +kernel
theorem dL_law_37 : decode cL_law 37 = .ok (.aload_n 1, 1) := by decide +kernel
theorem dL_law_38 : decode cL_law 38 = .ok (.iconst 2, 1) := by decide +kernel
theorem dL_law_39 : decode cL_law 39 = .ok (.aload_n 0, 1) := by decide +kernel
theorem dL_law_40 : decode cL_law 40 = .ok (.iconst 2, 1) := by decide +kernel
theorem dL_law_41 : decode cL_law 41 = .ok (.sipush 501, 3) := by decide +kernel
theorem dL_law_44 : decode cL_law 44 = .ok (.invokestatic 51, 3) := by decide +kernel
theorem dL_law_47 : decode cL_law 47 = .ok (.invokevirtual 79, 3) := by decide +kernel
theorem dL_law_50 : decode cL_law 50 = .ok (.pop, 1) := by decide +kernel
theorem dL_law_51 : decode cL_law 51 = .ok (.aload_n 1, 1) := by decide +kernel
theorem dL_law_52 : decode cL_law 52 = .ok (.iconst 3, 1) := by decide +kernel
theorem dL_law_53 : decode cL_law 53 = .ok (.aload_n 0, 1) := by decide +kernel
theorem dL_law_54 : decode cL_law 54 = .ok (.iconst 3, 1) := by decide +kernel
theorem dL_law_55 : decode cL_law 55 = .ok (.bipush 101, 2) := by decide +kernel
theorem dL_law_57 : decode cL_law 57 = .ok (.invokestatic 51, 3) := by decide +kernel
theorem dL_law_60 : decode cL_law 60 = .ok (.invokevirtual 79, 3) := by decide +kernel
theorem dL_law_63 : decode cL_law 63 = .ok (.pop, 1) := by decide +kernel
theorem dL_law_64 : decode cL_law 64 = .ok (.aload_n 1, 1) := by decide +kernel
theorem dL_law_65 : decode cL_law 65 = .ok (.iconst 5, 1) := by decide +kernel
theorem dL_law_66 : decode cL_law 66 = .ok (.iconst 1, 1) := by decide +kernel
theorem dL_law_67 : decode cL_law 67 = .ok (.aload_n 0, 1) := by decide +kernel
theorem dL_law_68 : decode cL_law 68 = .ok (.iconst 4, 1) := by decide +kernel
theorem dL_law_69 : decode cL_law 69 = .ok (.sipush 9000, 3) := by decide +kernel
theorem dL_law_72 : decode cL_law 72 = .ok (.invokestatic 51, 3) := by decide +kernel
theorem dL_law_75 : decode cL_law 75 = .ok (.iadd, 1) := by decide +kernel
theorem dL_law_76 : decode cL_law 76 = .ok (.invokevirtual 79, 3) := by decide +kernel
theorem dL_law_79 : decode cL_law 79 = .ok (.pop, 1) := by decide +kernel
theorem dL_law_80 : decode cL_law 80 = .ok (.aload_n 1, 1) := by decide +kernel
theorem dL_law_81 : decode cL_law 81 = .ok (.bipush 6, 2) := by decide +kernel
theorem dL_law_83 : decode cL_law 83 = .ok (.aload_n 0, 1) := by decide +kernel
theorem dL_law_84 : decode cL_law 84 = .ok (.iconst 5, 1) := by decide +kernel
theorem dL_law_85 : decode cL_law 85 = .ok (.sipush 4000, 3) := by decide +kernel
theorem dL_law_88 : decode cL_law 88 = .ok (.invokestatic 51, 3) := by decide +kernel
theorem dL_law_91 : decode cL_law 91 = .ok (.invokevirtual 79, 3) := by decide +kernel
theorem dL_law_94 : decode cL_law 94 = .ok (.pop, 1) := by decide +kernel
theorem dL_law_95 : decode cL_law 95 = .ok (.aload_n 1, 1) := by decide +kernel
theorem dL_law_96 : decode cL_law 96 = .ok (.bipush 7, 2) := by decide +kernel
theorem dL_law_98 : decode cL_law 98 = .ok (.aload_n 0, 1) := by decide +kernel
theorem dL_law_99 : decode cL_law 99 = .ok (.bipush 6, 2) := by decide +kernel
theorem dL_law_101 : decode cL_law 101 = .ok (.bipush 6, 2) := by decide +kernel
theorem dL_law_103 : decode cL_law 103 = .ok (.invokestatic 51, 3) := by decide +kernel
theorem dL_law_106 : decode cL_law 106 = .ok (.invokevirtual 79, 3) := by decide +kernel
theorem dL_law_109 : decode cL_law 109 = .ok (.pop, 1) := by decide +kernel
theorem dL_law_110 : decode cL_law 110 = .ok (.aload_n 1, 1) := by decide +kernel
theorem dL_law_111 : decode cL_law 111 = .ok (.bipush 8, 2) := by decide +kernel
theorem dL_law_113 : decode cL_law 113 = .ok (.iconst 1, 1) := by decide +kernel
theorem dL_law_114 : decode cL_law 114 = .ok (.aload_n 0, 1) := by decide +kernel
theorem dL_law_115 : decode cL_law 115 = .ok (.bipush 7, 2) := by decide +kernel
theorem dL_law_117 : decode cL_law 117 = .ok (.sipush 9000, 3) := by decide +kernel
theorem dL_law_120 : decode cL_law 120 = .ok (.invokestatic 51, 3) := by decide +kernel
theorem dL_law_123 : decode cL_law 123 = .ok (.iadd, 1) := by decide +kernel
theorem dL_law_124 : decode cL_law 124 = .ok (.invokevirtual 79, 3) := by decide +kernel
theorem dL_law_127 : decode cL_law 127 = .ok (.pop, 1) := by decide +kernel
theorem dL_law_128 : decode cL_law 128 = .ok (.aload_n 1, 1) := by decide +kernel
theorem dL_law_129 : decode cL_law 129 = .ok (.bipush 9, 2) := by decide +kernel
theorem dL_law_131 : decode cL_law 131 = .ok (.iconst 1, 1) := by decide +kernel
theorem dL_law_132 : decode cL_law 132 = .ok (.aload_n 0, 1) := by decide +kernel
theorem dL_law_133 : decode cL_law 133 = .ok (.bipush 8, 2) := by decide +kernel
theorem dL_law_135 : decode cL_law 135 = .ok (.bipush 40, 2) := by decide +kernel
theorem dL_law_137 : decode cL_law 137 = .ok (.invokestatic 51, 3) := by decide +kernel
theorem dL_law_140 : decode cL_law 140 = .ok (.iadd, 1) := by decide +kernel
theorem dL_law_141 : decode cL_law 141 = .ok (.invokevirtual 79, 3) := by decide +kernel
theorem dL_law_144 : decode cL_law 144 = .ok (.pop, 1) := by decide +kernel
theorem dL_law_145 : decode cL_law 145 = .ok (.aload_n 1, 1) := by decide +kernel
theorem dL_law_146 : decode cL_law 146 = .ok (.bipush 10, 2) := by decide +kernel
theorem dL_law_148 : decode cL_law 148 = .ok (.iconst 1, 1) := by decide +kernel
theorem dL_law_149 : decode cL_law 149 = .ok (.aload_n 0, 1) := by decide +kernel
theorem dL_law_150 : decode cL_law 150 = .ok (.bipush 9, 2) := by decide +kernel
theorem dL_law_152 : decode cL_law 152 = .ok (.sipush 9000, 3) := by decide +kernel
theorem dL_law_155 : decode cL_law 155 = .ok (.invokestatic 51, 3) := by decide +kernel
theorem dL_law_158 : decode cL_law 158 = .ok (.iadd, 1) := by decide +kernel
theorem dL_law_159 : decode cL_law 159 = .ok (.invokevirtual 79, 3) := by decide +kernel
theorem dL_law_162 : decode cL_law 162 = .ok (.pop, 1) := by decide +kernel
theorem dL_law_163 : decode cL_law 163 = .ok (.aload_n 0, 1) := by decide +kernel
theorem dL_law_164 : decode cL_law 164 = .ok (.bipush 10, 2) := by decide +kernel
theorem dL_law_166 : decode cL_law 166 = .ok (.iconst 5, 1) := by decide +kernel
theorem dL_law_167 : decode cL_law 167 = .ok (.invokestatic 51, 3) := by decide +kernel
theorem dL_law_170 : decode cL_law 170 = .ok (.istore_n 2, 1) := by decide +kernel
theorem dL_law_171 : decode cL_law 171 = .ok (.iconst 0, 1) := by decide +kernel
theorem dL_law_172 : decode cL_law 172 = .ok (.istore_n 3, 1) := by decide +kernel
theorem dL_law_173 : decode cL_law 173 = .ok (.iload_n 3, 1) := by decide +kernel
theorem dL_law_174 : decode cL_law 174 = .ok (.iload_n 2, 1) := by decide +kernel
theorem dL_law_175 : decode cL_law 175 = .ok (.if_icmp .ge 46, 3) := by decide +kernel
theorem dL_law_178 : decode cL_law 178 = .ok (.aload_n 1, 1) := by decide +kernel
theorem dL_law_179 : decode cL_law 179 = .ok (.iconst 1, 1) := by decide +kernel
theorem dL_law_180 : decode cL_law 180 = .ok (.aload_n 0, 1) := by decide +kernel
theorem dL_law_181 : decode cL_law 181 = .ok (.bipush 11, 2) := by decide +kernel
theorem dL_law_183 : decode cL_law 183 = .ok (.iload_n 3, 1) := by decide +kernel
theorem dL_law_184 : decode cL_law 184 = .ok (.iadd, 1) := by decide +kernel
theorem dL_law_185 : decode cL_law 185 = .ok (.bipush 9, 2) := by decide +kernel
theorem dL_law_187 : decode cL_law 187 = .ok (.invokestatic 51, 3) := by decide +kernel
theorem dL_law_190 : decode cL_law 190 = .ok (.iadd, 1) := by decide +kernel
theorem dL_law_191 : decode cL_law 191 = .ok (.aload_n 0, 1) := by decide +kernel
theorem dL_law_192 : decode cL_law 192 = .ok (.bipush 16, 2) := by decide +kernel
theorem dL_law_194 : decode cL_law 194 = .ok (.iload_n 3, 1) := by decide +kernel
theorem dL_law_195 : decode cL_law 195 = .ok (.iadd, 1) := by decide +kernel
theorem dL_law_196 : decode cL_law 196 = .ok (.sipush 9001, 3) := by decide +kernel
theorem dL_law_199 : decode cL_law 199 = .ok (.invokestatic 51, 3) := by decide +kernel
theorem dL_law_202 : decode cL_law 202 = .ok (.sipush 4000, 3) := by decide +kernel
theorem dL_law_205 : decode cL_law 205 = .ok (.isub, 1) := by decide +kernel
theorem dL_law_206 : decode cL_law 206 = .ok (.invokevirtual 82, 3) := by decide +kernel
theorem dL_law_209 : decode cL_law 209 = .ok (.iload_n 3, 1) := by decide +kernel
theorem dL_law_210 : decode cL_law 210 = .ok (.if_icmp .eq 5, 3) := by decide +kernel
theorem dL_law_213 : decode cL_law 213 = .ok (.iconst 0, 1) := by decide +kernel
theorem dL_law_214 : decode cL_law 214 = .ok (.ireturn, 1) := by decide +kernel
theorem dL_law_215 : decode cL_law 215 = .ok (.iinc 3 1, 3) := by decide +kernel
theorem dL_law_218 : decode cL_law 218 = .ok (.goto (-45), 3) := by decide +kernel
theorem dL_law_221 : decode cL_law 221 = .ok (.aload_n 1, 1) := by decide +kernel
theorem dL_law_222 : decode cL_law 222 = .ok (.invokevirtual 44, 3) := by decide +kernel
theorem dL_law_225 : decode cL_law 225 = .ok (.ifCond .eq 5, 3) := by decide +kernel
theorem dL_law_228 : decode cL_law 228 = .ok (.iconst 0, 1) := by decide +kernel
theorem dL_law_229 : decode cL_law 229 = .ok (.ireturn, 1) := by decide +kernel
theorem dL_law_230 : decode cL_law 230 = .ok (.aload_n 0, 1) := by decide +kernel
theorem dL_law_231 : decode cL_law 231 = .ok (.bipush 22, 2) := by decide +kernel
theorem dL_law_233 : decode cL_law 233 = .ok (.bipush 6, 2) := by decide +kernel
theorem dL_law_235 : decode cL_law 235 = .ok (.invokestatic 51, 3) := by decide +kernel
theorem dL_law_238 : decode cL_law 238 = .ok (.istore_n 3, 1) := by decide +kernel
theorem dL_law_239 : decode cL_law 239 = .ok (.iconst 0, 1) := by decide +kernel
theorem dL_law_240 : decode cL_law 240 = .ok (.istore 4, 2) := by decide +kernel
theorem dL_law_242 : decode cL_law 242 = .ok (.iload 4, 2) := by decide +kernel
theorem dL_law_244 : decode cL_law 244 = .ok (.iload_n 3, 1) := by decide +kernel
theorem dL_law_245 : decode cL_law 245 = .ok (.if_icmp .ge 56, 3) := by decide +kernel
theorem dL_law_248 : decode cL_law 248 = .ok (.aload_n 1, 1) := by decide +kernel
theorem dL_law_249 : decode cL_law 249 = .ok (.iconst 1, 1) := by decide +kernel
theorem dL_law_250 : decode cL_law 250 = .ok (.aload_n 0, 1) := by decide +kernel
theorem dL_law_251 : decode cL_law 251 = .ok (.bipush 23, 2) := by decide +kernel
theorem dL_law_253 : decode cL_law 253 = .ok (.iload 4, 2) := by decide +kernel
theorem dL_law_255 : decode cL_law 255 = .ok (.iadd, 1) := by decide +kernel
theorem dL_law_256 : decode cL_law 256 = .ok (.bipush 100, 2) := by decide +kernel
theorem dL_law_258 : decode cL_law 258 = .ok (.invokestatic 51, 3) := by decide +kernel
theorem dL_law_261 : decode cL_law 261 = .ok (.iadd, 1) := by decide +kernel
theorem dL_law_262 : decode cL_law 262 = .ok (.aload_n 0, 1) := by decide +kernel
theorem dL_law_263 : decode cL_law 263 = .ok (.bipush 30, 2) := by decide +kernel
theorem dL_law_265 : decode cL_law 265 = .ok (.iload 4, 2) := by decide +kernel
theorem dL_law_267 : decode cL_law 267 = .ok (.iadd, 1) := by decide +kernel
theorem dL_law_268 : decode cL_law 268 = .ok (.sipush 1000, 3) := by decide +kernel
theorem dL_law_271 : decode cL_law 271 = .ok (.invokestatic 51, 3) := by decide +kernel
theorem dL_law_274 : decode cL_law 274 = .ok (.aload_n 0, 1) := by decide +kernel
theorem dL_law_275 : decode cL_law 275 = .ok (.bipush 37, 2) := by decide +kernel
theorem dL_law_277 : decode cL_law 277 = .ok (.iload 4, 2) := by decide +kernel
theorem dL_law_279 : decode cL_law 279 = .ok (.iadd, 1) := by decide +kernel
theorem dL_law_280 : decode cL_law 280 = .ok (.ldc 85, 2) := by decide +kernel
theorem dL_law_282 : decode cL_law 282 = .ok (.invokestatic 51, 3) := by decide +kernel
theorem dL_law_285 : decode cL_law 285 = .ok (.invokevirtual 56, 3) := by decide +kernel
theorem dL_law_288 : decode cL_law 288 = .ok (.iload 4, 2) := by decide +kernel
theorem dL_law_290 : decode cL_law 290 = .ok (.if_icmp .eq 5, 3) := by decide +kernel
theorem dL_law_293 : decode cL_law 293 = .ok (.iconst 0, 1) := by decide +kernel
theorem dL_law_294 : decode cL_law 294 = .ok (.ireturn, 1) := by decide +kernel
theorem dL_law_295 : decode cL_law 295 = .ok (.iinc 4 1, 3) := by decide +kernel
theorem dL_law_298 : decode cL_law 298 = .ok (.goto (-56), 3) := by decide +kernel
theorem dL_law_301 : decode cL_law 301 = .ok (.iconst 0, 1) := by decide +kernel
theorem dL_law_302 : decode cL_law 302 = .ok (.istore 4, 2) := by decide +kernel
theorem dL_law_304 : decode cL_law 304 = .ok (.iconst 0, 1) := by decide +kernel
theorem dL_law_305 : decode cL_law 305 = .ok (.istore 5, 2) := by decide +kernel
theorem dL_law_307 : decode cL_law 307 = .ok (.iload 5, 2) := by decide +kernel
theorem dL_law_309 : decode cL_law 309 = .ok (.bipush 24, 2) := by decide +kernel
theorem dL_law_311 : decode cL_law 311 = .ok (.if_icmp .ge 370, 3) := by decide +kernel
theorem dL_law_314 : decode cL_law 314 = .ok (.bipush 45, 2) := by decide +kernel
theorem dL_law_316 : decode cL_law 316 = .ok (.bipush 6, 2) := by decide +kernel
theorem dL_law_318 : decode cL_law 318 = .ok (.iload 5, 2) := by decide +kernel
theorem dL_law_320 : decode cL_law 320 = .ok (.imul, 1) := by decide +kernel
theorem dL_law_321 : decode cL_law 321 = .ok (.iadd, 1) := by decide +kernel
theorem dL_law_322 : decode cL_law 322 = .ok (.istore 6, 2) := by decide +kernel
theorem dL_law_324 : decode cL_law 324 = .ok (.aload_n 0, 1) := by decide +kernel
theorem dL_law_325 : decode cL_law 325 = .ok (.iload 6, 2) := by decide +kernel
theorem dL_law_327 : decode cL_law 327 = .ok (.bipush 8, 2) := by decide +kernel
theorem dL_law_329 : decode cL_law 329 = .ok (.invokestatic 51, 3) := by decide +kernel
theorem dL_law_332 : decode cL_law 332 = .ok (.istore 7, 2) := by decide +kernel
theorem dL_law_334 : decode cL_law 334 = .ok (.iload 7, 2) := by decide +kernel
theorem dL_law_336 : decode cL_law 336 = .ok (.ifCond .ne 22, 3) := by decide +kernel
theorem dL_law_339 : decode cL_law 339 = .ok (.aload_n 1, 1) := by decide +kernel
theorem dL_law_340 : decode cL_law 340 = .ok (.iconst 1, 1) := by decide +kernel
theorem dL_law_341 : decode cL_law 341 = .ok (.aload_n 0, 1) := by decide +kernel
theorem dL_law_342 : decode cL_law 342 = .ok (.iload 6, 2) := by decide +kernel
theorem dL_law_344 : decode cL_law 344 = .ok (.iconst 1, 1) := by decide +kernel
theorem dL_law_345 : decode cL_law 345 = .ok (.iadd, 1) := by decide +kernel
theorem dL_law_346 : decode cL_law 346 = .ok (.ldc 86, 2) := by decide +kernel
theorem dL_law_348 : decode cL_law 348 = .ok (.invokestatic 51, 3) := by decide +kernel
theorem dL_law_351 : decode cL_law 351 = .ok (.iadd, 1) := by decide +kernel
theorem dL_law_352 : decode cL_law 352 = .ok (.invokestatic 87, 3) := by decide +kernel
theorem dL_law_355 : decode cL_law 355 = .ok (.ifCond .eq 34, 3) := by decide +kernel
theorem dL_law_358 : decode cL_law 358 = .ok (.iload 7, 2) := by decide +kernel
theorem dL_law_360 : decode cL_law 360 = .ok (.iconst 1, 1) := by decide +kernel
theorem dL_law_361 : decode cL_law 361 = .ok (.if_icmp .ne 10, 3) := by decide +kernel
theorem dL_law_364 : decode cL_law 364 = .ok (.aload_n 1, 1) := by decide +kernel
theorem dL_law_365 : decode cL_law 365 = .ok (.invokestatic 91, 3) := by decide +kernel
theorem dL_law_368 : decode cL_law 368 = .ok (.ifCond .eq 21, 3) := by decide +kernel
theorem dL_law_371 : decode cL_law 371 = .ok (.iload 7, 2) := by decide +kernel
theorem dL_law_373 : decode cL_law 373 = .ok (.iconst 2, 1) := by decide +kernel
theorem dL_law_374 : decode cL_law 374 = .ok (.if_icmp .ne 17, 3) := by decide +kernel
theorem dL_law_377 : decode cL_law 377 = .ok (.aload_n 1, 1) := by decide +kernel
theorem dL_law_378 : decode cL_law 378 = .ok (.aload_n 0, 1) := by decide +kernel
theorem dL_law_379 : decode cL_law 379 = .ok (.iload 6, 2) := by decide +kernel
theorem dL_law_381 : decode cL_law 381 = .ok (.iconst 1, 1) := by decide +kernel
theorem dL_law_382 : decode cL_law 382 = .ok (.iadd, 1) := by decide +kernel
theorem dL_law_383 : decode cL_law 383 = .ok (.invokestatic 95, 3) := by decide +kernel
theorem dL_law_386 : decode cL_law 386 = .ok (.ifCond .ne 5, 3) := by decide +kernel
theorem dL_law_389 : decode cL_law 389 = .ok (.iconst 0, 1) := by decide +kernel
theorem dL_law_390 : decode cL_law 390 = .ok (.ireturn, 1) := by decide +kernel
theorem dL_law_391 : decode cL_law 391 = .ok (.iload 7, 2) := by decide +kernel
theorem dL_law_393 : decode cL_law 393 = .ok (.iconst 3, 1) := by decide +kernel
theorem dL_law_394 : decode cL_law 394 = .ok (.if_icmp .ne 117, 3) := by decide +kernel
theorem dL_law_397 : decode cL_law 397 = .ok (.aload_n 1, 1) := by decide +kernel
theorem dL_law_398 : decode cL_law 398 = .ok (.bipush 10, 2) := by decide +kernel
theorem dL_law_400 : decode cL_law 400 = .ok (.invokevirtual 8, 3) := by decide +kernel
theorem dL_law_403 : decode cL_law 403 = .ok (.ifCond .ne 22, 3) := by decide +kernel
theorem dL_law_406 : decode cL_law 406 = .ok (.aload_n 1, 1) := by decide +kernel
theorem dL_law_407 : decode cL_law 407 = .ok (.bipush 8, 2) := by decide +kernel
theorem dL_law_409 : decode cL_law 409 = .ok (.invokevirtual 8, 3) := by decide +kernel
theorem dL_law_412 : decode cL_law 412 = .ok (.ifCond .ne 13, 3) := by decide +kernel
theorem dL_law_415 : decode cL_law 415 = .ok (.iload 4, 2) := by decide +kernel
theorem dL_law_417 : decode cL_law 417 = .ok (.iload_n 2, 1) := by decide +kernel
theorem dL_law_418 : decode cL_law 418 = .ok (.if_icmp .ge 7, 3) := by decide +kernel
theorem dL_law_421 : decode cL_law 421 = .ok (.iconst 1, 1) := by decide +kernel
theorem dL_law_422 : decode cL_law 422 = .ok (.goto 4, 3) := by decide +kernel
theorem dL_law_425 : decode cL_law 425 = .ok (.iconst 0, 1) := by decide +kernel
theorem dL_law_426 : decode cL_law 426 = .ok (.istore 8, 2) := by decide +kernel
theorem dL_law_428 : decode cL_law 428 = .ok (.aload_n 1, 1) := by decide +kernel
theorem dL_law_429 : decode cL_law 429 = .ok (.invokevirtual 99, 3) := by decide +kernel
theorem dL_law_432 : decode cL_law 432 = .ok (.iload 8, 2) := by decide +kernel
theorem dL_law_434 : decode cL_law 434 = .ok (.ifCond .eq 8, 3) := by decide +kernel
theorem dL_law_437 : decode cL_law 437 = .ok (.iload 4, 2) := by decide +kernel
theorem dL_law_439 : decode cL_law 439 = .ok (.goto 5, 3) := by decide +kernel
theorem dL_law_442 : decode cL_law 442 = .ok (.bipush (-5), 2) := by decide +kernel
theorem dL_law_444 : decode cL_law 444 = .ok (.if_icmp .ne 50, 3) := by decide +kernel
theorem dL_law_447 : decode cL_law 447 = .ok (.iload 8, 2) := by decide +kernel
theorem dL_law_449 : decode cL_law 449 = .ok (.ifCond .eq 47, 3) := by decide +kernel
theorem dL_law_452 : decode cL_law 452 = .ok (.aload_n 1, 1) := by decide +kernel
theorem dL_law_453 : decode cL_law 453 = .ok (.bipush 9, 2) := by decide +kernel
theorem dL_law_455 : decode cL_law 455 = .ok (.invokevirtual 8, 3) := by decide +kernel
theorem dL_law_458 : decode cL_law 458 = .ok (.iload 4, 2) := by decide +kernel
theorem dL_law_460 : decode cL_law 460 = .ok (.if_icmp .ne 34, 3) := by decide +kernel
theorem dL_law_463 : decode cL_law 463 = .ok (.aload_n 1, 1) := by decide +kernel
theorem dL_law_464 : decode cL_law 464 = .ok (.bipush 10, 2) := by decide +kernel
theorem dL_law_466 : decode cL_law 466 = .ok (.invokevirtual 8, 3) := by decide +kernel
theorem dL_law_469 : decode cL_law 469 = .ok (.aload_n 1, 1) := by decide +kernel
theorem dL_law_470 : decode cL_law 470 = .ok (.iload 4, 2) := by decide +kernel
theorem dL_law_472 : decode cL_law 472 = .ok (.iconst 0, 1) := by decide +kernel
theorem dL_law_473 : decode cL_law 473 = .ok (.invokevirtual 102, 3) := by decide +kernel
theorem dL_law_476 : decode cL_law 476 = .ok (.if_icmp .ne 18, 3) := by decide +kernel
theorem dL_law_479 : decode cL_law 479 = .ok (.aload_n 1, 1) := by decide +kernel
theorem dL_law_480 : decode cL_law 480 = .ok (.iconst 2, 1) := by decide +kernel
theorem dL_law_481 : decode cL_law 481 = .ok (.invokevirtual 8, 3) := by decide +kernel
theorem dL_law_484 : decode cL_law 484 = .ok (.aload_n 1, 1) := by decide +kernel
theorem dL_law_485 : decode cL_law 485 = .ok (.iload 4, 2) := by decide +kernel
theorem dL_law_487 : decode cL_law 487 = .ok (.iconst 1, 1) := by decide +kernel
theorem dL_law_488 : decode cL_law 488 = .ok (.invokevirtual 102, 3) := by decide +kernel
theorem dL_law_491 : decode cL_law 491 = .ok (.if_icmp .eq 5, 3) := by decide +kernel
theorem dL_law_494 : decode cL_law 494 = .ok (.iconst 0, 1) := by decide +kernel
theorem dL_law_495 : decode cL_law 495 = .ok (.ireturn, 1) := by decide +kernel
theorem dL_law_496 : decode cL_law 496 = .ok (.iload 4, 2) := by decide +kernel
theorem dL_law_498 : decode cL_law 498 = .ok (.iload 8, 2) := by decide +kernel
theorem dL_law_500 : decode cL_law 500 = .ok (.ifCond .eq 7, 3) := by decide +kernel
theorem dL_law_503 : decode cL_law 503 = .ok (.iconst 1, 1) := by decide +kernel
theorem dL_law_504 : decode cL_law 504 = .ok (.goto 4, 3) := by decide +kernel
theorem dL_law_507 : decode cL_law 507 = .ok (.iconst 0, 1) := by decide +kernel
theorem dL_law_508 : decode cL_law 508 = .ok (.iadd, 1) := by decide +kernel
theorem dL_law_509 : decode cL_law 509 = .ok (.istore 4, 2) := by decide +kernel
theorem dL_law_511 : decode cL_law 511 = .ok (.iload 7, 2) := by decide +kernel
theorem dL_law_513 : decode cL_law 513 = .ok (.iconst 4, 1) := by decide +kernel
theorem dL_law_514 : decode cL_law 514 = .ok (.if_icmp .ne 115, 3) := by decide +kernel
theorem dL_law_517 : decode cL_law 517 = .ok (.aload_n 0, 1) := by decide +kernel
theorem dL_law_518 : decode cL_law 518 = .ok (.iload 6, 2) := by decide +kernel
theorem dL_law_520 : decode cL_law 520 = .ok (.iconst 1, 1) := by decide +kernel
theorem dL_law_521 : decode cL_law 521 = .ok (.iadd, 1) := by decide +kernel
theorem dL_law_522 : decode cL_law 522 = .ok (.iconst 3, 1) := by decide +kernel
theorem dL_law_523 : decode cL_law 523 = .ok (.invokestatic 51, 3) := by decide +kernel
theorem dL_law_526 : decode cL_law 526 = .ok (.istore 8, 2) := by decide +kernel
theorem dL_law_528 : decode cL_law 528 = .ok (.aload_n 1, 1) := by decide +kernel
theorem dL_law_529 : decode cL_law 529 = .ok (.iconst 5, 1) := by decide +kernel
theorem dL_law_530 : decode cL_law 530 = .ok (.invokevirtual 8, 3) := by decide +kernel
theorem dL_law_533 : decode cL_law 533 = .ok (.istore 9, 2) := by decide +kernel
theorem dL_law_535 : decode cL_law 535 = .ok (.aload_n 1, 1) := by decide +kernel
theorem dL_law_536 : decode cL_law 536 = .ok (.bipush 6, 2) := by decide +kernel
theorem dL_law_538 : decode cL_law 538 = .ok (.invokevirtual 8, 3) := by decide +kernel
theorem dL_law_541 : decode cL_law 541 = .ok (.istore 10, 2) := by decide +kernel
theorem dL_law_543 : decode cL_law 543 = .ok (.aload_n 1, 1) := by decide +kernel
theorem dL_law_544 : decode cL_law 544 = .ok (.bipush 7, 2) := by decide +kernel
theorem dL_law_546 : decode cL_law 546 = .ok (.invokevirtual 8, 3) := by decide +kernel
theorem dL_law_549 : decode cL_law 549 = .ok (.istore 11, 2) := by decide +kernel
theorem dL_law_551 : decode cL_law 551 = .ok (.aload_n 1, 1) := by decide +kernel
theorem dL_law_552 : decode cL_law 552 = .ok (.iload 8, 2) := by decide +kernel
theorem dL_law_554 : decode cL_law 554 = .ok (.invokevirtual 105, 3) := by decide +kernel
theorem dL_law_557 : decode cL_law 557 = .ok (.iload 9, 2) := by decide +kernel
theorem dL_law_559 : decode cL_law 559 = .ok (.if_icmp .ne 68, 3) := by decide +kernel
theorem dL_law_562 : decode cL_law 562 = .ok (.aload_n 1, 1) := by decide +kernel
theorem dL_law_563 : decode cL_law 563 = .ok (.iconst 5, 1) := by decide +kernel
theorem dL_law_564 : decode cL_law 564 = .ok (.invokevirtual 8, 3) := by decide +kernel
theorem dL_law_567 : decode cL_law 567 = .ok (.iload 8, 2) := by decide +kernel
theorem dL_law_569 : decode cL_law 569 = .ok (.if_icmp .ne 58, 3) := by decide +kernel
theorem dL_law_572 : decode cL_law 572 = .ok (.aload_n 1, 1) := by decide +kernel
theorem dL_law_573 : decode cL_law 573 = .ok (.bipush 6, 2) := by decide +kernel
theorem dL_law_575 : decode cL_law 575 = .ok (.invokevirtual 8, 3) := by decide +kernel
theorem dL_law_578 : decode cL_law 578 = .ok (.iload 8, 2) := by decide +kernel
theorem dL_law_580 : decode cL_law 580 = .ok (.ifCond .ne 8, 3) := by decide +kernel
theorem dL_law_583 : decode cL_law 583 = .ok (.iload 10, 2) := by decide +kernel
theorem dL_law_585 : decode cL_law 585 = .ok (.goto 7, 3) := by decide +kernel
theorem dL_law_588 : decode cL_law 588 = .ok (.iload 8, 2) := by decide +kernel
theorem dL_law_590 : decode cL_law 590 = .ok (.iconst 1, 1) := by decide +kernel
theorem dL_law_591 : decode cL_law 591 = .ok (.isub, 1) := by decide +kernel
theorem dL_law_592 : decode cL_law 592 = .ok (.if_icmp .ne 35, 3) := by decide +kernel
theorem dL_law_595 : decode cL_law 595 = .ok (.aload_n 1, 1) := by decide +kernel
theorem dL_law_596 : decode cL_law 596 = .ok (.bipush 7, 2) := by decide +kernel
theorem dL_law_598 : decode cL_law 598 = .ok (.invokevirtual 8, 3) := by decide +kernel
theorem dL_law_601 : decode cL_law 601 = .ok (.iload 8, 2) := by decide +kernel
theorem dL_law_603 : decode cL_law 603 = .ok (.ifCond .eq 15, 3) := by decide +kernel
theorem dL_law_606 : decode cL_law 606 = .ok (.iload 8, 2) := by decide +kernel
theorem dL_law_608 : decode cL_law 608 = .ok (.iconst 2, 1) := by decide +kernel
theorem dL_law_609 : decode cL_law 609 = .ok (.if_icmp .ne 14, 3) := by decide +kernel
theorem dL_law_612 : decode cL_law 612 = .ok (.iload 10, 2) := by decide +kernel
theorem dL_law_614 : decode cL_law 614 = .ok (.iconst 1, 1) := by decide +kernel
theorem dL_law_615 : decode cL_law 615 = .ok (.if_icmp .ne 8, 3) := by decide +kernel
theorem dL_law_618 : decode cL_law 618 = .ok (.iload 11, 2) := by decide +kernel
theorem dL_law_620 : decode cL_law 620 = .ok (.goto 4, 3) := by decide +kernel
theorem dL_law_623 : decode cL_law 623 = .ok (.iconst 0, 1) := by decide +kernel
theorem dL_law_624 : decode cL_law 624 = .ok (.if_icmp .eq 5, 3) := by decide +kernel
theorem dL_law_627 : decode cL_law 627 = .ok (.iconst 0, 1) := by decide +kernel
theorem dL_law_628 : decode cL_law 628 = .ok (.ireturn, 1) := by decide +kernel
theorem dL_law_629 : decode cL_law 629 = .ok (.aload_n 0, 1) := by decide +kernel
theorem dL_law_630 : decode cL_law 630 = .ok (.iload 6, 2) := by decide +kernel
theorem dL_law_632 : decode cL_law 632 = .ok (.iconst 5, 1) := by decide +kernel
theorem dL_law_633 : decode cL_law 633 = .ok (.iadd, 1) := by decide +kernel
theorem dL_law_634 : decode cL_law 634 = .ok (.bipush 6, 2) := by decide +kernel
theorem dL_law_636 : decode cL_law 636 = .ok (.invokestatic 51, 3) := by decide +kernel
theorem dL_law_639 : decode cL_law 639 = .ok (.istore 8, 2) := by decide +kernel
theorem dL_law_641 : decode cL_law 641 = .ok (.iconst 0, 1) := by decide +kernel
theorem dL_law_642 : decode cL_law 642 = .ok (.istore 9, 2) := by decide +kernel
theorem dL_law_644 : decode cL_law 644 = .ok (.iload 9, 2) := by decide +kernel
theorem dL_law_646 : decode cL_law 646 = .ok (.iload 8, 2) := by decide +kernel
theorem dL_law_648 : decode cL_law 648 = .ok (.if_icmp .ge 18, 3) := by decide +kernel
theorem dL_law_651 : decode cL_law 651 = .ok (.aload_n 1, 1) := by decide +kernel
theorem dL_law_652 : decode cL_law 652 = .ok (.invokestatic 108, 3) := by decide +kernel
theorem dL_law_655 : decode cL_law 655 = .ok (.ifCond .ne 5, 3) := by decide +kernel
theorem dL_law_658 : decode cL_law 658 = .ok (.iconst 0, 1) := by decide +kernel
theorem dL_law_659 : decode cL_law 659 = .ok (.ireturn, 1) := by decide +kernel
theorem dL_law_660 : decode cL_law 660 = .ok (.iinc 9 1, 3) := by decide +kernel
theorem dL_law_663 : decode cL_law 663 = .ok (.goto (-19), 3) := by decide +kernel
theorem dL_law_666 : decode cL_law 666 = .ok (.aload_n 1, 1) := by decide +kernel
theorem dL_law_667 : decode cL_law 667 = .ok (.invokestatic 111, 3) := by decide +kernel
theorem dL_law_670 : decode cL_law 670 = .ok (.ifCond .ne 5, 3) := by decide +kernel
theorem dL_law_673 : decode cL_law 673 = .ok (.iconst 0, 1) := by decide +kernel
theorem dL_law_674 : decode cL_law 674 = .ok (.ireturn, 1) := by decide +kernel
theorem dL_law_675 : decode cL_law 675 = .ok (.iinc 5 1, 3) := by decide +kernel
theorem dL_law_678 : decode cL_law 678 = .ok (.goto (-371), 3) := by decide +kernel
theorem dL_law_681 : decode cL_law 681 = .ok (.iconst 1, 1) := by decide +kernel
theorem dL_law_682 : decode cL_law 682 = .ok (.ireturn, 1) := by decide +kernel
