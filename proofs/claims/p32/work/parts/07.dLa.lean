theorem dL_cell_0 : decode cL_cell 0 = .ok (.iload_n 1, 1) := by decide +kernel
theorem dL_cell_1 : decode cL_cell 1 = .ok (.aload_n 0, 1) := by decide +kernel
theorem dL_cell_2 : decode cL_cell 2 = .ok (.arraylength, 1) := by decide +kernel
theorem dL_cell_3 : decode cL_cell 3 = .ok (.if_icmp .ge 9, 3) := by decide +kernel
theorem dL_cell_6 : decode cL_cell 6 = .ok (.aload_n 0, 1) := by decide +kernel
theorem dL_cell_7 : decode cL_cell 7 = .ok (.iload_n 1, 1) := by decide +kernel
theorem dL_cell_8 : decode cL_cell 8 = .ok (.iaload, 1) := by decide +kernel
theorem dL_cell_9 : decode cL_cell 9 = .ok (.goto 11, 3) := by decide +kernel
theorem dL_cell_12 : decode cL_cell 12 = .ok (.ldc 7, 2) := by decide +kernel
theorem dL_cell_14 : decode cL_cell 14 = .ok (.iload_n 1, 1) := by decide +kernel
theorem dL_cell_15 : decode cL_cell 15 = .ok (.imul, 1) := by decide +kernel
theorem dL_cell_16 : decode cL_cell 16 = .ok (.sipush 4417, 3) := by decide +kernel
theorem dL_cell_19 : decode cL_cell 19 = .ok (.iadd, 1) := by decide +kernel
theorem dL_cell_20 : decode cL_cell 20 = .ok (.ldc 8, 2) := by decide +kernel
theorem dL_cell_22 : decode cL_cell 22 = .ok (.iand, 1) := by decide +kernel
theorem dL_cell_23 : decode cL_cell 23 = .ok (.ireturn, 1) := by decide +kernel
set_option maxRecDepth 20000 in
theorem ggL_isShot_X8_shot : GoodIn wsL_isShot wsX8_shot := goodIn_r _ [9, 10, 11, 12, 13, 14, 15, 16, 17, 18, 19, 20, 21, 22, 23, 24, 25, 26, 27, 8, 28, 29, 30, 31, 32, 33, 34, 35, 36, 37, 38, 39, 40, 41, 42, 43, 44, 45, 46, 47, 48, 49, 50, 51, 52, 53, 54, 55, 56, 57, 58, 59, 60, 61, 62, 63, 64, 65, 66, 67, 68, 69, 70, 71] (by decide +kernel) (by decide +kernel)
set_option maxRecDepth 20000 in
theorem gL_isShot_X8_shot : GoodIn wsL_isShot (wsV RL 9 RX8 yX8_shot wsX8_shot) := goodIn_app (goodIn_of _ (by decide +kernel)) ggL_isShot_X8_shot
theorem dL_isShot_0 : decode cL_isShot 0 = .ok (.aload_n 0, 1) := by decide +kernel
theorem dL_isShot_1 : decode cL_isShot 1 = .ok (.iload_n 1, 1) := by decide +kernel
theorem dL_isShot_2 : decode cL_isShot 2 = .ok (.iconst 0, 1) := by decide +kernel
theorem dL_isShot_3 : decode cL_isShot 3 = .ok (.invokevirtual 9, 3) := by decide +kernel
theorem dL_isShot_6 : decode cL_isShot 6 = .ok (.i2l, 1) := by decide +kernel
theorem dL_isShot_7 : decode cL_isShot 7 = .ok (.lstore_n 2, 1) := by decide +kernel
theorem dL_isShot_8 : decode cL_isShot 8 = .ok (.aload_n 0, 1) := by decide +kernel
theorem dL_isShot_9 : decode cL_isShot 9 = .ok (.iload_n 1, 1) := by decide +kernel
theorem dL_isShot_10 : decode cL_isShot 10 = .ok (.iconst 1, 1) := by decide +kernel
theorem dL_isShot_11 : decode cL_isShot 11 = .ok (.invokevirtual 9, 3) := by decide +kernel
theorem dL_isShot_14 : decode cL_isShot 14 = .ok (.i2l, 1) := by decide +kernel
theorem dL_isShot_15 : decode cL_isShot 15 = .ok (.lstore 4, 2) := by decide +kernel
theorem dL_isShot_17 : decode cL_isShot 17 = .ok (.aload_n 0, 1) := by decide +kernel
theorem dL_isShot_18 : decode cL_isShot 18 = .ok (.iload_n 1, 1) := by decide +kernel
theorem dL_isShot_19 : decode cL_isShot 19 = .ok (.bipush 7, 2) := by decide +kernel
theorem dL_isShot_21 : decode cL_isShot 21 = .ok (.invokevirtual 9, 3) := by decide +kernel
theorem dL_isShot_24 : decode cL_isShot 24 = .ok (.i2l, 1) := by decide +kernel
theorem dL_isShot_25 : decode cL_isShot 25 = .ok (.lload_n 2, 1) := by decide +kernel
theorem dL_isShot_26 : decode cL_isShot 26 = .ok (.ladd, 1) := by decide +kernel
theorem dL_isShot_27 : decode cL_isShot 27 = .ok (.lstore 6, 2) := by decide +kernel
theorem dL_isShot_29 : decode cL_isShot 29 = .ok (.aload_n 0, 1) := by decide +kernel
theorem dL_isShot_30 : decode cL_isShot 30 = .ok (.iload_n 1, 1) := by decide +kernel
theorem dL_isShot_31 : decode cL_isShot 31 = .ok (.iconst 3, 1) := by decide +kernel
theorem dL_isShot_32 : decode cL_isShot 32 = .ok (.invokevirtual 9, 3) := by decide +kernel
theorem dL_isShot_35 : decode cL_isShot 35 = .ok (.istore 8, 2) := by decide +kernel
theorem dL_isShot_37 : decode cL_isShot 37 = .ok (.aload_n 0, 1) := by decide +kernel
theorem dL_isShot_38 : decode cL_isShot 38 = .ok (.iload_n 1, 1) := by decide +kernel
theorem dL_isShot_39 : decode cL_isShot 39 = .ok (.iconst 4, 1) := by decide +kernel
theorem dL_isShot_40 : decode cL_isShot 40 = .ok (.invokevirtual 9, 3) := by decide +kernel
theorem dL_isShot_43 : decode cL_isShot 43 = .ok (.istore 9, 2) := by decide +kernel
theorem dL_isShot_45 : decode cL_isShot 45 = .ok (.aload_n 0, 1) := by decide +kernel
theorem dL_isShot_46 : decode cL_isShot 46 = .ok (.iload_n 1, 1) := by decide +kernel
theorem dL_isShot_47 : decode cL_isShot 47 = .ok (.iconst 2, 1) := by decide +kernel
theorem dL_isShot_48 : decode cL_isShot 48 = .ok (.invokevirtual 9, 3) := by decide +kernel
theorem dL_isShot_51 : decode cL_isShot 51 = .ok (.ifCond .le 38, 3) := by decide +kernel
theorem dL_isShot_54 : decode cL_isShot 54 = .ok (.iload 8, 2) := by decide +kernel
theorem dL_isShot_56 : decode cL_isShot 56 = .ok (.ifCond .ne 31, 3) := by decide +kernel
theorem dL_isShot_59 : decode cL_isShot 59 = .ok (.iload 9, 2) := by decide +kernel
theorem dL_isShot_61 : decode cL_isShot 61 = .ok (.ifCond .ne 26, 3) := by decide +kernel
theorem dL_isShot_64 : decode cL_isShot 64 = .ok (.aload_n 0, 1) := by decide +kernel
theorem dL_isShot_65 : decode cL_isShot 65 = .ok (.iload_n 1, 1) := by decide +kernel
theorem dL_isShot_66 : decode cL_isShot 66 = .ok (.iconst 5, 1) := by decide +kernel
theorem dL_isShot_67 : decode cL_isShot 67 = .ok (.invokevirtual 9, 3) := by decide +kernel
theorem dL_isShot_70 : decode cL_isShot 70 = .ok (.ifCond .ne 17, 3) := by decide +kernel
theorem dL_isShot_73 : decode cL_isShot 73 = .ok (.aload_n 0, 1) := by decide +kernel
theorem dL_isShot_74 : decode cL_isShot 74 = .ok (.iload_n 1, 1) := by decide +kernel
theorem dL_isShot_75 : decode cL_isShot 75 = .ok (.bipush 6, 2) := by decide +kernel
theorem dL_isShot_77 : decode cL_isShot 77 = .ok (.invokevirtual 9, 3) := by decide +kernel
theorem dL_isShot_80 : decode cL_isShot 80 = .ok (.ifCond .ne 7, 3) := by decide +kernel
theorem dL_isShot_83 : decode cL_isShot 83 = .ok (.iconst 1, 1) := by decide +kernel
theorem dL_isShot_84 : decode cL_isShot 84 = .ok (.goto 4, 3) := by decide +kernel
theorem dL_isShot_87 : decode cL_isShot 87 = .ok (.iconst 0, 1) := by decide +kernel
theorem dL_isShot_88 : decode cL_isShot 88 = .ok (.ireturn, 1) := by decide +kernel
theorem dL_isShot_89 : decode cL_isShot 89 = .ok (.lload_n 2, 1) := by decide +kernel
theorem dL_isShot_90 : decode cL_isShot 90 = .ok (.lload 4, 2) := by decide +kernel
theorem dL_isShot_92 : decode cL_isShot 92 = .ok (.lmul, 1) := by decide +kernel
theorem dL_isShot_93 : decode cL_isShot 93 = .ok (.ldc2_w 15, 3) := by decide +kernel
theorem dL_isShot_96 : decode cL_isShot 96 = .ok (.lmul, 1) := by decide +kernel
theorem dL_isShot_97 : decode cL_isShot 97 = .ok (.lload 6, 2) := by decide +kernel
theorem dL_isShot_99 : decode cL_isShot 99 = .ok (.ldiv, 1) := by decide +kernel
theorem dL_isShot_100 : decode cL_isShot 100 = .ok (.lstore 10, 2) := by decide +kernel
theorem dL_isShot_102 : decode cL_isShot 102 = .ok (.lload 10, 2) := by decide +kernel
theorem dL_isShot_104 : decode cL_isShot 104 = .ok (.lload 10, 2) := by decide +kernel
theorem dL_isShot_106 : decode cL_isShot 106 = .ok (.lmul, 1) := by decide +kernel
theorem dL_isShot_107 : decode cL_isShot 107 = .ok (.ldc2_w 17, 3) := by decide +kernel
theorem dL_isShot_110 : decode cL_isShot 110 = .ok (.lmul, 1) := by decide +kernel
theorem dL_isShot_111 : decode cL_isShot 111 = .ok (.ldc2_w 19, 3) := by decide +kernel
theorem dL_isShot_114 : decode cL_isShot 114 = .ok (.ldiv, 1) := by decide +kernel
theorem dL_isShot_115 : decode cL_isShot 115 = .ok (.lstore 12, 2) := by decide +kernel
theorem dL_isShot_117 : decode cL_isShot 117 = .ok (.iload 8, 2) := by decide +kernel
theorem dL_isShot_119 : decode cL_isShot 119 = .ok (.i2l, 1) := by decide +kernel
theorem dL_isShot_120 : decode cL_isShot 120 = .ok (.lload 12, 2) := by decide +kernel
theorem dL_isShot_122 : decode cL_isShot 122 = .ok (.lcmp, 1) := by decide +kernel
theorem dL_isShot_123 : decode cL_isShot 123 = .ok (.ifCond .eq 27, 3) := by decide +kernel
theorem dL_isShot_126 : decode cL_isShot 126 = .ok (.iload 8, 2) := by decide +kernel
theorem dL_isShot_128 : decode cL_isShot 128 = .ok (.i2l, 1) := by decide +kernel
theorem dL_isShot_129 : decode cL_isShot 129 = .ok (.lload 12, 2) := by decide +kernel
theorem dL_isShot_131 : decode cL_isShot 131 = .ok (.lcmp, 1) := by decide +kernel
theorem dL_isShot_132 : decode cL_isShot 132 = .ok (.ifCond .ge 22, 3) := by decide +kernel
theorem dL_isShot_135 : decode cL_isShot 135 = .ok (.iload 8, 2) := by decide +kernel
theorem dL_isShot_137 : decode cL_isShot 137 = .ok (.bipush 100, 2) := by decide +kernel
theorem dL_isShot_139 : decode cL_isShot 139 = .ok (.irem, 1) := by decide +kernel
theorem dL_isShot_140 : decode cL_isShot 140 = .ok (.ifCond .ne 14, 3) := by decide +kernel
theorem dL_isShot_143 : decode cL_isShot 143 = .ok (.iload 8, 2) := by decide +kernel
theorem dL_isShot_145 : decode cL_isShot 145 = .ok (.ldc 21, 2) := by decide +kernel
theorem dL_isShot_147 : decode cL_isShot 147 = .ok (.if_icmp .lt 7, 3) := by decide +kernel
theorem dL_isShot_150 : decode cL_isShot 150 = .ok (.iconst 1, 1) := by decide +kernel
theorem dL_isShot_151 : decode cL_isShot 151 = .ok (.goto 4, 3) := by decide +kernel
theorem dL_isShot_154 : decode cL_isShot 154 = .ok (.iconst 0, 1) := by decide +kernel
theorem dL_isShot_155 : decode cL_isShot 155 = .ok (.istore 14, 2) := by decide +kernel
theorem dL_isShot_157 : decode cL_isShot 157 = .ok (.iload 9, 2) := by decide +kernel
theorem dL_isShot_159 : decode cL_isShot 159 = .ok (.i2l, 1) := by decide +kernel
theorem dL_isShot_160 : decode cL_isShot 160 = .ok (.ldc2_w 15, 3) := by decide +kernel
theorem dL_isShot_163 : decode cL_isShot 163 = .ok (.lmul, 1) := by decide +kernel
theorem dL_isShot_164 : decode cL_isShot 164 = .ok (.lload_n 2, 1) := by decide +kernel
theorem dL_isShot_165 : decode cL_isShot 165 = .ok (.lmul, 1) := by decide +kernel
theorem dL_isShot_166 : decode cL_isShot 166 = .ok (.lload 6, 2) := by decide +kernel
theorem dL_isShot_168 : decode cL_isShot 168 = .ok (.ladd, 1) := by decide +kernel
theorem dL_isShot_169 : decode cL_isShot 169 = .ok (.lconst 1, 1) := by decide +kernel
theorem dL_isShot_170 : decode cL_isShot 170 = .ok (.lsub, 1) := by decide +kernel
theorem dL_isShot_171 : decode cL_isShot 171 = .ok (.lload 6, 2) := by decide +kernel
theorem dL_isShot_173 : decode cL_isShot 173 = .ok (.ldiv, 1) := by decide +kernel
theorem dL_isShot_174 : decode cL_isShot 174 = .ok (.lstore 15, 2) := by decide +kernel
theorem dL_isShot_176 : decode cL_isShot 176 = .ok (.iload 8, 2) := by decide +kernel
theorem dL_isShot_178 : decode cL_isShot 178 = .ok (.i2l, 1) := by decide +kernel
theorem dL_isShot_179 : decode cL_isShot 179 = .ok (.ldc2_w 19, 3) := by decide +kernel
theorem dL_isShot_182 : decode cL_isShot 182 = .ok (.lmul, 1) := by decide +kernel
theorem dL_isShot_183 : decode cL_isShot 183 = .ok (.ldc2_w 17, 3) := by decide +kernel
theorem dL_isShot_186 : decode cL_isShot 186 = .ok (.ldiv, 1) := by decide +kernel
theorem dL_isShot_187 : decode cL_isShot 187 = .ok (.lstore 17, 2) := by decide +kernel
theorem dL_isShot_189 : decode cL_isShot 189 = .ok (.iload 9, 2) := by decide +kernel
theorem dL_isShot_191 : decode cL_isShot 191 = .ok (.i2l, 1) := by decide +kernel
theorem dL_isShot_192 : decode cL_isShot 192 = .ok (.lconst 1, 1) := by decide +kernel
theorem dL_isShot_193 : decode cL_isShot 193 = .ok (.ladd, 1) := by decide +kernel
theorem dL_isShot_194 : decode cL_isShot 194 = .ok (.ldc2_w 15, 3) := by decide +kernel
theorem dL_isShot_197 : decode cL_isShot 197 = .ok (.lmul, 1) := by decide +kernel
theorem dL_isShot_198 : decode cL_isShot 198 = .ok (.lload_n 2, 1) := by decide +kernel
theorem dL_isShot_199 : decode cL_isShot 199 = .ok (.lmul, 1) := by decide +kernel
theorem dL_isShot_200 : decode cL_isShot 200 = .ok (.lload 6, 2) := by decide +kernel
theorem dL_isShot_202 : decode cL_isShot 202 = .ok (.ladd, 1) := by decide +kernel
theorem dL_isShot_203 : decode cL_isShot 203 = .ok (.lconst 1, 1) := by decide +kernel
theorem dL_isShot_204 : decode cL_isShot 204 = .ok (.lsub, 1) := by decide +kernel
theorem dL_isShot_205 : decode cL_isShot 205 = .ok (.lload 6, 2) := by decide +kernel
theorem dL_isShot_207 : decode cL_isShot 207 = .ok (.ldiv, 1) := by decide +kernel
theorem dL_isShot_208 : decode cL_isShot 208 = .ok (.lstore 19, 2) := by decide +kernel
theorem dL_isShot_210 : decode cL_isShot 210 = .ok (.iload 14, 2) := by decide +kernel
theorem dL_isShot_212 : decode cL_isShot 212 = .ok (.ifCond .eq 47, 3) := by decide +kernel
theorem dL_isShot_215 : decode cL_isShot 215 = .ok (.lload 15, 2) := by decide +kernel
theorem dL_isShot_217 : decode cL_isShot 217 = .ok (.lload 15, 2) := by decide +kernel
theorem dL_isShot_219 : decode cL_isShot 219 = .ok (.lmul, 1) := by decide +kernel
theorem dL_isShot_220 : decode cL_isShot 220 = .ok (.lload 17, 2) := by decide +kernel
theorem dL_isShot_222 : decode cL_isShot 222 = .ok (.lcmp, 1) := by decide +kernel
theorem dL_isShot_223 : decode cL_isShot 223 = .ok (.ifCond .gt 36, 3) := by decide +kernel
theorem dL_isShot_226 : decode cL_isShot 226 = .ok (.lload 19, 2) := by decide +kernel
theorem dL_isShot_228 : decode cL_isShot 228 = .ok (.lload 19, 2) := by decide +kernel
theorem dL_isShot_230 : decode cL_isShot 230 = .ok (.lmul, 1) := by decide +kernel
theorem dL_isShot_231 : decode cL_isShot 231 = .ok (.lload 17, 2) := by decide +kernel
theorem dL_isShot_233 : decode cL_isShot 233 = .ok (.lcmp, 1) := by decide +kernel
theorem dL_isShot_234 : decode cL_isShot 234 = .ok (.ifCond .le 25, 3) := by decide +kernel
theorem dL_isShot_237 : decode cL_isShot 237 = .ok (.iload 8, 2) := by decide +kernel
theorem dL_isShot_239 : decode cL_isShot 239 = .ok (.i2l, 1) := by decide +kernel
theorem dL_isShot_240 : decode cL_isShot 240 = .ok (.lload 12, 2) := by decide +kernel
theorem dL_isShot_242 : decode cL_isShot 242 = .ok (.lcmp, 1) := by decide +kernel
theorem dL_isShot_243 : decode cL_isShot 243 = .ok (.ifCond .lt 12, 3) := by decide +kernel
theorem dL_isShot_246 : decode cL_isShot 246 = .ok (.iload 9, 2) := by decide +kernel
theorem dL_isShot_248 : decode cL_isShot 248 = .ok (.i2l, 1) := by decide +kernel
theorem dL_isShot_249 : decode cL_isShot 249 = .ok (.lload 4, 2) := by decide +kernel
theorem dL_isShot_251 : decode cL_isShot 251 = .ok (.lcmp, 1) := by decide +kernel
theorem dL_isShot_252 : decode cL_isShot 252 = .ok (.ifCond .gt 7, 3) := by decide +kernel
theorem dL_isShot_255 : decode cL_isShot 255 = .ok (.iconst 1, 1) := by decide +kernel
theorem dL_isShot_256 : decode cL_isShot 256 = .ok (.goto 4, 3) := by decide +kernel
theorem dL_isShot_259 : decode cL_isShot 259 = .ok (.iconst 0, 1) := by decide +kernel
theorem dL_isShot_260 : decode cL_isShot 260 = .ok (.ireturn, 1) := by decide +kernel
set_option maxRecDepth 20000 in
theorem ggL_isSeries_X8_count : GoodIn wsL_isSeries wsX8_count := goodIn_r _ [6, 7, 8, 9, 10, 11, 12, 13, 14, 15, 16, 17, 18, 19, 20, 21, 22, 23, 24, 25, 5, 26, 27, 28, 29, 30, 31, 32, 33, 34, 35, 36, 37, 38, 39, 40, 41, 42, 43, 44, 45, 46, 47, 48, 49, 50, 51, 52, 53, 54, 55, 56, 57, 58, 59, 60, 61, 62, 63, 64, 65, 66, 67, 68, 180, 181, 182, 183, 184, 185, 186, 187, 188, 189, 190, 191, 192, 193, 194, 195, 196, 197, 198, 199, 200, 201, 202, 203, 204, 205, 206, 207, 208, 209, 210, 211, 212, 213, 214, 215, 216, 217] (by decide +kernel) (by decide +kernel)
set_option maxRecDepth 20000 in
theorem gL_isSeries_X8_count : GoodIn wsL_isSeries (wsV RL 23 RX8 yX8_count wsX8_count) := goodIn_app (goodIn_of _ (by decide +kernel)) ggL_isSeries_X8_count
set_option maxRecDepth 20000 in
theorem ggL_isSeries_L_isShot : GoodIn wsL_isSeries wsL_isShot := goodIn_r _ [72, 73, 74, 75, 76, 77, 78, 79, 5, 80, 7, 10, 81, 82, 83, 84, 85, 86, 19, 87, 88, 89, 90, 65, 91, 67, 59, 60, 61, 92, 93, 94, 95, 96, 97, 98, 99, 100, 68, 101, 102, 103, 104, 105, 106, 107, 108, 109, 110, 111, 112, 53, 113, 180, 181, 182, 183, 184, 185, 186, 187, 188, 189, 190, 200, 201, 202, 203, 204, 205, 206, 207] (by decide +kernel) (by decide +kernel)
set_option maxRecDepth 20000 in
theorem gL_isSeries_L_isShot : GoodIn wsL_isSeries (va_wsS RL 27 yL_isShot wsL_isShot) := goodIn_app (goodIn_of _ (by decide +kernel)) ggL_isSeries_L_isShot
set_option maxRecDepth 20000 in
theorem ggL_isSeries_X8_shot : GoodIn wsL_isSeries wsX8_shot := goodIn_r _ [80, 7, 10, 81, 82, 83, 84, 85, 86, 19, 87, 88, 89, 90, 65, 91, 67, 59, 60, 5, 61, 92, 93, 94, 95, 96, 97, 98, 99, 100, 68, 101, 102, 103, 104, 105, 106, 107, 108, 109, 110, 111, 112, 53, 113, 180, 181, 182, 183, 184, 185, 186, 187, 188, 189, 190, 200, 201, 202, 203, 204, 205, 206, 207] (by decide +kernel) (by decide +kernel)
set_option maxRecDepth 20000 in
theorem gL_isSeries_X8_shot : GoodIn wsL_isSeries (wsV RL 9 RX8 yX8_shot wsX8_shot) := goodIn_app (goodIn_of _ (by decide +kernel)) ggL_isSeries_X8_shot
set_option maxRecDepth 20000 in
theorem ggL_isSeries_X8_series : GoodIn wsL_isSeries wsX8_series := goodIn_r _ [117, 7, 10, 19, 17, 118, 119, 120, 65, 121, 67, 97, 98, 99, 100, 68, 101, 102, 89, 90, 91, 92, 93, 94, 95, 96, 103, 5, 104, 122, 123, 124, 125, 126, 52, 53, 54, 127, 56, 57, 128, 129, 130, 131, 132, 133, 134, 135, 136, 137, 106, 107, 108, 109, 110, 111, 112, 113, 138, 139, 140, 141, 142, 143, 144, 145, 146, 147, 148, 149, 150, 151, 152, 153, 154, 155, 156, 157, 158, 159, 160, 161, 162, 163, 164, 180, 181, 182, 183, 184, 185, 186, 187, 188, 189, 190, 200, 201, 202, 203, 204, 205, 206, 207, 211, 212, 213] (by decide +kernel) (by decide +kernel)
set_option maxRecDepth 20000 in
theorem gL_isSeries_X8_series : GoodIn wsL_isSeries (wsV RL 33 RX8 yX8_series wsX8_series) := goodIn_app (goodIn_of _ (by decide +kernel)) ggL_isSeries_X8_series
set_option maxRecDepth 20000 in
theorem ggL_isSeries_X8_standard : GoodIn wsL_isSeries wsX8_standard := goodIn_r _ [168, 7, 17, 169, 170, 10, 171, 162, 163, 146, 164, 148, 172, 150, 151, 152, 153, 119, 120, 65, 121, 67, 97, 98, 99, 100, 68, 101, 102, 89, 90, 91, 154, 93, 94, 95, 96, 103, 5, 104, 155, 156, 157, 158, 159, 160, 161, 109, 110, 111, 112, 53, 113, 59, 60, 61, 173, 174, 175, 176, 177, 178, 179, 180, 181, 182, 183, 184, 185, 186, 187, 188, 189, 190, 211, 212, 213, 200, 201, 202, 203, 204, 205, 206, 207] (by decide +kernel) (by decide +kernel)
set_option maxRecDepth 20000 in
theorem gL_isSeries_X8_standard : GoodIn wsL_isSeries (wsV RL 36 RX8 yX8_standard wsX8_standard) := goodIn_app (goodIn_of _ (by decide +kernel)) ggL_isSeries_X8_standard
theorem dL_isSeries_0 : decode cL_isSeries 0 = .ok (.iconst 0, 1) := by decide +kernel
theorem dL_isSeries_1 : decode cL_isSeries 1 = .ok (.istore_n 1, 1) := by decide +kernel
theorem dL_isSeries_2 : decode cL_isSeries 2 = .ok (.iconst 0, 1) := by decide +kernel
theorem dL_isSeries_3 : decode cL_isSeries 3 = .ok (.istore_n 2, 1) := by decide +kernel
theorem dL_isSeries_4 : decode cL_isSeries 4 = .ok (.iconst 0, 1) := by decide +kernel
theorem dL_isSeries_5 : decode cL_isSeries 5 = .ok (.istore_n 3, 1) := by decide +kernel
theorem dL_isSeries_6 : decode cL_isSeries 6 = .ok (.ldc 22, 2) := by decide +kernel
theorem dL_isSeries_8 : decode cL_isSeries 8 = .ok (.istore 4, 2) := by decide +kernel
theorem dL_isSeries_10 : decode cL_isSeries 10 = .ok (.bipush (-5), 2) := by decide +kernel
theorem dL_isSeries_12 : decode cL_isSeries 12 = .ok (.istore 5, 2) := by decide +kernel
theorem dL_isSeries_14 : decode cL_isSeries 14 = .ok (.iconst 0, 1) := by decide +kernel
theorem dL_isSeries_15 : decode cL_isSeries 15 = .ok (.istore 6, 2) := by decide +kernel
theorem dL_isSeries_17 : decode cL_isSeries 17 = .ok (.iconst 1, 1) := by decide +kernel
theorem dL_isSeries_18 : decode cL_isSeries 18 = .ok (.istore 7, 2) := by decide +kernel
theorem dL_isSeries_20 : decode cL_isSeries 20 = .ok (.iconst 0, 1) := by decide +kernel
theorem dL_isSeries_21 : decode cL_isSeries 21 = .ok (.istore 8, 2) := by decide +kernel
theorem dL_isSeries_23 : decode cL_isSeries 23 = .ok (.iload 8, 2) := by decide +kernel
theorem dL_isSeries_25 : decode cL_isSeries 25 = .ok (.aload_n 0, 1) := by decide +kernel
theorem dL_isSeries_26 : decode cL_isSeries 26 = .ok (.bipush 7, 2) := by decide +kernel
theorem dL_isSeries_28 : decode cL_isSeries 28 = .ok (.invokevirtual 23, 3) := by decide +kernel
theorem dL_isSeries_31 : decode cL_isSeries 31 = .ok (.if_icmp .ge 179, 3) := by decide +kernel
theorem dL_isSeries_34 : decode cL_isSeries 34 = .ok (.iload 7, 2) := by decide +kernel
theorem dL_isSeries_36 : decode cL_isSeries 36 = .ok (.ifCond .eq 174, 3) := by decide +kernel
theorem dL_isSeries_39 : decode cL_isSeries 39 = .ok (.aload_n 0, 1) := by decide +kernel
theorem dL_isSeries_40 : decode cL_isSeries 40 = .ok (.iload 8, 2) := by decide +kernel
theorem dL_isSeries_42 : decode cL_isSeries 42 = .ok (.invokestatic 27, 3) := by decide +kernel
theorem dL_isSeries_45 : decode cL_isSeries 45 = .ok (.istore 7, 2) := by decide +kernel
theorem dL_isSeries_47 : decode cL_isSeries 47 = .ok (.aload_n 0, 1) := by decide +kernel
theorem dL_isSeries_48 : decode cL_isSeries 48 = .ok (.iload 8, 2) := by decide +kernel
theorem dL_isSeries_50 : decode cL_isSeries 50 = .ok (.iconst 2, 1) := by decide +kernel
theorem dL_isSeries_51 : decode cL_isSeries 51 = .ok (.invokevirtual 9, 3) := by decide +kernel
theorem dL_isSeries_54 : decode cL_isSeries 54 = .ok (.ifCond .ne 17, 3) := by decide +kernel
theorem dL_isSeries_57 : decode cL_isSeries 57 = .ok (.aload_n 0, 1) := by decide +kernel
theorem dL_isSeries_58 : decode cL_isSeries 58 = .ok (.iload 8, 2) := by decide +kernel
theorem dL_isSeries_60 : decode cL_isSeries 60 = .ok (.iconst 5, 1) := by decide +kernel
theorem dL_isSeries_61 : decode cL_isSeries 61 = .ok (.invokevirtual 9, 3) := by decide +kernel
theorem dL_isSeries_64 : decode cL_isSeries 64 = .ok (.ifCond .ne 7, 3) := by decide +kernel
theorem dL_isSeries_67 : decode cL_isSeries 67 = .ok (.iconst 1, 1) := by decide +kernel
theorem dL_isSeries_68 : decode cL_isSeries 68 = .ok (.goto 4, 3) := by decide +kernel
theorem dL_isSeries_71 : decode cL_isSeries 71 = .ok (.iconst 0, 1) := by decide +kernel
theorem dL_isSeries_72 : decode cL_isSeries 72 = .ok (.istore 9, 2) := by decide +kernel
theorem dL_isSeries_74 : decode cL_isSeries 74 = .ok (.iload 6, 2) := by decide +kernel
theorem dL_isSeries_76 : decode cL_isSeries 76 = .ok (.aload_n 0, 1) := by decide +kernel
theorem dL_isSeries_77 : decode cL_isSeries 77 = .ok (.iload 8, 2) := by decide +kernel
theorem dL_isSeries_79 : decode cL_isSeries 79 = .ok (.iconst 2, 1) := by decide +kernel
theorem dL_isSeries_80 : decode cL_isSeries 80 = .ok (.invokevirtual 9, 3) := by decide +kernel
theorem dL_isSeries_83 : decode cL_isSeries 83 = .ok (.ifCond .le 7, 3) := by decide +kernel
theorem dL_isSeries_86 : decode cL_isSeries 86 = .ok (.iconst 1, 1) := by decide +kernel
theorem dL_isSeries_87 : decode cL_isSeries 87 = .ok (.goto 4, 3) := by decide +kernel
theorem dL_isSeries_90 : decode cL_isSeries 90 = .ok (.iconst 0, 1) := by decide +kernel
theorem dL_isSeries_91 : decode cL_isSeries 91 = .ok (.iadd, 1) := by decide +kernel
theorem dL_isSeries_92 : decode cL_isSeries 92 = .ok (.istore 6, 2) := by decide +kernel
theorem dL_isSeries_94 : decode cL_isSeries 94 = .ok (.iload_n 1, 1) := by decide +kernel
theorem dL_isSeries_95 : decode cL_isSeries 95 = .ok (.iload 9, 2) := by decide +kernel
theorem dL_isSeries_97 : decode cL_isSeries 97 = .ok (.ifCond .eq 7, 3) := by decide +kernel
theorem dL_isSeries_100 : decode cL_isSeries 100 = .ok (.iconst 1, 1) := by decide +kernel
theorem dL_isSeries_101 : decode cL_isSeries 101 = .ok (.goto 4, 3) := by decide +kernel
theorem dL_isSeries_104 : decode cL_isSeries 104 = .ok (.iconst 0, 1) := by decide +kernel
theorem dL_isSeries_105 : decode cL_isSeries 105 = .ok (.iadd, 1) := by decide +kernel
theorem dL_isSeries_106 : decode cL_isSeries 106 = .ok (.istore_n 1, 1) := by decide +kernel
theorem dL_isSeries_107 : decode cL_isSeries 107 = .ok (.iload_n 2, 1) := by decide +kernel
theorem dL_isSeries_108 : decode cL_isSeries 108 = .ok (.iload 9, 2) := by decide +kernel
theorem dL_isSeries_110 : decode cL_isSeries 110 = .ok (.ifCond .eq 13, 3) := by decide +kernel
theorem dL_isSeries_113 : decode cL_isSeries 113 = .ok (.aload_n 0, 1) := by decide +kernel
theorem dL_isSeries_114 : decode cL_isSeries 114 = .ok (.iload 8, 2) := by decide +kernel
theorem dL_isSeries_116 : decode cL_isSeries 116 = .ok (.iconst 4, 1) := by decide +kernel
theorem dL_isSeries_117 : decode cL_isSeries 117 = .ok (.invokevirtual 9, 3) := by decide +kernel
theorem dL_isSeries_120 : decode cL_isSeries 120 = .ok (.goto 4, 3) := by decide +kernel
theorem dL_isSeries_123 : decode cL_isSeries 123 = .ok (.iconst 0, 1) := by decide +kernel
theorem dL_isSeries_124 : decode cL_isSeries 124 = .ok (.iadd, 1) := by decide +kernel
theorem dL_isSeries_125 : decode cL_isSeries 125 = .ok (.istore_n 2, 1) := by decide +kernel
theorem dL_isSeries_126 : decode cL_isSeries 126 = .ok (.iload 9, 2) := by decide +kernel
theorem dL_isSeries_128 : decode cL_isSeries 128 = .ok (.ifCond .eq 24, 3) := by decide +kernel
theorem dL_isSeries_131 : decode cL_isSeries 131 = .ok (.aload_n 0, 1) := by decide +kernel
theorem dL_isSeries_132 : decode cL_isSeries 132 = .ok (.iload 8, 2) := by decide +kernel
theorem dL_isSeries_134 : decode cL_isSeries 134 = .ok (.iconst 4, 1) := by decide +kernel
theorem dL_isSeries_135 : decode cL_isSeries 135 = .ok (.invokevirtual 9, 3) := by decide +kernel
theorem dL_isSeries_138 : decode cL_isSeries 138 = .ok (.iload_n 3, 1) := by decide +kernel
theorem dL_isSeries_139 : decode cL_isSeries 139 = .ok (.if_icmp .le 13, 3) := by decide +kernel
theorem dL_isSeries_142 : decode cL_isSeries 142 = .ok (.aload_n 0, 1) := by decide +kernel
theorem dL_isSeries_143 : decode cL_isSeries 143 = .ok (.iload 8, 2) := by decide +kernel
theorem dL_isSeries_145 : decode cL_isSeries 145 = .ok (.iconst 4, 1) := by decide +kernel
theorem dL_isSeries_146 : decode cL_isSeries 146 = .ok (.invokevirtual 9, 3) := by decide +kernel
theorem dL_isSeries_149 : decode cL_isSeries 149 = .ok (.goto 4, 3) := by decide +kernel
theorem dL_isSeries_152 : decode cL_isSeries 152 = .ok (.iload_n 3, 1) := by decide +kernel
theorem dL_isSeries_153 : decode cL_isSeries 153 = .ok (.istore_n 3, 1) := by decide +kernel
theorem dL_isSeries_154 : decode cL_isSeries 154 = .ok (.iload 9, 2) := by decide +kernel
theorem dL_isSeries_156 : decode cL_isSeries 156 = .ok (.ifCond .eq 25, 3) := by decide +kernel
theorem dL_isSeries_159 : decode cL_isSeries 159 = .ok (.aload_n 0, 1) := by decide +kernel
theorem dL_isSeries_160 : decode cL_isSeries 160 = .ok (.iload 8, 2) := by decide +kernel
theorem dL_isSeries_162 : decode cL_isSeries 162 = .ok (.iconst 4, 1) := by decide +kernel
theorem dL_isSeries_163 : decode cL_isSeries 163 = .ok (.invokevirtual 9, 3) := by decide +kernel
theorem dL_isSeries_166 : decode cL_isSeries 166 = .ok (.iload 4, 2) := by decide +kernel
theorem dL_isSeries_168 : decode cL_isSeries 168 = .ok (.if_icmp .ge 13, 3) := by decide +kernel
theorem dL_isSeries_171 : decode cL_isSeries 171 = .ok (.aload_n 0, 1) := by decide +kernel
theorem dL_isSeries_172 : decode cL_isSeries 172 = .ok (.iload 8, 2) := by decide +kernel
theorem dL_isSeries_174 : decode cL_isSeries 174 = .ok (.iconst 4, 1) := by decide +kernel
theorem dL_isSeries_175 : decode cL_isSeries 175 = .ok (.invokevirtual 9, 3) := by decide +kernel
theorem dL_isSeries_178 : decode cL_isSeries 178 = .ok (.goto 5, 3) := by decide +kernel
theorem dL_isSeries_181 : decode cL_isSeries 181 = .ok (.iload 4, 2) := by decide +kernel
theorem dL_isSeries_183 : decode cL_isSeries 183 = .ok (.istore 4, 2) := by decide +kernel
theorem dL_isSeries_185 : decode cL_isSeries 185 = .ok (.iload 9, 2) := by decide +kernel
theorem dL_isSeries_187 : decode cL_isSeries 187 = .ok (.ifCond .eq 13, 3) := by decide +kernel
theorem dL_isSeries_190 : decode cL_isSeries 190 = .ok (.iload 5, 2) := by decide +kernel
theorem dL_isSeries_192 : decode cL_isSeries 192 = .ok (.ifCond .ge 8, 3) := by decide +kernel
theorem dL_isSeries_195 : decode cL_isSeries 195 = .ok (.iload 8, 2) := by decide +kernel
theorem dL_isSeries_197 : decode cL_isSeries 197 = .ok (.goto 5, 3) := by decide +kernel
theorem dL_isSeries_200 : decode cL_isSeries 200 = .ok (.iload 5, 2) := by decide +kernel
theorem dL_isSeries_202 : decode cL_isSeries 202 = .ok (.istore 5, 2) := by decide +kernel
theorem dL_isSeries_204 : decode cL_isSeries 204 = .ok (.iinc 8 1, 3) := by decide +kernel
theorem dL_isSeries_207 : decode cL_isSeries 207 = .ok (.goto (-184), 3) := by decide +kernel
theorem dL_isSeries_210 : decode cL_isSeries 210 = .ok (.iload_n 1, 1) := by decide +kernel
theorem dL_isSeries_211 : decode cL_isSeries 211 = .ok (.ifCond .ne 8, 3) := by decide +kernel
theorem dL_isSeries_214 : decode cL_isSeries 214 = .ok (.bipush (-5), 2) := by decide +kernel
theorem dL_isSeries_216 : decode cL_isSeries 216 = .ok (.goto 6, 3) := by decide +kernel
theorem dL_isSeries_219 : decode cL_isSeries 219 = .ok (.iload_n 2, 1) := by decide +kernel
theorem dL_isSeries_220 : decode cL_isSeries 220 = .ok (.iload_n 1, 1) := by decide +kernel
theorem dL_isSeries_221 : decode cL_isSeries 221 = .ok (.idiv, 1) := by decide +kernel
theorem dL_isSeries_222 : decode cL_isSeries 222 = .ok (.istore 8, 2) := by decide +kernel
theorem dL_isSeries_224 : decode cL_isSeries 224 = .ok (.iconst 0, 1) := by decide +kernel
theorem dL_isSeries_225 : decode cL_isSeries 225 = .ok (.istore 9, 2) := by decide +kernel
theorem dL_isSeries_227 : decode cL_isSeries 227 = .ok (.aload_n 0, 1) := by decide +kernel
theorem dL_isSeries_228 : decode cL_isSeries 228 = .ok (.iconst 5, 1) := by decide +kernel
theorem dL_isSeries_229 : decode cL_isSeries 229 = .ok (.invokevirtual 33, 3) := by decide +kernel
theorem dL_isSeries_232 : decode cL_isSeries 232 = .ok (.istore 10, 2) := by decide +kernel
theorem dL_isSeries_234 : decode cL_isSeries 234 = .ok (.iconst 0, 1) := by decide +kernel
theorem dL_isSeries_235 : decode cL_isSeries 235 = .ok (.istore 11, 2) := by decide +kernel
theorem dL_isSeries_237 : decode cL_isSeries 237 = .ok (.iload 11, 2) := by decide +kernel
theorem dL_isSeries_239 : decode cL_isSeries 239 = .ok (.aload_n 0, 1) := by decide +kernel
theorem dL_isSeries_240 : decode cL_isSeries 240 = .ok (.bipush 7, 2) := by decide +kernel
theorem dL_isSeries_242 : decode cL_isSeries 242 = .ok (.invokevirtual 23, 3) := by decide +kernel
theorem dL_isSeries_245 : decode cL_isSeries 245 = .ok (.if_icmp .ge 177, 3) := by decide +kernel
theorem dL_isSeries_248 : decode cL_isSeries 248 = .ok (.iload 7, 2) := by decide +kernel
theorem dL_isSeries_250 : decode cL_isSeries 250 = .ok (.ifCond .eq 172, 3) := by decide +kernel
theorem dL_isSeries_253 : decode cL_isSeries 253 = .ok (.aload_n 0, 1) := by decide +kernel
theorem dL_isSeries_254 : decode cL_isSeries 254 = .ok (.iload 11, 2) := by decide +kernel
theorem dL_isSeries_256 : decode cL_isSeries 256 = .ok (.iconst 4, 1) := by decide +kernel
theorem dL_isSeries_257 : decode cL_isSeries 257 = .ok (.invokevirtual 9, 3) := by decide +kernel
theorem dL_isSeries_260 : decode cL_isSeries 260 = .ok (.iload 8, 2) := by decide +kernel
theorem dL_isSeries_262 : decode cL_isSeries 262 = .ok (.isub, 1) := by decide +kernel
theorem dL_isSeries_263 : decode cL_isSeries 263 = .ok (.istore 12, 2) := by decide +kernel
theorem dL_isSeries_265 : decode cL_isSeries 265 = .ok (.aload_n 0, 1) := by decide +kernel
theorem dL_isSeries_266 : decode cL_isSeries 266 = .ok (.iload 11, 2) := by decide +kernel
theorem dL_isSeries_268 : decode cL_isSeries 268 = .ok (.iconst 2, 1) := by decide +kernel
theorem dL_isSeries_269 : decode cL_isSeries 269 = .ok (.invokevirtual 9, 3) := by decide +kernel
theorem dL_isSeries_272 : decode cL_isSeries 272 = .ok (.ifCond .ne 17, 3) := by decide +kernel
theorem dL_isSeries_275 : decode cL_isSeries 275 = .ok (.aload_n 0, 1) := by decide +kernel
theorem dL_isSeries_276 : decode cL_isSeries 276 = .ok (.iload 11, 2) := by decide +kernel
theorem dL_isSeries_278 : decode cL_isSeries 278 = .ok (.iconst 5, 1) := by decide +kernel
theorem dL_isSeries_279 : decode cL_isSeries 279 = .ok (.invokevirtual 9, 3) := by decide +kernel
theorem dL_isSeries_282 : decode cL_isSeries 282 = .ok (.ifCond .ne 7, 3) := by decide +kernel
theorem dL_isSeries_285 : decode cL_isSeries 285 = .ok (.iconst 1, 1) := by decide +kernel
theorem dL_isSeries_286 : decode cL_isSeries 286 = .ok (.goto 4, 3) := by decide +kernel
theorem dL_isSeries_289 : decode cL_isSeries 289 = .ok (.iconst 0, 1) := by decide +kernel
theorem dL_isSeries_290 : decode cL_isSeries 290 = .ok (.istore 13, 2) := by decide +kernel
theorem dL_isSeries_292 : decode cL_isSeries 292 = .ok (.iload 13, 2) := by decide +kernel
theorem dL_isSeries_294 : decode cL_isSeries 294 = .ok (.ifCond .eq 30, 3) := by decide +kernel
theorem dL_isSeries_297 : decode cL_isSeries 297 = .ok (.iload 12, 2) := by decide +kernel
theorem dL_isSeries_299 : decode cL_isSeries 299 = .ok (.aload_n 0, 1) := by decide +kernel
theorem dL_isSeries_300 : decode cL_isSeries 300 = .ok (.bipush 14, 2) := by decide +kernel
theorem dL_isSeries_302 : decode cL_isSeries 302 = .ok (.invokevirtual 23, 3) := by decide +kernel
theorem dL_isSeries_305 : decode cL_isSeries 305 = .ok (.if_icmp .gt 15, 3) := by decide +kernel
theorem dL_isSeries_308 : decode cL_isSeries 308 = .ok (.iload 12, 2) := by decide +kernel
theorem dL_isSeries_310 : decode cL_isSeries 310 = .ok (.ineg, 1) := by decide +kernel
theorem dL_isSeries_311 : decode cL_isSeries 311 = .ok (.aload_n 0, 1) := by decide +kernel
theorem dL_isSeries_312 : decode cL_isSeries 312 = .ok (.bipush 14, 2) := by decide +kernel
theorem dL_isSeries_314 : decode cL_isSeries 314 = .ok (.invokevirtual 23, 3) := by decide +kernel
theorem dL_isSeries_317 : decode cL_isSeries 317 = .ok (.if_icmp .le 7, 3) := by decide +kernel
theorem dL_isSeries_320 : decode cL_isSeries 320 = .ok (.iconst 1, 1) := by decide +kernel
theorem dL_isSeries_321 : decode cL_isSeries 321 = .ok (.goto 4, 3) := by decide +kernel
theorem dL_isSeries_324 : decode cL_isSeries 324 = .ok (.iconst 0, 1) := by decide +kernel
theorem dL_isSeries_325 : decode cL_isSeries 325 = .ok (.istore 14, 2) := by decide +kernel
theorem dL_isSeries_327 : decode cL_isSeries 327 = .ok (.iload 9, 2) := by decide +kernel
theorem dL_isSeries_329 : decode cL_isSeries 329 = .ok (.iload 14, 2) := by decide +kernel
theorem dL_isSeries_331 : decode cL_isSeries 331 = .ok (.ifCond .eq 7, 3) := by decide +kernel
theorem dL_isSeries_334 : decode cL_isSeries 334 = .ok (.iconst 1, 1) := by decide +kernel
theorem dL_isSeries_335 : decode cL_isSeries 335 = .ok (.goto 4, 3) := by decide +kernel
theorem dL_isSeries_338 : decode cL_isSeries 338 = .ok (.iconst 0, 1) := by decide +kernel
theorem dL_isSeries_339 : decode cL_isSeries 339 = .ok (.iadd, 1) := by decide +kernel
theorem dL_isSeries_340 : decode cL_isSeries 340 = .ok (.istore 9, 2) := by decide +kernel
theorem dL_isSeries_342 : decode cL_isSeries 342 = .ok (.aload_n 0, 1) := by decide +kernel
theorem dL_isSeries_343 : decode cL_isSeries 343 = .ok (.iload 10, 2) := by decide +kernel
theorem dL_isSeries_345 : decode cL_isSeries 345 = .ok (.iconst 4, 1) := by decide +kernel
theorem dL_isSeries_346 : decode cL_isSeries 346 = .ok (.invokevirtual 9, 3) := by decide +kernel
theorem dL_isSeries_349 : decode cL_isSeries 349 = .ok (.iload 8, 2) := by decide +kernel
theorem dL_isSeries_351 : decode cL_isSeries 351 = .ok (.isub, 1) := by decide +kernel
theorem dL_isSeries_352 : decode cL_isSeries 352 = .ok (.istore 15, 2) := by decide +kernel
theorem dL_isSeries_354 : decode cL_isSeries 354 = .ok (.aload_n 0, 1) := by decide +kernel
theorem dL_isSeries_355 : decode cL_isSeries 355 = .ok (.iload 11, 2) := by decide +kernel
theorem dL_isSeries_357 : decode cL_isSeries 357 = .ok (.bipush 6, 2) := by decide +kernel
theorem dL_isSeries_359 : decode cL_isSeries 359 = .ok (.invokevirtual 9, 3) := by decide +kernel
theorem dL_isSeries_362 : decode cL_isSeries 362 = .ok (.iload 14, 2) := by decide +kernel
theorem dL_isSeries_364 : decode cL_isSeries 364 = .ok (.ifCond .eq 7, 3) := by decide +kernel
theorem dL_isSeries_367 : decode cL_isSeries 367 = .ok (.iconst 1, 1) := by decide +kernel
theorem dL_isSeries_368 : decode cL_isSeries 368 = .ok (.goto 4, 3) := by decide +kernel
theorem dL_isSeries_371 : decode cL_isSeries 371 = .ok (.iconst 0, 1) := by decide +kernel
theorem dL_isSeries_372 : decode cL_isSeries 372 = .ok (.if_icmp .ne 41, 3) := by decide +kernel
theorem dL_isSeries_375 : decode cL_isSeries 375 = .ok (.iload 13, 2) := by decide +kernel
theorem dL_isSeries_377 : decode cL_isSeries 377 = .ok (.ifCond .eq 32, 3) := by decide +kernel
theorem dL_isSeries_380 : decode cL_isSeries 380 = .ok (.iload 12, 2) := by decide +kernel
theorem dL_isSeries_382 : decode cL_isSeries 382 = .ok (.ifCond .ge 9, 3) := by decide +kernel
theorem dL_isSeries_385 : decode cL_isSeries 385 = .ok (.iload 12, 2) := by decide +kernel
theorem dL_isSeries_387 : decode cL_isSeries 387 = .ok (.ineg, 1) := by decide +kernel
theorem dL_isSeries_388 : decode cL_isSeries 388 = .ok (.goto 5, 3) := by decide +kernel
theorem dL_isSeries_391 : decode cL_isSeries 391 = .ok (.iload 12, 2) := by decide +kernel
theorem dL_isSeries_393 : decode cL_isSeries 393 = .ok (.iload 15, 2) := by decide +kernel
theorem dL_isSeries_395 : decode cL_isSeries 395 = .ok (.ifCond .ge 9, 3) := by decide +kernel
theorem dL_isSeries_398 : decode cL_isSeries 398 = .ok (.iload 15, 2) := by decide +kernel
theorem dL_isSeries_400 : decode cL_isSeries 400 = .ok (.ineg, 1) := by decide +kernel
theorem dL_isSeries_401 : decode cL_isSeries 401 = .ok (.goto 5, 3) := by decide +kernel
theorem dL_isSeries_404 : decode cL_isSeries 404 = .ok (.iload 15, 2) := by decide +kernel
theorem dL_isSeries_406 : decode cL_isSeries 406 = .ok (.if_icmp .lt 7, 3) := by decide +kernel
theorem dL_isSeries_409 : decode cL_isSeries 409 = .ok (.iconst 1, 1) := by decide +kernel
theorem dL_isSeries_410 : decode cL_isSeries 410 = .ok (.goto 4, 3) := by decide +kernel
theorem dL_isSeries_413 : decode cL_isSeries 413 = .ok (.iconst 0, 1) := by decide +kernel
theorem dL_isSeries_414 : decode cL_isSeries 414 = .ok (.istore 7, 2) := by decide +kernel
theorem dL_isSeries_416 : decode cL_isSeries 416 = .ok (.iinc 11 1, 3) := by decide +kernel
theorem dL_isSeries_419 : decode cL_isSeries 419 = .ok (.goto (-182), 3) := by decide +kernel
theorem dL_isSeries_422 : decode cL_isSeries 422 = .ok (.iconst 0, 1) := by decide +kernel
theorem dL_isSeries_423 : decode cL_isSeries 423 = .ok (.istore 11, 2) := by decide +kernel
theorem dL_isSeries_425 : decode cL_isSeries 425 = .ok (.iconst 0, 1) := by decide +kernel
theorem dL_isSeries_426 : decode cL_isSeries 426 = .ok (.istore 12, 2) := by decide +kernel
theorem dL_isSeries_428 : decode cL_isSeries 428 = .ok (.iload 12, 2) := by decide +kernel
theorem dL_isSeries_430 : decode cL_isSeries 430 = .ok (.aload_n 0, 1) := by decide +kernel
theorem dL_isSeries_431 : decode cL_isSeries 431 = .ok (.bipush 13, 2) := by decide +kernel
theorem dL_isSeries_433 : decode cL_isSeries 433 = .ok (.invokevirtual 23, 3) := by decide +kernel
theorem dL_isSeries_436 : decode cL_isSeries 436 = .ok (.if_icmp .ge 102, 3) := by decide +kernel
theorem dL_isSeries_439 : decode cL_isSeries 439 = .ok (.iload 7, 2) := by decide +kernel
theorem dL_isSeries_441 : decode cL_isSeries 441 = .ok (.ifCond .eq 97, 3) := by decide +kernel
theorem dL_isSeries_444 : decode cL_isSeries 444 = .ok (.iload 8, 2) := by decide +kernel
theorem dL_isSeries_446 : decode cL_isSeries 446 = .ok (.aload_n 0, 1) := by decide +kernel
theorem dL_isSeries_447 : decode cL_isSeries 447 = .ok (.iload 12, 2) := by decide +kernel
theorem dL_isSeries_449 : decode cL_isSeries 449 = .ok (.iconst 0, 1) := by decide +kernel
theorem dL_isSeries_450 : decode cL_isSeries 450 = .ok (.invokevirtual 36, 3) := by decide +kernel
theorem dL_isSeries_453 : decode cL_isSeries 453 = .ok (.isub, 1) := by decide +kernel
theorem dL_isSeries_454 : decode cL_isSeries 454 = .ok (.istore 13, 2) := by decide +kernel
theorem dL_isSeries_456 : decode cL_isSeries 456 = .ok (.iload 11, 2) := by decide +kernel
theorem dL_isSeries_458 : decode cL_isSeries 458 = .ok (.iload_n 1, 1) := by decide +kernel
theorem dL_isSeries_459 : decode cL_isSeries 459 = .ok (.iconst 3, 1) := by decide +kernel
theorem dL_isSeries_460 : decode cL_isSeries 460 = .ok (.if_icmp .lt 33, 3) := by decide +kernel
theorem dL_isSeries_463 : decode cL_isSeries 463 = .ok (.iload 13, 2) := by decide +kernel
theorem dL_isSeries_465 : decode cL_isSeries 465 = .ok (.ifCond .ge 9, 3) := by decide +kernel
theorem dL_isSeries_468 : decode cL_isSeries 468 = .ok (.iload 13, 2) := by decide +kernel
theorem dL_isSeries_470 : decode cL_isSeries 470 = .ok (.ineg, 1) := by decide +kernel
theorem dL_isSeries_471 : decode cL_isSeries 471 = .ok (.goto 5, 3) := by decide +kernel
theorem dL_isSeries_474 : decode cL_isSeries 474 = .ok (.iload 13, 2) := by decide +kernel
theorem dL_isSeries_476 : decode cL_isSeries 476 = .ok (.aload_n 0, 1) := by decide +kernel
theorem dL_isSeries_477 : decode cL_isSeries 477 = .ok (.iload 12, 2) := by decide +kernel
theorem dL_isSeries_479 : decode cL_isSeries 479 = .ok (.iconst 1, 1) := by decide +kernel
theorem dL_isSeries_480 : decode cL_isSeries 480 = .ok (.invokevirtual 36, 3) := by decide +kernel
theorem dL_isSeries_483 : decode cL_isSeries 483 = .ok (.if_icmp .gt 10, 3) := by decide +kernel
theorem dL_isSeries_486 : decode cL_isSeries 486 = .ok (.iconst 1, 1) := by decide +kernel
theorem dL_isSeries_487 : decode cL_isSeries 487 = .ok (.iload 12, 2) := by decide +kernel
theorem dL_isSeries_489 : decode cL_isSeries 489 = .ok (.ishl, 1) := by decide +kernel
theorem dL_isSeries_490 : decode cL_isSeries 490 = .ok (.goto 4, 3) := by decide +kernel
theorem dL_isSeries_493 : decode cL_isSeries 493 = .ok (.iconst 0, 1) := by decide +kernel
theorem dL_isSeries_494 : decode cL_isSeries 494 = .ok (.ior, 1) := by decide +kernel
theorem dL_isSeries_495 : decode cL_isSeries 495 = .ok (.istore 11, 2) := by decide +kernel
theorem dL_isSeries_497 : decode cL_isSeries 497 = .ok (.aload_n 0, 1) := by decide +kernel
theorem dL_isSeries_498 : decode cL_isSeries 498 = .ok (.iload 12, 2) := by decide +kernel
theorem dL_isSeries_500 : decode cL_isSeries 500 = .ok (.iconst 2, 1) := by decide +kernel
theorem dL_isSeries_501 : decode cL_isSeries 501 = .ok (.invokevirtual 36, 3) := by decide +kernel
theorem dL_isSeries_504 : decode cL_isSeries 504 = .ok (.iload 11, 2) := by decide +kernel
theorem dL_isSeries_506 : decode cL_isSeries 506 = .ok (.iload 12, 2) := by decide +kernel
theorem dL_isSeries_508 : decode cL_isSeries 508 = .ok (.ishr, 1) := by decide +kernel
theorem dL_isSeries_509 : decode cL_isSeries 509 = .ok (.iconst 1, 1) := by decide +kernel
theorem dL_isSeries_510 : decode cL_isSeries 510 = .ok (.iand, 1) := by decide +kernel
theorem dL_isSeries_511 : decode cL_isSeries 511 = .ok (.if_icmp .ne 18, 3) := by decide +kernel
theorem dL_isSeries_514 : decode cL_isSeries 514 = .ok (.aload_n 0, 1) := by decide +kernel
theorem dL_isSeries_515 : decode cL_isSeries 515 = .ok (.iload 12, 2) := by decide +kernel
theorem dL_isSeries_517 : decode cL_isSeries 517 = .ok (.iconst 3, 1) := by decide +kernel
theorem dL_isSeries_518 : decode cL_isSeries 518 = .ok (.invokevirtual 36, 3) := by decide +kernel
theorem dL_isSeries_521 : decode cL_isSeries 521 = .ok (.iload_n 1, 1) := by decide +kernel
theorem dL_isSeries_522 : decode cL_isSeries 522 = .ok (.if_icmp .gt 7, 3) := by decide +kernel
theorem dL_isSeries_525 : decode cL_isSeries 525 = .ok (.iconst 1, 1) := by decide +kernel
theorem dL_isSeries_526 : decode cL_isSeries 526 = .ok (.goto 4, 3) := by decide +kernel
theorem dL_isSeries_529 : decode cL_isSeries 529 = .ok (.iconst 0, 1) := by decide +kernel
theorem dL_isSeries_530 : decode cL_isSeries 530 = .ok (.istore 7, 2) := by decide +kernel
theorem dL_isSeries_532 : decode cL_isSeries 532 = .ok (.iinc 12 1, 3) := by decide +kernel
theorem dL_isSeries_535 : decode cL_isSeries 535 = .ok (.goto (-107), 3) := by decide +kernel
theorem dL_isSeries_538 : decode cL_isSeries 538 = .ok (.iload 7, 2) := by decide +kernel
theorem dL_isSeries_540 : decode cL_isSeries 540 = .ok (.ifCond .eq 107, 3) := by decide +kernel
theorem dL_isSeries_543 : decode cL_isSeries 543 = .ok (.iload_n 1, 1) := by decide +kernel
theorem dL_isSeries_544 : decode cL_isSeries 544 = .ok (.aload_n 0, 1) := by decide +kernel
theorem dL_isSeries_545 : decode cL_isSeries 545 = .ok (.iconst 0, 1) := by decide +kernel
theorem dL_isSeries_546 : decode cL_isSeries 546 = .ok (.invokevirtual 33, 3) := by decide +kernel
theorem dL_isSeries_549 : decode cL_isSeries 549 = .ok (.if_icmp .ne 98, 3) := by decide +kernel
theorem dL_isSeries_552 : decode cL_isSeries 552 = .ok (.iload 8, 2) := by decide +kernel
theorem dL_isSeries_554 : decode cL_isSeries 554 = .ok (.aload_n 0, 1) := by decide +kernel
theorem dL_isSeries_555 : decode cL_isSeries 555 = .ok (.iconst 1, 1) := by decide +kernel
theorem dL_isSeries_556 : decode cL_isSeries 556 = .ok (.invokevirtual 33, 3) := by decide +kernel
theorem dL_isSeries_559 : decode cL_isSeries 559 = .ok (.if_icmp .ne 88, 3) := by decide +kernel
theorem dL_isSeries_562 : decode cL_isSeries 562 = .ok (.aload_n 0, 1) := by decide +kernel
theorem dL_isSeries_563 : decode cL_isSeries 563 = .ok (.iconst 2, 1) := by decide +kernel
theorem dL_isSeries_564 : decode cL_isSeries 564 = .ok (.invokevirtual 33, 3) := by decide +kernel
theorem dL_isSeries_567 : decode cL_isSeries 567 = .ok (.iload_n 1, 1) := by decide +kernel
theorem dL_isSeries_568 : decode cL_isSeries 568 = .ok (.ifCond .ne 7, 3) := by decide +kernel
theorem dL_isSeries_571 : decode cL_isSeries 571 = .ok (.iconst 0, 1) := by decide +kernel
theorem dL_isSeries_572 : decode cL_isSeries 572 = .ok (.goto 7, 3) := by decide +kernel
theorem dL_isSeries_575 : decode cL_isSeries 575 = .ok (.iload_n 3, 1) := by decide +kernel
theorem dL_isSeries_576 : decode cL_isSeries 576 = .ok (.iload 4, 2) := by decide +kernel
theorem dL_isSeries_578 : decode cL_isSeries 578 = .ok (.isub, 1) := by decide +kernel
theorem dL_isSeries_579 : decode cL_isSeries 579 = .ok (.if_icmp .ne 68, 3) := by decide +kernel
theorem dL_isSeries_582 : decode cL_isSeries 582 = .ok (.iload 9, 2) := by decide +kernel
theorem dL_isSeries_584 : decode cL_isSeries 584 = .ok (.aload_n 0, 1) := by decide +kernel
theorem dL_isSeries_585 : decode cL_isSeries 585 = .ok (.iconst 3, 1) := by decide +kernel
theorem dL_isSeries_586 : decode cL_isSeries 586 = .ok (.invokevirtual 33, 3) := by decide +kernel
theorem dL_isSeries_589 : decode cL_isSeries 589 = .ok (.if_icmp .ne 58, 3) := by decide +kernel
theorem dL_isSeries_592 : decode cL_isSeries 592 = .ok (.iload 5, 2) := by decide +kernel
theorem dL_isSeries_594 : decode cL_isSeries 594 = .ok (.aload_n 0, 1) := by decide +kernel
theorem dL_isSeries_595 : decode cL_isSeries 595 = .ok (.iconst 4, 1) := by decide +kernel
theorem dL_isSeries_596 : decode cL_isSeries 596 = .ok (.invokevirtual 33, 3) := by decide +kernel
theorem dL_isSeries_599 : decode cL_isSeries 599 = .ok (.if_icmp .ne 48, 3) := by decide +kernel
theorem dL_isSeries_602 : decode cL_isSeries 602 = .ok (.iload_n 1, 1) := by decide +kernel
theorem dL_isSeries_603 : decode cL_isSeries 603 = .ok (.ifCond .le 11, 3) := by decide +kernel
theorem dL_isSeries_606 : decode cL_isSeries 606 = .ok (.iload 10, 2) := by decide +kernel
theorem dL_isSeries_608 : decode cL_isSeries 608 = .ok (.ifCond .lt 39, 3) := by decide +kernel
theorem dL_isSeries_611 : decode cL_isSeries 611 = .ok (.goto 10, 3) := by decide +kernel
theorem dL_isSeries_614 : decode cL_isSeries 614 = .ok (.iload 10, 2) := by decide +kernel
theorem dL_isSeries_616 : decode cL_isSeries 616 = .ok (.bipush (-5), 2) := by decide +kernel
theorem dL_isSeries_618 : decode cL_isSeries 618 = .ok (.if_icmp .ne 29, 3) := by decide +kernel
theorem dL_isSeries_621 : decode cL_isSeries 621 = .ok (.iload 11, 2) := by decide +kernel
theorem dL_isSeries_623 : decode cL_isSeries 623 = .ok (.aload_n 0, 1) := by decide +kernel
theorem dL_isSeries_624 : decode cL_isSeries 624 = .ok (.bipush 6, 2) := by decide +kernel
theorem dL_isSeries_626 : decode cL_isSeries 626 = .ok (.invokevirtual 33, 3) := by decide +kernel
theorem dL_isSeries_629 : decode cL_isSeries 629 = .ok (.if_icmp .ne 18, 3) := by decide +kernel
theorem dL_isSeries_632 : decode cL_isSeries 632 = .ok (.iload 6, 2) := by decide +kernel
theorem dL_isSeries_634 : decode cL_isSeries 634 = .ok (.aload_n 0, 1) := by decide +kernel
theorem dL_isSeries_635 : decode cL_isSeries 635 = .ok (.bipush 8, 2) := by decide +kernel
theorem dL_isSeries_637 : decode cL_isSeries 637 = .ok (.invokevirtual 23, 3) := by decide +kernel
theorem dL_isSeries_640 : decode cL_isSeries 640 = .ok (.if_icmp .ne 7, 3) := by decide +kernel
theorem dL_isSeries_643 : decode cL_isSeries 643 = .ok (.iconst 1, 1) := by decide +kernel
theorem dL_isSeries_644 : decode cL_isSeries 644 = .ok (.goto 4, 3) := by decide +kernel
theorem dL_isSeries_647 : decode cL_isSeries 647 = .ok (.iconst 0, 1) := by decide +kernel
theorem dL_isSeries_648 : decode cL_isSeries 648 = .ok (.ireturn, 1) := by decide +kernel
set_option maxRecDepth 20000 in
theorem ggL_isBlock_X8_untilRest : GoodIn wsL_isBlock wsX8_untilRest := goodIn_r _ [6, 7, 8, 9, 10, 11, 12, 13, 14, 15, 16, 17, 18, 19, 20, 21, 22, 23, 24, 25, 26, 27, 28, 87, 88, 89, 90, 91, 92, 93, 94, 95, 96, 97, 98, 99, 100, 101, 102, 103, 104, 105, 106] (by decide +kernel) (by decide +kernel)
set_option maxRecDepth 20000 in
theorem gL_isBlock_X8_untilRest : GoodIn wsL_isBlock (wsV RL 39 RX8 yX8_untilRest wsX8_untilRest) := goodIn_app (goodIn_of _ (by decide +kernel)) ggL_isBlock_X8_untilRest
set_option maxRecDepth 20000 in
theorem ggL_isBlock_X8_count : GoodIn wsL_isBlock wsX8_count := goodIn_r _ [32, 7, 8, 33, 34, 35, 36, 37, 38, 39, 40, 41, 42, 43, 44, 45, 46, 47, 48, 49, 5, 50, 51, 52, 53, 54, 55, 56, 57, 58, 59, 60, 61, 12, 62, 63, 64, 65, 66, 67, 68, 69, 70, 71, 72, 73, 74, 75, 22, 76, 20, 21, 23, 19, 77, 78, 79, 80, 81, 82, 83, 84, 85, 86, 87, 88, 89, 90, 91, 92, 93, 94, 95, 96, 97, 98, 99, 100, 101, 102, 103, 104, 105, 106, 107, 108, 109, 110, 111, 112, 113, 114, 115, 116, 117, 118, 119, 120, 121, 122, 123, 124] (by decide +kernel) (by decide +kernel)
set_option maxRecDepth 20000 in
theorem gL_isBlock_X8_count : GoodIn wsL_isBlock (wsV RL 23 RX8 yX8_count wsX8_count) := goodIn_app (goodIn_of _ (by decide +kernel)) ggL_isBlock_X8_count
theorem dL_isBlock_0 : decode cL_isBlock 0 = .ok (.aload_n 0, 1) := by decide +kernel
theorem dL_isBlock_1 : decode cL_isBlock 1 = .ok (.invokevirtual 39, 3) := by decide +kernel
theorem dL_isBlock_4 : decode cL_isBlock 4 = .ok (.istore_n 1, 1) := by decide +kernel
theorem dL_isBlock_5 : decode cL_isBlock 5 = .ok (.aload_n 0, 1) := by decide +kernel
theorem dL_isBlock_6 : decode cL_isBlock 6 = .ok (.iconst 3, 1) := by decide +kernel
theorem dL_isBlock_7 : decode cL_isBlock 7 = .ok (.invokevirtual 23, 3) := by decide +kernel
theorem dL_isBlock_10 : decode cL_isBlock 10 = .ok (.bipush 10, 2) := by decide +kernel
theorem dL_isBlock_12 : decode cL_isBlock 12 = .ok (.aload_n 0, 1) := by decide +kernel
theorem dL_isBlock_13 : decode cL_isBlock 13 = .ok (.iconst 0, 1) := by decide +kernel
theorem dL_isBlock_14 : decode cL_isBlock 14 = .ok (.invokevirtual 23, 3) := by decide +kernel
theorem dL_isBlock_17 : decode cL_isBlock 17 = .ok (.imul, 1) := by decide +kernel
theorem dL_isBlock_18 : decode cL_isBlock 18 = .ok (.aload_n 0, 1) := by decide +kernel
theorem dL_isBlock_19 : decode cL_isBlock 19 = .ok (.iconst 1, 1) := by decide +kernel
theorem dL_isBlock_20 : decode cL_isBlock 20 = .ok (.invokevirtual 23, 3) := by decide +kernel
theorem dL_isBlock_23 : decode cL_isBlock 23 = .ok (.iadd, 1) := by decide +kernel
theorem dL_isBlock_24 : decode cL_isBlock 24 = .ok (.if_icmp .ne 102, 3) := by decide +kernel
theorem dL_isBlock_27 : decode cL_isBlock 27 = .ok (.aload_n 0, 1) := by decide +kernel
theorem dL_isBlock_28 : decode cL_isBlock 28 = .ok (.bipush 11, 2) := by decide +kernel
theorem dL_isBlock_30 : decode cL_isBlock 30 = .ok (.invokevirtual 23, 3) := by decide +kernel
theorem dL_isBlock_33 : decode cL_isBlock 33 = .ok (.aload_n 0, 1) := by decide +kernel
theorem dL_isBlock_34 : decode cL_isBlock 34 = .ok (.bipush 12, 2) := by decide +kernel
theorem dL_isBlock_36 : decode cL_isBlock 36 = .ok (.invokevirtual 23, 3) := by decide +kernel
theorem dL_isBlock_39 : decode cL_isBlock 39 = .ok (.aload_n 0, 1) := by decide +kernel
theorem dL_isBlock_40 : decode cL_isBlock 40 = .ok (.iconst 1, 1) := by decide +kernel
theorem dL_isBlock_41 : decode cL_isBlock 41 = .ok (.invokevirtual 23, 3) := by decide +kernel
theorem dL_isBlock_44 : decode cL_isBlock 44 = .ok (.iadd, 1) := by decide +kernel
theorem dL_isBlock_45 : decode cL_isBlock 45 = .ok (.if_icmp .ne 81, 3) := by decide +kernel
theorem dL_isBlock_48 : decode cL_isBlock 48 = .ok (.aload_n 0, 1) := by decide +kernel
theorem dL_isBlock_49 : decode cL_isBlock 49 = .ok (.iconst 1, 1) := by decide +kernel
theorem dL_isBlock_50 : decode cL_isBlock 50 = .ok (.invokevirtual 23, 3) := by decide +kernel
theorem dL_isBlock_53 : decode cL_isBlock 53 = .ok (.ifCond .ne 7, 3) := by decide +kernel
theorem dL_isBlock_56 : decode cL_isBlock 56 = .ok (.iconst 1, 1) := by decide +kernel
theorem dL_isBlock_57 : decode cL_isBlock 57 = .ok (.goto 4, 3) := by decide +kernel
theorem dL_isBlock_60 : decode cL_isBlock 60 = .ok (.iconst 0, 1) := by decide +kernel
theorem dL_isBlock_61 : decode cL_isBlock 61 = .ok (.aload_n 0, 1) := by decide +kernel
theorem dL_isBlock_62 : decode cL_isBlock 62 = .ok (.iconst 2, 1) := by decide +kernel
theorem dL_isBlock_63 : decode cL_isBlock 63 = .ok (.invokevirtual 23, 3) := by decide +kernel
theorem dL_isBlock_66 : decode cL_isBlock 66 = .ok (.ifCond .ne 7, 3) := by decide +kernel
theorem dL_isBlock_69 : decode cL_isBlock 69 = .ok (.iconst 1, 1) := by decide +kernel
theorem dL_isBlock_70 : decode cL_isBlock 70 = .ok (.goto 4, 3) := by decide +kernel
theorem dL_isBlock_73 : decode cL_isBlock 73 = .ok (.iconst 0, 1) := by decide +kernel
theorem dL_isBlock_74 : decode cL_isBlock 74 = .ok (.if_icmp .ne 52, 3) := by decide +kernel
theorem dL_isBlock_77 : decode cL_isBlock 77 = .ok (.iload_n 1, 1) := by decide +kernel
theorem dL_isBlock_78 : decode cL_isBlock 78 = .ok (.bipush (-5), 2) := by decide +kernel
theorem dL_isBlock_80 : decode cL_isBlock 80 = .ok (.if_icmp .ne 7, 3) := by decide +kernel
theorem dL_isBlock_83 : decode cL_isBlock 83 = .ok (.iconst 1, 1) := by decide +kernel
theorem dL_isBlock_84 : decode cL_isBlock 84 = .ok (.goto 4, 3) := by decide +kernel
theorem dL_isBlock_87 : decode cL_isBlock 87 = .ok (.iconst 0, 1) := by decide +kernel
theorem dL_isBlock_88 : decode cL_isBlock 88 = .ok (.aload_n 0, 1) := by decide +kernel
theorem dL_isBlock_89 : decode cL_isBlock 89 = .ok (.iconst 4, 1) := by decide +kernel
theorem dL_isBlock_90 : decode cL_isBlock 90 = .ok (.invokevirtual 23, 3) := by decide +kernel
theorem dL_isBlock_93 : decode cL_isBlock 93 = .ok (.ifCond .ne 7, 3) := by decide +kernel
theorem dL_isBlock_96 : decode cL_isBlock 96 = .ok (.iconst 1, 1) := by decide +kernel
theorem dL_isBlock_97 : decode cL_isBlock 97 = .ok (.goto 4, 3) := by decide +kernel
theorem dL_isBlock_100 : decode cL_isBlock 100 = .ok (.iconst 0, 1) := by decide +kernel
theorem dL_isBlock_101 : decode cL_isBlock 101 = .ok (.if_icmp .ne 25, 3) := by decide +kernel
theorem dL_isBlock_104 : decode cL_isBlock 104 = .ok (.aload_n 0, 1) := by decide +kernel
theorem dL_isBlock_105 : decode cL_isBlock 105 = .ok (.iconst 4, 1) := by decide +kernel
theorem dL_isBlock_106 : decode cL_isBlock 106 = .ok (.invokevirtual 23, 3) := by decide +kernel
theorem dL_isBlock_109 : decode cL_isBlock 109 = .ok (.ldc 43, 2) := by decide +kernel
theorem dL_isBlock_111 : decode cL_isBlock 111 = .ok (.if_icmp .gt 15, 3) := by decide +kernel
theorem dL_isBlock_114 : decode cL_isBlock 114 = .ok (.aload_n 0, 1) := by decide +kernel
theorem dL_isBlock_115 : decode cL_isBlock 115 = .ok (.iconst 4, 1) := by decide +kernel
theorem dL_isBlock_116 : decode cL_isBlock 116 = .ok (.invokevirtual 23, 3) := by decide +kernel
theorem dL_isBlock_119 : decode cL_isBlock 119 = .ok (.ifCond .lt 7, 3) := by decide +kernel
theorem dL_isBlock_122 : decode cL_isBlock 122 = .ok (.iconst 1, 1) := by decide +kernel
theorem dL_isBlock_123 : decode cL_isBlock 123 = .ok (.goto 4, 3) := by decide +kernel
theorem dL_isBlock_126 : decode cL_isBlock 126 = .ok (.iconst 0, 1) := by decide +kernel
theorem dL_isBlock_127 : decode cL_isBlock 127 = .ok (.ireturn, 1) := by decide +kernel
