set_option maxRecDepth 20000 in
theorem ggL_fires_X8_would : GoodIn wsL_fires wsX8_would := goodIn_r _ [5, 6, 7, 8, 9, 4, 10, 11, 12, 13, 14, 15, 16, 17, 18, 19, 20, 21, 22, 23, 24, 25, 26, 27, 28, 29, 30, 31, 32, 33, 34, 35, 36, 37, 38, 39, 40, 41, 42, 43, 44, 45, 46, 47, 48, 49, 50, 51, 52, 53, 54, 55, 56, 57, 58, 59, 60, 61, 62, 63, 64, 65, 66, 251, 252, 253, 254, 255, 256, 257, 258, 259, 260, 261, 262, 263, 264, 265, 266, 267, 268, 269, 270] (by decide +kernel) (by decide +kernel)
set_option maxRecDepth 20000 in
theorem gL_fires_X8_would : GoodIn wsL_fires (wsV RL 44 RX8 yX8_would wsX8_would) := goodIn_app (goodIn_of _ (by decide +kernel)) ggL_fires_X8_would
set_option maxRecDepth 20000 in
theorem ggL_fires_X8_count : GoodIn wsL_fires wsX8_count := goodIn_r _ [70, 6, 7, 71, 72, 73, 74, 75, 76, 77, 78, 79, 80, 81, 82, 83, 84, 85, 11, 12, 4, 13, 86, 87, 88, 89, 90, 91, 92, 93, 94, 49, 50, 17, 51, 52, 53, 95, 57, 58, 59, 30, 96, 27, 28, 29, 31, 32, 33, 34, 35, 36, 37, 20, 97, 98, 99, 100, 101, 102, 103, 104, 105, 106, 251, 252, 253, 254, 255, 256, 257, 258, 259, 260, 261, 262, 263, 264, 265, 266, 267, 268, 269, 270, 271, 272, 273, 274, 275, 276, 277, 278, 279, 280, 281, 282, 283, 284, 285, 286, 287, 288] (by decide +kernel) (by decide +kernel)
set_option maxRecDepth 20000 in
theorem gL_fires_X8_count : GoodIn wsL_fires (wsV RL 23 RX8 yX8_count wsX8_count) := goodIn_app (goodIn_of _ (by decide +kernel)) ggL_fires_X8_count
set_option maxRecDepth 20000 in
theorem ggL_fires_X8_load : GoodIn wsL_fires wsX8_load := goodIn_r _ [110, 6, 74, 75, 82, 8, 9, 4, 10, 11, 12, 13, 111, 112, 113, 114, 115, 116, 117, 118, 119, 120, 121, 122, 123, 124, 125, 126, 127, 128, 129, 130, 131, 132, 133, 134, 17, 135, 52, 53, 19, 25, 136, 137, 138, 30, 20, 139, 140, 141, 32, 33, 34, 142, 143, 144, 145, 146, 147, 148, 149, 150, 151, 152, 153, 154, 155, 156, 103, 157, 158, 159, 106, 160, 161, 162, 163, 105, 164, 165, 166, 167, 168, 169, 170, 171, 172, 173, 174, 175, 251, 252, 253, 254, 255, 256, 257, 258, 259, 260, 261, 279, 280, 281, 285, 286, 262, 263, 264, 265, 266, 267, 268, 269, 270, 271, 272, 273, 274, 275, 276, 277, 278, 282, 283, 284] (by decide +kernel) (by decide +kernel)
set_option maxRecDepth 20000 in
theorem gL_fires_X8_load : GoodIn wsL_fires (wsV RL 48 RX8 yX8_load wsX8_load) := goodIn_app (goodIn_of _ (by decide +kernel)) ggL_fires_X8_load
set_option maxRecDepth 20000 in
theorem ggL_fires_X8_fire : GoodIn wsL_fires wsX8_fire := goodIn_r _ [179, 6, 74, 75, 141, 32, 33, 34, 72, 73, 82, 11, 12, 4, 13, 111, 112, 113, 114, 115, 116, 117, 118, 119, 120, 121, 122, 123, 124, 125, 126, 127, 128, 129, 130, 131, 132, 133, 134, 17, 135, 52, 53, 19, 25, 136, 137, 138, 30, 20, 139, 140, 142, 143, 144, 145, 146, 147, 148, 149, 150, 151, 152, 153, 154, 155, 156, 103, 157, 158, 159, 106, 160, 161, 162, 163, 105, 164, 165, 166, 167, 168, 169, 170, 171, 180, 181, 182, 183, 184, 185, 186, 187, 188, 189, 190, 191, 192, 15, 16, 18, 21, 22, 23, 24, 26, 27, 28, 29, 31, 35, 36, 37, 193, 39, 40, 41, 42, 43, 44, 45, 46, 47, 48, 49, 50, 51, 54, 55, 56, 57, 58, 59, 194, 61, 62, 63, 64, 65, 66, 195, 196, 197, 198, 199, 200, 201, 202, 203, 204, 205, 206, 207, 208, 209, 210, 211, 212, 213, 214, 215, 216, 217, 173, 174, 175, 251, 252, 253, 254, 255, 256, 257, 258, 259, 260, 261, 279, 280, 281, 271, 272, 273, 274, 275, 276, 277, 278, 285, 286, 262, 263, 264, 265, 266, 267, 268, 269, 270, 282, 283, 284] (by decide +kernel) (by decide +kernel)
set_option maxRecDepth 20000 in
theorem gL_fires_X8_fire : GoodIn wsL_fires (wsV RL 51 RX8 yX8_fire wsX8_fire) := goodIn_app (goodIn_of _ (by decide +kernel)) ggL_fires_X8_fire
set_option maxRecDepth 20000 in
theorem ggL_fires_X8_shot : GoodIn wsL_fires wsX8_shot := goodIn_r _ [221, 6, 72, 222, 223, 224, 225, 226, 227, 81, 228, 229, 230, 231, 103, 232, 105, 97, 98, 4, 99, 233, 234, 235, 236, 161, 237, 238, 239, 240, 106, 163, 241, 54, 55, 242, 243, 244, 245, 246, 247, 248, 249, 33, 250, 251, 252, 253, 254, 255, 256, 257, 258, 259, 260, 261, 271, 272, 273, 274, 275, 276, 277, 278] (by decide +kernel) (by decide +kernel)
set_option maxRecDepth 20000 in
theorem gL_fires_X8_shot : GoodIn wsL_fires (wsV RL 9 RX8 yX8_shot wsX8_shot) := goodIn_app (goodIn_of _ (by decide +kernel)) ggL_fires_X8_shot
theorem dL_fires_0 : decode cL_fires 0 = .ok (.bipush 10, 2) := by decide +kernel
theorem dL_fires_2 : decode cL_fires 2 = .ok (.iload_n 1, 1) := by decide +kernel
theorem dL_fires_3 : decode cL_fires 3 = .ok (.iconst 3, 1) := by decide +kernel
theorem dL_fires_4 : decode cL_fires 4 = .ok (.ishr, 1) := by decide +kernel
theorem dL_fires_5 : decode cL_fires 5 = .ok (.sipush 1991, 3) := by decide +kernel
theorem dL_fires_8 : decode cL_fires 8 = .ok (.irem, 1) := by decide +kernel
theorem dL_fires_9 : decode cL_fires 9 = .ok (.iadd, 1) := by decide +kernel
theorem dL_fires_10 : decode cL_fires 10 = .ok (.istore_n 2, 1) := by decide +kernel
theorem dL_fires_11 : decode cL_fires 11 = .ok (.bipush 50, 2) := by decide +kernel
theorem dL_fires_13 : decode cL_fires 13 = .ok (.iload_n 1, 1) := by decide +kernel
theorem dL_fires_14 : decode cL_fires 14 = .ok (.bipush 14, 2) := by decide +kernel
theorem dL_fires_16 : decode cL_fires 16 = .ok (.ishr, 1) := by decide +kernel
theorem dL_fires_17 : decode cL_fires 17 = .ok (.sipush 851, 3) := by decide +kernel
theorem dL_fires_20 : decode cL_fires 20 = .ok (.irem, 1) := by decide +kernel
theorem dL_fires_21 : decode cL_fires 21 = .ok (.iadd, 1) := by decide +kernel
theorem dL_fires_22 : decode cL_fires 22 = .ok (.istore_n 3, 1) := by decide +kernel
theorem dL_fires_23 : decode cL_fires 23 = .ok (.iload_n 1, 1) := by decide +kernel
theorem dL_fires_24 : decode cL_fires 24 = .ok (.bipush 24, 2) := by decide +kernel
theorem dL_fires_26 : decode cL_fires 26 = .ok (.ishr, 1) := by decide +kernel
theorem dL_fires_27 : decode cL_fires 27 = .ok (.iconst 4, 1) := by decide +kernel
theorem dL_fires_28 : decode cL_fires 28 = .ok (.irem, 1) := by decide +kernel
theorem dL_fires_29 : decode cL_fires 29 = .ok (.ifCond .ne 7, 3) := by decide +kernel
theorem dL_fires_32 : decode cL_fires 32 = .ok (.iconst 0, 1) := by decide +kernel
theorem dL_fires_33 : decode cL_fires 33 = .ok (.goto 20, 3) := by decide +kernel
theorem dL_fires_36 : decode cL_fires 36 = .ok (.iload_n 1, 1) := by decide +kernel
theorem dL_fires_37 : decode cL_fires 37 = .ok (.bipush 24, 2) := by decide +kernel
theorem dL_fires_39 : decode cL_fires 39 = .ok (.ishr, 1) := by decide +kernel
theorem dL_fires_40 : decode cL_fires 40 = .ok (.iconst 4, 1) := by decide +kernel
theorem dL_fires_41 : decode cL_fires 41 = .ok (.irem, 1) := by decide +kernel
theorem dL_fires_42 : decode cL_fires 42 = .ok (.iconst 1, 1) := by decide +kernel
theorem dL_fires_43 : decode cL_fires 43 = .ok (.if_icmp .ne 7, 3) := by decide +kernel
theorem dL_fires_46 : decode cL_fires 46 = .ok (.iconst 3, 1) := by decide +kernel
theorem dL_fires_47 : decode cL_fires 47 = .ok (.goto 6, 3) := by decide +kernel
theorem dL_fires_50 : decode cL_fires 50 = .ok (.sipush 500, 3) := by decide +kernel
theorem dL_fires_53 : decode cL_fires 53 = .ok (.istore 4, 2) := by decide +kernel
theorem dL_fires_55 : decode cL_fires 55 = .ok (.aload_n 0, 1) := by decide +kernel
theorem dL_fires_56 : decode cL_fires 56 = .ok (.iload_n 2, 1) := by decide +kernel
theorem dL_fires_57 : decode cL_fires 57 = .ok (.iload_n 3, 1) := by decide +kernel
theorem dL_fires_58 : decode cL_fires 58 = .ok (.iconst 2, 1) := by decide +kernel
theorem dL_fires_59 : decode cL_fires 59 = .ok (.invokevirtual 44, 3) := by decide +kernel
theorem dL_fires_62 : decode cL_fires 62 = .ok (.istore 5, 2) := by decide +kernel
theorem dL_fires_64 : decode cL_fires 64 = .ok (.aload_n 0, 1) := by decide +kernel
theorem dL_fires_65 : decode cL_fires 65 = .ok (.iload_n 2, 1) := by decide +kernel
theorem dL_fires_66 : decode cL_fires 66 = .ok (.iload_n 3, 1) := by decide +kernel
theorem dL_fires_67 : decode cL_fires 67 = .ok (.iconst 3, 1) := by decide +kernel
theorem dL_fires_68 : decode cL_fires 68 = .ok (.invokevirtual 44, 3) := by decide +kernel
theorem dL_fires_71 : decode cL_fires 71 = .ok (.istore 6, 2) := by decide +kernel
theorem dL_fires_73 : decode cL_fires 73 = .ok (.aload_n 0, 1) := by decide +kernel
theorem dL_fires_74 : decode cL_fires 74 = .ok (.iload_n 2, 1) := by decide +kernel
theorem dL_fires_75 : decode cL_fires 75 = .ok (.iload_n 3, 1) := by decide +kernel
theorem dL_fires_76 : decode cL_fires 76 = .ok (.iconst 4, 1) := by decide +kernel
theorem dL_fires_77 : decode cL_fires 77 = .ok (.invokevirtual 44, 3) := by decide +kernel
theorem dL_fires_80 : decode cL_fires 80 = .ok (.istore 7, 2) := by decide +kernel
theorem dL_fires_82 : decode cL_fires 82 = .ok (.aload_n 0, 1) := by decide +kernel
theorem dL_fires_83 : decode cL_fires 83 = .ok (.bipush 7, 2) := by decide +kernel
theorem dL_fires_85 : decode cL_fires 85 = .ok (.invokevirtual 23, 3) := by decide +kernel
theorem dL_fires_88 : decode cL_fires 88 = .ok (.istore 8, 2) := by decide +kernel
theorem dL_fires_90 : decode cL_fires 90 = .ok (.aload_n 0, 1) := by decide +kernel
theorem dL_fires_91 : decode cL_fires 91 = .ok (.iconst 1, 1) := by decide +kernel
theorem dL_fires_92 : decode cL_fires 92 = .ok (.invokevirtual 23, 3) := by decide +kernel
theorem dL_fires_95 : decode cL_fires 95 = .ok (.istore 9, 2) := by decide +kernel
theorem dL_fires_97 : decode cL_fires 97 = .ok (.aload_n 0, 1) := by decide +kernel
theorem dL_fires_98 : decode cL_fires 98 = .ok (.bipush 9, 2) := by decide +kernel
theorem dL_fires_100 : decode cL_fires 100 = .ok (.invokevirtual 23, 3) := by decide +kernel
theorem dL_fires_103 : decode cL_fires 103 = .ok (.istore 10, 2) := by decide +kernel
theorem dL_fires_105 : decode cL_fires 105 = .ok (.aload_n 0, 1) := by decide +kernel
theorem dL_fires_106 : decode cL_fires 106 = .ok (.iload_n 2, 1) := by decide +kernel
theorem dL_fires_107 : decode cL_fires 107 = .ok (.iload_n 3, 1) := by decide +kernel
theorem dL_fires_108 : decode cL_fires 108 = .ok (.invokevirtual 48, 3) := by decide +kernel
theorem dL_fires_111 : decode cL_fires 111 = .ok (.ifCond .ge 16, 3) := by decide +kernel
theorem dL_fires_114 : decode cL_fires 114 = .ok (.iload 10, 2) := by decide +kernel
theorem dL_fires_116 : decode cL_fires 116 = .ok (.bipush 20, 2) := by decide +kernel
theorem dL_fires_118 : decode cL_fires 118 = .ok (.if_icmp .ne 7, 3) := by decide +kernel
theorem dL_fires_121 : decode cL_fires 121 = .ok (.iconst 1, 1) := by decide +kernel
theorem dL_fires_122 : decode cL_fires 122 = .ok (.goto 4, 3) := by decide +kernel
theorem dL_fires_125 : decode cL_fires 125 = .ok (.iconst 0, 1) := by decide +kernel
theorem dL_fires_126 : decode cL_fires 126 = .ok (.ireturn, 1) := by decide +kernel
theorem dL_fires_127 : decode cL_fires 127 = .ok (.aload_n 0, 1) := by decide +kernel
theorem dL_fires_128 : decode cL_fires 128 = .ok (.iconst 1, 1) := by decide +kernel
theorem dL_fires_129 : decode cL_fires 129 = .ok (.iload 4, 2) := by decide +kernel
theorem dL_fires_131 : decode cL_fires 131 = .ok (.invokevirtual 51, 3) := by decide +kernel
theorem dL_fires_134 : decode cL_fires 134 = .ok (.istore 11, 2) := by decide +kernel
theorem dL_fires_136 : decode cL_fires 136 = .ok (.iload 10, 2) := by decide +kernel
theorem dL_fires_138 : decode cL_fires 138 = .ok (.ifCond .gt 10, 3) := by decide +kernel
theorem dL_fires_141 : decode cL_fires 141 = .ok (.iload 11, 2) := by decide +kernel
theorem dL_fires_143 : decode cL_fires 143 = .ok (.bipush (-3), 2) := by decide +kernel
theorem dL_fires_145 : decode cL_fires 145 = .ok (.if_icmp .ne 36, 3) := by decide +kernel
theorem dL_fires_148 : decode cL_fires 148 = .ok (.iload 11, 2) := by decide +kernel
theorem dL_fires_150 : decode cL_fires 150 = .ok (.bipush (-3), 2) := by decide +kernel
theorem dL_fires_152 : decode cL_fires 152 = .ok (.if_icmp .ne 18, 3) := by decide +kernel
theorem dL_fires_155 : decode cL_fires 155 = .ok (.iload 8, 2) := by decide +kernel
theorem dL_fires_157 : decode cL_fires 157 = .ok (.bipush 60, 2) := by decide +kernel
theorem dL_fires_159 : decode cL_fires 159 = .ok (.if_icmp .ne 7, 3) := by decide +kernel
theorem dL_fires_162 : decode cL_fires 162 = .ok (.iconst 1, 1) := by decide +kernel
theorem dL_fires_163 : decode cL_fires 163 = .ok (.goto 17, 3) := by decide +kernel
theorem dL_fires_166 : decode cL_fires 166 = .ok (.iconst 0, 1) := by decide +kernel
theorem dL_fires_167 : decode cL_fires 167 = .ok (.goto 13, 3) := by decide +kernel
theorem dL_fires_170 : decode cL_fires 170 = .ok (.iload 11, 2) := by decide +kernel
theorem dL_fires_172 : decode cL_fires 172 = .ok (.ifCond .lt 7, 3) := by decide +kernel
theorem dL_fires_175 : decode cL_fires 175 = .ok (.iconst 1, 1) := by decide +kernel
theorem dL_fires_176 : decode cL_fires 176 = .ok (.goto 4, 3) := by decide +kernel
theorem dL_fires_179 : decode cL_fires 179 = .ok (.iconst 0, 1) := by decide +kernel
theorem dL_fires_180 : decode cL_fires 180 = .ok (.ireturn, 1) := by decide +kernel
theorem dL_fires_181 : decode cL_fires 181 = .ok (.iload 11, 2) := by decide +kernel
theorem dL_fires_183 : decode cL_fires 183 = .ok (.iload 5, 2) := by decide +kernel
theorem dL_fires_185 : decode cL_fires 185 = .ok (.ifCond .ne 7, 3) := by decide +kernel
theorem dL_fires_188 : decode cL_fires 188 = .ok (.iconst 1, 1) := by decide +kernel
theorem dL_fires_189 : decode cL_fires 189 = .ok (.goto 4, 3) := by decide +kernel
theorem dL_fires_192 : decode cL_fires 192 = .ok (.iconst 0, 1) := by decide +kernel
theorem dL_fires_193 : decode cL_fires 193 = .ok (.if_icmp .ne 73, 3) := by decide +kernel
theorem dL_fires_196 : decode cL_fires 196 = .ok (.aload_n 0, 1) := by decide +kernel
theorem dL_fires_197 : decode cL_fires 197 = .ok (.iload 8, 2) := by decide +kernel
theorem dL_fires_199 : decode cL_fires 199 = .ok (.iconst 2, 1) := by decide +kernel
theorem dL_fires_200 : decode cL_fires 200 = .ok (.invokevirtual 9, 3) := by decide +kernel
theorem dL_fires_203 : decode cL_fires 203 = .ok (.iload 5, 2) := by decide +kernel
theorem dL_fires_205 : decode cL_fires 205 = .ok (.if_icmp .ne 61, 3) := by decide +kernel
theorem dL_fires_208 : decode cL_fires 208 = .ok (.aload_n 0, 1) := by decide +kernel
theorem dL_fires_209 : decode cL_fires 209 = .ok (.iload 8, 2) := by decide +kernel
theorem dL_fires_211 : decode cL_fires 211 = .ok (.iconst 3, 1) := by decide +kernel
theorem dL_fires_212 : decode cL_fires 212 = .ok (.invokevirtual 9, 3) := by decide +kernel
theorem dL_fires_215 : decode cL_fires 215 = .ok (.iload 6, 2) := by decide +kernel
theorem dL_fires_217 : decode cL_fires 217 = .ok (.if_icmp .ne 49, 3) := by decide +kernel
theorem dL_fires_220 : decode cL_fires 220 = .ok (.aload_n 0, 1) := by decide +kernel
theorem dL_fires_221 : decode cL_fires 221 = .ok (.iload 8, 2) := by decide +kernel
theorem dL_fires_223 : decode cL_fires 223 = .ok (.iconst 4, 1) := by decide +kernel
theorem dL_fires_224 : decode cL_fires 224 = .ok (.invokevirtual 9, 3) := by decide +kernel
theorem dL_fires_227 : decode cL_fires 227 = .ok (.iload 7, 2) := by decide +kernel
theorem dL_fires_229 : decode cL_fires 229 = .ok (.if_icmp .ne 37, 3) := by decide +kernel
theorem dL_fires_232 : decode cL_fires 232 = .ok (.aload_n 0, 1) := by decide +kernel
theorem dL_fires_233 : decode cL_fires 233 = .ok (.iconst 1, 1) := by decide +kernel
theorem dL_fires_234 : decode cL_fires 234 = .ok (.invokevirtual 23, 3) := by decide +kernel
theorem dL_fires_237 : decode cL_fires 237 = .ok (.iload 9, 2) := by decide +kernel
theorem dL_fires_239 : decode cL_fires 239 = .ok (.iload 5, 2) := by decide +kernel
theorem dL_fires_241 : decode cL_fires 241 = .ok (.ifCond .ne 7, 3) := by decide +kernel
theorem dL_fires_244 : decode cL_fires 244 = .ok (.iload_n 2, 1) := by decide +kernel
theorem dL_fires_245 : decode cL_fires 245 = .ok (.goto 4, 3) := by decide +kernel
theorem dL_fires_248 : decode cL_fires 248 = .ok (.iconst 0, 1) := by decide +kernel
theorem dL_fires_249 : decode cL_fires 249 = .ok (.iadd, 1) := by decide +kernel
theorem dL_fires_250 : decode cL_fires 250 = .ok (.if_icmp .ne 16, 3) := by decide +kernel
theorem dL_fires_253 : decode cL_fires 253 = .ok (.aload_n 0, 1) := by decide +kernel
theorem dL_fires_254 : decode cL_fires 254 = .ok (.bipush 9, 2) := by decide +kernel
theorem dL_fires_256 : decode cL_fires 256 = .ok (.invokevirtual 23, 3) := by decide +kernel
theorem dL_fires_259 : decode cL_fires 259 = .ok (.ifCond .ne 7, 3) := by decide +kernel
theorem dL_fires_262 : decode cL_fires 262 = .ok (.iconst 1, 1) := by decide +kernel
theorem dL_fires_263 : decode cL_fires 263 = .ok (.goto 4, 3) := by decide +kernel
theorem dL_fires_266 : decode cL_fires 266 = .ok (.iconst 0, 1) := by decide +kernel
theorem dL_fires_267 : decode cL_fires 267 = .ok (.istore 12, 2) := by decide +kernel
theorem dL_fires_269 : decode cL_fires 269 = .ok (.iload 12, 2) := by decide +kernel
theorem dL_fires_271 : decode cL_fires 271 = .ok (.ifCond .eq 27, 3) := by decide +kernel
theorem dL_fires_274 : decode cL_fires 274 = .ok (.iload 5, 2) := by decide +kernel
theorem dL_fires_276 : decode cL_fires 276 = .ok (.ifCond .ne 18, 3) := by decide +kernel
theorem dL_fires_279 : decode cL_fires 279 = .ok (.iload 4, 2) := by decide +kernel
theorem dL_fires_281 : decode cL_fires 281 = .ok (.ifCond .gt 13, 3) := by decide +kernel
theorem dL_fires_284 : decode cL_fires 284 = .ok (.aload_n 0, 1) := by decide +kernel
theorem dL_fires_285 : decode cL_fires 285 = .ok (.iconst 4, 1) := by decide +kernel
theorem dL_fires_286 : decode cL_fires 286 = .ok (.invokevirtual 23, 3) := by decide +kernel
theorem dL_fires_289 : decode cL_fires 289 = .ok (.iload 6, 2) := by decide +kernel
theorem dL_fires_291 : decode cL_fires 291 = .ok (.if_icmp .ne 7, 3) := by decide +kernel
theorem dL_fires_294 : decode cL_fires 294 = .ok (.iconst 1, 1) := by decide +kernel
theorem dL_fires_295 : decode cL_fires 295 = .ok (.goto 4, 3) := by decide +kernel
theorem dL_fires_298 : decode cL_fires 298 = .ok (.iconst 0, 1) := by decide +kernel
theorem dL_fires_299 : decode cL_fires 299 = .ok (.ireturn, 1) := by decide +kernel
set_option maxRecDepth 20000 in
theorem ggL_acts_X8_count : GoodIn wsL_acts wsX8_count := goodIn_r _ [5, 6, 7, 8, 9, 10, 11, 12, 13, 14, 15, 16, 17, 18, 19, 20, 21, 22, 23, 24, 4, 25, 26, 27, 28, 29, 30, 31, 32, 33, 34, 35, 36, 37, 38, 39, 40, 41, 42, 43, 44, 45, 46, 47, 48, 49, 50, 51, 52, 53, 54, 55, 56, 57, 58, 59, 60, 61, 62, 63, 64, 65, 66, 67, 359, 360, 361, 362, 363, 364, 365, 366, 367, 368, 369, 370, 371, 372, 373, 374, 375, 376, 377, 378, 379, 380, 381, 382, 383, 384, 385, 386, 387, 388, 389, 390, 391, 392, 393, 394, 395, 396] (by decide +kernel) (by decide +kernel)
set_option maxRecDepth 20000 in
theorem gL_acts_X8_count : GoodIn wsL_acts (wsV RL 23 RX8 yX8_count wsX8_count) := goodIn_app (goodIn_of _ (by decide +kernel)) ggL_acts_X8_count
set_option maxRecDepth 20000 in
theorem ggL_acts_L_fires : GoodIn wsL_acts wsL_fires := goodIn_r _ [71, 72, 73, 74, 4, 75, 6, 7, 76, 77, 78, 23, 24, 25, 79, 80, 81, 37, 82, 83, 57, 84, 85, 86, 87, 88, 89, 47, 48, 49, 45, 50, 51, 52, 53, 54, 55, 56, 90, 91, 92, 93, 94, 95, 96, 97, 98, 99, 100, 35, 36, 38, 39, 40, 101, 102, 103, 42, 43, 44, 104, 105, 106, 107, 108, 109, 110, 1, 2, 3, 5, 8, 9, 10, 11, 12, 13, 14, 15, 16, 17, 18, 19, 20, 21, 22, 26, 27, 28, 29, 30, 31, 32, 33, 34, 41, 46, 58, 59, 60, 61, 62, 63, 64, 65, 66, 67, 111, 112, 113, 114, 115, 116, 117, 118, 119, 120, 121, 122, 123, 124, 125, 126, 127, 128, 129, 130, 131, 132, 133, 134, 135, 136, 137, 138, 139, 140, 141, 142, 143, 144, 145, 146, 147, 148, 149, 150, 151, 152, 153, 154, 155, 156, 157, 158, 159, 160, 161, 162, 163, 164, 165, 166, 167, 168, 169, 170, 171, 172, 173, 174, 175, 176, 177, 178, 179, 180, 181, 182, 183, 184, 185, 186, 187, 188, 189, 190, 191, 192, 193, 194, 195, 196, 197, 198, 199, 200, 201, 202, 203, 204, 205, 206, 207, 208, 209, 210, 211, 212, 213, 214, 215, 216, 217, 218, 219, 220, 221, 222, 223, 224, 225, 226, 227, 228, 229, 230, 231, 232, 233, 234, 235, 236, 237, 238, 239, 240, 241, 242, 243, 244, 245, 246, 247, 248, 249, 250, 251, 252, 253, 254, 359, 360, 361, 362, 363, 364, 365, 366, 367, 368, 369, 370, 371, 372, 373, 374, 375, 376, 377, 378, 379, 380, 381, 382, 383, 384, 385, 386, 387, 388, 389, 390, 391, 392, 393, 394, 395, 396] (by decide +kernel) (by decide +kernel)
set_option maxRecDepth 20000 in
theorem gL_acts_L_fires : GoodIn wsL_acts (va_wsS RL 54 yL_fires wsL_fires) := goodIn_app (goodIn_of _ (by decide +kernel)) ggL_acts_L_fires
set_option maxRecDepth 20000 in
theorem ggL_acts_X8_untilRest : GoodIn wsL_acts wsX8_untilRest := goodIn_r _ [258, 6, 7, 259, 85, 86, 37, 87, 88, 260, 261, 262, 263, 57, 54, 55, 52, 56, 264, 212, 213, 214, 215, 359, 360, 361, 362, 363, 364, 365, 366, 367, 368, 369, 370, 371, 372, 373, 374, 375, 376, 377, 378] (by decide +kernel) (by decide +kernel)
set_option maxRecDepth 20000 in
theorem gL_acts_X8_untilRest : GoodIn wsL_acts (wsV RL 39 RX8 yX8_untilRest wsX8_untilRest) := goodIn_app (goodIn_of _ (by decide +kernel)) ggL_acts_X8_untilRest
set_option maxRecDepth 20000 in
theorem ggL_acts_X8_swing : GoodIn wsL_acts wsX8_swing := goodIn_r _ [268, 6, 7, 19, 33, 23, 24, 4, 25, 259, 85, 86, 37, 87, 88, 115, 116, 117, 118, 119, 120, 121, 122, 123, 124, 125, 126, 127, 128, 129, 130, 131, 132, 133, 134, 135, 136, 137, 138, 139, 39, 40, 83, 140, 141, 142, 45, 57, 143, 144, 145, 51, 52, 53, 146, 147, 148, 149, 150, 151, 152, 153, 154, 155, 156, 157, 158, 159, 160, 64, 161, 162, 163, 67, 164, 165, 166, 167, 66, 168, 169, 170, 171, 172, 173, 174, 175, 269, 209, 210, 211, 84, 212, 213, 214, 215, 54, 55, 56, 359, 360, 361, 362, 363, 364, 365, 366, 367, 368, 369, 370, 371, 372, 373, 374, 375, 376, 377, 378, 393, 394, 387, 388, 389, 379, 380, 381, 382, 383, 384, 385, 386, 390, 391, 392] (by decide +kernel) (by decide +kernel)
set_option maxRecDepth 20000 in
theorem gL_acts_X8_swing : GoodIn wsL_acts (wsV RL 57 RX8 yX8_swing wsX8_swing) := goodIn_app (goodIn_of _ (by decide +kernel)) ggL_acts_X8_swing
set_option maxRecDepth 20000 in
theorem ggL_acts_X8_stop : GoodIn wsL_acts wsX8_stop := goodIn_r _ [273, 6, 7, 19, 33, 259, 85, 86, 37, 87, 88, 115, 116, 117, 118, 119, 120, 121, 122, 123, 124, 125, 126, 127, 128, 129, 130, 131, 132, 133, 134, 135, 136, 137, 138, 139, 39, 40, 83, 140, 141, 142, 45, 57, 143, 4, 144, 145, 51, 52, 53, 146, 147, 148, 149, 150, 151, 152, 153, 154, 155, 156, 157, 158, 159, 160, 64, 161, 162, 163, 67, 164, 165, 166, 167, 66, 168, 169, 170, 171, 172, 173, 174, 175, 359, 360, 361, 362, 363, 364, 365, 366, 367, 368, 369, 370, 371, 372, 373, 374, 375, 376, 377, 378, 393, 394, 387, 388, 389, 379, 380, 381, 382, 383, 384, 385, 386, 390, 391, 392] (by decide +kernel) (by decide +kernel)
set_option maxRecDepth 20000 in
theorem gL_acts_X8_stop : GoodIn wsL_acts (wsV RL 60 RX8 yX8_stop wsX8_stop) := goodIn_app (goodIn_of _ (by decide +kernel)) ggL_acts_X8_stop
set_option maxRecDepth 20000 in
theorem ggL_acts_X8_digOut : GoodIn wsL_acts wsX8_digOut := goodIn_r _ [277, 6, 7, 32, 19, 31, 259, 85, 86, 37, 87, 88, 115, 116, 117, 118, 119, 120, 121, 122, 123, 124, 125, 126, 127, 128, 129, 130, 131, 132, 133, 134, 135, 136, 137, 138, 139, 39, 40, 83, 140, 141, 142, 45, 57, 143, 4, 144, 145, 51, 52, 53, 146, 147, 148, 149, 150, 151, 152, 153, 154, 155, 156, 157, 158, 159, 160, 64, 161, 162, 163, 67, 164, 165, 166, 167, 66, 168, 169, 170, 171, 172, 173, 174, 175, 278, 279, 280, 281, 359, 360, 361, 362, 363, 364, 365, 366, 367, 368, 369, 370, 371, 372, 373, 374, 375, 376, 377, 378, 393, 394, 387, 388, 389, 379, 380, 381, 382, 383, 384, 385, 386, 390, 391, 392] (by decide +kernel) (by decide +kernel)
set_option maxRecDepth 20000 in
theorem gL_acts_X8_digOut : GoodIn wsL_acts (wsV RL 63 RX8 yX8_digOut wsX8_digOut) := goodIn_app (goodIn_of _ (by decide +kernel)) ggL_acts_X8_digOut
set_option maxRecDepth 20000 in
theorem ggL_acts_X8_lengthOf : GoodIn wsL_acts wsX8_lengthOf := goodIn_r _ [285, 6, 7, 286, 23, 24, 4, 25, 359, 360, 361, 362, 363, 364, 365, 366, 367, 368, 369, 370, 371, 372, 373, 374, 375, 376, 377, 378] (by decide +kernel) (by decide +kernel)
set_option maxRecDepth 20000 in
theorem gL_acts_X8_lengthOf : GoodIn wsL_acts (wsV RL 66 RX8 yX8_lengthOf wsX8_lengthOf) := goodIn_app (goodIn_of _ (by decide +kernel)) ggL_acts_X8_lengthOf
set_option maxRecDepth 20000 in
theorem ggL_acts_X8_cord : GoodIn wsL_acts wsX8_cord := goodIn_r _ [290, 6, 7, 286, 19, 23, 24, 4, 25, 259, 85, 86, 37, 87, 88, 115, 116, 117, 118, 119, 120, 121, 122, 123, 124, 125, 126, 127, 128, 129, 130, 131, 132, 133, 134, 135, 136, 137, 138, 139, 39, 40, 83, 140, 141, 142, 45, 57, 143, 144, 145, 51, 52, 53, 146, 147, 148, 149, 150, 151, 152, 153, 154, 155, 156, 157, 158, 159, 160, 64, 161, 162, 163, 67, 164, 165, 166, 167, 66, 168, 169, 170, 171, 172, 173, 174, 175, 41, 42, 43, 44, 359, 360, 361, 362, 363, 364, 365, 366, 367, 368, 369, 370, 371, 372, 373, 374, 375, 376, 377, 378, 393, 394, 387, 388, 389, 379, 380, 381, 382, 383, 384, 385, 386, 390, 391, 392] (by decide +kernel) (by decide +kernel)
set_option maxRecDepth 20000 in
theorem gL_acts_X8_cord : GoodIn wsL_acts (wsV RL 69 RX8 yX8_cord wsX8_cord) := goodIn_app (goodIn_of _ (by decide +kernel)) ggL_acts_X8_cord
set_option maxRecDepth 20000 in
theorem ggL_acts_X8_series : GoodIn wsL_acts wsX8_series := goodIn_r _ [294, 6, 9, 18, 16, 295, 296, 297, 64, 298, 66, 241, 242, 243, 244, 67, 167, 245, 234, 235, 236, 237, 238, 239, 240, 165, 101, 4, 102, 299, 300, 301, 302, 303, 51, 52, 53, 304, 55, 56, 305, 306, 307, 308, 309, 310, 311, 312, 313, 314, 247, 248, 249, 250, 251, 252, 253, 254, 315, 316, 317, 318, 319, 320, 321, 322, 171, 323, 175, 324, 325, 326, 327, 328, 329, 330, 331, 332, 333, 173, 174, 334, 335, 336, 337, 359, 360, 361, 362, 363, 364, 365, 366, 367, 368, 369, 379, 380, 381, 382, 383, 384, 385, 386, 390, 391, 392] (by decide +kernel) (by decide +kernel)
set_option maxRecDepth 20000 in
theorem gL_acts_X8_series : GoodIn wsL_acts (wsV RL 33 RX8 yX8_series wsX8_series) := goodIn_app (goodIn_of _ (by decide +kernel)) ggL_acts_X8_series
set_option maxRecDepth 20000 in
theorem ggL_acts_X8_strike : GoodIn wsL_acts wsX8_strike := goodIn_r _ [341, 6, 9, 228, 231, 19, 233, 234, 235, 64, 236, 66, 115, 116, 117, 118, 119, 120, 121, 122, 123, 124, 125, 126, 127, 128, 129, 130, 131, 132, 133, 134, 135, 136, 137, 138, 37, 139, 39, 40, 83, 88, 140, 141, 142, 45, 57, 143, 4, 144, 145, 51, 52, 53, 146, 147, 148, 149, 150, 151, 152, 153, 154, 155, 156, 157, 158, 159, 160, 161, 162, 163, 67, 164, 165, 166, 167, 168, 169, 170, 171, 172, 173, 174, 175, 295, 296, 297, 298, 241, 242, 243, 244, 245, 359, 360, 361, 362, 363, 364, 365, 366, 367, 368, 369, 379, 380, 381, 382, 383, 384, 385, 386, 393, 394, 370, 371, 372, 373, 374, 375, 376, 377, 378, 387, 388, 389, 390, 391, 392] (by decide +kernel) (by decide +kernel)
set_option maxRecDepth 20000 in
theorem gL_acts_X8_strike : GoodIn wsL_acts (wsV RL 72 RX8 yX8_strike wsX8_strike) := goodIn_app (goodIn_of _ (by decide +kernel)) ggL_acts_X8_strike
set_option maxRecDepth 20000 in
theorem ggL_acts_X8_shot : GoodIn wsL_acts wsX8_shot := goodIn_r _ [225, 6, 9, 226, 227, 228, 229, 230, 231, 18, 232, 233, 234, 235, 64, 236, 66, 58, 59, 4, 60, 237, 238, 239, 240, 165, 241, 242, 243, 244, 67, 167, 245, 101, 102, 246, 247, 248, 249, 250, 251, 252, 253, 52, 254, 359, 360, 361, 362, 363, 364, 365, 366, 367, 368, 369, 379, 380, 381, 382, 383, 384, 385, 386] (by decide +kernel) (by decide +kernel)
set_option maxRecDepth 20000 in
theorem gL_acts_X8_shot : GoodIn wsL_acts (wsV RL 9 RX8 yX8_shot wsX8_shot) := goodIn_app (goodIn_of _ (by decide +kernel)) ggL_acts_X8_shot
set_option maxRecDepth 20000 in
theorem ggL_acts_X8_clean : GoodIn wsL_acts wsX8_clean := goodIn_r _ [345, 6, 9, 18, 19, 346, 347, 348, 64, 349, 66, 165, 313, 238, 239, 240, 241, 242, 243, 244, 67, 167, 245, 234, 235, 236, 101, 4, 102, 314, 247, 248, 249, 250, 251, 252, 253, 52, 254, 115, 116, 117, 118, 119, 120, 121, 122, 123, 124, 125, 126, 127, 128, 129, 130, 131, 132, 133, 134, 135, 136, 137, 138, 37, 139, 39, 40, 83, 88, 140, 141, 142, 45, 57, 143, 144, 145, 51, 53, 146, 147, 148, 149, 150, 151, 152, 153, 154, 155, 156, 157, 158, 159, 160, 161, 162, 163, 164, 166, 168, 169, 170, 171, 172, 173, 174, 175, 350, 351, 352, 353, 354, 359, 360, 361, 362, 363, 364, 365, 366, 367, 368, 369, 379, 380, 381, 382, 383, 384, 385, 386, 393, 394, 370, 371, 372, 373, 374, 375, 376, 377, 378, 387, 388, 389, 390, 391, 392] (by decide +kernel) (by decide +kernel)
set_option maxRecDepth 20000 in
theorem gL_acts_X8_clean : GoodIn wsL_acts (wsV RL 76 RX8 yX8_clean wsX8_clean) := goodIn_app (goodIn_of _ (by decide +kernel)) ggL_acts_X8_clean
set_option maxRecDepth 20000 in
theorem ggL_acts_X8_setLimit : GoodIn wsL_acts wsX8_setLimit := goodIn_r _ [358, 6, 18, 19, 23, 24, 4, 25, 115, 116, 117, 118, 119, 120, 121, 122, 123, 124, 125, 126, 127, 128, 129, 130, 131, 132, 133, 134, 135, 136, 137, 138, 37, 139, 39, 40, 83, 88, 140, 141, 142, 45, 57, 143, 144, 145, 51, 52, 53, 146, 147, 148, 149, 150, 151, 152, 153, 154, 155, 156, 157, 158, 159, 160, 64, 161, 162, 163, 67, 164, 165, 166, 167, 66, 168, 169, 170, 171, 172, 173, 174, 175, 359, 360, 361, 362, 363, 364, 365, 366, 367, 368, 369, 393, 394, 370, 371, 372, 373, 374, 375, 376, 377, 378, 387, 388, 389, 379, 380, 381, 382, 383, 384, 385, 386, 390, 391, 392] (by decide +kernel) (by decide +kernel)
set_option maxRecDepth 20000 in
theorem gL_acts_X8_setLimit : GoodIn wsL_acts (wsV RL 79 RX8 yX8_setLimit wsX8_setLimit) := goodIn_app (goodIn_of _ (by decide +kernel)) ggL_acts_X8_setLimit
theorem dL_acts_0 : decode cL_acts 0 = .ok (.aload_n 0, 1) := by decide +kernel
theorem dL_acts_1 : decode cL_acts 1 = .ok (.iconst 4, 1) := by decide +kernel
theorem dL_acts_2 : decode cL_acts 2 = .ok (.invokevirtual 23, 3) := by decide +kernel
theorem dL_acts_5 : decode cL_acts 5 = .ok (.ifCond .le 7, 3) := by decide +kernel
theorem dL_acts_8 : decode cL_acts 8 = .ok (.iconst 1, 1) := by decide +kernel
theorem dL_acts_9 : decode cL_acts 9 = .ok (.goto 4, 3) := by decide +kernel
theorem dL_acts_12 : decode cL_acts 12 = .ok (.iconst 0, 1) := by decide +kernel
theorem dL_acts_13 : decode cL_acts 13 = .ok (.istore_n 2, 1) := by decide +kernel
theorem dL_acts_14 : decode cL_acts 14 = .ok (.aload_n 0, 1) := by decide +kernel
theorem dL_acts_15 : decode cL_acts 15 = .ok (.iconst 4, 1) := by decide +kernel
theorem dL_acts_16 : decode cL_acts 16 = .ok (.invokevirtual 23, 3) := by decide +kernel
theorem dL_acts_19 : decode cL_acts 19 = .ok (.istore_n 3, 1) := by decide +kernel
theorem dL_acts_20 : decode cL_acts 20 = .ok (.iload_n 1, 1) := by decide +kernel
theorem dL_acts_21 : decode cL_acts 21 = .ok (.bipush 8, 2) := by decide +kernel
theorem dL_acts_23 : decode cL_acts 23 = .ok (.irem, 1) := by decide +kernel
theorem dL_acts_24 : decode cL_acts 24 = .ok (.tableswitch 522 0 6 #[44, 44, 44, 50, 187, 255, 361], 44) := by decide +kernel
theorem dL_acts_68 : decode cL_acts 68 = .ok (.aload_n 0, 1) := by decide +kernel
theorem dL_acts_69 : decode cL_acts 69 = .ok (.iload_n 1, 1) := by decide +kernel
theorem dL_acts_70 : decode cL_acts 70 = .ok (.invokestatic 54, 3) := by decide +kernel
theorem dL_acts_73 : decode cL_acts 73 = .ok (.ireturn, 1) := by decide +kernel
theorem dL_acts_74 : decode cL_acts 74 = .ok (.aload_n 0, 1) := by decide +kernel
theorem dL_acts_75 : decode cL_acts 75 = .ok (.invokevirtual 39, 3) := by decide +kernel
theorem dL_acts_78 : decode cL_acts 78 = .ok (.istore 4, 2) := by decide +kernel
theorem dL_acts_80 : decode cL_acts 80 = .ok (.aload_n 0, 1) := by decide +kernel
theorem dL_acts_81 : decode cL_acts 81 = .ok (.bipush 10, 2) := by decide +kernel
theorem dL_acts_83 : decode cL_acts 83 = .ok (.invokevirtual 23, 3) := by decide +kernel
theorem dL_acts_86 : decode cL_acts 86 = .ok (.istore 5, 2) := by decide +kernel
theorem dL_acts_88 : decode cL_acts 88 = .ok (.aload_n 0, 1) := by decide +kernel
theorem dL_acts_89 : decode cL_acts 89 = .ok (.iconst 1, 1) := by decide +kernel
theorem dL_acts_90 : decode cL_acts 90 = .ok (.iload_n 1, 1) := by decide +kernel
theorem dL_acts_91 : decode cL_acts 91 = .ok (.iconst 3, 1) := by decide +kernel
theorem dL_acts_92 : decode cL_acts 92 = .ok (.ishr, 1) := by decide +kernel
theorem dL_acts_93 : decode cL_acts 93 = .ok (.sipush 500, 3) := by decide +kernel
theorem dL_acts_96 : decode cL_acts 96 = .ok (.irem, 1) := by decide +kernel
theorem dL_acts_97 : decode cL_acts 97 = .ok (.iadd, 1) := by decide +kernel
theorem dL_acts_98 : decode cL_acts 98 = .ok (.invokevirtual 57, 3) := by decide +kernel
theorem dL_acts_101 : decode cL_acts 101 = .ok (.istore 6, 2) := by decide +kernel
theorem dL_acts_103 : decode cL_acts 103 = .ok (.iload_n 2, 1) := by decide +kernel
theorem dL_acts_104 : decode cL_acts 104 = .ok (.ifCond .ne 18, 3) := by decide +kernel
theorem dL_acts_107 : decode cL_acts 107 = .ok (.iload 6, 2) := by decide +kernel
theorem dL_acts_109 : decode cL_acts 109 = .ok (.bipush (-5), 2) := by decide +kernel
theorem dL_acts_111 : decode cL_acts 111 = .ok (.if_icmp .ne 7, 3) := by decide +kernel
theorem dL_acts_114 : decode cL_acts 114 = .ok (.iconst 1, 1) := by decide +kernel
theorem dL_acts_115 : decode cL_acts 115 = .ok (.goto 95, 3) := by decide +kernel
theorem dL_acts_118 : decode cL_acts 118 = .ok (.iconst 0, 1) := by decide +kernel
theorem dL_acts_119 : decode cL_acts 119 = .ok (.goto 91, 3) := by decide +kernel
theorem dL_acts_122 : decode cL_acts 122 = .ok (.iload 6, 2) := by decide +kernel
theorem dL_acts_124 : decode cL_acts 124 = .ok (.aload_n 0, 1) := by decide +kernel
theorem dL_acts_125 : decode cL_acts 125 = .ok (.iconst 4, 1) := by decide +kernel
theorem dL_acts_126 : decode cL_acts 126 = .ok (.invokevirtual 23, 3) := by decide +kernel
theorem dL_acts_129 : decode cL_acts 129 = .ok (.if_icmp .ne 80, 3) := by decide +kernel
theorem dL_acts_132 : decode cL_acts 132 = .ok (.iload 6, 2) := by decide +kernel
theorem dL_acts_134 : decode cL_acts 134 = .ok (.iload_n 3, 1) := by decide +kernel
theorem dL_acts_135 : decode cL_acts 135 = .ok (.if_icmp .ge 74, 3) := by decide +kernel
theorem dL_acts_138 : decode cL_acts 138 = .ok (.iload 6, 2) := by decide +kernel
theorem dL_acts_140 : decode cL_acts 140 = .ok (.ifCond .ne 7, 3) := by decide +kernel
theorem dL_acts_143 : decode cL_acts 143 = .ok (.iconst 1, 1) := by decide +kernel
theorem dL_acts_144 : decode cL_acts 144 = .ok (.goto 4, 3) := by decide +kernel
theorem dL_acts_147 : decode cL_acts 147 = .ok (.iconst 0, 1) := by decide +kernel
theorem dL_acts_148 : decode cL_acts 148 = .ok (.aload_n 0, 1) := by decide +kernel
theorem dL_acts_149 : decode cL_acts 149 = .ok (.bipush 10, 2) := by decide +kernel
theorem dL_acts_151 : decode cL_acts 151 = .ok (.invokevirtual 23, 3) := by decide +kernel
theorem dL_acts_154 : decode cL_acts 154 = .ok (.iload 5, 2) := by decide +kernel
theorem dL_acts_156 : decode cL_acts 156 = .ok (.isub, 1) := by decide +kernel
theorem dL_acts_157 : decode cL_acts 157 = .ok (.iload 4, 2) := by decide +kernel
theorem dL_acts_159 : decode cL_acts 159 = .ok (.if_icmp .ne 7, 3) := by decide +kernel
theorem dL_acts_162 : decode cL_acts 162 = .ok (.iconst 1, 1) := by decide +kernel
theorem dL_acts_163 : decode cL_acts 163 = .ok (.goto 4, 3) := by decide +kernel
theorem dL_acts_166 : decode cL_acts 166 = .ok (.iconst 0, 1) := by decide +kernel
theorem dL_acts_167 : decode cL_acts 167 = .ok (.if_icmp .ne 42, 3) := by decide +kernel
theorem dL_acts_170 : decode cL_acts 170 = .ok (.aload_n 0, 1) := by decide +kernel
theorem dL_acts_171 : decode cL_acts 171 = .ok (.bipush 10, 2) := by decide +kernel
theorem dL_acts_173 : decode cL_acts 173 = .ok (.invokevirtual 23, 3) := by decide +kernel
theorem dL_acts_176 : decode cL_acts 176 = .ok (.iload 5, 2) := by decide +kernel
theorem dL_acts_178 : decode cL_acts 178 = .ok (.if_icmp .le 31, 3) := by decide +kernel
theorem dL_acts_181 : decode cL_acts 181 = .ok (.iload 6, 2) := by decide +kernel
theorem dL_acts_183 : decode cL_acts 183 = .ok (.ifCond .eq 22, 3) := by decide +kernel
theorem dL_acts_186 : decode cL_acts 186 = .ok (.aload_n 0, 1) := by decide +kernel
theorem dL_acts_187 : decode cL_acts 187 = .ok (.invokevirtual 39, 3) := by decide +kernel
theorem dL_acts_190 : decode cL_acts 190 = .ok (.iload 4, 2) := by decide +kernel
theorem dL_acts_192 : decode cL_acts 192 = .ok (.aload_n 0, 1) := by decide +kernel
theorem dL_acts_193 : decode cL_acts 193 = .ok (.bipush 10, 2) := by decide +kernel
theorem dL_acts_195 : decode cL_acts 195 = .ok (.invokevirtual 23, 3) := by decide +kernel
theorem dL_acts_198 : decode cL_acts 198 = .ok (.iload 5, 2) := by decide +kernel
theorem dL_acts_200 : decode cL_acts 200 = .ok (.isub, 1) := by decide +kernel
theorem dL_acts_201 : decode cL_acts 201 = .ok (.isub, 1) := by decide +kernel
theorem dL_acts_202 : decode cL_acts 202 = .ok (.if_icmp .ne 7, 3) := by decide +kernel
theorem dL_acts_205 : decode cL_acts 205 = .ok (.iconst 1, 1) := by decide +kernel
theorem dL_acts_206 : decode cL_acts 206 = .ok (.goto 4, 3) := by decide +kernel
theorem dL_acts_209 : decode cL_acts 209 = .ok (.iconst 0, 1) := by decide +kernel
theorem dL_acts_210 : decode cL_acts 210 = .ok (.ireturn, 1) := by decide +kernel
theorem dL_acts_211 : decode cL_acts 211 = .ok (.iload_n 1, 1) := by decide +kernel
theorem dL_acts_212 : decode cL_acts 212 = .ok (.iconst 3, 1) := by decide +kernel
theorem dL_acts_213 : decode cL_acts 213 = .ok (.ishr, 1) := by decide +kernel
theorem dL_acts_214 : decode cL_acts 214 = .ok (.iconst 2, 1) := by decide +kernel
theorem dL_acts_215 : decode cL_acts 215 = .ok (.irem, 1) := by decide +kernel
theorem dL_acts_216 : decode cL_acts 216 = .ok (.ifCond .ne 36, 3) := by decide +kernel
theorem dL_acts_219 : decode cL_acts 219 = .ok (.aload_n 0, 1) := by decide +kernel
theorem dL_acts_220 : decode cL_acts 220 = .ok (.invokevirtual 60, 3) := by decide +kernel
theorem dL_acts_223 : decode cL_acts 223 = .ok (.iload_n 2, 1) := by decide +kernel
theorem dL_acts_224 : decode cL_acts 224 = .ok (.ifCond .eq 7, 3) := by decide +kernel
theorem dL_acts_227 : decode cL_acts 227 = .ok (.iload_n 3, 1) := by decide +kernel
theorem dL_acts_228 : decode cL_acts 228 = .ok (.goto 5, 3) := by decide +kernel
theorem dL_acts_231 : decode cL_acts 231 = .ok (.bipush (-5), 2) := by decide +kernel
theorem dL_acts_233 : decode cL_acts 233 = .ok (.if_icmp .ne 15, 3) := by decide +kernel
theorem dL_acts_236 : decode cL_acts 236 = .ok (.aload_n 0, 1) := by decide +kernel
theorem dL_acts_237 : decode cL_acts 237 = .ok (.iconst 4, 1) := by decide +kernel
theorem dL_acts_238 : decode cL_acts 238 = .ok (.invokevirtual 23, 3) := by decide +kernel
theorem dL_acts_241 : decode cL_acts 241 = .ok (.ifCond .ne 7, 3) := by decide +kernel
theorem dL_acts_244 : decode cL_acts 244 = .ok (.iconst 1, 1) := by decide +kernel
theorem dL_acts_245 : decode cL_acts 245 = .ok (.goto 33, 3) := by decide +kernel
theorem dL_acts_248 : decode cL_acts 248 = .ok (.iconst 0, 1) := by decide +kernel
theorem dL_acts_249 : decode cL_acts 249 = .ok (.goto 29, 3) := by decide +kernel
theorem dL_acts_252 : decode cL_acts 252 = .ok (.aload_n 0, 1) := by decide +kernel
theorem dL_acts_253 : decode cL_acts 253 = .ok (.invokevirtual 63, 3) := by decide +kernel
theorem dL_acts_256 : decode cL_acts 256 = .ok (.bipush (-5), 2) := by decide +kernel
theorem dL_acts_258 : decode cL_acts 258 = .ok (.if_icmp .lt 19, 3) := by decide +kernel
theorem dL_acts_261 : decode cL_acts 261 = .ok (.iload_n 2, 1) := by decide +kernel
theorem dL_acts_262 : decode cL_acts 262 = .ok (.ifCond .ne 11, 3) := by decide +kernel
theorem dL_acts_265 : decode cL_acts 265 = .ok (.aload_n 0, 1) := by decide +kernel
theorem dL_acts_266 : decode cL_acts 266 = .ok (.iconst 1, 1) := by decide +kernel
theorem dL_acts_267 : decode cL_acts 267 = .ok (.invokevirtual 23, 3) := by decide +kernel
theorem dL_acts_270 : decode cL_acts 270 = .ok (.ifCond .ne 7, 3) := by decide +kernel
theorem dL_acts_273 : decode cL_acts 273 = .ok (.iconst 1, 1) := by decide +kernel
theorem dL_acts_274 : decode cL_acts 274 = .ok (.goto 4, 3) := by decide +kernel
theorem dL_acts_277 : decode cL_acts 277 = .ok (.iconst 0, 1) := by decide +kernel
theorem dL_acts_278 : decode cL_acts 278 = .ok (.ireturn, 1) := by decide +kernel
theorem dL_acts_279 : decode cL_acts 279 = .ok (.iload_n 1, 1) := by decide +kernel
theorem dL_acts_280 : decode cL_acts 280 = .ok (.iconst 3, 1) := by decide +kernel
theorem dL_acts_281 : decode cL_acts 281 = .ok (.ishr, 1) := by decide +kernel
theorem dL_acts_282 : decode cL_acts 282 = .ok (.iconst 4, 1) := by decide +kernel
theorem dL_acts_283 : decode cL_acts 283 = .ok (.irem, 1) := by decide +kernel
theorem dL_acts_284 : decode cL_acts 284 = .ok (.istore 7, 2) := by decide +kernel
theorem dL_acts_286 : decode cL_acts 286 = .ok (.sipush 1995, 3) := by decide +kernel
theorem dL_acts_289 : decode cL_acts 289 = .ok (.iload_n 1, 1) := by decide +kernel
theorem dL_acts_290 : decode cL_acts 290 = .ok (.iconst 5, 1) := by decide +kernel
theorem dL_acts_291 : decode cL_acts 291 = .ok (.ishr, 1) := by decide +kernel
theorem dL_acts_292 : decode cL_acts 292 = .ok (.bipush 8, 2) := by decide +kernel
theorem dL_acts_294 : decode cL_acts 294 = .ok (.irem, 1) := by decide +kernel
theorem dL_acts_295 : decode cL_acts 295 = .ok (.iadd, 1) := by decide +kernel
theorem dL_acts_296 : decode cL_acts 296 = .ok (.istore 8, 2) := by decide +kernel
theorem dL_acts_298 : decode cL_acts 298 = .ok (.aload_n 0, 1) := by decide +kernel
theorem dL_acts_299 : decode cL_acts 299 = .ok (.iload 7, 2) := by decide +kernel
theorem dL_acts_301 : decode cL_acts 301 = .ok (.invokevirtual 66, 3) := by decide +kernel
theorem dL_acts_304 : decode cL_acts 304 = .ok (.istore 9, 2) := by decide +kernel
theorem dL_acts_306 : decode cL_acts 306 = .ok (.aload_n 0, 1) := by decide +kernel
theorem dL_acts_307 : decode cL_acts 307 = .ok (.iload 7, 2) := by decide +kernel
theorem dL_acts_309 : decode cL_acts 309 = .ok (.iload 8, 2) := by decide +kernel
theorem dL_acts_311 : decode cL_acts 311 = .ok (.invokevirtual 69, 3) := by decide +kernel
theorem dL_acts_314 : decode cL_acts 314 = .ok (.istore 10, 2) := by decide +kernel
theorem dL_acts_316 : decode cL_acts 316 = .ok (.iload_n 2, 1) := by decide +kernel
theorem dL_acts_317 : decode cL_acts 317 = .ok (.ifCond .eq 29, 3) := by decide +kernel
theorem dL_acts_320 : decode cL_acts 320 = .ok (.iload 10, 2) := by decide +kernel
theorem dL_acts_322 : decode cL_acts 322 = .ok (.bipush (-4), 2) := by decide +kernel
theorem dL_acts_324 : decode cL_acts 324 = .ok (.if_icmp .ne 18, 3) := by decide +kernel
theorem dL_acts_327 : decode cL_acts 327 = .ok (.aload_n 0, 1) := by decide +kernel
theorem dL_acts_328 : decode cL_acts 328 = .ok (.iload 7, 2) := by decide +kernel
theorem dL_acts_330 : decode cL_acts 330 = .ok (.invokevirtual 66, 3) := by decide +kernel
theorem dL_acts_333 : decode cL_acts 333 = .ok (.iload 9, 2) := by decide +kernel
theorem dL_acts_335 : decode cL_acts 335 = .ok (.if_icmp .ne 7, 3) := by decide +kernel
theorem dL_acts_338 : decode cL_acts 338 = .ok (.iconst 1, 1) := by decide +kernel
theorem dL_acts_339 : decode cL_acts 339 = .ok (.goto 45, 3) := by decide +kernel
theorem dL_acts_342 : decode cL_acts 342 = .ok (.iconst 0, 1) := by decide +kernel
theorem dL_acts_343 : decode cL_acts 343 = .ok (.goto 41, 3) := by decide +kernel
theorem dL_acts_346 : decode cL_acts 346 = .ok (.iload 10, 2) := by decide +kernel
theorem dL_acts_348 : decode cL_acts 348 = .ok (.iload 9, 2) := by decide +kernel
theorem dL_acts_350 : decode cL_acts 350 = .ok (.iload 8, 2) := by decide +kernel
theorem dL_acts_352 : decode cL_acts 352 = .ok (.if_icmp .ne 8, 3) := by decide +kernel
theorem dL_acts_355 : decode cL_acts 355 = .ok (.bipush (-5), 2) := by decide +kernel
theorem dL_acts_357 : decode cL_acts 357 = .ok (.goto 8, 3) := by decide +kernel
theorem dL_acts_360 : decode cL_acts 360 = .ok (.aload_n 0, 1) := by decide +kernel
theorem dL_acts_361 : decode cL_acts 361 = .ok (.iconst 5, 1) := by decide +kernel
theorem dL_acts_362 : decode cL_acts 362 = .ok (.invokevirtual 23, 3) := by decide +kernel
theorem dL_acts_365 : decode cL_acts 365 = .ok (.if_icmp .ne 18, 3) := by decide +kernel
theorem dL_acts_368 : decode cL_acts 368 = .ok (.aload_n 0, 1) := by decide +kernel
theorem dL_acts_369 : decode cL_acts 369 = .ok (.iload 7, 2) := by decide +kernel
theorem dL_acts_371 : decode cL_acts 371 = .ok (.invokevirtual 66, 3) := by decide +kernel
theorem dL_acts_374 : decode cL_acts 374 = .ok (.iload 8, 2) := by decide +kernel
theorem dL_acts_376 : decode cL_acts 376 = .ok (.if_icmp .ne 7, 3) := by decide +kernel
theorem dL_acts_379 : decode cL_acts 379 = .ok (.iconst 1, 1) := by decide +kernel
theorem dL_acts_380 : decode cL_acts 380 = .ok (.goto 4, 3) := by decide +kernel
theorem dL_acts_383 : decode cL_acts 383 = .ok (.iconst 0, 1) := by decide +kernel
theorem dL_acts_384 : decode cL_acts 384 = .ok (.ireturn, 1) := by decide +kernel
theorem dL_acts_385 : decode cL_acts 385 = .ok (.aload_n 0, 1) := by decide +kernel
theorem dL_acts_386 : decode cL_acts 386 = .ok (.bipush 7, 2) := by decide +kernel
theorem dL_acts_388 : decode cL_acts 388 = .ok (.invokevirtual 23, 3) := by decide +kernel
theorem dL_acts_391 : decode cL_acts 391 = .ok (.istore 11, 2) := by decide +kernel
theorem dL_acts_393 : decode cL_acts 393 = .ok (.iload 11, 2) := by decide +kernel
theorem dL_acts_395 : decode cL_acts 395 = .ok (.ifCond .ne 7, 3) := by decide +kernel
theorem dL_acts_398 : decode cL_acts 398 = .ok (.iconst 0, 1) := by decide +kernel
theorem dL_acts_399 : decode cL_acts 399 = .ok (.goto 9, 3) := by decide +kernel
theorem dL_acts_402 : decode cL_acts 402 = .ok (.iload_n 1, 1) := by decide +kernel
theorem dL_acts_403 : decode cL_acts 403 = .ok (.iconst 3, 1) := by decide +kernel
theorem dL_acts_404 : decode cL_acts 404 = .ok (.ishr, 1) := by decide +kernel
theorem dL_acts_405 : decode cL_acts 405 = .ok (.iload 11, 2) := by decide +kernel
theorem dL_acts_407 : decode cL_acts 407 = .ok (.irem, 1) := by decide +kernel
theorem dL_acts_408 : decode cL_acts 408 = .ok (.istore 12, 2) := by decide +kernel
theorem dL_acts_410 : decode cL_acts 410 = .ok (.iload_n 1, 1) := by decide +kernel
theorem dL_acts_411 : decode cL_acts 411 = .ok (.bipush 12, 2) := by decide +kernel
theorem dL_acts_413 : decode cL_acts 413 = .ok (.ishr, 1) := by decide +kernel
theorem dL_acts_414 : decode cL_acts 414 = .ok (.iconst 2, 1) := by decide +kernel
theorem dL_acts_415 : decode cL_acts 415 = .ok (.irem, 1) := by decide +kernel
theorem dL_acts_416 : decode cL_acts 416 = .ok (.ifCond .ne 7, 3) := by decide +kernel
theorem dL_acts_419 : decode cL_acts 419 = .ok (.iconst 1, 1) := by decide +kernel
theorem dL_acts_420 : decode cL_acts 420 = .ok (.goto 4, 3) := by decide +kernel
theorem dL_acts_423 : decode cL_acts 423 = .ok (.iconst 0, 1) := by decide +kernel
theorem dL_acts_424 : decode cL_acts 424 = .ok (.istore 13, 2) := by decide +kernel
theorem dL_acts_426 : decode cL_acts 426 = .ok (.aload_n 0, 1) := by decide +kernel
theorem dL_acts_427 : decode cL_acts 427 = .ok (.iconst 0, 1) := by decide +kernel
theorem dL_acts_428 : decode cL_acts 428 = .ok (.invokevirtual 33, 3) := by decide +kernel
theorem dL_acts_431 : decode cL_acts 431 = .ok (.istore 14, 2) := by decide +kernel
theorem dL_acts_433 : decode cL_acts 433 = .ok (.aload_n 0, 1) := by decide +kernel
theorem dL_acts_434 : decode cL_acts 434 = .ok (.iload 12, 2) := by decide +kernel
theorem dL_acts_436 : decode cL_acts 436 = .ok (.iload 13, 2) := by decide +kernel
theorem dL_acts_438 : decode cL_acts 438 = .ok (.invokevirtual 72, 3) := by decide +kernel
theorem dL_acts_441 : decode cL_acts 441 = .ok (.istore 15, 2) := by decide +kernel
theorem dL_acts_443 : decode cL_acts 443 = .ok (.iload 11, 2) := by decide +kernel
theorem dL_acts_445 : decode cL_acts 445 = .ok (.ifCond .ne 17, 3) := by decide +kernel
theorem dL_acts_448 : decode cL_acts 448 = .ok (.iload 15, 2) := by decide +kernel
theorem dL_acts_450 : decode cL_acts 450 = .ok (.iconst (-1), 1) := by decide +kernel
theorem dL_acts_451 : decode cL_acts 451 = .ok (.if_icmp .ne 7, 3) := by decide +kernel
theorem dL_acts_454 : decode cL_acts 454 = .ok (.iconst 1, 1) := by decide +kernel
theorem dL_acts_455 : decode cL_acts 455 = .ok (.goto 90, 3) := by decide +kernel
theorem dL_acts_458 : decode cL_acts 458 = .ok (.iconst 0, 1) := by decide +kernel
theorem dL_acts_459 : decode cL_acts 459 = .ok (.goto 86, 3) := by decide +kernel
theorem dL_acts_462 : decode cL_acts 462 = .ok (.aload_n 0, 1) := by decide +kernel
theorem dL_acts_463 : decode cL_acts 463 = .ok (.iload 12, 2) := by decide +kernel
theorem dL_acts_465 : decode cL_acts 465 = .ok (.iconst 2, 1) := by decide +kernel
theorem dL_acts_466 : decode cL_acts 466 = .ok (.invokevirtual 9, 3) := by decide +kernel
theorem dL_acts_469 : decode cL_acts 469 = .ok (.ifCond .le 18, 3) := by decide +kernel
theorem dL_acts_472 : decode cL_acts 472 = .ok (.iload 15, 2) := by decide +kernel
theorem dL_acts_474 : decode cL_acts 474 = .ok (.bipush (-4), 2) := by decide +kernel
theorem dL_acts_476 : decode cL_acts 476 = .ok (.if_icmp .ne 7, 3) := by decide +kernel
theorem dL_acts_479 : decode cL_acts 479 = .ok (.iconst 1, 1) := by decide +kernel
theorem dL_acts_480 : decode cL_acts 480 = .ok (.goto 65, 3) := by decide +kernel
theorem dL_acts_483 : decode cL_acts 483 = .ok (.iconst 0, 1) := by decide +kernel
theorem dL_acts_484 : decode cL_acts 484 = .ok (.goto 61, 3) := by decide +kernel
theorem dL_acts_487 : decode cL_acts 487 = .ok (.iload 15, 2) := by decide +kernel
theorem dL_acts_489 : decode cL_acts 489 = .ok (.bipush (-5), 2) := by decide +kernel
theorem dL_acts_491 : decode cL_acts 491 = .ok (.if_icmp .ne 31, 3) := by decide +kernel
theorem dL_acts_494 : decode cL_acts 494 = .ok (.aload_n 0, 1) := by decide +kernel
theorem dL_acts_495 : decode cL_acts 495 = .ok (.iload 12, 2) := by decide +kernel
theorem dL_acts_497 : decode cL_acts 497 = .ok (.iconst 5, 1) := by decide +kernel
theorem dL_acts_498 : decode cL_acts 498 = .ok (.invokevirtual 9, 3) := by decide +kernel
theorem dL_acts_501 : decode cL_acts 501 = .ok (.iload 13, 2) := by decide +kernel
theorem dL_acts_503 : decode cL_acts 503 = .ok (.ifCond .eq 7, 3) := by decide +kernel
theorem dL_acts_506 : decode cL_acts 506 = .ok (.iconst 1, 1) := by decide +kernel
theorem dL_acts_507 : decode cL_acts 507 = .ok (.goto 4, 3) := by decide +kernel
theorem dL_acts_510 : decode cL_acts 510 = .ok (.iconst 0, 1) := by decide +kernel
theorem dL_acts_511 : decode cL_acts 511 = .ok (.if_icmp .ne 7, 3) := by decide +kernel
theorem dL_acts_514 : decode cL_acts 514 = .ok (.iconst 1, 1) := by decide +kernel
theorem dL_acts_515 : decode cL_acts 515 = .ok (.goto 30, 3) := by decide +kernel
theorem dL_acts_518 : decode cL_acts 518 = .ok (.iconst 0, 1) := by decide +kernel
theorem dL_acts_519 : decode cL_acts 519 = .ok (.goto 26, 3) := by decide +kernel
theorem dL_acts_522 : decode cL_acts 522 = .ok (.iload 15, 2) := by decide +kernel
theorem dL_acts_524 : decode cL_acts 524 = .ok (.iload 14, 2) := by decide +kernel
theorem dL_acts_526 : decode cL_acts 526 = .ok (.iload 13, 2) := by decide +kernel
theorem dL_acts_528 : decode cL_acts 528 = .ok (.ifCond .eq 7, 3) := by decide +kernel
theorem dL_acts_531 : decode cL_acts 531 = .ok (.iconst (-1), 1) := by decide +kernel
theorem dL_acts_532 : decode cL_acts 532 = .ok (.goto 4, 3) := by decide +kernel
theorem dL_acts_535 : decode cL_acts 535 = .ok (.iconst 1, 1) := by decide +kernel
theorem dL_acts_536 : decode cL_acts 536 = .ok (.iadd, 1) := by decide +kernel
theorem dL_acts_537 : decode cL_acts 537 = .ok (.if_icmp .ne 7, 3) := by decide +kernel
theorem dL_acts_540 : decode cL_acts 540 = .ok (.iconst 1, 1) := by decide +kernel
theorem dL_acts_541 : decode cL_acts 541 = .ok (.goto 4, 3) := by decide +kernel
theorem dL_acts_544 : decode cL_acts 544 = .ok (.iconst 0, 1) := by decide +kernel
theorem dL_acts_545 : decode cL_acts 545 = .ok (.ireturn, 1) := by decide +kernel
theorem dL_acts_546 : decode cL_acts 546 = .ok (.aload_n 0, 1) := by decide +kernel
theorem dL_acts_547 : decode cL_acts 547 = .ok (.iconst 3, 1) := by decide +kernel
theorem dL_acts_548 : decode cL_acts 548 = .ok (.invokevirtual 33, 3) := by decide +kernel
theorem dL_acts_551 : decode cL_acts 551 = .ok (.istore 16, 2) := by decide +kernel
theorem dL_acts_553 : decode cL_acts 553 = .ok (.aload_n 0, 1) := by decide +kernel
theorem dL_acts_554 : decode cL_acts 554 = .ok (.iconst 0, 1) := by decide +kernel
theorem dL_acts_555 : decode cL_acts 555 = .ok (.invokevirtual 33, 3) := by decide +kernel
theorem dL_acts_558 : decode cL_acts 558 = .ok (.istore 17, 2) := by decide +kernel
theorem dL_acts_560 : decode cL_acts 560 = .ok (.iconst 1, 1) := by decide +kernel
theorem dL_acts_561 : decode cL_acts 561 = .ok (.iload_n 1, 1) := by decide +kernel
theorem dL_acts_562 : decode cL_acts 562 = .ok (.iconst 3, 1) := by decide +kernel
theorem dL_acts_563 : decode cL_acts 563 = .ok (.ishr, 1) := by decide +kernel
theorem dL_acts_564 : decode cL_acts 564 = .ok (.sipush 200, 3) := by decide +kernel
theorem dL_acts_567 : decode cL_acts 567 = .ok (.irem, 1) := by decide +kernel
theorem dL_acts_568 : decode cL_acts 568 = .ok (.iadd, 1) := by decide +kernel
theorem dL_acts_569 : decode cL_acts 569 = .ok (.istore 18, 2) := by decide +kernel
theorem dL_acts_571 : decode cL_acts 571 = .ok (.aload_n 0, 1) := by decide +kernel
theorem dL_acts_572 : decode cL_acts 572 = .ok (.invokevirtual 76, 3) := by decide +kernel
theorem dL_acts_575 : decode cL_acts 575 = .ok (.istore 19, 2) := by decide +kernel
theorem dL_acts_577 : decode cL_acts 577 = .ok (.iload 16, 2) := by decide +kernel
theorem dL_acts_579 : decode cL_acts 579 = .ok (.ifCond .ne 13, 3) := by decide +kernel
theorem dL_acts_582 : decode cL_acts 582 = .ok (.iload 19, 2) := by decide +kernel
theorem dL_acts_584 : decode cL_acts 584 = .ok (.bipush (-5), 2) := by decide +kernel
theorem dL_acts_586 : decode cL_acts 586 = .ok (.if_icmp .ne 58, 3) := by decide +kernel
theorem dL_acts_589 : decode cL_acts 589 = .ok (.goto 29, 3) := by decide +kernel
theorem dL_acts_592 : decode cL_acts 592 = .ok (.iload 19, 2) := by decide +kernel
theorem dL_acts_594 : decode cL_acts 594 = .ok (.ifCond .le 50, 3) := by decide +kernel
theorem dL_acts_597 : decode cL_acts 597 = .ok (.aload_n 0, 1) := by decide +kernel
theorem dL_acts_598 : decode cL_acts 598 = .ok (.iconst 3, 1) := by decide +kernel
theorem dL_acts_599 : decode cL_acts 599 = .ok (.invokevirtual 33, 3) := by decide +kernel
theorem dL_acts_602 : decode cL_acts 602 = .ok (.ifCond .ne 42, 3) := by decide +kernel
theorem dL_acts_605 : decode cL_acts 605 = .ok (.aload_n 0, 1) := by decide +kernel
theorem dL_acts_606 : decode cL_acts 606 = .ok (.iconst 0, 1) := by decide +kernel
theorem dL_acts_607 : decode cL_acts 607 = .ok (.invokevirtual 33, 3) := by decide +kernel
theorem dL_acts_610 : decode cL_acts 610 = .ok (.iload 17, 2) := by decide +kernel
theorem dL_acts_612 : decode cL_acts 612 = .ok (.iload 19, 2) := by decide +kernel
theorem dL_acts_614 : decode cL_acts 614 = .ok (.isub, 1) := by decide +kernel
theorem dL_acts_615 : decode cL_acts 615 = .ok (.if_icmp .ne 29, 3) := by decide +kernel
theorem dL_acts_618 : decode cL_acts 618 = .ok (.aload_n 0, 1) := by decide +kernel
theorem dL_acts_619 : decode cL_acts 619 = .ok (.iload 18, 2) := by decide +kernel
theorem dL_acts_621 : decode cL_acts 621 = .ok (.invokevirtual 79, 3) := by decide +kernel
theorem dL_acts_624 : decode cL_acts 624 = .ok (.bipush (-5), 2) := by decide +kernel
theorem dL_acts_626 : decode cL_acts 626 = .ok (.if_icmp .lt 18, 3) := by decide +kernel
theorem dL_acts_629 : decode cL_acts 629 = .ok (.aload_n 0, 1) := by decide +kernel
theorem dL_acts_630 : decode cL_acts 630 = .ok (.bipush 14, 2) := by decide +kernel
theorem dL_acts_632 : decode cL_acts 632 = .ok (.invokevirtual 23, 3) := by decide +kernel
theorem dL_acts_635 : decode cL_acts 635 = .ok (.iload 18, 2) := by decide +kernel
theorem dL_acts_637 : decode cL_acts 637 = .ok (.if_icmp .ne 7, 3) := by decide +kernel
theorem dL_acts_640 : decode cL_acts 640 = .ok (.iconst 1, 1) := by decide +kernel
theorem dL_acts_641 : decode cL_acts 641 = .ok (.goto 4, 3) := by decide +kernel
theorem dL_acts_644 : decode cL_acts 644 = .ok (.iconst 0, 1) := by decide +kernel
theorem dL_acts_645 : decode cL_acts 645 = .ok (.ireturn, 1) := by decide +kernel
