set_option maxRecDepth 20000 in
theorem ggL_law_X8_init : GoodIn wsL_law wsX8_init := goodIn_r _ [5, 6, 7, 8, 9, 10, 11, 12, 13, 14, 15, 16, 17, 18, 19, 20, 21, 22, 23, 24, 25, 26, 27, 28, 29, 30, 31, 32, 33, 34, 35, 36, 37, 38, 39, 40, 41, 42, 43, 44, 45, 46, 47, 48, 49, 50, 51, 52, 53, 54, 2, 55, 56, 57, 58, 59, 60, 61, 62, 63, 64, 65, 66, 67, 68, 69, 70, 71, 72, 73, 74, 75, 76, 77, 78, 79, 80, 81, 82, 83, 84, 85, 86, 87, 88, 89, 90, 91, 92, 93, 94, 95, 96, 97, 98, 99, 100, 497, 498, 499, 500, 501, 491, 492, 493, 494, 495, 496, 502, 503, 504, 505, 506, 507, 508, 509, 510, 511, 512, 513, 514, 515, 516, 517, 518, 519, 520, 521, 522, 523, 524, 525, 526, 527, 528, 529, 530, 531, 532, 533, 534] (by decide +kernel) (by decide +kernel)
set_option maxRecDepth 20000 in
theorem gL_law_X8_init : GoodIn wsL_law (wsX8_init) := ggL_law_X8_init
set_option maxRecDepth 20000 in
theorem ggL_law_X8_undo : GoodIn wsL_law wsX8_undo := goodIn_r _ [104, 17, 105, 12, 106, 107, 108, 16, 109, 110, 90, 111, 112, 113, 11, 114, 32, 36, 40, 44, 45, 115, 116, 117, 31, 118, 50, 119, 120, 121, 122, 123, 124, 52, 53, 54, 2, 55, 56, 57, 58, 59, 60, 61, 62, 63, 125, 126, 127, 35, 128, 67, 68, 129, 130, 131, 132, 39, 133, 72, 73, 74, 75, 76, 77, 79, 134, 135, 136, 137, 43, 138, 83, 84, 139, 491, 492, 493, 494, 495, 496, 502, 503, 497, 498, 499, 500, 501, 512, 513, 514, 515, 516, 517, 518, 519, 520, 521, 522, 523, 524, 525, 526, 527, 528, 529, 530, 531, 532, 533, 534] (by decide +kernel) (by decide +kernel)
set_option maxRecDepth 20000 in
theorem gL_law_X8_undo : GoodIn wsL_law (wsV RL 83 RX8 yX8_undo wsX8_undo) := goodIn_app (goodIn_of _ (by decide +kernel)) ggL_law_X8_undo
set_option maxRecDepth 20000 in
theorem ggL_law_X8_restore : GoodIn wsL_law wsX8_restore := goodIn_r _ [143, 144, 17, 12, 13, 145, 146, 147, 148, 149, 16, 150, 110, 90, 151, 152, 153, 154, 111, 112, 113, 11, 114, 32, 36, 40, 44, 45, 115, 116, 117, 31, 118, 50, 119, 120, 121, 122, 123, 124, 52, 53, 54, 2, 55, 56, 57, 58, 59, 60, 61, 62, 63, 125, 126, 127, 35, 128, 67, 68, 129, 130, 131, 132, 39, 133, 72, 73, 74, 75, 76, 77, 79, 134, 135, 136, 137, 43, 138, 83, 84, 139, 155, 491, 492, 493, 494, 495, 496, 497, 498, 499, 500, 501, 524, 525, 526, 527, 528, 529, 530, 531, 502, 503, 512, 513, 514, 515, 516, 517, 518, 519, 520, 521, 522, 523, 532, 533, 534] (by decide +kernel) (by decide +kernel)
set_option maxRecDepth 20000 in
theorem gL_law_X8_restore : GoodIn wsL_law (wsV RL 86 RX8 yX8_restore wsX8_restore) := goodIn_app (goodIn_of _ (by decide +kernel)) ggL_law_X8_restore
set_option maxRecDepth 20000 in
theorem ggL_law_X8_fire : GoodIn wsL_law wsX8_fire := goodIn_r _ [159, 12, 160, 161, 56, 57, 58, 59, 145, 146, 17, 162, 163, 2, 164, 147, 148, 149, 16, 150, 110, 90, 151, 152, 153, 154, 111, 112, 113, 11, 114, 32, 36, 40, 44, 45, 115, 116, 117, 31, 118, 50, 119, 120, 121, 122, 123, 124, 52, 53, 54, 55, 60, 61, 62, 63, 125, 126, 127, 35, 128, 67, 68, 129, 130, 131, 132, 39, 133, 72, 73, 74, 75, 76, 77, 79, 134, 135, 136, 137, 43, 138, 83, 84, 139, 165, 166, 167, 168, 169, 170, 171, 172, 173, 174, 175, 176, 177, 178, 179, 180, 181, 182, 183, 184, 185, 186, 187, 188, 189, 190, 191, 192, 193, 194, 195, 196, 197, 198, 199, 200, 201, 202, 203, 204, 205, 206, 207, 208, 209, 210, 211, 212, 213, 214, 215, 216, 217, 218, 219, 220, 221, 222, 223, 224, 225, 226, 227, 228, 229, 230, 231, 232, 233, 234, 235, 236, 237, 238, 239, 240, 241, 242, 243, 244, 245, 491, 492, 493, 494, 495, 496, 497, 498, 499, 500, 501, 521, 522, 523, 524, 525, 526, 527, 528, 529, 530, 531, 502, 503, 512, 513, 514, 515, 516, 517, 518, 519, 520, 532, 533, 534] (by decide +kernel) (by decide +kernel)
set_option maxRecDepth 20000 in
theorem gL_law_X8_fire : GoodIn wsL_law (wsV RL 51 RX8 yX8_fire wsX8_fire) := goodIn_app (goodIn_of _ (by decide +kernel)) ggL_law_X8_fire
set_option maxRecDepth 20000 in
theorem ggL_law_X8_clean : GoodIn wsL_law wsX8_clean := goodIn_r _ [249, 12, 145, 250, 17, 251, 252, 253, 39, 254, 134, 76, 255, 256, 257, 258, 259, 260, 261, 262, 74, 79, 263, 264, 265, 266, 207, 2, 208, 267, 268, 269, 270, 271, 272, 273, 274, 58, 275, 147, 148, 149, 16, 150, 110, 90, 151, 152, 153, 154, 111, 112, 113, 11, 114, 32, 36, 40, 44, 45, 115, 116, 117, 31, 118, 50, 119, 120, 121, 122, 123, 124, 52, 53, 54, 55, 56, 57, 59, 60, 61, 62, 63, 125, 126, 127, 35, 128, 67, 68, 129, 130, 131, 132, 133, 72, 73, 75, 77, 135, 136, 137, 43, 138, 83, 84, 139, 276, 277, 278, 279, 280, 491, 492, 493, 494, 495, 496, 497, 498, 499, 500, 501, 524, 525, 526, 527, 528, 529, 530, 531, 502, 503, 512, 513, 514, 515, 516, 517, 518, 519, 520, 521, 522, 523, 532, 533, 534] (by decide +kernel) (by decide +kernel)
set_option maxRecDepth 20000 in
theorem gL_law_X8_clean : GoodIn wsL_law (wsV RL 76 RX8 yX8_clean wsX8_clean) := goodIn_app (goodIn_of _ (by decide +kernel)) ggL_law_X8_clean
set_option maxRecDepth 20000 in
theorem ggL_law_L_cell : GoodIn wsL_law wsL_cell := goodIn_r _ [284, 285, 286] (by decide +kernel) (by decide +kernel)
set_option maxRecDepth 20000 in
theorem gL_law_L_cell : GoodIn wsL_law (va_wsS RL 89 yL_cell wsL_cell) := goodIn_app (goodIn_of _ (by decide +kernel)) ggL_law_L_cell
set_option maxRecDepth 20000 in
theorem ggL_law_X8_keepStandard : GoodIn wsL_law wsX8_keepStandard := goodIn_r _ [290, 12, 291, 292, 17, 162, 163, 2, 164, 147, 148, 149, 16, 150, 110, 90, 151, 152, 153, 154, 111, 112, 113, 11, 114, 32, 36, 40, 44, 45, 115, 116, 117, 31, 118, 50, 119, 120, 121, 122, 123, 124, 52, 53, 54, 55, 56, 57, 58, 59, 60, 61, 62, 63, 125, 126, 127, 35, 128, 67, 68, 129, 130, 131, 132, 39, 133, 72, 73, 74, 75, 76, 77, 79, 134, 135, 136, 137, 43, 138, 83, 84, 139, 293, 294, 295, 296, 491, 492, 493, 494, 495, 496, 497, 498, 499, 500, 501, 532, 533, 534, 502, 503, 512, 513, 514, 515, 516, 517, 518, 519, 520, 521, 522, 523, 524, 525, 526, 527, 528, 529, 530, 531] (by decide +kernel) (by decide +kernel)
set_option maxRecDepth 20000 in
theorem gL_law_X8_keepStandard : GoodIn wsL_law (wsV RL 93 RX8 yX8_keepStandard wsX8_keepStandard) := goodIn_app (goodIn_of _ (by decide +kernel)) ggL_law_X8_keepStandard
set_option maxRecDepth 20000 in
theorem ga_acts_1 : GoodIn wsL_law wsL_acts_r1 := goodIn_r _ [300, 301, 302, 2, 303, 12, 304, 305, 145, 146, 160, 161, 306, 307, 308, 291, 292, 250, 17, 105, 21, 309, 162, 163] (by decide +kernel) (by decide +kernel)
set_option maxRecDepth 20000 in
theorem ga_acts_2 : GoodIn wsL_law wsL_acts_r2 := goodIn_r _ [164, 310, 311, 312, 313, 314, 315, 316, 317, 318, 204, 205, 31, 206, 50, 119, 319, 210, 211, 212, 52, 320, 186, 187] (by decide +kernel) (by decide +kernel)
set_option maxRecDepth 20000 in
theorem ga_acts_3 : GoodIn wsL_law wsL_acts_r3 := goodIn_r _ [188, 189, 57, 58, 59, 190, 191, 192, 53, 321, 322, 323, 324, 325, 326, 39, 327, 134, 74, 328, 329, 283, 330, 331] (by decide +kernel) (by decide +kernel)
set_option maxRecDepth 20000 in
theorem ga_acts_4 : GoodIn wsL_law wsL_acts_r4 := goodIn_r _ [332, 333, 334, 335, 336, 337, 338, 178, 179, 180, 120, 181, 182, 183, 184, 121, 185, 339, 194, 195, 196, 197, 198, 199] (by decide +kernel) (by decide +kernel)
set_option maxRecDepth 20000 in
theorem ga_acts_5 : GoodIn wsL_law wsL_acts_r5 := goodIn_r _ [200, 201, 202, 203, 207, 208, 209, 340, 214, 215, 216, 217, 218, 219, 341, 342, 343, 344, 147, 148, 149, 16, 150, 110] (by decide +kernel) (by decide +kernel)
set_option maxRecDepth 20000 in
theorem ga_acts_6 : GoodIn wsL_law wsL_acts_r6 := goodIn_r _ [90, 151, 152, 153, 154, 111, 112, 113, 11, 114, 32, 36, 40, 44, 45, 115, 116, 117, 118, 122, 123, 124, 54, 55] (by decide +kernel) (by decide +kernel)
set_option maxRecDepth 20000 in
theorem ga_acts_7 : GoodIn wsL_law wsL_acts_r7 := goodIn_r _ [56, 60, 61, 62, 63, 125, 126, 127, 35, 128, 67, 68, 129, 130, 131, 132, 133, 72, 73, 75, 76, 77, 79, 135] (by decide +kernel) (by decide +kernel)
set_option maxRecDepth 20000 in
theorem ga_acts_8 : GoodIn wsL_law wsL_acts_r8 := goodIn_r _ [136, 137, 43, 138, 83, 84, 139, 345, 243, 244, 245, 156, 157, 158, 159, 165, 166, 167, 168, 169, 170, 171, 172, 173] (by decide +kernel) (by decide +kernel)
set_option maxRecDepth 20000 in
theorem ga_acts_9 : GoodIn wsL_law wsL_acts_r9 := goodIn_r _ [174, 175, 176, 177, 193, 213, 220, 221, 222, 223, 224, 225, 226, 227, 228, 229, 230, 231, 232, 233, 234, 235, 236, 237] (by decide +kernel) (by decide +kernel)
set_option maxRecDepth 20000 in
theorem ga_acts_10 : GoodIn wsL_law wsL_acts_r10 := goodIn_r _ [238, 239, 240, 241, 242, 346, 347, 348, 349, 350, 351, 352, 353, 354, 355, 356, 357, 264, 265, 266, 358, 256, 257, 258] (by decide +kernel) (by decide +kernel)
set_option maxRecDepth 20000 in
theorem ga_acts_11 : GoodIn wsL_law wsL_acts_r11 := goodIn_r _ [259, 260, 261, 262, 263, 359, 268, 269, 270, 271, 272, 273, 274, 275, 360, 361, 362, 363, 364, 365, 366, 367, 368, 369] (by decide +kernel) (by decide +kernel)
set_option maxRecDepth 20000 in
theorem ga_acts_12 : GoodIn wsL_law wsL_acts_r12 := goodIn_r _ [370, 371, 372, 373, 374, 375, 376, 377, 378, 379, 380, 381, 382, 383, 384, 385, 386, 387, 388, 389, 390, 391, 392, 393] (by decide +kernel) (by decide +kernel)
set_option maxRecDepth 20000 in
theorem ga_acts_13 : GoodIn wsL_law wsL_acts_r13 := goodIn_r _ [394, 395, 396, 397, 398, 399, 400, 401, 402, 403, 404, 405, 406, 407, 408, 409, 410, 411, 412, 413, 414, 415, 416, 417] (by decide +kernel) (by decide +kernel)
set_option maxRecDepth 20000 in
theorem ga_acts_14 : GoodIn wsL_law wsL_acts_r14 := goodIn_r _ [255, 267, 418, 419, 420, 421, 422, 423, 424, 425, 426, 427, 428, 429, 430, 431, 432, 433, 434, 435, 436, 437, 438, 439] (by decide +kernel) (by decide +kernel)
set_option maxRecDepth 20000 in
theorem ga_acts_15 : GoodIn wsL_law wsL_acts_r15 := goodIn_r _ [440, 441, 442, 443, 444, 246, 247, 248, 249, 251, 252, 253, 254, 276, 277, 278, 279, 280, 445, 446, 447, 448] (by decide +kernel) (by decide +kernel)
set_option maxRecDepth 20000 in
theorem gc_acts_wsX80 : GoodIn wsL_law wsX80 := goodIn_r _ [491, 492, 493, 494, 495, 496] (by decide +kernel) (by decide +kernel)
set_option maxRecDepth 20000 in
theorem gc_acts_wsX60 : GoodIn wsL_law wsX60 := goodIn_r _ [497, 498, 499, 500, 501] (by decide +kernel) (by decide +kernel)
set_option maxRecDepth 20000 in
theorem gc_acts_wsX00 : GoodIn wsL_law wsX00 := goodIn_r _ [512, 513, 514, 515, 516, 517, 518, 519, 520] (by decide +kernel) (by decide +kernel)
set_option maxRecDepth 20000 in
theorem gc_acts_wsX10 : GoodIn wsL_law wsX10 := goodIn_r _ [524, 525, 526, 527, 528, 529, 530, 531] (by decide +kernel) (by decide +kernel)
set_option maxRecDepth 20000 in
theorem gc_acts_wsX30 : GoodIn wsL_law wsX30 := goodIn_r _ [521, 522, 523] (by decide +kernel) (by decide +kernel)
set_option maxRecDepth 20000 in
theorem gc_acts_wsX50 : GoodIn wsL_law wsX50 := goodIn_r _ [532, 533, 534] (by decide +kernel) (by decide +kernel)
set_option maxRecDepth 20000 in
theorem gc_acts_wsX20 : GoodIn wsL_law wsX20 := goodIn_r _ [502, 503] (by decide +kernel) (by decide +kernel)
set_option maxRecDepth 20000 in
theorem gc_acts_wsX70 : GoodIn wsL_law wsX70 := goodIn_r _ [504, 505] (by decide +kernel) (by decide +kernel)
set_option maxRecDepth 20000 in
theorem ggL_law_L_acts : GoodIn wsL_law wsL_acts := fun w h => (List.mem_cons.mp h).elim (fun e => by rw [e]; exact ⟨List.mem_of_getElem? (i := 299) rfl, Or.inl rfl⟩) (fun h => (goodIn_app (goodIn_app (goodIn_app (goodIn_app (goodIn_app (goodIn_app (goodIn_app (goodIn_app (goodIn_app ga_acts_1 (goodIn_app ga_acts_2 (goodIn_app ga_acts_3 (goodIn_app ga_acts_4 (goodIn_app ga_acts_5 (goodIn_app ga_acts_6 (goodIn_app ga_acts_7 (goodIn_app ga_acts_8 (goodIn_app ga_acts_9 (goodIn_app ga_acts_10 (goodIn_app ga_acts_11 (goodIn_app ga_acts_12 (goodIn_app ga_acts_13 (goodIn_app ga_acts_14 ga_acts_15)))))))))))))) gc_acts_wsX80) gc_acts_wsX60) gc_acts_wsX00) gc_acts_wsX10) gc_acts_wsX30) gc_acts_wsX50) gc_acts_wsX20) gc_acts_wsX70) w h)
set_option maxRecDepth 20000 in
theorem gL_law_L_acts : GoodIn wsL_law (va_wsS RL 96 yL_acts wsL_acts) := goodIn_app (goodIn_of _ (by decide +kernel)) ggL_law_L_acts
set_option maxRecDepth 20000 in
theorem ggL_law_L_isBlock : GoodIn wsL_law wsL_isBlock := goodIn_r _ [451, 452, 360, 361, 362, 2, 363, 12, 304, 364, 182, 183, 31, 184, 121, 365, 366, 367, 368, 53, 190, 191, 58, 192, 369, 233, 234, 235, 236, 300, 301, 302, 303, 305, 145, 146, 160, 161, 306, 307, 308, 291, 292, 250, 17, 105, 21, 309, 162, 163, 164, 310, 311, 312, 313, 314, 315, 316, 317, 318, 204, 205, 206, 50, 119, 319, 210, 211, 212, 52, 320, 186, 187, 188, 189, 57, 59, 321, 322, 323, 324, 325, 326, 39, 327, 134, 74, 491, 492, 493, 494, 495, 496, 497, 498, 499, 500, 501, 512, 513, 514, 515, 516, 517, 518, 519, 520, 524, 525, 526, 527, 528, 529, 530, 531, 521, 522, 523, 532, 533, 534, 502, 503, 504, 505] (by decide +kernel) (by decide +kernel)
set_option maxRecDepth 20000 in
theorem gL_law_L_isBlock : GoodIn wsL_law (va_wsS RL 99 yL_isBlock wsL_isBlock) := goodIn_app (goodIn_of _ (by decide +kernel)) ggL_law_L_isBlock
set_option maxRecDepth 20000 in
theorem ga_isSeries_1 : GoodIn wsL_law wsL_isSeries_r1 := goodIn_r _ [456, 300, 301, 302, 2, 303, 12, 304, 305, 145, 146, 160, 161, 306, 307, 308, 291, 292, 250, 17, 105, 21, 309, 162] (by decide +kernel) (by decide +kernel)
set_option maxRecDepth 20000 in
theorem ga_isSeries_2 : GoodIn wsL_law wsL_isSeries_r2 := goodIn_r _ [163, 164, 310, 311, 312, 313, 314, 315, 316, 317, 318, 204, 205, 31, 206, 50, 119, 319, 210, 211, 212, 52, 320, 186] (by decide +kernel) (by decide +kernel)
set_option maxRecDepth 20000 in
theorem ga_isSeries_3 : GoodIn wsL_law wsL_isSeries_r3 := goodIn_r _ [187, 188, 189, 57, 58, 59, 190, 191, 192, 53, 321, 322, 323, 324, 325, 326, 39, 327, 134, 74, 457, 458, 283, 459] (by decide +kernel) (by decide +kernel)
set_option maxRecDepth 20000 in
theorem ga_isSeries_4 : GoodIn wsL_law wsL_isSeries_r4 := goodIn_r _ [460, 461, 462, 463, 346, 347, 348, 349, 350, 351, 352, 353, 354, 355, 356, 357, 264, 265, 266, 358, 256, 257, 258, 76] (by decide +kernel) (by decide +kernel)
set_option maxRecDepth 20000 in
theorem ga_isSeries_5 : GoodIn wsL_law wsL_isSeries_r5 := goodIn_r _ [259, 260, 261, 262, 79, 263, 207, 208, 359, 268, 269, 270, 271, 272, 273, 274, 275, 396, 397, 398, 399, 400, 401, 402] (by decide +kernel) (by decide +kernel)
set_option maxRecDepth 20000 in
theorem ga_isSeries_6 : GoodIn wsL_law wsL_isSeries_r6 := goodIn_r _ [403, 404, 405, 406, 407, 408, 409, 410, 411, 412, 413, 414, 415, 416, 417, 255, 267, 418, 419, 420, 421, 422, 423, 424] (by decide +kernel) (by decide +kernel)
set_option maxRecDepth 20000 in
theorem ga_isSeries_7 : GoodIn wsL_law wsL_isSeries_r7 := goodIn_r _ [425, 43, 426, 139, 427, 428, 429, 430, 431, 432, 433, 434, 435, 436, 83, 84, 437, 438, 439, 440, 464, 465, 466, 467] (by decide +kernel) (by decide +kernel)
set_option maxRecDepth 20000 in
theorem ga_isSeries_8 : GoodIn wsL_law wsL_isSeries_r8 := goodIn_r _ [468, 469, 470, 471, 472, 473, 474, 475, 476, 477, 478] (by decide +kernel) (by decide +kernel)
set_option maxRecDepth 20000 in
theorem gc_isSeries_wsX80 : GoodIn wsL_law wsX80 := goodIn_r _ [491, 492, 493, 494, 495, 496] (by decide +kernel) (by decide +kernel)
set_option maxRecDepth 20000 in
theorem gc_isSeries_wsX60 : GoodIn wsL_law wsX60 := goodIn_r _ [497, 498, 499, 500, 501] (by decide +kernel) (by decide +kernel)
set_option maxRecDepth 20000 in
theorem gc_isSeries_wsX00 : GoodIn wsL_law wsX00 := goodIn_r _ [512, 513, 514, 515, 516, 517, 518, 519, 520] (by decide +kernel) (by decide +kernel)
set_option maxRecDepth 20000 in
theorem gc_isSeries_wsX10 : GoodIn wsL_law wsX10 := goodIn_r _ [524, 525, 526, 527, 528, 529, 530, 531] (by decide +kernel) (by decide +kernel)
set_option maxRecDepth 20000 in
theorem gc_isSeries_wsX30 : GoodIn wsL_law wsX30 := goodIn_r _ [521, 522, 523] (by decide +kernel) (by decide +kernel)
set_option maxRecDepth 20000 in
theorem gc_isSeries_wsX50 : GoodIn wsL_law wsX50 := goodIn_r _ [532, 533, 534] (by decide +kernel) (by decide +kernel)
set_option maxRecDepth 20000 in
theorem gc_isSeries_wsX20 : GoodIn wsL_law wsX20 := goodIn_r _ [502, 503] (by decide +kernel) (by decide +kernel)
set_option maxRecDepth 20000 in
theorem gc_isSeries_wsX70 : GoodIn wsL_law wsX70 := goodIn_r _ [504, 505] (by decide +kernel) (by decide +kernel)
set_option maxRecDepth 20000 in
theorem ggL_law_L_isSeries : GoodIn wsL_law wsL_isSeries := fun w h => (List.mem_cons.mp h).elim (fun e => by rw [e]; exact ⟨List.mem_of_getElem? (i := 455) rfl, Or.inl rfl⟩) (fun h => (goodIn_app (goodIn_app (goodIn_app (goodIn_app (goodIn_app (goodIn_app (goodIn_app (goodIn_app (goodIn_app ga_isSeries_1 (goodIn_app ga_isSeries_2 (goodIn_app ga_isSeries_3 (goodIn_app ga_isSeries_4 (goodIn_app ga_isSeries_5 (goodIn_app ga_isSeries_6 (goodIn_app ga_isSeries_7 ga_isSeries_8))))))) gc_isSeries_wsX80) gc_isSeries_wsX60) gc_isSeries_wsX00) gc_isSeries_wsX10) gc_isSeries_wsX30) gc_isSeries_wsX50) gc_isSeries_wsX20) gc_isSeries_wsX70) w h)
set_option maxRecDepth 20000 in
theorem gL_law_L_isSeries : GoodIn wsL_law (va_wsS RL 103 yL_isSeries wsL_isSeries) := goodIn_app (goodIn_of _ (by decide +kernel)) ggL_law_L_isSeries
set_option maxRecDepth 20000 in
theorem ggL_law_X8_count : GoodIn wsL_law wsX8_count := goodIn_r _ [303, 12, 304, 305, 145, 146, 160, 161, 306, 307, 308, 291, 292, 250, 17, 105, 21, 309, 162, 163, 2, 164, 310, 311, 312, 313, 314, 315, 316, 317, 318, 204, 205, 31, 206, 50, 119, 319, 210, 211, 212, 52, 320, 186, 187, 188, 189, 57, 58, 59, 190, 191, 192, 53, 321, 322, 323, 324, 325, 326, 39, 327, 134, 74, 491, 492, 493, 494, 495, 496, 497, 498, 499, 500, 501, 512, 513, 514, 515, 516, 517, 518, 519, 520, 524, 525, 526, 527, 528, 529, 530, 531, 521, 522, 523, 532, 533, 534, 502, 503, 504, 505] (by decide +kernel) (by decide +kernel)
set_option maxRecDepth 20000 in
theorem gL_law_X8_count : GoodIn wsL_law (wsV RL 23 RX8 yX8_count wsX8_count) := goodIn_app (goodIn_of _ (by decide +kernel)) ggL_law_X8_count
set_option maxRecDepth 20000 in
theorem ggL_law_X8_keep : GoodIn wsL_law wsX8_keep := goodIn_r _ [482, 13, 12, 144, 145, 146, 155, 112, 113, 11, 114, 32, 36, 40, 44, 45, 115, 116, 117, 31, 118, 50, 119, 120, 121, 122, 123, 124, 52, 53, 54, 2, 55, 56, 57, 58, 59, 60, 61, 62, 63, 125, 126, 127, 35, 128, 67, 68, 129, 130, 131, 132, 39, 133, 72, 73, 74, 75, 76, 77, 79, 134, 135, 136, 137, 43, 138, 83, 84, 139, 491, 492, 493, 494, 495, 496, 497, 498, 499, 500, 501, 524, 525, 526, 527, 528, 529, 530, 531, 512, 513, 514, 515, 516, 517, 518, 519, 520, 521, 522, 523, 532, 533, 534] (by decide +kernel) (by decide +kernel)
set_option maxRecDepth 20000 in
theorem gL_law_X8_keep : GoodIn wsL_law (wsV RL 106 RX8 yX8_keep wsX8_keep) := goodIn_app (goodIn_of _ (by decide +kernel)) ggL_law_X8_keep
set_option maxRecDepth 20000 in
theorem ggL_law_X8_forget : GoodIn wsL_law wsX8_forget := goodIn_r _ [486, 12, 145, 146, 17, 147, 148, 149, 16, 150, 110, 90, 151, 152, 153, 154, 111, 112, 113, 11, 114, 32, 36, 40, 44, 45, 115, 116, 117, 31, 118, 50, 119, 120, 121, 122, 123, 124, 52, 53, 54, 2, 55, 56, 57, 58, 59, 60, 61, 62, 63, 125, 126, 127, 35, 128, 67, 68, 129, 130, 131, 132, 39, 133, 72, 73, 74, 75, 76, 77, 79, 134, 135, 136, 137, 43, 138, 83, 84, 139, 491, 492, 493, 494, 495, 496, 497, 498, 499, 500, 501, 524, 525, 526, 527, 528, 529, 530, 531, 502, 503, 512, 513, 514, 515, 516, 517, 518, 519, 520, 521, 522, 523, 532, 533, 534] (by decide +kernel) (by decide +kernel)
set_option maxRecDepth 20000 in
theorem gL_law_X8_forget : GoodIn wsL_law (wsV RL 109 RX8 yX8_forget wsX8_forget) := goodIn_app (goodIn_of _ (by decide +kernel)) ggL_law_X8_forget
set_option maxRecDepth 20000 in
theorem ggL_law_X8_series : GoodIn wsL_law wsX8_series := goodIn_r _ [399, 12, 145, 250, 291, 400, 401, 402, 39, 403, 134, 259, 260, 261, 262, 74, 79, 263, 264, 265, 266, 358, 256, 257, 258, 76, 207, 2, 208, 404, 405, 406, 407, 408, 57, 58, 59, 409, 191, 192, 410, 411, 412, 413, 414, 415, 416, 417, 255, 267, 268, 269, 270, 271, 272, 273, 274, 275, 418, 419, 420, 421, 422, 423, 424, 425, 43, 426, 139, 427, 428, 429, 430, 431, 432, 433, 434, 435, 436, 83, 84, 437, 438, 439, 440, 491, 492, 493, 494, 495, 496, 497, 498, 499, 500, 501, 524, 525, 526, 527, 528, 529, 530, 531, 532, 533, 534] (by decide +kernel) (by decide +kernel)
set_option maxRecDepth 20000 in
theorem gL_law_X8_series : GoodIn wsL_law (wsV RL 33 RX8 yX8_series wsX8_series) := goodIn_app (goodIn_of _ (by decide +kernel)) ggL_law_X8_series
set_option maxRecDepth 20000 in
theorem ggL_law_X8_stop : GoodIn wsL_law wsX8_stop := goodIn_r _ [378, 12, 304, 17, 317, 364, 182, 183, 31, 184, 121, 147, 148, 149, 16, 150, 110, 90, 151, 152, 153, 154, 111, 112, 113, 11, 114, 32, 36, 40, 44, 45, 115, 116, 117, 118, 50, 119, 120, 122, 123, 124, 52, 53, 54, 2, 55, 56, 57, 58, 59, 60, 61, 62, 63, 125, 126, 127, 35, 128, 67, 68, 129, 130, 131, 132, 39, 133, 72, 73, 74, 75, 76, 77, 79, 134, 135, 136, 137, 43, 138, 83, 84, 139, 491, 492, 493, 494, 495, 496, 497, 498, 499, 500, 501, 512, 513, 514, 515, 516, 517, 518, 519, 520, 502, 503, 521, 522, 523, 524, 525, 526, 527, 528, 529, 530, 531, 532, 533, 534] (by decide +kernel) (by decide +kernel)
set_option maxRecDepth 20000 in
theorem gL_law_X8_stop : GoodIn wsL_law (wsV RL 60 RX8 yX8_stop wsX8_stop) := goodIn_app (goodIn_of _ (by decide +kernel)) ggL_law_X8_stop
set_option maxRecDepth 20000 in
theorem ggL_law_X8_block : GoodIn wsL_law wsX8_block := goodIn_r _ [490, 12, 304, 17, 316, 314, 162, 163, 2, 164, 364, 182, 183, 31, 184, 121, 147, 148, 149, 16, 150, 110, 90, 151, 152, 153, 154, 111, 112, 113, 11, 114, 32, 36, 40, 44, 45, 115, 116, 117, 118, 50, 119, 120, 122, 123, 124, 52, 53, 54, 55, 56, 57, 58, 59, 60, 61, 62, 63, 125, 126, 127, 35, 128, 67, 68, 129, 130, 131, 132, 39, 133, 72, 73, 74, 75, 76, 77, 79, 134, 135, 136, 137, 43, 138, 83, 84, 139, 383, 384, 385, 386, 491, 492, 493, 494, 495, 496, 497, 498, 499, 500, 501, 512, 513, 514, 515, 516, 517, 518, 519, 520, 502, 503, 521, 522, 523, 524, 525, 526, 527, 528, 529, 530, 531, 532, 533, 534] (by decide +kernel) (by decide +kernel)
set_option maxRecDepth 20000 in
theorem gL_law_X8_block : GoodIn wsL_law (wsV RL 112 RX8 yX8_block wsX8_block) := goodIn_app (goodIn_of _ (by decide +kernel)) ggL_law_X8_block
theorem dL_law_0 : decode cL_law 0 = .ok (.new 10, 3) := by decide +kernel
theorem dL_law_3 : decode cL_law 3 = .ok (.dup, 1) := by decide +kernel
theorem dL_law_4 : decode cL_law 4 = .ok (.invokespecial 82, 3) := by decide +kernel
theorem dL_law_7 : decode cL_law 7 = .ok (.astore_n 1, 1) := by decide +kernel
theorem dL_law_8 : decode cL_law 8 = .ok (.aload_n 1, 1) := by decide +kernel
theorem dL_law_9 : decode cL_law 9 = .ok (.invokevirtual 83, 3) := by decide +kernel
theorem dL_law_12 : decode cL_law 12 = .ok (.bipush (-5), 2) := by decide +kernel
theorem dL_law_14 : decode cL_law 14 = .ok (.if_icmp .ne 63, 3) := by decide +kernel
theorem dL_law_17 : decode cL_law 17 = .ok (.aload_n 1, 1) := by decide +kernel
theorem dL_law_18 : decode cL_law 18 = .ok (.invokevirtual 86, 3) := by decide +kernel
theorem dL_law_21 : decode cL_law 21 = .ok (.bipush (-5), 2) := by decide +kernel
theorem dL_law_23 : decode cL_law 23 = .ok (.if_icmp .ne 54, 3) := by decide +kernel
theorem dL_law_26 : decode cL_law 26 = .ok (.aload_n 1, 1) := by decide +kernel
theorem dL_law_27 : decode cL_law 27 = .ok (.iconst 1, 1) := by decide +kernel
theorem dL_law_28 : decode cL_law 28 = .ok (.iconst 0, 1) := by decide +kernel
theorem dL_law_29 : decode cL_law 29 = .ok (.invokevirtual 51, 3) := by decide +kernel
theorem dL_law_32 : decode cL_law 32 = .ok (.bipush (-5), 2) := by decide +kernel
theorem dL_law_34 : decode cL_law 34 = .ok (.if_icmp .ne 43, 3) := by decide +kernel
theorem dL_law_37 : decode cL_law 37 = .ok (.aload_n 1, 1) := by decide +kernel
theorem dL_law_38 : decode cL_law 38 = .ok (.invokevirtual 76, 3) := by decide +kernel
theorem dL_law_41 : decode cL_law 41 = .ok (.bipush (-5), 2) := by decide +kernel
theorem dL_law_43 : decode cL_law 43 = .ok (.if_icmp .ne 34, 3) := by decide +kernel
theorem dL_law_46 : decode cL_law 46 = .ok (.aload_n 1, 1) := by decide +kernel
theorem dL_law_47 : decode cL_law 47 = .ok (.bipush 50, 2) := by decide +kernel
theorem dL_law_49 : decode cL_law 49 = .ok (.aload_n 0, 1) := by decide +kernel
theorem dL_law_50 : decode cL_law 50 = .ok (.iconst 0, 1) := by decide +kernel
theorem dL_law_51 : decode cL_law 51 = .ok (.invokestatic 89, 3) := by decide +kernel
theorem dL_law_54 : decode cL_law 54 = .ok (.sipush 851, 3) := by decide +kernel
theorem dL_law_57 : decode cL_law 57 = .ok (.irem, 1) := by decide +kernel
theorem dL_law_58 : decode cL_law 58 = .ok (.iadd, 1) := by decide +kernel
theorem dL_law_59 : decode cL_law 59 = .ok (.aload_n 0, 1) := by decide +kernel
theorem dL_law_60 : decode cL_law 60 = .ok (.iconst 1, 1) := by decide +kernel
theorem dL_law_61 : decode cL_law 61 = .ok (.invokestatic 89, 3) := by decide +kernel
theorem dL_law_64 : decode cL_law 64 = .ok (.bipush 101, 2) := by decide +kernel
theorem dL_law_66 : decode cL_law 66 = .ok (.irem, 1) := by decide +kernel
theorem dL_law_67 : decode cL_law 67 = .ok (.invokevirtual 93, 3) := by decide +kernel
theorem dL_law_70 : decode cL_law 70 = .ok (.ifCond .ne 7, 3) := by decide +kernel
theorem dL_law_73 : decode cL_law 73 = .ok (.iconst 1, 1) := by decide +kernel
theorem dL_law_74 : decode cL_law 74 = .ok (.goto 4, 3) := by decide +kernel
theorem dL_law_77 : decode cL_law 77 = .ok (.iconst 0, 1) := by decide +kernel
theorem dL_law_78 : decode cL_law 78 = .ok (.istore_n 2, 1) := by decide +kernel
theorem dL_law_79 : decode cL_law 79 = .ok (.iconst 0, 1) := by decide +kernel
theorem dL_law_80 : decode cL_law 80 = .ok (.istore_n 3, 1) := by decide +kernel
theorem dL_law_81 : decode cL_law 81 = .ok (.iload_n 3, 1) := by decide +kernel
theorem dL_law_82 : decode cL_law 82 = .ok (.bipush 30, 2) := by decide +kernel
theorem dL_law_84 : decode cL_law 84 = .ok (.if_icmp .ge 53, 3) := by decide +kernel
theorem dL_law_87 : decode cL_law 87 = .ok (.iload_n 2, 1) := by decide +kernel
theorem dL_law_88 : decode cL_law 88 = .ok (.ifCond .eq 49, 3) := by decide +kernel
theorem dL_law_91 : decode cL_law 91 = .ok (.aload_n 1, 1) := by decide +kernel
theorem dL_law_92 : decode cL_law 92 = .ok (.aload_n 0, 1) := by decide +kernel
theorem dL_law_93 : decode cL_law 93 = .ok (.iconst 2, 1) := by decide +kernel
theorem dL_law_94 : decode cL_law 94 = .ok (.iload_n 3, 1) := by decide +kernel
theorem dL_law_95 : decode cL_law 95 = .ok (.iadd, 1) := by decide +kernel
theorem dL_law_96 : decode cL_law 96 = .ok (.invokestatic 89, 3) := by decide +kernel
theorem dL_law_99 : decode cL_law 99 = .ok (.invokestatic 96, 3) := by decide +kernel
theorem dL_law_102 : decode cL_law 102 = .ok (.ifCond .eq 27, 3) := by decide +kernel
theorem dL_law_105 : decode cL_law 105 = .ok (.aload_n 1, 1) := by decide +kernel
theorem dL_law_106 : decode cL_law 106 = .ok (.invokestatic 99, 3) := by decide +kernel
theorem dL_law_109 : decode cL_law 109 = .ok (.ifCond .eq 20, 3) := by decide +kernel
theorem dL_law_112 : decode cL_law 112 = .ok (.iload_n 3, 1) := by decide +kernel
theorem dL_law_113 : decode cL_law 113 = .ok (.iconst 4, 1) := by decide +kernel
theorem dL_law_114 : decode cL_law 114 = .ok (.irem, 1) := by decide +kernel
theorem dL_law_115 : decode cL_law 115 = .ok (.ifCond .gt 10, 3) := by decide +kernel
theorem dL_law_118 : decode cL_law 118 = .ok (.aload_n 1, 1) := by decide +kernel
theorem dL_law_119 : decode cL_law 119 = .ok (.invokestatic 103, 3) := by decide +kernel
theorem dL_law_122 : decode cL_law 122 = .ok (.ifCond .eq 7, 3) := by decide +kernel
theorem dL_law_125 : decode cL_law 125 = .ok (.iconst 1, 1) := by decide +kernel
theorem dL_law_126 : decode cL_law 126 = .ok (.goto 4, 3) := by decide +kernel
theorem dL_law_129 : decode cL_law 129 = .ok (.iconst 0, 1) := by decide +kernel
theorem dL_law_130 : decode cL_law 130 = .ok (.istore_n 2, 1) := by decide +kernel
theorem dL_law_131 : decode cL_law 131 = .ok (.iinc 3 1, 3) := by decide +kernel
theorem dL_law_134 : decode cL_law 134 = .ok (.goto (-53), 3) := by decide +kernel
theorem dL_law_137 : decode cL_law 137 = .ok (.aload_n 1, 1) := by decide +kernel
theorem dL_law_138 : decode cL_law 138 = .ok (.bipush 7, 2) := by decide +kernel
theorem dL_law_140 : decode cL_law 140 = .ok (.invokevirtual 23, 3) := by decide +kernel
theorem dL_law_143 : decode cL_law 143 = .ok (.istore_n 3, 1) := by decide +kernel
theorem dL_law_144 : decode cL_law 144 = .ok (.aload_n 1, 1) := by decide +kernel
theorem dL_law_145 : decode cL_law 145 = .ok (.iconst 1, 1) := by decide +kernel
theorem dL_law_146 : decode cL_law 146 = .ok (.invokevirtual 23, 3) := by decide +kernel
theorem dL_law_149 : decode cL_law 149 = .ok (.istore 4, 2) := by decide +kernel
theorem dL_law_151 : decode cL_law 151 = .ok (.iload_n 2, 1) := by decide +kernel
theorem dL_law_152 : decode cL_law 152 = .ok (.ifCond .eq 101, 3) := by decide +kernel
theorem dL_law_155 : decode cL_law 155 = .ok (.aload_n 1, 1) := by decide +kernel
theorem dL_law_156 : decode cL_law 156 = .ok (.invokestatic 103, 3) := by decide +kernel
theorem dL_law_159 : decode cL_law 159 = .ok (.ifCond .eq 94, 3) := by decide +kernel
theorem dL_law_162 : decode cL_law 162 = .ok (.aload_n 1, 1) := by decide +kernel
theorem dL_law_163 : decode cL_law 163 = .ok (.invokevirtual 106, 3) := by decide +kernel
theorem dL_law_166 : decode cL_law 166 = .ok (.iload_n 3, 1) := by decide +kernel
theorem dL_law_167 : decode cL_law 167 = .ok (.if_icmp .ne 86, 3) := by decide +kernel
theorem dL_law_170 : decode cL_law 170 = .ok (.iload_n 3, 1) := by decide +kernel
theorem dL_law_171 : decode cL_law 171 = .ok (.ifCond .ne 15, 3) := by decide +kernel
theorem dL_law_174 : decode cL_law 174 = .ok (.aload_n 1, 1) := by decide +kernel
theorem dL_law_175 : decode cL_law 175 = .ok (.invokevirtual 109, 3) := by decide +kernel
theorem dL_law_178 : decode cL_law 178 = .ok (.bipush (-5), 2) := by decide +kernel
theorem dL_law_180 : decode cL_law 180 = .ok (.if_icmp .ne 73, 3) := by decide +kernel
theorem dL_law_183 : decode cL_law 183 = .ok (.goto 21, 3) := by decide +kernel
theorem dL_law_186 : decode cL_law 186 = .ok (.aload_n 1, 1) := by decide +kernel
theorem dL_law_187 : decode cL_law 187 = .ok (.invokevirtual 109, 3) := by decide +kernel
theorem dL_law_190 : decode cL_law 190 = .ok (.iload_n 3, 1) := by decide +kernel
theorem dL_law_191 : decode cL_law 191 = .ok (.if_icmp .ne 62, 3) := by decide +kernel
theorem dL_law_194 : decode cL_law 194 = .ok (.aload_n 1, 1) := by decide +kernel
theorem dL_law_195 : decode cL_law 195 = .ok (.iconst 1, 1) := by decide +kernel
theorem dL_law_196 : decode cL_law 196 = .ok (.invokevirtual 33, 3) := by decide +kernel
theorem dL_law_199 : decode cL_law 199 = .ok (.bipush (-5), 2) := by decide +kernel
theorem dL_law_201 : decode cL_law 201 = .ok (.if_icmp .ne 52, 3) := by decide +kernel
theorem dL_law_204 : decode cL_law 204 = .ok (.aload_n 1, 1) := by decide +kernel
theorem dL_law_205 : decode cL_law 205 = .ok (.invokevirtual 60, 3) := by decide +kernel
theorem dL_law_208 : decode cL_law 208 = .ok (.bipush (-5), 2) := by decide +kernel
theorem dL_law_210 : decode cL_law 210 = .ok (.if_icmp .lt 43, 3) := by decide +kernel
theorem dL_law_213 : decode cL_law 213 = .ok (.aload_n 1, 1) := by decide +kernel
theorem dL_law_214 : decode cL_law 214 = .ok (.sipush 1000, 3) := by decide +kernel
theorem dL_law_217 : decode cL_law 217 = .ok (.invokevirtual 112, 3) := by decide +kernel
theorem dL_law_220 : decode cL_law 220 = .ok (.ifCond .lt 33, 3) := by decide +kernel
theorem dL_law_223 : decode cL_law 223 = .ok (.aload_n 1, 1) := by decide +kernel
theorem dL_law_224 : decode cL_law 224 = .ok (.iconst 1, 1) := by decide +kernel
theorem dL_law_225 : decode cL_law 225 = .ok (.invokevirtual 23, 3) := by decide +kernel
theorem dL_law_228 : decode cL_law 228 = .ok (.ifCond .ne 25, 3) := by decide +kernel
theorem dL_law_231 : decode cL_law 231 = .ok (.aload_n 1, 1) := by decide +kernel
theorem dL_law_232 : decode cL_law 232 = .ok (.invokevirtual 86, 3) := by decide +kernel
theorem dL_law_235 : decode cL_law 235 = .ok (.iload_n 3, 1) := by decide +kernel
theorem dL_law_236 : decode cL_law 236 = .ok (.if_icmp .ne 17, 3) := by decide +kernel
theorem dL_law_239 : decode cL_law 239 = .ok (.aload_n 1, 1) := by decide +kernel
theorem dL_law_240 : decode cL_law 240 = .ok (.iconst 1, 1) := by decide +kernel
theorem dL_law_241 : decode cL_law 241 = .ok (.invokevirtual 23, 3) := by decide +kernel
theorem dL_law_244 : decode cL_law 244 = .ok (.iload 4, 2) := by decide +kernel
theorem dL_law_246 : decode cL_law 246 = .ok (.if_icmp .ne 7, 3) := by decide +kernel
theorem dL_law_249 : decode cL_law 249 = .ok (.iconst 1, 1) := by decide +kernel
theorem dL_law_250 : decode cL_law 250 = .ok (.goto 4, 3) := by decide +kernel
theorem dL_law_253 : decode cL_law 253 = .ok (.iconst 0, 1) := by decide +kernel
theorem dL_law_254 : decode cL_law 254 = .ok (.istore_n 2, 1) := by decide +kernel
theorem dL_law_255 : decode cL_law 255 = .ok (.iload_n 2, 1) := by decide +kernel
theorem dL_law_256 : decode cL_law 256 = .ok (.ifCond .eq 39, 3) := by decide +kernel
theorem dL_law_259 : decode cL_law 259 = .ok (.aload_n 1, 1) := by decide +kernel
theorem dL_law_260 : decode cL_law 260 = .ok (.invokestatic 103, 3) := by decide +kernel
theorem dL_law_263 : decode cL_law 263 = .ok (.ifCond .eq 32, 3) := by decide +kernel
theorem dL_law_266 : decode cL_law 266 = .ok (.aload_n 1, 1) := by decide +kernel
theorem dL_law_267 : decode cL_law 267 = .ok (.invokestatic 99, 3) := by decide +kernel
theorem dL_law_270 : decode cL_law 270 = .ok (.ifCond .eq 25, 3) := by decide +kernel
theorem dL_law_273 : decode cL_law 273 = .ok (.aload_n 1, 1) := by decide +kernel
theorem dL_law_274 : decode cL_law 274 = .ok (.invokevirtual 83, 3) := by decide +kernel
theorem dL_law_277 : decode cL_law 277 = .ok (.ifCond .lt 18, 3) := by decide +kernel
theorem dL_law_280 : decode cL_law 280 = .ok (.aload_n 1, 1) := by decide +kernel
theorem dL_law_281 : decode cL_law 281 = .ok (.iconst 0, 1) := by decide +kernel
theorem dL_law_282 : decode cL_law 282 = .ok (.invokevirtual 23, 3) := by decide +kernel
theorem dL_law_285 : decode cL_law 285 = .ok (.sipush 1000, 3) := by decide +kernel
theorem dL_law_288 : decode cL_law 288 = .ok (.if_icmp .ne 7, 3) := by decide +kernel
theorem dL_law_291 : decode cL_law 291 = .ok (.iconst 1, 1) := by decide +kernel
theorem dL_law_292 : decode cL_law 292 = .ok (.goto 4, 3) := by decide +kernel
theorem dL_law_295 : decode cL_law 295 = .ok (.iconst 0, 1) := by decide +kernel
theorem dL_law_296 : decode cL_law 296 = .ok (.ireturn, 1) := by decide +kernel
