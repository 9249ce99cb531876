set_option maxRecDepth 20000 in
theorem ggX8_undo_X2_takeBack : GoodIn wsX8_undo wsX2_takeBack := goodIn_r _ [8, 9, 10, 11, 12, 13, 14, 15, 16, 17, 18, 19, 20, 21, 22, 23, 24, 25, 26, 27, 28, 29, 30, 31, 32, 33, 34, 35, 36, 37, 38, 39, 40, 41, 42, 43, 44, 45, 46, 47, 48, 49, 50, 51, 52, 53, 54, 55, 56, 57, 58, 59, 60, 61, 62, 63, 64, 65, 66, 67, 68, 69, 70, 71, 72, 73, 74, 81, 82, 83, 84, 85, 86, 87, 88, 89, 90, 91, 92, 93, 94, 95, 96, 97, 98, 99, 100, 101, 102, 103, 104, 105, 106, 107, 108, 109, 110] (by decide +kernel) (by decide +kernel)
set_option maxRecDepth 20000 in
theorem gX8_undo_X2_takeBack : GoodIn wsX8_undo (wsV RX8 191 RX2 yX2_takeBack wsX2_takeBack) := goodIn_app (goodIn_of _ (by decide +kernel)) ggX8_undo_X2_takeBack
theorem dX8_undo_0 : decode cX8_undo 0 = .ok (.aload_n 0, 1) := by decide +kernel
theorem dX8_undo_1 : decode cX8_undo 1 = .ok (.getfield 22, 3) := by decide +kernel
theorem dX8_undo_4 : decode cX8_undo 4 = .ok (.getfield 190, 3) := by decide +kernel
theorem dX8_undo_7 : decode cX8_undo 7 = .ok (.ifCond .ne 6, 3) := by decide +kernel
theorem dX8_undo_10 : decode cX8_undo 10 = .ok (.bipush (-5), 2) := by decide +kernel
theorem dX8_undo_12 : decode cX8_undo 12 = .ok (.ireturn, 1) := by decide +kernel
theorem dX8_undo_13 : decode cX8_undo 13 = .ok (.aload_n 0, 1) := by decide +kernel
theorem dX8_undo_14 : decode cX8_undo 14 = .ok (.getfield 22, 3) := by decide +kernel
theorem dX8_undo_17 : decode cX8_undo 17 = .ok (.aload_n 0, 1) := by decide +kernel
theorem dX8_undo_18 : decode cX8_undo 18 = .ok (.getfield 10, 3) := by decide +kernel
theorem dX8_undo_21 : decode cX8_undo 21 = .ok (.invokevirtual 191, 3) := by decide +kernel
theorem dX8_undo_24 : decode cX8_undo 24 = .ok (.aload_n 0, 1) := by decide +kernel
theorem dX8_undo_25 : decode cX8_undo 25 = .ok (.getfield 22, 3) := by decide +kernel
theorem dX8_undo_28 : decode cX8_undo 28 = .ok (.getfield 190, 3) := by decide +kernel
theorem dX8_undo_31 : decode cX8_undo 31 = .ok (.ireturn, 1) := by decide +kernel
set_option maxRecDepth 20000 in
theorem ggX8_keep_X6_copyFrom : GoodIn wsX8_keep wsX6_copyFrom := goodIn_r _ [10, 11, 12, 13, 14, 15, 16, 17, 18, 19, 20, 21, 22, 23, 24, 25, 26, 27, 28, 29, 30, 31, 32, 33, 34, 35, 36, 37, 38, 39, 40, 41, 42, 43, 44, 45, 46, 47, 48, 49, 50, 51, 52, 53, 54, 55, 56, 57, 58, 59, 60, 61, 62, 63, 64, 65, 66, 67, 68, 69, 76, 77, 78, 79, 80, 89, 90, 91, 92, 93, 94, 95, 96, 97, 98, 99, 100, 81, 82, 83, 84, 85, 86, 87, 88, 101, 102, 103] (by decide +kernel) (by decide +kernel)
set_option maxRecDepth 20000 in
theorem gX8_keep_X6_copyFrom : GoodIn wsX8_keep (wsV RX8 194 RX6 yX6_copyFrom wsX6_copyFrom) := goodIn_app (goodIn_of _ (by decide +kernel)) ggX8_keep_X6_copyFrom
theorem dX8_keep_0 : decode cX8_keep 0 = .ok (.aload_n 0, 1) := by decide +kernel
theorem dX8_keep_1 : decode cX8_keep 1 = .ok (.getfield 16, 3) := by decide +kernel
theorem dX8_keep_4 : decode cX8_keep 4 = .ok (.aload_n 0, 1) := by decide +kernel
theorem dX8_keep_5 : decode cX8_keep 5 = .ok (.getfield 10, 3) := by decide +kernel
theorem dX8_keep_8 : decode cX8_keep 8 = .ok (.invokevirtual 194, 3) := by decide +kernel
theorem dX8_keep_11 : decode cX8_keep 11 = .ok (.aload_n 0, 1) := by decide +kernel
theorem dX8_keep_12 : decode cX8_keep 12 = .ok (.iconst 1, 1) := by decide +kernel
theorem dX8_keep_13 : decode cX8_keep 13 = .ok (.putfield 197, 3) := by decide +kernel
theorem dX8_keep_16 : decode cX8_keep 16 = .ok (.aload_n 0, 1) := by decide +kernel
theorem dX8_keep_17 : decode cX8_keep 17 = .ok (.getfield 10, 3) := by decide +kernel
theorem dX8_keep_20 : decode cX8_keep 20 = .ok (.getfield 139, 3) := by decide +kernel
theorem dX8_keep_23 : decode cX8_keep 23 = .ok (.getfield 143, 3) := by decide +kernel
theorem dX8_keep_26 : decode cX8_keep 26 = .ok (.ireturn, 1) := by decide +kernel
set_option maxRecDepth 20000 in
theorem ggX8_restore_X2_record : GoodIn wsX8_restore wsX2_record := goodIn_r _ [11, 12, 13, 14, 15, 16, 10, 17, 18, 19, 20, 21, 22, 23, 24, 25, 26, 27, 28, 29, 30, 31, 32, 33, 34, 35, 36, 37, 38, 39, 40, 41, 42, 43, 44, 45, 46, 47, 48, 49, 50, 51, 52, 53, 54, 55, 56, 57, 58, 59, 60, 61, 62, 63, 64, 65, 66, 67, 68, 69, 70, 71, 72, 73, 74, 75, 76, 77, 78, 79, 80, 81, 102, 103, 89, 90, 91, 92, 93, 104, 105, 106, 107, 108, 109, 110, 111, 112, 113, 114, 115, 94, 95, 96, 97, 98, 99, 100, 101, 116, 117, 118] (by decide +kernel) (by decide +kernel)
set_option maxRecDepth 20000 in
theorem gX8_restore_X2_record : GoodIn wsX8_restore (wsV RX8 54 RX2 yX2_record wsX2_record) := goodIn_app (goodIn_of _ (by decide +kernel)) ggX8_restore_X2_record
set_option maxRecDepth 20000 in
theorem ggX8_restore_X6_copyFrom : GoodIn wsX8_restore wsX6_copyFrom := goodIn_r _ [22, 23, 24, 25, 26, 27, 28, 29, 30, 31, 32, 33, 34, 35, 36, 37, 38, 39, 40, 41, 42, 43, 44, 45, 46, 47, 48, 49, 50, 51, 52, 53, 54, 55, 56, 57, 58, 59, 60, 61, 62, 63, 64, 65, 66, 67, 68, 69, 70, 71, 72, 73, 74, 75, 76, 77, 78, 79, 80, 81, 89, 90, 91, 92, 93, 104, 105, 106, 107, 108, 109, 110, 111, 112, 113, 114, 115, 94, 95, 96, 97, 98, 99, 100, 101, 116, 117, 118] (by decide +kernel) (by decide +kernel)
set_option maxRecDepth 20000 in
theorem gX8_restore_X6_copyFrom : GoodIn wsX8_restore (wsV RX8 194 RX6 yX6_copyFrom wsX6_copyFrom) := goodIn_app (goodIn_of _ (by decide +kernel)) ggX8_restore_X6_copyFrom
theorem dX8_restore_0 : decode cX8_restore 0 = .ok (.aload_n 0, 1) := by decide +kernel
theorem dX8_restore_1 : decode cX8_restore 1 = .ok (.getfield 197, 3) := by decide +kernel
theorem dX8_restore_4 : decode cX8_restore 4 = .ok (.ifCond .ne 6, 3) := by decide +kernel
theorem dX8_restore_7 : decode cX8_restore 7 = .ok (.bipush (-5), 2) := by decide +kernel
theorem dX8_restore_9 : decode cX8_restore 9 = .ok (.ireturn, 1) := by decide +kernel
theorem dX8_restore_10 : decode cX8_restore 10 = .ok (.aload_n 0, 1) := by decide +kernel
theorem dX8_restore_11 : decode cX8_restore 11 = .ok (.getfield 22, 3) := by decide +kernel
theorem dX8_restore_14 : decode cX8_restore 14 = .ok (.aload_n 0, 1) := by decide +kernel
theorem dX8_restore_15 : decode cX8_restore 15 = .ok (.getfield 10, 3) := by decide +kernel
theorem dX8_restore_18 : decode cX8_restore 18 = .ok (.invokevirtual 54, 3) := by decide +kernel
theorem dX8_restore_21 : decode cX8_restore 21 = .ok (.aload_n 0, 1) := by decide +kernel
theorem dX8_restore_22 : decode cX8_restore 22 = .ok (.getfield 10, 3) := by decide +kernel
theorem dX8_restore_25 : decode cX8_restore 25 = .ok (.aload_n 0, 1) := by decide +kernel
theorem dX8_restore_26 : decode cX8_restore 26 = .ok (.getfield 16, 3) := by decide +kernel
theorem dX8_restore_29 : decode cX8_restore 29 = .ok (.invokevirtual 194, 3) := by decide +kernel
theorem dX8_restore_32 : decode cX8_restore 32 = .ok (.aload_n 0, 1) := by decide +kernel
theorem dX8_restore_33 : decode cX8_restore 33 = .ok (.getfield 10, 3) := by decide +kernel
theorem dX8_restore_36 : decode cX8_restore 36 = .ok (.getfield 139, 3) := by decide +kernel
theorem dX8_restore_39 : decode cX8_restore 39 = .ok (.getfield 143, 3) := by decide +kernel
theorem dX8_restore_42 : decode cX8_restore 42 = .ok (.ireturn, 1) := by decide +kernel
set_option maxRecDepth 20000 in
theorem ggX8_shot_X1_has : GoodIn wsX8_shot wsX1_has := goodIn_r _ [15, 16, 56, 57, 58, 59, 60, 61, 62, 63] (by decide +kernel) (by decide +kernel)
set_option maxRecDepth 20000 in
theorem gX8_shot_X1_has : GoodIn wsX8_shot (wsV RX8 149 RX1 yX1_has wsX1_has) := goodIn_app (goodIn_of _ (by decide +kernel)) ggX8_shot_X1_has
set_option maxRecDepth 20000 in
theorem ggX8_shot_X8_asNumber : GoodIn wsX8_shot wsX8_asNumber := goodIn_r _ [20] (by decide +kernel) (by decide +kernel)
set_option maxRecDepth 20000 in
theorem gX8_shot_X8_asNumber : GoodIn wsX8_shot (va_wsS RX8 211 yX8_asNumber wsX8_asNumber) := goodIn_app (goodIn_of _ (by decide +kernel)) ggX8_shot_X8_asNumber
set_option maxRecDepth 20000 in
theorem ggX8_shot_X1_mean : GoodIn wsX8_shot wsX1_mean := goodIn_r _ [24, 16, 25, 26, 27, 28, 14, 29, 30, 31, 32, 12, 13, 15, 33, 19, 34, 56, 57, 58, 59, 60, 61, 62, 63] (by decide +kernel) (by decide +kernel)
set_option maxRecDepth 20000 in
theorem gX8_shot_X1_mean : GoodIn wsX8_shot (wsV RX8 215 RX1 yX1_mean wsX1_mean) := goodIn_app (goodIn_of _ (by decide +kernel)) ggX8_shot_X1_mean
set_option maxRecDepth 20000 in
theorem ggX8_shot_X1_isBad : GoodIn wsX8_shot wsX1_isBad := goodIn_r _ [38, 25, 26, 27, 28, 14, 29, 30, 31, 32, 12, 13, 15, 16, 39, 19, 40, 41, 42, 43, 44, 56, 57, 58, 59, 60, 61, 62, 63] (by decide +kernel) (by decide +kernel)
set_option maxRecDepth 20000 in
theorem gX8_shot_X1_isBad : GoodIn wsX8_shot (wsV RX8 218 RX1 yX1_isBad wsX1_isBad) := goodIn_app (goodIn_of _ (by decide +kernel)) ggX8_shot_X1_isBad
theorem dX8_shot_0 : decode cX8_shot 0 = .ok (.aload_n 0, 1) := by decide +kernel
theorem dX8_shot_1 : decode cX8_shot 1 = .ok (.getfield 10, 3) := by decide +kernel
theorem dX8_shot_4 : decode cX8_shot 4 = .ok (.getfield 139, 3) := by decide +kernel
theorem dX8_shot_7 : decode cX8_shot 7 = .ok (.astore_n 3, 1) := by decide +kernel
theorem dX8_shot_8 : decode cX8_shot 8 = .ok (.aload_n 3, 1) := by decide +kernel
theorem dX8_shot_9 : decode cX8_shot 9 = .ok (.iload_n 1, 1) := by decide +kernel
theorem dX8_shot_10 : decode cX8_shot 10 = .ok (.invokevirtual 149, 3) := by decide +kernel
theorem dX8_shot_13 : decode cX8_shot 13 = .ok (.ifCond .ne 5, 3) := by decide +kernel
theorem dX8_shot_16 : decode cX8_shot 16 = .ok (.iconst (-1), 1) := by decide +kernel
theorem dX8_shot_17 : decode cX8_shot 17 = .ok (.ireturn, 1) := by decide +kernel
theorem dX8_shot_18 : decode cX8_shot 18 = .ok (.iload_n 2, 1) := by decide +kernel
theorem dX8_shot_19 : decode cX8_shot 19 = .ok (.tableswitch 117 0 7 #[45, 52, 59, 66, 73, 80, 90, 110], 45) := by decide +kernel
theorem dX8_shot_64 : decode cX8_shot 64 = .ok (.aload_n 3, 1) := by decide +kernel
theorem dX8_shot_65 : decode cX8_shot 65 = .ok (.getfield 201, 3) := by decide +kernel
theorem dX8_shot_68 : decode cX8_shot 68 = .ok (.iload_n 1, 1) := by decide +kernel
theorem dX8_shot_69 : decode cX8_shot 69 = .ok (.iaload, 1) := by decide +kernel
theorem dX8_shot_70 : decode cX8_shot 70 = .ok (.ireturn, 1) := by decide +kernel
theorem dX8_shot_71 : decode cX8_shot 71 = .ok (.aload_n 3, 1) := by decide +kernel
theorem dX8_shot_72 : decode cX8_shot 72 = .ok (.getfield 203, 3) := by decide +kernel
theorem dX8_shot_75 : decode cX8_shot 75 = .ok (.iload_n 1, 1) := by decide +kernel
theorem dX8_shot_76 : decode cX8_shot 76 = .ok (.iaload, 1) := by decide +kernel
theorem dX8_shot_77 : decode cX8_shot 77 = .ok (.ireturn, 1) := by decide +kernel
theorem dX8_shot_78 : decode cX8_shot 78 = .ok (.aload_n 3, 1) := by decide +kernel
theorem dX8_shot_79 : decode cX8_shot 79 = .ok (.getfield 153, 3) := by decide +kernel
theorem dX8_shot_82 : decode cX8_shot 82 = .ok (.iload_n 1, 1) := by decide +kernel
theorem dX8_shot_83 : decode cX8_shot 83 = .ok (.iaload, 1) := by decide +kernel
theorem dX8_shot_84 : decode cX8_shot 84 = .ok (.ireturn, 1) := by decide +kernel
theorem dX8_shot_85 : decode cX8_shot 85 = .ok (.aload_n 3, 1) := by decide +kernel
theorem dX8_shot_86 : decode cX8_shot 86 = .ok (.getfield 206, 3) := by decide +kernel
theorem dX8_shot_89 : decode cX8_shot 89 = .ok (.iload_n 1, 1) := by decide +kernel
theorem dX8_shot_90 : decode cX8_shot 90 = .ok (.iaload, 1) := by decide +kernel
theorem dX8_shot_91 : decode cX8_shot 91 = .ok (.ireturn, 1) := by decide +kernel
theorem dX8_shot_92 : decode cX8_shot 92 = .ok (.aload_n 3, 1) := by decide +kernel
theorem dX8_shot_93 : decode cX8_shot 93 = .ok (.getfield 208, 3) := by decide +kernel
theorem dX8_shot_96 : decode cX8_shot 96 = .ok (.iload_n 1, 1) := by decide +kernel
theorem dX8_shot_97 : decode cX8_shot 97 = .ok (.iaload, 1) := by decide +kernel
theorem dX8_shot_98 : decode cX8_shot 98 = .ok (.ireturn, 1) := by decide +kernel
theorem dX8_shot_99 : decode cX8_shot 99 = .ok (.aload_n 3, 1) := by decide +kernel
theorem dX8_shot_100 : decode cX8_shot 100 = .ok (.getfield 156, 3) := by decide +kernel
theorem dX8_shot_103 : decode cX8_shot 103 = .ok (.iload_n 1, 1) := by decide +kernel
theorem dX8_shot_104 : decode cX8_shot 104 = .ok (.baload, 1) := by decide +kernel
theorem dX8_shot_105 : decode cX8_shot 105 = .ok (.invokestatic 211, 3) := by decide +kernel
theorem dX8_shot_108 : decode cX8_shot 108 = .ok (.ireturn, 1) := by decide +kernel
theorem dX8_shot_109 : decode cX8_shot 109 = .ok (.aload_n 3, 1) := by decide +kernel
theorem dX8_shot_110 : decode cX8_shot 110 = .ok (.iload_n 1, 1) := by decide +kernel
theorem dX8_shot_111 : decode cX8_shot 111 = .ok (.aload_n 3, 1) := by decide +kernel
theorem dX8_shot_112 : decode cX8_shot 112 = .ok (.invokevirtual 215, 3) := by decide +kernel
theorem dX8_shot_115 : decode cX8_shot 115 = .ok (.aload_n 0, 1) := by decide +kernel
theorem dX8_shot_116 : decode cX8_shot 116 = .ok (.getfield 10, 3) := by decide +kernel
theorem dX8_shot_119 : decode cX8_shot 119 = .ok (.getfield 163, 3) := by decide +kernel
theorem dX8_shot_122 : decode cX8_shot 122 = .ok (.invokevirtual 218, 3) := by decide +kernel
theorem dX8_shot_125 : decode cX8_shot 125 = .ok (.invokestatic 211, 3) := by decide +kernel
theorem dX8_shot_128 : decode cX8_shot 128 = .ok (.ireturn, 1) := by decide +kernel
theorem dX8_shot_129 : decode cX8_shot 129 = .ok (.aload_n 3, 1) := by decide +kernel
theorem dX8_shot_130 : decode cX8_shot 130 = .ok (.getfield 221, 3) := by decide +kernel
theorem dX8_shot_133 : decode cX8_shot 133 = .ok (.iload_n 1, 1) := by decide +kernel
theorem dX8_shot_134 : decode cX8_shot 134 = .ok (.iaload, 1) := by decide +kernel
theorem dX8_shot_135 : decode cX8_shot 135 = .ok (.ireturn, 1) := by decide +kernel
theorem dX8_shot_136 : decode cX8_shot 136 = .ok (.bipush (-2), 2) := by decide +kernel
theorem dX8_shot_138 : decode cX8_shot 138 = .ok (.ireturn, 1) := by decide +kernel
set_option maxRecDepth 20000 in
theorem ggX8_would_X8_isPellet : GoodIn wsX8_would wsX8_isPellet := goodIn_r _ [6, 7, 8, 5, 9] (by decide +kernel) (by decide +kernel)
set_option maxRecDepth 20000 in
theorem gX8_would_X8_isPellet : GoodIn wsX8_would (va_wsS RX8 95 yX8_isPellet wsX8_isPellet) := goodIn_app (goodIn_of _ (by decide +kernel)) ggX8_would_X8_isPellet
set_option maxRecDepth 20000 in
theorem ggX8_would_X8_within : GoodIn wsX8_would wsX8_within := goodIn_r _ [9] (by decide +kernel) (by decide +kernel)
set_option maxRecDepth 20000 in
theorem gX8_would_X8_within : GoodIn wsX8_would (va_wsS RX8 40 yX8_within wsX8_within) := goodIn_app (goodIn_of _ (by decide +kernel)) ggX8_would_X8_within
set_option maxRecDepth 20000 in
theorem ggX8_would_X0_reasonNow : GoodIn wsX8_would wsX0_reasonNow := goodIn_r _ [14, 15, 16, 17, 18, 19, 13, 20, 21, 22, 23, 24, 25, 26, 27, 28, 29, 30, 31, 32, 33, 74, 75, 76, 77, 78, 79, 80, 81, 82] (by decide +kernel) (by decide +kernel)
set_option maxRecDepth 20000 in
theorem gX8_would_X0_reasonNow : GoodIn wsX8_would (wsV RX8 226 RX0 yX0_reasonNow wsX0_reasonNow) := goodIn_app (goodIn_of _ (by decide +kernel)) ggX8_would_X0_reasonNow
set_option maxRecDepth 20000 in
theorem ggX8_would_X0_firstHeight : GoodIn wsX8_would wsX0_firstHeight := goodIn_r _ [37, 38, 39, 40, 41, 42, 29, 43, 44, 45, 46, 13, 47, 48, 49, 50, 5, 51, 52, 53, 54, 55, 26, 74, 75, 76, 77, 78, 79, 80, 81, 82] (by decide +kernel) (by decide +kernel)
set_option maxRecDepth 20000 in
theorem gX8_would_X0_firstHeight : GoodIn wsX8_would (wsV RX8 229 RX0 yX0_firstHeight wsX0_firstHeight) := goodIn_app (goodIn_of _ (by decide +kernel)) ggX8_would_X0_firstHeight
set_option maxRecDepth 20000 in
theorem ggX8_would_X0_toldSpeed : GoodIn wsX8_would wsX0_toldSpeed := goodIn_r _ [59, 40, 39, 38, 44, 45, 46, 13, 47, 48, 49, 60, 5, 61, 62, 50, 51, 74, 75, 76, 77, 78, 79, 80, 81, 82] (by decide +kernel) (by decide +kernel)
set_option maxRecDepth 20000 in
theorem gX8_would_X0_toldSpeed : GoodIn wsX8_would (wsV RX8 232 RX0 yX0_toldSpeed wsX0_toldSpeed) := goodIn_app (goodIn_of _ (by decide +kernel)) ggX8_would_X0_toldSpeed
theorem dX8_would_0 : decode cX8_would 0 = .ok (.iload_n 1, 1) := by decide +kernel
theorem dX8_would_1 : decode cX8_would 1 = .ok (.iload_n 2, 1) := by decide +kernel
theorem dX8_would_2 : decode cX8_would 2 = .ok (.invokestatic 95, 3) := by decide +kernel
theorem dX8_would_5 : decode cX8_would 5 = .ok (.ifCond .eq 12, 3) := by decide +kernel
theorem dX8_would_8 : decode cX8_would 8 = .ok (.iload_n 3, 1) := by decide +kernel
theorem dX8_would_9 : decode cX8_would 9 = .ok (.iconst 2, 1) := by decide +kernel
theorem dX8_would_10 : decode cX8_would 10 = .ok (.iconst 4, 1) := by decide +kernel
theorem dX8_would_11 : decode cX8_would 11 = .ok (.invokestatic 40, 3) := by decide +kernel
theorem dX8_would_14 : decode cX8_would 14 = .ok (.ifCond .ne 6, 3) := by decide +kernel
theorem dX8_would_17 : decode cX8_would 17 = .ok (.bipush (-2), 2) := by decide +kernel
theorem dX8_would_19 : decode cX8_would 19 = .ok (.ireturn, 1) := by decide +kernel
theorem dX8_would_20 : decode cX8_would 20 = .ok (.aload_n 0, 1) := by decide +kernel
theorem dX8_would_21 : decode cX8_would 21 = .ok (.getfield 10, 3) := by decide +kernel
theorem dX8_would_24 : decode cX8_would 24 = .ok (.getfield 44, 3) := by decide +kernel
theorem dX8_would_27 : decode cX8_would 27 = .ok (.invokevirtual 226, 3) := by decide +kernel
theorem dX8_would_30 : decode cX8_would 30 = .ok (.istore 4, 2) := by decide +kernel
theorem dX8_would_32 : decode cX8_would 32 = .ok (.iload_n 3, 1) := by decide +kernel
theorem dX8_would_33 : decode cX8_would 33 = .ok (.iconst 2, 1) := by decide +kernel
theorem dX8_would_34 : decode cX8_would 34 = .ok (.if_icmp .ne 6, 3) := by decide +kernel
theorem dX8_would_37 : decode cX8_would 37 = .ok (.iload 4, 2) := by decide +kernel
theorem dX8_would_39 : decode cX8_would 39 = .ok (.ireturn, 1) := by decide +kernel
theorem dX8_would_40 : decode cX8_would 40 = .ok (.iload 4, 2) := by decide +kernel
theorem dX8_would_42 : decode cX8_would 42 = .ok (.ifCond .eq 5, 3) := by decide +kernel
theorem dX8_would_45 : decode cX8_would 45 = .ok (.iconst 0, 1) := by decide +kernel
theorem dX8_would_46 : decode cX8_would 46 = .ok (.ireturn, 1) := by decide +kernel
theorem dX8_would_47 : decode cX8_would 47 = .ok (.aload_n 0, 1) := by decide +kernel
theorem dX8_would_48 : decode cX8_would 48 = .ok (.getfield 10, 3) := by decide +kernel
theorem dX8_would_51 : decode cX8_would 51 = .ok (.getfield 44, 3) := by decide +kernel
theorem dX8_would_54 : decode cX8_would 54 = .ok (.iload_n 1, 1) := by decide +kernel
theorem dX8_would_55 : decode cX8_would 55 = .ok (.iload_n 2, 1) := by decide +kernel
theorem dX8_would_56 : decode cX8_would 56 = .ok (.invokevirtual 229, 3) := by decide +kernel
theorem dX8_would_59 : decode cX8_would 59 = .ok (.istore 5, 2) := by decide +kernel
theorem dX8_would_61 : decode cX8_would 61 = .ok (.iload_n 3, 1) := by decide +kernel
theorem dX8_would_62 : decode cX8_would 62 = .ok (.iconst 3, 1) := by decide +kernel
theorem dX8_would_63 : decode cX8_would 63 = .ok (.if_icmp .ne 8, 3) := by decide +kernel
theorem dX8_would_66 : decode cX8_would 66 = .ok (.iload 5, 2) := by decide +kernel
theorem dX8_would_68 : decode cX8_would 68 = .ok (.goto 16, 3) := by decide +kernel
theorem dX8_would_71 : decode cX8_would 71 = .ok (.aload_n 0, 1) := by decide +kernel
theorem dX8_would_72 : decode cX8_would 72 = .ok (.getfield 10, 3) := by decide +kernel
theorem dX8_would_75 : decode cX8_would 75 = .ok (.getfield 44, 3) := by decide +kernel
theorem dX8_would_78 : decode cX8_would 78 = .ok (.iload 5, 2) := by decide +kernel
theorem dX8_would_80 : decode cX8_would 80 = .ok (.iload_n 1, 1) := by decide +kernel
theorem dX8_would_81 : decode cX8_would 81 = .ok (.invokevirtual 232, 3) := by decide +kernel
theorem dX8_would_84 : decode cX8_would 84 = .ok (.ireturn, 1) := by decide +kernel
set_option maxRecDepth 20000 in
theorem ggX8_lengthOf_X8_within : GoodIn wsX8_lengthOf wsX8_within := goodIn_r _ [7] (by decide +kernel) (by decide +kernel)
set_option maxRecDepth 20000 in
theorem gX8_lengthOf_X8_within : GoodIn wsX8_lengthOf (va_wsS RX8 40 yX8_within wsX8_within) := goodIn_app (goodIn_of _ (by decide +kernel)) ggX8_lengthOf_X8_within
theorem dX8_lengthOf_0 : decode cX8_lengthOf 0 = .ok (.iload_n 1, 1) := by decide +kernel
theorem dX8_lengthOf_1 : decode cX8_lengthOf 1 = .ok (.iconst 0, 1) := by decide +kernel
theorem dX8_lengthOf_2 : decode cX8_lengthOf 2 = .ok (.iconst 3, 1) := by decide +kernel
theorem dX8_lengthOf_3 : decode cX8_lengthOf 3 = .ok (.invokestatic 40, 3) := by decide +kernel
theorem dX8_lengthOf_6 : decode cX8_lengthOf 6 = .ok (.ifCond .ne 5, 3) := by decide +kernel
theorem dX8_lengthOf_9 : decode cX8_lengthOf 9 = .ok (.iconst (-1), 1) := by decide +kernel
theorem dX8_lengthOf_10 : decode cX8_lengthOf 10 = .ok (.ireturn, 1) := by decide +kernel
theorem dX8_lengthOf_11 : decode cX8_lengthOf 11 = .ok (.aload_n 0, 1) := by decide +kernel
theorem dX8_lengthOf_12 : decode cX8_lengthOf 12 = .ok (.getfield 10, 3) := by decide +kernel
theorem dX8_lengthOf_15 : decode cX8_lengthOf 15 = .ok (.getfield 44, 3) := by decide +kernel
theorem dX8_lengthOf_18 : decode cX8_lengthOf 18 = .ok (.getfield 71, 3) := by decide +kernel
theorem dX8_lengthOf_21 : decode cX8_lengthOf 21 = .ok (.iload_n 1, 1) := by decide +kernel
theorem dX8_lengthOf_22 : decode cX8_lengthOf 22 = .ok (.iaload, 1) := by decide +kernel
theorem dX8_lengthOf_23 : decode cX8_lengthOf 23 = .ok (.ireturn, 1) := by decide +kernel
set_option maxRecDepth 20000 in
theorem ggX8_series_X1_seriesSize : GoodIn wsX8_series wsX1_seriesSize := goodIn_r _ [9, 10, 11, 12, 13, 8, 14, 15, 16, 17, 18, 19, 20, 96, 97, 98, 99, 100, 101, 102, 103] (by decide +kernel) (by decide +kernel)
set_option maxRecDepth 20000 in
theorem gX8_series_X1_seriesSize : GoodIn wsX8_series (wsV RX8 160 RX1 yX1_seriesSize wsX1_seriesSize) := goodIn_app (goodIn_of _ (by decide +kernel)) ggX8_series_X1_seriesSize
set_option maxRecDepth 20000 in
theorem ggX8_series_X1_mean : GoodIn wsX8_series wsX1_mean := goodIn_r _ [24, 10, 25, 11, 12, 13, 8, 14, 15, 16, 17, 18, 19, 20, 26, 27, 28, 96, 97, 98, 99, 100, 101, 102, 103] (by decide +kernel) (by decide +kernel)
set_option maxRecDepth 20000 in
theorem gX8_series_X1_mean : GoodIn wsX8_series (wsV RX8 215 RX1 yX1_mean wsX1_mean) := goodIn_app (goodIn_of _ (by decide +kernel)) ggX8_series_X1_mean
set_option maxRecDepth 20000 in
theorem ggX8_series_X1_spread : GoodIn wsX8_series wsX1_spread := goodIn_r _ [32, 25, 10, 33, 34, 35, 36, 37, 38, 39, 40, 41, 42, 8, 43, 11, 12, 13, 14, 15, 16, 17, 18, 19, 20, 96, 97, 98, 99, 100, 101, 102, 103] (by decide +kernel) (by decide +kernel)
set_option maxRecDepth 20000 in
theorem gX8_series_X1_spread : GoodIn wsX8_series (wsV RX8 235 RX1 yX1_spread wsX1_spread) := goodIn_app (goodIn_of _ (by decide +kernel)) ggX8_series_X1_spread
set_option maxRecDepth 20000 in
theorem ggX8_series_X1_badShots : GoodIn wsX8_series wsX1_badShots := goodIn_r _ [47, 10, 48, 22, 23, 8, 24, 25, 11, 12, 13, 14, 15, 16, 17, 18, 19, 20, 26, 27, 28, 49, 50, 51, 52, 53, 54, 55, 56, 35, 57, 96, 97, 98, 99, 100, 101, 102, 103] (by decide +kernel) (by decide +kernel)
set_option maxRecDepth 20000 in
theorem gX8_series_X1_badShots : GoodIn wsX8_series (wsV RX8 238 RX1 yX1_badShots wsX1_badShots) := goodIn_app (goodIn_of _ (by decide +kernel)) ggX8_series_X1_badShots
set_option maxRecDepth 20000 in
theorem ggX8_series_X1_firstOfSeries : GoodIn wsX8_series wsX1_firstOfSeries := goodIn_r _ [43, 10, 11, 12, 13, 8, 14, 15, 16, 17, 18, 19, 20, 96, 97, 98, 99, 100, 101, 102, 103] (by decide +kernel) (by decide +kernel)
set_option maxRecDepth 20000 in
theorem gX8_series_X1_firstOfSeries : GoodIn wsX8_series (wsV RX8 241 RX1 yX1_firstOfSeries wsX1_firstOfSeries) := goodIn_app (goodIn_of _ (by decide +kernel)) ggX8_series_X1_firstOfSeries
set_option maxRecDepth 20000 in
theorem ggX8_series_X1_nearestToMean : GoodIn wsX8_series wsX1_nearestToMean := goodIn_r _ [62, 10, 25, 48, 22, 23, 8, 24, 11, 12, 13, 14, 15, 16, 17, 18, 19, 20, 26, 27, 28, 53, 54, 55, 56, 35, 57, 96, 97, 98, 99, 100, 101, 102, 103] (by decide +kernel) (by decide +kernel)
set_option maxRecDepth 20000 in
theorem gX8_series_X1_nearestToMean : GoodIn wsX8_series (wsV RX8 244 RX1 yX1_nearestToMean wsX1_nearestToMean) := goodIn_app (goodIn_of _ (by decide +kernel)) ggX8_series_X1_nearestToMean
set_option maxRecDepth 20000 in
theorem ggX8_series_X5_metBy : GoodIn wsX8_series wsX5_metBy := goodIn_r _ [67, 68, 69, 70, 71, 66, 72, 73, 6, 7, 8, 9, 10, 11, 12, 13, 14, 15, 16, 17, 18, 19, 20, 74, 22, 23, 24, 25, 26, 27, 28, 75, 76, 77, 78, 79, 80, 81, 82, 83, 84, 53, 54, 55, 56, 35, 57, 104, 105, 106, 96, 97, 98, 99, 100, 101, 102, 103] (by decide +kernel) (by decide +kernel)
set_option maxRecDepth 20000 in
theorem gX8_series_X5_metBy : GoodIn wsX8_series (wsV RX8 247 RX5 yX5_metBy wsX5_metBy) := goodIn_app (goodIn_of _ (by decide +kernel)) ggX8_series_X5_metBy
theorem dX8_series_0 : decode cX8_series 0 = .ok (.aload_n 0, 1) := by decide +kernel
theorem dX8_series_1 : decode cX8_series 1 = .ok (.getfield 10, 3) := by decide +kernel
theorem dX8_series_4 : decode cX8_series 4 = .ok (.getfield 139, 3) := by decide +kernel
theorem dX8_series_7 : decode cX8_series 7 = .ok (.astore_n 2, 1) := by decide +kernel
theorem dX8_series_8 : decode cX8_series 8 = .ok (.aload_n 2, 1) := by decide +kernel
theorem dX8_series_9 : decode cX8_series 9 = .ok (.invokevirtual 160, 3) := by decide +kernel
theorem dX8_series_12 : decode cX8_series 12 = .ok (.ifCond .ne 7, 3) := by decide +kernel
theorem dX8_series_15 : decode cX8_series 15 = .ok (.iconst 1, 1) := by decide +kernel
theorem dX8_series_16 : decode cX8_series 16 = .ok (.goto 4, 3) := by decide +kernel
theorem dX8_series_19 : decode cX8_series 19 = .ok (.iconst 0, 1) := by decide +kernel
theorem dX8_series_20 : decode cX8_series 20 = .ok (.istore_n 3, 1) := by decide +kernel
theorem dX8_series_21 : decode cX8_series 21 = .ok (.iload_n 1, 1) := by decide +kernel
theorem dX8_series_22 : decode cX8_series 22 = .ok (.tableswitch 118 0 6 #[42, 47, 61, 66, 78, 92, 106], 42) := by decide +kernel
theorem dX8_series_64 : decode cX8_series 64 = .ok (.aload_n 2, 1) := by decide +kernel
theorem dX8_series_65 : decode cX8_series 65 = .ok (.invokevirtual 160, 3) := by decide +kernel
theorem dX8_series_68 : decode cX8_series 68 = .ok (.ireturn, 1) := by decide +kernel
theorem dX8_series_69 : decode cX8_series 69 = .ok (.iload_n 3, 1) := by decide +kernel
theorem dX8_series_70 : decode cX8_series 70 = .ok (.ifCond .eq 8, 3) := by decide +kernel
theorem dX8_series_73 : decode cX8_series 73 = .ok (.bipush (-5), 2) := by decide +kernel
theorem dX8_series_75 : decode cX8_series 75 = .ok (.goto 7, 3) := by decide +kernel
theorem dX8_series_78 : decode cX8_series 78 = .ok (.aload_n 2, 1) := by decide +kernel
theorem dX8_series_79 : decode cX8_series 79 = .ok (.invokevirtual 215, 3) := by decide +kernel
theorem dX8_series_82 : decode cX8_series 82 = .ok (.ireturn, 1) := by decide +kernel
theorem dX8_series_83 : decode cX8_series 83 = .ok (.aload_n 2, 1) := by decide +kernel
theorem dX8_series_84 : decode cX8_series 84 = .ok (.invokevirtual 235, 3) := by decide +kernel
theorem dX8_series_87 : decode cX8_series 87 = .ok (.ireturn, 1) := by decide +kernel
theorem dX8_series_88 : decode cX8_series 88 = .ok (.aload_n 2, 1) := by decide +kernel
theorem dX8_series_89 : decode cX8_series 89 = .ok (.aload_n 0, 1) := by decide +kernel
theorem dX8_series_90 : decode cX8_series 90 = .ok (.getfield 10, 3) := by decide +kernel
theorem dX8_series_93 : decode cX8_series 93 = .ok (.getfield 163, 3) := by decide +kernel
theorem dX8_series_96 : decode cX8_series 96 = .ok (.invokevirtual 238, 3) := by decide +kernel
theorem dX8_series_99 : decode cX8_series 99 = .ok (.ireturn, 1) := by decide +kernel
theorem dX8_series_100 : decode cX8_series 100 = .ok (.iload_n 3, 1) := by decide +kernel
theorem dX8_series_101 : decode cX8_series 101 = .ok (.ifCond .eq 8, 3) := by decide +kernel
theorem dX8_series_104 : decode cX8_series 104 = .ok (.bipush (-5), 2) := by decide +kernel
theorem dX8_series_106 : decode cX8_series 106 = .ok (.goto 7, 3) := by decide +kernel
theorem dX8_series_109 : decode cX8_series 109 = .ok (.aload_n 2, 1) := by decide +kernel
theorem dX8_series_110 : decode cX8_series 110 = .ok (.invokevirtual 241, 3) := by decide +kernel
theorem dX8_series_113 : decode cX8_series 113 = .ok (.ireturn, 1) := by decide +kernel
theorem dX8_series_114 : decode cX8_series 114 = .ok (.iload_n 3, 1) := by decide +kernel
theorem dX8_series_115 : decode cX8_series 115 = .ok (.ifCond .eq 8, 3) := by decide +kernel
theorem dX8_series_118 : decode cX8_series 118 = .ok (.bipush (-5), 2) := by decide +kernel
theorem dX8_series_120 : decode cX8_series 120 = .ok (.goto 7, 3) := by decide +kernel
theorem dX8_series_123 : decode cX8_series 123 = .ok (.aload_n 2, 1) := by decide +kernel
theorem dX8_series_124 : decode cX8_series 124 = .ok (.invokevirtual 244, 3) := by decide +kernel
theorem dX8_series_127 : decode cX8_series 127 = .ok (.ireturn, 1) := by decide +kernel
theorem dX8_series_128 : decode cX8_series 128 = .ok (.aload_n 0, 1) := by decide +kernel
theorem dX8_series_129 : decode cX8_series 129 = .ok (.getfield 10, 3) := by decide +kernel
theorem dX8_series_132 : decode cX8_series 132 = .ok (.getfield 172, 3) := by decide +kernel
theorem dX8_series_135 : decode cX8_series 135 = .ok (.aload_n 2, 1) := by decide +kernel
theorem dX8_series_136 : decode cX8_series 136 = .ok (.invokevirtual 247, 3) := by decide +kernel
theorem dX8_series_139 : decode cX8_series 139 = .ok (.ireturn, 1) := by decide +kernel
theorem dX8_series_140 : decode cX8_series 140 = .ok (.bipush (-2), 2) := by decide +kernel
theorem dX8_series_142 : decode cX8_series 142 = .ok (.ireturn, 1) := by decide +kernel
set_option maxRecDepth 20000 in
theorem ggX8_standard_X5_has : GoodIn wsX8_standard wsX5_has := goodIn_r _ [10, 11, 74, 75, 76] (by decide +kernel) (by decide +kernel)
set_option maxRecDepth 20000 in
theorem gX8_standard_X5_has : GoodIn wsX8_standard (wsV RX8 180 RX5 yX5_has wsX5_has) := goodIn_app (goodIn_of _ (by decide +kernel)) ggX8_standard_X5_has
set_option maxRecDepth 20000 in
theorem ggX8_standard_X5_isMet : GoodIn wsX8_standard wsX5_isMet := goodIn_r _ [15, 16, 17, 18, 19, 20, 21, 22, 23, 24, 25, 26, 27, 28, 29, 30, 31, 32, 33, 34, 35, 36, 37, 38, 39, 40, 41, 42, 9, 43, 44, 45, 46, 7, 8, 10, 11, 47, 48, 49, 50, 51, 52, 77, 78, 79, 80, 81, 82, 83, 84, 74, 75, 76] (by decide +kernel) (by decide +kernel)
set_option maxRecDepth 20000 in
theorem gX8_standard_X5_isMet : GoodIn wsX8_standard (wsV RX8 255 RX5 yX5_isMet wsX5_isMet) := goodIn_app (goodIn_of _ (by decide +kernel)) ggX8_standard_X5_isMet
set_option maxRecDepth 20000 in
theorem ggX8_standard_X8_asNumber : GoodIn wsX8_standard wsX8_asNumber := goodIn_r _ [55] (by decide +kernel) (by decide +kernel)
set_option maxRecDepth 20000 in
theorem gX8_standard_X8_asNumber : GoodIn wsX8_standard (va_wsS RX8 211 yX8_asNumber wsX8_asNumber) := goodIn_app (goodIn_of _ (by decide +kernel)) ggX8_standard_X8_asNumber
set_option maxRecDepth 20000 in
theorem ggX8_standard_X5_shotsWithin : GoodIn wsX8_standard wsX5_shotsWithin := goodIn_r _ [59, 60, 61, 62, 23, 24, 19, 25, 26, 27, 28, 29, 30, 31, 21, 40, 41, 42, 9, 43, 44, 45, 46, 7, 8, 10, 11, 47, 38, 48, 49, 50, 51, 52, 77, 78, 79, 80, 81, 82, 83, 84, 74, 75, 76] (by decide +kernel) (by decide +kernel)
set_option maxRecDepth 20000 in
theorem gX8_standard_X5_shotsWithin : GoodIn wsX8_standard (wsV RX8 259 RX5 yX5_shotsWithin wsX5_shotsWithin) := goodIn_app (goodIn_of _ (by decide +kernel)) ggX8_standard_X5_shotsWithin
theorem dX8_standard_0 : decode cX8_standard 0 = .ok (.aload_n 0, 1) := by decide +kernel
theorem dX8_standard_1 : decode cX8_standard 1 = .ok (.getfield 10, 3) := by decide +kernel
theorem dX8_standard_4 : decode cX8_standard 4 = .ok (.getfield 172, 3) := by decide +kernel
theorem dX8_standard_7 : decode cX8_standard 7 = .ok (.astore_n 3, 1) := by decide +kernel
theorem dX8_standard_8 : decode cX8_standard 8 = .ok (.aload_n 3, 1) := by decide +kernel
theorem dX8_standard_9 : decode cX8_standard 9 = .ok (.iload_n 1, 1) := by decide +kernel
theorem dX8_standard_10 : decode cX8_standard 10 = .ok (.invokevirtual 180, 3) := by decide +kernel
theorem dX8_standard_13 : decode cX8_standard 13 = .ok (.ifCond .ne 5, 3) := by decide +kernel
theorem dX8_standard_16 : decode cX8_standard 16 = .ok (.iconst (-1), 1) := by decide +kernel
theorem dX8_standard_17 : decode cX8_standard 17 = .ok (.ireturn, 1) := by decide +kernel
theorem dX8_standard_18 : decode cX8_standard 18 = .ok (.iload_n 2, 1) := by decide +kernel
theorem dX8_standard_19 : decode cX8_standard 19 = .ok (.tableswitch 72 0 3 #[29, 36, 43, 59], 29) := by decide +kernel
theorem dX8_standard_48 : decode cX8_standard 48 = .ok (.aload_n 3, 1) := by decide +kernel
theorem dX8_standard_49 : decode cX8_standard 49 = .ok (.getfield 251, 3) := by decide +kernel
theorem dX8_standard_52 : decode cX8_standard 52 = .ok (.iload_n 1, 1) := by decide +kernel
theorem dX8_standard_53 : decode cX8_standard 53 = .ok (.iaload, 1) := by decide +kernel
theorem dX8_standard_54 : decode cX8_standard 54 = .ok (.ireturn, 1) := by decide +kernel
theorem dX8_standard_55 : decode cX8_standard 55 = .ok (.aload_n 3, 1) := by decide +kernel
theorem dX8_standard_56 : decode cX8_standard 56 = .ok (.getfield 252, 3) := by decide +kernel
theorem dX8_standard_59 : decode cX8_standard 59 = .ok (.iload_n 1, 1) := by decide +kernel
theorem dX8_standard_60 : decode cX8_standard 60 = .ok (.iaload, 1) := by decide +kernel
theorem dX8_standard_61 : decode cX8_standard 61 = .ok (.ireturn, 1) := by decide +kernel
theorem dX8_standard_62 : decode cX8_standard 62 = .ok (.aload_n 3, 1) := by decide +kernel
theorem dX8_standard_63 : decode cX8_standard 63 = .ok (.iload_n 1, 1) := by decide +kernel
theorem dX8_standard_64 : decode cX8_standard 64 = .ok (.aload_n 0, 1) := by decide +kernel
theorem dX8_standard_65 : decode cX8_standard 65 = .ok (.getfield 10, 3) := by decide +kernel
theorem dX8_standard_68 : decode cX8_standard 68 = .ok (.getfield 139, 3) := by decide +kernel
theorem dX8_standard_71 : decode cX8_standard 71 = .ok (.invokevirtual 255, 3) := by decide +kernel
theorem dX8_standard_74 : decode cX8_standard 74 = .ok (.invokestatic 211, 3) := by decide +kernel
theorem dX8_standard_77 : decode cX8_standard 77 = .ok (.ireturn, 1) := by decide +kernel
theorem dX8_standard_78 : decode cX8_standard 78 = .ok (.aload_n 3, 1) := by decide +kernel
theorem dX8_standard_79 : decode cX8_standard 79 = .ok (.iload_n 1, 1) := by decide +kernel
theorem dX8_standard_80 : decode cX8_standard 80 = .ok (.aload_n 0, 1) := by decide +kernel
theorem dX8_standard_81 : decode cX8_standard 81 = .ok (.getfield 10, 3) := by decide +kernel
theorem dX8_standard_84 : decode cX8_standard 84 = .ok (.getfield 139, 3) := by decide +kernel
theorem dX8_standard_87 : decode cX8_standard 87 = .ok (.invokevirtual 259, 3) := by decide +kernel
theorem dX8_standard_90 : decode cX8_standard 90 = .ok (.ireturn, 1) := by decide +kernel
theorem dX8_standard_91 : decode cX8_standard 91 = .ok (.bipush (-2), 2) := by decide +kernel
theorem dX8_standard_93 : decode cX8_standard 93 = .ok (.ireturn, 1) := by decide +kernel
set_option maxRecDepth 20000 in
theorem ggX8_untilRest_X0_isSwinging : GoodIn wsX8_untilRest wsX0_isSwinging := goodIn_r _ [7, 8, 34, 35, 36, 37, 38, 39, 40, 41, 42] (by decide +kernel) (by decide +kernel)
set_option maxRecDepth 20000 in
theorem gX8_untilRest_X0_isSwinging : GoodIn wsX8_untilRest (wsV RX8 48 RX0 yX0_isSwinging wsX0_isSwinging) := goodIn_app (goodIn_of _ (by decide +kernel)) ggX8_untilRest_X0_isSwinging
set_option maxRecDepth 20000 in
theorem ggX8_untilRest_X0_halvesLeft : GoodIn wsX8_untilRest wsX0_halvesLeft := goodIn_r _ [12, 13, 8, 14, 15, 16, 17, 18, 19, 20, 21, 6, 22, 34, 35, 36, 37, 38, 39, 40, 41, 42] (by decide +kernel) (by decide +kernel)
set_option maxRecDepth 20000 in
theorem gX8_untilRest_X0_halvesLeft : GoodIn wsX8_untilRest (wsV RX8 263 RX0 yX0_halvesLeft wsX0_halvesLeft) := goodIn_app (goodIn_of _ (by decide +kernel)) ggX8_untilRest_X0_halvesLeft
theorem dX8_untilRest_0 : decode cX8_untilRest 0 = .ok (.aload_n 0, 1) := by decide +kernel
theorem dX8_untilRest_1 : decode cX8_untilRest 1 = .ok (.getfield 10, 3) := by decide +kernel
theorem dX8_untilRest_4 : decode cX8_untilRest 4 = .ok (.getfield 44, 3) := by decide +kernel
theorem dX8_untilRest_7 : decode cX8_untilRest 7 = .ok (.invokevirtual 48, 3) := by decide +kernel
theorem dX8_untilRest_10 : decode cX8_untilRest 10 = .ok (.ifCond .eq 16, 3) := by decide +kernel
theorem dX8_untilRest_13 : decode cX8_untilRest 13 = .ok (.aload_n 0, 1) := by decide +kernel
theorem dX8_untilRest_14 : decode cX8_untilRest 14 = .ok (.getfield 10, 3) := by decide +kernel
theorem dX8_untilRest_17 : decode cX8_untilRest 17 = .ok (.getfield 44, 3) := by decide +kernel
theorem dX8_untilRest_20 : decode cX8_untilRest 20 = .ok (.invokevirtual 263, 3) := by decide +kernel
theorem dX8_untilRest_23 : decode cX8_untilRest 23 = .ok (.goto 5, 3) := by decide +kernel
theorem dX8_untilRest_26 : decode cX8_untilRest 26 = .ok (.bipush (-5), 2) := by decide +kernel
theorem dX8_untilRest_28 : decode cX8_untilRest 28 = .ok (.ireturn, 1) := by decide +kernel
set_option maxRecDepth 20000 in
theorem ggX8_count_X8_within : GoodIn wsX8_count wsX8_within := goodIn_r _ [21] (by decide +kernel) (by decide +kernel)
set_option maxRecDepth 20000 in
theorem gX8_count_X8_within : GoodIn wsX8_count (va_wsS RX8 40 yX8_within wsX8_within) := goodIn_app (goodIn_of _ (by decide +kernel)) ggX8_count_X8_within
set_option maxRecDepth 20000 in
theorem ggX8_count_X8_countOfBlock : GoodIn wsX8_count wsX8_countOfBlock := goodIn_r _ [25, 1, 2, 26, 27, 28, 29, 30, 31, 32, 33, 34, 35, 36, 37, 38, 39, 40, 41, 42, 43, 44, 45, 46, 47, 48, 49, 50, 51, 52, 53, 54, 55, 20, 56, 64, 65, 66, 67, 68, 69, 70, 71, 72, 73, 74, 75, 76, 77, 78, 79, 80, 81, 82, 83] (by decide +kernel) (by decide +kernel)
set_option maxRecDepth 20000 in
theorem gX8_count_X8_countOfBlock : GoodIn wsX8_count (wsV RX8 266 RX8 yX8_countOfBlock wsX8_countOfBlock) := goodIn_app (goodIn_of _ (by decide +kernel)) ggX8_count_X8_countOfBlock
set_option maxRecDepth 20000 in
theorem ggX8_count_X1_notCounting : GoodIn wsX8_count wsX1_notCounting := goodIn_r _ [61, 62, 63, 84, 85, 86, 87, 88, 89, 90, 91] (by decide +kernel) (by decide +kernel)
set_option maxRecDepth 20000 in
theorem gX8_count_X1_notCounting : GoodIn wsX8_count (wsV RX8 269 RX1 yX1_notCounting wsX1_notCounting) := goodIn_app (goodIn_of _ (by decide +kernel)) ggX8_count_X1_notCounting
theorem dX8_count_0 : decode cX8_count 0 = .ok (.iload_n 1, 1) := by decide +kernel
theorem dX8_count_1 : decode cX8_count 1 = .ok (.iconst 0, 1) := by decide +kernel
theorem dX8_count_2 : decode cX8_count 2 = .ok (.bipush 20, 2) := by decide +kernel
theorem dX8_count_4 : decode cX8_count 4 = .ok (.invokestatic 40, 3) := by decide +kernel
theorem dX8_count_7 : decode cX8_count 7 = .ok (.ifCond .ne 6, 3) := by decide +kernel
theorem dX8_count_10 : decode cX8_count 10 = .ok (.bipush (-2), 2) := by decide +kernel
theorem dX8_count_12 : decode cX8_count 12 = .ok (.ireturn, 1) := by decide +kernel
theorem dX8_count_13 : decode cX8_count 13 = .ok (.iload_n 1, 1) := by decide +kernel
theorem dX8_count_14 : decode cX8_count 14 = .ok (.bipush 6, 2) := by decide +kernel
theorem dX8_count_16 : decode cX8_count 16 = .ok (.if_icmp .gt 9, 3) := by decide +kernel
theorem dX8_count_19 : decode cX8_count 19 = .ok (.aload_n 0, 1) := by decide +kernel
theorem dX8_count_20 : decode cX8_count 20 = .ok (.iload_n 1, 1) := by decide +kernel
theorem dX8_count_21 : decode cX8_count 21 = .ok (.invokevirtual 266, 3) := by decide +kernel
theorem dX8_count_24 : decode cX8_count 24 = .ok (.ireturn, 1) := by decide +kernel
theorem dX8_count_25 : decode cX8_count 25 = .ok (.iload_n 1, 1) := by decide +kernel
theorem dX8_count_26 : decode cX8_count 26 = .ok (.bipush 15, 2) := by decide +kernel
theorem dX8_count_28 : decode cX8_count 28 = .ok (.if_icmp .lt 25, 3) := by decide +kernel
theorem dX8_count_31 : decode cX8_count 31 = .ok (.iload_n 1, 1) := by decide +kernel
theorem dX8_count_32 : decode cX8_count 32 = .ok (.bipush 18, 2) := by decide +kernel
theorem dX8_count_34 : decode cX8_count 34 = .ok (.if_icmp .gt 19, 3) := by decide +kernel
theorem dX8_count_37 : decode cX8_count 37 = .ok (.aload_n 0, 1) := by decide +kernel
theorem dX8_count_38 : decode cX8_count 38 = .ok (.getfield 10, 3) := by decide +kernel
theorem dX8_count_41 : decode cX8_count 41 = .ok (.getfield 44, 3) := by decide +kernel
theorem dX8_count_44 : decode cX8_count 44 = .ok (.getfield 85, 3) := by decide +kernel
theorem dX8_count_47 : decode cX8_count 47 = .ok (.iload_n 1, 1) := by decide +kernel
theorem dX8_count_48 : decode cX8_count 48 = .ok (.bipush 15, 2) := by decide +kernel
theorem dX8_count_50 : decode cX8_count 50 = .ok (.isub, 1) := by decide +kernel
theorem dX8_count_51 : decode cX8_count 51 = .ok (.iaload, 1) := by decide +kernel
theorem dX8_count_52 : decode cX8_count 52 = .ok (.ireturn, 1) := by decide +kernel
theorem dX8_count_53 : decode cX8_count 53 = .ok (.iload_n 1, 1) := by decide +kernel
theorem dX8_count_54 : decode cX8_count 54 = .ok (.tableswitch 159 7 19 #[66, 77, 88, 99, 110, 121, 132, 143, 159, 159, 159, 159, 151], 66) := by decide +kernel
theorem dX8_count_120 : decode cX8_count 120 = .ok (.aload_n 0, 1) := by decide +kernel
theorem dX8_count_121 : decode cX8_count 121 = .ok (.getfield 10, 3) := by decide +kernel
theorem dX8_count_124 : decode cX8_count 124 = .ok (.getfield 139, 3) := by decide +kernel
theorem dX8_count_127 : decode cX8_count 127 = .ok (.getfield 143, 3) := by decide +kernel
theorem dX8_count_130 : decode cX8_count 130 = .ok (.ireturn, 1) := by decide +kernel
theorem dX8_count_131 : decode cX8_count 131 = .ok (.aload_n 0, 1) := by decide +kernel
theorem dX8_count_132 : decode cX8_count 132 = .ok (.getfield 10, 3) := by decide +kernel
theorem dX8_count_135 : decode cX8_count 135 = .ok (.getfield 139, 3) := by decide +kernel
theorem dX8_count_138 : decode cX8_count 138 = .ok (.invokevirtual 269, 3) := by decide +kernel
theorem dX8_count_141 : decode cX8_count 141 = .ok (.ireturn, 1) := by decide +kernel
theorem dX8_count_142 : decode cX8_count 142 = .ok (.aload_n 0, 1) := by decide +kernel
theorem dX8_count_143 : decode cX8_count 143 = .ok (.getfield 10, 3) := by decide +kernel
theorem dX8_count_146 : decode cX8_count 146 = .ok (.getfield 99, 3) := by decide +kernel
theorem dX8_count_149 : decode cX8_count 149 = .ok (.getfield 103, 3) := by decide +kernel
theorem dX8_count_152 : decode cX8_count 152 = .ok (.ireturn, 1) := by decide +kernel
theorem dX8_count_153 : decode cX8_count 153 = .ok (.aload_n 0, 1) := by decide +kernel
theorem dX8_count_154 : decode cX8_count 154 = .ok (.getfield 10, 3) := by decide +kernel
theorem dX8_count_157 : decode cX8_count 157 = .ok (.getfield 44, 3) := by decide +kernel
theorem dX8_count_160 : decode cX8_count 160 = .ok (.getfield 272, 3) := by decide +kernel
theorem dX8_count_163 : decode cX8_count 163 = .ok (.ireturn, 1) := by decide +kernel
theorem dX8_count_164 : decode cX8_count 164 = .ok (.aload_n 0, 1) := by decide +kernel
theorem dX8_count_165 : decode cX8_count 165 = .ok (.getfield 10, 3) := by decide +kernel
theorem dX8_count_168 : decode cX8_count 168 = .ok (.getfield 44, 3) := by decide +kernel
theorem dX8_count_171 : decode cX8_count 171 = .ok (.getfield 275, 3) := by decide +kernel
theorem dX8_count_174 : decode cX8_count 174 = .ok (.ireturn, 1) := by decide +kernel
theorem dX8_count_175 : decode cX8_count 175 = .ok (.aload_n 0, 1) := by decide +kernel
theorem dX8_count_176 : decode cX8_count 176 = .ok (.getfield 10, 3) := by decide +kernel
theorem dX8_count_179 : decode cX8_count 179 = .ok (.getfield 44, 3) := by decide +kernel
theorem dX8_count_182 : decode cX8_count 182 = .ok (.getfield 278, 3) := by decide +kernel
theorem dX8_count_185 : decode cX8_count 185 = .ok (.ireturn, 1) := by decide +kernel
theorem dX8_count_186 : decode cX8_count 186 = .ok (.aload_n 0, 1) := by decide +kernel
theorem dX8_count_187 : decode cX8_count 187 = .ok (.getfield 10, 3) := by decide +kernel
theorem dX8_count_190 : decode cX8_count 190 = .ok (.getfield 172, 3) := by decide +kernel
theorem dX8_count_193 : decode cX8_count 193 = .ok (.getfield 176, 3) := by decide +kernel
theorem dX8_count_196 : decode cX8_count 196 = .ok (.ireturn, 1) := by decide +kernel
theorem dX8_count_197 : decode cX8_count 197 = .ok (.aload_n 0, 1) := by decide +kernel
theorem dX8_count_198 : decode cX8_count 198 = .ok (.getfield 10, 3) := by decide +kernel
theorem dX8_count_201 : decode cX8_count 201 = .ok (.getfield 163, 3) := by decide +kernel
theorem dX8_count_204 : decode cX8_count 204 = .ok (.ireturn, 1) := by decide +kernel
theorem dX8_count_205 : decode cX8_count 205 = .ok (.aload_n 0, 1) := by decide +kernel
theorem dX8_count_206 : decode cX8_count 206 = .ok (.getfield 22, 3) := by decide +kernel
theorem dX8_count_209 : decode cX8_count 209 = .ok (.getfield 190, 3) := by decide +kernel
theorem dX8_count_212 : decode cX8_count 212 = .ok (.ireturn, 1) := by decide +kernel
theorem dX8_count_213 : decode cX8_count 213 = .ok (.aload_n 0, 1) := by decide +kernel
theorem dX8_count_214 : decode cX8_count 214 = .ok (.getfield 29, 3) := by decide +kernel
theorem dX8_count_217 : decode cX8_count 217 = .ok (.getfield 184, 3) := by decide +kernel
theorem dX8_count_220 : decode cX8_count 220 = .ok (.ireturn, 1) := by decide +kernel
set_option maxRecDepth 20000 in
theorem ggX8_countOfBlock_X0_wholeMass : GoodIn wsX8_countOfBlock wsX0_wholeMass := goodIn_r _ [11, 12, 13, 46, 47, 48, 49, 50, 51, 52, 53, 54] (by decide +kernel) (by decide +kernel)
set_option maxRecDepth 20000 in
theorem gX8_countOfBlock_X0_wholeMass : GoodIn wsX8_countOfBlock (wsV RX8 281 RX0 yX0_wholeMass wsX0_wholeMass) := goodIn_app (goodIn_of _ (by decide +kernel)) ggX8_countOfBlock_X0_wholeMass
set_option maxRecDepth 20000 in
theorem ggX8_countOfBlock_X0_meanLength : GoodIn wsX8_countOfBlock wsX0_meanLength := goodIn_r _ [17, 18, 46, 47, 48, 49, 50, 51, 52, 53, 54] (by decide +kernel) (by decide +kernel)
set_option maxRecDepth 20000 in
theorem gX8_countOfBlock_X0_meanLength : GoodIn wsX8_countOfBlock (wsV RX8 75 RX0 yX0_meanLength wsX0_meanLength) := goodIn_app (goodIn_of _ (by decide +kernel)) ggX8_countOfBlock_X0_meanLength
set_option maxRecDepth 20000 in
theorem ggX8_countOfBlock_X0_isStraight : GoodIn wsX8_countOfBlock wsX0_isStraight := goodIn_r _ [22, 18, 23, 24, 25, 26, 27, 28, 29, 30, 46, 47, 48, 49, 50, 51, 52, 53, 54] (by decide +kernel) (by decide +kernel)
set_option maxRecDepth 20000 in
theorem gX8_countOfBlock_X0_isStraight : GoodIn wsX8_countOfBlock (wsV RX8 283 RX0 yX0_isStraight wsX0_isStraight) := goodIn_app (goodIn_of _ (by decide +kernel)) ggX8_countOfBlock_X0_isStraight
set_option maxRecDepth 20000 in
theorem ggX8_countOfBlock_X8_asNumber : GoodIn wsX8_countOfBlock wsX8_asNumber := goodIn_r _ [34] (by decide +kernel) (by decide +kernel)
set_option maxRecDepth 20000 in
theorem gX8_countOfBlock_X8_asNumber : GoodIn wsX8_countOfBlock (va_wsS RX8 211 yX8_asNumber wsX8_asNumber) := goodIn_app (goodIn_of _ (by decide +kernel)) ggX8_countOfBlock_X8_asNumber
theorem dX8_countOfBlock_0 : decode cX8_countOfBlock 0 = .ok (.aload_n 0, 1) := by decide +kernel
theorem dX8_countOfBlock_1 : decode cX8_countOfBlock 1 = .ok (.getfield 10, 3) := by decide +kernel
theorem dX8_countOfBlock_4 : decode cX8_countOfBlock 4 = .ok (.getfield 44, 3) := by decide +kernel
theorem dX8_countOfBlock_7 : decode cX8_countOfBlock 7 = .ok (.astore_n 2, 1) := by decide +kernel
theorem dX8_countOfBlock_8 : decode cX8_countOfBlock 8 = .ok (.iload_n 1, 1) := by decide +kernel
theorem dX8_countOfBlock_9 : decode cX8_countOfBlock 9 = .ok (.tableswitch 69 0 5 #[39, 44, 49, 54, 59, 64], 39) := by decide +kernel
theorem dX8_countOfBlock_48 : decode cX8_countOfBlock 48 = .ok (.aload_n 2, 1) := by decide +kernel
theorem dX8_countOfBlock_49 : decode cX8_countOfBlock 49 = .ok (.getfield 65, 3) := by decide +kernel
theorem dX8_countOfBlock_52 : decode cX8_countOfBlock 52 = .ok (.ireturn, 1) := by decide +kernel
theorem dX8_countOfBlock_53 : decode cX8_countOfBlock 53 = .ok (.aload_n 2, 1) := by decide +kernel
theorem dX8_countOfBlock_54 : decode cX8_countOfBlock 54 = .ok (.getfield 68, 3) := by decide +kernel
theorem dX8_countOfBlock_57 : decode cX8_countOfBlock 57 = .ok (.ireturn, 1) := by decide +kernel
theorem dX8_countOfBlock_58 : decode cX8_countOfBlock 58 = .ok (.aload_n 2, 1) := by decide +kernel
theorem dX8_countOfBlock_59 : decode cX8_countOfBlock 59 = .ok (.getfield 58, 3) := by decide +kernel
theorem dX8_countOfBlock_62 : decode cX8_countOfBlock 62 = .ok (.ireturn, 1) := by decide +kernel
theorem dX8_countOfBlock_63 : decode cX8_countOfBlock 63 = .ok (.aload_n 2, 1) := by decide +kernel
theorem dX8_countOfBlock_64 : decode cX8_countOfBlock 64 = .ok (.invokevirtual 281, 3) := by decide +kernel
theorem dX8_countOfBlock_67 : decode cX8_countOfBlock 67 = .ok (.ireturn, 1) := by decide +kernel
theorem dX8_countOfBlock_68 : decode cX8_countOfBlock 68 = .ok (.aload_n 2, 1) := by decide +kernel
theorem dX8_countOfBlock_69 : decode cX8_countOfBlock 69 = .ok (.getfield 92, 3) := by decide +kernel
theorem dX8_countOfBlock_72 : decode cX8_countOfBlock 72 = .ok (.ireturn, 1) := by decide +kernel
theorem dX8_countOfBlock_73 : decode cX8_countOfBlock 73 = .ok (.aload_n 2, 1) := by decide +kernel
theorem dX8_countOfBlock_74 : decode cX8_countOfBlock 74 = .ok (.invokevirtual 75, 3) := by decide +kernel
theorem dX8_countOfBlock_77 : decode cX8_countOfBlock 77 = .ok (.ireturn, 1) := by decide +kernel
theorem dX8_countOfBlock_78 : decode cX8_countOfBlock 78 = .ok (.aload_n 2, 1) := by decide +kernel
theorem dX8_countOfBlock_79 : decode cX8_countOfBlock 79 = .ok (.invokevirtual 283, 3) := by decide +kernel
theorem dX8_countOfBlock_82 : decode cX8_countOfBlock 82 = .ok (.invokestatic 211, 3) := by decide +kernel
theorem dX8_countOfBlock_85 : decode cX8_countOfBlock 85 = .ok (.ireturn, 1) := by decide +kernel
theorem dX8_within_0 : decode cX8_within 0 = .ok (.iload_n 0, 1) := by decide +kernel
theorem dX8_within_1 : decode cX8_within 1 = .ok (.iload_n 1, 1) := by decide +kernel
theorem dX8_within_2 : decode cX8_within 2 = .ok (.if_icmp .lt 12, 3) := by decide +kernel
theorem dX8_within_5 : decode cX8_within 5 = .ok (.iload_n 0, 1) := by decide +kernel
theorem dX8_within_6 : decode cX8_within 6 = .ok (.iload_n 2, 1) := by decide +kernel
theorem dX8_within_7 : decode cX8_within 7 = .ok (.if_icmp .gt 7, 3) := by decide +kernel
theorem dX8_within_10 : decode cX8_within 10 = .ok (.iconst 1, 1) := by decide +kernel
theorem dX8_within_11 : decode cX8_within 11 = .ok (.goto 4, 3) := by decide +kernel
theorem dX8_within_14 : decode cX8_within 14 = .ok (.iconst 0, 1) := by decide +kernel
theorem dX8_within_15 : decode cX8_within 15 = .ok (.ireturn, 1) := by decide +kernel
set_option maxRecDepth 20000 in
theorem ggX8_isPellet_X8_within : GoodIn wsX8_isPellet wsX8_within := goodIn_r _ [4] (by decide +kernel) (by decide +kernel)
set_option maxRecDepth 20000 in
theorem gX8_isPellet_X8_within : GoodIn wsX8_isPellet (va_wsS RX8 40 yX8_within wsX8_within) := goodIn_app (goodIn_of _ (by decide +kernel)) ggX8_isPellet_X8_within
theorem dX8_isPellet_0 : decode cX8_isPellet 0 = .ok (.iload_n 0, 1) := by decide +kernel
theorem dX8_isPellet_1 : decode cX8_isPellet 1 = .ok (.bipush 10, 2) := by decide +kernel
theorem dX8_isPellet_3 : decode cX8_isPellet 3 = .ok (.sipush 2000, 3) := by decide +kernel
theorem dX8_isPellet_6 : decode cX8_isPellet 6 = .ok (.invokestatic 40, 3) := by decide +kernel
theorem dX8_isPellet_9 : decode cX8_isPellet 9 = .ok (.ifCond .eq 19, 3) := by decide +kernel
theorem dX8_isPellet_12 : decode cX8_isPellet 12 = .ok (.iload_n 1, 1) := by decide +kernel
theorem dX8_isPellet_13 : decode cX8_isPellet 13 = .ok (.bipush 50, 2) := by decide +kernel
theorem dX8_isPellet_15 : decode cX8_isPellet 15 = .ok (.sipush 900, 3) := by decide +kernel
theorem dX8_isPellet_18 : decode cX8_isPellet 18 = .ok (.invokestatic 40, 3) := by decide +kernel
theorem dX8_isPellet_21 : decode cX8_isPellet 21 = .ok (.ifCond .eq 7, 3) := by decide +kernel
theorem dX8_isPellet_24 : decode cX8_isPellet 24 = .ok (.iconst 1, 1) := by decide +kernel
theorem dX8_isPellet_25 : decode cX8_isPellet 25 = .ok (.goto 4, 3) := by decide +kernel
theorem dX8_isPellet_28 : decode cX8_isPellet 28 = .ok (.iconst 0, 1) := by decide +kernel
theorem dX8_isPellet_29 : decode cX8_isPellet 29 = .ok (.ireturn, 1) := by decide +kernel
theorem dX8_asNumber_0 : decode cX8_asNumber 0 = .ok (.iload_n 0, 1) := by decide +kernel
theorem dX8_asNumber_1 : decode cX8_asNumber 1 = .ok (.ifCond .eq 7, 3) := by decide +kernel
theorem dX8_asNumber_4 : decode cX8_asNumber 4 = .ok (.iconst 1, 1) := by decide +kernel
theorem dX8_asNumber_5 : decode cX8_asNumber 5 = .ok (.goto 4, 3) := by decide +kernel
theorem dX8_asNumber_8 : decode cX8_asNumber 8 = .ok (.iconst 0, 1) := by decide +kernel
theorem dX8_asNumber_9 : decode cX8_asNumber 9 = .ok (.ireturn, 1) := by decide +kernel
theorem dX8_quotient_0 : decode cX8_quotient 0 = .ok (.lload_n 2, 1) := by decide +kernel
theorem dX8_quotient_1 : decode cX8_quotient 1 = .ok (.lconst 0, 1) := by decide +kernel
theorem dX8_quotient_2 : decode cX8_quotient 2 = .ok (.lcmp, 1) := by decide +kernel
theorem dX8_quotient_3 : decode cX8_quotient 3 = .ok (.ifCond .gt 7, 3) := by decide +kernel
theorem dX8_quotient_6 : decode cX8_quotient 6 = .ok (.lconst 0, 1) := by decide +kernel
theorem dX8_quotient_7 : decode cX8_quotient 7 = .ok (.goto 6, 3) := by decide +kernel
theorem dX8_quotient_10 : decode cX8_quotient 10 = .ok (.lload_n 0, 1) := by decide +kernel
theorem dX8_quotient_11 : decode cX8_quotient 11 = .ok (.lload_n 2, 1) := by decide +kernel
theorem dX8_quotient_12 : decode cX8_quotient 12 = .ok (.ldiv, 1) := by decide +kernel
theorem dX8_quotient_13 : decode cX8_quotient 13 = .ok (.lreturn, 1) := by decide +kernel
theorem dX8_difference_0 : decode cX8_difference 0 = .ok (.iload_n 0, 1) := by decide +kernel
theorem dX8_difference_1 : decode cX8_difference 1 = .ok (.iload_n 1, 1) := by decide +kernel
theorem dX8_difference_2 : decode cX8_difference 2 = .ok (.isub, 1) := by decide +kernel
theorem dX8_difference_3 : decode cX8_difference 3 = .ok (.invokestatic 286, 3) := by decide +kernel
theorem dX8_difference_6 : decode cX8_difference 6 = .ok (.ireturn, 1) := by decide +kernel
theorem dX8_rootOf_0 : decode cX8_rootOf 0 = .ok (.lconst 0, 1) := by decide +kernel
theorem dX8_rootOf_1 : decode cX8_rootOf 1 = .ok (.lstore_n 2, 1) := by decide +kernel
theorem dX8_rootOf_2 : decode cX8_rootOf 2 = .ok (.ldc2_w 289, 3) := by decide +kernel
theorem dX8_rootOf_5 : decode cX8_rootOf 5 = .ok (.lstore 4, 2) := by decide +kernel
theorem dX8_rootOf_7 : decode cX8_rootOf 7 = .ok (.lload 4, 2) := by decide +kernel
theorem dX8_rootOf_9 : decode cX8_rootOf 9 = .ok (.lconst 0, 1) := by decide +kernel
theorem dX8_rootOf_10 : decode cX8_rootOf 10 = .ok (.lcmp, 1) := by decide +kernel
theorem dX8_rootOf_11 : decode cX8_rootOf 11 = .ok (.ifCond .le 31, 3) := by decide +kernel
theorem dX8_rootOf_14 : decode cX8_rootOf 14 = .ok (.lload_n 2, 1) := by decide +kernel
theorem dX8_rootOf_15 : decode cX8_rootOf 15 = .ok (.lload 4, 2) := by decide +kernel
theorem dX8_rootOf_17 : decode cX8_rootOf 17 = .ok (.ladd, 1) := by decide +kernel
theorem dX8_rootOf_18 : decode cX8_rootOf 18 = .ok (.lstore 6, 2) := by decide +kernel
theorem dX8_rootOf_20 : decode cX8_rootOf 20 = .ok (.lload 6, 2) := by decide +kernel
theorem dX8_rootOf_22 : decode cX8_rootOf 22 = .ok (.lload 6, 2) := by decide +kernel
theorem dX8_rootOf_24 : decode cX8_rootOf 24 = .ok (.lmul, 1) := by decide +kernel
theorem dX8_rootOf_25 : decode cX8_rootOf 25 = .ok (.lload_n 0, 1) := by decide +kernel
theorem dX8_rootOf_26 : decode cX8_rootOf 26 = .ok (.lcmp, 1) := by decide +kernel
theorem dX8_rootOf_27 : decode cX8_rootOf 27 = .ok (.ifCond .gt 6, 3) := by decide +kernel
theorem dX8_rootOf_30 : decode cX8_rootOf 30 = .ok (.lload 6, 2) := by decide +kernel
theorem dX8_rootOf_32 : decode cX8_rootOf 32 = .ok (.lstore_n 2, 1) := by decide +kernel
theorem dX8_rootOf_33 : decode cX8_rootOf 33 = .ok (.lload 4, 2) := by decide +kernel
theorem dX8_rootOf_35 : decode cX8_rootOf 35 = .ok (.iconst 1, 1) := by decide +kernel
theorem dX8_rootOf_36 : decode cX8_rootOf 36 = .ok (.lshr, 1) := by decide +kernel
theorem dX8_rootOf_37 : decode cX8_rootOf 37 = .ok (.lstore 4, 2) := by decide +kernel
theorem dX8_rootOf_39 : decode cX8_rootOf 39 = .ok (.goto (-32), 3) := by decide +kernel
theorem dX8_rootOf_42 : decode cX8_rootOf 42 = .ok (.lload_n 2, 1) := by decide +kernel
theorem dX8_rootOf_43 : decode cX8_rootOf 43 = .ok (.lreturn, 1) := by decide +kernel
theorem dX8_copyRow_0 : decode cX8_copyRow 0 = .ok (.aload_n 0, 1) := by decide +kernel
theorem dX8_copyRow_1 : decode cX8_copyRow 1 = .ok (.iconst 0, 1) := by decide +kernel
theorem dX8_copyRow_2 : decode cX8_copyRow 2 = .ok (.aload_n 1, 1) := by decide +kernel
theorem dX8_copyRow_3 : decode cX8_copyRow 3 = .ok (.iconst 0, 1) := by decide +kernel
theorem dX8_copyRow_4 : decode cX8_copyRow 4 = .ok (.aload_n 0, 1) := by decide +kernel
theorem dX8_copyRow_5 : decode cX8_copyRow 5 = .ok (.arraylength, 1) := by decide +kernel
theorem dX8_copyRow_6 : decode cX8_copyRow 6 = .ok (.aload_n 1, 1) := by decide +kernel
theorem dX8_copyRow_7 : decode cX8_copyRow 7 = .ok (.arraylength, 1) := by decide +kernel
theorem dX8_copyRow_8 : decode cX8_copyRow 8 = .ok (.invokestatic 133, 3) := by decide +kernel
theorem dX8_copyRow_11 : decode cX8_copyRow 11 = .ok (.invokestatic 291, 3) := by decide +kernel
theorem dX8_copyRow_14 : decode cX8_copyRow 14 = .ok (.return_, 1) := by decide +kernel
theorem dJ9_abs_0f7a4_0 : decode cJ9_abs_0f7a4 0 = .ok (.iload_n 0, 1) := by decide +kernel
theorem dJ9_abs_0f7a4_1 : decode cJ9_abs_0f7a4 1 = .ok (.ifCond .ge 8, 3) := by decide +kernel
theorem dJ9_abs_0f7a4_4 : decode cJ9_abs_0f7a4 4 = .ok (.iload_n 0, 1) := by decide +kernel
theorem dJ9_abs_0f7a4_5 : decode cJ9_abs_0f7a4 5 = .ok (.ineg, 1) := by decide +kernel
theorem dJ9_abs_0f7a4_6 : decode cJ9_abs_0f7a4 6 = .ok (.goto 4, 3) := by decide +kernel
theorem dJ9_abs_0f7a4_9 : decode cJ9_abs_0f7a4 9 = .ok (.iload_n 0, 1) := by decide +kernel
theorem dJ9_abs_0f7a4_10 : decode cJ9_abs_0f7a4 10 = .ok (.ireturn, 1) := by decide +kernel
theorem dJ9_max_7cf53_0 : decode cJ9_max_7cf53 0 = .ok (.iload_n 0, 1) := by decide +kernel
theorem dJ9_max_7cf53_1 : decode cJ9_max_7cf53 1 = .ok (.iload_n 1, 1) := by decide +kernel
theorem dJ9_max_7cf53_2 : decode cJ9_max_7cf53 2 = .ok (.if_icmp .lt 7, 3) := by decide +kernel
theorem dJ9_max_7cf53_5 : decode cJ9_max_7cf53 5 = .ok (.iload_n 0, 1) := by decide +kernel
theorem dJ9_max_7cf53_6 : decode cJ9_max_7cf53 6 = .ok (.goto 4, 3) := by decide +kernel
theorem dJ9_max_7cf53_9 : decode cJ9_max_7cf53 9 = .ok (.iload_n 1, 1) := by decide +kernel
theorem dJ9_max_7cf53_10 : decode cJ9_max_7cf53 10 = .ok (.ireturn, 1) := by decide +kernel
theorem dJ9_min_7cf53_0 : decode cJ9_min_7cf53 0 = .ok (.iload_n 0, 1) := by decide +kernel
theorem dJ9_min_7cf53_1 : decode cJ9_min_7cf53 1 = .ok (.iload_n 1, 1) := by decide +kernel
theorem dJ9_min_7cf53_2 : decode cJ9_min_7cf53 2 = .ok (.if_icmp .gt 7, 3) := by decide +kernel
theorem dJ9_min_7cf53_5 : decode cJ9_min_7cf53 5 = .ok (.iload_n 0, 1) := by decide +kernel
theorem dJ9_min_7cf53_6 : decode cJ9_min_7cf53 6 = .ok (.goto 4, 3) := by decide +kernel
theorem dJ9_min_7cf53_9 : decode cJ9_min_7cf53 9 = .ok (.iload_n 1, 1) := by decide +kernel
theorem dJ9_min_7cf53_10 : decode cJ9_min_7cf53 10 = .ok (.ireturn, 1) := by decide +kernel
theorem dJ9_min_f86c9_0 : decode cJ9_min_f86c9 0 = .ok (.lload_n 0, 1) := by decide +kernel
theorem dJ9_min_f86c9_1 : decode cJ9_min_f86c9 1 = .ok (.lload_n 2, 1) := by decide +kernel
theorem dJ9_min_f86c9_2 : decode cJ9_min_f86c9 2 = .ok (.lcmp, 1) := by decide +kernel
theorem dJ9_min_f86c9_3 : decode cJ9_min_f86c9 3 = .ok (.ifCond .gt 7, 3) := by decide +kernel
theorem dJ9_min_f86c9_6 : decode cJ9_min_f86c9 6 = .ok (.lload_n 0, 1) := by decide +kernel
theorem dJ9_min_f86c9_7 : decode cJ9_min_f86c9 7 = .ok (.goto 4, 3) := by decide +kernel
theorem dJ9_min_f86c9_10 : decode cJ9_min_f86c9 10 = .ok (.lload_n 2, 1) := by decide +kernel
theorem dJ9_min_f86c9_11 : decode cJ9_min_f86c9 11 = .ok (.lreturn, 1) := by decide +kernel
