set_option maxRecDepth 20000 in
theorem ggX8_init_X6_init : GoodIn wsX8_init wsX6_init := goodIn_r _ [22, 23, 2, 3, 24, 25, 26, 27, 28, 29, 30, 31, 32, 33, 34, 35, 36, 37, 38, 39, 40, 41, 42, 43, 44, 45, 46, 47, 48, 49, 50, 51, 52, 53, 54, 55, 56, 57, 58, 59, 60, 61, 62, 63, 64, 65, 66, 67, 68, 69, 70, 71, 72, 73, 74, 75, 76, 77, 78, 79, 80, 118, 119, 120, 121, 122, 123, 124, 125, 126, 97, 98, 99, 100, 101, 127, 128, 129, 130, 131, 132, 133, 134, 135, 136, 137, 138, 139, 140] (by decide +kernel) (by decide +kernel)
set_option maxRecDepth 20000 in
theorem gX8_init_X6_init_n9 : GoodIn wsX8_init (wsX6_init) := ggX8_init_X6_init
set_option maxRecDepth 20000 in
theorem ggX8_init_X2_init : GoodIn wsX8_init wsX2_init := goodIn_r _ [83, 84, 2, 3, 85, 86, 5, 6, 21, 22, 23, 24, 25, 26, 27, 28, 29, 30, 31, 32, 33, 34, 35, 36, 37, 38, 39, 40, 41, 42, 43, 44, 45, 46, 47, 48, 49, 50, 51, 52, 53, 54, 55, 56, 57, 58, 59, 60, 61, 62, 63, 64, 65, 66, 67, 68, 69, 70, 71, 72, 73, 74, 75, 76, 77, 78, 79, 80, 108, 109, 97, 98, 99, 100, 101, 118, 119, 120, 121, 122, 123, 124, 125, 126, 127, 128, 129, 130, 131, 132, 133, 134, 135, 136, 137, 138, 139, 140] (by decide +kernel) (by decide +kernel)
set_option maxRecDepth 20000 in
theorem gX8_init_X2_init : GoodIn wsX8_init (wsX2_init) := ggX8_init_X2_init
set_option maxRecDepth 20000 in
theorem ggX8_init_X7_init : GoodIn wsX8_init wsX7_init := goodIn_r _ [88, 89, 2, 3, 90, 91, 110, 111] (by decide +kernel) (by decide +kernel)
set_option maxRecDepth 20000 in
theorem gX8_init_X7_init_n28 : GoodIn wsX8_init (wsX7_init) := ggX8_init_X7_init
set_option maxRecDepth 20000 in
theorem ggX8_init_X4_init : GoodIn wsX8_init wsX4_init := goodIn_r _ [93, 94, 2, 3, 95, 29, 30, 96, 60, 61, 62, 46, 63, 64, 127, 128, 129, 112, 113, 114, 115, 116, 117] (by decide +kernel) (by decide +kernel)
set_option maxRecDepth 20000 in
theorem gX8_init_X4_init_n35 : GoodIn wsX8_init (wsX4_init) := ggX8_init_X4_init
theorem dX8_init_0 : decode cX8_init 0 = .ok (.aload_n 0, 1) := by decide +kernel
theorem dX8_init_1 : decode cX8_init 1 = .ok (.invokespecial 1, 3) := by decide +kernel
theorem dX8_init_4 : decode cX8_init 4 = .ok (.aload_n 0, 1) := by decide +kernel
theorem dX8_init_5 : decode cX8_init 5 = .ok (.new 7, 3) := by decide +kernel
theorem dX8_init_8 : decode cX8_init 8 = .ok (.dup, 1) := by decide +kernel
theorem dX8_init_9 : decode cX8_init 9 = .ok (.invokespecial 9, 3) := by decide +kernel
theorem dX8_init_12 : decode cX8_init 12 = .ok (.putfield 10, 3) := by decide +kernel
theorem dX8_init_15 : decode cX8_init 15 = .ok (.aload_n 0, 1) := by decide +kernel
theorem dX8_init_16 : decode cX8_init 16 = .ok (.new 7, 3) := by decide +kernel
theorem dX8_init_19 : decode cX8_init 19 = .ok (.dup, 1) := by decide +kernel
theorem dX8_init_20 : decode cX8_init 20 = .ok (.invokespecial 9, 3) := by decide +kernel
theorem dX8_init_23 : decode cX8_init 23 = .ok (.putfield 16, 3) := by decide +kernel
theorem dX8_init_26 : decode cX8_init 26 = .ok (.aload_n 0, 1) := by decide +kernel
theorem dX8_init_27 : decode cX8_init 27 = .ok (.new 19, 3) := by decide +kernel
theorem dX8_init_30 : decode cX8_init 30 = .ok (.dup, 1) := by decide +kernel
theorem dX8_init_31 : decode cX8_init 31 = .ok (.invokespecial 21, 3) := by decide +kernel
theorem dX8_init_34 : decode cX8_init 34 = .ok (.putfield 22, 3) := by decide +kernel
theorem dX8_init_37 : decode cX8_init 37 = .ok (.aload_n 0, 1) := by decide +kernel
theorem dX8_init_38 : decode cX8_init 38 = .ok (.new 26, 3) := by decide +kernel
theorem dX8_init_41 : decode cX8_init 41 = .ok (.dup, 1) := by decide +kernel
theorem dX8_init_42 : decode cX8_init 42 = .ok (.invokespecial 28, 3) := by decide +kernel
theorem dX8_init_45 : decode cX8_init 45 = .ok (.putfield 29, 3) := by decide +kernel
theorem dX8_init_48 : decode cX8_init 48 = .ok (.aload_n 0, 1) := by decide +kernel
theorem dX8_init_49 : decode cX8_init 49 = .ok (.new 33, 3) := by decide +kernel
theorem dX8_init_52 : decode cX8_init 52 = .ok (.dup, 1) := by decide +kernel
theorem dX8_init_53 : decode cX8_init 53 = .ok (.invokespecial 35, 3) := by decide +kernel
theorem dX8_init_56 : decode cX8_init 56 = .ok (.putfield 36, 3) := by decide +kernel
theorem dX8_init_59 : decode cX8_init 59 = .ok (.return_, 1) := by decide +kernel
set_option maxRecDepth 20000 in
theorem ggX8_block_X8_within : GoodIn wsX8_block wsX8_within := goodIn_r _ [9] (by decide +kernel) (by decide +kernel)
set_option maxRecDepth 20000 in
theorem gX8_block_X8_within : GoodIn wsX8_block (va_wsS RX8 40 yX8_within wsX8_within) := goodIn_app (goodIn_of _ (by decide +kernel)) ggX8_block_X8_within
set_option maxRecDepth 20000 in
theorem ggX8_block_X0_isSwinging : GoodIn wsX8_block wsX0_isSwinging := goodIn_r _ [14, 15, 103, 104, 105, 106, 107, 108, 109, 110, 111] (by decide +kernel) (by decide +kernel)
set_option maxRecDepth 20000 in
theorem gX8_block_X0_isSwinging : GoodIn wsX8_block (wsV RX8 48 RX0 yX0_isSwinging wsX0_isSwinging) := goodIn_app (goodIn_of _ (by decide +kernel)) ggX8_block_X0_isSwinging
set_option maxRecDepth 20000 in
theorem ggX8_block_X2_record : GoodIn wsX8_block wsX2_record := goodIn_r _ [20, 21, 22, 23, 24, 25, 19, 26, 27, 28, 29, 30, 31, 32, 33, 34, 35, 36, 37, 38, 39, 13, 40, 41, 42, 43, 15, 44, 45, 46, 47, 48, 49, 8, 50, 51, 52, 53, 54, 55, 56, 57, 58, 59, 60, 61, 62, 63, 64, 65, 66, 67, 68, 69, 70, 71, 72, 73, 74, 75, 76, 77, 78, 79, 80, 81, 82, 83, 84, 85, 86, 87, 112, 113, 98, 99, 100, 101, 102, 103, 104, 105, 106, 107, 108, 109, 110, 111, 114, 115, 116, 117, 118, 119, 120, 121, 122, 123, 124, 125, 126, 127] (by decide +kernel) (by decide +kernel)
set_option maxRecDepth 20000 in
theorem gX8_block_X2_record : GoodIn wsX8_block (wsV RX8 54 RX2 yX2_record wsX2_record) := goodIn_app (goodIn_of _ (by decide +kernel)) ggX8_block_X2_record
set_option maxRecDepth 20000 in
theorem ggX8_block_X0_empty : GoodIn wsX8_block wsX0_empty := goodIn_r _ [91, 46, 42, 43, 103, 104, 105, 106, 107, 108, 109, 110, 111] (by decide +kernel) (by decide +kernel)
set_option maxRecDepth 20000 in
theorem gX8_block_X0_empty : GoodIn wsX8_block (wsV RX8 62 RX0 yX0_empty wsX0_empty) := goodIn_app (goodIn_of _ (by decide +kernel)) ggX8_block_X0_empty
theorem dX8_block_0 : decode cX8_block 0 = .ok (.iload_n 1, 1) := by decide +kernel
theorem dX8_block_1 : decode cX8_block 1 = .ok (.sipush 1000, 3) := by decide +kernel
theorem dX8_block_4 : decode cX8_block 4 = .ok (.sipush 9000, 3) := by decide +kernel
theorem dX8_block_7 : decode cX8_block 7 = .ok (.invokestatic 40, 3) := by decide +kernel
theorem dX8_block_10 : decode cX8_block 10 = .ok (.ifCond .ne 6, 3) := by decide +kernel
theorem dX8_block_13 : decode cX8_block 13 = .ok (.bipush (-2), 2) := by decide +kernel
theorem dX8_block_15 : decode cX8_block 15 = .ok (.ireturn, 1) := by decide +kernel
theorem dX8_block_16 : decode cX8_block 16 = .ok (.aload_n 0, 1) := by decide +kernel
theorem dX8_block_17 : decode cX8_block 17 = .ok (.getfield 10, 3) := by decide +kernel
theorem dX8_block_20 : decode cX8_block 20 = .ok (.getfield 44, 3) := by decide +kernel
theorem dX8_block_23 : decode cX8_block 23 = .ok (.invokevirtual 48, 3) := by decide +kernel
theorem dX8_block_26 : decode cX8_block 26 = .ok (.ifCond .eq 6, 3) := by decide +kernel
theorem dX8_block_29 : decode cX8_block 29 = .ok (.bipush (-4), 2) := by decide +kernel
theorem dX8_block_31 : decode cX8_block 31 = .ok (.ireturn, 1) := by decide +kernel
theorem dX8_block_32 : decode cX8_block 32 = .ok (.aload_n 0, 1) := by decide +kernel
theorem dX8_block_33 : decode cX8_block 33 = .ok (.getfield 22, 3) := by decide +kernel
theorem dX8_block_36 : decode cX8_block 36 = .ok (.aload_n 0, 1) := by decide +kernel
theorem dX8_block_37 : decode cX8_block 37 = .ok (.getfield 10, 3) := by decide +kernel
theorem dX8_block_40 : decode cX8_block 40 = .ok (.invokevirtual 54, 3) := by decide +kernel
theorem dX8_block_43 : decode cX8_block 43 = .ok (.aload_n 0, 1) := by decide +kernel
theorem dX8_block_44 : decode cX8_block 44 = .ok (.getfield 10, 3) := by decide +kernel
theorem dX8_block_47 : decode cX8_block 47 = .ok (.getfield 44, 3) := by decide +kernel
theorem dX8_block_50 : decode cX8_block 50 = .ok (.getfield 58, 3) := by decide +kernel
theorem dX8_block_53 : decode cX8_block 53 = .ok (.istore_n 2, 1) := by decide +kernel
theorem dX8_block_54 : decode cX8_block 54 = .ok (.aload_n 0, 1) := by decide +kernel
theorem dX8_block_55 : decode cX8_block 55 = .ok (.getfield 10, 3) := by decide +kernel
theorem dX8_block_58 : decode cX8_block 58 = .ok (.getfield 44, 3) := by decide +kernel
theorem dX8_block_61 : decode cX8_block 61 = .ok (.invokevirtual 62, 3) := by decide +kernel
theorem dX8_block_64 : decode cX8_block 64 = .ok (.aload_n 0, 1) := by decide +kernel
theorem dX8_block_65 : decode cX8_block 65 = .ok (.getfield 10, 3) := by decide +kernel
theorem dX8_block_68 : decode cX8_block 68 = .ok (.getfield 44, 3) := by decide +kernel
theorem dX8_block_71 : decode cX8_block 71 = .ok (.iload_n 1, 1) := by decide +kernel
theorem dX8_block_72 : decode cX8_block 72 = .ok (.putfield 65, 3) := by decide +kernel
theorem dX8_block_75 : decode cX8_block 75 = .ok (.iload_n 2, 1) := by decide +kernel
theorem dX8_block_76 : decode cX8_block 76 = .ok (.ireturn, 1) := by decide +kernel
set_option maxRecDepth 20000 in
theorem ggX8_digOut_X0_isSwinging : GoodIn wsX8_digOut wsX0_isSwinging := goodIn_r _ [10, 11, 100, 101, 102, 103, 104, 105, 106, 107, 108] (by decide +kernel) (by decide +kernel)
set_option maxRecDepth 20000 in
theorem gX8_digOut_X0_isSwinging : GoodIn wsX8_digOut (wsV RX8 48 RX0 yX0_isSwinging wsX0_isSwinging) := goodIn_app (goodIn_of _ (by decide +kernel)) ggX8_digOut_X0_isSwinging
set_option maxRecDepth 20000 in
theorem ggX8_digOut_X2_record : GoodIn wsX8_digOut wsX2_record := goodIn_r _ [16, 17, 18, 19, 20, 21, 15, 22, 23, 24, 25, 26, 27, 28, 29, 30, 31, 32, 33, 34, 35, 9, 36, 37, 38, 39, 11, 40, 41, 42, 43, 44, 45, 46, 47, 48, 49, 50, 51, 52, 53, 54, 55, 56, 57, 58, 59, 60, 61, 62, 63, 64, 65, 66, 67, 68, 69, 70, 71, 72, 73, 74, 75, 76, 77, 78, 79, 80, 81, 82, 83, 84, 109, 110, 95, 96, 97, 98, 99, 100, 101, 102, 103, 104, 105, 106, 107, 108, 111, 112, 113, 114, 115, 116, 117, 118, 119, 120, 121, 122, 123, 124] (by decide +kernel) (by decide +kernel)
set_option maxRecDepth 20000 in
theorem gX8_digOut_X2_record : GoodIn wsX8_digOut (wsV RX8 54 RX2 yX2_record wsX2_record) := goodIn_app (goodIn_of _ (by decide +kernel)) ggX8_digOut_X2_record
set_option maxRecDepth 20000 in
theorem ggX8_digOut_X0_empty : GoodIn wsX8_digOut wsX0_empty := goodIn_r _ [88, 42, 38, 39, 100, 101, 102, 103, 104, 105, 106, 107, 108] (by decide +kernel) (by decide +kernel)
set_option maxRecDepth 20000 in
theorem gX8_digOut_X0_empty : GoodIn wsX8_digOut (wsV RX8 62 RX0 yX0_empty wsX0_empty) := goodIn_app (goodIn_of _ (by decide +kernel)) ggX8_digOut_X0_empty
theorem dX8_digOut_0 : decode cX8_digOut 0 = .ok (.aload_n 0, 1) := by decide +kernel
theorem dX8_digOut_1 : decode cX8_digOut 1 = .ok (.getfield 10, 3) := by decide +kernel
theorem dX8_digOut_4 : decode cX8_digOut 4 = .ok (.getfield 44, 3) := by decide +kernel
theorem dX8_digOut_7 : decode cX8_digOut 7 = .ok (.invokevirtual 48, 3) := by decide +kernel
theorem dX8_digOut_10 : decode cX8_digOut 10 = .ok (.ifCond .eq 6, 3) := by decide +kernel
theorem dX8_digOut_13 : decode cX8_digOut 13 = .ok (.bipush (-4), 2) := by decide +kernel
theorem dX8_digOut_15 : decode cX8_digOut 15 = .ok (.ireturn, 1) := by decide +kernel
theorem dX8_digOut_16 : decode cX8_digOut 16 = .ok (.aload_n 0, 1) := by decide +kernel
theorem dX8_digOut_17 : decode cX8_digOut 17 = .ok (.getfield 10, 3) := by decide +kernel
theorem dX8_digOut_20 : decode cX8_digOut 20 = .ok (.getfield 44, 3) := by decide +kernel
theorem dX8_digOut_23 : decode cX8_digOut 23 = .ok (.getfield 58, 3) := by decide +kernel
theorem dX8_digOut_26 : decode cX8_digOut 26 = .ok (.ifCond .ne 6, 3) := by decide +kernel
theorem dX8_digOut_29 : decode cX8_digOut 29 = .ok (.bipush (-5), 2) := by decide +kernel
theorem dX8_digOut_31 : decode cX8_digOut 31 = .ok (.ireturn, 1) := by decide +kernel
theorem dX8_digOut_32 : decode cX8_digOut 32 = .ok (.aload_n 0, 1) := by decide +kernel
theorem dX8_digOut_33 : decode cX8_digOut 33 = .ok (.getfield 22, 3) := by decide +kernel
theorem dX8_digOut_36 : decode cX8_digOut 36 = .ok (.aload_n 0, 1) := by decide +kernel
theorem dX8_digOut_37 : decode cX8_digOut 37 = .ok (.getfield 10, 3) := by decide +kernel
theorem dX8_digOut_40 : decode cX8_digOut 40 = .ok (.invokevirtual 54, 3) := by decide +kernel
theorem dX8_digOut_43 : decode cX8_digOut 43 = .ok (.aload_n 0, 1) := by decide +kernel
theorem dX8_digOut_44 : decode cX8_digOut 44 = .ok (.getfield 10, 3) := by decide +kernel
theorem dX8_digOut_47 : decode cX8_digOut 47 = .ok (.getfield 44, 3) := by decide +kernel
theorem dX8_digOut_50 : decode cX8_digOut 50 = .ok (.getfield 68, 3) := by decide +kernel
theorem dX8_digOut_53 : decode cX8_digOut 53 = .ok (.istore_n 1, 1) := by decide +kernel
theorem dX8_digOut_54 : decode cX8_digOut 54 = .ok (.aload_n 0, 1) := by decide +kernel
theorem dX8_digOut_55 : decode cX8_digOut 55 = .ok (.getfield 10, 3) := by decide +kernel
theorem dX8_digOut_58 : decode cX8_digOut 58 = .ok (.getfield 44, 3) := by decide +kernel
theorem dX8_digOut_61 : decode cX8_digOut 61 = .ok (.invokevirtual 62, 3) := by decide +kernel
theorem dX8_digOut_64 : decode cX8_digOut 64 = .ok (.iload_n 1, 1) := by decide +kernel
theorem dX8_digOut_65 : decode cX8_digOut 65 = .ok (.ireturn, 1) := by decide +kernel
set_option maxRecDepth 20000 in
theorem ggX8_cord_X8_within : GoodIn wsX8_cord wsX8_within := goodIn_r _ [8] (by decide +kernel) (by decide +kernel)
set_option maxRecDepth 20000 in
theorem gX8_cord_X8_within : GoodIn wsX8_cord (va_wsS RX8 40 yX8_within wsX8_within) := goodIn_app (goodIn_of _ (by decide +kernel)) ggX8_cord_X8_within
set_option maxRecDepth 20000 in
theorem ggX8_cord_X0_isSwinging : GoodIn wsX8_cord wsX0_isSwinging := goodIn_r _ [13, 14, 102, 103, 104, 105, 106, 107, 108, 109, 110] (by decide +kernel) (by decide +kernel)
set_option maxRecDepth 20000 in
theorem gX8_cord_X0_isSwinging : GoodIn wsX8_cord (wsV RX8 48 RX0 yX0_isSwinging wsX0_isSwinging) := goodIn_app (goodIn_of _ (by decide +kernel)) ggX8_cord_X0_isSwinging
set_option maxRecDepth 20000 in
theorem ggX8_cord_X2_record : GoodIn wsX8_cord wsX2_record := goodIn_r _ [19, 20, 21, 22, 23, 24, 18, 25, 26, 27, 28, 29, 30, 31, 32, 33, 34, 35, 36, 37, 38, 12, 39, 40, 41, 42, 14, 43, 44, 45, 46, 47, 48, 7, 49, 50, 51, 52, 53, 54, 55, 56, 57, 58, 59, 60, 61, 62, 63, 64, 65, 66, 67, 68, 69, 70, 71, 72, 73, 74, 75, 76, 77, 78, 79, 80, 81, 82, 83, 84, 85, 86, 111, 112, 97, 98, 99, 100, 101, 102, 103, 104, 105, 106, 107, 108, 109, 110, 113, 114, 115, 116, 117, 118, 119, 120, 121, 122, 123, 124, 125, 126] (by decide +kernel) (by decide +kernel)
set_option maxRecDepth 20000 in
theorem gX8_cord_X2_record : GoodIn wsX8_cord (wsV RX8 54 RX2 yX2_record wsX2_record) := goodIn_app (goodIn_of _ (by decide +kernel)) ggX8_cord_X2_record
set_option maxRecDepth 20000 in
theorem ggX8_cord_X0_meanLength : GoodIn wsX8_cord wsX0_meanLength := goodIn_r _ [90, 46, 102, 103, 104, 105, 106, 107, 108, 109, 110] (by decide +kernel) (by decide +kernel)
set_option maxRecDepth 20000 in
theorem gX8_cord_X0_meanLength : GoodIn wsX8_cord (wsV RX8 75 RX0 yX0_meanLength wsX0_meanLength) := goodIn_app (goodIn_of _ (by decide +kernel)) ggX8_cord_X0_meanLength
theorem dX8_cord_0 : decode cX8_cord 0 = .ok (.iload_n 1, 1) := by decide +kernel
theorem dX8_cord_1 : decode cX8_cord 1 = .ok (.iconst 0, 1) := by decide +kernel
theorem dX8_cord_2 : decode cX8_cord 2 = .ok (.iconst 3, 1) := by decide +kernel
theorem dX8_cord_3 : decode cX8_cord 3 = .ok (.invokestatic 40, 3) := by decide +kernel
theorem dX8_cord_6 : decode cX8_cord 6 = .ok (.ifCond .ne 5, 3) := by decide +kernel
theorem dX8_cord_9 : decode cX8_cord 9 = .ok (.iconst (-1), 1) := by decide +kernel
theorem dX8_cord_10 : decode cX8_cord 10 = .ok (.ireturn, 1) := by decide +kernel
theorem dX8_cord_11 : decode cX8_cord 11 = .ok (.iload_n 2, 1) := by decide +kernel
theorem dX8_cord_12 : decode cX8_cord 12 = .ok (.sipush 500, 3) := by decide +kernel
theorem dX8_cord_15 : decode cX8_cord 15 = .ok (.sipush 3000, 3) := by decide +kernel
theorem dX8_cord_18 : decode cX8_cord 18 = .ok (.invokestatic 40, 3) := by decide +kernel
theorem dX8_cord_21 : decode cX8_cord 21 = .ok (.ifCond .ne 6, 3) := by decide +kernel
theorem dX8_cord_24 : decode cX8_cord 24 = .ok (.bipush (-2), 2) := by decide +kernel
theorem dX8_cord_26 : decode cX8_cord 26 = .ok (.ireturn, 1) := by decide +kernel
theorem dX8_cord_27 : decode cX8_cord 27 = .ok (.aload_n 0, 1) := by decide +kernel
theorem dX8_cord_28 : decode cX8_cord 28 = .ok (.getfield 10, 3) := by decide +kernel
theorem dX8_cord_31 : decode cX8_cord 31 = .ok (.getfield 44, 3) := by decide +kernel
theorem dX8_cord_34 : decode cX8_cord 34 = .ok (.invokevirtual 48, 3) := by decide +kernel
theorem dX8_cord_37 : decode cX8_cord 37 = .ok (.ifCond .eq 6, 3) := by decide +kernel
theorem dX8_cord_40 : decode cX8_cord 40 = .ok (.bipush (-4), 2) := by decide +kernel
theorem dX8_cord_42 : decode cX8_cord 42 = .ok (.ireturn, 1) := by decide +kernel
theorem dX8_cord_43 : decode cX8_cord 43 = .ok (.aload_n 0, 1) := by decide +kernel
theorem dX8_cord_44 : decode cX8_cord 44 = .ok (.getfield 10, 3) := by decide +kernel
theorem dX8_cord_47 : decode cX8_cord 47 = .ok (.getfield 44, 3) := by decide +kernel
theorem dX8_cord_50 : decode cX8_cord 50 = .ok (.getfield 71, 3) := by decide +kernel
theorem dX8_cord_53 : decode cX8_cord 53 = .ok (.iload_n 1, 1) := by decide +kernel
theorem dX8_cord_54 : decode cX8_cord 54 = .ok (.iaload, 1) := by decide +kernel
theorem dX8_cord_55 : decode cX8_cord 55 = .ok (.iload_n 2, 1) := by decide +kernel
theorem dX8_cord_56 : decode cX8_cord 56 = .ok (.if_icmp .ne 6, 3) := by decide +kernel
theorem dX8_cord_59 : decode cX8_cord 59 = .ok (.bipush (-5), 2) := by decide +kernel
theorem dX8_cord_61 : decode cX8_cord 61 = .ok (.ireturn, 1) := by decide +kernel
theorem dX8_cord_62 : decode cX8_cord 62 = .ok (.aload_n 0, 1) := by decide +kernel
theorem dX8_cord_63 : decode cX8_cord 63 = .ok (.getfield 22, 3) := by decide +kernel
theorem dX8_cord_66 : decode cX8_cord 66 = .ok (.aload_n 0, 1) := by decide +kernel
theorem dX8_cord_67 : decode cX8_cord 67 = .ok (.getfield 10, 3) := by decide +kernel
theorem dX8_cord_70 : decode cX8_cord 70 = .ok (.invokevirtual 54, 3) := by decide +kernel
theorem dX8_cord_73 : decode cX8_cord 73 = .ok (.aload_n 0, 1) := by decide +kernel
theorem dX8_cord_74 : decode cX8_cord 74 = .ok (.getfield 10, 3) := by decide +kernel
theorem dX8_cord_77 : decode cX8_cord 77 = .ok (.getfield 44, 3) := by decide +kernel
theorem dX8_cord_80 : decode cX8_cord 80 = .ok (.getfield 71, 3) := by decide +kernel
theorem dX8_cord_83 : decode cX8_cord 83 = .ok (.iload_n 1, 1) := by decide +kernel
theorem dX8_cord_84 : decode cX8_cord 84 = .ok (.iload_n 2, 1) := by decide +kernel
theorem dX8_cord_85 : decode cX8_cord 85 = .ok (.iastore, 1) := by decide +kernel
theorem dX8_cord_86 : decode cX8_cord 86 = .ok (.aload_n 0, 1) := by decide +kernel
theorem dX8_cord_87 : decode cX8_cord 87 = .ok (.getfield 10, 3) := by decide +kernel
theorem dX8_cord_90 : decode cX8_cord 90 = .ok (.getfield 44, 3) := by decide +kernel
theorem dX8_cord_93 : decode cX8_cord 93 = .ok (.invokevirtual 75, 3) := by decide +kernel
theorem dX8_cord_96 : decode cX8_cord 96 = .ok (.ireturn, 1) := by decide +kernel
set_option maxRecDepth 20000 in
theorem ggX8_swing_X8_within : GoodIn wsX8_swing wsX8_within := goodIn_r _ [8] (by decide +kernel) (by decide +kernel)
set_option maxRecDepth 20000 in
theorem gX8_swing_X8_within : GoodIn wsX8_swing (va_wsS RX8 40 yX8_within wsX8_within) := goodIn_app (goodIn_of _ (by decide +kernel)) ggX8_swing_X8_within
set_option maxRecDepth 20000 in
theorem ggX8_swing_X0_isSwinging : GoodIn wsX8_swing wsX0_isSwinging := goodIn_r _ [13, 14, 110, 111, 112, 113, 114, 115, 116, 117, 118] (by decide +kernel) (by decide +kernel)
set_option maxRecDepth 20000 in
theorem gX8_swing_X0_isSwinging : GoodIn wsX8_swing (wsV RX8 48 RX0 yX0_isSwinging wsX0_isSwinging) := goodIn_app (goodIn_of _ (by decide +kernel)) ggX8_swing_X0_isSwinging
set_option maxRecDepth 20000 in
theorem ggX8_swing_X2_record : GoodIn wsX8_swing wsX2_record := goodIn_r _ [19, 20, 21, 22, 23, 24, 18, 25, 26, 27, 28, 29, 30, 31, 32, 33, 34, 35, 36, 37, 38, 12, 39, 40, 41, 42, 14, 43, 44, 45, 46, 47, 48, 7, 49, 50, 51, 52, 53, 54, 55, 56, 57, 58, 59, 60, 61, 62, 63, 64, 65, 66, 67, 68, 69, 70, 71, 72, 73, 74, 75, 76, 77, 78, 79, 80, 81, 82, 83, 84, 85, 86, 119, 120, 105, 106, 107, 108, 109, 110, 111, 112, 113, 114, 115, 116, 117, 118, 121, 122, 123, 124, 125, 126, 127, 128, 129, 130, 131, 132, 133, 134] (by decide +kernel) (by decide +kernel)
set_option maxRecDepth 20000 in
theorem gX8_swing_X2_record : GoodIn wsX8_swing (wsV RX8 54 RX2 yX2_record wsX2_record) := goodIn_app (goodIn_of _ (by decide +kernel)) ggX8_swing_X2_record
set_option maxRecDepth 20000 in
theorem ggX8_swing_X0_doHalves : GoodIn wsX8_swing wsX0_doHalves := goodIn_r _ [90, 14, 43, 91, 10, 11, 12, 13, 92, 93, 94, 95, 47, 96, 97, 52, 98, 110, 111, 112, 113, 114, 115, 116, 117, 118] (by decide +kernel) (by decide +kernel)
set_option maxRecDepth 20000 in
theorem gX8_swing_X0_doHalves : GoodIn wsX8_swing (wsV RX8 88 RX0 yX0_doHalves wsX0_doHalves) := goodIn_app (goodIn_of _ (by decide +kernel)) ggX8_swing_X0_doHalves
theorem dX8_swing_0 : decode cX8_swing 0 = .ok (.iload_n 1, 1) := by decide +kernel
theorem dX8_swing_1 : decode cX8_swing 1 = .ok (.iconst 1, 1) := by decide +kernel
theorem dX8_swing_2 : decode cX8_swing 2 = .ok (.sipush 500, 3) := by decide +kernel
theorem dX8_swing_5 : decode cX8_swing 5 = .ok (.invokestatic 40, 3) := by decide +kernel
theorem dX8_swing_8 : decode cX8_swing 8 = .ok (.ifCond .ne 6, 3) := by decide +kernel
theorem dX8_swing_11 : decode cX8_swing 11 = .ok (.bipush (-2), 2) := by decide +kernel
theorem dX8_swing_13 : decode cX8_swing 13 = .ok (.ireturn, 1) := by decide +kernel
theorem dX8_swing_14 : decode cX8_swing 14 = .ok (.aload_n 0, 1) := by decide +kernel
theorem dX8_swing_15 : decode cX8_swing 15 = .ok (.getfield 10, 3) := by decide +kernel
theorem dX8_swing_18 : decode cX8_swing 18 = .ok (.getfield 44, 3) := by decide +kernel
theorem dX8_swing_21 : decode cX8_swing 21 = .ok (.invokevirtual 48, 3) := by decide +kernel
theorem dX8_swing_24 : decode cX8_swing 24 = .ok (.ifCond .ne 6, 3) := by decide +kernel
theorem dX8_swing_27 : decode cX8_swing 27 = .ok (.bipush (-5), 2) := by decide +kernel
theorem dX8_swing_29 : decode cX8_swing 29 = .ok (.ireturn, 1) := by decide +kernel
theorem dX8_swing_30 : decode cX8_swing 30 = .ok (.aload_n 0, 1) := by decide +kernel
theorem dX8_swing_31 : decode cX8_swing 31 = .ok (.getfield 22, 3) := by decide +kernel
theorem dX8_swing_34 : decode cX8_swing 34 = .ok (.aload_n 0, 1) := by decide +kernel
theorem dX8_swing_35 : decode cX8_swing 35 = .ok (.getfield 10, 3) := by decide +kernel
theorem dX8_swing_38 : decode cX8_swing 38 = .ok (.invokevirtual 54, 3) := by decide +kernel
theorem dX8_swing_41 : decode cX8_swing 41 = .ok (.aload_n 0, 1) := by decide +kernel
theorem dX8_swing_42 : decode cX8_swing 42 = .ok (.getfield 10, 3) := by decide +kernel
theorem dX8_swing_45 : decode cX8_swing 45 = .ok (.getfield 44, 3) := by decide +kernel
theorem dX8_swing_48 : decode cX8_swing 48 = .ok (.iload_n 1, 1) := by decide +kernel
theorem dX8_swing_49 : decode cX8_swing 49 = .ok (.invokevirtual 88, 3) := by decide +kernel
theorem dX8_swing_52 : decode cX8_swing 52 = .ok (.aload_n 0, 1) := by decide +kernel
theorem dX8_swing_53 : decode cX8_swing 53 = .ok (.getfield 10, 3) := by decide +kernel
theorem dX8_swing_56 : decode cX8_swing 56 = .ok (.getfield 44, 3) := by decide +kernel
theorem dX8_swing_59 : decode cX8_swing 59 = .ok (.getfield 92, 3) := by decide +kernel
theorem dX8_swing_62 : decode cX8_swing 62 = .ok (.ireturn, 1) := by decide +kernel
set_option maxRecDepth 20000 in
theorem ggX8_stop_X0_isSwinging : GoodIn wsX8_stop wsX0_isSwinging := goodIn_r _ [9, 10, 95, 96, 97, 98, 99, 100, 101, 102, 103] (by decide +kernel) (by decide +kernel)
set_option maxRecDepth 20000 in
theorem gX8_stop_X0_isSwinging : GoodIn wsX8_stop (wsV RX8 48 RX0 yX0_isSwinging wsX0_isSwinging) := goodIn_app (goodIn_of _ (by decide +kernel)) ggX8_stop_X0_isSwinging
set_option maxRecDepth 20000 in
theorem ggX8_stop_X2_record : GoodIn wsX8_stop wsX2_record := goodIn_r _ [15, 16, 17, 18, 19, 20, 14, 21, 22, 23, 24, 25, 26, 27, 28, 29, 30, 31, 32, 33, 34, 8, 35, 36, 37, 38, 10, 39, 40, 41, 42, 43, 44, 45, 46, 47, 48, 49, 50, 51, 52, 53, 54, 55, 56, 57, 58, 59, 60, 61, 62, 63, 64, 65, 66, 67, 68, 69, 70, 71, 72, 73, 74, 75, 76, 77, 78, 79, 80, 81, 82, 83, 104, 105, 90, 91, 92, 93, 94, 95, 96, 97, 98, 99, 100, 101, 102, 103, 106, 107, 108, 109, 110, 111, 112, 113, 114, 115, 116, 117, 118, 119] (by decide +kernel) (by decide +kernel)
set_option maxRecDepth 20000 in
theorem gX8_stop_X2_record : GoodIn wsX8_stop (wsV RX8 54 RX2 yX2_record wsX2_record) := goodIn_app (goodIn_of _ (by decide +kernel)) ggX8_stop_X2_record
theorem dX8_stop_0 : decode cX8_stop 0 = .ok (.aload_n 0, 1) := by decide +kernel
theorem dX8_stop_1 : decode cX8_stop 1 = .ok (.getfield 10, 3) := by decide +kernel
theorem dX8_stop_4 : decode cX8_stop 4 = .ok (.getfield 44, 3) := by decide +kernel
theorem dX8_stop_7 : decode cX8_stop 7 = .ok (.invokevirtual 48, 3) := by decide +kernel
theorem dX8_stop_10 : decode cX8_stop 10 = .ok (.ifCond .ne 6, 3) := by decide +kernel
theorem dX8_stop_13 : decode cX8_stop 13 = .ok (.bipush (-5), 2) := by decide +kernel
theorem dX8_stop_15 : decode cX8_stop 15 = .ok (.ireturn, 1) := by decide +kernel
theorem dX8_stop_16 : decode cX8_stop 16 = .ok (.aload_n 0, 1) := by decide +kernel
theorem dX8_stop_17 : decode cX8_stop 17 = .ok (.getfield 22, 3) := by decide +kernel
theorem dX8_stop_20 : decode cX8_stop 20 = .ok (.aload_n 0, 1) := by decide +kernel
theorem dX8_stop_21 : decode cX8_stop 21 = .ok (.getfield 10, 3) := by decide +kernel
theorem dX8_stop_24 : decode cX8_stop 24 = .ok (.invokevirtual 54, 3) := by decide +kernel
theorem dX8_stop_27 : decode cX8_stop 27 = .ok (.aload_n 0, 1) := by decide +kernel
theorem dX8_stop_28 : decode cX8_stop 28 = .ok (.getfield 10, 3) := by decide +kernel
theorem dX8_stop_31 : decode cX8_stop 31 = .ok (.getfield 44, 3) := by decide +kernel
theorem dX8_stop_34 : decode cX8_stop 34 = .ok (.getfield 92, 3) := by decide +kernel
theorem dX8_stop_37 : decode cX8_stop 37 = .ok (.istore_n 1, 1) := by decide +kernel
theorem dX8_stop_38 : decode cX8_stop 38 = .ok (.aload_n 0, 1) := by decide +kernel
theorem dX8_stop_39 : decode cX8_stop 39 = .ok (.getfield 10, 3) := by decide +kernel
theorem dX8_stop_42 : decode cX8_stop 42 = .ok (.getfield 44, 3) := by decide +kernel
theorem dX8_stop_45 : decode cX8_stop 45 = .ok (.iconst 0, 1) := by decide +kernel
theorem dX8_stop_46 : decode cX8_stop 46 = .ok (.putfield 92, 3) := by decide +kernel
theorem dX8_stop_49 : decode cX8_stop 49 = .ok (.iload_n 1, 1) := by decide +kernel
theorem dX8_stop_50 : decode cX8_stop 50 = .ok (.ireturn, 1) := by decide +kernel
set_option maxRecDepth 20000 in
theorem ggX8_load_X8_isPellet : GoodIn wsX8_load wsX8_isPellet := goodIn_r _ [8, 9, 10, 7, 11] (by decide +kernel) (by decide +kernel)
set_option maxRecDepth 20000 in
theorem gX8_load_X8_isPellet : GoodIn wsX8_load (va_wsS RX8 95 yX8_isPellet wsX8_isPellet) := goodIn_app (goodIn_of _ (by decide +kernel)) ggX8_load_X8_isPellet
set_option maxRecDepth 20000 in
theorem ggX8_load_X2_record : GoodIn wsX8_load wsX2_record := goodIn_r _ [16, 17, 18, 19, 20, 21, 15, 22, 23, 24, 25, 26, 27, 28, 29, 30, 31, 32, 33, 34, 35, 36, 37, 38, 39, 40, 41, 42, 43, 44, 45, 46, 47, 7, 48, 49, 50, 51, 52, 53, 54, 55, 56, 57, 58, 59, 60, 61, 62, 63, 64, 65, 66, 67, 68, 69, 70, 71, 72, 73, 74, 75, 76, 77, 78, 79, 80, 81, 82, 83, 84, 85, 104, 105, 96, 97, 98, 99, 100, 106, 107, 108, 109, 110, 111, 112, 113, 114, 101, 102, 103, 115, 116, 117, 118, 119, 120, 121, 122, 123, 124, 125] (by decide +kernel) (by decide +kernel)
set_option maxRecDepth 20000 in
theorem gX8_load_X2_record : GoodIn wsX8_load (wsV RX8 54 RX2 yX2_record wsX2_record) := goodIn_app (goodIn_of _ (by decide +kernel)) ggX8_load_X2_record
set_option maxRecDepth 20000 in
theorem ggX8_load_X3_add : GoodIn wsX8_load wsX3_add := goodIn_r _ [89, 64, 62, 63, 101, 102, 103] (by decide +kernel) (by decide +kernel)
set_option maxRecDepth 20000 in
theorem gX8_load_X3_add : GoodIn wsX8_load (wsV RX8 108 RX3 yX3_add wsX3_add) := goodIn_app (goodIn_of _ (by decide +kernel)) ggX8_load_X3_add
theorem dX8_load_0 : decode cX8_load 0 = .ok (.iload_n 1, 1) := by decide +kernel
theorem dX8_load_1 : decode cX8_load 1 = .ok (.iload_n 2, 1) := by decide +kernel
theorem dX8_load_2 : decode cX8_load 2 = .ok (.invokestatic 95, 3) := by decide +kernel
theorem dX8_load_5 : decode cX8_load 5 = .ok (.ifCond .ne 6, 3) := by decide +kernel
theorem dX8_load_8 : decode cX8_load 8 = .ok (.bipush (-2), 2) := by decide +kernel
theorem dX8_load_10 : decode cX8_load 10 = .ok (.ireturn, 1) := by decide +kernel
theorem dX8_load_11 : decode cX8_load 11 = .ok (.aload_n 0, 1) := by decide +kernel
theorem dX8_load_12 : decode cX8_load 12 = .ok (.getfield 10, 3) := by decide +kernel
theorem dX8_load_15 : decode cX8_load 15 = .ok (.getfield 99, 3) := by decide +kernel
theorem dX8_load_18 : decode cX8_load 18 = .ok (.getfield 103, 3) := by decide +kernel
theorem dX8_load_21 : decode cX8_load 21 = .ok (.bipush 20, 2) := by decide +kernel
theorem dX8_load_23 : decode cX8_load 23 = .ok (.if_icmp .lt 6, 3) := by decide +kernel
theorem dX8_load_26 : decode cX8_load 26 = .ok (.bipush (-3), 2) := by decide +kernel
theorem dX8_load_28 : decode cX8_load 28 = .ok (.ireturn, 1) := by decide +kernel
theorem dX8_load_29 : decode cX8_load 29 = .ok (.aload_n 0, 1) := by decide +kernel
theorem dX8_load_30 : decode cX8_load 30 = .ok (.getfield 22, 3) := by decide +kernel
theorem dX8_load_33 : decode cX8_load 33 = .ok (.aload_n 0, 1) := by decide +kernel
theorem dX8_load_34 : decode cX8_load 34 = .ok (.getfield 10, 3) := by decide +kernel
theorem dX8_load_37 : decode cX8_load 37 = .ok (.invokevirtual 54, 3) := by decide +kernel
theorem dX8_load_40 : decode cX8_load 40 = .ok (.aload_n 0, 1) := by decide +kernel
theorem dX8_load_41 : decode cX8_load 41 = .ok (.getfield 10, 3) := by decide +kernel
theorem dX8_load_44 : decode cX8_load 44 = .ok (.getfield 99, 3) := by decide +kernel
theorem dX8_load_47 : decode cX8_load 47 = .ok (.iload_n 1, 1) := by decide +kernel
theorem dX8_load_48 : decode cX8_load 48 = .ok (.iload_n 2, 1) := by decide +kernel
theorem dX8_load_49 : decode cX8_load 49 = .ok (.invokevirtual 108, 3) := by decide +kernel
theorem dX8_load_52 : decode cX8_load 52 = .ok (.aload_n 0, 1) := by decide +kernel
theorem dX8_load_53 : decode cX8_load 53 = .ok (.getfield 10, 3) := by decide +kernel
theorem dX8_load_56 : decode cX8_load 56 = .ok (.getfield 99, 3) := by decide +kernel
theorem dX8_load_59 : decode cX8_load 59 = .ok (.getfield 103, 3) := by decide +kernel
theorem dX8_load_62 : decode cX8_load 62 = .ok (.ireturn, 1) := by decide +kernel
set_option maxRecDepth 20000 in
theorem ggX8_fire_X8_within : GoodIn wsX8_fire wsX8_within := goodIn_r _ [14] (by decide +kernel) (by decide +kernel)
set_option maxRecDepth 20000 in
theorem gX8_fire_X8_within : GoodIn wsX8_fire (va_wsS RX8 40 yX8_within wsX8_within) := goodIn_app (goodIn_of _ (by decide +kernel)) ggX8_fire_X8_within
set_option maxRecDepth 20000 in
theorem ggX8_fire_X2_record : GoodIn wsX8_fire wsX2_record := goodIn_r _ [19, 20, 21, 22, 23, 24, 18, 25, 26, 27, 28, 29, 30, 31, 32, 33, 34, 35, 36, 37, 38, 39, 40, 41, 42, 43, 44, 45, 46, 47, 48, 49, 50, 13, 51, 4, 5, 6, 7, 52, 53, 54, 55, 56, 57, 58, 59, 60, 61, 62, 63, 64, 65, 66, 67, 68, 69, 70, 71, 72, 73, 74, 75, 76, 77, 78, 79, 80, 81, 82, 83, 84, 188, 189, 172, 173, 174, 175, 176, 190, 191, 192, 193, 194, 195, 196, 197, 198, 177, 178, 179, 180, 181, 182, 183, 184, 185, 186, 187, 199, 200, 201] (by decide +kernel) (by decide +kernel)
set_option maxRecDepth 20000 in
theorem gX8_fire_X2_record : GoodIn wsX8_fire (wsV RX8 54 RX2 yX2_record wsX2_record) := goodIn_app (goodIn_of _ (by decide +kernel)) ggX8_fire_X2_record
set_option maxRecDepth 20000 in
theorem ggX8_fire_X6_fireFirst : GoodIn wsX8_fire wsX6_fireFirst := goodIn_r _ [88, 32, 89, 90, 5, 6, 7, 91, 92, 31, 93, 94, 95, 29, 96, 33, 97, 98, 99, 39, 100, 43, 49, 101, 102, 103, 104, 44, 105, 106, 107, 108, 48, 109, 110, 111, 112, 113, 114, 115, 116, 117, 118, 119, 120, 121, 122, 123, 124, 125, 126, 41, 42, 127, 13, 128, 129, 130, 131, 132, 133, 134, 135, 136, 137, 138, 139, 140, 141, 142, 143, 67, 144, 76, 69, 70, 71, 72, 73, 74, 75, 145, 146, 147, 148, 46, 149, 150, 151, 152, 45, 153, 154, 155, 156, 157, 158, 159, 59, 160, 63, 161, 61, 62, 162, 163, 164, 165, 172, 173, 174, 175, 176, 177, 178, 179, 190, 191, 192, 193, 194, 195, 196, 197, 198, 180, 181, 182, 183, 184, 185, 186, 187] (by decide +kernel) (by decide +kernel)
set_option maxRecDepth 20000 in
theorem gX8_fire_X6_fireFirst : GoodIn wsX8_fire (wsV RX8 146 RX6 yX6_fireFirst wsX6_fireFirst) := goodIn_app (goodIn_of _ (by decide +kernel)) ggX8_fire_X6_fireFirst
theorem dX8_fire_0 : decode cX8_fire 0 = .ok (.iload_n 1, 1) := by decide +kernel
theorem dX8_fire_1 : decode cX8_fire 1 = .ok (.iconst 1, 1) := by decide +kernel
theorem dX8_fire_2 : decode cX8_fire 2 = .ok (.bipush 20, 2) := by decide +kernel
theorem dX8_fire_4 : decode cX8_fire 4 = .ok (.invokestatic 40, 3) := by decide +kernel
theorem dX8_fire_7 : decode cX8_fire 7 = .ok (.ifCond .eq 14, 3) := by decide +kernel
theorem dX8_fire_10 : decode cX8_fire 10 = .ok (.iload_n 2, 1) := by decide +kernel
theorem dX8_fire_11 : decode cX8_fire 11 = .ok (.iconst 0, 1) := by decide +kernel
theorem dX8_fire_12 : decode cX8_fire 12 = .ok (.sipush 500, 3) := by decide +kernel
theorem dX8_fire_15 : decode cX8_fire 15 = .ok (.invokestatic 40, 3) := by decide +kernel
theorem dX8_fire_18 : decode cX8_fire 18 = .ok (.ifCond .ne 6, 3) := by decide +kernel
theorem dX8_fire_21 : decode cX8_fire 21 = .ok (.bipush (-2), 2) := by decide +kernel
theorem dX8_fire_23 : decode cX8_fire 23 = .ok (.ireturn, 1) := by decide +kernel
theorem dX8_fire_24 : decode cX8_fire 24 = .ok (.iload_n 1, 1) := by decide +kernel
theorem dX8_fire_25 : decode cX8_fire 25 = .ok (.aload_n 0, 1) := by decide +kernel
theorem dX8_fire_26 : decode cX8_fire 26 = .ok (.getfield 10, 3) := by decide +kernel
theorem dX8_fire_29 : decode cX8_fire 29 = .ok (.getfield 99, 3) := by decide +kernel
theorem dX8_fire_32 : decode cX8_fire 32 = .ok (.getfield 103, 3) := by decide +kernel
theorem dX8_fire_35 : decode cX8_fire 35 = .ok (.invokestatic 133, 3) := by decide +kernel
theorem dX8_fire_38 : decode cX8_fire 38 = .ok (.istore_n 3, 1) := by decide +kernel
theorem dX8_fire_39 : decode cX8_fire 39 = .ok (.aload_n 0, 1) := by decide +kernel
theorem dX8_fire_40 : decode cX8_fire 40 = .ok (.getfield 10, 3) := by decide +kernel
theorem dX8_fire_43 : decode cX8_fire 43 = .ok (.getfield 139, 3) := by decide +kernel
theorem dX8_fire_46 : decode cX8_fire 46 = .ok (.getfield 143, 3) := by decide +kernel
theorem dX8_fire_49 : decode cX8_fire 49 = .ok (.iload_n 3, 1) := by decide +kernel
theorem dX8_fire_50 : decode cX8_fire 50 = .ok (.iadd, 1) := by decide +kernel
theorem dX8_fire_51 : decode cX8_fire 51 = .ok (.bipush 60, 2) := by decide +kernel
theorem dX8_fire_53 : decode cX8_fire 53 = .ok (.if_icmp .le 6, 3) := by decide +kernel
theorem dX8_fire_56 : decode cX8_fire 56 = .ok (.bipush (-3), 2) := by decide +kernel
theorem dX8_fire_58 : decode cX8_fire 58 = .ok (.ireturn, 1) := by decide +kernel
theorem dX8_fire_59 : decode cX8_fire 59 = .ok (.iload_n 3, 1) := by decide +kernel
theorem dX8_fire_60 : decode cX8_fire 60 = .ok (.ifCond .ne 6, 3) := by decide +kernel
theorem dX8_fire_63 : decode cX8_fire 63 = .ok (.bipush (-5), 2) := by decide +kernel
theorem dX8_fire_65 : decode cX8_fire 65 = .ok (.ireturn, 1) := by decide +kernel
theorem dX8_fire_66 : decode cX8_fire 66 = .ok (.aload_n 0, 1) := by decide +kernel
theorem dX8_fire_67 : decode cX8_fire 67 = .ok (.getfield 22, 3) := by decide +kernel
theorem dX8_fire_70 : decode cX8_fire 70 = .ok (.aload_n 0, 1) := by decide +kernel
theorem dX8_fire_71 : decode cX8_fire 71 = .ok (.getfield 10, 3) := by decide +kernel
theorem dX8_fire_74 : decode cX8_fire 74 = .ok (.invokevirtual 54, 3) := by decide +kernel
theorem dX8_fire_77 : decode cX8_fire 77 = .ok (.aload_n 0, 1) := by decide +kernel
theorem dX8_fire_78 : decode cX8_fire 78 = .ok (.getfield 10, 3) := by decide +kernel
theorem dX8_fire_81 : decode cX8_fire 81 = .ok (.iload_n 3, 1) := by decide +kernel
theorem dX8_fire_82 : decode cX8_fire 82 = .ok (.iload_n 2, 1) := by decide +kernel
theorem dX8_fire_83 : decode cX8_fire 83 = .ok (.invokevirtual 146, 3) := by decide +kernel
theorem dX8_fire_86 : decode cX8_fire 86 = .ok (.ireturn, 1) := by decide +kernel
set_option maxRecDepth 20000 in
theorem ggX8_strike_X1_has : GoodIn wsX8_strike wsX1_has := goodIn_r _ [10, 11, 105, 106, 107, 108, 109, 110, 111, 112] (by decide +kernel) (by decide +kernel)
set_option maxRecDepth 20000 in
theorem gX8_strike_X1_has : GoodIn wsX8_strike (wsV RX8 149 RX1 yX1_has wsX1_has) := goodIn_app (goodIn_of _ (by decide +kernel)) ggX8_strike_X1_has
set_option maxRecDepth 20000 in
theorem ggX8_strike_X2_record : GoodIn wsX8_strike wsX2_record := goodIn_r _ [16, 17, 18, 19, 20, 21, 15, 22, 23, 24, 25, 26, 27, 28, 29, 30, 31, 32, 33, 34, 35, 36, 37, 38, 39, 40, 41, 42, 43, 44, 45, 46, 47, 48, 49, 50, 51, 52, 53, 54, 55, 56, 57, 58, 59, 60, 61, 62, 63, 64, 65, 66, 67, 68, 9, 69, 70, 71, 72, 73, 74, 75, 76, 11, 77, 78, 79, 80, 81, 82, 83, 84, 113, 114, 100, 101, 102, 103, 104, 115, 116, 117, 118, 119, 120, 121, 122, 123, 124, 125, 126, 105, 106, 107, 108, 109, 110, 111, 112, 127, 128, 129] (by decide +kernel) (by decide +kernel)
set_option maxRecDepth 20000 in
theorem gX8_strike_X2_record : GoodIn wsX8_strike (wsV RX8 54 RX2 yX2_record wsX2_record) := goodIn_app (goodIn_of _ (by decide +kernel)) ggX8_strike_X2_record
set_option maxRecDepth 20000 in
theorem ggX8_strike_X1_seriesSize : GoodIn wsX8_strike wsX1_seriesSize := goodIn_r _ [88, 11, 89, 90, 91, 9, 92, 72, 76, 93, 7, 8, 10, 105, 106, 107, 108, 109, 110, 111, 112] (by decide +kernel) (by decide +kernel)
set_option maxRecDepth 20000 in
theorem gX8_strike_X1_seriesSize : GoodIn wsX8_strike (wsV RX8 160 RX1 yX1_seriesSize wsX1_seriesSize) := goodIn_app (goodIn_of _ (by decide +kernel)) ggX8_strike_X1_seriesSize
theorem dX8_strike_0 : decode cX8_strike 0 = .ok (.aload_n 0, 1) := by decide +kernel
theorem dX8_strike_1 : decode cX8_strike 1 = .ok (.getfield 10, 3) := by decide +kernel
theorem dX8_strike_4 : decode cX8_strike 4 = .ok (.getfield 139, 3) := by decide +kernel
theorem dX8_strike_7 : decode cX8_strike 7 = .ok (.astore_n 3, 1) := by decide +kernel
theorem dX8_strike_8 : decode cX8_strike 8 = .ok (.aload_n 3, 1) := by decide +kernel
theorem dX8_strike_9 : decode cX8_strike 9 = .ok (.iload_n 1, 1) := by decide +kernel
theorem dX8_strike_10 : decode cX8_strike 10 = .ok (.invokevirtual 149, 3) := by decide +kernel
theorem dX8_strike_13 : decode cX8_strike 13 = .ok (.ifCond .ne 5, 3) := by decide +kernel
theorem dX8_strike_16 : decode cX8_strike 16 = .ok (.iconst (-1), 1) := by decide +kernel
theorem dX8_strike_17 : decode cX8_strike 17 = .ok (.ireturn, 1) := by decide +kernel
theorem dX8_strike_18 : decode cX8_strike 18 = .ok (.aload_n 3, 1) := by decide +kernel
theorem dX8_strike_19 : decode cX8_strike 19 = .ok (.getfield 153, 3) := by decide +kernel
theorem dX8_strike_22 : decode cX8_strike 22 = .ok (.iload_n 1, 1) := by decide +kernel
theorem dX8_strike_23 : decode cX8_strike 23 = .ok (.iaload, 1) := by decide +kernel
theorem dX8_strike_24 : decode cX8_strike 24 = .ok (.ifCond .eq 6, 3) := by decide +kernel
theorem dX8_strike_27 : decode cX8_strike 27 = .ok (.bipush (-4), 2) := by decide +kernel
theorem dX8_strike_29 : decode cX8_strike 29 = .ok (.ireturn, 1) := by decide +kernel
theorem dX8_strike_30 : decode cX8_strike 30 = .ok (.aload_n 3, 1) := by decide +kernel
theorem dX8_strike_31 : decode cX8_strike 31 = .ok (.getfield 156, 3) := by decide +kernel
theorem dX8_strike_34 : decode cX8_strike 34 = .ok (.iload_n 1, 1) := by decide +kernel
theorem dX8_strike_35 : decode cX8_strike 35 = .ok (.baload, 1) := by decide +kernel
theorem dX8_strike_36 : decode cX8_strike 36 = .ok (.iload_n 2, 1) := by decide +kernel
theorem dX8_strike_37 : decode cX8_strike 37 = .ok (.if_icmp .ne 6, 3) := by decide +kernel
theorem dX8_strike_40 : decode cX8_strike 40 = .ok (.bipush (-5), 2) := by decide +kernel
theorem dX8_strike_42 : decode cX8_strike 42 = .ok (.ireturn, 1) := by decide +kernel
theorem dX8_strike_43 : decode cX8_strike 43 = .ok (.aload_n 0, 1) := by decide +kernel
theorem dX8_strike_44 : decode cX8_strike 44 = .ok (.getfield 22, 3) := by decide +kernel
theorem dX8_strike_47 : decode cX8_strike 47 = .ok (.aload_n 0, 1) := by decide +kernel
theorem dX8_strike_48 : decode cX8_strike 48 = .ok (.getfield 10, 3) := by decide +kernel
theorem dX8_strike_51 : decode cX8_strike 51 = .ok (.invokevirtual 54, 3) := by decide +kernel
theorem dX8_strike_54 : decode cX8_strike 54 = .ok (.aload_n 3, 1) := by decide +kernel
theorem dX8_strike_55 : decode cX8_strike 55 = .ok (.getfield 156, 3) := by decide +kernel
theorem dX8_strike_58 : decode cX8_strike 58 = .ok (.iload_n 1, 1) := by decide +kernel
theorem dX8_strike_59 : decode cX8_strike 59 = .ok (.iload_n 2, 1) := by decide +kernel
theorem dX8_strike_60 : decode cX8_strike 60 = .ok (.bastore, 1) := by decide +kernel
theorem dX8_strike_61 : decode cX8_strike 61 = .ok (.aload_n 3, 1) := by decide +kernel
theorem dX8_strike_62 : decode cX8_strike 62 = .ok (.invokevirtual 160, 3) := by decide +kernel
theorem dX8_strike_65 : decode cX8_strike 65 = .ok (.ireturn, 1) := by decide +kernel
set_option maxRecDepth 20000 in
theorem ggX8_clean_X1_worst : GoodIn wsX8_clean wsX1_worst := goodIn_r _ [9, 10, 11, 12, 13, 14, 8, 15, 16, 17, 18, 19, 20, 21, 22, 23, 24, 25, 26, 27, 28, 29, 30, 31, 32, 33, 34, 35, 36, 37, 38, 123, 124, 125, 126, 127, 128, 129, 130] (by decide +kernel) (by decide +kernel)
set_option maxRecDepth 20000 in
theorem gX8_clean_X1_worst : GoodIn wsX8_clean (wsV RX8 166 RX1 yX1_worst wsX1_worst) := goodIn_app (goodIn_of _ (by decide +kernel)) ggX8_clean_X1_worst
set_option maxRecDepth 20000 in
theorem ggX8_clean_X2_record : GoodIn wsX8_clean wsX2_record := goodIn_r _ [43, 44, 45, 46, 47, 48, 42, 49, 50, 51, 52, 53, 54, 55, 56, 57, 58, 59, 60, 61, 62, 63, 64, 65, 66, 67, 68, 69, 70, 71, 72, 73, 74, 27, 75, 76, 77, 37, 78, 79, 80, 81, 82, 83, 84, 85, 86, 87, 88, 89, 90, 91, 92, 93, 8, 94, 95, 96, 20, 97, 11, 98, 21, 10, 99, 100, 101, 102, 103, 104, 105, 106, 131, 132, 118, 119, 120, 121, 122, 133, 134, 135, 136, 137, 138, 139, 140, 141, 142, 143, 144, 123, 124, 125, 126, 127, 128, 129, 130, 145, 146, 147] (by decide +kernel) (by decide +kernel)
set_option maxRecDepth 20000 in
theorem gX8_clean_X2_record : GoodIn wsX8_clean (wsV RX8 54 RX2 yX2_record wsX2_record) := goodIn_app (goodIn_of _ (by decide +kernel)) ggX8_clean_X2_record
set_option maxRecDepth 20000 in
theorem ggX8_clean_X1_strikeBad : GoodIn wsX8_clean wsX1_strikeBad := goodIn_r _ [110, 21, 111, 6, 7, 8, 9, 10, 11, 12, 13, 14, 15, 16, 17, 18, 19, 20, 22, 23, 24, 25, 26, 27, 28, 29, 30, 31, 32, 33, 34, 35, 36, 37, 38, 123, 124, 125, 126, 127, 128, 129, 130] (by decide +kernel) (by decide +kernel)
set_option maxRecDepth 20000 in
theorem gX8_clean_X1_strikeBad : GoodIn wsX8_clean (wsV RX8 169 RX1 yX1_strikeBad wsX1_strikeBad) := goodIn_app (goodIn_of _ (by decide +kernel)) ggX8_clean_X1_strikeBad
theorem dX8_clean_0 : decode cX8_clean 0 = .ok (.aload_n 0, 1) := by decide +kernel
theorem dX8_clean_1 : decode cX8_clean 1 = .ok (.getfield 10, 3) := by decide +kernel
theorem dX8_clean_4 : decode cX8_clean 4 = .ok (.getfield 139, 3) := by decide +kernel
theorem dX8_clean_7 : decode cX8_clean 7 = .ok (.aload_n 0, 1) := by decide +kernel
theorem dX8_clean_8 : decode cX8_clean 8 = .ok (.getfield 10, 3) := by decide +kernel
theorem dX8_clean_11 : decode cX8_clean 11 = .ok (.getfield 163, 3) := by decide +kernel
theorem dX8_clean_14 : decode cX8_clean 14 = .ok (.invokevirtual 166, 3) := by decide +kernel
theorem dX8_clean_17 : decode cX8_clean 17 = .ok (.ifCond .ge 6, 3) := by decide +kernel
theorem dX8_clean_20 : decode cX8_clean 20 = .ok (.bipush (-5), 2) := by decide +kernel
theorem dX8_clean_22 : decode cX8_clean 22 = .ok (.ireturn, 1) := by decide +kernel
theorem dX8_clean_23 : decode cX8_clean 23 = .ok (.aload_n 0, 1) := by decide +kernel
theorem dX8_clean_24 : decode cX8_clean 24 = .ok (.getfield 22, 3) := by decide +kernel
theorem dX8_clean_27 : decode cX8_clean 27 = .ok (.aload_n 0, 1) := by decide +kernel
theorem dX8_clean_28 : decode cX8_clean 28 = .ok (.getfield 10, 3) := by decide +kernel
theorem dX8_clean_31 : decode cX8_clean 31 = .ok (.invokevirtual 54, 3) := by decide +kernel
theorem dX8_clean_34 : decode cX8_clean 34 = .ok (.aload_n 0, 1) := by decide +kernel
theorem dX8_clean_35 : decode cX8_clean 35 = .ok (.getfield 10, 3) := by decide +kernel
theorem dX8_clean_38 : decode cX8_clean 38 = .ok (.getfield 139, 3) := by decide +kernel
theorem dX8_clean_41 : decode cX8_clean 41 = .ok (.aload_n 0, 1) := by decide +kernel
theorem dX8_clean_42 : decode cX8_clean 42 = .ok (.getfield 10, 3) := by decide +kernel
theorem dX8_clean_45 : decode cX8_clean 45 = .ok (.getfield 163, 3) := by decide +kernel
theorem dX8_clean_48 : decode cX8_clean 48 = .ok (.invokevirtual 169, 3) := by decide +kernel
theorem dX8_clean_51 : decode cX8_clean 51 = .ok (.ireturn, 1) := by decide +kernel
set_option maxRecDepth 20000 in
theorem ggX8_forget_X2_record : GoodIn wsX8_forget wsX2_record := goodIn_r _ [9, 10, 11, 12, 13, 14, 8, 15, 16, 17, 18, 19, 20, 21, 22, 23, 24, 25, 26, 27, 28, 29, 30, 31, 32, 33, 34, 35, 36, 37, 38, 39, 40, 41, 42, 43, 44, 45, 46, 47, 48, 49, 50, 51, 52, 53, 54, 55, 56, 57, 58, 59, 60, 61, 62, 63, 64, 65, 66, 67, 68, 69, 70, 71, 72, 73, 74, 75, 76, 77, 78, 79, 99, 100, 86, 87, 88, 89, 90, 101, 102, 103, 104, 105, 106, 107, 108, 109, 110, 111, 112, 91, 92, 93, 94, 95, 96, 97, 98, 113, 114, 115] (by decide +kernel) (by decide +kernel)
set_option maxRecDepth 20000 in
theorem gX8_forget_X2_record : GoodIn wsX8_forget (wsV RX8 54 RX2 yX2_record wsX2_record) := goodIn_app (goodIn_of _ (by decide +kernel)) ggX8_forget_X2_record
theorem dX8_forget_0 : decode cX8_forget 0 = .ok (.aload_n 0, 1) := by decide +kernel
theorem dX8_forget_1 : decode cX8_forget 1 = .ok (.getfield 10, 3) := by decide +kernel
theorem dX8_forget_4 : decode cX8_forget 4 = .ok (.getfield 139, 3) := by decide +kernel
theorem dX8_forget_7 : decode cX8_forget 7 = .ok (.getfield 143, 3) := by decide +kernel
theorem dX8_forget_10 : decode cX8_forget 10 = .ok (.istore_n 1, 1) := by decide +kernel
theorem dX8_forget_11 : decode cX8_forget 11 = .ok (.iload_n 1, 1) := by decide +kernel
theorem dX8_forget_12 : decode cX8_forget 12 = .ok (.ifCond .ne 6, 3) := by decide +kernel
theorem dX8_forget_15 : decode cX8_forget 15 = .ok (.bipush (-5), 2) := by decide +kernel
theorem dX8_forget_17 : decode cX8_forget 17 = .ok (.ireturn, 1) := by decide +kernel
theorem dX8_forget_18 : decode cX8_forget 18 = .ok (.aload_n 0, 1) := by decide +kernel
theorem dX8_forget_19 : decode cX8_forget 19 = .ok (.getfield 22, 3) := by decide +kernel
theorem dX8_forget_22 : decode cX8_forget 22 = .ok (.aload_n 0, 1) := by decide +kernel
theorem dX8_forget_23 : decode cX8_forget 23 = .ok (.getfield 10, 3) := by decide +kernel
theorem dX8_forget_26 : decode cX8_forget 26 = .ok (.invokevirtual 54, 3) := by decide +kernel
theorem dX8_forget_29 : decode cX8_forget 29 = .ok (.aload_n 0, 1) := by decide +kernel
theorem dX8_forget_30 : decode cX8_forget 30 = .ok (.getfield 10, 3) := by decide +kernel
theorem dX8_forget_33 : decode cX8_forget 33 = .ok (.getfield 139, 3) := by decide +kernel
theorem dX8_forget_36 : decode cX8_forget 36 = .ok (.iconst 0, 1) := by decide +kernel
theorem dX8_forget_37 : decode cX8_forget 37 = .ok (.putfield 143, 3) := by decide +kernel
theorem dX8_forget_40 : decode cX8_forget 40 = .ok (.iload_n 1, 1) := by decide +kernel
theorem dX8_forget_41 : decode cX8_forget 41 = .ok (.ireturn, 1) := by decide +kernel
set_option maxRecDepth 20000 in
theorem ggX8_setLimit_X8_within : GoodIn wsX8_setLimit wsX8_within := goodIn_r _ [7] (by decide +kernel) (by decide +kernel)
set_option maxRecDepth 20000 in
theorem gX8_setLimit_X8_within : GoodIn wsX8_setLimit (va_wsS RX8 40 yX8_within wsX8_within) := goodIn_app (goodIn_of _ (by decide +kernel)) ggX8_setLimit_X8_within
set_option maxRecDepth 20000 in
theorem ggX8_setLimit_X2_record : GoodIn wsX8_setLimit wsX2_record := goodIn_r _ [12, 13, 14, 15, 16, 17, 11, 18, 19, 20, 21, 22, 23, 24, 25, 26, 27, 28, 29, 30, 31, 32, 33, 34, 35, 36, 37, 38, 39, 40, 41, 42, 43, 6, 44, 45, 46, 47, 48, 49, 50, 51, 52, 53, 54, 55, 56, 57, 58, 59, 60, 61, 62, 63, 64, 65, 66, 67, 68, 69, 70, 71, 72, 73, 74, 75, 76, 77, 78, 79, 80, 81, 93, 94, 88, 89, 90, 91, 92, 95, 96, 97, 98, 99, 100, 101, 102, 103, 104, 105, 106, 107, 108, 109, 110, 111, 112, 113, 114, 115, 116, 117] (by decide +kernel) (by decide +kernel)
set_option maxRecDepth 20000 in
theorem gX8_setLimit_X2_record : GoodIn wsX8_setLimit (wsV RX8 54 RX2 yX2_record wsX2_record) := goodIn_app (goodIn_of _ (by decide +kernel)) ggX8_setLimit_X2_record
theorem dX8_setLimit_0 : decode cX8_setLimit 0 = .ok (.iload_n 1, 1) := by decide +kernel
theorem dX8_setLimit_1 : decode cX8_setLimit 1 = .ok (.iconst 1, 1) := by decide +kernel
theorem dX8_setLimit_2 : decode cX8_setLimit 2 = .ok (.sipush 200, 3) := by decide +kernel
theorem dX8_setLimit_5 : decode cX8_setLimit 5 = .ok (.invokestatic 40, 3) := by decide +kernel
theorem dX8_setLimit_8 : decode cX8_setLimit 8 = .ok (.ifCond .ne 6, 3) := by decide +kernel
theorem dX8_setLimit_11 : decode cX8_setLimit 11 = .ok (.bipush (-2), 2) := by decide +kernel
theorem dX8_setLimit_13 : decode cX8_setLimit 13 = .ok (.ireturn, 1) := by decide +kernel
theorem dX8_setLimit_14 : decode cX8_setLimit 14 = .ok (.aload_n 0, 1) := by decide +kernel
theorem dX8_setLimit_15 : decode cX8_setLimit 15 = .ok (.getfield 10, 3) := by decide +kernel
theorem dX8_setLimit_18 : decode cX8_setLimit 18 = .ok (.getfield 163, 3) := by decide +kernel
theorem dX8_setLimit_21 : decode cX8_setLimit 21 = .ok (.istore_n 2, 1) := by decide +kernel
theorem dX8_setLimit_22 : decode cX8_setLimit 22 = .ok (.iload_n 2, 1) := by decide +kernel
theorem dX8_setLimit_23 : decode cX8_setLimit 23 = .ok (.iload_n 1, 1) := by decide +kernel
theorem dX8_setLimit_24 : decode cX8_setLimit 24 = .ok (.if_icmp .ne 6, 3) := by decide +kernel
theorem dX8_setLimit_27 : decode cX8_setLimit 27 = .ok (.bipush (-5), 2) := by decide +kernel
theorem dX8_setLimit_29 : decode cX8_setLimit 29 = .ok (.ireturn, 1) := by decide +kernel
theorem dX8_setLimit_30 : decode cX8_setLimit 30 = .ok (.aload_n 0, 1) := by decide +kernel
theorem dX8_setLimit_31 : decode cX8_setLimit 31 = .ok (.getfield 22, 3) := by decide +kernel
theorem dX8_setLimit_34 : decode cX8_setLimit 34 = .ok (.aload_n 0, 1) := by decide +kernel
theorem dX8_setLimit_35 : decode cX8_setLimit 35 = .ok (.getfield 10, 3) := by decide +kernel
theorem dX8_setLimit_38 : decode cX8_setLimit 38 = .ok (.invokevirtual 54, 3) := by decide +kernel
theorem dX8_setLimit_41 : decode cX8_setLimit 41 = .ok (.aload_n 0, 1) := by decide +kernel
theorem dX8_setLimit_42 : decode cX8_setLimit 42 = .ok (.getfield 10, 3) := by decide +kernel
theorem dX8_setLimit_45 : decode cX8_setLimit 45 = .ok (.iload_n 1, 1) := by decide +kernel
theorem dX8_setLimit_46 : decode cX8_setLimit 46 = .ok (.putfield 163, 3) := by decide +kernel
theorem dX8_setLimit_49 : decode cX8_setLimit 49 = .ok (.iload_n 2, 1) := by decide +kernel
theorem dX8_setLimit_50 : decode cX8_setLimit 50 = .ok (.ireturn, 1) := by decide +kernel
set_option maxRecDepth 20000 in
theorem ggX8_keepStandard_X8_within : GoodIn wsX8_keepStandard wsX8_within := goodIn_r _ [8] (by decide +kernel) (by decide +kernel)
set_option maxRecDepth 20000 in
theorem gX8_keepStandard_X8_within : GoodIn wsX8_keepStandard (va_wsS RX8 40 yX8_within wsX8_within) := goodIn_app (goodIn_of _ (by decide +kernel)) ggX8_keepStandard_X8_within
set_option maxRecDepth 20000 in
theorem ggX8_keepStandard_X2_record : GoodIn wsX8_keepStandard wsX2_record := goodIn_r _ [13, 14, 15, 16, 17, 18, 12, 19, 20, 21, 22, 23, 24, 25, 26, 27, 28, 29, 30, 31, 32, 33, 34, 35, 36, 37, 38, 39, 40, 41, 42, 43, 44, 7, 45, 46, 47, 48, 49, 50, 51, 52, 53, 54, 55, 56, 57, 58, 59, 60, 61, 62, 63, 64, 65, 66, 67, 68, 69, 70, 71, 72, 73, 74, 75, 76, 77, 78, 79, 80, 81, 82, 101, 102, 93, 94, 95, 96, 97, 103, 104, 105, 106, 107, 108, 109, 110, 111, 112, 113, 114, 115, 116, 117, 118, 119, 120, 121, 122, 98, 99, 100] (by decide +kernel) (by decide +kernel)
set_option maxRecDepth 20000 in
theorem gX8_keepStandard_X2_record : GoodIn wsX8_keepStandard (wsV RX8 54 RX2 yX2_record wsX2_record) := goodIn_app (goodIn_of _ (by decide +kernel)) ggX8_keepStandard_X2_record
set_option maxRecDepth 20000 in
theorem ggX8_keepStandard_X5_add : GoodIn wsX8_keepStandard wsX5_add := goodIn_r _ [86, 82, 80, 81, 98, 99, 100] (by decide +kernel) (by decide +kernel)
set_option maxRecDepth 20000 in
theorem gX8_keepStandard_X5_add : GoodIn wsX8_keepStandard (wsV RX8 179 RX5 yX5_add wsX5_add) := goodIn_app (goodIn_of _ (by decide +kernel)) ggX8_keepStandard_X5_add
theorem dX8_keepStandard_0 : decode cX8_keepStandard 0 = .ok (.iload_n 1, 1) := by decide +kernel
theorem dX8_keepStandard_1 : decode cX8_keepStandard 1 = .ok (.bipush 50, 2) := by decide +kernel
theorem dX8_keepStandard_3 : decode cX8_keepStandard 3 = .ok (.sipush 900, 3) := by decide +kernel
theorem dX8_keepStandard_6 : decode cX8_keepStandard 6 = .ok (.invokestatic 40, 3) := by decide +kernel
theorem dX8_keepStandard_9 : decode cX8_keepStandard 9 = .ok (.ifCond .eq 13, 3) := by decide +kernel
theorem dX8_keepStandard_12 : decode cX8_keepStandard 12 = .ok (.iload_n 2, 1) := by decide +kernel
theorem dX8_keepStandard_13 : decode cX8_keepStandard 13 = .ok (.iconst 0, 1) := by decide +kernel
theorem dX8_keepStandard_14 : decode cX8_keepStandard 14 = .ok (.bipush 100, 2) := by decide +kernel
theorem dX8_keepStandard_16 : decode cX8_keepStandard 16 = .ok (.invokestatic 40, 3) := by decide +kernel
theorem dX8_keepStandard_19 : decode cX8_keepStandard 19 = .ok (.ifCond .ne 6, 3) := by decide +kernel
theorem dX8_keepStandard_22 : decode cX8_keepStandard 22 = .ok (.bipush (-2), 2) := by decide +kernel
theorem dX8_keepStandard_24 : decode cX8_keepStandard 24 = .ok (.ireturn, 1) := by decide +kernel
theorem dX8_keepStandard_25 : decode cX8_keepStandard 25 = .ok (.aload_n 0, 1) := by decide +kernel
theorem dX8_keepStandard_26 : decode cX8_keepStandard 26 = .ok (.getfield 10, 3) := by decide +kernel
theorem dX8_keepStandard_29 : decode cX8_keepStandard 29 = .ok (.getfield 172, 3) := by decide +kernel
theorem dX8_keepStandard_32 : decode cX8_keepStandard 32 = .ok (.getfield 176, 3) := by decide +kernel
theorem dX8_keepStandard_35 : decode cX8_keepStandard 35 = .ok (.iconst 5, 1) := by decide +kernel
theorem dX8_keepStandard_36 : decode cX8_keepStandard 36 = .ok (.if_icmp .lt 6, 3) := by decide +kernel
theorem dX8_keepStandard_39 : decode cX8_keepStandard 39 = .ok (.bipush (-3), 2) := by decide +kernel
theorem dX8_keepStandard_41 : decode cX8_keepStandard 41 = .ok (.ireturn, 1) := by decide +kernel
theorem dX8_keepStandard_42 : decode cX8_keepStandard 42 = .ok (.aload_n 0, 1) := by decide +kernel
theorem dX8_keepStandard_43 : decode cX8_keepStandard 43 = .ok (.getfield 22, 3) := by decide +kernel
theorem dX8_keepStandard_46 : decode cX8_keepStandard 46 = .ok (.aload_n 0, 1) := by decide +kernel
theorem dX8_keepStandard_47 : decode cX8_keepStandard 47 = .ok (.getfield 10, 3) := by decide +kernel
theorem dX8_keepStandard_50 : decode cX8_keepStandard 50 = .ok (.invokevirtual 54, 3) := by decide +kernel
theorem dX8_keepStandard_53 : decode cX8_keepStandard 53 = .ok (.aload_n 0, 1) := by decide +kernel
theorem dX8_keepStandard_54 : decode cX8_keepStandard 54 = .ok (.getfield 10, 3) := by decide +kernel
theorem dX8_keepStandard_57 : decode cX8_keepStandard 57 = .ok (.getfield 172, 3) := by decide +kernel
theorem dX8_keepStandard_60 : decode cX8_keepStandard 60 = .ok (.iload_n 1, 1) := by decide +kernel
theorem dX8_keepStandard_61 : decode cX8_keepStandard 61 = .ok (.iload_n 2, 1) := by decide +kernel
theorem dX8_keepStandard_62 : decode cX8_keepStandard 62 = .ok (.invokevirtual 179, 3) := by decide +kernel
theorem dX8_keepStandard_65 : decode cX8_keepStandard 65 = .ok (.aload_n 0, 1) := by decide +kernel
theorem dX8_keepStandard_66 : decode cX8_keepStandard 66 = .ok (.getfield 10, 3) := by decide +kernel
theorem dX8_keepStandard_69 : decode cX8_keepStandard 69 = .ok (.getfield 172, 3) := by decide +kernel
theorem dX8_keepStandard_72 : decode cX8_keepStandard 72 = .ok (.getfield 176, 3) := by decide +kernel
theorem dX8_keepStandard_75 : decode cX8_keepStandard 75 = .ok (.iconst 1, 1) := by decide +kernel
theorem dX8_keepStandard_76 : decode cX8_keepStandard 76 = .ok (.isub, 1) := by decide +kernel
theorem dX8_keepStandard_77 : decode cX8_keepStandard 77 = .ok (.ireturn, 1) := by decide +kernel
