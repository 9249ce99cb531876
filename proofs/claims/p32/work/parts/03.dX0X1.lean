set_option maxRecDepth 20000 in
theorem ggX0_init_X8_copyRow : GoodIn wsX0_init wsX8_copyRow := goodIn_r _ [10, 11, 12, 13, 14, 15, 16, 17, 18] (by decide +kernel) (by decide +kernel)
set_option maxRecDepth 20000 in
theorem gX0_init_X8_copyRow_n25 : GoodIn wsX0_init (wsX8_copyRow) := ggX0_init_X8_copyRow
theorem dX0_init_0 : decode cX0_init 0 = .ok (.aload_n 0, 1) := by decide +kernel
theorem dX0_init_1 : decode cX0_init 1 = .ok (.invokespecial 3, 3) := by decide +kernel
theorem dX0_init_4 : decode cX0_init 4 = .ok (.aload_n 0, 1) := by decide +kernel
theorem dX0_init_5 : decode cX0_init 5 = .ok (.sipush 4000, 3) := by decide +kernel
theorem dX0_init_8 : decode cX0_init 8 = .ok (.putfield 9, 3) := by decide +kernel
theorem dX0_init_11 : decode cX0_init 11 = .ok (.aload_n 0, 1) := by decide +kernel
theorem dX0_init_12 : decode cX0_init 12 = .ok (.iconst 4, 1) := by decide +kernel
theorem dX0_init_13 : decode cX0_init 13 = .ok (.newarray .int, 2) := by decide +kernel
theorem dX0_init_15 : decode cX0_init 15 = .ok (.putfield 15, 3) := by decide +kernel
theorem dX0_init_18 : decode cX0_init 18 = .ok (.aload_n 0, 1) := by decide +kernel
theorem dX0_init_19 : decode cX0_init 19 = .ok (.iconst 4, 1) := by decide +kernel
theorem dX0_init_20 : decode cX0_init 20 = .ok (.newarray .int, 2) := by decide +kernel
theorem dX0_init_22 : decode cX0_init 22 = .ok (.putfield 19, 3) := by decide +kernel
theorem dX0_init_25 : decode cX0_init 25 = .ok (.iconst 0, 1) := by decide +kernel
theorem dX0_init_26 : decode cX0_init 26 = .ok (.istore_n 1, 1) := by decide +kernel
theorem dX0_init_27 : decode cX0_init 27 = .ok (.iload_n 1, 1) := by decide +kernel
theorem dX0_init_28 : decode cX0_init 28 = .ok (.iconst 4, 1) := by decide +kernel
theorem dX0_init_29 : decode cX0_init 29 = .ok (.if_icmp .ge 18, 3) := by decide +kernel
theorem dX0_init_32 : decode cX0_init 32 = .ok (.aload_n 0, 1) := by decide +kernel
theorem dX0_init_33 : decode cX0_init 33 = .ok (.getfield 15, 3) := by decide +kernel
theorem dX0_init_36 : decode cX0_init 36 = .ok (.iload_n 1, 1) := by decide +kernel
theorem dX0_init_37 : decode cX0_init 37 = .ok (.sipush 2000, 3) := by decide +kernel
theorem dX0_init_40 : decode cX0_init 40 = .ok (.iastore, 1) := by decide +kernel
theorem dX0_init_41 : decode cX0_init 41 = .ok (.iinc 1 1, 3) := by decide +kernel
theorem dX0_init_44 : decode cX0_init 44 = .ok (.goto (-17), 3) := by decide +kernel
theorem dX0_init_47 : decode cX0_init 47 = .ok (.getstatic 22, 3) := by decide +kernel
theorem dX0_init_50 : decode cX0_init 50 = .ok (.aload_n 0, 1) := by decide +kernel
theorem dX0_init_51 : decode cX0_init 51 = .ok (.getfield 19, 3) := by decide +kernel
theorem dX0_init_54 : decode cX0_init 54 = .ok (.invokestatic 25, 3) := by decide +kernel
theorem dX0_init_57 : decode cX0_init 57 = .ok (.return_, 1) := by decide +kernel
set_option maxRecDepth 20000 in
theorem ggX0_copyFrom_X8_copyRow : GoodIn wsX0_copyFrom wsX8_copyRow := goodIn_r _ [12, 13, 14, 15, 16, 17, 18, 19, 20] (by decide +kernel) (by decide +kernel)
set_option maxRecDepth 20000 in
theorem gX0_copyFrom_X8_copyRow_n25 : GoodIn wsX0_copyFrom (wsX8_copyRow) := ggX0_copyFrom_X8_copyRow
theorem dX0_copyFrom_0 : decode cX0_copyFrom 0 = .ok (.aload_n 0, 1) := by decide +kernel
theorem dX0_copyFrom_1 : decode cX0_copyFrom 1 = .ok (.aload_n 1, 1) := by decide +kernel
theorem dX0_copyFrom_2 : decode cX0_copyFrom 2 = .ok (.getfield 9, 3) := by decide +kernel
theorem dX0_copyFrom_5 : decode cX0_copyFrom 5 = .ok (.putfield 9, 3) := by decide +kernel
theorem dX0_copyFrom_8 : decode cX0_copyFrom 8 = .ok (.aload_n 0, 1) := by decide +kernel
theorem dX0_copyFrom_9 : decode cX0_copyFrom 9 = .ok (.aload_n 1, 1) := by decide +kernel
theorem dX0_copyFrom_10 : decode cX0_copyFrom 10 = .ok (.getfield 29, 3) := by decide +kernel
theorem dX0_copyFrom_13 : decode cX0_copyFrom 13 = .ok (.putfield 29, 3) := by decide +kernel
theorem dX0_copyFrom_16 : decode cX0_copyFrom 16 = .ok (.aload_n 0, 1) := by decide +kernel
theorem dX0_copyFrom_17 : decode cX0_copyFrom 17 = .ok (.aload_n 1, 1) := by decide +kernel
theorem dX0_copyFrom_18 : decode cX0_copyFrom 18 = .ok (.getfield 32, 3) := by decide +kernel
theorem dX0_copyFrom_21 : decode cX0_copyFrom 21 = .ok (.putfield 32, 3) := by decide +kernel
theorem dX0_copyFrom_24 : decode cX0_copyFrom 24 = .ok (.aload_n 0, 1) := by decide +kernel
theorem dX0_copyFrom_25 : decode cX0_copyFrom 25 = .ok (.aload_n 1, 1) := by decide +kernel
theorem dX0_copyFrom_26 : decode cX0_copyFrom 26 = .ok (.getfield 35, 3) := by decide +kernel
theorem dX0_copyFrom_29 : decode cX0_copyFrom 29 = .ok (.putfield 35, 3) := by decide +kernel
theorem dX0_copyFrom_32 : decode cX0_copyFrom 32 = .ok (.aload_n 0, 1) := by decide +kernel
theorem dX0_copyFrom_33 : decode cX0_copyFrom 33 = .ok (.aload_n 1, 1) := by decide +kernel
theorem dX0_copyFrom_34 : decode cX0_copyFrom 34 = .ok (.getfield 38, 3) := by decide +kernel
theorem dX0_copyFrom_37 : decode cX0_copyFrom 37 = .ok (.putfield 38, 3) := by decide +kernel
theorem dX0_copyFrom_40 : decode cX0_copyFrom 40 = .ok (.aload_n 0, 1) := by decide +kernel
theorem dX0_copyFrom_41 : decode cX0_copyFrom 41 = .ok (.aload_n 1, 1) := by decide +kernel
theorem dX0_copyFrom_42 : decode cX0_copyFrom 42 = .ok (.getfield 41, 3) := by decide +kernel
theorem dX0_copyFrom_45 : decode cX0_copyFrom 45 = .ok (.putfield 41, 3) := by decide +kernel
theorem dX0_copyFrom_48 : decode cX0_copyFrom 48 = .ok (.aload_n 0, 1) := by decide +kernel
theorem dX0_copyFrom_49 : decode cX0_copyFrom 49 = .ok (.aload_n 1, 1) := by decide +kernel
theorem dX0_copyFrom_50 : decode cX0_copyFrom 50 = .ok (.getfield 44, 3) := by decide +kernel
theorem dX0_copyFrom_53 : decode cX0_copyFrom 53 = .ok (.putfield 44, 3) := by decide +kernel
theorem dX0_copyFrom_56 : decode cX0_copyFrom 56 = .ok (.aload_n 1, 1) := by decide +kernel
theorem dX0_copyFrom_57 : decode cX0_copyFrom 57 = .ok (.getfield 15, 3) := by decide +kernel
theorem dX0_copyFrom_60 : decode cX0_copyFrom 60 = .ok (.aload_n 0, 1) := by decide +kernel
theorem dX0_copyFrom_61 : decode cX0_copyFrom 61 = .ok (.getfield 15, 3) := by decide +kernel
theorem dX0_copyFrom_64 : decode cX0_copyFrom 64 = .ok (.invokestatic 25, 3) := by decide +kernel
theorem dX0_copyFrom_67 : decode cX0_copyFrom 67 = .ok (.aload_n 1, 1) := by decide +kernel
theorem dX0_copyFrom_68 : decode cX0_copyFrom 68 = .ok (.getfield 19, 3) := by decide +kernel
theorem dX0_copyFrom_71 : decode cX0_copyFrom 71 = .ok (.aload_n 0, 1) := by decide +kernel
theorem dX0_copyFrom_72 : decode cX0_copyFrom 72 = .ok (.getfield 19, 3) := by decide +kernel
theorem dX0_copyFrom_75 : decode cX0_copyFrom 75 = .ok (.invokestatic 25, 3) := by decide +kernel
theorem dX0_copyFrom_78 : decode cX0_copyFrom 78 = .ok (.return_, 1) := by decide +kernel
theorem dX0_isSwinging_0 : decode cX0_isSwinging 0 = .ok (.aload_n 0, 1) := by decide +kernel
theorem dX0_isSwinging_1 : decode cX0_isSwinging 1 = .ok (.getfield 35, 3) := by decide +kernel
theorem dX0_isSwinging_4 : decode cX0_isSwinging 4 = .ok (.ifCond .le 7, 3) := by decide +kernel
theorem dX0_isSwinging_7 : decode cX0_isSwinging 7 = .ok (.iconst 1, 1) := by decide +kernel
theorem dX0_isSwinging_8 : decode cX0_isSwinging 8 = .ok (.goto 4, 3) := by decide +kernel
theorem dX0_isSwinging_11 : decode cX0_isSwinging 11 = .ok (.iconst 0, 1) := by decide +kernel
theorem dX0_isSwinging_12 : decode cX0_isSwinging 12 = .ok (.ireturn, 1) := by decide +kernel
theorem dX0_wholeMass_0 : decode cX0_wholeMass 0 = .ok (.bipush 10, 2) := by decide +kernel
theorem dX0_wholeMass_2 : decode cX0_wholeMass 2 = .ok (.aload_n 0, 1) := by decide +kernel
theorem dX0_wholeMass_3 : decode cX0_wholeMass 3 = .ok (.getfield 9, 3) := by decide +kernel
theorem dX0_wholeMass_6 : decode cX0_wholeMass 6 = .ok (.imul, 1) := by decide +kernel
theorem dX0_wholeMass_7 : decode cX0_wholeMass 7 = .ok (.aload_n 0, 1) := by decide +kernel
theorem dX0_wholeMass_8 : decode cX0_wholeMass 8 = .ok (.getfield 29, 3) := by decide +kernel
theorem dX0_wholeMass_11 : decode cX0_wholeMass 11 = .ok (.iadd, 1) := by decide +kernel
theorem dX0_wholeMass_12 : decode cX0_wholeMass 12 = .ok (.ireturn, 1) := by decide +kernel
theorem dX0_meanLength_0 : decode cX0_meanLength 0 = .ok (.iconst 0, 1) := by decide +kernel
theorem dX0_meanLength_1 : decode cX0_meanLength 1 = .ok (.istore_n 1, 1) := by decide +kernel
theorem dX0_meanLength_2 : decode cX0_meanLength 2 = .ok (.iconst 0, 1) := by decide +kernel
theorem dX0_meanLength_3 : decode cX0_meanLength 3 = .ok (.istore_n 2, 1) := by decide +kernel
theorem dX0_meanLength_4 : decode cX0_meanLength 4 = .ok (.iload_n 2, 1) := by decide +kernel
theorem dX0_meanLength_5 : decode cX0_meanLength 5 = .ok (.iconst 4, 1) := by decide +kernel
theorem dX0_meanLength_6 : decode cX0_meanLength 6 = .ok (.if_icmp .ge 18, 3) := by decide +kernel
theorem dX0_meanLength_9 : decode cX0_meanLength 9 = .ok (.iload_n 1, 1) := by decide +kernel
theorem dX0_meanLength_10 : decode cX0_meanLength 10 = .ok (.aload_n 0, 1) := by decide +kernel
theorem dX0_meanLength_11 : decode cX0_meanLength 11 = .ok (.getfield 15, 3) := by decide +kernel
theorem dX0_meanLength_14 : decode cX0_meanLength 14 = .ok (.iload_n 2, 1) := by decide +kernel
theorem dX0_meanLength_15 : decode cX0_meanLength 15 = .ok (.iaload, 1) := by decide +kernel
theorem dX0_meanLength_16 : decode cX0_meanLength 16 = .ok (.iadd, 1) := by decide +kernel
theorem dX0_meanLength_17 : decode cX0_meanLength 17 = .ok (.istore_n 1, 1) := by decide +kernel
theorem dX0_meanLength_18 : decode cX0_meanLength 18 = .ok (.iinc 2 1, 3) := by decide +kernel
theorem dX0_meanLength_21 : decode cX0_meanLength 21 = .ok (.goto (-17), 3) := by decide +kernel
theorem dX0_meanLength_24 : decode cX0_meanLength 24 = .ok (.iload_n 1, 1) := by decide +kernel
theorem dX0_meanLength_25 : decode cX0_meanLength 25 = .ok (.iconst 4, 1) := by decide +kernel
theorem dX0_meanLength_26 : decode cX0_meanLength 26 = .ok (.idiv, 1) := by decide +kernel
theorem dX0_meanLength_27 : decode cX0_meanLength 27 = .ok (.ireturn, 1) := by decide +kernel
theorem dX0_isStraight_0 : decode cX0_isStraight 0 = .ok (.aload_n 0, 1) := by decide +kernel
theorem dX0_isStraight_1 : decode cX0_isStraight 1 = .ok (.getfield 15, 3) := by decide +kernel
theorem dX0_isStraight_4 : decode cX0_isStraight 4 = .ok (.iconst 0, 1) := by decide +kernel
theorem dX0_isStraight_5 : decode cX0_isStraight 5 = .ok (.iaload, 1) := by decide +kernel
theorem dX0_isStraight_6 : decode cX0_isStraight 6 = .ok (.istore_n 1, 1) := by decide +kernel
theorem dX0_isStraight_7 : decode cX0_isStraight 7 = .ok (.aload_n 0, 1) := by decide +kernel
theorem dX0_isStraight_8 : decode cX0_isStraight 8 = .ok (.getfield 15, 3) := by decide +kernel
theorem dX0_isStraight_11 : decode cX0_isStraight 11 = .ok (.iconst 0, 1) := by decide +kernel
theorem dX0_isStraight_12 : decode cX0_isStraight 12 = .ok (.iaload, 1) := by decide +kernel
theorem dX0_isStraight_13 : decode cX0_isStraight 13 = .ok (.istore_n 2, 1) := by decide +kernel
theorem dX0_isStraight_14 : decode cX0_isStraight 14 = .ok (.iconst 1, 1) := by decide +kernel
theorem dX0_isStraight_15 : decode cX0_isStraight 15 = .ok (.istore_n 3, 1) := by decide +kernel
theorem dX0_isStraight_16 : decode cX0_isStraight 16 = .ok (.iload_n 3, 1) := by decide +kernel
theorem dX0_isStraight_17 : decode cX0_isStraight 17 = .ok (.iconst 4, 1) := by decide +kernel
theorem dX0_isStraight_18 : decode cX0_isStraight 18 = .ok (.if_icmp .ge 31, 3) := by decide +kernel
theorem dX0_isStraight_21 : decode cX0_isStraight 21 = .ok (.iload_n 1, 1) := by decide +kernel
theorem dX0_isStraight_22 : decode cX0_isStraight 22 = .ok (.aload_n 0, 1) := by decide +kernel
theorem dX0_isStraight_23 : decode cX0_isStraight 23 = .ok (.getfield 15, 3) := by decide +kernel
theorem dX0_isStraight_26 : decode cX0_isStraight 26 = .ok (.iload_n 3, 1) := by decide +kernel
theorem dX0_isStraight_27 : decode cX0_isStraight 27 = .ok (.iaload, 1) := by decide +kernel
theorem dX0_isStraight_28 : decode cX0_isStraight 28 = .ok (.invokestatic 47, 3) := by decide +kernel
theorem dX0_isStraight_31 : decode cX0_isStraight 31 = .ok (.istore_n 1, 1) := by decide +kernel
theorem dX0_isStraight_32 : decode cX0_isStraight 32 = .ok (.iload_n 2, 1) := by decide +kernel
theorem dX0_isStraight_33 : decode cX0_isStraight 33 = .ok (.aload_n 0, 1) := by decide +kernel
theorem dX0_isStraight_34 : decode cX0_isStraight 34 = .ok (.getfield 15, 3) := by decide +kernel
theorem dX0_isStraight_37 : decode cX0_isStraight 37 = .ok (.iload_n 3, 1) := by decide +kernel
theorem dX0_isStraight_38 : decode cX0_isStraight 38 = .ok (.iaload, 1) := by decide +kernel
theorem dX0_isStraight_39 : decode cX0_isStraight 39 = .ok (.invokestatic 53, 3) := by decide +kernel
theorem dX0_isStraight_42 : decode cX0_isStraight 42 = .ok (.istore_n 2, 1) := by decide +kernel
theorem dX0_isStraight_43 : decode cX0_isStraight 43 = .ok (.iinc 3 1, 3) := by decide +kernel
theorem dX0_isStraight_46 : decode cX0_isStraight 46 = .ok (.goto (-30), 3) := by decide +kernel
theorem dX0_isStraight_49 : decode cX0_isStraight 49 = .ok (.iload_n 2, 1) := by decide +kernel
theorem dX0_isStraight_50 : decode cX0_isStraight 50 = .ok (.iload_n 1, 1) := by decide +kernel
theorem dX0_isStraight_51 : decode cX0_isStraight 51 = .ok (.isub, 1) := by decide +kernel
theorem dX0_isStraight_52 : decode cX0_isStraight 52 = .ok (.aload_n 0, 1) := by decide +kernel
theorem dX0_isStraight_53 : decode cX0_isStraight 53 = .ok (.getfield 19, 3) := by decide +kernel
theorem dX0_isStraight_56 : decode cX0_isStraight 56 = .ok (.iconst 0, 1) := by decide +kernel
theorem dX0_isStraight_57 : decode cX0_isStraight 57 = .ok (.iaload, 1) := by decide +kernel
theorem dX0_isStraight_58 : decode cX0_isStraight 58 = .ok (.if_icmp .gt 7, 3) := by decide +kernel
theorem dX0_isStraight_61 : decode cX0_isStraight 61 = .ok (.iconst 1, 1) := by decide +kernel
theorem dX0_isStraight_62 : decode cX0_isStraight 62 = .ok (.goto 4, 3) := by decide +kernel
theorem dX0_isStraight_65 : decode cX0_isStraight 65 = .ok (.iconst 0, 1) := by decide +kernel
theorem dX0_isStraight_66 : decode cX0_isStraight 66 = .ok (.ireturn, 1) := by decide +kernel
set_option maxRecDepth 20000 in
theorem ggX0_reasonNow_X0_isSwinging : GoodIn wsX0_reasonNow wsX0_isSwinging := goodIn_r _ [7, 8, 21, 22, 23, 24, 25, 26, 27, 28, 29] (by decide +kernel) (by decide +kernel)
set_option maxRecDepth 20000 in
theorem gX0_reasonNow_X0_isSwinging : GoodIn wsX0_reasonNow (wsV RX0 56 RX0 yX0_isSwinging wsX0_isSwinging) := goodIn_app (goodIn_of _ (by decide +kernel)) ggX0_reasonNow_X0_isSwinging
set_option maxRecDepth 20000 in
theorem ggX0_reasonNow_X0_isStraight : GoodIn wsX0_reasonNow wsX0_isStraight := goodIn_r _ [12, 13, 14, 15, 16, 17, 18, 19, 20, 2, 21, 22, 23, 24, 25, 26, 27, 28, 29] (by decide +kernel) (by decide +kernel)
set_option maxRecDepth 20000 in
theorem gX0_reasonNow_X0_isStraight : GoodIn wsX0_reasonNow (wsV RX0 60 RX0 yX0_isStraight wsX0_isStraight) := goodIn_app (goodIn_of _ (by decide +kernel)) ggX0_reasonNow_X0_isStraight
theorem dX0_reasonNow_0 : decode cX0_reasonNow 0 = .ok (.aload_n 0, 1) := by decide +kernel
theorem dX0_reasonNow_1 : decode cX0_reasonNow 1 = .ok (.invokevirtual 56, 3) := by decide +kernel
theorem dX0_reasonNow_4 : decode cX0_reasonNow 4 = .ok (.ifCond .eq 5, 3) := by decide +kernel
theorem dX0_reasonNow_7 : decode cX0_reasonNow 7 = .ok (.iconst 1, 1) := by decide +kernel
theorem dX0_reasonNow_8 : decode cX0_reasonNow 8 = .ok (.ireturn, 1) := by decide +kernel
theorem dX0_reasonNow_9 : decode cX0_reasonNow 9 = .ok (.aload_n 0, 1) := by decide +kernel
theorem dX0_reasonNow_10 : decode cX0_reasonNow 10 = .ok (.invokevirtual 60, 3) := by decide +kernel
theorem dX0_reasonNow_13 : decode cX0_reasonNow 13 = .ok (.ifCond .ne 5, 3) := by decide +kernel
theorem dX0_reasonNow_16 : decode cX0_reasonNow 16 = .ok (.iconst 2, 1) := by decide +kernel
theorem dX0_reasonNow_17 : decode cX0_reasonNow 17 = .ok (.ireturn, 1) := by decide +kernel
theorem dX0_reasonNow_18 : decode cX0_reasonNow 18 = .ok (.aload_n 0, 1) := by decide +kernel
theorem dX0_reasonNow_19 : decode cX0_reasonNow 19 = .ok (.getfield 32, 3) := by decide +kernel
theorem dX0_reasonNow_22 : decode cX0_reasonNow 22 = .ok (.aload_n 0, 1) := by decide +kernel
theorem dX0_reasonNow_23 : decode cX0_reasonNow 23 = .ok (.getfield 19, 3) := by decide +kernel
theorem dX0_reasonNow_26 : decode cX0_reasonNow 26 = .ok (.iconst 3, 1) := by decide +kernel
theorem dX0_reasonNow_27 : decode cX0_reasonNow 27 = .ok (.iaload, 1) := by decide +kernel
theorem dX0_reasonNow_28 : decode cX0_reasonNow 28 = .ok (.if_icmp .lt 7, 3) := by decide +kernel
theorem dX0_reasonNow_31 : decode cX0_reasonNow 31 = .ok (.iconst 3, 1) := by decide +kernel
theorem dX0_reasonNow_32 : decode cX0_reasonNow 32 = .ok (.goto 4, 3) := by decide +kernel
theorem dX0_reasonNow_35 : decode cX0_reasonNow 35 = .ok (.iconst 0, 1) := by decide +kernel
theorem dX0_reasonNow_36 : decode cX0_reasonNow 36 = .ok (.ireturn, 1) := by decide +kernel
set_option maxRecDepth 20000 in
theorem ggX0_firstHeight_X0_wholeMass : GoodIn wsX0_firstHeight wsX0_wholeMass := goodIn_r _ [12, 13, 14, 23, 24, 25, 26, 27, 28, 29, 30, 31] (by decide +kernel) (by decide +kernel)
set_option maxRecDepth 20000 in
theorem gX0_firstHeight_X0_wholeMass : GoodIn wsX0_firstHeight (wsV RX0 63 RX0 yX0_wholeMass wsX0_wholeMass) := goodIn_app (goodIn_of _ (by decide +kernel)) ggX0_firstHeight_X0_wholeMass
set_option maxRecDepth 20000 in
theorem ggX0_firstHeight_X8_quotient : GoodIn wsX0_firstHeight wsX8_quotient := goodIn_r _ [17] (by decide +kernel) (by decide +kernel)
set_option maxRecDepth 20000 in
theorem gX0_firstHeight_X8_quotient_n69 : GoodIn wsX0_firstHeight (wsX8_quotient) := ggX0_firstHeight_X8_quotient
set_option maxRecDepth 20000 in
theorem ggX0_firstHeight_X0_meanLength : GoodIn wsX0_firstHeight wsX0_meanLength := goodIn_r _ [21, 22, 23, 24, 25, 26, 27, 28, 29, 30, 31] (by decide +kernel) (by decide +kernel)
set_option maxRecDepth 20000 in
theorem gX0_firstHeight_X0_meanLength : GoodIn wsX0_firstHeight (wsV RX0 77 RX0 yX0_meanLength wsX0_meanLength) := goodIn_app (goodIn_of _ (by decide +kernel)) ggX0_firstHeight_X0_meanLength
theorem dX0_firstHeight_0 : decode cX0_firstHeight 0 = .ok (.aload_n 0, 1) := by decide +kernel
theorem dX0_firstHeight_1 : decode cX0_firstHeight 1 = .ok (.invokevirtual 63, 3) := by decide +kernel
theorem dX0_firstHeight_4 : decode cX0_firstHeight 4 = .ok (.i2l, 1) := by decide +kernel
theorem dX0_firstHeight_5 : decode cX0_firstHeight 5 = .ok (.iload_n 1, 1) := by decide +kernel
theorem dX0_firstHeight_6 : decode cX0_firstHeight 6 = .ok (.i2l, 1) := by decide +kernel
theorem dX0_firstHeight_7 : decode cX0_firstHeight 7 = .ok (.ladd, 1) := by decide +kernel
theorem dX0_firstHeight_8 : decode cX0_firstHeight 8 = .ok (.lstore_n 3, 1) := by decide +kernel
theorem dX0_firstHeight_9 : decode cX0_firstHeight 9 = .ok (.iload_n 1, 1) := by decide +kernel
theorem dX0_firstHeight_10 : decode cX0_firstHeight 10 = .ok (.i2l, 1) := by decide +kernel
theorem dX0_firstHeight_11 : decode cX0_firstHeight 11 = .ok (.iload_n 2, 1) := by decide +kernel
theorem dX0_firstHeight_12 : decode cX0_firstHeight 12 = .ok (.i2l, 1) := by decide +kernel
theorem dX0_firstHeight_13 : decode cX0_firstHeight 13 = .ok (.lmul, 1) := by decide +kernel
theorem dX0_firstHeight_14 : decode cX0_firstHeight 14 = .ok (.ldc2_w 67, 3) := by decide +kernel
theorem dX0_firstHeight_17 : decode cX0_firstHeight 17 = .ok (.lmul, 1) := by decide +kernel
theorem dX0_firstHeight_18 : decode cX0_firstHeight 18 = .ok (.lload_n 3, 1) := by decide +kernel
theorem dX0_firstHeight_19 : decode cX0_firstHeight 19 = .ok (.invokestatic 69, 3) := by decide +kernel
theorem dX0_firstHeight_22 : decode cX0_firstHeight 22 = .ok (.lstore 5, 2) := by decide +kernel
theorem dX0_firstHeight_24 : decode cX0_firstHeight 24 = .ok (.lload 5, 2) := by decide +kernel
theorem dX0_firstHeight_26 : decode cX0_firstHeight 26 = .ok (.lload 5, 2) := by decide +kernel
theorem dX0_firstHeight_28 : decode cX0_firstHeight 28 = .ok (.lmul, 1) := by decide +kernel
theorem dX0_firstHeight_29 : decode cX0_firstHeight 29 = .ok (.ldc2_w 73, 3) := by decide +kernel
theorem dX0_firstHeight_32 : decode cX0_firstHeight 32 = .ok (.lmul, 1) := by decide +kernel
theorem dX0_firstHeight_33 : decode cX0_firstHeight 33 = .ok (.ldc2_w 75, 3) := by decide +kernel
theorem dX0_firstHeight_36 : decode cX0_firstHeight 36 = .ok (.ldiv, 1) := by decide +kernel
theorem dX0_firstHeight_37 : decode cX0_firstHeight 37 = .ok (.lstore 7, 2) := by decide +kernel
theorem dX0_firstHeight_39 : decode cX0_firstHeight 39 = .ok (.lload 7, 2) := by decide +kernel
theorem dX0_firstHeight_41 : decode cX0_firstHeight 41 = .ok (.aload_n 0, 1) := by decide +kernel
theorem dX0_firstHeight_42 : decode cX0_firstHeight 42 = .ok (.invokevirtual 77, 3) := by decide +kernel
theorem dX0_firstHeight_45 : decode cX0_firstHeight 45 = .ok (.i2l, 1) := by decide +kernel
theorem dX0_firstHeight_46 : decode cX0_firstHeight 46 = .ok (.ldc2_w 73, 3) := by decide +kernel
theorem dX0_firstHeight_49 : decode cX0_firstHeight 49 = .ok (.lmul, 1) := by decide +kernel
theorem dX0_firstHeight_50 : decode cX0_firstHeight 50 = .ok (.invokestatic 80, 3) := by decide +kernel
theorem dX0_firstHeight_53 : decode cX0_firstHeight 53 = .ok (.l2i, 1) := by decide +kernel
theorem dX0_firstHeight_54 : decode cX0_firstHeight 54 = .ok (.ireturn, 1) := by decide +kernel
set_option maxRecDepth 20000 in
theorem ggX0_toldSpeed_X0_wholeMass : GoodIn wsX0_toldSpeed wsX0_wholeMass := goodIn_r _ [8, 9, 10, 17, 18, 19, 20, 21, 22, 23, 24, 25] (by decide +kernel) (by decide +kernel)
set_option maxRecDepth 20000 in
theorem gX0_toldSpeed_X0_wholeMass : GoodIn wsX0_toldSpeed (wsV RX0 63 RX0 yX0_wholeMass wsX0_wholeMass) := goodIn_app (goodIn_of _ (by decide +kernel)) ggX0_toldSpeed_X0_wholeMass
set_option maxRecDepth 20000 in
theorem ggX0_toldSpeed_X8_rootOf : GoodIn wsX0_toldSpeed wsX8_rootOf := goodIn_r _ [13, 14] (by decide +kernel) (by decide +kernel)
set_option maxRecDepth 20000 in
theorem gX0_toldSpeed_X8_rootOf_n82 : GoodIn wsX0_toldSpeed (wsX8_rootOf) := ggX0_toldSpeed_X8_rootOf
set_option maxRecDepth 20000 in
theorem ggX0_toldSpeed_X8_quotient : GoodIn wsX0_toldSpeed wsX8_quotient := goodIn_r _ [16] (by decide +kernel) (by decide +kernel)
set_option maxRecDepth 20000 in
theorem gX0_toldSpeed_X8_quotient_n69 : GoodIn wsX0_toldSpeed (wsX8_quotient) := ggX0_toldSpeed_X8_quotient
theorem dX0_toldSpeed_0 : decode cX0_toldSpeed 0 = .ok (.aload_n 0, 1) := by decide +kernel
theorem dX0_toldSpeed_1 : decode cX0_toldSpeed 1 = .ok (.invokevirtual 63, 3) := by decide +kernel
theorem dX0_toldSpeed_4 : decode cX0_toldSpeed 4 = .ok (.i2l, 1) := by decide +kernel
theorem dX0_toldSpeed_5 : decode cX0_toldSpeed 5 = .ok (.iload_n 2, 1) := by decide +kernel
theorem dX0_toldSpeed_6 : decode cX0_toldSpeed 6 = .ok (.i2l, 1) := by decide +kernel
theorem dX0_toldSpeed_7 : decode cX0_toldSpeed 7 = .ok (.ladd, 1) := by decide +kernel
theorem dX0_toldSpeed_8 : decode cX0_toldSpeed 8 = .ok (.lstore_n 3, 1) := by decide +kernel
theorem dX0_toldSpeed_9 : decode cX0_toldSpeed 9 = .ok (.iload_n 1, 1) := by decide +kernel
theorem dX0_toldSpeed_10 : decode cX0_toldSpeed 10 = .ok (.i2l, 1) := by decide +kernel
theorem dX0_toldSpeed_11 : decode cX0_toldSpeed 11 = .ok (.ldc2_w 75, 3) := by decide +kernel
theorem dX0_toldSpeed_14 : decode cX0_toldSpeed 14 = .ok (.lmul, 1) := by decide +kernel
theorem dX0_toldSpeed_15 : decode cX0_toldSpeed 15 = .ok (.ldc2_w 73, 3) := by decide +kernel
theorem dX0_toldSpeed_18 : decode cX0_toldSpeed 18 = .ok (.ldiv, 1) := by decide +kernel
theorem dX0_toldSpeed_19 : decode cX0_toldSpeed 19 = .ok (.invokestatic 82, 3) := by decide +kernel
theorem dX0_toldSpeed_22 : decode cX0_toldSpeed 22 = .ok (.lstore 5, 2) := by decide +kernel
theorem dX0_toldSpeed_24 : decode cX0_toldSpeed 24 = .ok (.lload 5, 2) := by decide +kernel
theorem dX0_toldSpeed_26 : decode cX0_toldSpeed 26 = .ok (.lload_n 3, 1) := by decide +kernel
theorem dX0_toldSpeed_27 : decode cX0_toldSpeed 27 = .ok (.lmul, 1) := by decide +kernel
theorem dX0_toldSpeed_28 : decode cX0_toldSpeed 28 = .ok (.iload_n 2, 1) := by decide +kernel
theorem dX0_toldSpeed_29 : decode cX0_toldSpeed 29 = .ok (.i2l, 1) := by decide +kernel
theorem dX0_toldSpeed_30 : decode cX0_toldSpeed 30 = .ok (.ldc2_w 67, 3) := by decide +kernel
theorem dX0_toldSpeed_33 : decode cX0_toldSpeed 33 = .ok (.lmul, 1) := by decide +kernel
theorem dX0_toldSpeed_34 : decode cX0_toldSpeed 34 = .ok (.invokestatic 69, 3) := by decide +kernel
theorem dX0_toldSpeed_37 : decode cX0_toldSpeed 37 = .ok (.l2i, 1) := by decide +kernel
theorem dX0_toldSpeed_38 : decode cX0_toldSpeed 38 = .ok (.ireturn, 1) := by decide +kernel
theorem dX0_hold_0 : decode cX0_hold 0 = .ok (.aload_n 0, 1) := by decide +kernel
theorem dX0_hold_1 : decode cX0_hold 1 = .ok (.dup, 1) := by decide +kernel
theorem dX0_hold_2 : decode cX0_hold 2 = .ok (.getfield 29, 3) := by decide +kernel
theorem dX0_hold_5 : decode cX0_hold 5 = .ok (.iload_n 1, 1) := by decide +kernel
theorem dX0_hold_6 : decode cX0_hold 6 = .ok (.iadd, 1) := by decide +kernel
theorem dX0_hold_7 : decode cX0_hold 7 = .ok (.putfield 29, 3) := by decide +kernel
theorem dX0_hold_10 : decode cX0_hold 10 = .ok (.aload_n 0, 1) := by decide +kernel
theorem dX0_hold_11 : decode cX0_hold 11 = .ok (.dup, 1) := by decide +kernel
theorem dX0_hold_12 : decode cX0_hold 12 = .ok (.getfield 41, 3) := by decide +kernel
theorem dX0_hold_15 : decode cX0_hold 15 = .ok (.iload_n 1, 1) := by decide +kernel
theorem dX0_hold_16 : decode cX0_hold 16 = .ok (.iadd, 1) := by decide +kernel
theorem dX0_hold_17 : decode cX0_hold 17 = .ok (.putfield 41, 3) := by decide +kernel
theorem dX0_hold_20 : decode cX0_hold 20 = .ok (.aload_n 0, 1) := by decide +kernel
theorem dX0_hold_21 : decode cX0_hold 21 = .ok (.dup, 1) := by decide +kernel
theorem dX0_hold_22 : decode cX0_hold 22 = .ok (.getfield 32, 3) := by decide +kernel
theorem dX0_hold_25 : decode cX0_hold 25 = .ok (.iconst 1, 1) := by decide +kernel
theorem dX0_hold_26 : decode cX0_hold 26 = .ok (.iadd, 1) := by decide +kernel
theorem dX0_hold_27 : decode cX0_hold 27 = .ok (.putfield 32, 3) := by decide +kernel
theorem dX0_hold_30 : decode cX0_hold 30 = .ok (.aload_n 0, 1) := by decide +kernel
theorem dX0_hold_31 : decode cX0_hold 31 = .ok (.iload_n 2, 1) := by decide +kernel
theorem dX0_hold_32 : decode cX0_hold 32 = .ok (.putfield 35, 3) := by decide +kernel
theorem dX0_hold_35 : decode cX0_hold 35 = .ok (.return_, 1) := by decide +kernel
theorem dX0_empty_0 : decode cX0_empty 0 = .ok (.aload_n 0, 1) := by decide +kernel
theorem dX0_empty_1 : decode cX0_empty 1 = .ok (.dup, 1) := by decide +kernel
theorem dX0_empty_2 : decode cX0_empty 2 = .ok (.getfield 44, 3) := by decide +kernel
theorem dX0_empty_5 : decode cX0_empty 5 = .ok (.aload_n 0, 1) := by decide +kernel
theorem dX0_empty_6 : decode cX0_empty 6 = .ok (.getfield 29, 3) := by decide +kernel
theorem dX0_empty_9 : decode cX0_empty 9 = .ok (.iadd, 1) := by decide +kernel
theorem dX0_empty_10 : decode cX0_empty 10 = .ok (.putfield 44, 3) := by decide +kernel
theorem dX0_empty_13 : decode cX0_empty 13 = .ok (.aload_n 0, 1) := by decide +kernel
theorem dX0_empty_14 : decode cX0_empty 14 = .ok (.iconst 0, 1) := by decide +kernel
theorem dX0_empty_15 : decode cX0_empty 15 = .ok (.putfield 29, 3) := by decide +kernel
theorem dX0_empty_18 : decode cX0_empty 18 = .ok (.aload_n 0, 1) := by decide +kernel
theorem dX0_empty_19 : decode cX0_empty 19 = .ok (.iconst 0, 1) := by decide +kernel
theorem dX0_empty_20 : decode cX0_empty 20 = .ok (.putfield 32, 3) := by decide +kernel
theorem dX0_empty_23 : decode cX0_empty 23 = .ok (.return_, 1) := by decide +kernel
set_option maxRecDepth 20000 in
theorem ggX0_doHalves_X0_isSwinging : GoodIn wsX0_doHalves wsX0_isSwinging := goodIn_r _ [7, 1, 17, 18, 19, 20, 21, 22, 23, 24, 25] (by decide +kernel) (by decide +kernel)
set_option maxRecDepth 20000 in
theorem gX0_doHalves_X0_isSwinging : GoodIn wsX0_doHalves (wsV RX0 56 RX0 yX0_isSwinging wsX0_isSwinging) := goodIn_app (goodIn_of _ (by decide +kernel)) ggX0_doHalves_X0_isSwinging
set_option maxRecDepth 20000 in
theorem ggX0_doHalves_X0_heightBehindHalf : GoodIn wsX0_doHalves wsX0_heightBehindHalf := goodIn_r _ [11, 12, 13, 14, 15, 16, 17, 18, 19, 20, 21, 22, 23, 24, 25] (by decide +kernel) (by decide +kernel)
set_option maxRecDepth 20000 in
theorem gX0_doHalves_X0_heightBehindHalf : GoodIn wsX0_doHalves (wsV RX0 86 RX0 yX0_heightBehindHalf wsX0_heightBehindHalf) := goodIn_app (goodIn_of _ (by decide +kernel)) ggX0_doHalves_X0_heightBehindHalf
theorem dX0_doHalves_0 : decode cX0_doHalves 0 = .ok (.iconst 0, 1) := by decide +kernel
theorem dX0_doHalves_1 : decode cX0_doHalves 1 = .ok (.istore_n 2, 1) := by decide +kernel
theorem dX0_doHalves_2 : decode cX0_doHalves 2 = .ok (.iload_n 2, 1) := by decide +kernel
theorem dX0_doHalves_3 : decode cX0_doHalves 3 = .ok (.iload_n 1, 1) := by decide +kernel
theorem dX0_doHalves_4 : decode cX0_doHalves 4 = .ok (.if_icmp .ge 38, 3) := by decide +kernel
theorem dX0_doHalves_7 : decode cX0_doHalves 7 = .ok (.aload_n 0, 1) := by decide +kernel
theorem dX0_doHalves_8 : decode cX0_doHalves 8 = .ok (.invokevirtual 56, 3) := by decide +kernel
theorem dX0_doHalves_11 : decode cX0_doHalves 11 = .ok (.ifCond .eq 31, 3) := by decide +kernel
theorem dX0_doHalves_14 : decode cX0_doHalves 14 = .ok (.aload_n 0, 1) := by decide +kernel
theorem dX0_doHalves_15 : decode cX0_doHalves 15 = .ok (.aload_n 0, 1) := by decide +kernel
theorem dX0_doHalves_16 : decode cX0_doHalves 16 = .ok (.aload_n 0, 1) := by decide +kernel
theorem dX0_doHalves_17 : decode cX0_doHalves 17 = .ok (.getfield 35, 3) := by decide +kernel
theorem dX0_doHalves_20 : decode cX0_doHalves 20 = .ok (.invokevirtual 86, 3) := by decide +kernel
theorem dX0_doHalves_23 : decode cX0_doHalves 23 = .ok (.putfield 35, 3) := by decide +kernel
theorem dX0_doHalves_26 : decode cX0_doHalves 26 = .ok (.aload_n 0, 1) := by decide +kernel
theorem dX0_doHalves_27 : decode cX0_doHalves 27 = .ok (.dup, 1) := by decide +kernel
theorem dX0_doHalves_28 : decode cX0_doHalves 28 = .ok (.getfield 38, 3) := by decide +kernel
theorem dX0_doHalves_31 : decode cX0_doHalves 31 = .ok (.iconst 1, 1) := by decide +kernel
theorem dX0_doHalves_32 : decode cX0_doHalves 32 = .ok (.iadd, 1) := by decide +kernel
theorem dX0_doHalves_33 : decode cX0_doHalves 33 = .ok (.putfield 38, 3) := by decide +kernel
theorem dX0_doHalves_36 : decode cX0_doHalves 36 = .ok (.iinc 2 1, 3) := by decide +kernel
theorem dX0_doHalves_39 : decode cX0_doHalves 39 = .ok (.goto (-37), 3) := by decide +kernel
theorem dX0_doHalves_42 : decode cX0_doHalves 42 = .ok (.return_, 1) := by decide +kernel
set_option maxRecDepth 20000 in
theorem ggX0_halvesLeft_X0_heightBehindHalf : GoodIn wsX0_halvesLeft wsX0_heightBehindHalf := goodIn_r _ [12, 1, 3, 4, 5, 6, 13, 14, 15, 16, 17, 18, 19, 20, 21] (by decide +kernel) (by decide +kernel)
set_option maxRecDepth 20000 in
theorem gX0_halvesLeft_X0_heightBehindHalf : GoodIn wsX0_halvesLeft (wsV RX0 86 RX0 yX0_heightBehindHalf wsX0_heightBehindHalf) := goodIn_app (goodIn_of _ (by decide +kernel)) ggX0_halvesLeft_X0_heightBehindHalf
theorem dX0_halvesLeft_0 : decode cX0_halvesLeft 0 = .ok (.aload_n 0, 1) := by decide +kernel
theorem dX0_halvesLeft_1 : decode cX0_halvesLeft 1 = .ok (.getfield 19, 3) := by decide +kernel
theorem dX0_halvesLeft_4 : decode cX0_halvesLeft 4 = .ok (.iconst 1, 1) := by decide +kernel
theorem dX0_halvesLeft_5 : decode cX0_halvesLeft 5 = .ok (.iaload, 1) := by decide +kernel
theorem dX0_halvesLeft_6 : decode cX0_halvesLeft 6 = .ok (.ifCond .ne 21, 3) := by decide +kernel
theorem dX0_halvesLeft_9 : decode cX0_halvesLeft 9 = .ok (.iconst 1, 1) := by decide +kernel
theorem dX0_halvesLeft_10 : decode cX0_halvesLeft 10 = .ok (.aload_n 0, 1) := by decide +kernel
theorem dX0_halvesLeft_11 : decode cX0_halvesLeft 11 = .ok (.getfield 35, 3) := by decide +kernel
theorem dX0_halvesLeft_14 : decode cX0_halvesLeft 14 = .ok (.aload_n 0, 1) := by decide +kernel
theorem dX0_halvesLeft_15 : decode cX0_halvesLeft 15 = .ok (.getfield 19, 3) := by decide +kernel
theorem dX0_halvesLeft_18 : decode cX0_halvesLeft 18 = .ok (.iconst 2, 1) := by decide +kernel
theorem dX0_halvesLeft_19 : decode cX0_halvesLeft 19 = .ok (.iaload, 1) := by decide +kernel
theorem dX0_halvesLeft_20 : decode cX0_halvesLeft 20 = .ok (.isub, 1) := by decide +kernel
theorem dX0_halvesLeft_21 : decode cX0_halvesLeft 21 = .ok (.iconst 1, 1) := by decide +kernel
theorem dX0_halvesLeft_22 : decode cX0_halvesLeft 22 = .ok (.iadd, 1) := by decide +kernel
theorem dX0_halvesLeft_23 : decode cX0_halvesLeft 23 = .ok (.invokestatic 53, 3) := by decide +kernel
theorem dX0_halvesLeft_26 : decode cX0_halvesLeft 26 = .ok (.ireturn, 1) := by decide +kernel
theorem dX0_halvesLeft_27 : decode cX0_halvesLeft 27 = .ok (.aload_n 0, 1) := by decide +kernel
theorem dX0_halvesLeft_28 : decode cX0_halvesLeft 28 = .ok (.getfield 35, 3) := by decide +kernel
theorem dX0_halvesLeft_31 : decode cX0_halvesLeft 31 = .ok (.istore_n 1, 1) := by decide +kernel
theorem dX0_halvesLeft_32 : decode cX0_halvesLeft 32 = .ok (.iconst 0, 1) := by decide +kernel
theorem dX0_halvesLeft_33 : decode cX0_halvesLeft 33 = .ok (.istore_n 2, 1) := by decide +kernel
theorem dX0_halvesLeft_34 : decode cX0_halvesLeft 34 = .ok (.iload_n 1, 1) := by decide +kernel
theorem dX0_halvesLeft_35 : decode cX0_halvesLeft 35 = .ok (.ifCond .le 21, 3) := by decide +kernel
theorem dX0_halvesLeft_38 : decode cX0_halvesLeft 38 = .ok (.iload_n 2, 1) := by decide +kernel
theorem dX0_halvesLeft_39 : decode cX0_halvesLeft 39 = .ok (.ldc 90, 2) := by decide +kernel
theorem dX0_halvesLeft_41 : decode cX0_halvesLeft 41 = .ok (.if_icmp .ge 15, 3) := by decide +kernel
theorem dX0_halvesLeft_44 : decode cX0_halvesLeft 44 = .ok (.aload_n 0, 1) := by decide +kernel
theorem dX0_halvesLeft_45 : decode cX0_halvesLeft 45 = .ok (.iload_n 1, 1) := by decide +kernel
theorem dX0_halvesLeft_46 : decode cX0_halvesLeft 46 = .ok (.invokevirtual 86, 3) := by decide +kernel
theorem dX0_halvesLeft_49 : decode cX0_halvesLeft 49 = .ok (.istore_n 1, 1) := by decide +kernel
theorem dX0_halvesLeft_50 : decode cX0_halvesLeft 50 = .ok (.iinc 2 1, 3) := by decide +kernel
theorem dX0_halvesLeft_53 : decode cX0_halvesLeft 53 = .ok (.goto (-19), 3) := by decide +kernel
theorem dX0_halvesLeft_56 : decode cX0_halvesLeft 56 = .ok (.iload_n 2, 1) := by decide +kernel
theorem dX0_halvesLeft_57 : decode cX0_halvesLeft 57 = .ok (.ireturn, 1) := by decide +kernel
theorem dX0_heightBehindHalf_0 : decode cX0_heightBehindHalf 0 = .ok (.iconst 1, 1) := by decide +kernel
theorem dX0_heightBehindHalf_1 : decode cX0_heightBehindHalf 1 = .ok (.iload_n 1, 1) := by decide +kernel
theorem dX0_heightBehindHalf_2 : decode cX0_heightBehindHalf 2 = .ok (.aload_n 0, 1) := by decide +kernel
theorem dX0_heightBehindHalf_3 : decode cX0_heightBehindHalf 3 = .ok (.getfield 19, 3) := by decide +kernel
theorem dX0_heightBehindHalf_6 : decode cX0_heightBehindHalf 6 = .ok (.iconst 1, 1) := by decide +kernel
theorem dX0_heightBehindHalf_7 : decode cX0_heightBehindHalf 7 = .ok (.iaload, 1) := by decide +kernel
theorem dX0_heightBehindHalf_8 : decode cX0_heightBehindHalf 8 = .ok (.imul, 1) := by decide +kernel
theorem dX0_heightBehindHalf_9 : decode cX0_heightBehindHalf 9 = .ok (.sipush 999, 3) := by decide +kernel
theorem dX0_heightBehindHalf_12 : decode cX0_heightBehindHalf 12 = .ok (.iadd, 1) := by decide +kernel
theorem dX0_heightBehindHalf_13 : decode cX0_heightBehindHalf 13 = .ok (.sipush 1000, 3) := by decide +kernel
theorem dX0_heightBehindHalf_16 : decode cX0_heightBehindHalf 16 = .ok (.idiv, 1) := by decide +kernel
theorem dX0_heightBehindHalf_17 : decode cX0_heightBehindHalf 17 = .ok (.invokestatic 53, 3) := by decide +kernel
theorem dX0_heightBehindHalf_20 : decode cX0_heightBehindHalf 20 = .ok (.istore_n 2, 1) := by decide +kernel
theorem dX0_heightBehindHalf_21 : decode cX0_heightBehindHalf 21 = .ok (.iload_n 1, 1) := by decide +kernel
theorem dX0_heightBehindHalf_22 : decode cX0_heightBehindHalf 22 = .ok (.iload_n 2, 1) := by decide +kernel
theorem dX0_heightBehindHalf_23 : decode cX0_heightBehindHalf 23 = .ok (.isub, 1) := by decide +kernel
theorem dX0_heightBehindHalf_24 : decode cX0_heightBehindHalf 24 = .ok (.istore_n 3, 1) := by decide +kernel
theorem dX0_heightBehindHalf_25 : decode cX0_heightBehindHalf 25 = .ok (.iload_n 3, 1) := by decide +kernel
theorem dX0_heightBehindHalf_26 : decode cX0_heightBehindHalf 26 = .ok (.aload_n 0, 1) := by decide +kernel
theorem dX0_heightBehindHalf_27 : decode cX0_heightBehindHalf 27 = .ok (.getfield 19, 3) := by decide +kernel
theorem dX0_heightBehindHalf_30 : decode cX0_heightBehindHalf 30 = .ok (.iconst 2, 1) := by decide +kernel
theorem dX0_heightBehindHalf_31 : decode cX0_heightBehindHalf 31 = .ok (.iaload, 1) := by decide +kernel
theorem dX0_heightBehindHalf_32 : decode cX0_heightBehindHalf 32 = .ok (.if_icmp .ge 7, 3) := by decide +kernel
theorem dX0_heightBehindHalf_35 : decode cX0_heightBehindHalf 35 = .ok (.iconst 0, 1) := by decide +kernel
theorem dX0_heightBehindHalf_36 : decode cX0_heightBehindHalf 36 = .ok (.goto 4, 3) := by decide +kernel
theorem dX0_heightBehindHalf_39 : decode cX0_heightBehindHalf 39 = .ok (.iload_n 3, 1) := by decide +kernel
theorem dX0_heightBehindHalf_40 : decode cX0_heightBehindHalf 40 = .ok (.ireturn, 1) := by decide +kernel
theorem dX1_init_0 : decode cX1_init 0 = .ok (.aload_n 0, 1) := by decide +kernel
theorem dX1_init_1 : decode cX1_init 1 = .ok (.invokespecial 3, 3) := by decide +kernel
theorem dX1_init_4 : decode cX1_init 4 = .ok (.aload_n 0, 1) := by decide +kernel
theorem dX1_init_5 : decode cX1_init 5 = .ok (.bipush 60, 2) := by decide +kernel
theorem dX1_init_7 : decode cX1_init 7 = .ok (.newarray .int, 2) := by decide +kernel
theorem dX1_init_9 : decode cX1_init 9 = .ok (.putfield 9, 3) := by decide +kernel
theorem dX1_init_12 : decode cX1_init 12 = .ok (.aload_n 0, 1) := by decide +kernel
theorem dX1_init_13 : decode cX1_init 13 = .ok (.bipush 60, 2) := by decide +kernel
theorem dX1_init_15 : decode cX1_init 15 = .ok (.newarray .int, 2) := by decide +kernel
theorem dX1_init_17 : decode cX1_init 17 = .ok (.putfield 15, 3) := by decide +kernel
theorem dX1_init_20 : decode cX1_init 20 = .ok (.aload_n 0, 1) := by decide +kernel
theorem dX1_init_21 : decode cX1_init 21 = .ok (.bipush 60, 2) := by decide +kernel
theorem dX1_init_23 : decode cX1_init 23 = .ok (.newarray .int, 2) := by decide +kernel
theorem dX1_init_25 : decode cX1_init 25 = .ok (.putfield 18, 3) := by decide +kernel
theorem dX1_init_28 : decode cX1_init 28 = .ok (.aload_n 0, 1) := by decide +kernel
theorem dX1_init_29 : decode cX1_init 29 = .ok (.bipush 60, 2) := by decide +kernel
theorem dX1_init_31 : decode cX1_init 31 = .ok (.newarray .int, 2) := by decide +kernel
theorem dX1_init_33 : decode cX1_init 33 = .ok (.putfield 21, 3) := by decide +kernel
theorem dX1_init_36 : decode cX1_init 36 = .ok (.aload_n 0, 1) := by decide +kernel
theorem dX1_init_37 : decode cX1_init 37 = .ok (.bipush 60, 2) := by decide +kernel
theorem dX1_init_39 : decode cX1_init 39 = .ok (.newarray .int, 2) := by decide +kernel
theorem dX1_init_41 : decode cX1_init 41 = .ok (.putfield 24, 3) := by decide +kernel
theorem dX1_init_44 : decode cX1_init 44 = .ok (.aload_n 0, 1) := by decide +kernel
theorem dX1_init_45 : decode cX1_init 45 = .ok (.bipush 60, 2) := by decide +kernel
theorem dX1_init_47 : decode cX1_init 47 = .ok (.newarray .int, 2) := by decide +kernel
theorem dX1_init_49 : decode cX1_init 49 = .ok (.putfield 27, 3) := by decide +kernel
theorem dX1_init_52 : decode cX1_init 52 = .ok (.aload_n 0, 1) := by decide +kernel
theorem dX1_init_53 : decode cX1_init 53 = .ok (.bipush 60, 2) := by decide +kernel
theorem dX1_init_55 : decode cX1_init 55 = .ok (.newarray .boolean, 2) := by decide +kernel
theorem dX1_init_57 : decode cX1_init 57 = .ok (.putfield 30, 3) := by decide +kernel
theorem dX1_init_60 : decode cX1_init 60 = .ok (.return_, 1) := by decide +kernel
set_option maxRecDepth 20000 in
theorem ggX1_copyFrom_X8_copyRow : GoodIn wsX1_copyFrom wsX8_copyRow := goodIn_r _ [11, 12, 13, 14, 15, 16, 17, 18, 19] (by decide +kernel) (by decide +kernel)
set_option maxRecDepth 20000 in
theorem gX1_copyFrom_X8_copyRow_n34 : GoodIn wsX1_copyFrom (wsX8_copyRow) := ggX1_copyFrom_X8_copyRow
theorem dX1_copyFrom_0 : decode cX1_copyFrom 0 = .ok (.aload_n 1, 1) := by decide +kernel
theorem dX1_copyFrom_1 : decode cX1_copyFrom 1 = .ok (.getfield 9, 3) := by decide +kernel
theorem dX1_copyFrom_4 : decode cX1_copyFrom 4 = .ok (.aload_n 0, 1) := by decide +kernel
theorem dX1_copyFrom_5 : decode cX1_copyFrom 5 = .ok (.getfield 9, 3) := by decide +kernel
theorem dX1_copyFrom_8 : decode cX1_copyFrom 8 = .ok (.invokestatic 34, 3) := by decide +kernel
theorem dX1_copyFrom_11 : decode cX1_copyFrom 11 = .ok (.aload_n 1, 1) := by decide +kernel
theorem dX1_copyFrom_12 : decode cX1_copyFrom 12 = .ok (.getfield 15, 3) := by decide +kernel
theorem dX1_copyFrom_15 : decode cX1_copyFrom 15 = .ok (.aload_n 0, 1) := by decide +kernel
theorem dX1_copyFrom_16 : decode cX1_copyFrom 16 = .ok (.getfield 15, 3) := by decide +kernel
theorem dX1_copyFrom_19 : decode cX1_copyFrom 19 = .ok (.invokestatic 34, 3) := by decide +kernel
theorem dX1_copyFrom_22 : decode cX1_copyFrom 22 = .ok (.aload_n 1, 1) := by decide +kernel
theorem dX1_copyFrom_23 : decode cX1_copyFrom 23 = .ok (.getfield 18, 3) := by decide +kernel
theorem dX1_copyFrom_26 : decode cX1_copyFrom 26 = .ok (.aload_n 0, 1) := by decide +kernel
theorem dX1_copyFrom_27 : decode cX1_copyFrom 27 = .ok (.getfield 18, 3) := by decide +kernel
theorem dX1_copyFrom_30 : decode cX1_copyFrom 30 = .ok (.invokestatic 34, 3) := by decide +kernel
theorem dX1_copyFrom_33 : decode cX1_copyFrom 33 = .ok (.aload_n 1, 1) := by decide +kernel
theorem dX1_copyFrom_34 : decode cX1_copyFrom 34 = .ok (.getfield 21, 3) := by decide +kernel
theorem dX1_copyFrom_37 : decode cX1_copyFrom 37 = .ok (.aload_n 0, 1) := by decide +kernel
theorem dX1_copyFrom_38 : decode cX1_copyFrom 38 = .ok (.getfield 21, 3) := by decide +kernel
theorem dX1_copyFrom_41 : decode cX1_copyFrom 41 = .ok (.invokestatic 34, 3) := by decide +kernel
theorem dX1_copyFrom_44 : decode cX1_copyFrom 44 = .ok (.aload_n 1, 1) := by decide +kernel
theorem dX1_copyFrom_45 : decode cX1_copyFrom 45 = .ok (.getfield 24, 3) := by decide +kernel
theorem dX1_copyFrom_48 : decode cX1_copyFrom 48 = .ok (.aload_n 0, 1) := by decide +kernel
theorem dX1_copyFrom_49 : decode cX1_copyFrom 49 = .ok (.getfield 24, 3) := by decide +kernel
theorem dX1_copyFrom_52 : decode cX1_copyFrom 52 = .ok (.invokestatic 34, 3) := by decide +kernel
theorem dX1_copyFrom_55 : decode cX1_copyFrom 55 = .ok (.aload_n 1, 1) := by decide +kernel
theorem dX1_copyFrom_56 : decode cX1_copyFrom 56 = .ok (.getfield 27, 3) := by decide +kernel
theorem dX1_copyFrom_59 : decode cX1_copyFrom 59 = .ok (.aload_n 0, 1) := by decide +kernel
theorem dX1_copyFrom_60 : decode cX1_copyFrom 60 = .ok (.getfield 27, 3) := by decide +kernel
theorem dX1_copyFrom_63 : decode cX1_copyFrom 63 = .ok (.invokestatic 34, 3) := by decide +kernel
theorem dX1_copyFrom_66 : decode cX1_copyFrom 66 = .ok (.iconst 0, 1) := by decide +kernel
theorem dX1_copyFrom_67 : decode cX1_copyFrom 67 = .ok (.istore_n 2, 1) := by decide +kernel
theorem dX1_copyFrom_68 : decode cX1_copyFrom 68 = .ok (.iload_n 2, 1) := by decide +kernel
theorem dX1_copyFrom_69 : decode cX1_copyFrom 69 = .ok (.bipush 60, 2) := by decide +kernel
theorem dX1_copyFrom_71 : decode cX1_copyFrom 71 = .ok (.if_icmp .ge 21, 3) := by decide +kernel
theorem dX1_copyFrom_74 : decode cX1_copyFrom 74 = .ok (.aload_n 0, 1) := by decide +kernel
theorem dX1_copyFrom_75 : decode cX1_copyFrom 75 = .ok (.getfield 30, 3) := by decide +kernel
theorem dX1_copyFrom_78 : decode cX1_copyFrom 78 = .ok (.iload_n 2, 1) := by decide +kernel
theorem dX1_copyFrom_79 : decode cX1_copyFrom 79 = .ok (.aload_n 1, 1) := by decide +kernel
theorem dX1_copyFrom_80 : decode cX1_copyFrom 80 = .ok (.getfield 30, 3) := by decide +kernel
theorem dX1_copyFrom_83 : decode cX1_copyFrom 83 = .ok (.iload_n 2, 1) := by decide +kernel
theorem dX1_copyFrom_84 : decode cX1_copyFrom 84 = .ok (.baload, 1) := by decide +kernel
theorem dX1_copyFrom_85 : decode cX1_copyFrom 85 = .ok (.bastore, 1) := by decide +kernel
theorem dX1_copyFrom_86 : decode cX1_copyFrom 86 = .ok (.iinc 2 1, 3) := by decide +kernel
theorem dX1_copyFrom_89 : decode cX1_copyFrom 89 = .ok (.goto (-21), 3) := by decide +kernel
theorem dX1_copyFrom_92 : decode cX1_copyFrom 92 = .ok (.aload_n 0, 1) := by decide +kernel
theorem dX1_copyFrom_93 : decode cX1_copyFrom 93 = .ok (.aload_n 1, 1) := by decide +kernel
theorem dX1_copyFrom_94 : decode cX1_copyFrom 94 = .ok (.getfield 38, 3) := by decide +kernel
theorem dX1_copyFrom_97 : decode cX1_copyFrom 97 = .ok (.putfield 38, 3) := by decide +kernel
theorem dX1_copyFrom_100 : decode cX1_copyFrom 100 = .ok (.return_, 1) := by decide +kernel
theorem dX1_has_0 : decode cX1_has 0 = .ok (.iload_n 1, 1) := by decide +kernel
theorem dX1_has_1 : decode cX1_has 1 = .ok (.ifCond .lt 15, 3) := by decide +kernel
theorem dX1_has_4 : decode cX1_has 4 = .ok (.iload_n 1, 1) := by decide +kernel
theorem dX1_has_5 : decode cX1_has 5 = .ok (.aload_n 0, 1) := by decide +kernel
theorem dX1_has_6 : decode cX1_has 6 = .ok (.getfield 38, 3) := by decide +kernel
theorem dX1_has_9 : decode cX1_has 9 = .ok (.if_icmp .ge 7, 3) := by decide +kernel
theorem dX1_has_12 : decode cX1_has 12 = .ok (.iconst 1, 1) := by decide +kernel
theorem dX1_has_13 : decode cX1_has 13 = .ok (.goto 4, 3) := by decide +kernel
theorem dX1_has_16 : decode cX1_has 16 = .ok (.iconst 0, 1) := by decide +kernel
theorem dX1_has_17 : decode cX1_has 17 = .ok (.ireturn, 1) := by decide +kernel
theorem dX1_add_0 : decode cX1_add 0 = .ok (.aload_n 0, 1) := by decide +kernel
theorem dX1_add_1 : decode cX1_add 1 = .ok (.getfield 38, 3) := by decide +kernel
theorem dX1_add_4 : decode cX1_add 4 = .ok (.bipush 60, 2) := by decide +kernel
theorem dX1_add_6 : decode cX1_add 6 = .ok (.if_icmp .ge 86, 3) := by decide +kernel
theorem dX1_add_9 : decode cX1_add 9 = .ok (.aload_n 0, 1) := by decide +kernel
theorem dX1_add_10 : decode cX1_add 10 = .ok (.getfield 9, 3) := by decide +kernel
theorem dX1_add_13 : decode cX1_add 13 = .ok (.aload_n 0, 1) := by decide +kernel
theorem dX1_add_14 : decode cX1_add 14 = .ok (.getfield 38, 3) := by decide +kernel
theorem dX1_add_17 : decode cX1_add 17 = .ok (.iload_n 1, 1) := by decide +kernel
theorem dX1_add_18 : decode cX1_add 18 = .ok (.iastore, 1) := by decide +kernel
theorem dX1_add_19 : decode cX1_add 19 = .ok (.aload_n 0, 1) := by decide +kernel
theorem dX1_add_20 : decode cX1_add 20 = .ok (.getfield 15, 3) := by decide +kernel
theorem dX1_add_23 : decode cX1_add 23 = .ok (.aload_n 0, 1) := by decide +kernel
theorem dX1_add_24 : decode cX1_add 24 = .ok (.getfield 38, 3) := by decide +kernel
theorem dX1_add_27 : decode cX1_add 27 = .ok (.iload_n 2, 1) := by decide +kernel
theorem dX1_add_28 : decode cX1_add 28 = .ok (.iastore, 1) := by decide +kernel
theorem dX1_add_29 : decode cX1_add 29 = .ok (.aload_n 0, 1) := by decide +kernel
theorem dX1_add_30 : decode cX1_add 30 = .ok (.getfield 18, 3) := by decide +kernel
theorem dX1_add_33 : decode cX1_add 33 = .ok (.aload_n 0, 1) := by decide +kernel
theorem dX1_add_34 : decode cX1_add 34 = .ok (.getfield 38, 3) := by decide +kernel
theorem dX1_add_37 : decode cX1_add 37 = .ok (.iload_n 3, 1) := by decide +kernel
theorem dX1_add_38 : decode cX1_add 38 = .ok (.iastore, 1) := by decide +kernel
theorem dX1_add_39 : decode cX1_add 39 = .ok (.aload_n 0, 1) := by decide +kernel
theorem dX1_add_40 : decode cX1_add 40 = .ok (.getfield 21, 3) := by decide +kernel
theorem dX1_add_43 : decode cX1_add 43 = .ok (.aload_n 0, 1) := by decide +kernel
theorem dX1_add_44 : decode cX1_add 44 = .ok (.getfield 38, 3) := by decide +kernel
theorem dX1_add_47 : decode cX1_add 47 = .ok (.iload 4, 2) := by decide +kernel
theorem dX1_add_49 : decode cX1_add 49 = .ok (.iastore, 1) := by decide +kernel
theorem dX1_add_50 : decode cX1_add 50 = .ok (.aload_n 0, 1) := by decide +kernel
theorem dX1_add_51 : decode cX1_add 51 = .ok (.getfield 24, 3) := by decide +kernel
theorem dX1_add_54 : decode cX1_add 54 = .ok (.aload_n 0, 1) := by decide +kernel
theorem dX1_add_55 : decode cX1_add 55 = .ok (.getfield 38, 3) := by decide +kernel
theorem dX1_add_58 : decode cX1_add 58 = .ok (.iload 5, 2) := by decide +kernel
theorem dX1_add_60 : decode cX1_add 60 = .ok (.iastore, 1) := by decide +kernel
theorem dX1_add_61 : decode cX1_add 61 = .ok (.aload_n 0, 1) := by decide +kernel
theorem dX1_add_62 : decode cX1_add 62 = .ok (.getfield 27, 3) := by decide +kernel
theorem dX1_add_65 : decode cX1_add 65 = .ok (.aload_n 0, 1) := by decide +kernel
theorem dX1_add_66 : decode cX1_add 66 = .ok (.getfield 38, 3) := by decide +kernel
theorem dX1_add_69 : decode cX1_add 69 = .ok (.iload 6, 2) := by decide +kernel
theorem dX1_add_71 : decode cX1_add 71 = .ok (.iastore, 1) := by decide +kernel
theorem dX1_add_72 : decode cX1_add 72 = .ok (.aload_n 0, 1) := by decide +kernel
theorem dX1_add_73 : decode cX1_add 73 = .ok (.getfield 30, 3) := by decide +kernel
theorem dX1_add_76 : decode cX1_add 76 = .ok (.aload_n 0, 1) := by decide +kernel
theorem dX1_add_77 : decode cX1_add 77 = .ok (.getfield 38, 3) := by decide +kernel
theorem dX1_add_80 : decode cX1_add 80 = .ok (.iconst 0, 1) := by decide +kernel
theorem dX1_add_81 : decode cX1_add 81 = .ok (.bastore, 1) := by decide +kernel
theorem dX1_add_82 : decode cX1_add 82 = .ok (.aload_n 0, 1) := by decide +kernel
theorem dX1_add_83 : decode cX1_add 83 = .ok (.dup, 1) := by decide +kernel
theorem dX1_add_84 : decode cX1_add 84 = .ok (.getfield 38, 3) := by decide +kernel
theorem dX1_add_87 : decode cX1_add 87 = .ok (.iconst 1, 1) := by decide +kernel
theorem dX1_add_88 : decode cX1_add 88 = .ok (.iadd, 1) := by decide +kernel
theorem dX1_add_89 : decode cX1_add 89 = .ok (.putfield 38, 3) := by decide +kernel
theorem dX1_add_92 : decode cX1_add 92 = .ok (.return_, 1) := by decide +kernel
theorem dX1_notCounting_0 : decode cX1_notCounting 0 = .ok (.iconst 0, 1) := by decide +kernel
theorem dX1_notCounting_1 : decode cX1_notCounting 1 = .ok (.istore_n 1, 1) := by decide +kernel
theorem dX1_notCounting_2 : decode cX1_notCounting 2 = .ok (.iconst 0, 1) := by decide +kernel
theorem dX1_notCounting_3 : decode cX1_notCounting 3 = .ok (.istore_n 2, 1) := by decide +kernel
theorem dX1_notCounting_4 : decode cX1_notCounting 4 = .ok (.iload_n 2, 1) := by decide +kernel
theorem dX1_notCounting_5 : decode cX1_notCounting 5 = .ok (.aload_n 0, 1) := by decide +kernel
theorem dX1_notCounting_6 : decode cX1_notCounting 6 = .ok (.getfield 38, 3) := by decide +kernel
theorem dX1_notCounting_9 : decode cX1_notCounting 9 = .ok (.if_icmp .ge 21, 3) := by decide +kernel
theorem dX1_notCounting_12 : decode cX1_notCounting 12 = .ok (.aload_n 0, 1) := by decide +kernel
theorem dX1_notCounting_13 : decode cX1_notCounting 13 = .ok (.getfield 18, 3) := by decide +kernel
theorem dX1_notCounting_16 : decode cX1_notCounting 16 = .ok (.iload_n 2, 1) := by decide +kernel
theorem dX1_notCounting_17 : decode cX1_notCounting 17 = .ok (.iaload, 1) := by decide +kernel
theorem dX1_notCounting_18 : decode cX1_notCounting 18 = .ok (.ifCond .eq 6, 3) := by decide +kernel
theorem dX1_notCounting_21 : decode cX1_notCounting 21 = .ok (.iinc 1 1, 3) := by decide +kernel
theorem dX1_notCounting_24 : decode cX1_notCounting 24 = .ok (.iinc 2 1, 3) := by decide +kernel
theorem dX1_notCounting_27 : decode cX1_notCounting 27 = .ok (.goto (-23), 3) := by decide +kernel
theorem dX1_notCounting_30 : decode cX1_notCounting 30 = .ok (.iload_n 1, 1) := by decide +kernel
theorem dX1_notCounting_31 : decode cX1_notCounting 31 = .ok (.ireturn, 1) := by decide +kernel
set_option maxRecDepth 20000 in
theorem ggX1_isOfSeries_X1_has : GoodIn wsX1_isOfSeries wsX1_has := goodIn_r _ [7, 8, 9, 10, 11, 12, 13, 14, 15, 16] (by decide +kernel) (by decide +kernel)
set_option maxRecDepth 20000 in
theorem gX1_isOfSeries_X1_has : GoodIn wsX1_isOfSeries (wsV RX1 42 RX1 yX1_has wsX1_has) := goodIn_app (goodIn_of _ (by decide +kernel)) ggX1_isOfSeries_X1_has
theorem dX1_isOfSeries_0 : decode cX1_isOfSeries 0 = .ok (.aload_n 0, 1) := by decide +kernel
theorem dX1_isOfSeries_1 : decode cX1_isOfSeries 1 = .ok (.iload_n 1, 1) := by decide +kernel
theorem dX1_isOfSeries_2 : decode cX1_isOfSeries 2 = .ok (.invokevirtual 42, 3) := by decide +kernel
theorem dX1_isOfSeries_5 : decode cX1_isOfSeries 5 = .ok (.ifCond .eq 25, 3) := by decide +kernel
theorem dX1_isOfSeries_8 : decode cX1_isOfSeries 8 = .ok (.aload_n 0, 1) := by decide +kernel
theorem dX1_isOfSeries_9 : decode cX1_isOfSeries 9 = .ok (.getfield 18, 3) := by decide +kernel
theorem dX1_isOfSeries_12 : decode cX1_isOfSeries 12 = .ok (.iload_n 1, 1) := by decide +kernel
theorem dX1_isOfSeries_13 : decode cX1_isOfSeries 13 = .ok (.iaload, 1) := by decide +kernel
theorem dX1_isOfSeries_14 : decode cX1_isOfSeries 14 = .ok (.ifCond .ne 16, 3) := by decide +kernel
theorem dX1_isOfSeries_17 : decode cX1_isOfSeries 17 = .ok (.aload_n 0, 1) := by decide +kernel
theorem dX1_isOfSeries_18 : decode cX1_isOfSeries 18 = .ok (.getfield 30, 3) := by decide +kernel
theorem dX1_isOfSeries_21 : decode cX1_isOfSeries 21 = .ok (.iload_n 1, 1) := by decide +kernel
theorem dX1_isOfSeries_22 : decode cX1_isOfSeries 22 = .ok (.baload, 1) := by decide +kernel
theorem dX1_isOfSeries_23 : decode cX1_isOfSeries 23 = .ok (.ifCond .ne 7, 3) := by decide +kernel
theorem dX1_isOfSeries_26 : decode cX1_isOfSeries 26 = .ok (.iconst 1, 1) := by decide +kernel
theorem dX1_isOfSeries_27 : decode cX1_isOfSeries 27 = .ok (.goto 4, 3) := by decide +kernel
theorem dX1_isOfSeries_30 : decode cX1_isOfSeries 30 = .ok (.iconst 0, 1) := by decide +kernel
theorem dX1_isOfSeries_31 : decode cX1_isOfSeries 31 = .ok (.ireturn, 1) := by decide +kernel
set_option maxRecDepth 20000 in
theorem ggX1_seriesSize_X1_isOfSeries : GoodIn wsX1_seriesSize wsX1_isOfSeries := goodIn_r _ [6, 7, 8, 9, 10, 11, 5, 12, 1, 13, 14, 15, 16, 17, 18, 19, 20] (by decide +kernel) (by decide +kernel)
set_option maxRecDepth 20000 in
theorem gX1_seriesSize_X1_isOfSeries : GoodIn wsX1_seriesSize (wsV RX1 46 RX1 yX1_isOfSeries wsX1_isOfSeries) := goodIn_app (goodIn_of _ (by decide +kernel)) ggX1_seriesSize_X1_isOfSeries
theorem dX1_seriesSize_0 : decode cX1_seriesSize 0 = .ok (.iconst 0, 1) := by decide +kernel
theorem dX1_seriesSize_1 : decode cX1_seriesSize 1 = .ok (.istore_n 1, 1) := by decide +kernel
theorem dX1_seriesSize_2 : decode cX1_seriesSize 2 = .ok (.iconst 0, 1) := by decide +kernel
theorem dX1_seriesSize_3 : decode cX1_seriesSize 3 = .ok (.istore_n 2, 1) := by decide +kernel
theorem dX1_seriesSize_4 : decode cX1_seriesSize 4 = .ok (.iload_n 2, 1) := by decide +kernel
theorem dX1_seriesSize_5 : decode cX1_seriesSize 5 = .ok (.aload_n 0, 1) := by decide +kernel
theorem dX1_seriesSize_6 : decode cX1_seriesSize 6 = .ok (.getfield 38, 3) := by decide +kernel
theorem dX1_seriesSize_9 : decode cX1_seriesSize 9 = .ok (.if_icmp .ge 20, 3) := by decide +kernel
theorem dX1_seriesSize_12 : decode cX1_seriesSize 12 = .ok (.aload_n 0, 1) := by decide +kernel
theorem dX1_seriesSize_13 : decode cX1_seriesSize 13 = .ok (.iload_n 2, 1) := by decide +kernel
theorem dX1_seriesSize_14 : decode cX1_seriesSize 14 = .ok (.invokevirtual 46, 3) := by decide +kernel
theorem dX1_seriesSize_17 : decode cX1_seriesSize 17 = .ok (.ifCond .eq 6, 3) := by decide +kernel
theorem dX1_seriesSize_20 : decode cX1_seriesSize 20 = .ok (.iinc 1 1, 3) := by decide +kernel
theorem dX1_seriesSize_23 : decode cX1_seriesSize 23 = .ok (.iinc 2 1, 3) := by decide +kernel
theorem dX1_seriesSize_26 : decode cX1_seriesSize 26 = .ok (.goto (-22), 3) := by decide +kernel
theorem dX1_seriesSize_29 : decode cX1_seriesSize 29 = .ok (.iload_n 1, 1) := by decide +kernel
theorem dX1_seriesSize_30 : decode cX1_seriesSize 30 = .ok (.ireturn, 1) := by decide +kernel
set_option maxRecDepth 20000 in
theorem ggX1_mean_X1_isOfSeries : GoodIn wsX1_mean wsX1_isOfSeries := goodIn_r _ [7, 8, 9, 10, 11, 12, 6, 13, 1, 17, 18, 19, 20, 21, 22, 23, 24] (by decide +kernel) (by decide +kernel)
set_option maxRecDepth 20000 in
theorem gX1_mean_X1_isOfSeries : GoodIn wsX1_mean (wsV RX1 46 RX1 yX1_isOfSeries wsX1_isOfSeries) := goodIn_app (goodIn_of _ (by decide +kernel)) ggX1_mean_X1_isOfSeries
set_option maxRecDepth 20000 in
theorem ggX1_mean_X8_quotient : GoodIn wsX1_mean wsX8_quotient := goodIn_r _ [16] (by decide +kernel) (by decide +kernel)
set_option maxRecDepth 20000 in
theorem gX1_mean_X8_quotient_n49 : GoodIn wsX1_mean (wsX8_quotient) := ggX1_mean_X8_quotient
theorem dX1_mean_0 : decode cX1_mean 0 = .ok (.lconst 0, 1) := by decide +kernel
theorem dX1_mean_1 : decode cX1_mean 1 = .ok (.lstore_n 1, 1) := by decide +kernel
theorem dX1_mean_2 : decode cX1_mean 2 = .ok (.iconst 0, 1) := by decide +kernel
theorem dX1_mean_3 : decode cX1_mean 3 = .ok (.istore_n 3, 1) := by decide +kernel
theorem dX1_mean_4 : decode cX1_mean 4 = .ok (.iconst 0, 1) := by decide +kernel
theorem dX1_mean_5 : decode cX1_mean 5 = .ok (.istore 4, 2) := by decide +kernel
theorem dX1_mean_7 : decode cX1_mean 7 = .ok (.iload 4, 2) := by decide +kernel
theorem dX1_mean_9 : decode cX1_mean 9 = .ok (.aload_n 0, 1) := by decide +kernel
theorem dX1_mean_10 : decode cX1_mean 10 = .ok (.getfield 38, 3) := by decide +kernel
theorem dX1_mean_13 : decode cX1_mean 13 = .ok (.if_icmp .ge 32, 3) := by decide +kernel
theorem dX1_mean_16 : decode cX1_mean 16 = .ok (.aload_n 0, 1) := by decide +kernel
theorem dX1_mean_17 : decode cX1_mean 17 = .ok (.iload 4, 2) := by decide +kernel
theorem dX1_mean_19 : decode cX1_mean 19 = .ok (.invokevirtual 46, 3) := by decide +kernel
theorem dX1_mean_22 : decode cX1_mean 22 = .ok (.ifCond .eq 17, 3) := by decide +kernel
theorem dX1_mean_25 : decode cX1_mean 25 = .ok (.lload_n 1, 1) := by decide +kernel
theorem dX1_mean_26 : decode cX1_mean 26 = .ok (.aload_n 0, 1) := by decide +kernel
theorem dX1_mean_27 : decode cX1_mean 27 = .ok (.getfield 24, 3) := by decide +kernel
theorem dX1_mean_30 : decode cX1_mean 30 = .ok (.iload 4, 2) := by decide +kernel
theorem dX1_mean_32 : decode cX1_mean 32 = .ok (.iaload, 1) := by decide +kernel
theorem dX1_mean_33 : decode cX1_mean 33 = .ok (.i2l, 1) := by decide +kernel
theorem dX1_mean_34 : decode cX1_mean 34 = .ok (.ladd, 1) := by decide +kernel
theorem dX1_mean_35 : decode cX1_mean 35 = .ok (.lstore_n 1, 1) := by decide +kernel
theorem dX1_mean_36 : decode cX1_mean 36 = .ok (.iinc 3 1, 3) := by decide +kernel
theorem dX1_mean_39 : decode cX1_mean 39 = .ok (.iinc 4 1, 3) := by decide +kernel
theorem dX1_mean_42 : decode cX1_mean 42 = .ok (.goto (-35), 3) := by decide +kernel
theorem dX1_mean_45 : decode cX1_mean 45 = .ok (.lload_n 1, 1) := by decide +kernel
theorem dX1_mean_46 : decode cX1_mean 46 = .ok (.iload_n 3, 1) := by decide +kernel
theorem dX1_mean_47 : decode cX1_mean 47 = .ok (.i2l, 1) := by decide +kernel
theorem dX1_mean_48 : decode cX1_mean 48 = .ok (.invokestatic 49, 3) := by decide +kernel
theorem dX1_mean_51 : decode cX1_mean 51 = .ok (.l2i, 1) := by decide +kernel
theorem dX1_mean_52 : decode cX1_mean 52 = .ok (.ireturn, 1) := by decide +kernel
set_option maxRecDepth 20000 in
theorem ggX1_spread_X1_firstOfSeries : GoodIn wsX1_spread wsX1_firstOfSeries := goodIn_r _ [14, 2, 15, 16, 17, 13, 18, 19, 20, 21, 22, 23, 24, 25, 26, 27, 28, 29, 30, 31, 32] (by decide +kernel) (by decide +kernel)
set_option maxRecDepth 20000 in
theorem gX1_spread_X1_firstOfSeries : GoodIn wsX1_spread (wsV RX1 53 RX1 yX1_firstOfSeries wsX1_firstOfSeries) := goodIn_app (goodIn_of _ (by decide +kernel)) ggX1_spread_X1_firstOfSeries
set_option maxRecDepth 20000 in
theorem ggX1_spread_X1_has : GoodIn wsX1_spread wsX1_has := goodIn_r _ [24, 2, 25, 26, 27, 28, 29, 30, 31, 32] (by decide +kernel) (by decide +kernel)
set_option maxRecDepth 20000 in
theorem gX1_spread_X1_has : GoodIn wsX1_spread (wsV RX1 42 RX1 yX1_has wsX1_has) := goodIn_app (goodIn_of _ (by decide +kernel)) ggX1_spread_X1_has
set_option maxRecDepth 20000 in
theorem ggX1_spread_X1_isOfSeries : GoodIn wsX1_spread wsX1_isOfSeries := goodIn_r _ [18, 19, 20, 21, 22, 23, 13, 24, 2, 25, 26, 27, 28, 29, 30, 31, 32] (by decide +kernel) (by decide +kernel)
set_option maxRecDepth 20000 in
theorem gX1_spread_X1_isOfSeries : GoodIn wsX1_spread (wsV RX1 46 RX1 yX1_isOfSeries wsX1_isOfSeries) := goodIn_app (goodIn_of _ (by decide +kernel)) ggX1_spread_X1_isOfSeries
theorem dX1_spread_0 : decode cX1_spread 0 = .ok (.aload_n 0, 1) := by decide +kernel
theorem dX1_spread_1 : decode cX1_spread 1 = .ok (.invokevirtual 53, 3) := by decide +kernel
theorem dX1_spread_4 : decode cX1_spread 4 = .ok (.istore_n 1, 1) := by decide +kernel
theorem dX1_spread_5 : decode cX1_spread 5 = .ok (.aload_n 0, 1) := by decide +kernel
theorem dX1_spread_6 : decode cX1_spread 6 = .ok (.iload_n 1, 1) := by decide +kernel
theorem dX1_spread_7 : decode cX1_spread 7 = .ok (.invokevirtual 42, 3) := by decide +kernel
theorem dX1_spread_10 : decode cX1_spread 10 = .ok (.ifCond .ne 5, 3) := by decide +kernel
theorem dX1_spread_13 : decode cX1_spread 13 = .ok (.iconst 0, 1) := by decide +kernel
theorem dX1_spread_14 : decode cX1_spread 14 = .ok (.ireturn, 1) := by decide +kernel
theorem dX1_spread_15 : decode cX1_spread 15 = .ok (.aload_n 0, 1) := by decide +kernel
theorem dX1_spread_16 : decode cX1_spread 16 = .ok (.getfield 24, 3) := by decide +kernel
theorem dX1_spread_19 : decode cX1_spread 19 = .ok (.iload_n 1, 1) := by decide +kernel
theorem dX1_spread_20 : decode cX1_spread 20 = .ok (.iaload, 1) := by decide +kernel
theorem dX1_spread_21 : decode cX1_spread 21 = .ok (.istore_n 2, 1) := by decide +kernel
theorem dX1_spread_22 : decode cX1_spread 22 = .ok (.aload_n 0, 1) := by decide +kernel
theorem dX1_spread_23 : decode cX1_spread 23 = .ok (.getfield 24, 3) := by decide +kernel
theorem dX1_spread_26 : decode cX1_spread 26 = .ok (.iload_n 1, 1) := by decide +kernel
theorem dX1_spread_27 : decode cX1_spread 27 = .ok (.iaload, 1) := by decide +kernel
theorem dX1_spread_28 : decode cX1_spread 28 = .ok (.istore_n 3, 1) := by decide +kernel
theorem dX1_spread_29 : decode cX1_spread 29 = .ok (.iload_n 1, 1) := by decide +kernel
theorem dX1_spread_30 : decode cX1_spread 30 = .ok (.istore 4, 2) := by decide +kernel
theorem dX1_spread_32 : decode cX1_spread 32 = .ok (.iload 4, 2) := by decide +kernel
theorem dX1_spread_34 : decode cX1_spread 34 = .ok (.aload_n 0, 1) := by decide +kernel
theorem dX1_spread_35 : decode cX1_spread 35 = .ok (.getfield 38, 3) := by decide +kernel
theorem dX1_spread_38 : decode cX1_spread 38 = .ok (.if_icmp .ge 42, 3) := by decide +kernel
theorem dX1_spread_41 : decode cX1_spread 41 = .ok (.aload_n 0, 1) := by decide +kernel
theorem dX1_spread_42 : decode cX1_spread 42 = .ok (.iload 4, 2) := by decide +kernel
theorem dX1_spread_44 : decode cX1_spread 44 = .ok (.invokevirtual 46, 3) := by decide +kernel
theorem dX1_spread_47 : decode cX1_spread 47 = .ok (.ifCond .eq 27, 3) := by decide +kernel
theorem dX1_spread_50 : decode cX1_spread 50 = .ok (.iload_n 2, 1) := by decide +kernel
theorem dX1_spread_51 : decode cX1_spread 51 = .ok (.aload_n 0, 1) := by decide +kernel
theorem dX1_spread_52 : decode cX1_spread 52 = .ok (.getfield 24, 3) := by decide +kernel
theorem dX1_spread_55 : decode cX1_spread 55 = .ok (.iload 4, 2) := by decide +kernel
theorem dX1_spread_57 : decode cX1_spread 57 = .ok (.iaload, 1) := by decide +kernel
theorem dX1_spread_58 : decode cX1_spread 58 = .ok (.invokestatic 57, 3) := by decide +kernel
theorem dX1_spread_61 : decode cX1_spread 61 = .ok (.istore_n 2, 1) := by decide +kernel
theorem dX1_spread_62 : decode cX1_spread 62 = .ok (.iload_n 3, 1) := by decide +kernel
theorem dX1_spread_63 : decode cX1_spread 63 = .ok (.aload_n 0, 1) := by decide +kernel
theorem dX1_spread_64 : decode cX1_spread 64 = .ok (.getfield 24, 3) := by decide +kernel
theorem dX1_spread_67 : decode cX1_spread 67 = .ok (.iload 4, 2) := by decide +kernel
theorem dX1_spread_69 : decode cX1_spread 69 = .ok (.iaload, 1) := by decide +kernel
theorem dX1_spread_70 : decode cX1_spread 70 = .ok (.invokestatic 63, 3) := by decide +kernel
theorem dX1_spread_73 : decode cX1_spread 73 = .ok (.istore_n 3, 1) := by decide +kernel
theorem dX1_spread_74 : decode cX1_spread 74 = .ok (.iinc 4 1, 3) := by decide +kernel
theorem dX1_spread_77 : decode cX1_spread 77 = .ok (.goto (-45), 3) := by decide +kernel
theorem dX1_spread_80 : decode cX1_spread 80 = .ok (.iload_n 3, 1) := by decide +kernel
theorem dX1_spread_81 : decode cX1_spread 81 = .ok (.iload_n 2, 1) := by decide +kernel
theorem dX1_spread_82 : decode cX1_spread 82 = .ok (.isub, 1) := by decide +kernel
theorem dX1_spread_83 : decode cX1_spread 83 = .ok (.ireturn, 1) := by decide +kernel
set_option maxRecDepth 20000 in
theorem ggX1_isBad_X1_isOfSeries : GoodIn wsX1_isBad wsX1_isOfSeries := goodIn_r _ [6, 7, 8, 9, 10, 11, 5, 12, 13, 21, 22, 23, 24, 25, 26, 27, 28] (by decide +kernel) (by decide +kernel)
set_option maxRecDepth 20000 in
theorem gX1_isBad_X1_isOfSeries : GoodIn wsX1_isBad (wsV RX1 46 RX1 yX1_isOfSeries wsX1_isOfSeries) := goodIn_app (goodIn_of _ (by decide +kernel)) ggX1_isBad_X1_isOfSeries
set_option maxRecDepth 20000 in
theorem ggX1_isBad_X8_difference : GoodIn wsX1_isBad wsX8_difference := goodIn_r _ [16, 17, 18, 19, 20] (by decide +kernel) (by decide +kernel)
set_option maxRecDepth 20000 in
theorem gX1_isBad_X8_difference_n66 : GoodIn wsX1_isBad (wsX8_difference) := ggX1_isBad_X8_difference
theorem dX1_isBad_0 : decode cX1_isBad 0 = .ok (.aload_n 0, 1) := by decide +kernel
theorem dX1_isBad_1 : decode cX1_isBad 1 = .ok (.iload_n 1, 1) := by decide +kernel
theorem dX1_isBad_2 : decode cX1_isBad 2 = .ok (.invokevirtual 46, 3) := by decide +kernel
theorem dX1_isBad_5 : decode cX1_isBad 5 = .ok (.ifCond .eq 21, 3) := by decide +kernel
theorem dX1_isBad_8 : decode cX1_isBad 8 = .ok (.aload_n 0, 1) := by decide +kernel
theorem dX1_isBad_9 : decode cX1_isBad 9 = .ok (.getfield 24, 3) := by decide +kernel
theorem dX1_isBad_12 : decode cX1_isBad 12 = .ok (.iload_n 1, 1) := by decide +kernel
theorem dX1_isBad_13 : decode cX1_isBad 13 = .ok (.iaload, 1) := by decide +kernel
theorem dX1_isBad_14 : decode cX1_isBad 14 = .ok (.iload_n 2, 1) := by decide +kernel
theorem dX1_isBad_15 : decode cX1_isBad 15 = .ok (.invokestatic 66, 3) := by decide +kernel
theorem dX1_isBad_18 : decode cX1_isBad 18 = .ok (.iload_n 3, 1) := by decide +kernel
theorem dX1_isBad_19 : decode cX1_isBad 19 = .ok (.if_icmp .le 7, 3) := by decide +kernel
theorem dX1_isBad_22 : decode cX1_isBad 22 = .ok (.iconst 1, 1) := by decide +kernel
theorem dX1_isBad_23 : decode cX1_isBad 23 = .ok (.goto 4, 3) := by decide +kernel
theorem dX1_isBad_26 : decode cX1_isBad 26 = .ok (.iconst 0, 1) := by decide +kernel
theorem dX1_isBad_27 : decode cX1_isBad 27 = .ok (.ireturn, 1) := by decide +kernel
set_option maxRecDepth 20000 in
theorem ggX1_badShots_X1_mean : GoodIn wsX1_badShots wsX1_mean := goodIn_r _ [6, 1, 7, 8, 9, 10, 5, 11, 12, 13, 14, 15, 16, 17, 18, 19, 20, 31, 32, 33, 34, 35, 36, 37, 38] (by decide +kernel) (by decide +kernel)
set_option maxRecDepth 20000 in
theorem gX1_badShots_X1_mean : GoodIn wsX1_badShots (wsV RX1 69 RX1 yX1_mean wsX1_mean) := goodIn_app (goodIn_of _ (by decide +kernel)) ggX1_badShots_X1_mean
set_option maxRecDepth 20000 in
theorem ggX1_badShots_X1_isBad : GoodIn wsX1_badShots wsX1_isBad := goodIn_r _ [24, 7, 8, 9, 10, 5, 11, 12, 13, 14, 15, 16, 17, 1, 25, 19, 26, 27, 28, 29, 30, 31, 32, 33, 34, 35, 36, 37, 38] (by decide +kernel) (by decide +kernel)
set_option maxRecDepth 20000 in
theorem gX1_badShots_X1_isBad : GoodIn wsX1_badShots (wsV RX1 72 RX1 yX1_isBad wsX1_isBad) := goodIn_app (goodIn_of _ (by decide +kernel)) ggX1_badShots_X1_isBad
theorem dX1_badShots_0 : decode cX1_badShots 0 = .ok (.aload_n 0, 1) := by decide +kernel
theorem dX1_badShots_1 : decode cX1_badShots 1 = .ok (.invokevirtual 69, 3) := by decide +kernel
theorem dX1_badShots_4 : decode cX1_badShots 4 = .ok (.istore_n 2, 1) := by decide +kernel
theorem dX1_badShots_5 : decode cX1_badShots 5 = .ok (.iconst 0, 1) := by decide +kernel
theorem dX1_badShots_6 : decode cX1_badShots 6 = .ok (.istore_n 3, 1) := by decide +kernel
theorem dX1_badShots_7 : decode cX1_badShots 7 = .ok (.iconst 0, 1) := by decide +kernel
theorem dX1_badShots_8 : decode cX1_badShots 8 = .ok (.istore 4, 2) := by decide +kernel
theorem dX1_badShots_10 : decode cX1_badShots 10 = .ok (.iload 4, 2) := by decide +kernel
theorem dX1_badShots_12 : decode cX1_badShots 12 = .ok (.aload_n 0, 1) := by decide +kernel
theorem dX1_badShots_13 : decode cX1_badShots 13 = .ok (.getfield 38, 3) := by decide +kernel
theorem dX1_badShots_16 : decode cX1_badShots 16 = .ok (.if_icmp .ge 23, 3) := by decide +kernel
theorem dX1_badShots_19 : decode cX1_badShots 19 = .ok (.aload_n 0, 1) := by decide +kernel
theorem dX1_badShots_20 : decode cX1_badShots 20 = .ok (.iload 4, 2) := by decide +kernel
theorem dX1_badShots_22 : decode cX1_badShots 22 = .ok (.iload_n 2, 1) := by decide +kernel
theorem dX1_badShots_23 : decode cX1_badShots 23 = .ok (.iload_n 1, 1) := by decide +kernel
theorem dX1_badShots_24 : decode cX1_badShots 24 = .ok (.invokevirtual 72, 3) := by decide +kernel
theorem dX1_badShots_27 : decode cX1_badShots 27 = .ok (.ifCond .eq 6, 3) := by decide +kernel
theorem dX1_badShots_30 : decode cX1_badShots 30 = .ok (.iinc 3 1, 3) := by decide +kernel
theorem dX1_badShots_33 : decode cX1_badShots 33 = .ok (.iinc 4 1, 3) := by decide +kernel
theorem dX1_badShots_36 : decode cX1_badShots 36 = .ok (.goto (-26), 3) := by decide +kernel
theorem dX1_badShots_39 : decode cX1_badShots 39 = .ok (.iload_n 3, 1) := by decide +kernel
theorem dX1_badShots_40 : decode cX1_badShots 40 = .ok (.ireturn, 1) := by decide +kernel
set_option maxRecDepth 20000 in
theorem ggX1_firstOfSeries_X1_isOfSeries : GoodIn wsX1_firstOfSeries wsX1_isOfSeries := goodIn_r _ [6, 7, 8, 9, 10, 11, 5, 12, 1, 13, 14, 15, 16, 17, 18, 19, 20] (by decide +kernel) (by decide +kernel)
set_option maxRecDepth 20000 in
theorem gX1_firstOfSeries_X1_isOfSeries : GoodIn wsX1_firstOfSeries (wsV RX1 46 RX1 yX1_isOfSeries wsX1_isOfSeries) := goodIn_app (goodIn_of _ (by decide +kernel)) ggX1_firstOfSeries_X1_isOfSeries
theorem dX1_firstOfSeries_0 : decode cX1_firstOfSeries 0 = .ok (.iconst 0, 1) := by decide +kernel
theorem dX1_firstOfSeries_1 : decode cX1_firstOfSeries 1 = .ok (.istore_n 1, 1) := by decide +kernel
theorem dX1_firstOfSeries_2 : decode cX1_firstOfSeries 2 = .ok (.iload_n 1, 1) := by decide +kernel
theorem dX1_firstOfSeries_3 : decode cX1_firstOfSeries 3 = .ok (.aload_n 0, 1) := by decide +kernel
theorem dX1_firstOfSeries_4 : decode cX1_firstOfSeries 4 = .ok (.getfield 38, 3) := by decide +kernel
theorem dX1_firstOfSeries_7 : decode cX1_firstOfSeries 7 = .ok (.if_icmp .ge 19, 3) := by decide +kernel
theorem dX1_firstOfSeries_10 : decode cX1_firstOfSeries 10 = .ok (.aload_n 0, 1) := by decide +kernel
theorem dX1_firstOfSeries_11 : decode cX1_firstOfSeries 11 = .ok (.iload_n 1, 1) := by decide +kernel
theorem dX1_firstOfSeries_12 : decode cX1_firstOfSeries 12 = .ok (.invokevirtual 46, 3) := by decide +kernel
theorem dX1_firstOfSeries_15 : decode cX1_firstOfSeries 15 = .ok (.ifCond .eq 5, 3) := by decide +kernel
theorem dX1_firstOfSeries_18 : decode cX1_firstOfSeries 18 = .ok (.iload_n 1, 1) := by decide +kernel
theorem dX1_firstOfSeries_19 : decode cX1_firstOfSeries 19 = .ok (.ireturn, 1) := by decide +kernel
theorem dX1_firstOfSeries_20 : decode cX1_firstOfSeries 20 = .ok (.iinc 1 1, 3) := by decide +kernel
theorem dX1_firstOfSeries_23 : decode cX1_firstOfSeries 23 = .ok (.goto (-21), 3) := by decide +kernel
theorem dX1_firstOfSeries_26 : decode cX1_firstOfSeries 26 = .ok (.iconst (-1), 1) := by decide +kernel
theorem dX1_firstOfSeries_27 : decode cX1_firstOfSeries 27 = .ok (.ireturn, 1) := by decide +kernel
set_option maxRecDepth 20000 in
theorem ggX1_nearestToMean_X1_mean : GoodIn wsX1_nearestToMean wsX1_mean := goodIn_r _ [7, 1, 2, 8, 9, 10, 6, 11, 12, 13, 14, 15, 16, 17, 18, 19, 20, 27, 28, 29, 30, 31, 32, 33, 34] (by decide +kernel) (by decide +kernel)
set_option maxRecDepth 20000 in
theorem gX1_nearestToMean_X1_mean : GoodIn wsX1_nearestToMean (wsV RX1 69 RX1 yX1_mean wsX1_mean) := goodIn_app (goodIn_of _ (by decide +kernel)) ggX1_nearestToMean_X1_mean
set_option maxRecDepth 20000 in
theorem ggX1_nearestToMean_X1_isOfSeries : GoodIn wsX1_nearestToMean wsX1_isOfSeries := goodIn_r _ [11, 12, 13, 14, 15, 16, 6, 17, 1, 27, 28, 29, 30, 31, 32, 33, 34] (by decide +kernel) (by decide +kernel)
set_option maxRecDepth 20000 in
theorem gX1_nearestToMean_X1_isOfSeries : GoodIn wsX1_nearestToMean (wsV RX1 46 RX1 yX1_isOfSeries wsX1_isOfSeries) := goodIn_app (goodIn_of _ (by decide +kernel)) ggX1_nearestToMean_X1_isOfSeries
set_option maxRecDepth 20000 in
theorem ggX1_nearestToMean_X8_difference : GoodIn wsX1_nearestToMean wsX8_difference := goodIn_r _ [22, 23, 24, 25, 26] (by decide +kernel) (by decide +kernel)
set_option maxRecDepth 20000 in
theorem gX1_nearestToMean_X8_difference_n66 : GoodIn wsX1_nearestToMean (wsX8_difference) := ggX1_nearestToMean_X8_difference
theorem dX1_nearestToMean_0 : decode cX1_nearestToMean 0 = .ok (.aload_n 0, 1) := by decide +kernel
theorem dX1_nearestToMean_1 : decode cX1_nearestToMean 1 = .ok (.invokevirtual 69, 3) := by decide +kernel
theorem dX1_nearestToMean_4 : decode cX1_nearestToMean 4 = .ok (.istore_n 1, 1) := by decide +kernel
theorem dX1_nearestToMean_5 : decode cX1_nearestToMean 5 = .ok (.iconst (-1), 1) := by decide +kernel
theorem dX1_nearestToMean_6 : decode cX1_nearestToMean 6 = .ok (.istore_n 2, 1) := by decide +kernel
theorem dX1_nearestToMean_7 : decode cX1_nearestToMean 7 = .ok (.iconst 0, 1) := by decide +kernel
theorem dX1_nearestToMean_8 : decode cX1_nearestToMean 8 = .ok (.istore_n 3, 1) := by decide +kernel
theorem dX1_nearestToMean_9 : decode cX1_nearestToMean 9 = .ok (.iconst 0, 1) := by decide +kernel
theorem dX1_nearestToMean_10 : decode cX1_nearestToMean 10 = .ok (.istore 4, 2) := by decide +kernel
theorem dX1_nearestToMean_12 : decode cX1_nearestToMean 12 = .ok (.iload 4, 2) := by decide +kernel
theorem dX1_nearestToMean_14 : decode cX1_nearestToMean 14 = .ok (.aload_n 0, 1) := by decide +kernel
theorem dX1_nearestToMean_15 : decode cX1_nearestToMean 15 = .ok (.getfield 38, 3) := by decide +kernel
theorem dX1_nearestToMean_18 : decode cX1_nearestToMean 18 = .ok (.if_icmp .ge 52, 3) := by decide +kernel
theorem dX1_nearestToMean_21 : decode cX1_nearestToMean 21 = .ok (.aload_n 0, 1) := by decide +kernel
theorem dX1_nearestToMean_22 : decode cX1_nearestToMean 22 = .ok (.iload 4, 2) := by decide +kernel
theorem dX1_nearestToMean_24 : decode cX1_nearestToMean 24 = .ok (.invokevirtual 46, 3) := by decide +kernel
theorem dX1_nearestToMean_27 : decode cX1_nearestToMean 27 = .ok (.ifCond .eq 37, 3) := by decide +kernel
theorem dX1_nearestToMean_30 : decode cX1_nearestToMean 30 = .ok (.iload_n 2, 1) := by decide +kernel
theorem dX1_nearestToMean_31 : decode cX1_nearestToMean 31 = .ok (.ifCond .lt 18, 3) := by decide +kernel
theorem dX1_nearestToMean_34 : decode cX1_nearestToMean 34 = .ok (.aload_n 0, 1) := by decide +kernel
theorem dX1_nearestToMean_35 : decode cX1_nearestToMean 35 = .ok (.getfield 24, 3) := by decide +kernel
theorem dX1_nearestToMean_38 : decode cX1_nearestToMean 38 = .ok (.iload 4, 2) := by decide +kernel
theorem dX1_nearestToMean_40 : decode cX1_nearestToMean 40 = .ok (.iaload, 1) := by decide +kernel
theorem dX1_nearestToMean_41 : decode cX1_nearestToMean 41 = .ok (.iload_n 1, 1) := by decide +kernel
theorem dX1_nearestToMean_42 : decode cX1_nearestToMean 42 = .ok (.invokestatic 66, 3) := by decide +kernel
theorem dX1_nearestToMean_45 : decode cX1_nearestToMean 45 = .ok (.iload_n 3, 1) := by decide +kernel
theorem dX1_nearestToMean_46 : decode cX1_nearestToMean 46 = .ok (.if_icmp .ge 18, 3) := by decide +kernel
theorem dX1_nearestToMean_49 : decode cX1_nearestToMean 49 = .ok (.aload_n 0, 1) := by decide +kernel
theorem dX1_nearestToMean_50 : decode cX1_nearestToMean 50 = .ok (.getfield 24, 3) := by decide +kernel
theorem dX1_nearestToMean_53 : decode cX1_nearestToMean 53 = .ok (.iload 4, 2) := by decide +kernel
theorem dX1_nearestToMean_55 : decode cX1_nearestToMean 55 = .ok (.iaload, 1) := by decide +kernel
theorem dX1_nearestToMean_56 : decode cX1_nearestToMean 56 = .ok (.iload_n 1, 1) := by decide +kernel
theorem dX1_nearestToMean_57 : decode cX1_nearestToMean 57 = .ok (.invokestatic 66, 3) := by decide +kernel
theorem dX1_nearestToMean_60 : decode cX1_nearestToMean 60 = .ok (.istore_n 3, 1) := by decide +kernel
theorem dX1_nearestToMean_61 : decode cX1_nearestToMean 61 = .ok (.iload 4, 2) := by decide +kernel
theorem dX1_nearestToMean_63 : decode cX1_nearestToMean 63 = .ok (.istore_n 2, 1) := by decide +kernel
theorem dX1_nearestToMean_64 : decode cX1_nearestToMean 64 = .ok (.iinc 4 1, 3) := by decide +kernel
theorem dX1_nearestToMean_67 : decode cX1_nearestToMean 67 = .ok (.goto (-55), 3) := by decide +kernel
theorem dX1_nearestToMean_70 : decode cX1_nearestToMean 70 = .ok (.iload_n 2, 1) := by decide +kernel
theorem dX1_nearestToMean_71 : decode cX1_nearestToMean 71 = .ok (.ireturn, 1) := by decide +kernel
set_option maxRecDepth 20000 in
theorem ggX1_worst_X1_mean : GoodIn wsX1_worst wsX1_mean := goodIn_r _ [7, 1, 2, 8, 9, 10, 6, 11, 12, 13, 14, 15, 16, 17, 18, 19, 20, 31, 32, 33, 34, 35, 36, 37, 38] (by decide +kernel) (by decide +kernel)
set_option maxRecDepth 20000 in
theorem gX1_worst_X1_mean : GoodIn wsX1_worst (wsV RX1 69 RX1 yX1_mean wsX1_mean) := goodIn_app (goodIn_of _ (by decide +kernel)) ggX1_worst_X1_mean
set_option maxRecDepth 20000 in
theorem ggX1_worst_X1_isBad : GoodIn wsX1_worst wsX1_isBad := goodIn_r _ [24, 2, 8, 9, 10, 6, 11, 12, 13, 14, 15, 16, 17, 1, 25, 19, 26, 27, 28, 29, 30, 31, 32, 33, 34, 35, 36, 37, 38] (by decide +kernel) (by decide +kernel)
set_option maxRecDepth 20000 in
theorem gX1_worst_X1_isBad : GoodIn wsX1_worst (wsV RX1 72 RX1 yX1_isBad wsX1_isBad) := goodIn_app (goodIn_of _ (by decide +kernel)) ggX1_worst_X1_isBad
set_option maxRecDepth 20000 in
theorem ggX1_worst_X8_difference : GoodIn wsX1_worst wsX8_difference := goodIn_r _ [26, 27, 28, 29, 30] (by decide +kernel) (by decide +kernel)
set_option maxRecDepth 20000 in
theorem gX1_worst_X8_difference_n66 : GoodIn wsX1_worst (wsX8_difference) := ggX1_worst_X8_difference
theorem dX1_worst_0 : decode cX1_worst 0 = .ok (.aload_n 0, 1) := by decide +kernel
theorem dX1_worst_1 : decode cX1_worst 1 = .ok (.invokevirtual 69, 3) := by decide +kernel
theorem dX1_worst_4 : decode cX1_worst 4 = .ok (.istore_n 2, 1) := by decide +kernel
theorem dX1_worst_5 : decode cX1_worst 5 = .ok (.iconst (-1), 1) := by decide +kernel
theorem dX1_worst_6 : decode cX1_worst 6 = .ok (.istore_n 3, 1) := by decide +kernel
theorem dX1_worst_7 : decode cX1_worst 7 = .ok (.iload_n 1, 1) := by decide +kernel
theorem dX1_worst_8 : decode cX1_worst 8 = .ok (.istore 4, 2) := by decide +kernel
theorem dX1_worst_10 : decode cX1_worst 10 = .ok (.iconst 0, 1) := by decide +kernel
theorem dX1_worst_11 : decode cX1_worst 11 = .ok (.istore 5, 2) := by decide +kernel
theorem dX1_worst_13 : decode cX1_worst 13 = .ok (.iload 5, 2) := by decide +kernel
theorem dX1_worst_15 : decode cX1_worst 15 = .ok (.aload_n 0, 1) := by decide +kernel
theorem dX1_worst_16 : decode cX1_worst 16 = .ok (.getfield 38, 3) := by decide +kernel
theorem dX1_worst_19 : decode cX1_worst 19 = .ok (.if_icmp .ge 37, 3) := by decide +kernel
theorem dX1_worst_22 : decode cX1_worst 22 = .ok (.aload_n 0, 1) := by decide +kernel
theorem dX1_worst_23 : decode cX1_worst 23 = .ok (.iload 5, 2) := by decide +kernel
theorem dX1_worst_25 : decode cX1_worst 25 = .ok (.iload_n 2, 1) := by decide +kernel
theorem dX1_worst_26 : decode cX1_worst 26 = .ok (.iload 4, 2) := by decide +kernel
theorem dX1_worst_28 : decode cX1_worst 28 = .ok (.invokevirtual 72, 3) := by decide +kernel
theorem dX1_worst_31 : decode cX1_worst 31 = .ok (.ifCond .eq 19, 3) := by decide +kernel
theorem dX1_worst_34 : decode cX1_worst 34 = .ok (.aload_n 0, 1) := by decide +kernel
theorem dX1_worst_35 : decode cX1_worst 35 = .ok (.getfield 24, 3) := by decide +kernel
theorem dX1_worst_38 : decode cX1_worst 38 = .ok (.iload 5, 2) := by decide +kernel
theorem dX1_worst_40 : decode cX1_worst 40 = .ok (.iaload, 1) := by decide +kernel
theorem dX1_worst_41 : decode cX1_worst 41 = .ok (.iload_n 2, 1) := by decide +kernel
theorem dX1_worst_42 : decode cX1_worst 42 = .ok (.invokestatic 66, 3) := by decide +kernel
theorem dX1_worst_45 : decode cX1_worst 45 = .ok (.istore 4, 2) := by decide +kernel
theorem dX1_worst_47 : decode cX1_worst 47 = .ok (.iload 5, 2) := by decide +kernel
theorem dX1_worst_49 : decode cX1_worst 49 = .ok (.istore_n 3, 1) := by decide +kernel
theorem dX1_worst_50 : decode cX1_worst 50 = .ok (.iinc 5 1, 3) := by decide +kernel
theorem dX1_worst_53 : decode cX1_worst 53 = .ok (.goto (-40), 3) := by decide +kernel
theorem dX1_worst_56 : decode cX1_worst 56 = .ok (.iload_n 3, 1) := by decide +kernel
theorem dX1_worst_57 : decode cX1_worst 57 = .ok (.ireturn, 1) := by decide +kernel
set_option maxRecDepth 20000 in
theorem ggX1_strikeBad_X1_worst : GoodIn wsX1_strikeBad wsX1_worst := goodIn_r _ [6, 7, 8, 9, 10, 11, 5, 12, 13, 14, 15, 16, 17, 1, 18, 19, 20, 21, 22, 23, 24, 25, 26, 27, 28, 29, 30, 31, 32, 33, 34, 35, 36, 37, 38, 39, 40, 41, 42] (by decide +kernel) (by decide +kernel)
set_option maxRecDepth 20000 in
theorem gX1_strikeBad_X1_worst : GoodIn wsX1_strikeBad (wsV RX1 76 RX1 yX1_worst wsX1_worst) := goodIn_app (goodIn_of _ (by decide +kernel)) ggX1_strikeBad_X1_worst
set_option maxRecDepth 20000 in
theorem ggX1_strikeBad_X1_has : GoodIn wsX1_strikeBad wsX1_has := goodIn_r _ [21, 7, 35, 36, 37, 38, 39, 40, 41, 42] (by decide +kernel) (by decide +kernel)
set_option maxRecDepth 20000 in
theorem gX1_strikeBad_X1_has : GoodIn wsX1_strikeBad (wsV RX1 42 RX1 yX1_has wsX1_has) := goodIn_app (goodIn_of _ (by decide +kernel)) ggX1_strikeBad_X1_has
theorem dX1_strikeBad_0 : decode cX1_strikeBad 0 = .ok (.iconst 0, 1) := by decide +kernel
theorem dX1_strikeBad_1 : decode cX1_strikeBad 1 = .ok (.istore_n 2, 1) := by decide +kernel
theorem dX1_strikeBad_2 : decode cX1_strikeBad 2 = .ok (.iconst 0, 1) := by decide +kernel
theorem dX1_strikeBad_3 : decode cX1_strikeBad 3 = .ok (.istore_n 3, 1) := by decide +kernel
theorem dX1_strikeBad_4 : decode cX1_strikeBad 4 = .ok (.iload_n 3, 1) := by decide +kernel
theorem dX1_strikeBad_5 : decode cX1_strikeBad 5 = .ok (.bipush 60, 2) := by decide +kernel
theorem dX1_strikeBad_7 : decode cX1_strikeBad 7 = .ok (.if_icmp .ge 38, 3) := by decide +kernel
theorem dX1_strikeBad_10 : decode cX1_strikeBad 10 = .ok (.aload_n 0, 1) := by decide +kernel
theorem dX1_strikeBad_11 : decode cX1_strikeBad 11 = .ok (.iload_n 1, 1) := by decide +kernel
theorem dX1_strikeBad_12 : decode cX1_strikeBad 12 = .ok (.invokevirtual 76, 3) := by decide +kernel
theorem dX1_strikeBad_15 : decode cX1_strikeBad 15 = .ok (.istore 4, 2) := by decide +kernel
theorem dX1_strikeBad_17 : decode cX1_strikeBad 17 = .ok (.aload_n 0, 1) := by decide +kernel
theorem dX1_strikeBad_18 : decode cX1_strikeBad 18 = .ok (.iload 4, 2) := by decide +kernel
theorem dX1_strikeBad_20 : decode cX1_strikeBad 20 = .ok (.invokevirtual 42, 3) := by decide +kernel
theorem dX1_strikeBad_23 : decode cX1_strikeBad 23 = .ok (.ifCond .ne 5, 3) := by decide +kernel
theorem dX1_strikeBad_26 : decode cX1_strikeBad 26 = .ok (.iload_n 2, 1) := by decide +kernel
theorem dX1_strikeBad_27 : decode cX1_strikeBad 27 = .ok (.ireturn, 1) := by decide +kernel
theorem dX1_strikeBad_28 : decode cX1_strikeBad 28 = .ok (.aload_n 0, 1) := by decide +kernel
theorem dX1_strikeBad_29 : decode cX1_strikeBad 29 = .ok (.getfield 30, 3) := by decide +kernel
theorem dX1_strikeBad_32 : decode cX1_strikeBad 32 = .ok (.iload 4, 2) := by decide +kernel
theorem dX1_strikeBad_34 : decode cX1_strikeBad 34 = .ok (.iconst 1, 1) := by decide +kernel
theorem dX1_strikeBad_35 : decode cX1_strikeBad 35 = .ok (.bastore, 1) := by decide +kernel
theorem dX1_strikeBad_36 : decode cX1_strikeBad 36 = .ok (.iinc 2 1, 3) := by decide +kernel
theorem dX1_strikeBad_39 : decode cX1_strikeBad 39 = .ok (.iinc 3 1, 3) := by decide +kernel
theorem dX1_strikeBad_42 : decode cX1_strikeBad 42 = .ok (.goto (-38), 3) := by decide +kernel
theorem dX1_strikeBad_45 : decode cX1_strikeBad 45 = .ok (.iload_n 2, 1) := by decide +kernel
theorem dX1_strikeBad_46 : decode cX1_strikeBad 46 = .ok (.ireturn, 1) := by decide +kernel
