set_option maxRecDepth 20000 in
theorem ggX9_isIn_X9_q : GoodIn wsX9_isIn wsX9_q := goodIn_r _ [5] (by decide +kernel) (by decide +kernel)
set_option maxRecDepth 20000 in
theorem gX9_isIn_X9_q : GoodIn wsX9_isIn (va_wsS RX9 109 yX9_q wsX9_q) := goodIn_app (goodIn_of _ (by decide +kernel)) ggX9_isIn_X9_q
theorem dX9_isIn_0 : decode cX9_isIn 0 = .ok (.aload_n 0, 1) := by decide +kernel
theorem dX9_isIn_1 : decode cX9_isIn 1 = .ok (.getfield 7, 3) := by decide +kernel
theorem dX9_isIn_4 : decode cX9_isIn 4 = .ok (.iload_n 1, 1) := by decide +kernel
theorem dX9_isIn_5 : decode cX9_isIn 5 = .ok (.invokestatic 109, 3) := by decide +kernel
theorem dX9_isIn_8 : decode cX9_isIn 8 = .ok (.iconst 2, 1) := by decide +kernel
theorem dX9_isIn_9 : decode cX9_isIn 9 = .ok (.iadd, 1) := by decide +kernel
theorem dX9_isIn_10 : decode cX9_isIn 10 = .ok (.iaload, 1) := by decide +kernel
theorem dX9_isIn_11 : decode cX9_isIn 11 = .ok (.ifCond .ne 21, 3) := by decide +kernel
theorem dX9_isIn_14 : decode cX9_isIn 14 = .ok (.aload_n 0, 1) := by decide +kernel
theorem dX9_isIn_15 : decode cX9_isIn 15 = .ok (.getfield 7, 3) := by decide +kernel
theorem dX9_isIn_18 : decode cX9_isIn 18 = .ok (.iload_n 1, 1) := by decide +kernel
theorem dX9_isIn_19 : decode cX9_isIn 19 = .ok (.invokestatic 109, 3) := by decide +kernel
theorem dX9_isIn_22 : decode cX9_isIn 22 = .ok (.iconst 5, 1) := by decide +kernel
theorem dX9_isIn_23 : decode cX9_isIn 23 = .ok (.iadd, 1) := by decide +kernel
theorem dX9_isIn_24 : decode cX9_isIn 24 = .ok (.iaload, 1) := by decide +kernel
theorem dX9_isIn_25 : decode cX9_isIn 25 = .ok (.ifCond .ne 7, 3) := by decide +kernel
theorem dX9_isIn_28 : decode cX9_isIn 28 = .ok (.iconst 1, 1) := by decide +kernel
theorem dX9_isIn_29 : decode cX9_isIn 29 = .ok (.goto 4, 3) := by decide +kernel
theorem dX9_isIn_32 : decode cX9_isIn 32 = .ok (.iconst 0, 1) := by decide +kernel
theorem dX9_isIn_33 : decode cX9_isIn 33 = .ok (.ireturn, 1) := by decide +kernel
set_option maxRecDepth 20000 in
theorem ggX9_many_X9_isIn : GoodIn wsX9_many wsX9_isIn := goodIn_r _ [6, 1, 7, 8, 5, 9, 10, 11, 12, 13, 14, 15, 16, 17, 18, 19, 20] (by decide +kernel) (by decide +kernel)
set_option maxRecDepth 20000 in
theorem gX9_many_X9_isIn : GoodIn wsX9_many (wsV RX9 124 RX9 yX9_isIn wsX9_isIn) := goodIn_app (goodIn_of _ (by decide +kernel)) ggX9_many_X9_isIn
theorem dX9_many_0 : decode cX9_many 0 = .ok (.iconst 0, 1) := by decide +kernel
theorem dX9_many_1 : decode cX9_many 1 = .ok (.istore_n 1, 1) := by decide +kernel
theorem dX9_many_2 : decode cX9_many 2 = .ok (.iconst 0, 1) := by decide +kernel
theorem dX9_many_3 : decode cX9_many 3 = .ok (.istore_n 2, 1) := by decide +kernel
theorem dX9_many_4 : decode cX9_many 4 = .ok (.iload_n 2, 1) := by decide +kernel
theorem dX9_many_5 : decode cX9_many 5 = .ok (.aload_n 0, 1) := by decide +kernel
theorem dX9_many_6 : decode cX9_many 6 = .ok (.getfield 7, 3) := by decide +kernel
theorem dX9_many_9 : decode cX9_many 9 = .ok (.bipush 68, 2) := by decide +kernel
theorem dX9_many_11 : decode cX9_many 11 = .ok (.iaload, 1) := by decide +kernel
theorem dX9_many_12 : decode cX9_many 12 = .ok (.if_icmp .ge 25, 3) := by decide +kernel
theorem dX9_many_15 : decode cX9_many 15 = .ok (.iload_n 1, 1) := by decide +kernel
theorem dX9_many_16 : decode cX9_many 16 = .ok (.aload_n 0, 1) := by decide +kernel
theorem dX9_many_17 : decode cX9_many 17 = .ok (.iload_n 2, 1) := by decide +kernel
theorem dX9_many_18 : decode cX9_many 18 = .ok (.invokevirtual 124, 3) := by decide +kernel
theorem dX9_many_21 : decode cX9_many 21 = .ok (.ifCond .eq 7, 3) := by decide +kernel
theorem dX9_many_24 : decode cX9_many 24 = .ok (.iconst 1, 1) := by decide +kernel
theorem dX9_many_25 : decode cX9_many 25 = .ok (.goto 4, 3) := by decide +kernel
theorem dX9_many_28 : decode cX9_many 28 = .ok (.iconst 0, 1) := by decide +kernel
theorem dX9_many_29 : decode cX9_many 29 = .ok (.iadd, 1) := by decide +kernel
theorem dX9_many_30 : decode cX9_many 30 = .ok (.istore_n 1, 1) := by decide +kernel
theorem dX9_many_31 : decode cX9_many 31 = .ok (.iinc 2 1, 3) := by decide +kernel
theorem dX9_many_34 : decode cX9_many 34 = .ok (.goto (-30), 3) := by decide +kernel
theorem dX9_many_37 : decode cX9_many 37 = .ok (.iload_n 1, 1) := by decide +kernel
theorem dX9_many_38 : decode cX9_many 38 = .ok (.ireturn, 1) := by decide +kernel
set_option maxRecDepth 20000 in
theorem ggX9_mean_X9_isIn : GoodIn wsX9_mean wsX9_isIn := goodIn_r _ [6, 1, 7, 8, 5, 9, 14, 15, 16, 17, 18, 19, 20, 21, 22, 23, 24] (by decide +kernel) (by decide +kernel)
set_option maxRecDepth 20000 in
theorem gX9_mean_X9_isIn : GoodIn wsX9_mean (wsV RX9 124 RX9 yX9_isIn wsX9_isIn) := goodIn_app (goodIn_of _ (by decide +kernel)) ggX9_mean_X9_isIn
set_option maxRecDepth 20000 in
theorem ggX9_mean_X9_q : GoodIn wsX9_mean wsX9_q := goodIn_r _ [9] (by decide +kernel) (by decide +kernel)
set_option maxRecDepth 20000 in
theorem gX9_mean_X9_q : GoodIn wsX9_mean (va_wsS RX9 109 yX9_q wsX9_q) := goodIn_app (goodIn_of _ (by decide +kernel)) ggX9_mean_X9_q
set_option maxRecDepth 20000 in
theorem ggX9_mean_X9_many : GoodIn wsX9_mean wsX9_many := goodIn_r _ [13, 1, 2, 3, 4, 5, 6, 7, 8, 9, 14, 15, 16, 17, 18, 19, 20, 21, 22, 23, 24] (by decide +kernel) (by decide +kernel)
set_option maxRecDepth 20000 in
theorem gX9_mean_X9_many : GoodIn wsX9_mean (wsV RX9 128 RX9 yX9_many wsX9_many) := goodIn_app (goodIn_of _ (by decide +kernel)) ggX9_mean_X9_many
theorem dX9_mean_0 : decode cX9_mean 0 = .ok (.iconst 0, 1) := by decide +kernel
theorem dX9_mean_1 : decode cX9_mean 1 = .ok (.istore_n 1, 1) := by decide +kernel
theorem dX9_mean_2 : decode cX9_mean 2 = .ok (.iconst 0, 1) := by decide +kernel
theorem dX9_mean_3 : decode cX9_mean 3 = .ok (.istore_n 2, 1) := by decide +kernel
theorem dX9_mean_4 : decode cX9_mean 4 = .ok (.iload_n 2, 1) := by decide +kernel
theorem dX9_mean_5 : decode cX9_mean 5 = .ok (.aload_n 0, 1) := by decide +kernel
theorem dX9_mean_6 : decode cX9_mean 6 = .ok (.getfield 7, 3) := by decide +kernel
theorem dX9_mean_9 : decode cX9_mean 9 = .ok (.bipush 68, 2) := by decide +kernel
theorem dX9_mean_11 : decode cX9_mean 11 = .ok (.iaload, 1) := by decide +kernel
theorem dX9_mean_12 : decode cX9_mean 12 = .ok (.if_icmp .ge 35, 3) := by decide +kernel
theorem dX9_mean_15 : decode cX9_mean 15 = .ok (.iload_n 1, 1) := by decide +kernel
theorem dX9_mean_16 : decode cX9_mean 16 = .ok (.aload_n 0, 1) := by decide +kernel
theorem dX9_mean_17 : decode cX9_mean 17 = .ok (.iload_n 2, 1) := by decide +kernel
theorem dX9_mean_18 : decode cX9_mean 18 = .ok (.invokevirtual 124, 3) := by decide +kernel
theorem dX9_mean_21 : decode cX9_mean 21 = .ok (.ifCond .eq 17, 3) := by decide +kernel
theorem dX9_mean_24 : decode cX9_mean 24 = .ok (.aload_n 0, 1) := by decide +kernel
theorem dX9_mean_25 : decode cX9_mean 25 = .ok (.getfield 7, 3) := by decide +kernel
theorem dX9_mean_28 : decode cX9_mean 28 = .ok (.iload_n 2, 1) := by decide +kernel
theorem dX9_mean_29 : decode cX9_mean 29 = .ok (.invokestatic 109, 3) := by decide +kernel
theorem dX9_mean_32 : decode cX9_mean 32 = .ok (.iconst 4, 1) := by decide +kernel
theorem dX9_mean_33 : decode cX9_mean 33 = .ok (.iadd, 1) := by decide +kernel
theorem dX9_mean_34 : decode cX9_mean 34 = .ok (.iaload, 1) := by decide +kernel
theorem dX9_mean_35 : decode cX9_mean 35 = .ok (.goto 4, 3) := by decide +kernel
theorem dX9_mean_38 : decode cX9_mean 38 = .ok (.iconst 0, 1) := by decide +kernel
theorem dX9_mean_39 : decode cX9_mean 39 = .ok (.iadd, 1) := by decide +kernel
theorem dX9_mean_40 : decode cX9_mean 40 = .ok (.istore_n 1, 1) := by decide +kernel
theorem dX9_mean_41 : decode cX9_mean 41 = .ok (.iinc 2 1, 3) := by decide +kernel
theorem dX9_mean_44 : decode cX9_mean 44 = .ok (.goto (-40), 3) := by decide +kernel
theorem dX9_mean_47 : decode cX9_mean 47 = .ok (.aload_n 0, 1) := by decide +kernel
theorem dX9_mean_48 : decode cX9_mean 48 = .ok (.invokevirtual 128, 3) := by decide +kernel
theorem dX9_mean_51 : decode cX9_mean 51 = .ok (.ifCond .ne 8, 3) := by decide +kernel
theorem dX9_mean_54 : decode cX9_mean 54 = .ok (.bipush (-5), 2) := by decide +kernel
theorem dX9_mean_56 : decode cX9_mean 56 = .ok (.goto 9, 3) := by decide +kernel
theorem dX9_mean_59 : decode cX9_mean 59 = .ok (.iload_n 1, 1) := by decide +kernel
theorem dX9_mean_60 : decode cX9_mean 60 = .ok (.aload_n 0, 1) := by decide +kernel
theorem dX9_mean_61 : decode cX9_mean 61 = .ok (.invokevirtual 128, 3) := by decide +kernel
theorem dX9_mean_64 : decode cX9_mean 64 = .ok (.idiv, 1) := by decide +kernel
theorem dX9_mean_65 : decode cX9_mean 65 = .ok (.ireturn, 1) := by decide +kernel
set_option maxRecDepth 20000 in
theorem ggX9_off_X9_q : GoodIn wsX9_off wsX9_q := goodIn_r _ [5] (by decide +kernel) (by decide +kernel)
set_option maxRecDepth 20000 in
theorem gX9_off_X9_q : GoodIn wsX9_off (va_wsS RX9 109 yX9_q wsX9_q) := goodIn_app (goodIn_of _ (by decide +kernel)) ggX9_off_X9_q
theorem dX9_off_0 : decode cX9_off 0 = .ok (.aload_n 0, 1) := by decide +kernel
theorem dX9_off_1 : decode cX9_off 1 = .ok (.getfield 7, 3) := by decide +kernel
theorem dX9_off_4 : decode cX9_off 4 = .ok (.iload_n 1, 1) := by decide +kernel
theorem dX9_off_5 : decode cX9_off 5 = .ok (.invokestatic 109, 3) := by decide +kernel
theorem dX9_off_8 : decode cX9_off 8 = .ok (.iconst 4, 1) := by decide +kernel
theorem dX9_off_9 : decode cX9_off 9 = .ok (.iadd, 1) := by decide +kernel
theorem dX9_off_10 : decode cX9_off 10 = .ok (.iaload, 1) := by decide +kernel
theorem dX9_off_11 : decode cX9_off 11 = .ok (.iload_n 2, 1) := by decide +kernel
theorem dX9_off_12 : decode cX9_off 12 = .ok (.isub, 1) := by decide +kernel
theorem dX9_off_13 : decode cX9_off 13 = .ok (.istore_n 3, 1) := by decide +kernel
theorem dX9_off_14 : decode cX9_off 14 = .ok (.iload_n 3, 1) := by decide +kernel
theorem dX9_off_15 : decode cX9_off 15 = .ok (.ifCond .ge 8, 3) := by decide +kernel
theorem dX9_off_18 : decode cX9_off 18 = .ok (.iload_n 3, 1) := by decide +kernel
theorem dX9_off_19 : decode cX9_off 19 = .ok (.ineg, 1) := by decide +kernel
theorem dX9_off_20 : decode cX9_off 20 = .ok (.goto 4, 3) := by decide +kernel
theorem dX9_off_23 : decode cX9_off 23 = .ok (.iload_n 3, 1) := by decide +kernel
theorem dX9_off_24 : decode cX9_off 24 = .ok (.ireturn, 1) := by decide +kernel
set_option maxRecDepth 20000 in
theorem ggX9_isBad_X9_isIn : GoodIn wsX9_isBad wsX9_isIn := goodIn_r _ [6, 1, 7, 8, 5, 9, 22, 23, 24, 25, 26, 27, 28, 29, 30, 31, 32] (by decide +kernel) (by decide +kernel)
set_option maxRecDepth 20000 in
theorem gX9_isBad_X9_isIn : GoodIn wsX9_isBad (wsV RX9 124 RX9 yX9_isIn wsX9_isIn) := goodIn_app (goodIn_of _ (by decide +kernel)) ggX9_isBad_X9_isIn
set_option maxRecDepth 20000 in
theorem ggX9_isBad_X9_mean : GoodIn wsX9_isBad wsX9_mean := goodIn_r _ [13, 1, 2, 3, 4, 5, 6, 7, 8, 9, 14, 15, 16, 17, 22, 23, 24, 25, 26, 27, 28, 29, 30, 31, 32] (by decide +kernel) (by decide +kernel)
set_option maxRecDepth 20000 in
theorem gX9_isBad_X9_mean : GoodIn wsX9_isBad (wsV RX9 131 RX9 yX9_mean wsX9_mean) := goodIn_app (goodIn_of _ (by decide +kernel)) ggX9_isBad_X9_mean
set_option maxRecDepth 20000 in
theorem ggX9_isBad_X9_off : GoodIn wsX9_isBad wsX9_off := goodIn_r _ [21, 1, 7, 8, 5, 9, 22, 23, 24, 25, 26, 27, 28, 29, 30, 31, 32] (by decide +kernel) (by decide +kernel)
set_option maxRecDepth 20000 in
theorem gX9_isBad_X9_off : GoodIn wsX9_isBad (wsV RX9 134 RX9 yX9_off wsX9_off) := goodIn_app (goodIn_of _ (by decide +kernel)) ggX9_isBad_X9_off
theorem dX9_isBad_0 : decode cX9_isBad 0 = .ok (.aload_n 0, 1) := by decide +kernel
theorem dX9_isBad_1 : decode cX9_isBad 1 = .ok (.iload_n 1, 1) := by decide +kernel
theorem dX9_isBad_2 : decode cX9_isBad 2 = .ok (.invokevirtual 124, 3) := by decide +kernel
theorem dX9_isBad_5 : decode cX9_isBad 5 = .ok (.ifCond .eq 26, 3) := by decide +kernel
theorem dX9_isBad_8 : decode cX9_isBad 8 = .ok (.aload_n 0, 1) := by decide +kernel
theorem dX9_isBad_9 : decode cX9_isBad 9 = .ok (.iload_n 1, 1) := by decide +kernel
theorem dX9_isBad_10 : decode cX9_isBad 10 = .ok (.aload_n 0, 1) := by decide +kernel
theorem dX9_isBad_11 : decode cX9_isBad 11 = .ok (.invokevirtual 131, 3) := by decide +kernel
theorem dX9_isBad_14 : decode cX9_isBad 14 = .ok (.invokevirtual 134, 3) := by decide +kernel
theorem dX9_isBad_17 : decode cX9_isBad 17 = .ok (.aload_n 0, 1) := by decide +kernel
theorem dX9_isBad_18 : decode cX9_isBad 18 = .ok (.getfield 7, 3) := by decide +kernel
theorem dX9_isBad_21 : decode cX9_isBad 21 = .ok (.bipush 7, 2) := by decide +kernel
theorem dX9_isBad_23 : decode cX9_isBad 23 = .ok (.iaload, 1) := by decide +kernel
theorem dX9_isBad_24 : decode cX9_isBad 24 = .ok (.if_icmp .le 7, 3) := by decide +kernel
theorem dX9_isBad_27 : decode cX9_isBad 27 = .ok (.iconst 1, 1) := by decide +kernel
theorem dX9_isBad_28 : decode cX9_isBad 28 = .ok (.goto 4, 3) := by decide +kernel
theorem dX9_isBad_31 : decode cX9_isBad 31 = .ok (.iconst 0, 1) := by decide +kernel
theorem dX9_isBad_32 : decode cX9_isBad 32 = .ok (.ireturn, 1) := by decide +kernel
set_option maxRecDepth 20000 in
theorem ggX9_worst_X9_mean : GoodIn wsX9_worst wsX9_mean := goodIn_r _ [6, 1, 7, 8, 9, 5, 10, 11, 12, 13, 14, 15, 16, 17, 26, 27, 28, 29, 30, 31, 32, 33, 34, 35, 36] (by decide +kernel) (by decide +kernel)
set_option maxRecDepth 20000 in
theorem gX9_worst_X9_mean : GoodIn wsX9_worst (wsV RX9 131 RX9 yX9_mean wsX9_mean) := goodIn_app (goodIn_of _ (by decide +kernel)) ggX9_worst_X9_mean
set_option maxRecDepth 20000 in
theorem ggX9_worst_X9_isBad : GoodIn wsX9_worst wsX9_isBad := goodIn_r _ [21, 1, 7, 8, 9, 5, 10, 11, 12, 13, 2, 3, 4, 6, 14, 15, 16, 17, 22, 23, 24, 25, 26, 27, 28, 29, 30, 31, 32, 33, 34, 35, 36] (by decide +kernel) (by decide +kernel)
set_option maxRecDepth 20000 in
theorem gX9_worst_X9_isBad : GoodIn wsX9_worst (wsV RX9 137 RX9 yX9_isBad wsX9_isBad) := goodIn_app (goodIn_of _ (by decide +kernel)) ggX9_worst_X9_isBad
set_option maxRecDepth 20000 in
theorem ggX9_worst_X9_off : GoodIn wsX9_worst wsX9_off := goodIn_r _ [25, 1, 11, 12, 5, 13, 26, 27, 28, 29, 30, 31, 32, 33, 34, 35, 36] (by decide +kernel) (by decide +kernel)
set_option maxRecDepth 20000 in
theorem gX9_worst_X9_off : GoodIn wsX9_worst (wsV RX9 134 RX9 yX9_off wsX9_off) := goodIn_app (goodIn_of _ (by decide +kernel)) ggX9_worst_X9_off
theorem dX9_worst_0 : decode cX9_worst 0 = .ok (.aload_n 0, 1) := by decide +kernel
theorem dX9_worst_1 : decode cX9_worst 1 = .ok (.invokevirtual 131, 3) := by decide +kernel
theorem dX9_worst_4 : decode cX9_worst 4 = .ok (.istore_n 1, 1) := by decide +kernel
theorem dX9_worst_5 : decode cX9_worst 5 = .ok (.bipush (-5), 2) := by decide +kernel
theorem dX9_worst_7 : decode cX9_worst 7 = .ok (.istore_n 2, 1) := by decide +kernel
theorem dX9_worst_8 : decode cX9_worst 8 = .ok (.iconst 0, 1) := by decide +kernel
theorem dX9_worst_9 : decode cX9_worst 9 = .ok (.istore_n 3, 1) := by decide +kernel
theorem dX9_worst_10 : decode cX9_worst 10 = .ok (.iload_n 3, 1) := by decide +kernel
theorem dX9_worst_11 : decode cX9_worst 11 = .ok (.aload_n 0, 1) := by decide +kernel
theorem dX9_worst_12 : decode cX9_worst 12 = .ok (.getfield 7, 3) := by decide +kernel
theorem dX9_worst_15 : decode cX9_worst 15 = .ok (.bipush 68, 2) := by decide +kernel
theorem dX9_worst_17 : decode cX9_worst 17 = .ok (.iaload, 1) := by decide +kernel
theorem dX9_worst_18 : decode cX9_worst 18 = .ok (.if_icmp .ge 44, 3) := by decide +kernel
theorem dX9_worst_21 : decode cX9_worst 21 = .ok (.aload_n 0, 1) := by decide +kernel
theorem dX9_worst_22 : decode cX9_worst 22 = .ok (.iload_n 3, 1) := by decide +kernel
theorem dX9_worst_23 : decode cX9_worst 23 = .ok (.invokevirtual 137, 3) := by decide +kernel
theorem dX9_worst_26 : decode cX9_worst 26 = .ok (.ifCond .eq 28, 3) := by decide +kernel
theorem dX9_worst_29 : decode cX9_worst 29 = .ok (.iload_n 2, 1) := by decide +kernel
theorem dX9_worst_30 : decode cX9_worst 30 = .ok (.bipush (-5), 2) := by decide +kernel
theorem dX9_worst_32 : decode cX9_worst 32 = .ok (.if_icmp .eq 18, 3) := by decide +kernel
theorem dX9_worst_35 : decode cX9_worst 35 = .ok (.aload_n 0, 1) := by decide +kernel
theorem dX9_worst_36 : decode cX9_worst 36 = .ok (.iload_n 3, 1) := by decide +kernel
theorem dX9_worst_37 : decode cX9_worst 37 = .ok (.iload_n 1, 1) := by decide +kernel
theorem dX9_worst_38 : decode cX9_worst 38 = .ok (.invokevirtual 134, 3) := by decide +kernel
theorem dX9_worst_41 : decode cX9_worst 41 = .ok (.aload_n 0, 1) := by decide +kernel
theorem dX9_worst_42 : decode cX9_worst 42 = .ok (.iload_n 2, 1) := by decide +kernel
theorem dX9_worst_43 : decode cX9_worst 43 = .ok (.iload_n 1, 1) := by decide +kernel
theorem dX9_worst_44 : decode cX9_worst 44 = .ok (.invokevirtual 134, 3) := by decide +kernel
theorem dX9_worst_47 : decode cX9_worst 47 = .ok (.if_icmp .le 7, 3) := by decide +kernel
theorem dX9_worst_50 : decode cX9_worst 50 = .ok (.iload_n 3, 1) := by decide +kernel
theorem dX9_worst_51 : decode cX9_worst 51 = .ok (.goto 4, 3) := by decide +kernel
theorem dX9_worst_54 : decode cX9_worst 54 = .ok (.iload_n 2, 1) := by decide +kernel
theorem dX9_worst_55 : decode cX9_worst 55 = .ok (.istore_n 2, 1) := by decide +kernel
theorem dX9_worst_56 : decode cX9_worst 56 = .ok (.iinc 3 1, 3) := by decide +kernel
theorem dX9_worst_59 : decode cX9_worst 59 = .ok (.goto (-49), 3) := by decide +kernel
theorem dX9_worst_62 : decode cX9_worst 62 = .ok (.iload_n 2, 1) := by decide +kernel
theorem dX9_worst_63 : decode cX9_worst 63 = .ok (.ireturn, 1) := by decide +kernel
set_option maxRecDepth 20000 in
theorem ggX9_strike_X9_in : GoodIn wsX9_strike wsX9_in := goodIn_r _ [5] (by decide +kernel) (by decide +kernel)
set_option maxRecDepth 20000 in
theorem gX9_strike_X9_in : GoodIn wsX9_strike (va_wsS RX9 57 yX9_in wsX9_in) := goodIn_app (goodIn_of _ (by decide +kernel)) ggX9_strike_X9_in
set_option maxRecDepth 20000 in
theorem ggX9_strike_X9_q : GoodIn wsX9_strike wsX9_q := goodIn_r _ [8] (by decide +kernel) (by decide +kernel)
set_option maxRecDepth 20000 in
theorem gX9_strike_X9_q : GoodIn wsX9_strike (va_wsS RX9 109 yX9_q wsX9_q) := goodIn_app (goodIn_of _ (by decide +kernel)) ggX9_strike_X9_q
set_option maxRecDepth 20000 in
theorem ggX9_strike_X9_record : GoodIn wsX9_strike wsX9_record := goodIn_r _ [12, 13, 14, 1, 23, 24, 25, 26, 27, 28, 29, 30, 31, 32, 33] (by decide +kernel) (by decide +kernel)
set_option maxRecDepth 20000 in
theorem gX9_strike_X9_record : GoodIn wsX9_strike (wsV RX9 61 RX9 yX9_record wsX9_record) := goodIn_app (goodIn_of _ (by decide +kernel)) ggX9_strike_X9_record
set_option maxRecDepth 20000 in
theorem ggX9_strike_X9_many : GoodIn wsX9_strike wsX9_many := goodIn_r _ [18, 1, 19, 20, 21, 4, 22, 6, 7, 8, 23, 24, 25, 26, 27, 28, 29, 30, 31, 32, 33] (by decide +kernel) (by decide +kernel)
set_option maxRecDepth 20000 in
theorem gX9_strike_X9_many : GoodIn wsX9_strike (wsV RX9 128 RX9 yX9_many wsX9_many) := goodIn_app (goodIn_of _ (by decide +kernel)) ggX9_strike_X9_many
theorem dX9_strike_0 : decode cX9_strike 0 = .ok (.iload_n 1, 1) := by decide +kernel
theorem dX9_strike_1 : decode cX9_strike 1 = .ok (.iconst 0, 1) := by decide +kernel
theorem dX9_strike_2 : decode cX9_strike 2 = .ok (.aload_n 0, 1) := by decide +kernel
theorem dX9_strike_3 : decode cX9_strike 3 = .ok (.getfield 7, 3) := by decide +kernel
theorem dX9_strike_6 : decode cX9_strike 6 = .ok (.bipush 68, 2) := by decide +kernel
theorem dX9_strike_8 : decode cX9_strike 8 = .ok (.iaload, 1) := by decide +kernel
theorem dX9_strike_9 : decode cX9_strike 9 = .ok (.iconst 1, 1) := by decide +kernel
theorem dX9_strike_10 : decode cX9_strike 10 = .ok (.isub, 1) := by decide +kernel
theorem dX9_strike_11 : decode cX9_strike 11 = .ok (.invokestatic 57, 3) := by decide +kernel
theorem dX9_strike_14 : decode cX9_strike 14 = .ok (.ifCond .ne 5, 3) := by decide +kernel
theorem dX9_strike_17 : decode cX9_strike 17 = .ok (.iconst (-1), 1) := by decide +kernel
theorem dX9_strike_18 : decode cX9_strike 18 = .ok (.ireturn, 1) := by decide +kernel
theorem dX9_strike_19 : decode cX9_strike 19 = .ok (.aload_n 0, 1) := by decide +kernel
theorem dX9_strike_20 : decode cX9_strike 20 = .ok (.getfield 7, 3) := by decide +kernel
theorem dX9_strike_23 : decode cX9_strike 23 = .ok (.iload_n 1, 1) := by decide +kernel
theorem dX9_strike_24 : decode cX9_strike 24 = .ok (.invokestatic 109, 3) := by decide +kernel
theorem dX9_strike_27 : decode cX9_strike 27 = .ok (.iconst 2, 1) := by decide +kernel
theorem dX9_strike_28 : decode cX9_strike 28 = .ok (.iadd, 1) := by decide +kernel
theorem dX9_strike_29 : decode cX9_strike 29 = .ok (.iaload, 1) := by decide +kernel
theorem dX9_strike_30 : decode cX9_strike 30 = .ok (.ifCond .eq 6, 3) := by decide +kernel
theorem dX9_strike_33 : decode cX9_strike 33 = .ok (.bipush (-4), 2) := by decide +kernel
theorem dX9_strike_35 : decode cX9_strike 35 = .ok (.ireturn, 1) := by decide +kernel
theorem dX9_strike_36 : decode cX9_strike 36 = .ok (.aload_n 0, 1) := by decide +kernel
theorem dX9_strike_37 : decode cX9_strike 37 = .ok (.getfield 7, 3) := by decide +kernel
theorem dX9_strike_40 : decode cX9_strike 40 = .ok (.iload_n 1, 1) := by decide +kernel
theorem dX9_strike_41 : decode cX9_strike 41 = .ok (.invokestatic 109, 3) := by decide +kernel
theorem dX9_strike_44 : decode cX9_strike 44 = .ok (.iconst 5, 1) := by decide +kernel
theorem dX9_strike_45 : decode cX9_strike 45 = .ok (.iadd, 1) := by decide +kernel
theorem dX9_strike_46 : decode cX9_strike 46 = .ok (.iaload, 1) := by decide +kernel
theorem dX9_strike_47 : decode cX9_strike 47 = .ok (.iload_n 2, 1) := by decide +kernel
theorem dX9_strike_48 : decode cX9_strike 48 = .ok (.ifCond .eq 7, 3) := by decide +kernel
theorem dX9_strike_51 : decode cX9_strike 51 = .ok (.iconst 1, 1) := by decide +kernel
theorem dX9_strike_52 : decode cX9_strike 52 = .ok (.goto 4, 3) := by decide +kernel
theorem dX9_strike_55 : decode cX9_strike 55 = .ok (.iconst 0, 1) := by decide +kernel
theorem dX9_strike_56 : decode cX9_strike 56 = .ok (.if_icmp .ne 6, 3) := by decide +kernel
theorem dX9_strike_59 : decode cX9_strike 59 = .ok (.bipush (-5), 2) := by decide +kernel
theorem dX9_strike_61 : decode cX9_strike 61 = .ok (.ireturn, 1) := by decide +kernel
theorem dX9_strike_62 : decode cX9_strike 62 = .ok (.aload_n 0, 1) := by decide +kernel
theorem dX9_strike_63 : decode cX9_strike 63 = .ok (.invokevirtual 61, 3) := by decide +kernel
theorem dX9_strike_66 : decode cX9_strike 66 = .ok (.aload_n 0, 1) := by decide +kernel
theorem dX9_strike_67 : decode cX9_strike 67 = .ok (.getfield 7, 3) := by decide +kernel
theorem dX9_strike_70 : decode cX9_strike 70 = .ok (.iload_n 1, 1) := by decide +kernel
theorem dX9_strike_71 : decode cX9_strike 71 = .ok (.invokestatic 109, 3) := by decide +kernel
theorem dX9_strike_74 : decode cX9_strike 74 = .ok (.iconst 5, 1) := by decide +kernel
theorem dX9_strike_75 : decode cX9_strike 75 = .ok (.iadd, 1) := by decide +kernel
theorem dX9_strike_76 : decode cX9_strike 76 = .ok (.iload_n 2, 1) := by decide +kernel
theorem dX9_strike_77 : decode cX9_strike 77 = .ok (.ifCond .eq 7, 3) := by decide +kernel
theorem dX9_strike_80 : decode cX9_strike 80 = .ok (.iconst 1, 1) := by decide +kernel
theorem dX9_strike_81 : decode cX9_strike 81 = .ok (.goto 4, 3) := by decide +kernel
theorem dX9_strike_84 : decode cX9_strike 84 = .ok (.iconst 0, 1) := by decide +kernel
theorem dX9_strike_85 : decode cX9_strike 85 = .ok (.iastore, 1) := by decide +kernel
theorem dX9_strike_86 : decode cX9_strike 86 = .ok (.aload_n 0, 1) := by decide +kernel
theorem dX9_strike_87 : decode cX9_strike 87 = .ok (.invokevirtual 128, 3) := by decide +kernel
theorem dX9_strike_90 : decode cX9_strike 90 = .ok (.ireturn, 1) := by decide +kernel
set_option maxRecDepth 20000 in
theorem ggX9_clean_X9_worst : GoodIn wsX9_clean wsX9_worst := goodIn_r _ [6, 1, 7, 8, 9, 5, 10, 11, 12, 13, 14, 15, 16, 17, 18, 19, 20, 21, 22, 23, 24, 25, 26, 27, 28, 29, 36, 37, 38, 39, 40, 41, 42, 43, 44, 45, 46] (by decide +kernel) (by decide +kernel)
set_option maxRecDepth 20000 in
theorem gX9_clean_X9_worst : GoodIn wsX9_clean (wsV RX9 140 RX9 yX9_worst wsX9_worst) := goodIn_app (goodIn_of _ (by decide +kernel)) ggX9_clean_X9_worst
set_option maxRecDepth 20000 in
theorem ggX9_clean_X9_record : GoodIn wsX9_clean wsX9_record := goodIn_r _ [33, 34, 35, 1, 36, 37, 38, 39, 40, 41, 42, 43, 44, 45, 46] (by decide +kernel) (by decide +kernel)
set_option maxRecDepth 20000 in
theorem gX9_clean_X9_record : GoodIn wsX9_clean (wsV RX9 61 RX9 yX9_record wsX9_record) := goodIn_app (goodIn_of _ (by decide +kernel)) ggX9_clean_X9_record
set_option maxRecDepth 20000 in
theorem ggX9_clean_X9_q : GoodIn wsX9_clean wsX9_q := goodIn_r _ [17] (by decide +kernel) (by decide +kernel)
set_option maxRecDepth 20000 in
theorem gX9_clean_X9_q : GoodIn wsX9_clean (va_wsS RX9 109 yX9_q wsX9_q) := goodIn_app (goodIn_of _ (by decide +kernel)) ggX9_clean_X9_q
theorem dX9_clean_0 : decode cX9_clean 0 = .ok (.aload_n 0, 1) := by decide +kernel
theorem dX9_clean_1 : decode cX9_clean 1 = .ok (.invokevirtual 140, 3) := by decide +kernel
theorem dX9_clean_4 : decode cX9_clean 4 = .ok (.bipush (-5), 2) := by decide +kernel
theorem dX9_clean_6 : decode cX9_clean 6 = .ok (.if_icmp .ne 6, 3) := by decide +kernel
theorem dX9_clean_9 : decode cX9_clean 9 = .ok (.bipush (-5), 2) := by decide +kernel
theorem dX9_clean_11 : decode cX9_clean 11 = .ok (.ireturn, 1) := by decide +kernel
theorem dX9_clean_12 : decode cX9_clean 12 = .ok (.aload_n 0, 1) := by decide +kernel
theorem dX9_clean_13 : decode cX9_clean 13 = .ok (.invokevirtual 61, 3) := by decide +kernel
theorem dX9_clean_16 : decode cX9_clean 16 = .ok (.iconst 0, 1) := by decide +kernel
theorem dX9_clean_17 : decode cX9_clean 17 = .ok (.istore_n 1, 1) := by decide +kernel
theorem dX9_clean_18 : decode cX9_clean 18 = .ok (.aload_n 0, 1) := by decide +kernel
theorem dX9_clean_19 : decode cX9_clean 19 = .ok (.invokevirtual 140, 3) := by decide +kernel
theorem dX9_clean_22 : decode cX9_clean 22 = .ok (.istore_n 2, 1) := by decide +kernel
theorem dX9_clean_23 : decode cX9_clean 23 = .ok (.iload_n 2, 1) := by decide +kernel
theorem dX9_clean_24 : decode cX9_clean 24 = .ok (.bipush (-5), 2) := by decide +kernel
theorem dX9_clean_26 : decode cX9_clean 26 = .ok (.if_icmp .eq 26, 3) := by decide +kernel
theorem dX9_clean_29 : decode cX9_clean 29 = .ok (.aload_n 0, 1) := by decide +kernel
theorem dX9_clean_30 : decode cX9_clean 30 = .ok (.getfield 7, 3) := by decide +kernel
theorem dX9_clean_33 : decode cX9_clean 33 = .ok (.iload_n 2, 1) := by decide +kernel
theorem dX9_clean_34 : decode cX9_clean 34 = .ok (.invokestatic 109, 3) := by decide +kernel
theorem dX9_clean_37 : decode cX9_clean 37 = .ok (.iconst 5, 1) := by decide +kernel
theorem dX9_clean_38 : decode cX9_clean 38 = .ok (.iadd, 1) := by decide +kernel
theorem dX9_clean_39 : decode cX9_clean 39 = .ok (.iconst 1, 1) := by decide +kernel
theorem dX9_clean_40 : decode cX9_clean 40 = .ok (.iastore, 1) := by decide +kernel
theorem dX9_clean_41 : decode cX9_clean 41 = .ok (.iinc 1 1, 3) := by decide +kernel
theorem dX9_clean_44 : decode cX9_clean 44 = .ok (.aload_n 0, 1) := by decide +kernel
theorem dX9_clean_45 : decode cX9_clean 45 = .ok (.invokevirtual 140, 3) := by decide +kernel
theorem dX9_clean_48 : decode cX9_clean 48 = .ok (.istore_n 2, 1) := by decide +kernel
theorem dX9_clean_49 : decode cX9_clean 49 = .ok (.goto (-26), 3) := by decide +kernel
theorem dX9_clean_52 : decode cX9_clean 52 = .ok (.iload_n 1, 1) := by decide +kernel
theorem dX9_clean_53 : decode cX9_clean 53 = .ok (.ireturn, 1) := by decide +kernel
set_option maxRecDepth 20000 in
theorem ggX9_forget_X9_record : GoodIn wsX9_forget wsX9_record := goodIn_r _ [6, 7, 8, 1, 9, 10, 11, 12, 13, 14, 15, 16, 17, 18, 19] (by decide +kernel) (by decide +kernel)
set_option maxRecDepth 20000 in
theorem gX9_forget_X9_record : GoodIn wsX9_forget (wsV RX9 61 RX9 yX9_record wsX9_record) := goodIn_app (goodIn_of _ (by decide +kernel)) ggX9_forget_X9_record
theorem dX9_forget_0 : decode cX9_forget 0 = .ok (.aload_n 0, 1) := by decide +kernel
theorem dX9_forget_1 : decode cX9_forget 1 = .ok (.getfield 7, 3) := by decide +kernel
theorem dX9_forget_4 : decode cX9_forget 4 = .ok (.bipush 68, 2) := by decide +kernel
theorem dX9_forget_6 : decode cX9_forget 6 = .ok (.iaload, 1) := by decide +kernel
theorem dX9_forget_7 : decode cX9_forget 7 = .ok (.istore_n 1, 1) := by decide +kernel
theorem dX9_forget_8 : decode cX9_forget 8 = .ok (.iload_n 1, 1) := by decide +kernel
theorem dX9_forget_9 : decode cX9_forget 9 = .ok (.ifCond .ne 6, 3) := by decide +kernel
theorem dX9_forget_12 : decode cX9_forget 12 = .ok (.bipush (-5), 2) := by decide +kernel
theorem dX9_forget_14 : decode cX9_forget 14 = .ok (.ireturn, 1) := by decide +kernel
theorem dX9_forget_15 : decode cX9_forget 15 = .ok (.aload_n 0, 1) := by decide +kernel
theorem dX9_forget_16 : decode cX9_forget 16 = .ok (.invokevirtual 61, 3) := by decide +kernel
theorem dX9_forget_19 : decode cX9_forget 19 = .ok (.aload_n 0, 1) := by decide +kernel
theorem dX9_forget_20 : decode cX9_forget 20 = .ok (.getfield 7, 3) := by decide +kernel
theorem dX9_forget_23 : decode cX9_forget 23 = .ok (.bipush 68, 2) := by decide +kernel
theorem dX9_forget_25 : decode cX9_forget 25 = .ok (.iconst 0, 1) := by decide +kernel
theorem dX9_forget_26 : decode cX9_forget 26 = .ok (.iastore, 1) := by decide +kernel
theorem dX9_forget_27 : decode cX9_forget 27 = .ok (.iload_n 1, 1) := by decide +kernel
theorem dX9_forget_28 : decode cX9_forget 28 = .ok (.ireturn, 1) := by decide +kernel
set_option maxRecDepth 20000 in
theorem ggX9_setLimit_X9_in : GoodIn wsX9_setLimit wsX9_in := goodIn_r _ [5] (by decide +kernel) (by decide +kernel)
set_option maxRecDepth 20000 in
theorem gX9_setLimit_X9_in : GoodIn wsX9_setLimit (va_wsS RX9 57 yX9_in wsX9_in) := goodIn_app (goodIn_of _ (by decide +kernel)) ggX9_setLimit_X9_in
set_option maxRecDepth 20000 in
theorem ggX9_setLimit_X9_record : GoodIn wsX9_setLimit wsX9_record := goodIn_r _ [9, 10, 11, 1, 12, 13, 14, 15, 16, 17, 18, 19, 20, 21, 22] (by decide +kernel) (by decide +kernel)
set_option maxRecDepth 20000 in
theorem gX9_setLimit_X9_record : GoodIn wsX9_setLimit (wsV RX9 61 RX9 yX9_record wsX9_record) := goodIn_app (goodIn_of _ (by decide +kernel)) ggX9_setLimit_X9_record
theorem dX9_setLimit_0 : decode cX9_setLimit 0 = .ok (.iload_n 1, 1) := by decide +kernel
theorem dX9_setLimit_1 : decode cX9_setLimit 1 = .ok (.iconst 1, 1) := by decide +kernel
theorem dX9_setLimit_2 : decode cX9_setLimit 2 = .ok (.sipush 200, 3) := by decide +kernel
theorem dX9_setLimit_5 : decode cX9_setLimit 5 = .ok (.invokestatic 57, 3) := by decide +kernel
theorem dX9_setLimit_8 : decode cX9_setLimit 8 = .ok (.ifCond .ne 6, 3) := by decide +kernel
theorem dX9_setLimit_11 : decode cX9_setLimit 11 = .ok (.bipush (-2), 2) := by decide +kernel
theorem dX9_setLimit_13 : decode cX9_setLimit 13 = .ok (.ireturn, 1) := by decide +kernel
theorem dX9_setLimit_14 : decode cX9_setLimit 14 = .ok (.aload_n 0, 1) := by decide +kernel
theorem dX9_setLimit_15 : decode cX9_setLimit 15 = .ok (.getfield 7, 3) := by decide +kernel
theorem dX9_setLimit_18 : decode cX9_setLimit 18 = .ok (.bipush 7, 2) := by decide +kernel
theorem dX9_setLimit_20 : decode cX9_setLimit 20 = .ok (.iaload, 1) := by decide +kernel
theorem dX9_setLimit_21 : decode cX9_setLimit 21 = .ok (.istore_n 2, 1) := by decide +kernel
theorem dX9_setLimit_22 : decode cX9_setLimit 22 = .ok (.iload_n 2, 1) := by decide +kernel
theorem dX9_setLimit_23 : decode cX9_setLimit 23 = .ok (.iload_n 1, 1) := by decide +kernel
theorem dX9_setLimit_24 : decode cX9_setLimit 24 = .ok (.if_icmp .ne 6, 3) := by decide +kernel
theorem dX9_setLimit_27 : decode cX9_setLimit 27 = .ok (.bipush (-5), 2) := by decide +kernel
theorem dX9_setLimit_29 : decode cX9_setLimit 29 = .ok (.ireturn, 1) := by decide +kernel
theorem dX9_setLimit_30 : decode cX9_setLimit 30 = .ok (.aload_n 0, 1) := by decide +kernel
theorem dX9_setLimit_31 : decode cX9_setLimit 31 = .ok (.invokevirtual 61, 3) := by decide +kernel
theorem dX9_setLimit_34 : decode cX9_setLimit 34 = .ok (.aload_n 0, 1) := by decide +kernel
theorem dX9_setLimit_35 : decode cX9_setLimit 35 = .ok (.getfield 7, 3) := by decide +kernel
theorem dX9_setLimit_38 : decode cX9_setLimit 38 = .ok (.bipush 7, 2) := by decide +kernel
theorem dX9_setLimit_40 : decode cX9_setLimit 40 = .ok (.iload_n 1, 1) := by decide +kernel
theorem dX9_setLimit_41 : decode cX9_setLimit 41 = .ok (.iastore, 1) := by decide +kernel
theorem dX9_setLimit_42 : decode cX9_setLimit 42 = .ok (.iload_n 2, 1) := by decide +kernel
theorem dX9_setLimit_43 : decode cX9_setLimit 43 = .ok (.ireturn, 1) := by decide +kernel
set_option maxRecDepth 20000 in
theorem ggX9_keepStandard_X9_in : GoodIn wsX9_keepStandard wsX9_in := goodIn_r _ [5] (by decide +kernel) (by decide +kernel)
set_option maxRecDepth 20000 in
theorem gX9_keepStandard_X9_in : GoodIn wsX9_keepStandard (va_wsS RX9 57 yX9_in wsX9_in) := goodIn_app (goodIn_of _ (by decide +kernel)) ggX9_keepStandard_X9_in
set_option maxRecDepth 20000 in
theorem ggX9_keepStandard_X9_record : GoodIn wsX9_keepStandard wsX9_record := goodIn_r _ [9, 10, 11, 1, 12, 13, 14, 15, 16, 17, 18, 19, 20, 21, 22] (by decide +kernel) (by decide +kernel)
set_option maxRecDepth 20000 in
theorem gX9_keepStandard_X9_record : GoodIn wsX9_keepStandard (wsV RX9 61 RX9 yX9_record wsX9_record) := goodIn_app (goodIn_of _ (by decide +kernel)) ggX9_keepStandard_X9_record
theorem dX9_keepStandard_0 : decode cX9_keepStandard 0 = .ok (.iload_n 1, 1) := by decide +kernel
theorem dX9_keepStandard_1 : decode cX9_keepStandard 1 = .ok (.bipush 50, 2) := by decide +kernel
theorem dX9_keepStandard_3 : decode cX9_keepStandard 3 = .ok (.sipush 900, 3) := by decide +kernel
theorem dX9_keepStandard_6 : decode cX9_keepStandard 6 = .ok (.invokestatic 57, 3) := by decide +kernel
theorem dX9_keepStandard_9 : decode cX9_keepStandard 9 = .ok (.ifCond .eq 13, 3) := by decide +kernel
theorem dX9_keepStandard_12 : decode cX9_keepStandard 12 = .ok (.iload_n 2, 1) := by decide +kernel
theorem dX9_keepStandard_13 : decode cX9_keepStandard 13 = .ok (.iconst 0, 1) := by decide +kernel
theorem dX9_keepStandard_14 : decode cX9_keepStandard 14 = .ok (.bipush 100, 2) := by decide +kernel
theorem dX9_keepStandard_16 : decode cX9_keepStandard 16 = .ok (.invokestatic 57, 3) := by decide +kernel
theorem dX9_keepStandard_19 : decode cX9_keepStandard 19 = .ok (.ifCond .ne 6, 3) := by decide +kernel
theorem dX9_keepStandard_22 : decode cX9_keepStandard 22 = .ok (.bipush (-2), 2) := by decide +kernel
theorem dX9_keepStandard_24 : decode cX9_keepStandard 24 = .ok (.ireturn, 1) := by decide +kernel
theorem dX9_keepStandard_25 : decode cX9_keepStandard 25 = .ok (.aload_n 0, 1) := by decide +kernel
theorem dX9_keepStandard_26 : decode cX9_keepStandard 26 = .ok (.getfield 7, 3) := by decide +kernel
theorem dX9_keepStandard_29 : decode cX9_keepStandard 29 = .ok (.bipush 16, 2) := by decide +kernel
theorem dX9_keepStandard_31 : decode cX9_keepStandard 31 = .ok (.iaload, 1) := by decide +kernel
theorem dX9_keepStandard_32 : decode cX9_keepStandard 32 = .ok (.iconst 5, 1) := by decide +kernel
theorem dX9_keepStandard_33 : decode cX9_keepStandard 33 = .ok (.if_icmp .ne 6, 3) := by decide +kernel
theorem dX9_keepStandard_36 : decode cX9_keepStandard 36 = .ok (.bipush (-3), 2) := by decide +kernel
theorem dX9_keepStandard_38 : decode cX9_keepStandard 38 = .ok (.ireturn, 1) := by decide +kernel
theorem dX9_keepStandard_39 : decode cX9_keepStandard 39 = .ok (.aload_n 0, 1) := by decide +kernel
theorem dX9_keepStandard_40 : decode cX9_keepStandard 40 = .ok (.invokevirtual 61, 3) := by decide +kernel
theorem dX9_keepStandard_43 : decode cX9_keepStandard 43 = .ok (.aload_n 0, 1) := by decide +kernel
theorem dX9_keepStandard_44 : decode cX9_keepStandard 44 = .ok (.getfield 7, 3) := by decide +kernel
theorem dX9_keepStandard_47 : decode cX9_keepStandard 47 = .ok (.bipush 17, 2) := by decide +kernel
theorem dX9_keepStandard_49 : decode cX9_keepStandard 49 = .ok (.iconst 2, 1) := by decide +kernel
theorem dX9_keepStandard_50 : decode cX9_keepStandard 50 = .ok (.aload_n 0, 1) := by decide +kernel
theorem dX9_keepStandard_51 : decode cX9_keepStandard 51 = .ok (.getfield 7, 3) := by decide +kernel
theorem dX9_keepStandard_54 : decode cX9_keepStandard 54 = .ok (.bipush 16, 2) := by decide +kernel
theorem dX9_keepStandard_56 : decode cX9_keepStandard 56 = .ok (.iaload, 1) := by decide +kernel
theorem dX9_keepStandard_57 : decode cX9_keepStandard 57 = .ok (.imul, 1) := by decide +kernel
theorem dX9_keepStandard_58 : decode cX9_keepStandard 58 = .ok (.iadd, 1) := by decide +kernel
theorem dX9_keepStandard_59 : decode cX9_keepStandard 59 = .ok (.iload_n 1, 1) := by decide +kernel
theorem dX9_keepStandard_60 : decode cX9_keepStandard 60 = .ok (.iastore, 1) := by decide +kernel
theorem dX9_keepStandard_61 : decode cX9_keepStandard 61 = .ok (.aload_n 0, 1) := by decide +kernel
theorem dX9_keepStandard_62 : decode cX9_keepStandard 62 = .ok (.getfield 7, 3) := by decide +kernel
theorem dX9_keepStandard_65 : decode cX9_keepStandard 65 = .ok (.bipush 17, 2) := by decide +kernel
theorem dX9_keepStandard_67 : decode cX9_keepStandard 67 = .ok (.iconst 2, 1) := by decide +kernel
theorem dX9_keepStandard_68 : decode cX9_keepStandard 68 = .ok (.aload_n 0, 1) := by decide +kernel
theorem dX9_keepStandard_69 : decode cX9_keepStandard 69 = .ok (.getfield 7, 3) := by decide +kernel
theorem dX9_keepStandard_72 : decode cX9_keepStandard 72 = .ok (.bipush 16, 2) := by decide +kernel
theorem dX9_keepStandard_74 : decode cX9_keepStandard 74 = .ok (.iaload, 1) := by decide +kernel
theorem dX9_keepStandard_75 : decode cX9_keepStandard 75 = .ok (.imul, 1) := by decide +kernel
theorem dX9_keepStandard_76 : decode cX9_keepStandard 76 = .ok (.iadd, 1) := by decide +kernel
theorem dX9_keepStandard_77 : decode cX9_keepStandard 77 = .ok (.iconst 1, 1) := by decide +kernel
theorem dX9_keepStandard_78 : decode cX9_keepStandard 78 = .ok (.iadd, 1) := by decide +kernel
theorem dX9_keepStandard_79 : decode cX9_keepStandard 79 = .ok (.iload_n 2, 1) := by decide +kernel
theorem dX9_keepStandard_80 : decode cX9_keepStandard 80 = .ok (.iastore, 1) := by decide +kernel
theorem dX9_keepStandard_81 : decode cX9_keepStandard 81 = .ok (.aload_n 0, 1) := by decide +kernel
theorem dX9_keepStandard_82 : decode cX9_keepStandard 82 = .ok (.getfield 7, 3) := by decide +kernel
theorem dX9_keepStandard_85 : decode cX9_keepStandard 85 = .ok (.bipush 16, 2) := by decide +kernel
theorem dX9_keepStandard_87 : decode cX9_keepStandard 87 = .ok (.dup2, 1) := by decide +kernel
theorem dX9_keepStandard_88 : decode cX9_keepStandard 88 = .ok (.iaload, 1) := by decide +kernel
theorem dX9_keepStandard_89 : decode cX9_keepStandard 89 = .ok (.iconst 1, 1) := by decide +kernel
theorem dX9_keepStandard_90 : decode cX9_keepStandard 90 = .ok (.iadd, 1) := by decide +kernel
theorem dX9_keepStandard_91 : decode cX9_keepStandard 91 = .ok (.iastore, 1) := by decide +kernel
theorem dX9_keepStandard_92 : decode cX9_keepStandard 92 = .ok (.aload_n 0, 1) := by decide +kernel
theorem dX9_keepStandard_93 : decode cX9_keepStandard 93 = .ok (.getfield 7, 3) := by decide +kernel
theorem dX9_keepStandard_96 : decode cX9_keepStandard 96 = .ok (.bipush 16, 2) := by decide +kernel
theorem dX9_keepStandard_98 : decode cX9_keepStandard 98 = .ok (.iaload, 1) := by decide +kernel
theorem dX9_keepStandard_99 : decode cX9_keepStandard 99 = .ok (.iconst 1, 1) := by decide +kernel
theorem dX9_keepStandard_100 : decode cX9_keepStandard 100 = .ok (.isub, 1) := by decide +kernel
theorem dX9_keepStandard_101 : decode cX9_keepStandard 101 = .ok (.ireturn, 1) := by decide +kernel
set_option maxRecDepth 20000 in
theorem ggX9_dropStandard_X9_in : GoodIn wsX9_dropStandard wsX9_in := goodIn_r _ [5] (by decide +kernel) (by decide +kernel)
set_option maxRecDepth 20000 in
theorem gX9_dropStandard_X9_in : GoodIn wsX9_dropStandard (va_wsS RX9 57 yX9_in wsX9_in) := goodIn_app (goodIn_of _ (by decide +kernel)) ggX9_dropStandard_X9_in
set_option maxRecDepth 20000 in
theorem ggX9_dropStandard_X9_record : GoodIn wsX9_dropStandard wsX9_record := goodIn_r _ [9, 10, 11, 1, 12, 13, 14, 15, 16, 17, 18, 19, 20, 21, 22] (by decide +kernel) (by decide +kernel)
set_option maxRecDepth 20000 in
theorem gX9_dropStandard_X9_record : GoodIn wsX9_dropStandard (wsV RX9 61 RX9 yX9_record wsX9_record) := goodIn_app (goodIn_of _ (by decide +kernel)) ggX9_dropStandard_X9_record
theorem dX9_dropStandard_0 : decode cX9_dropStandard 0 = .ok (.iload_n 1, 1) := by decide +kernel
theorem dX9_dropStandard_1 : decode cX9_dropStandard 1 = .ok (.iconst 0, 1) := by decide +kernel
theorem dX9_dropStandard_2 : decode cX9_dropStandard 2 = .ok (.aload_n 0, 1) := by decide +kernel
theorem dX9_dropStandard_3 : decode cX9_dropStandard 3 = .ok (.getfield 7, 3) := by decide +kernel
theorem dX9_dropStandard_6 : decode cX9_dropStandard 6 = .ok (.bipush 16, 2) := by decide +kernel
theorem dX9_dropStandard_8 : decode cX9_dropStandard 8 = .ok (.iaload, 1) := by decide +kernel
theorem dX9_dropStandard_9 : decode cX9_dropStandard 9 = .ok (.iconst 1, 1) := by decide +kernel
theorem dX9_dropStandard_10 : decode cX9_dropStandard 10 = .ok (.isub, 1) := by decide +kernel
theorem dX9_dropStandard_11 : decode cX9_dropStandard 11 = .ok (.invokestatic 57, 3) := by decide +kernel
theorem dX9_dropStandard_14 : decode cX9_dropStandard 14 = .ok (.ifCond .ne 5, 3) := by decide +kernel
theorem dX9_dropStandard_17 : decode cX9_dropStandard 17 = .ok (.iconst (-1), 1) := by decide +kernel
theorem dX9_dropStandard_18 : decode cX9_dropStandard 18 = .ok (.ireturn, 1) := by decide +kernel
theorem dX9_dropStandard_19 : decode cX9_dropStandard 19 = .ok (.aload_n 0, 1) := by decide +kernel
theorem dX9_dropStandard_20 : decode cX9_dropStandard 20 = .ok (.invokevirtual 61, 3) := by decide +kernel
theorem dX9_dropStandard_23 : decode cX9_dropStandard 23 = .ok (.aload_n 0, 1) := by decide +kernel
theorem dX9_dropStandard_24 : decode cX9_dropStandard 24 = .ok (.getfield 7, 3) := by decide +kernel
theorem dX9_dropStandard_27 : decode cX9_dropStandard 27 = .ok (.bipush 16, 2) := by decide +kernel
theorem dX9_dropStandard_29 : decode cX9_dropStandard 29 = .ok (.dup2, 1) := by decide +kernel
theorem dX9_dropStandard_30 : decode cX9_dropStandard 30 = .ok (.iaload, 1) := by decide +kernel
theorem dX9_dropStandard_31 : decode cX9_dropStandard 31 = .ok (.iconst 1, 1) := by decide +kernel
theorem dX9_dropStandard_32 : decode cX9_dropStandard 32 = .ok (.isub, 1) := by decide +kernel
theorem dX9_dropStandard_33 : decode cX9_dropStandard 33 = .ok (.iastore, 1) := by decide +kernel
theorem dX9_dropStandard_34 : decode cX9_dropStandard 34 = .ok (.iconst 2, 1) := by decide +kernel
theorem dX9_dropStandard_35 : decode cX9_dropStandard 35 = .ok (.iload_n 1, 1) := by decide +kernel
theorem dX9_dropStandard_36 : decode cX9_dropStandard 36 = .ok (.imul, 1) := by decide +kernel
theorem dX9_dropStandard_37 : decode cX9_dropStandard 37 = .ok (.istore_n 2, 1) := by decide +kernel
theorem dX9_dropStandard_38 : decode cX9_dropStandard 38 = .ok (.iload_n 2, 1) := by decide +kernel
theorem dX9_dropStandard_39 : decode cX9_dropStandard 39 = .ok (.iconst 2, 1) := by decide +kernel
theorem dX9_dropStandard_40 : decode cX9_dropStandard 40 = .ok (.aload_n 0, 1) := by decide +kernel
theorem dX9_dropStandard_41 : decode cX9_dropStandard 41 = .ok (.getfield 7, 3) := by decide +kernel
theorem dX9_dropStandard_44 : decode cX9_dropStandard 44 = .ok (.bipush 16, 2) := by decide +kernel
theorem dX9_dropStandard_46 : decode cX9_dropStandard 46 = .ok (.iaload, 1) := by decide +kernel
theorem dX9_dropStandard_47 : decode cX9_dropStandard 47 = .ok (.imul, 1) := by decide +kernel
theorem dX9_dropStandard_48 : decode cX9_dropStandard 48 = .ok (.if_icmp .ge 29, 3) := by decide +kernel
theorem dX9_dropStandard_51 : decode cX9_dropStandard 51 = .ok (.aload_n 0, 1) := by decide +kernel
theorem dX9_dropStandard_52 : decode cX9_dropStandard 52 = .ok (.getfield 7, 3) := by decide +kernel
theorem dX9_dropStandard_55 : decode cX9_dropStandard 55 = .ok (.bipush 17, 2) := by decide +kernel
theorem dX9_dropStandard_57 : decode cX9_dropStandard 57 = .ok (.iload_n 2, 1) := by decide +kernel
theorem dX9_dropStandard_58 : decode cX9_dropStandard 58 = .ok (.iadd, 1) := by decide +kernel
theorem dX9_dropStandard_59 : decode cX9_dropStandard 59 = .ok (.aload_n 0, 1) := by decide +kernel
theorem dX9_dropStandard_60 : decode cX9_dropStandard 60 = .ok (.getfield 7, 3) := by decide +kernel
theorem dX9_dropStandard_63 : decode cX9_dropStandard 63 = .ok (.bipush 17, 2) := by decide +kernel
theorem dX9_dropStandard_65 : decode cX9_dropStandard 65 = .ok (.iload_n 2, 1) := by decide +kernel
theorem dX9_dropStandard_66 : decode cX9_dropStandard 66 = .ok (.iadd, 1) := by decide +kernel
theorem dX9_dropStandard_67 : decode cX9_dropStandard 67 = .ok (.iconst 2, 1) := by decide +kernel
theorem dX9_dropStandard_68 : decode cX9_dropStandard 68 = .ok (.iadd, 1) := by decide +kernel
theorem dX9_dropStandard_69 : decode cX9_dropStandard 69 = .ok (.iaload, 1) := by decide +kernel
theorem dX9_dropStandard_70 : decode cX9_dropStandard 70 = .ok (.iastore, 1) := by decide +kernel
theorem dX9_dropStandard_71 : decode cX9_dropStandard 71 = .ok (.iinc 2 1, 3) := by decide +kernel
theorem dX9_dropStandard_74 : decode cX9_dropStandard 74 = .ok (.goto (-36), 3) := by decide +kernel
theorem dX9_dropStandard_77 : decode cX9_dropStandard 77 = .ok (.aload_n 0, 1) := by decide +kernel
theorem dX9_dropStandard_78 : decode cX9_dropStandard 78 = .ok (.getfield 7, 3) := by decide +kernel
theorem dX9_dropStandard_81 : decode cX9_dropStandard 81 = .ok (.bipush 16, 2) := by decide +kernel
theorem dX9_dropStandard_83 : decode cX9_dropStandard 83 = .ok (.iaload, 1) := by decide +kernel
theorem dX9_dropStandard_84 : decode cX9_dropStandard 84 = .ok (.ireturn, 1) := by decide +kernel
