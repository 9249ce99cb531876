set_option maxRecDepth 20000 in
theorem ggX9_isMet_X9_mean : GoodIn wsX9_isMet wsX9_mean := goodIn_r _ [6, 1, 7, 8, 9, 5, 10, 11, 12, 13, 14, 15, 16, 17, 21, 22, 23, 24, 25, 26, 27, 28, 29, 30, 31] (by decide +kernel) (by decide +kernel)
set_option maxRecDepth 20000 in
theorem gX9_isMet_X9_mean : GoodIn wsX9_isMet (wsV RX9 131 RX9 yX9_mean wsX9_mean) := goodIn_app (goodIn_of _ (by decide +kernel)) ggX9_isMet_X9_mean
set_option maxRecDepth 20000 in
theorem ggX9_isMet_X9_many : GoodIn wsX9_isMet wsX9_many := goodIn_r _ [17, 1, 7, 8, 9, 5, 10, 11, 12, 13, 21, 22, 23, 24, 25, 26, 27, 28, 29, 30, 31] (by decide +kernel) (by decide +kernel)
set_option maxRecDepth 20000 in
theorem gX9_isMet_X9_many : GoodIn wsX9_isMet (wsV RX9 128 RX9 yX9_many wsX9_many) := goodIn_app (goodIn_of _ (by decide +kernel)) ggX9_isMet_X9_many
set_option maxRecDepth 20000 in
theorem ggX9_isMet_X9_in : GoodIn wsX9_isMet wsX9_in := goodIn_r _ [20] (by decide +kernel) (by decide +kernel)
set_option maxRecDepth 20000 in
theorem gX9_isMet_X9_in : GoodIn wsX9_isMet (va_wsS RX9 57 yX9_in wsX9_in) := goodIn_app (goodIn_of _ (by decide +kernel)) ggX9_isMet_X9_in
theorem dX9_isMet_0 : decode cX9_isMet 0 = .ok (.aload_n 0, 1) := by decide +kernel
theorem dX9_isMet_1 : decode cX9_isMet 1 = .ok (.invokevirtual 131, 3) := by decide +kernel
theorem dX9_isMet_4 : decode cX9_isMet 4 = .ok (.aload_n 0, 1) := by decide +kernel
theorem dX9_isMet_5 : decode cX9_isMet 5 = .ok (.getfield 7, 3) := by decide +kernel
theorem dX9_isMet_8 : decode cX9_isMet 8 = .ok (.bipush 17, 2) := by decide +kernel
theorem dX9_isMet_10 : decode cX9_isMet 10 = .ok (.iconst 2, 1) := by decide +kernel
theorem dX9_isMet_11 : decode cX9_isMet 11 = .ok (.iload_n 1, 1) := by decide +kernel
theorem dX9_isMet_12 : decode cX9_isMet 12 = .ok (.imul, 1) := by decide +kernel
theorem dX9_isMet_13 : decode cX9_isMet 13 = .ok (.iadd, 1) := by decide +kernel
theorem dX9_isMet_14 : decode cX9_isMet 14 = .ok (.iaload, 1) := by decide +kernel
theorem dX9_isMet_15 : decode cX9_isMet 15 = .ok (.isub, 1) := by decide +kernel
theorem dX9_isMet_16 : decode cX9_isMet 16 = .ok (.istore_n 2, 1) := by decide +kernel
theorem dX9_isMet_17 : decode cX9_isMet 17 = .ok (.aload_n 0, 1) := by decide +kernel
theorem dX9_isMet_18 : decode cX9_isMet 18 = .ok (.invokevirtual 128, 3) := by decide +kernel
theorem dX9_isMet_21 : decode cX9_isMet 21 = .ok (.iconst 3, 1) := by decide +kernel
theorem dX9_isMet_22 : decode cX9_isMet 22 = .ok (.if_icmp .lt 41, 3) := by decide +kernel
theorem dX9_isMet_25 : decode cX9_isMet 25 = .ok (.iload_n 2, 1) := by decide +kernel
theorem dX9_isMet_26 : decode cX9_isMet 26 = .ok (.aload_n 0, 1) := by decide +kernel
theorem dX9_isMet_27 : decode cX9_isMet 27 = .ok (.getfield 7, 3) := by decide +kernel
theorem dX9_isMet_30 : decode cX9_isMet 30 = .ok (.bipush 17, 2) := by decide +kernel
theorem dX9_isMet_32 : decode cX9_isMet 32 = .ok (.iconst 2, 1) := by decide +kernel
theorem dX9_isMet_33 : decode cX9_isMet 33 = .ok (.iload_n 1, 1) := by decide +kernel
theorem dX9_isMet_34 : decode cX9_isMet 34 = .ok (.imul, 1) := by decide +kernel
theorem dX9_isMet_35 : decode cX9_isMet 35 = .ok (.iadd, 1) := by decide +kernel
theorem dX9_isMet_36 : decode cX9_isMet 36 = .ok (.iconst 1, 1) := by decide +kernel
theorem dX9_isMet_37 : decode cX9_isMet 37 = .ok (.iadd, 1) := by decide +kernel
theorem dX9_isMet_38 : decode cX9_isMet 38 = .ok (.iaload, 1) := by decide +kernel
theorem dX9_isMet_39 : decode cX9_isMet 39 = .ok (.ineg, 1) := by decide +kernel
theorem dX9_isMet_40 : decode cX9_isMet 40 = .ok (.aload_n 0, 1) := by decide +kernel
theorem dX9_isMet_41 : decode cX9_isMet 41 = .ok (.getfield 7, 3) := by decide +kernel
theorem dX9_isMet_44 : decode cX9_isMet 44 = .ok (.bipush 17, 2) := by decide +kernel
theorem dX9_isMet_46 : decode cX9_isMet 46 = .ok (.iconst 2, 1) := by decide +kernel
theorem dX9_isMet_47 : decode cX9_isMet 47 = .ok (.iload_n 1, 1) := by decide +kernel
theorem dX9_isMet_48 : decode cX9_isMet 48 = .ok (.imul, 1) := by decide +kernel
theorem dX9_isMet_49 : decode cX9_isMet 49 = .ok (.iadd, 1) := by decide +kernel
theorem dX9_isMet_50 : decode cX9_isMet 50 = .ok (.iconst 1, 1) := by decide +kernel
theorem dX9_isMet_51 : decode cX9_isMet 51 = .ok (.iadd, 1) := by decide +kernel
theorem dX9_isMet_52 : decode cX9_isMet 52 = .ok (.iaload, 1) := by decide +kernel
theorem dX9_isMet_53 : decode cX9_isMet 53 = .ok (.invokestatic 57, 3) := by decide +kernel
theorem dX9_isMet_56 : decode cX9_isMet 56 = .ok (.ifCond .eq 7, 3) := by decide +kernel
theorem dX9_isMet_59 : decode cX9_isMet 59 = .ok (.iconst 1, 1) := by decide +kernel
theorem dX9_isMet_60 : decode cX9_isMet 60 = .ok (.goto 4, 3) := by decide +kernel
theorem dX9_isMet_63 : decode cX9_isMet 63 = .ok (.iconst 0, 1) := by decide +kernel
theorem dX9_isMet_64 : decode cX9_isMet 64 = .ok (.ireturn, 1) := by decide +kernel
theorem dX9_type_0 : decode cX9_type 0 = .ok (.aload_n 0, 1) := by decide +kernel
theorem dX9_type_1 : decode cX9_type 1 = .ok (.getfield 79, 3) := by decide +kernel
theorem dX9_type_4 : decode cX9_type 4 = .ok (.bipush 60, 2) := by decide +kernel
theorem dX9_type_6 : decode cX9_type 6 = .ok (.if_icmp .ne 6, 3) := by decide +kernel
theorem dX9_type_9 : decode cX9_type 9 = .ok (.bipush (-3), 2) := by decide +kernel
theorem dX9_type_11 : decode cX9_type 11 = .ok (.ireturn, 1) := by decide +kernel
theorem dX9_type_12 : decode cX9_type 12 = .ok (.aload_n 0, 1) := by decide +kernel
theorem dX9_type_13 : decode cX9_type 13 = .ok (.getfield 22, 3) := by decide +kernel
theorem dX9_type_16 : decode cX9_type 16 = .ok (.aload_n 0, 1) := by decide +kernel
theorem dX9_type_17 : decode cX9_type 17 = .ok (.getfield 79, 3) := by decide +kernel
theorem dX9_type_20 : decode cX9_type 20 = .ok (.iload_n 1, 1) := by decide +kernel
theorem dX9_type_21 : decode cX9_type 21 = .ok (.castore, 1) := by decide +kernel
theorem dX9_type_22 : decode cX9_type 22 = .ok (.aload_n 0, 1) := by decide +kernel
theorem dX9_type_23 : decode cX9_type 23 = .ok (.dup, 1) := by decide +kernel
theorem dX9_type_24 : decode cX9_type 24 = .ok (.getfield 79, 3) := by decide +kernel
theorem dX9_type_27 : decode cX9_type 27 = .ok (.iconst 1, 1) := by decide +kernel
theorem dX9_type_28 : decode cX9_type 28 = .ok (.iadd, 1) := by decide +kernel
theorem dX9_type_29 : decode cX9_type 29 = .ok (.putfield 79, 3) := by decide +kernel
theorem dX9_type_32 : decode cX9_type 32 = .ok (.aload_n 0, 1) := by decide +kernel
theorem dX9_type_33 : decode cX9_type 33 = .ok (.getfield 79, 3) := by decide +kernel
theorem dX9_type_36 : decode cX9_type 36 = .ok (.ireturn, 1) := by decide +kernel
theorem dX9_clearText_0 : decode cX9_clearText 0 = .ok (.aload_n 0, 1) := by decide +kernel
theorem dX9_clearText_1 : decode cX9_clearText 1 = .ok (.getfield 79, 3) := by decide +kernel
theorem dX9_clearText_4 : decode cX9_clearText 4 = .ok (.istore_n 1, 1) := by decide +kernel
theorem dX9_clearText_5 : decode cX9_clearText 5 = .ok (.aload_n 0, 1) := by decide +kernel
theorem dX9_clearText_6 : decode cX9_clearText 6 = .ok (.iconst 0, 1) := by decide +kernel
theorem dX9_clearText_7 : decode cX9_clearText 7 = .ok (.putfield 79, 3) := by decide +kernel
theorem dX9_clearText_10 : decode cX9_clearText 10 = .ok (.iload_n 1, 1) := by decide +kernel
theorem dX9_clearText_11 : decode cX9_clearText 11 = .ok (.ireturn, 1) := by decide +kernel
theorem dX9_undo_0 : decode cX9_undo 0 = .ok (.aload_n 0, 1) := by decide +kernel
theorem dX9_undo_1 : decode cX9_undo 1 = .ok (.getfield 26, 3) := by decide +kernel
theorem dX9_undo_4 : decode cX9_undo 4 = .ok (.ifCond .ne 6, 3) := by decide +kernel
theorem dX9_undo_7 : decode cX9_undo 7 = .ok (.bipush (-5), 2) := by decide +kernel
theorem dX9_undo_9 : decode cX9_undo 9 = .ok (.ireturn, 1) := by decide +kernel
theorem dX9_undo_10 : decode cX9_undo 10 = .ok (.aload_n 0, 1) := by decide +kernel
theorem dX9_undo_11 : decode cX9_undo 11 = .ok (.dup, 1) := by decide +kernel
theorem dX9_undo_12 : decode cX9_undo 12 = .ok (.getfield 26, 3) := by decide +kernel
theorem dX9_undo_15 : decode cX9_undo 15 = .ok (.iconst 1, 1) := by decide +kernel
theorem dX9_undo_16 : decode cX9_undo 16 = .ok (.isub, 1) := by decide +kernel
theorem dX9_undo_17 : decode cX9_undo 17 = .ok (.putfield 26, 3) := by decide +kernel
theorem dX9_undo_20 : decode cX9_undo 20 = .ok (.iconst 0, 1) := by decide +kernel
theorem dX9_undo_21 : decode cX9_undo 21 = .ok (.istore_n 1, 1) := by decide +kernel
theorem dX9_undo_22 : decode cX9_undo 22 = .ok (.iload_n 1, 1) := by decide +kernel
theorem dX9_undo_23 : decode cX9_undo 23 = .ok (.sipush 489, 3) := by decide +kernel
theorem dX9_undo_26 : decode cX9_undo 26 = .ok (.if_icmp .ge 30, 3) := by decide +kernel
theorem dX9_undo_29 : decode cX9_undo 29 = .ok (.aload_n 0, 1) := by decide +kernel
theorem dX9_undo_30 : decode cX9_undo 30 = .ok (.getfield 7, 3) := by decide +kernel
theorem dX9_undo_33 : decode cX9_undo 33 = .ok (.iload_n 1, 1) := by decide +kernel
theorem dX9_undo_34 : decode cX9_undo 34 = .ok (.aload_n 0, 1) := by decide +kernel
theorem dX9_undo_35 : decode cX9_undo 35 = .ok (.getfield 13, 3) := by decide +kernel
theorem dX9_undo_38 : decode cX9_undo 38 = .ok (.sipush 489, 3) := by decide +kernel
theorem dX9_undo_41 : decode cX9_undo 41 = .ok (.aload_n 0, 1) := by decide +kernel
theorem dX9_undo_42 : decode cX9_undo 42 = .ok (.getfield 26, 3) := by decide +kernel
theorem dX9_undo_45 : decode cX9_undo 45 = .ok (.imul, 1) := by decide +kernel
theorem dX9_undo_46 : decode cX9_undo 46 = .ok (.iload_n 1, 1) := by decide +kernel
theorem dX9_undo_47 : decode cX9_undo 47 = .ok (.iadd, 1) := by decide +kernel
theorem dX9_undo_48 : decode cX9_undo 48 = .ok (.iaload, 1) := by decide +kernel
theorem dX9_undo_49 : decode cX9_undo 49 = .ok (.iastore, 1) := by decide +kernel
theorem dX9_undo_50 : decode cX9_undo 50 = .ok (.iinc 1 1, 3) := by decide +kernel
theorem dX9_undo_53 : decode cX9_undo 53 = .ok (.goto (-31), 3) := by decide +kernel
theorem dX9_undo_56 : decode cX9_undo 56 = .ok (.aload_n 0, 1) := by decide +kernel
theorem dX9_undo_57 : decode cX9_undo 57 = .ok (.getfield 26, 3) := by decide +kernel
theorem dX9_undo_60 : decode cX9_undo 60 = .ok (.ireturn, 1) := by decide +kernel
theorem dX9_keep_0 : decode cX9_keep 0 = .ok (.iconst 0, 1) := by decide +kernel
theorem dX9_keep_1 : decode cX9_keep 1 = .ok (.istore_n 1, 1) := by decide +kernel
theorem dX9_keep_2 : decode cX9_keep 2 = .ok (.iload_n 1, 1) := by decide +kernel
theorem dX9_keep_3 : decode cX9_keep 3 = .ok (.sipush 489, 3) := by decide +kernel
theorem dX9_keep_6 : decode cX9_keep 6 = .ok (.if_icmp .ge 21, 3) := by decide +kernel
theorem dX9_keep_9 : decode cX9_keep 9 = .ok (.aload_n 0, 1) := by decide +kernel
theorem dX9_keep_10 : decode cX9_keep 10 = .ok (.getfield 16, 3) := by decide +kernel
theorem dX9_keep_13 : decode cX9_keep 13 = .ok (.iload_n 1, 1) := by decide +kernel
theorem dX9_keep_14 : decode cX9_keep 14 = .ok (.aload_n 0, 1) := by decide +kernel
theorem dX9_keep_15 : decode cX9_keep 15 = .ok (.getfield 7, 3) := by decide +kernel
theorem dX9_keep_18 : decode cX9_keep 18 = .ok (.iload_n 1, 1) := by decide +kernel
theorem dX9_keep_19 : decode cX9_keep 19 = .ok (.iaload, 1) := by decide +kernel
theorem dX9_keep_20 : decode cX9_keep 20 = .ok (.iastore, 1) := by decide +kernel
theorem dX9_keep_21 : decode cX9_keep 21 = .ok (.iinc 1 1, 3) := by decide +kernel
theorem dX9_keep_24 : decode cX9_keep 24 = .ok (.goto (-22), 3) := by decide +kernel
theorem dX9_keep_27 : decode cX9_keep 27 = .ok (.aload_n 0, 1) := by decide +kernel
theorem dX9_keep_28 : decode cX9_keep 28 = .ok (.iconst 1, 1) := by decide +kernel
theorem dX9_keep_29 : decode cX9_keep 29 = .ok (.putfield 143, 3) := by decide +kernel
theorem dX9_keep_32 : decode cX9_keep 32 = .ok (.aload_n 0, 1) := by decide +kernel
theorem dX9_keep_33 : decode cX9_keep 33 = .ok (.getfield 7, 3) := by decide +kernel
theorem dX9_keep_36 : decode cX9_keep 36 = .ok (.bipush 68, 2) := by decide +kernel
theorem dX9_keep_38 : decode cX9_keep 38 = .ok (.iaload, 1) := by decide +kernel
theorem dX9_keep_39 : decode cX9_keep 39 = .ok (.ireturn, 1) := by decide +kernel
set_option maxRecDepth 20000 in
theorem ggX9_restore_X9_record : GoodIn wsX9_restore wsX9_record := goodIn_r _ [8, 9, 10, 2, 11, 12, 13, 14, 15, 16, 17, 18, 19, 20, 21] (by decide +kernel) (by decide +kernel)
set_option maxRecDepth 20000 in
theorem gX9_restore_X9_record : GoodIn wsX9_restore (wsV RX9 61 RX9 yX9_record wsX9_record) := goodIn_app (goodIn_of _ (by decide +kernel)) ggX9_restore_X9_record
theorem dX9_restore_0 : decode cX9_restore 0 = .ok (.aload_n 0, 1) := by decide +kernel
theorem dX9_restore_1 : decode cX9_restore 1 = .ok (.getfield 143, 3) := by decide +kernel
theorem dX9_restore_4 : decode cX9_restore 4 = .ok (.ifCond .ne 6, 3) := by decide +kernel
theorem dX9_restore_7 : decode cX9_restore 7 = .ok (.bipush (-5), 2) := by decide +kernel
theorem dX9_restore_9 : decode cX9_restore 9 = .ok (.ireturn, 1) := by decide +kernel
theorem dX9_restore_10 : decode cX9_restore 10 = .ok (.aload_n 0, 1) := by decide +kernel
theorem dX9_restore_11 : decode cX9_restore 11 = .ok (.invokevirtual 61, 3) := by decide +kernel
theorem dX9_restore_14 : decode cX9_restore 14 = .ok (.iconst 0, 1) := by decide +kernel
theorem dX9_restore_15 : decode cX9_restore 15 = .ok (.istore_n 1, 1) := by decide +kernel
theorem dX9_restore_16 : decode cX9_restore 16 = .ok (.iload_n 1, 1) := by decide +kernel
theorem dX9_restore_17 : decode cX9_restore 17 = .ok (.sipush 489, 3) := by decide +kernel
theorem dX9_restore_20 : decode cX9_restore 20 = .ok (.if_icmp .ge 21, 3) := by decide +kernel
theorem dX9_restore_23 : decode cX9_restore 23 = .ok (.aload_n 0, 1) := by decide +kernel
theorem dX9_restore_24 : decode cX9_restore 24 = .ok (.getfield 7, 3) := by decide +kernel
theorem dX9_restore_27 : decode cX9_restore 27 = .ok (.iload_n 1, 1) := by decide +kernel
theorem dX9_restore_28 : decode cX9_restore 28 = .ok (.aload_n 0, 1) := by decide +kernel
theorem dX9_restore_29 : decode cX9_restore 29 = .ok (.getfield 16, 3) := by decide +kernel
theorem dX9_restore_32 : decode cX9_restore 32 = .ok (.iload_n 1, 1) := by decide +kernel
theorem dX9_restore_33 : decode cX9_restore 33 = .ok (.iaload, 1) := by decide +kernel
theorem dX9_restore_34 : decode cX9_restore 34 = .ok (.iastore, 1) := by decide +kernel
theorem dX9_restore_35 : decode cX9_restore 35 = .ok (.iinc 1 1, 3) := by decide +kernel
theorem dX9_restore_38 : decode cX9_restore 38 = .ok (.goto (-22), 3) := by decide +kernel
theorem dX9_restore_41 : decode cX9_restore 41 = .ok (.aload_n 0, 1) := by decide +kernel
theorem dX9_restore_42 : decode cX9_restore 42 = .ok (.getfield 7, 3) := by decide +kernel
theorem dX9_restore_45 : decode cX9_restore 45 = .ok (.bipush 68, 2) := by decide +kernel
theorem dX9_restore_47 : decode cX9_restore 47 = .ok (.iaload, 1) := by decide +kernel
theorem dX9_restore_48 : decode cX9_restore 48 = .ok (.ireturn, 1) := by decide +kernel
set_option maxRecDepth 20000 in
theorem ggX9_shot_X9_in : GoodIn wsX9_shot wsX9_in := goodIn_r _ [5] (by decide +kernel) (by decide +kernel)
set_option maxRecDepth 20000 in
theorem gX9_shot_X9_in : GoodIn wsX9_shot (va_wsS RX9 57 yX9_in wsX9_in) := goodIn_app (goodIn_of _ (by decide +kernel)) ggX9_shot_X9_in
set_option maxRecDepth 20000 in
theorem ggX9_shot_X9_q : GoodIn wsX9_shot wsX9_q := goodIn_r _ [8] (by decide +kernel) (by decide +kernel)
set_option maxRecDepth 20000 in
theorem gX9_shot_X9_q : GoodIn wsX9_shot (va_wsS RX9 109 yX9_q wsX9_q) := goodIn_app (goodIn_of _ (by decide +kernel)) ggX9_shot_X9_q
set_option maxRecDepth 20000 in
theorem ggX9_shot_X9_isBad : GoodIn wsX9_shot wsX9_isBad := goodIn_r _ [12, 1, 13, 14, 15, 4, 16, 6, 7, 8, 17, 18, 19, 20, 21, 22, 23, 24, 25, 26, 27, 28, 29, 30, 31, 32, 33, 34, 35, 36, 37, 38, 39] (by decide +kernel) (by decide +kernel)
set_option maxRecDepth 20000 in
theorem gX9_shot_X9_isBad : GoodIn wsX9_shot (wsV RX9 137 RX9 yX9_isBad wsX9_isBad) := goodIn_app (goodIn_of _ (by decide +kernel)) ggX9_shot_X9_isBad
theorem dX9_shot_0 : decode cX9_shot 0 = .ok (.iload_n 1, 1) := by decide +kernel
theorem dX9_shot_1 : decode cX9_shot 1 = .ok (.iconst 0, 1) := by decide +kernel
theorem dX9_shot_2 : decode cX9_shot 2 = .ok (.aload_n 0, 1) := by decide +kernel
theorem dX9_shot_3 : decode cX9_shot 3 = .ok (.getfield 7, 3) := by decide +kernel
theorem dX9_shot_6 : decode cX9_shot 6 = .ok (.bipush 68, 2) := by decide +kernel
theorem dX9_shot_8 : decode cX9_shot 8 = .ok (.iaload, 1) := by decide +kernel
theorem dX9_shot_9 : decode cX9_shot 9 = .ok (.iconst 1, 1) := by decide +kernel
theorem dX9_shot_10 : decode cX9_shot 10 = .ok (.isub, 1) := by decide +kernel
theorem dX9_shot_11 : decode cX9_shot 11 = .ok (.invokestatic 57, 3) := by decide +kernel
theorem dX9_shot_14 : decode cX9_shot 14 = .ok (.ifCond .ne 5, 3) := by decide +kernel
theorem dX9_shot_17 : decode cX9_shot 17 = .ok (.iconst (-1), 1) := by decide +kernel
theorem dX9_shot_18 : decode cX9_shot 18 = .ok (.ireturn, 1) := by decide +kernel
theorem dX9_shot_19 : decode cX9_shot 19 = .ok (.iload_n 2, 1) := by decide +kernel
theorem dX9_shot_20 : decode cX9_shot 20 = .ok (.tableswitch 87 0 7 #[48, 48, 48, 48, 48, 48, 60, 74], 48) := by decide +kernel
theorem dX9_shot_68 : decode cX9_shot 68 = .ok (.aload_n 0, 1) := by decide +kernel
theorem dX9_shot_69 : decode cX9_shot 69 = .ok (.getfield 7, 3) := by decide +kernel
theorem dX9_shot_72 : decode cX9_shot 72 = .ok (.iload_n 1, 1) := by decide +kernel
theorem dX9_shot_73 : decode cX9_shot 73 = .ok (.invokestatic 109, 3) := by decide +kernel
theorem dX9_shot_76 : decode cX9_shot 76 = .ok (.iload_n 2, 1) := by decide +kernel
theorem dX9_shot_77 : decode cX9_shot 77 = .ok (.iadd, 1) := by decide +kernel
theorem dX9_shot_78 : decode cX9_shot 78 = .ok (.iaload, 1) := by decide +kernel
theorem dX9_shot_79 : decode cX9_shot 79 = .ok (.ireturn, 1) := by decide +kernel
theorem dX9_shot_80 : decode cX9_shot 80 = .ok (.aload_n 0, 1) := by decide +kernel
theorem dX9_shot_81 : decode cX9_shot 81 = .ok (.iload_n 1, 1) := by decide +kernel
theorem dX9_shot_82 : decode cX9_shot 82 = .ok (.invokevirtual 137, 3) := by decide +kernel
theorem dX9_shot_85 : decode cX9_shot 85 = .ok (.ifCond .eq 7, 3) := by decide +kernel
theorem dX9_shot_88 : decode cX9_shot 88 = .ok (.iconst 1, 1) := by decide +kernel
theorem dX9_shot_89 : decode cX9_shot 89 = .ok (.goto 4, 3) := by decide +kernel
theorem dX9_shot_92 : decode cX9_shot 92 = .ok (.iconst 0, 1) := by decide +kernel
theorem dX9_shot_93 : decode cX9_shot 93 = .ok (.ireturn, 1) := by decide +kernel
theorem dX9_shot_94 : decode cX9_shot 94 = .ok (.aload_n 0, 1) := by decide +kernel
theorem dX9_shot_95 : decode cX9_shot 95 = .ok (.getfield 7, 3) := by decide +kernel
theorem dX9_shot_98 : decode cX9_shot 98 = .ok (.iload_n 1, 1) := by decide +kernel
theorem dX9_shot_99 : decode cX9_shot 99 = .ok (.invokestatic 109, 3) := by decide +kernel
theorem dX9_shot_102 : decode cX9_shot 102 = .ok (.bipush 6, 2) := by decide +kernel
theorem dX9_shot_104 : decode cX9_shot 104 = .ok (.iadd, 1) := by decide +kernel
theorem dX9_shot_105 : decode cX9_shot 105 = .ok (.iaload, 1) := by decide +kernel
theorem dX9_shot_106 : decode cX9_shot 106 = .ok (.ireturn, 1) := by decide +kernel
theorem dX9_shot_107 : decode cX9_shot 107 = .ok (.bipush (-2), 2) := by decide +kernel
theorem dX9_shot_109 : decode cX9_shot 109 = .ok (.ireturn, 1) := by decide +kernel
theorem dX9_waiting_0 : decode cX9_waiting 0 = .ok (.iload_n 1, 1) := by decide +kernel
theorem dX9_waiting_1 : decode cX9_waiting 1 = .ok (.ifCond .ge 6, 3) := by decide +kernel
theorem dX9_waiting_4 : decode cX9_waiting 4 = .ok (.bipush (-2), 2) := by decide +kernel
theorem dX9_waiting_6 : decode cX9_waiting 6 = .ok (.ireturn, 1) := by decide +kernel
theorem dX9_waiting_7 : decode cX9_waiting 7 = .ok (.iload_n 1, 1) := by decide +kernel
theorem dX9_waiting_8 : decode cX9_waiting 8 = .ok (.aload_n 0, 1) := by decide +kernel
theorem dX9_waiting_9 : decode cX9_waiting 9 = .ok (.getfield 7, 3) := by decide +kernel
theorem dX9_waiting_12 : decode cX9_waiting 12 = .ok (.bipush 27, 2) := by decide +kernel
theorem dX9_waiting_14 : decode cX9_waiting 14 = .ok (.iaload, 1) := by decide +kernel
theorem dX9_waiting_15 : decode cX9_waiting 15 = .ok (.if_icmp .ge 27, 3) := by decide +kernel
theorem dX9_waiting_18 : decode cX9_waiting 18 = .ok (.aload_n 0, 1) := by decide +kernel
theorem dX9_waiting_19 : decode cX9_waiting 19 = .ok (.getfield 7, 3) := by decide +kernel
theorem dX9_waiting_22 : decode cX9_waiting 22 = .ok (.bipush 28, 2) := by decide +kernel
theorem dX9_waiting_24 : decode cX9_waiting 24 = .ok (.iconst 2, 1) := by decide +kernel
theorem dX9_waiting_25 : decode cX9_waiting 25 = .ok (.iload_n 1, 1) := by decide +kernel
theorem dX9_waiting_26 : decode cX9_waiting 26 = .ok (.imul, 1) := by decide +kernel
theorem dX9_waiting_27 : decode cX9_waiting 27 = .ok (.iadd, 1) := by decide +kernel
theorem dX9_waiting_28 : decode cX9_waiting 28 = .ok (.iload_n 2, 1) := by decide +kernel
theorem dX9_waiting_29 : decode cX9_waiting 29 = .ok (.ifCond .eq 7, 3) := by decide +kernel
theorem dX9_waiting_32 : decode cX9_waiting 32 = .ok (.iconst 1, 1) := by decide +kernel
theorem dX9_waiting_33 : decode cX9_waiting 33 = .ok (.goto 4, 3) := by decide +kernel
theorem dX9_waiting_36 : decode cX9_waiting 36 = .ok (.iconst 0, 1) := by decide +kernel
theorem dX9_waiting_37 : decode cX9_waiting 37 = .ok (.iadd, 1) := by decide +kernel
theorem dX9_waiting_38 : decode cX9_waiting 38 = .ok (.iaload, 1) := by decide +kernel
theorem dX9_waiting_39 : decode cX9_waiting 39 = .ok (.goto 5, 3) := by decide +kernel
theorem dX9_waiting_42 : decode cX9_waiting 42 = .ok (.bipush (-5), 2) := by decide +kernel
theorem dX9_waiting_44 : decode cX9_waiting 44 = .ok (.ireturn, 1) := by decide +kernel
set_option maxRecDepth 20000 in
theorem ggX9_would_X9_in : GoodIn wsX9_would wsX9_in := goodIn_r _ [4] (by decide +kernel) (by decide +kernel)
set_option maxRecDepth 20000 in
theorem gX9_would_X9_in : GoodIn wsX9_would (va_wsS RX9 57 yX9_in wsX9_in) := goodIn_app (goodIn_of _ (by decide +kernel)) ggX9_would_X9_in
set_option maxRecDepth 20000 in
theorem ggX9_would_X9_reason : GoodIn wsX9_would wsX9_reason := goodIn_r _ [8, 9, 10, 11, 12, 3, 13, 35, 36, 37, 38, 39, 40, 41, 42, 43, 44, 45] (by decide +kernel) (by decide +kernel)
set_option maxRecDepth 20000 in
theorem gX9_would_X9_reason : GoodIn wsX9_would (wsV RX9 112 RX9 yX9_reason wsX9_reason) := goodIn_app (goodIn_of _ (by decide +kernel)) ggX9_would_X9_reason
set_option maxRecDepth 20000 in
theorem ggX9_would_X9_heightBy : GoodIn wsX9_would wsX9_heightBy := goodIn_r _ [17, 18, 19, 20, 21, 22, 23, 3, 24, 9, 25, 26, 27, 28, 35, 36, 37, 38, 39, 40, 41, 42, 43, 44, 45] (by decide +kernel) (by decide +kernel)
set_option maxRecDepth 20000 in
theorem gX9_would_X9_heightBy : GoodIn wsX9_would (wsV RX9 115 RX9 yX9_heightBy wsX9_heightBy) := goodIn_app (goodIn_of _ (by decide +kernel)) ggX9_would_X9_heightBy
set_option maxRecDepth 20000 in
theorem ggX9_would_X9_toldBy : GoodIn wsX9_would wsX9_toldBy := goodIn_r _ [32, 20, 19, 33, 34, 18, 21, 22, 23, 3, 24, 9, 35, 36, 37, 38, 39, 40, 41, 42, 43, 44, 45] (by decide +kernel) (by decide +kernel)
set_option maxRecDepth 20000 in
theorem gX9_would_X9_toldBy : GoodIn wsX9_would (wsV RX9 118 RX9 yX9_toldBy wsX9_toldBy) := goodIn_app (goodIn_of _ (by decide +kernel)) ggX9_would_X9_toldBy
theorem dX9_would_0 : decode cX9_would 0 = .ok (.iload_n 1, 1) := by decide +kernel
theorem dX9_would_1 : decode cX9_would 1 = .ok (.bipush 10, 2) := by decide +kernel
theorem dX9_would_3 : decode cX9_would 3 = .ok (.sipush 2000, 3) := by decide +kernel
theorem dX9_would_6 : decode cX9_would 6 = .ok (.invokestatic 57, 3) := by decide +kernel
theorem dX9_would_9 : decode cX9_would 9 = .ok (.ifCond .eq 24, 3) := by decide +kernel
theorem dX9_would_12 : decode cX9_would 12 = .ok (.iload_n 2, 1) := by decide +kernel
theorem dX9_would_13 : decode cX9_would 13 = .ok (.bipush 50, 2) := by decide +kernel
theorem dX9_would_15 : decode cX9_would 15 = .ok (.sipush 900, 3) := by decide +kernel
theorem dX9_would_18 : decode cX9_would 18 = .ok (.invokestatic 57, 3) := by decide +kernel
theorem dX9_would_21 : decode cX9_would 21 = .ok (.ifCond .eq 12, 3) := by decide +kernel
theorem dX9_would_24 : decode cX9_would 24 = .ok (.iload_n 3, 1) := by decide +kernel
theorem dX9_would_25 : decode cX9_would 25 = .ok (.iconst 2, 1) := by decide +kernel
theorem dX9_would_26 : decode cX9_would 26 = .ok (.iconst 4, 1) := by decide +kernel
theorem dX9_would_27 : decode cX9_would 27 = .ok (.invokestatic 57, 3) := by decide +kernel
theorem dX9_would_30 : decode cX9_would 30 = .ok (.ifCond .ne 6, 3) := by decide +kernel
theorem dX9_would_33 : decode cX9_would 33 = .ok (.bipush (-2), 2) := by decide +kernel
theorem dX9_would_35 : decode cX9_would 35 = .ok (.ireturn, 1) := by decide +kernel
theorem dX9_would_36 : decode cX9_would 36 = .ok (.aload_n 0, 1) := by decide +kernel
theorem dX9_would_37 : decode cX9_would 37 = .ok (.invokevirtual 112, 3) := by decide +kernel
theorem dX9_would_40 : decode cX9_would 40 = .ok (.istore 4, 2) := by decide +kernel
theorem dX9_would_42 : decode cX9_would 42 = .ok (.iload_n 3, 1) := by decide +kernel
theorem dX9_would_43 : decode cX9_would 43 = .ok (.iconst 2, 1) := by decide +kernel
theorem dX9_would_44 : decode cX9_would 44 = .ok (.if_icmp .eq 8, 3) := by decide +kernel
theorem dX9_would_47 : decode cX9_would 47 = .ok (.iload 4, 2) := by decide +kernel
theorem dX9_would_49 : decode cX9_would 49 = .ok (.ifCond .le 15, 3) := by decide +kernel
theorem dX9_would_52 : decode cX9_would 52 = .ok (.iload_n 3, 1) := by decide +kernel
theorem dX9_would_53 : decode cX9_would 53 = .ok (.iconst 2, 1) := by decide +kernel
theorem dX9_would_54 : decode cX9_would 54 = .ok (.if_icmp .ne 8, 3) := by decide +kernel
theorem dX9_would_57 : decode cX9_would 57 = .ok (.iload 4, 2) := by decide +kernel
theorem dX9_would_59 : decode cX9_would 59 = .ok (.goto 4, 3) := by decide +kernel
theorem dX9_would_62 : decode cX9_would 62 = .ok (.iconst 0, 1) := by decide +kernel
theorem dX9_would_63 : decode cX9_would 63 = .ok (.ireturn, 1) := by decide +kernel
theorem dX9_would_64 : decode cX9_would 64 = .ok (.aload_n 0, 1) := by decide +kernel
theorem dX9_would_65 : decode cX9_would 65 = .ok (.iload_n 1, 1) := by decide +kernel
theorem dX9_would_66 : decode cX9_would 66 = .ok (.iload_n 2, 1) := by decide +kernel
theorem dX9_would_67 : decode cX9_would 67 = .ok (.invokevirtual 115, 3) := by decide +kernel
theorem dX9_would_70 : decode cX9_would 70 = .ok (.istore 5, 2) := by decide +kernel
theorem dX9_would_72 : decode cX9_would 72 = .ok (.iload_n 3, 1) := by decide +kernel
theorem dX9_would_73 : decode cX9_would 73 = .ok (.iconst 3, 1) := by decide +kernel
theorem dX9_would_74 : decode cX9_would 74 = .ok (.if_icmp .ne 8, 3) := by decide +kernel
theorem dX9_would_77 : decode cX9_would 77 = .ok (.iload 5, 2) := by decide +kernel
theorem dX9_would_79 : decode cX9_would 79 = .ok (.goto 10, 3) := by decide +kernel
theorem dX9_would_82 : decode cX9_would 82 = .ok (.aload_n 0, 1) := by decide +kernel
theorem dX9_would_83 : decode cX9_would 83 = .ok (.iload 5, 2) := by decide +kernel
theorem dX9_would_85 : decode cX9_would 85 = .ok (.iload_n 1, 1) := by decide +kernel
theorem dX9_would_86 : decode cX9_would 86 = .ok (.invokevirtual 118, 3) := by decide +kernel
theorem dX9_would_89 : decode cX9_would 89 = .ok (.ireturn, 1) := by decide +kernel
set_option maxRecDepth 20000 in
theorem ggX9_lengthOf_X9_in : GoodIn wsX9_lengthOf wsX9_in := goodIn_r _ [5] (by decide +kernel) (by decide +kernel)
set_option maxRecDepth 20000 in
theorem gX9_lengthOf_X9_in : GoodIn wsX9_lengthOf (va_wsS RX9 57 yX9_in wsX9_in) := goodIn_app (goodIn_of _ (by decide +kernel)) ggX9_lengthOf_X9_in
theorem dX9_lengthOf_0 : decode cX9_lengthOf 0 = .ok (.iload_n 1, 1) := by decide +kernel
theorem dX9_lengthOf_1 : decode cX9_lengthOf 1 = .ok (.iconst 0, 1) := by decide +kernel
theorem dX9_lengthOf_2 : decode cX9_lengthOf 2 = .ok (.iconst 3, 1) := by decide +kernel
theorem dX9_lengthOf_3 : decode cX9_lengthOf 3 = .ok (.invokestatic 57, 3) := by decide +kernel
theorem dX9_lengthOf_6 : decode cX9_lengthOf 6 = .ok (.ifCond .eq 15, 3) := by decide +kernel
theorem dX9_lengthOf_9 : decode cX9_lengthOf 9 = .ok (.aload_n 0, 1) := by decide +kernel
theorem dX9_lengthOf_10 : decode cX9_lengthOf 10 = .ok (.getfield 7, 3) := by decide +kernel
theorem dX9_lengthOf_13 : decode cX9_lengthOf 13 = .ok (.bipush 8, 2) := by decide +kernel
theorem dX9_lengthOf_15 : decode cX9_lengthOf 15 = .ok (.iload_n 1, 1) := by decide +kernel
theorem dX9_lengthOf_16 : decode cX9_lengthOf 16 = .ok (.iadd, 1) := by decide +kernel
theorem dX9_lengthOf_17 : decode cX9_lengthOf 17 = .ok (.iaload, 1) := by decide +kernel
theorem dX9_lengthOf_18 : decode cX9_lengthOf 18 = .ok (.goto 4, 3) := by decide +kernel
theorem dX9_lengthOf_21 : decode cX9_lengthOf 21 = .ok (.iconst (-1), 1) := by decide +kernel
theorem dX9_lengthOf_22 : decode cX9_lengthOf 22 = .ok (.ireturn, 1) := by decide +kernel
set_option maxRecDepth 20000 in
theorem ggX9_spread_X9_isIn : GoodIn wsX9_spread wsX9_isIn := goodIn_r _ [6, 1, 7, 8, 5, 9, 10, 11, 12, 13, 14, 15, 16, 17, 18, 19, 20] (by decide +kernel) (by decide +kernel)
set_option maxRecDepth 20000 in
theorem gX9_spread_X9_isIn : GoodIn wsX9_spread (wsV RX9 124 RX9 yX9_isIn wsX9_isIn) := goodIn_app (goodIn_of _ (by decide +kernel)) ggX9_spread_X9_isIn
set_option maxRecDepth 20000 in
theorem ggX9_spread_X9_q : GoodIn wsX9_spread wsX9_q := goodIn_r _ [9] (by decide +kernel) (by decide +kernel)
set_option maxRecDepth 20000 in
theorem gX9_spread_X9_q : GoodIn wsX9_spread (va_wsS RX9 109 yX9_q wsX9_q) := goodIn_app (goodIn_of _ (by decide +kernel)) ggX9_spread_X9_q
theorem dX9_spread_0 : decode cX9_spread 0 = .ok (.iconst (-1), 1) := by decide +kernel
theorem dX9_spread_1 : decode cX9_spread 1 = .ok (.istore_n 1, 1) := by decide +kernel
theorem dX9_spread_2 : decode cX9_spread 2 = .ok (.iconst (-1), 1) := by decide +kernel
theorem dX9_spread_3 : decode cX9_spread 3 = .ok (.istore_n 2, 1) := by decide +kernel
theorem dX9_spread_4 : decode cX9_spread 4 = .ok (.iconst 0, 1) := by decide +kernel
theorem dX9_spread_5 : decode cX9_spread 5 = .ok (.istore_n 3, 1) := by decide +kernel
theorem dX9_spread_6 : decode cX9_spread 6 = .ok (.iload_n 3, 1) := by decide +kernel
theorem dX9_spread_7 : decode cX9_spread 7 = .ok (.aload_n 0, 1) := by decide +kernel
theorem dX9_spread_8 : decode cX9_spread 8 = .ok (.getfield 7, 3) := by decide +kernel
theorem dX9_spread_11 : decode cX9_spread 11 = .ok (.bipush 68, 2) := by decide +kernel
theorem dX9_spread_13 : decode cX9_spread 13 = .ok (.iaload, 1) := by decide +kernel
theorem dX9_spread_14 : decode cX9_spread 14 = .ok (.if_icmp .ge 87, 3) := by decide +kernel
theorem dX9_spread_17 : decode cX9_spread 17 = .ok (.aload_n 0, 1) := by decide +kernel
theorem dX9_spread_18 : decode cX9_spread 18 = .ok (.iload_n 3, 1) := by decide +kernel
theorem dX9_spread_19 : decode cX9_spread 19 = .ok (.invokevirtual 124, 3) := by decide +kernel
theorem dX9_spread_22 : decode cX9_spread 22 = .ok (.ifCond .eq 73, 3) := by decide +kernel
theorem dX9_spread_25 : decode cX9_spread 25 = .ok (.iload_n 1, 1) := by decide +kernel
theorem dX9_spread_26 : decode cX9_spread 26 = .ok (.ifCond .lt 18, 3) := by decide +kernel
theorem dX9_spread_29 : decode cX9_spread 29 = .ok (.aload_n 0, 1) := by decide +kernel
theorem dX9_spread_30 : decode cX9_spread 30 = .ok (.getfield 7, 3) := by decide +kernel
theorem dX9_spread_33 : decode cX9_spread 33 = .ok (.iload_n 3, 1) := by decide +kernel
theorem dX9_spread_34 : decode cX9_spread 34 = .ok (.invokestatic 109, 3) := by decide +kernel
theorem dX9_spread_37 : decode cX9_spread 37 = .ok (.iconst 4, 1) := by decide +kernel
theorem dX9_spread_38 : decode cX9_spread 38 = .ok (.iadd, 1) := by decide +kernel
theorem dX9_spread_39 : decode cX9_spread 39 = .ok (.iaload, 1) := by decide +kernel
theorem dX9_spread_40 : decode cX9_spread 40 = .ok (.iload_n 1, 1) := by decide +kernel
theorem dX9_spread_41 : decode cX9_spread 41 = .ok (.if_icmp .le 17, 3) := by decide +kernel
theorem dX9_spread_44 : decode cX9_spread 44 = .ok (.aload_n 0, 1) := by decide +kernel
theorem dX9_spread_45 : decode cX9_spread 45 = .ok (.getfield 7, 3) := by decide +kernel
theorem dX9_spread_48 : decode cX9_spread 48 = .ok (.iload_n 3, 1) := by decide +kernel
theorem dX9_spread_49 : decode cX9_spread 49 = .ok (.invokestatic 109, 3) := by decide +kernel
theorem dX9_spread_52 : decode cX9_spread 52 = .ok (.iconst 4, 1) := by decide +kernel
theorem dX9_spread_53 : decode cX9_spread 53 = .ok (.iadd, 1) := by decide +kernel
theorem dX9_spread_54 : decode cX9_spread 54 = .ok (.iaload, 1) := by decide +kernel
theorem dX9_spread_55 : decode cX9_spread 55 = .ok (.goto 4, 3) := by decide +kernel
theorem dX9_spread_58 : decode cX9_spread 58 = .ok (.iload_n 1, 1) := by decide +kernel
theorem dX9_spread_59 : decode cX9_spread 59 = .ok (.istore_n 1, 1) := by decide +kernel
theorem dX9_spread_60 : decode cX9_spread 60 = .ok (.iload_n 2, 1) := by decide +kernel
theorem dX9_spread_61 : decode cX9_spread 61 = .ok (.ifCond .lt 18, 3) := by decide +kernel
theorem dX9_spread_64 : decode cX9_spread 64 = .ok (.aload_n 0, 1) := by decide +kernel
theorem dX9_spread_65 : decode cX9_spread 65 = .ok (.getfield 7, 3) := by decide +kernel
theorem dX9_spread_68 : decode cX9_spread 68 = .ok (.iload_n 3, 1) := by decide +kernel
theorem dX9_spread_69 : decode cX9_spread 69 = .ok (.invokestatic 109, 3) := by decide +kernel
theorem dX9_spread_72 : decode cX9_spread 72 = .ok (.iconst 4, 1) := by decide +kernel
theorem dX9_spread_73 : decode cX9_spread 73 = .ok (.iadd, 1) := by decide +kernel
theorem dX9_spread_74 : decode cX9_spread 74 = .ok (.iaload, 1) := by decide +kernel
theorem dX9_spread_75 : decode cX9_spread 75 = .ok (.iload_n 2, 1) := by decide +kernel
theorem dX9_spread_76 : decode cX9_spread 76 = .ok (.if_icmp .ge 17, 3) := by decide +kernel
theorem dX9_spread_79 : decode cX9_spread 79 = .ok (.aload_n 0, 1) := by decide +kernel
theorem dX9_spread_80 : decode cX9_spread 80 = .ok (.getfield 7, 3) := by decide +kernel
theorem dX9_spread_83 : decode cX9_spread 83 = .ok (.iload_n 3, 1) := by decide +kernel
theorem dX9_spread_84 : decode cX9_spread 84 = .ok (.invokestatic 109, 3) := by decide +kernel
theorem dX9_spread_87 : decode cX9_spread 87 = .ok (.iconst 4, 1) := by decide +kernel
theorem dX9_spread_88 : decode cX9_spread 88 = .ok (.iadd, 1) := by decide +kernel
theorem dX9_spread_89 : decode cX9_spread 89 = .ok (.iaload, 1) := by decide +kernel
theorem dX9_spread_90 : decode cX9_spread 90 = .ok (.goto 4, 3) := by decide +kernel
theorem dX9_spread_93 : decode cX9_spread 93 = .ok (.iload_n 2, 1) := by decide +kernel
theorem dX9_spread_94 : decode cX9_spread 94 = .ok (.istore_n 2, 1) := by decide +kernel
theorem dX9_spread_95 : decode cX9_spread 95 = .ok (.iinc 3 1, 3) := by decide +kernel
theorem dX9_spread_98 : decode cX9_spread 98 = .ok (.goto (-92), 3) := by decide +kernel
theorem dX9_spread_101 : decode cX9_spread 101 = .ok (.iload_n 1, 1) := by decide +kernel
theorem dX9_spread_102 : decode cX9_spread 102 = .ok (.iload_n 2, 1) := by decide +kernel
theorem dX9_spread_103 : decode cX9_spread 103 = .ok (.isub, 1) := by decide +kernel
theorem dX9_spread_104 : decode cX9_spread 104 = .ok (.ireturn, 1) := by decide +kernel
set_option maxRecDepth 20000 in
theorem ggX9_badMany_X9_isBad : GoodIn wsX9_badMany wsX9_isBad := goodIn_r _ [6, 1, 7, 8, 9, 5, 10, 11, 12, 13, 14, 15, 16, 17, 18, 19, 20, 21, 22, 23, 24, 25, 26, 27, 28, 29, 30, 31, 32, 33, 34, 35, 36] (by decide +kernel) (by decide +kernel)
set_option maxRecDepth 20000 in
theorem gX9_badMany_X9_isBad : GoodIn wsX9_badMany (wsV RX9 137 RX9 yX9_isBad wsX9_isBad) := goodIn_app (goodIn_of _ (by decide +kernel)) ggX9_badMany_X9_isBad
theorem dX9_badMany_0 : decode cX9_badMany 0 = .ok (.iconst 0, 1) := by decide +kernel
theorem dX9_badMany_1 : decode cX9_badMany 1 = .ok (.istore_n 1, 1) := by decide +kernel
theorem dX9_badMany_2 : decode cX9_badMany 2 = .ok (.iconst 0, 1) := by decide +kernel
theorem dX9_badMany_3 : decode cX9_badMany 3 = .ok (.istore_n 2, 1) := by decide +kernel
theorem dX9_badMany_4 : decode cX9_badMany 4 = .ok (.iload_n 2, 1) := by decide +kernel
theorem dX9_badMany_5 : decode cX9_badMany 5 = .ok (.aload_n 0, 1) := by decide +kernel
theorem dX9_badMany_6 : decode cX9_badMany 6 = .ok (.getfield 7, 3) := by decide +kernel
theorem dX9_badMany_9 : decode cX9_badMany 9 = .ok (.bipush 68, 2) := by decide +kernel
theorem dX9_badMany_11 : decode cX9_badMany 11 = .ok (.iaload, 1) := by decide +kernel
theorem dX9_badMany_12 : decode cX9_badMany 12 = .ok (.if_icmp .ge 25, 3) := by decide +kernel
theorem dX9_badMany_15 : decode cX9_badMany 15 = .ok (.iload_n 1, 1) := by decide +kernel
theorem dX9_badMany_16 : decode cX9_badMany 16 = .ok (.aload_n 0, 1) := by decide +kernel
theorem dX9_badMany_17 : decode cX9_badMany 17 = .ok (.iload_n 2, 1) := by decide +kernel
theorem dX9_badMany_18 : decode cX9_badMany 18 = .ok (.invokevirtual 137, 3) := by decide +kernel
theorem dX9_badMany_21 : decode cX9_badMany 21 = .ok (.ifCond .eq 7, 3) := by decide +kernel
theorem dX9_badMany_24 : decode cX9_badMany 24 = .ok (.iconst 1, 1) := by decide +kernel
theorem dX9_badMany_25 : decode cX9_badMany 25 = .ok (.goto 4, 3) := by decide +kernel
theorem dX9_badMany_28 : decode cX9_badMany 28 = .ok (.iconst 0, 1) := by decide +kernel
theorem dX9_badMany_29 : decode cX9_badMany 29 = .ok (.iadd, 1) := by decide +kernel
theorem dX9_badMany_30 : decode cX9_badMany 30 = .ok (.istore_n 1, 1) := by decide +kernel
theorem dX9_badMany_31 : decode cX9_badMany 31 = .ok (.iinc 2 1, 3) := by decide +kernel
theorem dX9_badMany_34 : decode cX9_badMany 34 = .ok (.goto (-30), 3) := by decide +kernel
theorem dX9_badMany_37 : decode cX9_badMany 37 = .ok (.iload_n 1, 1) := by decide +kernel
theorem dX9_badMany_38 : decode cX9_badMany 38 = .ok (.ireturn, 1) := by decide +kernel
set_option maxRecDepth 20000 in
theorem ggX9_chosen_X9_mean : GoodIn wsX9_chosen wsX9_mean := goodIn_r _ [6, 1, 7, 8, 9, 5, 10, 11, 12, 13, 14, 15, 16, 17, 22, 23, 24, 25, 26, 27, 28, 29, 30, 31, 32] (by decide +kernel) (by decide +kernel)
set_option maxRecDepth 20000 in
theorem gX9_chosen_X9_mean : GoodIn wsX9_chosen (wsV RX9 131 RX9 yX9_mean wsX9_mean) := goodIn_app (goodIn_of _ (by decide +kernel)) ggX9_chosen_X9_mean
set_option maxRecDepth 20000 in
theorem ggX9_chosen_X9_isIn : GoodIn wsX9_chosen wsX9_isIn := goodIn_r _ [10, 1, 11, 12, 5, 13, 22, 23, 24, 25, 26, 27, 28, 29, 30, 31, 32] (by decide +kernel) (by decide +kernel)
set_option maxRecDepth 20000 in
theorem gX9_chosen_X9_isIn : GoodIn wsX9_chosen (wsV RX9 124 RX9 yX9_isIn wsX9_isIn) := goodIn_app (goodIn_of _ (by decide +kernel)) ggX9_chosen_X9_isIn
set_option maxRecDepth 20000 in
theorem ggX9_chosen_X9_off : GoodIn wsX9_chosen wsX9_off := goodIn_r _ [21, 1, 11, 12, 5, 13, 22, 23, 24, 25, 26, 27, 28, 29, 30, 31, 32] (by decide +kernel) (by decide +kernel)
set_option maxRecDepth 20000 in
theorem gX9_chosen_X9_off : GoodIn wsX9_chosen (wsV RX9 134 RX9 yX9_off wsX9_off) := goodIn_app (goodIn_of _ (by decide +kernel)) ggX9_chosen_X9_off
theorem dX9_chosen_0 : decode cX9_chosen 0 = .ok (.aload_n 0, 1) := by decide +kernel
theorem dX9_chosen_1 : decode cX9_chosen 1 = .ok (.invokevirtual 131, 3) := by decide +kernel
theorem dX9_chosen_4 : decode cX9_chosen 4 = .ok (.istore_n 2, 1) := by decide +kernel
theorem dX9_chosen_5 : decode cX9_chosen 5 = .ok (.bipush (-5), 2) := by decide +kernel
theorem dX9_chosen_7 : decode cX9_chosen 7 = .ok (.istore_n 3, 1) := by decide +kernel
theorem dX9_chosen_8 : decode cX9_chosen 8 = .ok (.iconst 0, 1) := by decide +kernel
theorem dX9_chosen_9 : decode cX9_chosen 9 = .ok (.istore 4, 2) := by decide +kernel
theorem dX9_chosen_11 : decode cX9_chosen 11 = .ok (.iload 4, 2) := by decide +kernel
theorem dX9_chosen_13 : decode cX9_chosen 13 = .ok (.aload_n 0, 1) := by decide +kernel
theorem dX9_chosen_14 : decode cX9_chosen 14 = .ok (.getfield 7, 3) := by decide +kernel
theorem dX9_chosen_17 : decode cX9_chosen 17 = .ok (.bipush 68, 2) := by decide +kernel
theorem dX9_chosen_19 : decode cX9_chosen 19 = .ok (.iaload, 1) := by decide +kernel
theorem dX9_chosen_20 : decode cX9_chosen 20 = .ok (.if_icmp .ge 51, 3) := by decide +kernel
theorem dX9_chosen_23 : decode cX9_chosen 23 = .ok (.aload_n 0, 1) := by decide +kernel
theorem dX9_chosen_24 : decode cX9_chosen 24 = .ok (.iload 4, 2) := by decide +kernel
theorem dX9_chosen_26 : decode cX9_chosen 26 = .ok (.invokevirtual 124, 3) := by decide +kernel
theorem dX9_chosen_29 : decode cX9_chosen 29 = .ok (.ifCond .eq 34, 3) := by decide +kernel
theorem dX9_chosen_32 : decode cX9_chosen 32 = .ok (.iload_n 3, 1) := by decide +kernel
theorem dX9_chosen_33 : decode cX9_chosen 33 = .ok (.bipush (-5), 2) := by decide +kernel
theorem dX9_chosen_35 : decode cX9_chosen 35 = .ok (.if_icmp .eq 23, 3) := by decide +kernel
theorem dX9_chosen_38 : decode cX9_chosen 38 = .ok (.iload_n 1, 1) := by decide +kernel
theorem dX9_chosen_39 : decode cX9_chosen 39 = .ok (.ifCond .eq 24, 3) := by decide +kernel
theorem dX9_chosen_42 : decode cX9_chosen 42 = .ok (.aload_n 0, 1) := by decide +kernel
theorem dX9_chosen_43 : decode cX9_chosen 43 = .ok (.iload 4, 2) := by decide +kernel
theorem dX9_chosen_45 : decode cX9_chosen 45 = .ok (.iload_n 2, 1) := by decide +kernel
theorem dX9_chosen_46 : decode cX9_chosen 46 = .ok (.invokevirtual 134, 3) := by decide +kernel
theorem dX9_chosen_49 : decode cX9_chosen 49 = .ok (.aload_n 0, 1) := by decide +kernel
theorem dX9_chosen_50 : decode cX9_chosen 50 = .ok (.iload_n 3, 1) := by decide +kernel
theorem dX9_chosen_51 : decode cX9_chosen 51 = .ok (.iload_n 2, 1) := by decide +kernel
theorem dX9_chosen_52 : decode cX9_chosen 52 = .ok (.invokevirtual 134, 3) := by decide +kernel
theorem dX9_chosen_55 : decode cX9_chosen 55 = .ok (.if_icmp .ge 8, 3) := by decide +kernel
theorem dX9_chosen_58 : decode cX9_chosen 58 = .ok (.iload 4, 2) := by decide +kernel
theorem dX9_chosen_60 : decode cX9_chosen 60 = .ok (.goto 4, 3) := by decide +kernel
theorem dX9_chosen_63 : decode cX9_chosen 63 = .ok (.iload_n 3, 1) := by decide +kernel
theorem dX9_chosen_64 : decode cX9_chosen 64 = .ok (.istore_n 3, 1) := by decide +kernel
theorem dX9_chosen_65 : decode cX9_chosen 65 = .ok (.iinc 4 1, 3) := by decide +kernel
theorem dX9_chosen_68 : decode cX9_chosen 68 = .ok (.goto (-57), 3) := by decide +kernel
theorem dX9_chosen_71 : decode cX9_chosen 71 = .ok (.iload_n 3, 1) := by decide +kernel
theorem dX9_chosen_72 : decode cX9_chosen 72 = .ok (.ireturn, 1) := by decide +kernel
set_option maxRecDepth 20000 in
theorem ggX9_met_X9_isMet : GoodIn wsX9_met wsX9_isMet := goodIn_r _ [6, 1, 7, 8, 9, 5, 10, 11, 12, 13, 14, 15, 16, 17, 18, 19, 20, 21, 22, 23, 24, 25, 26, 27, 28, 29, 30, 31, 32, 33, 34, 35] (by decide +kernel) (by decide +kernel)
set_option maxRecDepth 20000 in
theorem gX9_met_X9_isMet : GoodIn wsX9_met (wsV RX9 147 RX9 yX9_isMet wsX9_isMet) := goodIn_app (goodIn_of _ (by decide +kernel)) ggX9_met_X9_isMet
theorem dX9_met_0 : decode cX9_met 0 = .ok (.iconst 0, 1) := by decide +kernel
theorem dX9_met_1 : decode cX9_met 1 = .ok (.istore_n 1, 1) := by decide +kernel
theorem dX9_met_2 : decode cX9_met 2 = .ok (.iconst 0, 1) := by decide +kernel
theorem dX9_met_3 : decode cX9_met 3 = .ok (.istore_n 2, 1) := by decide +kernel
theorem dX9_met_4 : decode cX9_met 4 = .ok (.iload_n 2, 1) := by decide +kernel
theorem dX9_met_5 : decode cX9_met 5 = .ok (.aload_n 0, 1) := by decide +kernel
theorem dX9_met_6 : decode cX9_met 6 = .ok (.getfield 7, 3) := by decide +kernel
theorem dX9_met_9 : decode cX9_met 9 = .ok (.bipush 16, 2) := by decide +kernel
theorem dX9_met_11 : decode cX9_met 11 = .ok (.iaload, 1) := by decide +kernel
theorem dX9_met_12 : decode cX9_met 12 = .ok (.if_icmp .ge 27, 3) := by decide +kernel
theorem dX9_met_15 : decode cX9_met 15 = .ok (.iload_n 1, 1) := by decide +kernel
theorem dX9_met_16 : decode cX9_met 16 = .ok (.aload_n 0, 1) := by decide +kernel
theorem dX9_met_17 : decode cX9_met 17 = .ok (.iload_n 2, 1) := by decide +kernel
theorem dX9_met_18 : decode cX9_met 18 = .ok (.invokevirtual 147, 3) := by decide +kernel
theorem dX9_met_21 : decode cX9_met 21 = .ok (.ifCond .eq 9, 3) := by decide +kernel
theorem dX9_met_24 : decode cX9_met 24 = .ok (.iconst 1, 1) := by decide +kernel
theorem dX9_met_25 : decode cX9_met 25 = .ok (.iload_n 2, 1) := by decide +kernel
theorem dX9_met_26 : decode cX9_met 26 = .ok (.ishl, 1) := by decide +kernel
theorem dX9_met_27 : decode cX9_met 27 = .ok (.goto 4, 3) := by decide +kernel
theorem dX9_met_30 : decode cX9_met 30 = .ok (.iconst 0, 1) := by decide +kernel
theorem dX9_met_31 : decode cX9_met 31 = .ok (.ior, 1) := by decide +kernel
theorem dX9_met_32 : decode cX9_met 32 = .ok (.istore_n 1, 1) := by decide +kernel
theorem dX9_met_33 : decode cX9_met 33 = .ok (.iinc 2 1, 3) := by decide +kernel
theorem dX9_met_36 : decode cX9_met 36 = .ok (.goto (-32), 3) := by decide +kernel
theorem dX9_met_39 : decode cX9_met 39 = .ok (.iload_n 1, 1) := by decide +kernel
theorem dX9_met_40 : decode cX9_met 40 = .ok (.ireturn, 1) := by decide +kernel
set_option maxRecDepth 20000 in
theorem ggX9_series_X9_many : GoodIn wsX9_series wsX9_many := goodIn_r _ [5, 6, 7, 8, 9, 4, 10, 11, 12, 13, 49, 50, 51, 52, 53, 54, 55, 56, 57, 58, 59] (by decide +kernel) (by decide +kernel)
set_option maxRecDepth 20000 in
theorem gX9_series_X9_many : GoodIn wsX9_series (wsV RX9 128 RX9 yX9_many wsX9_many) := goodIn_app (goodIn_of _ (by decide +kernel)) ggX9_series_X9_many
set_option maxRecDepth 20000 in
theorem ggX9_series_X9_mean : GoodIn wsX9_series wsX9_mean := goodIn_r _ [17, 6, 7, 8, 9, 4, 10, 11, 12, 13, 1, 2, 3, 5, 49, 50, 51, 52, 53, 54, 55, 56, 57, 58, 59] (by decide +kernel) (by decide +kernel)
set_option maxRecDepth 20000 in
theorem gX9_series_X9_mean : GoodIn wsX9_series (wsV RX9 131 RX9 yX9_mean wsX9_mean) := goodIn_app (goodIn_of _ (by decide +kernel)) ggX9_series_X9_mean
set_option maxRecDepth 20000 in
theorem ggX9_series_X9_spread : GoodIn wsX9_series wsX9_spread := goodIn_r _ [21, 6, 7, 8, 9, 4, 10, 11, 12, 13, 49, 50, 51, 52, 53, 54, 55, 56, 57, 58, 59] (by decide +kernel) (by decide +kernel)
set_option maxRecDepth 20000 in
theorem gX9_series_X9_spread : GoodIn wsX9_series (wsV RX9 150 RX9 yX9_spread wsX9_spread) := goodIn_app (goodIn_of _ (by decide +kernel)) ggX9_series_X9_spread
set_option maxRecDepth 20000 in
theorem ggX9_series_X9_badMany : GoodIn wsX9_series wsX9_badMany := goodIn_r _ [25, 6, 26, 27, 28, 4, 29, 7, 8, 9, 10, 11, 12, 13, 14, 15, 16, 17, 1, 2, 3, 5, 30, 31, 32, 33, 49, 50, 51, 52, 53, 54, 55, 56, 57, 58, 59] (by decide +kernel) (by decide +kernel)
set_option maxRecDepth 20000 in
theorem gX9_series_X9_badMany : GoodIn wsX9_series (wsV RX9 153 RX9 yX9_badMany wsX9_badMany) := goodIn_app (goodIn_of _ (by decide +kernel)) ggX9_series_X9_badMany
set_option maxRecDepth 20000 in
theorem ggX9_series_X9_chosen : GoodIn wsX9_series wsX9_chosen := goodIn_r _ [37, 6, 14, 15, 16, 4, 17, 7, 8, 9, 10, 11, 12, 13, 1, 2, 3, 5, 30, 31, 32, 33, 49, 50, 51, 52, 53, 54, 55, 56, 57, 58, 59] (by decide +kernel) (by decide +kernel)
set_option maxRecDepth 20000 in
theorem gX9_series_X9_chosen : GoodIn wsX9_series (wsV RX9 156 RX9 yX9_chosen wsX9_chosen) := goodIn_app (goodIn_of _ (by decide +kernel)) ggX9_series_X9_chosen
set_option maxRecDepth 20000 in
theorem ggX9_series_X9_met : GoodIn wsX9_series wsX9_met := goodIn_r _ [41, 6, 42, 43, 44, 4, 45, 14, 15, 16, 17, 7, 8, 9, 10, 11, 12, 13, 1, 2, 3, 5, 46, 47, 48, 49, 50, 51, 52, 53, 54, 55, 56, 57, 58, 59] (by decide +kernel) (by decide +kernel)
set_option maxRecDepth 20000 in
theorem gX9_series_X9_met : GoodIn wsX9_series (wsV RX9 160 RX9 yX9_met wsX9_met) := goodIn_app (goodIn_of _ (by decide +kernel)) ggX9_series_X9_met
theorem dX9_series_0 : decode cX9_series 0 = .ok (.iload_n 1, 1) := by decide +kernel
theorem dX9_series_1 : decode cX9_series 1 = .ok (.tableswitch 80 0 6 #[43, 48, 53, 58, 63, 69, 75], 43) := by decide +kernel
theorem dX9_series_44 : decode cX9_series 44 = .ok (.aload_n 0, 1) := by decide +kernel
theorem dX9_series_45 : decode cX9_series 45 = .ok (.invokevirtual 128, 3) := by decide +kernel
theorem dX9_series_48 : decode cX9_series 48 = .ok (.ireturn, 1) := by decide +kernel
theorem dX9_series_49 : decode cX9_series 49 = .ok (.aload_n 0, 1) := by decide +kernel
theorem dX9_series_50 : decode cX9_series 50 = .ok (.invokevirtual 131, 3) := by decide +kernel
theorem dX9_series_53 : decode cX9_series 53 = .ok (.ireturn, 1) := by decide +kernel
theorem dX9_series_54 : decode cX9_series 54 = .ok (.aload_n 0, 1) := by decide +kernel
theorem dX9_series_55 : decode cX9_series 55 = .ok (.invokevirtual 150, 3) := by decide +kernel
theorem dX9_series_58 : decode cX9_series 58 = .ok (.ireturn, 1) := by decide +kernel
theorem dX9_series_59 : decode cX9_series 59 = .ok (.aload_n 0, 1) := by decide +kernel
theorem dX9_series_60 : decode cX9_series 60 = .ok (.invokevirtual 153, 3) := by decide +kernel
theorem dX9_series_63 : decode cX9_series 63 = .ok (.ireturn, 1) := by decide +kernel
theorem dX9_series_64 : decode cX9_series 64 = .ok (.aload_n 0, 1) := by decide +kernel
theorem dX9_series_65 : decode cX9_series 65 = .ok (.iconst 0, 1) := by decide +kernel
theorem dX9_series_66 : decode cX9_series 66 = .ok (.invokevirtual 156, 3) := by decide +kernel
theorem dX9_series_69 : decode cX9_series 69 = .ok (.ireturn, 1) := by decide +kernel
theorem dX9_series_70 : decode cX9_series 70 = .ok (.aload_n 0, 1) := by decide +kernel
theorem dX9_series_71 : decode cX9_series 71 = .ok (.iconst 1, 1) := by decide +kernel
theorem dX9_series_72 : decode cX9_series 72 = .ok (.invokevirtual 156, 3) := by decide +kernel
theorem dX9_series_75 : decode cX9_series 75 = .ok (.ireturn, 1) := by decide +kernel
theorem dX9_series_76 : decode cX9_series 76 = .ok (.aload_n 0, 1) := by decide +kernel
theorem dX9_series_77 : decode cX9_series 77 = .ok (.invokevirtual 160, 3) := by decide +kernel
theorem dX9_series_80 : decode cX9_series 80 = .ok (.ireturn, 1) := by decide +kernel
theorem dX9_series_81 : decode cX9_series 81 = .ok (.bipush (-2), 2) := by decide +kernel
theorem dX9_series_83 : decode cX9_series 83 = .ok (.ireturn, 1) := by decide +kernel
set_option maxRecDepth 20000 in
theorem ggX9_standard_X9_in : GoodIn wsX9_standard wsX9_in := goodIn_r _ [5] (by decide +kernel) (by decide +kernel)
set_option maxRecDepth 20000 in
theorem gX9_standard_X9_in : GoodIn wsX9_standard (va_wsS RX9 57 yX9_in wsX9_in) := goodIn_app (goodIn_of _ (by decide +kernel)) ggX9_standard_X9_in
set_option maxRecDepth 20000 in
theorem ggX9_standard_X9_isMet : GoodIn wsX9_standard wsX9_isMet := goodIn_r _ [9, 1, 10, 11, 12, 4, 13, 14, 15, 16, 17, 18, 19, 20, 21, 22, 23, 24, 2, 3, 5, 29, 30, 31, 32, 33, 34, 35, 36, 37, 38, 39] (by decide +kernel) (by decide +kernel)
set_option maxRecDepth 20000 in
theorem gX9_standard_X9_isMet : GoodIn wsX9_standard (wsV RX9 147 RX9 yX9_isMet wsX9_isMet) := goodIn_app (goodIn_of _ (by decide +kernel)) ggX9_standard_X9_isMet
set_option maxRecDepth 20000 in
theorem ggX9_standard_X9_isIn : GoodIn wsX9_standard wsX9_isIn := goodIn_r _ [17, 1, 18, 19, 4, 20, 29, 30, 31, 32, 33, 34, 35, 36, 37, 38, 39] (by decide +kernel) (by decide +kernel)
set_option maxRecDepth 20000 in
theorem gX9_standard_X9_isIn : GoodIn wsX9_standard (wsV RX9 124 RX9 yX9_isIn wsX9_isIn) := goodIn_app (goodIn_of _ (by decide +kernel)) ggX9_standard_X9_isIn
set_option maxRecDepth 20000 in
theorem ggX9_standard_X9_off : GoodIn wsX9_standard wsX9_off := goodIn_r _ [28, 1, 18, 19, 4, 20, 29, 30, 31, 32, 33, 34, 35, 36, 37, 38, 39] (by decide +kernel) (by decide +kernel)
set_option maxRecDepth 20000 in
theorem gX9_standard_X9_off : GoodIn wsX9_standard (wsV RX9 134 RX9 yX9_off wsX9_off) := goodIn_app (goodIn_of _ (by decide +kernel)) ggX9_standard_X9_off
theorem dX9_standard_0 : decode cX9_standard 0 = .ok (.iload_n 1, 1) := by decide +kernel
theorem dX9_standard_1 : decode cX9_standard 1 = .ok (.iconst 0, 1) := by decide +kernel
theorem dX9_standard_2 : decode cX9_standard 2 = .ok (.aload_n 0, 1) := by decide +kernel
theorem dX9_standard_3 : decode cX9_standard 3 = .ok (.getfield 7, 3) := by decide +kernel
theorem dX9_standard_6 : decode cX9_standard 6 = .ok (.bipush 16, 2) := by decide +kernel
theorem dX9_standard_8 : decode cX9_standard 8 = .ok (.iaload, 1) := by decide +kernel
theorem dX9_standard_9 : decode cX9_standard 9 = .ok (.iconst 1, 1) := by decide +kernel
theorem dX9_standard_10 : decode cX9_standard 10 = .ok (.isub, 1) := by decide +kernel
theorem dX9_standard_11 : decode cX9_standard 11 = .ok (.invokestatic 57, 3) := by decide +kernel
theorem dX9_standard_14 : decode cX9_standard 14 = .ok (.ifCond .ne 5, 3) := by decide +kernel
theorem dX9_standard_17 : decode cX9_standard 17 = .ok (.iconst (-1), 1) := by decide +kernel
theorem dX9_standard_18 : decode cX9_standard 18 = .ok (.ireturn, 1) := by decide +kernel
theorem dX9_standard_19 : decode cX9_standard 19 = .ok (.iload_n 2, 1) := by decide +kernel
theorem dX9_standard_20 : decode cX9_standard 20 = .ok (.iconst 0, 1) := by decide +kernel
theorem dX9_standard_21 : decode cX9_standard 21 = .ok (.iconst 3, 1) := by decide +kernel
theorem dX9_standard_22 : decode cX9_standard 22 = .ok (.invokestatic 57, 3) := by decide +kernel
theorem dX9_standard_25 : decode cX9_standard 25 = .ok (.ifCond .ne 6, 3) := by decide +kernel
theorem dX9_standard_28 : decode cX9_standard 28 = .ok (.bipush (-2), 2) := by decide +kernel
theorem dX9_standard_30 : decode cX9_standard 30 = .ok (.ireturn, 1) := by decide +kernel
theorem dX9_standard_31 : decode cX9_standard 31 = .ok (.iload_n 2, 1) := by decide +kernel
theorem dX9_standard_32 : decode cX9_standard 32 = .ok (.iconst 3, 1) := by decide +kernel
theorem dX9_standard_33 : decode cX9_standard 33 = .ok (.if_icmp .ge 38, 3) := by decide +kernel
theorem dX9_standard_36 : decode cX9_standard 36 = .ok (.iload_n 2, 1) := by decide +kernel
theorem dX9_standard_37 : decode cX9_standard 37 = .ok (.iconst 2, 1) := by decide +kernel
theorem dX9_standard_38 : decode cX9_standard 38 = .ok (.if_icmp .ge 19, 3) := by decide +kernel
theorem dX9_standard_41 : decode cX9_standard 41 = .ok (.aload_n 0, 1) := by decide +kernel
theorem dX9_standard_42 : decode cX9_standard 42 = .ok (.getfield 7, 3) := by decide +kernel
theorem dX9_standard_45 : decode cX9_standard 45 = .ok (.bipush 17, 2) := by decide +kernel
theorem dX9_standard_47 : decode cX9_standard 47 = .ok (.iconst 2, 1) := by decide +kernel
theorem dX9_standard_48 : decode cX9_standard 48 = .ok (.iload_n 1, 1) := by decide +kernel
theorem dX9_standard_49 : decode cX9_standard 49 = .ok (.imul, 1) := by decide +kernel
theorem dX9_standard_50 : decode cX9_standard 50 = .ok (.iadd, 1) := by decide +kernel
theorem dX9_standard_51 : decode cX9_standard 51 = .ok (.iload_n 2, 1) := by decide +kernel
theorem dX9_standard_52 : decode cX9_standard 52 = .ok (.iadd, 1) := by decide +kernel
theorem dX9_standard_53 : decode cX9_standard 53 = .ok (.iaload, 1) := by decide +kernel
theorem dX9_standard_54 : decode cX9_standard 54 = .ok (.goto 16, 3) := by decide +kernel
theorem dX9_standard_57 : decode cX9_standard 57 = .ok (.aload_n 0, 1) := by decide +kernel
theorem dX9_standard_58 : decode cX9_standard 58 = .ok (.iload_n 1, 1) := by decide +kernel
theorem dX9_standard_59 : decode cX9_standard 59 = .ok (.invokevirtual 147, 3) := by decide +kernel
theorem dX9_standard_62 : decode cX9_standard 62 = .ok (.ifCond .eq 7, 3) := by decide +kernel
theorem dX9_standard_65 : decode cX9_standard 65 = .ok (.iconst 1, 1) := by decide +kernel
theorem dX9_standard_66 : decode cX9_standard 66 = .ok (.goto 4, 3) := by decide +kernel
theorem dX9_standard_69 : decode cX9_standard 69 = .ok (.iconst 0, 1) := by decide +kernel
theorem dX9_standard_70 : decode cX9_standard 70 = .ok (.ireturn, 1) := by decide +kernel
theorem dX9_standard_71 : decode cX9_standard 71 = .ok (.iconst 0, 1) := by decide +kernel
theorem dX9_standard_72 : decode cX9_standard 72 = .ok (.istore_n 3, 1) := by decide +kernel
theorem dX9_standard_73 : decode cX9_standard 73 = .ok (.iconst 0, 1) := by decide +kernel
theorem dX9_standard_74 : decode cX9_standard 74 = .ok (.istore 4, 2) := by decide +kernel
theorem dX9_standard_76 : decode cX9_standard 76 = .ok (.iload 4, 2) := by decide +kernel
theorem dX9_standard_78 : decode cX9_standard 78 = .ok (.aload_n 0, 1) := by decide +kernel
theorem dX9_standard_79 : decode cX9_standard 79 = .ok (.getfield 7, 3) := by decide +kernel
theorem dX9_standard_82 : decode cX9_standard 82 = .ok (.bipush 68, 2) := by decide +kernel
theorem dX9_standard_84 : decode cX9_standard 84 = .ok (.iaload, 1) := by decide +kernel
theorem dX9_standard_85 : decode cX9_standard 85 = .ok (.if_icmp .ge 59, 3) := by decide +kernel
theorem dX9_standard_88 : decode cX9_standard 88 = .ok (.iload_n 3, 1) := by decide +kernel
theorem dX9_standard_89 : decode cX9_standard 89 = .ok (.aload_n 0, 1) := by decide +kernel
theorem dX9_standard_90 : decode cX9_standard 90 = .ok (.iload 4, 2) := by decide +kernel
theorem dX9_standard_92 : decode cX9_standard 92 = .ok (.invokevirtual 124, 3) := by decide +kernel
theorem dX9_standard_95 : decode cX9_standard 95 = .ok (.ifCond .eq 40, 3) := by decide +kernel
theorem dX9_standard_98 : decode cX9_standard 98 = .ok (.aload_n 0, 1) := by decide +kernel
theorem dX9_standard_99 : decode cX9_standard 99 = .ok (.iload 4, 2) := by decide +kernel
theorem dX9_standard_101 : decode cX9_standard 101 = .ok (.aload_n 0, 1) := by decide +kernel
theorem dX9_standard_102 : decode cX9_standard 102 = .ok (.getfield 7, 3) := by decide +kernel
theorem dX9_standard_105 : decode cX9_standard 105 = .ok (.bipush 17, 2) := by decide +kernel
theorem dX9_standard_107 : decode cX9_standard 107 = .ok (.iconst 2, 1) := by decide +kernel
theorem dX9_standard_108 : decode cX9_standard 108 = .ok (.iload_n 1, 1) := by decide +kernel
theorem dX9_standard_109 : decode cX9_standard 109 = .ok (.imul, 1) := by decide +kernel
theorem dX9_standard_110 : decode cX9_standard 110 = .ok (.iadd, 1) := by decide +kernel
theorem dX9_standard_111 : decode cX9_standard 111 = .ok (.iaload, 1) := by decide +kernel
theorem dX9_standard_112 : decode cX9_standard 112 = .ok (.invokevirtual 134, 3) := by decide +kernel
theorem dX9_standard_115 : decode cX9_standard 115 = .ok (.aload_n 0, 1) := by decide +kernel
theorem dX9_standard_116 : decode cX9_standard 116 = .ok (.getfield 7, 3) := by decide +kernel
theorem dX9_standard_119 : decode cX9_standard 119 = .ok (.bipush 17, 2) := by decide +kernel
theorem dX9_standard_121 : decode cX9_standard 121 = .ok (.iconst 2, 1) := by decide +kernel
theorem dX9_standard_122 : decode cX9_standard 122 = .ok (.iload_n 1, 1) := by decide +kernel
theorem dX9_standard_123 : decode cX9_standard 123 = .ok (.imul, 1) := by decide +kernel
theorem dX9_standard_124 : decode cX9_standard 124 = .ok (.iadd, 1) := by decide +kernel
theorem dX9_standard_125 : decode cX9_standard 125 = .ok (.iconst 1, 1) := by decide +kernel
theorem dX9_standard_126 : decode cX9_standard 126 = .ok (.iadd, 1) := by decide +kernel
theorem dX9_standard_127 : decode cX9_standard 127 = .ok (.iaload, 1) := by decide +kernel
theorem dX9_standard_128 : decode cX9_standard 128 = .ok (.if_icmp .gt 7, 3) := by decide +kernel
theorem dX9_standard_131 : decode cX9_standard 131 = .ok (.iconst 1, 1) := by decide +kernel
theorem dX9_standard_132 : decode cX9_standard 132 = .ok (.goto 4, 3) := by decide +kernel
theorem dX9_standard_135 : decode cX9_standard 135 = .ok (.iconst 0, 1) := by decide +kernel
theorem dX9_standard_136 : decode cX9_standard 136 = .ok (.iadd, 1) := by decide +kernel
theorem dX9_standard_137 : decode cX9_standard 137 = .ok (.istore_n 3, 1) := by decide +kernel
theorem dX9_standard_138 : decode cX9_standard 138 = .ok (.iinc 4 1, 3) := by decide +kernel
theorem dX9_standard_141 : decode cX9_standard 141 = .ok (.goto (-65), 3) := by decide +kernel
theorem dX9_standard_144 : decode cX9_standard 144 = .ok (.iload_n 3, 1) := by decide +kernel
theorem dX9_standard_145 : decode cX9_standard 145 = .ok (.ireturn, 1) := by decide +kernel
set_option maxRecDepth 20000 in
theorem ggX9_untilRest_X9_lessBy : GoodIn wsX9_untilRest wsX9_lessBy := goodIn_r _ [6, 1, 7, 8, 9, 10, 11, 12, 13, 14, 15, 16, 17, 18, 19] (by decide +kernel) (by decide +kernel)
set_option maxRecDepth 20000 in
theorem gX9_untilRest_X9_lessBy : GoodIn wsX9_untilRest (wsV RX9 53 RX9 yX9_lessBy wsX9_lessBy) := goodIn_app (goodIn_of _ (by decide +kernel)) ggX9_untilRest_X9_lessBy
theorem dX9_untilRest_0 : decode cX9_untilRest 0 = .ok (.iconst 0, 1) := by decide +kernel
theorem dX9_untilRest_1 : decode cX9_untilRest 1 = .ok (.istore_n 1, 1) := by decide +kernel
theorem dX9_untilRest_2 : decode cX9_untilRest 2 = .ok (.aload_n 0, 1) := by decide +kernel
theorem dX9_untilRest_3 : decode cX9_untilRest 3 = .ok (.getfield 7, 3) := by decide +kernel
theorem dX9_untilRest_6 : decode cX9_untilRest 6 = .ok (.iconst 3, 1) := by decide +kernel
theorem dX9_untilRest_7 : decode cX9_untilRest 7 = .ok (.iaload, 1) := by decide +kernel
theorem dX9_untilRest_8 : decode cX9_untilRest 8 = .ok (.istore_n 2, 1) := by decide +kernel
theorem dX9_untilRest_9 : decode cX9_untilRest 9 = .ok (.iload_n 2, 1) := by decide +kernel
theorem dX9_untilRest_10 : decode cX9_untilRest 10 = .ok (.ifCond .le 15, 3) := by decide +kernel
theorem dX9_untilRest_13 : decode cX9_untilRest 13 = .ok (.iinc 1 1, 3) := by decide +kernel
theorem dX9_untilRest_16 : decode cX9_untilRest 16 = .ok (.aload_n 0, 1) := by decide +kernel
theorem dX9_untilRest_17 : decode cX9_untilRest 17 = .ok (.iload_n 2, 1) := by decide +kernel
theorem dX9_untilRest_18 : decode cX9_untilRest 18 = .ok (.invokevirtual 53, 3) := by decide +kernel
theorem dX9_untilRest_21 : decode cX9_untilRest 21 = .ok (.istore_n 2, 1) := by decide +kernel
theorem dX9_untilRest_22 : decode cX9_untilRest 22 = .ok (.goto (-13), 3) := by decide +kernel
theorem dX9_untilRest_25 : decode cX9_untilRest 25 = .ok (.iload_n 1, 1) := by decide +kernel
theorem dX9_untilRest_26 : decode cX9_untilRest 26 = .ok (.ifCond .ne 8, 3) := by decide +kernel
theorem dX9_untilRest_29 : decode cX9_untilRest 29 = .ok (.bipush (-5), 2) := by decide +kernel
theorem dX9_untilRest_31 : decode cX9_untilRest 31 = .ok (.goto 4, 3) := by decide +kernel
theorem dX9_untilRest_34 : decode cX9_untilRest 34 = .ok (.iload_n 1, 1) := by decide +kernel
theorem dX9_untilRest_35 : decode cX9_untilRest 35 = .ok (.ireturn, 1) := by decide +kernel
set_option maxRecDepth 20000 in
theorem ggX9_notCounting_X9_q : GoodIn wsX9_notCounting wsX9_q := goodIn_r _ [5] (by decide +kernel) (by decide +kernel)
set_option maxRecDepth 20000 in
theorem gX9_notCounting_X9_q : GoodIn wsX9_notCounting (va_wsS RX9 109 yX9_q wsX9_q) := goodIn_app (goodIn_of _ (by decide +kernel)) ggX9_notCounting_X9_q
theorem dX9_notCounting_0 : decode cX9_notCounting 0 = .ok (.iconst 0, 1) := by decide +kernel
theorem dX9_notCounting_1 : decode cX9_notCounting 1 = .ok (.istore_n 1, 1) := by decide +kernel
theorem dX9_notCounting_2 : decode cX9_notCounting 2 = .ok (.iconst 0, 1) := by decide +kernel
theorem dX9_notCounting_3 : decode cX9_notCounting 3 = .ok (.istore_n 2, 1) := by decide +kernel
theorem dX9_notCounting_4 : decode cX9_notCounting 4 = .ok (.iload_n 2, 1) := by decide +kernel
theorem dX9_notCounting_5 : decode cX9_notCounting 5 = .ok (.aload_n 0, 1) := by decide +kernel
theorem dX9_notCounting_6 : decode cX9_notCounting 6 = .ok (.getfield 7, 3) := by decide +kernel
theorem dX9_notCounting_9 : decode cX9_notCounting 9 = .ok (.bipush 68, 2) := by decide +kernel
theorem dX9_notCounting_11 : decode cX9_notCounting 11 = .ok (.iaload, 1) := by decide +kernel
theorem dX9_notCounting_12 : decode cX9_notCounting 12 = .ok (.if_icmp .ge 31, 3) := by decide +kernel
theorem dX9_notCounting_15 : decode cX9_notCounting 15 = .ok (.iload_n 1, 1) := by decide +kernel
theorem dX9_notCounting_16 : decode cX9_notCounting 16 = .ok (.aload_n 0, 1) := by decide +kernel
theorem dX9_notCounting_17 : decode cX9_notCounting 17 = .ok (.getfield 7, 3) := by decide +kernel
theorem dX9_notCounting_20 : decode cX9_notCounting 20 = .ok (.iload_n 2, 1) := by decide +kernel
theorem dX9_notCounting_21 : decode cX9_notCounting 21 = .ok (.invokestatic 109, 3) := by decide +kernel
theorem dX9_notCounting_24 : decode cX9_notCounting 24 = .ok (.iconst 2, 1) := by decide +kernel
theorem dX9_notCounting_25 : decode cX9_notCounting 25 = .ok (.iadd, 1) := by decide +kernel
theorem dX9_notCounting_26 : decode cX9_notCounting 26 = .ok (.iaload, 1) := by decide +kernel
theorem dX9_notCounting_27 : decode cX9_notCounting 27 = .ok (.ifCond .le 7, 3) := by decide +kernel
theorem dX9_notCounting_30 : decode cX9_notCounting 30 = .ok (.iconst 1, 1) := by decide +kernel
theorem dX9_notCounting_31 : decode cX9_notCounting 31 = .ok (.goto 4, 3) := by decide +kernel
theorem dX9_notCounting_34 : decode cX9_notCounting 34 = .ok (.iconst 0, 1) := by decide +kernel
theorem dX9_notCounting_35 : decode cX9_notCounting 35 = .ok (.iadd, 1) := by decide +kernel
theorem dX9_notCounting_36 : decode cX9_notCounting 36 = .ok (.istore_n 1, 1) := by decide +kernel
theorem dX9_notCounting_37 : decode cX9_notCounting 37 = .ok (.iinc 2 1, 3) := by decide +kernel
theorem dX9_notCounting_40 : decode cX9_notCounting 40 = .ok (.goto (-36), 3) := by decide +kernel
theorem dX9_notCounting_43 : decode cX9_notCounting 43 = .ok (.iload_n 1, 1) := by decide +kernel
theorem dX9_notCounting_44 : decode cX9_notCounting 44 = .ok (.ireturn, 1) := by decide +kernel
set_option maxRecDepth 20000 in
theorem ggX9_count_X9_whole : GoodIn wsX9_count wsX9_whole := goodIn_r _ [8, 1, 24, 25, 26, 27, 28, 29, 30, 31, 32, 33, 34] (by decide +kernel) (by decide +kernel)
set_option maxRecDepth 20000 in
theorem gX9_count_X9_whole : GoodIn wsX9_count (wsV RX9 36 RX9 yX9_whole wsX9_whole) := goodIn_app (goodIn_of _ (by decide +kernel)) ggX9_count_X9_whole
set_option maxRecDepth 20000 in
theorem ggX9_count_X9_counting : GoodIn wsX9_count wsX9_counting := goodIn_r _ [12, 1, 24, 25, 26, 27, 28, 29, 30, 31, 32, 33, 34] (by decide +kernel) (by decide +kernel)
set_option maxRecDepth 20000 in
theorem gX9_count_X9_counting : GoodIn wsX9_count (wsV RX9 44 RX9 yX9_counting wsX9_counting) := goodIn_app (goodIn_of _ (by decide +kernel)) ggX9_count_X9_counting
set_option maxRecDepth 20000 in
theorem ggX9_count_X9_isStraight : GoodIn wsX9_count wsX9_isStraight := goodIn_r _ [16, 1, 24, 25, 26, 27, 28, 29, 30, 31, 32, 33, 34] (by decide +kernel) (by decide +kernel)
set_option maxRecDepth 20000 in
theorem gX9_count_X9_isStraight : GoodIn wsX9_count (wsV RX9 30 RX9 yX9_isStraight wsX9_isStraight) := goodIn_app (goodIn_of _ (by decide +kernel)) ggX9_count_X9_isStraight
set_option maxRecDepth 20000 in
theorem ggX9_count_X9_notCounting : GoodIn wsX9_count wsX9_notCounting := goodIn_r _ [20, 1, 21, 22, 7, 23, 24, 25, 26, 27, 28, 29, 30, 31, 32, 33, 34] (by decide +kernel) (by decide +kernel)
set_option maxRecDepth 20000 in
theorem gX9_count_X9_notCounting : GoodIn wsX9_count (wsV RX9 163 RX9 yX9_notCounting wsX9_notCounting) := goodIn_app (goodIn_of _ (by decide +kernel)) ggX9_count_X9_notCounting
theorem dX9_count_0 : decode cX9_count 0 = .ok (.iload_n 1, 1) := by decide +kernel
theorem dX9_count_1 : decode cX9_count 1 = .ok (.tableswitch 232 0 20 #[99, 106, 113, 120, 125, 132, 137, 150, 158, 163, 171, 178, 185, 193, 201, 209, 209, 209, 209, 222, 227], 99) := by decide +kernel
theorem dX9_count_100 : decode cX9_count 100 = .ok (.aload_n 0, 1) := by decide +kernel
theorem dX9_count_101 : decode cX9_count 101 = .ok (.getfield 7, 3) := by decide +kernel
theorem dX9_count_104 : decode cX9_count 104 = .ok (.iconst 0, 1) := by decide +kernel
theorem dX9_count_105 : decode cX9_count 105 = .ok (.iaload, 1) := by decide +kernel
theorem dX9_count_106 : decode cX9_count 106 = .ok (.ireturn, 1) := by decide +kernel
theorem dX9_count_107 : decode cX9_count 107 = .ok (.aload_n 0, 1) := by decide +kernel
theorem dX9_count_108 : decode cX9_count 108 = .ok (.getfield 7, 3) := by decide +kernel
theorem dX9_count_111 : decode cX9_count 111 = .ok (.iconst 1, 1) := by decide +kernel
theorem dX9_count_112 : decode cX9_count 112 = .ok (.iaload, 1) := by decide +kernel
theorem dX9_count_113 : decode cX9_count 113 = .ok (.ireturn, 1) := by decide +kernel
theorem dX9_count_114 : decode cX9_count 114 = .ok (.aload_n 0, 1) := by decide +kernel
theorem dX9_count_115 : decode cX9_count 115 = .ok (.getfield 7, 3) := by decide +kernel
theorem dX9_count_118 : decode cX9_count 118 = .ok (.iconst 2, 1) := by decide +kernel
theorem dX9_count_119 : decode cX9_count 119 = .ok (.iaload, 1) := by decide +kernel
theorem dX9_count_120 : decode cX9_count 120 = .ok (.ireturn, 1) := by decide +kernel
theorem dX9_count_121 : decode cX9_count 121 = .ok (.aload_n 0, 1) := by decide +kernel
theorem dX9_count_122 : decode cX9_count 122 = .ok (.invokevirtual 36, 3) := by decide +kernel
theorem dX9_count_125 : decode cX9_count 125 = .ok (.ireturn, 1) := by decide +kernel
theorem dX9_count_126 : decode cX9_count 126 = .ok (.aload_n 0, 1) := by decide +kernel
theorem dX9_count_127 : decode cX9_count 127 = .ok (.getfield 7, 3) := by decide +kernel
theorem dX9_count_130 : decode cX9_count 130 = .ok (.iconst 3, 1) := by decide +kernel
theorem dX9_count_131 : decode cX9_count 131 = .ok (.iaload, 1) := by decide +kernel
theorem dX9_count_132 : decode cX9_count 132 = .ok (.ireturn, 1) := by decide +kernel
theorem dX9_count_133 : decode cX9_count 133 = .ok (.aload_n 0, 1) := by decide +kernel
theorem dX9_count_134 : decode cX9_count 134 = .ok (.invokevirtual 44, 3) := by decide +kernel
theorem dX9_count_137 : decode cX9_count 137 = .ok (.ireturn, 1) := by decide +kernel
theorem dX9_count_138 : decode cX9_count 138 = .ok (.aload_n 0, 1) := by decide +kernel
theorem dX9_count_139 : decode cX9_count 139 = .ok (.invokevirtual 30, 3) := by decide +kernel
theorem dX9_count_142 : decode cX9_count 142 = .ok (.ifCond .eq 7, 3) := by decide +kernel
theorem dX9_count_145 : decode cX9_count 145 = .ok (.iconst 1, 1) := by decide +kernel
theorem dX9_count_146 : decode cX9_count 146 = .ok (.goto 4, 3) := by decide +kernel
theorem dX9_count_149 : decode cX9_count 149 = .ok (.iconst 0, 1) := by decide +kernel
theorem dX9_count_150 : decode cX9_count 150 = .ok (.ireturn, 1) := by decide +kernel
theorem dX9_count_151 : decode cX9_count 151 = .ok (.aload_n 0, 1) := by decide +kernel
theorem dX9_count_152 : decode cX9_count 152 = .ok (.getfield 7, 3) := by decide +kernel
theorem dX9_count_155 : decode cX9_count 155 = .ok (.bipush 68, 2) := by decide +kernel
theorem dX9_count_157 : decode cX9_count 157 = .ok (.iaload, 1) := by decide +kernel
theorem dX9_count_158 : decode cX9_count 158 = .ok (.ireturn, 1) := by decide +kernel
theorem dX9_count_159 : decode cX9_count 159 = .ok (.aload_n 0, 1) := by decide +kernel
theorem dX9_count_160 : decode cX9_count 160 = .ok (.invokevirtual 163, 3) := by decide +kernel
theorem dX9_count_163 : decode cX9_count 163 = .ok (.ireturn, 1) := by decide +kernel
theorem dX9_count_164 : decode cX9_count 164 = .ok (.aload_n 0, 1) := by decide +kernel
theorem dX9_count_165 : decode cX9_count 165 = .ok (.getfield 7, 3) := by decide +kernel
theorem dX9_count_168 : decode cX9_count 168 = .ok (.bipush 27, 2) := by decide +kernel
theorem dX9_count_170 : decode cX9_count 170 = .ok (.iaload, 1) := by decide +kernel
theorem dX9_count_171 : decode cX9_count 171 = .ok (.ireturn, 1) := by decide +kernel
theorem dX9_count_172 : decode cX9_count 172 = .ok (.aload_n 0, 1) := by decide +kernel
theorem dX9_count_173 : decode cX9_count 173 = .ok (.getfield 7, 3) := by decide +kernel
theorem dX9_count_176 : decode cX9_count 176 = .ok (.iconst 4, 1) := by decide +kernel
theorem dX9_count_177 : decode cX9_count 177 = .ok (.iaload, 1) := by decide +kernel
theorem dX9_count_178 : decode cX9_count 178 = .ok (.ireturn, 1) := by decide +kernel
theorem dX9_count_179 : decode cX9_count 179 = .ok (.aload_n 0, 1) := by decide +kernel
theorem dX9_count_180 : decode cX9_count 180 = .ok (.getfield 7, 3) := by decide +kernel
theorem dX9_count_183 : decode cX9_count 183 = .ok (.iconst 5, 1) := by decide +kernel
theorem dX9_count_184 : decode cX9_count 184 = .ok (.iaload, 1) := by decide +kernel
theorem dX9_count_185 : decode cX9_count 185 = .ok (.ireturn, 1) := by decide +kernel
theorem dX9_count_186 : decode cX9_count 186 = .ok (.aload_n 0, 1) := by decide +kernel
theorem dX9_count_187 : decode cX9_count 187 = .ok (.getfield 7, 3) := by decide +kernel
theorem dX9_count_190 : decode cX9_count 190 = .ok (.bipush 6, 2) := by decide +kernel
theorem dX9_count_192 : decode cX9_count 192 = .ok (.iaload, 1) := by decide +kernel
theorem dX9_count_193 : decode cX9_count 193 = .ok (.ireturn, 1) := by decide +kernel
theorem dX9_count_194 : decode cX9_count 194 = .ok (.aload_n 0, 1) := by decide +kernel
theorem dX9_count_195 : decode cX9_count 195 = .ok (.getfield 7, 3) := by decide +kernel
theorem dX9_count_198 : decode cX9_count 198 = .ok (.bipush 16, 2) := by decide +kernel
theorem dX9_count_200 : decode cX9_count 200 = .ok (.iaload, 1) := by decide +kernel
theorem dX9_count_201 : decode cX9_count 201 = .ok (.ireturn, 1) := by decide +kernel
theorem dX9_count_202 : decode cX9_count 202 = .ok (.aload_n 0, 1) := by decide +kernel
theorem dX9_count_203 : decode cX9_count 203 = .ok (.getfield 7, 3) := by decide +kernel
theorem dX9_count_206 : decode cX9_count 206 = .ok (.bipush 7, 2) := by decide +kernel
theorem dX9_count_208 : decode cX9_count 208 = .ok (.iaload, 1) := by decide +kernel
theorem dX9_count_209 : decode cX9_count 209 = .ok (.ireturn, 1) := by decide +kernel
theorem dX9_count_210 : decode cX9_count 210 = .ok (.aload_n 0, 1) := by decide +kernel
theorem dX9_count_211 : decode cX9_count 211 = .ok (.getfield 7, 3) := by decide +kernel
theorem dX9_count_214 : decode cX9_count 214 = .ok (.bipush 12, 2) := by decide +kernel
theorem dX9_count_216 : decode cX9_count 216 = .ok (.iload_n 1, 1) := by decide +kernel
theorem dX9_count_217 : decode cX9_count 217 = .ok (.iadd, 1) := by decide +kernel
theorem dX9_count_218 : decode cX9_count 218 = .ok (.bipush 15, 2) := by decide +kernel
theorem dX9_count_220 : decode cX9_count 220 = .ok (.isub, 1) := by decide +kernel
theorem dX9_count_221 : decode cX9_count 221 = .ok (.iaload, 1) := by decide +kernel
theorem dX9_count_222 : decode cX9_count 222 = .ok (.ireturn, 1) := by decide +kernel
theorem dX9_count_223 : decode cX9_count 223 = .ok (.aload_n 0, 1) := by decide +kernel
theorem dX9_count_224 : decode cX9_count 224 = .ok (.getfield 26, 3) := by decide +kernel
theorem dX9_count_227 : decode cX9_count 227 = .ok (.ireturn, 1) := by decide +kernel
theorem dX9_count_228 : decode cX9_count 228 = .ok (.aload_n 0, 1) := by decide +kernel
theorem dX9_count_229 : decode cX9_count 229 = .ok (.getfield 79, 3) := by decide +kernel
theorem dX9_count_232 : decode cX9_count 232 = .ok (.ireturn, 1) := by decide +kernel
theorem dX9_count_233 : decode cX9_count 233 = .ok (.bipush (-2), 2) := by decide +kernel
theorem dX9_count_235 : decode cX9_count 235 = .ok (.ireturn, 1) := by decide +kernel
theorem dJ9_abs_0f7a4_0 : decode cJ9_abs_0f7a4 0 = .ok (.iload_n 0, 1) := by decide +kernel
theorem dJ9_abs_0f7a4_1 : decode cJ9_abs_0f7a4 1 = .ok (.ifCond .ge 8, 3) := by decide +kernel
theorem dJ9_abs_0f7a4_4 : decode cJ9_abs_0f7a4 4 = .ok (.iload_n 0, 1) := by decide +kernel
theorem dJ9_abs_0f7a4_5 : decode cJ9_abs_0f7a4 5 = .ok (.ineg, 1) := by decide +kernel
theorem dJ9_abs_0f7a4_6 : decode cJ9_abs_0f7a4 6 = .ok (.goto 4, 3) := by decide +kernel
theorem dJ9_abs_0f7a4_9 : decode cJ9_abs_0f7a4 9 = .ok (.iload_n 0, 1) := by decide +kernel
theorem dJ9_abs_0f7a4_10 : decode cJ9_abs_0f7a4 10 = .ok (.ireturn, 1) := by decide +kernel
theorem dJ9_max_7cf53_0 : decode cJ9_max_7cf53 0 = .ok (.iload_n 0, 1) := by decide +kernel
theorem dJ9_max_7cf53_1 : decode cJ9_max_7cf53 1 = .ok (.iload_n 1, 1) := by decide +kernel
theorem dJ9_max_7cf53_2 : decode cJ9_max_7cf53 2 = .ok (.if_icmp .lt 7, 3) := by decide +kernel
theorem dJ9_max_7cf53_5 : decode cJ9_max_7cf53 5 = .ok (.iload_n 0, 1) := by decide +kernel
theorem dJ9_max_7cf53_6 : decode cJ9_max_7cf53 6 = .ok (.goto 4, 3) := by decide +kernel
theorem dJ9_max_7cf53_9 : decode cJ9_max_7cf53 9 = .ok (.iload_n 1, 1) := by decide +kernel
theorem dJ9_max_7cf53_10 : decode cJ9_max_7cf53 10 = .ok (.ireturn, 1) := by decide +kernel
theorem dJ9_min_7cf53_0 : decode cJ9_min_7cf53 0 = .ok (.iload_n 0, 1) := by decide +kernel
theorem dJ9_min_7cf53_1 : decode cJ9_min_7cf53 1 = .ok (.iload_n 1, 1) := by decide +kernel
theorem dJ9_min_7cf53_2 : decode cJ9_min_7cf53 2 = .ok (.if_icmp .gt 7, 3) := by decide +kernel
theorem dJ9_min_7cf53_5 : decode cJ9_min_7cf53 5 = .ok (.iload_n 0, 1) := by decide +kernel
theorem dJ9_min_7cf53_6 : decode cJ9_min_7cf53 6 = .ok (.goto 4, 3) := by decide +kernel
theorem dJ9_min_7cf53_9 : decode cJ9_min_7cf53 9 = .ok (.iload_n 1, 1) := by decide +kernel
theorem dJ9_min_7cf53_10 : decode cJ9_min_7cf53 10 = .ok (.ireturn, 1) := by decide +kernel
theorem dJ9_min_f86c9_0 : decode cJ9_min_f86c9 0 = .ok (.lload_n 0, 1) := by decide +kernel
theorem dJ9_min_f86c9_1 : decode cJ9_min_f86c9 1 = .ok (.lload_n 2, 1) := by decide +kernel
theorem dJ9_min_f86c9_2 : decode cJ9_min_f86c9 2 = .ok (.lcmp, 1) := by decide +kernel
theorem dJ9_min_f86c9_3 : decode cJ9_min_f86c9 3 = .ok (.ifCond .gt 7, 3) := by decide +kernel
theorem dJ9_min_f86c9_6 : decode cJ9_min_f86c9 6 = .ok (.lload_n 0, 1) := by decide +kernel
theorem dJ9_min_f86c9_7 : decode cJ9_min_f86c9 7 = .ok (.goto 4, 3) := by decide +kernel
theorem dJ9_min_f86c9_10 : decode cJ9_min_f86c9 10 = .ok (.lload_n 2, 1) := by decide +kernel
theorem dJ9_min_f86c9_11 : decode cJ9_min_f86c9 11 = .ok (.lreturn, 1) := by decide +kernel
