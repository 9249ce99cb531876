set_option maxRecDepth 20000 in
theorem ggX2_init_X6_init : GoodIn wsX2_init wsX6_init := goodIn_r _ [9, 10, 2, 3, 11, 12, 13, 14, 15, 16, 17, 18, 19, 20, 21, 22, 23, 24, 25, 26, 27, 28, 29, 30, 31, 32, 33, 34, 35, 36, 37, 38, 39, 40, 41, 42, 43, 44, 45, 46, 47, 48, 49, 50, 51, 52, 53, 54, 55, 56, 57, 58, 59, 60, 61, 62, 63, 64, 65, 66, 67, 75, 76, 77, 78, 79, 80, 81, 82, 83, 70, 71, 72, 73, 74, 84, 85, 86, 87, 88, 89, 90, 91, 92, 93, 94, 95, 96, 97] (by decide +kernel) (by decide +kernel)
set_option maxRecDepth 20000 in
theorem gX2_init_X6_init_n17 : GoodIn wsX2_init (wsX6_init) := ggX2_init_X6_init
theorem dX2_init_0 : decode cX2_init 0 = .ok (.aload_n 0, 1) := by decide +kernel
theorem dX2_init_1 : decode cX2_init 1 = .ok (.invokespecial 3, 3) := by decide +kernel
theorem dX2_init_4 : decode cX2_init 4 = .ok (.aload_n 0, 1) := by decide +kernel
theorem dX2_init_5 : decode cX2_init 5 = .ok (.iconst 4, 1) := by decide +kernel
theorem dX2_init_6 : decode cX2_init 6 = .ok (.anewarray 9, 3) := by decide +kernel
theorem dX2_init_9 : decode cX2_init 9 = .ok (.putfield 11, 3) := by decide +kernel
theorem dX2_init_12 : decode cX2_init 12 = .ok (.iconst 0, 1) := by decide +kernel
theorem dX2_init_13 : decode cX2_init 13 = .ok (.istore_n 1, 1) := by decide +kernel
theorem dX2_init_14 : decode cX2_init 14 = .ok (.iload_n 1, 1) := by decide +kernel
theorem dX2_init_15 : decode cX2_init 15 = .ok (.iconst 4, 1) := by decide +kernel
theorem dX2_init_16 : decode cX2_init 16 = .ok (.if_icmp .ge 22, 3) := by decide +kernel
theorem dX2_init_19 : decode cX2_init 19 = .ok (.aload_n 0, 1) := by decide +kernel
theorem dX2_init_20 : decode cX2_init 20 = .ok (.getfield 11, 3) := by decide +kernel
theorem dX2_init_23 : decode cX2_init 23 = .ok (.iload_n 1, 1) := by decide +kernel
theorem dX2_init_24 : decode cX2_init 24 = .ok (.new 9, 3) := by decide +kernel
theorem dX2_init_27 : decode cX2_init 27 = .ok (.dup, 1) := by decide +kernel
theorem dX2_init_28 : decode cX2_init 28 = .ok (.invokespecial 17, 3) := by decide +kernel
theorem dX2_init_31 : decode cX2_init 31 = .ok (.aastore, 1) := by decide +kernel
theorem dX2_init_32 : decode cX2_init 32 = .ok (.iinc 1 1, 3) := by decide +kernel
theorem dX2_init_35 : decode cX2_init 35 = .ok (.goto (-21), 3) := by decide +kernel
theorem dX2_init_38 : decode cX2_init 38 = .ok (.return_, 1) := by decide +kernel
set_option maxRecDepth 20000 in
theorem ggX2_record_X2_dropOldest : GoodIn wsX2_record wsX2_dropOldest := goodIn_r _ [7, 2, 1, 72, 73] (by decide +kernel) (by decide +kernel)
set_option maxRecDepth 20000 in
theorem gX2_record_X2_dropOldest : GoodIn wsX2_record (wsV RX2 22 RX2 yX2_dropOldest wsX2_dropOldest) := goodIn_app (goodIn_of _ (by decide +kernel)) ggX2_record_X2_dropOldest
set_option maxRecDepth 20000 in
theorem ggX2_record_X6_copyFrom : GoodIn wsX2_record wsX6_copyFrom := goodIn_r _ [12, 13, 14, 15, 16, 17, 18, 19, 20, 21, 22, 23, 24, 25, 26, 27, 28, 29, 30, 31, 32, 33, 34, 35, 36, 37, 38, 39, 40, 41, 42, 43, 44, 45, 46, 47, 48, 49, 50, 51, 52, 53, 54, 55, 56, 57, 58, 59, 60, 61, 62, 63, 64, 65, 66, 67, 68, 69, 70, 71, 74, 75, 76, 77, 78, 79, 80, 81, 82, 83, 84, 85, 86, 87, 88, 89, 90, 91, 92, 93, 94, 95, 96, 97, 98, 99, 100, 101] (by decide +kernel) (by decide +kernel)
set_option maxRecDepth 20000 in
theorem gX2_record_X6_copyFrom : GoodIn wsX2_record (wsV RX2 25 RX6 yX6_copyFrom wsX6_copyFrom) := goodIn_app (goodIn_of _ (by decide +kernel)) ggX2_record_X6_copyFrom
theorem dX2_record_0 : decode cX2_record 0 = .ok (.aload_n 0, 1) := by decide +kernel
theorem dX2_record_1 : decode cX2_record 1 = .ok (.getfield 18, 3) := by decide +kernel
theorem dX2_record_4 : decode cX2_record 4 = .ok (.iconst 4, 1) := by decide +kernel
theorem dX2_record_5 : decode cX2_record 5 = .ok (.if_icmp .lt 7, 3) := by decide +kernel
theorem dX2_record_8 : decode cX2_record 8 = .ok (.aload_n 0, 1) := by decide +kernel
theorem dX2_record_9 : decode cX2_record 9 = .ok (.invokevirtual 22, 3) := by decide +kernel
theorem dX2_record_12 : decode cX2_record 12 = .ok (.aload_n 0, 1) := by decide +kernel
theorem dX2_record_13 : decode cX2_record 13 = .ok (.getfield 11, 3) := by decide +kernel
theorem dX2_record_16 : decode cX2_record 16 = .ok (.aload_n 0, 1) := by decide +kernel
theorem dX2_record_17 : decode cX2_record 17 = .ok (.getfield 18, 3) := by decide +kernel
theorem dX2_record_20 : decode cX2_record 20 = .ok (.aaload, 1) := by decide +kernel
theorem dX2_record_21 : decode cX2_record 21 = .ok (.astore_n 2, 1) := by decide +kernel
theorem dX2_record_22 : decode cX2_record 22 = .ok (.aload_n 2, 1) := by decide +kernel
theorem dX2_record_23 : decode cX2_record 23 = .ok (.ifnull 18, 3) := by decide +kernel
theorem dX2_record_26 : decode cX2_record 26 = .ok (.aload_n 2, 1) := by decide +kernel
theorem dX2_record_27 : decode cX2_record 27 = .ok (.aload_n 1, 1) := by decide +kernel
theorem dX2_record_28 : decode cX2_record 28 = .ok (.invokevirtual 25, 3) := by decide +kernel
theorem dX2_record_31 : decode cX2_record 31 = .ok (.aload_n 0, 1) := by decide +kernel
theorem dX2_record_32 : decode cX2_record 32 = .ok (.dup, 1) := by decide +kernel
theorem dX2_record_33 : decode cX2_record 33 = .ok (.getfield 18, 3) := by decide +kernel
theorem dX2_record_36 : decode cX2_record 36 = .ok (.iconst 1, 1) := by decide +kernel
theorem dX2_record_37 : decode cX2_record 37 = .ok (.iadd, 1) := by decide +kernel
theorem dX2_record_38 : decode cX2_record 38 = .ok (.putfield 18, 3) := by decide +kernel
theorem dX2_record_41 : decode cX2_record 41 = .ok (.return_, 1) := by decide +kernel
theorem dX2_dropOldest_0 : decode cX2_dropOldest 0 = .ok (.aload_n 0, 1) := by decide +kernel
theorem dX2_dropOldest_1 : decode cX2_dropOldest 1 = .ok (.getfield 11, 3) := by decide +kernel
theorem dX2_dropOldest_4 : decode cX2_dropOldest 4 = .ok (.iconst 0, 1) := by decide +kernel
theorem dX2_dropOldest_5 : decode cX2_dropOldest 5 = .ok (.aaload, 1) := by decide +kernel
theorem dX2_dropOldest_6 : decode cX2_dropOldest 6 = .ok (.astore_n 1, 1) := by decide +kernel
theorem dX2_dropOldest_7 : decode cX2_dropOldest 7 = .ok (.iconst 0, 1) := by decide +kernel
theorem dX2_dropOldest_8 : decode cX2_dropOldest 8 = .ok (.istore_n 2, 1) := by decide +kernel
theorem dX2_dropOldest_9 : decode cX2_dropOldest 9 = .ok (.iload_n 2, 1) := by decide +kernel
theorem dX2_dropOldest_10 : decode cX2_dropOldest 10 = .ok (.iconst 3, 1) := by decide +kernel
theorem dX2_dropOldest_11 : decode cX2_dropOldest 11 = .ok (.if_icmp .ge 23, 3) := by decide +kernel
theorem dX2_dropOldest_14 : decode cX2_dropOldest 14 = .ok (.aload_n 0, 1) := by decide +kernel
theorem dX2_dropOldest_15 : decode cX2_dropOldest 15 = .ok (.getfield 11, 3) := by decide +kernel
theorem dX2_dropOldest_18 : decode cX2_dropOldest 18 = .ok (.iload_n 2, 1) := by decide +kernel
theorem dX2_dropOldest_19 : decode cX2_dropOldest 19 = .ok (.aload_n 0, 1) := by decide +kernel
theorem dX2_dropOldest_20 : decode cX2_dropOldest 20 = .ok (.getfield 11, 3) := by decide +kernel
theorem dX2_dropOldest_23 : decode cX2_dropOldest 23 = .ok (.iload_n 2, 1) := by decide +kernel
theorem dX2_dropOldest_24 : decode cX2_dropOldest 24 = .ok (.iconst 1, 1) := by decide +kernel
theorem dX2_dropOldest_25 : decode cX2_dropOldest 25 = .ok (.iadd, 1) := by decide +kernel
theorem dX2_dropOldest_26 : decode cX2_dropOldest 26 = .ok (.aaload, 1) := by decide +kernel
theorem dX2_dropOldest_27 : decode cX2_dropOldest 27 = .ok (.aastore, 1) := by decide +kernel
theorem dX2_dropOldest_28 : decode cX2_dropOldest 28 = .ok (.iinc 2 1, 3) := by decide +kernel
theorem dX2_dropOldest_31 : decode cX2_dropOldest 31 = .ok (.goto (-22), 3) := by decide +kernel
theorem dX2_dropOldest_34 : decode cX2_dropOldest 34 = .ok (.aload_n 0, 1) := by decide +kernel
theorem dX2_dropOldest_35 : decode cX2_dropOldest 35 = .ok (.getfield 11, 3) := by decide +kernel
theorem dX2_dropOldest_38 : decode cX2_dropOldest 38 = .ok (.iconst 3, 1) := by decide +kernel
theorem dX2_dropOldest_39 : decode cX2_dropOldest 39 = .ok (.aload_n 1, 1) := by decide +kernel
theorem dX2_dropOldest_40 : decode cX2_dropOldest 40 = .ok (.aastore, 1) := by decide +kernel
theorem dX2_dropOldest_41 : decode cX2_dropOldest 41 = .ok (.aload_n 0, 1) := by decide +kernel
theorem dX2_dropOldest_42 : decode cX2_dropOldest 42 = .ok (.iconst 3, 1) := by decide +kernel
theorem dX2_dropOldest_43 : decode cX2_dropOldest 43 = .ok (.putfield 18, 3) := by decide +kernel
theorem dX2_dropOldest_46 : decode cX2_dropOldest 46 = .ok (.return_, 1) := by decide +kernel
set_option maxRecDepth 20000 in
theorem ggX2_takeBack_X6_copyFrom : GoodIn wsX2_takeBack wsX6_copyFrom := goodIn_r _ [7, 8, 9, 10, 11, 12, 13, 14, 15, 16, 17, 18, 19, 20, 21, 22, 23, 24, 25, 26, 27, 28, 29, 30, 31, 32, 33, 34, 35, 36, 37, 38, 39, 40, 41, 42, 43, 44, 45, 46, 47, 48, 49, 50, 51, 52, 53, 54, 55, 56, 57, 58, 59, 60, 61, 62, 63, 64, 65, 66, 69, 70, 71, 72, 73, 74, 75, 76, 77, 78, 79, 80, 81, 82, 83, 84, 85, 86, 87, 88, 89, 90, 91, 92, 93, 94, 95, 96] (by decide +kernel) (by decide +kernel)
set_option maxRecDepth 20000 in
theorem gX2_takeBack_X6_copyFrom : GoodIn wsX2_takeBack (wsV RX2 25 RX6 yX6_copyFrom wsX6_copyFrom) := goodIn_app (goodIn_of _ (by decide +kernel)) ggX2_takeBack_X6_copyFrom
theorem dX2_takeBack_0 : decode cX2_takeBack 0 = .ok (.aload_n 0, 1) := by decide +kernel
theorem dX2_takeBack_1 : decode cX2_takeBack 1 = .ok (.getfield 18, 3) := by decide +kernel
theorem dX2_takeBack_4 : decode cX2_takeBack 4 = .ok (.ifCond .gt 4, 3) := by decide +kernel
theorem dX2_takeBack_7 : decode cX2_takeBack 7 = .ok (.return_, 1) := by decide +kernel
theorem dX2_takeBack_8 : decode cX2_takeBack 8 = .ok (.aload_n 0, 1) := by decide +kernel
theorem dX2_takeBack_9 : decode cX2_takeBack 9 = .ok (.dup, 1) := by decide +kernel
theorem dX2_takeBack_10 : decode cX2_takeBack 10 = .ok (.getfield 18, 3) := by decide +kernel
theorem dX2_takeBack_13 : decode cX2_takeBack 13 = .ok (.iconst 1, 1) := by decide +kernel
theorem dX2_takeBack_14 : decode cX2_takeBack 14 = .ok (.isub, 1) := by decide +kernel
theorem dX2_takeBack_15 : decode cX2_takeBack 15 = .ok (.putfield 18, 3) := by decide +kernel
theorem dX2_takeBack_18 : decode cX2_takeBack 18 = .ok (.aload_n 0, 1) := by decide +kernel
theorem dX2_takeBack_19 : decode cX2_takeBack 19 = .ok (.getfield 11, 3) := by decide +kernel
theorem dX2_takeBack_22 : decode cX2_takeBack 22 = .ok (.aload_n 0, 1) := by decide +kernel
theorem dX2_takeBack_23 : decode cX2_takeBack 23 = .ok (.getfield 18, 3) := by decide +kernel
theorem dX2_takeBack_26 : decode cX2_takeBack 26 = .ok (.aaload, 1) := by decide +kernel
theorem dX2_takeBack_27 : decode cX2_takeBack 27 = .ok (.astore_n 2, 1) := by decide +kernel
theorem dX2_takeBack_28 : decode cX2_takeBack 28 = .ok (.aload_n 2, 1) := by decide +kernel
theorem dX2_takeBack_29 : decode cX2_takeBack 29 = .ok (.ifnull 8, 3) := by decide +kernel
theorem dX2_takeBack_32 : decode cX2_takeBack 32 = .ok (.aload_n 1, 1) := by decide +kernel
theorem dX2_takeBack_33 : decode cX2_takeBack 33 = .ok (.aload_n 2, 1) := by decide +kernel
theorem dX2_takeBack_34 : decode cX2_takeBack 34 = .ok (.invokevirtual 25, 3) := by decide +kernel
theorem dX2_takeBack_37 : decode cX2_takeBack 37 = .ok (.return_, 1) := by decide +kernel
theorem dX3_init_0 : decode cX3_init 0 = .ok (.aload_n 0, 1) := by decide +kernel
theorem dX3_init_1 : decode cX3_init 1 = .ok (.invokespecial 3, 3) := by decide +kernel
theorem dX3_init_4 : decode cX3_init 4 = .ok (.aload_n 0, 1) := by decide +kernel
theorem dX3_init_5 : decode cX3_init 5 = .ok (.bipush 20, 2) := by decide +kernel
theorem dX3_init_7 : decode cX3_init 7 = .ok (.newarray .int, 2) := by decide +kernel
theorem dX3_init_9 : decode cX3_init 9 = .ok (.putfield 9, 3) := by decide +kernel
theorem dX3_init_12 : decode cX3_init 12 = .ok (.aload_n 0, 1) := by decide +kernel
theorem dX3_init_13 : decode cX3_init 13 = .ok (.bipush 20, 2) := by decide +kernel
theorem dX3_init_15 : decode cX3_init 15 = .ok (.newarray .int, 2) := by decide +kernel
theorem dX3_init_17 : decode cX3_init 17 = .ok (.putfield 15, 3) := by decide +kernel
theorem dX3_init_20 : decode cX3_init 20 = .ok (.return_, 1) := by decide +kernel
set_option maxRecDepth 20000 in
theorem ggX3_copyFrom_X8_copyRow : GoodIn wsX3_copyFrom wsX8_copyRow := goodIn_r _ [6, 7, 8, 9, 10, 11, 12, 13, 14] (by decide +kernel) (by decide +kernel)
set_option maxRecDepth 20000 in
theorem gX3_copyFrom_X8_copyRow_n18 : GoodIn wsX3_copyFrom (wsX8_copyRow) := ggX3_copyFrom_X8_copyRow
theorem dX3_copyFrom_0 : decode cX3_copyFrom 0 = .ok (.aload_n 1, 1) := by decide +kernel
theorem dX3_copyFrom_1 : decode cX3_copyFrom 1 = .ok (.getfield 9, 3) := by decide +kernel
theorem dX3_copyFrom_4 : decode cX3_copyFrom 4 = .ok (.aload_n 0, 1) := by decide +kernel
theorem dX3_copyFrom_5 : decode cX3_copyFrom 5 = .ok (.getfield 9, 3) := by decide +kernel
theorem dX3_copyFrom_8 : decode cX3_copyFrom 8 = .ok (.invokestatic 18, 3) := by decide +kernel
theorem dX3_copyFrom_11 : decode cX3_copyFrom 11 = .ok (.aload_n 1, 1) := by decide +kernel
theorem dX3_copyFrom_12 : decode cX3_copyFrom 12 = .ok (.getfield 15, 3) := by decide +kernel
theorem dX3_copyFrom_15 : decode cX3_copyFrom 15 = .ok (.aload_n 0, 1) := by decide +kernel
theorem dX3_copyFrom_16 : decode cX3_copyFrom 16 = .ok (.getfield 15, 3) := by decide +kernel
theorem dX3_copyFrom_19 : decode cX3_copyFrom 19 = .ok (.invokestatic 18, 3) := by decide +kernel
theorem dX3_copyFrom_22 : decode cX3_copyFrom 22 = .ok (.aload_n 0, 1) := by decide +kernel
theorem dX3_copyFrom_23 : decode cX3_copyFrom 23 = .ok (.aload_n 1, 1) := by decide +kernel
theorem dX3_copyFrom_24 : decode cX3_copyFrom 24 = .ok (.getfield 22, 3) := by decide +kernel
theorem dX3_copyFrom_27 : decode cX3_copyFrom 27 = .ok (.putfield 22, 3) := by decide +kernel
theorem dX3_copyFrom_30 : decode cX3_copyFrom 30 = .ok (.return_, 1) := by decide +kernel
theorem dX3_add_0 : decode cX3_add 0 = .ok (.aload_n 0, 1) := by decide +kernel
theorem dX3_add_1 : decode cX3_add 1 = .ok (.getfield 22, 3) := by decide +kernel
theorem dX3_add_4 : decode cX3_add 4 = .ok (.bipush 20, 2) := by decide +kernel
theorem dX3_add_6 : decode cX3_add 6 = .ok (.if_icmp .ge 33, 3) := by decide +kernel
theorem dX3_add_9 : decode cX3_add 9 = .ok (.aload_n 0, 1) := by decide +kernel
theorem dX3_add_10 : decode cX3_add 10 = .ok (.getfield 9, 3) := by decide +kernel
theorem dX3_add_13 : decode cX3_add 13 = .ok (.aload_n 0, 1) := by decide +kernel
theorem dX3_add_14 : decode cX3_add 14 = .ok (.getfield 22, 3) := by decide +kernel
theorem dX3_add_17 : decode cX3_add 17 = .ok (.iload_n 1, 1) := by decide +kernel
theorem dX3_add_18 : decode cX3_add 18 = .ok (.iastore, 1) := by decide +kernel
theorem dX3_add_19 : decode cX3_add 19 = .ok (.aload_n 0, 1) := by decide +kernel
theorem dX3_add_20 : decode cX3_add 20 = .ok (.getfield 15, 3) := by decide +kernel
theorem dX3_add_23 : decode cX3_add 23 = .ok (.aload_n 0, 1) := by decide +kernel
theorem dX3_add_24 : decode cX3_add 24 = .ok (.getfield 22, 3) := by decide +kernel
theorem dX3_add_27 : decode cX3_add 27 = .ok (.iload_n 2, 1) := by decide +kernel
theorem dX3_add_28 : decode cX3_add 28 = .ok (.iastore, 1) := by decide +kernel
theorem dX3_add_29 : decode cX3_add 29 = .ok (.aload_n 0, 1) := by decide +kernel
theorem dX3_add_30 : decode cX3_add 30 = .ok (.dup, 1) := by decide +kernel
theorem dX3_add_31 : decode cX3_add 31 = .ok (.getfield 22, 3) := by decide +kernel
theorem dX3_add_34 : decode cX3_add 34 = .ok (.iconst 1, 1) := by decide +kernel
theorem dX3_add_35 : decode cX3_add 35 = .ok (.iadd, 1) := by decide +kernel
theorem dX3_add_36 : decode cX3_add 36 = .ok (.putfield 22, 3) := by decide +kernel
theorem dX3_add_39 : decode cX3_add 39 = .ok (.return_, 1) := by decide +kernel
set_option maxRecDepth 20000 in
theorem ggX3_removeFirst_X3_add : GoodIn wsX3_removeFirst wsX3_add := goodIn_r _ [12, 1, 6, 7, 13, 14, 15] (by decide +kernel) (by decide +kernel)
set_option maxRecDepth 20000 in
theorem gX3_removeFirst_X3_add : GoodIn wsX3_removeFirst (wsV RX3 26 RX3 yX3_add wsX3_add) := goodIn_app (goodIn_of _ (by decide +kernel)) ggX3_removeFirst_X3_add
theorem dX3_removeFirst_0 : decode cX3_removeFirst 0 = .ok (.aload_n 0, 1) := by decide +kernel
theorem dX3_removeFirst_1 : decode cX3_removeFirst 1 = .ok (.getfield 22, 3) := by decide +kernel
theorem dX3_removeFirst_4 : decode cX3_removeFirst 4 = .ok (.istore_n 2, 1) := by decide +kernel
theorem dX3_removeFirst_5 : decode cX3_removeFirst 5 = .ok (.aload_n 0, 1) := by decide +kernel
theorem dX3_removeFirst_6 : decode cX3_removeFirst 6 = .ok (.iconst 0, 1) := by decide +kernel
theorem dX3_removeFirst_7 : decode cX3_removeFirst 7 = .ok (.putfield 22, 3) := by decide +kernel
theorem dX3_removeFirst_10 : decode cX3_removeFirst 10 = .ok (.iconst 0, 1) := by decide +kernel
theorem dX3_removeFirst_11 : decode cX3_removeFirst 11 = .ok (.iload_n 1, 1) := by decide +kernel
theorem dX3_removeFirst_12 : decode cX3_removeFirst 12 = .ok (.invokestatic 30, 3) := by decide +kernel
theorem dX3_removeFirst_15 : decode cX3_removeFirst 15 = .ok (.istore_n 3, 1) := by decide +kernel
theorem dX3_removeFirst_16 : decode cX3_removeFirst 16 = .ok (.iload_n 3, 1) := by decide +kernel
theorem dX3_removeFirst_17 : decode cX3_removeFirst 17 = .ok (.iload_n 2, 1) := by decide +kernel
theorem dX3_removeFirst_18 : decode cX3_removeFirst 18 = .ok (.if_icmp .ge 25, 3) := by decide +kernel
theorem dX3_removeFirst_21 : decode cX3_removeFirst 21 = .ok (.aload_n 0, 1) := by decide +kernel
theorem dX3_removeFirst_22 : decode cX3_removeFirst 22 = .ok (.aload_n 0, 1) := by decide +kernel
theorem dX3_removeFirst_23 : decode cX3_removeFirst 23 = .ok (.getfield 9, 3) := by decide +kernel
theorem dX3_removeFirst_26 : decode cX3_removeFirst 26 = .ok (.iload_n 3, 1) := by decide +kernel
theorem dX3_removeFirst_27 : decode cX3_removeFirst 27 = .ok (.iaload, 1) := by decide +kernel
theorem dX3_removeFirst_28 : decode cX3_removeFirst 28 = .ok (.aload_n 0, 1) := by decide +kernel
theorem dX3_removeFirst_29 : decode cX3_removeFirst 29 = .ok (.getfield 15, 3) := by decide +kernel
theorem dX3_removeFirst_32 : decode cX3_removeFirst 32 = .ok (.iload_n 3, 1) := by decide +kernel
theorem dX3_removeFirst_33 : decode cX3_removeFirst 33 = .ok (.iaload, 1) := by decide +kernel
theorem dX3_removeFirst_34 : decode cX3_removeFirst 34 = .ok (.invokevirtual 26, 3) := by decide +kernel
theorem dX3_removeFirst_37 : decode cX3_removeFirst 37 = .ok (.iinc 3 1, 3) := by decide +kernel
theorem dX3_removeFirst_40 : decode cX3_removeFirst 40 = .ok (.goto (-24), 3) := by decide +kernel
theorem dX3_removeFirst_43 : decode cX3_removeFirst 43 = .ok (.return_, 1) := by decide +kernel
set_option maxRecDepth 20000 in
theorem ggX4_init_X3_init : GoodIn wsX4_init wsX3_init := goodIn_r _ [9, 10, 2, 3, 11, 12, 13, 14, 15, 16] (by decide +kernel) (by decide +kernel)
set_option maxRecDepth 20000 in
theorem gX4_init_X3_init_n11 : GoodIn wsX4_init (wsX3_init) := ggX4_init_X3_init
theorem dX4_init_0 : decode cX4_init 0 = .ok (.aload_n 0, 1) := by decide +kernel
theorem dX4_init_1 : decode cX4_init 1 = .ok (.invokespecial 3, 3) := by decide +kernel
theorem dX4_init_4 : decode cX4_init 4 = .ok (.aload_n 0, 1) := by decide +kernel
theorem dX4_init_5 : decode cX4_init 5 = .ok (.new 9, 3) := by decide +kernel
theorem dX4_init_8 : decode cX4_init 8 = .ok (.dup, 1) := by decide +kernel
theorem dX4_init_9 : decode cX4_init 9 = .ok (.invokespecial 11, 3) := by decide +kernel
theorem dX4_init_12 : decode cX4_init 12 = .ok (.putfield 12, 3) := by decide +kernel
theorem dX4_init_15 : decode cX4_init 15 = .ok (.return_, 1) := by decide +kernel
theorem dX5_init_0 : decode cX5_init 0 = .ok (.aload_n 0, 1) := by decide +kernel
theorem dX5_init_1 : decode cX5_init 1 = .ok (.invokespecial 3, 3) := by decide +kernel
theorem dX5_init_4 : decode cX5_init 4 = .ok (.aload_n 0, 1) := by decide +kernel
theorem dX5_init_5 : decode cX5_init 5 = .ok (.iconst 5, 1) := by decide +kernel
theorem dX5_init_6 : decode cX5_init 6 = .ok (.newarray .int, 2) := by decide +kernel
theorem dX5_init_8 : decode cX5_init 8 = .ok (.putfield 9, 3) := by decide +kernel
theorem dX5_init_11 : decode cX5_init 11 = .ok (.aload_n 0, 1) := by decide +kernel
theorem dX5_init_12 : decode cX5_init 12 = .ok (.iconst 5, 1) := by decide +kernel
theorem dX5_init_13 : decode cX5_init 13 = .ok (.newarray .int, 2) := by decide +kernel
theorem dX5_init_15 : decode cX5_init 15 = .ok (.putfield 15, 3) := by decide +kernel
theorem dX5_init_18 : decode cX5_init 18 = .ok (.return_, 1) := by decide +kernel
set_option maxRecDepth 20000 in
theorem ggX5_copyFrom_X8_copyRow : GoodIn wsX5_copyFrom wsX8_copyRow := goodIn_r _ [6, 7, 8, 9, 10, 11, 12, 13, 14] (by decide +kernel) (by decide +kernel)
set_option maxRecDepth 20000 in
theorem gX5_copyFrom_X8_copyRow_n18 : GoodIn wsX5_copyFrom (wsX8_copyRow) := ggX5_copyFrom_X8_copyRow
theorem dX5_copyFrom_0 : decode cX5_copyFrom 0 = .ok (.aload_n 1, 1) := by decide +kernel
theorem dX5_copyFrom_1 : decode cX5_copyFrom 1 = .ok (.getfield 9, 3) := by decide +kernel
theorem dX5_copyFrom_4 : decode cX5_copyFrom 4 = .ok (.aload_n 0, 1) := by decide +kernel
theorem dX5_copyFrom_5 : decode cX5_copyFrom 5 = .ok (.getfield 9, 3) := by decide +kernel
theorem dX5_copyFrom_8 : decode cX5_copyFrom 8 = .ok (.invokestatic 18, 3) := by decide +kernel
theorem dX5_copyFrom_11 : decode cX5_copyFrom 11 = .ok (.aload_n 1, 1) := by decide +kernel
theorem dX5_copyFrom_12 : decode cX5_copyFrom 12 = .ok (.getfield 15, 3) := by decide +kernel
theorem dX5_copyFrom_15 : decode cX5_copyFrom 15 = .ok (.aload_n 0, 1) := by decide +kernel
theorem dX5_copyFrom_16 : decode cX5_copyFrom 16 = .ok (.getfield 15, 3) := by decide +kernel
theorem dX5_copyFrom_19 : decode cX5_copyFrom 19 = .ok (.invokestatic 18, 3) := by decide +kernel
theorem dX5_copyFrom_22 : decode cX5_copyFrom 22 = .ok (.aload_n 0, 1) := by decide +kernel
theorem dX5_copyFrom_23 : decode cX5_copyFrom 23 = .ok (.aload_n 1, 1) := by decide +kernel
theorem dX5_copyFrom_24 : decode cX5_copyFrom 24 = .ok (.getfield 22, 3) := by decide +kernel
theorem dX5_copyFrom_27 : decode cX5_copyFrom 27 = .ok (.putfield 22, 3) := by decide +kernel
theorem dX5_copyFrom_30 : decode cX5_copyFrom 30 = .ok (.return_, 1) := by decide +kernel
theorem dX5_has_0 : decode cX5_has 0 = .ok (.iload_n 1, 1) := by decide +kernel
theorem dX5_has_1 : decode cX5_has 1 = .ok (.ifCond .lt 15, 3) := by decide +kernel
theorem dX5_has_4 : decode cX5_has 4 = .ok (.iload_n 1, 1) := by decide +kernel
theorem dX5_has_5 : decode cX5_has 5 = .ok (.aload_n 0, 1) := by decide +kernel
theorem dX5_has_6 : decode cX5_has 6 = .ok (.getfield 22, 3) := by decide +kernel
theorem dX5_has_9 : decode cX5_has 9 = .ok (.if_icmp .ge 7, 3) := by decide +kernel
theorem dX5_has_12 : decode cX5_has 12 = .ok (.iconst 1, 1) := by decide +kernel
theorem dX5_has_13 : decode cX5_has 13 = .ok (.goto 4, 3) := by decide +kernel
theorem dX5_has_16 : decode cX5_has 16 = .ok (.iconst 0, 1) := by decide +kernel
theorem dX5_has_17 : decode cX5_has 17 = .ok (.ireturn, 1) := by decide +kernel
theorem dX5_add_0 : decode cX5_add 0 = .ok (.aload_n 0, 1) := by decide +kernel
theorem dX5_add_1 : decode cX5_add 1 = .ok (.getfield 22, 3) := by decide +kernel
theorem dX5_add_4 : decode cX5_add 4 = .ok (.iconst 5, 1) := by decide +kernel
theorem dX5_add_5 : decode cX5_add 5 = .ok (.if_icmp .ge 33, 3) := by decide +kernel
theorem dX5_add_8 : decode cX5_add 8 = .ok (.aload_n 0, 1) := by decide +kernel
theorem dX5_add_9 : decode cX5_add 9 = .ok (.getfield 9, 3) := by decide +kernel
theorem dX5_add_12 : decode cX5_add 12 = .ok (.aload_n 0, 1) := by decide +kernel
theorem dX5_add_13 : decode cX5_add 13 = .ok (.getfield 22, 3) := by decide +kernel
theorem dX5_add_16 : decode cX5_add 16 = .ok (.iload_n 1, 1) := by decide +kernel
theorem dX5_add_17 : decode cX5_add 17 = .ok (.iastore, 1) := by decide +kernel
theorem dX5_add_18 : decode cX5_add 18 = .ok (.aload_n 0, 1) := by decide +kernel
theorem dX5_add_19 : decode cX5_add 19 = .ok (.getfield 15, 3) := by decide +kernel
theorem dX5_add_22 : decode cX5_add 22 = .ok (.aload_n 0, 1) := by decide +kernel
theorem dX5_add_23 : decode cX5_add 23 = .ok (.getfield 22, 3) := by decide +kernel
theorem dX5_add_26 : decode cX5_add 26 = .ok (.iload_n 2, 1) := by decide +kernel
theorem dX5_add_27 : decode cX5_add 27 = .ok (.iastore, 1) := by decide +kernel
theorem dX5_add_28 : decode cX5_add 28 = .ok (.aload_n 0, 1) := by decide +kernel
theorem dX5_add_29 : decode cX5_add 29 = .ok (.dup, 1) := by decide +kernel
theorem dX5_add_30 : decode cX5_add 30 = .ok (.getfield 22, 3) := by decide +kernel
theorem dX5_add_33 : decode cX5_add 33 = .ok (.iconst 1, 1) := by decide +kernel
theorem dX5_add_34 : decode cX5_add 34 = .ok (.iadd, 1) := by decide +kernel
theorem dX5_add_35 : decode cX5_add 35 = .ok (.putfield 22, 3) := by decide +kernel
theorem dX5_add_38 : decode cX5_add 38 = .ok (.return_, 1) := by decide +kernel
set_option maxRecDepth 20000 in
theorem ggX5_isWithin_X5_has : GoodIn wsX5_isWithin wsX5_has := goodIn_r _ [7, 8, 16, 17, 18] (by decide +kernel) (by decide +kernel)
set_option maxRecDepth 20000 in
theorem gX5_isWithin_X5_has : GoodIn wsX5_isWithin (wsV RX5 26 RX5 yX5_has wsX5_has) := goodIn_app (goodIn_of _ (by decide +kernel)) ggX5_isWithin_X5_has
set_option maxRecDepth 20000 in
theorem ggX5_isWithin_X8_difference : GoodIn wsX5_isWithin wsX8_difference := goodIn_r _ [11, 12, 13, 14, 15] (by decide +kernel) (by decide +kernel)
set_option maxRecDepth 20000 in
theorem gX5_isWithin_X8_difference_n30 : GoodIn wsX5_isWithin (wsX8_difference) := ggX5_isWithin_X8_difference
theorem dX5_isWithin_0 : decode cX5_isWithin 0 = .ok (.aload_n 0, 1) := by decide +kernel
theorem dX5_isWithin_1 : decode cX5_isWithin 1 = .ok (.iload_n 1, 1) := by decide +kernel
theorem dX5_isWithin_2 : decode cX5_isWithin 2 = .ok (.invokevirtual 26, 3) := by decide +kernel
theorem dX5_isWithin_5 : decode cX5_isWithin 5 = .ok (.ifCond .eq 26, 3) := by decide +kernel
theorem dX5_isWithin_8 : decode cX5_isWithin 8 = .ok (.iload_n 2, 1) := by decide +kernel
theorem dX5_isWithin_9 : decode cX5_isWithin 9 = .ok (.aload_n 0, 1) := by decide +kernel
theorem dX5_isWithin_10 : decode cX5_isWithin 10 = .ok (.getfield 9, 3) := by decide +kernel
theorem dX5_isWithin_13 : decode cX5_isWithin 13 = .ok (.iload_n 1, 1) := by decide +kernel
theorem dX5_isWithin_14 : decode cX5_isWithin 14 = .ok (.iaload, 1) := by decide +kernel
theorem dX5_isWithin_15 : decode cX5_isWithin 15 = .ok (.invokestatic 30, 3) := by decide +kernel
theorem dX5_isWithin_18 : decode cX5_isWithin 18 = .ok (.aload_n 0, 1) := by decide +kernel
theorem dX5_isWithin_19 : decode cX5_isWithin 19 = .ok (.getfield 15, 3) := by decide +kernel
theorem dX5_isWithin_22 : decode cX5_isWithin 22 = .ok (.iload_n 1, 1) := by decide +kernel
theorem dX5_isWithin_23 : decode cX5_isWithin 23 = .ok (.iaload, 1) := by decide +kernel
theorem dX5_isWithin_24 : decode cX5_isWithin 24 = .ok (.if_icmp .gt 7, 3) := by decide +kernel
theorem dX5_isWithin_27 : decode cX5_isWithin 27 = .ok (.iconst 1, 1) := by decide +kernel
theorem dX5_isWithin_28 : decode cX5_isWithin 28 = .ok (.goto 4, 3) := by decide +kernel
theorem dX5_isWithin_31 : decode cX5_isWithin 31 = .ok (.iconst 0, 1) := by decide +kernel
theorem dX5_isWithin_32 : decode cX5_isWithin 32 = .ok (.ireturn, 1) := by decide +kernel
set_option maxRecDepth 20000 in
theorem ggX5_isMet_X1_seriesSize : GoodIn wsX5_isMet wsX1_seriesSize := goodIn_r _ [5, 6, 7, 8, 9, 4, 10, 11, 12, 13, 14, 15, 16, 43, 44, 45, 46, 47, 48, 49, 50] (by decide +kernel) (by decide +kernel)
set_option maxRecDepth 20000 in
theorem gX5_isMet_X1_seriesSize : GoodIn wsX5_isMet (wsV RX5 34 RX1 yX1_seriesSize wsX1_seriesSize) := goodIn_app (goodIn_of _ (by decide +kernel)) ggX5_isMet_X1_seriesSize
set_option maxRecDepth 20000 in
theorem ggX5_isMet_X1_mean : GoodIn wsX5_isMet wsX1_mean := goodIn_r _ [20, 6, 21, 7, 8, 9, 4, 10, 11, 12, 13, 14, 15, 16, 22, 23, 24, 43, 44, 45, 46, 47, 48, 49, 50] (by decide +kernel) (by decide +kernel)
set_option maxRecDepth 20000 in
theorem gX5_isMet_X1_mean : GoodIn wsX5_isMet (wsV RX5 40 RX1 yX1_mean wsX1_mean) := goodIn_app (goodIn_of _ (by decide +kernel)) ggX5_isMet_X1_mean
set_option maxRecDepth 20000 in
theorem ggX5_isMet_X5_isWithin : GoodIn wsX5_isMet wsX5_isWithin := goodIn_r _ [29, 30, 31, 32, 33, 34, 28, 35, 36, 37, 23, 38, 39, 40, 41, 42, 51, 52, 53] (by decide +kernel) (by decide +kernel)
set_option maxRecDepth 20000 in
theorem gX5_isMet_X5_isWithin : GoodIn wsX5_isMet (wsV RX5 43 RX5 yX5_isWithin wsX5_isWithin) := goodIn_app (goodIn_of _ (by decide +kernel)) ggX5_isMet_X5_isWithin
theorem dX5_isMet_0 : decode cX5_isMet 0 = .ok (.aload_n 2, 1) := by decide +kernel
theorem dX5_isMet_1 : decode cX5_isMet 1 = .ok (.invokevirtual 34, 3) := by decide +kernel
theorem dX5_isMet_4 : decode cX5_isMet 4 = .ok (.iconst 3, 1) := by decide +kernel
theorem dX5_isMet_5 : decode cX5_isMet 5 = .ok (.if_icmp .lt 19, 3) := by decide +kernel
theorem dX5_isMet_8 : decode cX5_isMet 8 = .ok (.aload_n 0, 1) := by decide +kernel
theorem dX5_isMet_9 : decode cX5_isMet 9 = .ok (.iload_n 1, 1) := by decide +kernel
theorem dX5_isMet_10 : decode cX5_isMet 10 = .ok (.aload_n 2, 1) := by decide +kernel
theorem dX5_isMet_11 : decode cX5_isMet 11 = .ok (.invokevirtual 40, 3) := by decide +kernel
theorem dX5_isMet_14 : decode cX5_isMet 14 = .ok (.invokevirtual 43, 3) := by decide +kernel
theorem dX5_isMet_17 : decode cX5_isMet 17 = .ok (.ifCond .eq 7, 3) := by decide +kernel
theorem dX5_isMet_20 : decode cX5_isMet 20 = .ok (.iconst 1, 1) := by decide +kernel
theorem dX5_isMet_21 : decode cX5_isMet 21 = .ok (.goto 4, 3) := by decide +kernel
theorem dX5_isMet_24 : decode cX5_isMet 24 = .ok (.iconst 0, 1) := by decide +kernel
theorem dX5_isMet_25 : decode cX5_isMet 25 = .ok (.ireturn, 1) := by decide +kernel
set_option maxRecDepth 20000 in
theorem ggX5_metBy_X5_isMet : GoodIn wsX5_metBy wsX5_isMet := goodIn_r _ [6, 7, 8, 9, 10, 11, 12, 13, 14, 15, 16, 17, 18, 19, 20, 21, 22, 23, 24, 25, 26, 27, 28, 29, 30, 31, 32, 33, 5, 34, 35, 36, 37, 38, 39, 40, 1, 41, 42, 43, 44, 45, 46, 50, 51, 52, 53, 54, 55, 56, 57, 47, 48, 49] (by decide +kernel) (by decide +kernel)
set_option maxRecDepth 20000 in
theorem gX5_metBy_X5_isMet : GoodIn wsX5_metBy (wsV RX5 47 RX5 yX5_isMet wsX5_isMet) := goodIn_app (goodIn_of _ (by decide +kernel)) ggX5_metBy_X5_isMet
theorem dX5_metBy_0 : decode cX5_metBy 0 = .ok (.iconst 0, 1) := by decide +kernel
theorem dX5_metBy_1 : decode cX5_metBy 1 = .ok (.istore_n 2, 1) := by decide +kernel
theorem dX5_metBy_2 : decode cX5_metBy 2 = .ok (.iconst 0, 1) := by decide +kernel
theorem dX5_metBy_3 : decode cX5_metBy 3 = .ok (.istore_n 3, 1) := by decide +kernel
theorem dX5_metBy_4 : decode cX5_metBy 4 = .ok (.iload_n 3, 1) := by decide +kernel
theorem dX5_metBy_5 : decode cX5_metBy 5 = .ok (.aload_n 0, 1) := by decide +kernel
theorem dX5_metBy_6 : decode cX5_metBy 6 = .ok (.getfield 22, 3) := by decide +kernel
theorem dX5_metBy_9 : decode cX5_metBy 9 = .ok (.if_icmp .ge 24, 3) := by decide +kernel
theorem dX5_metBy_12 : decode cX5_metBy 12 = .ok (.aload_n 0, 1) := by decide +kernel
theorem dX5_metBy_13 : decode cX5_metBy 13 = .ok (.iload_n 3, 1) := by decide +kernel
theorem dX5_metBy_14 : decode cX5_metBy 14 = .ok (.aload_n 1, 1) := by decide +kernel
theorem dX5_metBy_15 : decode cX5_metBy 15 = .ok (.invokevirtual 47, 3) := by decide +kernel
theorem dX5_metBy_18 : decode cX5_metBy 18 = .ok (.ifCond .eq 9, 3) := by decide +kernel
theorem dX5_metBy_21 : decode cX5_metBy 21 = .ok (.iload_n 2, 1) := by decide +kernel
theorem dX5_metBy_22 : decode cX5_metBy 22 = .ok (.iconst 1, 1) := by decide +kernel
theorem dX5_metBy_23 : decode cX5_metBy 23 = .ok (.iload_n 3, 1) := by decide +kernel
theorem dX5_metBy_24 : decode cX5_metBy 24 = .ok (.ishl, 1) := by decide +kernel
theorem dX5_metBy_25 : decode cX5_metBy 25 = .ok (.ior, 1) := by decide +kernel
theorem dX5_metBy_26 : decode cX5_metBy 26 = .ok (.istore_n 2, 1) := by decide +kernel
theorem dX5_metBy_27 : decode cX5_metBy 27 = .ok (.iinc 3 1, 3) := by decide +kernel
theorem dX5_metBy_30 : decode cX5_metBy 30 = .ok (.goto (-26), 3) := by decide +kernel
theorem dX5_metBy_33 : decode cX5_metBy 33 = .ok (.iload_n 2, 1) := by decide +kernel
theorem dX5_metBy_34 : decode cX5_metBy 34 = .ok (.ireturn, 1) := by decide +kernel
set_option maxRecDepth 20000 in
theorem ggX5_shotsWithin_X1_isOfSeries : GoodIn wsX5_shotsWithin wsX1_isOfSeries := goodIn_r _ [7, 8, 9, 10, 11, 12, 6, 13, 14, 34, 35, 36, 37, 38, 39, 40, 41] (by decide +kernel) (by decide +kernel)
set_option maxRecDepth 20000 in
theorem gX5_shotsWithin_X1_isOfSeries : GoodIn wsX5_shotsWithin (wsV RX5 52 RX1 yX1_isOfSeries wsX1_isOfSeries) := goodIn_app (goodIn_of _ (by decide +kernel)) ggX5_shotsWithin_X1_isOfSeries
set_option maxRecDepth 20000 in
theorem ggX5_shotsWithin_X5_isWithin : GoodIn wsX5_shotsWithin wsX5_isWithin := goodIn_r _ [19, 20, 21, 22, 23, 24, 18, 25, 26, 27, 28, 29, 30, 31, 32, 33, 42, 43, 44] (by decide +kernel) (by decide +kernel)
set_option maxRecDepth 20000 in
theorem gX5_shotsWithin_X5_isWithin : GoodIn wsX5_shotsWithin (wsV RX5 43 RX5 yX5_isWithin wsX5_isWithin) := goodIn_app (goodIn_of _ (by decide +kernel)) ggX5_shotsWithin_X5_isWithin
theorem dX5_shotsWithin_0 : decode cX5_shotsWithin 0 = .ok (.iconst 0, 1) := by decide +kernel
theorem dX5_shotsWithin_1 : decode cX5_shotsWithin 1 = .ok (.istore_n 3, 1) := by decide +kernel
theorem dX5_shotsWithin_2 : decode cX5_shotsWithin 2 = .ok (.iconst 0, 1) := by decide +kernel
theorem dX5_shotsWithin_3 : decode cX5_shotsWithin 3 = .ok (.istore 4, 2) := by decide +kernel
theorem dX5_shotsWithin_5 : decode cX5_shotsWithin 5 = .ok (.iload 4, 2) := by decide +kernel
theorem dX5_shotsWithin_7 : decode cX5_shotsWithin 7 = .ok (.aload_n 2, 1) := by decide +kernel
theorem dX5_shotsWithin_8 : decode cX5_shotsWithin 8 = .ok (.getfield 51, 3) := by decide +kernel
theorem dX5_shotsWithin_11 : decode cX5_shotsWithin 11 = .ok (.if_icmp .ge 36, 3) := by decide +kernel
theorem dX5_shotsWithin_14 : decode cX5_shotsWithin 14 = .ok (.aload_n 2, 1) := by decide +kernel
theorem dX5_shotsWithin_15 : decode cX5_shotsWithin 15 = .ok (.iload 4, 2) := by decide +kernel
theorem dX5_shotsWithin_17 : decode cX5_shotsWithin 17 = .ok (.invokevirtual 52, 3) := by decide +kernel
theorem dX5_shotsWithin_20 : decode cX5_shotsWithin 20 = .ok (.ifCond .eq 21, 3) := by decide +kernel
theorem dX5_shotsWithin_23 : decode cX5_shotsWithin 23 = .ok (.aload_n 0, 1) := by decide +kernel
theorem dX5_shotsWithin_24 : decode cX5_shotsWithin 24 = .ok (.iload_n 1, 1) := by decide +kernel
theorem dX5_shotsWithin_25 : decode cX5_shotsWithin 25 = .ok (.aload_n 2, 1) := by decide +kernel
theorem dX5_shotsWithin_26 : decode cX5_shotsWithin 26 = .ok (.getfield 55, 3) := by decide +kernel
theorem dX5_shotsWithin_29 : decode cX5_shotsWithin 29 = .ok (.iload 4, 2) := by decide +kernel
theorem dX5_shotsWithin_31 : decode cX5_shotsWithin 31 = .ok (.iaload, 1) := by decide +kernel
theorem dX5_shotsWithin_32 : decode cX5_shotsWithin 32 = .ok (.invokevirtual 43, 3) := by decide +kernel
theorem dX5_shotsWithin_35 : decode cX5_shotsWithin 35 = .ok (.ifCond .eq 6, 3) := by decide +kernel
theorem dX5_shotsWithin_38 : decode cX5_shotsWithin 38 = .ok (.iinc 3 1, 3) := by decide +kernel
theorem dX5_shotsWithin_41 : decode cX5_shotsWithin 41 = .ok (.iinc 4 1, 3) := by decide +kernel
theorem dX5_shotsWithin_44 : decode cX5_shotsWithin 44 = .ok (.goto (-39), 3) := by decide +kernel
theorem dX5_shotsWithin_47 : decode cX5_shotsWithin 47 = .ok (.iload_n 3, 1) := by decide +kernel
theorem dX5_shotsWithin_48 : decode cX5_shotsWithin 48 = .ok (.ireturn, 1) := by decide +kernel
set_option maxRecDepth 20000 in
theorem ggX6_init_X0_init : GoodIn wsX6_init wsX0_init := goodIn_r _ [23, 24, 2, 3, 25, 26, 27, 28, 29, 30, 31, 32, 33, 34, 35, 36, 37, 38, 39, 61, 62, 63, 64, 65, 66, 67, 68, 69] (by decide +kernel) (by decide +kernel)
set_option maxRecDepth 20000 in
theorem gX6_init_X0_init : GoodIn wsX6_init (wsX0_init) := ggX6_init_X0_init
set_option maxRecDepth 20000 in
theorem ggX6_init_X3_init : GoodIn wsX6_init wsX3_init := goodIn_r _ [41, 42, 2, 3, 26, 43, 44, 75, 76, 77] (by decide +kernel) (by decide +kernel)
set_option maxRecDepth 20000 in
theorem gX6_init_X3_init_n20 : GoodIn wsX6_init (wsX3_init) := ggX6_init_X3_init
set_option maxRecDepth 20000 in
theorem ggX6_init_X1_init : GoodIn wsX6_init wsX1_init := goodIn_r _ [46, 47, 2, 3, 26, 48, 49, 50, 51, 52, 53, 54, 55, 78, 79, 80, 81, 82, 83, 84, 85] (by decide +kernel) (by decide +kernel)
set_option maxRecDepth 20000 in
theorem gX6_init_X1_init_n27 : GoodIn wsX6_init (wsX1_init) := ggX6_init_X1_init
set_option maxRecDepth 20000 in
theorem ggX6_init_X5_init : GoodIn wsX6_init wsX5_init := goodIn_r _ [57, 58, 2, 3, 26, 59, 60, 86, 87, 88] (by decide +kernel) (by decide +kernel)
set_option maxRecDepth 20000 in
theorem gX6_init_X5_init_n34 : GoodIn wsX6_init (wsX5_init) := ggX6_init_X5_init
theorem dX6_init_0 : decode cX6_init 0 = .ok (.aload_n 0, 1) := by decide +kernel
theorem dX6_init_1 : decode cX6_init 1 = .ok (.invokespecial 3, 3) := by decide +kernel
theorem dX6_init_4 : decode cX6_init 4 = .ok (.aload_n 0, 1) := by decide +kernel
theorem dX6_init_5 : decode cX6_init 5 = .ok (.new 9, 3) := by decide +kernel
theorem dX6_init_8 : decode cX6_init 8 = .ok (.dup, 1) := by decide +kernel
theorem dX6_init_9 : decode cX6_init 9 = .ok (.invokespecial 11, 3) := by decide +kernel
theorem dX6_init_12 : decode cX6_init 12 = .ok (.putfield 12, 3) := by decide +kernel
theorem dX6_init_15 : decode cX6_init 15 = .ok (.aload_n 0, 1) := by decide +kernel
theorem dX6_init_16 : decode cX6_init 16 = .ok (.new 18, 3) := by decide +kernel
theorem dX6_init_19 : decode cX6_init 19 = .ok (.dup, 1) := by decide +kernel
theorem dX6_init_20 : decode cX6_init 20 = .ok (.invokespecial 20, 3) := by decide +kernel
theorem dX6_init_23 : decode cX6_init 23 = .ok (.putfield 21, 3) := by decide +kernel
theorem dX6_init_26 : decode cX6_init 26 = .ok (.aload_n 0, 1) := by decide +kernel
theorem dX6_init_27 : decode cX6_init 27 = .ok (.new 25, 3) := by decide +kernel
theorem dX6_init_30 : decode cX6_init 30 = .ok (.dup, 1) := by decide +kernel
theorem dX6_init_31 : decode cX6_init 31 = .ok (.invokespecial 27, 3) := by decide +kernel
theorem dX6_init_34 : decode cX6_init 34 = .ok (.putfield 28, 3) := by decide +kernel
theorem dX6_init_37 : decode cX6_init 37 = .ok (.aload_n 0, 1) := by decide +kernel
theorem dX6_init_38 : decode cX6_init 38 = .ok (.new 32, 3) := by decide +kernel
theorem dX6_init_41 : decode cX6_init 41 = .ok (.dup, 1) := by decide +kernel
theorem dX6_init_42 : decode cX6_init 42 = .ok (.invokespecial 34, 3) := by decide +kernel
theorem dX6_init_45 : decode cX6_init 45 = .ok (.putfield 35, 3) := by decide +kernel
theorem dX6_init_48 : decode cX6_init 48 = .ok (.aload_n 0, 1) := by decide +kernel
theorem dX6_init_49 : decode cX6_init 49 = .ok (.bipush 30, 2) := by decide +kernel
theorem dX6_init_51 : decode cX6_init 51 = .ok (.putfield 39, 3) := by decide +kernel
theorem dX6_init_54 : decode cX6_init 54 = .ok (.return_, 1) := by decide +kernel
set_option maxRecDepth 20000 in
theorem ggX6_copyFrom_X0_copyFrom : GoodIn wsX6_copyFrom wsX0_copyFrom := goodIn_r _ [10, 11, 12, 13, 14, 15, 16, 17, 18, 19, 20, 21, 22, 23, 24, 25, 26, 27, 28, 29, 30, 65, 66, 67, 68, 69, 70, 71, 72, 73] (by decide +kernel) (by decide +kernel)
set_option maxRecDepth 20000 in
theorem gX6_copyFrom_X0_copyFrom : GoodIn wsX6_copyFrom (wsV RX6 43 RX0 yX0_copyFrom wsX0_copyFrom) := goodIn_app (goodIn_of _ (by decide +kernel)) ggX6_copyFrom_X0_copyFrom
set_option maxRecDepth 20000 in
theorem ggX6_copyFrom_X3_copyFrom : GoodIn wsX6_copyFrom wsX3_copyFrom := goodIn_r _ [35, 36, 37, 38, 20, 21, 22, 23, 24, 25, 26, 27, 28, 29, 30, 74, 75, 76] (by decide +kernel) (by decide +kernel)
set_option maxRecDepth 20000 in
theorem gX6_copyFrom_X3_copyFrom : GoodIn wsX6_copyFrom (wsV RX6 47 RX3 yX3_copyFrom wsX3_copyFrom) := goodIn_app (goodIn_of _ (by decide +kernel)) ggX6_copyFrom_X3_copyFrom
set_option maxRecDepth 20000 in
theorem ggX6_copyFrom_X1_copyFrom : GoodIn wsX6_copyFrom wsX1_copyFrom := goodIn_r _ [43, 44, 45, 46, 47, 48, 49, 50, 51, 20, 21, 22, 23, 24, 25, 26, 27, 28, 29, 30, 77, 78, 79, 80, 81, 82, 83, 84] (by decide +kernel) (by decide +kernel)
set_option maxRecDepth 20000 in
theorem gX6_copyFrom_X1_copyFrom : GoodIn wsX6_copyFrom (wsV RX6 50 RX1 yX1_copyFrom wsX1_copyFrom) := goodIn_app (goodIn_of _ (by decide +kernel)) ggX6_copyFrom_X1_copyFrom
set_option maxRecDepth 20000 in
theorem ggX6_copyFrom_X5_copyFrom : GoodIn wsX6_copyFrom wsX5_copyFrom := goodIn_r _ [56, 57, 58, 59, 20, 21, 22, 23, 24, 25, 26, 27, 28, 29, 30, 85, 86, 87] (by decide +kernel) (by decide +kernel)
set_option maxRecDepth 20000 in
theorem gX6_copyFrom_X5_copyFrom : GoodIn wsX6_copyFrom (wsV RX6 53 RX5 yX5_copyFrom wsX5_copyFrom) := goodIn_app (goodIn_of _ (by decide +kernel)) ggX6_copyFrom_X5_copyFrom
theorem dX6_copyFrom_0 : decode cX6_copyFrom 0 = .ok (.aload_n 0, 1) := by decide +kernel
theorem dX6_copyFrom_1 : decode cX6_copyFrom 1 = .ok (.getfield 12, 3) := by decide +kernel
theorem dX6_copyFrom_4 : decode cX6_copyFrom 4 = .ok (.aload_n 1, 1) := by decide +kernel
theorem dX6_copyFrom_5 : decode cX6_copyFrom 5 = .ok (.getfield 12, 3) := by decide +kernel
theorem dX6_copyFrom_8 : decode cX6_copyFrom 8 = .ok (.invokevirtual 43, 3) := by decide +kernel
theorem dX6_copyFrom_11 : decode cX6_copyFrom 11 = .ok (.aload_n 0, 1) := by decide +kernel
theorem dX6_copyFrom_12 : decode cX6_copyFrom 12 = .ok (.getfield 21, 3) := by decide +kernel
theorem dX6_copyFrom_15 : decode cX6_copyFrom 15 = .ok (.aload_n 1, 1) := by decide +kernel
theorem dX6_copyFrom_16 : decode cX6_copyFrom 16 = .ok (.getfield 21, 3) := by decide +kernel
theorem dX6_copyFrom_19 : decode cX6_copyFrom 19 = .ok (.invokevirtual 47, 3) := by decide +kernel
theorem dX6_copyFrom_22 : decode cX6_copyFrom 22 = .ok (.aload_n 0, 1) := by decide +kernel
theorem dX6_copyFrom_23 : decode cX6_copyFrom 23 = .ok (.getfield 28, 3) := by decide +kernel
theorem dX6_copyFrom_26 : decode cX6_copyFrom 26 = .ok (.aload_n 1, 1) := by decide +kernel
theorem dX6_copyFrom_27 : decode cX6_copyFrom 27 = .ok (.getfield 28, 3) := by decide +kernel
theorem dX6_copyFrom_30 : decode cX6_copyFrom 30 = .ok (.invokevirtual 50, 3) := by decide +kernel
theorem dX6_copyFrom_33 : decode cX6_copyFrom 33 = .ok (.aload_n 0, 1) := by decide +kernel
theorem dX6_copyFrom_34 : decode cX6_copyFrom 34 = .ok (.getfield 35, 3) := by decide +kernel
theorem dX6_copyFrom_37 : decode cX6_copyFrom 37 = .ok (.aload_n 1, 1) := by decide +kernel
theorem dX6_copyFrom_38 : decode cX6_copyFrom 38 = .ok (.getfield 35, 3) := by decide +kernel
theorem dX6_copyFrom_41 : decode cX6_copyFrom 41 = .ok (.invokevirtual 53, 3) := by decide +kernel
theorem dX6_copyFrom_44 : decode cX6_copyFrom 44 = .ok (.aload_n 0, 1) := by decide +kernel
theorem dX6_copyFrom_45 : decode cX6_copyFrom 45 = .ok (.aload_n 1, 1) := by decide +kernel
theorem dX6_copyFrom_46 : decode cX6_copyFrom 46 = .ok (.getfield 39, 3) := by decide +kernel
theorem dX6_copyFrom_49 : decode cX6_copyFrom 49 = .ok (.putfield 39, 3) := by decide +kernel
theorem dX6_copyFrom_52 : decode cX6_copyFrom 52 = .ok (.return_, 1) := by decide +kernel
set_option maxRecDepth 20000 in
theorem ggX6_fireFirst_X6_fireOne : GoodIn wsX6_fireFirst wsX6_fireOne := goodIn_r _ [14, 9, 15, 16, 17, 18, 19, 20, 21, 22, 23, 24, 25, 26, 27, 28, 29, 30, 31, 32, 33, 4, 5, 6, 34, 35, 36, 37, 38, 39, 40, 41, 42, 43, 44, 45, 46, 47, 48, 49, 50, 51, 52, 53, 54, 55, 56, 57, 58, 59, 60, 61, 62, 63, 64, 65, 66, 67, 68, 69, 70, 71, 72, 73, 74, 75, 76, 77, 78, 79, 80, 81, 82, 83, 84, 85, 108, 109, 110, 111, 112, 116, 117, 118, 119, 120, 121, 122, 123, 124, 125, 126, 127, 128, 129, 130, 131, 132] (by decide +kernel) (by decide +kernel)
set_option maxRecDepth 20000 in
theorem gX6_fireFirst_X6_fireOne : GoodIn wsX6_fireFirst (wsV RX6 72 RX6 yX6_fireOne wsX6_fireOne) := goodIn_app (goodIn_of _ (by decide +kernel)) ggX6_fireFirst_X6_fireOne
set_option maxRecDepth 20000 in
theorem ggX6_fireFirst_X0_doHalves : GoodIn wsX6_fireFirst wsX0_doHalves := goodIn_r _ [89, 27, 90, 23, 24, 25, 19, 26, 91, 92, 93, 94, 22, 34, 35, 5, 36, 116, 117, 118, 119, 120, 121, 122, 123, 124] (by decide +kernel) (by decide +kernel)
set_option maxRecDepth 20000 in
theorem gX6_fireFirst_X0_doHalves : GoodIn wsX6_fireFirst (wsV RX6 76 RX0 yX0_doHalves wsX0_doHalves) := goodIn_app (goodIn_of _ (by decide +kernel)) ggX6_fireFirst_X0_doHalves
set_option maxRecDepth 20000 in
theorem ggX6_fireFirst_X3_removeFirst : GoodIn wsX6_fireFirst wsX3_removeFirst := goodIn_r _ [99, 100, 101, 35, 5, 36, 102, 103, 104, 105, 106, 98, 107, 113, 114, 115] (by decide +kernel) (by decide +kernel)
set_option maxRecDepth 20000 in
theorem gX6_fireFirst_X3_removeFirst : GoodIn wsX6_fireFirst (wsV RX6 80 RX3 yX3_removeFirst wsX3_removeFirst) := goodIn_app (goodIn_of _ (by decide +kernel)) ggX6_fireFirst_X3_removeFirst
theorem dX6_fireFirst_0 : decode cX6_fireFirst 0 = .ok (.iconst 0, 1) := by decide +kernel
theorem dX6_fireFirst_1 : decode cX6_fireFirst 1 = .ok (.istore_n 3, 1) := by decide +kernel
theorem dX6_fireFirst_2 : decode cX6_fireFirst 2 = .ok (.iload_n 1, 1) := by decide +kernel
theorem dX6_fireFirst_3 : decode cX6_fireFirst 3 = .ok (.aload_n 0, 1) := by decide +kernel
theorem dX6_fireFirst_4 : decode cX6_fireFirst 4 = .ok (.getfield 21, 3) := by decide +kernel
theorem dX6_fireFirst_7 : decode cX6_fireFirst 7 = .ok (.getfield 56, 3) := by decide +kernel
theorem dX6_fireFirst_10 : decode cX6_fireFirst 10 = .ok (.invokestatic 59, 3) := by decide +kernel
theorem dX6_fireFirst_13 : decode cX6_fireFirst 13 = .ok (.istore 4, 2) := by decide +kernel
theorem dX6_fireFirst_15 : decode cX6_fireFirst 15 = .ok (.iconst 0, 1) := by decide +kernel
theorem dX6_fireFirst_16 : decode cX6_fireFirst 16 = .ok (.istore 5, 2) := by decide +kernel
theorem dX6_fireFirst_18 : decode cX6_fireFirst 18 = .ok (.iload 5, 2) := by decide +kernel
theorem dX6_fireFirst_20 : decode cX6_fireFirst 20 = .ok (.iload 4, 2) := by decide +kernel
theorem dX6_fireFirst_22 : decode cX6_fireFirst 22 = .ok (.if_icmp .ge 47, 3) := by decide +kernel
theorem dX6_fireFirst_25 : decode cX6_fireFirst 25 = .ok (.aload_n 0, 1) := by decide +kernel
theorem dX6_fireFirst_26 : decode cX6_fireFirst 26 = .ok (.aload_n 0, 1) := by decide +kernel
theorem dX6_fireFirst_27 : decode cX6_fireFirst 27 = .ok (.getfield 21, 3) := by decide +kernel
theorem dX6_fireFirst_30 : decode cX6_fireFirst 30 = .ok (.getfield 65, 3) := by decide +kernel
theorem dX6_fireFirst_33 : decode cX6_fireFirst 33 = .ok (.iload 5, 2) := by decide +kernel
theorem dX6_fireFirst_35 : decode cX6_fireFirst 35 = .ok (.iaload, 1) := by decide +kernel
theorem dX6_fireFirst_36 : decode cX6_fireFirst 36 = .ok (.aload_n 0, 1) := by decide +kernel
theorem dX6_fireFirst_37 : decode cX6_fireFirst 37 = .ok (.getfield 21, 3) := by decide +kernel
theorem dX6_fireFirst_40 : decode cX6_fireFirst 40 = .ok (.getfield 69, 3) := by decide +kernel
theorem dX6_fireFirst_43 : decode cX6_fireFirst 43 = .ok (.iload 5, 2) := by decide +kernel
theorem dX6_fireFirst_45 : decode cX6_fireFirst 45 = .ok (.iaload, 1) := by decide +kernel
theorem dX6_fireFirst_46 : decode cX6_fireFirst 46 = .ok (.invokevirtual 72, 3) := by decide +kernel
theorem dX6_fireFirst_49 : decode cX6_fireFirst 49 = .ok (.ifCond .eq 14, 3) := by decide +kernel
theorem dX6_fireFirst_52 : decode cX6_fireFirst 52 = .ok (.aload_n 0, 1) := by decide +kernel
theorem dX6_fireFirst_53 : decode cX6_fireFirst 53 = .ok (.getfield 12, 3) := by decide +kernel
theorem dX6_fireFirst_56 : decode cX6_fireFirst 56 = .ok (.iload_n 2, 1) := by decide +kernel
theorem dX6_fireFirst_57 : decode cX6_fireFirst 57 = .ok (.invokevirtual 76, 3) := by decide +kernel
theorem dX6_fireFirst_60 : decode cX6_fireFirst 60 = .ok (.iinc 3 1, 3) := by decide +kernel
theorem dX6_fireFirst_63 : decode cX6_fireFirst 63 = .ok (.iinc 5 1, 3) := by decide +kernel
theorem dX6_fireFirst_66 : decode cX6_fireFirst 66 = .ok (.goto (-48), 3) := by decide +kernel
theorem dX6_fireFirst_69 : decode cX6_fireFirst 69 = .ok (.aload_n 0, 1) := by decide +kernel
theorem dX6_fireFirst_70 : decode cX6_fireFirst 70 = .ok (.getfield 21, 3) := by decide +kernel
theorem dX6_fireFirst_73 : decode cX6_fireFirst 73 = .ok (.iload 4, 2) := by decide +kernel
theorem dX6_fireFirst_75 : decode cX6_fireFirst 75 = .ok (.invokevirtual 80, 3) := by decide +kernel
theorem dX6_fireFirst_78 : decode cX6_fireFirst 78 = .ok (.iload_n 3, 1) := by decide +kernel
theorem dX6_fireFirst_79 : decode cX6_fireFirst 79 = .ok (.ireturn, 1) := by decide +kernel
set_option maxRecDepth 20000 in
theorem ggX6_fireOne_X0_reasonNow : GoodIn wsX6_fireOne wsX0_reasonNow := goodIn_r _ [7, 8, 9, 10, 11, 12, 6, 13, 14, 15, 16, 17, 18, 19, 20, 21, 22, 23, 24, 25, 26, 81, 82, 83, 84, 85, 86, 87, 88, 89] (by decide +kernel) (by decide +kernel)
set_option maxRecDepth 20000 in
theorem gX6_fireOne_X0_reasonNow : GoodIn wsX6_fireOne (wsV RX6 83 RX0 yX0_reasonNow wsX0_reasonNow) := goodIn_app (goodIn_of _ (by decide +kernel)) ggX6_fireOne_X0_reasonNow
set_option maxRecDepth 20000 in
theorem ggX6_fireOne_X0_firstHeight : GoodIn wsX6_fireOne wsX0_firstHeight := goodIn_r _ [30, 31, 32, 33, 34, 35, 22, 36, 37, 38, 39, 6, 40, 41, 42, 43, 44, 45, 46, 47, 48, 49, 19, 81, 82, 83, 84, 85, 86, 87, 88, 89] (by decide +kernel) (by decide +kernel)
set_option maxRecDepth 20000 in
theorem gX6_fireOne_X0_firstHeight : GoodIn wsX6_fireOne (wsV RX6 87 RX0 yX0_firstHeight wsX0_firstHeight) := goodIn_app (goodIn_of _ (by decide +kernel)) ggX6_fireOne_X0_firstHeight
set_option maxRecDepth 20000 in
theorem ggX6_fireOne_X0_toldSpeed : GoodIn wsX6_fireOne wsX0_toldSpeed := goodIn_r _ [53, 33, 32, 31, 37, 38, 39, 6, 40, 41, 42, 54, 44, 55, 56, 43, 45, 81, 82, 83, 84, 85, 86, 87, 88, 89] (by decide +kernel) (by decide +kernel)
set_option maxRecDepth 20000 in
theorem gX6_fireOne_X0_toldSpeed : GoodIn wsX6_fireOne (wsV RX6 90 RX0 yX0_toldSpeed wsX0_toldSpeed) := goodIn_app (goodIn_of _ (by decide +kernel)) ggX6_fireOne_X0_toldSpeed
set_option maxRecDepth 20000 in
theorem ggX6_fireOne_X0_wholeMass : GoodIn wsX6_fireOne wsX0_wholeMass := goodIn_r _ [40, 41, 42, 81, 82, 83, 84, 85, 86, 87, 88, 89] (by decide +kernel) (by decide +kernel)
set_option maxRecDepth 20000 in
theorem gX6_fireOne_X0_wholeMass : GoodIn wsX6_fireOne (wsV RX6 93 RX0 yX0_wholeMass wsX0_wholeMass) := goodIn_app (goodIn_of _ (by decide +kernel)) ggX6_fireOne_X0_wholeMass
set_option maxRecDepth 20000 in
theorem ggX6_fireOne_X1_add : GoodIn wsX6_fireOne wsX1_add := goodIn_r _ [62, 63, 64, 65, 66, 67, 68, 69, 70, 90, 91, 92, 93, 94, 95, 96, 97] (by decide +kernel) (by decide +kernel)
set_option maxRecDepth 20000 in
theorem gX6_fireOne_X1_add : GoodIn wsX6_fireOne (wsV RX6 96 RX1 yX1_add wsX1_add) := goodIn_app (goodIn_of _ (by decide +kernel)) ggX6_fireOne_X1_add
set_option maxRecDepth 20000 in
theorem ggX6_fireOne_X0_hold : GoodIn wsX6_fireOne wsX0_hold := goodIn_r _ [74, 42, 75, 8, 14, 81, 82, 83, 84, 85, 86, 87, 88, 89] (by decide +kernel) (by decide +kernel)
set_option maxRecDepth 20000 in
theorem gX6_fireOne_X0_hold : GoodIn wsX6_fireOne (wsV RX6 100 RX0 yX0_hold wsX0_hold) := goodIn_app (goodIn_of _ (by decide +kernel)) ggX6_fireOne_X0_hold
theorem dX6_fireOne_0 : decode cX6_fireOne 0 = .ok (.aload_n 0, 1) := by decide +kernel
theorem dX6_fireOne_1 : decode cX6_fireOne 1 = .ok (.getfield 12, 3) := by decide +kernel
theorem dX6_fireOne_4 : decode cX6_fireOne 4 = .ok (.invokevirtual 83, 3) := by decide +kernel
theorem dX6_fireOne_7 : decode cX6_fireOne 7 = .ok (.istore_n 3, 1) := by decide +kernel
theorem dX6_fireOne_8 : decode cX6_fireOne 8 = .ok (.iload_n 3, 1) := by decide +kernel
theorem dX6_fireOne_9 : decode cX6_fireOne 9 = .ok (.ifCond .ne 7, 3) := by decide +kernel
theorem dX6_fireOne_12 : decode cX6_fireOne 12 = .ok (.iconst 1, 1) := by decide +kernel
theorem dX6_fireOne_13 : decode cX6_fireOne 13 = .ok (.goto 4, 3) := by decide +kernel
theorem dX6_fireOne_16 : decode cX6_fireOne 16 = .ok (.iconst 0, 1) := by decide +kernel
theorem dX6_fireOne_17 : decode cX6_fireOne 17 = .ok (.istore 4, 2) := by decide +kernel
theorem dX6_fireOne_19 : decode cX6_fireOne 19 = .ok (.iload 4, 2) := by decide +kernel
theorem dX6_fireOne_21 : decode cX6_fireOne 21 = .ok (.ifCond .eq 15, 3) := by decide +kernel
theorem dX6_fireOne_24 : decode cX6_fireOne 24 = .ok (.aload_n 0, 1) := by decide +kernel
theorem dX6_fireOne_25 : decode cX6_fireOne 25 = .ok (.getfield 12, 3) := by decide +kernel
theorem dX6_fireOne_28 : decode cX6_fireOne 28 = .ok (.iload_n 1, 1) := by decide +kernel
theorem dX6_fireOne_29 : decode cX6_fireOne 29 = .ok (.iload_n 2, 1) := by decide +kernel
theorem dX6_fireOne_30 : decode cX6_fireOne 30 = .ok (.invokevirtual 87, 3) := by decide +kernel
theorem dX6_fireOne_33 : decode cX6_fireOne 33 = .ok (.goto 4, 3) := by decide +kernel
theorem dX6_fireOne_36 : decode cX6_fireOne 36 = .ok (.iconst 0, 1) := by decide +kernel
theorem dX6_fireOne_37 : decode cX6_fireOne 37 = .ok (.istore 5, 2) := by decide +kernel
theorem dX6_fireOne_39 : decode cX6_fireOne 39 = .ok (.iload 4, 2) := by decide +kernel
theorem dX6_fireOne_41 : decode cX6_fireOne 41 = .ok (.ifCond .eq 16, 3) := by decide +kernel
theorem dX6_fireOne_44 : decode cX6_fireOne 44 = .ok (.aload_n 0, 1) := by decide +kernel
theorem dX6_fireOne_45 : decode cX6_fireOne 45 = .ok (.getfield 12, 3) := by decide +kernel
theorem dX6_fireOne_48 : decode cX6_fireOne 48 = .ok (.iload 5, 2) := by decide +kernel
theorem dX6_fireOne_50 : decode cX6_fireOne 50 = .ok (.iload_n 1, 1) := by decide +kernel
theorem dX6_fireOne_51 : decode cX6_fireOne 51 = .ok (.invokevirtual 90, 3) := by decide +kernel
theorem dX6_fireOne_54 : decode cX6_fireOne 54 = .ok (.goto 4, 3) := by decide +kernel
theorem dX6_fireOne_57 : decode cX6_fireOne 57 = .ok (.iconst 0, 1) := by decide +kernel
theorem dX6_fireOne_58 : decode cX6_fireOne 58 = .ok (.istore 6, 2) := by decide +kernel
theorem dX6_fireOne_60 : decode cX6_fireOne 60 = .ok (.aload_n 0, 1) := by decide +kernel
theorem dX6_fireOne_61 : decode cX6_fireOne 61 = .ok (.getfield 28, 3) := by decide +kernel
theorem dX6_fireOne_64 : decode cX6_fireOne 64 = .ok (.iload_n 1, 1) := by decide +kernel
theorem dX6_fireOne_65 : decode cX6_fireOne 65 = .ok (.iload_n 2, 1) := by decide +kernel
theorem dX6_fireOne_66 : decode cX6_fireOne 66 = .ok (.iload_n 3, 1) := by decide +kernel
theorem dX6_fireOne_67 : decode cX6_fireOne 67 = .ok (.iload 5, 2) := by decide +kernel
theorem dX6_fireOne_69 : decode cX6_fireOne 69 = .ok (.iload 6, 2) := by decide +kernel
theorem dX6_fireOne_71 : decode cX6_fireOne 71 = .ok (.aload_n 0, 1) := by decide +kernel
theorem dX6_fireOne_72 : decode cX6_fireOne 72 = .ok (.getfield 12, 3) := by decide +kernel
theorem dX6_fireOne_75 : decode cX6_fireOne 75 = .ok (.invokevirtual 93, 3) := by decide +kernel
theorem dX6_fireOne_78 : decode cX6_fireOne 78 = .ok (.invokevirtual 96, 3) := by decide +kernel
theorem dX6_fireOne_81 : decode cX6_fireOne 81 = .ok (.iload 4, 2) := by decide +kernel
theorem dX6_fireOne_83 : decode cX6_fireOne 83 = .ok (.ifCond .eq 13, 3) := by decide +kernel
theorem dX6_fireOne_86 : decode cX6_fireOne 86 = .ok (.aload_n 0, 1) := by decide +kernel
theorem dX6_fireOne_87 : decode cX6_fireOne 87 = .ok (.getfield 12, 3) := by decide +kernel
theorem dX6_fireOne_90 : decode cX6_fireOne 90 = .ok (.iload_n 1, 1) := by decide +kernel
theorem dX6_fireOne_91 : decode cX6_fireOne 91 = .ok (.iload 5, 2) := by decide +kernel
theorem dX6_fireOne_93 : decode cX6_fireOne 93 = .ok (.invokevirtual 100, 3) := by decide +kernel
theorem dX6_fireOne_96 : decode cX6_fireOne 96 = .ok (.iload 4, 2) := by decide +kernel
theorem dX6_fireOne_98 : decode cX6_fireOne 98 = .ok (.ireturn, 1) := by decide +kernel
theorem dX7_init_0 : decode cX7_init 0 = .ok (.aload_n 0, 1) := by decide +kernel
theorem dX7_init_1 : decode cX7_init 1 = .ok (.invokespecial 3, 3) := by decide +kernel
theorem dX7_init_4 : decode cX7_init 4 = .ok (.aload_n 0, 1) := by decide +kernel
theorem dX7_init_5 : decode cX7_init 5 = .ok (.bipush 60, 2) := by decide +kernel
theorem dX7_init_7 : decode cX7_init 7 = .ok (.newarray .char, 2) := by decide +kernel
theorem dX7_init_9 : decode cX7_init 9 = .ok (.putfield 9, 3) := by decide +kernel
theorem dX7_init_12 : decode cX7_init 12 = .ok (.return_, 1) := by decide +kernel
