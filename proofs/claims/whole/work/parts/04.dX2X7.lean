set_option maxRecDepth 20000 in
theorem ggX2_init_X6_init : GoodIn wsX2_init wsX6_init := goodIn_r _ [9, 10, 2, 3, 11, 12, 13, 14, 15, 16, 17, 18, 19, 20, 21, 22, 23, 24, 25, 26, 27, 28, 29, 30, 31, 32, 33, 34, 35, 36, 37, 38, 39, 40, 41, 42, 43, 44, 45, 46, 47, 48, 49, 50, 51, 52, 53, 54, 55, 56, 57, 58, 59, 60, 61, 62, 63, 64, 65, 66, 67, 75, 76, 77, 78, 79, 80, 81, 82, 83, 70, 71, 72, 73, 74, 84, 85, 86, 87, 88, 89, 90, 91, 92, 93, 94, 95, 96, 97] (by decide +kernel) (by decide +kernel)
set_option maxRecDepth 20000 in
theorem gX2_init_X6_init_n17 : GoodIn wsX2_init (wsX6_init) := ggX2_init_X6_init
theorem dX2_init_0 : decode cX2_init 0 = .ok (.aload_n 0, 1) := by decide +kernel
theorem dX2_init_1 : decode cX2_init 1 = .ok (.invokespecial 3, 3) := by decide +kernel
theorem dX2_init_4 : decode cX2_init 4 = .ok (.aload_n 0, 1) := by decide +kernel
theorem dX2_init_5 : decode cX2_init 5 = .ok (.iconst 4, 1) := by decide +kernel
theorem dX2_init_6 : decode cX2_init 6 = .ok (.anewarray 9, 3) := by decide +kernel
theorem dX2_init_9 : decode cX2_init 9 = .ok (.putfield 11, 3) := by decide +kernel
theorem dX2_init_12 : decode cX2_init 12 = .ok (.iconst 0, 1) := by decide +kernel
theorem dX2_init_13 : decode cX2_init 13 = .ok (.istore_n 1, 1) := by decide +kernel
theorem dX2_init_14 : decode cX2_init 14 = .ok (.iload_n 1, 1) := by decide +kernel
theorem dX2_init_15 : decode cX2_init 15 = .ok (.iconst 4, 1) := by decide +kernel
theorem dX2_init_16 : decode cX2_init 16 = .ok (.if_icmp .ge 22, 3) := by decide +kernel
theorem dX2_init_19 : decode cX2_init 19 = .ok (.aload_n 0, 1) := by decide +kernel
theorem dX2_init_20 : decode cX2_init 20 = .ok (.getfield 11, 3) := by decide +kernel
theorem dX2_init_23 : decode cX2_init 23 = .ok (.iload_n 1, 1) := by decide +kernel
theorem dX2_init_24 : decode cX2_init 24 = .ok (.new 9, 3) := by decide +kernel
theorem dX2_init_27 : decode cX2_init 27 = .ok (.dup, 1) := by decide +kernel
theorem dX2_init_28 : decode cX2_init 28 = .ok (.invokespecial 17, 3) := by decide +kernel
theorem dX2_init_31 : decode cX2_init 31 = .ok (.aastore, 1) := by decide +kernel
theorem dX2_init_32 : decode cX2_init 32 = .ok (.iinc 1 1, 3) := by decide +kernel
theorem dX2_init_35 : decode cX2_init 35 = .ok (.goto (-21), 3) := by decide +kernel
theorem dX2_init_38 : decode cX2_init 38 = .ok (.return_, 1) := by decide +kernel
set_option maxRecDepth 20000 in
theorem ggX2_record_X2_dropOldest : GoodIn wsX2_record wsX2_dropOldest := goodIn_r _ [7, 2, 1, 72, 73] (by decide +kernel) (by decide +kernel)
set_option maxRecDepth 20000 in
theorem gX2_record_X2_dropOldest : GoodIn wsX2_record (wsV RX2 22 RX2 yX2_dropOldest wsX2_dropOldest) := goodIn_app (goodIn_of _ (by decide +kernel)) ggX2_record_X2_dropOldest
set_option maxRecDepth 20000 in
theorem ggX2_record_X6_copyFrom : GoodIn wsX2_record wsX6_copyFrom := goodIn_r _ [12, 13, 14, 15, 16, 17, 18, 19, 20, 21, 22, 23, 24, 25, 26, 27, 28, 29, 30, 31, 32, 33, 34, 35, 36, 37, 38, 39, 40, 41, 42, 43, 44, 45, 46, 47, 48, 49, 50, 51, 52, 53, 54, 55, 56, 57, 58, 59, 60, 61, 62, 63, 64, 65, 66, 67, 68, 69, 70, 71, 74, 75, 76, 77, 78, 79, 80, 81, 82, 83, 84, 85, 86, 87, 88, 89, 90, 91, 92, 93, 94, 95, 96, 97, 98, 99, 100, 101] (by decide +kernel) (by decide +kernel)
set_option maxRecDepth 20000 in
theorem gX2_record_X6_copyFrom : GoodIn wsX2_record (wsV RX2 25 RX6 yX6_copyFrom wsX6_copyFrom) := goodIn_app (goodIn_of _ (by decide +kernel)) ggX2_record_X6_copyFrom
theorem dX2_record_0 : decode cX2_record 0 = .ok (.aload_n 0, 1) := by decide +kernel
theorem dX2_record_1 : decode cX2_record 1 = .ok (.getfield 18, 3) := by decide +kernel
theorem dX2_record_4 : decode cX2_record 4 = .ok (.iconst 4, 1) := by decide +kernel
theorem dX2_record_5 : decode cX2_record 5 = .ok (.if_icmp .lt 7, 3) := by decide +kernel
theorem dX2_record_8 : decode cX2_record 8 = .ok (.aload_n 0, 1) := by decide +kernel
theorem dX2_record_9 : decode cX2_record 9 = .ok (.invokevirtual 22, 3) := by decide +kernel
theorem dX2_record_12 : decode cX2_record 12 = .ok (.aload_n 0, 1) := by decide +kernel
theorem dX2_record_13 : decode cX2_record 13 = .ok (.getfield 11, 3) := by decide +kernel
theorem dX2_record_16 : decode cX2_record 16 = .ok (.aload_n 0, 1) := by decide +kernel
theorem dX2_record_17 : decode cX2_record 17 = .ok (.getfield 18, 3) := by decide +kernel
theorem dX2_record_20 : decode cX2_record 20 = .ok (.aaload, 1) := by decide +kernel
theorem dX2_record_21 : decode cX2_record 21 = .ok (.astore_n 2, 1) := by decide +kernel
theorem dX2_record_22 : decode cX2_record 22 = .ok (.aload_n 2, 1) := by decide +kernel
theorem dX2_record_23 : decode cX2_record 23 = .ok (.ifnull 18, 3) := by decide +kernel
theorem dX2_record_26 : decode cX2_record 26 = .ok (.aload_n 2, 1) := by decide +kernel
theorem dX2_record_27 : decode cX2_record 27 = .ok (.aload_n 1, 1) := by decide +kernel
theorem dX2_record_28 : decode cX2_record 28 = .ok (.invokevirtual 25, 3) := by decide +kernel
theorem dX2_record_31 : decode cX2_record 31 = .ok (.aload_n 0, 1) := by decide +kernel
theorem dX2_record_32 : decode cX2_record 32 = .ok (.dup, 1) := by decide +kernel
theorem dX2_record_33 : decode cX2_record 33 = .ok (.getfield 18, 3) := by decide +kernel
theorem dX2_record_36 : decode cX2_record 36 = .ok (.iconst 1, 1) := by decide +kernel
theorem dX2_record_37 : decode cX2_record 37 = .ok (.iadd, 1) := by decide +kernel
theorem dX2_record_38 : decode cX2_record 38 = .ok (.putfield 18, 3) := by decide +kernel
theorem dX2_record_41 : decode cX2_record 41 = .ok (.return_, 1) := by decide +kernel
theorem dX2_dropOldest_0 : decode cX2_dropOldest 0 = .ok (.aload_n 0, 1) := by decide +kernel
theorem dX2_dropOldest_1 : decode cX2_dropOldest 1 = .ok (.getfield 11, 3) := by decide +kernel
theorem dX2_dropOldest_4 : decode cX2_dropOldest 4 = .ok (.iconst 0, 1) := by decide +kernel
theorem dX2_dropOldest_5 : decode cX2_dropOldest 5 = .ok (.aaload, 1) := by decide +kernel
theorem dX2_dropOldest_6 : decode cX2_dropOldest 6 = .ok (.astore_n 1, 1) := by decide +kernel
theorem dX2_dropOldest_7 : decode cX2_dropOldest 7 = .ok (.iconst 0, 1) := by decide +kernel
theorem dX2_dropOldest_8 : decode cX2_dropOldest 8 = .ok (.istore_n 2, 1) := by decide +kernel
theorem dX2_dropOldest_9 : decode cX2_dropOldest 9 = .ok (.iload_n 2, 1) := by decide +kernel
theorem dX2_dropOldest_10 : decode cX2_dropOldest 10 = .ok (.iconst 3, 1) := by decide +kernel
theorem dX2_dropOldest_11 : decode cX2_dropOldest 11 = .ok (.if_icmp .ge 23, 3) := by decide +kernel
theorem dX2_dropOldest_14 : decode cX2_dropOldest 14 = .ok (.aload_n 0, 1) := by decide +kernel
theorem dX2_dropOldest_15 : decode cX2_dropOldest 15 = .ok (.getfield 11, 3) := by decide +kernel
theorem dX2_dropOldest_18 : decode cX2_dropOldest 18 = .ok (.iload_n 2, 1) := by decide +kernel
theorem dX2_dropOldest_19 : decode cX2_dropOldest 19 = .ok (.aload_n 0, 1) := by decide +kernel
theorem dX2_dropOldest_20 : decode cX2_dropOldest 20 = .ok (.getfield 11, 3) := by decide +kernel
theorem dX2_dropOldest_23 : decode cX2_dropOldest 23 = .ok (.iload_n 2, 1) := by decide +kernel
theorem dX2_dropOldest_24 : decode cX2_dropOldest 24 = .ok (.iconst 1, 1) := by decide +kernel
theorem dX2_dropOldest_25 : decode cX2_dropOldest 25 = .ok (.iadd, 1) := by decide +kernel
theorem dX2_dropOldest_26 : decode cX2_dropOldest 26 = .ok (.aaload, 1) := by decide +kernel
theorem dX2_dropOldest_27 : decode cX2_dropOldest 27 = .ok (.aastore, 1) := by decide +kernel
theorem dX2_dropOldest_28 : decode cX2_dropOldest 28 = .ok (.iinc 2 1, 3) := by decide +kernel
theorem dX2_dropOldest_31 : decode cX2_dropOldest 31 = .ok (.goto (-22), 3) := by decide +kernel
theorem dX2_dropOldest_34 : decode cX2_dropOldest 34 = .ok (.aload_n 0, 1) := by decide +kernel
theorem dX2_dropOldest_35 : decode cX2_dropOldest 35 = .ok (.getfield 11, 3) := by decide +kernel
theorem dX2_dropOldest_38 : decode cX2_dropOldest 38 = .ok (.iconst 3, 1) := by decide +kernel
theorem dX2_dropOldest_39 : decode cX2_dropOldest 39 = .ok (.aload_n 1, 1) := by decide +kernel
theorem dX2_dropOldest_40 : decode cX2_dropOldest 40 = .ok (.aastore, 1) := by decide +kernel
theorem dX2_dropOldest_41 : decode cX2_dropOldest 41 = .ok (.aload_n 0, 1) := by decide +kernel
theorem dX2_dropOldest_42 : decode cX2_dropOldest 42 = .ok (.iconst 3, 1) := by decide +kernel
theorem dX2_dropOldest_43 : decode cX2_dropOldest 43 = .ok (.putfield 18, 3) := by decide +kernel
theorem dX2_dropOldest_46 : decode cX2_dropOldest 46 = .ok (.return_, 1) := by decide +kernel
set_option maxRecDepth 20000 in
theorem ggX2_takeBack_X6_copyFrom : GoodIn wsX2_takeBack wsX6_copyFrom := goodIn_r _ [7, 8, 9, 10, 11, 12, 13, 14, 15, 16, 17, 18, 19, 20, 21, 22, 23, 24, 25, 26, 27, 28, 29, 30, 31, 32, 33, 34, 35, 36, 37, 38, 39, 40, 41, 42, 43, 44, 45, 46, 47, 48, 49, 50, 51, 52, 53, 54, 55, 56, 57, 58, 59, 60, 61, 62, 63, 64, 65, 66, 69, 70, 71, 72, 73, 74, 75, 76, 77, 78, 79, 80, 81, 82, 83, 84, 85, 86, 87, 88, 89, 90, 91, 92, 93, 94, 95, 96] (by decide +kernel) (by decide +kernel)
set_option maxRecDepth 20000 in
theorem gX2_takeBack_X6_copyFrom : GoodIn wsX2_takeBack (wsV RX2 25 RX6 yX6_copyFrom wsX6_copyFrom) := goodIn_app (goodIn_of _ (by decide +kernel)) ggX2_takeBack_X6_copyFrom
theorem dX2_takeBack_0 : decode cX2_takeBack 0 = .ok (.aload_n 0, 1) := by decide +kernel
theorem dX2_takeBack_1 : decode cX2_takeBack 1 = .ok (.getfield 18, 3) := by decide +kernel
theorem dX2_takeBack_4 : decode cX2_takeBack 4 = .ok (.ifCond .gt 4, 3) := by decide +kernel
theorem dX2_takeBack_7 : decode cX2_takeBack 7 = .ok (.return_, 1) := by decide +kernel
theorem dX2_takeBack_8 : decode cX2_takeBack 8 = .ok (.aload_n 0, 1) := by decide +kernel
theorem dX2_takeBack_9 : decode cX2_takeBack 9 = .ok (.dup, 1) := by decide +kernel
theorem dX2_takeBack_10 : decode cX2_takeBack 10 = .ok (.getfield 18, 3) := by decide +kernel
theorem dX2_takeBack_13 : decode cX2_takeBack 13 = .ok (.iconst 1, 1) := by decide +kernel
theorem dX2_takeBack_14 : decode cX2_takeBack 14 = .ok (.isub, 1) := by decide +kernel
theorem dX2_takeBack_15 : decode cX2_takeBack 15 = .ok (.putfield 18, 3) := by decide +kernel
theorem dX2_takeBack_18 : decode cX2_takeBack 18 = .ok (.aload_n 0, 1) := by decide +kernel
theorem dX2_takeBack_19 : decode cX2_takeBack 19 = .ok (.getfield 11, 3) := by decide +kernel
theorem dX2_takeBack_22 : decode cX2_takeBack 22 = .ok (.aload_n 0, 1) := by decide +kernel
theorem dX2_takeBack_23 : decode cX2_takeBack 23 = .ok (.getfield 18, 3) := by decide +kernel
theorem dX2_takeBack_26 : decode cX2_takeBack 26 = .ok (.aaload, 1) := by decide +kernel
theorem dX2_takeBack_27 : decode cX2_takeBack 27 = .ok (.astore_n 2, 1) := by decide +kernel
theorem dX2_takeBack_28 : decode cX2_takeBack 28 = .ok (.aload_n 2, 1) := by decide +kernel
theorem dX2_takeBack_29 : decode cX2_takeBack 29 = .ok (.ifnull 8, 3) := by decide +kernel
theorem dX2_takeBack_32 : decode cX2_takeBack 32 = .ok (.aload_n 1, 1) := by decide +kernel
theorem dX2_takeBack_33 : decode cX2_takeBack 33 = .ok (.aload_n 2, 1) := by decide +kernel
theorem dX2_takeBack_34 : decode cX2_takeBack 34 = .ok (.invokevirtual 25, 3) := by decide +kernel
theorem dX2_takeBack_37 : decode cX2_takeBack 37 = .ok (.return_, 1) := by decide +kernel
theorem dX3_init_0 : decode cX3_init 0 = .ok (.aload_n 0, 1) := by decide +kernel
theorem dX3_init_1 : decode cX3_init 1 = .ok (.invokespecial 3, 3) := by decide +kernel
theorem dX3_init_4 : decode cX3_init 4 = .ok (.aload_n 0, 1) := by decide +kernel
theorem dX3_init_5 : decode cX3_init 5 = .ok (.bipush 20, 2) := by decide +kernel
theorem dX3_init_7 : decode cX3_init 7 = .ok (.newarray .int, 2) := by decide +kernel
theorem dX3_init_9 : decode cX3_init 9 = .ok (.putfield 9, 3) := by decide +kernel
theorem dX3_init_12 : decode cX3_init 12 = .ok (.aload_n 0, 1) := by decide +kernel
theorem dX3_init_13 : decode cX3_init 13 = .ok (.bipush 20, 2) := by decide +kernel
theorem dX3_init_15 : decode cX3_init 15 = .ok (.newarray .int, 2) := by decide +kernel
theorem dX3_init_17 : decode cX3_init 17 = .ok (.putfield 15, 3) := by decide +kernel
theorem dX3_init_20 : decode cX3_init 20 = .ok (.return_, 1) := by decide +kernel
set_option maxRecDepth 20000 in
theorem ggX3_copyFrom_X8_copyRow : GoodIn wsX3_copyFrom wsX8_copyRow := goodIn_r _ [6, 7, 8, 9, 10, 11, 12, 13, 14] (by decide +kernel) (by decide +kernel)
set_option maxRecDepth 20000 in
theorem gX3_copyFrom_X8_copyRow_n18 : GoodIn wsX3_copyFrom (wsX8_copyRow) := ggX3_copyFrom_X8_copyRow
theorem dX3_copyFrom_0 : decode cX3_copyFrom 0 = .ok (.aload_n 1, 1) := by decide +kernel
theorem dX3_copyFrom_1 : decode cX3_copyFrom 1 = .ok (.getfield 9, 3) := by decide +kernel
theorem dX3_copyFrom_4 : decode cX3_copyFrom 4 = .ok (.aload_n 0, 1) := by decide +kernel
theorem dX3_copyFrom_5 : decode cX3_copyFrom 5 = .ok (.getfield 9, 3) := by decide +kernel
theorem dX3_copyFrom_8 : decode cX3_copyFrom 8 = .ok (.invokestatic 18, 3) := by decide +kernel
theorem dX3_copyFrom_11 : decode cX3_copyFrom 11 = .ok (.aload_n 1, 1) := by decide +kernel
theorem dX3_copyFrom_12 : decode cX3_copyFrom 12 = .ok (.getfield 15, 3) := by decide +kernel
theorem dX3_copyFrom_15 : decode cX3_copyFrom 15 = .ok (.aload_n 0, 1) := by decide +kernel
theorem dX3_copyFrom_16 : decode cX3_copyFrom 16 = .ok (.getfield 15, 3) := by decide +kernel
theorem dX3_copyFrom_19 : decode cX3_copyFrom 19 = .ok (.invokestatic 18, 3) := by decide +kernel
theorem dX3_copyFrom_22 : decode cX3_copyFrom 22 = .ok (.aload_n 0, 1) := by decide +kernel
theorem dX3_copyFrom_23 : decode cX3_copyFrom 23 = .ok (.aload_n 1, 1) := by decide +kernel
theorem dX3_copyFrom_24 : decode cX3_copyFrom 24 = .ok (.getfield 22, 3) := by decide +kernel
theorem dX3_copyFrom_27 : decode cX3_copyFrom 27 = .ok (.putfield 22, 3) := by decide +kernel
theorem dX3_copyFrom_30 : decode cX3_copyFrom 30 = .ok (.return_, 1) := by decide +kernel
theorem dX3_add_0 : decode cX3_add 0 = .ok (.aload_n 0, 1) := by decide +kernel
theorem dX3_add_1 : decode cX3_add 1 = .ok (.getfield 22, 3) := by decide +kernel
theorem dX3_add_4 : decode cX3_add 4 = .ok (.bipush 20, 2) := by decide +kernel
theorem dX3_add_6 : decode cX3_add 6 = .ok (.if_icmp .ge 33, 3) := by decide +kernel
theorem dX3_add_9 : decode cX3_add 9 = .ok (.aload_n 0, 1) := by decide +kernel
theorem dX3_add_10 : decode cX3_add 10 = .ok (.getfield 9, 3) := by decide +kernel
theorem dX3_add_13 : decode cX3_add 13 = .ok (.aload_n 0, 1) := by decide +kernel
theorem dX3_add_14 : decode cX3_add 14 = .ok (.getfield 22, 3) := by decide +kernel
theorem dX3_add_17 : decode cX3_add 17 = .ok (.iload_n 1, 1) := by decide +kernel
theorem dX3_add_18 : decode cX3_add 18 = .ok (.iastore, 1) := by decide +kernel
theorem dX3_add_19 : decode cX3_add 19 = .ok (.aload_n 0, 1) := by decide +kernel
theorem dX3_add_20 : decode cX3_add 20 = .ok (.getfield 15, 3) := by decide +kernel
theorem dX3_add_23 : decode cX3_add 23 = .ok (.aload_n 0, 1) := by decide +kernel
theorem dX3_add_24 : decode cX3_add 24 = .ok (.getfield 22, 3) := by decide +kernel
theorem dX3_add_27 : decode cX3_add 27 = .ok (.iload_n 2, 1) := by decide +kernel
theorem dX3_add_28 : decode cX3_add 28 = .ok (.iastore, 1) := by decide +kernel
theorem dX3_add_29 : decode cX3_add 29 = .ok (.aload_n 0, 1) := by decide +kernel
theorem dX3_add_30 : decode cX3_add 30 = .ok (.dup, 1) := by decide +kernel
theorem dX3_add_31 : decode cX3_add 31 = .ok (.getfield 22, 3) := by decide +kernel
theorem dX3_add_34 : decode cX3_add 34 = .ok (.iconst 1, 1) := by decide +kernel
theorem dX3_add_35 : decode cX3_add 35 = .ok (.iadd, 1) := by decide +kernel
theorem dX3_add_36 : decode cX3_add 36 = .ok (.putfield 22, 3) := by decide +kernel
theorem dX3_add_39 : decode cX3_add 39 = .ok (.return_, 1) := by decide +kernel
set_option maxRecDepth 20000 in
theorem ggX3_addAll_X3_add : GoodIn wsX3_addAll wsX3_add := goodIn_r _ [8, 1, 2, 3, 9, 10, 11] (by decide +kernel) (by decide +kernel)
set_option maxRecDepth 20000 in
theorem gX3_addAll_X3_add : GoodIn wsX3_addAll (wsV RX3 26 RX3 yX3_add wsX3_add) := goodIn_app (goodIn_of _ (by decide +kernel)) ggX3_addAll_X3_add
theorem dX3_addAll_0 : decode cX3_addAll 0 = .ok (.iconst 0, 1) := by decide +kernel
theorem dX3_addAll_1 : decode cX3_addAll 1 = .ok (.istore_n 2, 1) := by decide +kernel
theorem dX3_addAll_2 : decode cX3_addAll 2 = .ok (.iload_n 2, 1) := by decide +kernel
theorem dX3_addAll_3 : decode cX3_addAll 3 = .ok (.aload_n 1, 1) := by decide +kernel
theorem dX3_addAll_4 : decode cX3_addAll 4 = .ok (.getfield 22, 3) := by decide +kernel
theorem dX3_addAll_7 : decode cX3_addAll 7 = .ok (.if_icmp .ge 25, 3) := by decide +kernel
theorem dX3_addAll_10 : decode cX3_addAll 10 = .ok (.aload_n 0, 1) := by decide +kernel
theorem dX3_addAll_11 : decode cX3_addAll 11 = .ok (.aload_n 1, 1) := by decide +kernel
theorem dX3_addAll_12 : decode cX3_addAll 12 = .ok (.getfield 9, 3) := by decide +kernel
theorem dX3_addAll_15 : decode cX3_addAll 15 = .ok (.iload_n 2, 1) := by decide +kernel
theorem dX3_addAll_16 : decode cX3_addAll 16 = .ok (.iaload, 1) := by decide +kernel
theorem dX3_addAll_17 : decode cX3_addAll 17 = .ok (.aload_n 1, 1) := by decide +kernel
theorem dX3_addAll_18 : decode cX3_addAll 18 = .ok (.getfield 15, 3) := by decide +kernel
theorem dX3_addAll_21 : decode cX3_addAll 21 = .ok (.iload_n 2, 1) := by decide +kernel
theorem dX3_addAll_22 : decode cX3_addAll 22 = .ok (.iaload, 1) := by decide +kernel
theorem dX3_addAll_23 : decode cX3_addAll 23 = .ok (.invokevirtual 26, 3) := by decide +kernel
theorem dX3_addAll_26 : decode cX3_addAll 26 = .ok (.iinc 2 1, 3) := by decide +kernel
theorem dX3_addAll_29 : decode cX3_addAll 29 = .ok (.goto (-27), 3) := by decide +kernel
theorem dX3_addAll_32 : decode cX3_addAll 32 = .ok (.return_, 1) := by decide +kernel
theorem dX3_upTo_0 : decode cX3_upTo 0 = .ok (.iconst 0, 1) := by decide +kernel
theorem dX3_upTo_1 : decode cX3_upTo 1 = .ok (.istore_n 2, 1) := by decide +kernel
theorem dX3_upTo_2 : decode cX3_upTo 2 = .ok (.iconst 0, 1) := by decide +kernel
theorem dX3_upTo_3 : decode cX3_upTo 3 = .ok (.istore_n 3, 1) := by decide +kernel
theorem dX3_upTo_4 : decode cX3_upTo 4 = .ok (.iload_n 3, 1) := by decide +kernel
theorem dX3_upTo_5 : decode cX3_upTo 5 = .ok (.aload_n 0, 1) := by decide +kernel
theorem dX3_upTo_6 : decode cX3_upTo 6 = .ok (.getfield 22, 3) := by decide +kernel
theorem dX3_upTo_9 : decode cX3_upTo 9 = .ok (.if_icmp .ge 22, 3) := by decide +kernel
theorem dX3_upTo_12 : decode cX3_upTo 12 = .ok (.aload_n 0, 1) := by decide +kernel
theorem dX3_upTo_13 : decode cX3_upTo 13 = .ok (.getfield 9, 3) := by decide +kernel
theorem dX3_upTo_16 : decode cX3_upTo 16 = .ok (.iload_n 3, 1) := by decide +kernel
theorem dX3_upTo_17 : decode cX3_upTo 17 = .ok (.iaload, 1) := by decide +kernel
theorem dX3_upTo_18 : decode cX3_upTo 18 = .ok (.iload_n 1, 1) := by decide +kernel
theorem dX3_upTo_19 : decode cX3_upTo 19 = .ok (.if_icmp .gt 6, 3) := by decide +kernel
theorem dX3_upTo_22 : decode cX3_upTo 22 = .ok (.iinc 2 1, 3) := by decide +kernel
theorem dX3_upTo_25 : decode cX3_upTo 25 = .ok (.iinc 3 1, 3) := by decide +kernel
theorem dX3_upTo_28 : decode cX3_upTo 28 = .ok (.goto (-24), 3) := by decide +kernel
theorem dX3_upTo_31 : decode cX3_upTo 31 = .ok (.iload_n 2, 1) := by decide +kernel
theorem dX3_upTo_32 : decode cX3_upTo 32 = .ok (.ireturn, 1) := by decide +kernel
set_option maxRecDepth 20000 in
theorem ggX3_removeUpTo_X3_add : GoodIn wsX3_removeUpTo wsX3_add := goodIn_r _ [8, 1, 2, 3, 9, 10, 11] (by decide +kernel) (by decide +kernel)
set_option maxRecDepth 20000 in
theorem gX3_removeUpTo_X3_add : GoodIn wsX3_removeUpTo (wsV RX3 26 RX3 yX3_add wsX3_add) := goodIn_app (goodIn_of _ (by decide +kernel)) ggX3_removeUpTo_X3_add
theorem dX3_removeUpTo_0 : decode cX3_removeUpTo 0 = .ok (.aload_n 0, 1) := by decide +kernel
theorem dX3_removeUpTo_1 : decode cX3_removeUpTo 1 = .ok (.getfield 22, 3) := by decide +kernel
theorem dX3_removeUpTo_4 : decode cX3_removeUpTo 4 = .ok (.istore_n 2, 1) := by decide +kernel
theorem dX3_removeUpTo_5 : decode cX3_removeUpTo 5 = .ok (.aload_n 0, 1) := by decide +kernel
theorem dX3_removeUpTo_6 : decode cX3_removeUpTo 6 = .ok (.iconst 0, 1) := by decide +kernel
theorem dX3_removeUpTo_7 : decode cX3_removeUpTo 7 = .ok (.putfield 22, 3) := by decide +kernel
theorem dX3_removeUpTo_10 : decode cX3_removeUpTo 10 = .ok (.iconst 0, 1) := by decide +kernel
theorem dX3_removeUpTo_11 : decode cX3_removeUpTo 11 = .ok (.istore_n 3, 1) := by decide +kernel
theorem dX3_removeUpTo_12 : decode cX3_removeUpTo 12 = .ok (.iload_n 3, 1) := by decide +kernel
theorem dX3_removeUpTo_13 : decode cX3_removeUpTo 13 = .ok (.iload_n 2, 1) := by decide +kernel
theorem dX3_removeUpTo_14 : decode cX3_removeUpTo 14 = .ok (.if_icmp .ge 35, 3) := by decide +kernel
theorem dX3_removeUpTo_17 : decode cX3_removeUpTo 17 = .ok (.aload_n 0, 1) := by decide +kernel
theorem dX3_removeUpTo_18 : decode cX3_removeUpTo 18 = .ok (.getfield 9, 3) := by decide +kernel
theorem dX3_removeUpTo_21 : decode cX3_removeUpTo 21 = .ok (.iload_n 3, 1) := by decide +kernel
theorem dX3_removeUpTo_22 : decode cX3_removeUpTo 22 = .ok (.iaload, 1) := by decide +kernel
theorem dX3_removeUpTo_23 : decode cX3_removeUpTo 23 = .ok (.iload_n 1, 1) := by decide +kernel
theorem dX3_removeUpTo_24 : decode cX3_removeUpTo 24 = .ok (.if_icmp .le 19, 3) := by decide +kernel
theorem dX3_removeUpTo_27 : decode cX3_removeUpTo 27 = .ok (.aload_n 0, 1) := by decide +kernel
theorem dX3_removeUpTo_28 : decode cX3_removeUpTo 28 = .ok (.aload_n 0, 1) := by decide +kernel
theorem dX3_removeUpTo_29 : decode cX3_removeUpTo 29 = .ok (.getfield 9, 3) := by decide +kernel
theorem dX3_removeUpTo_32 : decode cX3_removeUpTo 32 = .ok (.iload_n 3, 1) := by decide +kernel
theorem dX3_removeUpTo_33 : decode cX3_removeUpTo 33 = .ok (.iaload, 1) := by decide +kernel
theorem dX3_removeUpTo_34 : decode cX3_removeUpTo 34 = .ok (.aload_n 0, 1) := by decide +kernel
theorem dX3_removeUpTo_35 : decode cX3_removeUpTo 35 = .ok (.getfield 15, 3) := by decide +kernel
theorem dX3_removeUpTo_38 : decode cX3_removeUpTo 38 = .ok (.iload_n 3, 1) := by decide +kernel
theorem dX3_removeUpTo_39 : decode cX3_removeUpTo 39 = .ok (.iaload, 1) := by decide +kernel
theorem dX3_removeUpTo_40 : decode cX3_removeUpTo 40 = .ok (.invokevirtual 26, 3) := by decide +kernel
theorem dX3_removeUpTo_43 : decode cX3_removeUpTo 43 = .ok (.iinc 3 1, 3) := by decide +kernel
theorem dX3_removeUpTo_46 : decode cX3_removeUpTo 46 = .ok (.goto (-34), 3) := by decide +kernel
theorem dX3_removeUpTo_49 : decode cX3_removeUpTo 49 = .ok (.iload_n 2, 1) := by decide +kernel
theorem dX3_removeUpTo_50 : decode cX3_removeUpTo 50 = .ok (.aload_n 0, 1) := by decide +kernel
theorem dX3_removeUpTo_51 : decode cX3_removeUpTo 51 = .ok (.getfield 22, 3) := by decide +kernel
theorem dX3_removeUpTo_54 : decode cX3_removeUpTo 54 = .ok (.isub, 1) := by decide +kernel
theorem dX3_removeUpTo_55 : decode cX3_removeUpTo 55 = .ok (.ireturn, 1) := by decide +kernel
set_option maxRecDepth 20000 in
theorem ggX3_removeFirst_X3_add : GoodIn wsX3_removeFirst wsX3_add := goodIn_r _ [12, 1, 6, 7, 13, 14, 15] (by decide +kernel) (by decide +kernel)
set_option maxRecDepth 20000 in
theorem gX3_removeFirst_X3_add : GoodIn wsX3_removeFirst (wsV RX3 26 RX3 yX3_add wsX3_add) := goodIn_app (goodIn_of _ (by decide +kernel)) ggX3_removeFirst_X3_add
theorem dX3_removeFirst_0 : decode cX3_removeFirst 0 = .ok (.aload_n 0, 1) := by decide +kernel
theorem dX3_removeFirst_1 : decode cX3_removeFirst 1 = .ok (.getfield 22, 3) := by decide +kernel
theorem dX3_removeFirst_4 : decode cX3_removeFirst 4 = .ok (.istore_n 2, 1) := by decide +kernel
theorem dX3_removeFirst_5 : decode cX3_removeFirst 5 = .ok (.aload_n 0, 1) := by decide +kernel
theorem dX3_removeFirst_6 : decode cX3_removeFirst 6 = .ok (.iconst 0, 1) := by decide +kernel
theorem dX3_removeFirst_7 : decode cX3_removeFirst 7 = .ok (.putfield 22, 3) := by decide +kernel
theorem dX3_removeFirst_10 : decode cX3_removeFirst 10 = .ok (.iconst 0, 1) := by decide +kernel
theorem dX3_removeFirst_11 : decode cX3_removeFirst 11 = .ok (.iload_n 1, 1) := by decide +kernel
theorem dX3_removeFirst_12 : decode cX3_removeFirst 12 = .ok (.invokestatic 30, 3) := by decide +kernel
theorem dX3_removeFirst_15 : decode cX3_removeFirst 15 = .ok (.istore_n 3, 1) := by decide +kernel
theorem dX3_removeFirst_16 : decode cX3_removeFirst 16 = .ok (.iload_n 3, 1) := by decide +kernel
theorem dX3_removeFirst_17 : decode cX3_removeFirst 17 = .ok (.iload_n 2, 1) := by decide +kernel
theorem dX3_removeFirst_18 : decode cX3_removeFirst 18 = .ok (.if_icmp .ge 25, 3) := by decide +kernel
theorem dX3_removeFirst_21 : decode cX3_removeFirst 21 = .ok (.aload_n 0, 1) := by decide +kernel
theorem dX3_removeFirst_22 : decode cX3_removeFirst 22 = .ok (.aload_n 0, 1) := by decide +kernel
theorem dX3_removeFirst_23 : decode cX3_removeFirst 23 = .ok (.getfield 9, 3) := by decide +kernel
theorem dX3_removeFirst_26 : decode cX3_removeFirst 26 = .ok (.iload_n 3, 1) := by decide +kernel
theorem dX3_removeFirst_27 : decode cX3_removeFirst 27 = .ok (.iaload, 1) := by decide +kernel
theorem dX3_removeFirst_28 : decode cX3_removeFirst 28 = .ok (.aload_n 0, 1) := by decide +kernel
theorem dX3_removeFirst_29 : decode cX3_removeFirst 29 = .ok (.getfield 15, 3) := by decide +kernel
theorem dX3_removeFirst_32 : decode cX3_removeFirst 32 = .ok (.iload_n 3, 1) := by decide +kernel
theorem dX3_removeFirst_33 : decode cX3_removeFirst 33 = .ok (.iaload, 1) := by decide +kernel
theorem dX3_removeFirst_34 : decode cX3_removeFirst 34 = .ok (.invokevirtual 26, 3) := by decide +kernel
theorem dX3_removeFirst_37 : decode cX3_removeFirst 37 = .ok (.iinc 3 1, 3) := by decide +kernel
theorem dX3_removeFirst_40 : decode cX3_removeFirst 40 = .ok (.goto (-24), 3) := by decide +kernel
theorem dX3_removeFirst_43 : decode cX3_removeFirst 43 = .ok (.return_, 1) := by decide +kernel
set_option maxRecDepth 20000 in
theorem ggX4_init_X3_init : GoodIn wsX4_init wsX3_init := goodIn_r _ [9, 10, 2, 3, 11, 12, 13, 14, 15, 16] (by decide +kernel) (by decide +kernel)
set_option maxRecDepth 20000 in
theorem gX4_init_X3_init_n11 : GoodIn wsX4_init (wsX3_init) := ggX4_init_X3_init
theorem dX4_init_0 : decode cX4_init 0 = .ok (.aload_n 0, 1) := by decide +kernel
theorem dX4_init_1 : decode cX4_init 1 = .ok (.invokespecial 3, 3) := by decide +kernel
theorem dX4_init_4 : decode cX4_init 4 = .ok (.aload_n 0, 1) := by decide +kernel
theorem dX4_init_5 : decode cX4_init 5 = .ok (.new 9, 3) := by decide +kernel
theorem dX4_init_8 : decode cX4_init 8 = .ok (.dup, 1) := by decide +kernel
theorem dX4_init_9 : decode cX4_init 9 = .ok (.invokespecial 11, 3) := by decide +kernel
theorem dX4_init_12 : decode cX4_init 12 = .ok (.putfield 12, 3) := by decide +kernel
theorem dX4_init_15 : decode cX4_init 15 = .ok (.return_, 1) := by decide +kernel
set_option maxRecDepth 20000 in
theorem ggX4_faultOf_X4_readShots : GoodIn wsX4_faultOf wsX4_readShots := goodIn_r _ [10, 4, 11, 12, 13, 14, 9, 15, 16, 17, 18, 19, 20, 5, 21, 22, 23, 24, 25, 26, 27, 28, 29, 30, 31, 32, 33, 34, 35, 36, 37, 38, 39, 52, 53, 54, 55, 56, 57, 61, 62] (by decide +kernel) (by decide +kernel)
set_option maxRecDepth 20000 in
theorem gX4_faultOf_X4_readShots : GoodIn wsX4_faultOf (wsV RX4 28 RX4 yX4_readShots wsX4_readShots) := goodIn_app (goodIn_of _ (by decide +kernel)) ggX4_faultOf_X4_readShots
set_option maxRecDepth 20000 in
theorem ggX4_faultOf_X4_note : GoodIn wsX4_faultOf wsX4_note := goodIn_r _ [43, 39, 1, 16, 11, 3, 44, 45, 46, 47, 48, 49, 50, 51, 52, 53, 54, 55, 56, 57, 58, 59, 60] (by decide +kernel) (by decide +kernel)
set_option maxRecDepth 20000 in
theorem gX4_faultOf_X4_note : GoodIn wsX4_faultOf (wsV RX4 32 RX4 yX4_note wsX4_note) := goodIn_app (goodIn_of _ (by decide +kernel)) ggX4_faultOf_X4_note
set_option maxRecDepth 20000 in
theorem ggX4_faultOf_X7_isAt : GoodIn wsX4_faultOf wsX7_isAt := goodIn_r _ [34, 26, 27, 28, 29, 30, 61, 62] (by decide +kernel) (by decide +kernel)
set_option maxRecDepth 20000 in
theorem gX4_faultOf_X7_isAt : GoodIn wsX4_faultOf (wsV RX4 40 RX7 yX7_isAt wsX7_isAt) := goodIn_app (goodIn_of _ (by decide +kernel)) ggX4_faultOf_X7_isAt
theorem dX4_faultOf_0 : decode cX4_faultOf 0 = .ok (.aload_n 0, 1) := by decide +kernel
theorem dX4_faultOf_1 : decode cX4_faultOf 1 = .ok (.getfield 12, 3) := by decide +kernel
theorem dX4_faultOf_4 : decode cX4_faultOf 4 = .ok (.iconst 0, 1) := by decide +kernel
theorem dX4_faultOf_5 : decode cX4_faultOf 5 = .ok (.putfield 18, 3) := by decide +kernel
theorem dX4_faultOf_8 : decode cX4_faultOf 8 = .ok (.aload_n 0, 1) := by decide +kernel
theorem dX4_faultOf_9 : decode cX4_faultOf 9 = .ok (.iconst 0, 1) := by decide +kernel
theorem dX4_faultOf_10 : decode cX4_faultOf 10 = .ok (.putfield 22, 3) := by decide +kernel
theorem dX4_faultOf_13 : decode cX4_faultOf 13 = .ok (.aload_n 0, 1) := by decide +kernel
theorem dX4_faultOf_14 : decode cX4_faultOf 14 = .ok (.iconst 0, 1) := by decide +kernel
theorem dX4_faultOf_15 : decode cX4_faultOf 15 = .ok (.putfield 25, 3) := by decide +kernel
theorem dX4_faultOf_18 : decode cX4_faultOf 18 = .ok (.iconst 0, 1) := by decide +kernel
theorem dX4_faultOf_19 : decode cX4_faultOf 19 = .ok (.istore_n 2, 1) := by decide +kernel
theorem dX4_faultOf_20 : decode cX4_faultOf 20 = .ok (.iload_n 2, 1) := by decide +kernel
theorem dX4_faultOf_21 : decode cX4_faultOf 21 = .ok (.bipush 60, 2) := by decide +kernel
theorem dX4_faultOf_23 : decode cX4_faultOf 23 = .ok (.if_icmp .gt 67, 3) := by decide +kernel
theorem dX4_faultOf_26 : decode cX4_faultOf 26 = .ok (.aload_n 0, 1) := by decide +kernel
theorem dX4_faultOf_27 : decode cX4_faultOf 27 = .ok (.aload_n 1, 1) := by decide +kernel
theorem dX4_faultOf_28 : decode cX4_faultOf 28 = .ok (.invokevirtual 28, 3) := by decide +kernel
theorem dX4_faultOf_31 : decode cX4_faultOf 31 = .ok (.ifCond .ne 8, 3) := by decide +kernel
theorem dX4_faultOf_34 : decode cX4_faultOf 34 = .ok (.aload_n 0, 1) := by decide +kernel
theorem dX4_faultOf_35 : decode cX4_faultOf 35 = .ok (.getfield 25, 3) := by decide +kernel
theorem dX4_faultOf_38 : decode cX4_faultOf 38 = .ok (.ireturn, 1) := by decide +kernel
theorem dX4_faultOf_39 : decode cX4_faultOf 39 = .ok (.aload_n 0, 1) := by decide +kernel
theorem dX4_faultOf_40 : decode cX4_faultOf 40 = .ok (.invokevirtual 32, 3) := by decide +kernel
theorem dX4_faultOf_43 : decode cX4_faultOf 43 = .ok (.aload_n 0, 1) := by decide +kernel
theorem dX4_faultOf_44 : decode cX4_faultOf 44 = .ok (.getfield 25, 3) := by decide +kernel
theorem dX4_faultOf_47 : decode cX4_faultOf 47 = .ok (.aload_n 1, 1) := by decide +kernel
theorem dX4_faultOf_48 : decode cX4_faultOf 48 = .ok (.getfield 35, 3) := by decide +kernel
theorem dX4_faultOf_51 : decode cX4_faultOf 51 = .ok (.if_icmp .lt 5, 3) := by decide +kernel
theorem dX4_faultOf_54 : decode cX4_faultOf 54 = .ok (.iconst (-1), 1) := by decide +kernel
theorem dX4_faultOf_55 : decode cX4_faultOf 55 = .ok (.ireturn, 1) := by decide +kernel
theorem dX4_faultOf_56 : decode cX4_faultOf 56 = .ok (.aload_n 1, 1) := by decide +kernel
theorem dX4_faultOf_57 : decode cX4_faultOf 57 = .ok (.aload_n 0, 1) := by decide +kernel
theorem dX4_faultOf_58 : decode cX4_faultOf 58 = .ok (.getfield 25, 3) := by decide +kernel
theorem dX4_faultOf_61 : decode cX4_faultOf 61 = .ok (.bipush 59, 2) := by decide +kernel
theorem dX4_faultOf_63 : decode cX4_faultOf 63 = .ok (.invokevirtual 40, 3) := by decide +kernel
theorem dX4_faultOf_66 : decode cX4_faultOf 66 = .ok (.ifCond .ne 8, 3) := by decide +kernel
theorem dX4_faultOf_69 : decode cX4_faultOf 69 = .ok (.aload_n 0, 1) := by decide +kernel
theorem dX4_faultOf_70 : decode cX4_faultOf 70 = .ok (.getfield 25, 3) := by decide +kernel
theorem dX4_faultOf_73 : decode cX4_faultOf 73 = .ok (.ireturn, 1) := by decide +kernel
theorem dX4_faultOf_74 : decode cX4_faultOf 74 = .ok (.aload_n 0, 1) := by decide +kernel
theorem dX4_faultOf_75 : decode cX4_faultOf 75 = .ok (.dup, 1) := by decide +kernel
theorem dX4_faultOf_76 : decode cX4_faultOf 76 = .ok (.getfield 25, 3) := by decide +kernel
theorem dX4_faultOf_79 : decode cX4_faultOf 79 = .ok (.iconst 1, 1) := by decide +kernel
theorem dX4_faultOf_80 : decode cX4_faultOf 80 = .ok (.iadd, 1) := by decide +kernel
theorem dX4_faultOf_81 : decode cX4_faultOf 81 = .ok (.putfield 25, 3) := by decide +kernel
theorem dX4_faultOf_84 : decode cX4_faultOf 84 = .ok (.iinc 2 1, 3) := by decide +kernel
theorem dX4_faultOf_87 : decode cX4_faultOf 87 = .ok (.goto (-67), 3) := by decide +kernel
theorem dX4_faultOf_90 : decode cX4_faultOf 90 = .ok (.aload_n 0, 1) := by decide +kernel
theorem dX4_faultOf_91 : decode cX4_faultOf 91 = .ok (.getfield 25, 3) := by decide +kernel
theorem dX4_faultOf_94 : decode cX4_faultOf 94 = .ok (.ireturn, 1) := by decide +kernel
set_option maxRecDepth 20000 in
theorem ggX4_note_X3_add : GoodIn wsX4_note wsX3_add := goodIn_r _ [10, 11, 12, 13, 20, 21, 22] (by decide +kernel) (by decide +kernel)
set_option maxRecDepth 20000 in
theorem gX4_note_X3_add : GoodIn wsX4_note (wsV RX4 53 RX3 yX3_add wsX3_add) := goodIn_app (goodIn_of _ (by decide +kernel)) ggX4_note_X3_add
theorem dX4_note_0 : decode cX4_note 0 = .ok (.iconst 0, 1) := by decide +kernel
theorem dX4_note_1 : decode cX4_note 1 = .ok (.istore_n 1, 1) := by decide +kernel
theorem dX4_note_2 : decode cX4_note 2 = .ok (.iload_n 1, 1) := by decide +kernel
theorem dX4_note_3 : decode cX4_note 3 = .ok (.aload_n 0, 1) := by decide +kernel
theorem dX4_note_4 : decode cX4_note 4 = .ok (.getfield 44, 3) := by decide +kernel
theorem dX4_note_7 : decode cX4_note 7 = .ok (.if_icmp .ge 24, 3) := by decide +kernel
theorem dX4_note_10 : decode cX4_note 10 = .ok (.aload_n 0, 1) := by decide +kernel
theorem dX4_note_11 : decode cX4_note 11 = .ok (.getfield 12, 3) := by decide +kernel
theorem dX4_note_14 : decode cX4_note 14 = .ok (.aload_n 0, 1) := by decide +kernel
theorem dX4_note_15 : decode cX4_note 15 = .ok (.getfield 47, 3) := by decide +kernel
theorem dX4_note_18 : decode cX4_note 18 = .ok (.aload_n 0, 1) := by decide +kernel
theorem dX4_note_19 : decode cX4_note 19 = .ok (.getfield 50, 3) := by decide +kernel
theorem dX4_note_22 : decode cX4_note 22 = .ok (.invokevirtual 53, 3) := by decide +kernel
theorem dX4_note_25 : decode cX4_note 25 = .ok (.iinc 1 1, 3) := by decide +kernel
theorem dX4_note_28 : decode cX4_note 28 = .ok (.goto (-26), 3) := by decide +kernel
theorem dX4_note_31 : decode cX4_note 31 = .ok (.aload_n 0, 1) := by decide +kernel
theorem dX4_note_32 : decode cX4_note 32 = .ok (.dup, 1) := by decide +kernel
theorem dX4_note_33 : decode cX4_note 33 = .ok (.getfield 22, 3) := by decide +kernel
theorem dX4_note_36 : decode cX4_note 36 = .ok (.aload_n 0, 1) := by decide +kernel
theorem dX4_note_37 : decode cX4_note 37 = .ok (.getfield 44, 3) := by decide +kernel
theorem dX4_note_40 : decode cX4_note 40 = .ok (.iadd, 1) := by decide +kernel
theorem dX4_note_41 : decode cX4_note 41 = .ok (.putfield 22, 3) := by decide +kernel
theorem dX4_note_44 : decode cX4_note 44 = .ok (.return_, 1) := by decide +kernel
set_option maxRecDepth 20000 in
theorem ggX4_readShots_X4_readMass : GoodIn wsX4_readShots wsX4_readMass := goodIn_r _ [7, 8, 1, 9, 10, 11, 6, 12, 13, 14, 15, 16, 17, 18, 19, 20, 21, 22, 23, 24, 25, 26, 27, 33, 34, 35, 36, 37, 38, 39, 40] (by decide +kernel) (by decide +kernel)
set_option maxRecDepth 20000 in
theorem gX4_readShots_X4_readMass : GoodIn wsX4_readShots (wsV RX4 57 RX4 yX4_readMass wsX4_readMass) := goodIn_app (goodIn_of _ (by decide +kernel)) ggX4_readShots_X4_readMass
set_option maxRecDepth 20000 in
theorem ggX4_readShots_X7_isAt : GoodIn wsX4_readShots wsX7_isAt := goodIn_r _ [27, 19, 20, 21, 22, 23, 39, 40] (by decide +kernel) (by decide +kernel)
set_option maxRecDepth 20000 in
theorem gX4_readShots_X7_isAt : GoodIn wsX4_readShots (wsV RX4 40 RX7 yX7_isAt wsX7_isAt) := goodIn_app (goodIn_of _ (by decide +kernel)) ggX4_readShots_X7_isAt
set_option maxRecDepth 20000 in
theorem ggX4_readShots_X4_readNumber : GoodIn wsX4_readShots wsX4_readNumber := goodIn_r _ [12, 1, 13, 14, 15, 16, 17, 18, 19, 20, 21, 22, 23, 33, 34, 35, 36, 37, 38, 39, 40] (by decide +kernel) (by decide +kernel)
set_option maxRecDepth 20000 in
theorem gX4_readShots_X4_readNumber : GoodIn wsX4_readShots (wsV RX4 60 RX4 yX4_readNumber wsX4_readNumber) := goodIn_app (goodIn_of _ (by decide +kernel)) ggX4_readShots_X4_readNumber
set_option maxRecDepth 20000 in
theorem ggX4_readShots_X4_readTimes : GoodIn wsX4_readShots wsX4_readTimes := goodIn_r _ [31, 32, 1, 24, 25, 26, 17, 27, 19, 20, 21, 22, 23, 9, 10, 11, 6, 12, 13, 14, 15, 16, 18, 33, 34, 35, 36, 37, 38, 39, 40] (by decide +kernel) (by decide +kernel)
set_option maxRecDepth 20000 in
theorem gX4_readShots_X4_readTimes : GoodIn wsX4_readShots (wsV RX4 64 RX4 yX4_readTimes wsX4_readTimes) := goodIn_app (goodIn_of _ (by decide +kernel)) ggX4_readShots_X4_readTimes
theorem dX4_readShots_0 : decode cX4_readShots 0 = .ok (.aload_n 0, 1) := by decide +kernel
theorem dX4_readShots_1 : decode cX4_readShots 1 = .ok (.aload_n 1, 1) := by decide +kernel
theorem dX4_readShots_2 : decode cX4_readShots 2 = .ok (.invokevirtual 57, 3) := by decide +kernel
theorem dX4_readShots_5 : decode cX4_readShots 5 = .ok (.ifCond .eq 16, 3) := by decide +kernel
theorem dX4_readShots_8 : decode cX4_readShots 8 = .ok (.aload_n 1, 1) := by decide +kernel
theorem dX4_readShots_9 : decode cX4_readShots 9 = .ok (.aload_n 0, 1) := by decide +kernel
theorem dX4_readShots_10 : decode cX4_readShots 10 = .ok (.getfield 25, 3) := by decide +kernel
theorem dX4_readShots_13 : decode cX4_readShots 13 = .ok (.bipush 64, 2) := by decide +kernel
theorem dX4_readShots_15 : decode cX4_readShots 15 = .ok (.invokevirtual 40, 3) := by decide +kernel
theorem dX4_readShots_18 : decode cX4_readShots 18 = .ok (.ifCond .ne 5, 3) := by decide +kernel
theorem dX4_readShots_21 : decode cX4_readShots 21 = .ok (.iconst 0, 1) := by decide +kernel
theorem dX4_readShots_22 : decode cX4_readShots 22 = .ok (.ireturn, 1) := by decide +kernel
theorem dX4_readShots_23 : decode cX4_readShots 23 = .ok (.aload_n 0, 1) := by decide +kernel
theorem dX4_readShots_24 : decode cX4_readShots 24 = .ok (.dup, 1) := by decide +kernel
theorem dX4_readShots_25 : decode cX4_readShots 25 = .ok (.getfield 25, 3) := by decide +kernel
theorem dX4_readShots_28 : decode cX4_readShots 28 = .ok (.iconst 1, 1) := by decide +kernel
theorem dX4_readShots_29 : decode cX4_readShots 29 = .ok (.iadd, 1) := by decide +kernel
theorem dX4_readShots_30 : decode cX4_readShots 30 = .ok (.putfield 25, 3) := by decide +kernel
theorem dX4_readShots_33 : decode cX4_readShots 33 = .ok (.aload_n 0, 1) := by decide +kernel
theorem dX4_readShots_34 : decode cX4_readShots 34 = .ok (.aload_n 0, 1) := by decide +kernel
theorem dX4_readShots_35 : decode cX4_readShots 35 = .ok (.aload_n 1, 1) := by decide +kernel
theorem dX4_readShots_36 : decode cX4_readShots 36 = .ok (.bipush 50, 2) := by decide +kernel
theorem dX4_readShots_38 : decode cX4_readShots 38 = .ok (.sipush 900, 3) := by decide +kernel
theorem dX4_readShots_41 : decode cX4_readShots 41 = .ok (.invokevirtual 60, 3) := by decide +kernel
theorem dX4_readShots_44 : decode cX4_readShots 44 = .ok (.putfield 50, 3) := by decide +kernel
theorem dX4_readShots_47 : decode cX4_readShots 47 = .ok (.aload_n 0, 1) := by decide +kernel
theorem dX4_readShots_48 : decode cX4_readShots 48 = .ok (.getfield 50, 3) := by decide +kernel
theorem dX4_readShots_51 : decode cX4_readShots 51 = .ok (.ifCond .lt 15, 3) := by decide +kernel
theorem dX4_readShots_54 : decode cX4_readShots 54 = .ok (.aload_n 0, 1) := by decide +kernel
theorem dX4_readShots_55 : decode cX4_readShots 55 = .ok (.aload_n 1, 1) := by decide +kernel
theorem dX4_readShots_56 : decode cX4_readShots 56 = .ok (.invokevirtual 64, 3) := by decide +kernel
theorem dX4_readShots_59 : decode cX4_readShots 59 = .ok (.ifCond .eq 7, 3) := by decide +kernel
theorem dX4_readShots_62 : decode cX4_readShots 62 = .ok (.iconst 1, 1) := by decide +kernel
theorem dX4_readShots_63 : decode cX4_readShots 63 = .ok (.goto 4, 3) := by decide +kernel
theorem dX4_readShots_66 : decode cX4_readShots 66 = .ok (.iconst 0, 1) := by decide +kernel
theorem dX4_readShots_67 : decode cX4_readShots 67 = .ok (.ireturn, 1) := by decide +kernel
set_option maxRecDepth 20000 in
theorem ggX4_readMass_X4_readNumber : GoodIn wsX4_readMass wsX4_readNumber := goodIn_r _ [7, 2, 8, 9, 10, 11, 12, 13, 14, 15, 16, 17, 18, 23, 24, 25, 26, 27, 28, 29, 30] (by decide +kernel) (by decide +kernel)
set_option maxRecDepth 20000 in
theorem gX4_readMass_X4_readNumber : GoodIn wsX4_readMass (wsV RX4 60 RX4 yX4_readNumber wsX4_readNumber) := goodIn_app (goodIn_of _ (by decide +kernel)) ggX4_readMass_X4_readNumber
set_option maxRecDepth 20000 in
theorem ggX4_readMass_X7_isAt : GoodIn wsX4_readMass wsX7_isAt := goodIn_r _ [22, 14, 15, 16, 17, 18, 29, 30] (by decide +kernel) (by decide +kernel)
set_option maxRecDepth 20000 in
theorem gX4_readMass_X7_isAt : GoodIn wsX4_readMass (wsV RX4 40 RX7 yX7_isAt wsX7_isAt) := goodIn_app (goodIn_of _ (by decide +kernel)) ggX4_readMass_X7_isAt
set_option maxRecDepth 20000 in
theorem ggX4_readMass_X7_digitAt : GoodIn wsX4_readMass wsX7_digitAt := goodIn_r _ [13, 14, 15, 16, 17, 18, 29, 30] (by decide +kernel) (by decide +kernel)
set_option maxRecDepth 20000 in
theorem gX4_readMass_X7_digitAt : GoodIn wsX4_readMass (wsV RX4 67 RX7 yX7_digitAt wsX7_digitAt) := goodIn_app (goodIn_of _ (by decide +kernel)) ggX4_readMass_X7_digitAt
theorem dX4_readMass_0 : decode cX4_readMass 0 = .ok (.aload_n 0, 1) := by decide +kernel
theorem dX4_readMass_1 : decode cX4_readMass 1 = .ok (.aload_n 1, 1) := by decide +kernel
theorem dX4_readMass_2 : decode cX4_readMass 2 = .ok (.iconst 1, 1) := by decide +kernel
theorem dX4_readMass_3 : decode cX4_readMass 3 = .ok (.sipush 200, 3) := by decide +kernel
theorem dX4_readMass_6 : decode cX4_readMass 6 = .ok (.invokevirtual 60, 3) := by decide +kernel
theorem dX4_readMass_9 : decode cX4_readMass 9 = .ok (.istore_n 2, 1) := by decide +kernel
theorem dX4_readMass_10 : decode cX4_readMass 10 = .ok (.iload_n 2, 1) := by decide +kernel
theorem dX4_readMass_11 : decode cX4_readMass 11 = .ok (.ifCond .ge 5, 3) := by decide +kernel
theorem dX4_readMass_14 : decode cX4_readMass 14 = .ok (.iconst 0, 1) := by decide +kernel
theorem dX4_readMass_15 : decode cX4_readMass 15 = .ok (.ireturn, 1) := by decide +kernel
theorem dX4_readMass_16 : decode cX4_readMass 16 = .ok (.aload_n 0, 1) := by decide +kernel
theorem dX4_readMass_17 : decode cX4_readMass 17 = .ok (.iload_n 2, 1) := by decide +kernel
theorem dX4_readMass_18 : decode cX4_readMass 18 = .ok (.bipush 10, 2) := by decide +kernel
theorem dX4_readMass_20 : decode cX4_readMass 20 = .ok (.imul, 1) := by decide +kernel
theorem dX4_readMass_21 : decode cX4_readMass 21 = .ok (.putfield 47, 3) := by decide +kernel
theorem dX4_readMass_24 : decode cX4_readMass 24 = .ok (.aload_n 1, 1) := by decide +kernel
theorem dX4_readMass_25 : decode cX4_readMass 25 = .ok (.aload_n 0, 1) := by decide +kernel
theorem dX4_readMass_26 : decode cX4_readMass 26 = .ok (.getfield 25, 3) := by decide +kernel
theorem dX4_readMass_29 : decode cX4_readMass 29 = .ok (.bipush 46, 2) := by decide +kernel
theorem dX4_readMass_31 : decode cX4_readMass 31 = .ok (.invokevirtual 40, 3) := by decide +kernel
theorem dX4_readMass_34 : decode cX4_readMass 34 = .ok (.ifCond .ne 5, 3) := by decide +kernel
theorem dX4_readMass_37 : decode cX4_readMass 37 = .ok (.iconst 1, 1) := by decide +kernel
theorem dX4_readMass_38 : decode cX4_readMass 38 = .ok (.ireturn, 1) := by decide +kernel
theorem dX4_readMass_39 : decode cX4_readMass 39 = .ok (.aload_n 0, 1) := by decide +kernel
theorem dX4_readMass_40 : decode cX4_readMass 40 = .ok (.dup, 1) := by decide +kernel
theorem dX4_readMass_41 : decode cX4_readMass 41 = .ok (.getfield 25, 3) := by decide +kernel
theorem dX4_readMass_44 : decode cX4_readMass 44 = .ok (.iconst 1, 1) := by decide +kernel
theorem dX4_readMass_45 : decode cX4_readMass 45 = .ok (.iadd, 1) := by decide +kernel
theorem dX4_readMass_46 : decode cX4_readMass 46 = .ok (.putfield 25, 3) := by decide +kernel
theorem dX4_readMass_49 : decode cX4_readMass 49 = .ok (.aload_n 1, 1) := by decide +kernel
theorem dX4_readMass_50 : decode cX4_readMass 50 = .ok (.aload_n 0, 1) := by decide +kernel
theorem dX4_readMass_51 : decode cX4_readMass 51 = .ok (.getfield 25, 3) := by decide +kernel
theorem dX4_readMass_54 : decode cX4_readMass 54 = .ok (.invokevirtual 67, 3) := by decide +kernel
theorem dX4_readMass_57 : decode cX4_readMass 57 = .ok (.istore_n 3, 1) := by decide +kernel
theorem dX4_readMass_58 : decode cX4_readMass 58 = .ok (.iload_n 3, 1) := by decide +kernel
theorem dX4_readMass_59 : decode cX4_readMass 59 = .ok (.ifCond .lt 15, 3) := by decide +kernel
theorem dX4_readMass_62 : decode cX4_readMass 62 = .ok (.aload_n 0, 1) := by decide +kernel
theorem dX4_readMass_63 : decode cX4_readMass 63 = .ok (.getfield 47, 3) := by decide +kernel
theorem dX4_readMass_66 : decode cX4_readMass 66 = .ok (.iload_n 3, 1) := by decide +kernel
theorem dX4_readMass_67 : decode cX4_readMass 67 = .ok (.iadd, 1) := by decide +kernel
theorem dX4_readMass_68 : decode cX4_readMass 68 = .ok (.sipush 2000, 3) := by decide +kernel
theorem dX4_readMass_71 : decode cX4_readMass 71 = .ok (.if_icmp .le 5, 3) := by decide +kernel
theorem dX4_readMass_74 : decode cX4_readMass 74 = .ok (.iconst 0, 1) := by decide +kernel
theorem dX4_readMass_75 : decode cX4_readMass 75 = .ok (.ireturn, 1) := by decide +kernel
theorem dX4_readMass_76 : decode cX4_readMass 76 = .ok (.aload_n 0, 1) := by decide +kernel
theorem dX4_readMass_77 : decode cX4_readMass 77 = .ok (.dup, 1) := by decide +kernel
theorem dX4_readMass_78 : decode cX4_readMass 78 = .ok (.getfield 47, 3) := by decide +kernel
theorem dX4_readMass_81 : decode cX4_readMass 81 = .ok (.iload_n 3, 1) := by decide +kernel
theorem dX4_readMass_82 : decode cX4_readMass 82 = .ok (.iadd, 1) := by decide +kernel
theorem dX4_readMass_83 : decode cX4_readMass 83 = .ok (.putfield 47, 3) := by decide +kernel
theorem dX4_readMass_86 : decode cX4_readMass 86 = .ok (.aload_n 0, 1) := by decide +kernel
theorem dX4_readMass_87 : decode cX4_readMass 87 = .ok (.dup, 1) := by decide +kernel
theorem dX4_readMass_88 : decode cX4_readMass 88 = .ok (.getfield 25, 3) := by decide +kernel
theorem dX4_readMass_91 : decode cX4_readMass 91 = .ok (.iconst 1, 1) := by decide +kernel
theorem dX4_readMass_92 : decode cX4_readMass 92 = .ok (.iadd, 1) := by decide +kernel
theorem dX4_readMass_93 : decode cX4_readMass 93 = .ok (.putfield 25, 3) := by decide +kernel
theorem dX4_readMass_96 : decode cX4_readMass 96 = .ok (.iconst 1, 1) := by decide +kernel
theorem dX4_readMass_97 : decode cX4_readMass 97 = .ok (.ireturn, 1) := by decide +kernel
set_option maxRecDepth 20000 in
theorem ggX4_readTimes_X7_isAt : GoodIn wsX4_readTimes wsX7_isAt := goodIn_r _ [7, 8, 9, 10, 11, 12, 29, 30] (by decide +kernel) (by decide +kernel)
set_option maxRecDepth 20000 in
theorem gX4_readTimes_X7_isAt : GoodIn wsX4_readTimes (wsV RX4 40 RX7 yX7_isAt wsX7_isAt) := goodIn_app (goodIn_of _ (by decide +kernel)) ggX4_readTimes_X7_isAt
set_option maxRecDepth 20000 in
theorem ggX4_readTimes_X4_readNumber : GoodIn wsX4_readTimes wsX4_readNumber := goodIn_r _ [17, 2, 18, 19, 20, 21, 6, 22, 8, 9, 10, 11, 12, 23, 24, 25, 26, 27, 28, 29, 30] (by decide +kernel) (by decide +kernel)
set_option maxRecDepth 20000 in
theorem gX4_readTimes_X4_readNumber : GoodIn wsX4_readTimes (wsV RX4 60 RX4 yX4_readNumber wsX4_readNumber) := goodIn_app (goodIn_of _ (by decide +kernel)) ggX4_readTimes_X4_readNumber
theorem dX4_readTimes_0 : decode cX4_readTimes 0 = .ok (.aload_n 0, 1) := by decide +kernel
theorem dX4_readTimes_1 : decode cX4_readTimes 1 = .ok (.iconst 1, 1) := by decide +kernel
theorem dX4_readTimes_2 : decode cX4_readTimes 2 = .ok (.putfield 44, 3) := by decide +kernel
theorem dX4_readTimes_5 : decode cX4_readTimes 5 = .ok (.aload_n 1, 1) := by decide +kernel
theorem dX4_readTimes_6 : decode cX4_readTimes 6 = .ok (.aload_n 0, 1) := by decide +kernel
theorem dX4_readTimes_7 : decode cX4_readTimes 7 = .ok (.getfield 25, 3) := by decide +kernel
theorem dX4_readTimes_10 : decode cX4_readTimes 10 = .ok (.bipush 120, 2) := by decide +kernel
theorem dX4_readTimes_12 : decode cX4_readTimes 12 = .ok (.invokevirtual 40, 3) := by decide +kernel
theorem dX4_readTimes_15 : decode cX4_readTimes 15 = .ok (.ifCond .eq 25, 3) := by decide +kernel
theorem dX4_readTimes_18 : decode cX4_readTimes 18 = .ok (.aload_n 0, 1) := by decide +kernel
theorem dX4_readTimes_19 : decode cX4_readTimes 19 = .ok (.dup, 1) := by decide +kernel
theorem dX4_readTimes_20 : decode cX4_readTimes 20 = .ok (.getfield 25, 3) := by decide +kernel
theorem dX4_readTimes_23 : decode cX4_readTimes 23 = .ok (.iconst 1, 1) := by decide +kernel
theorem dX4_readTimes_24 : decode cX4_readTimes 24 = .ok (.iadd, 1) := by decide +kernel
theorem dX4_readTimes_25 : decode cX4_readTimes 25 = .ok (.putfield 25, 3) := by decide +kernel
theorem dX4_readTimes_28 : decode cX4_readTimes 28 = .ok (.aload_n 0, 1) := by decide +kernel
theorem dX4_readTimes_29 : decode cX4_readTimes 29 = .ok (.aload_n 0, 1) := by decide +kernel
theorem dX4_readTimes_30 : decode cX4_readTimes 30 = .ok (.aload_n 1, 1) := by decide +kernel
theorem dX4_readTimes_31 : decode cX4_readTimes 31 = .ok (.iconst 2, 1) := by decide +kernel
theorem dX4_readTimes_32 : decode cX4_readTimes 32 = .ok (.bipush 9, 2) := by decide +kernel
theorem dX4_readTimes_34 : decode cX4_readTimes 34 = .ok (.invokevirtual 60, 3) := by decide +kernel
theorem dX4_readTimes_37 : decode cX4_readTimes 37 = .ok (.putfield 44, 3) := by decide +kernel
theorem dX4_readTimes_40 : decode cX4_readTimes 40 = .ok (.aload_n 0, 1) := by decide +kernel
theorem dX4_readTimes_41 : decode cX4_readTimes 41 = .ok (.getfield 44, 3) := by decide +kernel
theorem dX4_readTimes_44 : decode cX4_readTimes 44 = .ok (.ifCond .lt 7, 3) := by decide +kernel
theorem dX4_readTimes_47 : decode cX4_readTimes 47 = .ok (.iconst 1, 1) := by decide +kernel
theorem dX4_readTimes_48 : decode cX4_readTimes 48 = .ok (.goto 4, 3) := by decide +kernel
theorem dX4_readTimes_51 : decode cX4_readTimes 51 = .ok (.iconst 0, 1) := by decide +kernel
theorem dX4_readTimes_52 : decode cX4_readTimes 52 = .ok (.ireturn, 1) := by decide +kernel
set_option maxRecDepth 20000 in
theorem ggX4_readNumber_X7_digitAt : GoodIn wsX4_readNumber wsX7_digitAt := goodIn_r _ [7, 8, 9, 10, 11, 12, 19, 20] (by decide +kernel) (by decide +kernel)
set_option maxRecDepth 20000 in
theorem gX4_readNumber_X7_digitAt : GoodIn wsX4_readNumber (wsV RX4 67 RX7 yX7_digitAt wsX7_digitAt) := goodIn_app (goodIn_of _ (by decide +kernel)) ggX4_readNumber_X7_digitAt
theorem dX4_readNumber_0 : decode cX4_readNumber 0 = .ok (.iconst 0, 1) := by decide +kernel
theorem dX4_readNumber_1 : decode cX4_readNumber 1 = .ok (.istore 4, 2) := by decide +kernel
theorem dX4_readNumber_3 : decode cX4_readNumber 3 = .ok (.aload_n 0, 1) := by decide +kernel
theorem dX4_readNumber_4 : decode cX4_readNumber 4 = .ok (.getfield 25, 3) := by decide +kernel
theorem dX4_readNumber_7 : decode cX4_readNumber 7 = .ok (.aload_n 1, 1) := by decide +kernel
theorem dX4_readNumber_8 : decode cX4_readNumber 8 = .ok (.getfield 35, 3) := by decide +kernel
theorem dX4_readNumber_11 : decode cX4_readNumber 11 = .ok (.if_icmp .ge 61, 3) := by decide +kernel
theorem dX4_readNumber_14 : decode cX4_readNumber 14 = .ok (.aload_n 1, 1) := by decide +kernel
theorem dX4_readNumber_15 : decode cX4_readNumber 15 = .ok (.aload_n 0, 1) := by decide +kernel
theorem dX4_readNumber_16 : decode cX4_readNumber 16 = .ok (.getfield 25, 3) := by decide +kernel
theorem dX4_readNumber_19 : decode cX4_readNumber 19 = .ok (.invokevirtual 67, 3) := by decide +kernel
theorem dX4_readNumber_22 : decode cX4_readNumber 22 = .ok (.istore 5, 2) := by decide +kernel
theorem dX4_readNumber_24 : decode cX4_readNumber 24 = .ok (.iload 5, 2) := by decide +kernel
theorem dX4_readNumber_26 : decode cX4_readNumber 26 = .ok (.ifCond .ge 6, 3) := by decide +kernel
theorem dX4_readNumber_29 : decode cX4_readNumber 29 = .ok (.goto 43, 3) := by decide +kernel
theorem dX4_readNumber_32 : decode cX4_readNumber 32 = .ok (.iload 4, 2) := by decide +kernel
theorem dX4_readNumber_34 : decode cX4_readNumber 34 = .ok (.bipush 10, 2) := by decide +kernel
theorem dX4_readNumber_36 : decode cX4_readNumber 36 = .ok (.imul, 1) := by decide +kernel
theorem dX4_readNumber_37 : decode cX4_readNumber 37 = .ok (.iload 5, 2) := by decide +kernel
theorem dX4_readNumber_39 : decode cX4_readNumber 39 = .ok (.iadd, 1) := by decide +kernel
theorem dX4_readNumber_40 : decode cX4_readNumber 40 = .ok (.istore 6, 2) := by decide +kernel
theorem dX4_readNumber_42 : decode cX4_readNumber 42 = .ok (.iload 6, 2) := by decide +kernel
theorem dX4_readNumber_44 : decode cX4_readNumber 44 = .ok (.ifCond .eq 9, 3) := by decide +kernel
theorem dX4_readNumber_47 : decode cX4_readNumber 47 = .ok (.iload 6, 2) := by decide +kernel
theorem dX4_readNumber_49 : decode cX4_readNumber 49 = .ok (.iload_n 3, 1) := by decide +kernel
theorem dX4_readNumber_50 : decode cX4_readNumber 50 = .ok (.if_icmp .le 5, 3) := by decide +kernel
theorem dX4_readNumber_53 : decode cX4_readNumber 53 = .ok (.iconst (-1), 1) := by decide +kernel
theorem dX4_readNumber_54 : decode cX4_readNumber 54 = .ok (.ireturn, 1) := by decide +kernel
theorem dX4_readNumber_55 : decode cX4_readNumber 55 = .ok (.iload 6, 2) := by decide +kernel
theorem dX4_readNumber_57 : decode cX4_readNumber 57 = .ok (.istore 4, 2) := by decide +kernel
theorem dX4_readNumber_59 : decode cX4_readNumber 59 = .ok (.aload_n 0, 1) := by decide +kernel
theorem dX4_readNumber_60 : decode cX4_readNumber 60 = .ok (.dup, 1) := by decide +kernel
theorem dX4_readNumber_61 : decode cX4_readNumber 61 = .ok (.getfield 25, 3) := by decide +kernel
theorem dX4_readNumber_64 : decode cX4_readNumber 64 = .ok (.iconst 1, 1) := by decide +kernel
theorem dX4_readNumber_65 : decode cX4_readNumber 65 = .ok (.iadd, 1) := by decide +kernel
theorem dX4_readNumber_66 : decode cX4_readNumber 66 = .ok (.putfield 25, 3) := by decide +kernel
theorem dX4_readNumber_69 : decode cX4_readNumber 69 = .ok (.goto (-66), 3) := by decide +kernel
theorem dX4_readNumber_72 : decode cX4_readNumber 72 = .ok (.iload 4, 2) := by decide +kernel
theorem dX4_readNumber_74 : decode cX4_readNumber 74 = .ok (.iload_n 2, 1) := by decide +kernel
theorem dX4_readNumber_75 : decode cX4_readNumber 75 = .ok (.if_icmp .ge 7, 3) := by decide +kernel
theorem dX4_readNumber_78 : decode cX4_readNumber 78 = .ok (.iconst (-1), 1) := by decide +kernel
theorem dX4_readNumber_79 : decode cX4_readNumber 79 = .ok (.goto 5, 3) := by decide +kernel
theorem dX4_readNumber_82 : decode cX4_readNumber 82 = .ok (.iload 4, 2) := by decide +kernel
theorem dX4_readNumber_84 : decode cX4_readNumber 84 = .ok (.ireturn, 1) := by decide +kernel
theorem dX5_init_0 : decode cX5_init 0 = .ok (.aload_n 0, 1) := by decide +kernel
theorem dX5_init_1 : decode cX5_init 1 = .ok (.invokespecial 3, 3) := by decide +kernel
theorem dX5_init_4 : decode cX5_init 4 = .ok (.aload_n 0, 1) := by decide +kernel
theorem dX5_init_5 : decode cX5_init 5 = .ok (.iconst 5, 1) := by decide +kernel
theorem dX5_init_6 : decode cX5_init 6 = .ok (.newarray .int, 2) := by decide +kernel
theorem dX5_init_8 : decode cX5_init 8 = .ok (.putfield 9, 3) := by decide +kernel
theorem dX5_init_11 : decode cX5_init 11 = .ok (.aload_n 0, 1) := by decide +kernel
theorem dX5_init_12 : decode cX5_init 12 = .ok (.iconst 5, 1) := by decide +kernel
theorem dX5_init_13 : decode cX5_init 13 = .ok (.newarray .int, 2) := by decide +kernel
theorem dX5_init_15 : decode cX5_init 15 = .ok (.putfield 15, 3) := by decide +kernel
theorem dX5_init_18 : decode cX5_init 18 = .ok (.return_, 1) := by decide +kernel
set_option maxRecDepth 20000 in
theorem ggX5_copyFrom_X8_copyRow : GoodIn wsX5_copyFrom wsX8_copyRow := goodIn_r _ [6, 7, 8, 9, 10, 11, 12, 13, 14] (by decide +kernel) (by decide +kernel)
set_option maxRecDepth 20000 in
theorem gX5_copyFrom_X8_copyRow_n18 : GoodIn wsX5_copyFrom (wsX8_copyRow) := ggX5_copyFrom_X8_copyRow
theorem dX5_copyFrom_0 : decode cX5_copyFrom 0 = .ok (.aload_n 1, 1) := by decide +kernel
theorem dX5_copyFrom_1 : decode cX5_copyFrom 1 = .ok (.getfield 9, 3) := by decide +kernel
theorem dX5_copyFrom_4 : decode cX5_copyFrom 4 = .ok (.aload_n 0, 1) := by decide +kernel
theorem dX5_copyFrom_5 : decode cX5_copyFrom 5 = .ok (.getfield 9, 3) := by decide +kernel
theorem dX5_copyFrom_8 : decode cX5_copyFrom 8 = .ok (.invokestatic 18, 3) := by decide +kernel
theorem dX5_copyFrom_11 : decode cX5_copyFrom 11 = .ok (.aload_n 1, 1) := by decide +kernel
theorem dX5_copyFrom_12 : decode cX5_copyFrom 12 = .ok (.getfield 15, 3) := by decide +kernel
theorem dX5_copyFrom_15 : decode cX5_copyFrom 15 = .ok (.aload_n 0, 1) := by decide +kernel
theorem dX5_copyFrom_16 : decode cX5_copyFrom 16 = .ok (.getfield 15, 3) := by decide +kernel
theorem dX5_copyFrom_19 : decode cX5_copyFrom 19 = .ok (.invokestatic 18, 3) := by decide +kernel
theorem dX5_copyFrom_22 : decode cX5_copyFrom 22 = .ok (.aload_n 0, 1) := by decide +kernel
theorem dX5_copyFrom_23 : decode cX5_copyFrom 23 = .ok (.aload_n 1, 1) := by decide +kernel
theorem dX5_copyFrom_24 : decode cX5_copyFrom 24 = .ok (.getfield 22, 3) := by decide +kernel
theorem dX5_copyFrom_27 : decode cX5_copyFrom 27 = .ok (.putfield 22, 3) := by decide +kernel
theorem dX5_copyFrom_30 : decode cX5_copyFrom 30 = .ok (.return_, 1) := by decide +kernel
theorem dX5_has_0 : decode cX5_has 0 = .ok (.iload_n 1, 1) := by decide +kernel
theorem dX5_has_1 : decode cX5_has 1 = .ok (.ifCond .lt 15, 3) := by decide +kernel
theorem dX5_has_4 : decode cX5_has 4 = .ok (.iload_n 1, 1) := by decide +kernel
theorem dX5_has_5 : decode cX5_has 5 = .ok (.aload_n 0, 1) := by decide +kernel
theorem dX5_has_6 : decode cX5_has 6 = .ok (.getfield 22, 3) := by decide +kernel
theorem dX5_has_9 : decode cX5_has 9 = .ok (.if_icmp .ge 7, 3) := by decide +kernel
theorem dX5_has_12 : decode cX5_has 12 = .ok (.iconst 1, 1) := by decide +kernel
theorem dX5_has_13 : decode cX5_has 13 = .ok (.goto 4, 3) := by decide +kernel
theorem dX5_has_16 : decode cX5_has 16 = .ok (.iconst 0, 1) := by decide +kernel
theorem dX5_has_17 : decode cX5_has 17 = .ok (.ireturn, 1) := by decide +kernel
theorem dX5_add_0 : decode cX5_add 0 = .ok (.aload_n 0, 1) := by decide +kernel
theorem dX5_add_1 : decode cX5_add 1 = .ok (.getfield 22, 3) := by decide +kernel
theorem dX5_add_4 : decode cX5_add 4 = .ok (.iconst 5, 1) := by decide +kernel
theorem dX5_add_5 : decode cX5_add 5 = .ok (.if_icmp .ge 33, 3) := by decide +kernel
theorem dX5_add_8 : decode cX5_add 8 = .ok (.aload_n 0, 1) := by decide +kernel
theorem dX5_add_9 : decode cX5_add 9 = .ok (.getfield 9, 3) := by decide +kernel
theorem dX5_add_12 : decode cX5_add 12 = .ok (.aload_n 0, 1) := by decide +kernel
theorem dX5_add_13 : decode cX5_add 13 = .ok (.getfield 22, 3) := by decide +kernel
theorem dX5_add_16 : decode cX5_add 16 = .ok (.iload_n 1, 1) := by decide +kernel
theorem dX5_add_17 : decode cX5_add 17 = .ok (.iastore, 1) := by decide +kernel
theorem dX5_add_18 : decode cX5_add 18 = .ok (.aload_n 0, 1) := by decide +kernel
theorem dX5_add_19 : decode cX5_add 19 = .ok (.getfield 15, 3) := by decide +kernel
theorem dX5_add_22 : decode cX5_add 22 = .ok (.aload_n 0, 1) := by decide +kernel
theorem dX5_add_23 : decode cX5_add 23 = .ok (.getfield 22, 3) := by decide +kernel
theorem dX5_add_26 : decode cX5_add 26 = .ok (.iload_n 2, 1) := by decide +kernel
theorem dX5_add_27 : decode cX5_add 27 = .ok (.iastore, 1) := by decide +kernel
theorem dX5_add_28 : decode cX5_add 28 = .ok (.aload_n 0, 1) := by decide +kernel
theorem dX5_add_29 : decode cX5_add 29 = .ok (.dup, 1) := by decide +kernel
theorem dX5_add_30 : decode cX5_add 30 = .ok (.getfield 22, 3) := by decide +kernel
theorem dX5_add_33 : decode cX5_add 33 = .ok (.iconst 1, 1) := by decide +kernel
theorem dX5_add_34 : decode cX5_add 34 = .ok (.iadd, 1) := by decide +kernel
theorem dX5_add_35 : decode cX5_add 35 = .ok (.putfield 22, 3) := by decide +kernel
theorem dX5_add_38 : decode cX5_add 38 = .ok (.return_, 1) := by decide +kernel
set_option maxRecDepth 20000 in
theorem ggX5_remove_X5_has : GoodIn wsX5_remove wsX5_has := goodIn_r _ [8, 1, 9, 10, 11] (by decide +kernel) (by decide +kernel)
set_option maxRecDepth 20000 in
theorem gX5_remove_X5_has : GoodIn wsX5_remove (wsV RX5 26 RX5 yX5_has wsX5_has) := goodIn_app (goodIn_of _ (by decide +kernel)) ggX5_remove_X5_has
theorem dX5_remove_0 : decode cX5_remove 0 = .ok (.aload_n 0, 1) := by decide +kernel
theorem dX5_remove_1 : decode cX5_remove 1 = .ok (.iload_n 1, 1) := by decide +kernel
theorem dX5_remove_2 : decode cX5_remove 2 = .ok (.invokevirtual 26, 3) := by decide +kernel
theorem dX5_remove_5 : decode cX5_remove 5 = .ok (.ifCond .ne 4, 3) := by decide +kernel
theorem dX5_remove_8 : decode cX5_remove 8 = .ok (.return_, 1) := by decide +kernel
theorem dX5_remove_9 : decode cX5_remove 9 = .ok (.iload_n 1, 1) := by decide +kernel
theorem dX5_remove_10 : decode cX5_remove 10 = .ok (.istore_n 2, 1) := by decide +kernel
theorem dX5_remove_11 : decode cX5_remove 11 = .ok (.iload_n 2, 1) := by decide +kernel
theorem dX5_remove_12 : decode cX5_remove 12 = .ok (.aload_n 0, 1) := by decide +kernel
theorem dX5_remove_13 : decode cX5_remove 13 = .ok (.getfield 22, 3) := by decide +kernel
theorem dX5_remove_16 : decode cX5_remove 16 = .ok (.iconst 1, 1) := by decide +kernel
theorem dX5_remove_17 : decode cX5_remove 17 = .ok (.isub, 1) := by decide +kernel
theorem dX5_remove_18 : decode cX5_remove 18 = .ok (.if_icmp .ge 37, 3) := by decide +kernel
theorem dX5_remove_21 : decode cX5_remove 21 = .ok (.aload_n 0, 1) := by decide +kernel
theorem dX5_remove_22 : decode cX5_remove 22 = .ok (.getfield 9, 3) := by decide +kernel
theorem dX5_remove_25 : decode cX5_remove 25 = .ok (.iload_n 2, 1) := by decide +kernel
theorem dX5_remove_26 : decode cX5_remove 26 = .ok (.aload_n 0, 1) := by decide +kernel
theorem dX5_remove_27 : decode cX5_remove 27 = .ok (.getfield 9, 3) := by decide +kernel
theorem dX5_remove_30 : decode cX5_remove 30 = .ok (.iload_n 2, 1) := by decide +kernel
theorem dX5_remove_31 : decode cX5_remove 31 = .ok (.iconst 1, 1) := by decide +kernel
theorem dX5_remove_32 : decode cX5_remove 32 = .ok (.iadd, 1) := by decide +kernel
theorem dX5_remove_33 : decode cX5_remove 33 = .ok (.iaload, 1) := by decide +kernel
theorem dX5_remove_34 : decode cX5_remove 34 = .ok (.iastore, 1) := by decide +kernel
theorem dX5_remove_35 : decode cX5_remove 35 = .ok (.aload_n 0, 1) := by decide +kernel
theorem dX5_remove_36 : decode cX5_remove 36 = .ok (.getfield 15, 3) := by decide +kernel
theorem dX5_remove_39 : decode cX5_remove 39 = .ok (.iload_n 2, 1) := by decide +kernel
theorem dX5_remove_40 : decode cX5_remove 40 = .ok (.aload_n 0, 1) := by decide +kernel
theorem dX5_remove_41 : decode cX5_remove 41 = .ok (.getfield 15, 3) := by decide +kernel
theorem dX5_remove_44 : decode cX5_remove 44 = .ok (.iload_n 2, 1) := by decide +kernel
theorem dX5_remove_45 : decode cX5_remove 45 = .ok (.iconst 1, 1) := by decide +kernel
theorem dX5_remove_46 : decode cX5_remove 46 = .ok (.iadd, 1) := by decide +kernel
theorem dX5_remove_47 : decode cX5_remove 47 = .ok (.iaload, 1) := by decide +kernel
theorem dX5_remove_48 : decode cX5_remove 48 = .ok (.iastore, 1) := by decide +kernel
theorem dX5_remove_49 : decode cX5_remove 49 = .ok (.iinc 2 1, 3) := by decide +kernel
theorem dX5_remove_52 : decode cX5_remove 52 = .ok (.goto (-41), 3) := by decide +kernel
theorem dX5_remove_55 : decode cX5_remove 55 = .ok (.aload_n 0, 1) := by decide +kernel
theorem dX5_remove_56 : decode cX5_remove 56 = .ok (.dup, 1) := by decide +kernel
theorem dX5_remove_57 : decode cX5_remove 57 = .ok (.getfield 22, 3) := by decide +kernel
theorem dX5_remove_60 : decode cX5_remove 60 = .ok (.iconst 1, 1) := by decide +kernel
theorem dX5_remove_61 : decode cX5_remove 61 = .ok (.isub, 1) := by decide +kernel
theorem dX5_remove_62 : decode cX5_remove 62 = .ok (.putfield 22, 3) := by decide +kernel
theorem dX5_remove_65 : decode cX5_remove 65 = .ok (.return_, 1) := by decide +kernel
set_option maxRecDepth 20000 in
theorem ggX5_isWithin_X5_has : GoodIn wsX5_isWithin wsX5_has := goodIn_r _ [7, 8, 16, 17, 18] (by decide +kernel) (by decide +kernel)
set_option maxRecDepth 20000 in
theorem gX5_isWithin_X5_has : GoodIn wsX5_isWithin (wsV RX5 26 RX5 yX5_has wsX5_has) := goodIn_app (goodIn_of _ (by decide +kernel)) ggX5_isWithin_X5_has
set_option maxRecDepth 20000 in
theorem ggX5_isWithin_X8_difference : GoodIn wsX5_isWithin wsX8_difference := goodIn_r _ [11, 12, 13, 14, 15] (by decide +kernel) (by decide +kernel)
set_option maxRecDepth 20000 in
theorem gX5_isWithin_X8_difference_n30 : GoodIn wsX5_isWithin (wsX8_difference) := ggX5_isWithin_X8_difference
theorem dX5_isWithin_0 : decode cX5_isWithin 0 = .ok (.aload_n 0, 1) := by decide +kernel
theorem dX5_isWithin_1 : decode cX5_isWithin 1 = .ok (.iload_n 1, 1) := by decide +kernel
theorem dX5_isWithin_2 : decode cX5_isWithin 2 = .ok (.invokevirtual 26, 3) := by decide +kernel
theorem dX5_isWithin_5 : decode cX5_isWithin 5 = .ok (.ifCond .eq 26, 3) := by decide +kernel
theorem dX5_isWithin_8 : decode cX5_isWithin 8 = .ok (.iload_n 2, 1) := by decide +kernel
theorem dX5_isWithin_9 : decode cX5_isWithin 9 = .ok (.aload_n 0, 1) := by decide +kernel
theorem dX5_isWithin_10 : decode cX5_isWithin 10 = .ok (.getfield 9, 3) := by decide +kernel
theorem dX5_isWithin_13 : decode cX5_isWithin 13 = .ok (.iload_n 1, 1) := by decide +kernel
theorem dX5_isWithin_14 : decode cX5_isWithin 14 = .ok (.iaload, 1) := by decide +kernel
theorem dX5_isWithin_15 : decode cX5_isWithin 15 = .ok (.invokestatic 30, 3) := by decide +kernel
theorem dX5_isWithin_18 : decode cX5_isWithin 18 = .ok (.aload_n 0, 1) := by decide +kernel
theorem dX5_isWithin_19 : decode cX5_isWithin 19 = .ok (.getfield 15, 3) := by decide +kernel
theorem dX5_isWithin_22 : decode cX5_isWithin 22 = .ok (.iload_n 1, 1) := by decide +kernel
theorem dX5_isWithin_23 : decode cX5_isWithin 23 = .ok (.iaload, 1) := by decide +kernel
theorem dX5_isWithin_24 : decode cX5_isWithin 24 = .ok (.if_icmp .gt 7, 3) := by decide +kernel
theorem dX5_isWithin_27 : decode cX5_isWithin 27 = .ok (.iconst 1, 1) := by decide +kernel
theorem dX5_isWithin_28 : decode cX5_isWithin 28 = .ok (.goto 4, 3) := by decide +kernel
theorem dX5_isWithin_31 : decode cX5_isWithin 31 = .ok (.iconst 0, 1) := by decide +kernel
theorem dX5_isWithin_32 : decode cX5_isWithin 32 = .ok (.ireturn, 1) := by decide +kernel
set_option maxRecDepth 20000 in
theorem ggX5_isMet_X1_seriesSize : GoodIn wsX5_isMet wsX1_seriesSize := goodIn_r _ [5, 6, 7, 8, 9, 4, 10, 11, 12, 13, 14, 15, 16, 43, 44, 45, 46, 47, 48, 49, 50] (by decide +kernel) (by decide +kernel)
set_option maxRecDepth 20000 in
theorem gX5_isMet_X1_seriesSize : GoodIn wsX5_isMet (wsV RX5 34 RX1 yX1_seriesSize wsX1_seriesSize) := goodIn_app (goodIn_of _ (by decide +kernel)) ggX5_isMet_X1_seriesSize
set_option maxRecDepth 20000 in
theorem ggX5_isMet_X1_mean : GoodIn wsX5_isMet wsX1_mean := goodIn_r _ [20, 6, 21, 7, 8, 9, 4, 10, 11, 12, 13, 14, 15, 16, 22, 23, 24, 43, 44, 45, 46, 47, 48, 49, 50] (by decide +kernel) (by decide +kernel)
set_option maxRecDepth 20000 in
theorem gX5_isMet_X1_mean : GoodIn wsX5_isMet (wsV RX5 40 RX1 yX1_mean wsX1_mean) := goodIn_app (goodIn_of _ (by decide +kernel)) ggX5_isMet_X1_mean
set_option maxRecDepth 20000 in
theorem ggX5_isMet_X5_isWithin : GoodIn wsX5_isMet wsX5_isWithin := goodIn_r _ [29, 30, 31, 32, 33, 34, 28, 35, 36, 37, 23, 38, 39, 40, 41, 42, 51, 52, 53] (by decide +kernel) (by decide +kernel)
set_option maxRecDepth 20000 in
theorem gX5_isMet_X5_isWithin : GoodIn wsX5_isMet (wsV RX5 43 RX5 yX5_isWithin wsX5_isWithin) := goodIn_app (goodIn_of _ (by decide +kernel)) ggX5_isMet_X5_isWithin
theorem dX5_isMet_0 : decode cX5_isMet 0 = .ok (.aload_n 2, 1) := by decide +kernel
theorem dX5_isMet_1 : decode cX5_isMet 1 = .ok (.invokevirtual 34, 3) := by decide +kernel
theorem dX5_isMet_4 : decode cX5_isMet 4 = .ok (.iconst 3, 1) := by decide +kernel
theorem dX5_isMet_5 : decode cX5_isMet 5 = .ok (.if_icmp .lt 19, 3) := by decide +kernel
theorem dX5_isMet_8 : decode cX5_isMet 8 = .ok (.aload_n 0, 1) := by decide +kernel
theorem dX5_isMet_9 : decode cX5_isMet 9 = .ok (.iload_n 1, 1) := by decide +kernel
theorem dX5_isMet_10 : decode cX5_isMet 10 = .ok (.aload_n 2, 1) := by decide +kernel
theorem dX5_isMet_11 : decode cX5_isMet 11 = .ok (.invokevirtual 40, 3) := by decide +kernel
theorem dX5_isMet_14 : decode cX5_isMet 14 = .ok (.invokevirtual 43, 3) := by decide +kernel
theorem dX5_isMet_17 : decode cX5_isMet 17 = .ok (.ifCond .eq 7, 3) := by decide +kernel
theorem dX5_isMet_20 : decode cX5_isMet 20 = .ok (.iconst 1, 1) := by decide +kernel
theorem dX5_isMet_21 : decode cX5_isMet 21 = .ok (.goto 4, 3) := by decide +kernel
theorem dX5_isMet_24 : decode cX5_isMet 24 = .ok (.iconst 0, 1) := by decide +kernel
theorem dX5_isMet_25 : decode cX5_isMet 25 = .ok (.ireturn, 1) := by decide +kernel
set_option maxRecDepth 20000 in
theorem ggX5_metBy_X5_isMet : GoodIn wsX5_metBy wsX5_isMet := goodIn_r _ [6, 7, 8, 9, 10, 11, 12, 13, 14, 15, 16, 17, 18, 19, 20, 21, 22, 23, 24, 25, 26, 27, 28, 29, 30, 31, 32, 33, 5, 34, 35, 36, 37, 38, 39, 40, 1, 41, 42, 43, 44, 45, 46, 50, 51, 52, 53, 54, 55, 56, 57, 47, 48, 49] (by decide +kernel) (by decide +kernel)
set_option maxRecDepth 20000 in
theorem gX5_metBy_X5_isMet : GoodIn wsX5_metBy (wsV RX5 47 RX5 yX5_isMet wsX5_isMet) := goodIn_app (goodIn_of _ (by decide +kernel)) ggX5_metBy_X5_isMet
theorem dX5_metBy_0 : decode cX5_metBy 0 = .ok (.iconst 0, 1) := by decide +kernel
theorem dX5_metBy_1 : decode cX5_metBy 1 = .ok (.istore_n 2, 1) := by decide +kernel
theorem dX5_metBy_2 : decode cX5_metBy 2 = .ok (.iconst 0, 1) := by decide +kernel
theorem dX5_metBy_3 : decode cX5_metBy 3 = .ok (.istore_n 3, 1) := by decide +kernel
theorem dX5_metBy_4 : decode cX5_metBy 4 = .ok (.iload_n 3, 1) := by decide +kernel
theorem dX5_metBy_5 : decode cX5_metBy 5 = .ok (.aload_n 0, 1) := by decide +kernel
theorem dX5_metBy_6 : decode cX5_metBy 6 = .ok (.getfield 22, 3) := by decide +kernel
theorem dX5_metBy_9 : decode cX5_metBy 9 = .ok (.if_icmp .ge 24, 3) := by decide +kernel
theorem dX5_metBy_12 : decode cX5_metBy 12 = .ok (.aload_n 0, 1) := by decide +kernel
theorem dX5_metBy_13 : decode cX5_metBy 13 = .ok (.iload_n 3, 1) := by decide +kernel
theorem dX5_metBy_14 : decode cX5_metBy 14 = .ok (.aload_n 1, 1) := by decide +kernel
theorem dX5_metBy_15 : decode cX5_metBy 15 = .ok (.invokevirtual 47, 3) := by decide +kernel
theorem dX5_metBy_18 : decode cX5_metBy 18 = .ok (.ifCond .eq 9, 3) := by decide +kernel
theorem dX5_metBy_21 : decode cX5_metBy 21 = .ok (.iload_n 2, 1) := by decide +kernel
theorem dX5_metBy_22 : decode cX5_metBy 22 = .ok (.iconst 1, 1) := by decide +kernel
theorem dX5_metBy_23 : decode cX5_metBy 23 = .ok (.iload_n 3, 1) := by decide +kernel
theorem dX5_metBy_24 : decode cX5_metBy 24 = .ok (.ishl, 1) := by decide +kernel
theorem dX5_metBy_25 : decode cX5_metBy 25 = .ok (.ior, 1) := by decide +kernel
theorem dX5_metBy_26 : decode cX5_metBy 26 = .ok (.istore_n 2, 1) := by decide +kernel
theorem dX5_metBy_27 : decode cX5_metBy 27 = .ok (.iinc 3 1, 3) := by decide +kernel
theorem dX5_metBy_30 : decode cX5_metBy 30 = .ok (.goto (-26), 3) := by decide +kernel
theorem dX5_metBy_33 : decode cX5_metBy 33 = .ok (.iload_n 2, 1) := by decide +kernel
theorem dX5_metBy_34 : decode cX5_metBy 34 = .ok (.ireturn, 1) := by decide +kernel
set_option maxRecDepth 20000 in
theorem ggX5_shotsWithin_X1_isOfSeries : GoodIn wsX5_shotsWithin wsX1_isOfSeries := goodIn_r _ [7, 8, 9, 10, 11, 12, 6, 13, 14, 34, 35, 36, 37, 38, 39, 40, 41] (by decide +kernel) (by decide +kernel)
set_option maxRecDepth 20000 in
theorem gX5_shotsWithin_X1_isOfSeries : GoodIn wsX5_shotsWithin (wsV RX5 52 RX1 yX1_isOfSeries wsX1_isOfSeries) := goodIn_app (goodIn_of _ (by decide +kernel)) ggX5_shotsWithin_X1_isOfSeries
set_option maxRecDepth 20000 in
theorem ggX5_shotsWithin_X5_isWithin : GoodIn wsX5_shotsWithin wsX5_isWithin := goodIn_r _ [19, 20, 21, 22, 23, 24, 18, 25, 26, 27, 28, 29, 30, 31, 32, 33, 42, 43, 44] (by decide +kernel) (by decide +kernel)
set_option maxRecDepth 20000 in
theorem gX5_shotsWithin_X5_isWithin : GoodIn wsX5_shotsWithin (wsV RX5 43 RX5 yX5_isWithin wsX5_isWithin) := goodIn_app (goodIn_of _ (by decide +kernel)) ggX5_shotsWithin_X5_isWithin
theorem dX5_shotsWithin_0 : decode cX5_shotsWithin 0 = .ok (.iconst 0, 1) := by decide +kernel
theorem dX5_shotsWithin_1 : decode cX5_shotsWithin 1 = .ok (.istore_n 3, 1) := by decide +kernel
theorem dX5_shotsWithin_2 : decode cX5_shotsWithin 2 = .ok (.iconst 0, 1) := by decide +kernel
theorem dX5_shotsWithin_3 : decode cX5_shotsWithin 3 = .ok (.istore 4, 2) := by decide +kernel
theorem dX5_shotsWithin_5 : decode cX5_shotsWithin 5 = .ok (.iload 4, 2) := by decide +kernel
theorem dX5_shotsWithin_7 : decode cX5_shotsWithin 7 = .ok (.aload_n 2, 1) := by decide +kernel
theorem dX5_shotsWithin_8 : decode cX5_shotsWithin 8 = .ok (.getfield 51, 3) := by decide +kernel
theorem dX5_shotsWithin_11 : decode cX5_shotsWithin 11 = .ok (.if_icmp .ge 36, 3) := by decide +kernel
theorem dX5_shotsWithin_14 : decode cX5_shotsWithin 14 = .ok (.aload_n 2, 1) := by decide +kernel
theorem dX5_shotsWithin_15 : decode cX5_shotsWithin 15 = .ok (.iload 4, 2) := by decide +kernel
theorem dX5_shotsWithin_17 : decode cX5_shotsWithin 17 = .ok (.invokevirtual 52, 3) := by decide +kernel
theorem dX5_shotsWithin_20 : decode cX5_shotsWithin 20 = .ok (.ifCond .eq 21, 3) := by decide +kernel
theorem dX5_shotsWithin_23 : decode cX5_shotsWithin 23 = .ok (.aload_n 0, 1) := by decide +kernel
theorem dX5_shotsWithin_24 : decode cX5_shotsWithin 24 = .ok (.iload_n 1, 1) := by decide +kernel
theorem dX5_shotsWithin_25 : decode cX5_shotsWithin 25 = .ok (.aload_n 2, 1) := by decide +kernel
theorem dX5_shotsWithin_26 : decode cX5_shotsWithin 26 = .ok (.getfield 55, 3) := by decide +kernel
theorem dX5_shotsWithin_29 : decode cX5_shotsWithin 29 = .ok (.iload 4, 2) := by decide +kernel
theorem dX5_shotsWithin_31 : decode cX5_shotsWithin 31 = .ok (.iaload, 1) := by decide +kernel
theorem dX5_shotsWithin_32 : decode cX5_shotsWithin 32 = .ok (.invokevirtual 43, 3) := by decide +kernel
theorem dX5_shotsWithin_35 : decode cX5_shotsWithin 35 = .ok (.ifCond .eq 6, 3) := by decide +kernel
theorem dX5_shotsWithin_38 : decode cX5_shotsWithin 38 = .ok (.iinc 3 1, 3) := by decide +kernel
theorem dX5_shotsWithin_41 : decode cX5_shotsWithin 41 = .ok (.iinc 4 1, 3) := by decide +kernel
theorem dX5_shotsWithin_44 : decode cX5_shotsWithin 44 = .ok (.goto (-39), 3) := by decide +kernel
theorem dX5_shotsWithin_47 : decode cX5_shotsWithin 47 = .ok (.iload_n 3, 1) := by decide +kernel
theorem dX5_shotsWithin_48 : decode cX5_shotsWithin 48 = .ok (.ireturn, 1) := by decide +kernel
set_option maxRecDepth 20000 in
theorem ggX6_init_X0_init : GoodIn wsX6_init wsX0_init := goodIn_r _ [23, 24, 2, 3, 25, 26, 27, 28, 29, 30, 31, 32, 33, 34, 35, 36, 37, 38, 39, 61, 62, 63, 64, 65, 66, 67, 68, 69] (by decide +kernel) (by decide +kernel)
set_option maxRecDepth 20000 in
theorem gX6_init_X0_init : GoodIn wsX6_init (wsX0_init) := ggX6_init_X0_init
set_option maxRecDepth 20000 in
theorem ggX6_init_X3_init : GoodIn wsX6_init wsX3_init := goodIn_r _ [41, 42, 2, 3, 26, 43, 44, 75, 76, 77] (by decide +kernel) (by decide +kernel)
set_option maxRecDepth 20000 in
theorem gX6_init_X3_init_n20 : GoodIn wsX6_init (wsX3_init) := ggX6_init_X3_init
set_option maxRecDepth 20000 in
theorem ggX6_init_X1_init : GoodIn wsX6_init wsX1_init := goodIn_r _ [46, 47, 2, 3, 26, 48, 49, 50, 51, 52, 53, 54, 55, 78, 79, 80, 81, 82, 83, 84, 85] (by decide +kernel) (by decide +kernel)
set_option maxRecDepth 20000 in
theorem gX6_init_X1_init_n27 : GoodIn wsX6_init (wsX1_init) := ggX6_init_X1_init
set_option maxRecDepth 20000 in
theorem ggX6_init_X5_init : GoodIn wsX6_init wsX5_init := goodIn_r _ [57, 58, 2, 3, 26, 59, 60, 86, 87, 88] (by decide +kernel) (by decide +kernel)
set_option maxRecDepth 20000 in
theorem gX6_init_X5_init_n34 : GoodIn wsX6_init (wsX5_init) := ggX6_init_X5_init
theorem dX6_init_0 : decode cX6_init 0 = .ok (.aload_n 0, 1) := by decide +kernel
theorem dX6_init_1 : decode cX6_init 1 = .ok (.invokespecial 3, 3) := by decide +kernel
theorem dX6_init_4 : decode cX6_init 4 = .ok (.aload_n 0, 1) := by decide +kernel
theorem dX6_init_5 : decode cX6_init 5 = .ok (.new 9, 3) := by decide +kernel
theorem dX6_init_8 : decode cX6_init 8 = .ok (.dup, 1) := by decide +kernel
theorem dX6_init_9 : decode cX6_init 9 = .ok (.invokespecial 11, 3) := by decide +kernel
theorem dX6_init_12 : decode cX6_init 12 = .ok (.putfield 12, 3) := by decide +kernel
theorem dX6_init_15 : decode cX6_init 15 = .ok (.aload_n 0, 1) := by decide +kernel
theorem dX6_init_16 : decode cX6_init 16 = .ok (.new 18, 3) := by decide +kernel
theorem dX6_init_19 : decode cX6_init 19 = .ok (.dup, 1) := by decide +kernel
theorem dX6_init_20 : decode cX6_init 20 = .ok (.invokespecial 20, 3) := by decide +kernel
theorem dX6_init_23 : decode cX6_init 23 = .ok (.putfield 21, 3) := by decide +kernel
theorem dX6_init_26 : decode cX6_init 26 = .ok (.aload_n 0, 1) := by decide +kernel
theorem dX6_init_27 : decode cX6_init 27 = .ok (.new 25, 3) := by decide +kernel
theorem dX6_init_30 : decode cX6_init 30 = .ok (.dup, 1) := by decide +kernel
theorem dX6_init_31 : decode cX6_init 31 = .ok (.invokespecial 27, 3) := by decide +kernel
theorem dX6_init_34 : decode cX6_init 34 = .ok (.putfield 28, 3) := by decide +kernel
theorem dX6_init_37 : decode cX6_init 37 = .ok (.aload_n 0, 1) := by decide +kernel
theorem dX6_init_38 : decode cX6_init 38 = .ok (.new 32, 3) := by decide +kernel
theorem dX6_init_41 : decode cX6_init 41 = .ok (.dup, 1) := by decide +kernel
theorem dX6_init_42 : decode cX6_init 42 = .ok (.invokespecial 34, 3) := by decide +kernel
theorem dX6_init_45 : decode cX6_init 45 = .ok (.putfield 35, 3) := by decide +kernel
theorem dX6_init_48 : decode cX6_init 48 = .ok (.aload_n 0, 1) := by decide +kernel
theorem dX6_init_49 : decode cX6_init 49 = .ok (.bipush 30, 2) := by decide +kernel
theorem dX6_init_51 : decode cX6_init 51 = .ok (.putfield 39, 3) := by decide +kernel
theorem dX6_init_54 : decode cX6_init 54 = .ok (.return_, 1) := by decide +kernel
set_option maxRecDepth 20000 in
theorem ggX6_copyFrom_X0_copyFrom : GoodIn wsX6_copyFrom wsX0_copyFrom := goodIn_r _ [10, 11, 12, 13, 14, 15, 16, 17, 18, 19, 20, 21, 22, 23, 24, 25, 26, 27, 28, 29, 30, 65, 66, 67, 68, 69, 70, 71, 72, 73] (by decide +kernel) (by decide +kernel)
set_option maxRecDepth 20000 in
theorem gX6_copyFrom_X0_copyFrom : GoodIn wsX6_copyFrom (wsV RX6 43 RX0 yX0_copyFrom wsX0_copyFrom) := goodIn_app (goodIn_of _ (by decide +kernel)) ggX6_copyFrom_X0_copyFrom
set_option maxRecDepth 20000 in
theorem ggX6_copyFrom_X3_copyFrom : GoodIn wsX6_copyFrom wsX3_copyFrom := goodIn_r _ [35, 36, 37, 38, 20, 21, 22, 23, 24, 25, 26, 27, 28, 29, 30, 74, 75, 76] (by decide +kernel) (by decide +kernel)
set_option maxRecDepth 20000 in
theorem gX6_copyFrom_X3_copyFrom : GoodIn wsX6_copyFrom (wsV RX6 47 RX3 yX3_copyFrom wsX3_copyFrom) := goodIn_app (goodIn_of _ (by decide +kernel)) ggX6_copyFrom_X3_copyFrom
set_option maxRecDepth 20000 in
theorem ggX6_copyFrom_X1_copyFrom : GoodIn wsX6_copyFrom wsX1_copyFrom := goodIn_r _ [43, 44, 45, 46, 47, 48, 49, 50, 51, 20, 21, 22, 23, 24, 25, 26, 27, 28, 29, 30, 77, 78, 79, 80, 81, 82, 83, 84] (by decide +kernel) (by decide +kernel)
set_option maxRecDepth 20000 in
theorem gX6_copyFrom_X1_copyFrom : GoodIn wsX6_copyFrom (wsV RX6 50 RX1 yX1_copyFrom wsX1_copyFrom) := goodIn_app (goodIn_of _ (by decide +kernel)) ggX6_copyFrom_X1_copyFrom
set_option maxRecDepth 20000 in
theorem ggX6_copyFrom_X5_copyFrom : GoodIn wsX6_copyFrom wsX5_copyFrom := goodIn_r _ [56, 57, 58, 59, 20, 21, 22, 23, 24, 25, 26, 27, 28, 29, 30, 85, 86, 87] (by decide +kernel) (by decide +kernel)
set_option maxRecDepth 20000 in
theorem gX6_copyFrom_X5_copyFrom : GoodIn wsX6_copyFrom (wsV RX6 53 RX5 yX5_copyFrom wsX5_copyFrom) := goodIn_app (goodIn_of _ (by decide +kernel)) ggX6_copyFrom_X5_copyFrom
theorem dX6_copyFrom_0 : decode cX6_copyFrom 0 = .ok (.aload_n 0, 1) := by decide +kernel
theorem dX6_copyFrom_1 : decode cX6_copyFrom 1 = .ok (.getfield 12, 3) := by decide +kernel
theorem dX6_copyFrom_4 : decode cX6_copyFrom 4 = .ok (.aload_n 1, 1) := by decide +kernel
theorem dX6_copyFrom_5 : decode cX6_copyFrom 5 = .ok (.getfield 12, 3) := by decide +kernel
theorem dX6_copyFrom_8 : decode cX6_copyFrom 8 = .ok (.invokevirtual 43, 3) := by decide +kernel
theorem dX6_copyFrom_11 : decode cX6_copyFrom 11 = .ok (.aload_n 0, 1) := by decide +kernel
theorem dX6_copyFrom_12 : decode cX6_copyFrom 12 = .ok (.getfield 21, 3) := by decide +kernel
theorem dX6_copyFrom_15 : decode cX6_copyFrom 15 = .ok (.aload_n 1, 1) := by decide +kernel
theorem dX6_copyFrom_16 : decode cX6_copyFrom 16 = .ok (.getfield 21, 3) := by decide +kernel
theorem dX6_copyFrom_19 : decode cX6_copyFrom 19 = .ok (.invokevirtual 47, 3) := by decide +kernel
theorem dX6_copyFrom_22 : decode cX6_copyFrom 22 = .ok (.aload_n 0, 1) := by decide +kernel
theorem dX6_copyFrom_23 : decode cX6_copyFrom 23 = .ok (.getfield 28, 3) := by decide +kernel
theorem dX6_copyFrom_26 : decode cX6_copyFrom 26 = .ok (.aload_n 1, 1) := by decide +kernel
theorem dX6_copyFrom_27 : decode cX6_copyFrom 27 = .ok (.getfield 28, 3) := by decide +kernel
theorem dX6_copyFrom_30 : decode cX6_copyFrom 30 = .ok (.invokevirtual 50, 3) := by decide +kernel
theorem dX6_copyFrom_33 : decode cX6_copyFrom 33 = .ok (.aload_n 0, 1) := by decide +kernel
theorem dX6_copyFrom_34 : decode cX6_copyFrom 34 = .ok (.getfield 35, 3) := by decide +kernel
theorem dX6_copyFrom_37 : decode cX6_copyFrom 37 = .ok (.aload_n 1, 1) := by decide +kernel
theorem dX6_copyFrom_38 : decode cX6_copyFrom 38 = .ok (.getfield 35, 3) := by decide +kernel
theorem dX6_copyFrom_41 : decode cX6_copyFrom 41 = .ok (.invokevirtual 53, 3) := by decide +kernel
theorem dX6_copyFrom_44 : decode cX6_copyFrom 44 = .ok (.aload_n 0, 1) := by decide +kernel
theorem dX6_copyFrom_45 : decode cX6_copyFrom 45 = .ok (.aload_n 1, 1) := by decide +kernel
theorem dX6_copyFrom_46 : decode cX6_copyFrom 46 = .ok (.getfield 39, 3) := by decide +kernel
theorem dX6_copyFrom_49 : decode cX6_copyFrom 49 = .ok (.putfield 39, 3) := by decide +kernel
theorem dX6_copyFrom_52 : decode cX6_copyFrom 52 = .ok (.return_, 1) := by decide +kernel
set_option maxRecDepth 20000 in
theorem ggX6_fireFirst_X6_fireOne : GoodIn wsX6_fireFirst wsX6_fireOne := goodIn_r _ [14, 9, 15, 16, 17, 18, 19, 20, 21, 22, 23, 24, 25, 26, 27, 28, 29, 30, 31, 32, 33, 4, 5, 6, 34, 35, 36, 37, 38, 39, 40, 41, 42, 43, 44, 45, 46, 47, 48, 49, 50, 51, 52, 53, 54, 55, 56, 57, 58, 59, 60, 61, 62, 63, 64, 65, 66, 67, 68, 69, 70, 71, 72, 73, 74, 75, 76, 77, 78, 79, 80, 81, 82, 83, 84, 85, 108, 109, 110, 111, 112, 116, 117, 118, 119, 120, 121, 122, 123, 124, 125, 126, 127, 128, 129, 130, 131, 132] (by decide +kernel) (by decide +kernel)
set_option maxRecDepth 20000 in
theorem gX6_fireFirst_X6_fireOne : GoodIn wsX6_fireFirst (wsV RX6 72 RX6 yX6_fireOne wsX6_fireOne) := goodIn_app (goodIn_of _ (by decide +kernel)) ggX6_fireFirst_X6_fireOne
set_option maxRecDepth 20000 in
theorem ggX6_fireFirst_X0_doHalves : GoodIn wsX6_fireFirst wsX0_doHalves := goodIn_r _ [89, 27, 90, 23, 24, 25, 19, 26, 91, 92, 93, 94, 22, 34, 35, 5, 36, 116, 117, 118, 119, 120, 121, 122, 123, 124] (by decide +kernel) (by decide +kernel)
set_option maxRecDepth 20000 in
theorem gX6_fireFirst_X0_doHalves : GoodIn wsX6_fireFirst (wsV RX6 76 RX0 yX0_doHalves wsX0_doHalves) := goodIn_app (goodIn_of _ (by decide +kernel)) ggX6_fireFirst_X0_doHalves
set_option maxRecDepth 20000 in
theorem ggX6_fireFirst_X3_removeFirst : GoodIn wsX6_fireFirst wsX3_removeFirst := goodIn_r _ [99, 100, 101, 35, 5, 36, 102, 103, 104, 105, 106, 98, 107, 113, 114, 115] (by decide +kernel) (by decide +kernel)
set_option maxRecDepth 20000 in
theorem gX6_fireFirst_X3_removeFirst : GoodIn wsX6_fireFirst (wsV RX6 80 RX3 yX3_removeFirst wsX3_removeFirst) := goodIn_app (goodIn_of _ (by decide +kernel)) ggX6_fireFirst_X3_removeFirst
theorem dX6_fireFirst_0 : decode cX6_fireFirst 0 = .ok (.iconst 0, 1) := by decide +kernel
theorem dX6_fireFirst_1 : decode cX6_fireFirst 1 = .ok (.istore_n 3, 1) := by decide +kernel
theorem dX6_fireFirst_2 : decode cX6_fireFirst 2 = .ok (.iload_n 1, 1) := by decide +kernel
theorem dX6_fireFirst_3 : decode cX6_fireFirst 3 = .ok (.aload_n 0, 1) := by decide +kernel
theorem dX6_fireFirst_4 : decode cX6_fireFirst 4 = .ok (.getfield 21, 3) := by decide +kernel
theorem dX6_fireFirst_7 : decode cX6_fireFirst 7 = .ok (.getfield 56, 3) := by decide +kernel
theorem dX6_fireFirst_10 : decode cX6_fireFirst 10 = .ok (.invokestatic 59, 3) := by decide +kernel
theorem dX6_fireFirst_13 : decode cX6_fireFirst 13 = .ok (.istore 4, 2) := by decide +kernel
theorem dX6_fireFirst_15 : decode cX6_fireFirst 15 = .ok (.iconst 0, 1) := by decide +kernel
theorem dX6_fireFirst_16 : decode cX6_fireFirst 16 = .ok (.istore 5, 2) := by decide +kernel
theorem dX6_fireFirst_18 : decode cX6_fireFirst 18 = .ok (.iload 5, 2) := by decide +kernel
theorem dX6_fireFirst_20 : decode cX6_fireFirst 20 = .ok (.iload 4, 2) := by decide +kernel
theorem dX6_fireFirst_22 : decode cX6_fireFirst 22 = .ok (.if_icmp .ge 47, 3) := by decide +kernel
theorem dX6_fireFirst_25 : decode cX6_fireFirst 25 = .ok (.aload_n 0, 1) := by decide +kernel
theorem dX6_fireFirst_26 : decode cX6_fireFirst 26 = .ok (.aload_n 0, 1) := by decide +kernel
theorem dX6_fireFirst_27 : decode cX6_fireFirst 27 = .ok (.getfield 21, 3) := by decide +kernel
theorem dX6_fireFirst_30 : decode cX6_fireFirst 30 = .ok (.getfield 65, 3) := by decide +kernel
theorem dX6_fireFirst_33 : decode cX6_fireFirst 33 = .ok (.iload 5, 2) := by decide +kernel
theorem dX6_fireFirst_35 : decode cX6_fireFirst 35 = .ok (.iaload, 1) := by decide +kernel
theorem dX6_fireFirst_36 : decode cX6_fireFirst 36 = .ok (.aload_n 0, 1) := by decide +kernel
theorem dX6_fireFirst_37 : decode cX6_fireFirst 37 = .ok (.getfield 21, 3) := by decide +kernel
theorem dX6_fireFirst_40 : decode cX6_fireFirst 40 = .ok (.getfield 69, 3) := by decide +kernel
theorem dX6_fireFirst_43 : decode cX6_fireFirst 43 = .ok (.iload 5, 2) := by decide +kernel
theorem dX6_fireFirst_45 : decode cX6_fireFirst 45 = .ok (.iaload, 1) := by decide +kernel
theorem dX6_fireFirst_46 : decode cX6_fireFirst 46 = .ok (.invokevirtual 72, 3) := by decide +kernel
theorem dX6_fireFirst_49 : decode cX6_fireFirst 49 = .ok (.ifCond .eq 14, 3) := by decide +kernel
theorem dX6_fireFirst_52 : decode cX6_fireFirst 52 = .ok (.aload_n 0, 1) := by decide +kernel
theorem dX6_fireFirst_53 : decode cX6_fireFirst 53 = .ok (.getfield 12, 3) := by decide +kernel
theorem dX6_fireFirst_56 : decode cX6_fireFirst 56 = .ok (.iload_n 2, 1) := by decide +kernel
theorem dX6_fireFirst_57 : decode cX6_fireFirst 57 = .ok (.invokevirtual 76, 3) := by decide +kernel
theorem dX6_fireFirst_60 : decode cX6_fireFirst 60 = .ok (.iinc 3 1, 3) := by decide +kernel
theorem dX6_fireFirst_63 : decode cX6_fireFirst 63 = .ok (.iinc 5 1, 3) := by decide +kernel
theorem dX6_fireFirst_66 : decode cX6_fireFirst 66 = .ok (.goto (-48), 3) := by decide +kernel
theorem dX6_fireFirst_69 : decode cX6_fireFirst 69 = .ok (.aload_n 0, 1) := by decide +kernel
theorem dX6_fireFirst_70 : decode cX6_fireFirst 70 = .ok (.getfield 21, 3) := by decide +kernel
theorem dX6_fireFirst_73 : decode cX6_fireFirst 73 = .ok (.iload 4, 2) := by decide +kernel
theorem dX6_fireFirst_75 : decode cX6_fireFirst 75 = .ok (.invokevirtual 80, 3) := by decide +kernel
theorem dX6_fireFirst_78 : decode cX6_fireFirst 78 = .ok (.iload_n 3, 1) := by decide +kernel
theorem dX6_fireFirst_79 : decode cX6_fireFirst 79 = .ok (.ireturn, 1) := by decide +kernel
set_option maxRecDepth 20000 in
theorem ggX6_fireOne_X0_reasonNow : GoodIn wsX6_fireOne wsX0_reasonNow := goodIn_r _ [7, 8, 9, 10, 11, 12, 6, 13, 14, 15, 16, 17, 18, 19, 20, 21, 22, 23, 24, 25, 26, 81, 82, 83, 84, 85, 86, 87, 88, 89] (by decide +kernel) (by decide +kernel)
set_option maxRecDepth 20000 in
theorem gX6_fireOne_X0_reasonNow : GoodIn wsX6_fireOne (wsV RX6 83 RX0 yX0_reasonNow wsX0_reasonNow) := goodIn_app (goodIn_of _ (by decide +kernel)) ggX6_fireOne_X0_reasonNow
set_option maxRecDepth 20000 in
theorem ggX6_fireOne_X0_firstHeight : GoodIn wsX6_fireOne wsX0_firstHeight := goodIn_r _ [30, 31, 32, 33, 34, 35, 22, 36, 37, 38, 39, 6, 40, 41, 42, 43, 44, 45, 46, 47, 48, 49, 19, 81, 82, 83, 84, 85, 86, 87, 88, 89] (by decide +kernel) (by decide +kernel)
set_option maxRecDepth 20000 in
theorem gX6_fireOne_X0_firstHeight : GoodIn wsX6_fireOne (wsV RX6 87 RX0 yX0_firstHeight wsX0_firstHeight) := goodIn_app (goodIn_of _ (by decide +kernel)) ggX6_fireOne_X0_firstHeight
set_option maxRecDepth 20000 in
theorem ggX6_fireOne_X0_toldSpeed : GoodIn wsX6_fireOne wsX0_toldSpeed := goodIn_r _ [53, 33, 32, 31, 37, 38, 39, 6, 40, 41, 42, 54, 44, 55, 56, 43, 45, 81, 82, 83, 84, 85, 86, 87, 88, 89] (by decide +kernel) (by decide +kernel)
set_option maxRecDepth 20000 in
theorem gX6_fireOne_X0_toldSpeed : GoodIn wsX6_fireOne (wsV RX6 90 RX0 yX0_toldSpeed wsX0_toldSpeed) := goodIn_app (goodIn_of _ (by decide +kernel)) ggX6_fireOne_X0_toldSpeed
set_option maxRecDepth 20000 in
theorem ggX6_fireOne_X0_wholeMass : GoodIn wsX6_fireOne wsX0_wholeMass := goodIn_r _ [40, 41, 42, 81, 82, 83, 84, 85, 86, 87, 88, 89] (by decide +kernel) (by decide +kernel)
set_option maxRecDepth 20000 in
theorem gX6_fireOne_X0_wholeMass : GoodIn wsX6_fireOne (wsV RX6 93 RX0 yX0_wholeMass wsX0_wholeMass) := goodIn_app (goodIn_of _ (by decide +kernel)) ggX6_fireOne_X0_wholeMass
set_option maxRecDepth 20000 in
theorem ggX6_fireOne_X1_add : GoodIn wsX6_fireOne wsX1_add := goodIn_r _ [62, 63, 64, 65, 66, 67, 68, 69, 70, 90, 91, 92, 93, 94, 95, 96, 97] (by decide +kernel) (by decide +kernel)
set_option maxRecDepth 20000 in
theorem gX6_fireOne_X1_add : GoodIn wsX6_fireOne (wsV RX6 96 RX1 yX1_add wsX1_add) := goodIn_app (goodIn_of _ (by decide +kernel)) ggX6_fireOne_X1_add
set_option maxRecDepth 20000 in
theorem ggX6_fireOne_X0_hold : GoodIn wsX6_fireOne wsX0_hold := goodIn_r _ [74, 42, 75, 8, 14, 81, 82, 83, 84, 85, 86, 87, 88, 89] (by decide +kernel) (by decide +kernel)
set_option maxRecDepth 20000 in
theorem gX6_fireOne_X0_hold : GoodIn wsX6_fireOne (wsV RX6 100 RX0 yX0_hold wsX0_hold) := goodIn_app (goodIn_of _ (by decide +kernel)) ggX6_fireOne_X0_hold
theorem dX6_fireOne_0 : decode cX6_fireOne 0 = .ok (.aload_n 0, 1) := by decide +kernel
theorem dX6_fireOne_1 : decode cX6_fireOne 1 = .ok (.getfield 12, 3) := by decide +kernel
theorem dX6_fireOne_4 : decode cX6_fireOne 4 = .ok (.invokevirtual 83, 3) := by decide +kernel
theorem dX6_fireOne_7 : decode cX6_fireOne 7 = .ok (.istore_n 3, 1) := by decide +kernel
theorem dX6_fireOne_8 : decode cX6_fireOne 8 = .ok (.iload_n 3, 1) := by decide +kernel
theorem dX6_fireOne_9 : decode cX6_fireOne 9 = .ok (.ifCond .ne 7, 3) := by decide +kernel
theorem dX6_fireOne_12 : decode cX6_fireOne 12 = .ok (.iconst 1, 1) := by decide +kernel
theorem dX6_fireOne_13 : decode cX6_fireOne 13 = .ok (.goto 4, 3) := by decide +kernel
theorem dX6_fireOne_16 : decode cX6_fireOne 16 = .ok (.iconst 0, 1) := by decide +kernel
theorem dX6_fireOne_17 : decode cX6_fireOne 17 = .ok (.istore 4, 2) := by decide +kernel
theorem dX6_fireOne_19 : decode cX6_fireOne 19 = .ok (.iload 4, 2) := by decide +kernel
theorem dX6_fireOne_21 : decode cX6_fireOne 21 = .ok (.ifCond .eq 15, 3) := by decide +kernel
theorem dX6_fireOne_24 : decode cX6_fireOne 24 = .ok (.aload_n 0, 1) := by decide +kernel
theorem dX6_fireOne_25 : decode cX6_fireOne 25 = .ok (.getfield 12, 3) := by decide +kernel
theorem dX6_fireOne_28 : decode cX6_fireOne 28 = .ok (.iload_n 1, 1) := by decide +kernel
theorem dX6_fireOne_29 : decode cX6_fireOne 29 = .ok (.iload_n 2, 1) := by decide +kernel
theorem dX6_fireOne_30 : decode cX6_fireOne 30 = .ok (.invokevirtual 87, 3) := by decide +kernel
theorem dX6_fireOne_33 : decode cX6_fireOne 33 = .ok (.goto 4, 3) := by decide +kernel
theorem dX6_fireOne_36 : decode cX6_fireOne 36 = .ok (.iconst 0, 1) := by decide +kernel
theorem dX6_fireOne_37 : decode cX6_fireOne 37 = .ok (.istore 5, 2) := by decide +kernel
theorem dX6_fireOne_39 : decode cX6_fireOne 39 = .ok (.iload 4, 2) := by decide +kernel
theorem dX6_fireOne_41 : decode cX6_fireOne 41 = .ok (.ifCond .eq 16, 3) := by decide +kernel
theorem dX6_fireOne_44 : decode cX6_fireOne 44 = .ok (.aload_n 0, 1) := by decide +kernel
theorem dX6_fireOne_45 : decode cX6_fireOne 45 = .ok (.getfield 12, 3) := by decide +kernel
theorem dX6_fireOne_48 : decode cX6_fireOne 48 = .ok (.iload 5, 2) := by decide +kernel
theorem dX6_fireOne_50 : decode cX6_fireOne 50 = .ok (.iload_n 1, 1) := by decide +kernel
theorem dX6_fireOne_51 : decode cX6_fireOne 51 = .ok (.invokevirtual 90, 3) := by decide +kernel
theorem dX6_fireOne_54 : decode cX6_fireOne 54 = .ok (.goto 4, 3) := by decide +kernel
theorem dX6_fireOne_57 : decode cX6_fireOne 57 = .ok (.iconst 0, 1) := by decide +kernel
theorem dX6_fireOne_58 : decode cX6_fireOne 58 = .ok (.istore 6, 2) := by decide +kernel
theorem dX6_fireOne_60 : decode cX6_fireOne 60 = .ok (.aload_n 0, 1) := by decide +kernel
theorem dX6_fireOne_61 : decode cX6_fireOne 61 = .ok (.getfield 28, 3) := by decide +kernel
theorem dX6_fireOne_64 : decode cX6_fireOne 64 = .ok (.iload_n 1, 1) := by decide +kernel
theorem dX6_fireOne_65 : decode cX6_fireOne 65 = .ok (.iload_n 2, 1) := by decide +kernel
theorem dX6_fireOne_66 : decode cX6_fireOne 66 = .ok (.iload_n 3, 1) := by decide +kernel
theorem dX6_fireOne_67 : decode cX6_fireOne 67 = .ok (.iload 5, 2) := by decide +kernel
theorem dX6_fireOne_69 : decode cX6_fireOne 69 = .ok (.iload 6, 2) := by decide +kernel
theorem dX6_fireOne_71 : decode cX6_fireOne 71 = .ok (.aload_n 0, 1) := by decide +kernel
theorem dX6_fireOne_72 : decode cX6_fireOne 72 = .ok (.getfield 12, 3) := by decide +kernel
theorem dX6_fireOne_75 : decode cX6_fireOne 75 = .ok (.invokevirtual 93, 3) := by decide +kernel
theorem dX6_fireOne_78 : decode cX6_fireOne 78 = .ok (.invokevirtual 96, 3) := by decide +kernel
theorem dX6_fireOne_81 : decode cX6_fireOne 81 = .ok (.iload 4, 2) := by decide +kernel
theorem dX6_fireOne_83 : decode cX6_fireOne 83 = .ok (.ifCond .eq 13, 3) := by decide +kernel
theorem dX6_fireOne_86 : decode cX6_fireOne 86 = .ok (.aload_n 0, 1) := by decide +kernel
theorem dX6_fireOne_87 : decode cX6_fireOne 87 = .ok (.getfield 12, 3) := by decide +kernel
theorem dX6_fireOne_90 : decode cX6_fireOne 90 = .ok (.iload_n 1, 1) := by decide +kernel
theorem dX6_fireOne_91 : decode cX6_fireOne 91 = .ok (.iload 5, 2) := by decide +kernel
theorem dX6_fireOne_93 : decode cX6_fireOne 93 = .ok (.invokevirtual 100, 3) := by decide +kernel
theorem dX6_fireOne_96 : decode cX6_fireOne 96 = .ok (.iload 4, 2) := by decide +kernel
theorem dX6_fireOne_98 : decode cX6_fireOne 98 = .ok (.ireturn, 1) := by decide +kernel
theorem dX7_init_0 : decode cX7_init 0 = .ok (.aload_n 0, 1) := by decide +kernel
theorem dX7_init_1 : decode cX7_init 1 = .ok (.invokespecial 3, 3) := by decide +kernel
theorem dX7_init_4 : decode cX7_init 4 = .ok (.aload_n 0, 1) := by decide +kernel
theorem dX7_init_5 : decode cX7_init 5 = .ok (.bipush 60, 2) := by decide +kernel
theorem dX7_init_7 : decode cX7_init 7 = .ok (.newarray .char, 2) := by decide +kernel
theorem dX7_init_9 : decode cX7_init 9 = .ok (.putfield 9, 3) := by decide +kernel
theorem dX7_init_12 : decode cX7_init 12 = .ok (.return_, 1) := by decide +kernel
theorem dX7_add_0 : decode cX7_add 0 = .ok (.aload_n 0, 1) := by decide +kernel
theorem dX7_add_1 : decode cX7_add 1 = .ok (.getfield 15, 3) := by decide +kernel
theorem dX7_add_4 : decode cX7_add 4 = .ok (.bipush 60, 2) := by decide +kernel
theorem dX7_add_6 : decode cX7_add 6 = .ok (.if_icmp .ge 23, 3) := by decide +kernel
theorem dX7_add_9 : decode cX7_add 9 = .ok (.aload_n 0, 1) := by decide +kernel
theorem dX7_add_10 : decode cX7_add 10 = .ok (.getfield 9, 3) := by decide +kernel
theorem dX7_add_13 : decode cX7_add 13 = .ok (.aload_n 0, 1) := by decide +kernel
theorem dX7_add_14 : decode cX7_add 14 = .ok (.getfield 15, 3) := by decide +kernel
theorem dX7_add_17 : decode cX7_add 17 = .ok (.iload_n 1, 1) := by decide +kernel
theorem dX7_add_18 : decode cX7_add 18 = .ok (.castore, 1) := by decide +kernel
theorem dX7_add_19 : decode cX7_add 19 = .ok (.aload_n 0, 1) := by decide +kernel
theorem dX7_add_20 : decode cX7_add 20 = .ok (.dup, 1) := by decide +kernel
theorem dX7_add_21 : decode cX7_add 21 = .ok (.getfield 15, 3) := by decide +kernel
theorem dX7_add_24 : decode cX7_add 24 = .ok (.iconst 1, 1) := by decide +kernel
theorem dX7_add_25 : decode cX7_add 25 = .ok (.iadd, 1) := by decide +kernel
theorem dX7_add_26 : decode cX7_add 26 = .ok (.putfield 15, 3) := by decide +kernel
theorem dX7_add_29 : decode cX7_add 29 = .ok (.return_, 1) := by decide +kernel
set_option maxRecDepth 20000 in
theorem ggX7_isAt_X8_within : GoodIn wsX7_isAt wsX8_within := goodIn_r _ [5] (by decide +kernel) (by decide +kernel)
set_option maxRecDepth 20000 in
theorem gX7_isAt_X8_within_n19 : GoodIn wsX7_isAt (wsX8_within) := ggX7_isAt_X8_within
theorem dX7_isAt_0 : decode cX7_isAt 0 = .ok (.iload_n 1, 1) := by decide +kernel
theorem dX7_isAt_1 : decode cX7_isAt 1 = .ok (.iconst 0, 1) := by decide +kernel
theorem dX7_isAt_2 : decode cX7_isAt 2 = .ok (.aload_n 0, 1) := by decide +kernel
theorem dX7_isAt_3 : decode cX7_isAt 3 = .ok (.getfield 15, 3) := by decide +kernel
theorem dX7_isAt_6 : decode cX7_isAt 6 = .ok (.iconst 1, 1) := by decide +kernel
theorem dX7_isAt_7 : decode cX7_isAt 7 = .ok (.isub, 1) := by decide +kernel
theorem dX7_isAt_8 : decode cX7_isAt 8 = .ok (.invokestatic 19, 3) := by decide +kernel
theorem dX7_isAt_11 : decode cX7_isAt 11 = .ok (.ifCond .eq 17, 3) := by decide +kernel
theorem dX7_isAt_14 : decode cX7_isAt 14 = .ok (.aload_n 0, 1) := by decide +kernel
theorem dX7_isAt_15 : decode cX7_isAt 15 = .ok (.getfield 9, 3) := by decide +kernel
theorem dX7_isAt_18 : decode cX7_isAt 18 = .ok (.iload_n 1, 1) := by decide +kernel
theorem dX7_isAt_19 : decode cX7_isAt 19 = .ok (.caload, 1) := by decide +kernel
theorem dX7_isAt_20 : decode cX7_isAt 20 = .ok (.iload_n 2, 1) := by decide +kernel
theorem dX7_isAt_21 : decode cX7_isAt 21 = .ok (.if_icmp .ne 7, 3) := by decide +kernel
theorem dX7_isAt_24 : decode cX7_isAt 24 = .ok (.iconst 1, 1) := by decide +kernel
theorem dX7_isAt_25 : decode cX7_isAt 25 = .ok (.goto 4, 3) := by decide +kernel
theorem dX7_isAt_28 : decode cX7_isAt 28 = .ok (.iconst 0, 1) := by decide +kernel
theorem dX7_isAt_29 : decode cX7_isAt 29 = .ok (.ireturn, 1) := by decide +kernel
set_option maxRecDepth 20000 in
theorem ggX7_digitAt_X8_within : GoodIn wsX7_digitAt wsX8_within := goodIn_r _ [5] (by decide +kernel) (by decide +kernel)
set_option maxRecDepth 20000 in
theorem gX7_digitAt_X8_within_n19 : GoodIn wsX7_digitAt (wsX8_within) := ggX7_digitAt_X8_within
theorem dX7_digitAt_0 : decode cX7_digitAt 0 = .ok (.iload_n 1, 1) := by decide +kernel
theorem dX7_digitAt_1 : decode cX7_digitAt 1 = .ok (.iconst 0, 1) := by decide +kernel
theorem dX7_digitAt_2 : decode cX7_digitAt 2 = .ok (.aload_n 0, 1) := by decide +kernel
theorem dX7_digitAt_3 : decode cX7_digitAt 3 = .ok (.getfield 15, 3) := by decide +kernel
theorem dX7_digitAt_6 : decode cX7_digitAt 6 = .ok (.iconst 1, 1) := by decide +kernel
theorem dX7_digitAt_7 : decode cX7_digitAt 7 = .ok (.isub, 1) := by decide +kernel
theorem dX7_digitAt_8 : decode cX7_digitAt 8 = .ok (.invokestatic 19, 3) := by decide +kernel
theorem dX7_digitAt_11 : decode cX7_digitAt 11 = .ok (.ifCond .eq 19, 3) := by decide +kernel
theorem dX7_digitAt_14 : decode cX7_digitAt 14 = .ok (.aload_n 0, 1) := by decide +kernel
theorem dX7_digitAt_15 : decode cX7_digitAt 15 = .ok (.getfield 9, 3) := by decide +kernel
theorem dX7_digitAt_18 : decode cX7_digitAt 18 = .ok (.iload_n 1, 1) := by decide +kernel
theorem dX7_digitAt_19 : decode cX7_digitAt 19 = .ok (.caload, 1) := by decide +kernel
theorem dX7_digitAt_20 : decode cX7_digitAt 20 = .ok (.bipush 48, 2) := by decide +kernel
theorem dX7_digitAt_22 : decode cX7_digitAt 22 = .ok (.bipush 57, 2) := by decide +kernel
theorem dX7_digitAt_24 : decode cX7_digitAt 24 = .ok (.invokestatic 19, 3) := by decide +kernel
theorem dX7_digitAt_27 : decode cX7_digitAt 27 = .ok (.ifCond .ne 5, 3) := by decide +kernel
theorem dX7_digitAt_30 : decode cX7_digitAt 30 = .ok (.iconst (-1), 1) := by decide +kernel
theorem dX7_digitAt_31 : decode cX7_digitAt 31 = .ok (.ireturn, 1) := by decide +kernel
theorem dX7_digitAt_32 : decode cX7_digitAt 32 = .ok (.aload_n 0, 1) := by decide +kernel
theorem dX7_digitAt_33 : decode cX7_digitAt 33 = .ok (.getfield 9, 3) := by decide +kernel
theorem dX7_digitAt_36 : decode cX7_digitAt 36 = .ok (.iload_n 1, 1) := by decide +kernel
theorem dX7_digitAt_37 : decode cX7_digitAt 37 = .ok (.caload, 1) := by decide +kernel
theorem dX7_digitAt_38 : decode cX7_digitAt 38 = .ok (.bipush 48, 2) := by decide +kernel
theorem dX7_digitAt_40 : decode cX7_digitAt 40 = .ok (.isub, 1) := by decide +kernel
theorem dX7_digitAt_41 : decode cX7_digitAt 41 = .ok (.ireturn, 1) := by decide +kernel
