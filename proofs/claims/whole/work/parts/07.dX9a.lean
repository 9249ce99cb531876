theorem dX9_init_0 : decode cX9_init 0 = .ok (.aload_n 0, 1) := by decide +kernel
theorem dX9_init_1 : decode cX9_init 1 = .ok (.invokespecial 1, 3) := by decide +kernel
theorem dX9_init_4 : decode cX9_init 4 = .ok (.aload_n 0, 1) := by decide +kernel
theorem dX9_init_5 : decode cX9_init 5 = .ok (.sipush 489, 3) := by decide +kernel
theorem dX9_init_8 : decode cX9_init 8 = .ok (.newarray .int, 2) := by decide +kernel
theorem dX9_init_10 : decode cX9_init 10 = .ok (.putfield 7, 3) := by decide +kernel
theorem dX9_init_13 : decode cX9_init 13 = .ok (.aload_n 0, 1) := by decide +kernel
theorem dX9_init_14 : decode cX9_init 14 = .ok (.sipush 1956, 3) := by decide +kernel
theorem dX9_init_17 : decode cX9_init 17 = .ok (.newarray .int, 2) := by decide +kernel
theorem dX9_init_19 : decode cX9_init 19 = .ok (.putfield 13, 3) := by decide +kernel
theorem dX9_init_22 : decode cX9_init 22 = .ok (.aload_n 0, 1) := by decide +kernel
theorem dX9_init_23 : decode cX9_init 23 = .ok (.sipush 489, 3) := by decide +kernel
theorem dX9_init_26 : decode cX9_init 26 = .ok (.newarray .int, 2) := by decide +kernel
theorem dX9_init_28 : decode cX9_init 28 = .ok (.putfield 16, 3) := by decide +kernel
theorem dX9_init_31 : decode cX9_init 31 = .ok (.aload_n 0, 1) := by decide +kernel
theorem dX9_init_32 : decode cX9_init 32 = .ok (.bipush 60, 2) := by decide +kernel
theorem dX9_init_34 : decode cX9_init 34 = .ok (.newarray .int, 2) := by decide +kernel
theorem dX9_init_36 : decode cX9_init 36 = .ok (.putfield 19, 3) := by decide +kernel
theorem dX9_init_39 : decode cX9_init 39 = .ok (.aload_n 0, 1) := by decide +kernel
theorem dX9_init_40 : decode cX9_init 40 = .ok (.bipush 60, 2) := by decide +kernel
theorem dX9_init_42 : decode cX9_init 42 = .ok (.newarray .char, 2) := by decide +kernel
theorem dX9_init_44 : decode cX9_init 44 = .ok (.putfield 22, 3) := by decide +kernel
theorem dX9_init_47 : decode cX9_init 47 = .ok (.aload_n 0, 1) := by decide +kernel
theorem dX9_init_48 : decode cX9_init 48 = .ok (.getfield 7, 3) := by decide +kernel
theorem dX9_init_51 : decode cX9_init 51 = .ok (.iconst 0, 1) := by decide +kernel
theorem dX9_init_52 : decode cX9_init 52 = .ok (.sipush 4000, 3) := by decide +kernel
theorem dX9_init_55 : decode cX9_init 55 = .ok (.iastore, 1) := by decide +kernel
theorem dX9_init_56 : decode cX9_init 56 = .ok (.aload_n 0, 1) := by decide +kernel
theorem dX9_init_57 : decode cX9_init 57 = .ok (.getfield 7, 3) := by decide +kernel
theorem dX9_init_60 : decode cX9_init 60 = .ok (.bipush 7, 2) := by decide +kernel
theorem dX9_init_62 : decode cX9_init 62 = .ok (.bipush 30, 2) := by decide +kernel
theorem dX9_init_64 : decode cX9_init 64 = .ok (.iastore, 1) := by decide +kernel
theorem dX9_init_65 : decode cX9_init 65 = .ok (.iconst 0, 1) := by decide +kernel
theorem dX9_init_66 : decode cX9_init 66 = .ok (.istore_n 1, 1) := by decide +kernel
theorem dX9_init_67 : decode cX9_init 67 = .ok (.iload_n 1, 1) := by decide +kernel
theorem dX9_init_68 : decode cX9_init 68 = .ok (.iconst 4, 1) := by decide +kernel
theorem dX9_init_69 : decode cX9_init 69 = .ok (.if_icmp .ge 21, 3) := by decide +kernel
theorem dX9_init_72 : decode cX9_init 72 = .ok (.aload_n 0, 1) := by decide +kernel
theorem dX9_init_73 : decode cX9_init 73 = .ok (.getfield 7, 3) := by decide +kernel
theorem dX9_init_76 : decode cX9_init 76 = .ok (.bipush 8, 2) := by decide +kernel
theorem dX9_init_78 : decode cX9_init 78 = .ok (.iload_n 1, 1) := by decide +kernel
theorem dX9_init_79 : decode cX9_init 79 = .ok (.iadd, 1) := by decide +kernel
theorem dX9_init_80 : decode cX9_init 80 = .ok (.sipush 2000, 3) := by decide +kernel
theorem dX9_init_83 : decode cX9_init 83 = .ok (.iastore, 1) := by decide +kernel
theorem dX9_init_84 : decode cX9_init 84 = .ok (.iinc 1 1, 3) := by decide +kernel
theorem dX9_init_87 : decode cX9_init 87 = .ok (.goto (-20), 3) := by decide +kernel
theorem dX9_init_90 : decode cX9_init 90 = .ok (.aload_n 0, 1) := by decide +kernel
theorem dX9_init_91 : decode cX9_init 91 = .ok (.getfield 7, 3) := by decide +kernel
theorem dX9_init_94 : decode cX9_init 94 = .ok (.bipush 12, 2) := by decide +kernel
theorem dX9_init_96 : decode cX9_init 96 = .ok (.iconst 5, 1) := by decide +kernel
theorem dX9_init_97 : decode cX9_init 97 = .ok (.iastore, 1) := by decide +kernel
theorem dX9_init_98 : decode cX9_init 98 = .ok (.aload_n 0, 1) := by decide +kernel
theorem dX9_init_99 : decode cX9_init 99 = .ok (.getfield 7, 3) := by decide +kernel
theorem dX9_init_102 : decode cX9_init 102 = .ok (.bipush 13, 2) := by decide +kernel
theorem dX9_init_104 : decode cX9_init 104 = .ok (.bipush 20, 2) := by decide +kernel
theorem dX9_init_106 : decode cX9_init 106 = .ok (.iastore, 1) := by decide +kernel
theorem dX9_init_107 : decode cX9_init 107 = .ok (.aload_n 0, 1) := by decide +kernel
theorem dX9_init_108 : decode cX9_init 108 = .ok (.getfield 7, 3) := by decide +kernel
theorem dX9_init_111 : decode cX9_init 111 = .ok (.bipush 14, 2) := by decide +kernel
theorem dX9_init_113 : decode cX9_init 113 = .ok (.bipush 10, 2) := by decide +kernel
theorem dX9_init_115 : decode cX9_init 115 = .ok (.iastore, 1) := by decide +kernel
theorem dX9_init_116 : decode cX9_init 116 = .ok (.aload_n 0, 1) := by decide +kernel
theorem dX9_init_117 : decode cX9_init 117 = .ok (.getfield 7, 3) := by decide +kernel
theorem dX9_init_120 : decode cX9_init 120 = .ok (.bipush 15, 2) := by decide +kernel
theorem dX9_init_122 : decode cX9_init 122 = .ok (.bipush 10, 2) := by decide +kernel
theorem dX9_init_124 : decode cX9_init 124 = .ok (.iastore, 1) := by decide +kernel
theorem dX9_init_125 : decode cX9_init 125 = .ok (.return_, 1) := by decide +kernel
theorem dX9_in_0 : decode cX9_in 0 = .ok (.iload_n 0, 1) := by decide +kernel
theorem dX9_in_1 : decode cX9_in 1 = .ok (.iload_n 1, 1) := by decide +kernel
theorem dX9_in_2 : decode cX9_in 2 = .ok (.if_icmp .lt 12, 3) := by decide +kernel
theorem dX9_in_5 : decode cX9_in 5 = .ok (.iload_n 0, 1) := by decide +kernel
theorem dX9_in_6 : decode cX9_in 6 = .ok (.iload_n 2, 1) := by decide +kernel
theorem dX9_in_7 : decode cX9_in 7 = .ok (.if_icmp .gt 7, 3) := by decide +kernel
theorem dX9_in_10 : decode cX9_in 10 = .ok (.iconst 1, 1) := by decide +kernel
theorem dX9_in_11 : decode cX9_in 11 = .ok (.goto 4, 3) := by decide +kernel
theorem dX9_in_14 : decode cX9_in 14 = .ok (.iconst 0, 1) := by decide +kernel
theorem dX9_in_15 : decode cX9_in 15 = .ok (.ireturn, 1) := by decide +kernel
theorem dX9_record_0 : decode cX9_record 0 = .ok (.aload_n 0, 1) := by decide +kernel
theorem dX9_record_1 : decode cX9_record 1 = .ok (.getfield 26, 3) := by decide +kernel
theorem dX9_record_4 : decode cX9_record 4 = .ok (.iconst 4, 1) := by decide +kernel
theorem dX9_record_5 : decode cX9_record 5 = .ok (.if_icmp .ne 44, 3) := by decide +kernel
theorem dX9_record_8 : decode cX9_record 8 = .ok (.iconst 0, 1) := by decide +kernel
theorem dX9_record_9 : decode cX9_record 9 = .ok (.istore_n 1, 1) := by decide +kernel
theorem dX9_record_10 : decode cX9_record 10 = .ok (.iload_n 1, 1) := by decide +kernel
theorem dX9_record_11 : decode cX9_record 11 = .ok (.sipush 1467, 3) := by decide +kernel
theorem dX9_record_14 : decode cX9_record 14 = .ok (.if_icmp .ge 25, 3) := by decide +kernel
theorem dX9_record_17 : decode cX9_record 17 = .ok (.aload_n 0, 1) := by decide +kernel
theorem dX9_record_18 : decode cX9_record 18 = .ok (.getfield 13, 3) := by decide +kernel
theorem dX9_record_21 : decode cX9_record 21 = .ok (.iload_n 1, 1) := by decide +kernel
theorem dX9_record_22 : decode cX9_record 22 = .ok (.aload_n 0, 1) := by decide +kernel
theorem dX9_record_23 : decode cX9_record 23 = .ok (.getfield 13, 3) := by decide +kernel
theorem dX9_record_26 : decode cX9_record 26 = .ok (.sipush 489, 3) := by decide +kernel
theorem dX9_record_29 : decode cX9_record 29 = .ok (.iload_n 1, 1) := by decide +kernel
theorem dX9_record_30 : decode cX9_record 30 = .ok (.iadd, 1) := by decide +kernel
theorem dX9_record_31 : decode cX9_record 31 = .ok (.iaload, 1) := by decide +kernel
theorem dX9_record_32 : decode cX9_record 32 = .ok (.iastore, 1) := by decide +kernel
theorem dX9_record_33 : decode cX9_record 33 = .ok (.iinc 1 1, 3) := by decide +kernel
theorem dX9_record_36 : decode cX9_record 36 = .ok (.goto (-26), 3) := by decide +kernel
theorem dX9_record_39 : decode cX9_record 39 = .ok (.aload_n 0, 1) := by decide +kernel
theorem dX9_record_40 : decode cX9_record 40 = .ok (.dup, 1) := by decide +kernel
theorem dX9_record_41 : decode cX9_record 41 = .ok (.getfield 26, 3) := by decide +kernel
theorem dX9_record_44 : decode cX9_record 44 = .ok (.iconst 1, 1) := by decide +kernel
theorem dX9_record_45 : decode cX9_record 45 = .ok (.isub, 1) := by decide +kernel
theorem dX9_record_46 : decode cX9_record 46 = .ok (.putfield 26, 3) := by decide +kernel
theorem dX9_record_49 : decode cX9_record 49 = .ok (.iconst 0, 1) := by decide +kernel
theorem dX9_record_50 : decode cX9_record 50 = .ok (.istore_n 1, 1) := by decide +kernel
theorem dX9_record_51 : decode cX9_record 51 = .ok (.iload_n 1, 1) := by decide +kernel
theorem dX9_record_52 : decode cX9_record 52 = .ok (.sipush 489, 3) := by decide +kernel
theorem dX9_record_55 : decode cX9_record 55 = .ok (.if_icmp .ge 30, 3) := by decide +kernel
theorem dX9_record_58 : decode cX9_record 58 = .ok (.aload_n 0, 1) := by decide +kernel
theorem dX9_record_59 : decode cX9_record 59 = .ok (.getfield 13, 3) := by decide +kernel
theorem dX9_record_62 : decode cX9_record 62 = .ok (.sipush 489, 3) := by decide +kernel
theorem dX9_record_65 : decode cX9_record 65 = .ok (.aload_n 0, 1) := by decide +kernel
theorem dX9_record_66 : decode cX9_record 66 = .ok (.getfield 26, 3) := by decide +kernel
theorem dX9_record_69 : decode cX9_record 69 = .ok (.imul, 1) := by decide +kernel
theorem dX9_record_70 : decode cX9_record 70 = .ok (.iload_n 1, 1) := by decide +kernel
theorem dX9_record_71 : decode cX9_record 71 = .ok (.iadd, 1) := by decide +kernel
theorem dX9_record_72 : decode cX9_record 72 = .ok (.aload_n 0, 1) := by decide +kernel
theorem dX9_record_73 : decode cX9_record 73 = .ok (.getfield 7, 3) := by decide +kernel
theorem dX9_record_76 : decode cX9_record 76 = .ok (.iload_n 1, 1) := by decide +kernel
theorem dX9_record_77 : decode cX9_record 77 = .ok (.iaload, 1) := by decide +kernel
theorem dX9_record_78 : decode cX9_record 78 = .ok (.iastore, 1) := by decide +kernel
theorem dX9_record_79 : decode cX9_record 79 = .ok (.iinc 1 1, 3) := by decide +kernel
theorem dX9_record_82 : decode cX9_record 82 = .ok (.goto (-31), 3) := by decide +kernel
theorem dX9_record_85 : decode cX9_record 85 = .ok (.aload_n 0, 1) := by decide +kernel
theorem dX9_record_86 : decode cX9_record 86 = .ok (.dup, 1) := by decide +kernel
theorem dX9_record_87 : decode cX9_record 87 = .ok (.getfield 26, 3) := by decide +kernel
theorem dX9_record_90 : decode cX9_record 90 = .ok (.iconst 1, 1) := by decide +kernel
theorem dX9_record_91 : decode cX9_record 91 = .ok (.iadd, 1) := by decide +kernel
theorem dX9_record_92 : decode cX9_record 92 = .ok (.putfield 26, 3) := by decide +kernel
theorem dX9_record_95 : decode cX9_record 95 = .ok (.return_, 1) := by decide +kernel
theorem dX9_q_0 : decode cX9_q 0 = .ok (.bipush 69, 2) := by decide +kernel
theorem dX9_q_2 : decode cX9_q 2 = .ok (.bipush 7, 2) := by decide +kernel
theorem dX9_q_4 : decode cX9_q 4 = .ok (.iload_n 0, 1) := by decide +kernel
theorem dX9_q_5 : decode cX9_q 5 = .ok (.imul, 1) := by decide +kernel
theorem dX9_q_6 : decode cX9_q 6 = .ok (.iadd, 1) := by decide +kernel
theorem dX9_q_7 : decode cX9_q 7 = .ok (.ireturn, 1) := by decide +kernel
theorem dX9_whole_0 : decode cX9_whole 0 = .ok (.bipush 10, 2) := by decide +kernel
theorem dX9_whole_2 : decode cX9_whole 2 = .ok (.aload_n 0, 1) := by decide +kernel
theorem dX9_whole_3 : decode cX9_whole 3 = .ok (.getfield 7, 3) := by decide +kernel
theorem dX9_whole_6 : decode cX9_whole 6 = .ok (.iconst 0, 1) := by decide +kernel
theorem dX9_whole_7 : decode cX9_whole 7 = .ok (.iaload, 1) := by decide +kernel
theorem dX9_whole_8 : decode cX9_whole 8 = .ok (.imul, 1) := by decide +kernel
theorem dX9_whole_9 : decode cX9_whole 9 = .ok (.aload_n 0, 1) := by decide +kernel
theorem dX9_whole_10 : decode cX9_whole 10 = .ok (.getfield 7, 3) := by decide +kernel
theorem dX9_whole_13 : decode cX9_whole 13 = .ok (.iconst 1, 1) := by decide +kernel
theorem dX9_whole_14 : decode cX9_whole 14 = .ok (.iaload, 1) := by decide +kernel
theorem dX9_whole_15 : decode cX9_whole 15 = .ok (.iadd, 1) := by decide +kernel
theorem dX9_whole_16 : decode cX9_whole 16 = .ok (.ireturn, 1) := by decide +kernel
theorem dX9_counting_0 : decode cX9_counting 0 = .ok (.aload_n 0, 1) := by decide +kernel
theorem dX9_counting_1 : decode cX9_counting 1 = .ok (.getfield 7, 3) := by decide +kernel
theorem dX9_counting_4 : decode cX9_counting 4 = .ok (.bipush 8, 2) := by decide +kernel
theorem dX9_counting_6 : decode cX9_counting 6 = .ok (.iaload, 1) := by decide +kernel
theorem dX9_counting_7 : decode cX9_counting 7 = .ok (.aload_n 0, 1) := by decide +kernel
theorem dX9_counting_8 : decode cX9_counting 8 = .ok (.getfield 7, 3) := by decide +kernel
theorem dX9_counting_11 : decode cX9_counting 11 = .ok (.bipush 9, 2) := by decide +kernel
theorem dX9_counting_13 : decode cX9_counting 13 = .ok (.iaload, 1) := by decide +kernel
theorem dX9_counting_14 : decode cX9_counting 14 = .ok (.iadd, 1) := by decide +kernel
theorem dX9_counting_15 : decode cX9_counting 15 = .ok (.aload_n 0, 1) := by decide +kernel
theorem dX9_counting_16 : decode cX9_counting 16 = .ok (.getfield 7, 3) := by decide +kernel
theorem dX9_counting_19 : decode cX9_counting 19 = .ok (.bipush 10, 2) := by decide +kernel
theorem dX9_counting_21 : decode cX9_counting 21 = .ok (.iaload, 1) := by decide +kernel
theorem dX9_counting_22 : decode cX9_counting 22 = .ok (.iadd, 1) := by decide +kernel
theorem dX9_counting_23 : decode cX9_counting 23 = .ok (.aload_n 0, 1) := by decide +kernel
theorem dX9_counting_24 : decode cX9_counting 24 = .ok (.getfield 7, 3) := by decide +kernel
theorem dX9_counting_27 : decode cX9_counting 27 = .ok (.bipush 11, 2) := by decide +kernel
theorem dX9_counting_29 : decode cX9_counting 29 = .ok (.iaload, 1) := by decide +kernel
theorem dX9_counting_30 : decode cX9_counting 30 = .ok (.iadd, 1) := by decide +kernel
theorem dX9_counting_31 : decode cX9_counting 31 = .ok (.iconst 4, 1) := by decide +kernel
theorem dX9_counting_32 : decode cX9_counting 32 = .ok (.idiv, 1) := by decide +kernel
theorem dX9_counting_33 : decode cX9_counting 33 = .ok (.ireturn, 1) := by decide +kernel
theorem dX9_isStraight_0 : decode cX9_isStraight 0 = .ok (.aload_n 0, 1) := by decide +kernel
theorem dX9_isStraight_1 : decode cX9_isStraight 1 = .ok (.getfield 7, 3) := by decide +kernel
theorem dX9_isStraight_4 : decode cX9_isStraight 4 = .ok (.bipush 8, 2) := by decide +kernel
theorem dX9_isStraight_6 : decode cX9_isStraight 6 = .ok (.iaload, 1) := by decide +kernel
theorem dX9_isStraight_7 : decode cX9_isStraight 7 = .ok (.istore_n 1, 1) := by decide +kernel
theorem dX9_isStraight_8 : decode cX9_isStraight 8 = .ok (.aload_n 0, 1) := by decide +kernel
theorem dX9_isStraight_9 : decode cX9_isStraight 9 = .ok (.getfield 7, 3) := by decide +kernel
theorem dX9_isStraight_12 : decode cX9_isStraight 12 = .ok (.bipush 8, 2) := by decide +kernel
theorem dX9_isStraight_14 : decode cX9_isStraight 14 = .ok (.iaload, 1) := by decide +kernel
theorem dX9_isStraight_15 : decode cX9_isStraight 15 = .ok (.istore_n 2, 1) := by decide +kernel
theorem dX9_isStraight_16 : decode cX9_isStraight 16 = .ok (.iconst 1, 1) := by decide +kernel
theorem dX9_isStraight_17 : decode cX9_isStraight 17 = .ok (.istore_n 3, 1) := by decide +kernel
theorem dX9_isStraight_18 : decode cX9_isStraight 18 = .ok (.iload_n 3, 1) := by decide +kernel
theorem dX9_isStraight_19 : decode cX9_isStraight 19 = .ok (.iconst 4, 1) := by decide +kernel
theorem dX9_isStraight_20 : decode cX9_isStraight 20 = .ok (.if_icmp .ge 63, 3) := by decide +kernel
theorem dX9_isStraight_23 : decode cX9_isStraight 23 = .ok (.aload_n 0, 1) := by decide +kernel
theorem dX9_isStraight_24 : decode cX9_isStraight 24 = .ok (.getfield 7, 3) := by decide +kernel
theorem dX9_isStraight_27 : decode cX9_isStraight 27 = .ok (.bipush 8, 2) := by decide +kernel
theorem dX9_isStraight_29 : decode cX9_isStraight 29 = .ok (.iload_n 3, 1) := by decide +kernel
theorem dX9_isStraight_30 : decode cX9_isStraight 30 = .ok (.iadd, 1) := by decide +kernel
theorem dX9_isStraight_31 : decode cX9_isStraight 31 = .ok (.iaload, 1) := by decide +kernel
theorem dX9_isStraight_32 : decode cX9_isStraight 32 = .ok (.iload_n 1, 1) := by decide +kernel
theorem dX9_isStraight_33 : decode cX9_isStraight 33 = .ok (.if_icmp .le 15, 3) := by decide +kernel
theorem dX9_isStraight_36 : decode cX9_isStraight 36 = .ok (.aload_n 0, 1) := by decide +kernel
theorem dX9_isStraight_37 : decode cX9_isStraight 37 = .ok (.getfield 7, 3) := by decide +kernel
theorem dX9_isStraight_40 : decode cX9_isStraight 40 = .ok (.bipush 8, 2) := by decide +kernel
theorem dX9_isStraight_42 : decode cX9_isStraight 42 = .ok (.iload_n 3, 1) := by decide +kernel
theorem dX9_isStraight_43 : decode cX9_isStraight 43 = .ok (.iadd, 1) := by decide +kernel
theorem dX9_isStraight_44 : decode cX9_isStraight 44 = .ok (.iaload, 1) := by decide +kernel
theorem dX9_isStraight_45 : decode cX9_isStraight 45 = .ok (.goto 4, 3) := by decide +kernel
theorem dX9_isStraight_48 : decode cX9_isStraight 48 = .ok (.iload_n 1, 1) := by decide +kernel
theorem dX9_isStraight_49 : decode cX9_isStraight 49 = .ok (.istore_n 1, 1) := by decide +kernel
theorem dX9_isStraight_50 : decode cX9_isStraight 50 = .ok (.aload_n 0, 1) := by decide +kernel
theorem dX9_isStraight_51 : decode cX9_isStraight 51 = .ok (.getfield 7, 3) := by decide +kernel
theorem dX9_isStraight_54 : decode cX9_isStraight 54 = .ok (.bipush 8, 2) := by decide +kernel
theorem dX9_isStraight_56 : decode cX9_isStraight 56 = .ok (.iload_n 3, 1) := by decide +kernel
theorem dX9_isStraight_57 : decode cX9_isStraight 57 = .ok (.iadd, 1) := by decide +kernel
theorem dX9_isStraight_58 : decode cX9_isStraight 58 = .ok (.iaload, 1) := by decide +kernel
theorem dX9_isStraight_59 : decode cX9_isStraight 59 = .ok (.iload_n 2, 1) := by decide +kernel
theorem dX9_isStraight_60 : decode cX9_isStraight 60 = .ok (.if_icmp .ge 15, 3) := by decide +kernel
theorem dX9_isStraight_63 : decode cX9_isStraight 63 = .ok (.aload_n 0, 1) := by decide +kernel
theorem dX9_isStraight_64 : decode cX9_isStraight 64 = .ok (.getfield 7, 3) := by decide +kernel
theorem dX9_isStraight_67 : decode cX9_isStraight 67 = .ok (.bipush 8, 2) := by decide +kernel
theorem dX9_isStraight_69 : decode cX9_isStraight 69 = .ok (.iload_n 3, 1) := by decide +kernel
theorem dX9_isStraight_70 : decode cX9_isStraight 70 = .ok (.iadd, 1) := by decide +kernel
theorem dX9_isStraight_71 : decode cX9_isStraight 71 = .ok (.iaload, 1) := by decide +kernel
theorem dX9_isStraight_72 : decode cX9_isStraight 72 = .ok (.goto 4, 3) := by decide +kernel
theorem dX9_isStraight_75 : decode cX9_isStraight 75 = .ok (.iload_n 2, 1) := by decide +kernel
theorem dX9_isStraight_76 : decode cX9_isStraight 76 = .ok (.istore_n 2, 1) := by decide +kernel
theorem dX9_isStraight_77 : decode cX9_isStraight 77 = .ok (.iinc 3 1, 3) := by decide +kernel
theorem dX9_isStraight_80 : decode cX9_isStraight 80 = .ok (.goto (-62), 3) := by decide +kernel
theorem dX9_isStraight_83 : decode cX9_isStraight 83 = .ok (.iload_n 1, 1) := by decide +kernel
theorem dX9_isStraight_84 : decode cX9_isStraight 84 = .ok (.iload_n 2, 1) := by decide +kernel
theorem dX9_isStraight_85 : decode cX9_isStraight 85 = .ok (.isub, 1) := by decide +kernel
theorem dX9_isStraight_86 : decode cX9_isStraight 86 = .ok (.aload_n 0, 1) := by decide +kernel
theorem dX9_isStraight_87 : decode cX9_isStraight 87 = .ok (.getfield 7, 3) := by decide +kernel
theorem dX9_isStraight_90 : decode cX9_isStraight 90 = .ok (.bipush 12, 2) := by decide +kernel
theorem dX9_isStraight_92 : decode cX9_isStraight 92 = .ok (.iaload, 1) := by decide +kernel
theorem dX9_isStraight_93 : decode cX9_isStraight 93 = .ok (.if_icmp .gt 7, 3) := by decide +kernel
theorem dX9_isStraight_96 : decode cX9_isStraight 96 = .ok (.iconst 1, 1) := by decide +kernel
theorem dX9_isStraight_97 : decode cX9_isStraight 97 = .ok (.goto 4, 3) := by decide +kernel
theorem dX9_isStraight_100 : decode cX9_isStraight 100 = .ok (.iconst 0, 1) := by decide +kernel
theorem dX9_isStraight_101 : decode cX9_isStraight 101 = .ok (.ireturn, 1) := by decide +kernel
set_option maxRecDepth 20000 in
theorem ggX9_reason_X9_isStraight : GoodIn wsX9_reason wsX9_isStraight := goodIn_r _ [6, 1, 7, 8, 9, 10, 11, 12, 13, 14, 15, 16, 17] (by decide +kernel) (by decide +kernel)
set_option maxRecDepth 20000 in
theorem gX9_reason_X9_isStraight : GoodIn wsX9_reason (wsV RX9 30 RX9 yX9_isStraight wsX9_isStraight) := goodIn_app (goodIn_of _ (by decide +kernel)) ggX9_reason_X9_isStraight
theorem dX9_reason_0 : decode cX9_reason 0 = .ok (.aload_n 0, 1) := by decide +kernel
theorem dX9_reason_1 : decode cX9_reason 1 = .ok (.getfield 7, 3) := by decide +kernel
theorem dX9_reason_4 : decode cX9_reason 4 = .ok (.iconst 3, 1) := by decide +kernel
theorem dX9_reason_5 : decode cX9_reason 5 = .ok (.iaload, 1) := by decide +kernel
theorem dX9_reason_6 : decode cX9_reason 6 = .ok (.ifCond .le 7, 3) := by decide +kernel
theorem dX9_reason_9 : decode cX9_reason 9 = .ok (.iconst 1, 1) := by decide +kernel
theorem dX9_reason_10 : decode cX9_reason 10 = .ok (.goto 35, 3) := by decide +kernel
theorem dX9_reason_13 : decode cX9_reason 13 = .ok (.aload_n 0, 1) := by decide +kernel
theorem dX9_reason_14 : decode cX9_reason 14 = .ok (.invokevirtual 30, 3) := by decide +kernel
theorem dX9_reason_17 : decode cX9_reason 17 = .ok (.ifCond .ne 7, 3) := by decide +kernel
theorem dX9_reason_20 : decode cX9_reason 20 = .ok (.iconst 2, 1) := by decide +kernel
theorem dX9_reason_21 : decode cX9_reason 21 = .ok (.goto 24, 3) := by decide +kernel
theorem dX9_reason_24 : decode cX9_reason 24 = .ok (.aload_n 0, 1) := by decide +kernel
theorem dX9_reason_25 : decode cX9_reason 25 = .ok (.getfield 7, 3) := by decide +kernel
theorem dX9_reason_28 : decode cX9_reason 28 = .ok (.iconst 2, 1) := by decide +kernel
theorem dX9_reason_29 : decode cX9_reason 29 = .ok (.iaload, 1) := by decide +kernel
theorem dX9_reason_30 : decode cX9_reason 30 = .ok (.aload_n 0, 1) := by decide +kernel
theorem dX9_reason_31 : decode cX9_reason 31 = .ok (.getfield 7, 3) := by decide +kernel
theorem dX9_reason_34 : decode cX9_reason 34 = .ok (.bipush 15, 2) := by decide +kernel
theorem dX9_reason_36 : decode cX9_reason 36 = .ok (.iaload, 1) := by decide +kernel
theorem dX9_reason_37 : decode cX9_reason 37 = .ok (.if_icmp .lt 7, 3) := by decide +kernel
theorem dX9_reason_40 : decode cX9_reason 40 = .ok (.iconst 3, 1) := by decide +kernel
theorem dX9_reason_41 : decode cX9_reason 41 = .ok (.goto 4, 3) := by decide +kernel
theorem dX9_reason_44 : decode cX9_reason 44 = .ok (.iconst 0, 1) := by decide +kernel
theorem dX9_reason_45 : decode cX9_reason 45 = .ok (.ireturn, 1) := by decide +kernel
set_option maxRecDepth 20000 in
theorem ggX9_heightBy_X9_whole : GoodIn wsX9_heightBy wsX9_whole := goodIn_r _ [8, 9, 14, 15, 16, 17, 18, 19, 20, 21, 22, 23, 24] (by decide +kernel) (by decide +kernel)
set_option maxRecDepth 20000 in
theorem gX9_heightBy_X9_whole : GoodIn wsX9_heightBy (wsV RX9 36 RX9 yX9_whole wsX9_whole) := goodIn_app (goodIn_of _ (by decide +kernel)) ggX9_heightBy_X9_whole
set_option maxRecDepth 20000 in
theorem ggX9_heightBy_X9_counting : GoodIn wsX9_heightBy wsX9_counting := goodIn_r _ [13, 9, 14, 15, 16, 17, 18, 19, 20, 21, 22, 23, 24] (by decide +kernel) (by decide +kernel)
set_option maxRecDepth 20000 in
theorem gX9_heightBy_X9_counting : GoodIn wsX9_heightBy (wsV RX9 44 RX9 yX9_counting wsX9_counting) := goodIn_app (goodIn_of _ (by decide +kernel)) ggX9_heightBy_X9_counting
theorem dX9_heightBy_0 : decode cX9_heightBy 0 = .ok (.ldc2_w 34, 3) := by decide +kernel
theorem dX9_heightBy_3 : decode cX9_heightBy 3 = .ok (.iload_n 1, 1) := by decide +kernel
theorem dX9_heightBy_4 : decode cX9_heightBy 4 = .ok (.i2l, 1) := by decide +kernel
theorem dX9_heightBy_5 : decode cX9_heightBy 5 = .ok (.lmul, 1) := by decide +kernel
theorem dX9_heightBy_6 : decode cX9_heightBy 6 = .ok (.iload_n 2, 1) := by decide +kernel
theorem dX9_heightBy_7 : decode cX9_heightBy 7 = .ok (.i2l, 1) := by decide +kernel
theorem dX9_heightBy_8 : decode cX9_heightBy 8 = .ok (.lmul, 1) := by decide +kernel
theorem dX9_heightBy_9 : decode cX9_heightBy 9 = .ok (.aload_n 0, 1) := by decide +kernel
theorem dX9_heightBy_10 : decode cX9_heightBy 10 = .ok (.invokevirtual 36, 3) := by decide +kernel
theorem dX9_heightBy_13 : decode cX9_heightBy 13 = .ok (.iload_n 1, 1) := by decide +kernel
theorem dX9_heightBy_14 : decode cX9_heightBy 14 = .ok (.iadd, 1) := by decide +kernel
theorem dX9_heightBy_15 : decode cX9_heightBy 15 = .ok (.i2l, 1) := by decide +kernel
theorem dX9_heightBy_16 : decode cX9_heightBy 16 = .ok (.ldiv, 1) := by decide +kernel
theorem dX9_heightBy_17 : decode cX9_heightBy 17 = .ok (.lstore_n 3, 1) := by decide +kernel
theorem dX9_heightBy_18 : decode cX9_heightBy 18 = .ok (.lload_n 3, 1) := by decide +kernel
theorem dX9_heightBy_19 : decode cX9_heightBy 19 = .ok (.lload_n 3, 1) := by decide +kernel
theorem dX9_heightBy_20 : decode cX9_heightBy 20 = .ok (.lmul, 1) := by decide +kernel
theorem dX9_heightBy_21 : decode cX9_heightBy 21 = .ok (.ldc2_w 40, 3) := by decide +kernel
theorem dX9_heightBy_24 : decode cX9_heightBy 24 = .ok (.lmul, 1) := by decide +kernel
theorem dX9_heightBy_25 : decode cX9_heightBy 25 = .ok (.ldc2_w 42, 3) := by decide +kernel
theorem dX9_heightBy_28 : decode cX9_heightBy 28 = .ok (.ldiv, 1) := by decide +kernel
theorem dX9_heightBy_29 : decode cX9_heightBy 29 = .ok (.lstore 5, 2) := by decide +kernel
theorem dX9_heightBy_31 : decode cX9_heightBy 31 = .ok (.ldc2_w 40, 3) := by decide +kernel
theorem dX9_heightBy_34 : decode cX9_heightBy 34 = .ok (.aload_n 0, 1) := by decide +kernel
theorem dX9_heightBy_35 : decode cX9_heightBy 35 = .ok (.invokevirtual 44, 3) := by decide +kernel
theorem dX9_heightBy_38 : decode cX9_heightBy 38 = .ok (.i2l, 1) := by decide +kernel
theorem dX9_heightBy_39 : decode cX9_heightBy 39 = .ok (.lmul, 1) := by decide +kernel
theorem dX9_heightBy_40 : decode cX9_heightBy 40 = .ok (.lstore 7, 2) := by decide +kernel
theorem dX9_heightBy_42 : decode cX9_heightBy 42 = .ok (.lload 5, 2) := by decide +kernel
theorem dX9_heightBy_44 : decode cX9_heightBy 44 = .ok (.lload 7, 2) := by decide +kernel
theorem dX9_heightBy_46 : decode cX9_heightBy 46 = .ok (.lcmp, 1) := by decide +kernel
theorem dX9_heightBy_47 : decode cX9_heightBy 47 = .ok (.ifCond .ge 8, 3) := by decide +kernel
theorem dX9_heightBy_50 : decode cX9_heightBy 50 = .ok (.lload 5, 2) := by decide +kernel
theorem dX9_heightBy_52 : decode cX9_heightBy 52 = .ok (.goto 5, 3) := by decide +kernel
theorem dX9_heightBy_55 : decode cX9_heightBy 55 = .ok (.lload 7, 2) := by decide +kernel
theorem dX9_heightBy_57 : decode cX9_heightBy 57 = .ok (.l2i, 1) := by decide +kernel
theorem dX9_heightBy_58 : decode cX9_heightBy 58 = .ok (.ireturn, 1) := by decide +kernel
set_option maxRecDepth 20000 in
theorem ggX9_toldBy_X9_whole : GoodIn wsX9_toldBy wsX9_whole := goodIn_r _ [10, 11, 12, 13, 14, 15, 16, 17, 18, 19, 20, 21, 22] (by decide +kernel) (by decide +kernel)
set_option maxRecDepth 20000 in
theorem gX9_toldBy_X9_whole : GoodIn wsX9_toldBy (wsV RX9 36 RX9 yX9_whole wsX9_whole) := goodIn_app (goodIn_of _ (by decide +kernel)) ggX9_toldBy_X9_whole
theorem dX9_toldBy_0 : decode cX9_toldBy 0 = .ok (.iload_n 1, 1) := by decide +kernel
theorem dX9_toldBy_1 : decode cX9_toldBy 1 = .ok (.i2l, 1) := by decide +kernel
theorem dX9_toldBy_2 : decode cX9_toldBy 2 = .ok (.ldc2_w 42, 3) := by decide +kernel
theorem dX9_toldBy_5 : decode cX9_toldBy 5 = .ok (.lmul, 1) := by decide +kernel
theorem dX9_toldBy_6 : decode cX9_toldBy 6 = .ok (.ldc2_w 40, 3) := by decide +kernel
theorem dX9_toldBy_9 : decode cX9_toldBy 9 = .ok (.ldiv, 1) := by decide +kernel
theorem dX9_toldBy_10 : decode cX9_toldBy 10 = .ok (.lstore_n 3, 1) := by decide +kernel
theorem dX9_toldBy_11 : decode cX9_toldBy 11 = .ok (.lconst 0, 1) := by decide +kernel
theorem dX9_toldBy_12 : decode cX9_toldBy 12 = .ok (.lstore 5, 2) := by decide +kernel
theorem dX9_toldBy_14 : decode cX9_toldBy 14 = .ok (.ldc2_w 47, 3) := by decide +kernel
theorem dX9_toldBy_17 : decode cX9_toldBy 17 = .ok (.lstore 7, 2) := by decide +kernel
theorem dX9_toldBy_19 : decode cX9_toldBy 19 = .ok (.lload 5, 2) := by decide +kernel
theorem dX9_toldBy_21 : decode cX9_toldBy 21 = .ok (.lload 7, 2) := by decide +kernel
theorem dX9_toldBy_23 : decode cX9_toldBy 23 = .ok (.lcmp, 1) := by decide +kernel
theorem dX9_toldBy_24 : decode cX9_toldBy 24 = .ok (.ifCond .ge 42, 3) := by decide +kernel
theorem dX9_toldBy_27 : decode cX9_toldBy 27 = .ok (.lload 5, 2) := by decide +kernel
theorem dX9_toldBy_29 : decode cX9_toldBy 29 = .ok (.lload 7, 2) := by decide +kernel
theorem dX9_toldBy_31 : decode cX9_toldBy 31 = .ok (.ladd, 1) := by decide +kernel
theorem dX9_toldBy_32 : decode cX9_toldBy 32 = .ok (.lconst 1, 1) := by decide +kernel
theorem dX9_toldBy_33 : decode cX9_toldBy 33 = .ok (.ladd, 1) := by decide +kernel
theorem dX9_toldBy_34 : decode cX9_toldBy 34 = .ok (.ldc2_w 49, 3) := by decide +kernel
theorem dX9_toldBy_37 : decode cX9_toldBy 37 = .ok (.ldiv, 1) := by decide +kernel
theorem dX9_toldBy_38 : decode cX9_toldBy 38 = .ok (.lstore 9, 2) := by decide +kernel
theorem dX9_toldBy_40 : decode cX9_toldBy 40 = .ok (.lload 9, 2) := by decide +kernel
theorem dX9_toldBy_42 : decode cX9_toldBy 42 = .ok (.lload 9, 2) := by decide +kernel
theorem dX9_toldBy_44 : decode cX9_toldBy 44 = .ok (.lmul, 1) := by decide +kernel
theorem dX9_toldBy_45 : decode cX9_toldBy 45 = .ok (.lload_n 3, 1) := by decide +kernel
theorem dX9_toldBy_46 : decode cX9_toldBy 46 = .ok (.lcmp, 1) := by decide +kernel
theorem dX9_toldBy_47 : decode cX9_toldBy 47 = .ok (.ifCond .gt 10, 3) := by decide +kernel
theorem dX9_toldBy_50 : decode cX9_toldBy 50 = .ok (.lload 9, 2) := by decide +kernel
theorem dX9_toldBy_52 : decode cX9_toldBy 52 = .ok (.lstore 5, 2) := by decide +kernel
theorem dX9_toldBy_54 : decode cX9_toldBy 54 = .ok (.goto 9, 3) := by decide +kernel
theorem dX9_toldBy_57 : decode cX9_toldBy 57 = .ok (.lload 9, 2) := by decide +kernel
theorem dX9_toldBy_59 : decode cX9_toldBy 59 = .ok (.lconst 1, 1) := by decide +kernel
theorem dX9_toldBy_60 : decode cX9_toldBy 60 = .ok (.lsub, 1) := by decide +kernel
theorem dX9_toldBy_61 : decode cX9_toldBy 61 = .ok (.lstore 7, 2) := by decide +kernel
theorem dX9_toldBy_63 : decode cX9_toldBy 63 = .ok (.goto (-44), 3) := by decide +kernel
theorem dX9_toldBy_66 : decode cX9_toldBy 66 = .ok (.lload 5, 2) := by decide +kernel
theorem dX9_toldBy_68 : decode cX9_toldBy 68 = .ok (.aload_n 0, 1) := by decide +kernel
theorem dX9_toldBy_69 : decode cX9_toldBy 69 = .ok (.invokevirtual 36, 3) := by decide +kernel
theorem dX9_toldBy_72 : decode cX9_toldBy 72 = .ok (.iload_n 2, 1) := by decide +kernel
theorem dX9_toldBy_73 : decode cX9_toldBy 73 = .ok (.iadd, 1) := by decide +kernel
theorem dX9_toldBy_74 : decode cX9_toldBy 74 = .ok (.i2l, 1) := by decide +kernel
theorem dX9_toldBy_75 : decode cX9_toldBy 75 = .ok (.lmul, 1) := by decide +kernel
theorem dX9_toldBy_76 : decode cX9_toldBy 76 = .ok (.ldc2_w 34, 3) := by decide +kernel
theorem dX9_toldBy_79 : decode cX9_toldBy 79 = .ok (.iload_n 2, 1) := by decide +kernel
theorem dX9_toldBy_80 : decode cX9_toldBy 80 = .ok (.i2l, 1) := by decide +kernel
theorem dX9_toldBy_81 : decode cX9_toldBy 81 = .ok (.lmul, 1) := by decide +kernel
theorem dX9_toldBy_82 : decode cX9_toldBy 82 = .ok (.ldiv, 1) := by decide +kernel
theorem dX9_toldBy_83 : decode cX9_toldBy 83 = .ok (.l2i, 1) := by decide +kernel
theorem dX9_toldBy_84 : decode cX9_toldBy 84 = .ok (.ireturn, 1) := by decide +kernel
theorem dX9_lessBy_0 : decode cX9_lessBy 0 = .ok (.iload_n 1, 1) := by decide +kernel
theorem dX9_lessBy_1 : decode cX9_lessBy 1 = .ok (.i2l, 1) := by decide +kernel
theorem dX9_lessBy_2 : decode cX9_lessBy 2 = .ok (.aload_n 0, 1) := by decide +kernel
theorem dX9_lessBy_3 : decode cX9_lessBy 3 = .ok (.getfield 7, 3) := by decide +kernel
theorem dX9_lessBy_6 : decode cX9_lessBy 6 = .ok (.bipush 13, 2) := by decide +kernel
theorem dX9_lessBy_8 : decode cX9_lessBy 8 = .ok (.iaload, 1) := by decide +kernel
theorem dX9_lessBy_9 : decode cX9_lessBy 9 = .ok (.i2l, 1) := by decide +kernel
theorem dX9_lessBy_10 : decode cX9_lessBy 10 = .ok (.lmul, 1) := by decide +kernel
theorem dX9_lessBy_11 : decode cX9_lessBy 11 = .ok (.ldc2_w 51, 3) := by decide +kernel
theorem dX9_lessBy_14 : decode cX9_lessBy 14 = .ok (.ladd, 1) := by decide +kernel
theorem dX9_lessBy_15 : decode cX9_lessBy 15 = .ok (.ldc2_w 34, 3) := by decide +kernel
theorem dX9_lessBy_18 : decode cX9_lessBy 18 = .ok (.ldiv, 1) := by decide +kernel
theorem dX9_lessBy_19 : decode cX9_lessBy 19 = .ok (.lstore_n 2, 1) := by decide +kernel
theorem dX9_lessBy_20 : decode cX9_lessBy 20 = .ok (.iload_n 1, 1) := by decide +kernel
theorem dX9_lessBy_21 : decode cX9_lessBy 21 = .ok (.i2l, 1) := by decide +kernel
theorem dX9_lessBy_22 : decode cX9_lessBy 22 = .ok (.lload_n 2, 1) := by decide +kernel
theorem dX9_lessBy_23 : decode cX9_lessBy 23 = .ok (.lconst 1, 1) := by decide +kernel
theorem dX9_lessBy_24 : decode cX9_lessBy 24 = .ok (.lcmp, 1) := by decide +kernel
theorem dX9_lessBy_25 : decode cX9_lessBy 25 = .ok (.ifCond .ge 7, 3) := by decide +kernel
theorem dX9_lessBy_28 : decode cX9_lessBy 28 = .ok (.lconst 1, 1) := by decide +kernel
theorem dX9_lessBy_29 : decode cX9_lessBy 29 = .ok (.goto 4, 3) := by decide +kernel
theorem dX9_lessBy_32 : decode cX9_lessBy 32 = .ok (.lload_n 2, 1) := by decide +kernel
theorem dX9_lessBy_33 : decode cX9_lessBy 33 = .ok (.lsub, 1) := by decide +kernel
theorem dX9_lessBy_34 : decode cX9_lessBy 34 = .ok (.lstore 4, 2) := by decide +kernel
theorem dX9_lessBy_36 : decode cX9_lessBy 36 = .ok (.lload 4, 2) := by decide +kernel
theorem dX9_lessBy_38 : decode cX9_lessBy 38 = .ok (.aload_n 0, 1) := by decide +kernel
theorem dX9_lessBy_39 : decode cX9_lessBy 39 = .ok (.getfield 7, 3) := by decide +kernel
theorem dX9_lessBy_42 : decode cX9_lessBy 42 = .ok (.bipush 14, 2) := by decide +kernel
theorem dX9_lessBy_44 : decode cX9_lessBy 44 = .ok (.iaload, 1) := by decide +kernel
theorem dX9_lessBy_45 : decode cX9_lessBy 45 = .ok (.i2l, 1) := by decide +kernel
theorem dX9_lessBy_46 : decode cX9_lessBy 46 = .ok (.lcmp, 1) := by decide +kernel
theorem dX9_lessBy_47 : decode cX9_lessBy 47 = .ok (.ifCond .ge 7, 3) := by decide +kernel
theorem dX9_lessBy_50 : decode cX9_lessBy 50 = .ok (.iconst 0, 1) := by decide +kernel
theorem dX9_lessBy_51 : decode cX9_lessBy 51 = .ok (.goto 6, 3) := by decide +kernel
theorem dX9_lessBy_54 : decode cX9_lessBy 54 = .ok (.lload 4, 2) := by decide +kernel
theorem dX9_lessBy_56 : decode cX9_lessBy 56 = .ok (.l2i, 1) := by decide +kernel
theorem dX9_lessBy_57 : decode cX9_lessBy 57 = .ok (.ireturn, 1) := by decide +kernel
set_option maxRecDepth 20000 in
theorem ggX9_swings_X9_lessBy : GoodIn wsX9_swings wsX9_lessBy := goodIn_r _ [6, 1, 7, 8, 9, 10, 11, 12, 13, 14, 15, 16, 17, 18, 19] (by decide +kernel) (by decide +kernel)
set_option maxRecDepth 20000 in
theorem gX9_swings_X9_lessBy : GoodIn wsX9_swings (wsV RX9 53 RX9 yX9_lessBy wsX9_lessBy) := goodIn_app (goodIn_of _ (by decide +kernel)) ggX9_swings_X9_lessBy
theorem dX9_swings_0 : decode cX9_swings 0 = .ok (.iconst 0, 1) := by decide +kernel
theorem dX9_swings_1 : decode cX9_swings 1 = .ok (.istore_n 2, 1) := by decide +kernel
theorem dX9_swings_2 : decode cX9_swings 2 = .ok (.iload_n 2, 1) := by decide +kernel
theorem dX9_swings_3 : decode cX9_swings 3 = .ok (.iload_n 1, 1) := by decide +kernel
theorem dX9_swings_4 : decode cX9_swings 4 = .ok (.if_icmp .ge 44, 3) := by decide +kernel
theorem dX9_swings_7 : decode cX9_swings 7 = .ok (.aload_n 0, 1) := by decide +kernel
theorem dX9_swings_8 : decode cX9_swings 8 = .ok (.getfield 7, 3) := by decide +kernel
theorem dX9_swings_11 : decode cX9_swings 11 = .ok (.iconst 3, 1) := by decide +kernel
theorem dX9_swings_12 : decode cX9_swings 12 = .ok (.iaload, 1) := by decide +kernel
theorem dX9_swings_13 : decode cX9_swings 13 = .ok (.ifCond .le 35, 3) := by decide +kernel
theorem dX9_swings_16 : decode cX9_swings 16 = .ok (.aload_n 0, 1) := by decide +kernel
theorem dX9_swings_17 : decode cX9_swings 17 = .ok (.getfield 7, 3) := by decide +kernel
theorem dX9_swings_20 : decode cX9_swings 20 = .ok (.iconst 3, 1) := by decide +kernel
theorem dX9_swings_21 : decode cX9_swings 21 = .ok (.aload_n 0, 1) := by decide +kernel
theorem dX9_swings_22 : decode cX9_swings 22 = .ok (.aload_n 0, 1) := by decide +kernel
theorem dX9_swings_23 : decode cX9_swings 23 = .ok (.getfield 7, 3) := by decide +kernel
theorem dX9_swings_26 : decode cX9_swings 26 = .ok (.iconst 3, 1) := by decide +kernel
theorem dX9_swings_27 : decode cX9_swings 27 = .ok (.iaload, 1) := by decide +kernel
theorem dX9_swings_28 : decode cX9_swings 28 = .ok (.invokevirtual 53, 3) := by decide +kernel
theorem dX9_swings_31 : decode cX9_swings 31 = .ok (.iastore, 1) := by decide +kernel
theorem dX9_swings_32 : decode cX9_swings 32 = .ok (.aload_n 0, 1) := by decide +kernel
theorem dX9_swings_33 : decode cX9_swings 33 = .ok (.getfield 7, 3) := by decide +kernel
theorem dX9_swings_36 : decode cX9_swings 36 = .ok (.iconst 4, 1) := by decide +kernel
theorem dX9_swings_37 : decode cX9_swings 37 = .ok (.dup2, 1) := by decide +kernel
theorem dX9_swings_38 : decode cX9_swings 38 = .ok (.iaload, 1) := by decide +kernel
theorem dX9_swings_39 : decode cX9_swings 39 = .ok (.iconst 1, 1) := by decide +kernel
theorem dX9_swings_40 : decode cX9_swings 40 = .ok (.iadd, 1) := by decide +kernel
theorem dX9_swings_41 : decode cX9_swings 41 = .ok (.iastore, 1) := by decide +kernel
theorem dX9_swings_42 : decode cX9_swings 42 = .ok (.iinc 2 1, 3) := by decide +kernel
theorem dX9_swings_45 : decode cX9_swings 45 = .ok (.goto (-43), 3) := by decide +kernel
theorem dX9_swings_48 : decode cX9_swings 48 = .ok (.return_, 1) := by decide +kernel
theorem dX9_empty_0 : decode cX9_empty 0 = .ok (.aload_n 0, 1) := by decide +kernel
theorem dX9_empty_1 : decode cX9_empty 1 = .ok (.getfield 7, 3) := by decide +kernel
theorem dX9_empty_4 : decode cX9_empty 4 = .ok (.bipush 6, 2) := by decide +kernel
theorem dX9_empty_6 : decode cX9_empty 6 = .ok (.dup2, 1) := by decide +kernel
theorem dX9_empty_7 : decode cX9_empty 7 = .ok (.iaload, 1) := by decide +kernel
theorem dX9_empty_8 : decode cX9_empty 8 = .ok (.aload_n 0, 1) := by decide +kernel
theorem dX9_empty_9 : decode cX9_empty 9 = .ok (.getfield 7, 3) := by decide +kernel
theorem dX9_empty_12 : decode cX9_empty 12 = .ok (.iconst 1, 1) := by decide +kernel
theorem dX9_empty_13 : decode cX9_empty 13 = .ok (.iaload, 1) := by decide +kernel
theorem dX9_empty_14 : decode cX9_empty 14 = .ok (.iadd, 1) := by decide +kernel
theorem dX9_empty_15 : decode cX9_empty 15 = .ok (.iastore, 1) := by decide +kernel
theorem dX9_empty_16 : decode cX9_empty 16 = .ok (.aload_n 0, 1) := by decide +kernel
theorem dX9_empty_17 : decode cX9_empty 17 = .ok (.getfield 7, 3) := by decide +kernel
theorem dX9_empty_20 : decode cX9_empty 20 = .ok (.iconst 1, 1) := by decide +kernel
theorem dX9_empty_21 : decode cX9_empty 21 = .ok (.iconst 0, 1) := by decide +kernel
theorem dX9_empty_22 : decode cX9_empty 22 = .ok (.iastore, 1) := by decide +kernel
theorem dX9_empty_23 : decode cX9_empty 23 = .ok (.aload_n 0, 1) := by decide +kernel
theorem dX9_empty_24 : decode cX9_empty 24 = .ok (.getfield 7, 3) := by decide +kernel
theorem dX9_empty_27 : decode cX9_empty 27 = .ok (.iconst 2, 1) := by decide +kernel
theorem dX9_empty_28 : decode cX9_empty 28 = .ok (.iconst 0, 1) := by decide +kernel
theorem dX9_empty_29 : decode cX9_empty 29 = .ok (.iastore, 1) := by decide +kernel
theorem dX9_empty_30 : decode cX9_empty 30 = .ok (.return_, 1) := by decide +kernel
set_option maxRecDepth 20000 in
theorem ggX9_block_X9_in : GoodIn wsX9_block wsX9_in := goodIn_r _ [5] (by decide +kernel) (by decide +kernel)
set_option maxRecDepth 20000 in
theorem gX9_block_X9_in : GoodIn wsX9_block (va_wsS RX9 57 yX9_in wsX9_in) := goodIn_app (goodIn_of _ (by decide +kernel)) ggX9_block_X9_in
set_option maxRecDepth 20000 in
theorem ggX9_block_X9_record : GoodIn wsX9_block wsX9_record := goodIn_r _ [9, 10, 11, 1, 16, 17, 18, 19, 20, 21, 22, 23, 24, 25, 26] (by decide +kernel) (by decide +kernel)
set_option maxRecDepth 20000 in
theorem gX9_block_X9_record : GoodIn wsX9_block (wsV RX9 61 RX9 yX9_record wsX9_record) := goodIn_app (goodIn_of _ (by decide +kernel)) ggX9_block_X9_record
set_option maxRecDepth 20000 in
theorem ggX9_block_X9_empty : GoodIn wsX9_block wsX9_empty := goodIn_r _ [15, 1, 16, 17, 18, 19, 20, 21, 22, 23, 24, 25, 26] (by decide +kernel) (by decide +kernel)
set_option maxRecDepth 20000 in
theorem gX9_block_X9_empty : GoodIn wsX9_block (wsV RX9 64 RX9 yX9_empty wsX9_empty) := goodIn_app (goodIn_of _ (by decide +kernel)) ggX9_block_X9_empty
theorem dX9_block_0 : decode cX9_block 0 = .ok (.iload_n 1, 1) := by decide +kernel
theorem dX9_block_1 : decode cX9_block 1 = .ok (.sipush 1000, 3) := by decide +kernel
theorem dX9_block_4 : decode cX9_block 4 = .ok (.sipush 9000, 3) := by decide +kernel
theorem dX9_block_7 : decode cX9_block 7 = .ok (.invokestatic 57, 3) := by decide +kernel
theorem dX9_block_10 : decode cX9_block 10 = .ok (.ifCond .ne 6, 3) := by decide +kernel
theorem dX9_block_13 : decode cX9_block 13 = .ok (.bipush (-2), 2) := by decide +kernel
theorem dX9_block_15 : decode cX9_block 15 = .ok (.ireturn, 1) := by decide +kernel
theorem dX9_block_16 : decode cX9_block 16 = .ok (.aload_n 0, 1) := by decide +kernel
theorem dX9_block_17 : decode cX9_block 17 = .ok (.getfield 7, 3) := by decide +kernel
theorem dX9_block_20 : decode cX9_block 20 = .ok (.iconst 3, 1) := by decide +kernel
theorem dX9_block_21 : decode cX9_block 21 = .ok (.iaload, 1) := by decide +kernel
theorem dX9_block_22 : decode cX9_block 22 = .ok (.ifCond .le 6, 3) := by decide +kernel
theorem dX9_block_25 : decode cX9_block 25 = .ok (.bipush (-4), 2) := by decide +kernel
theorem dX9_block_27 : decode cX9_block 27 = .ok (.ireturn, 1) := by decide +kernel
theorem dX9_block_28 : decode cX9_block 28 = .ok (.aload_n 0, 1) := by decide +kernel
theorem dX9_block_29 : decode cX9_block 29 = .ok (.invokevirtual 61, 3) := by decide +kernel
theorem dX9_block_32 : decode cX9_block 32 = .ok (.aload_n 0, 1) := by decide +kernel
theorem dX9_block_33 : decode cX9_block 33 = .ok (.getfield 7, 3) := by decide +kernel
theorem dX9_block_36 : decode cX9_block 36 = .ok (.iconst 2, 1) := by decide +kernel
theorem dX9_block_37 : decode cX9_block 37 = .ok (.iaload, 1) := by decide +kernel
theorem dX9_block_38 : decode cX9_block 38 = .ok (.istore_n 2, 1) := by decide +kernel
theorem dX9_block_39 : decode cX9_block 39 = .ok (.aload_n 0, 1) := by decide +kernel
theorem dX9_block_40 : decode cX9_block 40 = .ok (.invokevirtual 64, 3) := by decide +kernel
theorem dX9_block_43 : decode cX9_block 43 = .ok (.aload_n 0, 1) := by decide +kernel
theorem dX9_block_44 : decode cX9_block 44 = .ok (.getfield 7, 3) := by decide +kernel
theorem dX9_block_47 : decode cX9_block 47 = .ok (.iconst 0, 1) := by decide +kernel
theorem dX9_block_48 : decode cX9_block 48 = .ok (.iload_n 1, 1) := by decide +kernel
theorem dX9_block_49 : decode cX9_block 49 = .ok (.iastore, 1) := by decide +kernel
theorem dX9_block_50 : decode cX9_block 50 = .ok (.iload_n 2, 1) := by decide +kernel
theorem dX9_block_51 : decode cX9_block 51 = .ok (.ireturn, 1) := by decide +kernel
set_option maxRecDepth 20000 in
theorem ggX9_digOut_X9_record : GoodIn wsX9_digOut wsX9_record := goodIn_r _ [6, 7, 8, 1, 13, 14, 15, 16, 17, 18, 19, 20, 21, 22, 23] (by decide +kernel) (by decide +kernel)
set_option maxRecDepth 20000 in
theorem gX9_digOut_X9_record : GoodIn wsX9_digOut (wsV RX9 61 RX9 yX9_record wsX9_record) := goodIn_app (goodIn_of _ (by decide +kernel)) ggX9_digOut_X9_record
set_option maxRecDepth 20000 in
theorem ggX9_digOut_X9_empty : GoodIn wsX9_digOut wsX9_empty := goodIn_r _ [12, 1, 13, 14, 15, 16, 17, 18, 19, 20, 21, 22, 23] (by decide +kernel) (by decide +kernel)
set_option maxRecDepth 20000 in
theorem gX9_digOut_X9_empty : GoodIn wsX9_digOut (wsV RX9 64 RX9 yX9_empty wsX9_empty) := goodIn_app (goodIn_of _ (by decide +kernel)) ggX9_digOut_X9_empty
theorem dX9_digOut_0 : decode cX9_digOut 0 = .ok (.aload_n 0, 1) := by decide +kernel
theorem dX9_digOut_1 : decode cX9_digOut 1 = .ok (.getfield 7, 3) := by decide +kernel
theorem dX9_digOut_4 : decode cX9_digOut 4 = .ok (.iconst 3, 1) := by decide +kernel
theorem dX9_digOut_5 : decode cX9_digOut 5 = .ok (.iaload, 1) := by decide +kernel
theorem dX9_digOut_6 : decode cX9_digOut 6 = .ok (.ifCond .le 6, 3) := by decide +kernel
theorem dX9_digOut_9 : decode cX9_digOut 9 = .ok (.bipush (-4), 2) := by decide +kernel
theorem dX9_digOut_11 : decode cX9_digOut 11 = .ok (.ireturn, 1) := by decide +kernel
theorem dX9_digOut_12 : decode cX9_digOut 12 = .ok (.aload_n 0, 1) := by decide +kernel
theorem dX9_digOut_13 : decode cX9_digOut 13 = .ok (.getfield 7, 3) := by decide +kernel
theorem dX9_digOut_16 : decode cX9_digOut 16 = .ok (.iconst 2, 1) := by decide +kernel
theorem dX9_digOut_17 : decode cX9_digOut 17 = .ok (.iaload, 1) := by decide +kernel
theorem dX9_digOut_18 : decode cX9_digOut 18 = .ok (.ifCond .ne 6, 3) := by decide +kernel
theorem dX9_digOut_21 : decode cX9_digOut 21 = .ok (.bipush (-5), 2) := by decide +kernel
theorem dX9_digOut_23 : decode cX9_digOut 23 = .ok (.ireturn, 1) := by decide +kernel
theorem dX9_digOut_24 : decode cX9_digOut 24 = .ok (.aload_n 0, 1) := by decide +kernel
theorem dX9_digOut_25 : decode cX9_digOut 25 = .ok (.invokevirtual 61, 3) := by decide +kernel
theorem dX9_digOut_28 : decode cX9_digOut 28 = .ok (.aload_n 0, 1) := by decide +kernel
theorem dX9_digOut_29 : decode cX9_digOut 29 = .ok (.getfield 7, 3) := by decide +kernel
theorem dX9_digOut_32 : decode cX9_digOut 32 = .ok (.iconst 1, 1) := by decide +kernel
theorem dX9_digOut_33 : decode cX9_digOut 33 = .ok (.iaload, 1) := by decide +kernel
theorem dX9_digOut_34 : decode cX9_digOut 34 = .ok (.istore_n 1, 1) := by decide +kernel
theorem dX9_digOut_35 : decode cX9_digOut 35 = .ok (.aload_n 0, 1) := by decide +kernel
theorem dX9_digOut_36 : decode cX9_digOut 36 = .ok (.invokevirtual 64, 3) := by decide +kernel
theorem dX9_digOut_39 : decode cX9_digOut 39 = .ok (.iload_n 1, 1) := by decide +kernel
theorem dX9_digOut_40 : decode cX9_digOut 40 = .ok (.ireturn, 1) := by decide +kernel
set_option maxRecDepth 20000 in
theorem ggX9_cord_X9_in : GoodIn wsX9_cord wsX9_in := goodIn_r _ [5] (by decide +kernel) (by decide +kernel)
set_option maxRecDepth 20000 in
theorem gX9_cord_X9_in : GoodIn wsX9_cord (va_wsS RX9 57 yX9_in wsX9_in) := goodIn_app (goodIn_of _ (by decide +kernel)) ggX9_cord_X9_in
set_option maxRecDepth 20000 in
theorem ggX9_cord_X9_record : GoodIn wsX9_cord wsX9_record := goodIn_r _ [9, 10, 11, 1, 16, 17, 18, 19, 20, 21, 22, 23, 24, 25, 26] (by decide +kernel) (by decide +kernel)
set_option maxRecDepth 20000 in
theorem gX9_cord_X9_record : GoodIn wsX9_cord (wsV RX9 61 RX9 yX9_record wsX9_record) := goodIn_app (goodIn_of _ (by decide +kernel)) ggX9_cord_X9_record
set_option maxRecDepth 20000 in
theorem ggX9_cord_X9_counting : GoodIn wsX9_cord wsX9_counting := goodIn_r _ [15, 1, 16, 17, 18, 19, 20, 21, 22, 23, 24, 25, 26] (by decide +kernel) (by decide +kernel)
set_option maxRecDepth 20000 in
theorem gX9_cord_X9_counting : GoodIn wsX9_cord (wsV RX9 44 RX9 yX9_counting wsX9_counting) := goodIn_app (goodIn_of _ (by decide +kernel)) ggX9_cord_X9_counting
theorem dX9_cord_0 : decode cX9_cord 0 = .ok (.iload_n 1, 1) := by decide +kernel
theorem dX9_cord_1 : decode cX9_cord 1 = .ok (.iconst 0, 1) := by decide +kernel
theorem dX9_cord_2 : decode cX9_cord 2 = .ok (.iconst 3, 1) := by decide +kernel
theorem dX9_cord_3 : decode cX9_cord 3 = .ok (.invokestatic 57, 3) := by decide +kernel
theorem dX9_cord_6 : decode cX9_cord 6 = .ok (.ifCond .ne 5, 3) := by decide +kernel
theorem dX9_cord_9 : decode cX9_cord 9 = .ok (.iconst (-1), 1) := by decide +kernel
theorem dX9_cord_10 : decode cX9_cord 10 = .ok (.ireturn, 1) := by decide +kernel
theorem dX9_cord_11 : decode cX9_cord 11 = .ok (.iload_n 2, 1) := by decide +kernel
theorem dX9_cord_12 : decode cX9_cord 12 = .ok (.sipush 500, 3) := by decide +kernel
theorem dX9_cord_15 : decode cX9_cord 15 = .ok (.sipush 3000, 3) := by decide +kernel
theorem dX9_cord_18 : decode cX9_cord 18 = .ok (.invokestatic 57, 3) := by decide +kernel
theorem dX9_cord_21 : decode cX9_cord 21 = .ok (.ifCond .ne 6, 3) := by decide +kernel
theorem dX9_cord_24 : decode cX9_cord 24 = .ok (.bipush (-2), 2) := by decide +kernel
theorem dX9_cord_26 : decode cX9_cord 26 = .ok (.ireturn, 1) := by decide +kernel
theorem dX9_cord_27 : decode cX9_cord 27 = .ok (.aload_n 0, 1) := by decide +kernel
theorem dX9_cord_28 : decode cX9_cord 28 = .ok (.getfield 7, 3) := by decide +kernel
theorem dX9_cord_31 : decode cX9_cord 31 = .ok (.iconst 3, 1) := by decide +kernel
theorem dX9_cord_32 : decode cX9_cord 32 = .ok (.iaload, 1) := by decide +kernel
theorem dX9_cord_33 : decode cX9_cord 33 = .ok (.ifCond .le 6, 3) := by decide +kernel
theorem dX9_cord_36 : decode cX9_cord 36 = .ok (.bipush (-4), 2) := by decide +kernel
theorem dX9_cord_38 : decode cX9_cord 38 = .ok (.ireturn, 1) := by decide +kernel
theorem dX9_cord_39 : decode cX9_cord 39 = .ok (.aload_n 0, 1) := by decide +kernel
theorem dX9_cord_40 : decode cX9_cord 40 = .ok (.getfield 7, 3) := by decide +kernel
theorem dX9_cord_43 : decode cX9_cord 43 = .ok (.bipush 8, 2) := by decide +kernel
theorem dX9_cord_45 : decode cX9_cord 45 = .ok (.iload_n 1, 1) := by decide +kernel
theorem dX9_cord_46 : decode cX9_cord 46 = .ok (.iadd, 1) := by decide +kernel
theorem dX9_cord_47 : decode cX9_cord 47 = .ok (.iaload, 1) := by decide +kernel
theorem dX9_cord_48 : decode cX9_cord 48 = .ok (.iload_n 2, 1) := by decide +kernel
theorem dX9_cord_49 : decode cX9_cord 49 = .ok (.if_icmp .ne 6, 3) := by decide +kernel
theorem dX9_cord_52 : decode cX9_cord 52 = .ok (.bipush (-5), 2) := by decide +kernel
theorem dX9_cord_54 : decode cX9_cord 54 = .ok (.ireturn, 1) := by decide +kernel
theorem dX9_cord_55 : decode cX9_cord 55 = .ok (.aload_n 0, 1) := by decide +kernel
theorem dX9_cord_56 : decode cX9_cord 56 = .ok (.invokevirtual 61, 3) := by decide +kernel
theorem dX9_cord_59 : decode cX9_cord 59 = .ok (.aload_n 0, 1) := by decide +kernel
theorem dX9_cord_60 : decode cX9_cord 60 = .ok (.getfield 7, 3) := by decide +kernel
theorem dX9_cord_63 : decode cX9_cord 63 = .ok (.bipush 8, 2) := by decide +kernel
theorem dX9_cord_65 : decode cX9_cord 65 = .ok (.iload_n 1, 1) := by decide +kernel
theorem dX9_cord_66 : decode cX9_cord 66 = .ok (.iadd, 1) := by decide +kernel
theorem dX9_cord_67 : decode cX9_cord 67 = .ok (.iload_n 2, 1) := by decide +kernel
theorem dX9_cord_68 : decode cX9_cord 68 = .ok (.iastore, 1) := by decide +kernel
theorem dX9_cord_69 : decode cX9_cord 69 = .ok (.aload_n 0, 1) := by decide +kernel
theorem dX9_cord_70 : decode cX9_cord 70 = .ok (.invokevirtual 44, 3) := by decide +kernel
theorem dX9_cord_73 : decode cX9_cord 73 = .ok (.ireturn, 1) := by decide +kernel
set_option maxRecDepth 20000 in
theorem ggX9_isSetting_X9_in : GoodIn wsX9_isSetting wsX9_in := goodIn_r _ [4] (by decide +kernel) (by decide +kernel)
set_option maxRecDepth 20000 in
theorem gX9_isSetting_X9_in : GoodIn wsX9_isSetting (va_wsS RX9 57 yX9_in wsX9_in) := goodIn_app (goodIn_of _ (by decide +kernel)) ggX9_isSetting_X9_in
theorem dX9_isSetting_0 : decode cX9_isSetting 0 = .ok (.iload_n 0, 1) := by decide +kernel
theorem dX9_isSetting_1 : decode cX9_isSetting 1 = .ok (.ifCond .ne 13, 3) := by decide +kernel
theorem dX9_isSetting_4 : decode cX9_isSetting 4 = .ok (.iload_n 1, 1) := by decide +kernel
theorem dX9_isSetting_5 : decode cX9_isSetting 5 = .ok (.iconst 0, 1) := by decide +kernel
theorem dX9_isSetting_6 : decode cX9_isSetting 6 = .ok (.bipush 50, 2) := by decide +kernel
theorem dX9_isSetting_8 : decode cX9_isSetting 8 = .ok (.invokestatic 57, 3) := by decide +kernel
theorem dX9_isSetting_11 : decode cX9_isSetting 11 = .ok (.goto 55, 3) := by decide +kernel
theorem dX9_isSetting_14 : decode cX9_isSetting 14 = .ok (.iload_n 0, 1) := by decide +kernel
theorem dX9_isSetting_15 : decode cX9_isSetting 15 = .ok (.iconst 1, 1) := by decide +kernel
theorem dX9_isSetting_16 : decode cX9_isSetting 16 = .ok (.if_icmp .ne 14, 3) := by decide +kernel
theorem dX9_isSetting_19 : decode cX9_isSetting 19 = .ok (.iload_n 1, 1) := by decide +kernel
theorem dX9_isSetting_20 : decode cX9_isSetting 20 = .ok (.iconst 0, 1) := by decide +kernel
theorem dX9_isSetting_21 : decode cX9_isSetting 21 = .ok (.sipush 500, 3) := by decide +kernel
theorem dX9_isSetting_24 : decode cX9_isSetting 24 = .ok (.invokestatic 57, 3) := by decide +kernel
theorem dX9_isSetting_27 : decode cX9_isSetting 27 = .ok (.goto 39, 3) := by decide +kernel
theorem dX9_isSetting_30 : decode cX9_isSetting 30 = .ok (.iload_n 0, 1) := by decide +kernel
theorem dX9_isSetting_31 : decode cX9_isSetting 31 = .ok (.iconst 2, 1) := by decide +kernel
theorem dX9_isSetting_32 : decode cX9_isSetting 32 = .ok (.if_icmp .ne 14, 3) := by decide +kernel
theorem dX9_isSetting_35 : decode cX9_isSetting 35 = .ok (.iload_n 1, 1) := by decide +kernel
theorem dX9_isSetting_36 : decode cX9_isSetting 36 = .ok (.iconst 1, 1) := by decide +kernel
theorem dX9_isSetting_37 : decode cX9_isSetting 37 = .ok (.sipush 500, 3) := by decide +kernel
theorem dX9_isSetting_40 : decode cX9_isSetting 40 = .ok (.invokestatic 57, 3) := by decide +kernel
theorem dX9_isSetting_43 : decode cX9_isSetting 43 = .ok (.goto 23, 3) := by decide +kernel
theorem dX9_isSetting_46 : decode cX9_isSetting 46 = .ok (.iload_n 0, 1) := by decide +kernel
theorem dX9_isSetting_47 : decode cX9_isSetting 47 = .ok (.iconst 3, 1) := by decide +kernel
theorem dX9_isSetting_48 : decode cX9_isSetting 48 = .ok (.if_icmp .ne 17, 3) := by decide +kernel
theorem dX9_isSetting_51 : decode cX9_isSetting 51 = .ok (.iload_n 1, 1) := by decide +kernel
theorem dX9_isSetting_52 : decode cX9_isSetting 52 = .ok (.iconst 1, 1) := by decide +kernel
theorem dX9_isSetting_53 : decode cX9_isSetting 53 = .ok (.bipush 40, 2) := by decide +kernel
theorem dX9_isSetting_55 : decode cX9_isSetting 55 = .ok (.invokestatic 57, 3) := by decide +kernel
theorem dX9_isSetting_58 : decode cX9_isSetting 58 = .ok (.ifCond .eq 7, 3) := by decide +kernel
theorem dX9_isSetting_61 : decode cX9_isSetting 61 = .ok (.iconst 1, 1) := by decide +kernel
theorem dX9_isSetting_62 : decode cX9_isSetting 62 = .ok (.goto 4, 3) := by decide +kernel
theorem dX9_isSetting_65 : decode cX9_isSetting 65 = .ok (.iconst 0, 1) := by decide +kernel
theorem dX9_isSetting_66 : decode cX9_isSetting 66 = .ok (.ireturn, 1) := by decide +kernel
set_option maxRecDepth 20000 in
theorem ggX9_set_X9_isSetting : GoodIn wsX9_set wsX9_isSetting := goodIn_r _ [5, 6, 7, 4, 8] (by decide +kernel) (by decide +kernel)
set_option maxRecDepth 20000 in
theorem gX9_set_X9_isSetting : GoodIn wsX9_set (va_wsS RX9 67 yX9_isSetting wsX9_isSetting) := goodIn_app (goodIn_of _ (by decide +kernel)) ggX9_set_X9_isSetting
set_option maxRecDepth 20000 in
theorem ggX9_set_X9_record : GoodIn wsX9_set wsX9_record := goodIn_r _ [12, 13, 14, 1, 15, 16, 17, 18, 19, 20, 21, 22, 23, 24, 25] (by decide +kernel) (by decide +kernel)
set_option maxRecDepth 20000 in
theorem gX9_set_X9_record : GoodIn wsX9_set (wsV RX9 61 RX9 yX9_record wsX9_record) := goodIn_app (goodIn_of _ (by decide +kernel)) ggX9_set_X9_record
theorem dX9_set_0 : decode cX9_set 0 = .ok (.iload_n 1, 1) := by decide +kernel
theorem dX9_set_1 : decode cX9_set 1 = .ok (.iload_n 2, 1) := by decide +kernel
theorem dX9_set_2 : decode cX9_set 2 = .ok (.invokestatic 67, 3) := by decide +kernel
theorem dX9_set_5 : decode cX9_set 5 = .ok (.ifCond .ne 6, 3) := by decide +kernel
theorem dX9_set_8 : decode cX9_set 8 = .ok (.bipush (-2), 2) := by decide +kernel
theorem dX9_set_10 : decode cX9_set 10 = .ok (.ireturn, 1) := by decide +kernel
theorem dX9_set_11 : decode cX9_set 11 = .ok (.aload_n 0, 1) := by decide +kernel
theorem dX9_set_12 : decode cX9_set 12 = .ok (.getfield 7, 3) := by decide +kernel
theorem dX9_set_15 : decode cX9_set 15 = .ok (.bipush 12, 2) := by decide +kernel
theorem dX9_set_17 : decode cX9_set 17 = .ok (.iload_n 1, 1) := by decide +kernel
theorem dX9_set_18 : decode cX9_set 18 = .ok (.iadd, 1) := by decide +kernel
theorem dX9_set_19 : decode cX9_set 19 = .ok (.iaload, 1) := by decide +kernel
theorem dX9_set_20 : decode cX9_set 20 = .ok (.istore_n 3, 1) := by decide +kernel
theorem dX9_set_21 : decode cX9_set 21 = .ok (.iload_n 3, 1) := by decide +kernel
theorem dX9_set_22 : decode cX9_set 22 = .ok (.iload_n 2, 1) := by decide +kernel
theorem dX9_set_23 : decode cX9_set 23 = .ok (.if_icmp .ne 6, 3) := by decide +kernel
theorem dX9_set_26 : decode cX9_set 26 = .ok (.bipush (-5), 2) := by decide +kernel
theorem dX9_set_28 : decode cX9_set 28 = .ok (.ireturn, 1) := by decide +kernel
theorem dX9_set_29 : decode cX9_set 29 = .ok (.aload_n 0, 1) := by decide +kernel
theorem dX9_set_30 : decode cX9_set 30 = .ok (.invokevirtual 61, 3) := by decide +kernel
theorem dX9_set_33 : decode cX9_set 33 = .ok (.aload_n 0, 1) := by decide +kernel
theorem dX9_set_34 : decode cX9_set 34 = .ok (.getfield 7, 3) := by decide +kernel
theorem dX9_set_37 : decode cX9_set 37 = .ok (.bipush 12, 2) := by decide +kernel
theorem dX9_set_39 : decode cX9_set 39 = .ok (.iload_n 1, 1) := by decide +kernel
theorem dX9_set_40 : decode cX9_set 40 = .ok (.iadd, 1) := by decide +kernel
theorem dX9_set_41 : decode cX9_set 41 = .ok (.iload_n 2, 1) := by decide +kernel
theorem dX9_set_42 : decode cX9_set 42 = .ok (.iastore, 1) := by decide +kernel
theorem dX9_set_43 : decode cX9_set 43 = .ok (.iload_n 3, 1) := by decide +kernel
theorem dX9_set_44 : decode cX9_set 44 = .ok (.ireturn, 1) := by decide +kernel
set_option maxRecDepth 20000 in
theorem ggX9_swing_X9_in : GoodIn wsX9_swing wsX9_in := goodIn_r _ [5] (by decide +kernel) (by decide +kernel)
set_option maxRecDepth 20000 in
theorem gX9_swing_X9_in : GoodIn wsX9_swing (va_wsS RX9 57 yX9_in wsX9_in) := goodIn_app (goodIn_of _ (by decide +kernel)) ggX9_swing_X9_in
set_option maxRecDepth 20000 in
theorem ggX9_swing_X9_record : GoodIn wsX9_swing wsX9_record := goodIn_r _ [9, 10, 11, 1, 22, 23, 24, 25, 26, 27, 28, 29, 30, 31, 32] (by decide +kernel) (by decide +kernel)
set_option maxRecDepth 20000 in
theorem gX9_swing_X9_record : GoodIn wsX9_swing (wsV RX9 61 RX9 yX9_record wsX9_record) := goodIn_app (goodIn_of _ (by decide +kernel)) ggX9_swing_X9_record
set_option maxRecDepth 20000 in
theorem ggX9_swing_X9_swings : GoodIn wsX9_swing wsX9_swings := goodIn_r _ [15, 1, 16, 17, 18, 4, 19, 20, 21, 22, 23, 24, 25, 26, 27, 28, 29, 30, 31, 32] (by decide +kernel) (by decide +kernel)
set_option maxRecDepth 20000 in
theorem gX9_swing_X9_swings : GoodIn wsX9_swing (wsV RX9 71 RX9 yX9_swings wsX9_swings) := goodIn_app (goodIn_of _ (by decide +kernel)) ggX9_swing_X9_swings
theorem dX9_swing_0 : decode cX9_swing 0 = .ok (.iload_n 1, 1) := by decide +kernel
theorem dX9_swing_1 : decode cX9_swing 1 = .ok (.iconst 1, 1) := by decide +kernel
theorem dX9_swing_2 : decode cX9_swing 2 = .ok (.sipush 500, 3) := by decide +kernel
theorem dX9_swing_5 : decode cX9_swing 5 = .ok (.invokestatic 57, 3) := by decide +kernel
theorem dX9_swing_8 : decode cX9_swing 8 = .ok (.ifCond .ne 6, 3) := by decide +kernel
theorem dX9_swing_11 : decode cX9_swing 11 = .ok (.bipush (-2), 2) := by decide +kernel
theorem dX9_swing_13 : decode cX9_swing 13 = .ok (.ireturn, 1) := by decide +kernel
theorem dX9_swing_14 : decode cX9_swing 14 = .ok (.aload_n 0, 1) := by decide +kernel
theorem dX9_swing_15 : decode cX9_swing 15 = .ok (.getfield 7, 3) := by decide +kernel
theorem dX9_swing_18 : decode cX9_swing 18 = .ok (.iconst 3, 1) := by decide +kernel
theorem dX9_swing_19 : decode cX9_swing 19 = .ok (.iaload, 1) := by decide +kernel
theorem dX9_swing_20 : decode cX9_swing 20 = .ok (.ifCond .ne 6, 3) := by decide +kernel
theorem dX9_swing_23 : decode cX9_swing 23 = .ok (.bipush (-5), 2) := by decide +kernel
theorem dX9_swing_25 : decode cX9_swing 25 = .ok (.ireturn, 1) := by decide +kernel
theorem dX9_swing_26 : decode cX9_swing 26 = .ok (.aload_n 0, 1) := by decide +kernel
theorem dX9_swing_27 : decode cX9_swing 27 = .ok (.invokevirtual 61, 3) := by decide +kernel
theorem dX9_swing_30 : decode cX9_swing 30 = .ok (.aload_n 0, 1) := by decide +kernel
theorem dX9_swing_31 : decode cX9_swing 31 = .ok (.iload_n 1, 1) := by decide +kernel
theorem dX9_swing_32 : decode cX9_swing 32 = .ok (.invokevirtual 71, 3) := by decide +kernel
theorem dX9_swing_35 : decode cX9_swing 35 = .ok (.aload_n 0, 1) := by decide +kernel
theorem dX9_swing_36 : decode cX9_swing 36 = .ok (.getfield 7, 3) := by decide +kernel
theorem dX9_swing_39 : decode cX9_swing 39 = .ok (.iconst 3, 1) := by decide +kernel
theorem dX9_swing_40 : decode cX9_swing 40 = .ok (.iaload, 1) := by decide +kernel
theorem dX9_swing_41 : decode cX9_swing 41 = .ok (.ireturn, 1) := by decide +kernel
set_option maxRecDepth 20000 in
theorem ggX9_stop_X9_record : GoodIn wsX9_stop wsX9_record := goodIn_r _ [6, 7, 8, 1, 9, 10, 11, 12, 13, 14, 15, 16, 17, 18, 19] (by decide +kernel) (by decide +kernel)
set_option maxRecDepth 20000 in
theorem gX9_stop_X9_record : GoodIn wsX9_stop (wsV RX9 61 RX9 yX9_record wsX9_record) := goodIn_app (goodIn_of _ (by decide +kernel)) ggX9_stop_X9_record
theorem dX9_stop_0 : decode cX9_stop 0 = .ok (.aload_n 0, 1) := by decide +kernel
theorem dX9_stop_1 : decode cX9_stop 1 = .ok (.getfield 7, 3) := by decide +kernel
theorem dX9_stop_4 : decode cX9_stop 4 = .ok (.iconst 3, 1) := by decide +kernel
theorem dX9_stop_5 : decode cX9_stop 5 = .ok (.iaload, 1) := by decide +kernel
theorem dX9_stop_6 : decode cX9_stop 6 = .ok (.istore_n 1, 1) := by decide +kernel
theorem dX9_stop_7 : decode cX9_stop 7 = .ok (.iload_n 1, 1) := by decide +kernel
theorem dX9_stop_8 : decode cX9_stop 8 = .ok (.ifCond .ne 6, 3) := by decide +kernel
theorem dX9_stop_11 : decode cX9_stop 11 = .ok (.bipush (-5), 2) := by decide +kernel
theorem dX9_stop_13 : decode cX9_stop 13 = .ok (.ireturn, 1) := by decide +kernel
theorem dX9_stop_14 : decode cX9_stop 14 = .ok (.aload_n 0, 1) := by decide +kernel
theorem dX9_stop_15 : decode cX9_stop 15 = .ok (.invokevirtual 61, 3) := by decide +kernel
theorem dX9_stop_18 : decode cX9_stop 18 = .ok (.aload_n 0, 1) := by decide +kernel
theorem dX9_stop_19 : decode cX9_stop 19 = .ok (.getfield 7, 3) := by decide +kernel
theorem dX9_stop_22 : decode cX9_stop 22 = .ok (.iconst 3, 1) := by decide +kernel
theorem dX9_stop_23 : decode cX9_stop 23 = .ok (.iconst 0, 1) := by decide +kernel
theorem dX9_stop_24 : decode cX9_stop 24 = .ok (.iastore, 1) := by decide +kernel
theorem dX9_stop_25 : decode cX9_stop 25 = .ok (.iload_n 1, 1) := by decide +kernel
theorem dX9_stop_26 : decode cX9_stop 26 = .ok (.ireturn, 1) := by decide +kernel
theorem dX9_lines_0 : decode cX9_lines 0 = .ok (.aload_n 0, 1) := by decide +kernel
theorem dX9_lines_1 : decode cX9_lines 1 = .ok (.getfield 7, 3) := by decide +kernel
theorem dX9_lines_4 : decode cX9_lines 4 = .ok (.bipush 28, 2) := by decide +kernel
theorem dX9_lines_6 : decode cX9_lines 6 = .ok (.iconst 2, 1) := by decide +kernel
theorem dX9_lines_7 : decode cX9_lines 7 = .ok (.aload_n 0, 1) := by decide +kernel
theorem dX9_lines_8 : decode cX9_lines 8 = .ok (.getfield 7, 3) := by decide +kernel
theorem dX9_lines_11 : decode cX9_lines 11 = .ok (.bipush 27, 2) := by decide +kernel
theorem dX9_lines_13 : decode cX9_lines 13 = .ok (.iaload, 1) := by decide +kernel
theorem dX9_lines_14 : decode cX9_lines 14 = .ok (.imul, 1) := by decide +kernel
theorem dX9_lines_15 : decode cX9_lines 15 = .ok (.iadd, 1) := by decide +kernel
theorem dX9_lines_16 : decode cX9_lines 16 = .ok (.iload_n 1, 1) := by decide +kernel
theorem dX9_lines_17 : decode cX9_lines 17 = .ok (.iastore, 1) := by decide +kernel
theorem dX9_lines_18 : decode cX9_lines 18 = .ok (.aload_n 0, 1) := by decide +kernel
theorem dX9_lines_19 : decode cX9_lines 19 = .ok (.getfield 7, 3) := by decide +kernel
theorem dX9_lines_22 : decode cX9_lines 22 = .ok (.bipush 28, 2) := by decide +kernel
theorem dX9_lines_24 : decode cX9_lines 24 = .ok (.iconst 2, 1) := by decide +kernel
theorem dX9_lines_25 : decode cX9_lines 25 = .ok (.aload_n 0, 1) := by decide +kernel
theorem dX9_lines_26 : decode cX9_lines 26 = .ok (.getfield 7, 3) := by decide +kernel
theorem dX9_lines_29 : decode cX9_lines 29 = .ok (.bipush 27, 2) := by decide +kernel
theorem dX9_lines_31 : decode cX9_lines 31 = .ok (.iaload, 1) := by decide +kernel
theorem dX9_lines_32 : decode cX9_lines 32 = .ok (.imul, 1) := by decide +kernel
theorem dX9_lines_33 : decode cX9_lines 33 = .ok (.iadd, 1) := by decide +kernel
theorem dX9_lines_34 : decode cX9_lines 34 = .ok (.iconst 1, 1) := by decide +kernel
theorem dX9_lines_35 : decode cX9_lines 35 = .ok (.iadd, 1) := by decide +kernel
theorem dX9_lines_36 : decode cX9_lines 36 = .ok (.iload_n 2, 1) := by decide +kernel
theorem dX9_lines_37 : decode cX9_lines 37 = .ok (.iastore, 1) := by decide +kernel
theorem dX9_lines_38 : decode cX9_lines 38 = .ok (.aload_n 0, 1) := by decide +kernel
theorem dX9_lines_39 : decode cX9_lines 39 = .ok (.getfield 7, 3) := by decide +kernel
theorem dX9_lines_42 : decode cX9_lines 42 = .ok (.bipush 27, 2) := by decide +kernel
theorem dX9_lines_44 : decode cX9_lines 44 = .ok (.dup2, 1) := by decide +kernel
theorem dX9_lines_45 : decode cX9_lines 45 = .ok (.iaload, 1) := by decide +kernel
theorem dX9_lines_46 : decode cX9_lines 46 = .ok (.iconst 1, 1) := by decide +kernel
theorem dX9_lines_47 : decode cX9_lines 47 = .ok (.iadd, 1) := by decide +kernel
theorem dX9_lines_48 : decode cX9_lines 48 = .ok (.iastore, 1) := by decide +kernel
theorem dX9_lines_49 : decode cX9_lines 49 = .ok (.return_, 1) := by decide +kernel
set_option maxRecDepth 20000 in
theorem ggX9_load_X9_in : GoodIn wsX9_load wsX9_in := goodIn_r _ [5] (by decide +kernel) (by decide +kernel)
set_option maxRecDepth 20000 in
theorem gX9_load_X9_in : GoodIn wsX9_load (va_wsS RX9 57 yX9_in wsX9_in) := goodIn_app (goodIn_of _ (by decide +kernel)) ggX9_load_X9_in
set_option maxRecDepth 20000 in
theorem ggX9_load_X9_record : GoodIn wsX9_load wsX9_record := goodIn_r _ [9, 10, 11, 1, 16, 17, 18, 19, 20, 21, 22, 23, 24, 25, 26] (by decide +kernel) (by decide +kernel)
set_option maxRecDepth 20000 in
theorem gX9_load_X9_record : GoodIn wsX9_load (wsV RX9 61 RX9 yX9_record wsX9_record) := goodIn_app (goodIn_of _ (by decide +kernel)) ggX9_load_X9_record
set_option maxRecDepth 20000 in
theorem ggX9_load_X9_lines : GoodIn wsX9_load wsX9_lines := goodIn_r _ [15, 1, 16, 17, 18, 19, 20, 21, 22, 23, 24, 25, 26] (by decide +kernel) (by decide +kernel)
set_option maxRecDepth 20000 in
theorem gX9_load_X9_lines : GoodIn wsX9_load (wsV RX9 75 RX9 yX9_lines wsX9_lines) := goodIn_app (goodIn_of _ (by decide +kernel)) ggX9_load_X9_lines
theorem dX9_load_0 : decode cX9_load 0 = .ok (.iload_n 1, 1) := by decide +kernel
theorem dX9_load_1 : decode cX9_load 1 = .ok (.bipush 10, 2) := by decide +kernel
theorem dX9_load_3 : decode cX9_load 3 = .ok (.sipush 2000, 3) := by decide +kernel
theorem dX9_load_6 : decode cX9_load 6 = .ok (.invokestatic 57, 3) := by decide +kernel
theorem dX9_load_9 : decode cX9_load 9 = .ok (.ifCond .eq 15, 3) := by decide +kernel
theorem dX9_load_12 : decode cX9_load 12 = .ok (.iload_n 2, 1) := by decide +kernel
theorem dX9_load_13 : decode cX9_load 13 = .ok (.bipush 50, 2) := by decide +kernel
theorem dX9_load_15 : decode cX9_load 15 = .ok (.sipush 900, 3) := by decide +kernel
theorem dX9_load_18 : decode cX9_load 18 = .ok (.invokestatic 57, 3) := by decide +kernel
theorem dX9_load_21 : decode cX9_load 21 = .ok (.ifCond .ne 6, 3) := by decide +kernel
theorem dX9_load_24 : decode cX9_load 24 = .ok (.bipush (-2), 2) := by decide +kernel
theorem dX9_load_26 : decode cX9_load 26 = .ok (.ireturn, 1) := by decide +kernel
theorem dX9_load_27 : decode cX9_load 27 = .ok (.aload_n 0, 1) := by decide +kernel
theorem dX9_load_28 : decode cX9_load 28 = .ok (.getfield 7, 3) := by decide +kernel
theorem dX9_load_31 : decode cX9_load 31 = .ok (.bipush 27, 2) := by decide +kernel
theorem dX9_load_33 : decode cX9_load 33 = .ok (.iaload, 1) := by decide +kernel
theorem dX9_load_34 : decode cX9_load 34 = .ok (.bipush 20, 2) := by decide +kernel
theorem dX9_load_36 : decode cX9_load 36 = .ok (.if_icmp .ne 6, 3) := by decide +kernel
theorem dX9_load_39 : decode cX9_load 39 = .ok (.bipush (-3), 2) := by decide +kernel
theorem dX9_load_41 : decode cX9_load 41 = .ok (.ireturn, 1) := by decide +kernel
theorem dX9_load_42 : decode cX9_load 42 = .ok (.aload_n 0, 1) := by decide +kernel
theorem dX9_load_43 : decode cX9_load 43 = .ok (.invokevirtual 61, 3) := by decide +kernel
theorem dX9_load_46 : decode cX9_load 46 = .ok (.aload_n 0, 1) := by decide +kernel
theorem dX9_load_47 : decode cX9_load 47 = .ok (.iload_n 1, 1) := by decide +kernel
theorem dX9_load_48 : decode cX9_load 48 = .ok (.iload_n 2, 1) := by decide +kernel
theorem dX9_load_49 : decode cX9_load 49 = .ok (.invokevirtual 75, 3) := by decide +kernel
theorem dX9_load_52 : decode cX9_load 52 = .ok (.aload_n 0, 1) := by decide +kernel
theorem dX9_load_53 : decode cX9_load 53 = .ok (.getfield 7, 3) := by decide +kernel
theorem dX9_load_56 : decode cX9_load 56 = .ok (.bipush 27, 2) := by decide +kernel
theorem dX9_load_58 : decode cX9_load 58 = .ok (.iaload, 1) := by decide +kernel
theorem dX9_load_59 : decode cX9_load 59 = .ok (.ireturn, 1) := by decide +kernel
theorem dX9_isSign_0 : decode cX9_isSign 0 = .ok (.iload_n 1, 1) := by decide +kernel
theorem dX9_isSign_1 : decode cX9_isSign 1 = .ok (.aload_n 0, 1) := by decide +kernel
theorem dX9_isSign_2 : decode cX9_isSign 2 = .ok (.getfield 79, 3) := by decide +kernel
theorem dX9_isSign_5 : decode cX9_isSign 5 = .ok (.if_icmp .ge 27, 3) := by decide +kernel
theorem dX9_isSign_8 : decode cX9_isSign 8 = .ok (.aload_n 0, 1) := by decide +kernel
theorem dX9_isSign_9 : decode cX9_isSign 9 = .ok (.getfield 22, 3) := by decide +kernel
theorem dX9_isSign_12 : decode cX9_isSign 12 = .ok (.iload_n 1, 1) := by decide +kernel
theorem dX9_isSign_13 : decode cX9_isSign 13 = .ok (.caload, 1) := by decide +kernel
theorem dX9_isSign_14 : decode cX9_isSign 14 = .ok (.iload_n 2, 1) := by decide +kernel
theorem dX9_isSign_15 : decode cX9_isSign 15 = .ok (.if_icmp .lt 17, 3) := by decide +kernel
theorem dX9_isSign_18 : decode cX9_isSign 18 = .ok (.aload_n 0, 1) := by decide +kernel
theorem dX9_isSign_19 : decode cX9_isSign 19 = .ok (.getfield 22, 3) := by decide +kernel
theorem dX9_isSign_22 : decode cX9_isSign 22 = .ok (.iload_n 1, 1) := by decide +kernel
theorem dX9_isSign_23 : decode cX9_isSign 23 = .ok (.caload, 1) := by decide +kernel
theorem dX9_isSign_24 : decode cX9_isSign 24 = .ok (.iload_n 3, 1) := by decide +kernel
theorem dX9_isSign_25 : decode cX9_isSign 25 = .ok (.if_icmp .gt 7, 3) := by decide +kernel
theorem dX9_isSign_28 : decode cX9_isSign 28 = .ok (.iconst 1, 1) := by decide +kernel
theorem dX9_isSign_29 : decode cX9_isSign 29 = .ok (.goto 4, 3) := by decide +kernel
theorem dX9_isSign_32 : decode cX9_isSign 32 = .ok (.iconst 0, 1) := by decide +kernel
theorem dX9_isSign_33 : decode cX9_isSign 33 = .ok (.ireturn, 1) := by decide +kernel
