set_option maxRecDepth 20000 in
theorem ggX9_number_X9_isSign : GoodIn wsX9_number wsX9_isSign := goodIn_r _ [7, 8, 2, 9, 10, 11, 12, 13, 14, 15, 16, 17, 18, 19] (by decide +kernel) (by decide +kernel)
set_option maxRecDepth 20000 in
theorem gX9_number_X9_isSign : GoodIn wsX9_number (wsV RX9 85 RX9 yX9_isSign wsX9_isSign) := goodIn_app (goodIn_of _ (by decide +kernel)) ggX9_number_X9_isSign
theorem dX9_number_0 : decode cX9_number 0 = .ok (.aload_n 0, 1) := by decide +kernel
theorem dX9_number_1 : decode cX9_number 1 = .ok (.aload_n 0, 1) := by decide +kernel
theorem dX9_number_2 : decode cX9_number 2 = .ok (.getfield 82, 3) := by decide +kernel
theorem dX9_number_5 : decode cX9_number 5 = .ok (.bipush 49, 2) := by decide +kernel
theorem dX9_number_7 : decode cX9_number 7 = .ok (.bipush 57, 2) := by decide +kernel
theorem dX9_number_9 : decode cX9_number 9 = .ok (.invokevirtual 85, 3) := by decide +kernel
theorem dX9_number_12 : decode cX9_number 12 = .ok (.ifCond .ne 5, 3) := by decide +kernel
theorem dX9_number_15 : decode cX9_number 15 = .ok (.iconst (-1), 1) := by decide +kernel
theorem dX9_number_16 : decode cX9_number 16 = .ok (.ireturn, 1) := by decide +kernel
theorem dX9_number_17 : decode cX9_number 17 = .ok (.iconst 0, 1) := by decide +kernel
theorem dX9_number_18 : decode cX9_number 18 = .ok (.istore_n 3, 1) := by decide +kernel
theorem dX9_number_19 : decode cX9_number 19 = .ok (.aload_n 0, 1) := by decide +kernel
theorem dX9_number_20 : decode cX9_number 20 = .ok (.aload_n 0, 1) := by decide +kernel
theorem dX9_number_21 : decode cX9_number 21 = .ok (.getfield 82, 3) := by decide +kernel
theorem dX9_number_24 : decode cX9_number 24 = .ok (.bipush 48, 2) := by decide +kernel
theorem dX9_number_26 : decode cX9_number 26 = .ok (.bipush 57, 2) := by decide +kernel
theorem dX9_number_28 : decode cX9_number 28 = .ok (.invokevirtual 85, 3) := by decide +kernel
theorem dX9_number_31 : decode cX9_number 31 = .ok (.ifCond .eq 55, 3) := by decide +kernel
theorem dX9_number_34 : decode cX9_number 34 = .ok (.bipush 10, 2) := by decide +kernel
theorem dX9_number_36 : decode cX9_number 36 = .ok (.iload_n 3, 1) := by decide +kernel
theorem dX9_number_37 : decode cX9_number 37 = .ok (.imul, 1) := by decide +kernel
theorem dX9_number_38 : decode cX9_number 38 = .ok (.aload_n 0, 1) := by decide +kernel
theorem dX9_number_39 : decode cX9_number 39 = .ok (.getfield 22, 3) := by decide +kernel
theorem dX9_number_42 : decode cX9_number 42 = .ok (.aload_n 0, 1) := by decide +kernel
theorem dX9_number_43 : decode cX9_number 43 = .ok (.getfield 82, 3) := by decide +kernel
theorem dX9_number_46 : decode cX9_number 46 = .ok (.caload, 1) := by decide +kernel
theorem dX9_number_47 : decode cX9_number 47 = .ok (.iadd, 1) := by decide +kernel
theorem dX9_number_48 : decode cX9_number 48 = .ok (.bipush 48, 2) := by decide +kernel
theorem dX9_number_50 : decode cX9_number 50 = .ok (.isub, 1) := by decide +kernel
theorem dX9_number_51 : decode cX9_number 51 = .ok (.iload_n 2, 1) := by decide +kernel
theorem dX9_number_52 : decode cX9_number 52 = .ok (.if_icmp .gt 34, 3) := by decide +kernel
theorem dX9_number_55 : decode cX9_number 55 = .ok (.bipush 10, 2) := by decide +kernel
theorem dX9_number_57 : decode cX9_number 57 = .ok (.iload_n 3, 1) := by decide +kernel
theorem dX9_number_58 : decode cX9_number 58 = .ok (.imul, 1) := by decide +kernel
theorem dX9_number_59 : decode cX9_number 59 = .ok (.aload_n 0, 1) := by decide +kernel
theorem dX9_number_60 : decode cX9_number 60 = .ok (.getfield 22, 3) := by decide +kernel
theorem dX9_number_63 : decode cX9_number 63 = .ok (.aload_n 0, 1) := by decide +kernel
theorem dX9_number_64 : decode cX9_number 64 = .ok (.getfield 82, 3) := by decide +kernel
theorem dX9_number_67 : decode cX9_number 67 = .ok (.caload, 1) := by decide +kernel
theorem dX9_number_68 : decode cX9_number 68 = .ok (.iadd, 1) := by decide +kernel
theorem dX9_number_69 : decode cX9_number 69 = .ok (.bipush 48, 2) := by decide +kernel
theorem dX9_number_71 : decode cX9_number 71 = .ok (.isub, 1) := by decide +kernel
theorem dX9_number_72 : decode cX9_number 72 = .ok (.istore_n 3, 1) := by decide +kernel
theorem dX9_number_73 : decode cX9_number 73 = .ok (.aload_n 0, 1) := by decide +kernel
theorem dX9_number_74 : decode cX9_number 74 = .ok (.dup, 1) := by decide +kernel
theorem dX9_number_75 : decode cX9_number 75 = .ok (.getfield 82, 3) := by decide +kernel
theorem dX9_number_78 : decode cX9_number 78 = .ok (.iconst 1, 1) := by decide +kernel
theorem dX9_number_79 : decode cX9_number 79 = .ok (.iadd, 1) := by decide +kernel
theorem dX9_number_80 : decode cX9_number 80 = .ok (.putfield 82, 3) := by decide +kernel
theorem dX9_number_83 : decode cX9_number 83 = .ok (.goto (-64), 3) := by decide +kernel
theorem dX9_number_86 : decode cX9_number 86 = .ok (.iload_n 3, 1) := by decide +kernel
theorem dX9_number_87 : decode cX9_number 87 = .ok (.iload_n 1, 1) := by decide +kernel
theorem dX9_number_88 : decode cX9_number 88 = .ok (.if_icmp .ge 7, 3) := by decide +kernel
theorem dX9_number_91 : decode cX9_number 91 = .ok (.iconst (-1), 1) := by decide +kernel
theorem dX9_number_92 : decode cX9_number 92 = .ok (.goto 4, 3) := by decide +kernel
theorem dX9_number_95 : decode cX9_number 95 = .ok (.iload_n 3, 1) := by decide +kernel
theorem dX9_number_96 : decode cX9_number 96 = .ok (.ireturn, 1) := by decide +kernel
set_option maxRecDepth 20000 in
theorem ggX9_accepts_X9_isSign : GoodIn wsX9_accepts wsX9_isSign := goodIn_r _ [6, 7, 8, 9, 10, 11, 12, 13, 14, 15, 16, 17, 18, 19] (by decide +kernel) (by decide +kernel)
set_option maxRecDepth 20000 in
theorem gX9_accepts_X9_isSign : GoodIn wsX9_accepts (wsV RX9 85 RX9 yX9_isSign wsX9_isSign) := goodIn_app (goodIn_of _ (by decide +kernel)) ggX9_accepts_X9_isSign
theorem dX9_accepts_0 : decode cX9_accepts 0 = .ok (.aload_n 0, 1) := by decide +kernel
theorem dX9_accepts_1 : decode cX9_accepts 1 = .ok (.aload_n 0, 1) := by decide +kernel
theorem dX9_accepts_2 : decode cX9_accepts 2 = .ok (.getfield 82, 3) := by decide +kernel
theorem dX9_accepts_5 : decode cX9_accepts 5 = .ok (.iload_n 1, 1) := by decide +kernel
theorem dX9_accepts_6 : decode cX9_accepts 6 = .ok (.iload_n 1, 1) := by decide +kernel
theorem dX9_accepts_7 : decode cX9_accepts 7 = .ok (.invokevirtual 85, 3) := by decide +kernel
theorem dX9_accepts_10 : decode cX9_accepts 10 = .ok (.istore_n 2, 1) := by decide +kernel
theorem dX9_accepts_11 : decode cX9_accepts 11 = .ok (.aload_n 0, 1) := by decide +kernel
theorem dX9_accepts_12 : decode cX9_accepts 12 = .ok (.dup, 1) := by decide +kernel
theorem dX9_accepts_13 : decode cX9_accepts 13 = .ok (.getfield 82, 3) := by decide +kernel
theorem dX9_accepts_16 : decode cX9_accepts 16 = .ok (.iload_n 2, 1) := by decide +kernel
theorem dX9_accepts_17 : decode cX9_accepts 17 = .ok (.ifCond .eq 7, 3) := by decide +kernel
theorem dX9_accepts_20 : decode cX9_accepts 20 = .ok (.iconst 1, 1) := by decide +kernel
theorem dX9_accepts_21 : decode cX9_accepts 21 = .ok (.goto 4, 3) := by decide +kernel
theorem dX9_accepts_24 : decode cX9_accepts 24 = .ok (.iconst 0, 1) := by decide +kernel
theorem dX9_accepts_25 : decode cX9_accepts 25 = .ok (.iadd, 1) := by decide +kernel
theorem dX9_accepts_26 : decode cX9_accepts 26 = .ok (.putfield 82, 3) := by decide +kernel
theorem dX9_accepts_29 : decode cX9_accepts 29 = .ok (.iload_n 2, 1) := by decide +kernel
theorem dX9_accepts_30 : decode cX9_accepts 30 = .ok (.ireturn, 1) := by decide +kernel
set_option maxRecDepth 20000 in
theorem ggX9_readsShots_X9_number : GoodIn wsX9_readsShots wsX9_number := goodIn_r _ [10, 1, 2, 11, 12, 13, 9, 14, 15, 20, 21, 22, 23, 24, 25, 26, 27, 28, 29, 30] (by decide +kernel) (by decide +kernel)
set_option maxRecDepth 20000 in
theorem gX9_readsShots_X9_number : GoodIn wsX9_readsShots (wsV RX9 89 RX9 yX9_number wsX9_number) := goodIn_app (goodIn_of _ (by decide +kernel)) ggX9_readsShots_X9_number
set_option maxRecDepth 20000 in
theorem ggX9_readsShots_X9_accepts : GoodIn wsX9_readsShots wsX9_accepts := goodIn_r _ [19, 1, 11, 12, 13, 9, 14, 15, 2, 20, 21, 22, 23, 24, 25, 26, 27, 28, 29, 30] (by decide +kernel) (by decide +kernel)
set_option maxRecDepth 20000 in
theorem gX9_readsShots_X9_accepts : GoodIn wsX9_readsShots (wsV RX9 93 RX9 yX9_accepts wsX9_accepts) := goodIn_app (goodIn_of _ (by decide +kernel)) ggX9_readsShots_X9_accepts
set_option maxRecDepth 20000 in
theorem ggX9_readsShots_X9_isSign : GoodIn wsX9_readsShots wsX9_isSign := goodIn_r _ [14, 15, 2, 20, 21, 22, 23, 24, 25, 26, 27, 28, 29, 30] (by decide +kernel) (by decide +kernel)
set_option maxRecDepth 20000 in
theorem gX9_readsShots_X9_isSign : GoodIn wsX9_readsShots (wsV RX9 85 RX9 yX9_isSign wsX9_isSign) := goodIn_app (goodIn_of _ (by decide +kernel)) ggX9_readsShots_X9_isSign
theorem dX9_readsShots_0 : decode cX9_readsShots 0 = .ok (.aload_n 0, 1) := by decide +kernel
theorem dX9_readsShots_1 : decode cX9_readsShots 1 = .ok (.iconst 1, 1) := by decide +kernel
theorem dX9_readsShots_2 : decode cX9_readsShots 2 = .ok (.sipush 200, 3) := by decide +kernel
theorem dX9_readsShots_5 : decode cX9_readsShots 5 = .ok (.invokevirtual 89, 3) := by decide +kernel
theorem dX9_readsShots_8 : decode cX9_readsShots 8 = .ok (.istore_n 1, 1) := by decide +kernel
theorem dX9_readsShots_9 : decode cX9_readsShots 9 = .ok (.iload_n 1, 1) := by decide +kernel
theorem dX9_readsShots_10 : decode cX9_readsShots 10 = .ok (.ifCond .ge 5, 3) := by decide +kernel
theorem dX9_readsShots_13 : decode cX9_readsShots 13 = .ok (.iconst 0, 1) := by decide +kernel
theorem dX9_readsShots_14 : decode cX9_readsShots 14 = .ok (.ireturn, 1) := by decide +kernel
theorem dX9_readsShots_15 : decode cX9_readsShots 15 = .ok (.iconst 0, 1) := by decide +kernel
theorem dX9_readsShots_16 : decode cX9_readsShots 16 = .ok (.istore_n 2, 1) := by decide +kernel
theorem dX9_readsShots_17 : decode cX9_readsShots 17 = .ok (.aload_n 0, 1) := by decide +kernel
theorem dX9_readsShots_18 : decode cX9_readsShots 18 = .ok (.bipush 46, 2) := by decide +kernel
theorem dX9_readsShots_20 : decode cX9_readsShots 20 = .ok (.invokevirtual 93, 3) := by decide +kernel
theorem dX9_readsShots_23 : decode cX9_readsShots 23 = .ok (.ifCond .eq 55, 3) := by decide +kernel
theorem dX9_readsShots_26 : decode cX9_readsShots 26 = .ok (.aload_n 0, 1) := by decide +kernel
theorem dX9_readsShots_27 : decode cX9_readsShots 27 = .ok (.aload_n 0, 1) := by decide +kernel
theorem dX9_readsShots_28 : decode cX9_readsShots 28 = .ok (.getfield 82, 3) := by decide +kernel
theorem dX9_readsShots_31 : decode cX9_readsShots 31 = .ok (.bipush 48, 2) := by decide +kernel
theorem dX9_readsShots_33 : decode cX9_readsShots 33 = .ok (.iload_n 1, 1) := by decide +kernel
theorem dX9_readsShots_34 : decode cX9_readsShots 34 = .ok (.sipush 200, 3) := by decide +kernel
theorem dX9_readsShots_37 : decode cX9_readsShots 37 = .ok (.if_icmp .ne 8, 3) := by decide +kernel
theorem dX9_readsShots_40 : decode cX9_readsShots 40 = .ok (.bipush 48, 2) := by decide +kernel
theorem dX9_readsShots_42 : decode cX9_readsShots 42 = .ok (.goto 5, 3) := by decide +kernel
theorem dX9_readsShots_45 : decode cX9_readsShots 45 = .ok (.bipush 57, 2) := by decide +kernel
theorem dX9_readsShots_47 : decode cX9_readsShots 47 = .ok (.invokevirtual 85, 3) := by decide +kernel
theorem dX9_readsShots_50 : decode cX9_readsShots 50 = .ok (.ifCond .ne 5, 3) := by decide +kernel
theorem dX9_readsShots_53 : decode cX9_readsShots 53 = .ok (.iconst 0, 1) := by decide +kernel
theorem dX9_readsShots_54 : decode cX9_readsShots 54 = .ok (.ireturn, 1) := by decide +kernel
theorem dX9_readsShots_55 : decode cX9_readsShots 55 = .ok (.aload_n 0, 1) := by decide +kernel
theorem dX9_readsShots_56 : decode cX9_readsShots 56 = .ok (.getfield 22, 3) := by decide +kernel
theorem dX9_readsShots_59 : decode cX9_readsShots 59 = .ok (.aload_n 0, 1) := by decide +kernel
theorem dX9_readsShots_60 : decode cX9_readsShots 60 = .ok (.getfield 82, 3) := by decide +kernel
theorem dX9_readsShots_63 : decode cX9_readsShots 63 = .ok (.caload, 1) := by decide +kernel
theorem dX9_readsShots_64 : decode cX9_readsShots 64 = .ok (.bipush 48, 2) := by decide +kernel
theorem dX9_readsShots_66 : decode cX9_readsShots 66 = .ok (.isub, 1) := by decide +kernel
theorem dX9_readsShots_67 : decode cX9_readsShots 67 = .ok (.istore_n 2, 1) := by decide +kernel
theorem dX9_readsShots_68 : decode cX9_readsShots 68 = .ok (.aload_n 0, 1) := by decide +kernel
theorem dX9_readsShots_69 : decode cX9_readsShots 69 = .ok (.dup, 1) := by decide +kernel
theorem dX9_readsShots_70 : decode cX9_readsShots 70 = .ok (.getfield 82, 3) := by decide +kernel
theorem dX9_readsShots_73 : decode cX9_readsShots 73 = .ok (.iconst 1, 1) := by decide +kernel
theorem dX9_readsShots_74 : decode cX9_readsShots 74 = .ok (.iadd, 1) := by decide +kernel
theorem dX9_readsShots_75 : decode cX9_readsShots 75 = .ok (.putfield 82, 3) := by decide +kernel
theorem dX9_readsShots_78 : decode cX9_readsShots 78 = .ok (.aload_n 0, 1) := by decide +kernel
theorem dX9_readsShots_79 : decode cX9_readsShots 79 = .ok (.bipush 64, 2) := by decide +kernel
theorem dX9_readsShots_81 : decode cX9_readsShots 81 = .ok (.invokevirtual 93, 3) := by decide +kernel
theorem dX9_readsShots_84 : decode cX9_readsShots 84 = .ok (.ifCond .ne 5, 3) := by decide +kernel
theorem dX9_readsShots_87 : decode cX9_readsShots 87 = .ok (.iconst 0, 1) := by decide +kernel
theorem dX9_readsShots_88 : decode cX9_readsShots 88 = .ok (.ireturn, 1) := by decide +kernel
theorem dX9_readsShots_89 : decode cX9_readsShots 89 = .ok (.aload_n 0, 1) := by decide +kernel
theorem dX9_readsShots_90 : decode cX9_readsShots 90 = .ok (.bipush 50, 2) := by decide +kernel
theorem dX9_readsShots_92 : decode cX9_readsShots 92 = .ok (.sipush 900, 3) := by decide +kernel
theorem dX9_readsShots_95 : decode cX9_readsShots 95 = .ok (.invokevirtual 89, 3) := by decide +kernel
theorem dX9_readsShots_98 : decode cX9_readsShots 98 = .ok (.istore_n 3, 1) := by decide +kernel
theorem dX9_readsShots_99 : decode cX9_readsShots 99 = .ok (.iload_n 3, 1) := by decide +kernel
theorem dX9_readsShots_100 : decode cX9_readsShots 100 = .ok (.ifCond .ge 5, 3) := by decide +kernel
theorem dX9_readsShots_103 : decode cX9_readsShots 103 = .ok (.iconst 0, 1) := by decide +kernel
theorem dX9_readsShots_104 : decode cX9_readsShots 104 = .ok (.ireturn, 1) := by decide +kernel
theorem dX9_readsShots_105 : decode cX9_readsShots 105 = .ok (.aload_n 0, 1) := by decide +kernel
theorem dX9_readsShots_106 : decode cX9_readsShots 106 = .ok (.bipush 120, 2) := by decide +kernel
theorem dX9_readsShots_108 : decode cX9_readsShots 108 = .ok (.invokevirtual 93, 3) := by decide +kernel
theorem dX9_readsShots_111 : decode cX9_readsShots 111 = .ok (.ifCond .eq 13, 3) := by decide +kernel
theorem dX9_readsShots_114 : decode cX9_readsShots 114 = .ok (.aload_n 0, 1) := by decide +kernel
theorem dX9_readsShots_115 : decode cX9_readsShots 115 = .ok (.iconst 2, 1) := by decide +kernel
theorem dX9_readsShots_116 : decode cX9_readsShots 116 = .ok (.bipush 9, 2) := by decide +kernel
theorem dX9_readsShots_118 : decode cX9_readsShots 118 = .ok (.invokevirtual 89, 3) := by decide +kernel
theorem dX9_readsShots_121 : decode cX9_readsShots 121 = .ok (.goto 4, 3) := by decide +kernel
theorem dX9_readsShots_124 : decode cX9_readsShots 124 = .ok (.iconst 1, 1) := by decide +kernel
theorem dX9_readsShots_125 : decode cX9_readsShots 125 = .ok (.istore 4, 2) := by decide +kernel
theorem dX9_readsShots_127 : decode cX9_readsShots 127 = .ok (.iload 4, 2) := by decide +kernel
theorem dX9_readsShots_129 : decode cX9_readsShots 129 = .ok (.ifCond .ge 5, 3) := by decide +kernel
theorem dX9_readsShots_132 : decode cX9_readsShots 132 = .ok (.iconst 0, 1) := by decide +kernel
theorem dX9_readsShots_133 : decode cX9_readsShots 133 = .ok (.ireturn, 1) := by decide +kernel
theorem dX9_readsShots_134 : decode cX9_readsShots 134 = .ok (.aload_n 0, 1) := by decide +kernel
theorem dX9_readsShots_135 : decode cX9_readsShots 135 = .ok (.getfield 19, 3) := by decide +kernel
theorem dX9_readsShots_138 : decode cX9_readsShots 138 = .ok (.iconst 3, 1) := by decide +kernel
theorem dX9_readsShots_139 : decode cX9_readsShots 139 = .ok (.aload_n 0, 1) := by decide +kernel
theorem dX9_readsShots_140 : decode cX9_readsShots 140 = .ok (.getfield 97, 3) := by decide +kernel
theorem dX9_readsShots_143 : decode cX9_readsShots 143 = .ok (.imul, 1) := by decide +kernel
theorem dX9_readsShots_144 : decode cX9_readsShots 144 = .ok (.bipush 10, 2) := by decide +kernel
theorem dX9_readsShots_146 : decode cX9_readsShots 146 = .ok (.iload_n 1, 1) := by decide +kernel
theorem dX9_readsShots_147 : decode cX9_readsShots 147 = .ok (.imul, 1) := by decide +kernel
theorem dX9_readsShots_148 : decode cX9_readsShots 148 = .ok (.iload_n 2, 1) := by decide +kernel
theorem dX9_readsShots_149 : decode cX9_readsShots 149 = .ok (.iadd, 1) := by decide +kernel
theorem dX9_readsShots_150 : decode cX9_readsShots 150 = .ok (.iastore, 1) := by decide +kernel
theorem dX9_readsShots_151 : decode cX9_readsShots 151 = .ok (.aload_n 0, 1) := by decide +kernel
theorem dX9_readsShots_152 : decode cX9_readsShots 152 = .ok (.getfield 19, 3) := by decide +kernel
theorem dX9_readsShots_155 : decode cX9_readsShots 155 = .ok (.iconst 3, 1) := by decide +kernel
theorem dX9_readsShots_156 : decode cX9_readsShots 156 = .ok (.aload_n 0, 1) := by decide +kernel
theorem dX9_readsShots_157 : decode cX9_readsShots 157 = .ok (.getfield 97, 3) := by decide +kernel
theorem dX9_readsShots_160 : decode cX9_readsShots 160 = .ok (.imul, 1) := by decide +kernel
theorem dX9_readsShots_161 : decode cX9_readsShots 161 = .ok (.iconst 1, 1) := by decide +kernel
theorem dX9_readsShots_162 : decode cX9_readsShots 162 = .ok (.iadd, 1) := by decide +kernel
theorem dX9_readsShots_163 : decode cX9_readsShots 163 = .ok (.iload_n 3, 1) := by decide +kernel
theorem dX9_readsShots_164 : decode cX9_readsShots 164 = .ok (.iastore, 1) := by decide +kernel
theorem dX9_readsShots_165 : decode cX9_readsShots 165 = .ok (.aload_n 0, 1) := by decide +kernel
theorem dX9_readsShots_166 : decode cX9_readsShots 166 = .ok (.getfield 19, 3) := by decide +kernel
theorem dX9_readsShots_169 : decode cX9_readsShots 169 = .ok (.iconst 3, 1) := by decide +kernel
theorem dX9_readsShots_170 : decode cX9_readsShots 170 = .ok (.aload_n 0, 1) := by decide +kernel
theorem dX9_readsShots_171 : decode cX9_readsShots 171 = .ok (.getfield 97, 3) := by decide +kernel
theorem dX9_readsShots_174 : decode cX9_readsShots 174 = .ok (.imul, 1) := by decide +kernel
theorem dX9_readsShots_175 : decode cX9_readsShots 175 = .ok (.iconst 2, 1) := by decide +kernel
theorem dX9_readsShots_176 : decode cX9_readsShots 176 = .ok (.iadd, 1) := by decide +kernel
theorem dX9_readsShots_177 : decode cX9_readsShots 177 = .ok (.iload 4, 2) := by decide +kernel
theorem dX9_readsShots_179 : decode cX9_readsShots 179 = .ok (.iastore, 1) := by decide +kernel
theorem dX9_readsShots_180 : decode cX9_readsShots 180 = .ok (.aload_n 0, 1) := by decide +kernel
theorem dX9_readsShots_181 : decode cX9_readsShots 181 = .ok (.dup, 1) := by decide +kernel
theorem dX9_readsShots_182 : decode cX9_readsShots 182 = .ok (.getfield 97, 3) := by decide +kernel
theorem dX9_readsShots_185 : decode cX9_readsShots 185 = .ok (.iconst 1, 1) := by decide +kernel
theorem dX9_readsShots_186 : decode cX9_readsShots 186 = .ok (.iadd, 1) := by decide +kernel
theorem dX9_readsShots_187 : decode cX9_readsShots 187 = .ok (.putfield 97, 3) := by decide +kernel
theorem dX9_readsShots_190 : decode cX9_readsShots 190 = .ok (.aload_n 0, 1) := by decide +kernel
theorem dX9_readsShots_191 : decode cX9_readsShots 191 = .ok (.dup, 1) := by decide +kernel
theorem dX9_readsShots_192 : decode cX9_readsShots 192 = .ok (.getfield 100, 3) := by decide +kernel
theorem dX9_readsShots_195 : decode cX9_readsShots 195 = .ok (.iload 4, 2) := by decide +kernel
theorem dX9_readsShots_197 : decode cX9_readsShots 197 = .ok (.iadd, 1) := by decide +kernel
theorem dX9_readsShots_198 : decode cX9_readsShots 198 = .ok (.putfield 100, 3) := by decide +kernel
theorem dX9_readsShots_201 : decode cX9_readsShots 201 = .ok (.iconst 1, 1) := by decide +kernel
theorem dX9_readsShots_202 : decode cX9_readsShots 202 = .ok (.ireturn, 1) := by decide +kernel
set_option maxRecDepth 20000 in
theorem ggX9_faultOf_X9_readsShots : GoodIn wsX9_faultOf wsX9_readsShots := goodIn_r _ [9, 1, 10, 11, 2, 3, 12, 13, 14, 8, 15, 16, 17, 18, 19, 4, 20, 21, 22, 23, 24, 25, 26, 27, 28, 29, 30, 31, 32, 33, 34] (by decide +kernel) (by decide +kernel)
set_option maxRecDepth 20000 in
theorem gX9_faultOf_X9_readsShots : GoodIn wsX9_faultOf (wsV RX9 103 RX9 yX9_readsShots wsX9_readsShots) := goodIn_app (goodIn_of _ (by decide +kernel)) ggX9_faultOf_X9_readsShots
set_option maxRecDepth 20000 in
theorem ggX9_faultOf_X9_accepts : GoodIn wsX9_faultOf wsX9_accepts := goodIn_r _ [23, 1, 16, 17, 18, 8, 19, 4, 10, 24, 25, 26, 27, 28, 29, 30, 31, 32, 33, 34] (by decide +kernel) (by decide +kernel)
set_option maxRecDepth 20000 in
theorem gX9_faultOf_X9_accepts : GoodIn wsX9_faultOf (wsV RX9 93 RX9 yX9_accepts wsX9_accepts) := goodIn_app (goodIn_of _ (by decide +kernel)) ggX9_faultOf_X9_accepts
theorem dX9_faultOf_0 : decode cX9_faultOf 0 = .ok (.aload_n 0, 1) := by decide +kernel
theorem dX9_faultOf_1 : decode cX9_faultOf 1 = .ok (.iconst 0, 1) := by decide +kernel
theorem dX9_faultOf_2 : decode cX9_faultOf 2 = .ok (.putfield 82, 3) := by decide +kernel
theorem dX9_faultOf_5 : decode cX9_faultOf 5 = .ok (.aload_n 0, 1) := by decide +kernel
theorem dX9_faultOf_6 : decode cX9_faultOf 6 = .ok (.iconst 0, 1) := by decide +kernel
theorem dX9_faultOf_7 : decode cX9_faultOf 7 = .ok (.putfield 97, 3) := by decide +kernel
theorem dX9_faultOf_10 : decode cX9_faultOf 10 = .ok (.aload_n 0, 1) := by decide +kernel
theorem dX9_faultOf_11 : decode cX9_faultOf 11 = .ok (.iconst 0, 1) := by decide +kernel
theorem dX9_faultOf_12 : decode cX9_faultOf 12 = .ok (.putfield 100, 3) := by decide +kernel
theorem dX9_faultOf_15 : decode cX9_faultOf 15 = .ok (.aload_n 0, 1) := by decide +kernel
theorem dX9_faultOf_16 : decode cX9_faultOf 16 = .ok (.invokevirtual 103, 3) := by decide +kernel
theorem dX9_faultOf_19 : decode cX9_faultOf 19 = .ok (.istore_n 1, 1) := by decide +kernel
theorem dX9_faultOf_20 : decode cX9_faultOf 20 = .ok (.iload_n 1, 1) := by decide +kernel
theorem dX9_faultOf_21 : decode cX9_faultOf 21 = .ok (.ifCond .eq 39, 3) := by decide +kernel
theorem dX9_faultOf_24 : decode cX9_faultOf 24 = .ok (.aload_n 0, 1) := by decide +kernel
theorem dX9_faultOf_25 : decode cX9_faultOf 25 = .ok (.getfield 82, 3) := by decide +kernel
theorem dX9_faultOf_28 : decode cX9_faultOf 28 = .ok (.aload_n 0, 1) := by decide +kernel
theorem dX9_faultOf_29 : decode cX9_faultOf 29 = .ok (.getfield 79, 3) := by decide +kernel
theorem dX9_faultOf_32 : decode cX9_faultOf 32 = .ok (.if_icmp .ge 28, 3) := by decide +kernel
theorem dX9_faultOf_35 : decode cX9_faultOf 35 = .ok (.aload_n 0, 1) := by decide +kernel
theorem dX9_faultOf_36 : decode cX9_faultOf 36 = .ok (.bipush 59, 2) := by decide +kernel
theorem dX9_faultOf_38 : decode cX9_faultOf 38 = .ok (.invokevirtual 93, 3) := by decide +kernel
theorem dX9_faultOf_41 : decode cX9_faultOf 41 = .ok (.ifCond .eq 14, 3) := by decide +kernel
theorem dX9_faultOf_44 : decode cX9_faultOf 44 = .ok (.aload_n 0, 1) := by decide +kernel
theorem dX9_faultOf_45 : decode cX9_faultOf 45 = .ok (.invokevirtual 103, 3) := by decide +kernel
theorem dX9_faultOf_48 : decode cX9_faultOf 48 = .ok (.ifCond .eq 7, 3) := by decide +kernel
theorem dX9_faultOf_51 : decode cX9_faultOf 51 = .ok (.iconst 1, 1) := by decide +kernel
theorem dX9_faultOf_52 : decode cX9_faultOf 52 = .ok (.goto 4, 3) := by decide +kernel
theorem dX9_faultOf_55 : decode cX9_faultOf 55 = .ok (.iconst 0, 1) := by decide +kernel
theorem dX9_faultOf_56 : decode cX9_faultOf 56 = .ok (.istore_n 1, 1) := by decide +kernel
theorem dX9_faultOf_57 : decode cX9_faultOf 57 = .ok (.goto (-37), 3) := by decide +kernel
theorem dX9_faultOf_60 : decode cX9_faultOf 60 = .ok (.iload_n 1, 1) := by decide +kernel
theorem dX9_faultOf_61 : decode cX9_faultOf 61 = .ok (.ifCond .eq 7, 3) := by decide +kernel
theorem dX9_faultOf_64 : decode cX9_faultOf 64 = .ok (.iconst (-1), 1) := by decide +kernel
theorem dX9_faultOf_65 : decode cX9_faultOf 65 = .ok (.goto 7, 3) := by decide +kernel
theorem dX9_faultOf_68 : decode cX9_faultOf 68 = .ok (.aload_n 0, 1) := by decide +kernel
theorem dX9_faultOf_69 : decode cX9_faultOf 69 = .ok (.getfield 82, 3) := by decide +kernel
theorem dX9_faultOf_72 : decode cX9_faultOf 72 = .ok (.ireturn, 1) := by decide +kernel
set_option maxRecDepth 20000 in
theorem ggX9_loadAll_X9_faultOf : GoodIn wsX9_loadAll wsX9_faultOf := goodIn_r _ [9, 10, 3, 2, 11, 12, 13, 14, 8, 15, 16, 4, 17, 18, 19, 20, 21, 22, 23, 24, 25, 26, 27, 28, 39, 40, 41, 42, 43, 44, 45, 46, 47, 48, 49] (by decide +kernel) (by decide +kernel)
set_option maxRecDepth 20000 in
theorem gX9_loadAll_X9_faultOf : GoodIn wsX9_loadAll (wsV RX9 106 RX9 yX9_faultOf wsX9_faultOf) := goodIn_app (goodIn_of _ (by decide +kernel)) ggX9_loadAll_X9_faultOf
set_option maxRecDepth 20000 in
theorem ggX9_loadAll_X9_record : GoodIn wsX9_loadAll wsX9_record := goodIn_r _ [32, 33, 34, 1, 39, 40, 41, 42, 43, 44, 45, 46, 47, 48, 49] (by decide +kernel) (by decide +kernel)
set_option maxRecDepth 20000 in
theorem gX9_loadAll_X9_record : GoodIn wsX9_loadAll (wsV RX9 61 RX9 yX9_record wsX9_record) := goodIn_app (goodIn_of _ (by decide +kernel)) ggX9_loadAll_X9_record
set_option maxRecDepth 20000 in
theorem ggX9_loadAll_X9_lines : GoodIn wsX9_loadAll wsX9_lines := goodIn_r _ [38, 1, 39, 40, 41, 42, 43, 44, 45, 46, 47, 48, 49] (by decide +kernel) (by decide +kernel)
set_option maxRecDepth 20000 in
theorem gX9_loadAll_X9_lines : GoodIn wsX9_loadAll (wsV RX9 75 RX9 yX9_lines wsX9_lines) := goodIn_app (goodIn_of _ (by decide +kernel)) ggX9_loadAll_X9_lines
theorem dX9_loadAll_0 : decode cX9_loadAll 0 = .ok (.aload_n 0, 1) := by decide +kernel
theorem dX9_loadAll_1 : decode cX9_loadAll 1 = .ok (.invokevirtual 106, 3) := by decide +kernel
theorem dX9_loadAll_4 : decode cX9_loadAll 4 = .ok (.istore_n 1, 1) := by decide +kernel
theorem dX9_loadAll_5 : decode cX9_loadAll 5 = .ok (.iload_n 1, 1) := by decide +kernel
theorem dX9_loadAll_6 : decode cX9_loadAll 6 = .ok (.ifCond .lt 8, 3) := by decide +kernel
theorem dX9_loadAll_9 : decode cX9_loadAll 9 = .ok (.bipush (-100), 2) := by decide +kernel
theorem dX9_loadAll_11 : decode cX9_loadAll 11 = .ok (.iload_n 1, 1) := by decide +kernel
theorem dX9_loadAll_12 : decode cX9_loadAll 12 = .ok (.isub, 1) := by decide +kernel
theorem dX9_loadAll_13 : decode cX9_loadAll 13 = .ok (.ireturn, 1) := by decide +kernel
theorem dX9_loadAll_14 : decode cX9_loadAll 14 = .ok (.aload_n 0, 1) := by decide +kernel
theorem dX9_loadAll_15 : decode cX9_loadAll 15 = .ok (.getfield 7, 3) := by decide +kernel
theorem dX9_loadAll_18 : decode cX9_loadAll 18 = .ok (.bipush 27, 2) := by decide +kernel
theorem dX9_loadAll_20 : decode cX9_loadAll 20 = .ok (.iaload, 1) := by decide +kernel
theorem dX9_loadAll_21 : decode cX9_loadAll 21 = .ok (.aload_n 0, 1) := by decide +kernel
theorem dX9_loadAll_22 : decode cX9_loadAll 22 = .ok (.getfield 100, 3) := by decide +kernel
theorem dX9_loadAll_25 : decode cX9_loadAll 25 = .ok (.iadd, 1) := by decide +kernel
theorem dX9_loadAll_26 : decode cX9_loadAll 26 = .ok (.bipush 20, 2) := by decide +kernel
theorem dX9_loadAll_28 : decode cX9_loadAll 28 = .ok (.if_icmp .le 6, 3) := by decide +kernel
theorem dX9_loadAll_31 : decode cX9_loadAll 31 = .ok (.bipush (-3), 2) := by decide +kernel
theorem dX9_loadAll_33 : decode cX9_loadAll 33 = .ok (.ireturn, 1) := by decide +kernel
theorem dX9_loadAll_34 : decode cX9_loadAll 34 = .ok (.aload_n 0, 1) := by decide +kernel
theorem dX9_loadAll_35 : decode cX9_loadAll 35 = .ok (.invokevirtual 61, 3) := by decide +kernel
theorem dX9_loadAll_38 : decode cX9_loadAll 38 = .ok (.iconst 0, 1) := by decide +kernel
theorem dX9_loadAll_39 : decode cX9_loadAll 39 = .ok (.istore_n 2, 1) := by decide +kernel
theorem dX9_loadAll_40 : decode cX9_loadAll 40 = .ok (.iload_n 2, 1) := by decide +kernel
theorem dX9_loadAll_41 : decode cX9_loadAll 41 = .ok (.aload_n 0, 1) := by decide +kernel
theorem dX9_loadAll_42 : decode cX9_loadAll 42 = .ok (.getfield 97, 3) := by decide +kernel
theorem dX9_loadAll_45 : decode cX9_loadAll 45 = .ok (.if_icmp .ge 53, 3) := by decide +kernel
theorem dX9_loadAll_48 : decode cX9_loadAll 48 = .ok (.iconst 0, 1) := by decide +kernel
theorem dX9_loadAll_49 : decode cX9_loadAll 49 = .ok (.istore_n 3, 1) := by decide +kernel
theorem dX9_loadAll_50 : decode cX9_loadAll 50 = .ok (.iload_n 3, 1) := by decide +kernel
theorem dX9_loadAll_51 : decode cX9_loadAll 51 = .ok (.aload_n 0, 1) := by decide +kernel
theorem dX9_loadAll_52 : decode cX9_loadAll 52 = .ok (.getfield 19, 3) := by decide +kernel
theorem dX9_loadAll_55 : decode cX9_loadAll 55 = .ok (.iconst 3, 1) := by decide +kernel
theorem dX9_loadAll_56 : decode cX9_loadAll 56 = .ok (.iload_n 2, 1) := by decide +kernel
theorem dX9_loadAll_57 : decode cX9_loadAll 57 = .ok (.imul, 1) := by decide +kernel
theorem dX9_loadAll_58 : decode cX9_loadAll 58 = .ok (.iconst 2, 1) := by decide +kernel
theorem dX9_loadAll_59 : decode cX9_loadAll 59 = .ok (.iadd, 1) := by decide +kernel
theorem dX9_loadAll_60 : decode cX9_loadAll 60 = .ok (.iaload, 1) := by decide +kernel
theorem dX9_loadAll_61 : decode cX9_loadAll 61 = .ok (.if_icmp .ge 31, 3) := by decide +kernel
theorem dX9_loadAll_64 : decode cX9_loadAll 64 = .ok (.aload_n 0, 1) := by decide +kernel
theorem dX9_loadAll_65 : decode cX9_loadAll 65 = .ok (.aload_n 0, 1) := by decide +kernel
theorem dX9_loadAll_66 : decode cX9_loadAll 66 = .ok (.getfield 19, 3) := by decide +kernel
theorem dX9_loadAll_69 : decode cX9_loadAll 69 = .ok (.iconst 3, 1) := by decide +kernel
theorem dX9_loadAll_70 : decode cX9_loadAll 70 = .ok (.iload_n 2, 1) := by decide +kernel
theorem dX9_loadAll_71 : decode cX9_loadAll 71 = .ok (.imul, 1) := by decide +kernel
theorem dX9_loadAll_72 : decode cX9_loadAll 72 = .ok (.iaload, 1) := by decide +kernel
theorem dX9_loadAll_73 : decode cX9_loadAll 73 = .ok (.aload_n 0, 1) := by decide +kernel
theorem dX9_loadAll_74 : decode cX9_loadAll 74 = .ok (.getfield 19, 3) := by decide +kernel
theorem dX9_loadAll_77 : decode cX9_loadAll 77 = .ok (.iconst 3, 1) := by decide +kernel
theorem dX9_loadAll_78 : decode cX9_loadAll 78 = .ok (.iload_n 2, 1) := by decide +kernel
theorem dX9_loadAll_79 : decode cX9_loadAll 79 = .ok (.imul, 1) := by decide +kernel
theorem dX9_loadAll_80 : decode cX9_loadAll 80 = .ok (.iconst 1, 1) := by decide +kernel
theorem dX9_loadAll_81 : decode cX9_loadAll 81 = .ok (.iadd, 1) := by decide +kernel
theorem dX9_loadAll_82 : decode cX9_loadAll 82 = .ok (.iaload, 1) := by decide +kernel
theorem dX9_loadAll_83 : decode cX9_loadAll 83 = .ok (.invokevirtual 75, 3) := by decide +kernel
theorem dX9_loadAll_86 : decode cX9_loadAll 86 = .ok (.iinc 3 1, 3) := by decide +kernel
theorem dX9_loadAll_89 : decode cX9_loadAll 89 = .ok (.goto (-39), 3) := by decide +kernel
theorem dX9_loadAll_92 : decode cX9_loadAll 92 = .ok (.iinc 2 1, 3) := by decide +kernel
theorem dX9_loadAll_95 : decode cX9_loadAll 95 = .ok (.goto (-55), 3) := by decide +kernel
theorem dX9_loadAll_98 : decode cX9_loadAll 98 = .ok (.aload_n 0, 1) := by decide +kernel
theorem dX9_loadAll_99 : decode cX9_loadAll 99 = .ok (.getfield 100, 3) := by decide +kernel
theorem dX9_loadAll_102 : decode cX9_loadAll 102 = .ok (.ireturn, 1) := by decide +kernel
set_option maxRecDepth 20000 in
theorem ggX9_unload_X9_in : GoodIn wsX9_unload wsX9_in := goodIn_r _ [5] (by decide +kernel) (by decide +kernel)
set_option maxRecDepth 20000 in
theorem gX9_unload_X9_in : GoodIn wsX9_unload (va_wsS RX9 57 yX9_in wsX9_in) := goodIn_app (goodIn_of _ (by decide +kernel)) ggX9_unload_X9_in
set_option maxRecDepth 20000 in
theorem ggX9_unload_X9_record : GoodIn wsX9_unload wsX9_record := goodIn_r _ [9, 10, 11, 1, 12, 13, 14, 15, 16, 17, 18, 19, 20, 21, 22] (by decide +kernel) (by decide +kernel)
set_option maxRecDepth 20000 in
theorem gX9_unload_X9_record : GoodIn wsX9_unload (wsV RX9 61 RX9 yX9_record wsX9_record) := goodIn_app (goodIn_of _ (by decide +kernel)) ggX9_unload_X9_record
theorem dX9_unload_0 : decode cX9_unload 0 = .ok (.iload_n 1, 1) := by decide +kernel
theorem dX9_unload_1 : decode cX9_unload 1 = .ok (.bipush 10, 2) := by decide +kernel
theorem dX9_unload_3 : decode cX9_unload 3 = .ok (.sipush 2000, 3) := by decide +kernel
theorem dX9_unload_6 : decode cX9_unload 6 = .ok (.invokestatic 57, 3) := by decide +kernel
theorem dX9_unload_9 : decode cX9_unload 9 = .ok (.ifCond .ne 6, 3) := by decide +kernel
theorem dX9_unload_12 : decode cX9_unload 12 = .ok (.bipush (-2), 2) := by decide +kernel
theorem dX9_unload_14 : decode cX9_unload 14 = .ok (.ireturn, 1) := by decide +kernel
theorem dX9_unload_15 : decode cX9_unload 15 = .ok (.iconst 0, 1) := by decide +kernel
theorem dX9_unload_16 : decode cX9_unload 16 = .ok (.istore_n 2, 1) := by decide +kernel
theorem dX9_unload_17 : decode cX9_unload 17 = .ok (.iconst 0, 1) := by decide +kernel
theorem dX9_unload_18 : decode cX9_unload 18 = .ok (.istore_n 3, 1) := by decide +kernel
theorem dX9_unload_19 : decode cX9_unload 19 = .ok (.iload_n 3, 1) := by decide +kernel
theorem dX9_unload_20 : decode cX9_unload 20 = .ok (.aload_n 0, 1) := by decide +kernel
theorem dX9_unload_21 : decode cX9_unload 21 = .ok (.getfield 7, 3) := by decide +kernel
theorem dX9_unload_24 : decode cX9_unload 24 = .ok (.bipush 27, 2) := by decide +kernel
theorem dX9_unload_26 : decode cX9_unload 26 = .ok (.iaload, 1) := by decide +kernel
theorem dX9_unload_27 : decode cX9_unload 27 = .ok (.if_icmp .ge 32, 3) := by decide +kernel
theorem dX9_unload_30 : decode cX9_unload 30 = .ok (.iload_n 2, 1) := by decide +kernel
theorem dX9_unload_31 : decode cX9_unload 31 = .ok (.aload_n 0, 1) := by decide +kernel
theorem dX9_unload_32 : decode cX9_unload 32 = .ok (.getfield 7, 3) := by decide +kernel
theorem dX9_unload_35 : decode cX9_unload 35 = .ok (.bipush 28, 2) := by decide +kernel
theorem dX9_unload_37 : decode cX9_unload 37 = .ok (.iconst 2, 1) := by decide +kernel
theorem dX9_unload_38 : decode cX9_unload 38 = .ok (.iload_n 3, 1) := by decide +kernel
theorem dX9_unload_39 : decode cX9_unload 39 = .ok (.imul, 1) := by decide +kernel
theorem dX9_unload_40 : decode cX9_unload 40 = .ok (.iadd, 1) := by decide +kernel
theorem dX9_unload_41 : decode cX9_unload 41 = .ok (.iaload, 1) := by decide +kernel
theorem dX9_unload_42 : decode cX9_unload 42 = .ok (.iload_n 1, 1) := by decide +kernel
theorem dX9_unload_43 : decode cX9_unload 43 = .ok (.if_icmp .gt 7, 3) := by decide +kernel
theorem dX9_unload_46 : decode cX9_unload 46 = .ok (.iconst 1, 1) := by decide +kernel
theorem dX9_unload_47 : decode cX9_unload 47 = .ok (.goto 4, 3) := by decide +kernel
theorem dX9_unload_50 : decode cX9_unload 50 = .ok (.iconst 0, 1) := by decide +kernel
theorem dX9_unload_51 : decode cX9_unload 51 = .ok (.iadd, 1) := by decide +kernel
theorem dX9_unload_52 : decode cX9_unload 52 = .ok (.istore_n 2, 1) := by decide +kernel
theorem dX9_unload_53 : decode cX9_unload 53 = .ok (.iinc 3 1, 3) := by decide +kernel
theorem dX9_unload_56 : decode cX9_unload 56 = .ok (.goto (-37), 3) := by decide +kernel
theorem dX9_unload_59 : decode cX9_unload 59 = .ok (.iload_n 2, 1) := by decide +kernel
theorem dX9_unload_60 : decode cX9_unload 60 = .ok (.ifCond .ne 6, 3) := by decide +kernel
theorem dX9_unload_63 : decode cX9_unload 63 = .ok (.bipush (-5), 2) := by decide +kernel
theorem dX9_unload_65 : decode cX9_unload 65 = .ok (.ireturn, 1) := by decide +kernel
theorem dX9_unload_66 : decode cX9_unload 66 = .ok (.aload_n 0, 1) := by decide +kernel
theorem dX9_unload_67 : decode cX9_unload 67 = .ok (.invokevirtual 61, 3) := by decide +kernel
theorem dX9_unload_70 : decode cX9_unload 70 = .ok (.iconst 0, 1) := by decide +kernel
theorem dX9_unload_71 : decode cX9_unload 71 = .ok (.istore_n 3, 1) := by decide +kernel
theorem dX9_unload_72 : decode cX9_unload 72 = .ok (.iconst 0, 1) := by decide +kernel
theorem dX9_unload_73 : decode cX9_unload 73 = .ok (.istore 4, 2) := by decide +kernel
theorem dX9_unload_75 : decode cX9_unload 75 = .ok (.iload 4, 2) := by decide +kernel
theorem dX9_unload_77 : decode cX9_unload 77 = .ok (.aload_n 0, 1) := by decide +kernel
theorem dX9_unload_78 : decode cX9_unload 78 = .ok (.getfield 7, 3) := by decide +kernel
theorem dX9_unload_81 : decode cX9_unload 81 = .ok (.bipush 27, 2) := by decide +kernel
theorem dX9_unload_83 : decode cX9_unload 83 = .ok (.iaload, 1) := by decide +kernel
theorem dX9_unload_84 : decode cX9_unload 84 = .ok (.if_icmp .ge 78, 3) := by decide +kernel
theorem dX9_unload_87 : decode cX9_unload 87 = .ok (.aload_n 0, 1) := by decide +kernel
theorem dX9_unload_88 : decode cX9_unload 88 = .ok (.getfield 7, 3) := by decide +kernel
theorem dX9_unload_91 : decode cX9_unload 91 = .ok (.bipush 28, 2) := by decide +kernel
theorem dX9_unload_93 : decode cX9_unload 93 = .ok (.iconst 2, 1) := by decide +kernel
theorem dX9_unload_94 : decode cX9_unload 94 = .ok (.iload 4, 2) := by decide +kernel
theorem dX9_unload_96 : decode cX9_unload 96 = .ok (.imul, 1) := by decide +kernel
theorem dX9_unload_97 : decode cX9_unload 97 = .ok (.iadd, 1) := by decide +kernel
theorem dX9_unload_98 : decode cX9_unload 98 = .ok (.iaload, 1) := by decide +kernel
theorem dX9_unload_99 : decode cX9_unload 99 = .ok (.iload_n 1, 1) := by decide +kernel
theorem dX9_unload_100 : decode cX9_unload 100 = .ok (.if_icmp .le 56, 3) := by decide +kernel
theorem dX9_unload_103 : decode cX9_unload 103 = .ok (.aload_n 0, 1) := by decide +kernel
theorem dX9_unload_104 : decode cX9_unload 104 = .ok (.getfield 7, 3) := by decide +kernel
theorem dX9_unload_107 : decode cX9_unload 107 = .ok (.bipush 28, 2) := by decide +kernel
theorem dX9_unload_109 : decode cX9_unload 109 = .ok (.iconst 2, 1) := by decide +kernel
theorem dX9_unload_110 : decode cX9_unload 110 = .ok (.iload_n 3, 1) := by decide +kernel
theorem dX9_unload_111 : decode cX9_unload 111 = .ok (.imul, 1) := by decide +kernel
theorem dX9_unload_112 : decode cX9_unload 112 = .ok (.iadd, 1) := by decide +kernel
theorem dX9_unload_113 : decode cX9_unload 113 = .ok (.aload_n 0, 1) := by decide +kernel
theorem dX9_unload_114 : decode cX9_unload 114 = .ok (.getfield 7, 3) := by decide +kernel
theorem dX9_unload_117 : decode cX9_unload 117 = .ok (.bipush 28, 2) := by decide +kernel
theorem dX9_unload_119 : decode cX9_unload 119 = .ok (.iconst 2, 1) := by decide +kernel
theorem dX9_unload_120 : decode cX9_unload 120 = .ok (.iload 4, 2) := by decide +kernel
theorem dX9_unload_122 : decode cX9_unload 122 = .ok (.imul, 1) := by decide +kernel
theorem dX9_unload_123 : decode cX9_unload 123 = .ok (.iadd, 1) := by decide +kernel
theorem dX9_unload_124 : decode cX9_unload 124 = .ok (.iaload, 1) := by decide +kernel
theorem dX9_unload_125 : decode cX9_unload 125 = .ok (.iastore, 1) := by decide +kernel
theorem dX9_unload_126 : decode cX9_unload 126 = .ok (.aload_n 0, 1) := by decide +kernel
theorem dX9_unload_127 : decode cX9_unload 127 = .ok (.getfield 7, 3) := by decide +kernel
theorem dX9_unload_130 : decode cX9_unload 130 = .ok (.bipush 28, 2) := by decide +kernel
theorem dX9_unload_132 : decode cX9_unload 132 = .ok (.iconst 2, 1) := by decide +kernel
theorem dX9_unload_133 : decode cX9_unload 133 = .ok (.iload_n 3, 1) := by decide +kernel
theorem dX9_unload_134 : decode cX9_unload 134 = .ok (.imul, 1) := by decide +kernel
theorem dX9_unload_135 : decode cX9_unload 135 = .ok (.iadd, 1) := by decide +kernel
theorem dX9_unload_136 : decode cX9_unload 136 = .ok (.iconst 1, 1) := by decide +kernel
theorem dX9_unload_137 : decode cX9_unload 137 = .ok (.iadd, 1) := by decide +kernel
theorem dX9_unload_138 : decode cX9_unload 138 = .ok (.aload_n 0, 1) := by decide +kernel
theorem dX9_unload_139 : decode cX9_unload 139 = .ok (.getfield 7, 3) := by decide +kernel
theorem dX9_unload_142 : decode cX9_unload 142 = .ok (.bipush 28, 2) := by decide +kernel
theorem dX9_unload_144 : decode cX9_unload 144 = .ok (.iconst 2, 1) := by decide +kernel
theorem dX9_unload_145 : decode cX9_unload 145 = .ok (.iload 4, 2) := by decide +kernel
theorem dX9_unload_147 : decode cX9_unload 147 = .ok (.imul, 1) := by decide +kernel
theorem dX9_unload_148 : decode cX9_unload 148 = .ok (.iadd, 1) := by decide +kernel
theorem dX9_unload_149 : decode cX9_unload 149 = .ok (.iconst 1, 1) := by decide +kernel
theorem dX9_unload_150 : decode cX9_unload 150 = .ok (.iadd, 1) := by decide +kernel
theorem dX9_unload_151 : decode cX9_unload 151 = .ok (.iaload, 1) := by decide +kernel
theorem dX9_unload_152 : decode cX9_unload 152 = .ok (.iastore, 1) := by decide +kernel
theorem dX9_unload_153 : decode cX9_unload 153 = .ok (.iinc 3 1, 3) := by decide +kernel
theorem dX9_unload_156 : decode cX9_unload 156 = .ok (.iinc 4 1, 3) := by decide +kernel
theorem dX9_unload_159 : decode cX9_unload 159 = .ok (.goto (-84), 3) := by decide +kernel
theorem dX9_unload_162 : decode cX9_unload 162 = .ok (.aload_n 0, 1) := by decide +kernel
theorem dX9_unload_163 : decode cX9_unload 163 = .ok (.getfield 7, 3) := by decide +kernel
theorem dX9_unload_166 : decode cX9_unload 166 = .ok (.bipush 27, 2) := by decide +kernel
theorem dX9_unload_168 : decode cX9_unload 168 = .ok (.iload_n 3, 1) := by decide +kernel
theorem dX9_unload_169 : decode cX9_unload 169 = .ok (.iastore, 1) := by decide +kernel
theorem dX9_unload_170 : decode cX9_unload 170 = .ok (.iload_n 2, 1) := by decide +kernel
theorem dX9_unload_171 : decode cX9_unload 171 = .ok (.ireturn, 1) := by decide +kernel
set_option maxRecDepth 20000 in
theorem ggX9_fires_X9_q : GoodIn wsX9_fires wsX9_q := goodIn_r _ [5] (by decide +kernel) (by decide +kernel)
set_option maxRecDepth 20000 in
theorem gX9_fires_X9_q : GoodIn wsX9_fires (va_wsS RX9 109 yX9_q wsX9_q) := goodIn_app (goodIn_of _ (by decide +kernel)) ggX9_fires_X9_q
set_option maxRecDepth 20000 in
theorem ggX9_fires_X9_reason : GoodIn wsX9_fires wsX9_reason := goodIn_r _ [9, 1, 10, 11, 12, 4, 13, 35, 36, 37, 38, 39, 40, 41, 42, 43, 44, 45] (by decide +kernel) (by decide +kernel)
set_option maxRecDepth 20000 in
theorem gX9_fires_X9_reason : GoodIn wsX9_fires (wsV RX9 112 RX9 yX9_reason wsX9_reason) := goodIn_app (goodIn_of _ (by decide +kernel)) ggX9_fires_X9_reason
set_option maxRecDepth 20000 in
theorem ggX9_fires_X9_heightBy : GoodIn wsX9_fires wsX9_heightBy := goodIn_r _ [17, 18, 19, 20, 21, 22, 23, 4, 24, 1, 25, 26, 27, 28, 35, 36, 37, 38, 39, 40, 41, 42, 43, 44, 45] (by decide +kernel) (by decide +kernel)
set_option maxRecDepth 20000 in
theorem gX9_fires_X9_heightBy : GoodIn wsX9_fires (wsV RX9 115 RX9 yX9_heightBy wsX9_heightBy) := goodIn_app (goodIn_of _ (by decide +kernel)) ggX9_fires_X9_heightBy
set_option maxRecDepth 20000 in
theorem ggX9_fires_X9_toldBy : GoodIn wsX9_fires wsX9_toldBy := goodIn_r _ [32, 20, 19, 33, 34, 18, 21, 22, 23, 4, 24, 1, 35, 36, 37, 38, 39, 40, 41, 42, 43, 44, 45] (by decide +kernel) (by decide +kernel)
set_option maxRecDepth 20000 in
theorem gX9_fires_X9_toldBy : GoodIn wsX9_fires (wsV RX9 118 RX9 yX9_toldBy wsX9_toldBy) := goodIn_app (goodIn_of _ (by decide +kernel)) ggX9_fires_X9_toldBy
set_option maxRecDepth 20000 in
theorem ggX9_fires_X9_whole : GoodIn wsX9_fires wsX9_whole := goodIn_r _ [24, 1, 35, 36, 37, 38, 39, 40, 41, 42, 43, 44, 45] (by decide +kernel) (by decide +kernel)
set_option maxRecDepth 20000 in
theorem gX9_fires_X9_whole : GoodIn wsX9_fires (wsV RX9 36 RX9 yX9_whole wsX9_whole) := goodIn_app (goodIn_of _ (by decide +kernel)) ggX9_fires_X9_whole
theorem dX9_fires_0 : decode cX9_fires 0 = .ok (.aload_n 0, 1) := by decide +kernel
theorem dX9_fires_1 : decode cX9_fires 1 = .ok (.getfield 7, 3) := by decide +kernel
theorem dX9_fires_4 : decode cX9_fires 4 = .ok (.bipush 68, 2) := by decide +kernel
theorem dX9_fires_6 : decode cX9_fires 6 = .ok (.iaload, 1) := by decide +kernel
theorem dX9_fires_7 : decode cX9_fires 7 = .ok (.invokestatic 109, 3) := by decide +kernel
theorem dX9_fires_10 : decode cX9_fires 10 = .ok (.istore_n 3, 1) := by decide +kernel
theorem dX9_fires_11 : decode cX9_fires 11 = .ok (.aload_n 0, 1) := by decide +kernel
theorem dX9_fires_12 : decode cX9_fires 12 = .ok (.invokevirtual 112, 3) := by decide +kernel
theorem dX9_fires_15 : decode cX9_fires 15 = .ok (.istore 4, 2) := by decide +kernel
theorem dX9_fires_17 : decode cX9_fires 17 = .ok (.aload_n 0, 1) := by decide +kernel
theorem dX9_fires_18 : decode cX9_fires 18 = .ok (.getfield 7, 3) := by decide +kernel
theorem dX9_fires_21 : decode cX9_fires 21 = .ok (.iload_n 3, 1) := by decide +kernel
theorem dX9_fires_22 : decode cX9_fires 22 = .ok (.iconst 0, 1) := by decide +kernel
theorem dX9_fires_23 : decode cX9_fires 23 = .ok (.iadd, 1) := by decide +kernel
theorem dX9_fires_24 : decode cX9_fires 24 = .ok (.iload_n 1, 1) := by decide +kernel
theorem dX9_fires_25 : decode cX9_fires 25 = .ok (.iastore, 1) := by decide +kernel
theorem dX9_fires_26 : decode cX9_fires 26 = .ok (.aload_n 0, 1) := by decide +kernel
theorem dX9_fires_27 : decode cX9_fires 27 = .ok (.getfield 7, 3) := by decide +kernel
theorem dX9_fires_30 : decode cX9_fires 30 = .ok (.iload_n 3, 1) := by decide +kernel
theorem dX9_fires_31 : decode cX9_fires 31 = .ok (.iconst 1, 1) := by decide +kernel
theorem dX9_fires_32 : decode cX9_fires 32 = .ok (.iadd, 1) := by decide +kernel
theorem dX9_fires_33 : decode cX9_fires 33 = .ok (.iload_n 2, 1) := by decide +kernel
theorem dX9_fires_34 : decode cX9_fires 34 = .ok (.iastore, 1) := by decide +kernel
theorem dX9_fires_35 : decode cX9_fires 35 = .ok (.aload_n 0, 1) := by decide +kernel
theorem dX9_fires_36 : decode cX9_fires 36 = .ok (.getfield 7, 3) := by decide +kernel
theorem dX9_fires_39 : decode cX9_fires 39 = .ok (.iload_n 3, 1) := by decide +kernel
theorem dX9_fires_40 : decode cX9_fires 40 = .ok (.iconst 2, 1) := by decide +kernel
theorem dX9_fires_41 : decode cX9_fires 41 = .ok (.iadd, 1) := by decide +kernel
theorem dX9_fires_42 : decode cX9_fires 42 = .ok (.iload 4, 2) := by decide +kernel
theorem dX9_fires_44 : decode cX9_fires 44 = .ok (.iastore, 1) := by decide +kernel
theorem dX9_fires_45 : decode cX9_fires 45 = .ok (.aload_n 0, 1) := by decide +kernel
theorem dX9_fires_46 : decode cX9_fires 46 = .ok (.getfield 7, 3) := by decide +kernel
theorem dX9_fires_49 : decode cX9_fires 49 = .ok (.iload_n 3, 1) := by decide +kernel
theorem dX9_fires_50 : decode cX9_fires 50 = .ok (.iconst 3, 1) := by decide +kernel
theorem dX9_fires_51 : decode cX9_fires 51 = .ok (.iadd, 1) := by decide +kernel
theorem dX9_fires_52 : decode cX9_fires 52 = .ok (.iload 4, 2) := by decide +kernel
theorem dX9_fires_54 : decode cX9_fires 54 = .ok (.ifCond .ne 12, 3) := by decide +kernel
theorem dX9_fires_57 : decode cX9_fires 57 = .ok (.aload_n 0, 1) := by decide +kernel
theorem dX9_fires_58 : decode cX9_fires 58 = .ok (.iload_n 1, 1) := by decide +kernel
theorem dX9_fires_59 : decode cX9_fires 59 = .ok (.iload_n 2, 1) := by decide +kernel
theorem dX9_fires_60 : decode cX9_fires 60 = .ok (.invokevirtual 115, 3) := by decide +kernel
theorem dX9_fires_63 : decode cX9_fires 63 = .ok (.goto 4, 3) := by decide +kernel
theorem dX9_fires_66 : decode cX9_fires 66 = .ok (.iconst 0, 1) := by decide +kernel
theorem dX9_fires_67 : decode cX9_fires 67 = .ok (.iastore, 1) := by decide +kernel
theorem dX9_fires_68 : decode cX9_fires 68 = .ok (.aload_n 0, 1) := by decide +kernel
theorem dX9_fires_69 : decode cX9_fires 69 = .ok (.getfield 7, 3) := by decide +kernel
theorem dX9_fires_72 : decode cX9_fires 72 = .ok (.iload_n 3, 1) := by decide +kernel
theorem dX9_fires_73 : decode cX9_fires 73 = .ok (.iconst 4, 1) := by decide +kernel
theorem dX9_fires_74 : decode cX9_fires 74 = .ok (.iadd, 1) := by decide +kernel
theorem dX9_fires_75 : decode cX9_fires 75 = .ok (.iload 4, 2) := by decide +kernel
theorem dX9_fires_77 : decode cX9_fires 77 = .ok (.ifCond .ne 19, 3) := by decide +kernel
theorem dX9_fires_80 : decode cX9_fires 80 = .ok (.aload_n 0, 1) := by decide +kernel
theorem dX9_fires_81 : decode cX9_fires 81 = .ok (.aload_n 0, 1) := by decide +kernel
theorem dX9_fires_82 : decode cX9_fires 82 = .ok (.getfield 7, 3) := by decide +kernel
theorem dX9_fires_85 : decode cX9_fires 85 = .ok (.iload_n 3, 1) := by decide +kernel
theorem dX9_fires_86 : decode cX9_fires 86 = .ok (.iconst 3, 1) := by decide +kernel
theorem dX9_fires_87 : decode cX9_fires 87 = .ok (.iadd, 1) := by decide +kernel
theorem dX9_fires_88 : decode cX9_fires 88 = .ok (.iaload, 1) := by decide +kernel
theorem dX9_fires_89 : decode cX9_fires 89 = .ok (.iload_n 1, 1) := by decide +kernel
theorem dX9_fires_90 : decode cX9_fires 90 = .ok (.invokevirtual 118, 3) := by decide +kernel
theorem dX9_fires_93 : decode cX9_fires 93 = .ok (.goto 4, 3) := by decide +kernel
theorem dX9_fires_96 : decode cX9_fires 96 = .ok (.iconst 0, 1) := by decide +kernel
theorem dX9_fires_97 : decode cX9_fires 97 = .ok (.iastore, 1) := by decide +kernel
theorem dX9_fires_98 : decode cX9_fires 98 = .ok (.aload_n 0, 1) := by decide +kernel
theorem dX9_fires_99 : decode cX9_fires 99 = .ok (.getfield 7, 3) := by decide +kernel
theorem dX9_fires_102 : decode cX9_fires 102 = .ok (.iload_n 3, 1) := by decide +kernel
theorem dX9_fires_103 : decode cX9_fires 103 = .ok (.iconst 5, 1) := by decide +kernel
theorem dX9_fires_104 : decode cX9_fires 104 = .ok (.iadd, 1) := by decide +kernel
theorem dX9_fires_105 : decode cX9_fires 105 = .ok (.iconst 0, 1) := by decide +kernel
theorem dX9_fires_106 : decode cX9_fires 106 = .ok (.iastore, 1) := by decide +kernel
theorem dX9_fires_107 : decode cX9_fires 107 = .ok (.aload_n 0, 1) := by decide +kernel
theorem dX9_fires_108 : decode cX9_fires 108 = .ok (.getfield 7, 3) := by decide +kernel
theorem dX9_fires_111 : decode cX9_fires 111 = .ok (.iload_n 3, 1) := by decide +kernel
theorem dX9_fires_112 : decode cX9_fires 112 = .ok (.bipush 6, 2) := by decide +kernel
theorem dX9_fires_114 : decode cX9_fires 114 = .ok (.iadd, 1) := by decide +kernel
theorem dX9_fires_115 : decode cX9_fires 115 = .ok (.aload_n 0, 1) := by decide +kernel
theorem dX9_fires_116 : decode cX9_fires 116 = .ok (.invokevirtual 36, 3) := by decide +kernel
theorem dX9_fires_119 : decode cX9_fires 119 = .ok (.iastore, 1) := by decide +kernel
theorem dX9_fires_120 : decode cX9_fires 120 = .ok (.aload_n 0, 1) := by decide +kernel
theorem dX9_fires_121 : decode cX9_fires 121 = .ok (.getfield 7, 3) := by decide +kernel
theorem dX9_fires_124 : decode cX9_fires 124 = .ok (.bipush 68, 2) := by decide +kernel
theorem dX9_fires_126 : decode cX9_fires 126 = .ok (.dup2, 1) := by decide +kernel
theorem dX9_fires_127 : decode cX9_fires 127 = .ok (.iaload, 1) := by decide +kernel
theorem dX9_fires_128 : decode cX9_fires 128 = .ok (.iconst 1, 1) := by decide +kernel
theorem dX9_fires_129 : decode cX9_fires 129 = .ok (.iadd, 1) := by decide +kernel
theorem dX9_fires_130 : decode cX9_fires 130 = .ok (.iastore, 1) := by decide +kernel
theorem dX9_fires_131 : decode cX9_fires 131 = .ok (.iload 4, 2) := by decide +kernel
theorem dX9_fires_133 : decode cX9_fires 133 = .ok (.ifCond .ne 47, 3) := by decide +kernel
theorem dX9_fires_136 : decode cX9_fires 136 = .ok (.aload_n 0, 1) := by decide +kernel
theorem dX9_fires_137 : decode cX9_fires 137 = .ok (.getfield 7, 3) := by decide +kernel
theorem dX9_fires_140 : decode cX9_fires 140 = .ok (.iconst 3, 1) := by decide +kernel
theorem dX9_fires_141 : decode cX9_fires 141 = .ok (.aload_n 0, 1) := by decide +kernel
theorem dX9_fires_142 : decode cX9_fires 142 = .ok (.getfield 7, 3) := by decide +kernel
theorem dX9_fires_145 : decode cX9_fires 145 = .ok (.iload_n 3, 1) := by decide +kernel
theorem dX9_fires_146 : decode cX9_fires 146 = .ok (.iconst 3, 1) := by decide +kernel
theorem dX9_fires_147 : decode cX9_fires 147 = .ok (.iadd, 1) := by decide +kernel
theorem dX9_fires_148 : decode cX9_fires 148 = .ok (.iaload, 1) := by decide +kernel
theorem dX9_fires_149 : decode cX9_fires 149 = .ok (.iastore, 1) := by decide +kernel
theorem dX9_fires_150 : decode cX9_fires 150 = .ok (.aload_n 0, 1) := by decide +kernel
theorem dX9_fires_151 : decode cX9_fires 151 = .ok (.getfield 7, 3) := by decide +kernel
theorem dX9_fires_154 : decode cX9_fires 154 = .ok (.iconst 1, 1) := by decide +kernel
theorem dX9_fires_155 : decode cX9_fires 155 = .ok (.dup2, 1) := by decide +kernel
theorem dX9_fires_156 : decode cX9_fires 156 = .ok (.iaload, 1) := by decide +kernel
theorem dX9_fires_157 : decode cX9_fires 157 = .ok (.iload_n 1, 1) := by decide +kernel
theorem dX9_fires_158 : decode cX9_fires 158 = .ok (.iadd, 1) := by decide +kernel
theorem dX9_fires_159 : decode cX9_fires 159 = .ok (.iastore, 1) := by decide +kernel
theorem dX9_fires_160 : decode cX9_fires 160 = .ok (.aload_n 0, 1) := by decide +kernel
theorem dX9_fires_161 : decode cX9_fires 161 = .ok (.getfield 7, 3) := by decide +kernel
theorem dX9_fires_164 : decode cX9_fires 164 = .ok (.iconst 2, 1) := by decide +kernel
theorem dX9_fires_165 : decode cX9_fires 165 = .ok (.dup2, 1) := by decide +kernel
theorem dX9_fires_166 : decode cX9_fires 166 = .ok (.iaload, 1) := by decide +kernel
theorem dX9_fires_167 : decode cX9_fires 167 = .ok (.iconst 1, 1) := by decide +kernel
theorem dX9_fires_168 : decode cX9_fires 168 = .ok (.iadd, 1) := by decide +kernel
theorem dX9_fires_169 : decode cX9_fires 169 = .ok (.iastore, 1) := by decide +kernel
theorem dX9_fires_170 : decode cX9_fires 170 = .ok (.aload_n 0, 1) := by decide +kernel
theorem dX9_fires_171 : decode cX9_fires 171 = .ok (.getfield 7, 3) := by decide +kernel
theorem dX9_fires_174 : decode cX9_fires 174 = .ok (.iconst 5, 1) := by decide +kernel
theorem dX9_fires_175 : decode cX9_fires 175 = .ok (.dup2, 1) := by decide +kernel
theorem dX9_fires_176 : decode cX9_fires 176 = .ok (.iaload, 1) := by decide +kernel
theorem dX9_fires_177 : decode cX9_fires 177 = .ok (.iload_n 1, 1) := by decide +kernel
theorem dX9_fires_178 : decode cX9_fires 178 = .ok (.iadd, 1) := by decide +kernel
theorem dX9_fires_179 : decode cX9_fires 179 = .ok (.iastore, 1) := by decide +kernel
theorem dX9_fires_180 : decode cX9_fires 180 = .ok (.iload 4, 2) := by decide +kernel
theorem dX9_fires_182 : decode cX9_fires 182 = .ok (.ifCond .ne 7, 3) := by decide +kernel
theorem dX9_fires_185 : decode cX9_fires 185 = .ok (.iconst 1, 1) := by decide +kernel
theorem dX9_fires_186 : decode cX9_fires 186 = .ok (.goto 4, 3) := by decide +kernel
theorem dX9_fires_189 : decode cX9_fires 189 = .ok (.iconst 0, 1) := by decide +kernel
theorem dX9_fires_190 : decode cX9_fires 190 = .ok (.ireturn, 1) := by decide +kernel
set_option maxRecDepth 20000 in
theorem ggX9_fire_X9_in : GoodIn wsX9_fire wsX9_in := goodIn_r _ [5] (by decide +kernel) (by decide +kernel)
set_option maxRecDepth 20000 in
theorem gX9_fire_X9_in : GoodIn wsX9_fire (va_wsS RX9 57 yX9_in wsX9_in) := goodIn_app (goodIn_of _ (by decide +kernel)) ggX9_fire_X9_in
set_option maxRecDepth 20000 in
theorem ggX9_fire_X9_record : GoodIn wsX9_fire wsX9_record := goodIn_r _ [9, 10, 11, 1, 57, 58, 59, 60, 61, 62, 63, 64, 65, 66, 67] (by decide +kernel) (by decide +kernel)
set_option maxRecDepth 20000 in
theorem gX9_fire_X9_record : GoodIn wsX9_fire (wsV RX9 61 RX9 yX9_record wsX9_record) := goodIn_app (goodIn_of _ (by decide +kernel)) ggX9_fire_X9_record
set_option maxRecDepth 20000 in
theorem ggX9_fire_X9_fires : GoodIn wsX9_fire wsX9_fires := goodIn_r _ [15, 1, 16, 17, 4, 18, 19, 20, 21, 22, 23, 24, 25, 26, 27, 28, 29, 30, 31, 32, 33, 34, 35, 36, 37, 38, 39, 40, 41, 42, 43, 44, 45, 46, 47, 57, 58, 59, 60, 61, 62, 63, 64, 65, 66, 67] (by decide +kernel) (by decide +kernel)
set_option maxRecDepth 20000 in
theorem gX9_fire_X9_fires : GoodIn wsX9_fire (wsV RX9 121 RX9 yX9_fires wsX9_fires) := goodIn_app (goodIn_of _ (by decide +kernel)) ggX9_fire_X9_fires
set_option maxRecDepth 20000 in
theorem ggX9_fire_X9_swings : GoodIn wsX9_fire wsX9_swings := goodIn_r _ [51, 1, 52, 53, 54, 4, 55, 56, 31, 57, 58, 59, 60, 61, 62, 63, 64, 65, 66, 67] (by decide +kernel) (by decide +kernel)
set_option maxRecDepth 20000 in
theorem gX9_fire_X9_swings : GoodIn wsX9_fire (wsV RX9 71 RX9 yX9_swings wsX9_swings) := goodIn_app (goodIn_of _ (by decide +kernel)) ggX9_fire_X9_swings
theorem dX9_fire_0 : decode cX9_fire 0 = .ok (.iload_n 1, 1) := by decide +kernel
theorem dX9_fire_1 : decode cX9_fire 1 = .ok (.iconst 1, 1) := by decide +kernel
theorem dX9_fire_2 : decode cX9_fire 2 = .ok (.bipush 20, 2) := by decide +kernel
theorem dX9_fire_4 : decode cX9_fire 4 = .ok (.invokestatic 57, 3) := by decide +kernel
theorem dX9_fire_7 : decode cX9_fire 7 = .ok (.ifCond .eq 14, 3) := by decide +kernel
theorem dX9_fire_10 : decode cX9_fire 10 = .ok (.iload_n 2, 1) := by decide +kernel
theorem dX9_fire_11 : decode cX9_fire 11 = .ok (.iconst 0, 1) := by decide +kernel
theorem dX9_fire_12 : decode cX9_fire 12 = .ok (.sipush 500, 3) := by decide +kernel
theorem dX9_fire_15 : decode cX9_fire 15 = .ok (.invokestatic 57, 3) := by decide +kernel
theorem dX9_fire_18 : decode cX9_fire 18 = .ok (.ifCond .ne 6, 3) := by decide +kernel
theorem dX9_fire_21 : decode cX9_fire 21 = .ok (.bipush (-2), 2) := by decide +kernel
theorem dX9_fire_23 : decode cX9_fire 23 = .ok (.ireturn, 1) := by decide +kernel
theorem dX9_fire_24 : decode cX9_fire 24 = .ok (.iload_n 1, 1) := by decide +kernel
theorem dX9_fire_25 : decode cX9_fire 25 = .ok (.aload_n 0, 1) := by decide +kernel
theorem dX9_fire_26 : decode cX9_fire 26 = .ok (.getfield 7, 3) := by decide +kernel
theorem dX9_fire_29 : decode cX9_fire 29 = .ok (.bipush 27, 2) := by decide +kernel
theorem dX9_fire_31 : decode cX9_fire 31 = .ok (.iaload, 1) := by decide +kernel
theorem dX9_fire_32 : decode cX9_fire 32 = .ok (.if_icmp .ge 7, 3) := by decide +kernel
theorem dX9_fire_35 : decode cX9_fire 35 = .ok (.iload_n 1, 1) := by decide +kernel
theorem dX9_fire_36 : decode cX9_fire 36 = .ok (.goto 10, 3) := by decide +kernel
theorem dX9_fire_39 : decode cX9_fire 39 = .ok (.aload_n 0, 1) := by decide +kernel
theorem dX9_fire_40 : decode cX9_fire 40 = .ok (.getfield 7, 3) := by decide +kernel
theorem dX9_fire_43 : decode cX9_fire 43 = .ok (.bipush 27, 2) := by decide +kernel
theorem dX9_fire_45 : decode cX9_fire 45 = .ok (.iaload, 1) := by decide +kernel
theorem dX9_fire_46 : decode cX9_fire 46 = .ok (.istore_n 3, 1) := by decide +kernel
theorem dX9_fire_47 : decode cX9_fire 47 = .ok (.aload_n 0, 1) := by decide +kernel
theorem dX9_fire_48 : decode cX9_fire 48 = .ok (.getfield 7, 3) := by decide +kernel
theorem dX9_fire_51 : decode cX9_fire 51 = .ok (.bipush 68, 2) := by decide +kernel
theorem dX9_fire_53 : decode cX9_fire 53 = .ok (.iaload, 1) := by decide +kernel
theorem dX9_fire_54 : decode cX9_fire 54 = .ok (.iload_n 3, 1) := by decide +kernel
theorem dX9_fire_55 : decode cX9_fire 55 = .ok (.iadd, 1) := by decide +kernel
theorem dX9_fire_56 : decode cX9_fire 56 = .ok (.bipush 60, 2) := by decide +kernel
theorem dX9_fire_58 : decode cX9_fire 58 = .ok (.if_icmp .le 6, 3) := by decide +kernel
theorem dX9_fire_61 : decode cX9_fire 61 = .ok (.bipush (-3), 2) := by decide +kernel
theorem dX9_fire_63 : decode cX9_fire 63 = .ok (.ireturn, 1) := by decide +kernel
theorem dX9_fire_64 : decode cX9_fire 64 = .ok (.iload_n 3, 1) := by decide +kernel
theorem dX9_fire_65 : decode cX9_fire 65 = .ok (.ifCond .ne 6, 3) := by decide +kernel
theorem dX9_fire_68 : decode cX9_fire 68 = .ok (.bipush (-5), 2) := by decide +kernel
theorem dX9_fire_70 : decode cX9_fire 70 = .ok (.ireturn, 1) := by decide +kernel
theorem dX9_fire_71 : decode cX9_fire 71 = .ok (.aload_n 0, 1) := by decide +kernel
theorem dX9_fire_72 : decode cX9_fire 72 = .ok (.invokevirtual 61, 3) := by decide +kernel
theorem dX9_fire_75 : decode cX9_fire 75 = .ok (.iconst 0, 1) := by decide +kernel
theorem dX9_fire_76 : decode cX9_fire 76 = .ok (.istore 4, 2) := by decide +kernel
theorem dX9_fire_78 : decode cX9_fire 78 = .ok (.iconst 0, 1) := by decide +kernel
theorem dX9_fire_79 : decode cX9_fire 79 = .ok (.istore 5, 2) := by decide +kernel
theorem dX9_fire_81 : decode cX9_fire 81 = .ok (.iload 5, 2) := by decide +kernel
theorem dX9_fire_83 : decode cX9_fire 83 = .ok (.iload_n 3, 1) := by decide +kernel
theorem dX9_fire_84 : decode cX9_fire 84 = .ok (.if_icmp .ge 50, 3) := by decide +kernel
theorem dX9_fire_87 : decode cX9_fire 87 = .ok (.aload_n 0, 1) := by decide +kernel
theorem dX9_fire_88 : decode cX9_fire 88 = .ok (.aload_n 0, 1) := by decide +kernel
theorem dX9_fire_89 : decode cX9_fire 89 = .ok (.getfield 7, 3) := by decide +kernel
theorem dX9_fire_92 : decode cX9_fire 92 = .ok (.bipush 28, 2) := by decide +kernel
theorem dX9_fire_94 : decode cX9_fire 94 = .ok (.iconst 2, 1) := by decide +kernel
theorem dX9_fire_95 : decode cX9_fire 95 = .ok (.iload 5, 2) := by decide +kernel
theorem dX9_fire_97 : decode cX9_fire 97 = .ok (.imul, 1) := by decide +kernel
theorem dX9_fire_98 : decode cX9_fire 98 = .ok (.iadd, 1) := by decide +kernel
theorem dX9_fire_99 : decode cX9_fire 99 = .ok (.iaload, 1) := by decide +kernel
theorem dX9_fire_100 : decode cX9_fire 100 = .ok (.aload_n 0, 1) := by decide +kernel
theorem dX9_fire_101 : decode cX9_fire 101 = .ok (.getfield 7, 3) := by decide +kernel
theorem dX9_fire_104 : decode cX9_fire 104 = .ok (.bipush 28, 2) := by decide +kernel
theorem dX9_fire_106 : decode cX9_fire 106 = .ok (.iconst 2, 1) := by decide +kernel
theorem dX9_fire_107 : decode cX9_fire 107 = .ok (.iload 5, 2) := by decide +kernel
theorem dX9_fire_109 : decode cX9_fire 109 = .ok (.imul, 1) := by decide +kernel
theorem dX9_fire_110 : decode cX9_fire 110 = .ok (.iadd, 1) := by decide +kernel
theorem dX9_fire_111 : decode cX9_fire 111 = .ok (.iconst 1, 1) := by decide +kernel
theorem dX9_fire_112 : decode cX9_fire 112 = .ok (.iadd, 1) := by decide +kernel
theorem dX9_fire_113 : decode cX9_fire 113 = .ok (.iaload, 1) := by decide +kernel
theorem dX9_fire_114 : decode cX9_fire 114 = .ok (.invokevirtual 121, 3) := by decide +kernel
theorem dX9_fire_117 : decode cX9_fire 117 = .ok (.ifCond .eq 11, 3) := by decide +kernel
theorem dX9_fire_120 : decode cX9_fire 120 = .ok (.iinc 4 1, 3) := by decide +kernel
theorem dX9_fire_123 : decode cX9_fire 123 = .ok (.aload_n 0, 1) := by decide +kernel
theorem dX9_fire_124 : decode cX9_fire 124 = .ok (.iload_n 2, 1) := by decide +kernel
theorem dX9_fire_125 : decode cX9_fire 125 = .ok (.invokevirtual 71, 3) := by decide +kernel
theorem dX9_fire_128 : decode cX9_fire 128 = .ok (.iinc 5 1, 3) := by decide +kernel
theorem dX9_fire_131 : decode cX9_fire 131 = .ok (.goto (-50), 3) := by decide +kernel
theorem dX9_fire_134 : decode cX9_fire 134 = .ok (.aload_n 0, 1) := by decide +kernel
theorem dX9_fire_135 : decode cX9_fire 135 = .ok (.getfield 7, 3) := by decide +kernel
theorem dX9_fire_138 : decode cX9_fire 138 = .ok (.bipush 27, 2) := by decide +kernel
theorem dX9_fire_140 : decode cX9_fire 140 = .ok (.dup2, 1) := by decide +kernel
theorem dX9_fire_141 : decode cX9_fire 141 = .ok (.iaload, 1) := by decide +kernel
theorem dX9_fire_142 : decode cX9_fire 142 = .ok (.iload_n 3, 1) := by decide +kernel
theorem dX9_fire_143 : decode cX9_fire 143 = .ok (.isub, 1) := by decide +kernel
theorem dX9_fire_144 : decode cX9_fire 144 = .ok (.iastore, 1) := by decide +kernel
theorem dX9_fire_145 : decode cX9_fire 145 = .ok (.iconst 0, 1) := by decide +kernel
theorem dX9_fire_146 : decode cX9_fire 146 = .ok (.istore 5, 2) := by decide +kernel
theorem dX9_fire_148 : decode cX9_fire 148 = .ok (.iload 5, 2) := by decide +kernel
theorem dX9_fire_150 : decode cX9_fire 150 = .ok (.iconst 2, 1) := by decide +kernel
theorem dX9_fire_151 : decode cX9_fire 151 = .ok (.aload_n 0, 1) := by decide +kernel
theorem dX9_fire_152 : decode cX9_fire 152 = .ok (.getfield 7, 3) := by decide +kernel
theorem dX9_fire_155 : decode cX9_fire 155 = .ok (.bipush 27, 2) := by decide +kernel
theorem dX9_fire_157 : decode cX9_fire 157 = .ok (.iaload, 1) := by decide +kernel
theorem dX9_fire_158 : decode cX9_fire 158 = .ok (.imul, 1) := by decide +kernel
theorem dX9_fire_159 : decode cX9_fire 159 = .ok (.if_icmp .ge 33, 3) := by decide +kernel
theorem dX9_fire_162 : decode cX9_fire 162 = .ok (.aload_n 0, 1) := by decide +kernel
theorem dX9_fire_163 : decode cX9_fire 163 = .ok (.getfield 7, 3) := by decide +kernel
theorem dX9_fire_166 : decode cX9_fire 166 = .ok (.bipush 28, 2) := by decide +kernel
theorem dX9_fire_168 : decode cX9_fire 168 = .ok (.iload 5, 2) := by decide +kernel
theorem dX9_fire_170 : decode cX9_fire 170 = .ok (.iadd, 1) := by decide +kernel
theorem dX9_fire_171 : decode cX9_fire 171 = .ok (.aload_n 0, 1) := by decide +kernel
theorem dX9_fire_172 : decode cX9_fire 172 = .ok (.getfield 7, 3) := by decide +kernel
theorem dX9_fire_175 : decode cX9_fire 175 = .ok (.bipush 28, 2) := by decide +kernel
theorem dX9_fire_177 : decode cX9_fire 177 = .ok (.iconst 2, 1) := by decide +kernel
theorem dX9_fire_178 : decode cX9_fire 178 = .ok (.iload_n 3, 1) := by decide +kernel
theorem dX9_fire_179 : decode cX9_fire 179 = .ok (.imul, 1) := by decide +kernel
theorem dX9_fire_180 : decode cX9_fire 180 = .ok (.iadd, 1) := by decide +kernel
theorem dX9_fire_181 : decode cX9_fire 181 = .ok (.iload 5, 2) := by decide +kernel
theorem dX9_fire_183 : decode cX9_fire 183 = .ok (.iadd, 1) := by decide +kernel
theorem dX9_fire_184 : decode cX9_fire 184 = .ok (.iaload, 1) := by decide +kernel
theorem dX9_fire_185 : decode cX9_fire 185 = .ok (.iastore, 1) := by decide +kernel
theorem dX9_fire_186 : decode cX9_fire 186 = .ok (.iinc 5 1, 3) := by decide +kernel
theorem dX9_fire_189 : decode cX9_fire 189 = .ok (.goto (-41), 3) := by decide +kernel
theorem dX9_fire_192 : decode cX9_fire 192 = .ok (.iload 4, 2) := by decide +kernel
theorem dX9_fire_194 : decode cX9_fire 194 = .ok (.ireturn, 1) := by decide +kernel
