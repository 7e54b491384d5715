theorem dX9_text_129 : decode cX9_text 129 = .ok (.iconst 0, 1) := by decide +kernel
theorem dX9_text_130 : decode cX9_text 130 = .ok (.putfield 125, 3) := by decide +kernel
theorem dX9_text_133 : decode cX9_text 133 = .ok (.iload_n 1, 1) := by decide +kernel
theorem dX9_text_134 : decode cX9_text 134 = .ok (.ireturn, 1) := by decide +kernel
theorem dX9_fault_0 : decode cX9_fault 0 = .ok (.aload_n 0, 1) := by decide +kernel
theorem dX9_fault_1 : decode cX9_fault 1 = .ok (.iconst 0, 1) := by decide +kernel
theorem dX9_fault_2 : decode cX9_fault 2 = .ok (.putfield 1, 3) := by decide +kernel
theorem dX9_fault_5 : decode cX9_fault 5 = .ok (.aload_n 0, 1) := by decide +kernel
theorem dX9_fault_6 : decode cX9_fault 6 = .ok (.getfield 52, 3) := by decide +kernel
theorem dX9_fault_9 : decode cX9_fault 9 = .ok (.ireturn, 1) := by decide +kernel
set_option maxRecDepth 20000 in
theorem ggX9_isDay_X9_isIn : GoodIn wsX9_isDay wsX9_isIn := goodIn_r _ [4] rfl (by decide +kernel)
set_option maxRecDepth 20000 in
theorem gX9_isDay_X9_isIn : GoodIn wsX9_isDay (va_wsS RX9 88 yX9_isIn wsX9_isIn) := goodIn_app (goodIn_r _ [1, 2, 3] rfl (by decide +kernel)) ggX9_isDay_X9_isIn
theorem dX9_isDay_0 : decode cX9_isDay 0 = .ok (.iload_n 0, 1) := by decide +kernel
theorem dX9_isDay_1 : decode cX9_isDay 1 = .ok (.iconst 0, 1) := by decide +kernel
theorem dX9_isDay_2 : decode cX9_isDay 2 = .ok (.sipush 499, 3) := by decide +kernel
theorem dX9_isDay_5 : decode cX9_isDay 5 = .ok (.invokestatic 88, 3) := by decide +kernel
theorem dX9_isDay_8 : decode cX9_isDay 8 = .ok (.ireturn, 1) := by decide +kernel
theorem dX9_upTo_0 : decode cX9_upTo 0 = .ok (.iconst 0, 1) := by decide +kernel
theorem dX9_upTo_1 : decode cX9_upTo 1 = .ok (.istore_n 3, 1) := by decide +kernel
theorem dX9_upTo_2 : decode cX9_upTo 2 = .ok (.iconst 0, 1) := by decide +kernel
theorem dX9_upTo_3 : decode cX9_upTo 3 = .ok (.istore 4, 2) := by decide +kernel
theorem dX9_upTo_5 : decode cX9_upTo 5 = .ok (.iload 4, 2) := by decide +kernel
theorem dX9_upTo_7 : decode cX9_upTo 7 = .ok (.aload_n 0, 1) := by decide +kernel
theorem dX9_upTo_8 : decode cX9_upTo 8 = .ok (.getfield 64, 3) := by decide +kernel
theorem dX9_upTo_11 : decode cX9_upTo 11 = .ok (.iload_n 1, 1) := by decide +kernel
theorem dX9_upTo_12 : decode cX9_upTo 12 = .ok (.iaload, 1) := by decide +kernel
theorem dX9_upTo_13 : decode cX9_upTo 13 = .ok (.if_icmp .ge 42, 3) := by decide +kernel
theorem dX9_upTo_16 : decode cX9_upTo 16 = .ok (.aload_n 0, 1) := by decide +kernel
theorem dX9_upTo_17 : decode cX9_upTo 17 = .ok (.getfield 64, 3) := by decide +kernel
theorem dX9_upTo_20 : decode cX9_upTo 20 = .ok (.iload_n 1, 1) := by decide +kernel
theorem dX9_upTo_21 : decode cX9_upTo 21 = .ok (.iconst 1, 1) := by decide +kernel
theorem dX9_upTo_22 : decode cX9_upTo 22 = .ok (.iadd, 1) := by decide +kernel
theorem dX9_upTo_23 : decode cX9_upTo 23 = .ok (.iconst 2, 1) := by decide +kernel
theorem dX9_upTo_24 : decode cX9_upTo 24 = .ok (.iload 4, 2) := by decide +kernel
theorem dX9_upTo_26 : decode cX9_upTo 26 = .ok (.imul, 1) := by decide +kernel
theorem dX9_upTo_27 : decode cX9_upTo 27 = .ok (.iadd, 1) := by decide +kernel
theorem dX9_upTo_28 : decode cX9_upTo 28 = .ok (.iaload, 1) := by decide +kernel
theorem dX9_upTo_29 : decode cX9_upTo 29 = .ok (.iload_n 2, 1) := by decide +kernel
theorem dX9_upTo_30 : decode cX9_upTo 30 = .ok (.if_icmp .gt 19, 3) := by decide +kernel
theorem dX9_upTo_33 : decode cX9_upTo 33 = .ok (.iload_n 3, 1) := by decide +kernel
theorem dX9_upTo_34 : decode cX9_upTo 34 = .ok (.aload_n 0, 1) := by decide +kernel
theorem dX9_upTo_35 : decode cX9_upTo 35 = .ok (.getfield 64, 3) := by decide +kernel
theorem dX9_upTo_38 : decode cX9_upTo 38 = .ok (.iload_n 1, 1) := by decide +kernel
theorem dX9_upTo_39 : decode cX9_upTo 39 = .ok (.iconst 2, 1) := by decide +kernel
theorem dX9_upTo_40 : decode cX9_upTo 40 = .ok (.iadd, 1) := by decide +kernel
theorem dX9_upTo_41 : decode cX9_upTo 41 = .ok (.iconst 2, 1) := by decide +kernel
theorem dX9_upTo_42 : decode cX9_upTo 42 = .ok (.iload 4, 2) := by decide +kernel
theorem dX9_upTo_44 : decode cX9_upTo 44 = .ok (.imul, 1) := by decide +kernel
theorem dX9_upTo_45 : decode cX9_upTo 45 = .ok (.iadd, 1) := by decide +kernel
theorem dX9_upTo_46 : decode cX9_upTo 46 = .ok (.iaload, 1) := by decide +kernel
theorem dX9_upTo_47 : decode cX9_upTo 47 = .ok (.iadd, 1) := by decide +kernel
theorem dX9_upTo_48 : decode cX9_upTo 48 = .ok (.istore_n 3, 1) := by decide +kernel
theorem dX9_upTo_49 : decode cX9_upTo 49 = .ok (.iinc 4 1, 3) := by decide +kernel
theorem dX9_upTo_52 : decode cX9_upTo 52 = .ok (.goto (-47), 3) := by decide +kernel
theorem dX9_upTo_55 : decode cX9_upTo 55 = .ok (.iload_n 3, 1) := by decide +kernel
theorem dX9_upTo_56 : decode cX9_upTo 56 = .ok (.ireturn, 1) := by decide +kernel
set_option maxRecDepth 20000 in
theorem ggX9_allIncome_X9_upTo : GoodIn wsX9_allIncome wsX9_upTo := goodIn_r _ [5, 6, 7, 8, 9, 10, 11, 12, 13, 14, 15, 16, 17, 18, 19, 20, 21, 22, 23, 24, 25, 26] rfl (by decide +kernel)
set_option maxRecDepth 20000 in
theorem gX9_allIncome_X9_upTo : GoodIn wsX9_allIncome (wsV RX9 128 RX9 yX9_upTo wsX9_upTo) := goodIn_app (goodIn_r _ [1, 2, 3, 4] rfl (by decide +kernel)) ggX9_allIncome_X9_upTo
theorem dX9_allIncome_0 : decode cX9_allIncome 0 = .ok (.aload_n 0, 1) := by decide +kernel
theorem dX9_allIncome_1 : decode cX9_allIncome 1 = .ok (.bipush 36, 2) := by decide +kernel
theorem dX9_allIncome_3 : decode cX9_allIncome 3 = .ok (.sipush 500, 3) := by decide +kernel
theorem dX9_allIncome_6 : decode cX9_allIncome 6 = .ok (.invokevirtual 128, 3) := by decide +kernel
theorem dX9_allIncome_9 : decode cX9_allIncome 9 = .ok (.ireturn, 1) := by decide +kernel
theorem dX9_taxOf_0 : decode cX9_taxOf 0 = .ok (.lconst 0, 1) := by decide +kernel
theorem dX9_taxOf_1 : decode cX9_taxOf 1 = .ok (.lstore_n 3, 1) := by decide +kernel
theorem dX9_taxOf_2 : decode cX9_taxOf 2 = .ok (.lload_n 1, 1) := by decide +kernel
theorem dX9_taxOf_3 : decode cX9_taxOf 3 = .ok (.lstore 5, 2) := by decide +kernel
theorem dX9_taxOf_5 : decode cX9_taxOf 5 = .ok (.lconst 0, 1) := by decide +kernel
theorem dX9_taxOf_6 : decode cX9_taxOf 6 = .ok (.lstore 7, 2) := by decide +kernel
theorem dX9_taxOf_8 : decode cX9_taxOf 8 = .ok (.iconst 0, 1) := by decide +kernel
theorem dX9_taxOf_9 : decode cX9_taxOf 9 = .ok (.istore 9, 2) := by decide +kernel
theorem dX9_taxOf_11 : decode cX9_taxOf 11 = .ok (.iload 9, 2) := by decide +kernel
theorem dX9_taxOf_13 : decode cX9_taxOf 13 = .ok (.aload_n 0, 1) := by decide +kernel
theorem dX9_taxOf_14 : decode cX9_taxOf 14 = .ok (.getfield 64, 3) := by decide +kernel
theorem dX9_taxOf_17 : decode cX9_taxOf 17 = .ok (.bipush 13, 2) := by decide +kernel
theorem dX9_taxOf_19 : decode cX9_taxOf 19 = .ok (.iaload, 1) := by decide +kernel
theorem dX9_taxOf_20 : decode cX9_taxOf 20 = .ok (.if_icmp .ge 87, 3) := by decide +kernel
theorem dX9_taxOf_23 : decode cX9_taxOf 23 = .ok (.aload_n 0, 1) := by decide +kernel
theorem dX9_taxOf_24 : decode cX9_taxOf 24 = .ok (.getfield 64, 3) := by decide +kernel
theorem dX9_taxOf_27 : decode cX9_taxOf 27 = .ok (.bipush 14, 2) := by decide +kernel
theorem dX9_taxOf_29 : decode cX9_taxOf 29 = .ok (.iconst 2, 1) := by decide +kernel
theorem dX9_taxOf_30 : decode cX9_taxOf 30 = .ok (.iload 9, 2) := by decide +kernel
theorem dX9_taxOf_32 : decode cX9_taxOf 32 = .ok (.imul, 1) := by decide +kernel
theorem dX9_taxOf_33 : decode cX9_taxOf 33 = .ok (.iadd, 1) := by decide +kernel
theorem dX9_taxOf_34 : decode cX9_taxOf 34 = .ok (.iaload, 1) := by decide +kernel
theorem dX9_taxOf_35 : decode cX9_taxOf 35 = .ok (.i2l, 1) := by decide +kernel
theorem dX9_taxOf_36 : decode cX9_taxOf 36 = .ok (.lload 7, 2) := by decide +kernel
theorem dX9_taxOf_38 : decode cX9_taxOf 38 = .ok (.lsub, 1) := by decide +kernel
theorem dX9_taxOf_39 : decode cX9_taxOf 39 = .ok (.lstore 10, 2) := by decide +kernel
theorem dX9_taxOf_41 : decode cX9_taxOf 41 = .ok (.lload 5, 2) := by decide +kernel
theorem dX9_taxOf_43 : decode cX9_taxOf 43 = .ok (.lload 10, 2) := by decide +kernel
theorem dX9_taxOf_45 : decode cX9_taxOf 45 = .ok (.lcmp, 1) := by decide +kernel
theorem dX9_taxOf_46 : decode cX9_taxOf 46 = .ok (.ifCond .ge 8, 3) := by decide +kernel
theorem dX9_taxOf_49 : decode cX9_taxOf 49 = .ok (.lload 5, 2) := by decide +kernel
theorem dX9_taxOf_51 : decode cX9_taxOf 51 = .ok (.goto 5, 3) := by decide +kernel
theorem dX9_taxOf_54 : decode cX9_taxOf 54 = .ok (.lload 10, 2) := by decide +kernel
theorem dX9_taxOf_56 : decode cX9_taxOf 56 = .ok (.lstore 12, 2) := by decide +kernel
theorem dX9_taxOf_58 : decode cX9_taxOf 58 = .ok (.lload_n 3, 1) := by decide +kernel
theorem dX9_taxOf_59 : decode cX9_taxOf 59 = .ok (.lload 12, 2) := by decide +kernel
theorem dX9_taxOf_61 : decode cX9_taxOf 61 = .ok (.aload_n 0, 1) := by decide +kernel
theorem dX9_taxOf_62 : decode cX9_taxOf 62 = .ok (.getfield 64, 3) := by decide +kernel
theorem dX9_taxOf_65 : decode cX9_taxOf 65 = .ok (.bipush 14, 2) := by decide +kernel
theorem dX9_taxOf_67 : decode cX9_taxOf 67 = .ok (.iconst 2, 1) := by decide +kernel
theorem dX9_taxOf_68 : decode cX9_taxOf 68 = .ok (.iload 9, 2) := by decide +kernel
theorem dX9_taxOf_70 : decode cX9_taxOf 70 = .ok (.imul, 1) := by decide +kernel
theorem dX9_taxOf_71 : decode cX9_taxOf 71 = .ok (.iadd, 1) := by decide +kernel
theorem dX9_taxOf_72 : decode cX9_taxOf 72 = .ok (.iconst 1, 1) := by decide +kernel
theorem dX9_taxOf_73 : decode cX9_taxOf 73 = .ok (.iadd, 1) := by decide +kernel
theorem dX9_taxOf_74 : decode cX9_taxOf 74 = .ok (.iaload, 1) := by decide +kernel
theorem dX9_taxOf_75 : decode cX9_taxOf 75 = .ok (.i2l, 1) := by decide +kernel
theorem dX9_taxOf_76 : decode cX9_taxOf 76 = .ok (.lmul, 1) := by decide +kernel
theorem dX9_taxOf_77 : decode cX9_taxOf 77 = .ok (.ladd, 1) := by decide +kernel
theorem dX9_taxOf_78 : decode cX9_taxOf 78 = .ok (.lstore_n 3, 1) := by decide +kernel
theorem dX9_taxOf_79 : decode cX9_taxOf 79 = .ok (.lload 5, 2) := by decide +kernel
theorem dX9_taxOf_81 : decode cX9_taxOf 81 = .ok (.lload 12, 2) := by decide +kernel
theorem dX9_taxOf_83 : decode cX9_taxOf 83 = .ok (.lsub, 1) := by decide +kernel
theorem dX9_taxOf_84 : decode cX9_taxOf 84 = .ok (.lstore 5, 2) := by decide +kernel
theorem dX9_taxOf_86 : decode cX9_taxOf 86 = .ok (.aload_n 0, 1) := by decide +kernel
theorem dX9_taxOf_87 : decode cX9_taxOf 87 = .ok (.getfield 64, 3) := by decide +kernel
theorem dX9_taxOf_90 : decode cX9_taxOf 90 = .ok (.bipush 14, 2) := by decide +kernel
theorem dX9_taxOf_92 : decode cX9_taxOf 92 = .ok (.iconst 2, 1) := by decide +kernel
theorem dX9_taxOf_93 : decode cX9_taxOf 93 = .ok (.iload 9, 2) := by decide +kernel
theorem dX9_taxOf_95 : decode cX9_taxOf 95 = .ok (.imul, 1) := by decide +kernel
theorem dX9_taxOf_96 : decode cX9_taxOf 96 = .ok (.iadd, 1) := by decide +kernel
theorem dX9_taxOf_97 : decode cX9_taxOf 97 = .ok (.iaload, 1) := by decide +kernel
theorem dX9_taxOf_98 : decode cX9_taxOf 98 = .ok (.i2l, 1) := by decide +kernel
theorem dX9_taxOf_99 : decode cX9_taxOf 99 = .ok (.lstore 7, 2) := by decide +kernel
theorem dX9_taxOf_101 : decode cX9_taxOf 101 = .ok (.iinc 9 1, 3) := by decide +kernel
theorem dX9_taxOf_104 : decode cX9_taxOf 104 = .ok (.goto (-93), 3) := by decide +kernel
theorem dX9_taxOf_107 : decode cX9_taxOf 107 = .ok (.aload_n 0, 1) := by decide +kernel
theorem dX9_taxOf_108 : decode cX9_taxOf 108 = .ok (.getfield 64, 3) := by decide +kernel
theorem dX9_taxOf_111 : decode cX9_taxOf 111 = .ok (.bipush 22, 2) := by decide +kernel
theorem dX9_taxOf_113 : decode cX9_taxOf 113 = .ok (.iaload, 1) := by decide +kernel
theorem dX9_taxOf_114 : decode cX9_taxOf 114 = .ok (.ifCond .le 19, 3) := by decide +kernel
theorem dX9_taxOf_117 : decode cX9_taxOf 117 = .ok (.lload_n 3, 1) := by decide +kernel
theorem dX9_taxOf_118 : decode cX9_taxOf 118 = .ok (.lload 5, 2) := by decide +kernel
theorem dX9_taxOf_120 : decode cX9_taxOf 120 = .ok (.aload_n 0, 1) := by decide +kernel
theorem dX9_taxOf_121 : decode cX9_taxOf 121 = .ok (.getfield 64, 3) := by decide +kernel
theorem dX9_taxOf_124 : decode cX9_taxOf 124 = .ok (.bipush 22, 2) := by decide +kernel
theorem dX9_taxOf_126 : decode cX9_taxOf 126 = .ok (.iaload, 1) := by decide +kernel
theorem dX9_taxOf_127 : decode cX9_taxOf 127 = .ok (.iconst 1, 1) := by decide +kernel
theorem dX9_taxOf_128 : decode cX9_taxOf 128 = .ok (.isub, 1) := by decide +kernel
theorem dX9_taxOf_129 : decode cX9_taxOf 129 = .ok (.i2l, 1) := by decide +kernel
theorem dX9_taxOf_130 : decode cX9_taxOf 130 = .ok (.lmul, 1) := by decide +kernel
theorem dX9_taxOf_131 : decode cX9_taxOf 131 = .ok (.ladd, 1) := by decide +kernel
theorem dX9_taxOf_132 : decode cX9_taxOf 132 = .ok (.lstore_n 3, 1) := by decide +kernel
theorem dX9_taxOf_133 : decode cX9_taxOf 133 = .ok (.lload_n 3, 1) := by decide +kernel
theorem dX9_taxOf_134 : decode cX9_taxOf 134 = .ok (.ldc2_w 132, 3) := by decide +kernel
theorem dX9_taxOf_137 : decode cX9_taxOf 137 = .ok (.ldiv, 1) := by decide +kernel
theorem dX9_taxOf_138 : decode cX9_taxOf 138 = .ok (.l2i, 1) := by decide +kernel
theorem dX9_taxOf_139 : decode cX9_taxOf 139 = .ok (.ireturn, 1) := by decide +kernel
set_option maxRecDepth 20000 in
theorem ggX9_yearly_X9_upTo : GoodIn wsX9_yearly wsX9_upTo := goodIn_r _ [7, 1, 8, 9, 10, 11, 12, 13, 14, 15, 16, 17, 18, 19, 20, 21, 22, 23, 24, 25, 26, 27] rfl (by decide +kernel)
set_option maxRecDepth 20000 in
theorem gX9_yearly_X9_upTo : GoodIn wsX9_yearly (wsV RX9 128 RX9 yX9_upTo wsX9_upTo) := goodIn_app (goodIn_r _ [3, 4, 5, 6] rfl (by decide +kernel)) ggX9_yearly_X9_upTo
theorem dX9_yearly_0 : decode cX9_yearly 0 = .ok (.aload_n 0, 1) := by decide +kernel
theorem dX9_yearly_1 : decode cX9_yearly 1 = .ok (.bipush 36, 2) := by decide +kernel
theorem dX9_yearly_3 : decode cX9_yearly 3 = .ok (.aload_n 0, 1) := by decide +kernel
theorem dX9_yearly_4 : decode cX9_yearly 4 = .ok (.getfield 64, 3) := by decide +kernel
theorem dX9_yearly_7 : decode cX9_yearly 7 = .ok (.bipush 7, 2) := by decide +kernel
theorem dX9_yearly_9 : decode cX9_yearly 9 = .ok (.iload_n 1, 1) := by decide +kernel
theorem dX9_yearly_10 : decode cX9_yearly 10 = .ok (.iadd, 1) := by decide +kernel
theorem dX9_yearly_11 : decode cX9_yearly 11 = .ok (.iaload, 1) := by decide +kernel
theorem dX9_yearly_12 : decode cX9_yearly 12 = .ok (.invokevirtual 128, 3) := by decide +kernel
theorem dX9_yearly_15 : decode cX9_yearly 15 = .ok (.i2l, 1) := by decide +kernel
theorem dX9_yearly_16 : decode cX9_yearly 16 = .ok (.ldc2_w 134, 3) := by decide +kernel
theorem dX9_yearly_19 : decode cX9_yearly 19 = .ok (.lmul, 1) := by decide +kernel
theorem dX9_yearly_20 : decode cX9_yearly 20 = .ok (.aload_n 0, 1) := by decide +kernel
theorem dX9_yearly_21 : decode cX9_yearly 21 = .ok (.getfield 64, 3) := by decide +kernel
theorem dX9_yearly_24 : decode cX9_yearly 24 = .ok (.bipush 7, 2) := by decide +kernel
theorem dX9_yearly_26 : decode cX9_yearly 26 = .ok (.iload_n 1, 1) := by decide +kernel
theorem dX9_yearly_27 : decode cX9_yearly 27 = .ok (.iadd, 1) := by decide +kernel
theorem dX9_yearly_28 : decode cX9_yearly 28 = .ok (.iaload, 1) := by decide +kernel
theorem dX9_yearly_29 : decode cX9_yearly 29 = .ok (.iconst 1, 1) := by decide +kernel
theorem dX9_yearly_30 : decode cX9_yearly 30 = .ok (.iadd, 1) := by decide +kernel
theorem dX9_yearly_31 : decode cX9_yearly 31 = .ok (.i2l, 1) := by decide +kernel
theorem dX9_yearly_32 : decode cX9_yearly 32 = .ok (.ldiv, 1) := by decide +kernel
theorem dX9_yearly_33 : decode cX9_yearly 33 = .ok (.l2i, 1) := by decide +kernel
theorem dX9_yearly_34 : decode cX9_yearly 34 = .ok (.ireturn, 1) := by decide +kernel
set_option maxRecDepth 20000 in
theorem ggX9_sumBy_X9_allIncome : GoodIn wsX9_sumBy wsX9_allIncome := goodIn_r _ [7, 8, 9, 10, 6, 11, 1, 22, 23, 24, 25, 26, 27, 28, 29, 30, 31, 32, 33, 34, 35, 36, 37, 38, 39, 40, 41] rfl (by decide +kernel)
set_option maxRecDepth 20000 in
theorem gX9_sumBy_X9_allIncome : GoodIn wsX9_sumBy (wsV RX9 136 RX9 yX9_allIncome wsX9_allIncome) := goodIn_app (goodIn_r _ [3, 4, 5, 6] rfl (by decide +kernel)) ggX9_sumBy_X9_allIncome
set_option maxRecDepth 20000 in
theorem ggX9_sumBy_X9_taxOf : GoodIn wsX9_sumBy wsX9_taxOf := goodIn_r _ [15, 1, 16, 22, 23, 24, 25, 26, 27, 28, 29, 30, 31, 32, 33, 34, 35, 36, 37, 38, 39, 40, 41] rfl (by decide +kernel)
set_option maxRecDepth 20000 in
theorem gX9_sumBy_X9_taxOf : GoodIn wsX9_sumBy (wsV RX9 140 RX9 yX9_taxOf wsX9_taxOf) := goodIn_app (goodIn_r _ [12, 13, 14, 6] rfl (by decide +kernel)) ggX9_sumBy_X9_taxOf
set_option maxRecDepth 20000 in
theorem ggX9_sumBy_X9_yearly : GoodIn wsX9_sumBy wsX9_yearly := goodIn_r _ [20, 1, 21, 8, 9, 10, 6, 11, 22, 23, 24, 25, 26, 27, 28, 29, 30, 31, 32, 33, 34, 35, 36, 37, 38, 39, 40, 41] rfl (by decide +kernel)
set_option maxRecDepth 20000 in
theorem gX9_sumBy_X9_yearly : GoodIn wsX9_sumBy (wsV RX9 144 RX9 yX9_yearly wsX9_yearly) := goodIn_app (goodIn_r _ [17, 18, 19, 6] rfl (by decide +kernel)) ggX9_sumBy_X9_yearly
theorem dX9_sumBy_0 : decode cX9_sumBy 0 = .ok (.iload_n 1, 1) := by decide +kernel
theorem dX9_sumBy_1 : decode cX9_sumBy 1 = .ok (.ifCond .ne 16, 3) := by decide +kernel
theorem dX9_sumBy_4 : decode cX9_sumBy 4 = .ok (.aload_n 0, 1) := by decide +kernel
theorem dX9_sumBy_5 : decode cX9_sumBy 5 = .ok (.aload_n 0, 1) := by decide +kernel
theorem dX9_sumBy_6 : decode cX9_sumBy 6 = .ok (.invokevirtual 136, 3) := by decide +kernel
theorem dX9_sumBy_9 : decode cX9_sumBy 9 = .ok (.i2l, 1) := by decide +kernel
theorem dX9_sumBy_10 : decode cX9_sumBy 10 = .ok (.invokevirtual 140, 3) := by decide +kernel
theorem dX9_sumBy_13 : decode cX9_sumBy 13 = .ok (.i2l, 1) := by decide +kernel
theorem dX9_sumBy_14 : decode cX9_sumBy 14 = .ok (.goto 29, 3) := by decide +kernel
theorem dX9_sumBy_17 : decode cX9_sumBy 17 = .ok (.iload_n 1, 1) := by decide +kernel
theorem dX9_sumBy_18 : decode cX9_sumBy 18 = .ok (.iconst 1, 1) := by decide +kernel
theorem dX9_sumBy_19 : decode cX9_sumBy 19 = .ok (.if_icmp .ne 13, 3) := by decide +kernel
theorem dX9_sumBy_22 : decode cX9_sumBy 22 = .ok (.aload_n 0, 1) := by decide +kernel
theorem dX9_sumBy_23 : decode cX9_sumBy 23 = .ok (.getfield 64, 3) := by decide +kernel
theorem dX9_sumBy_26 : decode cX9_sumBy 26 = .ok (.iconst 0, 1) := by decide +kernel
theorem dX9_sumBy_27 : decode cX9_sumBy 27 = .ok (.iaload, 1) := by decide +kernel
theorem dX9_sumBy_28 : decode cX9_sumBy 28 = .ok (.i2l, 1) := by decide +kernel
theorem dX9_sumBy_29 : decode cX9_sumBy 29 = .ok (.goto 14, 3) := by decide +kernel
theorem dX9_sumBy_32 : decode cX9_sumBy 32 = .ok (.aload_n 0, 1) := by decide +kernel
theorem dX9_sumBy_33 : decode cX9_sumBy 33 = .ok (.aload_n 0, 1) := by decide +kernel
theorem dX9_sumBy_34 : decode cX9_sumBy 34 = .ok (.iload_n 2, 1) := by decide +kernel
theorem dX9_sumBy_35 : decode cX9_sumBy 35 = .ok (.invokevirtual 144, 3) := by decide +kernel
theorem dX9_sumBy_38 : decode cX9_sumBy 38 = .ok (.i2l, 1) := by decide +kernel
theorem dX9_sumBy_39 : decode cX9_sumBy 39 = .ok (.invokevirtual 140, 3) := by decide +kernel
theorem dX9_sumBy_42 : decode cX9_sumBy 42 = .ok (.i2l, 1) := by decide +kernel
theorem dX9_sumBy_43 : decode cX9_sumBy 43 = .ok (.lstore_n 3, 1) := by decide +kernel
theorem dX9_sumBy_44 : decode cX9_sumBy 44 = .ok (.lload_n 3, 1) := by decide +kernel
theorem dX9_sumBy_45 : decode cX9_sumBy 45 = .ok (.aload_n 0, 1) := by decide +kernel
theorem dX9_sumBy_46 : decode cX9_sumBy 46 = .ok (.getfield 64, 3) := by decide +kernel
theorem dX9_sumBy_49 : decode cX9_sumBy 49 = .ok (.bipush 11, 2) := by decide +kernel
theorem dX9_sumBy_51 : decode cX9_sumBy 51 = .ok (.iload_n 1, 1) := by decide +kernel
theorem dX9_sumBy_52 : decode cX9_sumBy 52 = .ok (.iconst 1, 1) := by decide +kernel
theorem dX9_sumBy_53 : decode cX9_sumBy 53 = .ok (.if_icmp .ne 7, 3) := by decide +kernel
theorem dX9_sumBy_56 : decode cX9_sumBy 56 = .ok (.iconst 1, 1) := by decide +kernel
theorem dX9_sumBy_57 : decode cX9_sumBy 57 = .ok (.goto 4, 3) := by decide +kernel
theorem dX9_sumBy_60 : decode cX9_sumBy 60 = .ok (.iconst 0, 1) := by decide +kernel
theorem dX9_sumBy_61 : decode cX9_sumBy 61 = .ok (.iadd, 1) := by decide +kernel
theorem dX9_sumBy_62 : decode cX9_sumBy 62 = .ok (.iaload, 1) := by decide +kernel
theorem dX9_sumBy_63 : decode cX9_sumBy 63 = .ok (.i2l, 1) := by decide +kernel
theorem dX9_sumBy_64 : decode cX9_sumBy 64 = .ok (.lmul, 1) := by decide +kernel
theorem dX9_sumBy_65 : decode cX9_sumBy 65 = .ok (.iload_n 2, 1) := by decide +kernel
theorem dX9_sumBy_66 : decode cX9_sumBy 66 = .ok (.iconst 1, 1) := by decide +kernel
theorem dX9_sumBy_67 : decode cX9_sumBy 67 = .ok (.iadd, 1) := by decide +kernel
theorem dX9_sumBy_68 : decode cX9_sumBy 68 = .ok (.i2l, 1) := by decide +kernel
theorem dX9_sumBy_69 : decode cX9_sumBy 69 = .ok (.lmul, 1) := by decide +kernel
theorem dX9_sumBy_70 : decode cX9_sumBy 70 = .ok (.ldc2_w 147, 3) := by decide +kernel
theorem dX9_sumBy_73 : decode cX9_sumBy 73 = .ok (.ldiv, 1) := by decide +kernel
theorem dX9_sumBy_74 : decode cX9_sumBy 74 = .ok (.l2i, 1) := by decide +kernel
theorem dX9_sumBy_75 : decode cX9_sumBy 75 = .ok (.ireturn, 1) := by decide +kernel
set_option maxRecDepth 20000 in
theorem ggX9_leastRule_X9_has : GoodIn wsX9_leastRule wsX9_has := goodIn_r _ [4] rfl (by decide +kernel)
set_option maxRecDepth 20000 in
theorem gX9_leastRule_X9_has : GoodIn wsX9_leastRule (va_wsS RX9 149 yX9_has wsX9_has) := goodIn_app (goodIn_r _ [1, 2, 3] rfl (by decide +kernel)) ggX9_leastRule_X9_has
set_option maxRecDepth 20000 in
theorem ggX9_leastRule_X9_sumBy : GoodIn wsX9_leastRule wsX9_sumBy := goodIn_r _ [8, 9, 10, 11, 12, 13, 3, 14, 15, 16, 17, 18, 19, 20, 21, 22, 23, 24, 25, 26, 27, 28, 29, 30, 31, 32, 33, 34, 35, 36, 37, 38, 39, 40, 41, 42, 43, 44, 45, 46, 47, 48] rfl (by decide +kernel)
set_option maxRecDepth 20000 in
theorem gX9_leastRule_X9_sumBy : GoodIn wsX9_leastRule (wsV RX9 153 RX9 yX9_sumBy wsX9_sumBy) := goodIn_app (goodIn_r _ [5, 6, 7, 3] rfl (by decide +kernel)) ggX9_leastRule_X9_sumBy
theorem dX9_leastRule_0 : decode cX9_leastRule 0 = .ok (.iconst (-1), 1) := by decide +kernel
theorem dX9_leastRule_1 : decode cX9_leastRule 1 = .ok (.istore_n 3, 1) := by decide +kernel
theorem dX9_leastRule_2 : decode cX9_leastRule 2 = .ok (.iconst 0, 1) := by decide +kernel
theorem dX9_leastRule_3 : decode cX9_leastRule 3 = .ok (.istore 4, 2) := by decide +kernel
theorem dX9_leastRule_5 : decode cX9_leastRule 5 = .ok (.iload 4, 2) := by decide +kernel
theorem dX9_leastRule_7 : decode cX9_leastRule 7 = .ok (.iconst 3, 1) := by decide +kernel
theorem dX9_leastRule_8 : decode cX9_leastRule 8 = .ok (.if_icmp .ge 42, 3) := by decide +kernel
theorem dX9_leastRule_11 : decode cX9_leastRule 11 = .ok (.iload_n 2, 1) := by decide +kernel
theorem dX9_leastRule_12 : decode cX9_leastRule 12 = .ok (.iload 4, 2) := by decide +kernel
theorem dX9_leastRule_14 : decode cX9_leastRule 14 = .ok (.invokestatic 149, 3) := by decide +kernel
theorem dX9_leastRule_17 : decode cX9_leastRule 17 = .ok (.ifCond .ne 27, 3) := by decide +kernel
theorem dX9_leastRule_20 : decode cX9_leastRule 20 = .ok (.iload_n 3, 1) := by decide +kernel
theorem dX9_leastRule_21 : decode cX9_leastRule 21 = .ok (.iconst (-1), 1) := by decide +kernel
theorem dX9_leastRule_22 : decode cX9_leastRule 22 = .ok (.if_icmp .eq 19, 3) := by decide +kernel
theorem dX9_leastRule_25 : decode cX9_leastRule 25 = .ok (.aload_n 0, 1) := by decide +kernel
theorem dX9_leastRule_26 : decode cX9_leastRule 26 = .ok (.iload 4, 2) := by decide +kernel
theorem dX9_leastRule_28 : decode cX9_leastRule 28 = .ok (.iload_n 1, 1) := by decide +kernel
theorem dX9_leastRule_29 : decode cX9_leastRule 29 = .ok (.invokevirtual 153, 3) := by decide +kernel
theorem dX9_leastRule_32 : decode cX9_leastRule 32 = .ok (.aload_n 0, 1) := by decide +kernel
theorem dX9_leastRule_33 : decode cX9_leastRule 33 = .ok (.iload_n 3, 1) := by decide +kernel
theorem dX9_leastRule_34 : decode cX9_leastRule 34 = .ok (.iload_n 1, 1) := by decide +kernel
theorem dX9_leastRule_35 : decode cX9_leastRule 35 = .ok (.invokevirtual 153, 3) := by decide +kernel
theorem dX9_leastRule_38 : decode cX9_leastRule 38 = .ok (.if_icmp .ge 6, 3) := by decide +kernel
theorem dX9_leastRule_41 : decode cX9_leastRule 41 = .ok (.iload 4, 2) := by decide +kernel
theorem dX9_leastRule_43 : decode cX9_leastRule 43 = .ok (.istore_n 3, 1) := by decide +kernel
theorem dX9_leastRule_44 : decode cX9_leastRule 44 = .ok (.iinc 4 1, 3) := by decide +kernel
theorem dX9_leastRule_47 : decode cX9_leastRule 47 = .ok (.goto (-42), 3) := by decide +kernel
theorem dX9_leastRule_50 : decode cX9_leastRule 50 = .ok (.iload_n 3, 1) := by decide +kernel
theorem dX9_leastRule_51 : decode cX9_leastRule 51 = .ok (.ireturn, 1) := by decide +kernel
set_option maxRecDepth 20000 in
theorem ggX9_laysInstalments_X9_leastRule : GoodIn wsX9_laysInstalments wsX9_leastRule := goodIn_r _ [6, 7, 8, 5, 9, 10, 11, 12, 13, 14, 15, 16, 17, 18, 19, 20, 21, 22, 23, 24, 25, 26, 27, 28, 29, 30, 31, 32, 33, 34, 35, 36, 37, 38, 39, 40, 41, 42, 43, 44, 45, 46, 47, 48, 49, 50, 51, 52, 53] rfl (by decide +kernel)
set_option maxRecDepth 20000 in
theorem gX9_laysInstalments_X9_leastRule : GoodIn wsX9_laysInstalments (wsV RX9 156 RX9 yX9_leastRule wsX9_leastRule) := goodIn_app (goodIn_r _ [2, 3, 4, 5] rfl (by decide +kernel)) ggX9_laysInstalments_X9_leastRule
set_option maxRecDepth 20000 in
theorem ggX9_laysInstalments_X9_sumBy : GoodIn wsX9_laysInstalments wsX9_sumBy := goodIn_r _ [13, 14, 15, 16, 17, 18, 5, 19, 20, 21, 22, 23, 24, 25, 26, 27, 28, 29, 30, 31, 32, 33, 34, 35, 36, 37, 38, 39, 40, 41, 42, 43, 44, 45, 46, 47, 48, 49, 50, 51, 52, 53] rfl (by decide +kernel)
set_option maxRecDepth 20000 in
theorem gX9_laysInstalments_X9_sumBy : GoodIn wsX9_laysInstalments (wsV RX9 153 RX9 yX9_sumBy wsX9_sumBy) := goodIn_app (goodIn_r _ [10, 11, 12, 5] rfl (by decide +kernel)) ggX9_laysInstalments_X9_sumBy
theorem dX9_laysInstalments_0 : decode cX9_laysInstalments 0 = .ok (.iconst 0, 1) := by decide +kernel
theorem dX9_laysInstalments_1 : decode cX9_laysInstalments 1 = .ok (.istore_n 2, 1) := by decide +kernel
theorem dX9_laysInstalments_2 : decode cX9_laysInstalments 2 = .ok (.iconst 0, 1) := by decide +kernel
theorem dX9_laysInstalments_3 : decode cX9_laysInstalments 3 = .ok (.istore_n 3, 1) := by decide +kernel
theorem dX9_laysInstalments_4 : decode cX9_laysInstalments 4 = .ok (.iload_n 3, 1) := by decide +kernel
theorem dX9_laysInstalments_5 : decode cX9_laysInstalments 5 = .ok (.iconst 4, 1) := by decide +kernel
theorem dX9_laysInstalments_6 : decode cX9_laysInstalments 6 = .ok (.if_icmp .ge 50, 3) := by decide +kernel
theorem dX9_laysInstalments_9 : decode cX9_laysInstalments 9 = .ok (.aload_n 0, 1) := by decide +kernel
theorem dX9_laysInstalments_10 : decode cX9_laysInstalments 10 = .ok (.aload_n 0, 1) := by decide +kernel
theorem dX9_laysInstalments_11 : decode cX9_laysInstalments 11 = .ok (.iload_n 3, 1) := by decide +kernel
theorem dX9_laysInstalments_12 : decode cX9_laysInstalments 12 = .ok (.iload_n 1, 1) := by decide +kernel
theorem dX9_laysInstalments_13 : decode cX9_laysInstalments 13 = .ok (.invokevirtual 156, 3) := by decide +kernel
theorem dX9_laysInstalments_16 : decode cX9_laysInstalments 16 = .ok (.iload_n 3, 1) := by decide +kernel
theorem dX9_laysInstalments_17 : decode cX9_laysInstalments 17 = .ok (.invokevirtual 153, 3) := by decide +kernel
theorem dX9_laysInstalments_20 : decode cX9_laysInstalments 20 = .ok (.iload_n 2, 1) := by decide +kernel
theorem dX9_laysInstalments_21 : decode cX9_laysInstalments 21 = .ok (.isub, 1) := by decide +kernel
theorem dX9_laysInstalments_22 : decode cX9_laysInstalments 22 = .ok (.istore 4, 2) := by decide +kernel
theorem dX9_laysInstalments_24 : decode cX9_laysInstalments 24 = .ok (.aload_n 0, 1) := by decide +kernel
theorem dX9_laysInstalments_25 : decode cX9_laysInstalments 25 = .ok (.getfield 73, 3) := by decide +kernel
theorem dX9_laysInstalments_28 : decode cX9_laysInstalments 28 = .ok (.iload_n 3, 1) := by decide +kernel
theorem dX9_laysInstalments_29 : decode cX9_laysInstalments 29 = .ok (.iload 4, 2) := by decide +kernel
theorem dX9_laysInstalments_31 : decode cX9_laysInstalments 31 = .ok (.ifCond .le 8, 3) := by decide +kernel
theorem dX9_laysInstalments_34 : decode cX9_laysInstalments 34 = .ok (.iload 4, 2) := by decide +kernel
theorem dX9_laysInstalments_36 : decode cX9_laysInstalments 36 = .ok (.goto 4, 3) := by decide +kernel
theorem dX9_laysInstalments_39 : decode cX9_laysInstalments 39 = .ok (.iconst 0, 1) := by decide +kernel
theorem dX9_laysInstalments_40 : decode cX9_laysInstalments 40 = .ok (.iastore, 1) := by decide +kernel
theorem dX9_laysInstalments_41 : decode cX9_laysInstalments 41 = .ok (.iload_n 2, 1) := by decide +kernel
theorem dX9_laysInstalments_42 : decode cX9_laysInstalments 42 = .ok (.aload_n 0, 1) := by decide +kernel
theorem dX9_laysInstalments_43 : decode cX9_laysInstalments 43 = .ok (.getfield 73, 3) := by decide +kernel
theorem dX9_laysInstalments_46 : decode cX9_laysInstalments 46 = .ok (.iload_n 3, 1) := by decide +kernel
theorem dX9_laysInstalments_47 : decode cX9_laysInstalments 47 = .ok (.iaload, 1) := by decide +kernel
theorem dX9_laysInstalments_48 : decode cX9_laysInstalments 48 = .ok (.iadd, 1) := by decide +kernel
theorem dX9_laysInstalments_49 : decode cX9_laysInstalments 49 = .ok (.istore_n 2, 1) := by decide +kernel
theorem dX9_laysInstalments_50 : decode cX9_laysInstalments 50 = .ok (.iinc 3 1, 3) := by decide +kernel
theorem dX9_laysInstalments_53 : decode cX9_laysInstalments 53 = .ok (.goto (-49), 3) := by decide +kernel
theorem dX9_laysInstalments_56 : decode cX9_laysInstalments 56 = .ok (.return_, 1) := by decide +kernel
set_option maxRecDepth 20000 in
theorem ggX9_laysInstalments__X9_laysInstalments : GoodIn wsX9_laysInstalments_ wsX9_laysInstalments := goodIn_r _ [6, 7, 8, 9, 10, 5, 11, 12, 13, 14, 15, 16, 17, 18, 1, 19, 20, 21, 22, 23, 24, 25, 26, 27, 28, 29, 30, 31, 32, 33, 34, 35, 36, 37, 38, 39, 40, 41, 42, 43, 44, 45, 46, 47, 48, 49, 50, 51, 52, 53, 54, 55, 56, 57] rfl (by decide +kernel)
set_option maxRecDepth 20000 in
theorem gX9_laysInstalments__X9_laysInstalments : GoodIn wsX9_laysInstalments_ (wsV RX9 159 RX9 yX9_laysInstalments wsX9_laysInstalments) := goodIn_app (goodIn_r _ [2, 3, 4, 5] rfl (by decide +kernel)) ggX9_laysInstalments__X9_laysInstalments
theorem dX9_laysInstalments__0 : decode cX9_laysInstalments_ 0 = .ok (.aload_n 0, 1) := by decide +kernel
theorem dX9_laysInstalments__1 : decode cX9_laysInstalments_ 1 = .ok (.aload_n 0, 1) := by decide +kernel
theorem dX9_laysInstalments__2 : decode cX9_laysInstalments_ 2 = .ok (.getfield 64, 3) := by decide +kernel
theorem dX9_laysInstalments__5 : decode cX9_laysInstalments_ 5 = .ok (.sipush 239, 3) := by decide +kernel
theorem dX9_laysInstalments__8 : decode cX9_laysInstalments_ 8 = .ok (.iaload, 1) := by decide +kernel
theorem dX9_laysInstalments__9 : decode cX9_laysInstalments_ 9 = .ok (.invokevirtual 159, 3) := by decide +kernel
theorem dX9_laysInstalments__12 : decode cX9_laysInstalments_ 12 = .ok (.return_, 1) := by decide +kernel
set_option maxRecDepth 20000 in
theorem ggX9_paidAt_X9_upTo : GoodIn wsX9_paidAt wsX9_upTo := goodIn_r _ [6, 1, 7, 8, 9, 10, 11, 12, 13, 14, 15, 16, 17, 18, 19, 20, 21, 22, 23, 24, 25, 26] rfl (by decide +kernel)
set_option maxRecDepth 20000 in
theorem gX9_paidAt_X9_upTo : GoodIn wsX9_paidAt (wsV RX9 128 RX9 yX9_upTo wsX9_upTo) := goodIn_app (goodIn_r _ [2, 3, 4, 5] rfl (by decide +kernel)) ggX9_paidAt_X9_upTo
theorem dX9_paidAt_0 : decode cX9_paidAt 0 = .ok (.aload_n 0, 1) := by decide +kernel
theorem dX9_paidAt_1 : decode cX9_paidAt 1 = .ok (.getfield 64, 3) := by decide +kernel
theorem dX9_paidAt_4 : decode cX9_paidAt 4 = .ok (.iconst 1, 1) := by decide +kernel
theorem dX9_paidAt_5 : decode cX9_paidAt 5 = .ok (.iaload, 1) := by decide +kernel
theorem dX9_paidAt_6 : decode cX9_paidAt 6 = .ok (.aload_n 0, 1) := by decide +kernel
theorem dX9_paidAt_7 : decode cX9_paidAt 7 = .ok (.bipush 117, 2) := by decide +kernel
theorem dX9_paidAt_9 : decode cX9_paidAt 9 = .ok (.iload_n 1, 1) := by decide +kernel
theorem dX9_paidAt_10 : decode cX9_paidAt 10 = .ok (.invokevirtual 128, 3) := by decide +kernel
theorem dX9_paidAt_13 : decode cX9_paidAt 13 = .ok (.iadd, 1) := by decide +kernel
theorem dX9_paidAt_14 : decode cX9_paidAt 14 = .ok (.aload_n 0, 1) := by decide +kernel
theorem dX9_paidAt_15 : decode cX9_paidAt 15 = .ok (.sipush 198, 3) := by decide +kernel
theorem dX9_paidAt_18 : decode cX9_paidAt 18 = .ok (.iload_n 1, 1) := by decide +kernel
theorem dX9_paidAt_19 : decode cX9_paidAt 19 = .ok (.invokevirtual 128, 3) := by decide +kernel
theorem dX9_paidAt_22 : decode cX9_paidAt 22 = .ok (.isub, 1) := by decide +kernel
theorem dX9_paidAt_23 : decode cX9_paidAt 23 = .ok (.ireturn, 1) := by decide +kernel
set_option maxRecDepth 20000 in
theorem ggX9_laysDays_X9_paidAt : GoodIn wsX9_laysDays wsX9_paidAt := goodIn_r _ [7, 8, 9, 10, 11, 6, 12, 17, 18, 19, 20, 21, 22, 23, 24, 25, 26, 27, 28, 29, 30, 31, 32, 33, 34, 35, 36] rfl (by decide +kernel)
set_option maxRecDepth 20000 in
theorem gX9_laysDays_X9_paidAt : GoodIn wsX9_laysDays (wsV RX9 162 RX9 yX9_paidAt wsX9_paidAt) := goodIn_app (goodIn_r _ [3, 4, 5, 6] rfl (by decide +kernel)) ggX9_laysDays_X9_paidAt
set_option maxRecDepth 20000 in
theorem ggX9_laysDays_X9_rateOf : GoodIn wsX9_laysDays wsX9_rateOf := goodIn_r _ [16, 8, 17, 18, 19, 20, 21, 22, 23, 24, 25, 26, 27, 28, 29, 30, 31, 32, 33, 34, 35, 36] rfl (by decide +kernel)
set_option maxRecDepth 20000 in
theorem gX9_laysDays_X9_rateOf : GoodIn wsX9_laysDays (wsV RX9 165 RX9 yX9_rateOf wsX9_rateOf) := goodIn_app (goodIn_r _ [13, 14, 15, 6] rfl (by decide +kernel)) ggX9_laysDays_X9_rateOf
theorem dX9_laysDays_0 : decode cX9_laysDays 0 = .ok (.iconst 0, 1) := by decide +kernel
theorem dX9_laysDays_1 : decode cX9_laysDays 1 = .ok (.istore_n 1, 1) := by decide +kernel
theorem dX9_laysDays_2 : decode cX9_laysDays 2 = .ok (.iload_n 1, 1) := by decide +kernel
theorem dX9_laysDays_3 : decode cX9_laysDays 3 = .ok (.sipush 500, 3) := by decide +kernel
theorem dX9_laysDays_6 : decode cX9_laysDays 6 = .ok (.if_icmp .ge 31, 3) := by decide +kernel
theorem dX9_laysDays_9 : decode cX9_laysDays 9 = .ok (.aload_n 0, 1) := by decide +kernel
theorem dX9_laysDays_10 : decode cX9_laysDays 10 = .ok (.getfield 76, 3) := by decide +kernel
theorem dX9_laysDays_13 : decode cX9_laysDays 13 = .ok (.iload_n 1, 1) := by decide +kernel
theorem dX9_laysDays_14 : decode cX9_laysDays 14 = .ok (.aload_n 0, 1) := by decide +kernel
theorem dX9_laysDays_15 : decode cX9_laysDays 15 = .ok (.iload_n 1, 1) := by decide +kernel
theorem dX9_laysDays_16 : decode cX9_laysDays 16 = .ok (.invokevirtual 162, 3) := by decide +kernel
theorem dX9_laysDays_19 : decode cX9_laysDays 19 = .ok (.iastore, 1) := by decide +kernel
theorem dX9_laysDays_20 : decode cX9_laysDays 20 = .ok (.aload_n 0, 1) := by decide +kernel
theorem dX9_laysDays_21 : decode cX9_laysDays 21 = .ok (.getfield 79, 3) := by decide +kernel
theorem dX9_laysDays_24 : decode cX9_laysDays 24 = .ok (.iload_n 1, 1) := by decide +kernel
theorem dX9_laysDays_25 : decode cX9_laysDays 25 = .ok (.aload_n 0, 1) := by decide +kernel
theorem dX9_laysDays_26 : decode cX9_laysDays 26 = .ok (.iload_n 1, 1) := by decide +kernel
theorem dX9_laysDays_27 : decode cX9_laysDays 27 = .ok (.invokevirtual 165, 3) := by decide +kernel
theorem dX9_laysDays_30 : decode cX9_laysDays 30 = .ok (.iastore, 1) := by decide +kernel
theorem dX9_laysDays_31 : decode cX9_laysDays 31 = .ok (.iinc 1 1, 3) := by decide +kernel
theorem dX9_laysDays_34 : decode cX9_laysDays 34 = .ok (.goto (-32), 3) := by decide +kernel
theorem dX9_laysDays_37 : decode cX9_laysDays 37 = .ok (.return_, 1) := by decide +kernel
theorem dX9_rateOf_0 : decode cX9_rateOf 0 = .ok (.iconst 0, 1) := by decide +kernel
theorem dX9_rateOf_1 : decode cX9_rateOf 1 = .ok (.istore_n 2, 1) := by decide +kernel
theorem dX9_rateOf_2 : decode cX9_rateOf 2 = .ok (.iconst 0, 1) := by decide +kernel
theorem dX9_rateOf_3 : decode cX9_rateOf 3 = .ok (.istore_n 3, 1) := by decide +kernel
theorem dX9_rateOf_4 : decode cX9_rateOf 4 = .ok (.iload_n 3, 1) := by decide +kernel
theorem dX9_rateOf_5 : decode cX9_rateOf 5 = .ok (.aload_n 0, 1) := by decide +kernel
theorem dX9_rateOf_6 : decode cX9_rateOf 6 = .ok (.getfield 64, 3) := by decide +kernel
theorem dX9_rateOf_9 : decode cX9_rateOf 9 = .ok (.bipush 23, 2) := by decide +kernel
theorem dX9_rateOf_11 : decode cX9_rateOf 11 = .ok (.iaload, 1) := by decide +kernel
theorem dX9_rateOf_12 : decode cX9_rateOf 12 = .ok (.if_icmp .ge 38, 3) := by decide +kernel
theorem dX9_rateOf_15 : decode cX9_rateOf 15 = .ok (.aload_n 0, 1) := by decide +kernel
theorem dX9_rateOf_16 : decode cX9_rateOf 16 = .ok (.getfield 64, 3) := by decide +kernel
theorem dX9_rateOf_19 : decode cX9_rateOf 19 = .ok (.bipush 24, 2) := by decide +kernel
theorem dX9_rateOf_21 : decode cX9_rateOf 21 = .ok (.iconst 2, 1) := by decide +kernel
theorem dX9_rateOf_22 : decode cX9_rateOf 22 = .ok (.iload_n 3, 1) := by decide +kernel
theorem dX9_rateOf_23 : decode cX9_rateOf 23 = .ok (.imul, 1) := by decide +kernel
theorem dX9_rateOf_24 : decode cX9_rateOf 24 = .ok (.iadd, 1) := by decide +kernel
theorem dX9_rateOf_25 : decode cX9_rateOf 25 = .ok (.iaload, 1) := by decide +kernel
theorem dX9_rateOf_26 : decode cX9_rateOf 26 = .ok (.iload_n 1, 1) := by decide +kernel
theorem dX9_rateOf_27 : decode cX9_rateOf 27 = .ok (.if_icmp .gt 17, 3) := by decide +kernel
theorem dX9_rateOf_30 : decode cX9_rateOf 30 = .ok (.aload_n 0, 1) := by decide +kernel
theorem dX9_rateOf_31 : decode cX9_rateOf 31 = .ok (.getfield 64, 3) := by decide +kernel
theorem dX9_rateOf_34 : decode cX9_rateOf 34 = .ok (.bipush 24, 2) := by decide +kernel
theorem dX9_rateOf_36 : decode cX9_rateOf 36 = .ok (.iconst 2, 1) := by decide +kernel
theorem dX9_rateOf_37 : decode cX9_rateOf 37 = .ok (.iload_n 3, 1) := by decide +kernel
theorem dX9_rateOf_38 : decode cX9_rateOf 38 = .ok (.imul, 1) := by decide +kernel
theorem dX9_rateOf_39 : decode cX9_rateOf 39 = .ok (.iadd, 1) := by decide +kernel
theorem dX9_rateOf_40 : decode cX9_rateOf 40 = .ok (.iconst 1, 1) := by decide +kernel
theorem dX9_rateOf_41 : decode cX9_rateOf 41 = .ok (.iadd, 1) := by decide +kernel
theorem dX9_rateOf_42 : decode cX9_rateOf 42 = .ok (.iaload, 1) := by decide +kernel
theorem dX9_rateOf_43 : decode cX9_rateOf 43 = .ok (.istore_n 2, 1) := by decide +kernel
theorem dX9_rateOf_44 : decode cX9_rateOf 44 = .ok (.iinc 3 1, 3) := by decide +kernel
theorem dX9_rateOf_47 : decode cX9_rateOf 47 = .ok (.goto (-43), 3) := by decide +kernel
theorem dX9_rateOf_50 : decode cX9_rateOf 50 = .ok (.iload_n 2, 1) := by decide +kernel
theorem dX9_rateOf_51 : decode cX9_rateOf 51 = .ok (.ireturn, 1) := by decide +kernel
theorem dX9_uncovered_0 : decode cX9_uncovered 0 = .ok (.iload_n 2, 1) := by decide +kernel
theorem dX9_uncovered_1 : decode cX9_uncovered 1 = .ok (.istore_n 3, 1) := by decide +kernel
theorem dX9_uncovered_2 : decode cX9_uncovered 2 = .ok (.iconst 0, 1) := by decide +kernel
theorem dX9_uncovered_3 : decode cX9_uncovered 3 = .ok (.istore 4, 2) := by decide +kernel
theorem dX9_uncovered_5 : decode cX9_uncovered 5 = .ok (.iload 4, 2) := by decide +kernel
theorem dX9_uncovered_7 : decode cX9_uncovered 7 = .ok (.iload_n 1, 1) := by decide +kernel
theorem dX9_uncovered_8 : decode cX9_uncovered 8 = .ok (.if_icmp .ge 19, 3) := by decide +kernel
theorem dX9_uncovered_11 : decode cX9_uncovered 11 = .ok (.iload_n 3, 1) := by decide +kernel
theorem dX9_uncovered_12 : decode cX9_uncovered 12 = .ok (.aload_n 0, 1) := by decide +kernel
theorem dX9_uncovered_13 : decode cX9_uncovered 13 = .ok (.getfield 73, 3) := by decide +kernel
theorem dX9_uncovered_16 : decode cX9_uncovered 16 = .ok (.iload 4, 2) := by decide +kernel
theorem dX9_uncovered_18 : decode cX9_uncovered 18 = .ok (.iaload, 1) := by decide +kernel
theorem dX9_uncovered_19 : decode cX9_uncovered 19 = .ok (.isub, 1) := by decide +kernel
theorem dX9_uncovered_20 : decode cX9_uncovered 20 = .ok (.istore_n 3, 1) := by decide +kernel
theorem dX9_uncovered_21 : decode cX9_uncovered 21 = .ok (.iinc 4 1, 3) := by decide +kernel
theorem dX9_uncovered_24 : decode cX9_uncovered 24 = .ok (.goto (-19), 3) := by decide +kernel
theorem dX9_uncovered_27 : decode cX9_uncovered 27 = .ok (.aload_n 0, 1) := by decide +kernel
theorem dX9_uncovered_28 : decode cX9_uncovered 28 = .ok (.getfield 73, 3) := by decide +kernel
theorem dX9_uncovered_31 : decode cX9_uncovered 31 = .ok (.iload_n 1, 1) := by decide +kernel
theorem dX9_uncovered_32 : decode cX9_uncovered 32 = .ok (.iaload, 1) := by decide +kernel
theorem dX9_uncovered_33 : decode cX9_uncovered 33 = .ok (.istore 4, 2) := by decide +kernel
theorem dX9_uncovered_35 : decode cX9_uncovered 35 = .ok (.iload_n 3, 1) := by decide +kernel
theorem dX9_uncovered_36 : decode cX9_uncovered 36 = .ok (.ifCond .gt 8, 3) := by decide +kernel
theorem dX9_uncovered_39 : decode cX9_uncovered 39 = .ok (.iload 4, 2) := by decide +kernel
theorem dX9_uncovered_41 : decode cX9_uncovered 41 = .ok (.goto 17, 3) := by decide +kernel
theorem dX9_uncovered_44 : decode cX9_uncovered 44 = .ok (.iload_n 3, 1) := by decide +kernel
theorem dX9_uncovered_45 : decode cX9_uncovered 45 = .ok (.iload 4, 2) := by decide +kernel
theorem dX9_uncovered_47 : decode cX9_uncovered 47 = .ok (.if_icmp .lt 7, 3) := by decide +kernel
theorem dX9_uncovered_50 : decode cX9_uncovered 50 = .ok (.iconst 0, 1) := by decide +kernel
theorem dX9_uncovered_51 : decode cX9_uncovered 51 = .ok (.goto 7, 3) := by decide +kernel
theorem dX9_uncovered_54 : decode cX9_uncovered 54 = .ok (.iload 4, 2) := by decide +kernel
theorem dX9_uncovered_56 : decode cX9_uncovered 56 = .ok (.iload_n 3, 1) := by decide +kernel
theorem dX9_uncovered_57 : decode cX9_uncovered 57 = .ok (.isub, 1) := by decide +kernel
theorem dX9_uncovered_58 : decode cX9_uncovered 58 = .ok (.ireturn, 1) := by decide +kernel
set_option maxRecDepth 20000 in
theorem ggX9_costOf_X9_uncovered : GoodIn wsX9_costOf wsX9_uncovered := goodIn_r _ [9, 10, 11, 12, 13, 14, 15, 16, 17, 18, 19, 20, 21, 22, 23, 24, 25, 26, 27, 28, 29, 30] rfl (by decide +kernel)
set_option maxRecDepth 20000 in
theorem gX9_costOf_X9_uncovered : GoodIn wsX9_costOf (wsV RX9 168 RX9 yX9_uncovered wsX9_uncovered) := goodIn_app (goodIn_r _ [5, 6, 7, 8] rfl (by decide +kernel)) ggX9_costOf_X9_uncovered
theorem dX9_costOf_0 : decode cX9_costOf 0 = .ok (.lconst 0, 1) := by decide +kernel
theorem dX9_costOf_1 : decode cX9_costOf 1 = .ok (.lstore 4, 2) := by decide +kernel
theorem dX9_costOf_3 : decode cX9_costOf 3 = .ok (.aload_n 0, 1) := by decide +kernel
theorem dX9_costOf_4 : decode cX9_costOf 4 = .ok (.getfield 64, 3) := by decide +kernel
theorem dX9_costOf_7 : decode cX9_costOf 7 = .ok (.iconst 3, 1) := by decide +kernel
theorem dX9_costOf_8 : decode cX9_costOf 8 = .ok (.iload_n 1, 1) := by decide +kernel
theorem dX9_costOf_9 : decode cX9_costOf 9 = .ok (.iadd, 1) := by decide +kernel
theorem dX9_costOf_10 : decode cX9_costOf 10 = .ok (.iaload, 1) := by decide +kernel
theorem dX9_costOf_11 : decode cX9_costOf 11 = .ok (.istore 6, 2) := by decide +kernel
theorem dX9_costOf_13 : decode cX9_costOf 13 = .ok (.iload 6, 2) := by decide +kernel
theorem dX9_costOf_15 : decode cX9_costOf 15 = .ok (.aload_n 0, 1) := by decide +kernel
theorem dX9_costOf_16 : decode cX9_costOf 16 = .ok (.getfield 64, 3) := by decide +kernel
theorem dX9_costOf_19 : decode cX9_costOf 19 = .ok (.iconst 2, 1) := by decide +kernel
theorem dX9_costOf_20 : decode cX9_costOf 20 = .ok (.iaload, 1) := by decide +kernel
theorem dX9_costOf_21 : decode cX9_costOf 21 = .ok (.if_icmp .ge 48, 3) := by decide +kernel
theorem dX9_costOf_24 : decode cX9_costOf 24 = .ok (.lload 4, 2) := by decide +kernel
theorem dX9_costOf_26 : decode cX9_costOf 26 = .ok (.aload_n 0, 1) := by decide +kernel
theorem dX9_costOf_27 : decode cX9_costOf 27 = .ok (.iload_n 1, 1) := by decide +kernel
theorem dX9_costOf_28 : decode cX9_costOf 28 = .ok (.aload_n 0, 1) := by decide +kernel
theorem dX9_costOf_29 : decode cX9_costOf 29 = .ok (.getfield 76, 3) := by decide +kernel
theorem dX9_costOf_32 : decode cX9_costOf 32 = .ok (.iload 6, 2) := by decide +kernel
theorem dX9_costOf_34 : decode cX9_costOf 34 = .ok (.iaload, 1) := by decide +kernel
theorem dX9_costOf_35 : decode cX9_costOf 35 = .ok (.iload 6, 2) := by decide +kernel
theorem dX9_costOf_37 : decode cX9_costOf 37 = .ok (.iload_n 2, 1) := by decide +kernel
theorem dX9_costOf_38 : decode cX9_costOf 38 = .ok (.if_icmp .lt 7, 3) := by decide +kernel
theorem dX9_costOf_41 : decode cX9_costOf 41 = .ok (.iload_n 3, 1) := by decide +kernel
theorem dX9_costOf_42 : decode cX9_costOf 42 = .ok (.goto 4, 3) := by decide +kernel
theorem dX9_costOf_45 : decode cX9_costOf 45 = .ok (.iconst 0, 1) := by decide +kernel
theorem dX9_costOf_46 : decode cX9_costOf 46 = .ok (.iadd, 1) := by decide +kernel
theorem dX9_costOf_47 : decode cX9_costOf 47 = .ok (.invokevirtual 168, 3) := by decide +kernel
theorem dX9_costOf_50 : decode cX9_costOf 50 = .ok (.i2l, 1) := by decide +kernel
theorem dX9_costOf_51 : decode cX9_costOf 51 = .ok (.aload_n 0, 1) := by decide +kernel
theorem dX9_costOf_52 : decode cX9_costOf 52 = .ok (.getfield 79, 3) := by decide +kernel
theorem dX9_costOf_55 : decode cX9_costOf 55 = .ok (.iload 6, 2) := by decide +kernel
theorem dX9_costOf_57 : decode cX9_costOf 57 = .ok (.iaload, 1) := by decide +kernel
theorem dX9_costOf_58 : decode cX9_costOf 58 = .ok (.i2l, 1) := by decide +kernel
theorem dX9_costOf_59 : decode cX9_costOf 59 = .ok (.lmul, 1) := by decide +kernel
theorem dX9_costOf_60 : decode cX9_costOf 60 = .ok (.ladd, 1) := by decide +kernel
theorem dX9_costOf_61 : decode cX9_costOf 61 = .ok (.lstore 4, 2) := by decide +kernel
theorem dX9_costOf_63 : decode cX9_costOf 63 = .ok (.iinc 6 1, 3) := by decide +kernel
theorem dX9_costOf_66 : decode cX9_costOf 66 = .ok (.goto (-53), 3) := by decide +kernel
theorem dX9_costOf_69 : decode cX9_costOf 69 = .ok (.lload 4, 2) := by decide +kernel
theorem dX9_costOf_71 : decode cX9_costOf 71 = .ok (.ldc2_w 171, 3) := by decide +kernel
theorem dX9_costOf_74 : decode cX9_costOf 74 = .ok (.ldiv, 1) := by decide +kernel
theorem dX9_costOf_75 : decode cX9_costOf 75 = .ok (.l2i, 1) := by decide +kernel
theorem dX9_costOf_76 : decode cX9_costOf 76 = .ok (.ireturn, 1) := by decide +kernel
set_option maxRecDepth 20000 in
theorem ggX9_costsWith_X9_costOf : GoodIn wsX9_costsWith wsX9_costOf := goodIn_r _ [5, 6, 7, 8, 9, 10, 11, 12, 4, 13, 14, 15, 16, 17, 18, 19, 20, 21, 22, 23, 24, 25, 26, 27, 28, 29, 30, 31, 32, 33, 34] rfl (by decide +kernel)
set_option maxRecDepth 20000 in
theorem gX9_costsWith_X9_costOf : GoodIn wsX9_costsWith (wsV RX9 173 RX9 yX9_costOf wsX9_costOf) := goodIn_app (goodIn_r _ [1, 2, 3, 4] rfl (by decide +kernel)) ggX9_costsWith_X9_costOf
theorem dX9_costsWith_0 : decode cX9_costsWith 0 = .ok (.iconst 0, 1) := by decide +kernel
theorem dX9_costsWith_1 : decode cX9_costsWith 1 = .ok (.istore_n 3, 1) := by decide +kernel
theorem dX9_costsWith_2 : decode cX9_costsWith 2 = .ok (.iconst 0, 1) := by decide +kernel
theorem dX9_costsWith_3 : decode cX9_costsWith 3 = .ok (.istore 4, 2) := by decide +kernel
theorem dX9_costsWith_5 : decode cX9_costsWith 5 = .ok (.iload 4, 2) := by decide +kernel
theorem dX9_costsWith_7 : decode cX9_costsWith 7 = .ok (.iconst 4, 1) := by decide +kernel
theorem dX9_costsWith_8 : decode cX9_costsWith 8 = .ok (.if_icmp .ge 20, 3) := by decide +kernel
theorem dX9_costsWith_11 : decode cX9_costsWith 11 = .ok (.iload_n 3, 1) := by decide +kernel
theorem dX9_costsWith_12 : decode cX9_costsWith 12 = .ok (.aload_n 0, 1) := by decide +kernel
theorem dX9_costsWith_13 : decode cX9_costsWith 13 = .ok (.iload 4, 2) := by decide +kernel
theorem dX9_costsWith_15 : decode cX9_costsWith 15 = .ok (.iload_n 1, 1) := by decide +kernel
theorem dX9_costsWith_16 : decode cX9_costsWith 16 = .ok (.iload_n 2, 1) := by decide +kernel
theorem dX9_costsWith_17 : decode cX9_costsWith 17 = .ok (.invokevirtual 173, 3) := by decide +kernel
theorem dX9_costsWith_20 : decode cX9_costsWith 20 = .ok (.iadd, 1) := by decide +kernel
theorem dX9_costsWith_21 : decode cX9_costsWith 21 = .ok (.istore_n 3, 1) := by decide +kernel
theorem dX9_costsWith_22 : decode cX9_costsWith 22 = .ok (.iinc 4 1, 3) := by decide +kernel
theorem dX9_costsWith_25 : decode cX9_costsWith 25 = .ok (.goto (-20), 3) := by decide +kernel
theorem dX9_costsWith_28 : decode cX9_costsWith 28 = .ok (.iload_n 3, 1) := by decide +kernel
theorem dX9_costsWith_29 : decode cX9_costsWith 29 = .ok (.ireturn, 1) := by decide +kernel
set_option maxRecDepth 20000 in
theorem ggX9_costs_X9_laysInstalments_ : GoodIn wsX9_costs wsX9_laysInstalments_ := goodIn_r _ [5, 6, 7, 8, 9, 4, 10, 11, 12, 13, 14, 15, 16, 17, 18, 19, 20, 21, 22, 23, 24, 25, 26, 27, 28, 29, 30, 31, 32, 33, 34, 35, 36, 37, 38, 39, 40, 41, 69, 70, 71, 72, 73, 74, 75, 76, 77, 78, 79, 80, 81, 82, 83, 84, 85, 86, 87, 88] rfl (by decide +kernel)
set_option maxRecDepth 20000 in
theorem gX9_costs_X9_laysInstalments_ : GoodIn wsX9_costs (wsV RX9 177 RX9 yX9_laysInstalments_ wsX9_laysInstalments_) := goodIn_app (goodIn_r _ [1, 2, 3, 4] rfl (by decide +kernel)) ggX9_costs_X9_laysInstalments_
set_option maxRecDepth 20000 in
theorem ggX9_costs_X9_laysDays : GoodIn wsX9_costs wsX9_laysDays := goodIn_r _ [45, 46, 47, 48, 49, 50, 4, 51, 6, 28, 29, 30, 31, 52, 53, 54, 55, 69, 70, 71, 72, 73, 74, 75, 76, 77, 78, 79, 80, 81, 82, 83, 84, 85, 86, 87, 88] rfl (by decide +kernel)
set_option maxRecDepth 20000 in
theorem gX9_costs_X9_laysDays : GoodIn wsX9_costs (wsV RX9 179 RX9 yX9_laysDays wsX9_laysDays) := goodIn_app (goodIn_r _ [42, 43, 44, 4] rfl (by decide +kernel)) ggX9_costs_X9_laysDays
set_option maxRecDepth 20000 in
theorem ggX9_costs_X9_costsWith : GoodIn wsX9_costs wsX9_costsWith := goodIn_r _ [59, 60, 61, 62, 4, 63, 6, 46, 47, 64, 65, 66, 67, 68, 11, 69, 70, 71, 72, 73, 74, 75, 76, 77, 78, 79, 80, 81, 82, 83, 84, 85, 86, 87, 88] rfl (by decide +kernel)
set_option maxRecDepth 20000 in
theorem gX9_costs_X9_costsWith : GoodIn wsX9_costs (wsV RX9 182 RX9 yX9_costsWith wsX9_costsWith) := goodIn_app (goodIn_r _ [56, 57, 58, 4] rfl (by decide +kernel)) ggX9_costs_X9_costsWith
theorem dX9_costs_0 : decode cX9_costs 0 = .ok (.aload_n 0, 1) := by decide +kernel
theorem dX9_costs_1 : decode cX9_costs 1 = .ok (.invokevirtual 177, 3) := by decide +kernel
theorem dX9_costs_4 : decode cX9_costs 4 = .ok (.aload_n 0, 1) := by decide +kernel
theorem dX9_costs_5 : decode cX9_costs 5 = .ok (.invokevirtual 179, 3) := by decide +kernel
theorem dX9_costs_8 : decode cX9_costs 8 = .ok (.aload_n 0, 1) := by decide +kernel
theorem dX9_costs_9 : decode cX9_costs 9 = .ok (.iconst 0, 1) := by decide +kernel
theorem dX9_costs_10 : decode cX9_costs 10 = .ok (.iconst 0, 1) := by decide +kernel
theorem dX9_costs_11 : decode cX9_costs 11 = .ok (.invokevirtual 182, 3) := by decide +kernel
theorem dX9_costs_14 : decode cX9_costs 14 = .ok (.ireturn, 1) := by decide +kernel
set_option maxRecDepth 20000 in
theorem ggX9_laysRows_X9_laysInstalments_ : GoodIn wsX9_laysRows wsX9_laysInstalments_ := goodIn_r _ [10, 2, 11, 12, 13, 9, 14, 15, 16, 17, 18, 19, 20, 21, 22, 23, 24, 25, 26, 27, 28, 29, 30, 31, 32, 33, 34, 35, 36, 37, 38, 39, 40, 41, 42, 43, 44, 45, 62, 63, 64, 65, 66, 67, 68, 69, 70, 71, 72, 73, 74, 75, 76, 77, 78, 79, 80, 81] rfl (by decide +kernel)
set_option maxRecDepth 20000 in
theorem gX9_laysRows_X9_laysInstalments_ : GoodIn wsX9_laysRows (wsV RX9 177 RX9 yX9_laysInstalments_ wsX9_laysInstalments_) := goodIn_app (goodIn_r _ [6, 7, 8, 9] rfl (by decide +kernel)) ggX9_laysRows_X9_laysInstalments_
set_option maxRecDepth 20000 in
theorem ggX9_laysRows_X9_laysDays : GoodIn wsX9_laysRows wsX9_laysDays := goodIn_r _ [49, 3, 5, 50, 51, 52, 9, 53, 2, 32, 33, 34, 35, 54, 55, 56, 57, 62, 63, 64, 65, 66, 67, 68, 69, 70, 71, 72, 73, 74, 75, 76, 77, 78, 79, 80, 81] rfl (by decide +kernel)
set_option maxRecDepth 20000 in
theorem gX9_laysRows_X9_laysDays : GoodIn wsX9_laysRows (wsV RX9 179 RX9 yX9_laysDays wsX9_laysDays) := goodIn_app (goodIn_r _ [46, 47, 48, 9] rfl (by decide +kernel)) ggX9_laysRows_X9_laysDays
set_option maxRecDepth 20000 in
theorem ggX9_laysRows_X9_uncovered : GoodIn wsX9_laysRows wsX9_uncovered := goodIn_r _ [61, 15, 62, 63, 64, 65, 66, 67, 68, 69, 70, 71, 72, 73, 74, 75, 76, 77, 78, 79, 80, 81] rfl (by decide +kernel)
set_option maxRecDepth 20000 in
theorem gX9_laysRows_X9_uncovered : GoodIn wsX9_laysRows (wsV RX9 168 RX9 yX9_uncovered wsX9_uncovered) := goodIn_app (goodIn_r _ [58, 59, 60, 9] rfl (by decide +kernel)) ggX9_laysRows_X9_uncovered
theorem dX9_laysRows_0 : decode cX9_laysRows 0 = .ok (.aload_n 0, 1) := by decide +kernel
theorem dX9_laysRows_1 : decode cX9_laysRows 1 = .ok (.invokevirtual 177, 3) := by decide +kernel
theorem dX9_laysRows_4 : decode cX9_laysRows 4 = .ok (.aload_n 0, 1) := by decide +kernel
theorem dX9_laysRows_5 : decode cX9_laysRows 5 = .ok (.invokevirtual 179, 3) := by decide +kernel
theorem dX9_laysRows_8 : decode cX9_laysRows 8 = .ok (.aload_n 0, 1) := by decide +kernel
theorem dX9_laysRows_9 : decode cX9_laysRows 9 = .ok (.iconst 0, 1) := by decide +kernel
theorem dX9_laysRows_10 : decode cX9_laysRows 10 = .ok (.putfield 185, 3) := by decide +kernel
theorem dX9_laysRows_13 : decode cX9_laysRows 13 = .ok (.iconst 0, 1) := by decide +kernel
theorem dX9_laysRows_14 : decode cX9_laysRows 14 = .ok (.istore_n 1, 1) := by decide +kernel
theorem dX9_laysRows_15 : decode cX9_laysRows 15 = .ok (.iload_n 1, 1) := by decide +kernel
theorem dX9_laysRows_16 : decode cX9_laysRows 16 = .ok (.iconst 4, 1) := by decide +kernel
theorem dX9_laysRows_17 : decode cX9_laysRows 17 = .ok (.if_icmp .ge 211, 3) := by decide +kernel
theorem dX9_laysRows_20 : decode cX9_laysRows 20 = .ok (.iconst 0, 1) := by decide +kernel
theorem dX9_laysRows_21 : decode cX9_laysRows 21 = .ok (.istore_n 2, 1) := by decide +kernel
theorem dX9_laysRows_22 : decode cX9_laysRows 22 = .ok (.aload_n 0, 1) := by decide +kernel
theorem dX9_laysRows_23 : decode cX9_laysRows 23 = .ok (.getfield 64, 3) := by decide +kernel
theorem dX9_laysRows_26 : decode cX9_laysRows 26 = .ok (.iconst 3, 1) := by decide +kernel
theorem dX9_laysRows_27 : decode cX9_laysRows 27 = .ok (.iload_n 1, 1) := by decide +kernel
theorem dX9_laysRows_28 : decode cX9_laysRows 28 = .ok (.iadd, 1) := by decide +kernel
theorem dX9_laysRows_29 : decode cX9_laysRows 29 = .ok (.iaload, 1) := by decide +kernel
theorem dX9_laysRows_30 : decode cX9_laysRows 30 = .ok (.istore_n 3, 1) := by decide +kernel
theorem dX9_laysRows_31 : decode cX9_laysRows 31 = .ok (.iload_n 3, 1) := by decide +kernel
theorem dX9_laysRows_32 : decode cX9_laysRows 32 = .ok (.aload_n 0, 1) := by decide +kernel
theorem dX9_laysRows_33 : decode cX9_laysRows 33 = .ok (.getfield 64, 3) := by decide +kernel
theorem dX9_laysRows_36 : decode cX9_laysRows 36 = .ok (.iconst 2, 1) := by decide +kernel
theorem dX9_laysRows_37 : decode cX9_laysRows 37 = .ok (.iaload, 1) := by decide +kernel
theorem dX9_laysRows_38 : decode cX9_laysRows 38 = .ok (.if_icmp .ge 184, 3) := by decide +kernel
theorem dX9_laysRows_41 : decode cX9_laysRows 41 = .ok (.aload_n 0, 1) := by decide +kernel
theorem dX9_laysRows_42 : decode cX9_laysRows 42 = .ok (.iload_n 1, 1) := by decide +kernel
theorem dX9_laysRows_43 : decode cX9_laysRows 43 = .ok (.aload_n 0, 1) := by decide +kernel
theorem dX9_laysRows_44 : decode cX9_laysRows 44 = .ok (.getfield 76, 3) := by decide +kernel
theorem dX9_laysRows_47 : decode cX9_laysRows 47 = .ok (.iload_n 3, 1) := by decide +kernel
theorem dX9_laysRows_48 : decode cX9_laysRows 48 = .ok (.iaload, 1) := by decide +kernel
theorem dX9_laysRows_49 : decode cX9_laysRows 49 = .ok (.invokevirtual 168, 3) := by decide +kernel
theorem dX9_laysRows_52 : decode cX9_laysRows 52 = .ok (.istore 4, 2) := by decide +kernel
theorem dX9_laysRows_54 : decode cX9_laysRows 54 = .ok (.iconst 5, 1) := by decide +kernel
theorem dX9_laysRows_55 : decode cX9_laysRows 55 = .ok (.aload_n 0, 1) := by decide +kernel
theorem dX9_laysRows_56 : decode cX9_laysRows 56 = .ok (.getfield 185, 3) := by decide +kernel
theorem dX9_laysRows_59 : decode cX9_laysRows 59 = .ok (.iconst 1, 1) := by decide +kernel
theorem dX9_laysRows_60 : decode cX9_laysRows 60 = .ok (.isub, 1) := by decide +kernel
theorem dX9_laysRows_61 : decode cX9_laysRows 61 = .ok (.imul, 1) := by decide +kernel
theorem dX9_laysRows_62 : decode cX9_laysRows 62 = .ok (.istore 5, 2) := by decide +kernel
theorem dX9_laysRows_64 : decode cX9_laysRows 64 = .ok (.iload_n 2, 1) := by decide +kernel
theorem dX9_laysRows_65 : decode cX9_laysRows 65 = .ok (.ifCond .eq 39, 3) := by decide +kernel
theorem dX9_laysRows_68 : decode cX9_laysRows 68 = .ok (.aload_n 0, 1) := by decide +kernel
theorem dX9_laysRows_69 : decode cX9_laysRows 69 = .ok (.getfield 82, 3) := by decide +kernel
theorem dX9_laysRows_72 : decode cX9_laysRows 72 = .ok (.iload 5, 2) := by decide +kernel
theorem dX9_laysRows_74 : decode cX9_laysRows 74 = .ok (.iconst 3, 1) := by decide +kernel
theorem dX9_laysRows_75 : decode cX9_laysRows 75 = .ok (.iadd, 1) := by decide +kernel
theorem dX9_laysRows_76 : decode cX9_laysRows 76 = .ok (.iaload, 1) := by decide +kernel
theorem dX9_laysRows_77 : decode cX9_laysRows 77 = .ok (.iload 4, 2) := by decide +kernel
theorem dX9_laysRows_79 : decode cX9_laysRows 79 = .ok (.if_icmp .ne 25, 3) := by decide +kernel
theorem dX9_laysRows_82 : decode cX9_laysRows 82 = .ok (.aload_n 0, 1) := by decide +kernel
theorem dX9_laysRows_83 : decode cX9_laysRows 83 = .ok (.getfield 82, 3) := by decide +kernel
theorem dX9_laysRows_86 : decode cX9_laysRows 86 = .ok (.iload 5, 2) := by decide +kernel
theorem dX9_laysRows_88 : decode cX9_laysRows 88 = .ok (.iconst 4, 1) := by decide +kernel
theorem dX9_laysRows_89 : decode cX9_laysRows 89 = .ok (.iadd, 1) := by decide +kernel
theorem dX9_laysRows_90 : decode cX9_laysRows 90 = .ok (.iaload, 1) := by decide +kernel
theorem dX9_laysRows_91 : decode cX9_laysRows 91 = .ok (.aload_n 0, 1) := by decide +kernel
theorem dX9_laysRows_92 : decode cX9_laysRows 92 = .ok (.getfield 79, 3) := by decide +kernel
theorem dX9_laysRows_95 : decode cX9_laysRows 95 = .ok (.iload_n 3, 1) := by decide +kernel
theorem dX9_laysRows_96 : decode cX9_laysRows 96 = .ok (.iaload, 1) := by decide +kernel
theorem dX9_laysRows_97 : decode cX9_laysRows 97 = .ok (.if_icmp .ne 7, 3) := by decide +kernel
theorem dX9_laysRows_100 : decode cX9_laysRows 100 = .ok (.iconst 1, 1) := by decide +kernel
theorem dX9_laysRows_101 : decode cX9_laysRows 101 = .ok (.goto 4, 3) := by decide +kernel
theorem dX9_laysRows_104 : decode cX9_laysRows 104 = .ok (.iconst 0, 1) := by decide +kernel
theorem dX9_laysRows_105 : decode cX9_laysRows 105 = .ok (.istore 6, 2) := by decide +kernel
theorem dX9_laysRows_107 : decode cX9_laysRows 107 = .ok (.iload 4, 2) := by decide +kernel
theorem dX9_laysRows_109 : decode cX9_laysRows 109 = .ok (.ifCond .le 7, 3) := by decide +kernel
theorem dX9_laysRows_112 : decode cX9_laysRows 112 = .ok (.iconst 1, 1) := by decide +kernel
theorem dX9_laysRows_113 : decode cX9_laysRows 113 = .ok (.goto 4, 3) := by decide +kernel
theorem dX9_laysRows_116 : decode cX9_laysRows 116 = .ok (.iconst 0, 1) := by decide +kernel
theorem dX9_laysRows_117 : decode cX9_laysRows 117 = .ok (.istore_n 2, 1) := by decide +kernel
theorem dX9_laysRows_118 : decode cX9_laysRows 118 = .ok (.iload_n 2, 1) := by decide +kernel
theorem dX9_laysRows_119 : decode cX9_laysRows 119 = .ok (.ifCond .ne 6, 3) := by decide +kernel
theorem dX9_laysRows_122 : decode cX9_laysRows 122 = .ok (.goto 94, 3) := by decide +kernel
theorem dX9_laysRows_125 : decode cX9_laysRows 125 = .ok (.iload 6, 2) := by decide +kernel
theorem dX9_laysRows_127 : decode cX9_laysRows 127 = .ok (.ifCond .eq 19, 3) := by decide +kernel
theorem dX9_laysRows_130 : decode cX9_laysRows 130 = .ok (.aload_n 0, 1) := by decide +kernel
theorem dX9_laysRows_131 : decode cX9_laysRows 131 = .ok (.getfield 82, 3) := by decide +kernel
theorem dX9_laysRows_134 : decode cX9_laysRows 134 = .ok (.iload 5, 2) := by decide +kernel
theorem dX9_laysRows_136 : decode cX9_laysRows 136 = .ok (.iconst 2, 1) := by decide +kernel
theorem dX9_laysRows_137 : decode cX9_laysRows 137 = .ok (.iadd, 1) := by decide +kernel
theorem dX9_laysRows_138 : decode cX9_laysRows 138 = .ok (.dup2, 1) := by decide +kernel
theorem dX9_laysRows_139 : decode cX9_laysRows 139 = .ok (.iaload, 1) := by decide +kernel
theorem dX9_laysRows_140 : decode cX9_laysRows 140 = .ok (.iconst 1, 1) := by decide +kernel
theorem dX9_laysRows_141 : decode cX9_laysRows 141 = .ok (.iadd, 1) := by decide +kernel
theorem dX9_laysRows_142 : decode cX9_laysRows 142 = .ok (.iastore, 1) := by decide +kernel
theorem dX9_laysRows_143 : decode cX9_laysRows 143 = .ok (.goto 73, 3) := by decide +kernel
theorem dX9_laysRows_146 : decode cX9_laysRows 146 = .ok (.aload_n 0, 1) := by decide +kernel
theorem dX9_laysRows_147 : decode cX9_laysRows 147 = .ok (.getfield 82, 3) := by decide +kernel
theorem dX9_laysRows_150 : decode cX9_laysRows 150 = .ok (.iload 5, 2) := by decide +kernel
theorem dX9_laysRows_152 : decode cX9_laysRows 152 = .ok (.iconst 5, 1) := by decide +kernel
theorem dX9_laysRows_153 : decode cX9_laysRows 153 = .ok (.iadd, 1) := by decide +kernel
theorem dX9_laysRows_154 : decode cX9_laysRows 154 = .ok (.iload_n 1, 1) := by decide +kernel
theorem dX9_laysRows_155 : decode cX9_laysRows 155 = .ok (.iastore, 1) := by decide +kernel
theorem dX9_laysRows_156 : decode cX9_laysRows 156 = .ok (.aload_n 0, 1) := by decide +kernel
theorem dX9_laysRows_157 : decode cX9_laysRows 157 = .ok (.getfield 82, 3) := by decide +kernel
theorem dX9_laysRows_160 : decode cX9_laysRows 160 = .ok (.iload 5, 2) := by decide +kernel
theorem dX9_laysRows_162 : decode cX9_laysRows 162 = .ok (.bipush 6, 2) := by decide +kernel
theorem dX9_laysRows_164 : decode cX9_laysRows 164 = .ok (.iadd, 1) := by decide +kernel
theorem dX9_laysRows_165 : decode cX9_laysRows 165 = .ok (.iload_n 3, 1) := by decide +kernel
theorem dX9_laysRows_166 : decode cX9_laysRows 166 = .ok (.iastore, 1) := by decide +kernel
theorem dX9_laysRows_167 : decode cX9_laysRows 167 = .ok (.aload_n 0, 1) := by decide +kernel
theorem dX9_laysRows_168 : decode cX9_laysRows 168 = .ok (.getfield 82, 3) := by decide +kernel
theorem dX9_laysRows_171 : decode cX9_laysRows 171 = .ok (.iload 5, 2) := by decide +kernel
theorem dX9_laysRows_173 : decode cX9_laysRows 173 = .ok (.bipush 7, 2) := by decide +kernel
theorem dX9_laysRows_175 : decode cX9_laysRows 175 = .ok (.iadd, 1) := by decide +kernel
theorem dX9_laysRows_176 : decode cX9_laysRows 176 = .ok (.iconst 1, 1) := by decide +kernel
theorem dX9_laysRows_177 : decode cX9_laysRows 177 = .ok (.iastore, 1) := by decide +kernel
theorem dX9_laysRows_178 : decode cX9_laysRows 178 = .ok (.aload_n 0, 1) := by decide +kernel
theorem dX9_laysRows_179 : decode cX9_laysRows 179 = .ok (.getfield 82, 3) := by decide +kernel
theorem dX9_laysRows_182 : decode cX9_laysRows 182 = .ok (.iload 5, 2) := by decide +kernel
theorem dX9_laysRows_184 : decode cX9_laysRows 184 = .ok (.bipush 8, 2) := by decide +kernel
theorem dX9_laysRows_186 : decode cX9_laysRows 186 = .ok (.iadd, 1) := by decide +kernel
theorem dX9_laysRows_187 : decode cX9_laysRows 187 = .ok (.iload 4, 2) := by decide +kernel
theorem dX9_laysRows_189 : decode cX9_laysRows 189 = .ok (.iastore, 1) := by decide +kernel
theorem dX9_laysRows_190 : decode cX9_laysRows 190 = .ok (.aload_n 0, 1) := by decide +kernel
theorem dX9_laysRows_191 : decode cX9_laysRows 191 = .ok (.getfield 82, 3) := by decide +kernel
theorem dX9_laysRows_194 : decode cX9_laysRows 194 = .ok (.iload 5, 2) := by decide +kernel
theorem dX9_laysRows_196 : decode cX9_laysRows 196 = .ok (.bipush 9, 2) := by decide +kernel
theorem dX9_laysRows_198 : decode cX9_laysRows 198 = .ok (.iadd, 1) := by decide +kernel
theorem dX9_laysRows_199 : decode cX9_laysRows 199 = .ok (.aload_n 0, 1) := by decide +kernel
theorem dX9_laysRows_200 : decode cX9_laysRows 200 = .ok (.getfield 79, 3) := by decide +kernel
theorem dX9_laysRows_203 : decode cX9_laysRows 203 = .ok (.iload_n 3, 1) := by decide +kernel
theorem dX9_laysRows_204 : decode cX9_laysRows 204 = .ok (.iaload, 1) := by decide +kernel
theorem dX9_laysRows_205 : decode cX9_laysRows 205 = .ok (.iastore, 1) := by decide +kernel
theorem dX9_laysRows_206 : decode cX9_laysRows 206 = .ok (.aload_n 0, 1) := by decide +kernel
theorem dX9_laysRows_207 : decode cX9_laysRows 207 = .ok (.dup, 1) := by decide +kernel
theorem dX9_laysRows_208 : decode cX9_laysRows 208 = .ok (.getfield 185, 3) := by decide +kernel
theorem dX9_laysRows_211 : decode cX9_laysRows 211 = .ok (.iconst 1, 1) := by decide +kernel
theorem dX9_laysRows_212 : decode cX9_laysRows 212 = .ok (.iadd, 1) := by decide +kernel
theorem dX9_laysRows_213 : decode cX9_laysRows 213 = .ok (.putfield 185, 3) := by decide +kernel
theorem dX9_laysRows_216 : decode cX9_laysRows 216 = .ok (.iinc 3 1, 3) := by decide +kernel
theorem dX9_laysRows_219 : decode cX9_laysRows 219 = .ok (.goto (-188), 3) := by decide +kernel
theorem dX9_laysRows_222 : decode cX9_laysRows 222 = .ok (.iinc 1 1, 3) := by decide +kernel
theorem dX9_laysRows_225 : decode cX9_laysRows 225 = .ok (.goto (-210), 3) := by decide +kernel
theorem dX9_laysRows_228 : decode cX9_laysRows 228 = .ok (.return_, 1) := by decide +kernel
set_option maxRecDepth 20000 in
theorem ggX9_now_X9_allIncome : GoodIn wsX9_now wsX9_allIncome := goodIn_r _ [11, 12, 13, 14, 10, 15, 2, 83, 84, 85, 86, 87, 88, 89, 90, 91, 92, 93, 94, 95, 96, 97, 98, 99, 100, 101, 102] rfl (by decide +kernel)
set_option maxRecDepth 20000 in
theorem gX9_now_X9_allIncome : GoodIn wsX9_now (wsV RX9 136 RX9 yX9_allIncome wsX9_allIncome) := goodIn_app (goodIn_r _ [7, 8, 9, 10] rfl (by decide +kernel)) ggX9_now_X9_allIncome
set_option maxRecDepth 20000 in
theorem ggX9_now_X9_taxOf : GoodIn wsX9_now wsX9_taxOf := goodIn_r _ [19, 2, 20, 83, 84, 85, 86, 87, 88, 89, 90, 91, 92, 93, 94, 95, 96, 97, 98, 99, 100, 101, 102] rfl (by decide +kernel)
set_option maxRecDepth 20000 in
theorem gX9_now_X9_taxOf : GoodIn wsX9_now (wsV RX9 140 RX9 yX9_taxOf wsX9_taxOf) := goodIn_app (goodIn_r _ [16, 17, 18, 10] rfl (by decide +kernel)) ggX9_now_X9_taxOf
set_option maxRecDepth 20000 in
theorem ggX9_now_X9_paidAt : GoodIn wsX9_now wsX9_paidAt := goodIn_r _ [24, 2, 12, 13, 14, 10, 15, 83, 84, 85, 86, 87, 88, 89, 90, 91, 92, 93, 94, 95, 96, 97, 98, 99, 100, 101, 102] rfl (by decide +kernel)
set_option maxRecDepth 20000 in
theorem gX9_now_X9_paidAt : GoodIn wsX9_now (wsV RX9 162 RX9 yX9_paidAt wsX9_paidAt) := goodIn_app (goodIn_r _ [21, 22, 23, 10] rfl (by decide +kernel)) ggX9_now_X9_paidAt
set_option maxRecDepth 20000 in
theorem ggX9_now_X9_costs : GoodIn wsX9_now wsX9_costs := goodIn_r _ [28, 29, 30, 31, 10, 32, 2, 33, 34, 35, 36, 37, 38, 39, 40, 41, 42, 43, 44, 45, 46, 47, 48, 49, 7, 8, 9, 11, 12, 13, 14, 15, 16, 17, 18, 19, 20, 50, 51, 52, 53, 54, 55, 56, 57, 58, 59, 60, 21, 22, 23, 24, 61, 62, 63, 64, 65, 66, 67, 68, 69, 70, 71, 72, 73, 74, 75, 76, 77, 83, 84, 85, 86, 87, 88, 89, 90, 91, 92, 93, 94, 95, 96, 97, 98, 99, 100, 101, 102] rfl (by decide +kernel)
set_option maxRecDepth 20000 in
theorem gX9_now_X9_costs : GoodIn wsX9_now (wsV RX9 188 RX9 yX9_costs wsX9_costs) := goodIn_app (goodIn_r _ [25, 26, 27, 10] rfl (by decide +kernel)) ggX9_now_X9_costs
set_option maxRecDepth 20000 in
theorem ggX9_now_X9_upTo : GoodIn wsX9_now wsX9_upTo := goodIn_r _ [15, 2, 83, 84, 85, 86, 87, 88, 89, 90, 91, 92, 93, 94, 95, 96, 97, 98, 99, 100, 101, 102] rfl (by decide +kernel)
set_option maxRecDepth 20000 in
theorem gX9_now_X9_upTo : GoodIn wsX9_now (wsV RX9 128 RX9 yX9_upTo wsX9_upTo) := goodIn_app (goodIn_r _ [12, 13, 14, 10] rfl (by decide +kernel)) ggX9_now_X9_upTo
set_option maxRecDepth 20000 in
theorem ggX9_now_X9_laysRows : GoodIn wsX9_now wsX9_laysRows := goodIn_r _ [81, 3, 2, 59, 82, 60, 29, 30, 31, 10, 32, 33, 34, 35, 36, 37, 38, 39, 40, 41, 42, 43, 44, 45, 46, 47, 48, 49, 7, 8, 9, 11, 12, 13, 14, 15, 16, 17, 18, 19, 20, 50, 51, 52, 53, 54, 55, 56, 57, 58, 21, 22, 23, 24, 61, 62, 63, 64, 74, 75, 76, 77, 83, 84, 85, 86, 87, 88, 89, 90, 91, 92, 93, 94, 95, 96, 97, 98, 99, 100, 101, 102] rfl (by decide +kernel)
set_option maxRecDepth 20000 in
theorem gX9_now_X9_laysRows : GoodIn wsX9_now (wsV RX9 191 RX9 yX9_laysRows wsX9_laysRows) := goodIn_app (goodIn_r _ [78, 79, 80, 10] rfl (by decide +kernel)) ggX9_now_X9_laysRows
theorem dX9_now_0 : decode cX9_now 0 = .ok (.aload_n 0, 1) := by decide +kernel
theorem dX9_now_1 : decode cX9_now 1 = .ok (.iconst 0, 1) := by decide +kernel
theorem dX9_now_2 : decode cX9_now 2 = .ok (.putfield 1, 3) := by decide +kernel
theorem dX9_now_5 : decode cX9_now 5 = .ok (.iload_n 1, 1) := by decide +kernel
theorem dX9_now_6 : decode cX9_now 6 = .ok (.tableswitch 157 0 10 #[58, 63, 73, 84, 105, 110, 118, 129, 138, 147, 152], 58) := by decide +kernel
theorem dX9_now_64 : decode cX9_now 64 = .ok (.aload_n 0, 1) := by decide +kernel
theorem dX9_now_65 : decode cX9_now 65 = .ok (.invokevirtual 136, 3) := by decide +kernel
theorem dX9_now_68 : decode cX9_now 68 = .ok (.ireturn, 1) := by decide +kernel
theorem dX9_now_69 : decode cX9_now 69 = .ok (.aload_n 0, 1) := by decide +kernel
theorem dX9_now_70 : decode cX9_now 70 = .ok (.aload_n 0, 1) := by decide +kernel
theorem dX9_now_71 : decode cX9_now 71 = .ok (.invokevirtual 136, 3) := by decide +kernel
theorem dX9_now_74 : decode cX9_now 74 = .ok (.i2l, 1) := by decide +kernel
theorem dX9_now_75 : decode cX9_now 75 = .ok (.invokevirtual 140, 3) := by decide +kernel
theorem dX9_now_78 : decode cX9_now 78 = .ok (.ireturn, 1) := by decide +kernel
theorem dX9_now_79 : decode cX9_now 79 = .ok (.aload_n 0, 1) := by decide +kernel
theorem dX9_now_80 : decode cX9_now 80 = .ok (.aload_n 0, 1) := by decide +kernel
theorem dX9_now_81 : decode cX9_now 81 = .ok (.getfield 64, 3) := by decide +kernel
theorem dX9_now_84 : decode cX9_now 84 = .ok (.iconst 2, 1) := by decide +kernel
theorem dX9_now_85 : decode cX9_now 85 = .ok (.iaload, 1) := by decide +kernel
theorem dX9_now_86 : decode cX9_now 86 = .ok (.invokevirtual 162, 3) := by decide +kernel
theorem dX9_now_89 : decode cX9_now 89 = .ok (.ireturn, 1) := by decide +kernel
theorem dX9_now_90 : decode cX9_now 90 = .ok (.aload_n 0, 1) := by decide +kernel
theorem dX9_now_91 : decode cX9_now 91 = .ok (.aload_n 0, 1) := by decide +kernel
theorem dX9_now_92 : decode cX9_now 92 = .ok (.invokevirtual 136, 3) := by decide +kernel
theorem dX9_now_95 : decode cX9_now 95 = .ok (.i2l, 1) := by decide +kernel
theorem dX9_now_96 : decode cX9_now 96 = .ok (.invokevirtual 140, 3) := by decide +kernel
theorem dX9_now_99 : decode cX9_now 99 = .ok (.aload_n 0, 1) := by decide +kernel
theorem dX9_now_100 : decode cX9_now 100 = .ok (.aload_n 0, 1) := by decide +kernel
theorem dX9_now_101 : decode cX9_now 101 = .ok (.getfield 64, 3) := by decide +kernel
theorem dX9_now_104 : decode cX9_now 104 = .ok (.iconst 2, 1) := by decide +kernel
theorem dX9_now_105 : decode cX9_now 105 = .ok (.iaload, 1) := by decide +kernel
theorem dX9_now_106 : decode cX9_now 106 = .ok (.invokevirtual 162, 3) := by decide +kernel
theorem dX9_now_109 : decode cX9_now 109 = .ok (.isub, 1) := by decide +kernel
theorem dX9_now_110 : decode cX9_now 110 = .ok (.ireturn, 1) := by decide +kernel
theorem dX9_now_111 : decode cX9_now 111 = .ok (.aload_n 0, 1) := by decide +kernel
theorem dX9_now_112 : decode cX9_now 112 = .ok (.invokevirtual 188, 3) := by decide +kernel
theorem dX9_now_115 : decode cX9_now 115 = .ok (.ireturn, 1) := by decide +kernel
theorem dX9_now_116 : decode cX9_now 116 = .ok (.aload_n 0, 1) := by decide +kernel
theorem dX9_now_117 : decode cX9_now 117 = .ok (.getfield 64, 3) := by decide +kernel
theorem dX9_now_120 : decode cX9_now 120 = .ok (.bipush 117, 2) := by decide +kernel
theorem dX9_now_122 : decode cX9_now 122 = .ok (.iaload, 1) := by decide +kernel
theorem dX9_now_123 : decode cX9_now 123 = .ok (.ireturn, 1) := by decide +kernel
theorem dX9_now_124 : decode cX9_now 124 = .ok (.aload_n 0, 1) := by decide +kernel
theorem dX9_now_125 : decode cX9_now 125 = .ok (.sipush 198, 3) := by decide +kernel
theorem dX9_now_128 : decode cX9_now 128 = .ok (.sipush 500, 3) := by decide +kernel
theorem dX9_now_131 : decode cX9_now 131 = .ok (.invokevirtual 128, 3) := by decide +kernel
theorem dX9_now_134 : decode cX9_now 134 = .ok (.ireturn, 1) := by decide +kernel
theorem dX9_now_135 : decode cX9_now 135 = .ok (.aload_n 0, 1) := by decide +kernel
theorem dX9_now_136 : decode cX9_now 136 = .ok (.invokevirtual 191, 3) := by decide +kernel
theorem dX9_now_139 : decode cX9_now 139 = .ok (.aload_n 0, 1) := by decide +kernel
theorem dX9_now_140 : decode cX9_now 140 = .ok (.getfield 185, 3) := by decide +kernel
theorem dX9_now_143 : decode cX9_now 143 = .ok (.ireturn, 1) := by decide +kernel
theorem dX9_now_144 : decode cX9_now 144 = .ok (.aload_n 0, 1) := by decide +kernel
theorem dX9_now_145 : decode cX9_now 145 = .ok (.getfield 64, 3) := by decide +kernel
theorem dX9_now_148 : decode cX9_now 148 = .ok (.sipush 239, 3) := by decide +kernel
theorem dX9_now_151 : decode cX9_now 151 = .ok (.iaload, 1) := by decide +kernel
theorem dX9_now_152 : decode cX9_now 152 = .ok (.ireturn, 1) := by decide +kernel
theorem dX9_now_153 : decode cX9_now 153 = .ok (.aload_n 0, 1) := by decide +kernel
theorem dX9_now_154 : decode cX9_now 154 = .ok (.getfield 125, 3) := by decide +kernel
theorem dX9_now_157 : decode cX9_now 157 = .ok (.ireturn, 1) := by decide +kernel
theorem dX9_now_158 : decode cX9_now 158 = .ok (.aload_n 0, 1) := by decide +kernel
theorem dX9_now_159 : decode cX9_now 159 = .ok (.getfield 11, 3) := by decide +kernel
theorem dX9_now_162 : decode cX9_now 162 = .ok (.ireturn, 1) := by decide +kernel
theorem dX9_now_163 : decode cX9_now 163 = .ok (.ldc 194, 2) := by decide +kernel
theorem dX9_now_165 : decode cX9_now 165 = .ok (.ireturn, 1) := by decide +kernel
set_option maxRecDepth 20000 in
theorem ggX9_tax_X9_isIn : GoodIn wsX9_tax wsX9_isIn := goodIn_r _ [6] rfl (by decide +kernel)
set_option maxRecDepth 20000 in
theorem gX9_tax_X9_isIn : GoodIn wsX9_tax (va_wsS RX9 88 yX9_isIn wsX9_isIn) := goodIn_app (goodIn_r _ [3, 4, 5] rfl (by decide +kernel)) ggX9_tax_X9_isIn
set_option maxRecDepth 20000 in
theorem ggX9_tax_X9_taxOf : GoodIn wsX9_tax wsX9_taxOf := goodIn_r _ [10, 11, 12, 13, 14, 15, 16, 17, 18, 19, 20, 21, 22, 23, 24, 25, 26, 27, 28, 29, 30, 31, 32] rfl (by decide +kernel)
set_option maxRecDepth 20000 in
theorem gX9_tax_X9_taxOf : GoodIn wsX9_tax (wsV RX9 140 RX9 yX9_taxOf wsX9_taxOf) := goodIn_app (goodIn_r _ [7, 8, 9, 5] rfl (by decide +kernel)) ggX9_tax_X9_taxOf
theorem dX9_tax_0 : decode cX9_tax 0 = .ok (.aload_n 0, 1) := by decide +kernel
theorem dX9_tax_1 : decode cX9_tax 1 = .ok (.iconst 0, 1) := by decide +kernel
theorem dX9_tax_2 : decode cX9_tax 2 = .ok (.putfield 1, 3) := by decide +kernel
theorem dX9_tax_5 : decode cX9_tax 5 = .ok (.iload_n 1, 1) := by decide +kernel
theorem dX9_tax_6 : decode cX9_tax 6 = .ok (.iconst 0, 1) := by decide +kernel
theorem dX9_tax_7 : decode cX9_tax 7 = .ok (.ldc 195, 2) := by decide +kernel
theorem dX9_tax_9 : decode cX9_tax 9 = .ok (.invokestatic 88, 3) := by decide +kernel
theorem dX9_tax_12 : decode cX9_tax 12 = .ok (.ifCond .eq 12, 3) := by decide +kernel
theorem dX9_tax_15 : decode cX9_tax 15 = .ok (.aload_n 0, 1) := by decide +kernel
theorem dX9_tax_16 : decode cX9_tax 16 = .ok (.iload_n 1, 1) := by decide +kernel
theorem dX9_tax_17 : decode cX9_tax 17 = .ok (.i2l, 1) := by decide +kernel
theorem dX9_tax_18 : decode cX9_tax 18 = .ok (.invokevirtual 140, 3) := by decide +kernel
theorem dX9_tax_21 : decode cX9_tax 21 = .ok (.goto 4, 3) := by decide +kernel
theorem dX9_tax_24 : decode cX9_tax 24 = .ok (.iconst (-1), 1) := by decide +kernel
theorem dX9_tax_25 : decode cX9_tax 25 = .ok (.ireturn, 1) := by decide +kernel
set_option maxRecDepth 20000 in
theorem ggX9_income_X9_isDay : GoodIn wsX9_income wsX9_isDay := goodIn_r _ [5, 6, 7, 4, 8] rfl (by decide +kernel)
set_option maxRecDepth 20000 in
theorem gX9_income_X9_isDay : GoodIn wsX9_income (va_wsS RX9 196 yX9_isDay wsX9_isDay) := goodIn_app (goodIn_r _ [2, 3, 4] rfl (by decide +kernel)) ggX9_income_X9_isDay
set_option maxRecDepth 20000 in
theorem ggX9_income_X9_upTo : GoodIn wsX9_income wsX9_upTo := goodIn_r _ [12, 13, 14, 15, 16, 17, 18, 19, 20, 21, 22, 23, 24, 25, 26, 27, 28, 29, 30, 31, 32, 33] rfl (by decide +kernel)
set_option maxRecDepth 20000 in
theorem gX9_income_X9_upTo : GoodIn wsX9_income (wsV RX9 128 RX9 yX9_upTo wsX9_upTo) := goodIn_app (goodIn_r _ [9, 10, 11, 4] rfl (by decide +kernel)) ggX9_income_X9_upTo
theorem dX9_income_0 : decode cX9_income 0 = .ok (.aload_n 0, 1) := by decide +kernel
theorem dX9_income_1 : decode cX9_income 1 = .ok (.iconst 0, 1) := by decide +kernel
theorem dX9_income_2 : decode cX9_income 2 = .ok (.putfield 1, 3) := by decide +kernel
theorem dX9_income_5 : decode cX9_income 5 = .ok (.iload_n 1, 1) := by decide +kernel
theorem dX9_income_6 : decode cX9_income 6 = .ok (.invokestatic 196, 3) := by decide +kernel
theorem dX9_income_9 : decode cX9_income 9 = .ok (.ifCond .eq 13, 3) := by decide +kernel
theorem dX9_income_12 : decode cX9_income 12 = .ok (.aload_n 0, 1) := by decide +kernel
theorem dX9_income_13 : decode cX9_income 13 = .ok (.bipush 36, 2) := by decide +kernel
theorem dX9_income_15 : decode cX9_income 15 = .ok (.iload_n 1, 1) := by decide +kernel
theorem dX9_income_16 : decode cX9_income 16 = .ok (.invokevirtual 128, 3) := by decide +kernel
theorem dX9_income_19 : decode cX9_income 19 = .ok (.goto 4, 3) := by decide +kernel
theorem dX9_income_22 : decode cX9_income 22 = .ok (.iconst (-1), 1) := by decide +kernel
theorem dX9_income_23 : decode cX9_income 23 = .ok (.ireturn, 1) := by decide +kernel
set_option maxRecDepth 20000 in
theorem ggX9_period_X9_isIn : GoodIn wsX9_period wsX9_isIn := goodIn_r _ [7] rfl (by decide +kernel)
set_option maxRecDepth 20000 in
theorem gX9_period_X9_isIn : GoodIn wsX9_period (va_wsS RX9 88 yX9_isIn wsX9_isIn) := goodIn_app (goodIn_r _ [4, 5, 6] rfl (by decide +kernel)) ggX9_period_X9_isIn
set_option maxRecDepth 20000 in
theorem ggX9_period_X9_laysInstalments_ : GoodIn wsX9_period wsX9_laysInstalments_ := goodIn_r _ [11, 2, 12, 13, 14, 6, 15, 3, 16, 17, 18, 19, 20, 21, 22, 23, 24, 25, 26, 27, 28, 29, 30, 31, 32, 33, 34, 35, 36, 37, 38, 39, 40, 41, 42, 43, 44, 45, 69, 70, 71, 72, 73, 74, 75, 76, 77, 78, 79, 80, 81, 82, 83, 84, 85, 86, 87, 88] rfl (by decide +kernel)
set_option maxRecDepth 20000 in
theorem gX9_period_X9_laysInstalments_ : GoodIn wsX9_period (wsV RX9 177 RX9 yX9_laysInstalments_ wsX9_laysInstalments_) := goodIn_app (goodIn_r _ [8, 9, 10, 6] rfl (by decide +kernel)) ggX9_period_X9_laysInstalments_
set_option maxRecDepth 20000 in
theorem ggX9_period_X9_laysDays : GoodIn wsX9_period wsX9_laysDays := goodIn_r _ [49, 50, 51, 52, 53, 54, 6, 55, 2, 32, 33, 34, 35, 56, 57, 58, 59, 69, 70, 71, 72, 73, 74, 75, 76, 77, 78, 79, 80, 81, 82, 83, 84, 85, 86, 87, 88] rfl (by decide +kernel)
set_option maxRecDepth 20000 in
theorem gX9_period_X9_laysDays : GoodIn wsX9_period (wsV RX9 179 RX9 yX9_laysDays wsX9_laysDays) := goodIn_app (goodIn_r _ [46, 47, 48, 6] rfl (by decide +kernel)) ggX9_period_X9_laysDays
set_option maxRecDepth 20000 in
theorem ggX9_period_X9_leastRule : GoodIn wsX9_period wsX9_leastRule := goodIn_r _ [19, 20, 21, 6, 22, 23, 24, 25, 26, 2, 27, 28, 29, 30, 31, 32, 33, 34, 35, 36, 37, 38, 39, 40, 41, 42, 43, 44, 45, 69, 70, 71, 72, 73, 74, 75, 76, 77, 78, 79, 80, 81, 82, 83, 84, 85, 86, 87, 88] rfl (by decide +kernel)
set_option maxRecDepth 20000 in
theorem gX9_period_X9_leastRule : GoodIn wsX9_period (wsV RX9 156 RX9 yX9_leastRule wsX9_leastRule) := goodIn_app (goodIn_r _ [16, 17, 18, 6] rfl (by decide +kernel)) ggX9_period_X9_leastRule
set_option maxRecDepth 20000 in
theorem ggX9_period_X9_sumBy : GoodIn wsX9_period wsX9_sumBy := goodIn_r _ [26, 2, 27, 28, 29, 30, 6, 31, 32, 33, 34, 35, 36, 37, 38, 39, 40, 41, 42, 43, 44, 45, 69, 70, 71, 72, 73, 74, 75, 76, 77, 78, 79, 80, 81, 82, 83, 84, 85, 86, 87, 88] rfl (by decide +kernel)
set_option maxRecDepth 20000 in
theorem gX9_period_X9_sumBy : GoodIn wsX9_period (wsV RX9 153 RX9 yX9_sumBy wsX9_sumBy) := goodIn_app (goodIn_r _ [23, 24, 25, 6] rfl (by decide +kernel)) ggX9_period_X9_sumBy
set_option maxRecDepth 20000 in
theorem ggX9_period_X9_costOf : GoodIn wsX9_period wsX9_costOf := goodIn_r _ [63, 2, 50, 51, 64, 65, 66, 67, 6, 68, 3, 69, 70, 71, 72, 73, 74, 75, 76, 77, 78, 79, 80, 81, 82, 83, 84, 85, 86, 87, 88] rfl (by decide +kernel)
set_option maxRecDepth 20000 in
theorem gX9_period_X9_costOf : GoodIn wsX9_period (wsV RX9 173 RX9 yX9_costOf wsX9_costOf) := goodIn_app (goodIn_r _ [60, 61, 62, 6] rfl (by decide +kernel)) ggX9_period_X9_costOf
set_option maxRecDepth 20000 in
theorem ggX9_period_X9_yearly : GoodIn wsX9_period wsX9_yearly := goodIn_r _ [44, 2, 45, 32, 33, 34, 6, 35, 69, 70, 71, 72, 73, 74, 75, 76, 77, 78, 79, 80, 81, 82, 83, 84, 85, 86, 87, 88] rfl (by decide +kernel)
set_option maxRecDepth 20000 in
theorem gX9_period_X9_yearly : GoodIn wsX9_period (wsV RX9 144 RX9 yX9_yearly wsX9_yearly) := goodIn_app (goodIn_r _ [41, 42, 43, 6] rfl (by decide +kernel)) ggX9_period_X9_yearly
theorem dX9_period_0 : decode cX9_period 0 = .ok (.aload_n 0, 1) := by decide +kernel
theorem dX9_period_1 : decode cX9_period 1 = .ok (.iconst 0, 1) := by decide +kernel
theorem dX9_period_2 : decode cX9_period 2 = .ok (.putfield 1, 3) := by decide +kernel
theorem dX9_period_5 : decode cX9_period 5 = .ok (.iload_n 1, 1) := by decide +kernel
theorem dX9_period_6 : decode cX9_period 6 = .ok (.iconst 0, 1) := by decide +kernel
theorem dX9_period_7 : decode cX9_period 7 = .ok (.iconst 3, 1) := by decide +kernel
theorem dX9_period_8 : decode cX9_period 8 = .ok (.invokestatic 88, 3) := by decide +kernel
theorem dX9_period_11 : decode cX9_period 11 = .ok (.ifCond .eq 13, 3) := by decide +kernel
theorem dX9_period_14 : decode cX9_period 14 = .ok (.iload_n 2, 1) := by decide +kernel
theorem dX9_period_15 : decode cX9_period 15 = .ok (.iconst 0, 1) := by decide +kernel
theorem dX9_period_16 : decode cX9_period 16 = .ok (.bipush 9, 2) := by decide +kernel
theorem dX9_period_18 : decode cX9_period 18 = .ok (.invokestatic 88, 3) := by decide +kernel
theorem dX9_period_21 : decode cX9_period 21 = .ok (.ifCond .ne 5, 3) := by decide +kernel
theorem dX9_period_24 : decode cX9_period 24 = .ok (.iconst (-1), 1) := by decide +kernel
theorem dX9_period_25 : decode cX9_period 25 = .ok (.ireturn, 1) := by decide +kernel
theorem dX9_period_26 : decode cX9_period 26 = .ok (.aload_n 0, 1) := by decide +kernel
theorem dX9_period_27 : decode cX9_period 27 = .ok (.invokevirtual 177, 3) := by decide +kernel
theorem dX9_period_30 : decode cX9_period 30 = .ok (.aload_n 0, 1) := by decide +kernel
theorem dX9_period_31 : decode cX9_period 31 = .ok (.invokevirtual 179, 3) := by decide +kernel
theorem dX9_period_34 : decode cX9_period 34 = .ok (.aload_n 0, 1) := by decide +kernel
theorem dX9_period_35 : decode cX9_period 35 = .ok (.iload_n 1, 1) := by decide +kernel
theorem dX9_period_36 : decode cX9_period 36 = .ok (.aload_n 0, 1) := by decide +kernel
theorem dX9_period_37 : decode cX9_period 37 = .ok (.getfield 64, 3) := by decide +kernel
theorem dX9_period_40 : decode cX9_period 40 = .ok (.sipush 239, 3) := by decide +kernel
theorem dX9_period_43 : decode cX9_period 43 = .ok (.iaload, 1) := by decide +kernel
theorem dX9_period_44 : decode cX9_period 44 = .ok (.invokevirtual 156, 3) := by decide +kernel
theorem dX9_period_47 : decode cX9_period 47 = .ok (.istore_n 3, 1) := by decide +kernel
theorem dX9_period_48 : decode cX9_period 48 = .ok (.iload_n 2, 1) := by decide +kernel
theorem dX9_period_49 : decode cX9_period 49 = .ok (.tableswitch 92 3 9 #[43, 50, 52, 59, 67, 76, 86], 43) := by decide +kernel
theorem dX9_period_92 : decode cX9_period 92 = .ok (.aload_n 0, 1) := by decide +kernel
theorem dX9_period_93 : decode cX9_period 93 = .ok (.iload_n 3, 1) := by decide +kernel
theorem dX9_period_94 : decode cX9_period 94 = .ok (.iload_n 1, 1) := by decide +kernel
theorem dX9_period_95 : decode cX9_period 95 = .ok (.invokevirtual 153, 3) := by decide +kernel
theorem dX9_period_98 : decode cX9_period 98 = .ok (.ireturn, 1) := by decide +kernel
theorem dX9_period_99 : decode cX9_period 99 = .ok (.iload_n 3, 1) := by decide +kernel
theorem dX9_period_100 : decode cX9_period 100 = .ok (.ireturn, 1) := by decide +kernel
theorem dX9_period_101 : decode cX9_period 101 = .ok (.aload_n 0, 1) := by decide +kernel
theorem dX9_period_102 : decode cX9_period 102 = .ok (.getfield 73, 3) := by decide +kernel
theorem dX9_period_105 : decode cX9_period 105 = .ok (.iload_n 1, 1) := by decide +kernel
theorem dX9_period_106 : decode cX9_period 106 = .ok (.iaload, 1) := by decide +kernel
theorem dX9_period_107 : decode cX9_period 107 = .ok (.ireturn, 1) := by decide +kernel
theorem dX9_period_108 : decode cX9_period 108 = .ok (.aload_n 0, 1) := by decide +kernel
theorem dX9_period_109 : decode cX9_period 109 = .ok (.iload_n 1, 1) := by decide +kernel
theorem dX9_period_110 : decode cX9_period 110 = .ok (.iconst 0, 1) := by decide +kernel
theorem dX9_period_111 : decode cX9_period 111 = .ok (.iconst 0, 1) := by decide +kernel
theorem dX9_period_112 : decode cX9_period 112 = .ok (.invokevirtual 173, 3) := by decide +kernel
theorem dX9_period_115 : decode cX9_period 115 = .ok (.ireturn, 1) := by decide +kernel
theorem dX9_period_116 : decode cX9_period 116 = .ok (.aload_n 0, 1) := by decide +kernel
theorem dX9_period_117 : decode cX9_period 117 = .ok (.getfield 64, 3) := by decide +kernel
theorem dX9_period_120 : decode cX9_period 120 = .ok (.iconst 3, 1) := by decide +kernel
theorem dX9_period_121 : decode cX9_period 121 = .ok (.iload_n 1, 1) := by decide +kernel
theorem dX9_period_122 : decode cX9_period 122 = .ok (.iadd, 1) := by decide +kernel
theorem dX9_period_123 : decode cX9_period 123 = .ok (.iaload, 1) := by decide +kernel
theorem dX9_period_124 : decode cX9_period 124 = .ok (.ireturn, 1) := by decide +kernel
theorem dX9_period_125 : decode cX9_period 125 = .ok (.aload_n 0, 1) := by decide +kernel
theorem dX9_period_126 : decode cX9_period 126 = .ok (.getfield 64, 3) := by decide +kernel
theorem dX9_period_129 : decode cX9_period 129 = .ok (.bipush 7, 2) := by decide +kernel
theorem dX9_period_131 : decode cX9_period 131 = .ok (.iload_n 1, 1) := by decide +kernel
theorem dX9_period_132 : decode cX9_period 132 = .ok (.iadd, 1) := by decide +kernel
theorem dX9_period_133 : decode cX9_period 133 = .ok (.iaload, 1) := by decide +kernel
theorem dX9_period_134 : decode cX9_period 134 = .ok (.ireturn, 1) := by decide +kernel
theorem dX9_period_135 : decode cX9_period 135 = .ok (.aload_n 0, 1) := by decide +kernel
theorem dX9_period_136 : decode cX9_period 136 = .ok (.iload_n 1, 1) := by decide +kernel
theorem dX9_period_137 : decode cX9_period 137 = .ok (.invokevirtual 144, 3) := by decide +kernel
theorem dX9_period_140 : decode cX9_period 140 = .ok (.ireturn, 1) := by decide +kernel
theorem dX9_period_141 : decode cX9_period 141 = .ok (.aload_n 0, 1) := by decide +kernel
theorem dX9_period_142 : decode cX9_period 142 = .ok (.iload_n 2, 1) := by decide +kernel
theorem dX9_period_143 : decode cX9_period 143 = .ok (.iload_n 1, 1) := by decide +kernel
theorem dX9_period_144 : decode cX9_period 144 = .ok (.invokevirtual 153, 3) := by decide +kernel
theorem dX9_period_147 : decode cX9_period 147 = .ok (.ireturn, 1) := by decide +kernel
set_option maxRecDepth 20000 in
theorem ggX9_unpaid_X9_isIn : GoodIn wsX9_unpaid wsX9_isIn := goodIn_r _ [5] rfl (by decide +kernel)
set_option maxRecDepth 20000 in
theorem gX9_unpaid_X9_isIn : GoodIn wsX9_unpaid (va_wsS RX9 88 yX9_isIn wsX9_isIn) := goodIn_app (goodIn_r _ [2, 3, 4] rfl (by decide +kernel)) ggX9_unpaid_X9_isIn
set_option maxRecDepth 20000 in
theorem ggX9_unpaid_X9_isDay : GoodIn wsX9_unpaid wsX9_isDay := goodIn_r _ [8, 2, 3, 4, 5] rfl (by decide +kernel)
set_option maxRecDepth 20000 in
theorem gX9_unpaid_X9_isDay : GoodIn wsX9_unpaid (va_wsS RX9 196 yX9_isDay wsX9_isDay) := goodIn_app (goodIn_r _ [6, 7, 4] rfl (by decide +kernel)) ggX9_unpaid_X9_isDay
set_option maxRecDepth 20000 in
theorem ggX9_unpaid_X9_laysInstalments_ : GoodIn wsX9_unpaid wsX9_laysInstalments_ := goodIn_r _ [12, 13, 14, 15, 16, 4, 17, 18, 19, 20, 21, 22, 23, 24, 25, 26, 27, 28, 29, 30, 31, 32, 33, 34, 35, 36, 37, 38, 39, 40, 41, 42, 43, 44, 45, 46, 47, 48, 57, 58, 59, 60, 61, 62, 63, 64, 65, 66, 67, 68, 69, 70, 71, 72, 73, 74, 75, 76] rfl (by decide +kernel)
set_option maxRecDepth 20000 in
theorem gX9_unpaid_X9_laysInstalments_ : GoodIn wsX9_unpaid (wsV RX9 177 RX9 yX9_laysInstalments_ wsX9_laysInstalments_) := goodIn_app (goodIn_r _ [9, 10, 11, 4] rfl (by decide +kernel)) ggX9_unpaid_X9_laysInstalments_
set_option maxRecDepth 20000 in
theorem ggX9_unpaid_X9_paidAt : GoodIn wsX9_unpaid wsX9_paidAt := goodIn_r _ [52, 13, 35, 36, 37, 4, 38, 57, 58, 59, 60, 61, 62, 63, 64, 65, 66, 67, 68, 69, 70, 71, 72, 73, 74, 75, 76] rfl (by decide +kernel)
set_option maxRecDepth 20000 in
theorem gX9_unpaid_X9_paidAt : GoodIn wsX9_unpaid (wsV RX9 162 RX9 yX9_paidAt wsX9_paidAt) := goodIn_app (goodIn_r _ [49, 50, 51, 4] rfl (by decide +kernel)) ggX9_unpaid_X9_paidAt
set_option maxRecDepth 20000 in
theorem ggX9_unpaid_X9_uncovered : GoodIn wsX9_unpaid wsX9_uncovered := goodIn_r _ [56, 18, 57, 58, 59, 60, 61, 62, 63, 64, 65, 66, 67, 68, 69, 70, 71, 72, 73, 74, 75, 76] rfl (by decide +kernel)
set_option maxRecDepth 20000 in
theorem gX9_unpaid_X9_uncovered : GoodIn wsX9_unpaid (wsV RX9 168 RX9 yX9_uncovered wsX9_uncovered) := goodIn_app (goodIn_r _ [53, 54, 55, 4] rfl (by decide +kernel)) ggX9_unpaid_X9_uncovered
theorem dX9_unpaid_0 : decode cX9_unpaid 0 = .ok (.aload_n 0, 1) := by decide +kernel
theorem dX9_unpaid_1 : decode cX9_unpaid 1 = .ok (.iconst 0, 1) := by decide +kernel
theorem dX9_unpaid_2 : decode cX9_unpaid 2 = .ok (.putfield 1, 3) := by decide +kernel
theorem dX9_unpaid_5 : decode cX9_unpaid 5 = .ok (.iload_n 1, 1) := by decide +kernel
theorem dX9_unpaid_6 : decode cX9_unpaid 6 = .ok (.iconst 0, 1) := by decide +kernel
theorem dX9_unpaid_7 : decode cX9_unpaid 7 = .ok (.iconst 3, 1) := by decide +kernel
theorem dX9_unpaid_8 : decode cX9_unpaid 8 = .ok (.invokestatic 88, 3) := by decide +kernel
theorem dX9_unpaid_11 : decode cX9_unpaid 11 = .ok (.ifCond .eq 10, 3) := by decide +kernel
theorem dX9_unpaid_14 : decode cX9_unpaid 14 = .ok (.iload_n 2, 1) := by decide +kernel
theorem dX9_unpaid_15 : decode cX9_unpaid 15 = .ok (.invokestatic 196, 3) := by decide +kernel
theorem dX9_unpaid_18 : decode cX9_unpaid 18 = .ok (.ifCond .ne 5, 3) := by decide +kernel
theorem dX9_unpaid_21 : decode cX9_unpaid 21 = .ok (.iconst (-1), 1) := by decide +kernel
theorem dX9_unpaid_22 : decode cX9_unpaid 22 = .ok (.ireturn, 1) := by decide +kernel
theorem dX9_unpaid_23 : decode cX9_unpaid 23 = .ok (.aload_n 0, 1) := by decide +kernel
theorem dX9_unpaid_24 : decode cX9_unpaid 24 = .ok (.invokevirtual 177, 3) := by decide +kernel
theorem dX9_unpaid_27 : decode cX9_unpaid 27 = .ok (.aload_n 0, 1) := by decide +kernel
theorem dX9_unpaid_28 : decode cX9_unpaid 28 = .ok (.iload_n 1, 1) := by decide +kernel
theorem dX9_unpaid_29 : decode cX9_unpaid 29 = .ok (.aload_n 0, 1) := by decide +kernel
theorem dX9_unpaid_30 : decode cX9_unpaid 30 = .ok (.iload_n 2, 1) := by decide +kernel
theorem dX9_unpaid_31 : decode cX9_unpaid 31 = .ok (.invokevirtual 162, 3) := by decide +kernel
theorem dX9_unpaid_34 : decode cX9_unpaid 34 = .ok (.invokevirtual 168, 3) := by decide +kernel
theorem dX9_unpaid_37 : decode cX9_unpaid 37 = .ok (.ireturn, 1) := by decide +kernel
set_option maxRecDepth 20000 in
theorem ggX9_freeAt_X9_paidAt : GoodIn wsX9_freeAt wsX9_paidAt := goodIn_r _ [7, 1, 8, 9, 10, 6, 11, 12, 13, 14, 15, 16, 17, 18, 19, 20, 21, 22, 23, 24, 25, 26, 27, 28, 29, 30, 31] rfl (by decide +kernel)
set_option maxRecDepth 20000 in
theorem gX9_freeAt_X9_paidAt : GoodIn wsX9_freeAt (wsV RX9 162 RX9 yX9_paidAt wsX9_paidAt) := goodIn_app (goodIn_r _ [3, 4, 5, 6] rfl (by decide +kernel)) ggX9_freeAt_X9_paidAt
theorem dX9_freeAt_0 : decode cX9_freeAt 0 = .ok (.aload_n 0, 1) := by decide +kernel
theorem dX9_freeAt_1 : decode cX9_freeAt 1 = .ok (.iload_n 1, 1) := by decide +kernel
theorem dX9_freeAt_2 : decode cX9_freeAt 2 = .ok (.invokevirtual 162, 3) := by decide +kernel
theorem dX9_freeAt_5 : decode cX9_freeAt 5 = .ok (.istore_n 2, 1) := by decide +kernel
theorem dX9_freeAt_6 : decode cX9_freeAt 6 = .ok (.iconst 0, 1) := by decide +kernel
theorem dX9_freeAt_7 : decode cX9_freeAt 7 = .ok (.istore_n 3, 1) := by decide +kernel
theorem dX9_freeAt_8 : decode cX9_freeAt 8 = .ok (.iload_n 3, 1) := by decide +kernel
theorem dX9_freeAt_9 : decode cX9_freeAt 9 = .ok (.iconst 4, 1) := by decide +kernel
theorem dX9_freeAt_10 : decode cX9_freeAt 10 = .ok (.if_icmp .ge 30, 3) := by decide +kernel
theorem dX9_freeAt_13 : decode cX9_freeAt 13 = .ok (.aload_n 0, 1) := by decide +kernel
theorem dX9_freeAt_14 : decode cX9_freeAt 14 = .ok (.getfield 64, 3) := by decide +kernel
theorem dX9_freeAt_17 : decode cX9_freeAt 17 = .ok (.iconst 3, 1) := by decide +kernel
theorem dX9_freeAt_18 : decode cX9_freeAt 18 = .ok (.iload_n 3, 1) := by decide +kernel
theorem dX9_freeAt_19 : decode cX9_freeAt 19 = .ok (.iadd, 1) := by decide +kernel
theorem dX9_freeAt_20 : decode cX9_freeAt 20 = .ok (.iaload, 1) := by decide +kernel
theorem dX9_freeAt_21 : decode cX9_freeAt 21 = .ok (.iload_n 1, 1) := by decide +kernel
theorem dX9_freeAt_22 : decode cX9_freeAt 22 = .ok (.if_icmp .gt 12, 3) := by decide +kernel
theorem dX9_freeAt_25 : decode cX9_freeAt 25 = .ok (.iload_n 2, 1) := by decide +kernel
theorem dX9_freeAt_26 : decode cX9_freeAt 26 = .ok (.aload_n 0, 1) := by decide +kernel
theorem dX9_freeAt_27 : decode cX9_freeAt 27 = .ok (.getfield 73, 3) := by decide +kernel
theorem dX9_freeAt_30 : decode cX9_freeAt 30 = .ok (.iload_n 3, 1) := by decide +kernel
theorem dX9_freeAt_31 : decode cX9_freeAt 31 = .ok (.iaload, 1) := by decide +kernel
theorem dX9_freeAt_32 : decode cX9_freeAt 32 = .ok (.isub, 1) := by decide +kernel
theorem dX9_freeAt_33 : decode cX9_freeAt 33 = .ok (.istore_n 2, 1) := by decide +kernel
theorem dX9_freeAt_34 : decode cX9_freeAt 34 = .ok (.iinc 3 1, 3) := by decide +kernel
theorem dX9_freeAt_37 : decode cX9_freeAt 37 = .ok (.goto (-29), 3) := by decide +kernel
theorem dX9_freeAt_40 : decode cX9_freeAt 40 = .ok (.iload_n 2, 1) := by decide +kernel
theorem dX9_freeAt_41 : decode cX9_freeAt 41 = .ok (.ifCond .le 7, 3) := by decide +kernel
theorem dX9_freeAt_44 : decode cX9_freeAt 44 = .ok (.iload_n 2, 1) := by decide +kernel
theorem dX9_freeAt_45 : decode cX9_freeAt 45 = .ok (.goto 4, 3) := by decide +kernel
theorem dX9_freeAt_48 : decode cX9_freeAt 48 = .ok (.iconst 0, 1) := by decide +kernel
theorem dX9_freeAt_49 : decode cX9_freeAt 49 = .ok (.ireturn, 1) := by decide +kernel
set_option maxRecDepth 20000 in
theorem ggX9_free_X9_isDay : GoodIn wsX9_free wsX9_isDay := goodIn_r _ [5, 6, 7, 4, 8] rfl (by decide +kernel)
set_option maxRecDepth 20000 in
theorem gX9_free_X9_isDay : GoodIn wsX9_free (va_wsS RX9 196 yX9_isDay wsX9_isDay) := goodIn_app (goodIn_r _ [2, 3, 4] rfl (by decide +kernel)) ggX9_free_X9_isDay
set_option maxRecDepth 20000 in
theorem ggX9_free_X9_laysInstalments_ : GoodIn wsX9_free wsX9_laysInstalments_ := goodIn_r _ [12, 13, 14, 15, 16, 4, 17, 18, 19, 20, 21, 22, 23, 24, 25, 26, 27, 28, 29, 30, 31, 32, 33, 34, 35, 36, 37, 38, 39, 40, 41, 42, 43, 44, 45, 46, 47, 48, 57, 58, 59, 60, 61, 62, 63, 64, 65, 66, 67, 68, 69, 70, 71, 72, 73, 74, 75, 76] rfl (by decide +kernel)
set_option maxRecDepth 20000 in
theorem gX9_free_X9_laysInstalments_ : GoodIn wsX9_free (wsV RX9 177 RX9 yX9_laysInstalments_ wsX9_laysInstalments_) := goodIn_app (goodIn_r _ [9, 10, 11, 4] rfl (by decide +kernel)) ggX9_free_X9_laysInstalments_
set_option maxRecDepth 20000 in
theorem ggX9_free_X9_freeAt : GoodIn wsX9_free wsX9_freeAt := goodIn_r _ [52, 13, 18, 53, 54, 55, 4, 56, 35, 36, 37, 38, 57, 58, 59, 60, 61, 62, 63, 64, 65, 66, 67, 68, 69, 70, 71, 72, 73, 74, 75, 76] rfl (by decide +kernel)
set_option maxRecDepth 20000 in
theorem gX9_free_X9_freeAt : GoodIn wsX9_free (wsV RX9 199 RX9 yX9_freeAt wsX9_freeAt) := goodIn_app (goodIn_r _ [49, 50, 51, 4] rfl (by decide +kernel)) ggX9_free_X9_freeAt
theorem dX9_free_0 : decode cX9_free 0 = .ok (.aload_n 0, 1) := by decide +kernel
theorem dX9_free_1 : decode cX9_free 1 = .ok (.iconst 0, 1) := by decide +kernel
theorem dX9_free_2 : decode cX9_free 2 = .ok (.putfield 1, 3) := by decide +kernel
theorem dX9_free_5 : decode cX9_free 5 = .ok (.iload_n 1, 1) := by decide +kernel
theorem dX9_free_6 : decode cX9_free 6 = .ok (.invokestatic 196, 3) := by decide +kernel
theorem dX9_free_9 : decode cX9_free 9 = .ok (.ifCond .ne 5, 3) := by decide +kernel
theorem dX9_free_12 : decode cX9_free 12 = .ok (.iconst (-1), 1) := by decide +kernel
theorem dX9_free_13 : decode cX9_free 13 = .ok (.ireturn, 1) := by decide +kernel
theorem dX9_free_14 : decode cX9_free 14 = .ok (.aload_n 0, 1) := by decide +kernel
theorem dX9_free_15 : decode cX9_free 15 = .ok (.invokevirtual 177, 3) := by decide +kernel
theorem dX9_free_18 : decode cX9_free 18 = .ok (.aload_n 0, 1) := by decide +kernel
theorem dX9_free_19 : decode cX9_free 19 = .ok (.iload_n 1, 1) := by decide +kernel
theorem dX9_free_20 : decode cX9_free 20 = .ok (.invokevirtual 199, 3) := by decide +kernel
theorem dX9_free_23 : decode cX9_free 23 = .ok (.ireturn, 1) := by decide +kernel
set_option maxRecDepth 20000 in
theorem ggX9_rate_X9_isDay : GoodIn wsX9_rate wsX9_isDay := goodIn_r _ [5, 6, 7, 4, 8] rfl (by decide +kernel)
set_option maxRecDepth 20000 in
theorem gX9_rate_X9_isDay : GoodIn wsX9_rate (va_wsS RX9 196 yX9_isDay wsX9_isDay) := goodIn_app (goodIn_r _ [2, 3, 4] rfl (by decide +kernel)) ggX9_rate_X9_isDay
set_option maxRecDepth 20000 in
theorem ggX9_rate_X9_rateOf : GoodIn wsX9_rate wsX9_rateOf := goodIn_r _ [12, 13, 14, 15, 16, 17, 18, 19, 20, 21, 22, 23, 24, 25, 26, 27, 28, 29, 30, 31, 32, 33] rfl (by decide +kernel)
set_option maxRecDepth 20000 in
theorem gX9_rate_X9_rateOf : GoodIn wsX9_rate (wsV RX9 165 RX9 yX9_rateOf wsX9_rateOf) := goodIn_app (goodIn_r _ [9, 10, 11, 4] rfl (by decide +kernel)) ggX9_rate_X9_rateOf
theorem dX9_rate_0 : decode cX9_rate 0 = .ok (.aload_n 0, 1) := by decide +kernel
theorem dX9_rate_1 : decode cX9_rate 1 = .ok (.iconst 0, 1) := by decide +kernel
theorem dX9_rate_2 : decode cX9_rate 2 = .ok (.putfield 1, 3) := by decide +kernel
theorem dX9_rate_5 : decode cX9_rate 5 = .ok (.iload_n 1, 1) := by decide +kernel
theorem dX9_rate_6 : decode cX9_rate 6 = .ok (.invokestatic 196, 3) := by decide +kernel
theorem dX9_rate_9 : decode cX9_rate 9 = .ok (.ifCond .eq 11, 3) := by decide +kernel
theorem dX9_rate_12 : decode cX9_rate 12 = .ok (.aload_n 0, 1) := by decide +kernel
theorem dX9_rate_13 : decode cX9_rate 13 = .ok (.iload_n 1, 1) := by decide +kernel
theorem dX9_rate_14 : decode cX9_rate 14 = .ok (.invokevirtual 165, 3) := by decide +kernel
theorem dX9_rate_17 : decode cX9_rate 17 = .ok (.goto 4, 3) := by decide +kernel
theorem dX9_rate_20 : decode cX9_rate 20 = .ok (.iconst (-1), 1) := by decide +kernel
theorem dX9_rate_21 : decode cX9_rate 21 = .ok (.ireturn, 1) := by decide +kernel
set_option maxRecDepth 20000 in
theorem ggX9_isPay_X9_isIn : GoodIn wsX9_isPay wsX9_isIn := goodIn_r _ [5] rfl (by decide +kernel)
set_option maxRecDepth 20000 in
theorem gX9_isPay_X9_isIn : GoodIn wsX9_isPay (va_wsS RX9 88 yX9_isIn wsX9_isIn) := goodIn_app (goodIn_r _ [2, 3, 4] rfl (by decide +kernel)) ggX9_isPay_X9_isIn
theorem dX9_isPay_0 : decode cX9_isPay 0 = .ok (.iload_n 1, 1) := by decide +kernel
theorem dX9_isPay_1 : decode cX9_isPay 1 = .ok (.iconst 0, 1) := by decide +kernel
theorem dX9_isPay_2 : decode cX9_isPay 2 = .ok (.aload_n 0, 1) := by decide +kernel
theorem dX9_isPay_3 : decode cX9_isPay 3 = .ok (.getfield 64, 3) := by decide +kernel
theorem dX9_isPay_6 : decode cX9_isPay 6 = .ok (.bipush 117, 2) := by decide +kernel
theorem dX9_isPay_8 : decode cX9_isPay 8 = .ok (.iaload, 1) := by decide +kernel
theorem dX9_isPay_9 : decode cX9_isPay 9 = .ok (.iconst 1, 1) := by decide +kernel
theorem dX9_isPay_10 : decode cX9_isPay 10 = .ok (.isub, 1) := by decide +kernel
theorem dX9_isPay_11 : decode cX9_isPay 11 = .ok (.invokestatic 88, 3) := by decide +kernel
theorem dX9_isPay_14 : decode cX9_isPay 14 = .ok (.ireturn, 1) := by decide +kernel
set_option maxRecDepth 20000 in
theorem ggX9_payment_X9_isPay : GoodIn wsX9_payment wsX9_isPay := goodIn_r _ [7, 2, 8, 9, 6, 10, 11, 12, 13, 14, 15, 16, 17, 18, 19, 20, 21, 22, 23, 24, 25, 26, 27, 28, 29, 30] rfl (by decide +kernel)
set_option maxRecDepth 20000 in
theorem gX9_payment_X9_isPay : GoodIn wsX9_payment (wsV RX9 202 RX9 yX9_isPay wsX9_isPay) := goodIn_app (goodIn_r _ [3, 4, 5, 6] rfl (by decide +kernel)) ggX9_payment_X9_isPay
set_option maxRecDepth 20000 in
theorem ggX9_payment_X9_isIn : GoodIn wsX9_payment wsX9_isIn := goodIn_r _ [10] rfl (by decide +kernel)
set_option maxRecDepth 20000 in
theorem gX9_payment_X9_isIn : GoodIn wsX9_payment (va_wsS RX9 88 yX9_isIn wsX9_isIn) := goodIn_app (goodIn_r _ [8, 9, 6] rfl (by decide +kernel)) ggX9_payment_X9_isIn
theorem dX9_payment_0 : decode cX9_payment 0 = .ok (.aload_n 0, 1) := by decide +kernel
theorem dX9_payment_1 : decode cX9_payment 1 = .ok (.iconst 0, 1) := by decide +kernel
theorem dX9_payment_2 : decode cX9_payment 2 = .ok (.putfield 1, 3) := by decide +kernel
theorem dX9_payment_5 : decode cX9_payment 5 = .ok (.aload_n 0, 1) := by decide +kernel
theorem dX9_payment_6 : decode cX9_payment 6 = .ok (.iload_n 1, 1) := by decide +kernel
theorem dX9_payment_7 : decode cX9_payment 7 = .ok (.invokevirtual 202, 3) := by decide +kernel
theorem dX9_payment_10 : decode cX9_payment 10 = .ok (.ifCond .eq 28, 3) := by decide +kernel
theorem dX9_payment_13 : decode cX9_payment 13 = .ok (.iload_n 2, 1) := by decide +kernel
theorem dX9_payment_14 : decode cX9_payment 14 = .ok (.iconst 0, 1) := by decide +kernel
theorem dX9_payment_15 : decode cX9_payment 15 = .ok (.iconst 1, 1) := by decide +kernel
theorem dX9_payment_16 : decode cX9_payment 16 = .ok (.invokestatic 88, 3) := by decide +kernel
theorem dX9_payment_19 : decode cX9_payment 19 = .ok (.ifCond .eq 19, 3) := by decide +kernel
theorem dX9_payment_22 : decode cX9_payment 22 = .ok (.aload_n 0, 1) := by decide +kernel
theorem dX9_payment_23 : decode cX9_payment 23 = .ok (.getfield 64, 3) := by decide +kernel
theorem dX9_payment_26 : decode cX9_payment 26 = .ok (.bipush 118, 2) := by decide +kernel
theorem dX9_payment_28 : decode cX9_payment 28 = .ok (.iconst 2, 1) := by decide +kernel
theorem dX9_payment_29 : decode cX9_payment 29 = .ok (.iload_n 1, 1) := by decide +kernel
theorem dX9_payment_30 : decode cX9_payment 30 = .ok (.imul, 1) := by decide +kernel
theorem dX9_payment_31 : decode cX9_payment 31 = .ok (.iadd, 1) := by decide +kernel
theorem dX9_payment_32 : decode cX9_payment 32 = .ok (.iload_n 2, 1) := by decide +kernel
theorem dX9_payment_33 : decode cX9_payment 33 = .ok (.iadd, 1) := by decide +kernel
theorem dX9_payment_34 : decode cX9_payment 34 = .ok (.iaload, 1) := by decide +kernel
theorem dX9_payment_35 : decode cX9_payment 35 = .ok (.goto 4, 3) := by decide +kernel
theorem dX9_payment_38 : decode cX9_payment 38 = .ok (.iconst (-1), 1) := by decide +kernel
theorem dX9_payment_39 : decode cX9_payment 39 = .ok (.ireturn, 1) := by decide +kernel
set_option maxRecDepth 20000 in
theorem ggX9_late_X9_laysRows : GoodIn wsX9_late wsX9_laysRows := goodIn_r _ [8, 2, 9, 10, 3, 11, 12, 13, 14, 7, 15, 16, 17, 18, 19, 20, 21, 22, 23, 24, 25, 26, 27, 28, 29, 30, 31, 32, 33, 34, 35, 36, 37, 38, 39, 40, 41, 42, 43, 44, 45, 46, 47, 48, 49, 50, 51, 52, 53, 54, 55, 56, 57, 58, 59, 60, 61, 62, 63, 64, 65, 66, 74, 75, 76, 77, 78, 79, 80, 81, 82, 83, 84, 85, 86, 87, 88, 89, 90, 91, 92, 93] rfl (by decide +kernel)
set_option maxRecDepth 20000 in
theorem gX9_late_X9_laysRows : GoodIn wsX9_late (wsV RX9 191 RX9 yX9_laysRows wsX9_laysRows) := goodIn_app (goodIn_r _ [4, 5, 6, 7] rfl (by decide +kernel)) ggX9_late_X9_laysRows
set_option maxRecDepth 20000 in
theorem ggX9_late_X9_isIn : GoodIn wsX9_late wsX9_isIn := goodIn_r _ [69] rfl (by decide +kernel)
set_option maxRecDepth 20000 in
theorem gX9_late_X9_isIn : GoodIn wsX9_late (va_wsS RX9 88 yX9_isIn wsX9_isIn) := goodIn_app (goodIn_r _ [67, 68, 7] rfl (by decide +kernel)) ggX9_late_X9_isIn
set_option maxRecDepth 20000 in
theorem ggX9_late_X9_refuse : GoodIn wsX9_late wsX9_refuse := goodIn_r _ [73, 1, 74, 75, 76, 77, 78, 79, 80, 81, 82, 83, 84, 85, 86, 87, 88, 89, 90, 91, 92, 93] rfl (by decide +kernel)
set_option maxRecDepth 20000 in
theorem gX9_late_X9_refuse : GoodIn wsX9_late (wsV RX9 205 RX9 yX9_refuse wsX9_refuse) := goodIn_app (goodIn_r _ [70, 71, 72, 7] rfl (by decide +kernel)) ggX9_late_X9_refuse
theorem dX9_late_0 : decode cX9_late 0 = .ok (.aload_n 0, 1) := by decide +kernel
theorem dX9_late_1 : decode cX9_late 1 = .ok (.iconst 0, 1) := by decide +kernel
theorem dX9_late_2 : decode cX9_late 2 = .ok (.putfield 1, 3) := by decide +kernel
theorem dX9_late_5 : decode cX9_late 5 = .ok (.aload_n 0, 1) := by decide +kernel
theorem dX9_late_6 : decode cX9_late 6 = .ok (.invokevirtual 191, 3) := by decide +kernel
theorem dX9_late_9 : decode cX9_late 9 = .ok (.iload_n 1, 1) := by decide +kernel
theorem dX9_late_10 : decode cX9_late 10 = .ok (.iconst 0, 1) := by decide +kernel
theorem dX9_late_11 : decode cX9_late 11 = .ok (.aload_n 0, 1) := by decide +kernel
theorem dX9_late_12 : decode cX9_late 12 = .ok (.getfield 185, 3) := by decide +kernel
theorem dX9_late_15 : decode cX9_late 15 = .ok (.iconst 1, 1) := by decide +kernel
theorem dX9_late_16 : decode cX9_late 16 = .ok (.isub, 1) := by decide +kernel
theorem dX9_late_17 : decode cX9_late 17 = .ok (.invokestatic 88, 3) := by decide +kernel
theorem dX9_late_20 : decode cX9_late 20 = .ok (.ifCond .eq 25, 3) := by decide +kernel
theorem dX9_late_23 : decode cX9_late 23 = .ok (.iload_n 2, 1) := by decide +kernel
theorem dX9_late_24 : decode cX9_late 24 = .ok (.iconst 0, 1) := by decide +kernel
theorem dX9_late_25 : decode cX9_late 25 = .ok (.iconst 4, 1) := by decide +kernel
theorem dX9_late_26 : decode cX9_late 26 = .ok (.invokestatic 88, 3) := by decide +kernel
theorem dX9_late_29 : decode cX9_late 29 = .ok (.ifCond .eq 16, 3) := by decide +kernel
theorem dX9_late_32 : decode cX9_late 32 = .ok (.aload_n 0, 1) := by decide +kernel
theorem dX9_late_33 : decode cX9_late 33 = .ok (.getfield 82, 3) := by decide +kernel
theorem dX9_late_36 : decode cX9_late 36 = .ok (.iconst 5, 1) := by decide +kernel
theorem dX9_late_37 : decode cX9_late 37 = .ok (.iload_n 1, 1) := by decide +kernel
theorem dX9_late_38 : decode cX9_late 38 = .ok (.imul, 1) := by decide +kernel
theorem dX9_late_39 : decode cX9_late 39 = .ok (.iload_n 2, 1) := by decide +kernel
theorem dX9_late_40 : decode cX9_late 40 = .ok (.iadd, 1) := by decide +kernel
theorem dX9_late_41 : decode cX9_late 41 = .ok (.iaload, 1) := by decide +kernel
theorem dX9_late_42 : decode cX9_late 42 = .ok (.goto 7, 3) := by decide +kernel
theorem dX9_late_45 : decode cX9_late 45 = .ok (.aload_n 0, 1) := by decide +kernel
theorem dX9_late_46 : decode cX9_late 46 = .ok (.invokevirtual 205, 3) := by decide +kernel
theorem dX9_late_49 : decode cX9_late 49 = .ok (.ireturn, 1) := by decide +kernel
set_option maxRecDepth 20000 in
theorem ggX9_costsBy_X9_costs : GoodIn wsX9_costsBy wsX9_costs := goodIn_r _ [6, 7, 8, 9, 5, 10, 1, 11, 12, 13, 14, 15, 16, 17, 18, 19, 20, 21, 22, 23, 24, 25, 26, 27, 28, 29, 30, 31, 32, 33, 34, 35, 36, 37, 38, 39, 40, 41, 42, 43, 44, 45, 46, 47, 48, 49, 50, 51, 52, 53, 54, 55, 56, 57, 58, 59, 60, 61, 62, 63, 64, 65, 66, 67, 68, 69, 70, 71, 72, 73, 74, 75, 76, 77, 78, 79, 80, 81, 82, 83, 84, 85, 86, 87, 88, 89, 90, 91, 92] rfl (by decide +kernel)
set_option maxRecDepth 20000 in
theorem gX9_costsBy_X9_costs : GoodIn wsX9_costsBy (wsV RX9 188 RX9 yX9_costs wsX9_costs) := goodIn_app (goodIn_r _ [2, 3, 4, 5] rfl (by decide +kernel)) ggX9_costsBy_X9_costs
theorem dX9_costsBy_0 : decode cX9_costsBy 0 = .ok (.aload_n 0, 1) := by decide +kernel
theorem dX9_costsBy_1 : decode cX9_costsBy 1 = .ok (.getfield 64, 3) := by decide +kernel
theorem dX9_costsBy_4 : decode cX9_costsBy 4 = .ok (.iload_n 1, 1) := by decide +kernel
theorem dX9_costsBy_5 : decode cX9_costsBy 5 = .ok (.iaload, 1) := by decide +kernel
theorem dX9_costsBy_6 : decode cX9_costsBy 6 = .ok (.istore_n 3, 1) := by decide +kernel
theorem dX9_costsBy_7 : decode cX9_costsBy 7 = .ok (.aload_n 0, 1) := by decide +kernel
theorem dX9_costsBy_8 : decode cX9_costsBy 8 = .ok (.getfield 64, 3) := by decide +kernel
theorem dX9_costsBy_11 : decode cX9_costsBy 11 = .ok (.iload_n 1, 1) := by decide +kernel
theorem dX9_costsBy_12 : decode cX9_costsBy 12 = .ok (.iload_n 2, 1) := by decide +kernel
theorem dX9_costsBy_13 : decode cX9_costsBy 13 = .ok (.iastore, 1) := by decide +kernel
theorem dX9_costsBy_14 : decode cX9_costsBy 14 = .ok (.aload_n 0, 1) := by decide +kernel
theorem dX9_costsBy_15 : decode cX9_costsBy 15 = .ok (.invokevirtual 188, 3) := by decide +kernel
theorem dX9_costsBy_18 : decode cX9_costsBy 18 = .ok (.istore 4, 2) := by decide +kernel
theorem dX9_costsBy_20 : decode cX9_costsBy 20 = .ok (.aload_n 0, 1) := by decide +kernel
theorem dX9_costsBy_21 : decode cX9_costsBy 21 = .ok (.getfield 64, 3) := by decide +kernel
theorem dX9_costsBy_24 : decode cX9_costsBy 24 = .ok (.iload_n 1, 1) := by decide +kernel
theorem dX9_costsBy_25 : decode cX9_costsBy 25 = .ok (.iload_n 3, 1) := by decide +kernel
theorem dX9_costsBy_26 : decode cX9_costsBy 26 = .ok (.iastore, 1) := by decide +kernel
theorem dX9_costsBy_27 : decode cX9_costsBy 27 = .ok (.iload 4, 2) := by decide +kernel
theorem dX9_costsBy_29 : decode cX9_costsBy 29 = .ok (.ireturn, 1) := by decide +kernel
set_option maxRecDepth 20000 in
theorem ggX9_moved_X9_isPay : GoodIn wsX9_moved wsX9_isPay := goodIn_r _ [6, 7, 8, 9, 5, 10, 88, 89, 90, 91, 92, 93, 94, 95, 96, 97, 98, 99, 100, 101, 102, 103, 104, 105, 106, 107] rfl (by decide +kernel)
set_option maxRecDepth 20000 in
theorem gX9_moved_X9_isPay : GoodIn wsX9_moved (wsV RX9 202 RX9 yX9_isPay wsX9_isPay) := goodIn_app (goodIn_r _ [2, 3, 4, 5] rfl (by decide +kernel)) ggX9_moved_X9_isPay
set_option maxRecDepth 20000 in
theorem ggX9_moved_X9_isDay : GoodIn wsX9_moved wsX9_isDay := goodIn_r _ [13, 8, 9, 5, 10] rfl (by decide +kernel)
set_option maxRecDepth 20000 in
theorem gX9_moved_X9_isDay : GoodIn wsX9_moved (va_wsS RX9 196 yX9_isDay wsX9_isDay) := goodIn_app (goodIn_r _ [11, 12, 5] rfl (by decide +kernel)) ggX9_moved_X9_isDay
set_option maxRecDepth 20000 in
theorem ggX9_moved_X9_costsBy : GoodIn wsX9_moved wsX9_costsBy := goodIn_r _ [17, 7, 18, 19, 20, 5, 21, 22, 23, 24, 25, 26, 27, 28, 29, 30, 31, 32, 33, 34, 35, 36, 37, 38, 39, 40, 41, 42, 43, 44, 45, 46, 47, 48, 49, 50, 51, 52, 53, 54, 55, 56, 57, 58, 59, 60, 61, 62, 63, 64, 65, 66, 67, 68, 69, 70, 71, 72, 73, 74, 75, 76, 77, 78, 79, 80, 81, 82, 83, 84, 85, 86, 87, 88, 89, 90, 91, 92, 93, 94, 95, 96, 97, 98, 99, 100, 101, 102, 103, 104, 105, 106, 107] rfl (by decide +kernel)
set_option maxRecDepth 20000 in
theorem gX9_moved_X9_costsBy : GoodIn wsX9_moved (wsV RX9 208 RX9 yX9_costsBy wsX9_costsBy) := goodIn_app (goodIn_r _ [14, 15, 16, 5] rfl (by decide +kernel)) ggX9_moved_X9_costsBy
theorem dX9_moved_0 : decode cX9_moved 0 = .ok (.aload_n 0, 1) := by decide +kernel
theorem dX9_moved_1 : decode cX9_moved 1 = .ok (.iconst 0, 1) := by decide +kernel
theorem dX9_moved_2 : decode cX9_moved 2 = .ok (.putfield 1, 3) := by decide +kernel
theorem dX9_moved_5 : decode cX9_moved 5 = .ok (.aload_n 0, 1) := by decide +kernel
theorem dX9_moved_6 : decode cX9_moved 6 = .ok (.iload_n 1, 1) := by decide +kernel
theorem dX9_moved_7 : decode cX9_moved 7 = .ok (.invokevirtual 202, 3) := by decide +kernel
theorem dX9_moved_10 : decode cX9_moved 10 = .ok (.ifCond .eq 24, 3) := by decide +kernel
theorem dX9_moved_13 : decode cX9_moved 13 = .ok (.iload_n 2, 1) := by decide +kernel
theorem dX9_moved_14 : decode cX9_moved 14 = .ok (.invokestatic 196, 3) := by decide +kernel
theorem dX9_moved_17 : decode cX9_moved 17 = .ok (.ifCond .eq 17, 3) := by decide +kernel
theorem dX9_moved_20 : decode cX9_moved 20 = .ok (.aload_n 0, 1) := by decide +kernel
theorem dX9_moved_21 : decode cX9_moved 21 = .ok (.bipush 118, 2) := by decide +kernel
theorem dX9_moved_23 : decode cX9_moved 23 = .ok (.iconst 2, 1) := by decide +kernel
theorem dX9_moved_24 : decode cX9_moved 24 = .ok (.iload_n 1, 1) := by decide +kernel
theorem dX9_moved_25 : decode cX9_moved 25 = .ok (.imul, 1) := by decide +kernel
theorem dX9_moved_26 : decode cX9_moved 26 = .ok (.iadd, 1) := by decide +kernel
theorem dX9_moved_27 : decode cX9_moved 27 = .ok (.iload_n 2, 1) := by decide +kernel
theorem dX9_moved_28 : decode cX9_moved 28 = .ok (.invokevirtual 208, 3) := by decide +kernel
theorem dX9_moved_31 : decode cX9_moved 31 = .ok (.goto 4, 3) := by decide +kernel
theorem dX9_moved_34 : decode cX9_moved 34 = .ok (.iconst (-1), 1) := by decide +kernel
theorem dX9_moved_35 : decode cX9_moved 35 = .ok (.ireturn, 1) := by decide +kernel
set_option maxRecDepth 20000 in
theorem ggX9_were_X9_isPay : GoodIn wsX9_were wsX9_isPay := goodIn_r _ [7, 8, 9, 10, 6, 11, 86, 87, 88, 89, 90, 91, 92, 93, 94, 95, 96, 97, 98, 99, 100, 101, 102, 103, 104, 105] rfl (by decide +kernel)
set_option maxRecDepth 20000 in
theorem gX9_were_X9_isPay : GoodIn wsX9_were (wsV RX9 202 RX9 yX9_isPay wsX9_isPay) := goodIn_app (goodIn_r _ [3, 4, 5, 6] rfl (by decide +kernel)) ggX9_were_X9_isPay
set_option maxRecDepth 20000 in
theorem ggX9_were_X9_isIn : GoodIn wsX9_were wsX9_isIn := goodIn_r _ [11] rfl (by decide +kernel)
set_option maxRecDepth 20000 in
theorem gX9_were_X9_isIn : GoodIn wsX9_were (va_wsS RX9 88 yX9_isIn wsX9_isIn) := goodIn_app (goodIn_r _ [9, 10, 6] rfl (by decide +kernel)) ggX9_were_X9_isIn
set_option maxRecDepth 20000 in
theorem ggX9_were_X9_costsBy : GoodIn wsX9_were wsX9_costsBy := goodIn_r _ [15, 8, 16, 17, 18, 6, 19, 20, 21, 22, 23, 24, 25, 26, 27, 28, 29, 30, 31, 32, 33, 34, 35, 36, 37, 38, 39, 40, 41, 42, 43, 44, 45, 46, 47, 48, 49, 50, 51, 52, 53, 54, 55, 56, 57, 58, 59, 60, 61, 62, 63, 64, 65, 66, 67, 68, 69, 70, 71, 72, 73, 74, 75, 76, 77, 78, 79, 80, 81, 82, 83, 84, 85, 86, 87, 88, 89, 90, 91, 92, 93, 94, 95, 96, 97, 98, 99, 100, 101, 102, 103, 104, 105] rfl (by decide +kernel)
set_option maxRecDepth 20000 in
theorem gX9_were_X9_costsBy : GoodIn wsX9_were (wsV RX9 208 RX9 yX9_costsBy wsX9_costsBy) := goodIn_app (goodIn_r _ [12, 13, 14, 6] rfl (by decide +kernel)) ggX9_were_X9_costsBy
theorem dX9_were_0 : decode cX9_were 0 = .ok (.aload_n 0, 1) := by decide +kernel
theorem dX9_were_1 : decode cX9_were 1 = .ok (.iconst 0, 1) := by decide +kernel
theorem dX9_were_2 : decode cX9_were 2 = .ok (.putfield 1, 3) := by decide +kernel
theorem dX9_were_5 : decode cX9_were 5 = .ok (.aload_n 0, 1) := by decide +kernel
theorem dX9_were_6 : decode cX9_were 6 = .ok (.iload_n 1, 1) := by decide +kernel
theorem dX9_were_7 : decode cX9_were 7 = .ok (.invokevirtual 202, 3) := by decide +kernel
theorem dX9_were_10 : decode cX9_were 10 = .ok (.ifCond .eq 29, 3) := by decide +kernel
theorem dX9_were_13 : decode cX9_were 13 = .ok (.iload_n 2, 1) := by decide +kernel
theorem dX9_were_14 : decode cX9_were 14 = .ok (.iconst 0, 1) := by decide +kernel
theorem dX9_were_15 : decode cX9_were 15 = .ok (.ldc 99, 2) := by decide +kernel
theorem dX9_were_17 : decode cX9_were 17 = .ok (.invokestatic 88, 3) := by decide +kernel
theorem dX9_were_20 : decode cX9_were 20 = .ok (.ifCond .eq 19, 3) := by decide +kernel
theorem dX9_were_23 : decode cX9_were 23 = .ok (.aload_n 0, 1) := by decide +kernel
theorem dX9_were_24 : decode cX9_were 24 = .ok (.bipush 118, 2) := by decide +kernel
theorem dX9_were_26 : decode cX9_were 26 = .ok (.iconst 2, 1) := by decide +kernel
theorem dX9_were_27 : decode cX9_were 27 = .ok (.iload_n 1, 1) := by decide +kernel
theorem dX9_were_28 : decode cX9_were 28 = .ok (.imul, 1) := by decide +kernel
theorem dX9_were_29 : decode cX9_were 29 = .ok (.iadd, 1) := by decide +kernel
theorem dX9_were_30 : decode cX9_were 30 = .ok (.iconst 1, 1) := by decide +kernel
theorem dX9_were_31 : decode cX9_were 31 = .ok (.iadd, 1) := by decide +kernel
theorem dX9_were_32 : decode cX9_were 32 = .ok (.iload_n 2, 1) := by decide +kernel
theorem dX9_were_33 : decode cX9_were 33 = .ok (.invokevirtual 208, 3) := by decide +kernel
theorem dX9_were_36 : decode cX9_were 36 = .ok (.goto 4, 3) := by decide +kernel
theorem dX9_were_39 : decode cX9_were 39 = .ok (.iconst (-1), 1) := by decide +kernel
theorem dX9_were_40 : decode cX9_were 40 = .ok (.ireturn, 1) := by decide +kernel
set_option maxRecDepth 20000 in
theorem ggX9_barredBy_X9_isIn : GoodIn wsX9_barredBy wsX9_isIn := goodIn_r _ [5] rfl (by decide +kernel)
set_option maxRecDepth 20000 in
theorem gX9_barredBy_X9_isIn : GoodIn wsX9_barredBy (va_wsS RX9 88 yX9_isIn wsX9_isIn) := goodIn_app (goodIn_r _ [2, 3, 4] rfl (by decide +kernel)) ggX9_barredBy_X9_isIn
theorem dX9_barredBy_0 : decode cX9_barredBy 0 = .ok (.iload_n 1, 1) := by decide +kernel
theorem dX9_barredBy_1 : decode cX9_barredBy 1 = .ok (.iconst 0, 1) := by decide +kernel
theorem dX9_barredBy_2 : decode cX9_barredBy 2 = .ok (.iconst 2, 1) := by decide +kernel
theorem dX9_barredBy_3 : decode cX9_barredBy 3 = .ok (.invokestatic 88, 3) := by decide +kernel
theorem dX9_barredBy_6 : decode cX9_barredBy 6 = .ok (.ifCond .eq 18, 3) := by decide +kernel
theorem dX9_barredBy_9 : decode cX9_barredBy 9 = .ok (.aload_n 0, 1) := by decide +kernel
theorem dX9_barredBy_10 : decode cX9_barredBy 10 = .ok (.getfield 64, 3) := by decide +kernel
theorem dX9_barredBy_13 : decode cX9_barredBy 13 = .ok (.sipush 239, 3) := by decide +kernel
theorem dX9_barredBy_16 : decode cX9_barredBy 16 = .ok (.iaload, 1) := by decide +kernel
theorem dX9_barredBy_17 : decode cX9_barredBy 17 = .ok (.iconst 1, 1) := by decide +kernel
theorem dX9_barredBy_18 : decode cX9_barredBy 18 = .ok (.iload_n 1, 1) := by decide +kernel
theorem dX9_barredBy_19 : decode cX9_barredBy 19 = .ok (.ishl, 1) := by decide +kernel
theorem dX9_barredBy_20 : decode cX9_barredBy 20 = .ok (.ixor, 1) := by decide +kernel
theorem dX9_barredBy_21 : decode cX9_barredBy 21 = .ok (.goto 5, 3) := by decide +kernel
theorem dX9_barredBy_24 : decode cX9_barredBy 24 = .ok (.bipush 7, 2) := by decide +kernel
theorem dX9_barredBy_26 : decode cX9_barredBy 26 = .ok (.istore_n 2, 1) := by decide +kernel
theorem dX9_barredBy_27 : decode cX9_barredBy 27 = .ok (.iload_n 2, 1) := by decide +kernel
theorem dX9_barredBy_28 : decode cX9_barredBy 28 = .ok (.bipush 7, 2) := by decide +kernel
theorem dX9_barredBy_30 : decode cX9_barredBy 30 = .ok (.if_icmp .ne 7, 3) := by decide +kernel
theorem dX9_barredBy_33 : decode cX9_barredBy 33 = .ok (.iconst (-1), 1) := by decide +kernel
theorem dX9_barredBy_34 : decode cX9_barredBy 34 = .ok (.goto 4, 3) := by decide +kernel
theorem dX9_barredBy_37 : decode cX9_barredBy 37 = .ok (.iload_n 2, 1) := by decide +kernel
theorem dX9_barredBy_38 : decode cX9_barredBy 38 = .ok (.ireturn, 1) := by decide +kernel
set_option maxRecDepth 20000 in
theorem ggX9_barring_X9_barredBy : GoodIn wsX9_barring wsX9_barredBy := goodIn_r _ [6, 7, 8, 9, 5, 10, 85, 86, 87, 88, 89, 90, 91, 92, 93, 94, 95, 96, 97, 98, 99, 100, 101, 102, 103, 104] rfl (by decide +kernel)
set_option maxRecDepth 20000 in
theorem gX9_barring_X9_barredBy : GoodIn wsX9_barring (wsV RX9 211 RX9 yX9_barredBy wsX9_barredBy) := goodIn_app (goodIn_r _ [2, 3, 4, 5] rfl (by decide +kernel)) ggX9_barring_X9_barredBy
set_option maxRecDepth 20000 in
theorem ggX9_barring_X9_costsBy : GoodIn wsX9_barring wsX9_costsBy := goodIn_r _ [14, 7, 15, 16, 17, 5, 18, 19, 20, 21, 22, 23, 24, 25, 26, 27, 28, 29, 30, 31, 32, 33, 34, 35, 36, 37, 38, 39, 40, 41, 42, 43, 44, 45, 46, 47, 48, 49, 50, 51, 52, 53, 54, 55, 56, 57, 58, 59, 60, 61, 62, 63, 64, 65, 66, 67, 68, 69, 70, 71, 72, 73, 74, 75, 76, 77, 78, 79, 80, 81, 82, 83, 84, 85, 86, 87, 88, 89, 90, 91, 92, 93, 94, 95, 96, 97, 98, 99, 100, 101, 102, 103, 104] rfl (by decide +kernel)
set_option maxRecDepth 20000 in
theorem gX9_barring_X9_costsBy : GoodIn wsX9_barring (wsV RX9 208 RX9 yX9_costsBy wsX9_costsBy) := goodIn_app (goodIn_r _ [11, 12, 13, 5] rfl (by decide +kernel)) ggX9_barring_X9_costsBy
theorem dX9_barring_0 : decode cX9_barring 0 = .ok (.aload_n 0, 1) := by decide +kernel
theorem dX9_barring_1 : decode cX9_barring 1 = .ok (.iconst 0, 1) := by decide +kernel
theorem dX9_barring_2 : decode cX9_barring 2 = .ok (.putfield 1, 3) := by decide +kernel
theorem dX9_barring_5 : decode cX9_barring 5 = .ok (.aload_n 0, 1) := by decide +kernel
theorem dX9_barring_6 : decode cX9_barring 6 = .ok (.iload_n 1, 1) := by decide +kernel
theorem dX9_barring_7 : decode cX9_barring 7 = .ok (.invokevirtual 211, 3) := by decide +kernel
theorem dX9_barring_10 : decode cX9_barring 10 = .ok (.iconst (-1), 1) := by decide +kernel
theorem dX9_barring_11 : decode cX9_barring 11 = .ok (.if_icmp .ne 7, 3) := by decide +kernel
theorem dX9_barring_14 : decode cX9_barring 14 = .ok (.iconst (-1), 1) := by decide +kernel
theorem dX9_barring_15 : decode cX9_barring 15 = .ok (.goto 15, 3) := by decide +kernel
theorem dX9_barring_18 : decode cX9_barring 18 = .ok (.aload_n 0, 1) := by decide +kernel
theorem dX9_barring_19 : decode cX9_barring 19 = .ok (.sipush 239, 3) := by decide +kernel
theorem dX9_barring_22 : decode cX9_barring 22 = .ok (.aload_n 0, 1) := by decide +kernel
theorem dX9_barring_23 : decode cX9_barring 23 = .ok (.iload_n 1, 1) := by decide +kernel
theorem dX9_barring_24 : decode cX9_barring 24 = .ok (.invokevirtual 211, 3) := by decide +kernel
theorem dX9_barring_27 : decode cX9_barring 27 = .ok (.invokevirtual 208, 3) := by decide +kernel
theorem dX9_barring_30 : decode cX9_barring 30 = .ok (.ireturn, 1) := by decide +kernel
set_option maxRecDepth 20000 in
theorem ggX9_latest_X9_isIn : GoodIn wsX9_latest wsX9_isIn := goodIn_r _ [7] rfl (by decide +kernel)
set_option maxRecDepth 20000 in
theorem gX9_latest_X9_isIn : GoodIn wsX9_latest (va_wsS RX9 88 yX9_isIn wsX9_isIn) := goodIn_app (goodIn_r _ [4, 5, 6] rfl (by decide +kernel)) ggX9_latest_X9_isIn
set_option maxRecDepth 20000 in
theorem ggX9_latest_X9_costs : GoodIn wsX9_latest wsX9_costs := goodIn_r _ [11, 12, 13, 14, 6, 15, 3, 16, 17, 18, 19, 20, 21, 22, 23, 24, 25, 26, 27, 28, 29, 30, 31, 32, 33, 34, 35, 36, 37, 38, 39, 40, 41, 42, 43, 44, 45, 46, 47, 48, 49, 50, 51, 52, 53, 54, 55, 56, 57, 58, 59, 60, 61, 62, 63, 64, 65, 66, 67, 68, 69, 70, 71, 72, 73, 74, 75, 76, 77, 78, 79, 80, 81, 82, 83, 84, 85, 86, 87, 88, 89, 90, 91, 92, 93, 94, 95, 96, 97] rfl (by decide +kernel)
set_option maxRecDepth 20000 in
theorem gX9_latest_X9_costs : GoodIn wsX9_latest (wsV RX9 188 RX9 yX9_costs wsX9_costs) := goodIn_app (goodIn_r _ [8, 9, 10, 6] rfl (by decide +kernel)) ggX9_latest_X9_costs
set_option maxRecDepth 20000 in
theorem ggX9_latest_X9_costsWith : GoodIn wsX9_latest wsX9_costsWith := goodIn_r _ [68, 69, 70, 71, 6, 72, 3, 55, 56, 73, 74, 75, 76, 77, 20, 78, 79, 80, 81, 82, 83, 84, 85, 86, 87, 88, 89, 90, 91, 92, 93, 94, 95, 96, 97] rfl (by decide +kernel)
set_option maxRecDepth 20000 in
theorem gX9_latest_X9_costsWith : GoodIn wsX9_latest (wsV RX9 182 RX9 yX9_costsWith wsX9_costsWith) := goodIn_app (goodIn_r _ [65, 66, 67, 6] rfl (by decide +kernel)) ggX9_latest_X9_costsWith
theorem dX9_latest_0 : decode cX9_latest 0 = .ok (.aload_n 0, 1) := by decide +kernel
theorem dX9_latest_1 : decode cX9_latest 1 = .ok (.iconst 0, 1) := by decide +kernel
theorem dX9_latest_2 : decode cX9_latest 2 = .ok (.putfield 1, 3) := by decide +kernel
theorem dX9_latest_5 : decode cX9_latest 5 = .ok (.iload_n 1, 1) := by decide +kernel
theorem dX9_latest_6 : decode cX9_latest 6 = .ok (.iconst 1, 1) := by decide +kernel
theorem dX9_latest_7 : decode cX9_latest 7 = .ok (.ldc 99, 2) := by decide +kernel
theorem dX9_latest_9 : decode cX9_latest 9 = .ok (.invokestatic 88, 3) := by decide +kernel
theorem dX9_latest_12 : decode cX9_latest 12 = .ok (.ifCond .ne 5, 3) := by decide +kernel
theorem dX9_latest_15 : decode cX9_latest 15 = .ok (.iconst (-1), 1) := by decide +kernel
theorem dX9_latest_16 : decode cX9_latest 16 = .ok (.ireturn, 1) := by decide +kernel
theorem dX9_latest_17 : decode cX9_latest 17 = .ok (.aload_n 0, 1) := by decide +kernel
theorem dX9_latest_18 : decode cX9_latest 18 = .ok (.invokevirtual 188, 3) := by decide +kernel
theorem dX9_latest_21 : decode cX9_latest 21 = .ok (.pop, 1) := by decide +kernel
theorem dX9_latest_22 : decode cX9_latest 22 = .ok (.aload_n 0, 1) := by decide +kernel
theorem dX9_latest_23 : decode cX9_latest 23 = .ok (.iconst 0, 1) := by decide +kernel
theorem dX9_latest_24 : decode cX9_latest 24 = .ok (.iload_n 1, 1) := by decide +kernel
theorem dX9_latest_25 : decode cX9_latest 25 = .ok (.invokevirtual 182, 3) := by decide +kernel
theorem dX9_latest_28 : decode cX9_latest 28 = .ok (.istore_n 2, 1) := by decide +kernel
theorem dX9_latest_29 : decode cX9_latest 29 = .ok (.aload_n 0, 1) := by decide +kernel
theorem dX9_latest_30 : decode cX9_latest 30 = .ok (.getfield 64, 3) := by decide +kernel
theorem dX9_latest_33 : decode cX9_latest 33 = .ok (.iconst 2, 1) := by decide +kernel
theorem dX9_latest_34 : decode cX9_latest 34 = .ok (.iaload, 1) := by decide +kernel
theorem dX9_latest_35 : decode cX9_latest 35 = .ok (.istore_n 3, 1) := by decide +kernel
theorem dX9_latest_36 : decode cX9_latest 36 = .ok (.aload_n 0, 1) := by decide +kernel
theorem dX9_latest_37 : decode cX9_latest 37 = .ok (.iload_n 3, 1) := by decide +kernel
theorem dX9_latest_38 : decode cX9_latest 38 = .ok (.iload_n 1, 1) := by decide +kernel
theorem dX9_latest_39 : decode cX9_latest 39 = .ok (.invokevirtual 182, 3) := by decide +kernel
theorem dX9_latest_42 : decode cX9_latest 42 = .ok (.iload_n 2, 1) := by decide +kernel
theorem dX9_latest_43 : decode cX9_latest 43 = .ok (.if_icmp .eq 9, 3) := by decide +kernel
theorem dX9_latest_46 : decode cX9_latest 46 = .ok (.iinc 3 (-1), 3) := by decide +kernel
theorem dX9_latest_49 : decode cX9_latest 49 = .ok (.goto (-13), 3) := by decide +kernel
theorem dX9_latest_52 : decode cX9_latest 52 = .ok (.iload_n 3, 1) := by decide +kernel
theorem dX9_latest_53 : decode cX9_latest 53 = .ok (.ireturn, 1) := by decide +kernel
set_option maxRecDepth 20000 in
theorem ggX9_clears_X9_isDay : GoodIn wsX9_clears wsX9_isDay := goodIn_r _ [6, 7, 8, 5, 9] rfl (by decide +kernel)
set_option maxRecDepth 20000 in
theorem gX9_clears_X9_isDay : GoodIn wsX9_clears (va_wsS RX9 196 yX9_isDay wsX9_isDay) := goodIn_app (goodIn_r _ [3, 4, 5] rfl (by decide +kernel)) ggX9_clears_X9_isDay
set_option maxRecDepth 20000 in
theorem ggX9_clears_X9_laysInstalments_ : GoodIn wsX9_clears wsX9_laysInstalments_ := goodIn_r _ [13, 14, 15, 16, 17, 5, 18, 2, 19, 20, 21, 22, 23, 24, 25, 26, 27, 28, 29, 30, 31, 32, 33, 34, 35, 36, 37, 38, 39, 40, 41, 42, 43, 44, 45, 46, 47, 48, 53, 54, 55, 56, 57, 58, 59, 60, 61, 62, 63, 64, 65, 66, 67, 68, 69, 70, 71, 72] rfl (by decide +kernel)
set_option maxRecDepth 20000 in
theorem gX9_clears_X9_laysInstalments_ : GoodIn wsX9_clears (wsV RX9 177 RX9 yX9_laysInstalments_ wsX9_laysInstalments_) := goodIn_app (goodIn_r _ [10, 11, 12, 5] rfl (by decide +kernel)) ggX9_clears_X9_laysInstalments_
set_option maxRecDepth 20000 in
theorem ggX9_clears_X9_paidAt : GoodIn wsX9_clears wsX9_paidAt := goodIn_r _ [52, 14, 35, 36, 37, 5, 38, 53, 54, 55, 56, 57, 58, 59, 60, 61, 62, 63, 64, 65, 66, 67, 68, 69, 70, 71, 72] rfl (by decide +kernel)
set_option maxRecDepth 20000 in
theorem gX9_clears_X9_paidAt : GoodIn wsX9_clears (wsV RX9 162 RX9 yX9_paidAt wsX9_paidAt) := goodIn_app (goodIn_r _ [49, 50, 51, 5] rfl (by decide +kernel)) ggX9_clears_X9_paidAt
theorem dX9_clears_0 : decode cX9_clears 0 = .ok (.aload_n 0, 1) := by decide +kernel
theorem dX9_clears_1 : decode cX9_clears 1 = .ok (.iconst 0, 1) := by decide +kernel
theorem dX9_clears_2 : decode cX9_clears 2 = .ok (.putfield 1, 3) := by decide +kernel
theorem dX9_clears_5 : decode cX9_clears 5 = .ok (.iload_n 1, 1) := by decide +kernel
theorem dX9_clears_6 : decode cX9_clears 6 = .ok (.invokestatic 196, 3) := by decide +kernel
theorem dX9_clears_9 : decode cX9_clears 9 = .ok (.ifCond .ne 5, 3) := by decide +kernel
theorem dX9_clears_12 : decode cX9_clears 12 = .ok (.iconst (-1), 1) := by decide +kernel
theorem dX9_clears_13 : decode cX9_clears 13 = .ok (.ireturn, 1) := by decide +kernel
theorem dX9_clears_14 : decode cX9_clears 14 = .ok (.aload_n 0, 1) := by decide +kernel
theorem dX9_clears_15 : decode cX9_clears 15 = .ok (.invokevirtual 177, 3) := by decide +kernel
theorem dX9_clears_18 : decode cX9_clears 18 = .ok (.aload_n 0, 1) := by decide +kernel
theorem dX9_clears_19 : decode cX9_clears 19 = .ok (.iload_n 1, 1) := by decide +kernel
theorem dX9_clears_20 : decode cX9_clears 20 = .ok (.invokevirtual 162, 3) := by decide +kernel
theorem dX9_clears_23 : decode cX9_clears 23 = .ok (.ineg, 1) := by decide +kernel
theorem dX9_clears_24 : decode cX9_clears 24 = .ok (.istore_n 2, 1) := by decide +kernel
theorem dX9_clears_25 : decode cX9_clears 25 = .ok (.iconst 0, 1) := by decide +kernel
theorem dX9_clears_26 : decode cX9_clears 26 = .ok (.istore_n 3, 1) := by decide +kernel
theorem dX9_clears_27 : decode cX9_clears 27 = .ok (.iload_n 3, 1) := by decide +kernel
theorem dX9_clears_28 : decode cX9_clears 28 = .ok (.iconst 4, 1) := by decide +kernel
theorem dX9_clears_29 : decode cX9_clears 29 = .ok (.if_icmp .ge 18, 3) := by decide +kernel
theorem dX9_clears_32 : decode cX9_clears 32 = .ok (.iload_n 2, 1) := by decide +kernel
theorem dX9_clears_33 : decode cX9_clears 33 = .ok (.aload_n 0, 1) := by decide +kernel
theorem dX9_clears_34 : decode cX9_clears 34 = .ok (.getfield 73, 3) := by decide +kernel
theorem dX9_clears_37 : decode cX9_clears 37 = .ok (.iload_n 3, 1) := by decide +kernel
theorem dX9_clears_38 : decode cX9_clears 38 = .ok (.iaload, 1) := by decide +kernel
theorem dX9_clears_39 : decode cX9_clears 39 = .ok (.iadd, 1) := by decide +kernel
theorem dX9_clears_40 : decode cX9_clears 40 = .ok (.istore_n 2, 1) := by decide +kernel
theorem dX9_clears_41 : decode cX9_clears 41 = .ok (.iinc 3 1, 3) := by decide +kernel
theorem dX9_clears_44 : decode cX9_clears 44 = .ok (.goto (-17), 3) := by decide +kernel
theorem dX9_clears_47 : decode cX9_clears 47 = .ok (.iload_n 2, 1) := by decide +kernel
theorem dX9_clears_48 : decode cX9_clears 48 = .ok (.ifCond .le 7, 3) := by decide +kernel
theorem dX9_clears_51 : decode cX9_clears 51 = .ok (.iload_n 2, 1) := by decide +kernel
theorem dX9_clears_52 : decode cX9_clears 52 = .ok (.goto 4, 3) := by decide +kernel
theorem dX9_clears_55 : decode cX9_clears 55 = .ok (.iconst 0, 1) := by decide +kernel
theorem dX9_clears_56 : decode cX9_clears 56 = .ok (.ireturn, 1) := by decide +kernel
theorem dX9_snap_0 : decode cX9_snap 0 = .ok (.aload_n 0, 1) := by decide +kernel
theorem dX9_snap_1 : decode cX9_snap 1 = .ok (.getfield 125, 3) := by decide +kernel
theorem dX9_snap_4 : decode cX9_snap 4 = .ok (.bipush 12, 2) := by decide +kernel
theorem dX9_snap_6 : decode cX9_snap 6 = .ok (.if_icmp .ne 44, 3) := by decide +kernel
theorem dX9_snap_9 : decode cX9_snap 9 = .ok (.iconst 0, 1) := by decide +kernel
theorem dX9_snap_10 : decode cX9_snap 10 = .ok (.istore_n 1, 1) := by decide +kernel
theorem dX9_snap_11 : decode cX9_snap 11 = .ok (.iload_n 1, 1) := by decide +kernel
theorem dX9_snap_12 : decode cX9_snap 12 = .ok (.sipush 2640, 3) := by decide +kernel
theorem dX9_snap_15 : decode cX9_snap 15 = .ok (.if_icmp .ge 25, 3) := by decide +kernel
theorem dX9_snap_18 : decode cX9_snap 18 = .ok (.aload_n 0, 1) := by decide +kernel
theorem dX9_snap_19 : decode cX9_snap 19 = .ok (.getfield 70, 3) := by decide +kernel
theorem dX9_snap_22 : decode cX9_snap 22 = .ok (.iload_n 1, 1) := by decide +kernel
theorem dX9_snap_23 : decode cX9_snap 23 = .ok (.aload_n 0, 1) := by decide +kernel
theorem dX9_snap_24 : decode cX9_snap 24 = .ok (.getfield 70, 3) := by decide +kernel
theorem dX9_snap_27 : decode cX9_snap 27 = .ok (.iload_n 1, 1) := by decide +kernel
theorem dX9_snap_28 : decode cX9_snap 28 = .ok (.sipush 240, 3) := by decide +kernel
theorem dX9_snap_31 : decode cX9_snap 31 = .ok (.iadd, 1) := by decide +kernel
theorem dX9_snap_32 : decode cX9_snap 32 = .ok (.iaload, 1) := by decide +kernel
theorem dX9_snap_33 : decode cX9_snap 33 = .ok (.iastore, 1) := by decide +kernel
theorem dX9_snap_34 : decode cX9_snap 34 = .ok (.iinc 1 1, 3) := by decide +kernel
theorem dX9_snap_37 : decode cX9_snap 37 = .ok (.goto (-26), 3) := by decide +kernel
theorem dX9_snap_40 : decode cX9_snap 40 = .ok (.aload_n 0, 1) := by decide +kernel
theorem dX9_snap_41 : decode cX9_snap 41 = .ok (.dup, 1) := by decide +kernel
theorem dX9_snap_42 : decode cX9_snap 42 = .ok (.getfield 125, 3) := by decide +kernel
theorem dX9_snap_45 : decode cX9_snap 45 = .ok (.iconst 1, 1) := by decide +kernel
theorem dX9_snap_46 : decode cX9_snap 46 = .ok (.isub, 1) := by decide +kernel
theorem dX9_snap_47 : decode cX9_snap 47 = .ok (.putfield 125, 3) := by decide +kernel
theorem dX9_snap_50 : decode cX9_snap 50 = .ok (.iconst 0, 1) := by decide +kernel
theorem dX9_snap_51 : decode cX9_snap 51 = .ok (.istore_n 1, 1) := by decide +kernel
theorem dX9_snap_52 : decode cX9_snap 52 = .ok (.iload_n 1, 1) := by decide +kernel
theorem dX9_snap_53 : decode cX9_snap 53 = .ok (.sipush 240, 3) := by decide +kernel
theorem dX9_snap_56 : decode cX9_snap 56 = .ok (.if_icmp .ge 30, 3) := by decide +kernel
theorem dX9_snap_59 : decode cX9_snap 59 = .ok (.aload_n 0, 1) := by decide +kernel
theorem dX9_snap_60 : decode cX9_snap 60 = .ok (.getfield 70, 3) := by decide +kernel
theorem dX9_snap_63 : decode cX9_snap 63 = .ok (.sipush 240, 3) := by decide +kernel
theorem dX9_snap_66 : decode cX9_snap 66 = .ok (.aload_n 0, 1) := by decide +kernel
theorem dX9_snap_67 : decode cX9_snap 67 = .ok (.getfield 125, 3) := by decide +kernel
theorem dX9_snap_70 : decode cX9_snap 70 = .ok (.imul, 1) := by decide +kernel
theorem dX9_snap_71 : decode cX9_snap 71 = .ok (.iload_n 1, 1) := by decide +kernel
theorem dX9_snap_72 : decode cX9_snap 72 = .ok (.iadd, 1) := by decide +kernel
theorem dX9_snap_73 : decode cX9_snap 73 = .ok (.aload_n 0, 1) := by decide +kernel
theorem dX9_snap_74 : decode cX9_snap 74 = .ok (.getfield 64, 3) := by decide +kernel
theorem dX9_snap_77 : decode cX9_snap 77 = .ok (.iload_n 1, 1) := by decide +kernel
theorem dX9_snap_78 : decode cX9_snap 78 = .ok (.iaload, 1) := by decide +kernel
theorem dX9_snap_79 : decode cX9_snap 79 = .ok (.iastore, 1) := by decide +kernel
theorem dX9_snap_80 : decode cX9_snap 80 = .ok (.iinc 1 1, 3) := by decide +kernel
theorem dX9_snap_83 : decode cX9_snap 83 = .ok (.goto (-31), 3) := by decide +kernel
theorem dX9_snap_86 : decode cX9_snap 86 = .ok (.aload_n 0, 1) := by decide +kernel
theorem dX9_snap_87 : decode cX9_snap 87 = .ok (.dup, 1) := by decide +kernel
theorem dX9_snap_88 : decode cX9_snap 88 = .ok (.getfield 125, 3) := by decide +kernel
theorem dX9_snap_91 : decode cX9_snap 91 = .ok (.iconst 1, 1) := by decide +kernel
theorem dX9_snap_92 : decode cX9_snap 92 = .ok (.iadd, 1) := by decide +kernel
theorem dX9_snap_93 : decode cX9_snap 93 = .ok (.putfield 125, 3) := by decide +kernel
theorem dX9_snap_96 : decode cX9_snap 96 = .ok (.return_, 1) := by decide +kernel
set_option maxRecDepth 20000 in
theorem ggX9_adds_X9_snap : GoodIn wsX9_adds wsX9_snap := goodIn_r _ [6, 7, 8, 1, 9, 10, 11, 12, 13, 14, 15, 16, 17, 18, 19, 20, 21, 22, 23, 24, 25, 26, 27, 28] rfl (by decide +kernel)
set_option maxRecDepth 20000 in
theorem gX9_adds_X9_snap : GoodIn wsX9_adds (wsV RX9 214 RX9 yX9_snap wsX9_snap) := goodIn_app (goodIn_r _ [2, 3, 4, 5] rfl (by decide +kernel)) ggX9_adds_X9_snap
theorem dX9_adds_0 : decode cX9_adds 0 = .ok (.aload_n 0, 1) := by decide +kernel
theorem dX9_adds_1 : decode cX9_adds 1 = .ok (.invokevirtual 214, 3) := by decide +kernel
theorem dX9_adds_4 : decode cX9_adds 4 = .ok (.aload_n 0, 1) := by decide +kernel
theorem dX9_adds_5 : decode cX9_adds 5 = .ok (.getfield 64, 3) := by decide +kernel
theorem dX9_adds_8 : decode cX9_adds 8 = .ok (.iload_n 1, 1) := by decide +kernel
theorem dX9_adds_9 : decode cX9_adds 9 = .ok (.iconst 1, 1) := by decide +kernel
theorem dX9_adds_10 : decode cX9_adds 10 = .ok (.iadd, 1) := by decide +kernel
theorem dX9_adds_11 : decode cX9_adds 11 = .ok (.iconst 2, 1) := by decide +kernel
theorem dX9_adds_12 : decode cX9_adds 12 = .ok (.aload_n 0, 1) := by decide +kernel
theorem dX9_adds_13 : decode cX9_adds 13 = .ok (.getfield 64, 3) := by decide +kernel
theorem dX9_adds_16 : decode cX9_adds 16 = .ok (.iload_n 1, 1) := by decide +kernel
theorem dX9_adds_17 : decode cX9_adds 17 = .ok (.iaload, 1) := by decide +kernel
theorem dX9_adds_18 : decode cX9_adds 18 = .ok (.imul, 1) := by decide +kernel
theorem dX9_adds_19 : decode cX9_adds 19 = .ok (.iadd, 1) := by decide +kernel
theorem dX9_adds_20 : decode cX9_adds 20 = .ok (.iload_n 2, 1) := by decide +kernel
theorem dX9_adds_21 : decode cX9_adds 21 = .ok (.iastore, 1) := by decide +kernel
theorem dX9_adds_22 : decode cX9_adds 22 = .ok (.aload_n 0, 1) := by decide +kernel
theorem dX9_adds_23 : decode cX9_adds 23 = .ok (.getfield 64, 3) := by decide +kernel
theorem dX9_adds_26 : decode cX9_adds 26 = .ok (.iload_n 1, 1) := by decide +kernel
theorem dX9_adds_27 : decode cX9_adds 27 = .ok (.iconst 2, 1) := by decide +kernel
theorem dX9_adds_28 : decode cX9_adds 28 = .ok (.iadd, 1) := by decide +kernel
theorem dX9_adds_29 : decode cX9_adds 29 = .ok (.iconst 2, 1) := by decide +kernel
theorem dX9_adds_30 : decode cX9_adds 30 = .ok (.aload_n 0, 1) := by decide +kernel
theorem dX9_adds_31 : decode cX9_adds 31 = .ok (.getfield 64, 3) := by decide +kernel
theorem dX9_adds_34 : decode cX9_adds 34 = .ok (.iload_n 1, 1) := by decide +kernel
theorem dX9_adds_35 : decode cX9_adds 35 = .ok (.iaload, 1) := by decide +kernel
theorem dX9_adds_36 : decode cX9_adds 36 = .ok (.imul, 1) := by decide +kernel
theorem dX9_adds_37 : decode cX9_adds 37 = .ok (.iadd, 1) := by decide +kernel
theorem dX9_adds_38 : decode cX9_adds 38 = .ok (.iload_n 3, 1) := by decide +kernel
theorem dX9_adds_39 : decode cX9_adds 39 = .ok (.iastore, 1) := by decide +kernel
theorem dX9_adds_40 : decode cX9_adds 40 = .ok (.aload_n 0, 1) := by decide +kernel
theorem dX9_adds_41 : decode cX9_adds 41 = .ok (.getfield 64, 3) := by decide +kernel
theorem dX9_adds_44 : decode cX9_adds 44 = .ok (.iload_n 1, 1) := by decide +kernel
theorem dX9_adds_45 : decode cX9_adds 45 = .ok (.dup2, 1) := by decide +kernel
theorem dX9_adds_46 : decode cX9_adds 46 = .ok (.iaload, 1) := by decide +kernel
theorem dX9_adds_47 : decode cX9_adds 47 = .ok (.iconst 1, 1) := by decide +kernel
theorem dX9_adds_48 : decode cX9_adds 48 = .ok (.iadd, 1) := by decide +kernel
theorem dX9_adds_49 : decode cX9_adds 49 = .ok (.iastore, 1) := by decide +kernel
theorem dX9_adds_50 : decode cX9_adds 50 = .ok (.return_, 1) := by decide +kernel
set_option maxRecDepth 20000 in
theorem ggX9_earn_X9_isIn : GoodIn wsX9_earn wsX9_isIn := goodIn_r _ [7] rfl (by decide +kernel)
set_option maxRecDepth 20000 in
theorem gX9_earn_X9_isIn : GoodIn wsX9_earn (va_wsS RX9 88 yX9_isIn wsX9_isIn) := goodIn_app (goodIn_r _ [4, 5, 6] rfl (by decide +kernel)) ggX9_earn_X9_isIn
set_option maxRecDepth 20000 in
theorem ggX9_earn_X9_adds : GoodIn wsX9_earn wsX9_adds := goodIn_r _ [11, 3, 12, 13, 14, 6, 15, 16, 17, 26, 27, 28, 29, 30, 31, 32, 33, 34, 35, 36, 37, 38, 39, 40, 41, 42, 43, 44, 45] rfl (by decide +kernel)
set_option maxRecDepth 20000 in
theorem gX9_earn_X9_adds : GoodIn wsX9_earn (wsV RX9 217 RX9 yX9_adds wsX9_adds) := goodIn_app (goodIn_r _ [8, 9, 10, 6] rfl (by decide +kernel)) ggX9_earn_X9_adds
set_option maxRecDepth 20000 in
theorem ggX9_earn_X9_allIncome : GoodIn wsX9_earn wsX9_allIncome := goodIn_r _ [21, 22, 23, 24, 6, 25, 3, 26, 27, 28, 29, 30, 31, 32, 33, 34, 35, 36, 37, 38, 39, 40, 41, 42, 43, 44, 45] rfl (by decide +kernel)
set_option maxRecDepth 20000 in
theorem gX9_earn_X9_allIncome : GoodIn wsX9_earn (wsV RX9 136 RX9 yX9_allIncome wsX9_allIncome) := goodIn_app (goodIn_r _ [18, 19, 20, 6] rfl (by decide +kernel)) ggX9_earn_X9_allIncome
theorem dX9_earn_0 : decode cX9_earn 0 = .ok (.aload_n 0, 1) := by decide +kernel
theorem dX9_earn_1 : decode cX9_earn 1 = .ok (.iconst 0, 1) := by decide +kernel
theorem dX9_earn_2 : decode cX9_earn 2 = .ok (.putfield 1, 3) := by decide +kernel
theorem dX9_earn_5 : decode cX9_earn 5 = .ok (.iload_n 1, 1) := by decide +kernel
theorem dX9_earn_6 : decode cX9_earn 6 = .ok (.iconst 0, 1) := by decide +kernel
theorem dX9_earn_7 : decode cX9_earn 7 = .ok (.sipush 364, 3) := by decide +kernel
theorem dX9_earn_10 : decode cX9_earn 10 = .ok (.invokestatic 88, 3) := by decide +kernel
theorem dX9_earn_13 : decode cX9_earn 13 = .ok (.ifCond .eq 13, 3) := by decide +kernel
theorem dX9_earn_16 : decode cX9_earn 16 = .ok (.iload_n 2, 1) := by decide +kernel
theorem dX9_earn_17 : decode cX9_earn 17 = .ok (.iconst 1, 1) := by decide +kernel
theorem dX9_earn_18 : decode cX9_earn 18 = .ok (.ldc 99, 2) := by decide +kernel
theorem dX9_earn_20 : decode cX9_earn 20 = .ok (.invokestatic 88, 3) := by decide +kernel
theorem dX9_earn_23 : decode cX9_earn 23 = .ok (.ifCond .ne 5, 3) := by decide +kernel
theorem dX9_earn_26 : decode cX9_earn 26 = .ok (.iconst (-1), 1) := by decide +kernel
theorem dX9_earn_27 : decode cX9_earn 27 = .ok (.ireturn, 1) := by decide +kernel
theorem dX9_earn_28 : decode cX9_earn 28 = .ok (.aload_n 0, 1) := by decide +kernel
theorem dX9_earn_29 : decode cX9_earn 29 = .ok (.getfield 64, 3) := by decide +kernel
theorem dX9_earn_32 : decode cX9_earn 32 = .ok (.bipush 36, 2) := by decide +kernel
theorem dX9_earn_34 : decode cX9_earn 34 = .ok (.iaload, 1) := by decide +kernel
theorem dX9_earn_35 : decode cX9_earn 35 = .ok (.bipush 40, 2) := by decide +kernel
theorem dX9_earn_37 : decode cX9_earn 37 = .ok (.if_icmp .ne 6, 3) := by decide +kernel
theorem dX9_earn_40 : decode cX9_earn 40 = .ok (.bipush (-2), 2) := by decide +kernel
theorem dX9_earn_42 : decode cX9_earn 42 = .ok (.ireturn, 1) := by decide +kernel
theorem dX9_earn_43 : decode cX9_earn 43 = .ok (.aload_n 0, 1) := by decide +kernel
theorem dX9_earn_44 : decode cX9_earn 44 = .ok (.bipush 36, 2) := by decide +kernel
theorem dX9_earn_46 : decode cX9_earn 46 = .ok (.iload_n 1, 1) := by decide +kernel
theorem dX9_earn_47 : decode cX9_earn 47 = .ok (.iload_n 2, 1) := by decide +kernel
theorem dX9_earn_48 : decode cX9_earn 48 = .ok (.invokevirtual 217, 3) := by decide +kernel
theorem dX9_earn_51 : decode cX9_earn 51 = .ok (.aload_n 0, 1) := by decide +kernel
theorem dX9_earn_52 : decode cX9_earn 52 = .ok (.invokevirtual 136, 3) := by decide +kernel
theorem dX9_earn_55 : decode cX9_earn 55 = .ok (.ireturn, 1) := by decide +kernel
set_option maxRecDepth 20000 in
theorem ggX9_pay_X9_isDay : GoodIn wsX9_pay wsX9_isDay := goodIn_r _ [7, 8, 9, 6, 10] rfl (by decide +kernel)
set_option maxRecDepth 20000 in
theorem gX9_pay_X9_isDay : GoodIn wsX9_pay (va_wsS RX9 196 yX9_isDay wsX9_isDay) := goodIn_app (goodIn_r _ [4, 5, 6] rfl (by decide +kernel)) ggX9_pay_X9_isDay
set_option maxRecDepth 20000 in
theorem ggX9_pay_X9_isIn : GoodIn wsX9_pay wsX9_isIn := goodIn_r _ [10] rfl (by decide +kernel)
set_option maxRecDepth 20000 in
theorem gX9_pay_X9_isIn : GoodIn wsX9_pay (va_wsS RX9 88 yX9_isIn wsX9_isIn) := goodIn_app (goodIn_r _ [8, 9, 6] rfl (by decide +kernel)) ggX9_pay_X9_isIn
set_option maxRecDepth 20000 in
theorem ggX9_pay_X9_adds : GoodIn wsX9_pay wsX9_adds := goodIn_r _ [14, 3, 15, 16, 17, 6, 18, 19, 20, 21, 22, 23, 24, 25, 26, 27, 28, 29, 30, 31, 32, 33, 34, 35, 36, 37, 38, 39, 40] rfl (by decide +kernel)
set_option maxRecDepth 20000 in
theorem gX9_pay_X9_adds : GoodIn wsX9_pay (wsV RX9 217 RX9 yX9_adds wsX9_adds) := goodIn_app (goodIn_r _ [11, 12, 13, 6] rfl (by decide +kernel)) ggX9_pay_X9_adds
theorem dX9_pay_0 : decode cX9_pay 0 = .ok (.aload_n 0, 1) := by decide +kernel
theorem dX9_pay_1 : decode cX9_pay 1 = .ok (.iconst 0, 1) := by decide +kernel
theorem dX9_pay_2 : decode cX9_pay 2 = .ok (.putfield 1, 3) := by decide +kernel
theorem dX9_pay_5 : decode cX9_pay 5 = .ok (.iload_n 1, 1) := by decide +kernel
theorem dX9_pay_6 : decode cX9_pay 6 = .ok (.invokestatic 196, 3) := by decide +kernel
theorem dX9_pay_9 : decode cX9_pay 9 = .ok (.ifCond .eq 13, 3) := by decide +kernel
theorem dX9_pay_12 : decode cX9_pay 12 = .ok (.iload_n 2, 1) := by decide +kernel
theorem dX9_pay_13 : decode cX9_pay 13 = .ok (.iconst 1, 1) := by decide +kernel
theorem dX9_pay_14 : decode cX9_pay 14 = .ok (.ldc 99, 2) := by decide +kernel
theorem dX9_pay_16 : decode cX9_pay 16 = .ok (.invokestatic 88, 3) := by decide +kernel
theorem dX9_pay_19 : decode cX9_pay 19 = .ok (.ifCond .ne 5, 3) := by decide +kernel
theorem dX9_pay_22 : decode cX9_pay 22 = .ok (.iconst (-1), 1) := by decide +kernel
theorem dX9_pay_23 : decode cX9_pay 23 = .ok (.ireturn, 1) := by decide +kernel
theorem dX9_pay_24 : decode cX9_pay 24 = .ok (.aload_n 0, 1) := by decide +kernel
theorem dX9_pay_25 : decode cX9_pay 25 = .ok (.getfield 64, 3) := by decide +kernel
theorem dX9_pay_28 : decode cX9_pay 28 = .ok (.bipush 117, 2) := by decide +kernel
theorem dX9_pay_30 : decode cX9_pay 30 = .ok (.iaload, 1) := by decide +kernel
theorem dX9_pay_31 : decode cX9_pay 31 = .ok (.bipush 40, 2) := by decide +kernel
theorem dX9_pay_33 : decode cX9_pay 33 = .ok (.if_icmp .ne 6, 3) := by decide +kernel
theorem dX9_pay_36 : decode cX9_pay 36 = .ok (.bipush (-2), 2) := by decide +kernel
theorem dX9_pay_38 : decode cX9_pay 38 = .ok (.ireturn, 1) := by decide +kernel
theorem dX9_pay_39 : decode cX9_pay 39 = .ok (.aload_n 0, 1) := by decide +kernel
theorem dX9_pay_40 : decode cX9_pay 40 = .ok (.bipush 117, 2) := by decide +kernel
theorem dX9_pay_42 : decode cX9_pay 42 = .ok (.iload_n 1, 1) := by decide +kernel
theorem dX9_pay_43 : decode cX9_pay 43 = .ok (.iload_n 2, 1) := by decide +kernel
theorem dX9_pay_44 : decode cX9_pay 44 = .ok (.invokevirtual 217, 3) := by decide +kernel
theorem dX9_pay_47 : decode cX9_pay 47 = .ok (.aload_n 0, 1) := by decide +kernel
theorem dX9_pay_48 : decode cX9_pay 48 = .ok (.getfield 64, 3) := by decide +kernel
theorem dX9_pay_51 : decode cX9_pay 51 = .ok (.bipush 117, 2) := by decide +kernel
theorem dX9_pay_53 : decode cX9_pay 53 = .ok (.iaload, 1) := by decide +kernel
theorem dX9_pay_54 : decode cX9_pay 54 = .ok (.iconst 1, 1) := by decide +kernel
theorem dX9_pay_55 : decode cX9_pay 55 = .ok (.isub, 1) := by decide +kernel
theorem dX9_pay_56 : decode cX9_pay 56 = .ok (.ireturn, 1) := by decide +kernel
set_option maxRecDepth 20000 in
theorem ggX9_refund_X9_isIn : GoodIn wsX9_refund wsX9_isIn := goodIn_r _ [7] rfl (by decide +kernel)
set_option maxRecDepth 20000 in
theorem gX9_refund_X9_isIn : GoodIn wsX9_refund (va_wsS RX9 88 yX9_isIn wsX9_isIn) := goodIn_app (goodIn_r _ [4, 5, 6] rfl (by decide +kernel)) ggX9_refund_X9_isIn
set_option maxRecDepth 20000 in
theorem ggX9_refund_X9_laysInstalments_ : GoodIn wsX9_refund wsX9_laysInstalments_ := goodIn_r _ [11, 2, 12, 13, 14, 6, 15, 16, 17, 18, 19, 20, 21, 22, 23, 24, 25, 26, 27, 28, 29, 30, 31, 32, 33, 34, 35, 36, 37, 38, 39, 40, 41, 42, 43, 44, 45, 46, 65, 66, 67, 68, 69, 70, 71, 72, 73, 74, 75, 76, 77, 78, 79, 80, 81, 82, 83, 84] rfl (by decide +kernel)
set_option maxRecDepth 20000 in
theorem gX9_refund_X9_laysInstalments_ : GoodIn wsX9_refund (wsV RX9 177 RX9 yX9_laysInstalments_ wsX9_laysInstalments_) := goodIn_app (goodIn_r _ [8, 9, 10, 6] rfl (by decide +kernel)) ggX9_refund_X9_laysInstalments_
set_option maxRecDepth 20000 in
theorem ggX9_refund_X9_freeAt : GoodIn wsX9_refund wsX9_freeAt := goodIn_r _ [50, 2, 16, 51, 52, 53, 6, 54, 33, 34, 35, 36, 65, 66, 67, 68, 69, 70, 71, 72, 73, 74, 75, 76, 77, 78, 79, 80, 81, 82, 83, 84] rfl (by decide +kernel)
set_option maxRecDepth 20000 in
theorem gX9_refund_X9_freeAt : GoodIn wsX9_refund (wsV RX9 199 RX9 yX9_freeAt wsX9_freeAt) := goodIn_app (goodIn_r _ [47, 48, 49, 6] rfl (by decide +kernel)) ggX9_refund_X9_freeAt
set_option maxRecDepth 20000 in
theorem ggX9_refund_X9_adds : GoodIn wsX9_refund wsX9_adds := goodIn_r _ [58, 2, 59, 60, 61, 6, 62, 63, 64, 65, 66, 67, 68, 69, 70, 71, 72, 73, 74, 75, 76, 77, 78, 79, 80, 81, 82, 83, 84] rfl (by decide +kernel)
set_option maxRecDepth 20000 in
theorem gX9_refund_X9_adds : GoodIn wsX9_refund (wsV RX9 217 RX9 yX9_adds wsX9_adds) := goodIn_app (goodIn_r _ [55, 56, 57, 6] rfl (by decide +kernel)) ggX9_refund_X9_adds
theorem dX9_refund_0 : decode cX9_refund 0 = .ok (.aload_n 0, 1) := by decide +kernel
theorem dX9_refund_1 : decode cX9_refund 1 = .ok (.iconst 0, 1) := by decide +kernel
theorem dX9_refund_2 : decode cX9_refund 2 = .ok (.putfield 1, 3) := by decide +kernel
theorem dX9_refund_5 : decode cX9_refund 5 = .ok (.iload_n 1, 1) := by decide +kernel
theorem dX9_refund_6 : decode cX9_refund 6 = .ok (.iconst 0, 1) := by decide +kernel
theorem dX9_refund_7 : decode cX9_refund 7 = .ok (.aload_n 0, 1) := by decide +kernel
theorem dX9_refund_8 : decode cX9_refund 8 = .ok (.getfield 64, 3) := by decide +kernel
theorem dX9_refund_11 : decode cX9_refund 11 = .ok (.iconst 2, 1) := by decide +kernel
theorem dX9_refund_12 : decode cX9_refund 12 = .ok (.iaload, 1) := by decide +kernel
theorem dX9_refund_13 : decode cX9_refund 13 = .ok (.invokestatic 88, 3) := by decide +kernel
theorem dX9_refund_16 : decode cX9_refund 16 = .ok (.ifCond .eq 13, 3) := by decide +kernel
theorem dX9_refund_19 : decode cX9_refund 19 = .ok (.iload_n 2, 1) := by decide +kernel
theorem dX9_refund_20 : decode cX9_refund 20 = .ok (.iconst 1, 1) := by decide +kernel
theorem dX9_refund_21 : decode cX9_refund 21 = .ok (.ldc 99, 2) := by decide +kernel
theorem dX9_refund_23 : decode cX9_refund 23 = .ok (.invokestatic 88, 3) := by decide +kernel
theorem dX9_refund_26 : decode cX9_refund 26 = .ok (.ifCond .ne 5, 3) := by decide +kernel
theorem dX9_refund_29 : decode cX9_refund 29 = .ok (.iconst (-1), 1) := by decide +kernel
theorem dX9_refund_30 : decode cX9_refund 30 = .ok (.ireturn, 1) := by decide +kernel
theorem dX9_refund_31 : decode cX9_refund 31 = .ok (.aload_n 0, 1) := by decide +kernel
theorem dX9_refund_32 : decode cX9_refund 32 = .ok (.invokevirtual 177, 3) := by decide +kernel
theorem dX9_refund_35 : decode cX9_refund 35 = .ok (.iload_n 1, 1) := by decide +kernel
theorem dX9_refund_36 : decode cX9_refund 36 = .ok (.istore_n 3, 1) := by decide +kernel
theorem dX9_refund_37 : decode cX9_refund 37 = .ok (.iload_n 3, 1) := by decide +kernel
theorem dX9_refund_38 : decode cX9_refund 38 = .ok (.aload_n 0, 1) := by decide +kernel
theorem dX9_refund_39 : decode cX9_refund 39 = .ok (.getfield 64, 3) := by decide +kernel
theorem dX9_refund_42 : decode cX9_refund 42 = .ok (.iconst 2, 1) := by decide +kernel
theorem dX9_refund_43 : decode cX9_refund 43 = .ok (.iaload, 1) := by decide +kernel
theorem dX9_refund_44 : decode cX9_refund 44 = .ok (.if_icmp .gt 20, 3) := by decide +kernel
theorem dX9_refund_47 : decode cX9_refund 47 = .ok (.aload_n 0, 1) := by decide +kernel
theorem dX9_refund_48 : decode cX9_refund 48 = .ok (.iload_n 3, 1) := by decide +kernel
theorem dX9_refund_49 : decode cX9_refund 49 = .ok (.invokevirtual 199, 3) := by decide +kernel
theorem dX9_refund_52 : decode cX9_refund 52 = .ok (.iload_n 2, 1) := by decide +kernel
theorem dX9_refund_53 : decode cX9_refund 53 = .ok (.if_icmp .ge 5, 3) := by decide +kernel
theorem dX9_refund_56 : decode cX9_refund 56 = .ok (.iconst (-1), 1) := by decide +kernel
theorem dX9_refund_57 : decode cX9_refund 57 = .ok (.ireturn, 1) := by decide +kernel
theorem dX9_refund_58 : decode cX9_refund 58 = .ok (.iinc 3 1, 3) := by decide +kernel
theorem dX9_refund_61 : decode cX9_refund 61 = .ok (.goto (-24), 3) := by decide +kernel
theorem dX9_refund_64 : decode cX9_refund 64 = .ok (.aload_n 0, 1) := by decide +kernel
theorem dX9_refund_65 : decode cX9_refund 65 = .ok (.getfield 64, 3) := by decide +kernel
theorem dX9_refund_68 : decode cX9_refund 68 = .ok (.sipush 198, 3) := by decide +kernel
theorem dX9_refund_71 : decode cX9_refund 71 = .ok (.iaload, 1) := by decide +kernel
theorem dX9_refund_72 : decode cX9_refund 72 = .ok (.bipush 20, 2) := by decide +kernel
theorem dX9_refund_74 : decode cX9_refund 74 = .ok (.if_icmp .ne 6, 3) := by decide +kernel
theorem dX9_refund_77 : decode cX9_refund 77 = .ok (.bipush (-2), 2) := by decide +kernel
theorem dX9_refund_79 : decode cX9_refund 79 = .ok (.ireturn, 1) := by decide +kernel
theorem dX9_refund_80 : decode cX9_refund 80 = .ok (.aload_n 0, 1) := by decide +kernel
theorem dX9_refund_81 : decode cX9_refund 81 = .ok (.sipush 198, 3) := by decide +kernel
theorem dX9_refund_84 : decode cX9_refund 84 = .ok (.iload_n 1, 1) := by decide +kernel
theorem dX9_refund_85 : decode cX9_refund 85 = .ok (.iload_n 2, 1) := by decide +kernel
theorem dX9_refund_86 : decode cX9_refund 86 = .ok (.invokevirtual 217, 3) := by decide +kernel
theorem dX9_refund_89 : decode cX9_refund 89 = .ok (.aload_n 0, 1) := by decide +kernel
theorem dX9_refund_90 : decode cX9_refund 90 = .ok (.iload_n 1, 1) := by decide +kernel
theorem dX9_refund_91 : decode cX9_refund 91 = .ok (.invokevirtual 199, 3) := by decide +kernel
theorem dX9_refund_94 : decode cX9_refund 94 = .ok (.ireturn, 1) := by decide +kernel
set_option maxRecDepth 20000 in
theorem ggX9_bar_X9_barredBy : GoodIn wsX9_bar wsX9_barredBy := goodIn_r _ [7, 2, 8, 9, 6, 10, 17, 18, 19, 20, 21, 22, 23, 24, 25, 26, 27, 28, 29, 30, 31, 32, 33, 34, 35, 36] rfl (by decide +kernel)
set_option maxRecDepth 20000 in
theorem gX9_bar_X9_barredBy : GoodIn wsX9_bar (wsV RX9 211 RX9 yX9_barredBy wsX9_barredBy) := goodIn_app (goodIn_r _ [3, 4, 5, 6] rfl (by decide +kernel)) ggX9_bar_X9_barredBy
set_option maxRecDepth 20000 in
theorem ggX9_bar_X9_snap : GoodIn wsX9_bar wsX9_snap := goodIn_r _ [14, 15, 16, 2, 17, 18, 19, 20, 21, 22, 23, 24, 25, 26, 27, 28, 29, 30, 31, 32, 33, 34, 35, 36] rfl (by decide +kernel)
set_option maxRecDepth 20000 in
theorem gX9_bar_X9_snap : GoodIn wsX9_bar (wsV RX9 214 RX9 yX9_snap wsX9_snap) := goodIn_app (goodIn_r _ [11, 12, 13, 6] rfl (by decide +kernel)) ggX9_bar_X9_snap
theorem dX9_bar_0 : decode cX9_bar 0 = .ok (.aload_n 0, 1) := by decide +kernel
theorem dX9_bar_1 : decode cX9_bar 1 = .ok (.iconst 0, 1) := by decide +kernel
theorem dX9_bar_2 : decode cX9_bar 2 = .ok (.putfield 1, 3) := by decide +kernel
theorem dX9_bar_5 : decode cX9_bar 5 = .ok (.aload_n 0, 1) := by decide +kernel
theorem dX9_bar_6 : decode cX9_bar 6 = .ok (.iload_n 1, 1) := by decide +kernel
theorem dX9_bar_7 : decode cX9_bar 7 = .ok (.invokevirtual 211, 3) := by decide +kernel
theorem dX9_bar_10 : decode cX9_bar 10 = .ok (.istore_n 2, 1) := by decide +kernel
theorem dX9_bar_11 : decode cX9_bar 11 = .ok (.iload_n 2, 1) := by decide +kernel
theorem dX9_bar_12 : decode cX9_bar 12 = .ok (.iconst (-1), 1) := by decide +kernel
theorem dX9_bar_13 : decode cX9_bar 13 = .ok (.if_icmp .ne 5, 3) := by decide +kernel
theorem dX9_bar_16 : decode cX9_bar 16 = .ok (.iconst (-1), 1) := by decide +kernel
theorem dX9_bar_17 : decode cX9_bar 17 = .ok (.ireturn, 1) := by decide +kernel
theorem dX9_bar_18 : decode cX9_bar 18 = .ok (.aload_n 0, 1) := by decide +kernel
theorem dX9_bar_19 : decode cX9_bar 19 = .ok (.invokevirtual 214, 3) := by decide +kernel
theorem dX9_bar_22 : decode cX9_bar 22 = .ok (.aload_n 0, 1) := by decide +kernel
theorem dX9_bar_23 : decode cX9_bar 23 = .ok (.getfield 64, 3) := by decide +kernel
theorem dX9_bar_26 : decode cX9_bar 26 = .ok (.sipush 239, 3) := by decide +kernel
theorem dX9_bar_29 : decode cX9_bar 29 = .ok (.iload_n 2, 1) := by decide +kernel
theorem dX9_bar_30 : decode cX9_bar 30 = .ok (.iastore, 1) := by decide +kernel
theorem dX9_bar_31 : decode cX9_bar 31 = .ok (.iload_n 2, 1) := by decide +kernel
theorem dX9_bar_32 : decode cX9_bar 32 = .ok (.ireturn, 1) := by decide +kernel
theorem dX9_undo_0 : decode cX9_undo 0 = .ok (.aload_n 0, 1) := by decide +kernel
theorem dX9_undo_1 : decode cX9_undo 1 = .ok (.iconst 0, 1) := by decide +kernel
theorem dX9_undo_2 : decode cX9_undo 2 = .ok (.putfield 1, 3) := by decide +kernel
theorem dX9_undo_5 : decode cX9_undo 5 = .ok (.aload_n 0, 1) := by decide +kernel
theorem dX9_undo_6 : decode cX9_undo 6 = .ok (.getfield 125, 3) := by decide +kernel
theorem dX9_undo_9 : decode cX9_undo 9 = .ok (.ifCond .ne 5, 3) := by decide +kernel
theorem dX9_undo_12 : decode cX9_undo 12 = .ok (.iconst (-1), 1) := by decide +kernel
theorem dX9_undo_13 : decode cX9_undo 13 = .ok (.ireturn, 1) := by decide +kernel
theorem dX9_undo_14 : decode cX9_undo 14 = .ok (.aload_n 0, 1) := by decide +kernel
theorem dX9_undo_15 : decode cX9_undo 15 = .ok (.dup, 1) := by decide +kernel
theorem dX9_undo_16 : decode cX9_undo 16 = .ok (.getfield 125, 3) := by decide +kernel
theorem dX9_undo_19 : decode cX9_undo 19 = .ok (.iconst 1, 1) := by decide +kernel
theorem dX9_undo_20 : decode cX9_undo 20 = .ok (.isub, 1) := by decide +kernel
theorem dX9_undo_21 : decode cX9_undo 21 = .ok (.putfield 125, 3) := by decide +kernel
theorem dX9_undo_24 : decode cX9_undo 24 = .ok (.iconst 0, 1) := by decide +kernel
theorem dX9_undo_25 : decode cX9_undo 25 = .ok (.istore_n 1, 1) := by decide +kernel
theorem dX9_undo_26 : decode cX9_undo 26 = .ok (.iload_n 1, 1) := by decide +kernel
theorem dX9_undo_27 : decode cX9_undo 27 = .ok (.sipush 240, 3) := by decide +kernel
theorem dX9_undo_30 : decode cX9_undo 30 = .ok (.if_icmp .ge 30, 3) := by decide +kernel
theorem dX9_undo_33 : decode cX9_undo 33 = .ok (.aload_n 0, 1) := by decide +kernel
theorem dX9_undo_34 : decode cX9_undo 34 = .ok (.getfield 64, 3) := by decide +kernel
theorem dX9_undo_37 : decode cX9_undo 37 = .ok (.iload_n 1, 1) := by decide +kernel
theorem dX9_undo_38 : decode cX9_undo 38 = .ok (.aload_n 0, 1) := by decide +kernel
theorem dX9_undo_39 : decode cX9_undo 39 = .ok (.getfield 70, 3) := by decide +kernel
theorem dX9_undo_42 : decode cX9_undo 42 = .ok (.sipush 240, 3) := by decide +kernel
theorem dX9_undo_45 : decode cX9_undo 45 = .ok (.aload_n 0, 1) := by decide +kernel
theorem dX9_undo_46 : decode cX9_undo 46 = .ok (.getfield 125, 3) := by decide +kernel
theorem dX9_undo_49 : decode cX9_undo 49 = .ok (.imul, 1) := by decide +kernel
theorem dX9_undo_50 : decode cX9_undo 50 = .ok (.iload_n 1, 1) := by decide +kernel
theorem dX9_undo_51 : decode cX9_undo 51 = .ok (.iadd, 1) := by decide +kernel
theorem dX9_undo_52 : decode cX9_undo 52 = .ok (.iaload, 1) := by decide +kernel
theorem dX9_undo_53 : decode cX9_undo 53 = .ok (.iastore, 1) := by decide +kernel
theorem dX9_undo_54 : decode cX9_undo 54 = .ok (.iinc 1 1, 3) := by decide +kernel
theorem dX9_undo_57 : decode cX9_undo 57 = .ok (.goto (-31), 3) := by decide +kernel
theorem dX9_undo_60 : decode cX9_undo 60 = .ok (.aload_n 0, 1) := by decide +kernel
theorem dX9_undo_61 : decode cX9_undo 61 = .ok (.getfield 125, 3) := by decide +kernel
theorem dX9_undo_64 : decode cX9_undo 64 = .ok (.ireturn, 1) := by decide +kernel
theorem dJ9_max_7cf53_0 : decode cJ9_max_7cf53 0 = .ok (.iload_n 0, 1) := by decide +kernel
theorem dJ9_max_7cf53_1 : decode cJ9_max_7cf53 1 = .ok (.iload_n 1, 1) := by decide +kernel
theorem dJ9_max_7cf53_2 : decode cJ9_max_7cf53 2 = .ok (.if_icmp .lt 7, 3) := by decide +kernel
theorem dJ9_max_7cf53_5 : decode cJ9_max_7cf53 5 = .ok (.iload_n 0, 1) := by decide +kernel
theorem dJ9_max_7cf53_6 : decode cJ9_max_7cf53 6 = .ok (.goto 4, 3) := by decide +kernel
theorem dJ9_max_7cf53_9 : decode cJ9_max_7cf53 9 = .ok (.iload_n 1, 1) := by decide +kernel
theorem dJ9_max_7cf53_10 : decode cJ9_max_7cf53 10 = .ok (.ireturn, 1) := by decide +kernel
theorem dJ9_min_7cf53_0 : decode cJ9_min_7cf53 0 = .ok (.iload_n 0, 1) := by decide +kernel
theorem dJ9_min_7cf53_1 : decode cJ9_min_7cf53 1 = .ok (.iload_n 1, 1) := by decide +kernel
theorem dJ9_min_7cf53_2 : decode cJ9_min_7cf53 2 = .ok (.if_icmp .gt 7, 3) := by decide +kernel
theorem dJ9_min_7cf53_5 : decode cJ9_min_7cf53 5 = .ok (.iload_n 0, 1) := by decide +kernel
theorem dJ9_min_7cf53_6 : decode cJ9_min_7cf53 6 = .ok (.goto 4, 3) := by decide +kernel
theorem dJ9_min_7cf53_9 : decode cJ9_min_7cf53 9 = .ok (.iload_n 1, 1) := by decide +kernel
theorem dJ9_min_7cf53_10 : decode cJ9_min_7cf53 10 = .ok (.ireturn, 1) := by decide +kernel
set_option maxRecDepth 20000 in
theorem ggJ0_length_8abf5_J0_coder_7d493 : GoodIn wsJ0_length_8abf5 wsJ0_coder_7d493 := goodIn_r _ [6, 7, 8] rfl (by decide +kernel)
set_option maxRecDepth 20000 in
theorem gJ0_length_8abf5_J0_coder_7d493 : GoodIn wsJ0_length_8abf5 (wsV RJ0 335 RJ0 yJ0_coder_7d493 wsJ0_coder_7d493) := goodIn_app (goodIn_r _ [2, 3, 4, 5] rfl (by decide +kernel)) ggJ0_length_8abf5_J0_coder_7d493
theorem dJ0_length_8abf5_0 : decode cJ0_length_8abf5 0 = .ok (.aload_n 0, 1) := by decide +kernel
theorem dJ0_length_8abf5_1 : decode cJ0_length_8abf5 1 = .ok (.getfield 9, 3) := by decide +kernel
theorem dJ0_length_8abf5_4 : decode cJ0_length_8abf5 4 = .ok (.arraylength, 1) := by decide +kernel
theorem dJ0_length_8abf5_5 : decode cJ0_length_8abf5 5 = .ok (.aload_n 0, 1) := by decide +kernel
theorem dJ0_length_8abf5_6 : decode cJ0_length_8abf5 6 = .ok (.invokevirtual 335, 3) := by decide +kernel
theorem dJ0_length_8abf5_9 : decode cJ0_length_8abf5 9 = .ok (.ishr, 1) := by decide +kernel
theorem dJ0_length_8abf5_10 : decode cJ0_length_8abf5 10 = .ok (.ireturn, 1) := by decide +kernel
set_option maxRecDepth 20000 in
theorem ggJ0_charAt_5068e_J0_isLatin1_aae02 : GoodIn wsJ0_charAt_5068e wsJ0_isLatin1_aae02 := goodIn_r _ [6, 7, 8] rfl (by decide +kernel)
set_option maxRecDepth 20000 in
theorem gJ0_charAt_5068e_J0_isLatin1_aae02 : GoodIn wsJ0_charAt_5068e (wsV RJ0 492 RJ0 yJ0_isLatin1_aae02 wsJ0_isLatin1_aae02) := goodIn_app (goodIn_r _ [2, 3, 4, 5] rfl (by decide +kernel)) ggJ0_charAt_5068e_J0_isLatin1_aae02
set_option maxRecDepth 20000 in
theorem ggJ0_charAt_5068e_J1_charAt_3b067 : GoodIn wsJ0_charAt_5068e wsJ1_charAt_3b067 := goodIn_r _ [12, 13, 14, 5, 15, 16, 17, 18, 19, 20] rfl (by decide +kernel)
set_option maxRecDepth 20000 in
theorem gJ0_charAt_5068e_J1_charAt_3b067 : GoodIn wsJ0_charAt_5068e (va_wsS RJ0 495 yJ1_charAt_3b067 wsJ1_charAt_3b067) := goodIn_app (goodIn_r _ [9, 10, 11] rfl (by decide +kernel)) ggJ0_charAt_5068e_J1_charAt_3b067
set_option maxRecDepth 20000 in
theorem ggJ0_charAt_5068e_J2_charAt_3b067 : GoodIn wsJ0_charAt_5068e wsJ2_charAt_3b067 := goodIn_r _ [24, 25, 26, 23, 27, 28, 29, 30, 31, 14, 5, 15, 16, 17, 18, 19, 20, 32, 33, 34, 35, 36, 37] rfl (by decide +kernel)
set_option maxRecDepth 20000 in
theorem gJ0_charAt_5068e_J2_charAt_3b067 : GoodIn wsJ0_charAt_5068e (va_wsS RJ0 498 yJ2_charAt_3b067 wsJ2_charAt_3b067) := goodIn_app (goodIn_r _ [21, 22, 23] rfl (by decide +kernel)) ggJ0_charAt_5068e_J2_charAt_3b067
theorem dJ0_charAt_5068e_0 : decode cJ0_charAt_5068e 0 = .ok (.aload_n 0, 1) := by decide +kernel
theorem dJ0_charAt_5068e_1 : decode cJ0_charAt_5068e 1 = .ok (.invokevirtual 492, 3) := by decide +kernel
theorem dJ0_charAt_5068e_4 : decode cJ0_charAt_5068e 4 = .ok (.ifCond .eq 12, 3) := by decide +kernel
theorem dJ0_charAt_5068e_7 : decode cJ0_charAt_5068e 7 = .ok (.aload_n 0, 1) := by decide +kernel
theorem dJ0_charAt_5068e_8 : decode cJ0_charAt_5068e 8 = .ok (.getfield 9, 3) := by decide +kernel
theorem dJ0_charAt_5068e_11 : decode cJ0_charAt_5068e 11 = .ok (.iload_n 1, 1) := by decide +kernel
theorem dJ0_charAt_5068e_12 : decode cJ0_charAt_5068e 12 = .ok (.invokestatic 495, 3) := by decide +kernel
theorem dJ0_charAt_5068e_15 : decode cJ0_charAt_5068e 15 = .ok (.ireturn, 1) := by decide +kernel
theorem dJ0_charAt_5068e_16 : decode cJ0_charAt_5068e 16 = .ok (.aload_n 0, 1) := by decide +kernel
theorem dJ0_charAt_5068e_17 : decode cJ0_charAt_5068e 17 = .ok (.getfield 9, 3) := by decide +kernel
theorem dJ0_charAt_5068e_20 : decode cJ0_charAt_5068e 20 = .ok (.iload_n 1, 1) := by decide +kernel
theorem dJ0_charAt_5068e_21 : decode cJ0_charAt_5068e 21 = .ok (.invokestatic 498, 3) := by decide +kernel
theorem dJ0_charAt_5068e_24 : decode cJ0_charAt_5068e 24 = .ok (.ireturn, 1) := by decide +kernel
theorem dJ0_coder_7d493_0 : decode cJ0_coder_7d493 0 = .ok (.getstatic 38, 3) := by decide +kernel
theorem dJ0_coder_7d493_3 : decode cJ0_coder_7d493 3 = .ok (.ifCond .eq 10, 3) := by decide +kernel
theorem dJ0_coder_7d493_6 : decode cJ0_coder_7d493 6 = .ok (.aload_n 0, 1) := by decide +kernel
theorem dJ0_coder_7d493_7 : decode cJ0_coder_7d493 7 = .ok (.getfield 15, 3) := by decide +kernel
theorem dJ0_coder_7d493_10 : decode cJ0_coder_7d493 10 = .ok (.goto 4, 3) := by decide +kernel
theorem dJ0_coder_7d493_13 : decode cJ0_coder_7d493 13 = .ok (.iconst 1, 1) := by decide +kernel
theorem dJ0_coder_7d493_14 : decode cJ0_coder_7d493 14 = .ok (.ireturn, 1) := by decide +kernel
theorem dJ0_isLatin1_aae02_0 : decode cJ0_isLatin1_aae02 0 = .ok (.getstatic 38, 3) := by decide +kernel
theorem dJ0_isLatin1_aae02_3 : decode cJ0_isLatin1_aae02 3 = .ok (.ifCond .eq 14, 3) := by decide +kernel
theorem dJ0_isLatin1_aae02_6 : decode cJ0_isLatin1_aae02 6 = .ok (.aload_n 0, 1) := by decide +kernel
theorem dJ0_isLatin1_aae02_7 : decode cJ0_isLatin1_aae02 7 = .ok (.getfield 15, 3) := by decide +kernel
theorem dJ0_isLatin1_aae02_10 : decode cJ0_isLatin1_aae02 10 = .ok (.ifCond .ne 7, 3) := by decide +kernel
theorem dJ0_isLatin1_aae02_13 : decode cJ0_isLatin1_aae02 13 = .ok (.iconst 1, 1) := by decide +kernel
theorem dJ0_isLatin1_aae02_14 : decode cJ0_isLatin1_aae02 14 = .ok (.goto 4, 3) := by decide +kernel
theorem dJ0_isLatin1_aae02_17 : decode cJ0_isLatin1_aae02 17 = .ok (.iconst 0, 1) := by decide +kernel
theorem dJ0_isLatin1_aae02_18 : decode cJ0_isLatin1_aae02 18 = .ok (.ireturn, 1) := by decide +kernel
set_option maxRecDepth 20000 in
theorem ggJ0_checkIndex_df160_J3_checkIndex_8e157 : GoodIn wsJ0_checkIndex_df160 wsJ3_checkIndex_8e157 := goodIn_r _ [5] rfl (by decide +kernel)
set_option maxRecDepth 20000 in
theorem gJ0_checkIndex_df160_J3_checkIndex_8e157 : GoodIn wsJ0_checkIndex_df160 (va_wsS RJ0 1059 yJ3_checkIndex_8e157 wsJ3_checkIndex_8e157) := goodIn_app (goodIn_r _ [2, 3, 4] rfl (by decide +kernel)) ggJ0_checkIndex_df160_J3_checkIndex_8e157
theorem dJ0_checkIndex_df160_0 : decode cJ0_checkIndex_df160 0 = .ok (.iload_n 0, 1) := by decide +kernel
theorem dJ0_checkIndex_df160_1 : decode cJ0_checkIndex_df160 1 = .ok (.iload_n 1, 1) := by decide +kernel
theorem dJ0_checkIndex_df160_2 : decode cJ0_checkIndex_df160 2 = .ok (.getstatic 1053, 3) := by decide +kernel
theorem dJ0_checkIndex_df160_5 : decode cJ0_checkIndex_df160 5 = .ok (.invokestatic 1059, 3) := by decide +kernel
theorem dJ0_checkIndex_df160_8 : decode cJ0_checkIndex_df160 8 = .ok (.pop, 1) := by decide +kernel
theorem dJ0_checkIndex_df160_9 : decode cJ0_checkIndex_df160 9 = .ok (.return_, 1) := by decide +kernel
set_option maxRecDepth 20000 in
theorem ggJ1_charAt_3b067_J0_checkIndex_df160 : GoodIn wsJ1_charAt_3b067 wsJ0_checkIndex_df160 := goodIn_r _ [4, 5, 6, 7, 8, 9] rfl (by decide +kernel)
set_option maxRecDepth 20000 in
theorem gJ1_charAt_3b067_J0_checkIndex_df160 : GoodIn wsJ1_charAt_3b067 (va_wsS RJ1 9 yJ0_checkIndex_df160 wsJ0_checkIndex_df160) := goodIn_app (goodIn_r _ [1, 2, 3] rfl (by decide +kernel)) ggJ1_charAt_3b067_J0_checkIndex_df160
theorem dJ1_charAt_3b067_0 : decode cJ1_charAt_3b067 0 = .ok (.iload_n 1, 1) := by decide +kernel
theorem dJ1_charAt_3b067_1 : decode cJ1_charAt_3b067 1 = .ok (.aload_n 0, 1) := by decide +kernel
theorem dJ1_charAt_3b067_2 : decode cJ1_charAt_3b067 2 = .ok (.arraylength, 1) := by decide +kernel
theorem dJ1_charAt_3b067_3 : decode cJ1_charAt_3b067 3 = .ok (.invokestatic 9, 3) := by decide +kernel
theorem dJ1_charAt_3b067_6 : decode cJ1_charAt_3b067 6 = .ok (.aload_n 0, 1) := by decide +kernel
theorem dJ1_charAt_3b067_7 : decode cJ1_charAt_3b067 7 = .ok (.iload_n 1, 1) := by decide +kernel
theorem dJ1_charAt_3b067_8 : decode cJ1_charAt_3b067 8 = .ok (.baload, 1) := by decide +kernel
theorem dJ1_charAt_3b067_9 : decode cJ1_charAt_3b067 9 = .ok (.sipush 255, 3) := by decide +kernel
theorem dJ1_charAt_3b067_12 : decode cJ1_charAt_3b067 12 = .ok (.iand, 1) := by decide +kernel
theorem dJ1_charAt_3b067_13 : decode cJ1_charAt_3b067 13 = .ok (.i2c, 1) := by decide +kernel
theorem dJ1_charAt_3b067_14 : decode cJ1_charAt_3b067 14 = .ok (.ireturn, 1) := by decide +kernel
set_option maxRecDepth 20000 in
theorem ggJ2_getChar_3b067_J2_length_9d52b : GoodIn wsJ2_getChar_3b067 wsJ2_length_9d52b := goodIn_r _ [7] rfl (by decide +kernel)
set_option maxRecDepth 20000 in
theorem gJ2_getChar_3b067_J2_length_9d52b : GoodIn wsJ2_getChar_3b067 (va_wsS RJ2 48 yJ2_length_9d52b wsJ2_length_9d52b) := goodIn_app (goodIn_r _ [4, 5, 6] rfl (by decide +kernel)) ggJ2_getChar_3b067_J2_length_9d52b
theorem dJ2_getChar_3b067_0 : decode cJ2_getChar_3b067 0 = .ok (.getstatic 44, 3) := by decide +kernel
theorem dJ2_getChar_3b067_3 : decode cJ2_getChar_3b067 3 = .ok (.ifCond .ne 25, 3) := by decide +kernel
theorem dJ2_getChar_3b067_6 : decode cJ2_getChar_3b067 6 = .ok (.iload_n 1, 1) := by decide +kernel
theorem dJ2_getChar_3b067_7 : decode cJ2_getChar_3b067 7 = .ok (.ifCond .lt 11, 3) := by decide +kernel
theorem dJ2_getChar_3b067_10 : decode cJ2_getChar_3b067 10 = .ok (.iload_n 1, 1) := by decide +kernel
theorem dJ2_getChar_3b067_11 : decode cJ2_getChar_3b067 11 = .ok (.aload_n 0, 1) := by decide +kernel
theorem dJ2_getChar_3b067_12 : decode cJ2_getChar_3b067 12 = .ok (.invokestatic 48, 3) := by decide +kernel
theorem dJ2_getChar_3b067_15 : decode cJ2_getChar_3b067 15 = .ok (.if_icmp .lt 13, 3) := by decide +kernel
theorem dJ2_getChar_3b067_18 : decode cJ2_getChar_3b067 18 = .ok (.new 52, 3) := by decide +kernel
theorem dJ2_getChar_3b067_21 : decode cJ2_getChar_3b067 21 = .ok (.dup, 1) := by decide +kernel
theorem dJ2_getChar_3b067_22 : decode cJ2_getChar_3b067 22 = .ok (.ldc 54, 2) := by decide +kernel
theorem dJ2_getChar_3b067_24 : decode cJ2_getChar_3b067 24 = .ok (.invokespecial 56, 3) := by decide +kernel
theorem dJ2_getChar_3b067_27 : decode cJ2_getChar_3b067 27 = .ok (.athrow, 1) := by decide +kernel
theorem dJ2_getChar_3b067_28 : decode cJ2_getChar_3b067 28 = .ok (.iload_n 1, 1) := by decide +kernel
theorem dJ2_getChar_3b067_29 : decode cJ2_getChar_3b067 29 = .ok (.iconst 1, 1) := by decide +kernel
theorem dJ2_getChar_3b067_30 : decode cJ2_getChar_3b067 30 = .ok (.ishl, 1) := by decide +kernel
theorem dJ2_getChar_3b067_31 : decode cJ2_getChar_3b067 31 = .ok (.istore_n 1, 1) := by decide +kernel
theorem dJ2_getChar_3b067_32 : decode cJ2_getChar_3b067 32 = .ok (.aload_n 0, 1) := by decide +kernel
theorem dJ2_getChar_3b067_33 : decode cJ2_getChar_3b067 33 = .ok (.iload_n 1, 1) := by decide +kernel
theorem dJ2_getChar_3b067_34 : decode cJ2_getChar_3b067 34 = .ok (.iinc 1 1, 3) := by decide +kernel
theorem dJ2_getChar_3b067_37 : decode cJ2_getChar_3b067 37 = .ok (.baload, 1) := by decide +kernel
theorem dJ2_getChar_3b067_38 : decode cJ2_getChar_3b067 38 = .ok (.sipush 255, 3) := by decide +kernel
theorem dJ2_getChar_3b067_41 : decode cJ2_getChar_3b067 41 = .ok (.iand, 1) := by decide +kernel
theorem dJ2_getChar_3b067_42 : decode cJ2_getChar_3b067 42 = .ok (.getstatic 59, 3) := by decide +kernel
theorem dJ2_getChar_3b067_45 : decode cJ2_getChar_3b067 45 = .ok (.ishl, 1) := by decide +kernel
theorem dJ2_getChar_3b067_46 : decode cJ2_getChar_3b067 46 = .ok (.aload_n 0, 1) := by decide +kernel
theorem dJ2_getChar_3b067_47 : decode cJ2_getChar_3b067 47 = .ok (.iload_n 1, 1) := by decide +kernel
theorem dJ2_getChar_3b067_48 : decode cJ2_getChar_3b067 48 = .ok (.baload, 1) := by decide +kernel
theorem dJ2_getChar_3b067_49 : decode cJ2_getChar_3b067 49 = .ok (.sipush 255, 3) := by decide +kernel
theorem dJ2_getChar_3b067_52 : decode cJ2_getChar_3b067 52 = .ok (.iand, 1) := by decide +kernel
theorem dJ2_getChar_3b067_53 : decode cJ2_getChar_3b067 53 = .ok (.getstatic 63, 3) := by decide +kernel
theorem dJ2_getChar_3b067_56 : decode cJ2_getChar_3b067 56 = .ok (.ishl, 1) := by decide +kernel
theorem dJ2_getChar_3b067_57 : decode cJ2_getChar_3b067 57 = .ok (.ior, 1) := by decide +kernel
theorem dJ2_getChar_3b067_58 : decode cJ2_getChar_3b067 58 = .ok (.i2c, 1) := by decide +kernel
theorem dJ2_getChar_3b067_59 : decode cJ2_getChar_3b067 59 = .ok (.ireturn, 1) := by decide +kernel
theorem dJ2_length_9d52b_0 : decode cJ2_length_9d52b 0 = .ok (.aload_n 0, 1) := by decide +kernel
theorem dJ2_length_9d52b_1 : decode cJ2_length_9d52b 1 = .ok (.arraylength, 1) := by decide +kernel
theorem dJ2_length_9d52b_2 : decode cJ2_length_9d52b 2 = .ok (.iconst 1, 1) := by decide +kernel
theorem dJ2_length_9d52b_3 : decode cJ2_length_9d52b 3 = .ok (.ishr, 1) := by decide +kernel
theorem dJ2_length_9d52b_4 : decode cJ2_length_9d52b 4 = .ok (.ireturn, 1) := by decide +kernel
set_option maxRecDepth 20000 in
theorem ggJ2_charAt_3b067_J2_checkIndex_2214a : GoodIn wsJ2_charAt_3b067 wsJ2_checkIndex_2214a := goodIn_r _ [4, 5, 6, 3, 7, 8, 9, 10, 11, 12, 13, 14, 15, 16] rfl (by decide +kernel)
set_option maxRecDepth 20000 in
theorem gJ2_charAt_3b067_J2_checkIndex_2214a : GoodIn wsJ2_charAt_3b067 (va_wsS RJ2 67 yJ2_checkIndex_2214a wsJ2_checkIndex_2214a) := goodIn_app (goodIn_r _ [1, 2, 3] rfl (by decide +kernel)) ggJ2_charAt_3b067_J2_checkIndex_2214a
set_option maxRecDepth 20000 in
theorem ggJ2_charAt_3b067_J2_getChar_3b067 : GoodIn wsJ2_charAt_3b067 wsJ2_getChar_3b067 := goodIn_r _ [19, 20, 21, 22, 5, 6, 3, 7] rfl (by decide +kernel)
set_option maxRecDepth 20000 in
theorem gJ2_charAt_3b067_J2_getChar_3b067 : GoodIn wsJ2_charAt_3b067 (va_wsS RJ2 71 yJ2_getChar_3b067 wsJ2_getChar_3b067) := goodIn_app (goodIn_r _ [17, 18, 3] rfl (by decide +kernel)) ggJ2_charAt_3b067_J2_getChar_3b067
theorem dJ2_charAt_3b067_0 : decode cJ2_charAt_3b067 0 = .ok (.iload_n 1, 1) := by decide +kernel
theorem dJ2_charAt_3b067_1 : decode cJ2_charAt_3b067 1 = .ok (.aload_n 0, 1) := by decide +kernel
theorem dJ2_charAt_3b067_2 : decode cJ2_charAt_3b067 2 = .ok (.invokestatic 67, 3) := by decide +kernel
theorem dJ2_charAt_3b067_5 : decode cJ2_charAt_3b067 5 = .ok (.aload_n 0, 1) := by decide +kernel
theorem dJ2_charAt_3b067_6 : decode cJ2_charAt_3b067 6 = .ok (.iload_n 1, 1) := by decide +kernel
theorem dJ2_charAt_3b067_7 : decode cJ2_charAt_3b067 7 = .ok (.invokestatic 71, 3) := by decide +kernel
theorem dJ2_charAt_3b067_10 : decode cJ2_charAt_3b067 10 = .ok (.ireturn, 1) := by decide +kernel
set_option maxRecDepth 20000 in
theorem ggJ2_checkIndex_2214a_J2_length_9d52b : GoodIn wsJ2_checkIndex_2214a wsJ2_length_9d52b := goodIn_r _ [4] rfl (by decide +kernel)
set_option maxRecDepth 20000 in
theorem gJ2_checkIndex_2214a_J2_length_9d52b : GoodIn wsJ2_checkIndex_2214a (va_wsS RJ2 48 yJ2_length_9d52b wsJ2_length_9d52b) := goodIn_app (goodIn_r _ [1, 2, 3] rfl (by decide +kernel)) ggJ2_checkIndex_2214a_J2_length_9d52b
set_option maxRecDepth 20000 in
theorem ggJ2_checkIndex_2214a_J0_checkIndex_df160 : GoodIn wsJ2_checkIndex_2214a wsJ0_checkIndex_df160 := goodIn_r _ [8, 9, 10, 11, 12, 13] rfl (by decide +kernel)
set_option maxRecDepth 20000 in
theorem gJ2_checkIndex_2214a_J0_checkIndex_df160 : GoodIn wsJ2_checkIndex_2214a (va_wsS RJ2 414 yJ0_checkIndex_df160 wsJ0_checkIndex_df160) := goodIn_app (goodIn_r _ [5, 6, 7] rfl (by decide +kernel)) ggJ2_checkIndex_2214a_J0_checkIndex_df160
theorem dJ2_checkIndex_2214a_0 : decode cJ2_checkIndex_2214a 0 = .ok (.iload_n 0, 1) := by decide +kernel
theorem dJ2_checkIndex_2214a_1 : decode cJ2_checkIndex_2214a 1 = .ok (.aload_n 1, 1) := by decide +kernel
theorem dJ2_checkIndex_2214a_2 : decode cJ2_checkIndex_2214a 2 = .ok (.invokestatic 48, 3) := by decide +kernel
theorem dJ2_checkIndex_2214a_5 : decode cJ2_checkIndex_2214a 5 = .ok (.invokestatic 414, 3) := by decide +kernel
theorem dJ2_checkIndex_2214a_8 : decode cJ2_checkIndex_2214a 8 = .ok (.return_, 1) := by decide +kernel
theorem dJ7_fill_53178_0 : decode cJ7_fill_53178 0 = .ok (.iconst 0, 1) := by decide +kernel
theorem dJ7_fill_53178_1 : decode cJ7_fill_53178 1 = .ok (.istore_n 2, 1) := by decide +kernel
theorem dJ7_fill_53178_2 : decode cJ7_fill_53178 2 = .ok (.aload_n 0, 1) := by decide +kernel
theorem dJ7_fill_53178_3 : decode cJ7_fill_53178 3 = .ok (.arraylength, 1) := by decide +kernel
theorem dJ7_fill_53178_4 : decode cJ7_fill_53178 4 = .ok (.istore_n 3, 1) := by decide +kernel
theorem dJ7_fill_53178_5 : decode cJ7_fill_53178 5 = .ok (.iload_n 2, 1) := by decide +kernel
theorem dJ7_fill_53178_6 : decode cJ7_fill_53178 6 = .ok (.iload_n 3, 1) := by decide +kernel
theorem dJ7_fill_53178_7 : decode cJ7_fill_53178 7 = .ok (.if_icmp .ge 13, 3) := by decide +kernel
theorem dJ7_fill_53178_10 : decode cJ7_fill_53178 10 = .ok (.aload_n 0, 1) := by decide +kernel
theorem dJ7_fill_53178_11 : decode cJ7_fill_53178 11 = .ok (.iload_n 2, 1) := by decide +kernel
theorem dJ7_fill_53178_12 : decode cJ7_fill_53178 12 = .ok (.iload_n 1, 1) := by decide +kernel
theorem dJ7_fill_53178_13 : decode cJ7_fill_53178 13 = .ok (.iastore, 1) := by decide +kernel
theorem dJ7_fill_53178_14 : decode cJ7_fill_53178 14 = .ok (.iinc 2 1, 3) := by decide +kernel
theorem dJ7_fill_53178_17 : decode cJ7_fill_53178 17 = .ok (.goto (-12), 3) := by decide +kernel
theorem dJ7_fill_53178_20 : decode cJ7_fill_53178 20 = .ok (.return_, 1) := by decide +kernel
theorem dJ3_checkIndex_8e157_0 : decode cJ3_checkIndex_8e157 0 = .ok (.iload_n 0, 1) := by decide +kernel
theorem dJ3_checkIndex_8e157_1 : decode cJ3_checkIndex_8e157 1 = .ok (.ifCond .lt 8, 3) := by decide +kernel
theorem dJ3_checkIndex_8e157_4 : decode cJ3_checkIndex_8e157 4 = .ok (.iload_n 0, 1) := by decide +kernel
theorem dJ3_checkIndex_8e157_5 : decode cJ3_checkIndex_8e157 5 = .ok (.iload_n 1, 1) := by decide +kernel
theorem dJ3_checkIndex_8e157_6 : decode cJ3_checkIndex_8e157 6 = .ok (.if_icmp .lt 10, 3) := by decide +kernel
theorem dJ3_checkIndex_8e157_9 : decode cJ3_checkIndex_8e157 9 = .ok (.aload_n 2, 1) := by decide +kernel
theorem dJ3_checkIndex_8e157_10 : decode cJ3_checkIndex_8e157 10 = .ok (.iload_n 0, 1) := by decide +kernel
theorem dJ3_checkIndex_8e157_11 : decode cJ3_checkIndex_8e157 11 = .ok (.iload_n 1, 1) := by decide +kernel
theorem dJ3_checkIndex_8e157_12 : decode cJ3_checkIndex_8e157 12 = .ok (.invokestatic 95, 3) := by decide +kernel
theorem dJ3_checkIndex_8e157_15 : decode cJ3_checkIndex_8e157 15 = .ok (.athrow, 1) := by decide +kernel
theorem dJ3_checkIndex_8e157_16 : decode cJ3_checkIndex_8e157 16 = .ok (.iload_n 0, 1) := by decide +kernel
theorem dJ3_checkIndex_8e157_17 : decode cJ3_checkIndex_8e157 17 = .ok (.ireturn, 1) := by decide +kernel
set_option maxRecDepth 20000 in
theorem ggL_late_X8_late : GoodIn wsL_late wsX8_late := goodIn_ca (goodIn_r _ [6, 7, 8, 9, 10, 11, 12, 13, 14, 15, 16, 17, 18, 19, 20, 21, 5, 22, 23, 24, 25, 26, 27, 28, 29, 30, 31, 32, 33, 34, 35, 36, 37, 38, 39, 40, 41, 42, 43, 44, 45, 46, 47, 48, 49, 50, 51, 52, 53, 54, 55, 56, 57, 58, 59, 60, 61, 62, 63, 64, 65, 66, 67, 68, 69, 70, 71, 72, 73, 74, 75, 76, 77, 78, 79, 80, 81, 82, 83, 84, 85, 86, 87, 88, 89, 90, 91, 92, 93, 94, 95, 96, 97, 98, 99, 100, 101, 102, 103, 104, 105, 106, 107, 108, 109, 110, 111, 112, 113, 114, 115, 116, 117, 118, 119, 120, 121, 122, 123, 124, 125, 126, 127, 128, 129, 130, 131, 132, 133, 134, 135, 136, 137, 138, 139, 140, 141, 142, 143, 144, 145, 146, 147, 148, 149, 150, 151, 152, 153, 154, 155, 156, 157, 158, 159, 160, 161, 162, 163, 164, 165, 166, 167, 168, 169, 170, 171, 172, 173, 174, 175, 176, 177, 178, 179, 180, 181, 182, 183, 184, 185, 186, 187, 188, 189, 190, 191, 192, 193, 194, 195, 196, 197, 198, 199, 200] rfl (by decide +kernel)) (goodIn_sub (fun _ h => List.mem_cons_of_mem _ (List.mem_append_right _ h)) (by decide +kernel))
set_option maxRecDepth 20000 in
theorem gL_late_X8_late : GoodIn wsL_late (wsV RL 7 RX8 yX8_late wsX8_late) := goodIn_app (goodIn_r _ [2, 3, 4, 5] rfl (by decide +kernel)) ggL_late_X8_late
theorem dL_late_0 : decode cL_late 0 = .ok (.aload_n 3, 1) := by decide +kernel
theorem dL_late_1 : decode cL_late 1 = .ok (.iconst 0, 1) := by decide +kernel
theorem dL_late_2 : decode cL_late 2 = .ok (.aload_n 0, 1) := by decide +kernel
theorem dL_late_3 : decode cL_late 3 = .ok (.iload_n 1, 1) := by decide +kernel
theorem dL_late_4 : decode cL_late 4 = .ok (.iload_n 2, 1) := by decide +kernel
theorem dL_late_5 : decode cL_late 5 = .ok (.invokevirtual 7, 3) := by decide +kernel
theorem dL_late_8 : decode cL_late 8 = .ok (.i2l, 1) := by decide +kernel
theorem dL_late_9 : decode cL_late 9 = .ok (.lastore, 1) := by decide +kernel
theorem dL_late_10 : decode cL_late 10 = .ok (.goto 7, 3) := by decide +kernel
theorem dL_late_13 : decode cL_late 13 = .ok (.astore 4, 2) := by decide +kernel
theorem dL_late_15 : decode cL_late 15 = .ok (.iconst 1, 1) := by decide +kernel
theorem dL_late_16 : decode cL_late 16 = .ok (.ireturn, 1) := by decide +kernel
theorem dL_late_17 : decode cL_late 17 = .ok (.iconst 0, 1) := by decide +kernel
theorem dL_late_18 : decode cL_late 18 = .ok (.ireturn, 1) := by decide +kernel
theorem dL_law_0 : decode cL_law 0 = .ok (.new 8, 3) := by decide +kernel
theorem dL_law_3 : decode cL_law 3 = .ok (.dup, 1) := by decide +kernel
theorem dL_law_4 : decode cL_law 4 = .ok (.invokespecial 15, 3) := by decide +kernel
theorem dL_law_7 : decode cL_law 7 = .ok (.astore_n 1, 1) := by decide +kernel
theorem dL_law_8 : decode cL_law 8 = .ok (.new 16, 3) := by decide +kernel
theorem dL_law_11 : decode cL_law 11 = .ok (.dup, 1) := by decide +kernel
theorem dL_law_12 : decode cL_law 12 = .ok (.invokespecial 18, 3) := by decide +kernel
theorem dL_law_15 : decode cL_law 15 = .ok (.astore_n 2, 1) := by decide +kernel
theorem dL_law_16 : decode cL_law 16 = .ok (.iconst 1, 1) := by decide +kernel
theorem dL_law_17 : decode cL_law 17 = .ok (.newarray .long, 2) := by decide +kernel
theorem dL_law_19 : decode cL_law 19 = .ok (.astore_n 3, 1) := by decide +kernel
theorem dL_law_20 : decode cL_law 20 = .ok (.iconst 0, 1) := by decide +kernel
theorem dL_law_21 : decode cL_law 21 = .ok (.istore 4, 2) := by decide +kernel
theorem dL_law_23 : decode cL_law 23 = .ok (.iload 4, 2) := by decide +kernel
theorem dL_law_25 : decode cL_law 25 = .ok (.aload_n 0, 1) := by decide +kernel
theorem dL_law_26 : decode cL_law 26 = .ok (.arraylength, 1) := by decide +kernel
theorem dL_law_27 : decode cL_law 27 = .ok (.bipush 6, 2) := by decide +kernel
theorem dL_law_29 : decode cL_law 29 = .ok (.isub, 1) := by decide +kernel
theorem dL_law_30 : decode cL_law 30 = .ok (.if_icmp .gt 850, 3) := by decide +kernel
theorem dL_law_33 : decode cL_law 33 = .ok (.aload_n 0, 1) := by decide +kernel
theorem dL_law_34 : decode cL_law 34 = .ok (.iload 4, 2) := by decide +kernel
theorem dL_law_36 : decode cL_law 36 = .ok (.iaload, 1) := by decide +kernel
theorem dL_law_37 : decode cL_law 37 = .ok (.bipush 31, 2) := by decide +kernel
theorem dL_law_39 : decode cL_law 39 = .ok (.iand, 1) := by decide +kernel
theorem dL_law_40 : decode cL_law 40 = .ok (.tableswitch 834 0 22 #[108, 181, 206, 219, 232, 257, 282, 307, 344, 381, 406, 431, 468, 536, 573, 610, 635, 660, 685, 722, 759, 796, 821], 108) := by decide +kernel
theorem dL_law_148 : decode cL_law 148 = .ok (.aload_n 1, 1) := by decide +kernel
theorem dL_law_149 : decode cL_law 149 = .ok (.aload_n 0, 1) := by decide +kernel
theorem dL_law_150 : decode cL_law 150 = .ok (.iload 4, 2) := by decide +kernel
theorem dL_law_152 : decode cL_law 152 = .ok (.iconst 1, 1) := by decide +kernel
theorem dL_law_153 : decode cL_law 153 = .ok (.iadd, 1) := by decide +kernel
theorem dL_law_154 : decode cL_law 154 = .ok (.iaload, 1) := by decide +kernel
theorem dL_law_155 : decode cL_law 155 = .ok (.aload_n 0, 1) := by decide +kernel
theorem dL_law_156 : decode cL_law 156 = .ok (.iload 4, 2) := by decide +kernel
theorem dL_law_158 : decode cL_law 158 = .ok (.iconst 2, 1) := by decide +kernel
theorem dL_law_159 : decode cL_law 159 = .ok (.iadd, 1) := by decide +kernel
theorem dL_law_160 : decode cL_law 160 = .ok (.iaload, 1) := by decide +kernel
theorem dL_law_161 : decode cL_law 161 = .ok (.aload_n 0, 1) := by decide +kernel
theorem dL_law_162 : decode cL_law 162 = .ok (.iload 4, 2) := by decide +kernel
theorem dL_law_164 : decode cL_law 164 = .ok (.iconst 3, 1) := by decide +kernel
theorem dL_law_165 : decode cL_law 165 = .ok (.iadd, 1) := by decide +kernel
theorem dL_law_166 : decode cL_law 166 = .ok (.iaload, 1) := by decide +kernel
theorem dL_law_167 : decode cL_law 167 = .ok (.aload_n 0, 1) := by decide +kernel
theorem dL_law_168 : decode cL_law 168 = .ok (.iload 4, 2) := by decide +kernel
theorem dL_law_170 : decode cL_law 170 = .ok (.iconst 4, 1) := by decide +kernel
theorem dL_law_171 : decode cL_law 171 = .ok (.iadd, 1) := by decide +kernel
theorem dL_law_172 : decode cL_law 172 = .ok (.iaload, 1) := by decide +kernel
theorem dL_law_173 : decode cL_law 173 = .ok (.aload_n 0, 1) := by decide +kernel
theorem dL_law_174 : decode cL_law 174 = .ok (.iload 4, 2) := by decide +kernel
theorem dL_law_176 : decode cL_law 176 = .ok (.iconst 5, 1) := by decide +kernel
theorem dL_law_177 : decode cL_law 177 = .ok (.iadd, 1) := by decide +kernel
theorem dL_law_178 : decode cL_law 178 = .ok (.iaload, 1) := by decide +kernel
theorem dL_law_179 : decode cL_law 179 = .ok (.invokevirtual 19, 3) := by decide +kernel
theorem dL_law_182 : decode cL_law 182 = .ok (.aload_n 2, 1) := by decide +kernel
theorem dL_law_183 : decode cL_law 183 = .ok (.aload_n 0, 1) := by decide +kernel
theorem dL_law_184 : decode cL_law 184 = .ok (.iload 4, 2) := by decide +kernel
theorem dL_law_186 : decode cL_law 186 = .ok (.iconst 1, 1) := by decide +kernel
theorem dL_law_187 : decode cL_law 187 = .ok (.iadd, 1) := by decide +kernel
theorem dL_law_188 : decode cL_law 188 = .ok (.iaload, 1) := by decide +kernel
theorem dL_law_189 : decode cL_law 189 = .ok (.aload_n 0, 1) := by decide +kernel
theorem dL_law_190 : decode cL_law 190 = .ok (.iload 4, 2) := by decide +kernel
theorem dL_law_192 : decode cL_law 192 = .ok (.iconst 2, 1) := by decide +kernel
theorem dL_law_193 : decode cL_law 193 = .ok (.iadd, 1) := by decide +kernel
theorem dL_law_194 : decode cL_law 194 = .ok (.iaload, 1) := by decide +kernel
theorem dL_law_195 : decode cL_law 195 = .ok (.aload_n 0, 1) := by decide +kernel
theorem dL_law_196 : decode cL_law 196 = .ok (.iload 4, 2) := by decide +kernel
theorem dL_law_198 : decode cL_law 198 = .ok (.iconst 3, 1) := by decide +kernel
theorem dL_law_199 : decode cL_law 199 = .ok (.iadd, 1) := by decide +kernel
theorem dL_law_200 : decode cL_law 200 = .ok (.iaload, 1) := by decide +kernel
theorem dL_law_201 : decode cL_law 201 = .ok (.aload_n 0, 1) := by decide +kernel
theorem dL_law_202 : decode cL_law 202 = .ok (.iload 4, 2) := by decide +kernel
theorem dL_law_204 : decode cL_law 204 = .ok (.iconst 4, 1) := by decide +kernel
theorem dL_law_205 : decode cL_law 205 = .ok (.iadd, 1) := by decide +kernel
theorem dL_law_206 : decode cL_law 206 = .ok (.iaload, 1) := by decide +kernel
theorem dL_law_207 : decode cL_law 207 = .ok (.aload_n 0, 1) := by decide +kernel
theorem dL_law_208 : decode cL_law 208 = .ok (.iload 4, 2) := by decide +kernel
theorem dL_law_210 : decode cL_law 210 = .ok (.iconst 5, 1) := by decide +kernel
theorem dL_law_211 : decode cL_law 211 = .ok (.iadd, 1) := by decide +kernel
theorem dL_law_212 : decode cL_law 212 = .ok (.iaload, 1) := by decide +kernel
theorem dL_law_213 : decode cL_law 213 = .ok (.invokevirtual 23, 3) := by decide +kernel
theorem dL_law_216 : decode cL_law 216 = .ok (.if_icmp .eq 658, 3) := by decide +kernel
theorem dL_law_219 : decode cL_law 219 = .ok (.iconst 0, 1) := by decide +kernel
theorem dL_law_220 : decode cL_law 220 = .ok (.ireturn, 1) := by decide +kernel
theorem dL_law_221 : decode cL_law 221 = .ok (.aload_n 1, 1) := by decide +kernel
theorem dL_law_222 : decode cL_law 222 = .ok (.aload_n 0, 1) := by decide +kernel
theorem dL_law_223 : decode cL_law 223 = .ok (.iload 4, 2) := by decide +kernel
theorem dL_law_225 : decode cL_law 225 = .ok (.iconst 1, 1) := by decide +kernel
theorem dL_law_226 : decode cL_law 226 = .ok (.iadd, 1) := by decide +kernel
theorem dL_law_227 : decode cL_law 227 = .ok (.iaload, 1) := by decide +kernel
theorem dL_law_228 : decode cL_law 228 = .ok (.invokevirtual 24, 3) := by decide +kernel
theorem dL_law_231 : decode cL_law 231 = .ok (.aload_n 2, 1) := by decide +kernel
theorem dL_law_232 : decode cL_law 232 = .ok (.aload_n 0, 1) := by decide +kernel
theorem dL_law_233 : decode cL_law 233 = .ok (.iload 4, 2) := by decide +kernel
theorem dL_law_235 : decode cL_law 235 = .ok (.iconst 1, 1) := by decide +kernel
theorem dL_law_236 : decode cL_law 236 = .ok (.iadd, 1) := by decide +kernel
theorem dL_law_237 : decode cL_law 237 = .ok (.iaload, 1) := by decide +kernel
theorem dL_law_238 : decode cL_law 238 = .ok (.invokevirtual 28, 3) := by decide +kernel
theorem dL_law_241 : decode cL_law 241 = .ok (.if_icmp .eq 633, 3) := by decide +kernel
theorem dL_law_244 : decode cL_law 244 = .ok (.iconst 0, 1) := by decide +kernel
theorem dL_law_245 : decode cL_law 245 = .ok (.ireturn, 1) := by decide +kernel
theorem dL_law_246 : decode cL_law 246 = .ok (.aload_n 1, 1) := by decide +kernel
theorem dL_law_247 : decode cL_law 247 = .ok (.invokevirtual 29, 3) := by decide +kernel
theorem dL_law_250 : decode cL_law 250 = .ok (.aload_n 2, 1) := by decide +kernel
theorem dL_law_251 : decode cL_law 251 = .ok (.invokevirtual 33, 3) := by decide +kernel
theorem dL_law_254 : decode cL_law 254 = .ok (.if_icmp .eq 620, 3) := by decide +kernel
theorem dL_law_257 : decode cL_law 257 = .ok (.iconst 0, 1) := by decide +kernel
theorem dL_law_258 : decode cL_law 258 = .ok (.ireturn, 1) := by decide +kernel
theorem dL_law_259 : decode cL_law 259 = .ok (.aload_n 1, 1) := by decide +kernel
theorem dL_law_260 : decode cL_law 260 = .ok (.invokevirtual 34, 3) := by decide +kernel
theorem dL_law_263 : decode cL_law 263 = .ok (.aload_n 2, 1) := by decide +kernel
theorem dL_law_264 : decode cL_law 264 = .ok (.invokevirtual 37, 3) := by decide +kernel
theorem dL_law_267 : decode cL_law 267 = .ok (.if_icmp .eq 607, 3) := by decide +kernel
theorem dL_law_270 : decode cL_law 270 = .ok (.iconst 0, 1) := by decide +kernel
theorem dL_law_271 : decode cL_law 271 = .ok (.ireturn, 1) := by decide +kernel
theorem dL_law_272 : decode cL_law 272 = .ok (.aload_n 1, 1) := by decide +kernel
theorem dL_law_273 : decode cL_law 273 = .ok (.aload_n 0, 1) := by decide +kernel
theorem dL_law_274 : decode cL_law 274 = .ok (.iload 4, 2) := by decide +kernel
theorem dL_law_276 : decode cL_law 276 = .ok (.iconst 1, 1) := by decide +kernel
theorem dL_law_277 : decode cL_law 277 = .ok (.iadd, 1) := by decide +kernel
theorem dL_law_278 : decode cL_law 278 = .ok (.iaload, 1) := by decide +kernel
theorem dL_law_279 : decode cL_law 279 = .ok (.invokevirtual 38, 3) := by decide +kernel
theorem dL_law_282 : decode cL_law 282 = .ok (.aload_n 2, 1) := by decide +kernel
theorem dL_law_283 : decode cL_law 283 = .ok (.aload_n 0, 1) := by decide +kernel
theorem dL_law_284 : decode cL_law 284 = .ok (.iload 4, 2) := by decide +kernel
theorem dL_law_286 : decode cL_law 286 = .ok (.iconst 1, 1) := by decide +kernel
theorem dL_law_287 : decode cL_law 287 = .ok (.iadd, 1) := by decide +kernel
theorem dL_law_288 : decode cL_law 288 = .ok (.iaload, 1) := by decide +kernel
theorem dL_law_289 : decode cL_law 289 = .ok (.invokevirtual 42, 3) := by decide +kernel
theorem dL_law_292 : decode cL_law 292 = .ok (.if_icmp .eq 582, 3) := by decide +kernel
theorem dL_law_295 : decode cL_law 295 = .ok (.iconst 0, 1) := by decide +kernel
theorem dL_law_296 : decode cL_law 296 = .ok (.ireturn, 1) := by decide +kernel
theorem dL_law_297 : decode cL_law 297 = .ok (.aload_n 1, 1) := by decide +kernel
theorem dL_law_298 : decode cL_law 298 = .ok (.aload_n 0, 1) := by decide +kernel
theorem dL_law_299 : decode cL_law 299 = .ok (.iload 4, 2) := by decide +kernel
theorem dL_law_301 : decode cL_law 301 = .ok (.iconst 1, 1) := by decide +kernel
theorem dL_law_302 : decode cL_law 302 = .ok (.iadd, 1) := by decide +kernel
theorem dL_law_303 : decode cL_law 303 = .ok (.iaload, 1) := by decide +kernel
theorem dL_law_304 : decode cL_law 304 = .ok (.invokevirtual 43, 3) := by decide +kernel
theorem dL_law_307 : decode cL_law 307 = .ok (.aload_n 2, 1) := by decide +kernel
theorem dL_law_308 : decode cL_law 308 = .ok (.aload_n 0, 1) := by decide +kernel
theorem dL_law_309 : decode cL_law 309 = .ok (.iload 4, 2) := by decide +kernel
theorem dL_law_311 : decode cL_law 311 = .ok (.iconst 1, 1) := by decide +kernel
theorem dL_law_312 : decode cL_law 312 = .ok (.iadd, 1) := by decide +kernel
theorem dL_law_313 : decode cL_law 313 = .ok (.iaload, 1) := by decide +kernel
theorem dL_law_314 : decode cL_law 314 = .ok (.invokevirtual 46, 3) := by decide +kernel
theorem dL_law_317 : decode cL_law 317 = .ok (.if_icmp .eq 557, 3) := by decide +kernel
theorem dL_law_320 : decode cL_law 320 = .ok (.iconst 0, 1) := by decide +kernel
theorem dL_law_321 : decode cL_law 321 = .ok (.ireturn, 1) := by decide +kernel
theorem dL_law_322 : decode cL_law 322 = .ok (.aload_n 1, 1) := by decide +kernel
theorem dL_law_323 : decode cL_law 323 = .ok (.aload_n 0, 1) := by decide +kernel
theorem dL_law_324 : decode cL_law 324 = .ok (.iload 4, 2) := by decide +kernel
theorem dL_law_326 : decode cL_law 326 = .ok (.iconst 1, 1) := by decide +kernel
theorem dL_law_327 : decode cL_law 327 = .ok (.iadd, 1) := by decide +kernel
theorem dL_law_328 : decode cL_law 328 = .ok (.iaload, 1) := by decide +kernel
theorem dL_law_329 : decode cL_law 329 = .ok (.invokevirtual 47, 3) := by decide +kernel
theorem dL_law_332 : decode cL_law 332 = .ok (.aload_n 2, 1) := by decide +kernel
theorem dL_law_333 : decode cL_law 333 = .ok (.aload_n 0, 1) := by decide +kernel
theorem dL_law_334 : decode cL_law 334 = .ok (.iload 4, 2) := by decide +kernel
theorem dL_law_336 : decode cL_law 336 = .ok (.iconst 1, 1) := by decide +kernel
theorem dL_law_337 : decode cL_law 337 = .ok (.iadd, 1) := by decide +kernel
theorem dL_law_338 : decode cL_law 338 = .ok (.iaload, 1) := by decide +kernel
theorem dL_law_339 : decode cL_law 339 = .ok (.invokevirtual 50, 3) := by decide +kernel
theorem dL_law_342 : decode cL_law 342 = .ok (.if_icmp .eq 532, 3) := by decide +kernel
theorem dL_law_345 : decode cL_law 345 = .ok (.iconst 0, 1) := by decide +kernel
theorem dL_law_346 : decode cL_law 346 = .ok (.ireturn, 1) := by decide +kernel
theorem dL_law_347 : decode cL_law 347 = .ok (.aload_n 1, 1) := by decide +kernel
theorem dL_law_348 : decode cL_law 348 = .ok (.aload_n 0, 1) := by decide +kernel
theorem dL_law_349 : decode cL_law 349 = .ok (.iload 4, 2) := by decide +kernel
theorem dL_law_351 : decode cL_law 351 = .ok (.iconst 1, 1) := by decide +kernel
theorem dL_law_352 : decode cL_law 352 = .ok (.iadd, 1) := by decide +kernel
theorem dL_law_353 : decode cL_law 353 = .ok (.iaload, 1) := by decide +kernel
theorem dL_law_354 : decode cL_law 354 = .ok (.aload_n 0, 1) := by decide +kernel
theorem dL_law_355 : decode cL_law 355 = .ok (.iload 4, 2) := by decide +kernel
theorem dL_law_357 : decode cL_law 357 = .ok (.iconst 2, 1) := by decide +kernel
theorem dL_law_358 : decode cL_law 358 = .ok (.iadd, 1) := by decide +kernel
theorem dL_law_359 : decode cL_law 359 = .ok (.iaload, 1) := by decide +kernel
theorem dL_law_360 : decode cL_law 360 = .ok (.invokevirtual 51, 3) := by decide +kernel
theorem dL_law_363 : decode cL_law 363 = .ok (.aload_n 2, 1) := by decide +kernel
theorem dL_law_364 : decode cL_law 364 = .ok (.aload_n 0, 1) := by decide +kernel
theorem dL_law_365 : decode cL_law 365 = .ok (.iload 4, 2) := by decide +kernel
theorem dL_law_367 : decode cL_law 367 = .ok (.iconst 1, 1) := by decide +kernel
theorem dL_law_368 : decode cL_law 368 = .ok (.iadd, 1) := by decide +kernel
theorem dL_law_369 : decode cL_law 369 = .ok (.iaload, 1) := by decide +kernel
theorem dL_law_370 : decode cL_law 370 = .ok (.aload_n 0, 1) := by decide +kernel
theorem dL_law_371 : decode cL_law 371 = .ok (.iload 4, 2) := by decide +kernel
theorem dL_law_373 : decode cL_law 373 = .ok (.iconst 2, 1) := by decide +kernel
theorem dL_law_374 : decode cL_law 374 = .ok (.iadd, 1) := by decide +kernel
theorem dL_law_375 : decode cL_law 375 = .ok (.iaload, 1) := by decide +kernel
theorem dL_law_376 : decode cL_law 376 = .ok (.invokevirtual 54, 3) := by decide +kernel
theorem dL_law_379 : decode cL_law 379 = .ok (.if_icmp .eq 495, 3) := by decide +kernel
theorem dL_law_382 : decode cL_law 382 = .ok (.iconst 0, 1) := by decide +kernel
theorem dL_law_383 : decode cL_law 383 = .ok (.ireturn, 1) := by decide +kernel
theorem dL_law_384 : decode cL_law 384 = .ok (.aload_n 1, 1) := by decide +kernel
theorem dL_law_385 : decode cL_law 385 = .ok (.aload_n 0, 1) := by decide +kernel
theorem dL_law_386 : decode cL_law 386 = .ok (.iload 4, 2) := by decide +kernel
theorem dL_law_388 : decode cL_law 388 = .ok (.iconst 1, 1) := by decide +kernel
theorem dL_law_389 : decode cL_law 389 = .ok (.iadd, 1) := by decide +kernel
theorem dL_law_390 : decode cL_law 390 = .ok (.iaload, 1) := by decide +kernel
theorem dL_law_391 : decode cL_law 391 = .ok (.aload_n 0, 1) := by decide +kernel
theorem dL_law_392 : decode cL_law 392 = .ok (.iload 4, 2) := by decide +kernel
theorem dL_law_394 : decode cL_law 394 = .ok (.iconst 2, 1) := by decide +kernel
theorem dL_law_395 : decode cL_law 395 = .ok (.iadd, 1) := by decide +kernel
theorem dL_law_396 : decode cL_law 396 = .ok (.iaload, 1) := by decide +kernel
theorem dL_law_397 : decode cL_law 397 = .ok (.invokevirtual 55, 3) := by decide +kernel
theorem dL_law_400 : decode cL_law 400 = .ok (.aload_n 2, 1) := by decide +kernel
theorem dL_law_401 : decode cL_law 401 = .ok (.aload_n 0, 1) := by decide +kernel
theorem dL_law_402 : decode cL_law 402 = .ok (.iload 4, 2) := by decide +kernel
theorem dL_law_404 : decode cL_law 404 = .ok (.iconst 1, 1) := by decide +kernel
theorem dL_law_405 : decode cL_law 405 = .ok (.iadd, 1) := by decide +kernel
theorem dL_law_406 : decode cL_law 406 = .ok (.iaload, 1) := by decide +kernel
theorem dL_law_407 : decode cL_law 407 = .ok (.aload_n 0, 1) := by decide +kernel
theorem dL_law_408 : decode cL_law 408 = .ok (.iload 4, 2) := by decide +kernel
theorem dL_law_410 : decode cL_law 410 = .ok (.iconst 2, 1) := by decide +kernel
theorem dL_law_411 : decode cL_law 411 = .ok (.iadd, 1) := by decide +kernel
theorem dL_law_412 : decode cL_law 412 = .ok (.iaload, 1) := by decide +kernel
theorem dL_law_413 : decode cL_law 413 = .ok (.invokevirtual 58, 3) := by decide +kernel
theorem dL_law_416 : decode cL_law 416 = .ok (.if_icmp .eq 458, 3) := by decide +kernel
theorem dL_law_419 : decode cL_law 419 = .ok (.iconst 0, 1) := by decide +kernel
theorem dL_law_420 : decode cL_law 420 = .ok (.ireturn, 1) := by decide +kernel
theorem dL_law_421 : decode cL_law 421 = .ok (.aload_n 1, 1) := by decide +kernel
theorem dL_law_422 : decode cL_law 422 = .ok (.aload_n 0, 1) := by decide +kernel
theorem dL_law_423 : decode cL_law 423 = .ok (.iload 4, 2) := by decide +kernel
theorem dL_law_425 : decode cL_law 425 = .ok (.iconst 1, 1) := by decide +kernel
theorem dL_law_426 : decode cL_law 426 = .ok (.iadd, 1) := by decide +kernel
theorem dL_law_427 : decode cL_law 427 = .ok (.iaload, 1) := by decide +kernel
theorem dL_law_428 : decode cL_law 428 = .ok (.invokevirtual 59, 3) := by decide +kernel
theorem dL_law_431 : decode cL_law 431 = .ok (.aload_n 2, 1) := by decide +kernel
theorem dL_law_432 : decode cL_law 432 = .ok (.aload_n 0, 1) := by decide +kernel
theorem dL_law_433 : decode cL_law 433 = .ok (.iload 4, 2) := by decide +kernel
theorem dL_law_435 : decode cL_law 435 = .ok (.iconst 1, 1) := by decide +kernel
theorem dL_law_436 : decode cL_law 436 = .ok (.iadd, 1) := by decide +kernel
theorem dL_law_437 : decode cL_law 437 = .ok (.iaload, 1) := by decide +kernel
theorem dL_law_438 : decode cL_law 438 = .ok (.invokevirtual 62, 3) := by decide +kernel
