set_option maxRecDepth 20000 in
theorem ggX8_period_X8_isPeriod : GoodIn wsX8_period wsX8_isPeriod := goodIn_r _ [9, 10, 11, 8, 12] rfl (by decide +kernel)
set_option maxRecDepth 20000 in
theorem gX8_period_X8_isPeriod : GoodIn wsX8_period (va_wsS RX8 151 yX8_isPeriod wsX8_isPeriod) := goodIn_app (goodIn_r _ [6, 7, 8] rfl (by decide +kernel)) ggX8_period_X8_isPeriod
set_option maxRecDepth 20000 in
theorem ggX8_period_X8_isRule : GoodIn wsX8_period wsX8_isRule := goodIn_r _ [15, 10, 11, 8, 12] rfl (by decide +kernel)
set_option maxRecDepth 20000 in
theorem gX8_period_X8_isRule : GoodIn wsX8_period (va_wsS RX8 154 yX8_isRule wsX8_isRule) := goodIn_app (goodIn_r _ [13, 14, 8] rfl (by decide +kernel)) ggX8_period_X8_isRule
set_option maxRecDepth 20000 in
theorem ggX8_period_X7_sumBy : GoodIn wsX8_period wsX7_sumBy := goodIn_r _ [20, 21, 22, 23, 24, 25, 26, 27, 19, 28, 29, 30, 31, 32, 33, 34, 35, 36, 37, 38, 39, 40, 41, 42, 43, 44, 45, 46, 47, 48, 49, 50, 51, 52, 53, 54, 55, 56, 57, 58, 59, 60, 61, 62, 63, 158, 159, 160, 161, 162, 163, 164, 165, 166, 167, 168, 169, 170, 171, 172, 173, 174] rfl (by decide +kernel)
set_option maxRecDepth 20000 in
theorem gX8_period_X7_sumBy : GoodIn wsX8_period (wsV RX8 157 RX7 yX7_sumBy wsX7_sumBy) := goodIn_app (goodIn_r _ [16, 17, 18, 19] rfl (by decide +kernel)) ggX8_period_X7_sumBy
set_option maxRecDepth 20000 in
theorem ggX8_period_X1_reckon : GoodIn wsX8_period wsX1_reckon := goodIn_r _ [68, 69, 70, 46, 71, 72, 73, 74, 75, 67, 76, 77, 78, 79, 17, 18, 19, 20, 21, 22, 23, 24, 25, 26, 27, 28, 29, 30, 31, 32, 33, 34, 35, 36, 37, 38, 39, 40, 41, 42, 43, 44, 45, 47, 48, 49, 50, 51, 52, 53, 54, 55, 56, 57, 58, 59, 60, 61, 62, 63, 80, 81, 82, 83, 175, 176, 177, 158, 159, 160, 161, 162, 163, 164, 165, 166, 167, 168, 169, 170, 171, 172, 173, 174] rfl (by decide +kernel)
set_option maxRecDepth 20000 in
theorem gX8_period_X1_reckon : GoodIn wsX8_period (wsV RX8 161 RX1 yX1_reckon wsX1_reckon) := goodIn_app (goodIn_r _ [64, 65, 66, 67] rfl (by decide +kernel)) ggX8_period_X1_reckon
set_option maxRecDepth 20000 in
theorem ggX8_period_X1_leastOf : GoodIn wsX8_period wsX1_leastOf := goodIn_r _ [83, 77, 175, 176, 177] rfl (by decide +kernel)
set_option maxRecDepth 20000 in
theorem gX8_period_X1_leastOf : GoodIn wsX8_period (wsV RX8 164 RX1 yX1_leastOf wsX1_leastOf) := goodIn_app (goodIn_r _ [84, 81, 82, 67] rfl (by decide +kernel)) ggX8_period_X1_leastOf
set_option maxRecDepth 20000 in
theorem ggX8_period_X1_ruleOf : GoodIn wsX8_period wsX1_ruleOf := goodIn_r _ [88, 78, 175, 176, 177] rfl (by decide +kernel)
set_option maxRecDepth 20000 in
theorem gX8_period_X1_ruleOf : GoodIn wsX8_period (wsV RX8 167 RX1 yX1_ruleOf wsX1_ruleOf) := goodIn_app (goodIn_r _ [85, 86, 87, 67] rfl (by decide +kernel)) ggX8_period_X1_ruleOf
set_option maxRecDepth 20000 in
theorem ggX8_period_X1_instalment : GoodIn wsX8_period wsX1_instalment := goodIn_r _ [92, 93, 94, 95, 67, 96, 72, 175, 176, 177] rfl (by decide +kernel)
set_option maxRecDepth 20000 in
theorem gX8_period_X1_instalment : GoodIn wsX8_period (wsV RX8 170 RX1 yX1_instalment wsX1_instalment) := goodIn_app (goodIn_r _ [89, 90, 91, 67] rfl (by decide +kernel)) ggX8_period_X1_instalment
set_option maxRecDepth 20000 in
theorem ggX8_period_X0_lay : GoodIn wsX8_period wsX0_lay := goodIn_r _ [101, 102, 103, 104, 105, 106, 107, 108, 109, 110, 111, 112, 113, 100, 114, 115, 116, 51, 52, 33, 53, 35, 36, 117, 55, 56, 57, 37, 118, 119, 120, 121, 122, 123, 124, 125, 126, 178, 179, 158, 159, 160, 161, 162, 163, 164, 165, 166, 167, 168, 169, 170, 171, 172, 173, 174] rfl (by decide +kernel)
set_option maxRecDepth 20000 in
theorem gX8_period_X0_lay : GoodIn wsX8_period (wsV RX8 173 RX0 yX0_lay wsX0_lay) := goodIn_app (goodIn_r _ [97, 98, 99, 100] rfl (by decide +kernel)) ggX8_period_X0_lay
set_option maxRecDepth 20000 in
theorem ggX8_period_X0_costOf : GoodIn wsX8_period wsX0_costOf := goodIn_r _ [130, 131, 132, 133, 45, 46, 47, 134, 70, 71, 135, 136, 90, 91, 67, 92, 93, 94, 95, 96, 72, 137, 116, 51, 52, 33, 53, 35, 36, 138, 139, 140, 100, 141, 102, 142, 143, 144, 145, 122, 158, 159, 160, 161, 162, 163, 164, 165, 166, 167, 168, 169, 170, 171, 175, 176, 177, 172, 173, 174, 178, 179] rfl (by decide +kernel)
set_option maxRecDepth 20000 in
theorem gX8_period_X0_costOf : GoodIn wsX8_period (wsV RX8 176 RX0 yX0_costOf wsX0_costOf) := goodIn_app (goodIn_r _ [127, 128, 129, 100] rfl (by decide +kernel)) ggX8_period_X0_costOf
set_option maxRecDepth 20000 in
theorem ggX8_period_X5_first : GoodIn wsX8_period wsX5_first := goodIn_r _ [53, 35, 36, 172, 173, 174] rfl (by decide +kernel)
set_option maxRecDepth 20000 in
theorem gX8_period_X5_first : GoodIn wsX8_period (wsV RX8 183 RX5 yX5_first wsX5_first) := goodIn_app (goodIn_r _ [146, 51, 52, 33] rfl (by decide +kernel)) ggX8_period_X5_first
set_option maxRecDepth 20000 in
theorem ggX8_period_X5_second : GoodIn wsX8_period wsX5_second := goodIn_r _ [57, 35, 37, 172, 173, 174] rfl (by decide +kernel)
set_option maxRecDepth 20000 in
theorem gX8_period_X5_second : GoodIn wsX8_period (wsV RX8 186 RX5 yX5_second wsX5_second) := goodIn_app (goodIn_r _ [147, 55, 56, 33] rfl (by decide +kernel)) ggX8_period_X5_second
set_option maxRecDepth 20000 in
theorem ggX8_period_X7_yearly : GoodIn wsX8_period wsX7_yearly := goodIn_r _ [61, 62, 29, 63, 54, 55, 56, 33, 57, 35, 37, 30, 31, 32, 34, 36, 158, 159, 160, 161, 162, 163, 164, 165, 166, 167, 168, 169, 170, 171, 172, 173, 174] rfl (by decide +kernel)
set_option maxRecDepth 20000 in
theorem gX8_period_X7_yearly : GoodIn wsX8_period (wsV RX8 189 RX7 yX7_yearly wsX7_yearly) := goodIn_app (goodIn_r _ [148, 59, 60, 19] rfl (by decide +kernel)) ggX8_period_X7_yearly
theorem dX8_period_0 : decode cX8_period 0 = .ok (.iload_n 1, 1) := by decide +kernel
theorem dX8_period_1 : decode cX8_period 1 = .ok (.invokestatic 151, 3) := by decide +kernel
theorem dX8_period_4 : decode cX8_period 4 = .ok (.ifCond .ne 5, 3) := by decide +kernel
theorem dX8_period_7 : decode cX8_period 7 = .ok (.iconst (-1), 1) := by decide +kernel
theorem dX8_period_8 : decode cX8_period 8 = .ok (.ireturn, 1) := by decide +kernel
theorem dX8_period_9 : decode cX8_period 9 = .ok (.iload_n 2, 1) := by decide +kernel
theorem dX8_period_10 : decode cX8_period 10 = .ok (.invokestatic 154, 3) := by decide +kernel
theorem dX8_period_13 : decode cX8_period 13 = .ok (.ifCond .eq 13, 3) := by decide +kernel
theorem dX8_period_16 : decode cX8_period 16 = .ok (.aload_n 0, 1) := by decide +kernel
theorem dX8_period_17 : decode cX8_period 17 = .ok (.getfield 26, 3) := by decide +kernel
theorem dX8_period_20 : decode cX8_period 20 = .ok (.iload_n 2, 1) := by decide +kernel
theorem dX8_period_21 : decode cX8_period 21 = .ok (.iload_n 1, 1) := by decide +kernel
theorem dX8_period_22 : decode cX8_period 22 = .ok (.invokevirtual 157, 3) := by decide +kernel
theorem dX8_period_25 : decode cX8_period 25 = .ok (.ireturn, 1) := by decide +kernel
theorem dX8_period_26 : decode cX8_period 26 = .ok (.aload_n 0, 1) := by decide +kernel
theorem dX8_period_27 : decode cX8_period 27 = .ok (.getfield 36, 3) := by decide +kernel
theorem dX8_period_30 : decode cX8_period 30 = .ok (.aload_n 0, 1) := by decide +kernel
theorem dX8_period_31 : decode cX8_period 31 = .ok (.getfield 26, 3) := by decide +kernel
theorem dX8_period_34 : decode cX8_period 34 = .ok (.aload_n 0, 1) := by decide +kernel
theorem dX8_period_35 : decode cX8_period 35 = .ok (.getfield 26, 3) := by decide +kernel
theorem dX8_period_38 : decode cX8_period 38 = .ok (.getfield 135, 3) := by decide +kernel
theorem dX8_period_41 : decode cX8_period 41 = .ok (.invokevirtual 161, 3) := by decide +kernel
theorem dX8_period_44 : decode cX8_period 44 = .ok (.iload_n 2, 1) := by decide +kernel
theorem dX8_period_45 : decode cX8_period 45 = .ok (.tableswitch 131 3 9 #[43, 52, 61, 70, 98, 110, 122], 43) := by decide +kernel
theorem dX8_period_88 : decode cX8_period 88 = .ok (.aload_n 0, 1) := by decide +kernel
theorem dX8_period_89 : decode cX8_period 89 = .ok (.getfield 36, 3) := by decide +kernel
theorem dX8_period_92 : decode cX8_period 92 = .ok (.iload_n 1, 1) := by decide +kernel
theorem dX8_period_93 : decode cX8_period 93 = .ok (.invokevirtual 164, 3) := by decide +kernel
theorem dX8_period_96 : decode cX8_period 96 = .ok (.ireturn, 1) := by decide +kernel
theorem dX8_period_97 : decode cX8_period 97 = .ok (.aload_n 0, 1) := by decide +kernel
theorem dX8_period_98 : decode cX8_period 98 = .ok (.getfield 36, 3) := by decide +kernel
theorem dX8_period_101 : decode cX8_period 101 = .ok (.iload_n 1, 1) := by decide +kernel
theorem dX8_period_102 : decode cX8_period 102 = .ok (.invokevirtual 167, 3) := by decide +kernel
theorem dX8_period_105 : decode cX8_period 105 = .ok (.ireturn, 1) := by decide +kernel
theorem dX8_period_106 : decode cX8_period 106 = .ok (.aload_n 0, 1) := by decide +kernel
theorem dX8_period_107 : decode cX8_period 107 = .ok (.getfield 36, 3) := by decide +kernel
theorem dX8_period_110 : decode cX8_period 110 = .ok (.iload_n 1, 1) := by decide +kernel
theorem dX8_period_111 : decode cX8_period 111 = .ok (.invokevirtual 170, 3) := by decide +kernel
theorem dX8_period_114 : decode cX8_period 114 = .ok (.ireturn, 1) := by decide +kernel
theorem dX8_period_115 : decode cX8_period 115 = .ok (.aload_n 0, 1) := by decide +kernel
theorem dX8_period_116 : decode cX8_period 116 = .ok (.getfield 43, 3) := by decide +kernel
theorem dX8_period_119 : decode cX8_period 119 = .ok (.aload_n 0, 1) := by decide +kernel
theorem dX8_period_120 : decode cX8_period 120 = .ok (.getfield 26, 3) := by decide +kernel
theorem dX8_period_123 : decode cX8_period 123 = .ok (.invokevirtual 173, 3) := by decide +kernel
theorem dX8_period_126 : decode cX8_period 126 = .ok (.aload_n 0, 1) := by decide +kernel
theorem dX8_period_127 : decode cX8_period 127 = .ok (.getfield 43, 3) := by decide +kernel
theorem dX8_period_130 : decode cX8_period 130 = .ok (.iload_n 1, 1) := by decide +kernel
theorem dX8_period_131 : decode cX8_period 131 = .ok (.aload_n 0, 1) := by decide +kernel
theorem dX8_period_132 : decode cX8_period 132 = .ok (.getfield 26, 3) := by decide +kernel
theorem dX8_period_135 : decode cX8_period 135 = .ok (.aload_n 0, 1) := by decide +kernel
theorem dX8_period_136 : decode cX8_period 136 = .ok (.getfield 36, 3) := by decide +kernel
theorem dX8_period_139 : decode cX8_period 139 = .ok (.invokevirtual 176, 3) := by decide +kernel
theorem dX8_period_142 : decode cX8_period 142 = .ok (.ireturn, 1) := by decide +kernel
theorem dX8_period_143 : decode cX8_period 143 = .ok (.aload_n 0, 1) := by decide +kernel
theorem dX8_period_144 : decode cX8_period 144 = .ok (.getfield 26, 3) := by decide +kernel
theorem dX8_period_147 : decode cX8_period 147 = .ok (.getfield 180, 3) := by decide +kernel
theorem dX8_period_150 : decode cX8_period 150 = .ok (.iload_n 1, 1) := by decide +kernel
theorem dX8_period_151 : decode cX8_period 151 = .ok (.invokevirtual 183, 3) := by decide +kernel
theorem dX8_period_154 : decode cX8_period 154 = .ok (.ireturn, 1) := by decide +kernel
theorem dX8_period_155 : decode cX8_period 155 = .ok (.aload_n 0, 1) := by decide +kernel
theorem dX8_period_156 : decode cX8_period 156 = .ok (.getfield 26, 3) := by decide +kernel
theorem dX8_period_159 : decode cX8_period 159 = .ok (.getfield 180, 3) := by decide +kernel
theorem dX8_period_162 : decode cX8_period 162 = .ok (.iload_n 1, 1) := by decide +kernel
theorem dX8_period_163 : decode cX8_period 163 = .ok (.invokevirtual 186, 3) := by decide +kernel
theorem dX8_period_166 : decode cX8_period 166 = .ok (.ireturn, 1) := by decide +kernel
theorem dX8_period_167 : decode cX8_period 167 = .ok (.aload_n 0, 1) := by decide +kernel
theorem dX8_period_168 : decode cX8_period 168 = .ok (.getfield 26, 3) := by decide +kernel
theorem dX8_period_171 : decode cX8_period 171 = .ok (.iload_n 1, 1) := by decide +kernel
theorem dX8_period_172 : decode cX8_period 172 = .ok (.invokevirtual 189, 3) := by decide +kernel
theorem dX8_period_175 : decode cX8_period 175 = .ok (.ireturn, 1) := by decide +kernel
theorem dX8_period_176 : decode cX8_period 176 = .ok (.iconst (-1), 1) := by decide +kernel
theorem dX8_period_177 : decode cX8_period 177 = .ok (.ireturn, 1) := by decide +kernel
set_option maxRecDepth 20000 in
theorem ggX8_unpaid_X8_isPeriod : GoodIn wsX8_unpaid wsX8_isPeriod := goodIn_r _ [7, 8, 9, 6, 10] rfl (by decide +kernel)
set_option maxRecDepth 20000 in
theorem gX8_unpaid_X8_isPeriod : GoodIn wsX8_unpaid (va_wsS RX8 151 yX8_isPeriod wsX8_isPeriod) := goodIn_app (goodIn_r _ [4, 5, 6] rfl (by decide +kernel)) ggX8_unpaid_X8_isPeriod
set_option maxRecDepth 20000 in
theorem ggX8_unpaid_X8_isDay : GoodIn wsX8_unpaid wsX8_isDay := goodIn_r _ [13, 8, 9, 6, 10] rfl (by decide +kernel)
set_option maxRecDepth 20000 in
theorem gX8_unpaid_X8_isDay : GoodIn wsX8_unpaid (va_wsS RX8 144 yX8_isDay wsX8_isDay) := goodIn_app (goodIn_r _ [11, 12, 6] rfl (by decide +kernel)) ggX8_unpaid_X8_isDay
set_option maxRecDepth 20000 in
theorem ggX8_unpaid_X1_reckon : GoodIn wsX8_unpaid wsX1_reckon := goodIn_r _ [18, 19, 20, 21, 22, 23, 24, 25, 26, 17, 27, 28, 29, 30, 31, 32, 33, 34, 35, 36, 37, 38, 39, 40, 41, 42, 43, 44, 45, 46, 47, 48, 49, 50, 51, 52, 53, 54, 55, 56, 57, 58, 59, 60, 61, 62, 63, 64, 65, 66, 67, 68, 69, 70, 71, 72, 73, 74, 75, 76, 77, 78, 79, 80, 124, 125, 126, 110, 111, 112, 113, 114, 115, 116, 117, 118, 119, 120, 121, 122, 123, 127, 128, 129] rfl (by decide +kernel)
set_option maxRecDepth 20000 in
theorem gX8_unpaid_X1_reckon : GoodIn wsX8_unpaid (wsV RX8 161 RX1 yX1_reckon wsX1_reckon) := goodIn_app (goodIn_r _ [14, 15, 16, 17] rfl (by decide +kernel)) ggX8_unpaid_X1_reckon
set_option maxRecDepth 20000 in
theorem ggX8_unpaid_X7_paidUpTo : GoodIn wsX8_unpaid wsX7_paidUpTo := goodIn_r _ [84, 85, 86, 87, 44, 45, 46, 47, 48, 49, 50, 51, 110, 111, 112, 113, 114, 115, 116, 117, 118, 119, 120, 121, 122, 123, 127, 128, 129] rfl (by decide +kernel)
set_option maxRecDepth 20000 in
theorem gX8_unpaid_X7_paidUpTo : GoodIn wsX8_unpaid (wsV RX8 107 RX7 yX7_paidUpTo wsX7_paidUpTo) := goodIn_app (goodIn_r _ [81, 82, 83, 33] rfl (by decide +kernel)) ggX8_unpaid_X7_paidUpTo
set_option maxRecDepth 20000 in
theorem ggX8_unpaid_X1_uncovered : GoodIn wsX8_unpaid wsX1_uncovered := goodIn_r _ [91, 92, 59, 21, 60, 19, 20, 22, 93, 94, 95, 17, 96, 97, 98, 99, 100, 23, 124, 125, 126] rfl (by decide +kernel)
set_option maxRecDepth 20000 in
theorem gX8_unpaid_X1_uncovered : GoodIn wsX8_unpaid (wsV RX8 192 RX1 yX1_uncovered wsX1_uncovered) := goodIn_app (goodIn_r _ [88, 89, 90, 17] rfl (by decide +kernel)) ggX8_unpaid_X1_uncovered
theorem dX8_unpaid_0 : decode cX8_unpaid 0 = .ok (.iload_n 1, 1) := by decide +kernel
theorem dX8_unpaid_1 : decode cX8_unpaid 1 = .ok (.invokestatic 151, 3) := by decide +kernel
theorem dX8_unpaid_4 : decode cX8_unpaid 4 = .ok (.ifCond .eq 10, 3) := by decide +kernel
theorem dX8_unpaid_7 : decode cX8_unpaid 7 = .ok (.iload_n 2, 1) := by decide +kernel
theorem dX8_unpaid_8 : decode cX8_unpaid 8 = .ok (.invokestatic 144, 3) := by decide +kernel
theorem dX8_unpaid_11 : decode cX8_unpaid 11 = .ok (.ifCond .ne 5, 3) := by decide +kernel
theorem dX8_unpaid_14 : decode cX8_unpaid 14 = .ok (.iconst (-1), 1) := by decide +kernel
theorem dX8_unpaid_15 : decode cX8_unpaid 15 = .ok (.ireturn, 1) := by decide +kernel
theorem dX8_unpaid_16 : decode cX8_unpaid 16 = .ok (.aload_n 0, 1) := by decide +kernel
theorem dX8_unpaid_17 : decode cX8_unpaid 17 = .ok (.getfield 36, 3) := by decide +kernel
theorem dX8_unpaid_20 : decode cX8_unpaid 20 = .ok (.aload_n 0, 1) := by decide +kernel
theorem dX8_unpaid_21 : decode cX8_unpaid 21 = .ok (.getfield 26, 3) := by decide +kernel
theorem dX8_unpaid_24 : decode cX8_unpaid 24 = .ok (.aload_n 0, 1) := by decide +kernel
theorem dX8_unpaid_25 : decode cX8_unpaid 25 = .ok (.getfield 26, 3) := by decide +kernel
theorem dX8_unpaid_28 : decode cX8_unpaid 28 = .ok (.getfield 135, 3) := by decide +kernel
theorem dX8_unpaid_31 : decode cX8_unpaid 31 = .ok (.invokevirtual 161, 3) := by decide +kernel
theorem dX8_unpaid_34 : decode cX8_unpaid 34 = .ok (.aload_n 0, 1) := by decide +kernel
theorem dX8_unpaid_35 : decode cX8_unpaid 35 = .ok (.getfield 36, 3) := by decide +kernel
theorem dX8_unpaid_38 : decode cX8_unpaid 38 = .ok (.iload_n 1, 1) := by decide +kernel
theorem dX8_unpaid_39 : decode cX8_unpaid 39 = .ok (.aload_n 0, 1) := by decide +kernel
theorem dX8_unpaid_40 : decode cX8_unpaid 40 = .ok (.getfield 26, 3) := by decide +kernel
theorem dX8_unpaid_43 : decode cX8_unpaid 43 = .ok (.iload_n 2, 1) := by decide +kernel
theorem dX8_unpaid_44 : decode cX8_unpaid 44 = .ok (.invokevirtual 107, 3) := by decide +kernel
theorem dX8_unpaid_47 : decode cX8_unpaid 47 = .ok (.invokevirtual 192, 3) := by decide +kernel
theorem dX8_unpaid_50 : decode cX8_unpaid 50 = .ok (.ireturn, 1) := by decide +kernel
set_option maxRecDepth 20000 in
theorem ggX8_free_X8_isDay : GoodIn wsX8_free wsX8_isDay := goodIn_r _ [7, 8, 9, 6, 10] rfl (by decide +kernel)
set_option maxRecDepth 20000 in
theorem gX8_free_X8_isDay : GoodIn wsX8_free (va_wsS RX8 144 yX8_isDay wsX8_isDay) := goodIn_app (goodIn_r _ [4, 5, 6] rfl (by decide +kernel)) ggX8_free_X8_isDay
set_option maxRecDepth 20000 in
theorem ggX8_free_X1_reckon : GoodIn wsX8_free wsX1_reckon := goodIn_r _ [15, 16, 17, 18, 19, 20, 21, 22, 23, 14, 24, 25, 26, 27, 28, 29, 30, 31, 32, 33, 34, 35, 36, 37, 38, 39, 40, 41, 42, 43, 44, 45, 46, 47, 48, 49, 50, 51, 52, 53, 54, 55, 56, 57, 58, 59, 60, 61, 62, 63, 64, 65, 66, 67, 68, 69, 70, 71, 72, 73, 74, 75, 76, 77, 127, 128, 129, 113, 114, 115, 116, 117, 118, 119, 120, 121, 122, 123, 124, 125, 126, 130, 131, 132] rfl (by decide +kernel)
set_option maxRecDepth 20000 in
theorem gX8_free_X1_reckon : GoodIn wsX8_free (wsV RX8 161 RX1 yX1_reckon wsX1_reckon) := goodIn_app (goodIn_r _ [11, 12, 13, 14] rfl (by decide +kernel)) ggX8_free_X1_reckon
set_option maxRecDepth 20000 in
theorem ggX8_free_X7_paidUpTo : GoodIn wsX8_free wsX7_paidUpTo := goodIn_r _ [81, 82, 83, 84, 41, 42, 43, 44, 45, 46, 47, 48, 113, 114, 115, 116, 117, 118, 119, 120, 121, 122, 123, 124, 125, 126, 130, 131, 132] rfl (by decide +kernel)
set_option maxRecDepth 20000 in
theorem gX8_free_X7_paidUpTo : GoodIn wsX8_free (wsV RX8 107 RX7 yX7_paidUpTo wsX7_paidUpTo) := goodIn_app (goodIn_r _ [78, 79, 80, 30] rfl (by decide +kernel)) ggX8_free_X7_paidUpTo
set_option maxRecDepth 20000 in
theorem ggX8_free_X8_freeOf : GoodIn wsX8_free wsX8_freeOf := goodIn_r _ [88, 1, 2, 89, 17, 18, 19, 90, 91, 92, 14, 93, 94, 95, 61, 62, 44, 63, 46, 47, 96, 97, 98, 99, 100, 101, 102, 103, 20, 104, 105, 106, 107, 108, 109, 110, 111, 112, 113, 114, 115, 116, 117, 118, 119, 120, 121, 122, 123, 124, 125, 126, 130, 131, 132, 127, 128, 129] rfl (by decide +kernel)
set_option maxRecDepth 20000 in
theorem gX8_free_X8_freeOf : GoodIn wsX8_free (wsV RX8 195 RX8 yX8_freeOf wsX8_freeOf) := goodIn_app (goodIn_r _ [85, 86, 87, 6] rfl (by decide +kernel)) ggX8_free_X8_freeOf
theorem dX8_free_0 : decode cX8_free 0 = .ok (.iload_n 1, 1) := by decide +kernel
theorem dX8_free_1 : decode cX8_free 1 = .ok (.invokestatic 144, 3) := by decide +kernel
theorem dX8_free_4 : decode cX8_free 4 = .ok (.ifCond .ne 5, 3) := by decide +kernel
theorem dX8_free_7 : decode cX8_free 7 = .ok (.iconst (-1), 1) := by decide +kernel
theorem dX8_free_8 : decode cX8_free 8 = .ok (.ireturn, 1) := by decide +kernel
theorem dX8_free_9 : decode cX8_free 9 = .ok (.aload_n 0, 1) := by decide +kernel
theorem dX8_free_10 : decode cX8_free 10 = .ok (.getfield 36, 3) := by decide +kernel
theorem dX8_free_13 : decode cX8_free 13 = .ok (.aload_n 0, 1) := by decide +kernel
theorem dX8_free_14 : decode cX8_free 14 = .ok (.getfield 26, 3) := by decide +kernel
theorem dX8_free_17 : decode cX8_free 17 = .ok (.aload_n 0, 1) := by decide +kernel
theorem dX8_free_18 : decode cX8_free 18 = .ok (.getfield 26, 3) := by decide +kernel
theorem dX8_free_21 : decode cX8_free 21 = .ok (.getfield 135, 3) := by decide +kernel
theorem dX8_free_24 : decode cX8_free 24 = .ok (.invokevirtual 161, 3) := by decide +kernel
theorem dX8_free_27 : decode cX8_free 27 = .ok (.aload_n 0, 1) := by decide +kernel
theorem dX8_free_28 : decode cX8_free 28 = .ok (.iload_n 1, 1) := by decide +kernel
theorem dX8_free_29 : decode cX8_free 29 = .ok (.aload_n 0, 1) := by decide +kernel
theorem dX8_free_30 : decode cX8_free 30 = .ok (.getfield 26, 3) := by decide +kernel
theorem dX8_free_33 : decode cX8_free 33 = .ok (.iload_n 1, 1) := by decide +kernel
theorem dX8_free_34 : decode cX8_free 34 = .ok (.invokevirtual 107, 3) := by decide +kernel
theorem dX8_free_37 : decode cX8_free 37 = .ok (.invokevirtual 195, 3) := by decide +kernel
theorem dX8_free_40 : decode cX8_free 40 = .ok (.ireturn, 1) := by decide +kernel
set_option maxRecDepth 20000 in
theorem ggX8_rate_X8_isDay : GoodIn wsX8_rate wsX8_isDay := goodIn_r _ [6, 7, 8, 5, 9] rfl (by decide +kernel)
set_option maxRecDepth 20000 in
theorem gX8_rate_X8_isDay : GoodIn wsX8_rate (va_wsS RX8 144 yX8_isDay wsX8_isDay) := goodIn_app (goodIn_r _ [3, 4, 5] rfl (by decide +kernel)) ggX8_rate_X8_isDay
set_option maxRecDepth 20000 in
theorem ggX8_rate_X5_latestUpTo : GoodIn wsX8_rate wsX5_latestUpTo := goodIn_r _ [14, 15, 16, 17, 41, 42, 43] rfl (by decide +kernel)
set_option maxRecDepth 20000 in
theorem gX8_rate_X5_latestUpTo : GoodIn wsX8_rate (wsV RX8 201 RX5 yX5_latestUpTo wsX5_latestUpTo) := goodIn_app (goodIn_r _ [10, 11, 12, 13] rfl (by decide +kernel)) ggX8_rate_X5_latestUpTo
theorem dX8_rate_0 : decode cX8_rate 0 = .ok (.iload_n 1, 1) := by decide +kernel
theorem dX8_rate_1 : decode cX8_rate 1 = .ok (.invokestatic 144, 3) := by decide +kernel
theorem dX8_rate_4 : decode cX8_rate 4 = .ok (.ifCond .eq 17, 3) := by decide +kernel
theorem dX8_rate_7 : decode cX8_rate 7 = .ok (.aload_n 0, 1) := by decide +kernel
theorem dX8_rate_8 : decode cX8_rate 8 = .ok (.getfield 26, 3) := by decide +kernel
theorem dX8_rate_11 : decode cX8_rate 11 = .ok (.getfield 198, 3) := by decide +kernel
theorem dX8_rate_14 : decode cX8_rate 14 = .ok (.iload_n 1, 1) := by decide +kernel
theorem dX8_rate_15 : decode cX8_rate 15 = .ok (.invokevirtual 201, 3) := by decide +kernel
theorem dX8_rate_18 : decode cX8_rate 18 = .ok (.goto 4, 3) := by decide +kernel
theorem dX8_rate_21 : decode cX8_rate 21 = .ok (.iconst (-1), 1) := by decide +kernel
theorem dX8_rate_22 : decode cX8_rate 22 = .ok (.ireturn, 1) := by decide +kernel
set_option maxRecDepth 20000 in
theorem ggX8_payment_X5_has : GoodIn wsX8_payment wsX5_has := goodIn_r _ [7, 8, 42, 43, 44] rfl (by decide +kernel)
set_option maxRecDepth 20000 in
theorem gX8_payment_X5_has : GoodIn wsX8_payment (wsV RX8 204 RX5 yX5_has wsX5_has) := goodIn_app (goodIn_r _ [3, 4, 5, 6] rfl (by decide +kernel)) ggX8_payment_X5_has
set_option maxRecDepth 20000 in
theorem ggX8_payment_X5_first : GoodIn wsX8_payment wsX5_first := goodIn_r _ [12, 8, 13, 42, 43, 44] rfl (by decide +kernel)
set_option maxRecDepth 20000 in
theorem gX8_payment_X5_first : GoodIn wsX8_payment (wsV RX8 183 RX5 yX5_first wsX5_first) := goodIn_app (goodIn_r _ [9, 10, 11, 6] rfl (by decide +kernel)) ggX8_payment_X5_first
set_option maxRecDepth 20000 in
theorem ggX8_payment_X5_second : GoodIn wsX8_payment wsX5_second := goodIn_r _ [17, 8, 18, 42, 43, 44] rfl (by decide +kernel)
set_option maxRecDepth 20000 in
theorem gX8_payment_X5_second : GoodIn wsX8_payment (wsV RX8 186 RX5 yX5_second wsX5_second) := goodIn_app (goodIn_r _ [14, 15, 16, 6] rfl (by decide +kernel)) ggX8_payment_X5_second
theorem dX8_payment_0 : decode cX8_payment 0 = .ok (.aload_n 0, 1) := by decide +kernel
theorem dX8_payment_1 : decode cX8_payment 1 = .ok (.getfield 26, 3) := by decide +kernel
theorem dX8_payment_4 : decode cX8_payment 4 = .ok (.getfield 117, 3) := by decide +kernel
theorem dX8_payment_7 : decode cX8_payment 7 = .ok (.iload_n 1, 1) := by decide +kernel
theorem dX8_payment_8 : decode cX8_payment 8 = .ok (.invokevirtual 204, 3) := by decide +kernel
theorem dX8_payment_11 : decode cX8_payment 11 = .ok (.ifCond .ne 5, 3) := by decide +kernel
theorem dX8_payment_14 : decode cX8_payment 14 = .ok (.iconst (-1), 1) := by decide +kernel
theorem dX8_payment_15 : decode cX8_payment 15 = .ok (.ireturn, 1) := by decide +kernel
theorem dX8_payment_16 : decode cX8_payment 16 = .ok (.iload_n 2, 1) := by decide +kernel
theorem dX8_payment_17 : decode cX8_payment 17 = .ok (.lookupswitch 51 #[(0, 27), (1, 39)], 27) := by decide +kernel
theorem dX8_payment_44 : decode cX8_payment 44 = .ok (.aload_n 0, 1) := by decide +kernel
theorem dX8_payment_45 : decode cX8_payment 45 = .ok (.getfield 26, 3) := by decide +kernel
theorem dX8_payment_48 : decode cX8_payment 48 = .ok (.getfield 117, 3) := by decide +kernel
theorem dX8_payment_51 : decode cX8_payment 51 = .ok (.iload_n 1, 1) := by decide +kernel
theorem dX8_payment_52 : decode cX8_payment 52 = .ok (.invokevirtual 183, 3) := by decide +kernel
theorem dX8_payment_55 : decode cX8_payment 55 = .ok (.ireturn, 1) := by decide +kernel
theorem dX8_payment_56 : decode cX8_payment 56 = .ok (.aload_n 0, 1) := by decide +kernel
theorem dX8_payment_57 : decode cX8_payment 57 = .ok (.getfield 26, 3) := by decide +kernel
theorem dX8_payment_60 : decode cX8_payment 60 = .ok (.getfield 117, 3) := by decide +kernel
theorem dX8_payment_63 : decode cX8_payment 63 = .ok (.iload_n 1, 1) := by decide +kernel
theorem dX8_payment_64 : decode cX8_payment 64 = .ok (.invokevirtual 186, 3) := by decide +kernel
theorem dX8_payment_67 : decode cX8_payment 67 = .ok (.ireturn, 1) := by decide +kernel
theorem dX8_payment_68 : decode cX8_payment 68 = .ok (.iconst (-1), 1) := by decide +kernel
theorem dX8_payment_69 : decode cX8_payment 69 = .ok (.ireturn, 1) := by decide +kernel
set_option maxRecDepth 20000 in
theorem ggX8_late_X8_reckon : GoodIn wsX8_late wsX8_reckon := goodIn_r _ [17, 5, 4, 18, 6, 19, 20, 21, 22, 23, 24, 25, 26, 27, 28, 29, 30, 31, 32, 33, 34, 35, 36, 37, 38, 39, 40, 41, 42, 43, 44, 45, 46, 47, 48, 49, 50, 51, 52, 53, 54, 55, 56, 57, 58, 59, 60, 61, 62, 63, 64, 65, 66, 67, 68, 69, 70, 71, 72, 73, 74, 75, 76, 77, 78, 79, 80, 81, 82, 83, 84, 85, 86, 87, 88, 89, 90, 91, 92, 93, 94, 95, 96, 97, 98, 99, 100, 101, 102, 103, 104, 105, 106, 107, 108, 109, 110, 111, 112, 113, 114, 115, 159, 160, 161, 162, 163, 164, 165, 166, 167, 174, 175, 176, 177, 178, 179, 180, 181, 182, 183, 184, 185, 186, 187, 188, 189, 190, 191, 192, 193, 194, 195] rfl (by decide +kernel)
set_option maxRecDepth 20000 in
theorem gX8_late_X8_reckon : GoodIn wsX8_late (wsV RX8 110 RX8 yX8_reckon wsX8_reckon) := goodIn_app (goodIn_r _ [13, 14, 15, 16] rfl (by decide +kernel)) ggX8_late_X8_reckon
set_option maxRecDepth 20000 in
theorem ggX8_late_X3_find : GoodIn wsX8_late wsX3_find := goodIn_r _ [120, 121, 122, 123, 124, 125, 119, 126, 127, 128, 129, 69, 70, 52, 71, 54, 55, 130, 131, 132, 89, 133, 91, 134, 135, 136, 22, 137, 138, 64, 26, 65, 24, 25, 27, 139, 140, 141, 142, 143, 144, 145, 146, 28, 147, 148, 149, 150, 111, 151, 152, 153, 154, 155, 156, 157, 158, 168, 169, 170, 171, 172, 173, 174, 175, 176, 177, 178, 179, 180, 181, 182, 183, 184, 185, 186, 187, 191, 192, 193, 194, 195, 188, 189, 190] rfl (by decide +kernel)
set_option maxRecDepth 20000 in
theorem gX8_late_X3_find : GoodIn wsX8_late (wsV RX8 130 RX3 yX3_find wsX3_find) := goodIn_app (goodIn_r _ [116, 117, 118, 119] rfl (by decide +kernel)) ggX8_late_X3_find
theorem dX8_late_0 : decode cX8_late 0 = .ok (.aload_n 0, 1) := by decide +kernel
theorem dX8_late_1 : decode cX8_late 1 = .ok (.invokevirtual 110, 3) := by decide +kernel
theorem dX8_late_4 : decode cX8_late 4 = .ok (.aload_n 0, 1) := by decide +kernel
theorem dX8_late_5 : decode cX8_late 5 = .ok (.getfield 50, 3) := by decide +kernel
theorem dX8_late_8 : decode cX8_late 8 = .ok (.iload_n 1, 1) := by decide +kernel
theorem dX8_late_9 : decode cX8_late 9 = .ok (.aload_n 0, 1) := by decide +kernel
theorem dX8_late_10 : decode cX8_late 10 = .ok (.getfield 26, 3) := by decide +kernel
theorem dX8_late_13 : decode cX8_late 13 = .ok (.aload_n 0, 1) := by decide +kernel
theorem dX8_late_14 : decode cX8_late 14 = .ok (.getfield 36, 3) := by decide +kernel
theorem dX8_late_17 : decode cX8_late 17 = .ok (.aload_n 0, 1) := by decide +kernel
theorem dX8_late_18 : decode cX8_late 18 = .ok (.getfield 43, 3) := by decide +kernel
theorem dX8_late_21 : decode cX8_late 21 = .ok (.invokevirtual 130, 3) := by decide +kernel
theorem dX8_late_24 : decode cX8_late 24 = .ok (.iload_n 1, 1) := by decide +kernel
theorem dX8_late_25 : decode cX8_late 25 = .ok (.ifCond .lt 14, 3) := by decide +kernel
theorem dX8_late_28 : decode cX8_late 28 = .ok (.iload_n 1, 1) := by decide +kernel
theorem dX8_late_29 : decode cX8_late 29 = .ok (.aload_n 0, 1) := by decide +kernel
theorem dX8_late_30 : decode cX8_late 30 = .ok (.getfield 50, 3) := by decide +kernel
theorem dX8_late_33 : decode cX8_late 33 = .ok (.getfield 134, 3) := by decide +kernel
theorem dX8_late_36 : decode cX8_late 36 = .ok (.if_icmp .lt 13, 3) := by decide +kernel
theorem dX8_late_39 : decode cX8_late 39 = .ok (.new 207, 3) := by decide +kernel
theorem dX8_late_42 : decode cX8_late 42 = .ok (.dup, 1) := by decide +kernel
theorem dX8_late_43 : decode cX8_late 43 = .ok (.ldc 209, 2) := by decide +kernel
theorem dX8_late_45 : decode cX8_late 45 = .ok (.invokespecial 211, 3) := by decide +kernel
theorem dX8_late_48 : decode cX8_late 48 = .ok (.athrow, 1) := by decide +kernel
theorem dX8_late_49 : decode cX8_late 49 = .ok (.iload_n 2, 1) := by decide +kernel
theorem dX8_late_50 : decode cX8_late 50 = .ok (.tableswitch 74 0 4 #[34, 42, 50, 58, 66], 34) := by decide +kernel
theorem dX8_late_84 : decode cX8_late 84 = .ok (.aload_n 0, 1) := by decide +kernel
theorem dX8_late_85 : decode cX8_late 85 = .ok (.getfield 50, 3) := by decide +kernel
theorem dX8_late_88 : decode cX8_late 88 = .ok (.getfield 214, 3) := by decide +kernel
theorem dX8_late_91 : decode cX8_late 91 = .ok (.ireturn, 1) := by decide +kernel
theorem dX8_late_92 : decode cX8_late 92 = .ok (.aload_n 0, 1) := by decide +kernel
theorem dX8_late_93 : decode cX8_late 93 = .ok (.getfield 50, 3) := by decide +kernel
theorem dX8_late_96 : decode cX8_late 96 = .ok (.getfield 216, 3) := by decide +kernel
theorem dX8_late_99 : decode cX8_late 99 = .ok (.ireturn, 1) := by decide +kernel
theorem dX8_late_100 : decode cX8_late 100 = .ok (.aload_n 0, 1) := by decide +kernel
theorem dX8_late_101 : decode cX8_late 101 = .ok (.getfield 50, 3) := by decide +kernel
theorem dX8_late_104 : decode cX8_late 104 = .ok (.getfield 219, 3) := by decide +kernel
theorem dX8_late_107 : decode cX8_late 107 = .ok (.ireturn, 1) := by decide +kernel
theorem dX8_late_108 : decode cX8_late 108 = .ok (.aload_n 0, 1) := by decide +kernel
theorem dX8_late_109 : decode cX8_late 109 = .ok (.getfield 50, 3) := by decide +kernel
theorem dX8_late_112 : decode cX8_late 112 = .ok (.getfield 222, 3) := by decide +kernel
theorem dX8_late_115 : decode cX8_late 115 = .ok (.ireturn, 1) := by decide +kernel
theorem dX8_late_116 : decode cX8_late 116 = .ok (.aload_n 0, 1) := by decide +kernel
theorem dX8_late_117 : decode cX8_late 117 = .ok (.getfield 50, 3) := by decide +kernel
theorem dX8_late_120 : decode cX8_late 120 = .ok (.getfield 224, 3) := by decide +kernel
theorem dX8_late_123 : decode cX8_late 123 = .ok (.ireturn, 1) := by decide +kernel
theorem dX8_late_124 : decode cX8_late 124 = .ok (.new 207, 3) := by decide +kernel
theorem dX8_late_127 : decode cX8_late 127 = .ok (.dup, 1) := by decide +kernel
theorem dX8_late_128 : decode cX8_late 128 = .ok (.ldc 227, 2) := by decide +kernel
theorem dX8_late_130 : decode cX8_late 130 = .ok (.invokespecial 211, 3) := by decide +kernel
theorem dX8_late_133 : decode cX8_late 133 = .ok (.athrow, 1) := by decide +kernel
set_option maxRecDepth 20000 in
theorem ggX8_moved_X5_has : GoodIn wsX8_moved wsX5_has := goodIn_r _ [9, 10, 174, 175, 176] rfl (by decide +kernel)
set_option maxRecDepth 20000 in
theorem gX8_moved_X5_has : GoodIn wsX8_moved (wsV RX8 204 RX5 yX5_has wsX5_has) := goodIn_app (goodIn_r _ [5, 6, 7, 8] rfl (by decide +kernel)) ggX8_moved_X5_has
set_option maxRecDepth 20000 in
theorem ggX8_moved_X8_isDay : GoodIn wsX8_moved wsX8_isDay := goodIn_r _ [14, 15, 16, 13, 17] rfl (by decide +kernel)
set_option maxRecDepth 20000 in
theorem gX8_moved_X8_isDay : GoodIn wsX8_moved (va_wsS RX8 144 yX8_isDay wsX8_isDay) := goodIn_app (goodIn_r _ [11, 12, 13] rfl (by decide +kernel)) ggX8_moved_X8_isDay
set_option maxRecDepth 20000 in
theorem ggX8_moved_X5_second : GoodIn wsX8_moved wsX5_second := goodIn_r _ [21, 10, 22, 174, 175, 176] rfl (by decide +kernel)
set_option maxRecDepth 20000 in
theorem gX8_moved_X5_second : GoodIn wsX8_moved (wsV RX8 186 RX5 yX5_second wsX5_second) := goodIn_app (goodIn_r _ [18, 19, 20, 8] rfl (by decide +kernel)) ggX8_moved_X5_second
set_option maxRecDepth 20000 in
theorem ggX8_moved_X8_reckon : GoodIn wsX8_moved wsX8_reckon := goodIn_r _ [26, 4, 1, 27, 3, 28, 29, 30, 31, 32, 33, 34, 35, 36, 37, 38, 39, 40, 41, 42, 43, 44, 45, 46, 47, 48, 49, 50, 51, 52, 53, 54, 55, 56, 57, 58, 59, 60, 8, 61, 10, 62, 22, 63, 64, 65, 66, 67, 68, 69, 70, 71, 72, 73, 74, 75, 76, 77, 78, 19, 20, 21, 79, 80, 81, 82, 83, 84, 85, 86, 87, 88, 89, 90, 91, 92, 93, 94, 95, 96, 97, 98, 99, 100, 101, 102, 103, 104, 105, 106, 107, 108, 109, 110, 111, 112, 113, 114, 115, 6, 7, 9, 151, 152, 153, 154, 155, 156, 157, 158, 159, 160, 161, 162, 163, 164, 165, 166, 167, 168, 169, 170, 171, 172, 173, 177, 178, 179, 174, 175, 176, 180, 181] rfl (by decide +kernel)
set_option maxRecDepth 20000 in
theorem gX8_moved_X8_reckon : GoodIn wsX8_moved (wsV RX8 110 RX8 yX8_reckon wsX8_reckon) := goodIn_app (goodIn_r _ [23, 24, 25, 13] rfl (by decide +kernel)) ggX8_moved_X8_reckon
set_option maxRecDepth 20000 in
theorem ggX8_moved_X5_first : GoodIn wsX8_moved wsX5_first := goodIn_r _ [77, 10, 62, 174, 175, 176] rfl (by decide +kernel)
set_option maxRecDepth 20000 in
theorem gX8_moved_X5_first : GoodIn wsX8_moved (wsV RX8 183 RX5 yX5_first wsX5_first) := goodIn_app (goodIn_r _ [116, 75, 76, 8] rfl (by decide +kernel)) ggX8_moved_X5_first
set_option maxRecDepth 20000 in
theorem ggX8_moved_X0_addFrom : GoodIn wsX8_moved wsX0_addFrom := goodIn_r _ [120, 121, 34, 35, 36, 94, 180, 181] rfl (by decide +kernel)
set_option maxRecDepth 20000 in
theorem gX8_moved_X0_addFrom : GoodIn wsX8_moved (wsV RX8 229 RX0 yX0_addFrom wsX0_addFrom) := goodIn_app (goodIn_r _ [117, 118, 119, 92] rfl (by decide +kernel)) ggX8_moved_X0_addFrom
set_option maxRecDepth 20000 in
theorem ggX8_moved_X0_costs : GoodIn wsX8_moved wsX0_costs := goodIn_r _ [125, 126, 127, 128, 92, 129, 130, 131, 132, 70, 35, 71, 121, 34, 36, 133, 134, 135, 136, 31, 137, 138, 139, 140, 141, 37, 142, 108, 75, 76, 8, 77, 10, 62, 143, 144, 145, 146, 94, 147, 148, 149, 150, 114, 160, 161, 162, 163, 164, 165, 166, 167, 168, 169, 170, 171, 172, 173, 177, 178, 179, 174, 175, 176, 180, 181] rfl (by decide +kernel)
set_option maxRecDepth 20000 in
theorem gX8_moved_X0_costs : GoodIn wsX8_moved (wsV RX8 113 RX0 yX0_costs wsX0_costs) := goodIn_app (goodIn_r _ [122, 123, 124, 92] rfl (by decide +kernel)) ggX8_moved_X0_costs
theorem dX8_moved_0 : decode cX8_moved 0 = .ok (.aload_n 0, 1) := by decide +kernel
theorem dX8_moved_1 : decode cX8_moved 1 = .ok (.getfield 26, 3) := by decide +kernel
theorem dX8_moved_4 : decode cX8_moved 4 = .ok (.getfield 117, 3) := by decide +kernel
theorem dX8_moved_7 : decode cX8_moved 7 = .ok (.iload_n 1, 1) := by decide +kernel
theorem dX8_moved_8 : decode cX8_moved 8 = .ok (.invokevirtual 204, 3) := by decide +kernel
theorem dX8_moved_11 : decode cX8_moved 11 = .ok (.ifCond .eq 10, 3) := by decide +kernel
theorem dX8_moved_14 : decode cX8_moved 14 = .ok (.iload_n 2, 1) := by decide +kernel
theorem dX8_moved_15 : decode cX8_moved 15 = .ok (.invokestatic 144, 3) := by decide +kernel
theorem dX8_moved_18 : decode cX8_moved 18 = .ok (.ifCond .ne 5, 3) := by decide +kernel
theorem dX8_moved_21 : decode cX8_moved 21 = .ok (.iconst (-1), 1) := by decide +kernel
theorem dX8_moved_22 : decode cX8_moved 22 = .ok (.ireturn, 1) := by decide +kernel
theorem dX8_moved_23 : decode cX8_moved 23 = .ok (.aload_n 0, 1) := by decide +kernel
theorem dX8_moved_24 : decode cX8_moved 24 = .ok (.getfield 26, 3) := by decide +kernel
theorem dX8_moved_27 : decode cX8_moved 27 = .ok (.getfield 117, 3) := by decide +kernel
theorem dX8_moved_30 : decode cX8_moved 30 = .ok (.iload_n 1, 1) := by decide +kernel
theorem dX8_moved_31 : decode cX8_moved 31 = .ok (.invokevirtual 186, 3) := by decide +kernel
theorem dX8_moved_34 : decode cX8_moved 34 = .ok (.istore_n 3, 1) := by decide +kernel
theorem dX8_moved_35 : decode cX8_moved 35 = .ok (.aload_n 0, 1) := by decide +kernel
theorem dX8_moved_36 : decode cX8_moved 36 = .ok (.invokevirtual 110, 3) := by decide +kernel
theorem dX8_moved_39 : decode cX8_moved 39 = .ok (.aload_n 0, 1) := by decide +kernel
theorem dX8_moved_40 : decode cX8_moved 40 = .ok (.getfield 43, 3) := by decide +kernel
theorem dX8_moved_43 : decode cX8_moved 43 = .ok (.aload_n 0, 1) := by decide +kernel
theorem dX8_moved_44 : decode cX8_moved 44 = .ok (.getfield 26, 3) := by decide +kernel
theorem dX8_moved_47 : decode cX8_moved 47 = .ok (.getfield 117, 3) := by decide +kernel
theorem dX8_moved_50 : decode cX8_moved 50 = .ok (.iload_n 1, 1) := by decide +kernel
theorem dX8_moved_51 : decode cX8_moved 51 = .ok (.invokevirtual 183, 3) := by decide +kernel
theorem dX8_moved_54 : decode cX8_moved 54 = .ok (.iload_n 3, 1) := by decide +kernel
theorem dX8_moved_55 : decode cX8_moved 55 = .ok (.ineg, 1) := by decide +kernel
theorem dX8_moved_56 : decode cX8_moved 56 = .ok (.invokevirtual 229, 3) := by decide +kernel
theorem dX8_moved_59 : decode cX8_moved 59 = .ok (.aload_n 0, 1) := by decide +kernel
theorem dX8_moved_60 : decode cX8_moved 60 = .ok (.getfield 43, 3) := by decide +kernel
theorem dX8_moved_63 : decode cX8_moved 63 = .ok (.iload_n 2, 1) := by decide +kernel
theorem dX8_moved_64 : decode cX8_moved 64 = .ok (.iload_n 3, 1) := by decide +kernel
theorem dX8_moved_65 : decode cX8_moved 65 = .ok (.invokevirtual 229, 3) := by decide +kernel
theorem dX8_moved_68 : decode cX8_moved 68 = .ok (.aload_n 0, 1) := by decide +kernel
theorem dX8_moved_69 : decode cX8_moved 69 = .ok (.getfield 43, 3) := by decide +kernel
theorem dX8_moved_72 : decode cX8_moved 72 = .ok (.aload_n 0, 1) := by decide +kernel
theorem dX8_moved_73 : decode cX8_moved 73 = .ok (.getfield 26, 3) := by decide +kernel
theorem dX8_moved_76 : decode cX8_moved 76 = .ok (.aload_n 0, 1) := by decide +kernel
theorem dX8_moved_77 : decode cX8_moved 77 = .ok (.getfield 36, 3) := by decide +kernel
theorem dX8_moved_80 : decode cX8_moved 80 = .ok (.invokevirtual 113, 3) := by decide +kernel
theorem dX8_moved_83 : decode cX8_moved 83 = .ok (.ireturn, 1) := by decide +kernel
set_option maxRecDepth 20000 in
theorem ggX8_were_X5_has : GoodIn wsX8_were wsX5_has := goodIn_r _ [10, 11, 172, 173, 174] rfl (by decide +kernel)
set_option maxRecDepth 20000 in
theorem gX8_were_X5_has : GoodIn wsX8_were (wsV RX8 204 RX5 yX5_has wsX5_has) := goodIn_app (goodIn_r _ [6, 7, 8, 9] rfl (by decide +kernel)) ggX8_were_X5_has
set_option maxRecDepth 20000 in
theorem ggX8_were_X8_isWithin : GoodIn wsX8_were wsX8_isWithin := goodIn_r _ [15] rfl (by decide +kernel)
set_option maxRecDepth 20000 in
theorem gX8_were_X8_isWithin : GoodIn wsX8_were (va_wsS RX8 140 yX8_isWithin wsX8_isWithin) := goodIn_app (goodIn_r _ [12, 13, 14] rfl (by decide +kernel)) ggX8_were_X8_isWithin
set_option maxRecDepth 20000 in
theorem ggX8_were_X8_reckon : GoodIn wsX8_were wsX8_reckon := goodIn_r _ [19, 5, 1, 20, 4, 21, 22, 23, 24, 25, 26, 27, 28, 29, 30, 31, 32, 33, 34, 35, 36, 37, 38, 39, 40, 41, 42, 43, 44, 45, 46, 47, 48, 49, 50, 51, 52, 53, 9, 54, 11, 55, 56, 57, 58, 59, 60, 61, 62, 63, 64, 65, 66, 67, 68, 69, 70, 71, 72, 73, 74, 75, 76, 77, 78, 79, 80, 81, 82, 83, 84, 85, 86, 87, 88, 89, 90, 91, 92, 93, 94, 95, 96, 97, 98, 99, 100, 101, 102, 103, 104, 105, 106, 107, 108, 109, 110, 111, 112, 7, 8, 10, 149, 150, 151, 152, 153, 154, 155, 156, 157, 158, 159, 160, 161, 162, 163, 164, 165, 166, 167, 168, 169, 170, 171, 175, 176, 177, 172, 173, 174, 178, 179] rfl (by decide +kernel)
set_option maxRecDepth 20000 in
theorem gX8_were_X8_reckon : GoodIn wsX8_were (wsV RX8 110 RX8 yX8_reckon wsX8_reckon) := goodIn_app (goodIn_r _ [16, 17, 18, 14] rfl (by decide +kernel)) ggX8_were_X8_reckon
set_option maxRecDepth 20000 in
theorem ggX8_were_X5_first : GoodIn wsX8_were wsX5_first := goodIn_r _ [71, 11, 55, 172, 173, 174] rfl (by decide +kernel)
set_option maxRecDepth 20000 in
theorem gX8_were_X5_first : GoodIn wsX8_were (wsV RX8 183 RX5 yX5_first wsX5_first) := goodIn_app (goodIn_r _ [113, 69, 70, 9] rfl (by decide +kernel)) ggX8_were_X5_first
set_option maxRecDepth 20000 in
theorem ggX8_were_X5_second : GoodIn wsX8_were wsX5_second := goodIn_r _ [75, 11, 56, 172, 173, 174] rfl (by decide +kernel)
set_option maxRecDepth 20000 in
theorem gX8_were_X5_second : GoodIn wsX8_were (wsV RX8 186 RX5 yX5_second wsX5_second) := goodIn_app (goodIn_r _ [114, 73, 74, 9] rfl (by decide +kernel)) ggX8_were_X5_second
set_option maxRecDepth 20000 in
theorem ggX8_were_X0_addFrom : GoodIn wsX8_were wsX0_addFrom := goodIn_r _ [118, 119, 27, 28, 29, 91, 178, 179] rfl (by decide +kernel)
set_option maxRecDepth 20000 in
theorem gX8_were_X0_addFrom : GoodIn wsX8_were (wsV RX8 229 RX0 yX0_addFrom wsX0_addFrom) := goodIn_app (goodIn_r _ [115, 116, 117, 89] rfl (by decide +kernel)) ggX8_were_X0_addFrom
set_option maxRecDepth 20000 in
theorem ggX8_were_X0_costs : GoodIn wsX8_were wsX0_costs := goodIn_r _ [123, 124, 125, 126, 89, 127, 128, 129, 130, 64, 28, 65, 119, 27, 29, 131, 132, 133, 134, 24, 135, 136, 137, 138, 139, 30, 140, 105, 69, 70, 9, 71, 11, 55, 141, 142, 143, 144, 91, 145, 146, 147, 148, 111, 158, 159, 160, 161, 162, 163, 164, 165, 166, 167, 168, 169, 170, 171, 175, 176, 177, 172, 173, 174, 178, 179] rfl (by decide +kernel)
set_option maxRecDepth 20000 in
theorem gX8_were_X0_costs : GoodIn wsX8_were (wsV RX8 113 RX0 yX0_costs wsX0_costs) := goodIn_app (goodIn_r _ [120, 121, 122, 89] rfl (by decide +kernel)) ggX8_were_X0_costs
theorem dX8_were_0 : decode cX8_were 0 = .ok (.aload_n 0, 1) := by decide +kernel
theorem dX8_were_1 : decode cX8_were 1 = .ok (.getfield 26, 3) := by decide +kernel
theorem dX8_were_4 : decode cX8_were 4 = .ok (.getfield 117, 3) := by decide +kernel
theorem dX8_were_7 : decode cX8_were 7 = .ok (.iload_n 1, 1) := by decide +kernel
theorem dX8_were_8 : decode cX8_were 8 = .ok (.invokevirtual 204, 3) := by decide +kernel
theorem dX8_were_11 : decode cX8_were 11 = .ok (.ifCond .eq 13, 3) := by decide +kernel
theorem dX8_were_14 : decode cX8_were 14 = .ok (.iload_n 2, 1) := by decide +kernel
theorem dX8_were_15 : decode cX8_were 15 = .ok (.iconst 0, 1) := by decide +kernel
theorem dX8_were_16 : decode cX8_were 16 = .ok (.ldc 233, 2) := by decide +kernel
theorem dX8_were_18 : decode cX8_were 18 = .ok (.invokestatic 140, 3) := by decide +kernel
theorem dX8_were_21 : decode cX8_were 21 = .ok (.ifCond .ne 5, 3) := by decide +kernel
theorem dX8_were_24 : decode cX8_were 24 = .ok (.iconst (-1), 1) := by decide +kernel
theorem dX8_were_25 : decode cX8_were 25 = .ok (.ireturn, 1) := by decide +kernel
theorem dX8_were_26 : decode cX8_were 26 = .ok (.aload_n 0, 1) := by decide +kernel
theorem dX8_were_27 : decode cX8_were 27 = .ok (.invokevirtual 110, 3) := by decide +kernel
theorem dX8_were_30 : decode cX8_were 30 = .ok (.aload_n 0, 1) := by decide +kernel
theorem dX8_were_31 : decode cX8_were 31 = .ok (.getfield 43, 3) := by decide +kernel
theorem dX8_were_34 : decode cX8_were 34 = .ok (.aload_n 0, 1) := by decide +kernel
theorem dX8_were_35 : decode cX8_were 35 = .ok (.getfield 26, 3) := by decide +kernel
theorem dX8_were_38 : decode cX8_were 38 = .ok (.getfield 117, 3) := by decide +kernel
theorem dX8_were_41 : decode cX8_were 41 = .ok (.iload_n 1, 1) := by decide +kernel
theorem dX8_were_42 : decode cX8_were 42 = .ok (.invokevirtual 183, 3) := by decide +kernel
theorem dX8_were_45 : decode cX8_were 45 = .ok (.iload_n 2, 1) := by decide +kernel
theorem dX8_were_46 : decode cX8_were 46 = .ok (.aload_n 0, 1) := by decide +kernel
theorem dX8_were_47 : decode cX8_were 47 = .ok (.getfield 26, 3) := by decide +kernel
theorem dX8_were_50 : decode cX8_were 50 = .ok (.getfield 117, 3) := by decide +kernel
theorem dX8_were_53 : decode cX8_were 53 = .ok (.iload_n 1, 1) := by decide +kernel
theorem dX8_were_54 : decode cX8_were 54 = .ok (.invokevirtual 186, 3) := by decide +kernel
theorem dX8_were_57 : decode cX8_were 57 = .ok (.isub, 1) := by decide +kernel
theorem dX8_were_58 : decode cX8_were 58 = .ok (.invokevirtual 229, 3) := by decide +kernel
theorem dX8_were_61 : decode cX8_were 61 = .ok (.aload_n 0, 1) := by decide +kernel
theorem dX8_were_62 : decode cX8_were 62 = .ok (.getfield 43, 3) := by decide +kernel
theorem dX8_were_65 : decode cX8_were 65 = .ok (.aload_n 0, 1) := by decide +kernel
theorem dX8_were_66 : decode cX8_were 66 = .ok (.getfield 26, 3) := by decide +kernel
theorem dX8_were_69 : decode cX8_were 69 = .ok (.aload_n 0, 1) := by decide +kernel
theorem dX8_were_70 : decode cX8_were 70 = .ok (.getfield 36, 3) := by decide +kernel
theorem dX8_were_73 : decode cX8_were 73 = .ok (.invokevirtual 113, 3) := by decide +kernel
theorem dX8_were_76 : decode cX8_were 76 = .ok (.ireturn, 1) := by decide +kernel
set_option maxRecDepth 20000 in
theorem ggX8_barring_X8_canTurn : GoodIn wsX8_barring wsX8_canTurn := goodIn_r _ [9, 2, 3, 10, 11, 8, 12, 13, 14, 15, 143, 144, 145, 146, 147, 148, 149, 150, 151, 152, 153, 154, 155, 156, 157, 158, 159, 160, 161, 162, 163, 164, 165] rfl (by decide +kernel)
set_option maxRecDepth 20000 in
theorem gX8_barring_X8_canTurn : GoodIn wsX8_barring (wsV RX8 234 RX8 yX8_canTurn wsX8_canTurn) := goodIn_app (goodIn_r _ [5, 6, 7, 8] rfl (by decide +kernel)) ggX8_barring_X8_canTurn
set_option maxRecDepth 20000 in
theorem ggX8_barring_X1_reckon : GoodIn wsX8_barring wsX1_reckon := goodIn_r _ [20, 21, 22, 23, 24, 25, 26, 27, 28, 19, 29, 30, 31, 32, 33, 34, 35, 36, 37, 38, 39, 40, 41, 42, 43, 44, 45, 46, 47, 48, 49, 50, 51, 52, 53, 54, 55, 56, 57, 58, 59, 60, 61, 62, 63, 64, 65, 66, 67, 68, 69, 70, 71, 72, 73, 74, 75, 76, 77, 78, 79, 80, 81, 82, 166, 167, 168, 152, 153, 154, 155, 156, 157, 158, 159, 160, 161, 162, 163, 164, 165, 169, 170, 171] rfl (by decide +kernel)
set_option maxRecDepth 20000 in
theorem gX8_barring_X1_reckon : GoodIn wsX8_barring (wsV RX8 161 RX1 yX1_reckon wsX1_reckon) := goodIn_app (goodIn_r _ [16, 17, 18, 19] rfl (by decide +kernel)) ggX8_barring_X1_reckon
set_option maxRecDepth 20000 in
theorem ggX8_barring_X0_lay : GoodIn wsX8_barring wsX0_lay := goodIn_r _ [87, 88, 89, 90, 91, 92, 93, 94, 95, 96, 97, 98, 99, 86, 100, 101, 102, 66, 67, 49, 68, 51, 52, 103, 70, 71, 72, 53, 104, 105, 106, 107, 108, 109, 110, 111, 112, 172, 173, 152, 153, 154, 155, 156, 157, 158, 159, 160, 161, 162, 163, 164, 165, 169, 170, 171] rfl (by decide +kernel)
set_option maxRecDepth 20000 in
theorem gX8_barring_X0_lay : GoodIn wsX8_barring (wsV RX8 173 RX0 yX0_lay wsX0_lay) := goodIn_app (goodIn_r _ [83, 84, 85, 86] rfl (by decide +kernel)) ggX8_barring_X0_lay
set_option maxRecDepth 20000 in
theorem ggX8_barring_X0_costs : GoodIn wsX8_barring wsX0_costs := goodIn_r _ [116, 117, 118, 119, 86, 120, 121, 122, 123, 61, 23, 62, 124, 22, 24, 125, 126, 127, 128, 19, 129, 130, 131, 132, 133, 25, 134, 102, 66, 67, 49, 68, 51, 52, 135, 136, 137, 138, 88, 139, 140, 141, 142, 108, 152, 153, 154, 155, 156, 157, 158, 159, 160, 161, 162, 163, 164, 165, 166, 167, 168, 169, 170, 171, 172, 173] rfl (by decide +kernel)
set_option maxRecDepth 20000 in
theorem gX8_barring_X0_costs : GoodIn wsX8_barring (wsV RX8 113 RX0 yX0_costs wsX0_costs) := goodIn_app (goodIn_r _ [113, 114, 115, 86] rfl (by decide +kernel)) ggX8_barring_X0_costs
theorem dX8_barring_0 : decode cX8_barring 0 = .ok (.aload_n 0, 1) := by decide +kernel
theorem dX8_barring_1 : decode cX8_barring 1 = .ok (.iload_n 1, 1) := by decide +kernel
theorem dX8_barring_2 : decode cX8_barring 2 = .ok (.invokevirtual 234, 3) := by decide +kernel
theorem dX8_barring_5 : decode cX8_barring 5 = .ok (.ifCond .ne 5, 3) := by decide +kernel
theorem dX8_barring_8 : decode cX8_barring 8 = .ok (.iconst (-1), 1) := by decide +kernel
theorem dX8_barring_9 : decode cX8_barring 9 = .ok (.ireturn, 1) := by decide +kernel
theorem dX8_barring_10 : decode cX8_barring 10 = .ok (.aload_n 0, 1) := by decide +kernel
theorem dX8_barring_11 : decode cX8_barring 11 = .ok (.getfield 36, 3) := by decide +kernel
theorem dX8_barring_14 : decode cX8_barring 14 = .ok (.aload_n 0, 1) := by decide +kernel
theorem dX8_barring_15 : decode cX8_barring 15 = .ok (.getfield 26, 3) := by decide +kernel
theorem dX8_barring_18 : decode cX8_barring 18 = .ok (.aload_n 0, 1) := by decide +kernel
theorem dX8_barring_19 : decode cX8_barring 19 = .ok (.getfield 26, 3) := by decide +kernel
theorem dX8_barring_22 : decode cX8_barring 22 = .ok (.getfield 135, 3) := by decide +kernel
theorem dX8_barring_25 : decode cX8_barring 25 = .ok (.iconst 1, 1) := by decide +kernel
theorem dX8_barring_26 : decode cX8_barring 26 = .ok (.iload_n 1, 1) := by decide +kernel
theorem dX8_barring_27 : decode cX8_barring 27 = .ok (.ishl, 1) := by decide +kernel
theorem dX8_barring_28 : decode cX8_barring 28 = .ok (.ixor, 1) := by decide +kernel
theorem dX8_barring_29 : decode cX8_barring 29 = .ok (.invokevirtual 161, 3) := by decide +kernel
theorem dX8_barring_32 : decode cX8_barring 32 = .ok (.aload_n 0, 1) := by decide +kernel
theorem dX8_barring_33 : decode cX8_barring 33 = .ok (.getfield 43, 3) := by decide +kernel
theorem dX8_barring_36 : decode cX8_barring 36 = .ok (.aload_n 0, 1) := by decide +kernel
theorem dX8_barring_37 : decode cX8_barring 37 = .ok (.getfield 26, 3) := by decide +kernel
theorem dX8_barring_40 : decode cX8_barring 40 = .ok (.invokevirtual 173, 3) := by decide +kernel
theorem dX8_barring_43 : decode cX8_barring 43 = .ok (.aload_n 0, 1) := by decide +kernel
theorem dX8_barring_44 : decode cX8_barring 44 = .ok (.getfield 43, 3) := by decide +kernel
theorem dX8_barring_47 : decode cX8_barring 47 = .ok (.aload_n 0, 1) := by decide +kernel
theorem dX8_barring_48 : decode cX8_barring 48 = .ok (.getfield 26, 3) := by decide +kernel
theorem dX8_barring_51 : decode cX8_barring 51 = .ok (.aload_n 0, 1) := by decide +kernel
theorem dX8_barring_52 : decode cX8_barring 52 = .ok (.getfield 36, 3) := by decide +kernel
theorem dX8_barring_55 : decode cX8_barring 55 = .ok (.invokevirtual 113, 3) := by decide +kernel
theorem dX8_barring_58 : decode cX8_barring 58 = .ok (.ireturn, 1) := by decide +kernel
set_option maxRecDepth 20000 in
theorem ggX8_latest_X8_isAmount : GoodIn wsX8_latest wsX8_isAmount := goodIn_r _ [6, 7, 8, 9, 5, 10] rfl (by decide +kernel)
set_option maxRecDepth 20000 in
theorem gX8_latest_X8_isAmount : GoodIn wsX8_latest (va_wsS RX8 237 yX8_isAmount wsX8_isAmount) := goodIn_app (goodIn_r _ [3, 4, 5] rfl (by decide +kernel)) ggX8_latest_X8_isAmount
set_option maxRecDepth 20000 in
theorem ggX8_latest_X8_reckon : GoodIn wsX8_latest wsX8_reckon := goodIn_r _ [14, 15, 1, 16, 17, 18, 19, 20, 21, 22, 23, 24, 25, 26, 27, 28, 29, 30, 31, 32, 33, 34, 35, 36, 37, 38, 39, 40, 41, 42, 43, 44, 45, 46, 47, 48, 49, 50, 51, 52, 53, 54, 55, 56, 57, 58, 59, 60, 61, 62, 63, 64, 65, 66, 67, 68, 69, 70, 71, 72, 73, 74, 75, 76, 77, 78, 79, 80, 81, 82, 83, 84, 85, 86, 87, 88, 89, 90, 91, 92, 93, 94, 95, 96, 97, 98, 99, 100, 101, 102, 103, 104, 105, 106, 107, 108, 109, 110, 111, 112, 113, 114, 153, 154, 155, 156, 157, 158, 159, 160, 161, 162, 163, 164, 165, 166, 167, 168, 169, 170, 171, 172, 173, 174, 175, 176, 177, 178, 179, 180, 181, 182, 183] rfl (by decide +kernel)
set_option maxRecDepth 20000 in
theorem gX8_latest_X8_reckon : GoodIn wsX8_latest (wsV RX8 110 RX8 yX8_reckon wsX8_reckon) := goodIn_app (goodIn_r _ [11, 12, 13, 5] rfl (by decide +kernel)) ggX8_latest_X8_reckon
set_option maxRecDepth 20000 in
theorem ggX8_latest_X8_costsWith : GoodIn wsX8_latest wsX8_costsWith := goodIn_r _ [118, 17, 1, 15, 119, 120, 121, 88, 122, 123, 24, 25, 26, 90, 124, 125, 126, 127, 128, 129, 130, 131, 132, 133, 134, 63, 64, 135, 136, 137, 138, 21, 139, 140, 141, 142, 143, 27, 144, 104, 68, 69, 51, 70, 53, 54, 145, 146, 147, 148, 149, 150, 151, 152, 110, 153, 154, 155, 156, 157, 158, 159, 160, 161, 182, 183, 162, 163, 164, 165, 166, 167, 168, 169, 170, 171, 172, 173, 174, 175, 176, 177, 178, 179, 180, 181] rfl (by decide +kernel)
set_option maxRecDepth 20000 in
theorem gX8_latest_X8_costsWith : GoodIn wsX8_latest (wsV RX8 240 RX8 yX8_costsWith wsX8_costsWith) := goodIn_app (goodIn_r _ [115, 116, 117, 5] rfl (by decide +kernel)) ggX8_latest_X8_costsWith
theorem dX8_latest_0 : decode cX8_latest 0 = .ok (.iload_n 1, 1) := by decide +kernel
theorem dX8_latest_1 : decode cX8_latest 1 = .ok (.invokestatic 237, 3) := by decide +kernel
theorem dX8_latest_4 : decode cX8_latest 4 = .ok (.ifCond .ne 5, 3) := by decide +kernel
theorem dX8_latest_7 : decode cX8_latest 7 = .ok (.iconst (-1), 1) := by decide +kernel
theorem dX8_latest_8 : decode cX8_latest 8 = .ok (.ireturn, 1) := by decide +kernel
theorem dX8_latest_9 : decode cX8_latest 9 = .ok (.aload_n 0, 1) := by decide +kernel
theorem dX8_latest_10 : decode cX8_latest 10 = .ok (.invokevirtual 110, 3) := by decide +kernel
theorem dX8_latest_13 : decode cX8_latest 13 = .ok (.aload_n 0, 1) := by decide +kernel
theorem dX8_latest_14 : decode cX8_latest 14 = .ok (.iconst 0, 1) := by decide +kernel
theorem dX8_latest_15 : decode cX8_latest 15 = .ok (.iload_n 1, 1) := by decide +kernel
theorem dX8_latest_16 : decode cX8_latest 16 = .ok (.invokevirtual 240, 3) := by decide +kernel
theorem dX8_latest_19 : decode cX8_latest 19 = .ok (.istore_n 2, 1) := by decide +kernel
theorem dX8_latest_20 : decode cX8_latest 20 = .ok (.iconst 0, 1) := by decide +kernel
theorem dX8_latest_21 : decode cX8_latest 21 = .ok (.istore_n 3, 1) := by decide +kernel
theorem dX8_latest_22 : decode cX8_latest 22 = .ok (.aload_n 0, 1) := by decide +kernel
theorem dX8_latest_23 : decode cX8_latest 23 = .ok (.getfield 26, 3) := by decide +kernel
theorem dX8_latest_26 : decode cX8_latest 26 = .ok (.getfield 104, 3) := by decide +kernel
theorem dX8_latest_29 : decode cX8_latest 29 = .ok (.istore 4, 2) := by decide +kernel
theorem dX8_latest_31 : decode cX8_latest 31 = .ok (.iconst 0, 1) := by decide +kernel
theorem dX8_latest_32 : decode cX8_latest 32 = .ok (.istore 5, 2) := by decide +kernel
theorem dX8_latest_34 : decode cX8_latest 34 = .ok (.iload 5, 2) := by decide +kernel
theorem dX8_latest_36 : decode cX8_latest 36 = .ok (.sipush 499, 3) := by decide +kernel
theorem dX8_latest_39 : decode cX8_latest 39 = .ok (.if_icmp .gt 48, 3) := by decide +kernel
theorem dX8_latest_42 : decode cX8_latest 42 = .ok (.iload_n 3, 1) := by decide +kernel
theorem dX8_latest_43 : decode cX8_latest 43 = .ok (.iload 4, 2) := by decide +kernel
theorem dX8_latest_45 : decode cX8_latest 45 = .ok (.if_icmp .ge 42, 3) := by decide +kernel
theorem dX8_latest_48 : decode cX8_latest 48 = .ok (.iload_n 3, 1) := by decide +kernel
theorem dX8_latest_49 : decode cX8_latest 49 = .ok (.iload 4, 2) := by decide +kernel
theorem dX8_latest_51 : decode cX8_latest 51 = .ok (.iadd, 1) := by decide +kernel
theorem dX8_latest_52 : decode cX8_latest 52 = .ok (.iconst 1, 1) := by decide +kernel
theorem dX8_latest_53 : decode cX8_latest 53 = .ok (.iadd, 1) := by decide +kernel
theorem dX8_latest_54 : decode cX8_latest 54 = .ok (.iconst 2, 1) := by decide +kernel
theorem dX8_latest_55 : decode cX8_latest 55 = .ok (.idiv, 1) := by decide +kernel
theorem dX8_latest_56 : decode cX8_latest 56 = .ok (.istore 6, 2) := by decide +kernel
theorem dX8_latest_58 : decode cX8_latest 58 = .ok (.aload_n 0, 1) := by decide +kernel
theorem dX8_latest_59 : decode cX8_latest 59 = .ok (.iload 6, 2) := by decide +kernel
theorem dX8_latest_61 : decode cX8_latest 61 = .ok (.iload_n 1, 1) := by decide +kernel
theorem dX8_latest_62 : decode cX8_latest 62 = .ok (.invokevirtual 240, 3) := by decide +kernel
theorem dX8_latest_65 : decode cX8_latest 65 = .ok (.iload_n 2, 1) := by decide +kernel
theorem dX8_latest_66 : decode cX8_latest 66 = .ok (.if_icmp .gt 9, 3) := by decide +kernel
theorem dX8_latest_69 : decode cX8_latest 69 = .ok (.iload 6, 2) := by decide +kernel
theorem dX8_latest_71 : decode cX8_latest 71 = .ok (.istore_n 3, 1) := by decide +kernel
theorem dX8_latest_72 : decode cX8_latest 72 = .ok (.goto 9, 3) := by decide +kernel
theorem dX8_latest_75 : decode cX8_latest 75 = .ok (.iload 6, 2) := by decide +kernel
theorem dX8_latest_77 : decode cX8_latest 77 = .ok (.iconst 1, 1) := by decide +kernel
theorem dX8_latest_78 : decode cX8_latest 78 = .ok (.isub, 1) := by decide +kernel
theorem dX8_latest_79 : decode cX8_latest 79 = .ok (.istore 4, 2) := by decide +kernel
theorem dX8_latest_81 : decode cX8_latest 81 = .ok (.iinc 5 1, 3) := by decide +kernel
theorem dX8_latest_84 : decode cX8_latest 84 = .ok (.goto (-50), 3) := by decide +kernel
theorem dX8_latest_87 : decode cX8_latest 87 = .ok (.iload_n 3, 1) := by decide +kernel
theorem dX8_latest_88 : decode cX8_latest 88 = .ok (.ireturn, 1) := by decide +kernel
set_option maxRecDepth 20000 in
theorem ggX8_clears_X8_isDay : GoodIn wsX8_clears wsX8_isDay := goodIn_r _ [12, 13, 14, 11, 15] rfl (by decide +kernel)
set_option maxRecDepth 20000 in
theorem gX8_clears_X8_isDay : GoodIn wsX8_clears (va_wsS RX8 144 yX8_isDay wsX8_isDay) := goodIn_app (goodIn_r _ [9, 10, 11] rfl (by decide +kernel)) ggX8_clears_X8_isDay
set_option maxRecDepth 20000 in
theorem ggX8_clears_X1_reckon : GoodIn wsX8_clears wsX1_reckon := goodIn_r _ [20, 21, 6, 7, 8, 22, 23, 24, 25, 19, 26, 27, 28, 29, 30, 31, 32, 33, 34, 35, 36, 37, 38, 39, 40, 41, 42, 43, 44, 45, 46, 47, 48, 49, 50, 51, 52, 53, 54, 55, 56, 57, 58, 59, 60, 61, 62, 63, 64, 65, 66, 67, 68, 69, 70, 71, 72, 73, 74, 75, 76, 77, 78, 79, 124, 125, 126, 110, 111, 112, 113, 114, 115, 116, 117, 118, 119, 120, 121, 122, 123, 127, 128, 129] rfl (by decide +kernel)
set_option maxRecDepth 20000 in
theorem gX8_clears_X1_reckon : GoodIn wsX8_clears (wsV RX8 161 RX1 yX1_reckon wsX1_reckon) := goodIn_app (goodIn_r _ [16, 17, 18, 19] rfl (by decide +kernel)) ggX8_clears_X1_reckon
set_option maxRecDepth 20000 in
theorem ggX8_clears_X1_dueBy : GoodIn wsX8_clears wsX1_dueBy := goodIn_r _ [83, 84, 85, 63, 64, 46, 65, 48, 49, 86, 87, 88, 19, 89, 90, 91, 92, 93, 22, 110, 111, 112, 113, 114, 115, 116, 117, 118, 119, 120, 121, 122, 123, 127, 128, 129, 124, 125, 126] rfl (by decide +kernel)
set_option maxRecDepth 20000 in
theorem gX8_clears_X1_dueBy : GoodIn wsX8_clears (wsV RX8 243 RX1 yX1_dueBy wsX1_dueBy) := goodIn_app (goodIn_r _ [80, 81, 82, 19] rfl (by decide +kernel)) ggX8_clears_X1_dueBy
set_option maxRecDepth 20000 in
theorem ggX8_clears_X7_paidUpTo : GoodIn wsX8_clears wsX7_paidUpTo := goodIn_r _ [97, 98, 99, 100, 43, 44, 45, 46, 47, 48, 49, 50, 110, 111, 112, 113, 114, 115, 116, 117, 118, 119, 120, 121, 122, 123, 127, 128, 129] rfl (by decide +kernel)
set_option maxRecDepth 20000 in
theorem gX8_clears_X7_paidUpTo : GoodIn wsX8_clears (wsV RX8 107 RX7 yX7_paidUpTo wsX7_paidUpTo) := goodIn_app (goodIn_r _ [94, 95, 96, 32] rfl (by decide +kernel)) ggX8_clears_X7_paidUpTo
theorem dX8_clears_0 : decode cX8_clears 0 = .ok (.iload_n 1, 1) := by decide +kernel
theorem dX8_clears_1 : decode cX8_clears 1 = .ok (.invokestatic 144, 3) := by decide +kernel
theorem dX8_clears_4 : decode cX8_clears 4 = .ok (.ifCond .ne 5, 3) := by decide +kernel
theorem dX8_clears_7 : decode cX8_clears 7 = .ok (.iconst (-1), 1) := by decide +kernel
theorem dX8_clears_8 : decode cX8_clears 8 = .ok (.ireturn, 1) := by decide +kernel
theorem dX8_clears_9 : decode cX8_clears 9 = .ok (.aload_n 0, 1) := by decide +kernel
theorem dX8_clears_10 : decode cX8_clears 10 = .ok (.getfield 36, 3) := by decide +kernel
theorem dX8_clears_13 : decode cX8_clears 13 = .ok (.aload_n 0, 1) := by decide +kernel
theorem dX8_clears_14 : decode cX8_clears 14 = .ok (.getfield 26, 3) := by decide +kernel
theorem dX8_clears_17 : decode cX8_clears 17 = .ok (.aload_n 0, 1) := by decide +kernel
theorem dX8_clears_18 : decode cX8_clears 18 = .ok (.getfield 26, 3) := by decide +kernel
theorem dX8_clears_21 : decode cX8_clears 21 = .ok (.getfield 135, 3) := by decide +kernel
theorem dX8_clears_24 : decode cX8_clears 24 = .ok (.invokevirtual 161, 3) := by decide +kernel
theorem dX8_clears_27 : decode cX8_clears 27 = .ok (.iconst 0, 1) := by decide +kernel
theorem dX8_clears_28 : decode cX8_clears 28 = .ok (.aload_n 0, 1) := by decide +kernel
theorem dX8_clears_29 : decode cX8_clears 29 = .ok (.getfield 36, 3) := by decide +kernel
theorem dX8_clears_32 : decode cX8_clears 32 = .ok (.aload_n 0, 1) := by decide +kernel
theorem dX8_clears_33 : decode cX8_clears 33 = .ok (.getfield 26, 3) := by decide +kernel
theorem dX8_clears_36 : decode cX8_clears 36 = .ok (.getfield 104, 3) := by decide +kernel
theorem dX8_clears_39 : decode cX8_clears 39 = .ok (.aload_n 0, 1) := by decide +kernel
theorem dX8_clears_40 : decode cX8_clears 40 = .ok (.getfield 26, 3) := by decide +kernel
theorem dX8_clears_43 : decode cX8_clears 43 = .ok (.invokevirtual 243, 3) := by decide +kernel
theorem dX8_clears_46 : decode cX8_clears 46 = .ok (.aload_n 0, 1) := by decide +kernel
theorem dX8_clears_47 : decode cX8_clears 47 = .ok (.getfield 26, 3) := by decide +kernel
theorem dX8_clears_50 : decode cX8_clears 50 = .ok (.iload_n 1, 1) := by decide +kernel
theorem dX8_clears_51 : decode cX8_clears 51 = .ok (.invokevirtual 107, 3) := by decide +kernel
theorem dX8_clears_54 : decode cX8_clears 54 = .ok (.isub, 1) := by decide +kernel
theorem dX8_clears_55 : decode cX8_clears 55 = .ok (.invokestatic 247, 3) := by decide +kernel
theorem dX8_clears_58 : decode cX8_clears 58 = .ok (.ireturn, 1) := by decide +kernel
set_option maxRecDepth 20000 in
theorem ggX8_earn_X8_isWithin : GoodIn wsX8_earn wsX8_isWithin := goodIn_r _ [7] rfl (by decide +kernel)
set_option maxRecDepth 20000 in
theorem gX8_earn_X8_isWithin : GoodIn wsX8_earn (va_wsS RX8 140 yX8_isWithin wsX8_isWithin) := goodIn_app (goodIn_r _ [4, 5, 6] rfl (by decide +kernel)) ggX8_earn_X8_isWithin
set_option maxRecDepth 20000 in
theorem ggX8_earn_X8_isAmount : GoodIn wsX8_earn wsX8_isAmount := goodIn_r _ [10, 11, 4, 5, 6, 7] rfl (by decide +kernel)
set_option maxRecDepth 20000 in
theorem gX8_earn_X8_isAmount : GoodIn wsX8_earn (va_wsS RX8 237 yX8_isAmount wsX8_isAmount) := goodIn_app (goodIn_r _ [8, 9, 6] rfl (by decide +kernel)) ggX8_earn_X8_isAmount
set_option maxRecDepth 20000 in
theorem ggX8_earn_X5_isFull : GoodIn wsX8_earn wsX5_isFull := goodIn_r _ [16, 17, 18, 68, 69, 70] rfl (by decide +kernel)
set_option maxRecDepth 20000 in
theorem gX8_earn_X5_isFull : GoodIn wsX8_earn (wsV RX8 252 RX5 yX5_isFull wsX5_isFull) := goodIn_app (goodIn_r _ [12, 13, 14, 15] rfl (by decide +kernel)) ggX8_earn_X5_isFull
set_option maxRecDepth 20000 in
theorem ggX8_earn_X5_add : GoodIn wsX8_earn wsX5_add := goodIn_r _ [22, 17, 18, 23, 68, 69, 70] rfl (by decide +kernel)
set_option maxRecDepth 20000 in
theorem gX8_earn_X5_add : GoodIn wsX8_earn (wsV RX8 255 RX5 yX5_add wsX5_add) := goodIn_app (goodIn_r _ [19, 20, 21, 15] rfl (by decide +kernel)) ggX8_earn_X5_add
set_option maxRecDepth 20000 in
theorem ggX8_earn_X2_keep : GoodIn wsX8_earn wsX2_keep := goodIn_r _ [28, 29, 30, 31, 32, 33, 27, 34, 71, 72] rfl (by decide +kernel)
set_option maxRecDepth 20000 in
theorem gX8_earn_X2_keep : GoodIn wsX8_earn (wsV RX8 258 RX2 yX2_keep wsX2_keep) := goodIn_app (goodIn_r _ [24, 25, 26, 27] rfl (by decide +kernel)) ggX8_earn_X2_keep
set_option maxRecDepth 20000 in
theorem ggX8_earn_X7_allIncome : GoodIn wsX8_earn wsX7_allIncome := goodIn_r _ [39, 40, 41, 42, 43, 15, 44, 17, 18, 23, 54, 55, 56, 57, 58, 59, 60, 61, 62, 63, 64, 65, 66, 67, 68, 69, 70] rfl (by decide +kernel)
set_option maxRecDepth 20000 in
theorem gX8_earn_X7_allIncome : GoodIn wsX8_earn (wsV RX8 96 RX7 yX7_allIncome wsX7_allIncome) := goodIn_app (goodIn_r _ [35, 36, 37, 38] rfl (by decide +kernel)) ggX8_earn_X7_allIncome
theorem dX8_earn_0 : decode cX8_earn 0 = .ok (.iload_n 1, 1) := by decide +kernel
theorem dX8_earn_1 : decode cX8_earn 1 = .ok (.iconst 0, 1) := by decide +kernel
theorem dX8_earn_2 : decode cX8_earn 2 = .ok (.sipush 364, 3) := by decide +kernel
theorem dX8_earn_5 : decode cX8_earn 5 = .ok (.invokestatic 140, 3) := by decide +kernel
theorem dX8_earn_8 : decode cX8_earn 8 = .ok (.ifCond .eq 10, 3) := by decide +kernel
theorem dX8_earn_11 : decode cX8_earn 11 = .ok (.iload_n 2, 1) := by decide +kernel
theorem dX8_earn_12 : decode cX8_earn 12 = .ok (.invokestatic 237, 3) := by decide +kernel
theorem dX8_earn_15 : decode cX8_earn 15 = .ok (.ifCond .ne 5, 3) := by decide +kernel
theorem dX8_earn_18 : decode cX8_earn 18 = .ok (.iconst (-1), 1) := by decide +kernel
theorem dX8_earn_19 : decode cX8_earn 19 = .ok (.ireturn, 1) := by decide +kernel
theorem dX8_earn_20 : decode cX8_earn 20 = .ok (.aload_n 0, 1) := by decide +kernel
theorem dX8_earn_21 : decode cX8_earn 21 = .ok (.getfield 26, 3) := by decide +kernel
theorem dX8_earn_24 : decode cX8_earn 24 = .ok (.getfield 148, 3) := by decide +kernel
theorem dX8_earn_27 : decode cX8_earn 27 = .ok (.invokevirtual 252, 3) := by decide +kernel
theorem dX8_earn_30 : decode cX8_earn 30 = .ok (.ifCond .eq 6, 3) := by decide +kernel
theorem dX8_earn_33 : decode cX8_earn 33 = .ok (.bipush (-2), 2) := by decide +kernel
theorem dX8_earn_35 : decode cX8_earn 35 = .ok (.ireturn, 1) := by decide +kernel
theorem dX8_earn_36 : decode cX8_earn 36 = .ok (.aload_n 0, 1) := by decide +kernel
theorem dX8_earn_37 : decode cX8_earn 37 = .ok (.getfield 26, 3) := by decide +kernel
theorem dX8_earn_40 : decode cX8_earn 40 = .ok (.getfield 148, 3) := by decide +kernel
theorem dX8_earn_43 : decode cX8_earn 43 = .ok (.iload_n 1, 1) := by decide +kernel
theorem dX8_earn_44 : decode cX8_earn 44 = .ok (.iload_n 2, 1) := by decide +kernel
theorem dX8_earn_45 : decode cX8_earn 45 = .ok (.invokevirtual 255, 3) := by decide +kernel
theorem dX8_earn_48 : decode cX8_earn 48 = .ok (.aload_n 0, 1) := by decide +kernel
theorem dX8_earn_49 : decode cX8_earn 49 = .ok (.getfield 57, 3) := by decide +kernel
theorem dX8_earn_52 : decode cX8_earn 52 = .ok (.iconst 0, 1) := by decide +kernel
theorem dX8_earn_53 : decode cX8_earn 53 = .ok (.invokevirtual 258, 3) := by decide +kernel
theorem dX8_earn_56 : decode cX8_earn 56 = .ok (.aload_n 0, 1) := by decide +kernel
theorem dX8_earn_57 : decode cX8_earn 57 = .ok (.getfield 26, 3) := by decide +kernel
theorem dX8_earn_60 : decode cX8_earn 60 = .ok (.invokevirtual 96, 3) := by decide +kernel
theorem dX8_earn_63 : decode cX8_earn 63 = .ok (.ireturn, 1) := by decide +kernel
set_option maxRecDepth 20000 in
theorem ggX8_pay_X8_isDay : GoodIn wsX8_pay wsX8_isDay := goodIn_r _ [8, 9, 10, 7, 11] rfl (by decide +kernel)
set_option maxRecDepth 20000 in
theorem gX8_pay_X8_isDay : GoodIn wsX8_pay (va_wsS RX8 144 yX8_isDay wsX8_isDay) := goodIn_app (goodIn_r _ [5, 6, 7] rfl (by decide +kernel)) ggX8_pay_X8_isDay
set_option maxRecDepth 20000 in
theorem ggX8_pay_X8_isAmount : GoodIn wsX8_pay wsX8_isAmount := goodIn_r _ [14, 15, 9, 10, 7, 11] rfl (by decide +kernel)
set_option maxRecDepth 20000 in
theorem gX8_pay_X8_isAmount : GoodIn wsX8_pay (va_wsS RX8 237 yX8_isAmount wsX8_isAmount) := goodIn_app (goodIn_r _ [12, 13, 7] rfl (by decide +kernel)) ggX8_pay_X8_isAmount
set_option maxRecDepth 20000 in
theorem ggX8_pay_X5_isFull : GoodIn wsX8_pay wsX5_isFull := goodIn_r _ [20, 21, 22, 62, 63, 64] rfl (by decide +kernel)
set_option maxRecDepth 20000 in
theorem gX8_pay_X5_isFull : GoodIn wsX8_pay (wsV RX8 252 RX5 yX5_isFull wsX5_isFull) := goodIn_app (goodIn_r _ [16, 17, 18, 19] rfl (by decide +kernel)) ggX8_pay_X5_isFull
set_option maxRecDepth 20000 in
theorem ggX8_pay_X5_add : GoodIn wsX8_pay wsX5_add := goodIn_r _ [26, 21, 22, 27, 62, 63, 64] rfl (by decide +kernel)
set_option maxRecDepth 20000 in
theorem gX8_pay_X5_add : GoodIn wsX8_pay (wsV RX8 255 RX5 yX5_add wsX5_add) := goodIn_app (goodIn_r _ [23, 24, 25, 19] rfl (by decide +kernel)) ggX8_pay_X5_add
set_option maxRecDepth 20000 in
theorem ggX8_pay_X2_keep : GoodIn wsX8_pay wsX2_keep := goodIn_r _ [32, 33, 34, 35, 36, 37, 31, 38, 65, 66] rfl (by decide +kernel)
set_option maxRecDepth 20000 in
theorem gX8_pay_X2_keep : GoodIn wsX8_pay (wsV RX8 258 RX2 yX2_keep wsX2_keep) := goodIn_app (goodIn_r _ [28, 29, 30, 31] rfl (by decide +kernel)) ggX8_pay_X2_keep
theorem dX8_pay_0 : decode cX8_pay 0 = .ok (.iload_n 1, 1) := by decide +kernel
theorem dX8_pay_1 : decode cX8_pay 1 = .ok (.invokestatic 144, 3) := by decide +kernel
theorem dX8_pay_4 : decode cX8_pay 4 = .ok (.ifCond .eq 10, 3) := by decide +kernel
theorem dX8_pay_7 : decode cX8_pay 7 = .ok (.iload_n 2, 1) := by decide +kernel
theorem dX8_pay_8 : decode cX8_pay 8 = .ok (.invokestatic 237, 3) := by decide +kernel
theorem dX8_pay_11 : decode cX8_pay 11 = .ok (.ifCond .ne 5, 3) := by decide +kernel
theorem dX8_pay_14 : decode cX8_pay 14 = .ok (.iconst (-1), 1) := by decide +kernel
theorem dX8_pay_15 : decode cX8_pay 15 = .ok (.ireturn, 1) := by decide +kernel
theorem dX8_pay_16 : decode cX8_pay 16 = .ok (.aload_n 0, 1) := by decide +kernel
theorem dX8_pay_17 : decode cX8_pay 17 = .ok (.getfield 26, 3) := by decide +kernel
theorem dX8_pay_20 : decode cX8_pay 20 = .ok (.getfield 117, 3) := by decide +kernel
theorem dX8_pay_23 : decode cX8_pay 23 = .ok (.invokevirtual 252, 3) := by decide +kernel
theorem dX8_pay_26 : decode cX8_pay 26 = .ok (.ifCond .eq 6, 3) := by decide +kernel
theorem dX8_pay_29 : decode cX8_pay 29 = .ok (.bipush (-2), 2) := by decide +kernel
theorem dX8_pay_31 : decode cX8_pay 31 = .ok (.ireturn, 1) := by decide +kernel
theorem dX8_pay_32 : decode cX8_pay 32 = .ok (.aload_n 0, 1) := by decide +kernel
theorem dX8_pay_33 : decode cX8_pay 33 = .ok (.getfield 26, 3) := by decide +kernel
theorem dX8_pay_36 : decode cX8_pay 36 = .ok (.getfield 117, 3) := by decide +kernel
theorem dX8_pay_39 : decode cX8_pay 39 = .ok (.iload_n 1, 1) := by decide +kernel
theorem dX8_pay_40 : decode cX8_pay 40 = .ok (.iload_n 2, 1) := by decide +kernel
theorem dX8_pay_41 : decode cX8_pay 41 = .ok (.invokevirtual 255, 3) := by decide +kernel
theorem dX8_pay_44 : decode cX8_pay 44 = .ok (.aload_n 0, 1) := by decide +kernel
theorem dX8_pay_45 : decode cX8_pay 45 = .ok (.getfield 57, 3) := by decide +kernel
theorem dX8_pay_48 : decode cX8_pay 48 = .ok (.iconst 1, 1) := by decide +kernel
theorem dX8_pay_49 : decode cX8_pay 49 = .ok (.invokevirtual 258, 3) := by decide +kernel
theorem dX8_pay_52 : decode cX8_pay 52 = .ok (.aload_n 0, 1) := by decide +kernel
theorem dX8_pay_53 : decode cX8_pay 53 = .ok (.getfield 26, 3) := by decide +kernel
theorem dX8_pay_56 : decode cX8_pay 56 = .ok (.getfield 117, 3) := by decide +kernel
theorem dX8_pay_59 : decode cX8_pay 59 = .ok (.getfield 121, 3) := by decide +kernel
theorem dX8_pay_62 : decode cX8_pay 62 = .ok (.iconst 1, 1) := by decide +kernel
theorem dX8_pay_63 : decode cX8_pay 63 = .ok (.isub, 1) := by decide +kernel
theorem dX8_pay_64 : decode cX8_pay 64 = .ok (.ireturn, 1) := by decide +kernel
set_option maxRecDepth 20000 in
theorem ggX8_refund_X8_isWithin : GoodIn wsX8_refund wsX8_isWithin := goodIn_r _ [8] rfl (by decide +kernel)
set_option maxRecDepth 20000 in
theorem gX8_refund_X8_isWithin : GoodIn wsX8_refund (va_wsS RX8 140 yX8_isWithin wsX8_isWithin) := goodIn_app (goodIn_r _ [5, 6, 7] rfl (by decide +kernel)) ggX8_refund_X8_isWithin
set_option maxRecDepth 20000 in
theorem ggX8_refund_X8_isAmount : GoodIn wsX8_refund wsX8_isAmount := goodIn_r _ [11, 12, 5, 6, 7, 8] rfl (by decide +kernel)
set_option maxRecDepth 20000 in
theorem gX8_refund_X8_isAmount : GoodIn wsX8_refund (va_wsS RX8 237 yX8_isAmount wsX8_isAmount) := goodIn_app (goodIn_r _ [9, 10, 7] rfl (by decide +kernel)) ggX8_refund_X8_isAmount
set_option maxRecDepth 20000 in
theorem ggX8_refund_X8_reckon : GoodIn wsX8_refund wsX8_reckon := goodIn_r _ [16, 17, 1, 18, 19, 20, 21, 22, 23, 24, 25, 26, 27, 28, 29, 30, 31, 32, 33, 34, 35, 36, 37, 38, 39, 40, 41, 42, 43, 44, 45, 46, 47, 48, 49, 50, 51, 52, 53, 54, 55, 56, 57, 58, 59, 60, 61, 62, 63, 64, 65, 66, 67, 68, 69, 70, 71, 72, 73, 74, 75, 76, 77, 78, 79, 80, 81, 82, 83, 84, 85, 86, 87, 88, 89, 90, 91, 92, 93, 94, 95, 96, 97, 98, 99, 100, 101, 102, 103, 104, 105, 106, 107, 108, 109, 110, 111, 112, 113, 114, 115, 116, 171, 172, 173, 174, 175, 176, 177, 178, 179, 180, 181, 182, 183, 184, 185, 186, 187, 188, 189, 190, 191, 192, 193, 194, 195, 196, 197, 198, 199, 200, 201] rfl (by decide +kernel)
set_option maxRecDepth 20000 in
theorem gX8_refund_X8_reckon : GoodIn wsX8_refund (wsV RX8 110 RX8 yX8_reckon wsX8_reckon) := goodIn_app (goodIn_r _ [13, 14, 15, 7] rfl (by decide +kernel)) ggX8_refund_X8_reckon
set_option maxRecDepth 20000 in
theorem ggX8_refund_X8_leastFreeFrom : GoodIn wsX8_refund wsX8_leastFreeFrom := goodIn_r _ [120, 19, 1, 2, 121, 65, 27, 66, 122, 123, 124, 90, 125, 92, 126, 127, 128, 7, 129, 17, 130, 26, 28, 131, 132, 133, 23, 134, 135, 136, 70, 71, 53, 72, 55, 56, 137, 138, 139, 140, 141, 142, 143, 144, 29, 171, 172, 173, 174, 175, 176, 177, 178, 179, 180, 181, 182, 183, 184, 185, 186, 187, 188, 189, 190, 191, 192, 193, 200, 201, 197, 198, 199, 194, 195, 196] rfl (by decide +kernel)
set_option maxRecDepth 20000 in
theorem gX8_refund_X8_leastFreeFrom : GoodIn wsX8_refund (wsV RX8 261 RX8 yX8_leastFreeFrom wsX8_leastFreeFrom) := goodIn_app (goodIn_r _ [117, 118, 119, 7] rfl (by decide +kernel)) ggX8_refund_X8_leastFreeFrom
set_option maxRecDepth 20000 in
theorem ggX8_refund_X5_isFull : GoodIn wsX8_refund wsX5_isFull := goodIn_r _ [148, 55, 56, 197, 198, 199] rfl (by decide +kernel)
set_option maxRecDepth 20000 in
theorem gX8_refund_X5_isFull : GoodIn wsX8_refund (wsV RX8 252 RX5 yX5_isFull wsX5_isFull) := goodIn_app (goodIn_r _ [145, 146, 147, 53] rfl (by decide +kernel)) ggX8_refund_X5_isFull
set_option maxRecDepth 20000 in
theorem ggX8_refund_X5_add : GoodIn wsX8_refund wsX5_add := goodIn_r _ [152, 55, 56, 57, 197, 198, 199] rfl (by decide +kernel)
set_option maxRecDepth 20000 in
theorem gX8_refund_X5_add : GoodIn wsX8_refund (wsV RX8 255 RX5 yX5_add wsX5_add) := goodIn_app (goodIn_r _ [149, 150, 151, 53] rfl (by decide +kernel)) ggX8_refund_X5_add
set_option maxRecDepth 20000 in
theorem ggX8_refund_X2_keep : GoodIn wsX8_refund wsX2_keep := goodIn_r _ [157, 158, 159, 160, 161, 162, 156, 163, 202, 203] rfl (by decide +kernel)
set_option maxRecDepth 20000 in
theorem gX8_refund_X2_keep : GoodIn wsX8_refund (wsV RX8 258 RX2 yX2_keep wsX2_keep) := goodIn_app (goodIn_r _ [153, 154, 155, 156] rfl (by decide +kernel)) ggX8_refund_X2_keep
set_option maxRecDepth 20000 in
theorem ggX8_refund_X7_paidUpTo : GoodIn wsX8_refund wsX7_paidUpTo := goodIn_r _ [167, 168, 169, 170, 50, 51, 52, 53, 54, 55, 56, 57, 180, 181, 182, 183, 184, 185, 186, 187, 188, 189, 190, 191, 192, 193, 197, 198, 199] rfl (by decide +kernel)
set_option maxRecDepth 20000 in
theorem gX8_refund_X7_paidUpTo : GoodIn wsX8_refund (wsV RX8 107 RX7 yX7_paidUpTo wsX7_paidUpTo) := goodIn_app (goodIn_r _ [164, 165, 166, 39] rfl (by decide +kernel)) ggX8_refund_X7_paidUpTo
set_option maxRecDepth 20000 in
theorem ggX8_refund_X8_freeOf : GoodIn wsX8_refund wsX8_freeOf := goodIn_r _ [129, 17, 1, 130, 26, 27, 28, 131, 132, 133, 23, 134, 135, 136, 70, 71, 53, 72, 55, 56, 137, 138, 139, 140, 141, 142, 143, 144, 29, 171, 172, 173, 174, 175, 176, 177, 178, 179, 180, 181, 182, 183, 184, 185, 186, 187, 188, 189, 190, 191, 192, 193, 197, 198, 199, 194, 195, 196] rfl (by decide +kernel)
set_option maxRecDepth 20000 in
theorem gX8_refund_X8_freeOf : GoodIn wsX8_refund (wsV RX8 195 RX8 yX8_freeOf wsX8_freeOf) := goodIn_app (goodIn_r _ [126, 127, 128, 7] rfl (by decide +kernel)) ggX8_refund_X8_freeOf
theorem dX8_refund_0 : decode cX8_refund 0 = .ok (.iload_n 1, 1) := by decide +kernel
theorem dX8_refund_1 : decode cX8_refund 1 = .ok (.iconst 0, 1) := by decide +kernel
theorem dX8_refund_2 : decode cX8_refund 2 = .ok (.aload_n 0, 1) := by decide +kernel
theorem dX8_refund_3 : decode cX8_refund 3 = .ok (.getfield 26, 3) := by decide +kernel
theorem dX8_refund_6 : decode cX8_refund 6 = .ok (.getfield 104, 3) := by decide +kernel
theorem dX8_refund_9 : decode cX8_refund 9 = .ok (.invokestatic 140, 3) := by decide +kernel
theorem dX8_refund_12 : decode cX8_refund 12 = .ok (.ifCond .eq 10, 3) := by decide +kernel
theorem dX8_refund_15 : decode cX8_refund 15 = .ok (.iload_n 2, 1) := by decide +kernel
theorem dX8_refund_16 : decode cX8_refund 16 = .ok (.invokestatic 237, 3) := by decide +kernel
theorem dX8_refund_19 : decode cX8_refund 19 = .ok (.ifCond .ne 5, 3) := by decide +kernel
theorem dX8_refund_22 : decode cX8_refund 22 = .ok (.iconst (-1), 1) := by decide +kernel
theorem dX8_refund_23 : decode cX8_refund 23 = .ok (.ireturn, 1) := by decide +kernel
theorem dX8_refund_24 : decode cX8_refund 24 = .ok (.aload_n 0, 1) := by decide +kernel
theorem dX8_refund_25 : decode cX8_refund 25 = .ok (.invokevirtual 110, 3) := by decide +kernel
theorem dX8_refund_28 : decode cX8_refund 28 = .ok (.iload_n 2, 1) := by decide +kernel
theorem dX8_refund_29 : decode cX8_refund 29 = .ok (.aload_n 0, 1) := by decide +kernel
theorem dX8_refund_30 : decode cX8_refund 30 = .ok (.iload_n 1, 1) := by decide +kernel
theorem dX8_refund_31 : decode cX8_refund 31 = .ok (.invokevirtual 261, 3) := by decide +kernel
theorem dX8_refund_34 : decode cX8_refund 34 = .ok (.if_icmp .le 5, 3) := by decide +kernel
theorem dX8_refund_37 : decode cX8_refund 37 = .ok (.iconst (-1), 1) := by decide +kernel
theorem dX8_refund_38 : decode cX8_refund 38 = .ok (.ireturn, 1) := by decide +kernel
theorem dX8_refund_39 : decode cX8_refund 39 = .ok (.aload_n 0, 1) := by decide +kernel
theorem dX8_refund_40 : decode cX8_refund 40 = .ok (.getfield 26, 3) := by decide +kernel
theorem dX8_refund_43 : decode cX8_refund 43 = .ok (.getfield 124, 3) := by decide +kernel
theorem dX8_refund_46 : decode cX8_refund 46 = .ok (.invokevirtual 252, 3) := by decide +kernel
theorem dX8_refund_49 : decode cX8_refund 49 = .ok (.ifCond .eq 6, 3) := by decide +kernel
theorem dX8_refund_52 : decode cX8_refund 52 = .ok (.bipush (-2), 2) := by decide +kernel
theorem dX8_refund_54 : decode cX8_refund 54 = .ok (.ireturn, 1) := by decide +kernel
theorem dX8_refund_55 : decode cX8_refund 55 = .ok (.aload_n 0, 1) := by decide +kernel
theorem dX8_refund_56 : decode cX8_refund 56 = .ok (.getfield 26, 3) := by decide +kernel
theorem dX8_refund_59 : decode cX8_refund 59 = .ok (.getfield 124, 3) := by decide +kernel
theorem dX8_refund_62 : decode cX8_refund 62 = .ok (.iload_n 1, 1) := by decide +kernel
theorem dX8_refund_63 : decode cX8_refund 63 = .ok (.iload_n 2, 1) := by decide +kernel
theorem dX8_refund_64 : decode cX8_refund 64 = .ok (.invokevirtual 255, 3) := by decide +kernel
theorem dX8_refund_67 : decode cX8_refund 67 = .ok (.aload_n 0, 1) := by decide +kernel
theorem dX8_refund_68 : decode cX8_refund 68 = .ok (.getfield 57, 3) := by decide +kernel
theorem dX8_refund_71 : decode cX8_refund 71 = .ok (.iconst 2, 1) := by decide +kernel
theorem dX8_refund_72 : decode cX8_refund 72 = .ok (.invokevirtual 258, 3) := by decide +kernel
theorem dX8_refund_75 : decode cX8_refund 75 = .ok (.aload_n 0, 1) := by decide +kernel
theorem dX8_refund_76 : decode cX8_refund 76 = .ok (.iload_n 1, 1) := by decide +kernel
theorem dX8_refund_77 : decode cX8_refund 77 = .ok (.aload_n 0, 1) := by decide +kernel
theorem dX8_refund_78 : decode cX8_refund 78 = .ok (.getfield 26, 3) := by decide +kernel
theorem dX8_refund_81 : decode cX8_refund 81 = .ok (.iload_n 1, 1) := by decide +kernel
theorem dX8_refund_82 : decode cX8_refund 82 = .ok (.invokevirtual 107, 3) := by decide +kernel
theorem dX8_refund_85 : decode cX8_refund 85 = .ok (.invokevirtual 195, 3) := by decide +kernel
theorem dX8_refund_88 : decode cX8_refund 88 = .ok (.ireturn, 1) := by decide +kernel
set_option maxRecDepth 20000 in
theorem ggX8_bar_X8_canTurn : GoodIn wsX8_bar wsX8_canTurn := goodIn_r _ [8, 1, 2, 9, 10, 7, 11, 12, 13, 14, 26, 27, 28, 29, 30, 31, 32, 33, 34, 35, 36, 37, 38, 39, 40, 41, 42, 43, 44, 45, 46, 47, 48] rfl (by decide +kernel)
set_option maxRecDepth 20000 in
theorem gX8_bar_X8_canTurn : GoodIn wsX8_bar (wsV RX8 234 RX8 yX8_canTurn wsX8_canTurn) := goodIn_app (goodIn_r _ [4, 5, 6, 7] rfl (by decide +kernel)) ggX8_bar_X8_canTurn
set_option maxRecDepth 20000 in
theorem ggX8_bar_X2_keep : GoodIn wsX8_bar wsX2_keep := goodIn_r _ [19, 20, 21, 22, 23, 24, 18, 25, 49, 50] rfl (by decide +kernel)
set_option maxRecDepth 20000 in
theorem gX8_bar_X2_keep : GoodIn wsX8_bar (wsV RX8 258 RX2 yX2_keep wsX2_keep) := goodIn_app (goodIn_r _ [15, 16, 17, 18] rfl (by decide +kernel)) ggX8_bar_X2_keep
theorem dX8_bar_0 : decode cX8_bar 0 = .ok (.aload_n 0, 1) := by decide +kernel
theorem dX8_bar_1 : decode cX8_bar 1 = .ok (.iload_n 1, 1) := by decide +kernel
theorem dX8_bar_2 : decode cX8_bar 2 = .ok (.invokevirtual 234, 3) := by decide +kernel
theorem dX8_bar_5 : decode cX8_bar 5 = .ok (.ifCond .ne 5, 3) := by decide +kernel
theorem dX8_bar_8 : decode cX8_bar 8 = .ok (.iconst (-1), 1) := by decide +kernel
theorem dX8_bar_9 : decode cX8_bar 9 = .ok (.ireturn, 1) := by decide +kernel
theorem dX8_bar_10 : decode cX8_bar 10 = .ok (.aload_n 0, 1) := by decide +kernel
theorem dX8_bar_11 : decode cX8_bar 11 = .ok (.getfield 26, 3) := by decide +kernel
theorem dX8_bar_14 : decode cX8_bar 14 = .ok (.dup, 1) := by decide +kernel
theorem dX8_bar_15 : decode cX8_bar 15 = .ok (.getfield 135, 3) := by decide +kernel
theorem dX8_bar_18 : decode cX8_bar 18 = .ok (.iconst 1, 1) := by decide +kernel
theorem dX8_bar_19 : decode cX8_bar 19 = .ok (.iload_n 1, 1) := by decide +kernel
theorem dX8_bar_20 : decode cX8_bar 20 = .ok (.ishl, 1) := by decide +kernel
theorem dX8_bar_21 : decode cX8_bar 21 = .ok (.ixor, 1) := by decide +kernel
theorem dX8_bar_22 : decode cX8_bar 22 = .ok (.putfield 135, 3) := by decide +kernel
theorem dX8_bar_25 : decode cX8_bar 25 = .ok (.aload_n 0, 1) := by decide +kernel
theorem dX8_bar_26 : decode cX8_bar 26 = .ok (.getfield 57, 3) := by decide +kernel
theorem dX8_bar_29 : decode cX8_bar 29 = .ok (.iconst 3, 1) := by decide +kernel
theorem dX8_bar_30 : decode cX8_bar 30 = .ok (.iload_n 1, 1) := by decide +kernel
theorem dX8_bar_31 : decode cX8_bar 31 = .ok (.iadd, 1) := by decide +kernel
theorem dX8_bar_32 : decode cX8_bar 32 = .ok (.invokevirtual 258, 3) := by decide +kernel
theorem dX8_bar_35 : decode cX8_bar 35 = .ok (.aload_n 0, 1) := by decide +kernel
theorem dX8_bar_36 : decode cX8_bar 36 = .ok (.getfield 26, 3) := by decide +kernel
theorem dX8_bar_39 : decode cX8_bar 39 = .ok (.getfield 135, 3) := by decide +kernel
theorem dX8_bar_42 : decode cX8_bar 42 = .ok (.ireturn, 1) := by decide +kernel
set_option maxRecDepth 20000 in
theorem ggX8_undo_X2_takeLatest : GoodIn wsX8_undo wsX2_takeLatest := goodIn_r _ [12, 13, 14, 48, 49] rfl (by decide +kernel)
set_option maxRecDepth 20000 in
theorem gX8_undo_X2_takeLatest : GoodIn wsX8_undo (wsV RX8 264 RX2 yX2_takeLatest wsX2_takeLatest) := goodIn_app (goodIn_r _ [8, 9, 10, 11] rfl (by decide +kernel)) ggX8_undo_X2_takeLatest
set_option maxRecDepth 20000 in
theorem ggX8_undo_X5_dropLast : GoodIn wsX8_undo wsX5_dropLast := goodIn_r _ [19, 20, 21, 22, 23, 24, 50, 51, 52] rfl (by decide +kernel)
set_option maxRecDepth 20000 in
theorem gX8_undo_X5_dropLast : GoodIn wsX8_undo (wsV RX8 267 RX5 yX5_dropLast wsX5_dropLast) := goodIn_app (goodIn_r _ [15, 16, 17, 18] rfl (by decide +kernel)) ggX8_undo_X5_dropLast
theorem dX8_undo_0 : decode cX8_undo 0 = .ok (.aload_n 0, 1) := by decide +kernel
theorem dX8_undo_1 : decode cX8_undo 1 = .ok (.getfield 57, 3) := by decide +kernel
theorem dX8_undo_4 : decode cX8_undo 4 = .ok (.invokevirtual 264, 3) := by decide +kernel
theorem dX8_undo_7 : decode cX8_undo 7 = .ok (.istore_n 1, 1) := by decide +kernel
theorem dX8_undo_8 : decode cX8_undo 8 = .ok (.iload_n 1, 1) := by decide +kernel
theorem dX8_undo_9 : decode cX8_undo 9 = .ok (.tableswitch 72 (-1) 2 #[31, 33, 46, 59], 31) := by decide +kernel
theorem dX8_undo_40 : decode cX8_undo 40 = .ok (.iconst (-1), 1) := by decide +kernel
theorem dX8_undo_41 : decode cX8_undo 41 = .ok (.ireturn, 1) := by decide +kernel
theorem dX8_undo_42 : decode cX8_undo 42 = .ok (.aload_n 0, 1) := by decide +kernel
theorem dX8_undo_43 : decode cX8_undo 43 = .ok (.getfield 26, 3) := by decide +kernel
theorem dX8_undo_46 : decode cX8_undo 46 = .ok (.getfield 148, 3) := by decide +kernel
theorem dX8_undo_49 : decode cX8_undo 49 = .ok (.invokevirtual 267, 3) := by decide +kernel
theorem dX8_undo_52 : decode cX8_undo 52 = .ok (.goto 46, 3) := by decide +kernel
theorem dX8_undo_55 : decode cX8_undo 55 = .ok (.aload_n 0, 1) := by decide +kernel
theorem dX8_undo_56 : decode cX8_undo 56 = .ok (.getfield 26, 3) := by decide +kernel
theorem dX8_undo_59 : decode cX8_undo 59 = .ok (.getfield 117, 3) := by decide +kernel
theorem dX8_undo_62 : decode cX8_undo 62 = .ok (.invokevirtual 267, 3) := by decide +kernel
theorem dX8_undo_65 : decode cX8_undo 65 = .ok (.goto 33, 3) := by decide +kernel
theorem dX8_undo_68 : decode cX8_undo 68 = .ok (.aload_n 0, 1) := by decide +kernel
theorem dX8_undo_69 : decode cX8_undo 69 = .ok (.getfield 26, 3) := by decide +kernel
theorem dX8_undo_72 : decode cX8_undo 72 = .ok (.getfield 124, 3) := by decide +kernel
theorem dX8_undo_75 : decode cX8_undo 75 = .ok (.invokevirtual 267, 3) := by decide +kernel
theorem dX8_undo_78 : decode cX8_undo 78 = .ok (.goto 20, 3) := by decide +kernel
theorem dX8_undo_81 : decode cX8_undo 81 = .ok (.aload_n 0, 1) := by decide +kernel
theorem dX8_undo_82 : decode cX8_undo 82 = .ok (.getfield 26, 3) := by decide +kernel
theorem dX8_undo_85 : decode cX8_undo 85 = .ok (.dup, 1) := by decide +kernel
theorem dX8_undo_86 : decode cX8_undo 86 = .ok (.getfield 135, 3) := by decide +kernel
theorem dX8_undo_89 : decode cX8_undo 89 = .ok (.iconst 1, 1) := by decide +kernel
theorem dX8_undo_90 : decode cX8_undo 90 = .ok (.iload_n 1, 1) := by decide +kernel
theorem dX8_undo_91 : decode cX8_undo 91 = .ok (.iconst 3, 1) := by decide +kernel
theorem dX8_undo_92 : decode cX8_undo 92 = .ok (.isub, 1) := by decide +kernel
theorem dX8_undo_93 : decode cX8_undo 93 = .ok (.ishl, 1) := by decide +kernel
theorem dX8_undo_94 : decode cX8_undo 94 = .ok (.ixor, 1) := by decide +kernel
theorem dX8_undo_95 : decode cX8_undo 95 = .ok (.putfield 135, 3) := by decide +kernel
theorem dX8_undo_98 : decode cX8_undo 98 = .ok (.aload_n 0, 1) := by decide +kernel
theorem dX8_undo_99 : decode cX8_undo 99 = .ok (.getfield 57, 3) := by decide +kernel
theorem dX8_undo_102 : decode cX8_undo 102 = .ok (.getfield 90, 3) := by decide +kernel
theorem dX8_undo_105 : decode cX8_undo 105 = .ok (.ireturn, 1) := by decide +kernel
set_option maxRecDepth 20000 in
theorem ggX8_reckon_X1_reckon : GoodIn wsX8_reckon wsX1_reckon := goodIn_r _ [9, 10, 11, 12, 13, 14, 15, 16, 17, 8, 18, 19, 20, 21, 22, 23, 24, 25, 26, 27, 28, 29, 30, 31, 32, 33, 34, 35, 36, 37, 38, 39, 40, 41, 42, 43, 44, 45, 46, 47, 48, 49, 50, 51, 52, 53, 54, 55, 56, 57, 58, 59, 60, 61, 62, 63, 64, 65, 66, 67, 68, 69, 70, 71, 125, 126, 127, 111, 112, 113, 114, 115, 116, 117, 118, 119, 120, 121, 122, 123, 124, 128, 129, 130] rfl (by decide +kernel)
set_option maxRecDepth 20000 in
theorem gX8_reckon_X1_reckon : GoodIn wsX8_reckon (wsV RX8 161 RX1 yX1_reckon wsX1_reckon) := goodIn_app (goodIn_r _ [5, 6, 7, 8] rfl (by decide +kernel)) ggX8_reckon_X1_reckon
set_option maxRecDepth 20000 in
theorem ggX8_reckon_X0_lay : GoodIn wsX8_reckon wsX0_lay := goodIn_r _ [76, 77, 78, 79, 80, 81, 82, 83, 84, 85, 86, 87, 88, 75, 89, 90, 91, 55, 56, 38, 57, 40, 41, 92, 59, 60, 61, 42, 93, 94, 95, 96, 97, 98, 99, 100, 101, 131, 132, 111, 112, 113, 114, 115, 116, 117, 118, 119, 120, 121, 122, 123, 124, 128, 129, 130] rfl (by decide +kernel)
set_option maxRecDepth 20000 in
theorem gX8_reckon_X0_lay : GoodIn wsX8_reckon (wsV RX8 173 RX0 yX0_lay wsX0_lay) := goodIn_app (goodIn_r _ [72, 73, 74, 75] rfl (by decide +kernel)) ggX8_reckon_X0_lay
theorem dX8_reckon_0 : decode cX8_reckon 0 = .ok (.aload_n 0, 1) := by decide +kernel
theorem dX8_reckon_1 : decode cX8_reckon 1 = .ok (.getfield 36, 3) := by decide +kernel
theorem dX8_reckon_4 : decode cX8_reckon 4 = .ok (.aload_n 0, 1) := by decide +kernel
theorem dX8_reckon_5 : decode cX8_reckon 5 = .ok (.getfield 26, 3) := by decide +kernel
theorem dX8_reckon_8 : decode cX8_reckon 8 = .ok (.aload_n 0, 1) := by decide +kernel
theorem dX8_reckon_9 : decode cX8_reckon 9 = .ok (.getfield 26, 3) := by decide +kernel
theorem dX8_reckon_12 : decode cX8_reckon 12 = .ok (.getfield 135, 3) := by decide +kernel
theorem dX8_reckon_15 : decode cX8_reckon 15 = .ok (.invokevirtual 161, 3) := by decide +kernel
theorem dX8_reckon_18 : decode cX8_reckon 18 = .ok (.aload_n 0, 1) := by decide +kernel
theorem dX8_reckon_19 : decode cX8_reckon 19 = .ok (.getfield 43, 3) := by decide +kernel
theorem dX8_reckon_22 : decode cX8_reckon 22 = .ok (.aload_n 0, 1) := by decide +kernel
theorem dX8_reckon_23 : decode cX8_reckon 23 = .ok (.getfield 26, 3) := by decide +kernel
theorem dX8_reckon_26 : decode cX8_reckon 26 = .ok (.invokevirtual 173, 3) := by decide +kernel
theorem dX8_reckon_29 : decode cX8_reckon 29 = .ok (.return_, 1) := by decide +kernel
set_option maxRecDepth 20000 in
theorem ggX8_costsWith_X0_addFrom : GoodIn wsX8_costsWith wsX0_addFrom := goodIn_r _ [8, 9, 10, 11, 12, 13, 64, 65] rfl (by decide +kernel)
set_option maxRecDepth 20000 in
theorem gX8_costsWith_X0_addFrom : GoodIn wsX8_costsWith (wsV RX8 229 RX0 yX0_addFrom wsX0_addFrom) := goodIn_app (goodIn_r _ [4, 5, 6, 7] rfl (by decide +kernel)) ggX8_costsWith_X0_addFrom
set_option maxRecDepth 20000 in
theorem ggX8_costsWith_X0_costs : GoodIn wsX8_costsWith wsX0_costs := goodIn_r _ [17, 18, 19, 20, 7, 21, 22, 23, 24, 25, 11, 26, 9, 10, 12, 27, 28, 29, 30, 31, 32, 33, 34, 35, 36, 37, 38, 39, 40, 41, 42, 43, 44, 45, 46, 47, 48, 49, 13, 50, 51, 52, 53, 54, 66, 67, 68, 69, 70, 71, 72, 73, 74, 75, 76, 77, 78, 79, 80, 81, 82, 83, 84, 85, 64, 65] rfl (by decide +kernel)
set_option maxRecDepth 20000 in
theorem gX8_costsWith_X0_costs : GoodIn wsX8_costsWith (wsV RX8 113 RX0 yX0_costs wsX0_costs) := goodIn_app (goodIn_r _ [14, 15, 16, 7] rfl (by decide +kernel)) ggX8_costsWith_X0_costs
theorem dX8_costsWith_0 : decode cX8_costsWith 0 = .ok (.aload_n 0, 1) := by decide +kernel
theorem dX8_costsWith_1 : decode cX8_costsWith 1 = .ok (.getfield 43, 3) := by decide +kernel
theorem dX8_costsWith_4 : decode cX8_costsWith 4 = .ok (.iload_n 1, 1) := by decide +kernel
theorem dX8_costsWith_5 : decode cX8_costsWith 5 = .ok (.iload_n 2, 1) := by decide +kernel
theorem dX8_costsWith_6 : decode cX8_costsWith 6 = .ok (.invokevirtual 229, 3) := by decide +kernel
theorem dX8_costsWith_9 : decode cX8_costsWith 9 = .ok (.aload_n 0, 1) := by decide +kernel
theorem dX8_costsWith_10 : decode cX8_costsWith 10 = .ok (.getfield 43, 3) := by decide +kernel
theorem dX8_costsWith_13 : decode cX8_costsWith 13 = .ok (.aload_n 0, 1) := by decide +kernel
theorem dX8_costsWith_14 : decode cX8_costsWith 14 = .ok (.getfield 26, 3) := by decide +kernel
theorem dX8_costsWith_17 : decode cX8_costsWith 17 = .ok (.aload_n 0, 1) := by decide +kernel
theorem dX8_costsWith_18 : decode cX8_costsWith 18 = .ok (.getfield 36, 3) := by decide +kernel
theorem dX8_costsWith_21 : decode cX8_costsWith 21 = .ok (.invokevirtual 113, 3) := by decide +kernel
theorem dX8_costsWith_24 : decode cX8_costsWith 24 = .ok (.istore_n 3, 1) := by decide +kernel
theorem dX8_costsWith_25 : decode cX8_costsWith 25 = .ok (.aload_n 0, 1) := by decide +kernel
theorem dX8_costsWith_26 : decode cX8_costsWith 26 = .ok (.getfield 43, 3) := by decide +kernel
theorem dX8_costsWith_29 : decode cX8_costsWith 29 = .ok (.iload_n 1, 1) := by decide +kernel
theorem dX8_costsWith_30 : decode cX8_costsWith 30 = .ok (.iload_n 2, 1) := by decide +kernel
theorem dX8_costsWith_31 : decode cX8_costsWith 31 = .ok (.ineg, 1) := by decide +kernel
theorem dX8_costsWith_32 : decode cX8_costsWith 32 = .ok (.invokevirtual 229, 3) := by decide +kernel
theorem dX8_costsWith_35 : decode cX8_costsWith 35 = .ok (.iload_n 3, 1) := by decide +kernel
theorem dX8_costsWith_36 : decode cX8_costsWith 36 = .ok (.ireturn, 1) := by decide +kernel
set_option maxRecDepth 20000 in
theorem ggX8_freeOf_X1_dueBy : GoodIn wsX8_freeOf wsX1_dueBy := goodIn_r _ [11, 12, 13, 14, 15, 16, 17, 18, 19, 20, 21, 22, 10, 23, 24, 25, 26, 27, 28, 38, 39, 40, 41, 42, 43, 44, 45, 46, 47, 48, 49, 50, 51, 52, 53, 54, 55, 56, 57] rfl (by decide +kernel)
set_option maxRecDepth 20000 in
theorem gX8_freeOf_X1_dueBy : GoodIn wsX8_freeOf (wsV RX8 243 RX1 yX1_dueBy wsX1_dueBy) := goodIn_app (goodIn_r _ [7, 8, 9, 10] rfl (by decide +kernel)) ggX8_freeOf_X1_dueBy
theorem dX8_freeOf_0 : decode cX8_freeOf 0 = .ok (.iconst 0, 1) := by decide +kernel
theorem dX8_freeOf_1 : decode cX8_freeOf 1 = .ok (.iload_n 2, 1) := by decide +kernel
theorem dX8_freeOf_2 : decode cX8_freeOf 2 = .ok (.aload_n 0, 1) := by decide +kernel
theorem dX8_freeOf_3 : decode cX8_freeOf 3 = .ok (.getfield 36, 3) := by decide +kernel
theorem dX8_freeOf_6 : decode cX8_freeOf 6 = .ok (.iload_n 1, 1) := by decide +kernel
theorem dX8_freeOf_7 : decode cX8_freeOf 7 = .ok (.aload_n 0, 1) := by decide +kernel
theorem dX8_freeOf_8 : decode cX8_freeOf 8 = .ok (.getfield 26, 3) := by decide +kernel
theorem dX8_freeOf_11 : decode cX8_freeOf 11 = .ok (.invokevirtual 243, 3) := by decide +kernel
theorem dX8_freeOf_14 : decode cX8_freeOf 14 = .ok (.isub, 1) := by decide +kernel
theorem dX8_freeOf_15 : decode cX8_freeOf 15 = .ok (.invokestatic 247, 3) := by decide +kernel
theorem dX8_freeOf_18 : decode cX8_freeOf 18 = .ok (.ireturn, 1) := by decide +kernel
set_option maxRecDepth 20000 in
theorem ggX8_leastFreeFrom_X0_paidAt : GoodIn wsX8_leastFreeFrom wsX0_paidAt := goodIn_r _ [12, 13, 68, 69] rfl (by decide +kernel)
set_option maxRecDepth 20000 in
theorem gX8_leastFreeFrom_X0_paidAt : GoodIn wsX8_leastFreeFrom (wsV RX8 270 RX0 yX0_paidAt wsX0_paidAt) := goodIn_app (goodIn_r _ [8, 9, 10, 11] rfl (by decide +kernel)) ggX8_leastFreeFrom_X0_paidAt
set_option maxRecDepth 20000 in
theorem ggX8_leastFreeFrom_X8_freeOf : GoodIn wsX8_leastFreeFrom wsX8_freeOf := goodIn_r _ [18, 19, 2, 20, 21, 6, 22, 23, 24, 25, 26, 27, 28, 29, 30, 31, 32, 33, 34, 35, 36, 37, 38, 39, 40, 41, 42, 43, 44, 45, 46, 47, 48, 49, 50, 51, 52, 53, 54, 55, 56, 57, 58, 59, 60, 61, 62, 63, 64, 65, 66, 67, 70, 71, 72, 73, 74, 75] rfl (by decide +kernel)
set_option maxRecDepth 20000 in
theorem gX8_leastFreeFrom_X8_freeOf : GoodIn wsX8_leastFreeFrom (wsV RX8 195 RX8 yX8_freeOf wsX8_freeOf) := goodIn_app (goodIn_r _ [14, 15, 16, 17] rfl (by decide +kernel)) ggX8_leastFreeFrom_X8_freeOf
theorem dX8_leastFreeFrom_0 : decode cX8_leastFreeFrom 0 = .ok (.aload_n 0, 1) := by decide +kernel
theorem dX8_leastFreeFrom_1 : decode cX8_leastFreeFrom 1 = .ok (.iload_n 1, 1) := by decide +kernel
theorem dX8_leastFreeFrom_2 : decode cX8_leastFreeFrom 2 = .ok (.aload_n 0, 1) := by decide +kernel
theorem dX8_leastFreeFrom_3 : decode cX8_leastFreeFrom 3 = .ok (.getfield 43, 3) := by decide +kernel
theorem dX8_leastFreeFrom_6 : decode cX8_leastFreeFrom 6 = .ok (.iload_n 1, 1) := by decide +kernel
theorem dX8_leastFreeFrom_7 : decode cX8_leastFreeFrom 7 = .ok (.invokevirtual 270, 3) := by decide +kernel
theorem dX8_leastFreeFrom_10 : decode cX8_leastFreeFrom 10 = .ok (.invokevirtual 195, 3) := by decide +kernel
theorem dX8_leastFreeFrom_13 : decode cX8_leastFreeFrom 13 = .ok (.istore_n 2, 1) := by decide +kernel
theorem dX8_leastFreeFrom_14 : decode cX8_leastFreeFrom 14 = .ok (.iload_n 1, 1) := by decide +kernel
theorem dX8_leastFreeFrom_15 : decode cX8_leastFreeFrom 15 = .ok (.istore_n 3, 1) := by decide +kernel
theorem dX8_leastFreeFrom_16 : decode cX8_leastFreeFrom 16 = .ok (.iload_n 3, 1) := by decide +kernel
theorem dX8_leastFreeFrom_17 : decode cX8_leastFreeFrom 17 = .ok (.aload_n 0, 1) := by decide +kernel
theorem dX8_leastFreeFrom_18 : decode cX8_leastFreeFrom 18 = .ok (.getfield 26, 3) := by decide +kernel
theorem dX8_leastFreeFrom_21 : decode cX8_leastFreeFrom 21 = .ok (.getfield 104, 3) := by decide +kernel
theorem dX8_leastFreeFrom_24 : decode cX8_leastFreeFrom 24 = .ok (.if_icmp .gt 34, 3) := by decide +kernel
theorem dX8_leastFreeFrom_27 : decode cX8_leastFreeFrom 27 = .ok (.iload_n 3, 1) := by decide +kernel
theorem dX8_leastFreeFrom_28 : decode cX8_leastFreeFrom 28 = .ok (.sipush 499, 3) := by decide +kernel
theorem dX8_leastFreeFrom_31 : decode cX8_leastFreeFrom 31 = .ok (.if_icmp .gt 27, 3) := by decide +kernel
theorem dX8_leastFreeFrom_34 : decode cX8_leastFreeFrom 34 = .ok (.iload_n 2, 1) := by decide +kernel
theorem dX8_leastFreeFrom_35 : decode cX8_leastFreeFrom 35 = .ok (.aload_n 0, 1) := by decide +kernel
theorem dX8_leastFreeFrom_36 : decode cX8_leastFreeFrom 36 = .ok (.iload_n 3, 1) := by decide +kernel
theorem dX8_leastFreeFrom_37 : decode cX8_leastFreeFrom 37 = .ok (.aload_n 0, 1) := by decide +kernel
theorem dX8_leastFreeFrom_38 : decode cX8_leastFreeFrom 38 = .ok (.getfield 43, 3) := by decide +kernel
theorem dX8_leastFreeFrom_41 : decode cX8_leastFreeFrom 41 = .ok (.iload_n 3, 1) := by decide +kernel
theorem dX8_leastFreeFrom_42 : decode cX8_leastFreeFrom 42 = .ok (.invokevirtual 270, 3) := by decide +kernel
theorem dX8_leastFreeFrom_45 : decode cX8_leastFreeFrom 45 = .ok (.invokevirtual 195, 3) := by decide +kernel
theorem dX8_leastFreeFrom_48 : decode cX8_leastFreeFrom 48 = .ok (.invokestatic 273, 3) := by decide +kernel
theorem dX8_leastFreeFrom_51 : decode cX8_leastFreeFrom 51 = .ok (.istore_n 2, 1) := by decide +kernel
theorem dX8_leastFreeFrom_52 : decode cX8_leastFreeFrom 52 = .ok (.iinc 3 1, 3) := by decide +kernel
theorem dX8_leastFreeFrom_55 : decode cX8_leastFreeFrom 55 = .ok (.goto (-39), 3) := by decide +kernel
theorem dX8_leastFreeFrom_58 : decode cX8_leastFreeFrom 58 = .ok (.iload_n 2, 1) := by decide +kernel
theorem dX8_leastFreeFrom_59 : decode cX8_leastFreeFrom 59 = .ok (.ireturn, 1) := by decide +kernel
set_option maxRecDepth 20000 in
theorem ggX8_canTurn_X8_isRule : GoodIn wsX8_canTurn wsX8_isRule := goodIn_r _ [6, 7, 8, 5, 9] rfl (by decide +kernel)
set_option maxRecDepth 20000 in
theorem gX8_canTurn_X8_isRule : GoodIn wsX8_canTurn (va_wsS RX8 154 yX8_isRule wsX8_isRule) := goodIn_app (goodIn_r _ [3, 4, 5] rfl (by decide +kernel)) ggX8_canTurn_X8_isRule
theorem dX8_canTurn_0 : decode cX8_canTurn 0 = .ok (.iload_n 1, 1) := by decide +kernel
theorem dX8_canTurn_1 : decode cX8_canTurn 1 = .ok (.invokestatic 154, 3) := by decide +kernel
theorem dX8_canTurn_4 : decode cX8_canTurn 4 = .ok (.ifCond .eq 23, 3) := by decide +kernel
theorem dX8_canTurn_7 : decode cX8_canTurn 7 = .ok (.aload_n 0, 1) := by decide +kernel
theorem dX8_canTurn_8 : decode cX8_canTurn 8 = .ok (.getfield 26, 3) := by decide +kernel
theorem dX8_canTurn_11 : decode cX8_canTurn 11 = .ok (.getfield 135, 3) := by decide +kernel
theorem dX8_canTurn_14 : decode cX8_canTurn 14 = .ok (.iconst 1, 1) := by decide +kernel
theorem dX8_canTurn_15 : decode cX8_canTurn 15 = .ok (.iload_n 1, 1) := by decide +kernel
theorem dX8_canTurn_16 : decode cX8_canTurn 16 = .ok (.ishl, 1) := by decide +kernel
theorem dX8_canTurn_17 : decode cX8_canTurn 17 = .ok (.ixor, 1) := by decide +kernel
theorem dX8_canTurn_18 : decode cX8_canTurn 18 = .ok (.bipush 7, 2) := by decide +kernel
theorem dX8_canTurn_20 : decode cX8_canTurn 20 = .ok (.if_icmp .eq 7, 3) := by decide +kernel
theorem dX8_canTurn_23 : decode cX8_canTurn 23 = .ok (.iconst 1, 1) := by decide +kernel
theorem dX8_canTurn_24 : decode cX8_canTurn 24 = .ok (.goto 4, 3) := by decide +kernel
theorem dX8_canTurn_27 : decode cX8_canTurn 27 = .ok (.iconst 0, 1) := by decide +kernel
theorem dX8_canTurn_28 : decode cX8_canTurn 28 = .ok (.ireturn, 1) := by decide +kernel
theorem dX8_isWithin_0 : decode cX8_isWithin 0 = .ok (.iload_n 0, 1) := by decide +kernel
theorem dX8_isWithin_1 : decode cX8_isWithin 1 = .ok (.iload_n 1, 1) := by decide +kernel
theorem dX8_isWithin_2 : decode cX8_isWithin 2 = .ok (.if_icmp .lt 12, 3) := by decide +kernel
theorem dX8_isWithin_5 : decode cX8_isWithin 5 = .ok (.iload_n 0, 1) := by decide +kernel
theorem dX8_isWithin_6 : decode cX8_isWithin 6 = .ok (.iload_n 2, 1) := by decide +kernel
theorem dX8_isWithin_7 : decode cX8_isWithin 7 = .ok (.if_icmp .gt 7, 3) := by decide +kernel
theorem dX8_isWithin_10 : decode cX8_isWithin 10 = .ok (.iconst 1, 1) := by decide +kernel
theorem dX8_isWithin_11 : decode cX8_isWithin 11 = .ok (.goto 4, 3) := by decide +kernel
theorem dX8_isWithin_14 : decode cX8_isWithin 14 = .ok (.iconst 0, 1) := by decide +kernel
theorem dX8_isWithin_15 : decode cX8_isWithin 15 = .ok (.ireturn, 1) := by decide +kernel
set_option maxRecDepth 20000 in
theorem ggX8_isDay_X8_isWithin : GoodIn wsX8_isDay wsX8_isWithin := goodIn_r _ [4] rfl (by decide +kernel)
set_option maxRecDepth 20000 in
theorem gX8_isDay_X8_isWithin : GoodIn wsX8_isDay (va_wsS RX8 140 yX8_isWithin wsX8_isWithin) := goodIn_app (goodIn_r _ [1, 2, 3] rfl (by decide +kernel)) ggX8_isDay_X8_isWithin
theorem dX8_isDay_0 : decode cX8_isDay 0 = .ok (.iload_n 0, 1) := by decide +kernel
theorem dX8_isDay_1 : decode cX8_isDay 1 = .ok (.iconst 0, 1) := by decide +kernel
theorem dX8_isDay_2 : decode cX8_isDay 2 = .ok (.sipush 499, 3) := by decide +kernel
theorem dX8_isDay_5 : decode cX8_isDay 5 = .ok (.invokestatic 140, 3) := by decide +kernel
theorem dX8_isDay_8 : decode cX8_isDay 8 = .ok (.ireturn, 1) := by decide +kernel
set_option maxRecDepth 20000 in
theorem ggX8_isAmount_X8_isWithin : GoodIn wsX8_isAmount wsX8_isWithin := goodIn_r _ [5] rfl (by decide +kernel)
set_option maxRecDepth 20000 in
theorem gX8_isAmount_X8_isWithin : GoodIn wsX8_isAmount (va_wsS RX8 140 yX8_isWithin wsX8_isWithin) := goodIn_app (goodIn_r _ [2, 3, 4] rfl (by decide +kernel)) ggX8_isAmount_X8_isWithin
theorem dX8_isAmount_0 : decode cX8_isAmount 0 = .ok (.iload_n 0, 1) := by decide +kernel
theorem dX8_isAmount_1 : decode cX8_isAmount 1 = .ok (.iconst 1, 1) := by decide +kernel
theorem dX8_isAmount_2 : decode cX8_isAmount 2 = .ok (.ldc 233, 2) := by decide +kernel
theorem dX8_isAmount_4 : decode cX8_isAmount 4 = .ok (.invokestatic 140, 3) := by decide +kernel
theorem dX8_isAmount_7 : decode cX8_isAmount 7 = .ok (.ireturn, 1) := by decide +kernel
set_option maxRecDepth 20000 in
theorem ggX8_isPeriod_X8_isWithin : GoodIn wsX8_isPeriod wsX8_isWithin := goodIn_r _ [4] rfl (by decide +kernel)
set_option maxRecDepth 20000 in
theorem gX8_isPeriod_X8_isWithin : GoodIn wsX8_isPeriod (va_wsS RX8 140 yX8_isWithin wsX8_isWithin) := goodIn_app (goodIn_r _ [1, 2, 3] rfl (by decide +kernel)) ggX8_isPeriod_X8_isWithin
theorem dX8_isPeriod_0 : decode cX8_isPeriod 0 = .ok (.iload_n 0, 1) := by decide +kernel
theorem dX8_isPeriod_1 : decode cX8_isPeriod 1 = .ok (.iconst 0, 1) := by decide +kernel
theorem dX8_isPeriod_2 : decode cX8_isPeriod 2 = .ok (.iconst 3, 1) := by decide +kernel
theorem dX8_isPeriod_3 : decode cX8_isPeriod 3 = .ok (.invokestatic 140, 3) := by decide +kernel
theorem dX8_isPeriod_6 : decode cX8_isPeriod 6 = .ok (.ireturn, 1) := by decide +kernel
set_option maxRecDepth 20000 in
theorem ggX8_isRule_X8_isWithin : GoodIn wsX8_isRule wsX8_isWithin := goodIn_r _ [4] rfl (by decide +kernel)
set_option maxRecDepth 20000 in
theorem gX8_isRule_X8_isWithin : GoodIn wsX8_isRule (va_wsS RX8 140 yX8_isWithin wsX8_isWithin) := goodIn_app (goodIn_r _ [1, 2, 3] rfl (by decide +kernel)) ggX8_isRule_X8_isWithin
theorem dX8_isRule_0 : decode cX8_isRule 0 = .ok (.iload_n 0, 1) := by decide +kernel
theorem dX8_isRule_1 : decode cX8_isRule 1 = .ok (.iconst 0, 1) := by decide +kernel
theorem dX8_isRule_2 : decode cX8_isRule 2 = .ok (.iconst 2, 1) := by decide +kernel
theorem dX8_isRule_3 : decode cX8_isRule 3 = .ok (.invokestatic 140, 3) := by decide +kernel
theorem dX8_isRule_6 : decode cX8_isRule 6 = .ok (.ireturn, 1) := by decide +kernel
theorem dX9_thrown_0 : decode cX9_thrown 0 = .ok (.aload_n 0, 1) := by decide +kernel
theorem dX9_thrown_1 : decode cX9_thrown 1 = .ok (.getfield 1, 3) := by decide +kernel
theorem dX9_thrown_4 : decode cX9_thrown 4 = .ok (.ireturn, 1) := by decide +kernel
theorem dX9_refuse_0 : decode cX9_refuse 0 = .ok (.aload_n 0, 1) := by decide +kernel
theorem dX9_refuse_1 : decode cX9_refuse 1 = .ok (.iconst 1, 1) := by decide +kernel
theorem dX9_refuse_2 : decode cX9_refuse 2 = .ok (.putfield 1, 3) := by decide +kernel
theorem dX9_refuse_5 : decode cX9_refuse 5 = .ok (.iconst 0, 1) := by decide +kernel
theorem dX9_refuse_6 : decode cX9_refuse 6 = .ok (.ireturn, 1) := by decide +kernel
theorem dX9_isIn_0 : decode cX9_isIn 0 = .ok (.iload_n 0, 1) := by decide +kernel
theorem dX9_isIn_1 : decode cX9_isIn 1 = .ok (.iload_n 1, 1) := by decide +kernel
theorem dX9_isIn_2 : decode cX9_isIn 2 = .ok (.if_icmp .lt 12, 3) := by decide +kernel
theorem dX9_isIn_5 : decode cX9_isIn 5 = .ok (.iload_n 0, 1) := by decide +kernel
theorem dX9_isIn_6 : decode cX9_isIn 6 = .ok (.iload_n 2, 1) := by decide +kernel
theorem dX9_isIn_7 : decode cX9_isIn 7 = .ok (.if_icmp .gt 7, 3) := by decide +kernel
theorem dX9_isIn_10 : decode cX9_isIn 10 = .ok (.iconst 1, 1) := by decide +kernel
theorem dX9_isIn_11 : decode cX9_isIn 11 = .ok (.goto 4, 3) := by decide +kernel
theorem dX9_isIn_14 : decode cX9_isIn 14 = .ok (.iconst 0, 1) := by decide +kernel
theorem dX9_isIn_15 : decode cX9_isIn 15 = .ok (.ireturn, 1) := by decide +kernel
theorem dX9_has_0 : decode cX9_has 0 = .ok (.iload_n 0, 1) := by decide +kernel
theorem dX9_has_1 : decode cX9_has 1 = .ok (.iload_n 1, 1) := by decide +kernel
theorem dX9_has_2 : decode cX9_has 2 = .ok (.ishr, 1) := by decide +kernel
theorem dX9_has_3 : decode cX9_has 3 = .ok (.iconst 1, 1) := by decide +kernel
theorem dX9_has_4 : decode cX9_has 4 = .ok (.iand, 1) := by decide +kernel
theorem dX9_has_5 : decode cX9_has 5 = .ok (.iconst 1, 1) := by decide +kernel
theorem dX9_has_6 : decode cX9_has 6 = .ok (.if_icmp .ne 7, 3) := by decide +kernel
theorem dX9_has_9 : decode cX9_has 9 = .ok (.iconst 1, 1) := by decide +kernel
theorem dX9_has_10 : decode cX9_has 10 = .ok (.goto 4, 3) := by decide +kernel
theorem dX9_has_13 : decode cX9_has 13 = .ok (.iconst 0, 1) := by decide +kernel
theorem dX9_has_14 : decode cX9_has 14 = .ok (.ireturn, 1) := by decide +kernel
theorem dX9_lays_0 : decode cX9_lays 0 = .ok (.bipush 24, 2) := by decide +kernel
theorem dX9_lays_2 : decode cX9_lays 2 = .ok (.istore_n 2, 1) := by decide +kernel
theorem dX9_lays_3 : decode cX9_lays 3 = .ok (.iload_n 2, 1) := by decide +kernel
theorem dX9_lays_4 : decode cX9_lays 4 = .ok (.ifCond .lt 35, 3) := by decide +kernel
theorem dX9_lays_7 : decode cX9_lays 7 = .ok (.aload_n 0, 1) := by decide +kernel
theorem dX9_lays_8 : decode cX9_lays 8 = .ok (.getfield 7, 3) := by decide +kernel
theorem dX9_lays_11 : decode cX9_lays 11 = .ok (.aload_n 0, 1) := by decide +kernel
theorem dX9_lays_12 : decode cX9_lays 12 = .ok (.getfield 11, 3) := by decide +kernel
theorem dX9_lays_15 : decode cX9_lays 15 = .ok (.iload_n 1, 1) := by decide +kernel
theorem dX9_lays_16 : decode cX9_lays 16 = .ok (.iload_n 2, 1) := by decide +kernel
theorem dX9_lays_17 : decode cX9_lays 17 = .ok (.iushr, 1) := by decide +kernel
theorem dX9_lays_18 : decode cX9_lays 18 = .ok (.sipush 255, 3) := by decide +kernel
theorem dX9_lays_21 : decode cX9_lays 21 = .ok (.iand, 1) := by decide +kernel
theorem dX9_lays_22 : decode cX9_lays 22 = .ok (.iastore, 1) := by decide +kernel
theorem dX9_lays_23 : decode cX9_lays 23 = .ok (.aload_n 0, 1) := by decide +kernel
theorem dX9_lays_24 : decode cX9_lays 24 = .ok (.dup, 1) := by decide +kernel
theorem dX9_lays_25 : decode cX9_lays 25 = .ok (.getfield 11, 3) := by decide +kernel
theorem dX9_lays_28 : decode cX9_lays 28 = .ok (.iconst 1, 1) := by decide +kernel
theorem dX9_lays_29 : decode cX9_lays 29 = .ok (.iadd, 1) := by decide +kernel
theorem dX9_lays_30 : decode cX9_lays 30 = .ok (.putfield 11, 3) := by decide +kernel
theorem dX9_lays_33 : decode cX9_lays 33 = .ok (.iinc 2 (-8), 3) := by decide +kernel
theorem dX9_lays_36 : decode cX9_lays 36 = .ok (.goto (-33), 3) := by decide +kernel
theorem dX9_lays_39 : decode cX9_lays 39 = .ok (.return_, 1) := by decide +kernel
set_option maxRecDepth 20000 in
theorem ggX9_feed_X9_lays : GoodIn wsX9_feed wsX9_lays := goodIn_r _ [7, 8, 2, 9, 10, 11, 12, 13, 14, 15, 16, 17, 18, 19, 20, 21, 22, 23, 24, 25, 26, 27, 28] rfl (by decide +kernel)
set_option maxRecDepth 20000 in
theorem gX9_feed_X9_lays : GoodIn wsX9_feed (wsV RX9 14 RX9 yX9_lays wsX9_lays) := goodIn_app (goodIn_r _ [3, 4, 5, 6] rfl (by decide +kernel)) ggX9_feed_X9_lays
theorem dX9_feed_0 : decode cX9_feed 0 = .ok (.aload_n 0, 1) := by decide +kernel
theorem dX9_feed_1 : decode cX9_feed 1 = .ok (.iconst 0, 1) := by decide +kernel
theorem dX9_feed_2 : decode cX9_feed 2 = .ok (.putfield 1, 3) := by decide +kernel
theorem dX9_feed_5 : decode cX9_feed 5 = .ok (.aload_n 0, 1) := by decide +kernel
theorem dX9_feed_6 : decode cX9_feed 6 = .ok (.getfield 11, 3) := by decide +kernel
theorem dX9_feed_9 : decode cX9_feed 9 = .ok (.bipush 20, 2) := by decide +kernel
theorem dX9_feed_11 : decode cX9_feed 11 = .ok (.iadd, 1) := by decide +kernel
theorem dX9_feed_12 : decode cX9_feed 12 = .ok (.sipush 840, 3) := by decide +kernel
theorem dX9_feed_15 : decode cX9_feed 15 = .ok (.if_icmp .le 5, 3) := by decide +kernel
theorem dX9_feed_18 : decode cX9_feed 18 = .ok (.iconst (-1), 1) := by decide +kernel
theorem dX9_feed_19 : decode cX9_feed 19 = .ok (.ireturn, 1) := by decide +kernel
theorem dX9_feed_20 : decode cX9_feed 20 = .ok (.aload_n 0, 1) := by decide +kernel
theorem dX9_feed_21 : decode cX9_feed 21 = .ok (.iload_n 1, 1) := by decide +kernel
theorem dX9_feed_22 : decode cX9_feed 22 = .ok (.invokevirtual 14, 3) := by decide +kernel
theorem dX9_feed_25 : decode cX9_feed 25 = .ok (.aload_n 0, 1) := by decide +kernel
theorem dX9_feed_26 : decode cX9_feed 26 = .ok (.iload_n 2, 1) := by decide +kernel
theorem dX9_feed_27 : decode cX9_feed 27 = .ok (.invokevirtual 14, 3) := by decide +kernel
theorem dX9_feed_30 : decode cX9_feed 30 = .ok (.aload_n 0, 1) := by decide +kernel
theorem dX9_feed_31 : decode cX9_feed 31 = .ok (.iload_n 3, 1) := by decide +kernel
theorem dX9_feed_32 : decode cX9_feed 32 = .ok (.invokevirtual 14, 3) := by decide +kernel
theorem dX9_feed_35 : decode cX9_feed 35 = .ok (.aload_n 0, 1) := by decide +kernel
theorem dX9_feed_36 : decode cX9_feed 36 = .ok (.iload 4, 2) := by decide +kernel
theorem dX9_feed_38 : decode cX9_feed 38 = .ok (.invokevirtual 14, 3) := by decide +kernel
theorem dX9_feed_41 : decode cX9_feed 41 = .ok (.aload_n 0, 1) := by decide +kernel
theorem dX9_feed_42 : decode cX9_feed 42 = .ok (.iload 5, 2) := by decide +kernel
theorem dX9_feed_44 : decode cX9_feed 44 = .ok (.invokevirtual 14, 3) := by decide +kernel
theorem dX9_feed_47 : decode cX9_feed 47 = .ok (.aload_n 0, 1) := by decide +kernel
theorem dX9_feed_48 : decode cX9_feed 48 = .ok (.getfield 11, 3) := by decide +kernel
theorem dX9_feed_51 : decode cX9_feed 51 = .ok (.ireturn, 1) := by decide +kernel
theorem dX9_end_0 : decode cX9_end 0 = .ok (.aload_n 0, 1) := by decide +kernel
theorem dX9_end_1 : decode cX9_end 1 = .ok (.iconst 0, 1) := by decide +kernel
theorem dX9_end_2 : decode cX9_end 2 = .ok (.putfield 1, 3) := by decide +kernel
theorem dX9_end_5 : decode cX9_end 5 = .ok (.iload_n 1, 1) := by decide +kernel
theorem dX9_end_6 : decode cX9_end 6 = .ok (.ifCond .lt 11, 3) := by decide +kernel
theorem dX9_end_9 : decode cX9_end 9 = .ok (.iload_n 1, 1) := by decide +kernel
theorem dX9_end_10 : decode cX9_end 10 = .ok (.aload_n 0, 1) := by decide +kernel
theorem dX9_end_11 : decode cX9_end 11 = .ok (.getfield 11, 3) := by decide +kernel
theorem dX9_end_14 : decode cX9_end 14 = .ok (.if_icmp .le 5, 3) := by decide +kernel
theorem dX9_end_17 : decode cX9_end 17 = .ok (.iconst 0, 1) := by decide +kernel
theorem dX9_end_18 : decode cX9_end 18 = .ok (.ireturn, 1) := by decide +kernel
theorem dX9_end_19 : decode cX9_end 19 = .ok (.aload_n 0, 1) := by decide +kernel
theorem dX9_end_20 : decode cX9_end 20 = .ok (.iload_n 1, 1) := by decide +kernel
theorem dX9_end_21 : decode cX9_end 21 = .ok (.putfield 11, 3) := by decide +kernel
theorem dX9_end_24 : decode cX9_end 24 = .ok (.iconst 1, 1) := by decide +kernel
theorem dX9_end_25 : decode cX9_end 25 = .ok (.ireturn, 1) := by decide +kernel
theorem dX9_tapeAt_0 : decode cX9_tapeAt 0 = .ok (.iload_n 1, 1) := by decide +kernel
theorem dX9_tapeAt_1 : decode cX9_tapeAt 1 = .ok (.aload_n 0, 1) := by decide +kernel
theorem dX9_tapeAt_2 : decode cX9_tapeAt 2 = .ok (.getfield 18, 3) := by decide +kernel
theorem dX9_tapeAt_5 : decode cX9_tapeAt 5 = .ok (.if_icmp .ge 12, 3) := by decide +kernel
theorem dX9_tapeAt_8 : decode cX9_tapeAt 8 = .ok (.aload_n 0, 1) := by decide +kernel
theorem dX9_tapeAt_9 : decode cX9_tapeAt 9 = .ok (.getfield 7, 3) := by decide +kernel
theorem dX9_tapeAt_12 : decode cX9_tapeAt 12 = .ok (.iload_n 1, 1) := by decide +kernel
theorem dX9_tapeAt_13 : decode cX9_tapeAt 13 = .ok (.iaload, 1) := by decide +kernel
theorem dX9_tapeAt_14 : decode cX9_tapeAt 14 = .ok (.goto 4, 3) := by decide +kernel
theorem dX9_tapeAt_17 : decode cX9_tapeAt 17 = .ok (.iconst 0, 1) := by decide +kernel
theorem dX9_tapeAt_18 : decode cX9_tapeAt 18 = .ok (.ireturn, 1) := by decide +kernel
theorem dX9_isDigit_0 : decode cX9_isDigit 0 = .ok (.iload_n 0, 1) := by decide +kernel
theorem dX9_isDigit_1 : decode cX9_isDigit 1 = .ok (.bipush 48, 2) := by decide +kernel
theorem dX9_isDigit_3 : decode cX9_isDigit 3 = .ok (.if_icmp .lt 13, 3) := by decide +kernel
theorem dX9_isDigit_6 : decode cX9_isDigit 6 = .ok (.iload_n 0, 1) := by decide +kernel
theorem dX9_isDigit_7 : decode cX9_isDigit 7 = .ok (.bipush 57, 2) := by decide +kernel
theorem dX9_isDigit_9 : decode cX9_isDigit 9 = .ok (.if_icmp .gt 7, 3) := by decide +kernel
theorem dX9_isDigit_12 : decode cX9_isDigit 12 = .ok (.iconst 1, 1) := by decide +kernel
theorem dX9_isDigit_13 : decode cX9_isDigit 13 = .ok (.goto 4, 3) := by decide +kernel
theorem dX9_isDigit_16 : decode cX9_isDigit 16 = .ok (.iconst 0, 1) := by decide +kernel
theorem dX9_isDigit_17 : decode cX9_isDigit 17 = .ok (.ireturn, 1) := by decide +kernel
theorem dX9_isLetter_0 : decode cX9_isLetter 0 = .ok (.iload_n 0, 1) := by decide +kernel
theorem dX9_isLetter_1 : decode cX9_isLetter 1 = .ok (.bipush 97, 2) := by decide +kernel
theorem dX9_isLetter_3 : decode cX9_isLetter 3 = .ok (.if_icmp .lt 13, 3) := by decide +kernel
theorem dX9_isLetter_6 : decode cX9_isLetter 6 = .ok (.iload_n 0, 1) := by decide +kernel
theorem dX9_isLetter_7 : decode cX9_isLetter 7 = .ok (.bipush 122, 2) := by decide +kernel
theorem dX9_isLetter_9 : decode cX9_isLetter 9 = .ok (.if_icmp .gt 7, 3) := by decide +kernel
theorem dX9_isLetter_12 : decode cX9_isLetter 12 = .ok (.iconst 1, 1) := by decide +kernel
theorem dX9_isLetter_13 : decode cX9_isLetter 13 = .ok (.goto 4, 3) := by decide +kernel
theorem dX9_isLetter_16 : decode cX9_isLetter 16 = .ok (.iconst 0, 1) := by decide +kernel
theorem dX9_isLetter_17 : decode cX9_isLetter 17 = .ok (.ireturn, 1) := by decide +kernel
set_option maxRecDepth 20000 in
theorem ggX9_go_X9_isLetter : GoodIn wsX9_go wsX9_isLetter := goodIn_r _ [13] rfl (by decide +kernel)
set_option maxRecDepth 20000 in
theorem gX9_go_X9_isLetter : GoodIn wsX9_go (va_wsS RX9 30 yX9_isLetter wsX9_isLetter) := goodIn_app (goodIn_r _ [10, 11, 12] rfl (by decide +kernel)) ggX9_go_X9_isLetter
set_option maxRecDepth 20000 in
theorem ggX9_go_X9_isDigit : GoodIn wsX9_go wsX9_isDigit := goodIn_r _ [16] rfl (by decide +kernel)
set_option maxRecDepth 20000 in
theorem gX9_go_X9_isDigit : GoodIn wsX9_go (va_wsS RX9 34 yX9_isDigit wsX9_isDigit) := goodIn_app (goodIn_r _ [14, 15, 12] rfl (by decide +kernel)) ggX9_go_X9_isDigit
set_option maxRecDepth 20000 in
theorem ggX9_go_X9_tapeAt : GoodIn wsX9_go wsX9_tapeAt := goodIn_r _ [20, 2, 3, 21, 22, 23, 24, 25, 26, 27, 28, 29, 30, 31, 32, 33, 34, 35, 36, 37, 38, 39, 40] rfl (by decide +kernel)
set_option maxRecDepth 20000 in
theorem gX9_go_X9_tapeAt : GoodIn wsX9_go (wsV RX9 44 RX9 yX9_tapeAt wsX9_tapeAt) := goodIn_app (goodIn_r _ [17, 18, 19, 12] rfl (by decide +kernel)) ggX9_go_X9_tapeAt
theorem dX9_go_0 : decode cX9_go 0 = .ok (.aload_n 0, 1) := by decide +kernel
theorem dX9_go_1 : decode cX9_go 1 = .ok (.getfield 21, 3) := by decide +kernel
theorem dX9_go_4 : decode cX9_go 4 = .ok (.aload_n 0, 1) := by decide +kernel
theorem dX9_go_5 : decode cX9_go 5 = .ok (.getfield 18, 3) := by decide +kernel
theorem dX9_go_8 : decode cX9_go 8 = .ok (.if_icmp .ge 44, 3) := by decide +kernel
theorem dX9_go_11 : decode cX9_go 11 = .ok (.aload_n 0, 1) := by decide +kernel
theorem dX9_go_12 : decode cX9_go 12 = .ok (.getfield 7, 3) := by decide +kernel
theorem dX9_go_15 : decode cX9_go 15 = .ok (.aload_n 0, 1) := by decide +kernel
theorem dX9_go_16 : decode cX9_go 16 = .ok (.getfield 21, 3) := by decide +kernel
theorem dX9_go_19 : decode cX9_go 19 = .ok (.iaload, 1) := by decide +kernel
theorem dX9_go_20 : decode cX9_go 20 = .ok (.bipush 32, 2) := by decide +kernel
theorem dX9_go_22 : decode cX9_go 22 = .ok (.if_icmp .eq 17, 3) := by decide +kernel
theorem dX9_go_25 : decode cX9_go 25 = .ok (.aload_n 0, 1) := by decide +kernel
theorem dX9_go_26 : decode cX9_go 26 = .ok (.getfield 7, 3) := by decide +kernel
theorem dX9_go_29 : decode cX9_go 29 = .ok (.aload_n 0, 1) := by decide +kernel
theorem dX9_go_30 : decode cX9_go 30 = .ok (.getfield 21, 3) := by decide +kernel
theorem dX9_go_33 : decode cX9_go 33 = .ok (.iaload, 1) := by decide +kernel
theorem dX9_go_34 : decode cX9_go 34 = .ok (.bipush 10, 2) := by decide +kernel
theorem dX9_go_36 : decode cX9_go 36 = .ok (.if_icmp .ne 16, 3) := by decide +kernel
theorem dX9_go_39 : decode cX9_go 39 = .ok (.aload_n 0, 1) := by decide +kernel
theorem dX9_go_40 : decode cX9_go 40 = .ok (.dup, 1) := by decide +kernel
theorem dX9_go_41 : decode cX9_go 41 = .ok (.getfield 21, 3) := by decide +kernel
theorem dX9_go_44 : decode cX9_go 44 = .ok (.iconst 1, 1) := by decide +kernel
theorem dX9_go_45 : decode cX9_go 45 = .ok (.iadd, 1) := by decide +kernel
theorem dX9_go_46 : decode cX9_go 46 = .ok (.putfield 21, 3) := by decide +kernel
theorem dX9_go_49 : decode cX9_go 49 = .ok (.goto (-49), 3) := by decide +kernel
theorem dX9_go_52 : decode cX9_go 52 = .ok (.aload_n 0, 1) := by decide +kernel
theorem dX9_go_53 : decode cX9_go 53 = .ok (.aload_n 0, 1) := by decide +kernel
theorem dX9_go_54 : decode cX9_go 54 = .ok (.getfield 21, 3) := by decide +kernel
theorem dX9_go_57 : decode cX9_go 57 = .ok (.putfield 24, 3) := by decide +kernel
theorem dX9_go_60 : decode cX9_go 60 = .ok (.aload_n 0, 1) := by decide +kernel
theorem dX9_go_61 : decode cX9_go 61 = .ok (.getfield 18, 3) := by decide +kernel
theorem dX9_go_64 : decode cX9_go 64 = .ok (.sipush 800, 3) := by decide +kernel
theorem dX9_go_67 : decode cX9_go 67 = .ok (.if_icmp .le 26, 3) := by decide +kernel
theorem dX9_go_70 : decode cX9_go 70 = .ok (.aload_n 0, 1) := by decide +kernel
theorem dX9_go_71 : decode cX9_go 71 = .ok (.getfield 24, 3) := by decide +kernel
theorem dX9_go_74 : decode cX9_go 74 = .ok (.sipush 800, 3) := by decide +kernel
theorem dX9_go_77 : decode cX9_go 77 = .ok (.if_icmp .lt 16, 3) := by decide +kernel
theorem dX9_go_80 : decode cX9_go 80 = .ok (.aload_n 0, 1) := by decide +kernel
theorem dX9_go_81 : decode cX9_go 81 = .ok (.sipush 800, 3) := by decide +kernel
theorem dX9_go_84 : decode cX9_go 84 = .ok (.putfield 24, 3) := by decide +kernel
theorem dX9_go_87 : decode cX9_go 87 = .ok (.aload_n 0, 1) := by decide +kernel
theorem dX9_go_88 : decode cX9_go 88 = .ok (.iconst 1, 1) := by decide +kernel
theorem dX9_go_89 : decode cX9_go 89 = .ok (.putfield 27, 3) := by decide +kernel
theorem dX9_go_92 : decode cX9_go 92 = .ok (.return_, 1) := by decide +kernel
theorem dX9_go_93 : decode cX9_go 93 = .ok (.aload_n 0, 1) := by decide +kernel
theorem dX9_go_94 : decode cX9_go 94 = .ok (.getfield 21, 3) := by decide +kernel
theorem dX9_go_97 : decode cX9_go 97 = .ok (.aload_n 0, 1) := by decide +kernel
theorem dX9_go_98 : decode cX9_go 98 = .ok (.getfield 18, 3) := by decide +kernel
theorem dX9_go_101 : decode cX9_go 101 = .ok (.if_icmp .lt 9, 3) := by decide +kernel
theorem dX9_go_104 : decode cX9_go 104 = .ok (.aload_n 0, 1) := by decide +kernel
theorem dX9_go_105 : decode cX9_go 105 = .ok (.iconst 0, 1) := by decide +kernel
theorem dX9_go_106 : decode cX9_go 106 = .ok (.putfield 27, 3) := by decide +kernel
theorem dX9_go_109 : decode cX9_go 109 = .ok (.return_, 1) := by decide +kernel
theorem dX9_go_110 : decode cX9_go 110 = .ok (.aload_n 0, 1) := by decide +kernel
theorem dX9_go_111 : decode cX9_go 111 = .ok (.getfield 7, 3) := by decide +kernel
theorem dX9_go_114 : decode cX9_go 114 = .ok (.aload_n 0, 1) := by decide +kernel
theorem dX9_go_115 : decode cX9_go 115 = .ok (.getfield 21, 3) := by decide +kernel
theorem dX9_go_118 : decode cX9_go 118 = .ok (.iaload, 1) := by decide +kernel
theorem dX9_go_119 : decode cX9_go 119 = .ok (.istore_n 1, 1) := by decide +kernel
theorem dX9_go_120 : decode cX9_go 120 = .ok (.iload_n 1, 1) := by decide +kernel
theorem dX9_go_121 : decode cX9_go 121 = .ok (.invokestatic 30, 3) := by decide +kernel
theorem dX9_go_124 : decode cX9_go 124 = .ok (.ifCond .ne 36, 3) := by decide +kernel
theorem dX9_go_127 : decode cX9_go 127 = .ok (.iload_n 1, 1) := by decide +kernel
theorem dX9_go_128 : decode cX9_go 128 = .ok (.invokestatic 34, 3) := by decide +kernel
theorem dX9_go_131 : decode cX9_go 131 = .ok (.ifCond .ne 29, 3) := by decide +kernel
theorem dX9_go_134 : decode cX9_go 134 = .ok (.aload_n 0, 1) := by decide +kernel
theorem dX9_go_135 : decode cX9_go 135 = .ok (.iload_n 1, 1) := by decide +kernel
theorem dX9_go_136 : decode cX9_go 136 = .ok (.bipush 59, 2) := by decide +kernel
theorem dX9_go_138 : decode cX9_go 138 = .ok (.if_icmp .ne 7, 3) := by decide +kernel
theorem dX9_go_141 : decode cX9_go 141 = .ok (.iconst 4, 1) := by decide +kernel
theorem dX9_go_142 : decode cX9_go 142 = .ok (.goto 4, 3) := by decide +kernel
theorem dX9_go_145 : decode cX9_go 145 = .ok (.iconst 1, 1) := by decide +kernel
theorem dX9_go_146 : decode cX9_go 146 = .ok (.putfield 27, 3) := by decide +kernel
theorem dX9_go_149 : decode cX9_go 149 = .ok (.aload_n 0, 1) := by decide +kernel
theorem dX9_go_150 : decode cX9_go 150 = .ok (.dup, 1) := by decide +kernel
theorem dX9_go_151 : decode cX9_go 151 = .ok (.getfield 21, 3) := by decide +kernel
theorem dX9_go_154 : decode cX9_go 154 = .ok (.iconst 1, 1) := by decide +kernel
theorem dX9_go_155 : decode cX9_go 155 = .ok (.iadd, 1) := by decide +kernel
theorem dX9_go_156 : decode cX9_go 156 = .ok (.putfield 21, 3) := by decide +kernel
theorem dX9_go_159 : decode cX9_go 159 = .ok (.return_, 1) := by decide +kernel
theorem dX9_go_160 : decode cX9_go 160 = .ok (.iload_n 1, 1) := by decide +kernel
theorem dX9_go_161 : decode cX9_go 161 = .ok (.invokestatic 30, 3) := by decide +kernel
theorem dX9_go_164 : decode cX9_go 164 = .ok (.istore_n 2, 1) := by decide +kernel
theorem dX9_go_165 : decode cX9_go 165 = .ok (.iconst 1, 1) := by decide +kernel
theorem dX9_go_166 : decode cX9_go 166 = .ok (.istore_n 3, 1) := by decide +kernel
theorem dX9_go_167 : decode cX9_go 167 = .ok (.aload_n 0, 1) := by decide +kernel
theorem dX9_go_168 : decode cX9_go 168 = .ok (.lconst 0, 1) := by decide +kernel
theorem dX9_go_169 : decode cX9_go 169 = .ok (.putfield 37, 3) := by decide +kernel
theorem dX9_go_172 : decode cX9_go 172 = .ok (.aload_n 0, 1) := by decide +kernel
theorem dX9_go_173 : decode cX9_go 173 = .ok (.iconst 0, 1) := by decide +kernel
theorem dX9_go_174 : decode cX9_go 174 = .ok (.putfield 41, 3) := by decide +kernel
theorem dX9_go_177 : decode cX9_go 177 = .ok (.aload_n 0, 1) := by decide +kernel
theorem dX9_go_178 : decode cX9_go 178 = .ok (.aload_n 0, 1) := by decide +kernel
theorem dX9_go_179 : decode cX9_go 179 = .ok (.getfield 21, 3) := by decide +kernel
theorem dX9_go_182 : decode cX9_go 182 = .ok (.invokevirtual 44, 3) := by decide +kernel
theorem dX9_go_185 : decode cX9_go 185 = .ok (.invokestatic 30, 3) := by decide +kernel
theorem dX9_go_188 : decode cX9_go 188 = .ok (.ifCond .ne 17, 3) := by decide +kernel
theorem dX9_go_191 : decode cX9_go 191 = .ok (.aload_n 0, 1) := by decide +kernel
theorem dX9_go_192 : decode cX9_go 192 = .ok (.aload_n 0, 1) := by decide +kernel
theorem dX9_go_193 : decode cX9_go 193 = .ok (.getfield 21, 3) := by decide +kernel
theorem dX9_go_196 : decode cX9_go 196 = .ok (.invokevirtual 44, 3) := by decide +kernel
theorem dX9_go_199 : decode cX9_go 199 = .ok (.invokestatic 34, 3) := by decide +kernel
theorem dX9_go_202 : decode cX9_go 202 = .ok (.ifCond .eq 110, 3) := by decide +kernel
theorem dX9_go_205 : decode cX9_go 205 = .ok (.aload_n 0, 1) := by decide +kernel
theorem dX9_go_206 : decode cX9_go 206 = .ok (.getfield 7, 3) := by decide +kernel
theorem dX9_go_209 : decode cX9_go 209 = .ok (.aload_n 0, 1) := by decide +kernel
theorem dX9_go_210 : decode cX9_go 210 = .ok (.getfield 21, 3) := by decide +kernel
theorem dX9_go_213 : decode cX9_go 213 = .ok (.iaload, 1) := by decide +kernel
theorem dX9_go_214 : decode cX9_go 214 = .ok (.istore 4, 2) := by decide +kernel
theorem dX9_go_216 : decode cX9_go 216 = .ok (.iload_n 3, 1) := by decide +kernel
theorem dX9_go_217 : decode cX9_go 217 = .ok (.ifCond .eq 16, 3) := by decide +kernel
theorem dX9_go_220 : decode cX9_go 220 = .ok (.iload 4, 2) := by decide +kernel
theorem dX9_go_222 : decode cX9_go 222 = .ok (.invokestatic 30, 3) := by decide +kernel
theorem dX9_go_225 : decode cX9_go 225 = .ok (.iload_n 2, 1) := by decide +kernel
theorem dX9_go_226 : decode cX9_go 226 = .ok (.if_icmp .ne 7, 3) := by decide +kernel
theorem dX9_go_229 : decode cX9_go 229 = .ok (.iconst 1, 1) := by decide +kernel
theorem dX9_go_230 : decode cX9_go 230 = .ok (.goto 4, 3) := by decide +kernel
theorem dX9_go_233 : decode cX9_go 233 = .ok (.iconst 0, 1) := by decide +kernel
theorem dX9_go_234 : decode cX9_go 234 = .ok (.istore_n 3, 1) := by decide +kernel
theorem dX9_go_235 : decode cX9_go 235 = .ok (.aload_n 0, 1) := by decide +kernel
theorem dX9_go_236 : decode cX9_go 236 = .ok (.getfield 21, 3) := by decide +kernel
theorem dX9_go_239 : decode cX9_go 239 = .ok (.aload_n 0, 1) := by decide +kernel
theorem dX9_go_240 : decode cX9_go 240 = .ok (.getfield 24, 3) := by decide +kernel
theorem dX9_go_243 : decode cX9_go 243 = .ok (.isub, 1) := by decide +kernel
theorem dX9_go_244 : decode cX9_go 244 = .ok (.bipush 7, 2) := by decide +kernel
theorem dX9_go_246 : decode cX9_go 246 = .ok (.if_icmp .ge 23, 3) := by decide +kernel
theorem dX9_go_249 : decode cX9_go 249 = .ok (.aload_n 0, 1) := by decide +kernel
theorem dX9_go_250 : decode cX9_go 250 = .ok (.ldc2_w 48, 3) := by decide +kernel
theorem dX9_go_253 : decode cX9_go 253 = .ok (.aload_n 0, 1) := by decide +kernel
theorem dX9_go_254 : decode cX9_go 254 = .ok (.getfield 37, 3) := by decide +kernel
theorem dX9_go_257 : decode cX9_go 257 = .ok (.lmul, 1) := by decide +kernel
theorem dX9_go_258 : decode cX9_go 258 = .ok (.iload 4, 2) := by decide +kernel
theorem dX9_go_260 : decode cX9_go 260 = .ok (.i2l, 1) := by decide +kernel
theorem dX9_go_261 : decode cX9_go 261 = .ok (.ladd, 1) := by decide +kernel
theorem dX9_go_262 : decode cX9_go 262 = .ok (.ldc2_w 50, 3) := by decide +kernel
theorem dX9_go_265 : decode cX9_go 265 = .ok (.lsub, 1) := by decide +kernel
theorem dX9_go_266 : decode cX9_go 266 = .ok (.putfield 37, 3) := by decide +kernel
theorem dX9_go_269 : decode cX9_go 269 = .ok (.aload_n 0, 1) := by decide +kernel
theorem dX9_go_270 : decode cX9_go 270 = .ok (.getfield 21, 3) := by decide +kernel
theorem dX9_go_273 : decode cX9_go 273 = .ok (.aload_n 0, 1) := by decide +kernel
theorem dX9_go_274 : decode cX9_go 274 = .ok (.getfield 24, 3) := by decide +kernel
theorem dX9_go_277 : decode cX9_go 277 = .ok (.isub, 1) := by decide +kernel
theorem dX9_go_278 : decode cX9_go 278 = .ok (.iconst 5, 1) := by decide +kernel
theorem dX9_go_279 : decode cX9_go 279 = .ok (.if_icmp .ge 20, 3) := by decide +kernel
theorem dX9_go_282 : decode cX9_go 282 = .ok (.aload_n 0, 1) := by decide +kernel
theorem dX9_go_283 : decode cX9_go 283 = .ok (.bipush 10, 2) := by decide +kernel
theorem dX9_go_285 : decode cX9_go 285 = .ok (.aload_n 0, 1) := by decide +kernel
theorem dX9_go_286 : decode cX9_go 286 = .ok (.getfield 41, 3) := by decide +kernel
theorem dX9_go_289 : decode cX9_go 289 = .ok (.imul, 1) := by decide +kernel
theorem dX9_go_290 : decode cX9_go 290 = .ok (.iload 4, 2) := by decide +kernel
theorem dX9_go_292 : decode cX9_go 292 = .ok (.iadd, 1) := by decide +kernel
theorem dX9_go_293 : decode cX9_go 293 = .ok (.bipush 48, 2) := by decide +kernel
theorem dX9_go_295 : decode cX9_go 295 = .ok (.isub, 1) := by decide +kernel
theorem dX9_go_296 : decode cX9_go 296 = .ok (.putfield 41, 3) := by decide +kernel
theorem dX9_go_299 : decode cX9_go 299 = .ok (.aload_n 0, 1) := by decide +kernel
theorem dX9_go_300 : decode cX9_go 300 = .ok (.dup, 1) := by decide +kernel
theorem dX9_go_301 : decode cX9_go 301 = .ok (.getfield 21, 3) := by decide +kernel
theorem dX9_go_304 : decode cX9_go 304 = .ok (.iconst 1, 1) := by decide +kernel
theorem dX9_go_305 : decode cX9_go 305 = .ok (.iadd, 1) := by decide +kernel
theorem dX9_go_306 : decode cX9_go 306 = .ok (.putfield 21, 3) := by decide +kernel
theorem dX9_go_309 : decode cX9_go 309 = .ok (.goto (-132), 3) := by decide +kernel
theorem dX9_go_312 : decode cX9_go 312 = .ok (.aload_n 0, 1) := by decide +kernel
theorem dX9_go_313 : decode cX9_go 313 = .ok (.iload_n 3, 1) := by decide +kernel
theorem dX9_go_314 : decode cX9_go 314 = .ok (.ifCond .eq 20, 3) := by decide +kernel
theorem dX9_go_317 : decode cX9_go 317 = .ok (.iload_n 2, 1) := by decide +kernel
theorem dX9_go_318 : decode cX9_go 318 = .ok (.ifCond .ne 20, 3) := by decide +kernel
theorem dX9_go_321 : decode cX9_go 321 = .ok (.aload_n 0, 1) := by decide +kernel
theorem dX9_go_322 : decode cX9_go 322 = .ok (.getfield 21, 3) := by decide +kernel
theorem dX9_go_325 : decode cX9_go 325 = .ok (.aload_n 0, 1) := by decide +kernel
theorem dX9_go_326 : decode cX9_go 326 = .ok (.getfield 24, 3) := by decide +kernel
theorem dX9_go_329 : decode cX9_go 329 = .ok (.isub, 1) := by decide +kernel
theorem dX9_go_330 : decode cX9_go 330 = .ok (.iconst 5, 1) := by decide +kernel
theorem dX9_go_331 : decode cX9_go 331 = .ok (.if_icmp .le 7, 3) := by decide +kernel
theorem dX9_go_334 : decode cX9_go 334 = .ok (.iconst 1, 1) := by decide +kernel
theorem dX9_go_335 : decode cX9_go 335 = .ok (.goto 12, 3) := by decide +kernel
theorem dX9_go_338 : decode cX9_go 338 = .ok (.iload_n 2, 1) := by decide +kernel
theorem dX9_go_339 : decode cX9_go 339 = .ok (.ifCond .eq 7, 3) := by decide +kernel
theorem dX9_go_342 : decode cX9_go 342 = .ok (.iconst 2, 1) := by decide +kernel
theorem dX9_go_343 : decode cX9_go 343 = .ok (.goto 4, 3) := by decide +kernel
theorem dX9_go_346 : decode cX9_go 346 = .ok (.iconst 3, 1) := by decide +kernel
theorem dX9_go_347 : decode cX9_go 347 = .ok (.putfield 27, 3) := by decide +kernel
theorem dX9_go_350 : decode cX9_go 350 = .ok (.return_, 1) := by decide +kernel
theorem dX9_is_0 : decode cX9_is 0 = .ok (.ldc2_w 48, 3) := by decide +kernel
theorem dX9_is_3 : decode cX9_is 3 = .ok (.ldc2_w 48, 3) := by decide +kernel
theorem dX9_is_6 : decode cX9_is 6 = .ok (.iload_n 1, 1) := by decide +kernel
theorem dX9_is_7 : decode cX9_is 7 = .ok (.i2l, 1) := by decide +kernel
theorem dX9_is_8 : decode cX9_is 8 = .ok (.ldc2_w 50, 3) := by decide +kernel
theorem dX9_is_11 : decode cX9_is 11 = .ok (.lsub, 1) := by decide +kernel
theorem dX9_is_12 : decode cX9_is 12 = .ok (.lmul, 1) := by decide +kernel
theorem dX9_is_13 : decode cX9_is 13 = .ok (.iload_n 2, 1) := by decide +kernel
theorem dX9_is_14 : decode cX9_is 14 = .ok (.i2l, 1) := by decide +kernel
theorem dX9_is_15 : decode cX9_is 15 = .ok (.ladd, 1) := by decide +kernel
theorem dX9_is_16 : decode cX9_is 16 = .ok (.ldc2_w 50, 3) := by decide +kernel
theorem dX9_is_19 : decode cX9_is 19 = .ok (.lsub, 1) := by decide +kernel
theorem dX9_is_20 : decode cX9_is 20 = .ok (.lmul, 1) := by decide +kernel
theorem dX9_is_21 : decode cX9_is 21 = .ok (.iload_n 3, 1) := by decide +kernel
theorem dX9_is_22 : decode cX9_is 22 = .ok (.i2l, 1) := by decide +kernel
theorem dX9_is_23 : decode cX9_is 23 = .ok (.ladd, 1) := by decide +kernel
theorem dX9_is_24 : decode cX9_is 24 = .ok (.ldc2_w 50, 3) := by decide +kernel
theorem dX9_is_27 : decode cX9_is 27 = .ok (.lsub, 1) := by decide +kernel
theorem dX9_is_28 : decode cX9_is 28 = .ok (.lstore 7, 2) := by decide +kernel
theorem dX9_is_30 : decode cX9_is 30 = .ok (.iload 4, 2) := by decide +kernel
theorem dX9_is_32 : decode cX9_is 32 = .ok (.ifCond .le 19, 3) := by decide +kernel
theorem dX9_is_35 : decode cX9_is 35 = .ok (.ldc2_w 48, 3) := by decide +kernel
theorem dX9_is_38 : decode cX9_is 38 = .ok (.lload 7, 2) := by decide +kernel
theorem dX9_is_40 : decode cX9_is 40 = .ok (.lmul, 1) := by decide +kernel
theorem dX9_is_41 : decode cX9_is 41 = .ok (.iload 4, 2) := by decide +kernel
theorem dX9_is_43 : decode cX9_is 43 = .ok (.i2l, 1) := by decide +kernel
theorem dX9_is_44 : decode cX9_is 44 = .ok (.ladd, 1) := by decide +kernel
theorem dX9_is_45 : decode cX9_is 45 = .ok (.ldc2_w 50, 3) := by decide +kernel
theorem dX9_is_48 : decode cX9_is 48 = .ok (.lsub, 1) := by decide +kernel
theorem dX9_is_49 : decode cX9_is 49 = .ok (.lstore 7, 2) := by decide +kernel
theorem dX9_is_51 : decode cX9_is 51 = .ok (.iload 5, 2) := by decide +kernel
theorem dX9_is_53 : decode cX9_is 53 = .ok (.ifCond .le 19, 3) := by decide +kernel
theorem dX9_is_56 : decode cX9_is 56 = .ok (.ldc2_w 48, 3) := by decide +kernel
theorem dX9_is_59 : decode cX9_is 59 = .ok (.lload 7, 2) := by decide +kernel
theorem dX9_is_61 : decode cX9_is 61 = .ok (.lmul, 1) := by decide +kernel
theorem dX9_is_62 : decode cX9_is 62 = .ok (.iload 5, 2) := by decide +kernel
theorem dX9_is_64 : decode cX9_is 64 = .ok (.i2l, 1) := by decide +kernel
theorem dX9_is_65 : decode cX9_is 65 = .ok (.ladd, 1) := by decide +kernel
theorem dX9_is_66 : decode cX9_is 66 = .ok (.ldc2_w 50, 3) := by decide +kernel
theorem dX9_is_69 : decode cX9_is 69 = .ok (.lsub, 1) := by decide +kernel
theorem dX9_is_70 : decode cX9_is 70 = .ok (.lstore 7, 2) := by decide +kernel
theorem dX9_is_72 : decode cX9_is 72 = .ok (.iload 6, 2) := by decide +kernel
theorem dX9_is_74 : decode cX9_is 74 = .ok (.ifCond .le 19, 3) := by decide +kernel
theorem dX9_is_77 : decode cX9_is 77 = .ok (.ldc2_w 48, 3) := by decide +kernel
theorem dX9_is_80 : decode cX9_is 80 = .ok (.lload 7, 2) := by decide +kernel
theorem dX9_is_82 : decode cX9_is 82 = .ok (.lmul, 1) := by decide +kernel
theorem dX9_is_83 : decode cX9_is 83 = .ok (.iload 6, 2) := by decide +kernel
theorem dX9_is_85 : decode cX9_is 85 = .ok (.i2l, 1) := by decide +kernel
theorem dX9_is_86 : decode cX9_is 86 = .ok (.ladd, 1) := by decide +kernel
theorem dX9_is_87 : decode cX9_is 87 = .ok (.ldc2_w 50, 3) := by decide +kernel
theorem dX9_is_90 : decode cX9_is 90 = .ok (.lsub, 1) := by decide +kernel
theorem dX9_is_91 : decode cX9_is 91 = .ok (.lstore 7, 2) := by decide +kernel
theorem dX9_is_93 : decode cX9_is 93 = .ok (.aload_n 0, 1) := by decide +kernel
theorem dX9_is_94 : decode cX9_is 94 = .ok (.getfield 27, 3) := by decide +kernel
theorem dX9_is_97 : decode cX9_is 97 = .ok (.iconst 2, 1) := by decide +kernel
theorem dX9_is_98 : decode cX9_is 98 = .ok (.if_icmp .ne 17, 3) := by decide +kernel
theorem dX9_is_101 : decode cX9_is 101 = .ok (.aload_n 0, 1) := by decide +kernel
theorem dX9_is_102 : decode cX9_is 102 = .ok (.getfield 37, 3) := by decide +kernel
theorem dX9_is_105 : decode cX9_is 105 = .ok (.lload 7, 2) := by decide +kernel
theorem dX9_is_107 : decode cX9_is 107 = .ok (.lcmp, 1) := by decide +kernel
theorem dX9_is_108 : decode cX9_is 108 = .ok (.ifCond .ne 7, 3) := by decide +kernel
theorem dX9_is_111 : decode cX9_is 111 = .ok (.iconst 1, 1) := by decide +kernel
theorem dX9_is_112 : decode cX9_is 112 = .ok (.goto 4, 3) := by decide +kernel
theorem dX9_is_115 : decode cX9_is 115 = .ok (.iconst 0, 1) := by decide +kernel
theorem dX9_is_116 : decode cX9_is 116 = .ok (.ireturn, 1) := by decide +kernel
theorem dX9_bad_0 : decode cX9_bad 0 = .ok (.aload_n 0, 1) := by decide +kernel
theorem dX9_bad_1 : decode cX9_bad 1 = .ok (.aload_n 0, 1) := by decide +kernel
theorem dX9_bad_2 : decode cX9_bad 2 = .ok (.getfield 27, 3) := by decide +kernel
theorem dX9_bad_5 : decode cX9_bad 5 = .ok (.iconst 1, 1) := by decide +kernel
theorem dX9_bad_6 : decode cX9_bad 6 = .ok (.if_icmp .ne 7, 3) := by decide +kernel
theorem dX9_bad_9 : decode cX9_bad 9 = .ok (.iconst 1, 1) := by decide +kernel
theorem dX9_bad_10 : decode cX9_bad 10 = .ok (.goto 4, 3) := by decide +kernel
theorem dX9_bad_13 : decode cX9_bad 13 = .ok (.iload_n 1, 1) := by decide +kernel
theorem dX9_bad_14 : decode cX9_bad 14 = .ok (.putfield 52, 3) := by decide +kernel
theorem dX9_bad_17 : decode cX9_bad 17 = .ok (.aload_n 0, 1) := by decide +kernel
theorem dX9_bad_18 : decode cX9_bad 18 = .ok (.aload_n 0, 1) := by decide +kernel
theorem dX9_bad_19 : decode cX9_bad 19 = .ok (.getfield 24, 3) := by decide +kernel
theorem dX9_bad_22 : decode cX9_bad 22 = .ok (.putfield 55, 3) := by decide +kernel
theorem dX9_bad_25 : decode cX9_bad 25 = .ok (.iconst 0, 1) := by decide +kernel
theorem dX9_bad_26 : decode cX9_bad 26 = .ok (.ireturn, 1) := by decide +kernel
theorem dX9_init_0 : decode cX9_init 0 = .ok (.aload_n 0, 1) := by decide +kernel
theorem dX9_init_1 : decode cX9_init 1 = .ok (.invokespecial 58, 3) := by decide +kernel
theorem dX9_init_4 : decode cX9_init 4 = .ok (.aload_n 0, 1) := by decide +kernel
theorem dX9_init_5 : decode cX9_init 5 = .ok (.sipush 840, 3) := by decide +kernel
theorem dX9_init_8 : decode cX9_init 8 = .ok (.newarray .int, 2) := by decide +kernel
theorem dX9_init_10 : decode cX9_init 10 = .ok (.putfield 7, 3) := by decide +kernel
theorem dX9_init_13 : decode cX9_init 13 = .ok (.aload_n 0, 1) := by decide +kernel
theorem dX9_init_14 : decode cX9_init 14 = .ok (.sipush 240, 3) := by decide +kernel
theorem dX9_init_17 : decode cX9_init 17 = .ok (.newarray .int, 2) := by decide +kernel
theorem dX9_init_19 : decode cX9_init 19 = .ok (.putfield 64, 3) := by decide +kernel
theorem dX9_init_22 : decode cX9_init 22 = .ok (.aload_n 0, 1) := by decide +kernel
theorem dX9_init_23 : decode cX9_init 23 = .ok (.sipush 240, 3) := by decide +kernel
theorem dX9_init_26 : decode cX9_init 26 = .ok (.newarray .int, 2) := by decide +kernel
theorem dX9_init_28 : decode cX9_init 28 = .ok (.putfield 67, 3) := by decide +kernel
theorem dX9_init_31 : decode cX9_init 31 = .ok (.aload_n 0, 1) := by decide +kernel
theorem dX9_init_32 : decode cX9_init 32 = .ok (.sipush 2880, 3) := by decide +kernel
theorem dX9_init_35 : decode cX9_init 35 = .ok (.newarray .int, 2) := by decide +kernel
theorem dX9_init_37 : decode cX9_init 37 = .ok (.putfield 70, 3) := by decide +kernel
theorem dX9_init_40 : decode cX9_init 40 = .ok (.aload_n 0, 1) := by decide +kernel
theorem dX9_init_41 : decode cX9_init 41 = .ok (.iconst 4, 1) := by decide +kernel
theorem dX9_init_42 : decode cX9_init 42 = .ok (.newarray .int, 2) := by decide +kernel
theorem dX9_init_44 : decode cX9_init 44 = .ok (.putfield 73, 3) := by decide +kernel
theorem dX9_init_47 : decode cX9_init 47 = .ok (.aload_n 0, 1) := by decide +kernel
theorem dX9_init_48 : decode cX9_init 48 = .ok (.sipush 500, 3) := by decide +kernel
theorem dX9_init_51 : decode cX9_init 51 = .ok (.newarray .int, 2) := by decide +kernel
theorem dX9_init_53 : decode cX9_init 53 = .ok (.putfield 76, 3) := by decide +kernel
theorem dX9_init_56 : decode cX9_init 56 = .ok (.aload_n 0, 1) := by decide +kernel
theorem dX9_init_57 : decode cX9_init 57 = .ok (.sipush 500, 3) := by decide +kernel
theorem dX9_init_60 : decode cX9_init 60 = .ok (.newarray .int, 2) := by decide +kernel
theorem dX9_init_62 : decode cX9_init 62 = .ok (.putfield 79, 3) := by decide +kernel
theorem dX9_init_65 : decode cX9_init 65 = .ok (.aload_n 0, 1) := by decide +kernel
theorem dX9_init_66 : decode cX9_init 66 = .ok (.sipush 10000, 3) := by decide +kernel
theorem dX9_init_69 : decode cX9_init 69 = .ok (.newarray .int, 2) := by decide +kernel
theorem dX9_init_71 : decode cX9_init 71 = .ok (.putfield 82, 3) := by decide +kernel
theorem dX9_init_74 : decode cX9_init 74 = .ok (.return_, 1) := by decide +kernel
set_option maxRecDepth 20000 in
theorem ggX9_told_X9_bad : GoodIn wsX9_told wsX9_bad := goodIn_r _ [8, 1, 9, 10, 11, 35, 36, 37, 38, 39, 40, 41, 42, 43, 44, 45, 46, 47, 48, 49, 50, 51, 52, 53, 54] rfl (by decide +kernel)
set_option maxRecDepth 20000 in
theorem gX9_told_X9_bad : GoodIn wsX9_told (wsV RX9 85 RX9 yX9_bad wsX9_bad) := goodIn_app (goodIn_r _ [4, 5, 6, 7] rfl (by decide +kernel)) ggX9_told_X9_bad
set_option maxRecDepth 20000 in
theorem ggX9_told_X9_isIn : GoodIn wsX9_told wsX9_isIn := goodIn_r _ [14] rfl (by decide +kernel)
set_option maxRecDepth 20000 in
theorem gX9_told_X9_isIn : GoodIn wsX9_told (va_wsS RX9 88 yX9_isIn wsX9_isIn) := goodIn_app (goodIn_r _ [12, 13, 7] rfl (by decide +kernel)) ggX9_told_X9_isIn
set_option maxRecDepth 20000 in
theorem ggX9_told_X9_go : GoodIn wsX9_told wsX9_go := goodIn_r _ [18, 19, 20, 21, 10, 1, 22, 2, 23, 24, 25, 26, 7, 27, 28, 29, 30, 31, 32, 33, 34, 35, 36, 37, 38, 39, 40, 41, 42, 43, 44, 45, 46, 47, 48, 49, 50, 51, 52, 53, 54] rfl (by decide +kernel)
set_option maxRecDepth 20000 in
theorem gX9_told_X9_go : GoodIn wsX9_told (wsV RX9 92 RX9 yX9_go wsX9_go) := goodIn_app (goodIn_r _ [15, 16, 17, 7] rfl (by decide +kernel)) ggX9_told_X9_go
theorem dX9_told_0 : decode cX9_told 0 = .ok (.aload_n 0, 1) := by decide +kernel
theorem dX9_told_1 : decode cX9_told 1 = .ok (.getfield 27, 3) := by decide +kernel
theorem dX9_told_4 : decode cX9_told 4 = .ok (.iconst 3, 1) := by decide +kernel
theorem dX9_told_5 : decode cX9_told 5 = .ok (.if_icmp .eq 9, 3) := by decide +kernel
theorem dX9_told_8 : decode cX9_told 8 = .ok (.aload_n 0, 1) := by decide +kernel
theorem dX9_told_9 : decode cX9_told 9 = .ok (.iconst 1, 1) := by decide +kernel
theorem dX9_told_10 : decode cX9_told 10 = .ok (.invokevirtual 85, 3) := by decide +kernel
theorem dX9_told_13 : decode cX9_told 13 = .ok (.ireturn, 1) := by decide +kernel
theorem dX9_told_14 : decode cX9_told 14 = .ok (.aload_n 0, 1) := by decide +kernel
theorem dX9_told_15 : decode cX9_told 15 = .ok (.getfield 41, 3) := by decide +kernel
theorem dX9_told_18 : decode cX9_told 18 = .ok (.iload_n 2, 1) := by decide +kernel
theorem dX9_told_19 : decode cX9_told 19 = .ok (.iload_n 3, 1) := by decide +kernel
theorem dX9_told_20 : decode cX9_told 20 = .ok (.invokestatic 88, 3) := by decide +kernel
theorem dX9_told_23 : decode cX9_told 23 = .ok (.ifCond .ne 9, 3) := by decide +kernel
theorem dX9_told_26 : decode cX9_told 26 = .ok (.aload_n 0, 1) := by decide +kernel
theorem dX9_told_27 : decode cX9_told 27 = .ok (.iconst 2, 1) := by decide +kernel
theorem dX9_told_28 : decode cX9_told 28 = .ok (.invokevirtual 85, 3) := by decide +kernel
theorem dX9_told_31 : decode cX9_told 31 = .ok (.ireturn, 1) := by decide +kernel
theorem dX9_told_32 : decode cX9_told 32 = .ok (.aload_n 0, 1) := by decide +kernel
theorem dX9_told_33 : decode cX9_told 33 = .ok (.getfield 67, 3) := by decide +kernel
theorem dX9_told_36 : decode cX9_told 36 = .ok (.iload_n 1, 1) := by decide +kernel
theorem dX9_told_37 : decode cX9_told 37 = .ok (.aload_n 0, 1) := by decide +kernel
theorem dX9_told_38 : decode cX9_told 38 = .ok (.getfield 41, 3) := by decide +kernel
theorem dX9_told_41 : decode cX9_told 41 = .ok (.iastore, 1) := by decide +kernel
theorem dX9_told_42 : decode cX9_told 42 = .ok (.aload_n 0, 1) := by decide +kernel
theorem dX9_told_43 : decode cX9_told 43 = .ok (.invokevirtual 92, 3) := by decide +kernel
theorem dX9_told_46 : decode cX9_told 46 = .ok (.iconst 1, 1) := by decide +kernel
theorem dX9_told_47 : decode cX9_told 47 = .ok (.ireturn, 1) := by decide +kernel
set_option maxRecDepth 20000 in
theorem ggX9_readYear_X9_is : GoodIn wsX9_readYear wsX9_is := goodIn_r _ [6, 7, 8, 9, 10, 44, 45, 46, 47, 48, 49, 50, 51, 52, 53, 54, 55, 56, 57, 58, 59, 60, 61, 62, 63] rfl (by decide +kernel)
set_option maxRecDepth 20000 in
theorem gX9_readYear_X9_is : GoodIn wsX9_readYear (wsV RX9 95 RX9 yX9_is wsX9_is) := goodIn_app (goodIn_r _ [2, 3, 4, 5] rfl (by decide +kernel)) ggX9_readYear_X9_is
set_option maxRecDepth 20000 in
theorem ggX9_readYear_X9_bad : GoodIn wsX9_readYear wsX9_bad := goodIn_r _ [14, 9, 15, 16, 17, 44, 45, 46, 47, 48, 49, 50, 51, 52, 53, 54, 55, 56, 57, 58, 59, 60, 61, 62, 63] rfl (by decide +kernel)
set_option maxRecDepth 20000 in
theorem gX9_readYear_X9_bad : GoodIn wsX9_readYear (wsV RX9 85 RX9 yX9_bad wsX9_bad) := goodIn_app (goodIn_r _ [11, 12, 13, 5] rfl (by decide +kernel)) ggX9_readYear_X9_bad
set_option maxRecDepth 20000 in
theorem ggX9_readYear_X9_go : GoodIn wsX9_readYear wsX9_go := goodIn_r _ [21, 22, 23, 24, 16, 9, 10, 25, 7, 8, 26, 27, 5, 28, 29, 30, 31, 32, 33, 34, 35, 44, 45, 46, 47, 48, 49, 50, 51, 52, 53, 54, 55, 56, 57, 58, 59, 60, 61, 62, 63] rfl (by decide +kernel)
set_option maxRecDepth 20000 in
theorem gX9_readYear_X9_go : GoodIn wsX9_readYear (wsV RX9 92 RX9 yX9_go wsX9_go) := goodIn_app (goodIn_r _ [18, 19, 20, 5] rfl (by decide +kernel)) ggX9_readYear_X9_go
set_option maxRecDepth 20000 in
theorem ggX9_readYear_X9_told : GoodIn wsX9_readYear wsX9_told := goodIn_r _ [39, 9, 25, 40, 11, 12, 13, 5, 14, 15, 16, 17, 41, 42, 43, 18, 19, 20, 21, 22, 23, 24, 10, 7, 8, 26, 27, 28, 29, 30, 31, 32, 33, 34, 35, 44, 45, 46, 47, 48, 49, 50, 51, 52, 53, 54, 55, 56, 57, 58, 59, 60, 61, 62, 63] rfl (by decide +kernel)
set_option maxRecDepth 20000 in
theorem gX9_readYear_X9_told : GoodIn wsX9_readYear (wsV RX9 100 RX9 yX9_told wsX9_told) := goodIn_app (goodIn_r _ [36, 37, 38, 5] rfl (by decide +kernel)) ggX9_readYear_X9_told
theorem dX9_readYear_0 : decode cX9_readYear 0 = .ok (.aload_n 0, 1) := by decide +kernel
theorem dX9_readYear_1 : decode cX9_readYear 1 = .ok (.bipush 121, 2) := by decide +kernel
theorem dX9_readYear_3 : decode cX9_readYear 3 = .ok (.bipush 101, 2) := by decide +kernel
theorem dX9_readYear_5 : decode cX9_readYear 5 = .ok (.bipush 97, 2) := by decide +kernel
theorem dX9_readYear_7 : decode cX9_readYear 7 = .ok (.bipush 114, 2) := by decide +kernel
theorem dX9_readYear_9 : decode cX9_readYear 9 = .ok (.iconst 0, 1) := by decide +kernel
theorem dX9_readYear_10 : decode cX9_readYear 10 = .ok (.iconst 0, 1) := by decide +kernel
theorem dX9_readYear_11 : decode cX9_readYear 11 = .ok (.invokevirtual 95, 3) := by decide +kernel
theorem dX9_readYear_14 : decode cX9_readYear 14 = .ok (.ifCond .ne 9, 3) := by decide +kernel
theorem dX9_readYear_17 : decode cX9_readYear 17 = .ok (.aload_n 0, 1) := by decide +kernel
theorem dX9_readYear_18 : decode cX9_readYear 18 = .ok (.iconst 1, 1) := by decide +kernel
theorem dX9_readYear_19 : decode cX9_readYear 19 = .ok (.invokevirtual 85, 3) := by decide +kernel
theorem dX9_readYear_22 : decode cX9_readYear 22 = .ok (.ireturn, 1) := by decide +kernel
theorem dX9_readYear_23 : decode cX9_readYear 23 = .ok (.aload_n 0, 1) := by decide +kernel
theorem dX9_readYear_24 : decode cX9_readYear 24 = .ok (.invokevirtual 92, 3) := by decide +kernel
theorem dX9_readYear_27 : decode cX9_readYear 27 = .ok (.aload_n 0, 1) := by decide +kernel
theorem dX9_readYear_28 : decode cX9_readYear 28 = .ok (.iconst 0, 1) := by decide +kernel
theorem dX9_readYear_29 : decode cX9_readYear 29 = .ok (.iconst 0, 1) := by decide +kernel
theorem dX9_readYear_30 : decode cX9_readYear 30 = .ok (.ldc 99, 2) := by decide +kernel
theorem dX9_readYear_32 : decode cX9_readYear 32 = .ok (.invokevirtual 100, 3) := by decide +kernel
theorem dX9_readYear_35 : decode cX9_readYear 35 = .ok (.ifCond .eq 30, 3) := by decide +kernel
theorem dX9_readYear_38 : decode cX9_readYear 38 = .ok (.aload_n 0, 1) := by decide +kernel
theorem dX9_readYear_39 : decode cX9_readYear 39 = .ok (.iconst 1, 1) := by decide +kernel
theorem dX9_readYear_40 : decode cX9_readYear 40 = .ok (.iconst 0, 1) := by decide +kernel
theorem dX9_readYear_41 : decode cX9_readYear 41 = .ok (.ldc 99, 2) := by decide +kernel
theorem dX9_readYear_43 : decode cX9_readYear 43 = .ok (.invokevirtual 100, 3) := by decide +kernel
theorem dX9_readYear_46 : decode cX9_readYear 46 = .ok (.ifCond .eq 19, 3) := by decide +kernel
theorem dX9_readYear_49 : decode cX9_readYear 49 = .ok (.aload_n 0, 1) := by decide +kernel
theorem dX9_readYear_50 : decode cX9_readYear 50 = .ok (.iconst 2, 1) := by decide +kernel
theorem dX9_readYear_51 : decode cX9_readYear 51 = .ok (.iconst 0, 1) := by decide +kernel
theorem dX9_readYear_52 : decode cX9_readYear 52 = .ok (.sipush 499, 3) := by decide +kernel
theorem dX9_readYear_55 : decode cX9_readYear 55 = .ok (.invokevirtual 100, 3) := by decide +kernel
theorem dX9_readYear_58 : decode cX9_readYear 58 = .ok (.ifCond .eq 7, 3) := by decide +kernel
theorem dX9_readYear_61 : decode cX9_readYear 61 = .ok (.iconst 1, 1) := by decide +kernel
theorem dX9_readYear_62 : decode cX9_readYear 62 = .ok (.goto 4, 3) := by decide +kernel
theorem dX9_readYear_65 : decode cX9_readYear 65 = .ok (.iconst 0, 1) := by decide +kernel
theorem dX9_readYear_66 : decode cX9_readYear 66 = .ok (.ireturn, 1) := by decide +kernel
set_option maxRecDepth 20000 in
theorem ggX9_readPeriod_X9_is : GoodIn wsX9_readPeriod wsX9_is := goodIn_r _ [6, 7, 8, 9, 10, 43, 44, 45, 46, 47, 48, 49, 50, 51, 52, 53, 54, 55, 56, 57, 58, 59, 60, 61, 62] rfl (by decide +kernel)
set_option maxRecDepth 20000 in
theorem gX9_readPeriod_X9_is : GoodIn wsX9_readPeriod (wsV RX9 95 RX9 yX9_is wsX9_is) := goodIn_app (goodIn_r _ [2, 3, 4, 5] rfl (by decide +kernel)) ggX9_readPeriod_X9_is
set_option maxRecDepth 20000 in
theorem ggX9_readPeriod_X9_bad : GoodIn wsX9_readPeriod wsX9_bad := goodIn_r _ [14, 9, 15, 16, 17, 43, 44, 45, 46, 47, 48, 49, 50, 51, 52, 53, 54, 55, 56, 57, 58, 59, 60, 61, 62] rfl (by decide +kernel)
set_option maxRecDepth 20000 in
theorem gX9_readPeriod_X9_bad : GoodIn wsX9_readPeriod (wsV RX9 85 RX9 yX9_bad wsX9_bad) := goodIn_app (goodIn_r _ [11, 12, 13, 5] rfl (by decide +kernel)) ggX9_readPeriod_X9_bad
set_option maxRecDepth 20000 in
theorem ggX9_readPeriod_X9_go : GoodIn wsX9_readPeriod wsX9_go := goodIn_r _ [21, 22, 23, 24, 16, 9, 10, 25, 7, 8, 26, 27, 5, 28, 29, 30, 31, 32, 33, 34, 35, 43, 44, 45, 46, 47, 48, 49, 50, 51, 52, 53, 54, 55, 56, 57, 58, 59, 60, 61, 62] rfl (by decide +kernel)
set_option maxRecDepth 20000 in
theorem gX9_readPeriod_X9_go : GoodIn wsX9_readPeriod (wsV RX9 92 RX9 yX9_go wsX9_go) := goodIn_app (goodIn_r _ [18, 19, 20, 5] rfl (by decide +kernel)) ggX9_readPeriod_X9_go
set_option maxRecDepth 20000 in
theorem ggX9_readPeriod_X9_told : GoodIn wsX9_readPeriod wsX9_told := goodIn_r _ [39, 9, 25, 1, 11, 12, 13, 5, 14, 15, 16, 17, 40, 41, 42, 18, 19, 20, 21, 22, 23, 24, 10, 7, 8, 26, 27, 28, 29, 30, 31, 32, 33, 34, 35, 43, 44, 45, 46, 47, 48, 49, 50, 51, 52, 53, 54, 55, 56, 57, 58, 59, 60, 61, 62] rfl (by decide +kernel)
set_option maxRecDepth 20000 in
theorem gX9_readPeriod_X9_told : GoodIn wsX9_readPeriod (wsV RX9 100 RX9 yX9_told wsX9_told) := goodIn_app (goodIn_r _ [36, 37, 38, 5] rfl (by decide +kernel)) ggX9_readPeriod_X9_told
theorem dX9_readPeriod_0 : decode cX9_readPeriod 0 = .ok (.aload_n 0, 1) := by decide +kernel
theorem dX9_readPeriod_1 : decode cX9_readPeriod 1 = .ok (.bipush 112, 2) := by decide +kernel
theorem dX9_readPeriod_3 : decode cX9_readPeriod 3 = .ok (.bipush 101, 2) := by decide +kernel
theorem dX9_readPeriod_5 : decode cX9_readPeriod 5 = .ok (.bipush 114, 2) := by decide +kernel
theorem dX9_readPeriod_7 : decode cX9_readPeriod 7 = .ok (.bipush 105, 2) := by decide +kernel
theorem dX9_readPeriod_9 : decode cX9_readPeriod 9 = .ok (.bipush 111, 2) := by decide +kernel
theorem dX9_readPeriod_11 : decode cX9_readPeriod 11 = .ok (.bipush 100, 2) := by decide +kernel
theorem dX9_readPeriod_13 : decode cX9_readPeriod 13 = .ok (.invokevirtual 95, 3) := by decide +kernel
theorem dX9_readPeriod_16 : decode cX9_readPeriod 16 = .ok (.ifCond .ne 9, 3) := by decide +kernel
theorem dX9_readPeriod_19 : decode cX9_readPeriod 19 = .ok (.aload_n 0, 1) := by decide +kernel
theorem dX9_readPeriod_20 : decode cX9_readPeriod 20 = .ok (.iconst 1, 1) := by decide +kernel
theorem dX9_readPeriod_21 : decode cX9_readPeriod 21 = .ok (.invokevirtual 85, 3) := by decide +kernel
theorem dX9_readPeriod_24 : decode cX9_readPeriod 24 = .ok (.ireturn, 1) := by decide +kernel
theorem dX9_readPeriod_25 : decode cX9_readPeriod 25 = .ok (.aload_n 0, 1) := by decide +kernel
theorem dX9_readPeriod_26 : decode cX9_readPeriod 26 = .ok (.invokevirtual 92, 3) := by decide +kernel
theorem dX9_readPeriod_29 : decode cX9_readPeriod 29 = .ok (.iload_n 1, 1) := by decide +kernel
theorem dX9_readPeriod_30 : decode cX9_readPeriod 30 = .ok (.ifCond .ne 7, 3) := by decide +kernel
theorem dX9_readPeriod_33 : decode cX9_readPeriod 33 = .ok (.iconst 0, 1) := by decide +kernel
theorem dX9_readPeriod_34 : decode cX9_readPeriod 34 = .ok (.goto 15, 3) := by decide +kernel
theorem dX9_readPeriod_37 : decode cX9_readPeriod 37 = .ok (.aload_n 0, 1) := by decide +kernel
theorem dX9_readPeriod_38 : decode cX9_readPeriod 38 = .ok (.getfield 67, 3) := by decide +kernel
theorem dX9_readPeriod_41 : decode cX9_readPeriod 41 = .ok (.iconst 3, 1) := by decide +kernel
theorem dX9_readPeriod_42 : decode cX9_readPeriod 42 = .ok (.iload_n 1, 1) := by decide +kernel
theorem dX9_readPeriod_43 : decode cX9_readPeriod 43 = .ok (.iadd, 1) := by decide +kernel
theorem dX9_readPeriod_44 : decode cX9_readPeriod 44 = .ok (.iconst 1, 1) := by decide +kernel
theorem dX9_readPeriod_45 : decode cX9_readPeriod 45 = .ok (.isub, 1) := by decide +kernel
theorem dX9_readPeriod_46 : decode cX9_readPeriod 46 = .ok (.iaload, 1) := by decide +kernel
theorem dX9_readPeriod_47 : decode cX9_readPeriod 47 = .ok (.iconst 1, 1) := by decide +kernel
theorem dX9_readPeriod_48 : decode cX9_readPeriod 48 = .ok (.iadd, 1) := by decide +kernel
theorem dX9_readPeriod_49 : decode cX9_readPeriod 49 = .ok (.istore_n 2, 1) := by decide +kernel
theorem dX9_readPeriod_50 : decode cX9_readPeriod 50 = .ok (.iload_n 1, 1) := by decide +kernel
theorem dX9_readPeriod_51 : decode cX9_readPeriod 51 = .ok (.ifCond .ne 7, 3) := by decide +kernel
theorem dX9_readPeriod_54 : decode cX9_readPeriod 54 = .ok (.iconst 0, 1) := by decide +kernel
theorem dX9_readPeriod_55 : decode cX9_readPeriod 55 = .ok (.goto 16, 3) := by decide +kernel
theorem dX9_readPeriod_58 : decode cX9_readPeriod 58 = .ok (.aload_n 0, 1) := by decide +kernel
theorem dX9_readPeriod_59 : decode cX9_readPeriod 59 = .ok (.getfield 67, 3) := by decide +kernel
theorem dX9_readPeriod_62 : decode cX9_readPeriod 62 = .ok (.bipush 7, 2) := by decide +kernel
theorem dX9_readPeriod_64 : decode cX9_readPeriod 64 = .ok (.iload_n 1, 1) := by decide +kernel
theorem dX9_readPeriod_65 : decode cX9_readPeriod 65 = .ok (.iadd, 1) := by decide +kernel
theorem dX9_readPeriod_66 : decode cX9_readPeriod 66 = .ok (.iconst 1, 1) := by decide +kernel
theorem dX9_readPeriod_67 : decode cX9_readPeriod 67 = .ok (.isub, 1) := by decide +kernel
theorem dX9_readPeriod_68 : decode cX9_readPeriod 68 = .ok (.iaload, 1) := by decide +kernel
theorem dX9_readPeriod_69 : decode cX9_readPeriod 69 = .ok (.iconst 1, 1) := by decide +kernel
theorem dX9_readPeriod_70 : decode cX9_readPeriod 70 = .ok (.iadd, 1) := by decide +kernel
theorem dX9_readPeriod_71 : decode cX9_readPeriod 71 = .ok (.istore_n 3, 1) := by decide +kernel
theorem dX9_readPeriod_72 : decode cX9_readPeriod 72 = .ok (.aload_n 0, 1) := by decide +kernel
theorem dX9_readPeriod_73 : decode cX9_readPeriod 73 = .ok (.iconst 3, 1) := by decide +kernel
theorem dX9_readPeriod_74 : decode cX9_readPeriod 74 = .ok (.iload_n 1, 1) := by decide +kernel
theorem dX9_readPeriod_75 : decode cX9_readPeriod 75 = .ok (.iadd, 1) := by decide +kernel
theorem dX9_readPeriod_76 : decode cX9_readPeriod 76 = .ok (.iload_n 2, 1) := by decide +kernel
theorem dX9_readPeriod_77 : decode cX9_readPeriod 77 = .ok (.aload_n 0, 1) := by decide +kernel
theorem dX9_readPeriod_78 : decode cX9_readPeriod 78 = .ok (.getfield 67, 3) := by decide +kernel
theorem dX9_readPeriod_81 : decode cX9_readPeriod 81 = .ok (.iconst 2, 1) := by decide +kernel
theorem dX9_readPeriod_82 : decode cX9_readPeriod 82 = .ok (.iaload, 1) := by decide +kernel
theorem dX9_readPeriod_83 : decode cX9_readPeriod 83 = .ok (.invokevirtual 100, 3) := by decide +kernel
theorem dX9_readPeriod_86 : decode cX9_readPeriod 86 = .ok (.ifCond .eq 22, 3) := by decide +kernel
theorem dX9_readPeriod_89 : decode cX9_readPeriod 89 = .ok (.aload_n 0, 1) := by decide +kernel
theorem dX9_readPeriod_90 : decode cX9_readPeriod 90 = .ok (.bipush 7, 2) := by decide +kernel
theorem dX9_readPeriod_92 : decode cX9_readPeriod 92 = .ok (.iload_n 1, 1) := by decide +kernel
theorem dX9_readPeriod_93 : decode cX9_readPeriod 93 = .ok (.iadd, 1) := by decide +kernel
theorem dX9_readPeriod_94 : decode cX9_readPeriod 94 = .ok (.iload_n 3, 1) := by decide +kernel
theorem dX9_readPeriod_95 : decode cX9_readPeriod 95 = .ok (.sipush 364, 3) := by decide +kernel
theorem dX9_readPeriod_98 : decode cX9_readPeriod 98 = .ok (.invokevirtual 100, 3) := by decide +kernel
theorem dX9_readPeriod_101 : decode cX9_readPeriod 101 = .ok (.ifCond .eq 7, 3) := by decide +kernel
theorem dX9_readPeriod_104 : decode cX9_readPeriod 104 = .ok (.iconst 1, 1) := by decide +kernel
theorem dX9_readPeriod_105 : decode cX9_readPeriod 105 = .ok (.goto 4, 3) := by decide +kernel
theorem dX9_readPeriod_108 : decode cX9_readPeriod 108 = .ok (.iconst 0, 1) := by decide +kernel
theorem dX9_readPeriod_109 : decode cX9_readPeriod 109 = .ok (.ireturn, 1) := by decide +kernel
set_option maxRecDepth 20000 in
theorem ggX9_readShare_X9_is : GoodIn wsX9_readShare wsX9_is := goodIn_r _ [5, 6, 7, 8, 9, 43, 44, 45, 46, 47, 48, 49, 50, 51, 52, 53, 54, 55, 56, 57, 58, 59, 60, 61, 62] rfl (by decide +kernel)
set_option maxRecDepth 20000 in
theorem gX9_readShare_X9_is : GoodIn wsX9_readShare (wsV RX9 95 RX9 yX9_is wsX9_is) := goodIn_app (goodIn_r _ [1, 2, 3, 4] rfl (by decide +kernel)) ggX9_readShare_X9_is
set_option maxRecDepth 20000 in
theorem ggX9_readShare_X9_bad : GoodIn wsX9_readShare wsX9_bad := goodIn_r _ [13, 8, 14, 15, 16, 43, 44, 45, 46, 47, 48, 49, 50, 51, 52, 53, 54, 55, 56, 57, 58, 59, 60, 61, 62] rfl (by decide +kernel)
set_option maxRecDepth 20000 in
theorem gX9_readShare_X9_bad : GoodIn wsX9_readShare (wsV RX9 85 RX9 yX9_bad wsX9_bad) := goodIn_app (goodIn_r _ [10, 11, 12, 4] rfl (by decide +kernel)) ggX9_readShare_X9_bad
set_option maxRecDepth 20000 in
theorem ggX9_readShare_X9_go : GoodIn wsX9_readShare wsX9_go := goodIn_r _ [20, 21, 22, 23, 15, 8, 9, 24, 6, 7, 25, 26, 4, 27, 28, 29, 30, 31, 32, 33, 34, 43, 44, 45, 46, 47, 48, 49, 50, 51, 52, 53, 54, 55, 56, 57, 58, 59, 60, 61, 62] rfl (by decide +kernel)
set_option maxRecDepth 20000 in
theorem gX9_readShare_X9_go : GoodIn wsX9_readShare (wsV RX9 92 RX9 yX9_go wsX9_go) := goodIn_app (goodIn_r _ [17, 18, 19, 4] rfl (by decide +kernel)) ggX9_readShare_X9_go
set_option maxRecDepth 20000 in
theorem ggX9_readShare_X9_told : GoodIn wsX9_readShare wsX9_told := goodIn_r _ [38, 8, 24, 39, 10, 11, 12, 4, 13, 14, 15, 16, 40, 41, 42, 17, 18, 19, 20, 21, 22, 23, 9, 6, 7, 25, 26, 27, 28, 29, 30, 31, 32, 33, 34, 43, 44, 45, 46, 47, 48, 49, 50, 51, 52, 53, 54, 55, 56, 57, 58, 59, 60, 61, 62] rfl (by decide +kernel)
set_option maxRecDepth 20000 in
theorem gX9_readShare_X9_told : GoodIn wsX9_readShare (wsV RX9 100 RX9 yX9_told wsX9_told) := goodIn_app (goodIn_r _ [35, 36, 37, 4] rfl (by decide +kernel)) ggX9_readShare_X9_told
theorem dX9_readShare_0 : decode cX9_readShare 0 = .ok (.aload_n 0, 1) := by decide +kernel
theorem dX9_readShare_1 : decode cX9_readShare 1 = .ok (.bipush 115, 2) := by decide +kernel
theorem dX9_readShare_3 : decode cX9_readShare 3 = .ok (.bipush 104, 2) := by decide +kernel
theorem dX9_readShare_5 : decode cX9_readShare 5 = .ok (.bipush 97, 2) := by decide +kernel
theorem dX9_readShare_7 : decode cX9_readShare 7 = .ok (.bipush 114, 2) := by decide +kernel
theorem dX9_readShare_9 : decode cX9_readShare 9 = .ok (.bipush 101, 2) := by decide +kernel
theorem dX9_readShare_11 : decode cX9_readShare 11 = .ok (.iconst 0, 1) := by decide +kernel
theorem dX9_readShare_12 : decode cX9_readShare 12 = .ok (.invokevirtual 95, 3) := by decide +kernel
theorem dX9_readShare_15 : decode cX9_readShare 15 = .ok (.ifCond .ne 9, 3) := by decide +kernel
theorem dX9_readShare_18 : decode cX9_readShare 18 = .ok (.aload_n 0, 1) := by decide +kernel
theorem dX9_readShare_19 : decode cX9_readShare 19 = .ok (.iconst 1, 1) := by decide +kernel
theorem dX9_readShare_20 : decode cX9_readShare 20 = .ok (.invokevirtual 85, 3) := by decide +kernel
theorem dX9_readShare_23 : decode cX9_readShare 23 = .ok (.ireturn, 1) := by decide +kernel
theorem dX9_readShare_24 : decode cX9_readShare 24 = .ok (.aload_n 0, 1) := by decide +kernel
theorem dX9_readShare_25 : decode cX9_readShare 25 = .ok (.invokevirtual 92, 3) := by decide +kernel
theorem dX9_readShare_28 : decode cX9_readShare 28 = .ok (.aload_n 0, 1) := by decide +kernel
theorem dX9_readShare_29 : decode cX9_readShare 29 = .ok (.bipush 11, 2) := by decide +kernel
theorem dX9_readShare_31 : decode cX9_readShare 31 = .ok (.iconst 0, 1) := by decide +kernel
theorem dX9_readShare_32 : decode cX9_readShare 32 = .ok (.bipush 100, 2) := by decide +kernel
theorem dX9_readShare_34 : decode cX9_readShare 34 = .ok (.invokevirtual 100, 3) := by decide +kernel
theorem dX9_readShare_37 : decode cX9_readShare 37 = .ok (.ifCond .eq 19, 3) := by decide +kernel
theorem dX9_readShare_40 : decode cX9_readShare 40 = .ok (.aload_n 0, 1) := by decide +kernel
theorem dX9_readShare_41 : decode cX9_readShare 41 = .ok (.bipush 12, 2) := by decide +kernel
theorem dX9_readShare_43 : decode cX9_readShare 43 = .ok (.iconst 0, 1) := by decide +kernel
theorem dX9_readShare_44 : decode cX9_readShare 44 = .ok (.bipush 100, 2) := by decide +kernel
theorem dX9_readShare_46 : decode cX9_readShare 46 = .ok (.invokevirtual 100, 3) := by decide +kernel
theorem dX9_readShare_49 : decode cX9_readShare 49 = .ok (.ifCond .eq 7, 3) := by decide +kernel
theorem dX9_readShare_52 : decode cX9_readShare 52 = .ok (.iconst 1, 1) := by decide +kernel
theorem dX9_readShare_53 : decode cX9_readShare 53 = .ok (.goto 4, 3) := by decide +kernel
theorem dX9_readShare_56 : decode cX9_readShare 56 = .ok (.iconst 0, 1) := by decide +kernel
theorem dX9_readShare_57 : decode cX9_readShare 57 = .ok (.ireturn, 1) := by decide +kernel
set_option maxRecDepth 20000 in
theorem ggX9_readTwo_X9_bad : GoodIn wsX9_readTwo wsX9_bad := goodIn_r _ [6, 7, 8, 9, 10, 39, 40, 41, 42, 43, 44, 45, 46, 47, 48, 49, 50, 51, 52, 53, 54, 55, 56, 57, 58] rfl (by decide +kernel)
set_option maxRecDepth 20000 in
theorem gX9_readTwo_X9_bad : GoodIn wsX9_readTwo (wsV RX9 85 RX9 yX9_bad wsX9_bad) := goodIn_app (goodIn_r _ [2, 3, 4, 5] rfl (by decide +kernel)) ggX9_readTwo_X9_bad
set_option maxRecDepth 20000 in
theorem ggX9_readTwo_X9_go : GoodIn wsX9_readTwo wsX9_go := goodIn_r _ [14, 15, 16, 17, 9, 7, 18, 19, 20, 21, 22, 23, 5, 24, 25, 26, 27, 28, 29, 30, 31, 39, 40, 41, 42, 43, 44, 45, 46, 47, 48, 49, 50, 51, 52, 53, 54, 55, 56, 57, 58] rfl (by decide +kernel)
set_option maxRecDepth 20000 in
theorem gX9_readTwo_X9_go : GoodIn wsX9_readTwo (wsV RX9 92 RX9 yX9_go wsX9_go) := goodIn_app (goodIn_r _ [11, 12, 13, 5] rfl (by decide +kernel)) ggX9_readTwo_X9_go
set_option maxRecDepth 20000 in
theorem ggX9_readTwo_X9_told : GoodIn wsX9_readTwo wsX9_told := goodIn_r _ [35, 7, 19, 1, 2, 3, 4, 5, 6, 8, 9, 10, 36, 37, 38, 11, 12, 13, 14, 15, 16, 17, 18, 20, 21, 22, 23, 24, 25, 26, 27, 28, 29, 30, 31, 39, 40, 41, 42, 43, 44, 45, 46, 47, 48, 49, 50, 51, 52, 53, 54, 55, 56, 57, 58] rfl (by decide +kernel)
set_option maxRecDepth 20000 in
theorem gX9_readTwo_X9_told : GoodIn wsX9_readTwo (wsV RX9 100 RX9 yX9_told wsX9_told) := goodIn_app (goodIn_r _ [32, 33, 34, 5] rfl (by decide +kernel)) ggX9_readTwo_X9_told
theorem dX9_readTwo_0 : decode cX9_readTwo 0 = .ok (.aload_n 0, 1) := by decide +kernel
theorem dX9_readTwo_1 : decode cX9_readTwo 1 = .ok (.getfield 67, 3) := by decide +kernel
theorem dX9_readTwo_4 : decode cX9_readTwo 4 = .ok (.iload_n 1, 1) := by decide +kernel
theorem dX9_readTwo_5 : decode cX9_readTwo 5 = .ok (.iaload, 1) := by decide +kernel
theorem dX9_readTwo_6 : decode cX9_readTwo 6 = .ok (.iload_n 2, 1) := by decide +kernel
theorem dX9_readTwo_7 : decode cX9_readTwo 7 = .ok (.if_icmp .ne 9, 3) := by decide +kernel
theorem dX9_readTwo_10 : decode cX9_readTwo 10 = .ok (.aload_n 0, 1) := by decide +kernel
theorem dX9_readTwo_11 : decode cX9_readTwo 11 = .ok (.iconst 3, 1) := by decide +kernel
theorem dX9_readTwo_12 : decode cX9_readTwo 12 = .ok (.invokevirtual 85, 3) := by decide +kernel
theorem dX9_readTwo_15 : decode cX9_readTwo 15 = .ok (.ireturn, 1) := by decide +kernel
theorem dX9_readTwo_16 : decode cX9_readTwo 16 = .ok (.aload_n 0, 1) := by decide +kernel
theorem dX9_readTwo_17 : decode cX9_readTwo 17 = .ok (.invokevirtual 92, 3) := by decide +kernel
theorem dX9_readTwo_20 : decode cX9_readTwo 20 = .ok (.iload_n 1, 1) := by decide +kernel
theorem dX9_readTwo_21 : decode cX9_readTwo 21 = .ok (.iconst 1, 1) := by decide +kernel
theorem dX9_readTwo_22 : decode cX9_readTwo 22 = .ok (.iadd, 1) := by decide +kernel
theorem dX9_readTwo_23 : decode cX9_readTwo 23 = .ok (.iconst 2, 1) := by decide +kernel
theorem dX9_readTwo_24 : decode cX9_readTwo 24 = .ok (.aload_n 0, 1) := by decide +kernel
theorem dX9_readTwo_25 : decode cX9_readTwo 25 = .ok (.getfield 67, 3) := by decide +kernel
theorem dX9_readTwo_28 : decode cX9_readTwo 28 = .ok (.iload_n 1, 1) := by decide +kernel
theorem dX9_readTwo_29 : decode cX9_readTwo 29 = .ok (.iaload, 1) := by decide +kernel
theorem dX9_readTwo_30 : decode cX9_readTwo 30 = .ok (.imul, 1) := by decide +kernel
theorem dX9_readTwo_31 : decode cX9_readTwo 31 = .ok (.iadd, 1) := by decide +kernel
theorem dX9_readTwo_32 : decode cX9_readTwo 32 = .ok (.istore 7, 2) := by decide +kernel
theorem dX9_readTwo_34 : decode cX9_readTwo 34 = .ok (.aload_n 0, 1) := by decide +kernel
theorem dX9_readTwo_35 : decode cX9_readTwo 35 = .ok (.iload 7, 2) := by decide +kernel
theorem dX9_readTwo_37 : decode cX9_readTwo 37 = .ok (.iload_n 3, 1) := by decide +kernel
theorem dX9_readTwo_38 : decode cX9_readTwo 38 = .ok (.iload 4, 2) := by decide +kernel
theorem dX9_readTwo_40 : decode cX9_readTwo 40 = .ok (.invokevirtual 100, 3) := by decide +kernel
theorem dX9_readTwo_43 : decode cX9_readTwo 43 = .ok (.ifCond .eq 18, 3) := by decide +kernel
theorem dX9_readTwo_46 : decode cX9_readTwo 46 = .ok (.aload_n 0, 1) := by decide +kernel
theorem dX9_readTwo_47 : decode cX9_readTwo 47 = .ok (.iload 7, 2) := by decide +kernel
theorem dX9_readTwo_49 : decode cX9_readTwo 49 = .ok (.iconst 1, 1) := by decide +kernel
theorem dX9_readTwo_50 : decode cX9_readTwo 50 = .ok (.iadd, 1) := by decide +kernel
theorem dX9_readTwo_51 : decode cX9_readTwo 51 = .ok (.iload 5, 2) := by decide +kernel
theorem dX9_readTwo_53 : decode cX9_readTwo 53 = .ok (.iload 6, 2) := by decide +kernel
theorem dX9_readTwo_55 : decode cX9_readTwo 55 = .ok (.invokevirtual 100, 3) := by decide +kernel
theorem dX9_readTwo_58 : decode cX9_readTwo 58 = .ok (.ifCond .ne 5, 3) := by decide +kernel
theorem dX9_readTwo_61 : decode cX9_readTwo 61 = .ok (.iconst 0, 1) := by decide +kernel
theorem dX9_readTwo_62 : decode cX9_readTwo 62 = .ok (.ireturn, 1) := by decide +kernel
theorem dX9_readTwo_63 : decode cX9_readTwo 63 = .ok (.aload_n 0, 1) := by decide +kernel
theorem dX9_readTwo_64 : decode cX9_readTwo 64 = .ok (.getfield 67, 3) := by decide +kernel
theorem dX9_readTwo_67 : decode cX9_readTwo 67 = .ok (.iload_n 1, 1) := by decide +kernel
theorem dX9_readTwo_68 : decode cX9_readTwo 68 = .ok (.dup2, 1) := by decide +kernel
theorem dX9_readTwo_69 : decode cX9_readTwo 69 = .ok (.iaload, 1) := by decide +kernel
theorem dX9_readTwo_70 : decode cX9_readTwo 70 = .ok (.iconst 1, 1) := by decide +kernel
theorem dX9_readTwo_71 : decode cX9_readTwo 71 = .ok (.iadd, 1) := by decide +kernel
theorem dX9_readTwo_72 : decode cX9_readTwo 72 = .ok (.iastore, 1) := by decide +kernel
theorem dX9_readTwo_73 : decode cX9_readTwo 73 = .ok (.iconst 1, 1) := by decide +kernel
theorem dX9_readTwo_74 : decode cX9_readTwo 74 = .ok (.ireturn, 1) := by decide +kernel
set_option maxRecDepth 20000 in
theorem ggX9_readOther_X9_is : GoodIn wsX9_readOther wsX9_is := goodIn_r _ [7, 8, 9, 10, 11, 48, 49, 50, 51, 52, 53, 54, 55, 56, 57, 58, 59, 60, 61, 62, 63, 64, 65, 66, 67] rfl (by decide +kernel)
set_option maxRecDepth 20000 in
theorem gX9_readOther_X9_is : GoodIn wsX9_readOther (wsV RX9 95 RX9 yX9_is wsX9_is) := goodIn_app (goodIn_r _ [3, 4, 5, 6] rfl (by decide +kernel)) ggX9_readOther_X9_is
set_option maxRecDepth 20000 in
theorem ggX9_readOther_X9_readTwo : GoodIn wsX9_readOther wsX9_readTwo := goodIn_r _ [15, 1, 16, 17, 18, 6, 19, 10, 20, 21, 22, 23, 24, 25, 26, 27, 28, 29, 11, 30, 8, 9, 31, 32, 33, 34, 35, 36, 37, 38, 39, 40, 41, 42, 43, 44, 45, 46, 47, 48, 49, 50, 51, 52, 53, 54, 55, 56, 57, 58, 59, 60, 61, 62, 63, 64, 65, 66, 67] rfl (by decide +kernel)
set_option maxRecDepth 20000 in
theorem gX9_readOther_X9_readTwo : GoodIn wsX9_readOther (wsV RX9 103 RX9 yX9_readTwo wsX9_readTwo) := goodIn_app (goodIn_r _ [12, 13, 14, 6] rfl (by decide +kernel)) ggX9_readOther_X9_readTwo
set_option maxRecDepth 20000 in
theorem ggX9_readOther_X9_bad : GoodIn wsX9_readOther wsX9_bad := goodIn_r _ [19, 10, 20, 21, 22, 48, 49, 50, 51, 52, 53, 54, 55, 56, 57, 58, 59, 60, 61, 62, 63, 64, 65, 66, 67] rfl (by decide +kernel)
set_option maxRecDepth 20000 in
theorem gX9_readOther_X9_bad : GoodIn wsX9_readOther (wsV RX9 85 RX9 yX9_bad wsX9_bad) := goodIn_app (goodIn_r _ [16, 17, 18, 6] rfl (by decide +kernel)) ggX9_readOther_X9_bad
set_option maxRecDepth 20000 in
theorem ggX9_readOther_X9_go : GoodIn wsX9_readOther wsX9_go := goodIn_r _ [26, 27, 28, 29, 21, 10, 11, 30, 8, 9, 31, 32, 6, 33, 34, 35, 36, 37, 38, 39, 40, 48, 49, 50, 51, 52, 53, 54, 55, 56, 57, 58, 59, 60, 61, 62, 63, 64, 65, 66, 67] rfl (by decide +kernel)
set_option maxRecDepth 20000 in
theorem gX9_readOther_X9_go : GoodIn wsX9_readOther (wsV RX9 92 RX9 yX9_go wsX9_go) := goodIn_app (goodIn_r _ [23, 24, 25, 6] rfl (by decide +kernel)) ggX9_readOther_X9_go
set_option maxRecDepth 20000 in
theorem ggX9_readOther_X9_told : GoodIn wsX9_readOther wsX9_told := goodIn_r _ [44, 10, 30, 1, 16, 17, 18, 6, 19, 20, 21, 22, 45, 46, 47, 23, 24, 25, 26, 27, 28, 29, 11, 8, 9, 31, 32, 33, 34, 35, 36, 37, 38, 39, 40, 48, 49, 50, 51, 52, 53, 54, 55, 56, 57, 58, 59, 60, 61, 62, 63, 64, 65, 66, 67] rfl (by decide +kernel)
set_option maxRecDepth 20000 in
theorem gX9_readOther_X9_told : GoodIn wsX9_readOther (wsV RX9 100 RX9 yX9_told wsX9_told) := goodIn_app (goodIn_r _ [41, 42, 43, 6] rfl (by decide +kernel)) ggX9_readOther_X9_told
theorem dX9_readOther_0 : decode cX9_readOther 0 = .ok (.aload_n 0, 1) := by decide +kernel
theorem dX9_readOther_1 : decode cX9_readOther 1 = .ok (.getfield 67, 3) := by decide +kernel
theorem dX9_readOther_4 : decode cX9_readOther 4 = .ok (.bipush 13, 2) := by decide +kernel
theorem dX9_readOther_6 : decode cX9_readOther 6 = .ok (.iaload, 1) := by decide +kernel
theorem dX9_readOther_7 : decode cX9_readOther 7 = .ok (.istore_n 1, 1) := by decide +kernel
theorem dX9_readOther_8 : decode cX9_readOther 8 = .ok (.aload_n 0, 1) := by decide +kernel
theorem dX9_readOther_9 : decode cX9_readOther 9 = .ok (.getfield 67, 3) := by decide +kernel
theorem dX9_readOther_12 : decode cX9_readOther 12 = .ok (.bipush 23, 2) := by decide +kernel
theorem dX9_readOther_14 : decode cX9_readOther 14 = .ok (.iaload, 1) := by decide +kernel
theorem dX9_readOther_15 : decode cX9_readOther 15 = .ok (.istore_n 2, 1) := by decide +kernel
theorem dX9_readOther_16 : decode cX9_readOther 16 = .ok (.aload_n 0, 1) := by decide +kernel
theorem dX9_readOther_17 : decode cX9_readOther 17 = .ok (.bipush 117, 2) := by decide +kernel
theorem dX9_readOther_19 : decode cX9_readOther 19 = .ok (.bipush 112, 2) := by decide +kernel
theorem dX9_readOther_21 : decode cX9_readOther 21 = .ok (.bipush 116, 2) := by decide +kernel
theorem dX9_readOther_23 : decode cX9_readOther 23 = .ok (.bipush 111, 2) := by decide +kernel
theorem dX9_readOther_25 : decode cX9_readOther 25 = .ok (.iconst 0, 1) := by decide +kernel
theorem dX9_readOther_26 : decode cX9_readOther 26 = .ok (.iconst 0, 1) := by decide +kernel
theorem dX9_readOther_27 : decode cX9_readOther 27 = .ok (.invokevirtual 95, 3) := by decide +kernel
theorem dX9_readOther_30 : decode cX9_readOther 30 = .ok (.ifCond .eq 39, 3) := by decide +kernel
theorem dX9_readOther_33 : decode cX9_readOther 33 = .ok (.aload_n 0, 1) := by decide +kernel
theorem dX9_readOther_34 : decode cX9_readOther 34 = .ok (.bipush 13, 2) := by decide +kernel
theorem dX9_readOther_36 : decode cX9_readOther 36 = .ok (.iconst 4, 1) := by decide +kernel
theorem dX9_readOther_37 : decode cX9_readOther 37 = .ok (.iload_n 1, 1) := by decide +kernel
theorem dX9_readOther_38 : decode cX9_readOther 38 = .ok (.ifCond .ne 7, 3) := by decide +kernel
theorem dX9_readOther_41 : decode cX9_readOther 41 = .ok (.iconst 1, 1) := by decide +kernel
theorem dX9_readOther_42 : decode cX9_readOther 42 = .ok (.goto 18, 3) := by decide +kernel
theorem dX9_readOther_45 : decode cX9_readOther 45 = .ok (.aload_n 0, 1) := by decide +kernel
theorem dX9_readOther_46 : decode cX9_readOther 46 = .ok (.getfield 67, 3) := by decide +kernel
theorem dX9_readOther_49 : decode cX9_readOther 49 = .ok (.bipush 14, 2) := by decide +kernel
theorem dX9_readOther_51 : decode cX9_readOther 51 = .ok (.iconst 2, 1) := by decide +kernel
theorem dX9_readOther_52 : decode cX9_readOther 52 = .ok (.iload_n 1, 1) := by decide +kernel
theorem dX9_readOther_53 : decode cX9_readOther 53 = .ok (.imul, 1) := by decide +kernel
theorem dX9_readOther_54 : decode cX9_readOther 54 = .ok (.iadd, 1) := by decide +kernel
theorem dX9_readOther_55 : decode cX9_readOther 55 = .ok (.iconst 2, 1) := by decide +kernel
theorem dX9_readOther_56 : decode cX9_readOther 56 = .ok (.isub, 1) := by decide +kernel
theorem dX9_readOther_57 : decode cX9_readOther 57 = .ok (.iaload, 1) := by decide +kernel
theorem dX9_readOther_58 : decode cX9_readOther 58 = .ok (.iconst 1, 1) := by decide +kernel
theorem dX9_readOther_59 : decode cX9_readOther 59 = .ok (.iadd, 1) := by decide +kernel
theorem dX9_readOther_60 : decode cX9_readOther 60 = .ok (.ldc 99, 2) := by decide +kernel
theorem dX9_readOther_62 : decode cX9_readOther 62 = .ok (.iconst 0, 1) := by decide +kernel
theorem dX9_readOther_63 : decode cX9_readOther 63 = .ok (.bipush 99, 2) := by decide +kernel
theorem dX9_readOther_65 : decode cX9_readOther 65 = .ok (.invokevirtual 103, 3) := by decide +kernel
theorem dX9_readOther_68 : decode cX9_readOther 68 = .ok (.ireturn, 1) := by decide +kernel
theorem dX9_readOther_69 : decode cX9_readOther 69 = .ok (.aload_n 0, 1) := by decide +kernel
theorem dX9_readOther_70 : decode cX9_readOther 70 = .ok (.bipush 114, 2) := by decide +kernel
theorem dX9_readOther_72 : decode cX9_readOther 72 = .ok (.bipush 97, 2) := by decide +kernel
theorem dX9_readOther_74 : decode cX9_readOther 74 = .ok (.bipush 116, 2) := by decide +kernel
theorem dX9_readOther_76 : decode cX9_readOther 76 = .ok (.bipush 101, 2) := by decide +kernel
theorem dX9_readOther_78 : decode cX9_readOther 78 = .ok (.iconst 0, 1) := by decide +kernel
theorem dX9_readOther_79 : decode cX9_readOther 79 = .ok (.iconst 0, 1) := by decide +kernel
theorem dX9_readOther_80 : decode cX9_readOther 80 = .ok (.invokevirtual 95, 3) := by decide +kernel
theorem dX9_readOther_83 : decode cX9_readOther 83 = .ok (.ifCond .eq 41, 3) := by decide +kernel
theorem dX9_readOther_86 : decode cX9_readOther 86 = .ok (.aload_n 0, 1) := by decide +kernel
theorem dX9_readOther_87 : decode cX9_readOther 87 = .ok (.bipush 23, 2) := by decide +kernel
theorem dX9_readOther_89 : decode cX9_readOther 89 = .ok (.bipush 6, 2) := by decide +kernel
theorem dX9_readOther_91 : decode cX9_readOther 91 = .ok (.iload_n 2, 1) := by decide +kernel
theorem dX9_readOther_92 : decode cX9_readOther 92 = .ok (.ifCond .ne 7, 3) := by decide +kernel
theorem dX9_readOther_95 : decode cX9_readOther 95 = .ok (.iconst 0, 1) := by decide +kernel
theorem dX9_readOther_96 : decode cX9_readOther 96 = .ok (.goto 18, 3) := by decide +kernel
theorem dX9_readOther_99 : decode cX9_readOther 99 = .ok (.aload_n 0, 1) := by decide +kernel
theorem dX9_readOther_100 : decode cX9_readOther 100 = .ok (.getfield 67, 3) := by decide +kernel
theorem dX9_readOther_103 : decode cX9_readOther 103 = .ok (.bipush 24, 2) := by decide +kernel
theorem dX9_readOther_105 : decode cX9_readOther 105 = .ok (.iconst 2, 1) := by decide +kernel
theorem dX9_readOther_106 : decode cX9_readOther 106 = .ok (.iload_n 2, 1) := by decide +kernel
theorem dX9_readOther_107 : decode cX9_readOther 107 = .ok (.imul, 1) := by decide +kernel
theorem dX9_readOther_108 : decode cX9_readOther 108 = .ok (.iadd, 1) := by decide +kernel
theorem dX9_readOther_109 : decode cX9_readOther 109 = .ok (.iconst 2, 1) := by decide +kernel
theorem dX9_readOther_110 : decode cX9_readOther 110 = .ok (.isub, 1) := by decide +kernel
theorem dX9_readOther_111 : decode cX9_readOther 111 = .ok (.iaload, 1) := by decide +kernel
theorem dX9_readOther_112 : decode cX9_readOther 112 = .ok (.iconst 1, 1) := by decide +kernel
theorem dX9_readOther_113 : decode cX9_readOther 113 = .ok (.iadd, 1) := by decide +kernel
theorem dX9_readOther_114 : decode cX9_readOther 114 = .ok (.sipush 499, 3) := by decide +kernel
theorem dX9_readOther_117 : decode cX9_readOther 117 = .ok (.iconst 0, 1) := by decide +kernel
theorem dX9_readOther_118 : decode cX9_readOther 118 = .ok (.bipush 99, 2) := by decide +kernel
theorem dX9_readOther_120 : decode cX9_readOther 120 = .ok (.invokevirtual 103, 3) := by decide +kernel
theorem dX9_readOther_123 : decode cX9_readOther 123 = .ok (.ireturn, 1) := by decide +kernel
theorem dX9_readOther_124 : decode cX9_readOther 124 = .ok (.aload_n 0, 1) := by decide +kernel
theorem dX9_readOther_125 : decode cX9_readOther 125 = .ok (.bipush 105, 2) := by decide +kernel
theorem dX9_readOther_127 : decode cX9_readOther 127 = .ok (.bipush 110, 2) := by decide +kernel
theorem dX9_readOther_129 : decode cX9_readOther 129 = .ok (.bipush 99, 2) := by decide +kernel
theorem dX9_readOther_131 : decode cX9_readOther 131 = .ok (.bipush 111, 2) := by decide +kernel
theorem dX9_readOther_133 : decode cX9_readOther 133 = .ok (.bipush 109, 2) := by decide +kernel
theorem dX9_readOther_135 : decode cX9_readOther 135 = .ok (.bipush 101, 2) := by decide +kernel
theorem dX9_readOther_137 : decode cX9_readOther 137 = .ok (.invokevirtual 95, 3) := by decide +kernel
theorem dX9_readOther_140 : decode cX9_readOther 140 = .ok (.ifCond .eq 19, 3) := by decide +kernel
theorem dX9_readOther_143 : decode cX9_readOther 143 = .ok (.aload_n 0, 1) := by decide +kernel
theorem dX9_readOther_144 : decode cX9_readOther 144 = .ok (.bipush 36, 2) := by decide +kernel
theorem dX9_readOther_146 : decode cX9_readOther 146 = .ok (.bipush 20, 2) := by decide +kernel
theorem dX9_readOther_148 : decode cX9_readOther 148 = .ok (.iconst 0, 1) := by decide +kernel
theorem dX9_readOther_149 : decode cX9_readOther 149 = .ok (.sipush 364, 3) := by decide +kernel
theorem dX9_readOther_152 : decode cX9_readOther 152 = .ok (.iconst 1, 1) := by decide +kernel
theorem dX9_readOther_153 : decode cX9_readOther 153 = .ok (.ldc 99, 2) := by decide +kernel
theorem dX9_readOther_155 : decode cX9_readOther 155 = .ok (.invokevirtual 103, 3) := by decide +kernel
theorem dX9_readOther_158 : decode cX9_readOther 158 = .ok (.ireturn, 1) := by decide +kernel
theorem dX9_readOther_159 : decode cX9_readOther 159 = .ok (.aload_n 0, 1) := by decide +kernel
theorem dX9_readOther_160 : decode cX9_readOther 160 = .ok (.bipush 112, 2) := by decide +kernel
theorem dX9_readOther_162 : decode cX9_readOther 162 = .ok (.bipush 97, 2) := by decide +kernel
theorem dX9_readOther_164 : decode cX9_readOther 164 = .ok (.bipush 121, 2) := by decide +kernel
theorem dX9_readOther_166 : decode cX9_readOther 166 = .ok (.iconst 0, 1) := by decide +kernel
theorem dX9_readOther_167 : decode cX9_readOther 167 = .ok (.iconst 0, 1) := by decide +kernel
theorem dX9_readOther_168 : decode cX9_readOther 168 = .ok (.iconst 0, 1) := by decide +kernel
theorem dX9_readOther_169 : decode cX9_readOther 169 = .ok (.invokevirtual 95, 3) := by decide +kernel
theorem dX9_readOther_172 : decode cX9_readOther 172 = .ok (.ifCond .eq 19, 3) := by decide +kernel
theorem dX9_readOther_175 : decode cX9_readOther 175 = .ok (.aload_n 0, 1) := by decide +kernel
theorem dX9_readOther_176 : decode cX9_readOther 176 = .ok (.bipush 117, 2) := by decide +kernel
theorem dX9_readOther_178 : decode cX9_readOther 178 = .ok (.bipush 20, 2) := by decide +kernel
theorem dX9_readOther_180 : decode cX9_readOther 180 = .ok (.iconst 0, 1) := by decide +kernel
theorem dX9_readOther_181 : decode cX9_readOther 181 = .ok (.sipush 499, 3) := by decide +kernel
theorem dX9_readOther_184 : decode cX9_readOther 184 = .ok (.iconst 1, 1) := by decide +kernel
theorem dX9_readOther_185 : decode cX9_readOther 185 = .ok (.ldc 99, 2) := by decide +kernel
theorem dX9_readOther_187 : decode cX9_readOther 187 = .ok (.invokevirtual 103, 3) := by decide +kernel
theorem dX9_readOther_190 : decode cX9_readOther 190 = .ok (.ireturn, 1) := by decide +kernel
theorem dX9_readOther_191 : decode cX9_readOther 191 = .ok (.aload_n 0, 1) := by decide +kernel
theorem dX9_readOther_192 : decode cX9_readOther 192 = .ok (.bipush 111, 2) := by decide +kernel
theorem dX9_readOther_194 : decode cX9_readOther 194 = .ok (.bipush 118, 2) := by decide +kernel
theorem dX9_readOther_196 : decode cX9_readOther 196 = .ok (.bipush 101, 2) := by decide +kernel
theorem dX9_readOther_198 : decode cX9_readOther 198 = .ok (.bipush 114, 2) := by decide +kernel
theorem dX9_readOther_200 : decode cX9_readOther 200 = .ok (.iconst 0, 1) := by decide +kernel
theorem dX9_readOther_201 : decode cX9_readOther 201 = .ok (.iconst 0, 1) := by decide +kernel
theorem dX9_readOther_202 : decode cX9_readOther 202 = .ok (.invokevirtual 95, 3) := by decide +kernel
theorem dX9_readOther_205 : decode cX9_readOther 205 = .ok (.ifCond .ne 9, 3) := by decide +kernel
theorem dX9_readOther_208 : decode cX9_readOther 208 = .ok (.aload_n 0, 1) := by decide +kernel
theorem dX9_readOther_209 : decode cX9_readOther 209 = .ok (.iconst 1, 1) := by decide +kernel
theorem dX9_readOther_210 : decode cX9_readOther 210 = .ok (.invokevirtual 85, 3) := by decide +kernel
theorem dX9_readOther_213 : decode cX9_readOther 213 = .ok (.ireturn, 1) := by decide +kernel
theorem dX9_readOther_214 : decode cX9_readOther 214 = .ok (.aload_n 0, 1) := by decide +kernel
theorem dX9_readOther_215 : decode cX9_readOther 215 = .ok (.getfield 67, 3) := by decide +kernel
theorem dX9_readOther_218 : decode cX9_readOther 218 = .ok (.bipush 22, 2) := by decide +kernel
theorem dX9_readOther_220 : decode cX9_readOther 220 = .ok (.iaload, 1) := by decide +kernel
theorem dX9_readOther_221 : decode cX9_readOther 221 = .ok (.ifCond .le 9, 3) := by decide +kernel
theorem dX9_readOther_224 : decode cX9_readOther 224 = .ok (.aload_n 0, 1) := by decide +kernel
theorem dX9_readOther_225 : decode cX9_readOther 225 = .ok (.iconst 3, 1) := by decide +kernel
theorem dX9_readOther_226 : decode cX9_readOther 226 = .ok (.invokevirtual 85, 3) := by decide +kernel
theorem dX9_readOther_229 : decode cX9_readOther 229 = .ok (.ireturn, 1) := by decide +kernel
theorem dX9_readOther_230 : decode cX9_readOther 230 = .ok (.aload_n 0, 1) := by decide +kernel
theorem dX9_readOther_231 : decode cX9_readOther 231 = .ok (.invokevirtual 92, 3) := by decide +kernel
theorem dX9_readOther_234 : decode cX9_readOther 234 = .ok (.aload_n 0, 1) := by decide +kernel
theorem dX9_readOther_235 : decode cX9_readOther 235 = .ok (.bipush 22, 2) := by decide +kernel
theorem dX9_readOther_237 : decode cX9_readOther 237 = .ok (.iconst 0, 1) := by decide +kernel
theorem dX9_readOther_238 : decode cX9_readOther 238 = .ok (.bipush 99, 2) := by decide +kernel
theorem dX9_readOther_240 : decode cX9_readOther 240 = .ok (.invokevirtual 100, 3) := by decide +kernel
theorem dX9_readOther_243 : decode cX9_readOther 243 = .ok (.ifCond .ne 5, 3) := by decide +kernel
theorem dX9_readOther_246 : decode cX9_readOther 246 = .ok (.iconst 0, 1) := by decide +kernel
theorem dX9_readOther_247 : decode cX9_readOther 247 = .ok (.ireturn, 1) := by decide +kernel
theorem dX9_readOther_248 : decode cX9_readOther 248 = .ok (.aload_n 0, 1) := by decide +kernel
theorem dX9_readOther_249 : decode cX9_readOther 249 = .ok (.getfield 67, 3) := by decide +kernel
theorem dX9_readOther_252 : decode cX9_readOther 252 = .ok (.bipush 22, 2) := by decide +kernel
theorem dX9_readOther_254 : decode cX9_readOther 254 = .ok (.dup2, 1) := by decide +kernel
theorem dX9_readOther_255 : decode cX9_readOther 255 = .ok (.iaload, 1) := by decide +kernel
theorem dX9_readOther_256 : decode cX9_readOther 256 = .ok (.iconst 1, 1) := by decide +kernel
theorem dX9_readOther_257 : decode cX9_readOther 257 = .ok (.iadd, 1) := by decide +kernel
theorem dX9_readOther_258 : decode cX9_readOther 258 = .ok (.iastore, 1) := by decide +kernel
theorem dX9_readOther_259 : decode cX9_readOther 259 = .ok (.iconst 1, 1) := by decide +kernel
theorem dX9_readOther_260 : decode cX9_readOther 260 = .ok (.ireturn, 1) := by decide +kernel
set_option maxRecDepth 20000 in
theorem ggX9_readLine_X9_readYear : GoodIn wsX9_readLine wsX9_readYear := goodIn_r _ [5, 6, 7, 8, 9, 4, 10, 11, 12, 13, 14, 15, 16, 17, 18, 19, 20, 21, 22, 23, 24, 25, 26, 27, 28, 29, 30, 31, 32, 33, 34, 35, 36, 37, 38, 39, 40, 41, 42, 43, 44, 45, 46, 47, 64, 65, 66, 67, 68, 69, 70, 71, 72, 73, 74, 75, 76, 77, 78, 79, 80, 81, 82, 83] rfl (by decide +kernel)
set_option maxRecDepth 20000 in
theorem gX9_readLine_X9_readYear : GoodIn wsX9_readLine (wsV RX9 106 RX9 yX9_readYear wsX9_readYear) := goodIn_app (goodIn_r _ [1, 2, 3, 4] rfl (by decide +kernel)) ggX9_readLine_X9_readYear
set_option maxRecDepth 20000 in
theorem ggX9_readLine_X9_readPeriod : GoodIn wsX9_readLine wsX9_readPeriod := goodIn_r _ [51, 44, 7, 8, 9, 4, 10, 11, 12, 13, 14, 15, 16, 17, 18, 19, 20, 21, 22, 23, 24, 25, 26, 27, 28, 29, 30, 31, 32, 33, 34, 35, 36, 37, 38, 39, 40, 41, 42, 43, 45, 46, 47, 64, 65, 66, 67, 68, 69, 70, 71, 72, 73, 74, 75, 76, 77, 78, 79, 80, 81, 82, 83] rfl (by decide +kernel)
set_option maxRecDepth 20000 in
theorem gX9_readLine_X9_readPeriod : GoodIn wsX9_readLine (wsV RX9 110 RX9 yX9_readPeriod wsX9_readPeriod) := goodIn_app (goodIn_r _ [48, 49, 50, 4] rfl (by decide +kernel)) ggX9_readLine_X9_readPeriod
set_option maxRecDepth 20000 in
theorem ggX9_readLine_X9_readShare : GoodIn wsX9_readLine wsX9_readShare := goodIn_r _ [55, 7, 8, 9, 4, 10, 11, 12, 13, 14, 15, 16, 17, 18, 19, 20, 21, 22, 23, 24, 25, 26, 27, 28, 29, 30, 31, 32, 33, 34, 35, 36, 37, 38, 39, 40, 41, 42, 43, 44, 45, 46, 47, 64, 65, 66, 67, 68, 69, 70, 71, 72, 73, 74, 75, 76, 77, 78, 79, 80, 81, 82, 83] rfl (by decide +kernel)
set_option maxRecDepth 20000 in
theorem gX9_readLine_X9_readShare : GoodIn wsX9_readLine (wsV RX9 113 RX9 yX9_readShare wsX9_readShare) := goodIn_app (goodIn_r _ [52, 53, 54, 4] rfl (by decide +kernel)) ggX9_readLine_X9_readShare
set_option maxRecDepth 20000 in
theorem ggX9_readLine_X9_readOther : GoodIn wsX9_readLine wsX9_readOther := goodIn_r _ [59, 44, 6, 7, 8, 9, 4, 10, 11, 12, 13, 14, 60, 61, 62, 63, 15, 16, 17, 18, 19, 20, 21, 22, 23, 24, 25, 26, 27, 28, 29, 30, 31, 32, 33, 34, 35, 36, 37, 38, 39, 40, 41, 42, 43, 45, 46, 47, 64, 65, 66, 67, 68, 69, 70, 71, 72, 73, 74, 75, 76, 77, 78, 79, 80, 81, 82, 83] rfl (by decide +kernel)
set_option maxRecDepth 20000 in
theorem gX9_readLine_X9_readOther : GoodIn wsX9_readLine (wsV RX9 116 RX9 yX9_readOther wsX9_readOther) := goodIn_app (goodIn_r _ [56, 57, 58, 4] rfl (by decide +kernel)) ggX9_readLine_X9_readOther
theorem dX9_readLine_0 : decode cX9_readLine 0 = .ok (.iload_n 1, 1) := by decide +kernel
theorem dX9_readLine_1 : decode cX9_readLine 1 = .ok (.ifCond .ne 10, 3) := by decide +kernel
theorem dX9_readLine_4 : decode cX9_readLine 4 = .ok (.aload_n 0, 1) := by decide +kernel
theorem dX9_readLine_5 : decode cX9_readLine 5 = .ok (.invokevirtual 106, 3) := by decide +kernel
theorem dX9_readLine_8 : decode cX9_readLine 8 = .ok (.goto 34, 3) := by decide +kernel
theorem dX9_readLine_11 : decode cX9_readLine 11 = .ok (.iload_n 1, 1) := by decide +kernel
theorem dX9_readLine_12 : decode cX9_readLine 12 = .ok (.iconst 4, 1) := by decide +kernel
theorem dX9_readLine_13 : decode cX9_readLine 13 = .ok (.if_icmp .gt 13, 3) := by decide +kernel
theorem dX9_readLine_16 : decode cX9_readLine 16 = .ok (.aload_n 0, 1) := by decide +kernel
theorem dX9_readLine_17 : decode cX9_readLine 17 = .ok (.iload_n 1, 1) := by decide +kernel
theorem dX9_readLine_18 : decode cX9_readLine 18 = .ok (.iconst 1, 1) := by decide +kernel
theorem dX9_readLine_19 : decode cX9_readLine 19 = .ok (.isub, 1) := by decide +kernel
theorem dX9_readLine_20 : decode cX9_readLine 20 = .ok (.invokevirtual 110, 3) := by decide +kernel
theorem dX9_readLine_23 : decode cX9_readLine 23 = .ok (.goto 19, 3) := by decide +kernel
theorem dX9_readLine_26 : decode cX9_readLine 26 = .ok (.iload_n 1, 1) := by decide +kernel
theorem dX9_readLine_27 : decode cX9_readLine 27 = .ok (.iconst 5, 1) := by decide +kernel
theorem dX9_readLine_28 : decode cX9_readLine 28 = .ok (.if_icmp .ne 10, 3) := by decide +kernel
theorem dX9_readLine_31 : decode cX9_readLine 31 = .ok (.aload_n 0, 1) := by decide +kernel
theorem dX9_readLine_32 : decode cX9_readLine 32 = .ok (.invokevirtual 113, 3) := by decide +kernel
theorem dX9_readLine_35 : decode cX9_readLine 35 = .ok (.goto 7, 3) := by decide +kernel
theorem dX9_readLine_38 : decode cX9_readLine 38 = .ok (.aload_n 0, 1) := by decide +kernel
theorem dX9_readLine_39 : decode cX9_readLine 39 = .ok (.invokevirtual 116, 3) := by decide +kernel
theorem dX9_readLine_42 : decode cX9_readLine 42 = .ok (.ireturn, 1) := by decide +kernel
set_option maxRecDepth 20000 in
theorem ggX9_readEnd_X9_bad : GoodIn wsX9_readEnd wsX9_bad := goodIn_r _ [6, 1, 7, 8, 9, 31, 32, 33, 34, 35, 36, 37, 38, 39, 40, 41, 42, 43, 44, 45, 46, 47, 48, 49, 50] rfl (by decide +kernel)
set_option maxRecDepth 20000 in
theorem gX9_readEnd_X9_bad : GoodIn wsX9_readEnd (wsV RX9 85 RX9 yX9_bad wsX9_bad) := goodIn_app (goodIn_r _ [2, 3, 4, 5] rfl (by decide +kernel)) ggX9_readEnd_X9_bad
set_option maxRecDepth 20000 in
theorem ggX9_readEnd_X9_go : GoodIn wsX9_readEnd wsX9_go := goodIn_r _ [13, 14, 15, 16, 8, 1, 17, 18, 19, 20, 21, 22, 5, 23, 24, 25, 26, 27, 28, 29, 30, 31, 32, 33, 34, 35, 36, 37, 38, 39, 40, 41, 42, 43, 44, 45, 46, 47, 48, 49, 50] rfl (by decide +kernel)
set_option maxRecDepth 20000 in
theorem gX9_readEnd_X9_go : GoodIn wsX9_readEnd (wsV RX9 92 RX9 yX9_go wsX9_go) := goodIn_app (goodIn_r _ [10, 11, 12, 5] rfl (by decide +kernel)) ggX9_readEnd_X9_go
theorem dX9_readEnd_0 : decode cX9_readEnd 0 = .ok (.aload_n 0, 1) := by decide +kernel
theorem dX9_readEnd_1 : decode cX9_readEnd 1 = .ok (.getfield 27, 3) := by decide +kernel
theorem dX9_readEnd_4 : decode cX9_readEnd 4 = .ok (.iconst 4, 1) := by decide +kernel
theorem dX9_readEnd_5 : decode cX9_readEnd 5 = .ok (.if_icmp .eq 9, 3) := by decide +kernel
theorem dX9_readEnd_8 : decode cX9_readEnd 8 = .ok (.aload_n 0, 1) := by decide +kernel
theorem dX9_readEnd_9 : decode cX9_readEnd 9 = .ok (.iconst 1, 1) := by decide +kernel
theorem dX9_readEnd_10 : decode cX9_readEnd 10 = .ok (.invokevirtual 85, 3) := by decide +kernel
theorem dX9_readEnd_13 : decode cX9_readEnd 13 = .ok (.ireturn, 1) := by decide +kernel
theorem dX9_readEnd_14 : decode cX9_readEnd 14 = .ok (.aload_n 0, 1) := by decide +kernel
theorem dX9_readEnd_15 : decode cX9_readEnd 15 = .ok (.invokevirtual 92, 3) := by decide +kernel
theorem dX9_readEnd_18 : decode cX9_readEnd 18 = .ok (.iconst 1, 1) := by decide +kernel
theorem dX9_readEnd_19 : decode cX9_readEnd 19 = .ok (.ireturn, 1) := by decide +kernel
set_option maxRecDepth 20000 in
theorem ggX9_text_X9_go : GoodIn wsX9_text wsX9_go := goodIn_r _ [15, 5, 3, 16, 17, 7, 18, 19, 20, 21, 22, 23, 14, 24, 25, 26, 27, 28, 29, 30, 31, 76, 77, 78, 79, 80, 81, 82, 83, 84, 85, 86, 87, 88, 89, 90, 91, 92, 93, 94, 95] rfl (by decide +kernel)
set_option maxRecDepth 20000 in
theorem gX9_text_X9_go : GoodIn wsX9_text (wsV RX9 92 RX9 yX9_go wsX9_go) := goodIn_app (goodIn_r _ [11, 12, 13, 14] rfl (by decide +kernel)) ggX9_text_X9_go
set_option maxRecDepth 20000 in
theorem ggX9_text_X9_readLine : GoodIn wsX9_text wsX9_readLine := goodIn_r _ [35, 36, 37, 38, 14, 39, 40, 41, 42, 43, 44, 20, 21, 7, 18, 45, 46, 47, 48, 4, 17, 8, 11, 12, 13, 15, 5, 3, 16, 19, 22, 23, 24, 25, 26, 27, 28, 29, 30, 31, 49, 50, 51, 52, 6, 53, 54, 55, 56, 57, 58, 59, 60, 61, 62, 63, 64, 65, 66, 67, 68, 69, 70, 71, 76, 77, 78, 79, 80, 81, 82, 83, 84, 85, 86, 87, 88, 89, 90, 91, 92, 93, 94, 95] rfl (by decide +kernel)
set_option maxRecDepth 20000 in
theorem gX9_text_X9_readLine : GoodIn wsX9_text (wsV RX9 119 RX9 yX9_readLine wsX9_readLine) := goodIn_app (goodIn_r _ [32, 33, 34, 14] rfl (by decide +kernel)) ggX9_text_X9_readLine
set_option maxRecDepth 20000 in
theorem ggX9_text_X9_readEnd : GoodIn wsX9_text wsX9_readEnd := goodIn_r _ [75, 7, 45, 46, 47, 14, 48, 4, 17, 8, 11, 12, 13, 15, 5, 3, 16, 18, 19, 20, 21, 22, 23, 24, 25, 26, 27, 28, 29, 30, 31, 76, 77, 78, 79, 80, 81, 82, 83, 84, 85, 86, 87, 88, 89, 90, 91, 92, 93, 94, 95] rfl (by decide +kernel)
set_option maxRecDepth 20000 in
theorem gX9_text_X9_readEnd : GoodIn wsX9_text (wsV RX9 122 RX9 yX9_readEnd wsX9_readEnd) := goodIn_app (goodIn_r _ [72, 73, 74, 14] rfl (by decide +kernel)) ggX9_text_X9_readEnd
theorem dX9_text_0 : decode cX9_text 0 = .ok (.aload_n 0, 1) := by decide +kernel
theorem dX9_text_1 : decode cX9_text 1 = .ok (.iconst 0, 1) := by decide +kernel
theorem dX9_text_2 : decode cX9_text 2 = .ok (.putfield 1, 3) := by decide +kernel
theorem dX9_text_5 : decode cX9_text 5 = .ok (.aload_n 0, 1) := by decide +kernel
theorem dX9_text_6 : decode cX9_text 6 = .ok (.aload_n 0, 1) := by decide +kernel
theorem dX9_text_7 : decode cX9_text 7 = .ok (.getfield 11, 3) := by decide +kernel
theorem dX9_text_10 : decode cX9_text 10 = .ok (.putfield 18, 3) := by decide +kernel
theorem dX9_text_13 : decode cX9_text 13 = .ok (.aload_n 0, 1) := by decide +kernel
theorem dX9_text_14 : decode cX9_text 14 = .ok (.iconst 0, 1) := by decide +kernel
theorem dX9_text_15 : decode cX9_text 15 = .ok (.putfield 11, 3) := by decide +kernel
theorem dX9_text_18 : decode cX9_text 18 = .ok (.aload_n 0, 1) := by decide +kernel
theorem dX9_text_19 : decode cX9_text 19 = .ok (.iconst 0, 1) := by decide +kernel
theorem dX9_text_20 : decode cX9_text 20 = .ok (.putfield 52, 3) := by decide +kernel
theorem dX9_text_23 : decode cX9_text 23 = .ok (.aload_n 0, 1) := by decide +kernel
theorem dX9_text_24 : decode cX9_text 24 = .ok (.iconst 0, 1) := by decide +kernel
theorem dX9_text_25 : decode cX9_text 25 = .ok (.putfield 21, 3) := by decide +kernel
theorem dX9_text_28 : decode cX9_text 28 = .ok (.iconst 0, 1) := by decide +kernel
theorem dX9_text_29 : decode cX9_text 29 = .ok (.istore_n 1, 1) := by decide +kernel
theorem dX9_text_30 : decode cX9_text 30 = .ok (.iconst 0, 1) := by decide +kernel
theorem dX9_text_31 : decode cX9_text 31 = .ok (.istore_n 2, 1) := by decide +kernel
theorem dX9_text_32 : decode cX9_text 32 = .ok (.iload_n 2, 1) := by decide +kernel
theorem dX9_text_33 : decode cX9_text 33 = .ok (.sipush 240, 3) := by decide +kernel
theorem dX9_text_36 : decode cX9_text 36 = .ok (.if_icmp .ge 16, 3) := by decide +kernel
theorem dX9_text_39 : decode cX9_text 39 = .ok (.aload_n 0, 1) := by decide +kernel
theorem dX9_text_40 : decode cX9_text 40 = .ok (.getfield 67, 3) := by decide +kernel
theorem dX9_text_43 : decode cX9_text 43 = .ok (.iload_n 2, 1) := by decide +kernel
theorem dX9_text_44 : decode cX9_text 44 = .ok (.iconst 0, 1) := by decide +kernel
theorem dX9_text_45 : decode cX9_text 45 = .ok (.iastore, 1) := by decide +kernel
theorem dX9_text_46 : decode cX9_text 46 = .ok (.iinc 2 1, 3) := by decide +kernel
theorem dX9_text_49 : decode cX9_text 49 = .ok (.goto (-17), 3) := by decide +kernel
theorem dX9_text_52 : decode cX9_text 52 = .ok (.aload_n 0, 1) := by decide +kernel
theorem dX9_text_53 : decode cX9_text 53 = .ok (.invokevirtual 92, 3) := by decide +kernel
theorem dX9_text_56 : decode cX9_text 56 = .ok (.aload_n 0, 1) := by decide +kernel
theorem dX9_text_57 : decode cX9_text 57 = .ok (.getfield 27, 3) := by decide +kernel
theorem dX9_text_60 : decode cX9_text 60 = .ok (.ifCond .ne 13, 3) := by decide +kernel
theorem dX9_text_63 : decode cX9_text 63 = .ok (.iload_n 1, 1) := by decide +kernel
theorem dX9_text_64 : decode cX9_text 64 = .ok (.ifCond .le 37, 3) := by decide +kernel
theorem dX9_text_67 : decode cX9_text 67 = .ok (.iload_n 1, 1) := by decide +kernel
theorem dX9_text_68 : decode cX9_text 68 = .ok (.bipush 6, 2) := by decide +kernel
theorem dX9_text_70 : decode cX9_text 70 = .ok (.if_icmp .ge 31, 3) := by decide +kernel
theorem dX9_text_73 : decode cX9_text 73 = .ok (.aload_n 0, 1) := by decide +kernel
theorem dX9_text_74 : decode cX9_text 74 = .ok (.iload_n 1, 1) := by decide +kernel
theorem dX9_text_75 : decode cX9_text 75 = .ok (.invokevirtual 119, 3) := by decide +kernel
theorem dX9_text_78 : decode cX9_text 78 = .ok (.ifCond .eq 10, 3) := by decide +kernel
theorem dX9_text_81 : decode cX9_text 81 = .ok (.aload_n 0, 1) := by decide +kernel
theorem dX9_text_82 : decode cX9_text 82 = .ok (.invokevirtual 122, 3) := by decide +kernel
theorem dX9_text_85 : decode cX9_text 85 = .ok (.ifCond .ne 10, 3) := by decide +kernel
theorem dX9_text_88 : decode cX9_text 88 = .ok (.iconst (-1), 1) := by decide +kernel
theorem dX9_text_89 : decode cX9_text 89 = .ok (.aload_n 0, 1) := by decide +kernel
theorem dX9_text_90 : decode cX9_text 90 = .ok (.getfield 55, 3) := by decide +kernel
theorem dX9_text_93 : decode cX9_text 93 = .ok (.isub, 1) := by decide +kernel
theorem dX9_text_94 : decode cX9_text 94 = .ok (.ireturn, 1) := by decide +kernel
theorem dX9_text_95 : decode cX9_text 95 = .ok (.iinc 1 1, 3) := by decide +kernel
theorem dX9_text_98 : decode cX9_text 98 = .ok (.goto (-42), 3) := by decide +kernel
theorem dX9_text_101 : decode cX9_text 101 = .ok (.iconst 0, 1) := by decide +kernel
theorem dX9_text_102 : decode cX9_text 102 = .ok (.istore_n 2, 1) := by decide +kernel
theorem dX9_text_103 : decode cX9_text 103 = .ok (.iload_n 2, 1) := by decide +kernel
theorem dX9_text_104 : decode cX9_text 104 = .ok (.sipush 240, 3) := by decide +kernel
theorem dX9_text_107 : decode cX9_text 107 = .ok (.if_icmp .ge 21, 3) := by decide +kernel
theorem dX9_text_110 : decode cX9_text 110 = .ok (.aload_n 0, 1) := by decide +kernel
theorem dX9_text_111 : decode cX9_text 111 = .ok (.getfield 64, 3) := by decide +kernel
theorem dX9_text_114 : decode cX9_text 114 = .ok (.iload_n 2, 1) := by decide +kernel
theorem dX9_text_115 : decode cX9_text 115 = .ok (.aload_n 0, 1) := by decide +kernel
theorem dX9_text_116 : decode cX9_text 116 = .ok (.getfield 67, 3) := by decide +kernel
theorem dX9_text_119 : decode cX9_text 119 = .ok (.iload_n 2, 1) := by decide +kernel
theorem dX9_text_120 : decode cX9_text 120 = .ok (.iaload, 1) := by decide +kernel
theorem dX9_text_121 : decode cX9_text 121 = .ok (.iastore, 1) := by decide +kernel
theorem dX9_text_122 : decode cX9_text 122 = .ok (.iinc 2 1, 3) := by decide +kernel
theorem dX9_text_125 : decode cX9_text 125 = .ok (.goto (-22), 3) := by decide +kernel
theorem dX9_text_128 : decode cX9_text 128 = .ok (.aload_n 0, 1) := by decide +kernel
