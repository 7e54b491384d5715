theorem dX1_chooseLeast_86 : decode cX1_chooseLeast 86 = .ok (.iload_n 3, 1) := by decide +kernel
theorem dX1_chooseLeast_87 : decode cX1_chooseLeast 87 = .ok (.iload 4, 2) := by decide +kernel
theorem dX1_chooseLeast_89 : decode cX1_chooseLeast 89 = .ok (.iastore, 1) := by decide +kernel
theorem dX1_chooseLeast_90 : decode cX1_chooseLeast 90 = .ok (.aload_n 0, 1) := by decide +kernel
theorem dX1_chooseLeast_91 : decode cX1_chooseLeast 91 = .ok (.getfield 15, 3) := by decide +kernel
theorem dX1_chooseLeast_94 : decode cX1_chooseLeast 94 = .ok (.iload_n 3, 1) := by decide +kernel
theorem dX1_chooseLeast_95 : decode cX1_chooseLeast 95 = .ok (.iload 5, 2) := by decide +kernel
theorem dX1_chooseLeast_97 : decode cX1_chooseLeast 97 = .ok (.iastore, 1) := by decide +kernel
theorem dX1_chooseLeast_98 : decode cX1_chooseLeast 98 = .ok (.return_, 1) := by decide +kernel
theorem dX1_leastOf_0 : decode cX1_leastOf 0 = .ok (.iload_n 1, 1) := by decide +kernel
theorem dX1_leastOf_1 : decode cX1_leastOf 1 = .ok (.ifCond .lt 21, 3) := by decide +kernel
theorem dX1_leastOf_4 : decode cX1_leastOf 4 = .ok (.iload_n 1, 1) := by decide +kernel
theorem dX1_leastOf_5 : decode cX1_leastOf 5 = .ok (.aload_n 0, 1) := by decide +kernel
theorem dX1_leastOf_6 : decode cX1_leastOf 6 = .ok (.getfield 9, 3) := by decide +kernel
theorem dX1_leastOf_9 : decode cX1_leastOf 9 = .ok (.arraylength, 1) := by decide +kernel
theorem dX1_leastOf_10 : decode cX1_leastOf 10 = .ok (.if_icmp .ge 12, 3) := by decide +kernel
theorem dX1_leastOf_13 : decode cX1_leastOf 13 = .ok (.aload_n 0, 1) := by decide +kernel
theorem dX1_leastOf_14 : decode cX1_leastOf 14 = .ok (.getfield 9, 3) := by decide +kernel
theorem dX1_leastOf_17 : decode cX1_leastOf 17 = .ok (.iload_n 1, 1) := by decide +kernel
theorem dX1_leastOf_18 : decode cX1_leastOf 18 = .ok (.iaload, 1) := by decide +kernel
theorem dX1_leastOf_19 : decode cX1_leastOf 19 = .ok (.goto 4, 3) := by decide +kernel
theorem dX1_leastOf_22 : decode cX1_leastOf 22 = .ok (.iconst 0, 1) := by decide +kernel
theorem dX1_leastOf_23 : decode cX1_leastOf 23 = .ok (.ireturn, 1) := by decide +kernel
theorem dX1_ruleOf_0 : decode cX1_ruleOf 0 = .ok (.iload_n 1, 1) := by decide +kernel
theorem dX1_ruleOf_1 : decode cX1_ruleOf 1 = .ok (.ifCond .lt 21, 3) := by decide +kernel
theorem dX1_ruleOf_4 : decode cX1_ruleOf 4 = .ok (.iload_n 1, 1) := by decide +kernel
theorem dX1_ruleOf_5 : decode cX1_ruleOf 5 = .ok (.aload_n 0, 1) := by decide +kernel
theorem dX1_ruleOf_6 : decode cX1_ruleOf 6 = .ok (.getfield 15, 3) := by decide +kernel
theorem dX1_ruleOf_9 : decode cX1_ruleOf 9 = .ok (.arraylength, 1) := by decide +kernel
theorem dX1_ruleOf_10 : decode cX1_ruleOf 10 = .ok (.if_icmp .ge 12, 3) := by decide +kernel
theorem dX1_ruleOf_13 : decode cX1_ruleOf 13 = .ok (.aload_n 0, 1) := by decide +kernel
theorem dX1_ruleOf_14 : decode cX1_ruleOf 14 = .ok (.getfield 15, 3) := by decide +kernel
theorem dX1_ruleOf_17 : decode cX1_ruleOf 17 = .ok (.iload_n 1, 1) := by decide +kernel
theorem dX1_ruleOf_18 : decode cX1_ruleOf 18 = .ok (.iaload, 1) := by decide +kernel
theorem dX1_ruleOf_19 : decode cX1_ruleOf 19 = .ok (.goto 4, 3) := by decide +kernel
theorem dX1_ruleOf_22 : decode cX1_ruleOf 22 = .ok (.iconst 0, 1) := by decide +kernel
theorem dX1_ruleOf_23 : decode cX1_ruleOf 23 = .ok (.ireturn, 1) := by decide +kernel
theorem dX1_through_0 : decode cX1_through 0 = .ok (.iload_n 1, 1) := by decide +kernel
theorem dX1_through_1 : decode cX1_through 1 = .ok (.ifCond .lt 21, 3) := by decide +kernel
theorem dX1_through_4 : decode cX1_through 4 = .ok (.iload_n 1, 1) := by decide +kernel
theorem dX1_through_5 : decode cX1_through 5 = .ok (.aload_n 0, 1) := by decide +kernel
theorem dX1_through_6 : decode cX1_through 6 = .ok (.getfield 18, 3) := by decide +kernel
theorem dX1_through_9 : decode cX1_through 9 = .ok (.arraylength, 1) := by decide +kernel
theorem dX1_through_10 : decode cX1_through 10 = .ok (.if_icmp .ge 12, 3) := by decide +kernel
theorem dX1_through_13 : decode cX1_through 13 = .ok (.aload_n 0, 1) := by decide +kernel
theorem dX1_through_14 : decode cX1_through 14 = .ok (.getfield 18, 3) := by decide +kernel
theorem dX1_through_17 : decode cX1_through 17 = .ok (.iload_n 1, 1) := by decide +kernel
theorem dX1_through_18 : decode cX1_through 18 = .ok (.iaload, 1) := by decide +kernel
theorem dX1_through_19 : decode cX1_through 19 = .ok (.goto 4, 3) := by decide +kernel
theorem dX1_through_22 : decode cX1_through 22 = .ok (.iconst 0, 1) := by decide +kernel
theorem dX1_through_23 : decode cX1_through 23 = .ok (.ireturn, 1) := by decide +kernel
set_option maxRecDepth 20000 in
theorem ggX1_instalment_X1_through : GoodIn wsX1_instalment wsX1_through := goodIn_r _ [5, 6, 7, 8, 9] rfl (by decide +kernel)
set_option maxRecDepth 20000 in
theorem gX1_instalment_X1_through : GoodIn wsX1_instalment (wsV RX1 40 RX1 yX1_through wsX1_through) := goodIn_app (goodIn_r _ [1, 2, 3, 4] rfl (by decide +kernel)) ggX1_instalment_X1_through
theorem dX1_instalment_0 : decode cX1_instalment 0 = .ok (.aload_n 0, 1) := by decide +kernel
theorem dX1_instalment_1 : decode cX1_instalment 1 = .ok (.iload_n 1, 1) := by decide +kernel
theorem dX1_instalment_2 : decode cX1_instalment 2 = .ok (.invokevirtual 40, 3) := by decide +kernel
theorem dX1_instalment_5 : decode cX1_instalment 5 = .ok (.aload_n 0, 1) := by decide +kernel
theorem dX1_instalment_6 : decode cX1_instalment 6 = .ok (.iload_n 1, 1) := by decide +kernel
theorem dX1_instalment_7 : decode cX1_instalment 7 = .ok (.iconst 1, 1) := by decide +kernel
theorem dX1_instalment_8 : decode cX1_instalment 8 = .ok (.isub, 1) := by decide +kernel
theorem dX1_instalment_9 : decode cX1_instalment 9 = .ok (.invokevirtual 40, 3) := by decide +kernel
theorem dX1_instalment_12 : decode cX1_instalment 12 = .ok (.isub, 1) := by decide +kernel
theorem dX1_instalment_13 : decode cX1_instalment 13 = .ok (.ireturn, 1) := by decide +kernel
set_option maxRecDepth 20000 in
theorem ggX1_uncovered_X1_instalment : GoodIn wsX1_uncovered wsX1_instalment := goodIn_r _ [12, 13, 14, 15, 11, 16, 17, 18, 19, 20] rfl (by decide +kernel)
set_option maxRecDepth 20000 in
theorem gX1_uncovered_X1_instalment : GoodIn wsX1_uncovered (wsV RX1 43 RX1 yX1_instalment wsX1_instalment) := goodIn_app (goodIn_r _ [8, 9, 10, 11] rfl (by decide +kernel)) ggX1_uncovered_X1_instalment
set_option maxRecDepth 20000 in
theorem ggX1_uncovered_X1_through : GoodIn wsX1_uncovered wsX1_through := goodIn_r _ [16, 17, 18, 19, 20] rfl (by decide +kernel)
set_option maxRecDepth 20000 in
theorem gX1_uncovered_X1_through : GoodIn wsX1_uncovered (wsV RX1 40 RX1 yX1_through wsX1_through) := goodIn_app (goodIn_r _ [13, 14, 15, 11] rfl (by decide +kernel)) ggX1_uncovered_X1_through
theorem dX1_uncovered_0 : decode cX1_uncovered 0 = .ok (.iconst 0, 1) := by decide +kernel
theorem dX1_uncovered_1 : decode cX1_uncovered 1 = .ok (.aload_n 0, 1) := by decide +kernel
theorem dX1_uncovered_2 : decode cX1_uncovered 2 = .ok (.iload_n 1, 1) := by decide +kernel
theorem dX1_uncovered_3 : decode cX1_uncovered 3 = .ok (.invokevirtual 43, 3) := by decide +kernel
theorem dX1_uncovered_6 : decode cX1_uncovered 6 = .ok (.aload_n 0, 1) := by decide +kernel
theorem dX1_uncovered_7 : decode cX1_uncovered 7 = .ok (.iload_n 1, 1) := by decide +kernel
theorem dX1_uncovered_8 : decode cX1_uncovered 8 = .ok (.invokevirtual 40, 3) := by decide +kernel
theorem dX1_uncovered_11 : decode cX1_uncovered 11 = .ok (.iload_n 2, 1) := by decide +kernel
theorem dX1_uncovered_12 : decode cX1_uncovered 12 = .ok (.isub, 1) := by decide +kernel
theorem dX1_uncovered_13 : decode cX1_uncovered 13 = .ok (.invokestatic 46, 3) := by decide +kernel
theorem dX1_uncovered_16 : decode cX1_uncovered 16 = .ok (.invokestatic 29, 3) := by decide +kernel
theorem dX1_uncovered_19 : decode cX1_uncovered 19 = .ok (.ireturn, 1) := by decide +kernel
set_option maxRecDepth 20000 in
theorem ggX1_dueBy_X5_first : GoodIn wsX1_dueBy wsX5_first := goodIn_r _ [6, 7, 8, 33, 34, 35] rfl (by decide +kernel)
set_option maxRecDepth 20000 in
theorem gX1_dueBy_X5_first : GoodIn wsX1_dueBy (wsV RX1 53 RX5 yX5_first wsX5_first) := goodIn_app (goodIn_r _ [2, 3, 4, 5] rfl (by decide +kernel)) ggX1_dueBy_X5_first
set_option maxRecDepth 20000 in
theorem ggX1_dueBy_X1_instalment : GoodIn wsX1_dueBy wsX1_instalment := goodIn_r _ [13, 14, 15, 16, 12, 17, 18, 36, 37, 38] rfl (by decide +kernel)
set_option maxRecDepth 20000 in
theorem gX1_dueBy_X1_instalment : GoodIn wsX1_dueBy (wsV RX1 43 RX1 yX1_instalment wsX1_instalment) := goodIn_app (goodIn_r _ [9, 10, 11, 12] rfl (by decide +kernel)) ggX1_dueBy_X1_instalment
theorem dX1_dueBy_0 : decode cX1_dueBy 0 = .ok (.iconst 0, 1) := by decide +kernel
theorem dX1_dueBy_1 : decode cX1_dueBy 1 = .ok (.istore_n 3, 1) := by decide +kernel
theorem dX1_dueBy_2 : decode cX1_dueBy 2 = .ok (.iconst 0, 1) := by decide +kernel
theorem dX1_dueBy_3 : decode cX1_dueBy 3 = .ok (.istore 4, 2) := by decide +kernel
theorem dX1_dueBy_5 : decode cX1_dueBy 5 = .ok (.iload 4, 2) := by decide +kernel
theorem dX1_dueBy_7 : decode cX1_dueBy 7 = .ok (.iconst 4, 1) := by decide +kernel
theorem dX1_dueBy_8 : decode cX1_dueBy 8 = .ok (.if_icmp .ge 31, 3) := by decide +kernel
theorem dX1_dueBy_11 : decode cX1_dueBy 11 = .ok (.aload_n 2, 1) := by decide +kernel
theorem dX1_dueBy_12 : decode cX1_dueBy 12 = .ok (.getfield 49, 3) := by decide +kernel
theorem dX1_dueBy_15 : decode cX1_dueBy 15 = .ok (.iload 4, 2) := by decide +kernel
theorem dX1_dueBy_17 : decode cX1_dueBy 17 = .ok (.invokevirtual 53, 3) := by decide +kernel
theorem dX1_dueBy_20 : decode cX1_dueBy 20 = .ok (.iload_n 1, 1) := by decide +kernel
theorem dX1_dueBy_21 : decode cX1_dueBy 21 = .ok (.if_icmp .gt 12, 3) := by decide +kernel
theorem dX1_dueBy_24 : decode cX1_dueBy 24 = .ok (.iload_n 3, 1) := by decide +kernel
theorem dX1_dueBy_25 : decode cX1_dueBy 25 = .ok (.aload_n 0, 1) := by decide +kernel
theorem dX1_dueBy_26 : decode cX1_dueBy 26 = .ok (.iload 4, 2) := by decide +kernel
theorem dX1_dueBy_28 : decode cX1_dueBy 28 = .ok (.invokevirtual 43, 3) := by decide +kernel
theorem dX1_dueBy_31 : decode cX1_dueBy 31 = .ok (.iadd, 1) := by decide +kernel
theorem dX1_dueBy_32 : decode cX1_dueBy 32 = .ok (.istore_n 3, 1) := by decide +kernel
theorem dX1_dueBy_33 : decode cX1_dueBy 33 = .ok (.iinc 4 1, 3) := by decide +kernel
theorem dX1_dueBy_36 : decode cX1_dueBy 36 = .ok (.goto (-31), 3) := by decide +kernel
theorem dX1_dueBy_39 : decode cX1_dueBy 39 = .ok (.iload_n 3, 1) := by decide +kernel
theorem dX1_dueBy_40 : decode cX1_dueBy 40 = .ok (.ireturn, 1) := by decide +kernel
theorem dX2_init_0 : decode cX2_init 0 = .ok (.aload_n 0, 1) := by decide +kernel
theorem dX2_init_1 : decode cX2_init 1 = .ok (.invokespecial 1, 3) := by decide +kernel
theorem dX2_init_4 : decode cX2_init 4 = .ok (.aload_n 0, 1) := by decide +kernel
theorem dX2_init_5 : decode cX2_init 5 = .ok (.bipush 12, 2) := by decide +kernel
theorem dX2_init_7 : decode cX2_init 7 = .ok (.newarray .int, 2) := by decide +kernel
theorem dX2_init_9 : decode cX2_init 9 = .ok (.putfield 9, 3) := by decide +kernel
theorem dX2_init_12 : decode cX2_init 12 = .ok (.return_, 1) := by decide +kernel
set_option maxRecDepth 20000 in
theorem ggX2_keep_X2_forgetOldest : GoodIn wsX2_keep wsX2_forgetOldest := goodIn_r _ [7, 2, 1, 8, 9] rfl (by decide +kernel)
set_option maxRecDepth 20000 in
theorem gX2_keep_X2_forgetOldest : GoodIn wsX2_keep (wsV RX2 17 RX2 yX2_forgetOldest wsX2_forgetOldest) := goodIn_app (goodIn_r _ [3, 4, 5, 6] rfl (by decide +kernel)) ggX2_keep_X2_forgetOldest
theorem dX2_keep_0 : decode cX2_keep 0 = .ok (.aload_n 0, 1) := by decide +kernel
theorem dX2_keep_1 : decode cX2_keep 1 = .ok (.getfield 13, 3) := by decide +kernel
theorem dX2_keep_4 : decode cX2_keep 4 = .ok (.aload_n 0, 1) := by decide +kernel
theorem dX2_keep_5 : decode cX2_keep 5 = .ok (.getfield 9, 3) := by decide +kernel
theorem dX2_keep_8 : decode cX2_keep 8 = .ok (.arraylength, 1) := by decide +kernel
theorem dX2_keep_9 : decode cX2_keep 9 = .ok (.if_icmp .lt 7, 3) := by decide +kernel
theorem dX2_keep_12 : decode cX2_keep 12 = .ok (.aload_n 0, 1) := by decide +kernel
theorem dX2_keep_13 : decode cX2_keep 13 = .ok (.invokevirtual 17, 3) := by decide +kernel
theorem dX2_keep_16 : decode cX2_keep 16 = .ok (.aload_n 0, 1) := by decide +kernel
theorem dX2_keep_17 : decode cX2_keep 17 = .ok (.getfield 13, 3) := by decide +kernel
theorem dX2_keep_20 : decode cX2_keep 20 = .ok (.ifCond .lt 35, 3) := by decide +kernel
theorem dX2_keep_23 : decode cX2_keep 23 = .ok (.aload_n 0, 1) := by decide +kernel
theorem dX2_keep_24 : decode cX2_keep 24 = .ok (.getfield 13, 3) := by decide +kernel
theorem dX2_keep_27 : decode cX2_keep 27 = .ok (.aload_n 0, 1) := by decide +kernel
theorem dX2_keep_28 : decode cX2_keep 28 = .ok (.getfield 9, 3) := by decide +kernel
theorem dX2_keep_31 : decode cX2_keep 31 = .ok (.arraylength, 1) := by decide +kernel
theorem dX2_keep_32 : decode cX2_keep 32 = .ok (.if_icmp .ge 23, 3) := by decide +kernel
theorem dX2_keep_35 : decode cX2_keep 35 = .ok (.aload_n 0, 1) := by decide +kernel
theorem dX2_keep_36 : decode cX2_keep 36 = .ok (.getfield 9, 3) := by decide +kernel
theorem dX2_keep_39 : decode cX2_keep 39 = .ok (.aload_n 0, 1) := by decide +kernel
theorem dX2_keep_40 : decode cX2_keep 40 = .ok (.getfield 13, 3) := by decide +kernel
theorem dX2_keep_43 : decode cX2_keep 43 = .ok (.iload_n 1, 1) := by decide +kernel
theorem dX2_keep_44 : decode cX2_keep 44 = .ok (.iastore, 1) := by decide +kernel
theorem dX2_keep_45 : decode cX2_keep 45 = .ok (.aload_n 0, 1) := by decide +kernel
theorem dX2_keep_46 : decode cX2_keep 46 = .ok (.dup, 1) := by decide +kernel
theorem dX2_keep_47 : decode cX2_keep 47 = .ok (.getfield 13, 3) := by decide +kernel
theorem dX2_keep_50 : decode cX2_keep 50 = .ok (.iconst 1, 1) := by decide +kernel
theorem dX2_keep_51 : decode cX2_keep 51 = .ok (.iadd, 1) := by decide +kernel
theorem dX2_keep_52 : decode cX2_keep 52 = .ok (.putfield 13, 3) := by decide +kernel
theorem dX2_keep_55 : decode cX2_keep 55 = .ok (.return_, 1) := by decide +kernel
theorem dX2_forgetOldest_0 : decode cX2_forgetOldest 0 = .ok (.iconst 1, 1) := by decide +kernel
theorem dX2_forgetOldest_1 : decode cX2_forgetOldest 1 = .ok (.istore_n 1, 1) := by decide +kernel
theorem dX2_forgetOldest_2 : decode cX2_forgetOldest 2 = .ok (.iload_n 1, 1) := by decide +kernel
theorem dX2_forgetOldest_3 : decode cX2_forgetOldest 3 = .ok (.aload_n 0, 1) := by decide +kernel
theorem dX2_forgetOldest_4 : decode cX2_forgetOldest 4 = .ok (.getfield 9, 3) := by decide +kernel
theorem dX2_forgetOldest_7 : decode cX2_forgetOldest 7 = .ok (.arraylength, 1) := by decide +kernel
theorem dX2_forgetOldest_8 : decode cX2_forgetOldest 8 = .ok (.if_icmp .ge 23, 3) := by decide +kernel
theorem dX2_forgetOldest_11 : decode cX2_forgetOldest 11 = .ok (.aload_n 0, 1) := by decide +kernel
theorem dX2_forgetOldest_12 : decode cX2_forgetOldest 12 = .ok (.getfield 9, 3) := by decide +kernel
theorem dX2_forgetOldest_15 : decode cX2_forgetOldest 15 = .ok (.iload_n 1, 1) := by decide +kernel
theorem dX2_forgetOldest_16 : decode cX2_forgetOldest 16 = .ok (.iconst 1, 1) := by decide +kernel
theorem dX2_forgetOldest_17 : decode cX2_forgetOldest 17 = .ok (.isub, 1) := by decide +kernel
theorem dX2_forgetOldest_18 : decode cX2_forgetOldest 18 = .ok (.aload_n 0, 1) := by decide +kernel
theorem dX2_forgetOldest_19 : decode cX2_forgetOldest 19 = .ok (.getfield 9, 3) := by decide +kernel
theorem dX2_forgetOldest_22 : decode cX2_forgetOldest 22 = .ok (.iload_n 1, 1) := by decide +kernel
theorem dX2_forgetOldest_23 : decode cX2_forgetOldest 23 = .ok (.iaload, 1) := by decide +kernel
theorem dX2_forgetOldest_24 : decode cX2_forgetOldest 24 = .ok (.iastore, 1) := by decide +kernel
theorem dX2_forgetOldest_25 : decode cX2_forgetOldest 25 = .ok (.iinc 1 1, 3) := by decide +kernel
theorem dX2_forgetOldest_28 : decode cX2_forgetOldest 28 = .ok (.goto (-26), 3) := by decide +kernel
theorem dX2_forgetOldest_31 : decode cX2_forgetOldest 31 = .ok (.aload_n 0, 1) := by decide +kernel
theorem dX2_forgetOldest_32 : decode cX2_forgetOldest 32 = .ok (.aload_n 0, 1) := by decide +kernel
theorem dX2_forgetOldest_33 : decode cX2_forgetOldest 33 = .ok (.getfield 9, 3) := by decide +kernel
theorem dX2_forgetOldest_36 : decode cX2_forgetOldest 36 = .ok (.arraylength, 1) := by decide +kernel
theorem dX2_forgetOldest_37 : decode cX2_forgetOldest 37 = .ok (.iconst 1, 1) := by decide +kernel
theorem dX2_forgetOldest_38 : decode cX2_forgetOldest 38 = .ok (.isub, 1) := by decide +kernel
theorem dX2_forgetOldest_39 : decode cX2_forgetOldest 39 = .ok (.putfield 13, 3) := by decide +kernel
theorem dX2_forgetOldest_42 : decode cX2_forgetOldest 42 = .ok (.return_, 1) := by decide +kernel
theorem dX2_takeLatest_0 : decode cX2_takeLatest 0 = .ok (.aload_n 0, 1) := by decide +kernel
theorem dX2_takeLatest_1 : decode cX2_takeLatest 1 = .ok (.getfield 13, 3) := by decide +kernel
theorem dX2_takeLatest_4 : decode cX2_takeLatest 4 = .ok (.iconst 1, 1) := by decide +kernel
theorem dX2_takeLatest_5 : decode cX2_takeLatest 5 = .ok (.if_icmp .lt 15, 3) := by decide +kernel
theorem dX2_takeLatest_8 : decode cX2_takeLatest 8 = .ok (.aload_n 0, 1) := by decide +kernel
theorem dX2_takeLatest_9 : decode cX2_takeLatest 9 = .ok (.getfield 13, 3) := by decide +kernel
theorem dX2_takeLatest_12 : decode cX2_takeLatest 12 = .ok (.aload_n 0, 1) := by decide +kernel
theorem dX2_takeLatest_13 : decode cX2_takeLatest 13 = .ok (.getfield 9, 3) := by decide +kernel
theorem dX2_takeLatest_16 : decode cX2_takeLatest 16 = .ok (.arraylength, 1) := by decide +kernel
theorem dX2_takeLatest_17 : decode cX2_takeLatest 17 = .ok (.if_icmp .le 5, 3) := by decide +kernel
theorem dX2_takeLatest_20 : decode cX2_takeLatest 20 = .ok (.iconst (-1), 1) := by decide +kernel
theorem dX2_takeLatest_21 : decode cX2_takeLatest 21 = .ok (.ireturn, 1) := by decide +kernel
theorem dX2_takeLatest_22 : decode cX2_takeLatest 22 = .ok (.aload_n 0, 1) := by decide +kernel
theorem dX2_takeLatest_23 : decode cX2_takeLatest 23 = .ok (.dup, 1) := by decide +kernel
theorem dX2_takeLatest_24 : decode cX2_takeLatest 24 = .ok (.getfield 13, 3) := by decide +kernel
theorem dX2_takeLatest_27 : decode cX2_takeLatest 27 = .ok (.iconst 1, 1) := by decide +kernel
theorem dX2_takeLatest_28 : decode cX2_takeLatest 28 = .ok (.isub, 1) := by decide +kernel
theorem dX2_takeLatest_29 : decode cX2_takeLatest 29 = .ok (.putfield 13, 3) := by decide +kernel
theorem dX2_takeLatest_32 : decode cX2_takeLatest 32 = .ok (.aload_n 0, 1) := by decide +kernel
theorem dX2_takeLatest_33 : decode cX2_takeLatest 33 = .ok (.getfield 9, 3) := by decide +kernel
theorem dX2_takeLatest_36 : decode cX2_takeLatest 36 = .ok (.aload_n 0, 1) := by decide +kernel
theorem dX2_takeLatest_37 : decode cX2_takeLatest 37 = .ok (.getfield 13, 3) := by decide +kernel
theorem dX2_takeLatest_40 : decode cX2_takeLatest 40 = .ok (.iaload, 1) := by decide +kernel
theorem dX2_takeLatest_41 : decode cX2_takeLatest 41 = .ok (.ireturn, 1) := by decide +kernel
theorem dX3_init_0 : decode cX3_init 0 = .ok (.aload_n 0, 1) := by decide +kernel
theorem dX3_init_1 : decode cX3_init 1 = .ok (.invokespecial 3, 3) := by decide +kernel
theorem dX3_init_4 : decode cX3_init 4 = .ok (.return_, 1) := by decide +kernel
set_option maxRecDepth 20000 in
theorem ggX3_find_X3_walk : GoodIn wsX3_find wsX3_walk := goodIn_r _ [7, 8, 9, 1, 2, 10, 11, 12, 13, 14, 15, 16, 17, 18, 19, 20, 21, 22, 23, 24, 25, 26, 27, 28, 29, 30, 31, 32, 33, 34, 35, 36, 37, 38, 39, 40, 41, 42, 43, 44, 45, 46, 47, 48, 49, 50, 51, 6, 52, 53, 54, 55, 56, 63, 64, 65, 66, 67, 68, 69, 70, 71, 72, 73, 74, 75, 76, 57, 58, 59, 60, 61, 62, 77, 78, 79, 80, 81, 82, 83, 84] rfl (by decide +kernel)
set_option maxRecDepth 20000 in
theorem gX3_find_X3_walk : GoodIn wsX3_find (wsV RX3 18 RX3 yX3_walk wsX3_walk) := goodIn_app (goodIn_r _ [3, 4, 5, 6] rfl (by decide +kernel)) ggX3_find_X3_walk
theorem dX3_find_0 : decode cX3_find 0 = .ok (.aload_n 0, 1) := by decide +kernel
theorem dX3_find_1 : decode cX3_find 1 = .ok (.iconst 0, 1) := by decide +kernel
theorem dX3_find_2 : decode cX3_find 2 = .ok (.putfield 9, 3) := by decide +kernel
theorem dX3_find_5 : decode cX3_find 5 = .ok (.aload_n 0, 1) := by decide +kernel
theorem dX3_find_6 : decode cX3_find 6 = .ok (.iconst 0, 1) := by decide +kernel
theorem dX3_find_7 : decode cX3_find 7 = .ok (.putfield 15, 3) := by decide +kernel
theorem dX3_find_10 : decode cX3_find 10 = .ok (.iconst 0, 1) := by decide +kernel
theorem dX3_find_11 : decode cX3_find 11 = .ok (.istore 5, 2) := by decide +kernel
theorem dX3_find_13 : decode cX3_find 13 = .ok (.iload 5, 2) := by decide +kernel
theorem dX3_find_15 : decode cX3_find 15 = .ok (.iconst 4, 1) := by decide +kernel
theorem dX3_find_16 : decode cX3_find 16 = .ok (.if_icmp .ge 20, 3) := by decide +kernel
theorem dX3_find_19 : decode cX3_find 19 = .ok (.aload_n 0, 1) := by decide +kernel
theorem dX3_find_20 : decode cX3_find 20 = .ok (.iload 5, 2) := by decide +kernel
theorem dX3_find_22 : decode cX3_find 22 = .ok (.iload_n 1, 1) := by decide +kernel
theorem dX3_find_23 : decode cX3_find 23 = .ok (.aload_n 2, 1) := by decide +kernel
theorem dX3_find_24 : decode cX3_find 24 = .ok (.aload_n 3, 1) := by decide +kernel
theorem dX3_find_25 : decode cX3_find 25 = .ok (.aload 4, 2) := by decide +kernel
theorem dX3_find_27 : decode cX3_find 27 = .ok (.invokevirtual 18, 3) := by decide +kernel
theorem dX3_find_30 : decode cX3_find 30 = .ok (.iinc 5 1, 3) := by decide +kernel
theorem dX3_find_33 : decode cX3_find 33 = .ok (.goto (-20), 3) := by decide +kernel
theorem dX3_find_36 : decode cX3_find 36 = .ok (.return_, 1) := by decide +kernel
set_option maxRecDepth 20000 in
theorem ggX3_walk_X5_first : GoodIn wsX3_walk wsX5_first := goodIn_r _ [9, 10, 11, 73, 74, 75] rfl (by decide +kernel)
set_option maxRecDepth 20000 in
theorem gX3_walk_X5_first : GoodIn wsX3_walk (wsV RX3 28 RX5 yX5_first wsX5_first) := goodIn_app (goodIn_r _ [5, 6, 7, 8] rfl (by decide +kernel)) ggX3_walk_X5_first
set_option maxRecDepth 20000 in
theorem ggX3_walk_X0_paidAt : GoodIn wsX3_walk wsX0_paidAt := goodIn_r _ [16, 17, 76, 77] rfl (by decide +kernel)
set_option maxRecDepth 20000 in
theorem gX3_walk_X0_paidAt : GoodIn wsX3_walk (wsV RX3 37 RX0 yX0_paidAt wsX0_paidAt) := goodIn_app (goodIn_r _ [12, 13, 14, 15] rfl (by decide +kernel)) ggX3_walk_X0_paidAt
set_option maxRecDepth 20000 in
theorem ggX3_walk_X1_uncovered : GoodIn wsX3_walk wsX1_uncovered := goodIn_r _ [22, 23, 24, 25, 26, 27, 28, 29, 30, 31, 32, 21, 33, 34, 35, 36, 37, 38, 78, 79, 80] rfl (by decide +kernel)
set_option maxRecDepth 20000 in
theorem gX3_walk_X1_uncovered : GoodIn wsX3_walk (wsV RX3 42 RX1 yX1_uncovered wsX1_uncovered) := goodIn_app (goodIn_r _ [18, 19, 20, 21] rfl (by decide +kernel)) ggX3_walk_X1_uncovered
set_option maxRecDepth 20000 in
theorem ggX3_walk_X0_rateAt : GoodIn wsX3_walk wsX0_rateAt := goodIn_r _ [42, 43, 76, 77] rfl (by decide +kernel)
set_option maxRecDepth 20000 in
theorem gX3_walk_X0_rateAt : GoodIn wsX3_walk (wsV RX3 48 RX0 yX0_rateAt wsX0_rateAt) := goodIn_app (goodIn_r _ [39, 40, 41, 15] rfl (by decide +kernel)) ggX3_walk_X0_rateAt
set_option maxRecDepth 20000 in
theorem ggX3_walk_X3_begin : GoodIn wsX3_walk wsX3_begin := goodIn_r _ [48, 49, 50, 51, 52, 67, 68, 69, 70, 71, 72] rfl (by decide +kernel)
set_option maxRecDepth 20000 in
theorem gX3_walk_X3_begin : GoodIn wsX3_walk (wsV RX3 51 RX3 yX3_begin wsX3_begin) := goodIn_app (goodIn_r _ [44, 45, 46, 47] rfl (by decide +kernel)) ggX3_walk_X3_begin
theorem dX3_walk_0 : decode cX3_walk 0 = .ok (.iconst 0, 1) := by decide +kernel
theorem dX3_walk_1 : decode cX3_walk 1 = .ok (.istore 6, 2) := by decide +kernel
theorem dX3_walk_3 : decode cX3_walk 3 = .ok (.iconst 0, 1) := by decide +kernel
theorem dX3_walk_4 : decode cX3_walk 4 = .ok (.istore 7, 2) := by decide +kernel
theorem dX3_walk_6 : decode cX3_walk 6 = .ok (.aload_n 3, 1) := by decide +kernel
theorem dX3_walk_7 : decode cX3_walk 7 = .ok (.getfield 22, 3) := by decide +kernel
theorem dX3_walk_10 : decode cX3_walk 10 = .ok (.iload_n 1, 1) := by decide +kernel
theorem dX3_walk_11 : decode cX3_walk 11 = .ok (.invokevirtual 28, 3) := by decide +kernel
theorem dX3_walk_14 : decode cX3_walk 14 = .ok (.istore 8, 2) := by decide +kernel
theorem dX3_walk_16 : decode cX3_walk 16 = .ok (.iload 8, 2) := by decide +kernel
theorem dX3_walk_18 : decode cX3_walk 18 = .ok (.aload_n 3, 1) := by decide +kernel
theorem dX3_walk_19 : decode cX3_walk 19 = .ok (.getfield 34, 3) := by decide +kernel
theorem dX3_walk_22 : decode cX3_walk 22 = .ok (.if_icmp .ge 119, 3) := by decide +kernel
theorem dX3_walk_25 : decode cX3_walk 25 = .ok (.iload 8, 2) := by decide +kernel
theorem dX3_walk_27 : decode cX3_walk 27 = .ok (.sipush 499, 3) := by decide +kernel
theorem dX3_walk_30 : decode cX3_walk 30 = .ok (.if_icmp .gt 111, 3) := by decide +kernel
theorem dX3_walk_33 : decode cX3_walk 33 = .ok (.aload 4, 2) := by decide +kernel
theorem dX3_walk_35 : decode cX3_walk 35 = .ok (.iload_n 1, 1) := by decide +kernel
theorem dX3_walk_36 : decode cX3_walk 36 = .ok (.aload 5, 2) := by decide +kernel
theorem dX3_walk_38 : decode cX3_walk 38 = .ok (.iload 8, 2) := by decide +kernel
theorem dX3_walk_40 : decode cX3_walk 40 = .ok (.invokevirtual 37, 3) := by decide +kernel
theorem dX3_walk_43 : decode cX3_walk 43 = .ok (.invokevirtual 42, 3) := by decide +kernel
theorem dX3_walk_46 : decode cX3_walk 46 = .ok (.istore 9, 2) := by decide +kernel
theorem dX3_walk_48 : decode cX3_walk 48 = .ok (.aload 5, 2) := by decide +kernel
theorem dX3_walk_50 : decode cX3_walk 50 = .ok (.iload 8, 2) := by decide +kernel
theorem dX3_walk_52 : decode cX3_walk 52 = .ok (.invokevirtual 48, 3) := by decide +kernel
theorem dX3_walk_55 : decode cX3_walk 55 = .ok (.istore 10, 2) := by decide +kernel
theorem dX3_walk_57 : decode cX3_walk 57 = .ok (.iload 9, 2) := by decide +kernel
theorem dX3_walk_59 : decode cX3_walk 59 = .ok (.ifCond .le 68, 3) := by decide +kernel
theorem dX3_walk_62 : decode cX3_walk 62 = .ok (.iload 9, 2) := by decide +kernel
theorem dX3_walk_64 : decode cX3_walk 64 = .ok (.iload 6, 2) := by decide +kernel
theorem dX3_walk_66 : decode cX3_walk 66 = .ok (.if_icmp .ne 10, 3) := by decide +kernel
theorem dX3_walk_69 : decode cX3_walk 69 = .ok (.iload 10, 2) := by decide +kernel
theorem dX3_walk_71 : decode cX3_walk 71 = .ok (.iload 7, 2) := by decide +kernel
theorem dX3_walk_73 : decode cX3_walk 73 = .ok (.if_icmp .eq 34, 3) := by decide +kernel
theorem dX3_walk_76 : decode cX3_walk 76 = .ok (.aload_n 0, 1) := by decide +kernel
theorem dX3_walk_77 : decode cX3_walk 77 = .ok (.dup, 1) := by decide +kernel
theorem dX3_walk_78 : decode cX3_walk 78 = .ok (.getfield 9, 3) := by decide +kernel
theorem dX3_walk_81 : decode cX3_walk 81 = .ok (.iconst 1, 1) := by decide +kernel
theorem dX3_walk_82 : decode cX3_walk 82 = .ok (.iadd, 1) := by decide +kernel
theorem dX3_walk_83 : decode cX3_walk 83 = .ok (.putfield 9, 3) := by decide +kernel
theorem dX3_walk_86 : decode cX3_walk 86 = .ok (.aload_n 0, 1) := by decide +kernel
theorem dX3_walk_87 : decode cX3_walk 87 = .ok (.getfield 9, 3) := by decide +kernel
theorem dX3_walk_90 : decode cX3_walk 90 = .ok (.iconst 1, 1) := by decide +kernel
theorem dX3_walk_91 : decode cX3_walk 91 = .ok (.isub, 1) := by decide +kernel
theorem dX3_walk_92 : decode cX3_walk 92 = .ok (.iload_n 2, 1) := by decide +kernel
theorem dX3_walk_93 : decode cX3_walk 93 = .ok (.if_icmp .ne 14, 3) := by decide +kernel
theorem dX3_walk_96 : decode cX3_walk 96 = .ok (.aload_n 0, 1) := by decide +kernel
theorem dX3_walk_97 : decode cX3_walk 97 = .ok (.iload_n 1, 1) := by decide +kernel
theorem dX3_walk_98 : decode cX3_walk 98 = .ok (.iload 8, 2) := by decide +kernel
theorem dX3_walk_100 : decode cX3_walk 100 = .ok (.iload 9, 2) := by decide +kernel
theorem dX3_walk_102 : decode cX3_walk 102 = .ok (.iload 10, 2) := by decide +kernel
theorem dX3_walk_104 : decode cX3_walk 104 = .ok (.invokevirtual 51, 3) := by decide +kernel
theorem dX3_walk_107 : decode cX3_walk 107 = .ok (.aload_n 0, 1) := by decide +kernel
theorem dX3_walk_108 : decode cX3_walk 108 = .ok (.getfield 9, 3) := by decide +kernel
theorem dX3_walk_111 : decode cX3_walk 111 = .ok (.iconst 1, 1) := by decide +kernel
theorem dX3_walk_112 : decode cX3_walk 112 = .ok (.isub, 1) := by decide +kernel
theorem dX3_walk_113 : decode cX3_walk 113 = .ok (.iload_n 2, 1) := by decide +kernel
theorem dX3_walk_114 : decode cX3_walk 114 = .ok (.if_icmp .ne 13, 3) := by decide +kernel
theorem dX3_walk_117 : decode cX3_walk 117 = .ok (.aload_n 0, 1) := by decide +kernel
theorem dX3_walk_118 : decode cX3_walk 118 = .ok (.dup, 1) := by decide +kernel
theorem dX3_walk_119 : decode cX3_walk 119 = .ok (.getfield 15, 3) := by decide +kernel
theorem dX3_walk_122 : decode cX3_walk 122 = .ok (.iconst 1, 1) := by decide +kernel
theorem dX3_walk_123 : decode cX3_walk 123 = .ok (.iadd, 1) := by decide +kernel
theorem dX3_walk_124 : decode cX3_walk 124 = .ok (.putfield 15, 3) := by decide +kernel
theorem dX3_walk_127 : decode cX3_walk 127 = .ok (.iload 9, 2) := by decide +kernel
theorem dX3_walk_129 : decode cX3_walk 129 = .ok (.istore 6, 2) := by decide +kernel
theorem dX3_walk_131 : decode cX3_walk 131 = .ok (.iload 10, 2) := by decide +kernel
theorem dX3_walk_133 : decode cX3_walk 133 = .ok (.istore 7, 2) := by decide +kernel
theorem dX3_walk_135 : decode cX3_walk 135 = .ok (.iinc 8 1, 3) := by decide +kernel
theorem dX3_walk_138 : decode cX3_walk 138 = .ok (.goto (-122), 3) := by decide +kernel
theorem dX3_walk_141 : decode cX3_walk 141 = .ok (.return_, 1) := by decide +kernel
theorem dX3_begin_0 : decode cX3_begin 0 = .ok (.aload_n 0, 1) := by decide +kernel
theorem dX3_begin_1 : decode cX3_begin 1 = .ok (.iload_n 1, 1) := by decide +kernel
theorem dX3_begin_2 : decode cX3_begin 2 = .ok (.putfield 55, 3) := by decide +kernel
theorem dX3_begin_5 : decode cX3_begin 5 = .ok (.aload_n 0, 1) := by decide +kernel
theorem dX3_begin_6 : decode cX3_begin 6 = .ok (.iload_n 2, 1) := by decide +kernel
theorem dX3_begin_7 : decode cX3_begin 7 = .ok (.putfield 58, 3) := by decide +kernel
theorem dX3_begin_10 : decode cX3_begin 10 = .ok (.aload_n 0, 1) := by decide +kernel
theorem dX3_begin_11 : decode cX3_begin 11 = .ok (.iload_n 3, 1) := by decide +kernel
theorem dX3_begin_12 : decode cX3_begin 12 = .ok (.putfield 61, 3) := by decide +kernel
theorem dX3_begin_15 : decode cX3_begin 15 = .ok (.aload_n 0, 1) := by decide +kernel
theorem dX3_begin_16 : decode cX3_begin 16 = .ok (.iload 4, 2) := by decide +kernel
theorem dX3_begin_18 : decode cX3_begin 18 = .ok (.putfield 63, 3) := by decide +kernel
theorem dX3_begin_21 : decode cX3_begin 21 = .ok (.return_, 1) := by decide +kernel
theorem dX4_init_0 : decode cX4_init 0 = .ok (.aload_n 0, 1) := by decide +kernel
theorem dX4_init_1 : decode cX4_init 1 = .ok (.invokespecial 3, 3) := by decide +kernel
theorem dX4_init_4 : decode cX4_init 4 = .ok (.aload_n 0, 1) := by decide +kernel
theorem dX4_init_5 : decode cX4_init 5 = .ok (.iconst 3, 1) := by decide +kernel
theorem dX4_init_6 : decode cX4_init 6 = .ok (.newarray .int, 2) := by decide +kernel
theorem dX4_init_8 : decode cX4_init 8 = .ok (.putfield 11, 3) := by decide +kernel
theorem dX4_init_11 : decode cX4_init 11 = .ok (.return_, 1) := by decide +kernel
set_option maxRecDepth 20000 in
theorem ggX4_read_X7_forget : GoodIn wsX4_read wsX7_forget := goodIn_r _ [10, 11, 12, 13, 14, 15, 16, 17, 18, 19, 20, 21, 22, 23, 24, 25, 216, 217, 218, 219, 220, 221, 222, 223, 224, 225, 226, 227, 228, 229, 230, 231, 232] rfl (by decide +kernel)
set_option maxRecDepth 20000 in
theorem gX4_read_X7_forget : GoodIn wsX4_read (wsV RX4 15 RX7 yX7_forget wsX7_forget) := goodIn_app (goodIn_r _ [6, 7, 8, 9] rfl (by decide +kernel)) ggX4_read_X7_forget
set_option maxRecDepth 20000 in
theorem ggX4_read_X4_readToken : GoodIn wsX4_read wsX4_readToken := goodIn_r _ [30, 31, 32, 33, 34, 35, 4, 36, 5, 37, 38, 39, 40, 41, 42, 43, 44, 45, 29, 46, 47, 48, 49, 50, 51, 52, 53, 54, 55, 56, 57, 233, 234, 208, 209, 210, 211, 212, 213, 214, 215] rfl (by decide +kernel)
set_option maxRecDepth 20000 in
theorem gX4_read_X4_readToken : GoodIn wsX4_read (wsV RX4 33 RX4 yX4_readToken wsX4_readToken) := goodIn_app (goodIn_r _ [26, 27, 28, 29] rfl (by decide +kernel)) ggX4_read_X4_readToken
set_option maxRecDepth 20000 in
theorem ggX4_read_X4_checkStop : GoodIn wsX4_read wsX4_checkStop := goodIn_r _ [61, 31, 1, 62, 63, 64, 29, 65, 2, 36, 3, 233, 234, 208, 209, 210, 211, 212, 213, 214, 215] rfl (by decide +kernel)
set_option maxRecDepth 20000 in
theorem gX4_read_X4_checkStop : GoodIn wsX4_read (wsV RX4 40 RX4 yX4_checkStop wsX4_checkStop) := goodIn_app (goodIn_r _ [58, 59, 60, 29] rfl (by decide +kernel)) ggX4_read_X4_checkStop
set_option maxRecDepth 20000 in
theorem ggX4_read_X4_readLine : GoodIn wsX4_read wsX4_readLine := goodIn_r _ [69, 5, 2, 70, 71, 72, 29, 73, 74, 75, 76, 77, 78, 79, 80, 4, 36, 81, 82, 83, 84, 85, 86, 87, 88, 89, 90, 91, 92, 93, 94, 95, 96, 97, 98, 99, 100, 101, 102, 103, 104, 105, 106, 107, 108, 109, 110, 111, 112, 113, 114, 115, 116, 117, 118, 119, 120, 121, 122, 123, 124, 125, 126, 127, 128, 129, 37, 38, 39, 40, 41, 42, 43, 130, 131, 132, 133, 1, 62, 63, 64, 65, 3, 134, 135, 136, 137, 138, 139, 140, 141, 142, 143, 144, 145, 146, 147, 148, 149, 150, 151, 152, 26, 27, 28, 30, 31, 32, 33, 34, 35, 44, 45, 46, 47, 48, 49, 50, 51, 52, 53, 54, 55, 56, 57, 153, 154, 155, 156, 157, 158, 159, 160, 161, 162, 163, 164, 165, 166, 167, 168, 169, 170, 171, 172, 173, 174, 175, 176, 177, 178, 179, 180, 181, 182, 183, 184, 185, 186, 187, 188, 189, 190, 191, 192, 193, 194, 195, 196, 197, 198, 199, 200, 201, 202, 203, 204, 205, 206, 207, 208, 209, 210, 211, 212, 213, 214, 215, 233, 234, 216, 217, 218, 219, 220, 221, 222, 223, 224, 225, 226, 227, 228, 229, 230, 231, 232] rfl (by decide +kernel)
set_option maxRecDepth 20000 in
theorem gX4_read_X4_readLine : GoodIn wsX4_read (wsV RX4 43 RX4 yX4_readLine wsX4_readLine) := goodIn_app (goodIn_r _ [66, 67, 68, 29] rfl (by decide +kernel)) ggX4_read_X4_readLine
theorem dX4_read_0 : decode cX4_read 0 = .ok (.aload_n 2, 1) := by decide +kernel
theorem dX4_read_1 : decode cX4_read 1 = .ok (.invokevirtual 15, 3) := by decide +kernel
theorem dX4_read_4 : decode cX4_read 4 = .ok (.aload_n 0, 1) := by decide +kernel
theorem dX4_read_5 : decode cX4_read 5 = .ok (.iconst 0, 1) := by decide +kernel
theorem dX4_read_6 : decode cX4_read 6 = .ok (.putfield 20, 3) := by decide +kernel
theorem dX4_read_9 : decode cX4_read 9 = .ok (.aload_n 0, 1) := by decide +kernel
theorem dX4_read_10 : decode cX4_read 10 = .ok (.iconst 0, 1) := by decide +kernel
theorem dX4_read_11 : decode cX4_read 11 = .ok (.putfield 24, 3) := by decide +kernel
theorem dX4_read_14 : decode cX4_read 14 = .ok (.aload_n 0, 1) := by decide +kernel
theorem dX4_read_15 : decode cX4_read 15 = .ok (.iconst 0, 1) := by decide +kernel
theorem dX4_read_16 : decode cX4_read 16 = .ok (.putfield 27, 3) := by decide +kernel
theorem dX4_read_19 : decode cX4_read 19 = .ok (.aload_n 0, 1) := by decide +kernel
theorem dX4_read_20 : decode cX4_read 20 = .ok (.iconst 0, 1) := by decide +kernel
theorem dX4_read_21 : decode cX4_read 21 = .ok (.putfield 30, 3) := by decide +kernel
theorem dX4_read_24 : decode cX4_read 24 = .ok (.iconst 0, 1) := by decide +kernel
theorem dX4_read_25 : decode cX4_read 25 = .ok (.istore_n 3, 1) := by decide +kernel
theorem dX4_read_26 : decode cX4_read 26 = .ok (.iload_n 3, 1) := by decide +kernel
theorem dX4_read_27 : decode cX4_read 27 = .ok (.sipush 800, 3) := by decide +kernel
theorem dX4_read_30 : decode cX4_read 30 = .ok (.if_icmp .gt 40, 3) := by decide +kernel
theorem dX4_read_33 : decode cX4_read 33 = .ok (.aload_n 0, 1) := by decide +kernel
theorem dX4_read_34 : decode cX4_read 34 = .ok (.getfield 24, 3) := by decide +kernel
theorem dX4_read_37 : decode cX4_read 37 = .ok (.ifCond .ne 33, 3) := by decide +kernel
theorem dX4_read_40 : decode cX4_read 40 = .ok (.aload_n 0, 1) := by decide +kernel
theorem dX4_read_41 : decode cX4_read 41 = .ok (.aload_n 1, 1) := by decide +kernel
theorem dX4_read_42 : decode cX4_read 42 = .ok (.invokevirtual 33, 3) := by decide +kernel
theorem dX4_read_45 : decode cX4_read 45 = .ok (.aload_n 0, 1) := by decide +kernel
theorem dX4_read_46 : decode cX4_read 46 = .ok (.getfield 37, 3) := by decide +kernel
theorem dX4_read_49 : decode cX4_read 49 = .ok (.ifCond .ne 9, 3) := by decide +kernel
theorem dX4_read_52 : decode cX4_read 52 = .ok (.aload_n 0, 1) := by decide +kernel
theorem dX4_read_53 : decode cX4_read 53 = .ok (.aload_n 1, 1) := by decide +kernel
theorem dX4_read_54 : decode cX4_read 54 = .ok (.invokevirtual 40, 3) := by decide +kernel
theorem dX4_read_57 : decode cX4_read 57 = .ok (.return_, 1) := by decide +kernel
theorem dX4_read_58 : decode cX4_read 58 = .ok (.aload_n 0, 1) := by decide +kernel
theorem dX4_read_59 : decode cX4_read 59 = .ok (.aload_n 1, 1) := by decide +kernel
theorem dX4_read_60 : decode cX4_read 60 = .ok (.aload_n 2, 1) := by decide +kernel
theorem dX4_read_61 : decode cX4_read 61 = .ok (.invokevirtual 43, 3) := by decide +kernel
theorem dX4_read_64 : decode cX4_read 64 = .ok (.iinc 3 1, 3) := by decide +kernel
theorem dX4_read_67 : decode cX4_read 67 = .ok (.goto (-41), 3) := by decide +kernel
theorem dX4_read_70 : decode cX4_read 70 = .ok (.return_, 1) := by decide +kernel
set_option maxRecDepth 20000 in
theorem ggX4_checkStop_X4_fail : GoodIn wsX4_checkStop wsX4_fail := goodIn_r _ [7, 8, 9, 10, 13, 14, 15, 16, 17, 18, 19, 20] rfl (by decide +kernel)
set_option maxRecDepth 20000 in
theorem gX4_checkStop_X4_fail : GoodIn wsX4_checkStop (wsV RX4 52 RX4 yX4_fail wsX4_fail) := goodIn_app (goodIn_r _ [3, 4, 5, 6] rfl (by decide +kernel)) ggX4_checkStop_X4_fail
theorem dX4_checkStop_0 : decode cX4_checkStop 0 = .ok (.aload_n 1, 1) := by decide +kernel
theorem dX4_checkStop_1 : decode cX4_checkStop 1 = .ok (.getfield 47, 3) := by decide +kernel
theorem dX4_checkStop_4 : decode cX4_checkStop 4 = .ok (.sipush 800, 3) := by decide +kernel
theorem dX4_checkStop_7 : decode cX4_checkStop 7 = .ok (.if_icmp .le 7, 3) := by decide +kernel
theorem dX4_checkStop_10 : decode cX4_checkStop 10 = .ok (.iconst 1, 1) := by decide +kernel
theorem dX4_checkStop_11 : decode cX4_checkStop 11 = .ok (.goto 4, 3) := by decide +kernel
theorem dX4_checkStop_14 : decode cX4_checkStop 14 = .ok (.iconst 0, 1) := by decide +kernel
theorem dX4_checkStop_15 : decode cX4_checkStop 15 = .ok (.istore_n 2, 1) := by decide +kernel
theorem dX4_checkStop_16 : decode cX4_checkStop 16 = .ok (.aload_n 0, 1) := by decide +kernel
theorem dX4_checkStop_17 : decode cX4_checkStop 17 = .ok (.getfield 20, 3) := by decide +kernel
theorem dX4_checkStop_20 : decode cX4_checkStop 20 = .ok (.ifCond .le 16, 3) := by decide +kernel
theorem dX4_checkStop_23 : decode cX4_checkStop 23 = .ok (.aload_n 0, 1) := by decide +kernel
theorem dX4_checkStop_24 : decode cX4_checkStop 24 = .ok (.getfield 20, 3) := by decide +kernel
theorem dX4_checkStop_27 : decode cX4_checkStop 27 = .ok (.bipush 6, 2) := by decide +kernel
theorem dX4_checkStop_29 : decode cX4_checkStop 29 = .ok (.if_icmp .ge 7, 3) := by decide +kernel
theorem dX4_checkStop_32 : decode cX4_checkStop 32 = .ok (.iconst 1, 1) := by decide +kernel
theorem dX4_checkStop_33 : decode cX4_checkStop 33 = .ok (.goto 4, 3) := by decide +kernel
theorem dX4_checkStop_36 : decode cX4_checkStop 36 = .ok (.iconst 0, 1) := by decide +kernel
theorem dX4_checkStop_37 : decode cX4_checkStop 37 = .ok (.istore_n 3, 1) := by decide +kernel
theorem dX4_checkStop_38 : decode cX4_checkStop 38 = .ok (.iload_n 2, 1) := by decide +kernel
theorem dX4_checkStop_39 : decode cX4_checkStop 39 = .ok (.ifCond .ne 7, 3) := by decide +kernel
theorem dX4_checkStop_42 : decode cX4_checkStop 42 = .ok (.iload_n 3, 1) := by decide +kernel
theorem dX4_checkStop_43 : decode cX4_checkStop 43 = .ok (.ifCond .eq 8, 3) := by decide +kernel
theorem dX4_checkStop_46 : decode cX4_checkStop 46 = .ok (.aload_n 0, 1) := by decide +kernel
theorem dX4_checkStop_47 : decode cX4_checkStop 47 = .ok (.iconst 1, 1) := by decide +kernel
theorem dX4_checkStop_48 : decode cX4_checkStop 48 = .ok (.invokevirtual 52, 3) := by decide +kernel
theorem dX4_checkStop_51 : decode cX4_checkStop 51 = .ok (.return_, 1) := by decide +kernel
set_option maxRecDepth 20000 in
theorem ggX4_readLine_X4_sortOfWord : GoodIn wsX4_readLine wsX4_sortOfWord := goodIn_r _ [7, 8, 9, 6, 10, 11, 12, 13, 14, 15, 16, 17, 18, 19, 20, 21, 22, 23, 24, 25, 26, 27, 28, 29, 30, 31, 32, 33, 34, 35, 36, 37, 38, 39, 40, 41, 42, 43, 44, 45, 46, 47, 48, 49, 50, 51, 52, 53, 54, 55, 56, 57, 58, 59, 60, 61, 62, 63, 64, 65, 66, 67, 68, 69, 70, 71, 72, 180, 181, 182, 183, 184, 185, 186, 187, 188, 189] rfl (by decide +kernel)
set_option maxRecDepth 20000 in
theorem gX4_readLine_X4_sortOfWord : GoodIn wsX4_readLine (wsV RX4 56 RX4 yX4_sortOfWord wsX4_sortOfWord) := goodIn_app (goodIn_r _ [3, 4, 5, 6] rfl (by decide +kernel)) ggX4_readLine_X4_sortOfWord
set_option maxRecDepth 20000 in
theorem ggX4_readLine_X4_canCome : GoodIn wsX4_readLine wsX4_canCome := goodIn_r _ [76, 77, 180, 181, 182, 183, 184, 185, 186, 187] rfl (by decide +kernel)
set_option maxRecDepth 20000 in
theorem gX4_readLine_X4_canCome : GoodIn wsX4_readLine (wsV RX4 60 RX4 yX4_canCome wsX4_canCome) := goodIn_app (goodIn_r _ [73, 74, 75, 6] rfl (by decide +kernel)) ggX4_readLine_X4_canCome
set_option maxRecDepth 20000 in
theorem ggX4_readLine_X4_fail : GoodIn wsX4_readLine wsX4_fail := goodIn_r _ [81, 2, 16, 82, 180, 181, 182, 183, 184, 185, 186, 187] rfl (by decide +kernel)
set_option maxRecDepth 20000 in
theorem gX4_readLine_X4_fail : GoodIn wsX4_readLine (wsV RX4 52 RX4 yX4_fail wsX4_fail) := goodIn_app (goodIn_r _ [78, 79, 80, 6] rfl (by decide +kernel)) ggX4_readLine_X4_fail
set_option maxRecDepth 20000 in
theorem ggX4_readLine_X4_hasAllOf : GoodIn wsX4_readLine wsX4_hasAllOf := goodIn_r _ [85, 86, 87, 88, 89, 90, 91, 92, 93, 94, 95, 96, 97, 98, 190, 191, 192, 193, 194, 195, 196, 197, 198, 199, 200, 201, 202, 203, 204, 205, 206] rfl (by decide +kernel)
set_option maxRecDepth 20000 in
theorem gX4_readLine_X4_hasAllOf : GoodIn wsX4_readLine (va_wsS RX4 64 yX4_hasAllOf wsX4_hasAllOf) := goodIn_app (goodIn_r _ [83, 84, 6] rfl (by decide +kernel)) ggX4_readLine_X4_hasAllOf
set_option maxRecDepth 20000 in
theorem ggX4_readLine_X4_numbersOf : GoodIn wsX4_readLine wsX4_numbersOf := goodIn_r _ [101] rfl (by decide +kernel)
set_option maxRecDepth 20000 in
theorem gX4_readLine_X4_numbersOf : GoodIn wsX4_readLine (va_wsS RX4 68 yX4_numbersOf wsX4_numbersOf) := goodIn_app (goodIn_r _ [99, 100, 6] rfl (by decide +kernel)) ggX4_readLine_X4_numbersOf
set_option maxRecDepth 20000 in
theorem ggX4_readLine_X4_readToken : GoodIn wsX4_readLine wsX4_readToken := goodIn_r _ [105, 106, 107, 108, 109, 110, 15, 16, 1, 66, 67, 68, 69, 70, 71, 72, 111, 112, 6, 113, 114, 115, 116, 117, 118, 119, 120, 121, 122, 123, 124, 188, 189, 180, 181, 182, 183, 184, 185, 186, 187] rfl (by decide +kernel)
set_option maxRecDepth 20000 in
theorem gX4_readLine_X4_readToken : GoodIn wsX4_readLine (wsV RX4 33 RX4 yX4_readToken wsX4_readToken) := goodIn_app (goodIn_r _ [102, 103, 104, 6] rfl (by decide +kernel)) ggX4_readLine_X4_readToken
set_option maxRecDepth 20000 in
theorem ggX4_readLine_X4_takeNumber : GoodIn wsX4_readLine wsX4_takeNumber := goodIn_r _ [128, 1, 118, 129, 78, 79, 80, 6, 81, 2, 16, 82, 130, 131, 132, 133, 86, 134, 135, 109, 136, 88, 137, 138, 139, 95, 140, 97, 141, 142, 143, 144, 98, 145, 146, 147, 148, 149, 150, 151, 152, 153, 154, 155, 156, 157, 158, 180, 181, 182, 183, 184, 185, 186, 187, 190, 191, 192, 193, 194, 195, 196, 197, 198, 199, 200, 201, 202, 203, 204, 205, 206] rfl (by decide +kernel)
set_option maxRecDepth 20000 in
theorem gX4_readLine_X4_takeNumber : GoodIn wsX4_readLine (wsV RX4 72 RX4 yX4_takeNumber wsX4_takeNumber) := goodIn_app (goodIn_r _ [125, 126, 127, 6] rfl (by decide +kernel)) ggX4_readLine_X4_takeNumber
set_option maxRecDepth 20000 in
theorem ggX4_readLine_X4_closeLine : GoodIn wsX4_readLine wsX4_closeLine := goodIn_r _ [162, 1, 77, 78, 79, 80, 6, 81, 2, 16, 82, 163, 164, 165, 166, 167, 168, 158, 133, 169, 170, 86, 87, 171, 88, 89, 91, 172, 173, 174, 175, 129, 176, 177, 178, 95, 179, 97, 98, 153, 180, 181, 182, 183, 184, 185, 186, 187, 190, 191, 192, 193, 194, 195, 196, 197, 198, 199, 200, 201, 202, 203, 204, 205, 206] rfl (by decide +kernel)
set_option maxRecDepth 20000 in
theorem gX4_readLine_X4_closeLine : GoodIn wsX4_readLine (wsV RX4 76 RX4 yX4_closeLine wsX4_closeLine) := goodIn_app (goodIn_r _ [159, 160, 161, 6] rfl (by decide +kernel)) ggX4_readLine_X4_closeLine
theorem dX4_readLine_0 : decode cX4_readLine 0 = .ok (.aload_n 0, 1) := by decide +kernel
theorem dX4_readLine_1 : decode cX4_readLine 1 = .ok (.getfield 37, 3) := by decide +kernel
theorem dX4_readLine_4 : decode cX4_readLine 4 = .ok (.iconst 1, 1) := by decide +kernel
theorem dX4_readLine_5 : decode cX4_readLine 5 = .ok (.if_icmp .ne 11, 3) := by decide +kernel
theorem dX4_readLine_8 : decode cX4_readLine 8 = .ok (.aload_n 0, 1) := by decide +kernel
theorem dX4_readLine_9 : decode cX4_readLine 9 = .ok (.aload_n 1, 1) := by decide +kernel
theorem dX4_readLine_10 : decode cX4_readLine 10 = .ok (.invokevirtual 56, 3) := by decide +kernel
theorem dX4_readLine_13 : decode cX4_readLine 13 = .ok (.goto 4, 3) := by decide +kernel
theorem dX4_readLine_16 : decode cX4_readLine 16 = .ok (.iconst (-1), 1) := by decide +kernel
theorem dX4_readLine_17 : decode cX4_readLine 17 = .ok (.istore_n 3, 1) := by decide +kernel
theorem dX4_readLine_18 : decode cX4_readLine 18 = .ok (.aload_n 0, 1) := by decide +kernel
theorem dX4_readLine_19 : decode cX4_readLine 19 = .ok (.iload_n 3, 1) := by decide +kernel
theorem dX4_readLine_20 : decode cX4_readLine 20 = .ok (.invokevirtual 60, 3) := by decide +kernel
theorem dX4_readLine_23 : decode cX4_readLine 23 = .ok (.ifCond .ne 9, 3) := by decide +kernel
theorem dX4_readLine_26 : decode cX4_readLine 26 = .ok (.aload_n 0, 1) := by decide +kernel
theorem dX4_readLine_27 : decode cX4_readLine 27 = .ok (.iconst 1, 1) := by decide +kernel
theorem dX4_readLine_28 : decode cX4_readLine 28 = .ok (.invokevirtual 52, 3) := by decide +kernel
theorem dX4_readLine_31 : decode cX4_readLine 31 = .ok (.return_, 1) := by decide +kernel
theorem dX4_readLine_32 : decode cX4_readLine 32 = .ok (.iload_n 3, 1) := by decide +kernel
theorem dX4_readLine_33 : decode cX4_readLine 33 = .ok (.aload_n 2, 1) := by decide +kernel
theorem dX4_readLine_34 : decode cX4_readLine 34 = .ok (.invokestatic 64, 3) := by decide +kernel
theorem dX4_readLine_37 : decode cX4_readLine 37 = .ok (.ifCond .eq 9, 3) := by decide +kernel
theorem dX4_readLine_40 : decode cX4_readLine 40 = .ok (.aload_n 0, 1) := by decide +kernel
theorem dX4_readLine_41 : decode cX4_readLine 41 = .ok (.iconst 3, 1) := by decide +kernel
theorem dX4_readLine_42 : decode cX4_readLine 42 = .ok (.invokevirtual 52, 3) := by decide +kernel
theorem dX4_readLine_45 : decode cX4_readLine 45 = .ok (.return_, 1) := by decide +kernel
theorem dX4_readLine_46 : decode cX4_readLine 46 = .ok (.iload_n 3, 1) := by decide +kernel
theorem dX4_readLine_47 : decode cX4_readLine 47 = .ok (.invokestatic 68, 3) := by decide +kernel
theorem dX4_readLine_50 : decode cX4_readLine 50 = .ok (.istore 4, 2) := by decide +kernel
theorem dX4_readLine_52 : decode cX4_readLine 52 = .ok (.iconst 0, 1) := by decide +kernel
theorem dX4_readLine_53 : decode cX4_readLine 53 = .ok (.istore 5, 2) := by decide +kernel
theorem dX4_readLine_55 : decode cX4_readLine 55 = .ok (.iload 5, 2) := by decide +kernel
theorem dX4_readLine_57 : decode cX4_readLine 57 = .ok (.iload 4, 2) := by decide +kernel
theorem dX4_readLine_59 : decode cX4_readLine 59 = .ok (.if_icmp .ge 35, 3) := by decide +kernel
theorem dX4_readLine_62 : decode cX4_readLine 62 = .ok (.iload 5, 2) := by decide +kernel
theorem dX4_readLine_64 : decode cX4_readLine 64 = .ok (.iconst 3, 1) := by decide +kernel
theorem dX4_readLine_65 : decode cX4_readLine 65 = .ok (.if_icmp .ge 29, 3) := by decide +kernel
theorem dX4_readLine_68 : decode cX4_readLine 68 = .ok (.aload_n 0, 1) := by decide +kernel
theorem dX4_readLine_69 : decode cX4_readLine 69 = .ok (.getfield 24, 3) := by decide +kernel
theorem dX4_readLine_72 : decode cX4_readLine 72 = .ok (.ifCond .ne 22, 3) := by decide +kernel
theorem dX4_readLine_75 : decode cX4_readLine 75 = .ok (.aload_n 0, 1) := by decide +kernel
theorem dX4_readLine_76 : decode cX4_readLine 76 = .ok (.aload_n 1, 1) := by decide +kernel
theorem dX4_readLine_77 : decode cX4_readLine 77 = .ok (.invokevirtual 33, 3) := by decide +kernel
theorem dX4_readLine_80 : decode cX4_readLine 80 = .ok (.aload_n 0, 1) := by decide +kernel
theorem dX4_readLine_81 : decode cX4_readLine 81 = .ok (.iload_n 3, 1) := by decide +kernel
theorem dX4_readLine_82 : decode cX4_readLine 82 = .ok (.iload 5, 2) := by decide +kernel
theorem dX4_readLine_84 : decode cX4_readLine 84 = .ok (.aload_n 2, 1) := by decide +kernel
theorem dX4_readLine_85 : decode cX4_readLine 85 = .ok (.invokevirtual 72, 3) := by decide +kernel
theorem dX4_readLine_88 : decode cX4_readLine 88 = .ok (.iinc 5 1, 3) := by decide +kernel
theorem dX4_readLine_91 : decode cX4_readLine 91 = .ok (.goto (-36), 3) := by decide +kernel
theorem dX4_readLine_94 : decode cX4_readLine 94 = .ok (.aload_n 0, 1) := by decide +kernel
theorem dX4_readLine_95 : decode cX4_readLine 95 = .ok (.getfield 24, 3) := by decide +kernel
theorem dX4_readLine_98 : decode cX4_readLine 98 = .ok (.ifCond .ne 14, 3) := by decide +kernel
theorem dX4_readLine_101 : decode cX4_readLine 101 = .ok (.aload_n 0, 1) := by decide +kernel
theorem dX4_readLine_102 : decode cX4_readLine 102 = .ok (.aload_n 1, 1) := by decide +kernel
theorem dX4_readLine_103 : decode cX4_readLine 103 = .ok (.invokevirtual 33, 3) := by decide +kernel
theorem dX4_readLine_106 : decode cX4_readLine 106 = .ok (.aload_n 0, 1) := by decide +kernel
theorem dX4_readLine_107 : decode cX4_readLine 107 = .ok (.iload_n 3, 1) := by decide +kernel
theorem dX4_readLine_108 : decode cX4_readLine 108 = .ok (.aload_n 2, 1) := by decide +kernel
theorem dX4_readLine_109 : decode cX4_readLine 109 = .ok (.invokevirtual 76, 3) := by decide +kernel
theorem dX4_readLine_112 : decode cX4_readLine 112 = .ok (.return_, 1) := by decide +kernel
set_option maxRecDepth 20000 in
theorem ggX4_takeNumber_X4_fail : GoodIn wsX4_takeNumber wsX4_fail := goodIn_r _ [8, 9, 10, 11, 47, 48, 49, 50, 51, 52, 53, 54] rfl (by decide +kernel)
set_option maxRecDepth 20000 in
theorem gX4_takeNumber_X4_fail : GoodIn wsX4_takeNumber (wsV RX4 52 RX4 yX4_fail wsX4_fail) := goodIn_app (goodIn_r _ [4, 5, 6, 7] rfl (by decide +kernel)) ggX4_takeNumber_X4_fail
set_option maxRecDepth 20000 in
theorem ggX4_takeNumber_X4_lowest : GoodIn wsX4_takeNumber wsX4_lowest := goodIn_r _ [14, 15, 16, 17, 18, 19, 20, 21, 22, 23, 24, 25, 26, 27, 28, 29, 30, 31, 32, 33, 34, 35, 36, 37, 38, 39, 40, 41, 55, 56, 57, 58, 59, 60, 61, 62, 63, 64, 65, 66, 67, 68, 69, 70, 71] rfl (by decide +kernel)
set_option maxRecDepth 20000 in
theorem gX4_takeNumber_X4_lowest : GoodIn wsX4_takeNumber (va_wsS RX4 83 yX4_lowest wsX4_lowest) := goodIn_app (goodIn_r _ [12, 13, 7] rfl (by decide +kernel)) ggX4_takeNumber_X4_lowest
set_option maxRecDepth 20000 in
theorem ggX4_takeNumber_X4_highest : GoodIn wsX4_takeNumber wsX4_highest := goodIn_r _ [44, 45, 46, 55, 56, 57, 58, 59, 60, 61, 62, 63, 64, 65, 66, 67, 68] rfl (by decide +kernel)
set_option maxRecDepth 20000 in
theorem gX4_takeNumber_X4_highest : GoodIn wsX4_takeNumber (va_wsS RX4 87 yX4_highest wsX4_highest) := goodIn_app (goodIn_r _ [42, 43, 7] rfl (by decide +kernel)) ggX4_takeNumber_X4_highest
theorem dX4_takeNumber_0 : decode cX4_takeNumber 0 = .ok (.aload_n 0, 1) := by decide +kernel
theorem dX4_takeNumber_1 : decode cX4_takeNumber 1 = .ok (.getfield 37, 3) := by decide +kernel
theorem dX4_takeNumber_4 : decode cX4_takeNumber 4 = .ok (.iconst 2, 1) := by decide +kernel
theorem dX4_takeNumber_5 : decode cX4_takeNumber 5 = .ok (.if_icmp .eq 11, 3) := by decide +kernel
theorem dX4_takeNumber_8 : decode cX4_takeNumber 8 = .ok (.aload_n 0, 1) := by decide +kernel
theorem dX4_takeNumber_9 : decode cX4_takeNumber 9 = .ok (.iconst 1, 1) := by decide +kernel
theorem dX4_takeNumber_10 : decode cX4_takeNumber 10 = .ok (.invokevirtual 52, 3) := by decide +kernel
theorem dX4_takeNumber_13 : decode cX4_takeNumber 13 = .ok (.goto 60, 3) := by decide +kernel
theorem dX4_takeNumber_16 : decode cX4_takeNumber 16 = .ok (.aload_n 0, 1) := by decide +kernel
theorem dX4_takeNumber_17 : decode cX4_takeNumber 17 = .ok (.getfield 80, 3) := by decide +kernel
theorem dX4_takeNumber_20 : decode cX4_takeNumber 20 = .ok (.iload_n 1, 1) := by decide +kernel
theorem dX4_takeNumber_21 : decode cX4_takeNumber 21 = .ok (.iload_n 2, 1) := by decide +kernel
theorem dX4_takeNumber_22 : decode cX4_takeNumber 22 = .ok (.aload_n 3, 1) := by decide +kernel
theorem dX4_takeNumber_23 : decode cX4_takeNumber 23 = .ok (.invokestatic 83, 3) := by decide +kernel
theorem dX4_takeNumber_26 : decode cX4_takeNumber 26 = .ok (.if_icmp .lt 16, 3) := by decide +kernel
theorem dX4_takeNumber_29 : decode cX4_takeNumber 29 = .ok (.aload_n 0, 1) := by decide +kernel
theorem dX4_takeNumber_30 : decode cX4_takeNumber 30 = .ok (.getfield 80, 3) := by decide +kernel
theorem dX4_takeNumber_33 : decode cX4_takeNumber 33 = .ok (.iload_n 1, 1) := by decide +kernel
theorem dX4_takeNumber_34 : decode cX4_takeNumber 34 = .ok (.iload_n 2, 1) := by decide +kernel
theorem dX4_takeNumber_35 : decode cX4_takeNumber 35 = .ok (.aload_n 3, 1) := by decide +kernel
theorem dX4_takeNumber_36 : decode cX4_takeNumber 36 = .ok (.invokestatic 87, 3) := by decide +kernel
theorem dX4_takeNumber_39 : decode cX4_takeNumber 39 = .ok (.if_icmp .le 11, 3) := by decide +kernel
theorem dX4_takeNumber_42 : decode cX4_takeNumber 42 = .ok (.aload_n 0, 1) := by decide +kernel
theorem dX4_takeNumber_43 : decode cX4_takeNumber 43 = .ok (.iconst 2, 1) := by decide +kernel
theorem dX4_takeNumber_44 : decode cX4_takeNumber 44 = .ok (.invokevirtual 52, 3) := by decide +kernel
theorem dX4_takeNumber_47 : decode cX4_takeNumber 47 = .ok (.goto 26, 3) := by decide +kernel
theorem dX4_takeNumber_50 : decode cX4_takeNumber 50 = .ok (.iload_n 2, 1) := by decide +kernel
theorem dX4_takeNumber_51 : decode cX4_takeNumber 51 = .ok (.ifCond .lt 22, 3) := by decide +kernel
theorem dX4_takeNumber_54 : decode cX4_takeNumber 54 = .ok (.iload_n 2, 1) := by decide +kernel
theorem dX4_takeNumber_55 : decode cX4_takeNumber 55 = .ok (.aload_n 0, 1) := by decide +kernel
theorem dX4_takeNumber_56 : decode cX4_takeNumber 56 = .ok (.getfield 11, 3) := by decide +kernel
theorem dX4_takeNumber_59 : decode cX4_takeNumber 59 = .ok (.arraylength, 1) := by decide +kernel
theorem dX4_takeNumber_60 : decode cX4_takeNumber 60 = .ok (.if_icmp .ge 13, 3) := by decide +kernel
theorem dX4_takeNumber_63 : decode cX4_takeNumber 63 = .ok (.aload_n 0, 1) := by decide +kernel
theorem dX4_takeNumber_64 : decode cX4_takeNumber 64 = .ok (.getfield 11, 3) := by decide +kernel
theorem dX4_takeNumber_67 : decode cX4_takeNumber 67 = .ok (.iload_n 2, 1) := by decide +kernel
theorem dX4_takeNumber_68 : decode cX4_takeNumber 68 = .ok (.aload_n 0, 1) := by decide +kernel
theorem dX4_takeNumber_69 : decode cX4_takeNumber 69 = .ok (.getfield 80, 3) := by decide +kernel
theorem dX4_takeNumber_72 : decode cX4_takeNumber 72 = .ok (.iastore, 1) := by decide +kernel
theorem dX4_takeNumber_73 : decode cX4_takeNumber 73 = .ok (.return_, 1) := by decide +kernel
set_option maxRecDepth 20000 in
theorem ggX4_closeLine_X4_fail : GoodIn wsX4_closeLine wsX4_fail := goodIn_r _ [7, 8, 9, 10, 40, 41, 42, 43, 44, 45, 46, 47] rfl (by decide +kernel)
set_option maxRecDepth 20000 in
theorem gX4_closeLine_X4_fail : GoodIn wsX4_closeLine (wsV RX4 52 RX4 yX4_fail wsX4_fail) := goodIn_app (goodIn_r _ [3, 4, 5, 6] rfl (by decide +kernel)) ggX4_closeLine_X4_fail
set_option maxRecDepth 20000 in
theorem ggX4_closeLine_X4_tell : GoodIn wsX4_closeLine wsX4_tell := goodIn_r _ [14, 15, 16, 17, 18, 19, 20, 21, 22, 23, 24, 25, 26, 27, 28, 29, 6, 30, 31, 32, 33, 34, 35, 36, 37, 38, 39, 48, 49, 50, 51, 52, 53, 54, 55, 56, 57, 58, 59, 60, 61, 40, 41, 42, 43, 44, 45, 46, 47, 62, 63, 64] rfl (by decide +kernel)
set_option maxRecDepth 20000 in
theorem gX4_closeLine_X4_tell : GoodIn wsX4_closeLine (wsV RX4 90 RX4 yX4_tell wsX4_tell) := goodIn_app (goodIn_r _ [11, 12, 13, 6] rfl (by decide +kernel)) ggX4_closeLine_X4_tell
theorem dX4_closeLine_0 : decode cX4_closeLine 0 = .ok (.aload_n 0, 1) := by decide +kernel
theorem dX4_closeLine_1 : decode cX4_closeLine 1 = .ok (.getfield 37, 3) := by decide +kernel
theorem dX4_closeLine_4 : decode cX4_closeLine 4 = .ok (.iconst 3, 1) := by decide +kernel
theorem dX4_closeLine_5 : decode cX4_closeLine 5 = .ok (.if_icmp .eq 9, 3) := by decide +kernel
theorem dX4_closeLine_8 : decode cX4_closeLine 8 = .ok (.aload_n 0, 1) := by decide +kernel
theorem dX4_closeLine_9 : decode cX4_closeLine 9 = .ok (.iconst 1, 1) := by decide +kernel
theorem dX4_closeLine_10 : decode cX4_closeLine 10 = .ok (.invokevirtual 52, 3) := by decide +kernel
theorem dX4_closeLine_13 : decode cX4_closeLine 13 = .ok (.return_, 1) := by decide +kernel
theorem dX4_closeLine_14 : decode cX4_closeLine 14 = .ok (.aload_n 0, 1) := by decide +kernel
theorem dX4_closeLine_15 : decode cX4_closeLine 15 = .ok (.iload_n 1, 1) := by decide +kernel
theorem dX4_closeLine_16 : decode cX4_closeLine 16 = .ok (.aload_n 2, 1) := by decide +kernel
theorem dX4_closeLine_17 : decode cX4_closeLine 17 = .ok (.invokevirtual 90, 3) := by decide +kernel
theorem dX4_closeLine_20 : decode cX4_closeLine 20 = .ok (.aload_n 0, 1) := by decide +kernel
theorem dX4_closeLine_21 : decode cX4_closeLine 21 = .ok (.dup, 1) := by decide +kernel
theorem dX4_closeLine_22 : decode cX4_closeLine 22 = .ok (.getfield 20, 3) := by decide +kernel
theorem dX4_closeLine_25 : decode cX4_closeLine 25 = .ok (.iconst 1, 1) := by decide +kernel
theorem dX4_closeLine_26 : decode cX4_closeLine 26 = .ok (.iadd, 1) := by decide +kernel
theorem dX4_closeLine_27 : decode cX4_closeLine 27 = .ok (.putfield 20, 3) := by decide +kernel
theorem dX4_closeLine_30 : decode cX4_closeLine 30 = .ok (.return_, 1) := by decide +kernel
theorem dX4_fail_0 : decode cX4_fail 0 = .ok (.aload_n 0, 1) := by decide +kernel
theorem dX4_fail_1 : decode cX4_fail 1 = .ok (.iload_n 1, 1) := by decide +kernel
theorem dX4_fail_2 : decode cX4_fail 2 = .ok (.putfield 24, 3) := by decide +kernel
theorem dX4_fail_5 : decode cX4_fail 5 = .ok (.aload_n 0, 1) := by decide +kernel
theorem dX4_fail_6 : decode cX4_fail 6 = .ok (.aload_n 0, 1) := by decide +kernel
theorem dX4_fail_7 : decode cX4_fail 7 = .ok (.getfield 93, 3) := by decide +kernel
theorem dX4_fail_10 : decode cX4_fail 10 = .ok (.putfield 27, 3) := by decide +kernel
theorem dX4_fail_13 : decode cX4_fail 13 = .ok (.return_, 1) := by decide +kernel
set_option maxRecDepth 20000 in
theorem ggX4_readToken_X6_at : GoodIn wsX4_readToken wsX6_at := goodIn_r _ [13, 14, 15, 31, 32] rfl (by decide +kernel)
set_option maxRecDepth 20000 in
theorem gX4_readToken_X6_at : GoodIn wsX4_readToken (wsV RX4 102 RX6 yX6_at wsX6_at) := goodIn_app (goodIn_r _ [9, 10, 11, 12] rfl (by decide +kernel)) ggX4_readToken_X6_at
set_option maxRecDepth 20000 in
theorem ggX4_readToken_X4_isBlank : GoodIn wsX4_readToken wsX4_isBlank := goodIn_r _ [19] rfl (by decide +kernel)
set_option maxRecDepth 20000 in
theorem gX4_readToken_X4_isBlank : GoodIn wsX4_readToken (va_wsS RX4 105 yX4_isBlank wsX4_isBlank) := goodIn_app (goodIn_r _ [16, 17, 18] rfl (by decide +kernel)) ggX4_readToken_X4_isBlank
set_option maxRecDepth 20000 in
theorem ggX4_readToken_X4_readRun : GoodIn wsX4_readToken wsX4_readRun := goodIn_r _ [23, 24, 6, 1, 8, 9, 10, 11, 12, 13, 14, 15, 25, 26, 18, 27, 28, 29, 30, 33, 34, 35, 36, 37, 38, 39, 40, 31, 32] rfl (by decide +kernel)
set_option maxRecDepth 20000 in
theorem gX4_readToken_X4_readRun : GoodIn wsX4_readToken (wsV RX4 108 RX4 yX4_readRun wsX4_readRun) := goodIn_app (goodIn_r _ [20, 21, 22, 18] rfl (by decide +kernel)) ggX4_readToken_X4_readRun
theorem dX4_readToken_0 : decode cX4_readToken 0 = .ok (.aload_n 1, 1) := by decide +kernel
theorem dX4_readToken_1 : decode cX4_readToken 1 = .ok (.getfield 47, 3) := by decide +kernel
theorem dX4_readToken_4 : decode cX4_readToken 4 = .ok (.sipush 800, 3) := by decide +kernel
theorem dX4_readToken_7 : decode cX4_readToken 7 = .ok (.invokestatic 96, 3) := by decide +kernel
theorem dX4_readToken_10 : decode cX4_readToken 10 = .ok (.istore_n 2, 1) := by decide +kernel
theorem dX4_readToken_11 : decode cX4_readToken 11 = .ok (.aload_n 0, 1) := by decide +kernel
theorem dX4_readToken_12 : decode cX4_readToken 12 = .ok (.getfield 30, 3) := by decide +kernel
theorem dX4_readToken_15 : decode cX4_readToken 15 = .ok (.iload_n 2, 1) := by decide +kernel
theorem dX4_readToken_16 : decode cX4_readToken 16 = .ok (.if_icmp .ge 30, 3) := by decide +kernel
theorem dX4_readToken_19 : decode cX4_readToken 19 = .ok (.aload_n 1, 1) := by decide +kernel
theorem dX4_readToken_20 : decode cX4_readToken 20 = .ok (.aload_n 0, 1) := by decide +kernel
theorem dX4_readToken_21 : decode cX4_readToken 21 = .ok (.getfield 30, 3) := by decide +kernel
theorem dX4_readToken_24 : decode cX4_readToken 24 = .ok (.invokevirtual 102, 3) := by decide +kernel
theorem dX4_readToken_27 : decode cX4_readToken 27 = .ok (.invokestatic 105, 3) := by decide +kernel
theorem dX4_readToken_30 : decode cX4_readToken 30 = .ok (.ifCond .eq 16, 3) := by decide +kernel
theorem dX4_readToken_33 : decode cX4_readToken 33 = .ok (.aload_n 0, 1) := by decide +kernel
theorem dX4_readToken_34 : decode cX4_readToken 34 = .ok (.dup, 1) := by decide +kernel
theorem dX4_readToken_35 : decode cX4_readToken 35 = .ok (.getfield 30, 3) := by decide +kernel
theorem dX4_readToken_38 : decode cX4_readToken 38 = .ok (.iconst 1, 1) := by decide +kernel
theorem dX4_readToken_39 : decode cX4_readToken 39 = .ok (.iadd, 1) := by decide +kernel
theorem dX4_readToken_40 : decode cX4_readToken 40 = .ok (.putfield 30, 3) := by decide +kernel
theorem dX4_readToken_43 : decode cX4_readToken 43 = .ok (.goto (-32), 3) := by decide +kernel
theorem dX4_readToken_46 : decode cX4_readToken 46 = .ok (.aload_n 0, 1) := by decide +kernel
theorem dX4_readToken_47 : decode cX4_readToken 47 = .ok (.getfield 30, 3) := by decide +kernel
theorem dX4_readToken_50 : decode cX4_readToken 50 = .ok (.iload_n 2, 1) := by decide +kernel
theorem dX4_readToken_51 : decode cX4_readToken 51 = .ok (.if_icmp .lt 14, 3) := by decide +kernel
theorem dX4_readToken_54 : decode cX4_readToken 54 = .ok (.aload_n 0, 1) := by decide +kernel
theorem dX4_readToken_55 : decode cX4_readToken 55 = .ok (.iload_n 2, 1) := by decide +kernel
theorem dX4_readToken_56 : decode cX4_readToken 56 = .ok (.putfield 93, 3) := by decide +kernel
theorem dX4_readToken_59 : decode cX4_readToken 59 = .ok (.aload_n 0, 1) := by decide +kernel
theorem dX4_readToken_60 : decode cX4_readToken 60 = .ok (.iconst 0, 1) := by decide +kernel
theorem dX4_readToken_61 : decode cX4_readToken 61 = .ok (.putfield 37, 3) := by decide +kernel
theorem dX4_readToken_64 : decode cX4_readToken 64 = .ok (.return_, 1) := by decide +kernel
theorem dX4_readToken_65 : decode cX4_readToken 65 = .ok (.aload_n 0, 1) := by decide +kernel
theorem dX4_readToken_66 : decode cX4_readToken 66 = .ok (.aload_n 0, 1) := by decide +kernel
theorem dX4_readToken_67 : decode cX4_readToken 67 = .ok (.getfield 30, 3) := by decide +kernel
theorem dX4_readToken_70 : decode cX4_readToken 70 = .ok (.putfield 93, 3) := by decide +kernel
theorem dX4_readToken_73 : decode cX4_readToken 73 = .ok (.aload_n 1, 1) := by decide +kernel
theorem dX4_readToken_74 : decode cX4_readToken 74 = .ok (.aload_n 0, 1) := by decide +kernel
theorem dX4_readToken_75 : decode cX4_readToken 75 = .ok (.getfield 30, 3) := by decide +kernel
theorem dX4_readToken_78 : decode cX4_readToken 78 = .ok (.invokevirtual 102, 3) := by decide +kernel
theorem dX4_readToken_81 : decode cX4_readToken 81 = .ok (.bipush 59, 2) := by decide +kernel
theorem dX4_readToken_83 : decode cX4_readToken 83 = .ok (.if_icmp .ne 21, 3) := by decide +kernel
theorem dX4_readToken_86 : decode cX4_readToken 86 = .ok (.aload_n 0, 1) := by decide +kernel
theorem dX4_readToken_87 : decode cX4_readToken 87 = .ok (.dup, 1) := by decide +kernel
theorem dX4_readToken_88 : decode cX4_readToken 88 = .ok (.getfield 30, 3) := by decide +kernel
theorem dX4_readToken_91 : decode cX4_readToken 91 = .ok (.iconst 1, 1) := by decide +kernel
theorem dX4_readToken_92 : decode cX4_readToken 92 = .ok (.iadd, 1) := by decide +kernel
theorem dX4_readToken_93 : decode cX4_readToken 93 = .ok (.putfield 30, 3) := by decide +kernel
theorem dX4_readToken_96 : decode cX4_readToken 96 = .ok (.aload_n 0, 1) := by decide +kernel
theorem dX4_readToken_97 : decode cX4_readToken 97 = .ok (.iconst 3, 1) := by decide +kernel
theorem dX4_readToken_98 : decode cX4_readToken 98 = .ok (.putfield 37, 3) := by decide +kernel
theorem dX4_readToken_101 : decode cX4_readToken 101 = .ok (.goto 8, 3) := by decide +kernel
theorem dX4_readToken_104 : decode cX4_readToken 104 = .ok (.aload_n 0, 1) := by decide +kernel
theorem dX4_readToken_105 : decode cX4_readToken 105 = .ok (.aload_n 1, 1) := by decide +kernel
theorem dX4_readToken_106 : decode cX4_readToken 106 = .ok (.invokevirtual 108, 3) := by decide +kernel
theorem dX4_readToken_109 : decode cX4_readToken 109 = .ok (.return_, 1) := by decide +kernel
set_option maxRecDepth 20000 in
theorem ggX4_readRun_X6_at : GoodIn wsX4_readRun wsX6_at := goodIn_r _ [9, 10, 11, 27, 28] rfl (by decide +kernel)
set_option maxRecDepth 20000 in
theorem gX4_readRun_X6_at : GoodIn wsX4_readRun (wsV RX4 102 RX6 yX6_at wsX6_at) := goodIn_app (goodIn_r _ [5, 6, 7, 8] rfl (by decide +kernel)) ggX4_readRun_X6_at
set_option maxRecDepth 20000 in
theorem ggX4_readRun_X4_isLetter : GoodIn wsX4_readRun wsX4_isLetter := goodIn_r _ [15] rfl (by decide +kernel)
set_option maxRecDepth 20000 in
theorem gX4_readRun_X4_isLetter : GoodIn wsX4_readRun (va_wsS RX4 111 yX4_isLetter wsX4_isLetter) := goodIn_app (goodIn_r _ [12, 13, 14] rfl (by decide +kernel)) ggX4_readRun_X4_isLetter
set_option maxRecDepth 20000 in
theorem ggX4_readRun_X4_isDigit : GoodIn wsX4_readRun wsX4_isDigit := goodIn_r _ [18] rfl (by decide +kernel)
set_option maxRecDepth 20000 in
theorem gX4_readRun_X4_isDigit : GoodIn wsX4_readRun (va_wsS RX4 114 yX4_isDigit wsX4_isDigit) := goodIn_app (goodIn_r _ [16, 17, 14] rfl (by decide +kernel)) ggX4_readRun_X4_isDigit
theorem dX4_readRun_0 : decode cX4_readRun 0 = .ok (.iconst 0, 1) := by decide +kernel
theorem dX4_readRun_1 : decode cX4_readRun 1 = .ok (.istore_n 2, 1) := by decide +kernel
theorem dX4_readRun_2 : decode cX4_readRun 2 = .ok (.iconst 0, 1) := by decide +kernel
theorem dX4_readRun_3 : decode cX4_readRun 3 = .ok (.istore_n 3, 1) := by decide +kernel
theorem dX4_readRun_4 : decode cX4_readRun 4 = .ok (.aload_n 0, 1) := by decide +kernel
theorem dX4_readRun_5 : decode cX4_readRun 5 = .ok (.iconst 0, 1) := by decide +kernel
theorem dX4_readRun_6 : decode cX4_readRun 6 = .ok (.putfield 80, 3) := by decide +kernel
theorem dX4_readRun_9 : decode cX4_readRun 9 = .ok (.aload_n 0, 1) := by decide +kernel
theorem dX4_readRun_10 : decode cX4_readRun 10 = .ok (.getfield 30, 3) := by decide +kernel
theorem dX4_readRun_13 : decode cX4_readRun 13 = .ok (.aload_n 1, 1) := by decide +kernel
theorem dX4_readRun_14 : decode cX4_readRun 14 = .ok (.getfield 47, 3) := by decide +kernel
theorem dX4_readRun_17 : decode cX4_readRun 17 = .ok (.if_icmp .ge 88, 3) := by decide +kernel
theorem dX4_readRun_20 : decode cX4_readRun 20 = .ok (.aload_n 1, 1) := by decide +kernel
theorem dX4_readRun_21 : decode cX4_readRun 21 = .ok (.aload_n 0, 1) := by decide +kernel
theorem dX4_readRun_22 : decode cX4_readRun 22 = .ok (.getfield 30, 3) := by decide +kernel
theorem dX4_readRun_25 : decode cX4_readRun 25 = .ok (.invokevirtual 102, 3) := by decide +kernel
theorem dX4_readRun_28 : decode cX4_readRun 28 = .ok (.invokestatic 111, 3) := by decide +kernel
theorem dX4_readRun_31 : decode cX4_readRun 31 = .ok (.ifCond .ne 17, 3) := by decide +kernel
theorem dX4_readRun_34 : decode cX4_readRun 34 = .ok (.aload_n 1, 1) := by decide +kernel
theorem dX4_readRun_35 : decode cX4_readRun 35 = .ok (.aload_n 0, 1) := by decide +kernel
theorem dX4_readRun_36 : decode cX4_readRun 36 = .ok (.getfield 30, 3) := by decide +kernel
theorem dX4_readRun_39 : decode cX4_readRun 39 = .ok (.invokevirtual 102, 3) := by decide +kernel
theorem dX4_readRun_42 : decode cX4_readRun 42 = .ok (.invokestatic 114, 3) := by decide +kernel
theorem dX4_readRun_45 : decode cX4_readRun 45 = .ok (.ifCond .eq 60, 3) := by decide +kernel
theorem dX4_readRun_48 : decode cX4_readRun 48 = .ok (.aload_n 1, 1) := by decide +kernel
theorem dX4_readRun_49 : decode cX4_readRun 49 = .ok (.aload_n 0, 1) := by decide +kernel
theorem dX4_readRun_50 : decode cX4_readRun 50 = .ok (.getfield 30, 3) := by decide +kernel
theorem dX4_readRun_53 : decode cX4_readRun 53 = .ok (.invokevirtual 102, 3) := by decide +kernel
theorem dX4_readRun_56 : decode cX4_readRun 56 = .ok (.istore 4, 2) := by decide +kernel
theorem dX4_readRun_58 : decode cX4_readRun 58 = .ok (.iload 4, 2) := by decide +kernel
theorem dX4_readRun_60 : decode cX4_readRun 60 = .ok (.invokestatic 111, 3) := by decide +kernel
theorem dX4_readRun_63 : decode cX4_readRun 63 = .ok (.ifCond .eq 9, 3) := by decide +kernel
theorem dX4_readRun_66 : decode cX4_readRun 66 = .ok (.iinc 2 1, 3) := by decide +kernel
theorem dX4_readRun_69 : decode cX4_readRun 69 = .ok (.goto 23, 3) := by decide +kernel
theorem dX4_readRun_72 : decode cX4_readRun 72 = .ok (.iinc 3 1, 3) := by decide +kernel
theorem dX4_readRun_75 : decode cX4_readRun 75 = .ok (.aload_n 0, 1) := by decide +kernel
theorem dX4_readRun_76 : decode cX4_readRun 76 = .ok (.aload_n 0, 1) := by decide +kernel
theorem dX4_readRun_77 : decode cX4_readRun 77 = .ok (.getfield 80, 3) := by decide +kernel
theorem dX4_readRun_80 : decode cX4_readRun 80 = .ok (.bipush 10, 2) := by decide +kernel
theorem dX4_readRun_82 : decode cX4_readRun 82 = .ok (.imul, 1) := by decide +kernel
theorem dX4_readRun_83 : decode cX4_readRun 83 = .ok (.iload 4, 2) := by decide +kernel
theorem dX4_readRun_85 : decode cX4_readRun 85 = .ok (.bipush 48, 2) := by decide +kernel
theorem dX4_readRun_87 : decode cX4_readRun 87 = .ok (.isub, 1) := by decide +kernel
theorem dX4_readRun_88 : decode cX4_readRun 88 = .ok (.iadd, 1) := by decide +kernel
theorem dX4_readRun_89 : decode cX4_readRun 89 = .ok (.putfield 80, 3) := by decide +kernel
theorem dX4_readRun_92 : decode cX4_readRun 92 = .ok (.aload_n 0, 1) := by decide +kernel
theorem dX4_readRun_93 : decode cX4_readRun 93 = .ok (.dup, 1) := by decide +kernel
theorem dX4_readRun_94 : decode cX4_readRun 94 = .ok (.getfield 30, 3) := by decide +kernel
theorem dX4_readRun_97 : decode cX4_readRun 97 = .ok (.iconst 1, 1) := by decide +kernel
theorem dX4_readRun_98 : decode cX4_readRun 98 = .ok (.iadd, 1) := by decide +kernel
theorem dX4_readRun_99 : decode cX4_readRun 99 = .ok (.putfield 30, 3) := by decide +kernel
theorem dX4_readRun_102 : decode cX4_readRun 102 = .ok (.goto (-93), 3) := by decide +kernel
theorem dX4_readRun_105 : decode cX4_readRun 105 = .ok (.iload_n 2, 1) := by decide +kernel
theorem dX4_readRun_106 : decode cX4_readRun 106 = .ok (.ifCond .le 15, 3) := by decide +kernel
theorem dX4_readRun_109 : decode cX4_readRun 109 = .ok (.iload_n 3, 1) := by decide +kernel
theorem dX4_readRun_110 : decode cX4_readRun 110 = .ok (.ifCond .ne 11, 3) := by decide +kernel
theorem dX4_readRun_113 : decode cX4_readRun 113 = .ok (.aload_n 0, 1) := by decide +kernel
theorem dX4_readRun_114 : decode cX4_readRun 114 = .ok (.iconst 1, 1) := by decide +kernel
theorem dX4_readRun_115 : decode cX4_readRun 115 = .ok (.putfield 37, 3) := by decide +kernel
theorem dX4_readRun_118 : decode cX4_readRun 118 = .ok (.goto 29, 3) := by decide +kernel
theorem dX4_readRun_121 : decode cX4_readRun 121 = .ok (.iload_n 2, 1) := by decide +kernel
theorem dX4_readRun_122 : decode cX4_readRun 122 = .ok (.ifCond .ne 20, 3) := by decide +kernel
theorem dX4_readRun_125 : decode cX4_readRun 125 = .ok (.iload_n 3, 1) := by decide +kernel
theorem dX4_readRun_126 : decode cX4_readRun 126 = .ok (.ifCond .le 16, 3) := by decide +kernel
theorem dX4_readRun_129 : decode cX4_readRun 129 = .ok (.iload_n 3, 1) := by decide +kernel
theorem dX4_readRun_130 : decode cX4_readRun 130 = .ok (.iconst 5, 1) := by decide +kernel
theorem dX4_readRun_131 : decode cX4_readRun 131 = .ok (.if_icmp .gt 11, 3) := by decide +kernel
theorem dX4_readRun_134 : decode cX4_readRun 134 = .ok (.aload_n 0, 1) := by decide +kernel
theorem dX4_readRun_135 : decode cX4_readRun 135 = .ok (.iconst 2, 1) := by decide +kernel
theorem dX4_readRun_136 : decode cX4_readRun 136 = .ok (.putfield 37, 3) := by decide +kernel
theorem dX4_readRun_139 : decode cX4_readRun 139 = .ok (.goto 8, 3) := by decide +kernel
theorem dX4_readRun_142 : decode cX4_readRun 142 = .ok (.aload_n 0, 1) := by decide +kernel
theorem dX4_readRun_143 : decode cX4_readRun 143 = .ok (.iconst 4, 1) := by decide +kernel
theorem dX4_readRun_144 : decode cX4_readRun 144 = .ok (.putfield 37, 3) := by decide +kernel
theorem dX4_readRun_147 : decode cX4_readRun 147 = .ok (.return_, 1) := by decide +kernel
theorem dX4_isBlank_0 : decode cX4_isBlank 0 = .ok (.iload_n 0, 1) := by decide +kernel
theorem dX4_isBlank_1 : decode cX4_isBlank 1 = .ok (.bipush 32, 2) := by decide +kernel
theorem dX4_isBlank_3 : decode cX4_isBlank 3 = .ok (.if_icmp .eq 9, 3) := by decide +kernel
theorem dX4_isBlank_6 : decode cX4_isBlank 6 = .ok (.iload_n 0, 1) := by decide +kernel
theorem dX4_isBlank_7 : decode cX4_isBlank 7 = .ok (.bipush 10, 2) := by decide +kernel
theorem dX4_isBlank_9 : decode cX4_isBlank 9 = .ok (.if_icmp .ne 7, 3) := by decide +kernel
theorem dX4_isBlank_12 : decode cX4_isBlank 12 = .ok (.iconst 1, 1) := by decide +kernel
theorem dX4_isBlank_13 : decode cX4_isBlank 13 = .ok (.goto 4, 3) := by decide +kernel
theorem dX4_isBlank_16 : decode cX4_isBlank 16 = .ok (.iconst 0, 1) := by decide +kernel
theorem dX4_isBlank_17 : decode cX4_isBlank 17 = .ok (.ireturn, 1) := by decide +kernel
theorem dX4_isLetter_0 : decode cX4_isLetter 0 = .ok (.iload_n 0, 1) := by decide +kernel
theorem dX4_isLetter_1 : decode cX4_isLetter 1 = .ok (.bipush 97, 2) := by decide +kernel
theorem dX4_isLetter_3 : decode cX4_isLetter 3 = .ok (.if_icmp .lt 13, 3) := by decide +kernel
theorem dX4_isLetter_6 : decode cX4_isLetter 6 = .ok (.iload_n 0, 1) := by decide +kernel
theorem dX4_isLetter_7 : decode cX4_isLetter 7 = .ok (.bipush 122, 2) := by decide +kernel
theorem dX4_isLetter_9 : decode cX4_isLetter 9 = .ok (.if_icmp .gt 7, 3) := by decide +kernel
theorem dX4_isLetter_12 : decode cX4_isLetter 12 = .ok (.iconst 1, 1) := by decide +kernel
theorem dX4_isLetter_13 : decode cX4_isLetter 13 = .ok (.goto 4, 3) := by decide +kernel
theorem dX4_isLetter_16 : decode cX4_isLetter 16 = .ok (.iconst 0, 1) := by decide +kernel
theorem dX4_isLetter_17 : decode cX4_isLetter 17 = .ok (.ireturn, 1) := by decide +kernel
theorem dX4_isDigit_0 : decode cX4_isDigit 0 = .ok (.iload_n 0, 1) := by decide +kernel
theorem dX4_isDigit_1 : decode cX4_isDigit 1 = .ok (.bipush 48, 2) := by decide +kernel
theorem dX4_isDigit_3 : decode cX4_isDigit 3 = .ok (.if_icmp .lt 13, 3) := by decide +kernel
theorem dX4_isDigit_6 : decode cX4_isDigit 6 = .ok (.iload_n 0, 1) := by decide +kernel
theorem dX4_isDigit_7 : decode cX4_isDigit 7 = .ok (.bipush 57, 2) := by decide +kernel
theorem dX4_isDigit_9 : decode cX4_isDigit 9 = .ok (.if_icmp .gt 7, 3) := by decide +kernel
theorem dX4_isDigit_12 : decode cX4_isDigit 12 = .ok (.iconst 1, 1) := by decide +kernel
theorem dX4_isDigit_13 : decode cX4_isDigit 13 = .ok (.goto 4, 3) := by decide +kernel
theorem dX4_isDigit_16 : decode cX4_isDigit 16 = .ok (.iconst 0, 1) := by decide +kernel
theorem dX4_isDigit_17 : decode cX4_isDigit 17 = .ok (.ireturn, 1) := by decide +kernel
set_option maxRecDepth 20000 in
theorem ggX4_sortOfWord_X4_wordOf : GoodIn wsX4_sortOfWord wsX4_wordOf := goodIn_r _ [4] rfl (by decide +kernel)
set_option maxRecDepth 20000 in
theorem gX4_sortOfWord_X4_wordOf : GoodIn wsX4_sortOfWord (va_wsS RX4 117 yX4_wordOf wsX4_wordOf) := goodIn_app (goodIn_r _ [1, 2, 3] rfl (by decide +kernel)) ggX4_sortOfWord_X4_wordOf
set_option maxRecDepth 20000 in
theorem ggX4_sortOfWord_X4_isWord : GoodIn wsX4_sortOfWord wsX4_isWord := goodIn_r _ [8, 9, 10, 11, 12, 13, 14, 15, 16, 17, 18, 19, 20, 21, 22, 23, 24, 25, 26, 27, 28, 29, 30, 31, 32, 33, 34, 35, 36, 37, 38, 39, 40, 41, 42, 43, 44, 45, 46, 47, 48, 49, 50, 51, 52, 53, 54, 55, 56, 57, 58, 59, 60, 61, 62, 63, 64, 65, 66, 67, 68, 69, 70, 71, 72, 73, 74, 75, 76] rfl (by decide +kernel)
set_option maxRecDepth 20000 in
theorem gX4_sortOfWord_X4_isWord : GoodIn wsX4_sortOfWord (wsV RX4 121 RX4 yX4_isWord wsX4_isWord) := goodIn_app (goodIn_r _ [5, 6, 7, 3] rfl (by decide +kernel)) ggX4_sortOfWord_X4_isWord
theorem dX4_sortOfWord_0 : decode cX4_sortOfWord 0 = .ok (.iconst 0, 1) := by decide +kernel
theorem dX4_sortOfWord_1 : decode cX4_sortOfWord 1 = .ok (.istore_n 2, 1) := by decide +kernel
theorem dX4_sortOfWord_2 : decode cX4_sortOfWord 2 = .ok (.iload_n 2, 1) := by decide +kernel
theorem dX4_sortOfWord_3 : decode cX4_sortOfWord 3 = .ok (.bipush 8, 2) := by decide +kernel
theorem dX4_sortOfWord_5 : decode cX4_sortOfWord 5 = .ok (.if_icmp .ge 23, 3) := by decide +kernel
theorem dX4_sortOfWord_8 : decode cX4_sortOfWord 8 = .ok (.aload_n 0, 1) := by decide +kernel
theorem dX4_sortOfWord_9 : decode cX4_sortOfWord 9 = .ok (.iload_n 2, 1) := by decide +kernel
theorem dX4_sortOfWord_10 : decode cX4_sortOfWord 10 = .ok (.invokestatic 117, 3) := by decide +kernel
theorem dX4_sortOfWord_13 : decode cX4_sortOfWord 13 = .ok (.aload_n 1, 1) := by decide +kernel
theorem dX4_sortOfWord_14 : decode cX4_sortOfWord 14 = .ok (.invokevirtual 121, 3) := by decide +kernel
theorem dX4_sortOfWord_17 : decode cX4_sortOfWord 17 = .ok (.ifCond .eq 5, 3) := by decide +kernel
theorem dX4_sortOfWord_20 : decode cX4_sortOfWord 20 = .ok (.iload_n 2, 1) := by decide +kernel
theorem dX4_sortOfWord_21 : decode cX4_sortOfWord 21 = .ok (.ireturn, 1) := by decide +kernel
theorem dX4_sortOfWord_22 : decode cX4_sortOfWord 22 = .ok (.iinc 2 1, 3) := by decide +kernel
theorem dX4_sortOfWord_25 : decode cX4_sortOfWord 25 = .ok (.goto (-23), 3) := by decide +kernel
theorem dX4_sortOfWord_28 : decode cX4_sortOfWord 28 = .ok (.iconst (-1), 1) := by decide +kernel
theorem dX4_sortOfWord_29 : decode cX4_sortOfWord 29 = .ok (.ireturn, 1) := by decide +kernel
set_option maxRecDepth 20000 in
theorem ggX4_isWord_J0_length_8abf5 : GoodIn wsX4_isWord wsJ0_length_8abf5 := goodIn_r _ [7, 8, 9, 10, 11, 6, 12, 13, 14] rfl (by decide +kernel)
set_option maxRecDepth 20000 in
theorem gX4_isWord_J0_length_8abf5 : GoodIn wsX4_isWord (wsV RX4 125 RJ0 yJ0_length_8abf5 wsJ0_length_8abf5) := goodIn_app (goodIn_r _ [3, 4, 5, 6] rfl (by decide +kernel)) ggX4_isWord_J0_length_8abf5
set_option maxRecDepth 20000 in
theorem ggX4_isWord_J0_charAt_5068e : GoodIn wsX4_isWord wsJ0_charAt_5068e := goodIn_r _ [18, 8, 19, 20, 21, 6, 22, 13, 14, 23, 24, 25, 26, 27, 28, 29, 30, 31, 32, 33, 34, 35, 36, 37, 38, 39, 40, 41, 42, 43, 44, 45, 46, 47, 48, 49, 50, 51] rfl (by decide +kernel)
set_option maxRecDepth 20000 in
theorem gX4_isWord_J0_charAt_5068e : GoodIn wsX4_isWord (wsV RX4 130 RJ0 yJ0_charAt_5068e wsJ0_charAt_5068e) := goodIn_app (goodIn_r _ [15, 16, 17, 6] rfl (by decide +kernel)) ggX4_isWord_J0_charAt_5068e
set_option maxRecDepth 20000 in
theorem ggX4_isWord_X6_at : GoodIn wsX4_isWord wsX6_at := goodIn_r _ [56, 57, 58, 67, 68] rfl (by decide +kernel)
set_option maxRecDepth 20000 in
theorem gX4_isWord_X6_at : GoodIn wsX4_isWord (wsV RX4 102 RX6 yX6_at wsX6_at) := goodIn_app (goodIn_r _ [52, 53, 54, 55] rfl (by decide +kernel)) ggX4_isWord_X6_at
theorem dX4_isWord_0 : decode cX4_isWord 0 = .ok (.aload_n 1, 1) := by decide +kernel
theorem dX4_isWord_1 : decode cX4_isWord 1 = .ok (.invokevirtual 125, 3) := by decide +kernel
theorem dX4_isWord_4 : decode cX4_isWord 4 = .ok (.aload_n 0, 1) := by decide +kernel
theorem dX4_isWord_5 : decode cX4_isWord 5 = .ok (.getfield 30, 3) := by decide +kernel
theorem dX4_isWord_8 : decode cX4_isWord 8 = .ok (.aload_n 0, 1) := by decide +kernel
theorem dX4_isWord_9 : decode cX4_isWord 9 = .ok (.getfield 93, 3) := by decide +kernel
theorem dX4_isWord_12 : decode cX4_isWord 12 = .ok (.isub, 1) := by decide +kernel
theorem dX4_isWord_13 : decode cX4_isWord 13 = .ok (.if_icmp .eq 5, 3) := by decide +kernel
theorem dX4_isWord_16 : decode cX4_isWord 16 = .ok (.iconst 0, 1) := by decide +kernel
theorem dX4_isWord_17 : decode cX4_isWord 17 = .ok (.ireturn, 1) := by decide +kernel
theorem dX4_isWord_18 : decode cX4_isWord 18 = .ok (.iconst 0, 1) := by decide +kernel
theorem dX4_isWord_19 : decode cX4_isWord 19 = .ok (.istore_n 3, 1) := by decide +kernel
theorem dX4_isWord_20 : decode cX4_isWord 20 = .ok (.iload_n 3, 1) := by decide +kernel
theorem dX4_isWord_21 : decode cX4_isWord 21 = .ok (.aload_n 1, 1) := by decide +kernel
theorem dX4_isWord_22 : decode cX4_isWord 22 = .ok (.invokevirtual 125, 3) := by decide +kernel
theorem dX4_isWord_25 : decode cX4_isWord 25 = .ok (.if_icmp .ge 29, 3) := by decide +kernel
theorem dX4_isWord_28 : decode cX4_isWord 28 = .ok (.aload_n 1, 1) := by decide +kernel
theorem dX4_isWord_29 : decode cX4_isWord 29 = .ok (.iload_n 3, 1) := by decide +kernel
theorem dX4_isWord_30 : decode cX4_isWord 30 = .ok (.invokevirtual 130, 3) := by decide +kernel
theorem dX4_isWord_33 : decode cX4_isWord 33 = .ok (.aload_n 2, 1) := by decide +kernel
theorem dX4_isWord_34 : decode cX4_isWord 34 = .ok (.aload_n 0, 1) := by decide +kernel
theorem dX4_isWord_35 : decode cX4_isWord 35 = .ok (.getfield 93, 3) := by decide +kernel
theorem dX4_isWord_38 : decode cX4_isWord 38 = .ok (.iload_n 3, 1) := by decide +kernel
theorem dX4_isWord_39 : decode cX4_isWord 39 = .ok (.iadd, 1) := by decide +kernel
theorem dX4_isWord_40 : decode cX4_isWord 40 = .ok (.invokevirtual 102, 3) := by decide +kernel
theorem dX4_isWord_43 : decode cX4_isWord 43 = .ok (.if_icmp .eq 5, 3) := by decide +kernel
theorem dX4_isWord_46 : decode cX4_isWord 46 = .ok (.iconst 0, 1) := by decide +kernel
theorem dX4_isWord_47 : decode cX4_isWord 47 = .ok (.ireturn, 1) := by decide +kernel
theorem dX4_isWord_48 : decode cX4_isWord 48 = .ok (.iinc 3 1, 3) := by decide +kernel
theorem dX4_isWord_51 : decode cX4_isWord 51 = .ok (.goto (-31), 3) := by decide +kernel
theorem dX4_isWord_54 : decode cX4_isWord 54 = .ok (.iconst 1, 1) := by decide +kernel
theorem dX4_isWord_55 : decode cX4_isWord 55 = .ok (.ireturn, 1) := by decide +kernel
theorem dX4_wordOf_0 : decode cX4_wordOf 0 = .ok (.iload_n 0, 1) := by decide +kernel
theorem dX4_wordOf_1 : decode cX4_wordOf 1 = .ok (.tableswitch 71 0 7 #[47, 50, 53, 56, 59, 62, 65, 68], 47) := by decide +kernel
theorem dX4_wordOf_48 : decode cX4_wordOf 48 = .ok (.ldc 134, 2) := by decide +kernel
theorem dX4_wordOf_50 : decode cX4_wordOf 50 = .ok (.areturn, 1) := by decide +kernel
theorem dX4_wordOf_51 : decode cX4_wordOf 51 = .ok (.ldc 136, 2) := by decide +kernel
theorem dX4_wordOf_53 : decode cX4_wordOf 53 = .ok (.areturn, 1) := by decide +kernel
theorem dX4_wordOf_54 : decode cX4_wordOf 54 = .ok (.ldc 138, 2) := by decide +kernel
theorem dX4_wordOf_56 : decode cX4_wordOf 56 = .ok (.areturn, 1) := by decide +kernel
theorem dX4_wordOf_57 : decode cX4_wordOf 57 = .ok (.ldc 140, 2) := by decide +kernel
theorem dX4_wordOf_59 : decode cX4_wordOf 59 = .ok (.areturn, 1) := by decide +kernel
theorem dX4_wordOf_60 : decode cX4_wordOf 60 = .ok (.ldc 142, 2) := by decide +kernel
theorem dX4_wordOf_62 : decode cX4_wordOf 62 = .ok (.areturn, 1) := by decide +kernel
theorem dX4_wordOf_63 : decode cX4_wordOf 63 = .ok (.ldc 144, 2) := by decide +kernel
theorem dX4_wordOf_65 : decode cX4_wordOf 65 = .ok (.areturn, 1) := by decide +kernel
theorem dX4_wordOf_66 : decode cX4_wordOf 66 = .ok (.ldc 146, 2) := by decide +kernel
theorem dX4_wordOf_68 : decode cX4_wordOf 68 = .ok (.areturn, 1) := by decide +kernel
theorem dX4_wordOf_69 : decode cX4_wordOf 69 = .ok (.ldc 148, 2) := by decide +kernel
theorem dX4_wordOf_71 : decode cX4_wordOf 71 = .ok (.areturn, 1) := by decide +kernel
theorem dX4_wordOf_72 : decode cX4_wordOf 72 = .ok (.ldc 150, 2) := by decide +kernel
theorem dX4_wordOf_74 : decode cX4_wordOf 74 = .ok (.areturn, 1) := by decide +kernel
theorem dX4_canCome_0 : decode cX4_canCome 0 = .ok (.aload_n 0, 1) := by decide +kernel
theorem dX4_canCome_1 : decode cX4_canCome 1 = .ok (.getfield 20, 3) := by decide +kernel
theorem dX4_canCome_4 : decode cX4_canCome 4 = .ok (.ifCond .ne 13, 3) := by decide +kernel
theorem dX4_canCome_7 : decode cX4_canCome 7 = .ok (.iload_n 1, 1) := by decide +kernel
theorem dX4_canCome_8 : decode cX4_canCome 8 = .ok (.ifCond .ne 7, 3) := by decide +kernel
theorem dX4_canCome_11 : decode cX4_canCome 11 = .ok (.iconst 1, 1) := by decide +kernel
theorem dX4_canCome_12 : decode cX4_canCome 12 = .ok (.goto 4, 3) := by decide +kernel
theorem dX4_canCome_15 : decode cX4_canCome 15 = .ok (.iconst 0, 1) := by decide +kernel
theorem dX4_canCome_16 : decode cX4_canCome 16 = .ok (.ireturn, 1) := by decide +kernel
theorem dX4_canCome_17 : decode cX4_canCome 17 = .ok (.aload_n 0, 1) := by decide +kernel
theorem dX4_canCome_18 : decode cX4_canCome 18 = .ok (.getfield 20, 3) := by decide +kernel
theorem dX4_canCome_21 : decode cX4_canCome 21 = .ok (.iconst 4, 1) := by decide +kernel
theorem dX4_canCome_22 : decode cX4_canCome 22 = .ok (.if_icmp .gt 14, 3) := by decide +kernel
theorem dX4_canCome_25 : decode cX4_canCome 25 = .ok (.iload_n 1, 1) := by decide +kernel
theorem dX4_canCome_26 : decode cX4_canCome 26 = .ok (.iconst 1, 1) := by decide +kernel
theorem dX4_canCome_27 : decode cX4_canCome 27 = .ok (.if_icmp .ne 7, 3) := by decide +kernel
theorem dX4_canCome_30 : decode cX4_canCome 30 = .ok (.iconst 1, 1) := by decide +kernel
theorem dX4_canCome_31 : decode cX4_canCome 31 = .ok (.goto 4, 3) := by decide +kernel
theorem dX4_canCome_34 : decode cX4_canCome 34 = .ok (.iconst 0, 1) := by decide +kernel
theorem dX4_canCome_35 : decode cX4_canCome 35 = .ok (.ireturn, 1) := by decide +kernel
theorem dX4_canCome_36 : decode cX4_canCome 36 = .ok (.aload_n 0, 1) := by decide +kernel
theorem dX4_canCome_37 : decode cX4_canCome 37 = .ok (.getfield 20, 3) := by decide +kernel
theorem dX4_canCome_40 : decode cX4_canCome 40 = .ok (.bipush 6, 2) := by decide +kernel
theorem dX4_canCome_42 : decode cX4_canCome 42 = .ok (.if_icmp .ge 14, 3) := by decide +kernel
theorem dX4_canCome_45 : decode cX4_canCome 45 = .ok (.iload_n 1, 1) := by decide +kernel
theorem dX4_canCome_46 : decode cX4_canCome 46 = .ok (.iconst 2, 1) := by decide +kernel
theorem dX4_canCome_47 : decode cX4_canCome 47 = .ok (.if_icmp .ne 7, 3) := by decide +kernel
theorem dX4_canCome_50 : decode cX4_canCome 50 = .ok (.iconst 1, 1) := by decide +kernel
theorem dX4_canCome_51 : decode cX4_canCome 51 = .ok (.goto 4, 3) := by decide +kernel
theorem dX4_canCome_54 : decode cX4_canCome 54 = .ok (.iconst 0, 1) := by decide +kernel
theorem dX4_canCome_55 : decode cX4_canCome 55 = .ok (.ireturn, 1) := by decide +kernel
theorem dX4_canCome_56 : decode cX4_canCome 56 = .ok (.iload_n 1, 1) := by decide +kernel
theorem dX4_canCome_57 : decode cX4_canCome 57 = .ok (.iconst 3, 1) := by decide +kernel
theorem dX4_canCome_58 : decode cX4_canCome 58 = .ok (.if_icmp .lt 7, 3) := by decide +kernel
theorem dX4_canCome_61 : decode cX4_canCome 61 = .ok (.iconst 1, 1) := by decide +kernel
theorem dX4_canCome_62 : decode cX4_canCome 62 = .ok (.goto 4, 3) := by decide +kernel
theorem dX4_canCome_65 : decode cX4_canCome 65 = .ok (.iconst 0, 1) := by decide +kernel
theorem dX4_canCome_66 : decode cX4_canCome 66 = .ok (.ireturn, 1) := by decide +kernel
set_option maxRecDepth 20000 in
theorem ggX4_hasAllOf_X5_isFull : GoodIn wsX4_hasAllOf wsX5_isFull := goodIn_r _ [11, 12, 13, 28, 29, 30] rfl (by decide +kernel)
set_option maxRecDepth 20000 in
theorem gX4_hasAllOf_X5_isFull : GoodIn wsX4_hasAllOf (wsV RX4 156 RX5 yX5_isFull wsX5_isFull) := goodIn_app (goodIn_r _ [7, 8, 9, 10] rfl (by decide +kernel)) ggX4_hasAllOf_X5_isFull
theorem dX4_hasAllOf_0 : decode cX4_hasAllOf 0 = .ok (.iload_n 0, 1) := by decide +kernel
theorem dX4_hasAllOf_1 : decode cX4_hasAllOf 1 = .ok (.tableswitch 92 3 7 #[35, 43, 48, 56, 74], 35) := by decide +kernel
theorem dX4_hasAllOf_36 : decode cX4_hasAllOf 36 = .ok (.aload_n 1, 1) := by decide +kernel
theorem dX4_hasAllOf_37 : decode cX4_hasAllOf 37 = .ok (.getfield 152, 3) := by decide +kernel
theorem dX4_hasAllOf_40 : decode cX4_hasAllOf 40 = .ok (.invokevirtual 156, 3) := by decide +kernel
theorem dX4_hasAllOf_43 : decode cX4_hasAllOf 43 = .ok (.ireturn, 1) := by decide +kernel
theorem dX4_hasAllOf_44 : decode cX4_hasAllOf 44 = .ok (.aload_n 1, 1) := by decide +kernel
theorem dX4_hasAllOf_45 : decode cX4_hasAllOf 45 = .ok (.getfield 162, 3) := by decide +kernel
theorem dX4_hasAllOf_48 : decode cX4_hasAllOf 48 = .ok (.ireturn, 1) := by decide +kernel
theorem dX4_hasAllOf_49 : decode cX4_hasAllOf 49 = .ok (.aload_n 1, 1) := by decide +kernel
theorem dX4_hasAllOf_50 : decode cX4_hasAllOf 50 = .ok (.getfield 166, 3) := by decide +kernel
theorem dX4_hasAllOf_53 : decode cX4_hasAllOf 53 = .ok (.invokevirtual 156, 3) := by decide +kernel
theorem dX4_hasAllOf_56 : decode cX4_hasAllOf 56 = .ok (.ireturn, 1) := by decide +kernel
theorem dX4_hasAllOf_57 : decode cX4_hasAllOf 57 = .ok (.aload_n 1, 1) := by decide +kernel
theorem dX4_hasAllOf_58 : decode cX4_hasAllOf 58 = .ok (.getfield 169, 3) := by decide +kernel
theorem dX4_hasAllOf_61 : decode cX4_hasAllOf 61 = .ok (.getfield 172, 3) := by decide +kernel
theorem dX4_hasAllOf_64 : decode cX4_hasAllOf 64 = .ok (.bipush 20, 2) := by decide +kernel
theorem dX4_hasAllOf_66 : decode cX4_hasAllOf 66 = .ok (.if_icmp .lt 7, 3) := by decide +kernel
theorem dX4_hasAllOf_69 : decode cX4_hasAllOf 69 = .ok (.iconst 1, 1) := by decide +kernel
theorem dX4_hasAllOf_70 : decode cX4_hasAllOf 70 = .ok (.goto 4, 3) := by decide +kernel
theorem dX4_hasAllOf_73 : decode cX4_hasAllOf 73 = .ok (.iconst 0, 1) := by decide +kernel
theorem dX4_hasAllOf_74 : decode cX4_hasAllOf 74 = .ok (.ireturn, 1) := by decide +kernel
theorem dX4_hasAllOf_75 : decode cX4_hasAllOf 75 = .ok (.aload_n 1, 1) := by decide +kernel
theorem dX4_hasAllOf_76 : decode cX4_hasAllOf 76 = .ok (.getfield 175, 3) := by decide +kernel
theorem dX4_hasAllOf_79 : decode cX4_hasAllOf 79 = .ok (.getfield 172, 3) := by decide +kernel
theorem dX4_hasAllOf_82 : decode cX4_hasAllOf 82 = .ok (.bipush 20, 2) := by decide +kernel
theorem dX4_hasAllOf_84 : decode cX4_hasAllOf 84 = .ok (.if_icmp .lt 7, 3) := by decide +kernel
theorem dX4_hasAllOf_87 : decode cX4_hasAllOf 87 = .ok (.iconst 1, 1) := by decide +kernel
theorem dX4_hasAllOf_88 : decode cX4_hasAllOf 88 = .ok (.goto 4, 3) := by decide +kernel
theorem dX4_hasAllOf_91 : decode cX4_hasAllOf 91 = .ok (.iconst 0, 1) := by decide +kernel
theorem dX4_hasAllOf_92 : decode cX4_hasAllOf 92 = .ok (.ireturn, 1) := by decide +kernel
theorem dX4_hasAllOf_93 : decode cX4_hasAllOf 93 = .ok (.iconst 0, 1) := by decide +kernel
theorem dX4_hasAllOf_94 : decode cX4_hasAllOf 94 = .ok (.ireturn, 1) := by decide +kernel
theorem dX4_numbersOf_0 : decode cX4_numbersOf 0 = .ok (.iload_n 0, 1) := by decide +kernel
theorem dX4_numbersOf_1 : decode cX4_numbersOf 1 = .ok (.lookupswitch 31 #[(0, 27), (4, 29)], 27) := by decide +kernel
theorem dX4_numbersOf_28 : decode cX4_numbersOf 28 = .ok (.iconst 3, 1) := by decide +kernel
theorem dX4_numbersOf_29 : decode cX4_numbersOf 29 = .ok (.ireturn, 1) := by decide +kernel
theorem dX4_numbersOf_30 : decode cX4_numbersOf 30 = .ok (.iconst 1, 1) := by decide +kernel
theorem dX4_numbersOf_31 : decode cX4_numbersOf 31 = .ok (.ireturn, 1) := by decide +kernel
theorem dX4_numbersOf_32 : decode cX4_numbersOf 32 = .ok (.iconst 2, 1) := by decide +kernel
theorem dX4_numbersOf_33 : decode cX4_numbersOf 33 = .ok (.ireturn, 1) := by decide +kernel
set_option maxRecDepth 20000 in
theorem ggX4_lowest_X5_lastFirst : GoodIn wsX4_lowest wsX5_lastFirst := goodIn_r _ [12, 13, 14, 15, 16, 11, 17, 18, 42, 43, 44] rfl (by decide +kernel)
set_option maxRecDepth 20000 in
theorem gX4_lowest_X5_lastFirst : GoodIn wsX4_lowest (wsV RX4 181 RX5 yX5_lastFirst wsX5_lastFirst) := goodIn_app (goodIn_r _ [8, 9, 10, 11] rfl (by decide +kernel)) ggX4_lowest_X5_lastFirst
set_option maxRecDepth 20000 in
theorem ggX4_lowest_X5_lastSecond : GoodIn wsX4_lowest wsX5_lastSecond := goodIn_r _ [22, 13, 23, 24, 25, 11, 26, 27, 42, 43, 44] rfl (by decide +kernel)
set_option maxRecDepth 20000 in
theorem gX4_lowest_X5_lastSecond : GoodIn wsX4_lowest (wsV RX4 184 RX5 yX5_lastSecond wsX5_lastSecond) := goodIn_app (goodIn_r _ [19, 20, 21, 11] rfl (by decide +kernel)) ggX4_lowest_X5_lastSecond
theorem dX4_lowest_0 : decode cX4_lowest 0 = .ok (.iload_n 0, 1) := by decide +kernel
theorem dX4_lowest_1 : decode cX4_lowest 1 = .ok (.tableswitch 117 1 7 #[43, 117, 67, 117, 89, 107, 107], 43) := by decide +kernel
theorem dX4_lowest_44 : decode cX4_lowest 44 = .ok (.iconst 1, 1) := by decide +kernel
theorem dX4_lowest_45 : decode cX4_lowest 45 = .ok (.iload_n 1, 1) := by decide +kernel
theorem dX4_lowest_46 : decode cX4_lowest 46 = .ok (.ifCond .ne 13, 3) := by decide +kernel
theorem dX4_lowest_49 : decode cX4_lowest 49 = .ok (.aload_n 2, 1) := by decide +kernel
theorem dX4_lowest_50 : decode cX4_lowest 50 = .ok (.getfield 178, 3) := by decide +kernel
theorem dX4_lowest_53 : decode cX4_lowest 53 = .ok (.invokevirtual 181, 3) := by decide +kernel
theorem dX4_lowest_56 : decode cX4_lowest 56 = .ok (.goto 10, 3) := by decide +kernel
theorem dX4_lowest_59 : decode cX4_lowest 59 = .ok (.aload_n 2, 1) := by decide +kernel
theorem dX4_lowest_60 : decode cX4_lowest 60 = .ok (.getfield 178, 3) := by decide +kernel
theorem dX4_lowest_63 : decode cX4_lowest 63 = .ok (.invokevirtual 184, 3) := by decide +kernel
theorem dX4_lowest_66 : decode cX4_lowest 66 = .ok (.iadd, 1) := by decide +kernel
theorem dX4_lowest_67 : decode cX4_lowest 67 = .ok (.ireturn, 1) := by decide +kernel
theorem dX4_lowest_68 : decode cX4_lowest 68 = .ok (.iload_n 1, 1) := by decide +kernel
theorem dX4_lowest_69 : decode cX4_lowest 69 = .ok (.ifCond .ne 19, 3) := by decide +kernel
theorem dX4_lowest_72 : decode cX4_lowest 72 = .ok (.iconst 1, 1) := by decide +kernel
theorem dX4_lowest_73 : decode cX4_lowest 73 = .ok (.iconst 1, 1) := by decide +kernel
theorem dX4_lowest_74 : decode cX4_lowest 74 = .ok (.aload_n 2, 1) := by decide +kernel
theorem dX4_lowest_75 : decode cX4_lowest 75 = .ok (.getfield 152, 3) := by decide +kernel
theorem dX4_lowest_78 : decode cX4_lowest 78 = .ok (.invokevirtual 181, 3) := by decide +kernel
theorem dX4_lowest_81 : decode cX4_lowest 81 = .ok (.iadd, 1) := by decide +kernel
theorem dX4_lowest_82 : decode cX4_lowest 82 = .ok (.invokestatic 187, 3) := by decide +kernel
theorem dX4_lowest_85 : decode cX4_lowest 85 = .ok (.goto 4, 3) := by decide +kernel
theorem dX4_lowest_88 : decode cX4_lowest 88 = .ok (.iconst 0, 1) := by decide +kernel
theorem dX4_lowest_89 : decode cX4_lowest 89 = .ok (.ireturn, 1) := by decide +kernel
theorem dX4_lowest_90 : decode cX4_lowest 90 = .ok (.iload_n 1, 1) := by decide +kernel
theorem dX4_lowest_91 : decode cX4_lowest 91 = .ok (.ifCond .ne 15, 3) := by decide +kernel
theorem dX4_lowest_94 : decode cX4_lowest 94 = .ok (.iconst 1, 1) := by decide +kernel
theorem dX4_lowest_95 : decode cX4_lowest 95 = .ok (.aload_n 2, 1) := by decide +kernel
theorem dX4_lowest_96 : decode cX4_lowest 96 = .ok (.getfield 166, 3) := by decide +kernel
theorem dX4_lowest_99 : decode cX4_lowest 99 = .ok (.invokevirtual 181, 3) := by decide +kernel
theorem dX4_lowest_102 : decode cX4_lowest 102 = .ok (.iadd, 1) := by decide +kernel
theorem dX4_lowest_103 : decode cX4_lowest 103 = .ok (.goto 4, 3) := by decide +kernel
theorem dX4_lowest_106 : decode cX4_lowest 106 = .ok (.iconst 0, 1) := by decide +kernel
theorem dX4_lowest_107 : decode cX4_lowest 107 = .ok (.ireturn, 1) := by decide +kernel
theorem dX4_lowest_108 : decode cX4_lowest 108 = .ok (.iload_n 1, 1) := by decide +kernel
theorem dX4_lowest_109 : decode cX4_lowest 109 = .ok (.ifCond .ne 7, 3) := by decide +kernel
theorem dX4_lowest_112 : decode cX4_lowest 112 = .ok (.iconst 0, 1) := by decide +kernel
theorem dX4_lowest_113 : decode cX4_lowest 113 = .ok (.goto 4, 3) := by decide +kernel
theorem dX4_lowest_116 : decode cX4_lowest 116 = .ok (.iconst 1, 1) := by decide +kernel
theorem dX4_lowest_117 : decode cX4_lowest 117 = .ok (.ireturn, 1) := by decide +kernel
theorem dX4_lowest_118 : decode cX4_lowest 118 = .ok (.iconst 0, 1) := by decide +kernel
theorem dX4_lowest_119 : decode cX4_lowest 119 = .ok (.ireturn, 1) := by decide +kernel
theorem dX4_highest_0 : decode cX4_highest 0 = .ok (.iload_n 0, 1) := by decide +kernel
theorem dX4_highest_1 : decode cX4_highest 1 = .ok (.tableswitch 133 0 7 #[47, 61, 76, 79, 91, 94, 107, 120], 47) := by decide +kernel
theorem dX4_highest_48 : decode cX4_highest 48 = .ok (.iload_n 1, 1) := by decide +kernel
theorem dX4_highest_49 : decode cX4_highest 49 = .ok (.iconst 2, 1) := by decide +kernel
theorem dX4_highest_50 : decode cX4_highest 50 = .ok (.if_icmp .ge 8, 3) := by decide +kernel
theorem dX4_highest_53 : decode cX4_highest 53 = .ok (.ldc 190, 2) := by decide +kernel
theorem dX4_highest_55 : decode cX4_highest 55 = .ok (.goto 6, 3) := by decide +kernel
theorem dX4_highest_58 : decode cX4_highest 58 = .ok (.sipush 499, 3) := by decide +kernel
theorem dX4_highest_61 : decode cX4_highest 61 = .ok (.ireturn, 1) := by decide +kernel
theorem dX4_highest_62 : decode cX4_highest 62 = .ok (.iload_n 1, 1) := by decide +kernel
theorem dX4_highest_63 : decode cX4_highest 63 = .ok (.ifCond .ne 10, 3) := by decide +kernel
theorem dX4_highest_66 : decode cX4_highest 66 = .ok (.aload_n 2, 1) := by decide +kernel
theorem dX4_highest_67 : decode cX4_highest 67 = .ok (.getfield 191, 3) := by decide +kernel
theorem dX4_highest_70 : decode cX4_highest 70 = .ok (.goto 6, 3) := by decide +kernel
theorem dX4_highest_73 : decode cX4_highest 73 = .ok (.sipush 364, 3) := by decide +kernel
theorem dX4_highest_76 : decode cX4_highest 76 = .ok (.ireturn, 1) := by decide +kernel
theorem dX4_highest_77 : decode cX4_highest 77 = .ok (.bipush 100, 2) := by decide +kernel
theorem dX4_highest_79 : decode cX4_highest 79 = .ok (.ireturn, 1) := by decide +kernel
theorem dX4_highest_80 : decode cX4_highest 80 = .ok (.iload_n 1, 1) := by decide +kernel
theorem dX4_highest_81 : decode cX4_highest 81 = .ok (.ifCond .ne 8, 3) := by decide +kernel
theorem dX4_highest_84 : decode cX4_highest 84 = .ok (.ldc 190, 2) := by decide +kernel
theorem dX4_highest_86 : decode cX4_highest 86 = .ok (.goto 5, 3) := by decide +kernel
theorem dX4_highest_89 : decode cX4_highest 89 = .ok (.bipush 99, 2) := by decide +kernel
theorem dX4_highest_91 : decode cX4_highest 91 = .ok (.ireturn, 1) := by decide +kernel
theorem dX4_highest_92 : decode cX4_highest 92 = .ok (.bipush 99, 2) := by decide +kernel
theorem dX4_highest_94 : decode cX4_highest 94 = .ok (.ireturn, 1) := by decide +kernel
theorem dX4_highest_95 : decode cX4_highest 95 = .ok (.iload_n 1, 1) := by decide +kernel
theorem dX4_highest_96 : decode cX4_highest 96 = .ok (.ifCond .ne 9, 3) := by decide +kernel
theorem dX4_highest_99 : decode cX4_highest 99 = .ok (.sipush 499, 3) := by decide +kernel
theorem dX4_highest_102 : decode cX4_highest 102 = .ok (.goto 5, 3) := by decide +kernel
theorem dX4_highest_105 : decode cX4_highest 105 = .ok (.bipush 99, 2) := by decide +kernel
theorem dX4_highest_107 : decode cX4_highest 107 = .ok (.ireturn, 1) := by decide +kernel
theorem dX4_highest_108 : decode cX4_highest 108 = .ok (.iload_n 1, 1) := by decide +kernel
theorem dX4_highest_109 : decode cX4_highest 109 = .ok (.ifCond .ne 9, 3) := by decide +kernel
theorem dX4_highest_112 : decode cX4_highest 112 = .ok (.sipush 364, 3) := by decide +kernel
theorem dX4_highest_115 : decode cX4_highest 115 = .ok (.goto 5, 3) := by decide +kernel
theorem dX4_highest_118 : decode cX4_highest 118 = .ok (.ldc 190, 2) := by decide +kernel
theorem dX4_highest_120 : decode cX4_highest 120 = .ok (.ireturn, 1) := by decide +kernel
theorem dX4_highest_121 : decode cX4_highest 121 = .ok (.iload_n 1, 1) := by decide +kernel
theorem dX4_highest_122 : decode cX4_highest 122 = .ok (.ifCond .ne 9, 3) := by decide +kernel
theorem dX4_highest_125 : decode cX4_highest 125 = .ok (.sipush 499, 3) := by decide +kernel
theorem dX4_highest_128 : decode cX4_highest 128 = .ok (.goto 5, 3) := by decide +kernel
theorem dX4_highest_131 : decode cX4_highest 131 = .ok (.ldc 190, 2) := by decide +kernel
theorem dX4_highest_133 : decode cX4_highest 133 = .ok (.ireturn, 1) := by decide +kernel
theorem dX4_highest_134 : decode cX4_highest 134 = .ok (.iconst 0, 1) := by decide +kernel
theorem dX4_highest_135 : decode cX4_highest 135 = .ok (.ireturn, 1) := by decide +kernel
theorem dX4_number_0 : decode cX4_number 0 = .ok (.iload_n 1, 1) := by decide +kernel
theorem dX4_number_1 : decode cX4_number 1 = .ok (.ifCond .lt 21, 3) := by decide +kernel
theorem dX4_number_4 : decode cX4_number 4 = .ok (.iload_n 1, 1) := by decide +kernel
theorem dX4_number_5 : decode cX4_number 5 = .ok (.aload_n 0, 1) := by decide +kernel
theorem dX4_number_6 : decode cX4_number 6 = .ok (.getfield 11, 3) := by decide +kernel
theorem dX4_number_9 : decode cX4_number 9 = .ok (.arraylength, 1) := by decide +kernel
theorem dX4_number_10 : decode cX4_number 10 = .ok (.if_icmp .ge 12, 3) := by decide +kernel
theorem dX4_number_13 : decode cX4_number 13 = .ok (.aload_n 0, 1) := by decide +kernel
theorem dX4_number_14 : decode cX4_number 14 = .ok (.getfield 11, 3) := by decide +kernel
theorem dX4_number_17 : decode cX4_number 17 = .ok (.iload_n 1, 1) := by decide +kernel
theorem dX4_number_18 : decode cX4_number 18 = .ok (.iaload, 1) := by decide +kernel
theorem dX4_number_19 : decode cX4_number 19 = .ok (.goto 4, 3) := by decide +kernel
theorem dX4_number_22 : decode cX4_number 22 = .ok (.iconst 0, 1) := by decide +kernel
theorem dX4_number_23 : decode cX4_number 23 = .ok (.ireturn, 1) := by decide +kernel
set_option maxRecDepth 20000 in
theorem ggX4_tell_X4_number : GoodIn wsX4_tell wsX4_number := goodIn_r _ [17, 18, 41, 42, 43, 44, 45, 46, 47, 48] rfl (by decide +kernel)
set_option maxRecDepth 20000 in
theorem gX4_tell_X4_number : GoodIn wsX4_tell (wsV RX4 194 RX4 yX4_number wsX4_number) := goodIn_app (goodIn_r _ [13, 14, 15, 16] rfl (by decide +kernel)) ggX4_tell_X4_number
set_option maxRecDepth 20000 in
theorem ggX4_tell_X5_add : GoodIn wsX4_tell wsX5_add := goodIn_r _ [23, 24, 25, 26, 49, 50, 51] rfl (by decide +kernel)
set_option maxRecDepth 20000 in
theorem gX4_tell_X5_add : GoodIn wsX4_tell (wsV RX4 203 RX5 yX5_add wsX5_add) := goodIn_app (goodIn_r _ [19, 20, 21, 22] rfl (by decide +kernel)) ggX4_tell_X5_add
theorem dX4_tell_0 : decode cX4_tell 0 = .ok (.iload_n 1, 1) := by decide +kernel
theorem dX4_tell_1 : decode cX4_tell 1 = .ok (.tableswitch 215 0 7 #[47, 77, 97, 118, 138, 155, 175, 195], 47) := by decide +kernel
theorem dX4_tell_48 : decode cX4_tell 48 = .ok (.aload_n 2, 1) := by decide +kernel
theorem dX4_tell_49 : decode cX4_tell 49 = .ok (.aload_n 0, 1) := by decide +kernel
theorem dX4_tell_50 : decode cX4_tell 50 = .ok (.iconst 0, 1) := by decide +kernel
theorem dX4_tell_51 : decode cX4_tell 51 = .ok (.invokevirtual 194, 3) := by decide +kernel
theorem dX4_tell_54 : decode cX4_tell 54 = .ok (.putfield 197, 3) := by decide +kernel
theorem dX4_tell_57 : decode cX4_tell 57 = .ok (.aload_n 2, 1) := by decide +kernel
theorem dX4_tell_58 : decode cX4_tell 58 = .ok (.aload_n 0, 1) := by decide +kernel
theorem dX4_tell_59 : decode cX4_tell 59 = .ok (.iconst 1, 1) := by decide +kernel
theorem dX4_tell_60 : decode cX4_tell 60 = .ok (.invokevirtual 194, 3) := by decide +kernel
theorem dX4_tell_63 : decode cX4_tell 63 = .ok (.putfield 200, 3) := by decide +kernel
theorem dX4_tell_66 : decode cX4_tell 66 = .ok (.aload_n 2, 1) := by decide +kernel
theorem dX4_tell_67 : decode cX4_tell 67 = .ok (.aload_n 0, 1) := by decide +kernel
theorem dX4_tell_68 : decode cX4_tell 68 = .ok (.iconst 2, 1) := by decide +kernel
theorem dX4_tell_69 : decode cX4_tell 69 = .ok (.invokevirtual 194, 3) := by decide +kernel
theorem dX4_tell_72 : decode cX4_tell 72 = .ok (.putfield 191, 3) := by decide +kernel
theorem dX4_tell_75 : decode cX4_tell 75 = .ok (.goto 141, 3) := by decide +kernel
theorem dX4_tell_78 : decode cX4_tell 78 = .ok (.aload_n 2, 1) := by decide +kernel
theorem dX4_tell_79 : decode cX4_tell 79 = .ok (.getfield 178, 3) := by decide +kernel
theorem dX4_tell_82 : decode cX4_tell 82 = .ok (.aload_n 0, 1) := by decide +kernel
theorem dX4_tell_83 : decode cX4_tell 83 = .ok (.iconst 0, 1) := by decide +kernel
theorem dX4_tell_84 : decode cX4_tell 84 = .ok (.invokevirtual 194, 3) := by decide +kernel
theorem dX4_tell_87 : decode cX4_tell 87 = .ok (.aload_n 0, 1) := by decide +kernel
theorem dX4_tell_88 : decode cX4_tell 88 = .ok (.iconst 1, 1) := by decide +kernel
theorem dX4_tell_89 : decode cX4_tell 89 = .ok (.invokevirtual 194, 3) := by decide +kernel
theorem dX4_tell_92 : decode cX4_tell 92 = .ok (.invokevirtual 203, 3) := by decide +kernel
theorem dX4_tell_95 : decode cX4_tell 95 = .ok (.goto 121, 3) := by decide +kernel
theorem dX4_tell_98 : decode cX4_tell 98 = .ok (.aload_n 2, 1) := by decide +kernel
theorem dX4_tell_99 : decode cX4_tell 99 = .ok (.aload_n 0, 1) := by decide +kernel
theorem dX4_tell_100 : decode cX4_tell 100 = .ok (.iconst 0, 1) := by decide +kernel
theorem dX4_tell_101 : decode cX4_tell 101 = .ok (.invokevirtual 194, 3) := by decide +kernel
theorem dX4_tell_104 : decode cX4_tell 104 = .ok (.putfield 207, 3) := by decide +kernel
theorem dX4_tell_107 : decode cX4_tell 107 = .ok (.aload_n 2, 1) := by decide +kernel
theorem dX4_tell_108 : decode cX4_tell 108 = .ok (.aload_n 0, 1) := by decide +kernel
theorem dX4_tell_109 : decode cX4_tell 109 = .ok (.iconst 1, 1) := by decide +kernel
theorem dX4_tell_110 : decode cX4_tell 110 = .ok (.invokevirtual 194, 3) := by decide +kernel
theorem dX4_tell_113 : decode cX4_tell 113 = .ok (.putfield 210, 3) := by decide +kernel
theorem dX4_tell_116 : decode cX4_tell 116 = .ok (.goto 100, 3) := by decide +kernel
theorem dX4_tell_119 : decode cX4_tell 119 = .ok (.aload_n 2, 1) := by decide +kernel
theorem dX4_tell_120 : decode cX4_tell 120 = .ok (.getfield 152, 3) := by decide +kernel
theorem dX4_tell_123 : decode cX4_tell 123 = .ok (.aload_n 0, 1) := by decide +kernel
theorem dX4_tell_124 : decode cX4_tell 124 = .ok (.iconst 0, 1) := by decide +kernel
theorem dX4_tell_125 : decode cX4_tell 125 = .ok (.invokevirtual 194, 3) := by decide +kernel
theorem dX4_tell_128 : decode cX4_tell 128 = .ok (.aload_n 0, 1) := by decide +kernel
theorem dX4_tell_129 : decode cX4_tell 129 = .ok (.iconst 1, 1) := by decide +kernel
theorem dX4_tell_130 : decode cX4_tell 130 = .ok (.invokevirtual 194, 3) := by decide +kernel
theorem dX4_tell_133 : decode cX4_tell 133 = .ok (.invokevirtual 203, 3) := by decide +kernel
theorem dX4_tell_136 : decode cX4_tell 136 = .ok (.goto 80, 3) := by decide +kernel
theorem dX4_tell_139 : decode cX4_tell 139 = .ok (.aload_n 2, 1) := by decide +kernel
theorem dX4_tell_140 : decode cX4_tell 140 = .ok (.iconst 1, 1) := by decide +kernel
theorem dX4_tell_141 : decode cX4_tell 141 = .ok (.putfield 162, 3) := by decide +kernel
theorem dX4_tell_144 : decode cX4_tell 144 = .ok (.aload_n 2, 1) := by decide +kernel
theorem dX4_tell_145 : decode cX4_tell 145 = .ok (.aload_n 0, 1) := by decide +kernel
theorem dX4_tell_146 : decode cX4_tell 146 = .ok (.iconst 0, 1) := by decide +kernel
theorem dX4_tell_147 : decode cX4_tell 147 = .ok (.invokevirtual 194, 3) := by decide +kernel
theorem dX4_tell_150 : decode cX4_tell 150 = .ok (.putfield 213, 3) := by decide +kernel
theorem dX4_tell_153 : decode cX4_tell 153 = .ok (.goto 63, 3) := by decide +kernel
theorem dX4_tell_156 : decode cX4_tell 156 = .ok (.aload_n 2, 1) := by decide +kernel
theorem dX4_tell_157 : decode cX4_tell 157 = .ok (.getfield 166, 3) := by decide +kernel
theorem dX4_tell_160 : decode cX4_tell 160 = .ok (.aload_n 0, 1) := by decide +kernel
theorem dX4_tell_161 : decode cX4_tell 161 = .ok (.iconst 0, 1) := by decide +kernel
theorem dX4_tell_162 : decode cX4_tell 162 = .ok (.invokevirtual 194, 3) := by decide +kernel
theorem dX4_tell_165 : decode cX4_tell 165 = .ok (.aload_n 0, 1) := by decide +kernel
theorem dX4_tell_166 : decode cX4_tell 166 = .ok (.iconst 1, 1) := by decide +kernel
theorem dX4_tell_167 : decode cX4_tell 167 = .ok (.invokevirtual 194, 3) := by decide +kernel
theorem dX4_tell_170 : decode cX4_tell 170 = .ok (.invokevirtual 203, 3) := by decide +kernel
theorem dX4_tell_173 : decode cX4_tell 173 = .ok (.goto 43, 3) := by decide +kernel
theorem dX4_tell_176 : decode cX4_tell 176 = .ok (.aload_n 2, 1) := by decide +kernel
theorem dX4_tell_177 : decode cX4_tell 177 = .ok (.getfield 169, 3) := by decide +kernel
theorem dX4_tell_180 : decode cX4_tell 180 = .ok (.aload_n 0, 1) := by decide +kernel
theorem dX4_tell_181 : decode cX4_tell 181 = .ok (.iconst 0, 1) := by decide +kernel
theorem dX4_tell_182 : decode cX4_tell 182 = .ok (.invokevirtual 194, 3) := by decide +kernel
theorem dX4_tell_185 : decode cX4_tell 185 = .ok (.aload_n 0, 1) := by decide +kernel
theorem dX4_tell_186 : decode cX4_tell 186 = .ok (.iconst 1, 1) := by decide +kernel
theorem dX4_tell_187 : decode cX4_tell 187 = .ok (.invokevirtual 194, 3) := by decide +kernel
theorem dX4_tell_190 : decode cX4_tell 190 = .ok (.invokevirtual 203, 3) := by decide +kernel
theorem dX4_tell_193 : decode cX4_tell 193 = .ok (.goto 23, 3) := by decide +kernel
theorem dX4_tell_196 : decode cX4_tell 196 = .ok (.aload_n 2, 1) := by decide +kernel
theorem dX4_tell_197 : decode cX4_tell 197 = .ok (.getfield 175, 3) := by decide +kernel
theorem dX4_tell_200 : decode cX4_tell 200 = .ok (.aload_n 0, 1) := by decide +kernel
theorem dX4_tell_201 : decode cX4_tell 201 = .ok (.iconst 0, 1) := by decide +kernel
theorem dX4_tell_202 : decode cX4_tell 202 = .ok (.invokevirtual 194, 3) := by decide +kernel
theorem dX4_tell_205 : decode cX4_tell 205 = .ok (.aload_n 0, 1) := by decide +kernel
theorem dX4_tell_206 : decode cX4_tell 206 = .ok (.iconst 1, 1) := by decide +kernel
theorem dX4_tell_207 : decode cX4_tell 207 = .ok (.invokevirtual 194, 3) := by decide +kernel
theorem dX4_tell_210 : decode cX4_tell 210 = .ok (.invokevirtual 203, 3) := by decide +kernel
theorem dX4_tell_213 : decode cX4_tell 213 = .ok (.goto 3, 3) := by decide +kernel
theorem dX4_tell_216 : decode cX4_tell 216 = .ok (.return_, 1) := by decide +kernel
theorem dX5_init_0 : decode cX5_init 0 = .ok (.aload_n 0, 1) := by decide +kernel
theorem dX5_init_1 : decode cX5_init 1 = .ok (.invokespecial 3, 3) := by decide +kernel
theorem dX5_init_4 : decode cX5_init 4 = .ok (.iconst 0, 1) := by decide +kernel
theorem dX5_init_5 : decode cX5_init 5 = .ok (.iload_n 1, 1) := by decide +kernel
theorem dX5_init_6 : decode cX5_init 6 = .ok (.invokestatic 9, 3) := by decide +kernel
theorem dX5_init_9 : decode cX5_init 9 = .ok (.istore_n 2, 1) := by decide +kernel
theorem dX5_init_10 : decode cX5_init 10 = .ok (.aload_n 0, 1) := by decide +kernel
theorem dX5_init_11 : decode cX5_init 11 = .ok (.iload_n 2, 1) := by decide +kernel
theorem dX5_init_12 : decode cX5_init 12 = .ok (.newarray .int, 2) := by decide +kernel
theorem dX5_init_14 : decode cX5_init 14 = .ok (.putfield 15, 3) := by decide +kernel
theorem dX5_init_17 : decode cX5_init 17 = .ok (.aload_n 0, 1) := by decide +kernel
theorem dX5_init_18 : decode cX5_init 18 = .ok (.iload_n 2, 1) := by decide +kernel
theorem dX5_init_19 : decode cX5_init 19 = .ok (.newarray .int, 2) := by decide +kernel
theorem dX5_init_21 : decode cX5_init 21 = .ok (.putfield 21, 3) := by decide +kernel
theorem dX5_init_24 : decode cX5_init 24 = .ok (.return_, 1) := by decide +kernel
theorem dX5_isFull_0 : decode cX5_isFull 0 = .ok (.aload_n 0, 1) := by decide +kernel
theorem dX5_isFull_1 : decode cX5_isFull 1 = .ok (.getfield 24, 3) := by decide +kernel
theorem dX5_isFull_4 : decode cX5_isFull 4 = .ok (.aload_n 0, 1) := by decide +kernel
theorem dX5_isFull_5 : decode cX5_isFull 5 = .ok (.getfield 15, 3) := by decide +kernel
theorem dX5_isFull_8 : decode cX5_isFull 8 = .ok (.arraylength, 1) := by decide +kernel
theorem dX5_isFull_9 : decode cX5_isFull 9 = .ok (.if_icmp .lt 7, 3) := by decide +kernel
theorem dX5_isFull_12 : decode cX5_isFull 12 = .ok (.iconst 1, 1) := by decide +kernel
theorem dX5_isFull_13 : decode cX5_isFull 13 = .ok (.goto 4, 3) := by decide +kernel
theorem dX5_isFull_16 : decode cX5_isFull 16 = .ok (.iconst 0, 1) := by decide +kernel
theorem dX5_isFull_17 : decode cX5_isFull 17 = .ok (.ireturn, 1) := by decide +kernel
theorem dX5_has_0 : decode cX5_has 0 = .ok (.iload_n 1, 1) := by decide +kernel
theorem dX5_has_1 : decode cX5_has 1 = .ok (.ifCond .lt 15, 3) := by decide +kernel
theorem dX5_has_4 : decode cX5_has 4 = .ok (.iload_n 1, 1) := by decide +kernel
theorem dX5_has_5 : decode cX5_has 5 = .ok (.aload_n 0, 1) := by decide +kernel
theorem dX5_has_6 : decode cX5_has 6 = .ok (.getfield 24, 3) := by decide +kernel
theorem dX5_has_9 : decode cX5_has 9 = .ok (.if_icmp .ge 7, 3) := by decide +kernel
theorem dX5_has_12 : decode cX5_has 12 = .ok (.iconst 1, 1) := by decide +kernel
theorem dX5_has_13 : decode cX5_has 13 = .ok (.goto 4, 3) := by decide +kernel
theorem dX5_has_16 : decode cX5_has 16 = .ok (.iconst 0, 1) := by decide +kernel
theorem dX5_has_17 : decode cX5_has 17 = .ok (.ireturn, 1) := by decide +kernel
theorem dX5_first_0 : decode cX5_first 0 = .ok (.iload_n 1, 1) := by decide +kernel
theorem dX5_first_1 : decode cX5_first 1 = .ok (.ifCond .lt 29, 3) := by decide +kernel
theorem dX5_first_4 : decode cX5_first 4 = .ok (.iload_n 1, 1) := by decide +kernel
theorem dX5_first_5 : decode cX5_first 5 = .ok (.aload_n 0, 1) := by decide +kernel
theorem dX5_first_6 : decode cX5_first 6 = .ok (.getfield 24, 3) := by decide +kernel
theorem dX5_first_9 : decode cX5_first 9 = .ok (.if_icmp .ge 21, 3) := by decide +kernel
theorem dX5_first_12 : decode cX5_first 12 = .ok (.iload_n 1, 1) := by decide +kernel
theorem dX5_first_13 : decode cX5_first 13 = .ok (.aload_n 0, 1) := by decide +kernel
theorem dX5_first_14 : decode cX5_first 14 = .ok (.getfield 15, 3) := by decide +kernel
theorem dX5_first_17 : decode cX5_first 17 = .ok (.arraylength, 1) := by decide +kernel
theorem dX5_first_18 : decode cX5_first 18 = .ok (.if_icmp .ge 12, 3) := by decide +kernel
theorem dX5_first_21 : decode cX5_first 21 = .ok (.aload_n 0, 1) := by decide +kernel
theorem dX5_first_22 : decode cX5_first 22 = .ok (.getfield 15, 3) := by decide +kernel
theorem dX5_first_25 : decode cX5_first 25 = .ok (.iload_n 1, 1) := by decide +kernel
theorem dX5_first_26 : decode cX5_first 26 = .ok (.iaload, 1) := by decide +kernel
theorem dX5_first_27 : decode cX5_first 27 = .ok (.goto 4, 3) := by decide +kernel
theorem dX5_first_30 : decode cX5_first 30 = .ok (.iconst 0, 1) := by decide +kernel
theorem dX5_first_31 : decode cX5_first 31 = .ok (.ireturn, 1) := by decide +kernel
theorem dX5_second_0 : decode cX5_second 0 = .ok (.iload_n 1, 1) := by decide +kernel
theorem dX5_second_1 : decode cX5_second 1 = .ok (.ifCond .lt 29, 3) := by decide +kernel
theorem dX5_second_4 : decode cX5_second 4 = .ok (.iload_n 1, 1) := by decide +kernel
theorem dX5_second_5 : decode cX5_second 5 = .ok (.aload_n 0, 1) := by decide +kernel
theorem dX5_second_6 : decode cX5_second 6 = .ok (.getfield 24, 3) := by decide +kernel
theorem dX5_second_9 : decode cX5_second 9 = .ok (.if_icmp .ge 21, 3) := by decide +kernel
theorem dX5_second_12 : decode cX5_second 12 = .ok (.iload_n 1, 1) := by decide +kernel
theorem dX5_second_13 : decode cX5_second 13 = .ok (.aload_n 0, 1) := by decide +kernel
theorem dX5_second_14 : decode cX5_second 14 = .ok (.getfield 21, 3) := by decide +kernel
theorem dX5_second_17 : decode cX5_second 17 = .ok (.arraylength, 1) := by decide +kernel
theorem dX5_second_18 : decode cX5_second 18 = .ok (.if_icmp .ge 12, 3) := by decide +kernel
theorem dX5_second_21 : decode cX5_second 21 = .ok (.aload_n 0, 1) := by decide +kernel
theorem dX5_second_22 : decode cX5_second 22 = .ok (.getfield 21, 3) := by decide +kernel
theorem dX5_second_25 : decode cX5_second 25 = .ok (.iload_n 1, 1) := by decide +kernel
theorem dX5_second_26 : decode cX5_second 26 = .ok (.iaload, 1) := by decide +kernel
theorem dX5_second_27 : decode cX5_second 27 = .ok (.goto 4, 3) := by decide +kernel
theorem dX5_second_30 : decode cX5_second 30 = .ok (.iconst 0, 1) := by decide +kernel
theorem dX5_second_31 : decode cX5_second 31 = .ok (.ireturn, 1) := by decide +kernel
set_option maxRecDepth 20000 in
theorem ggX5_lastFirst_X5_first : GoodIn wsX5_lastFirst wsX5_first := goodIn_r _ [6, 1, 7, 8, 9, 10] rfl (by decide +kernel)
set_option maxRecDepth 20000 in
theorem gX5_lastFirst_X5_first : GoodIn wsX5_lastFirst (wsV RX5 28 RX5 yX5_first wsX5_first) := goodIn_app (goodIn_r _ [2, 3, 4, 5] rfl (by decide +kernel)) ggX5_lastFirst_X5_first
theorem dX5_lastFirst_0 : decode cX5_lastFirst 0 = .ok (.aload_n 0, 1) := by decide +kernel
theorem dX5_lastFirst_1 : decode cX5_lastFirst 1 = .ok (.getfield 24, 3) := by decide +kernel
theorem dX5_lastFirst_4 : decode cX5_lastFirst 4 = .ok (.ifCond .le 16, 3) := by decide +kernel
theorem dX5_lastFirst_7 : decode cX5_lastFirst 7 = .ok (.aload_n 0, 1) := by decide +kernel
theorem dX5_lastFirst_8 : decode cX5_lastFirst 8 = .ok (.aload_n 0, 1) := by decide +kernel
theorem dX5_lastFirst_9 : decode cX5_lastFirst 9 = .ok (.getfield 24, 3) := by decide +kernel
theorem dX5_lastFirst_12 : decode cX5_lastFirst 12 = .ok (.iconst 1, 1) := by decide +kernel
theorem dX5_lastFirst_13 : decode cX5_lastFirst 13 = .ok (.isub, 1) := by decide +kernel
theorem dX5_lastFirst_14 : decode cX5_lastFirst 14 = .ok (.invokevirtual 28, 3) := by decide +kernel
theorem dX5_lastFirst_17 : decode cX5_lastFirst 17 = .ok (.goto 4, 3) := by decide +kernel
theorem dX5_lastFirst_20 : decode cX5_lastFirst 20 = .ok (.iconst (-1), 1) := by decide +kernel
theorem dX5_lastFirst_21 : decode cX5_lastFirst 21 = .ok (.ireturn, 1) := by decide +kernel
set_option maxRecDepth 20000 in
theorem ggX5_lastSecond_X5_second : GoodIn wsX5_lastSecond wsX5_second := goodIn_r _ [6, 1, 7, 8, 9, 10] rfl (by decide +kernel)
set_option maxRecDepth 20000 in
theorem gX5_lastSecond_X5_second : GoodIn wsX5_lastSecond (wsV RX5 32 RX5 yX5_second wsX5_second) := goodIn_app (goodIn_r _ [2, 3, 4, 5] rfl (by decide +kernel)) ggX5_lastSecond_X5_second
theorem dX5_lastSecond_0 : decode cX5_lastSecond 0 = .ok (.aload_n 0, 1) := by decide +kernel
theorem dX5_lastSecond_1 : decode cX5_lastSecond 1 = .ok (.getfield 24, 3) := by decide +kernel
theorem dX5_lastSecond_4 : decode cX5_lastSecond 4 = .ok (.ifCond .le 16, 3) := by decide +kernel
theorem dX5_lastSecond_7 : decode cX5_lastSecond 7 = .ok (.aload_n 0, 1) := by decide +kernel
theorem dX5_lastSecond_8 : decode cX5_lastSecond 8 = .ok (.aload_n 0, 1) := by decide +kernel
theorem dX5_lastSecond_9 : decode cX5_lastSecond 9 = .ok (.getfield 24, 3) := by decide +kernel
theorem dX5_lastSecond_12 : decode cX5_lastSecond 12 = .ok (.iconst 1, 1) := by decide +kernel
theorem dX5_lastSecond_13 : decode cX5_lastSecond 13 = .ok (.isub, 1) := by decide +kernel
theorem dX5_lastSecond_14 : decode cX5_lastSecond 14 = .ok (.invokevirtual 32, 3) := by decide +kernel
theorem dX5_lastSecond_17 : decode cX5_lastSecond 17 = .ok (.goto 4, 3) := by decide +kernel
theorem dX5_lastSecond_20 : decode cX5_lastSecond 20 = .ok (.iconst (-1), 1) := by decide +kernel
theorem dX5_lastSecond_21 : decode cX5_lastSecond 21 = .ok (.ireturn, 1) := by decide +kernel
theorem dX5_add_0 : decode cX5_add 0 = .ok (.aload_n 0, 1) := by decide +kernel
theorem dX5_add_1 : decode cX5_add 1 = .ok (.getfield 24, 3) := by decide +kernel
theorem dX5_add_4 : decode cX5_add 4 = .ok (.ifCond .lt 57, 3) := by decide +kernel
theorem dX5_add_7 : decode cX5_add 7 = .ok (.aload_n 0, 1) := by decide +kernel
theorem dX5_add_8 : decode cX5_add 8 = .ok (.getfield 24, 3) := by decide +kernel
theorem dX5_add_11 : decode cX5_add 11 = .ok (.aload_n 0, 1) := by decide +kernel
theorem dX5_add_12 : decode cX5_add 12 = .ok (.getfield 15, 3) := by decide +kernel
theorem dX5_add_15 : decode cX5_add 15 = .ok (.arraylength, 1) := by decide +kernel
theorem dX5_add_16 : decode cX5_add 16 = .ok (.if_icmp .ge 45, 3) := by decide +kernel
theorem dX5_add_19 : decode cX5_add 19 = .ok (.aload_n 0, 1) := by decide +kernel
theorem dX5_add_20 : decode cX5_add 20 = .ok (.getfield 24, 3) := by decide +kernel
theorem dX5_add_23 : decode cX5_add 23 = .ok (.aload_n 0, 1) := by decide +kernel
theorem dX5_add_24 : decode cX5_add 24 = .ok (.getfield 21, 3) := by decide +kernel
theorem dX5_add_27 : decode cX5_add 27 = .ok (.arraylength, 1) := by decide +kernel
theorem dX5_add_28 : decode cX5_add 28 = .ok (.if_icmp .ge 33, 3) := by decide +kernel
theorem dX5_add_31 : decode cX5_add 31 = .ok (.aload_n 0, 1) := by decide +kernel
theorem dX5_add_32 : decode cX5_add 32 = .ok (.getfield 15, 3) := by decide +kernel
theorem dX5_add_35 : decode cX5_add 35 = .ok (.aload_n 0, 1) := by decide +kernel
theorem dX5_add_36 : decode cX5_add 36 = .ok (.getfield 24, 3) := by decide +kernel
theorem dX5_add_39 : decode cX5_add 39 = .ok (.iload_n 1, 1) := by decide +kernel
theorem dX5_add_40 : decode cX5_add 40 = .ok (.iastore, 1) := by decide +kernel
theorem dX5_add_41 : decode cX5_add 41 = .ok (.aload_n 0, 1) := by decide +kernel
theorem dX5_add_42 : decode cX5_add 42 = .ok (.getfield 21, 3) := by decide +kernel
theorem dX5_add_45 : decode cX5_add 45 = .ok (.aload_n 0, 1) := by decide +kernel
theorem dX5_add_46 : decode cX5_add 46 = .ok (.getfield 24, 3) := by decide +kernel
theorem dX5_add_49 : decode cX5_add 49 = .ok (.iload_n 2, 1) := by decide +kernel
theorem dX5_add_50 : decode cX5_add 50 = .ok (.iastore, 1) := by decide +kernel
theorem dX5_add_51 : decode cX5_add 51 = .ok (.aload_n 0, 1) := by decide +kernel
theorem dX5_add_52 : decode cX5_add 52 = .ok (.dup, 1) := by decide +kernel
theorem dX5_add_53 : decode cX5_add 53 = .ok (.getfield 24, 3) := by decide +kernel
theorem dX5_add_56 : decode cX5_add 56 = .ok (.iconst 1, 1) := by decide +kernel
theorem dX5_add_57 : decode cX5_add 57 = .ok (.iadd, 1) := by decide +kernel
theorem dX5_add_58 : decode cX5_add 58 = .ok (.putfield 24, 3) := by decide +kernel
theorem dX5_add_61 : decode cX5_add 61 = .ok (.return_, 1) := by decide +kernel
theorem dX5_dropLast_0 : decode cX5_dropLast 0 = .ok (.aload_n 0, 1) := by decide +kernel
theorem dX5_dropLast_1 : decode cX5_dropLast 1 = .ok (.iconst 0, 1) := by decide +kernel
theorem dX5_dropLast_2 : decode cX5_dropLast 2 = .ok (.aload_n 0, 1) := by decide +kernel
theorem dX5_dropLast_3 : decode cX5_dropLast 3 = .ok (.getfield 24, 3) := by decide +kernel
theorem dX5_dropLast_6 : decode cX5_dropLast 6 = .ok (.iconst 1, 1) := by decide +kernel
theorem dX5_dropLast_7 : decode cX5_dropLast 7 = .ok (.isub, 1) := by decide +kernel
theorem dX5_dropLast_8 : decode cX5_dropLast 8 = .ok (.invokestatic 9, 3) := by decide +kernel
theorem dX5_dropLast_11 : decode cX5_dropLast 11 = .ok (.putfield 24, 3) := by decide +kernel
theorem dX5_dropLast_14 : decode cX5_dropLast 14 = .ok (.return_, 1) := by decide +kernel
theorem dX5_sumUpTo_0 : decode cX5_sumUpTo 0 = .ok (.iconst 0, 1) := by decide +kernel
theorem dX5_sumUpTo_1 : decode cX5_sumUpTo 1 = .ok (.istore_n 2, 1) := by decide +kernel
theorem dX5_sumUpTo_2 : decode cX5_sumUpTo 2 = .ok (.iconst 0, 1) := by decide +kernel
theorem dX5_sumUpTo_3 : decode cX5_sumUpTo 3 = .ok (.istore_n 3, 1) := by decide +kernel
theorem dX5_sumUpTo_4 : decode cX5_sumUpTo 4 = .ok (.iload_n 3, 1) := by decide +kernel
theorem dX5_sumUpTo_5 : decode cX5_sumUpTo 5 = .ok (.aload_n 0, 1) := by decide +kernel
theorem dX5_sumUpTo_6 : decode cX5_sumUpTo 6 = .ok (.getfield 24, 3) := by decide +kernel
theorem dX5_sumUpTo_9 : decode cX5_sumUpTo 9 = .ok (.if_icmp .ge 46, 3) := by decide +kernel
theorem dX5_sumUpTo_12 : decode cX5_sumUpTo 12 = .ok (.iload_n 3, 1) := by decide +kernel
theorem dX5_sumUpTo_13 : decode cX5_sumUpTo 13 = .ok (.aload_n 0, 1) := by decide +kernel
theorem dX5_sumUpTo_14 : decode cX5_sumUpTo 14 = .ok (.getfield 15, 3) := by decide +kernel
theorem dX5_sumUpTo_17 : decode cX5_sumUpTo 17 = .ok (.arraylength, 1) := by decide +kernel
theorem dX5_sumUpTo_18 : decode cX5_sumUpTo 18 = .ok (.if_icmp .ge 37, 3) := by decide +kernel
theorem dX5_sumUpTo_21 : decode cX5_sumUpTo 21 = .ok (.iload_n 3, 1) := by decide +kernel
theorem dX5_sumUpTo_22 : decode cX5_sumUpTo 22 = .ok (.aload_n 0, 1) := by decide +kernel
theorem dX5_sumUpTo_23 : decode cX5_sumUpTo 23 = .ok (.getfield 21, 3) := by decide +kernel
theorem dX5_sumUpTo_26 : decode cX5_sumUpTo 26 = .ok (.arraylength, 1) := by decide +kernel
theorem dX5_sumUpTo_27 : decode cX5_sumUpTo 27 = .ok (.if_icmp .ge 28, 3) := by decide +kernel
theorem dX5_sumUpTo_30 : decode cX5_sumUpTo 30 = .ok (.aload_n 0, 1) := by decide +kernel
theorem dX5_sumUpTo_31 : decode cX5_sumUpTo 31 = .ok (.getfield 15, 3) := by decide +kernel
theorem dX5_sumUpTo_34 : decode cX5_sumUpTo 34 = .ok (.iload_n 3, 1) := by decide +kernel
theorem dX5_sumUpTo_35 : decode cX5_sumUpTo 35 = .ok (.iaload, 1) := by decide +kernel
theorem dX5_sumUpTo_36 : decode cX5_sumUpTo 36 = .ok (.iload_n 1, 1) := by decide +kernel
theorem dX5_sumUpTo_37 : decode cX5_sumUpTo 37 = .ok (.if_icmp .gt 12, 3) := by decide +kernel
theorem dX5_sumUpTo_40 : decode cX5_sumUpTo 40 = .ok (.iload_n 2, 1) := by decide +kernel
theorem dX5_sumUpTo_41 : decode cX5_sumUpTo 41 = .ok (.aload_n 0, 1) := by decide +kernel
theorem dX5_sumUpTo_42 : decode cX5_sumUpTo 42 = .ok (.getfield 21, 3) := by decide +kernel
theorem dX5_sumUpTo_45 : decode cX5_sumUpTo 45 = .ok (.iload_n 3, 1) := by decide +kernel
theorem dX5_sumUpTo_46 : decode cX5_sumUpTo 46 = .ok (.iaload, 1) := by decide +kernel
theorem dX5_sumUpTo_47 : decode cX5_sumUpTo 47 = .ok (.iadd, 1) := by decide +kernel
theorem dX5_sumUpTo_48 : decode cX5_sumUpTo 48 = .ok (.istore_n 2, 1) := by decide +kernel
theorem dX5_sumUpTo_49 : decode cX5_sumUpTo 49 = .ok (.iinc 3 1, 3) := by decide +kernel
theorem dX5_sumUpTo_52 : decode cX5_sumUpTo 52 = .ok (.goto (-48), 3) := by decide +kernel
theorem dX5_sumUpTo_55 : decode cX5_sumUpTo 55 = .ok (.iload_n 2, 1) := by decide +kernel
theorem dX5_sumUpTo_56 : decode cX5_sumUpTo 56 = .ok (.ireturn, 1) := by decide +kernel
theorem dX5_latestUpTo_0 : decode cX5_latestUpTo 0 = .ok (.iconst 0, 1) := by decide +kernel
theorem dX5_latestUpTo_1 : decode cX5_latestUpTo 1 = .ok (.istore_n 2, 1) := by decide +kernel
theorem dX5_latestUpTo_2 : decode cX5_latestUpTo 2 = .ok (.iconst 0, 1) := by decide +kernel
theorem dX5_latestUpTo_3 : decode cX5_latestUpTo 3 = .ok (.istore_n 3, 1) := by decide +kernel
theorem dX5_latestUpTo_4 : decode cX5_latestUpTo 4 = .ok (.iload_n 3, 1) := by decide +kernel
theorem dX5_latestUpTo_5 : decode cX5_latestUpTo 5 = .ok (.aload_n 0, 1) := by decide +kernel
theorem dX5_latestUpTo_6 : decode cX5_latestUpTo 6 = .ok (.getfield 24, 3) := by decide +kernel
theorem dX5_latestUpTo_9 : decode cX5_latestUpTo 9 = .ok (.if_icmp .ge 44, 3) := by decide +kernel
theorem dX5_latestUpTo_12 : decode cX5_latestUpTo 12 = .ok (.iload_n 3, 1) := by decide +kernel
theorem dX5_latestUpTo_13 : decode cX5_latestUpTo 13 = .ok (.aload_n 0, 1) := by decide +kernel
theorem dX5_latestUpTo_14 : decode cX5_latestUpTo 14 = .ok (.getfield 15, 3) := by decide +kernel
theorem dX5_latestUpTo_17 : decode cX5_latestUpTo 17 = .ok (.arraylength, 1) := by decide +kernel
theorem dX5_latestUpTo_18 : decode cX5_latestUpTo 18 = .ok (.if_icmp .ge 35, 3) := by decide +kernel
theorem dX5_latestUpTo_21 : decode cX5_latestUpTo 21 = .ok (.iload_n 3, 1) := by decide +kernel
theorem dX5_latestUpTo_22 : decode cX5_latestUpTo 22 = .ok (.aload_n 0, 1) := by decide +kernel
theorem dX5_latestUpTo_23 : decode cX5_latestUpTo 23 = .ok (.getfield 21, 3) := by decide +kernel
theorem dX5_latestUpTo_26 : decode cX5_latestUpTo 26 = .ok (.arraylength, 1) := by decide +kernel
theorem dX5_latestUpTo_27 : decode cX5_latestUpTo 27 = .ok (.if_icmp .ge 26, 3) := by decide +kernel
theorem dX5_latestUpTo_30 : decode cX5_latestUpTo 30 = .ok (.aload_n 0, 1) := by decide +kernel
theorem dX5_latestUpTo_31 : decode cX5_latestUpTo 31 = .ok (.getfield 15, 3) := by decide +kernel
theorem dX5_latestUpTo_34 : decode cX5_latestUpTo 34 = .ok (.iload_n 3, 1) := by decide +kernel
theorem dX5_latestUpTo_35 : decode cX5_latestUpTo 35 = .ok (.iaload, 1) := by decide +kernel
theorem dX5_latestUpTo_36 : decode cX5_latestUpTo 36 = .ok (.iload_n 1, 1) := by decide +kernel
theorem dX5_latestUpTo_37 : decode cX5_latestUpTo 37 = .ok (.if_icmp .gt 10, 3) := by decide +kernel
theorem dX5_latestUpTo_40 : decode cX5_latestUpTo 40 = .ok (.aload_n 0, 1) := by decide +kernel
theorem dX5_latestUpTo_41 : decode cX5_latestUpTo 41 = .ok (.getfield 21, 3) := by decide +kernel
theorem dX5_latestUpTo_44 : decode cX5_latestUpTo 44 = .ok (.iload_n 3, 1) := by decide +kernel
theorem dX5_latestUpTo_45 : decode cX5_latestUpTo 45 = .ok (.iaload, 1) := by decide +kernel
theorem dX5_latestUpTo_46 : decode cX5_latestUpTo 46 = .ok (.istore_n 2, 1) := by decide +kernel
theorem dX5_latestUpTo_47 : decode cX5_latestUpTo 47 = .ok (.iinc 3 1, 3) := by decide +kernel
theorem dX5_latestUpTo_50 : decode cX5_latestUpTo 50 = .ok (.goto (-46), 3) := by decide +kernel
theorem dX5_latestUpTo_53 : decode cX5_latestUpTo 53 = .ok (.iload_n 2, 1) := by decide +kernel
theorem dX5_latestUpTo_54 : decode cX5_latestUpTo 54 = .ok (.ireturn, 1) := by decide +kernel
set_option maxRecDepth 20000 in
theorem ggX5_takeOver_X5_first : GoodIn wsX5_takeOver wsX5_first := goodIn_r _ [6, 1, 7, 17, 18, 19] rfl (by decide +kernel)
set_option maxRecDepth 20000 in
theorem gX5_takeOver_X5_first : GoodIn wsX5_takeOver (wsV RX5 28 RX5 yX5_first wsX5_first) := goodIn_app (goodIn_r _ [2, 3, 4, 5] rfl (by decide +kernel)) ggX5_takeOver_X5_first
set_option maxRecDepth 20000 in
theorem ggX5_takeOver_X5_second : GoodIn wsX5_takeOver wsX5_second := goodIn_r _ [11, 1, 12, 17, 18, 19] rfl (by decide +kernel)
set_option maxRecDepth 20000 in
theorem gX5_takeOver_X5_second : GoodIn wsX5_takeOver (wsV RX5 32 RX5 yX5_second wsX5_second) := goodIn_app (goodIn_r _ [8, 9, 10, 5] rfl (by decide +kernel)) ggX5_takeOver_X5_second
set_option maxRecDepth 20000 in
theorem ggX5_takeOver_X5_add : GoodIn wsX5_takeOver wsX5_add := goodIn_r _ [16, 1, 7, 12, 17, 18, 19] rfl (by decide +kernel)
set_option maxRecDepth 20000 in
theorem gX5_takeOver_X5_add : GoodIn wsX5_takeOver (wsV RX5 35 RX5 yX5_add wsX5_add) := goodIn_app (goodIn_r _ [13, 14, 15, 5] rfl (by decide +kernel)) ggX5_takeOver_X5_add
theorem dX5_takeOver_0 : decode cX5_takeOver 0 = .ok (.aload_n 0, 1) := by decide +kernel
theorem dX5_takeOver_1 : decode cX5_takeOver 1 = .ok (.iconst 0, 1) := by decide +kernel
theorem dX5_takeOver_2 : decode cX5_takeOver 2 = .ok (.putfield 24, 3) := by decide +kernel
theorem dX5_takeOver_5 : decode cX5_takeOver 5 = .ok (.iconst 0, 1) := by decide +kernel
theorem dX5_takeOver_6 : decode cX5_takeOver 6 = .ok (.istore_n 2, 1) := by decide +kernel
theorem dX5_takeOver_7 : decode cX5_takeOver 7 = .ok (.iload_n 2, 1) := by decide +kernel
theorem dX5_takeOver_8 : decode cX5_takeOver 8 = .ok (.aload_n 1, 1) := by decide +kernel
theorem dX5_takeOver_9 : decode cX5_takeOver 9 = .ok (.getfield 24, 3) := by decide +kernel
theorem dX5_takeOver_12 : decode cX5_takeOver 12 = .ok (.if_icmp .ge 23, 3) := by decide +kernel
theorem dX5_takeOver_15 : decode cX5_takeOver 15 = .ok (.aload_n 0, 1) := by decide +kernel
theorem dX5_takeOver_16 : decode cX5_takeOver 16 = .ok (.aload_n 1, 1) := by decide +kernel
theorem dX5_takeOver_17 : decode cX5_takeOver 17 = .ok (.iload_n 2, 1) := by decide +kernel
theorem dX5_takeOver_18 : decode cX5_takeOver 18 = .ok (.invokevirtual 28, 3) := by decide +kernel
theorem dX5_takeOver_21 : decode cX5_takeOver 21 = .ok (.aload_n 1, 1) := by decide +kernel
theorem dX5_takeOver_22 : decode cX5_takeOver 22 = .ok (.iload_n 2, 1) := by decide +kernel
theorem dX5_takeOver_23 : decode cX5_takeOver 23 = .ok (.invokevirtual 32, 3) := by decide +kernel
theorem dX5_takeOver_26 : decode cX5_takeOver 26 = .ok (.invokevirtual 35, 3) := by decide +kernel
theorem dX5_takeOver_29 : decode cX5_takeOver 29 = .ok (.iinc 2 1, 3) := by decide +kernel
theorem dX5_takeOver_32 : decode cX5_takeOver 32 = .ok (.goto (-25), 3) := by decide +kernel
theorem dX5_takeOver_35 : decode cX5_takeOver 35 = .ok (.return_, 1) := by decide +kernel
theorem dX6_init_0 : decode cX6_init 0 = .ok (.aload_n 0, 1) := by decide +kernel
theorem dX6_init_1 : decode cX6_init 1 = .ok (.invokespecial 1, 3) := by decide +kernel
theorem dX6_init_4 : decode cX6_init 4 = .ok (.aload_n 0, 1) := by decide +kernel
theorem dX6_init_5 : decode cX6_init 5 = .ok (.sipush 840, 3) := by decide +kernel
theorem dX6_init_8 : decode cX6_init 8 = .ok (.newarray .byte, 2) := by decide +kernel
theorem dX6_init_10 : decode cX6_init 10 = .ok (.putfield 9, 3) := by decide +kernel
theorem dX6_init_13 : decode cX6_init 13 = .ok (.return_, 1) := by decide +kernel
theorem dX6_hasRoom_0 : decode cX6_hasRoom 0 = .ok (.aload_n 0, 1) := by decide +kernel
theorem dX6_hasRoom_1 : decode cX6_hasRoom 1 = .ok (.getfield 13, 3) := by decide +kernel
theorem dX6_hasRoom_4 : decode cX6_hasRoom 4 = .ok (.bipush 20, 2) := by decide +kernel
theorem dX6_hasRoom_6 : decode cX6_hasRoom 6 = .ok (.iadd, 1) := by decide +kernel
theorem dX6_hasRoom_7 : decode cX6_hasRoom 7 = .ok (.aload_n 0, 1) := by decide +kernel
theorem dX6_hasRoom_8 : decode cX6_hasRoom 8 = .ok (.getfield 9, 3) := by decide +kernel
theorem dX6_hasRoom_11 : decode cX6_hasRoom 11 = .ok (.arraylength, 1) := by decide +kernel
theorem dX6_hasRoom_12 : decode cX6_hasRoom 12 = .ok (.if_icmp .gt 7, 3) := by decide +kernel
theorem dX6_hasRoom_15 : decode cX6_hasRoom 15 = .ok (.iconst 1, 1) := by decide +kernel
theorem dX6_hasRoom_16 : decode cX6_hasRoom 16 = .ok (.goto 4, 3) := by decide +kernel
theorem dX6_hasRoom_19 : decode cX6_hasRoom 19 = .ok (.iconst 0, 1) := by decide +kernel
theorem dX6_hasRoom_20 : decode cX6_hasRoom 20 = .ok (.ireturn, 1) := by decide +kernel
theorem dX6_append_0 : decode cX6_append 0 = .ok (.bipush 24, 2) := by decide +kernel
theorem dX6_append_2 : decode cX6_append 2 = .ok (.istore_n 2, 1) := by decide +kernel
theorem dX6_append_3 : decode cX6_append 3 = .ok (.iload_n 2, 1) := by decide +kernel
theorem dX6_append_4 : decode cX6_append 4 = .ok (.ifCond .lt 51, 3) := by decide +kernel
theorem dX6_append_7 : decode cX6_append 7 = .ok (.aload_n 0, 1) := by decide +kernel
theorem dX6_append_8 : decode cX6_append 8 = .ok (.getfield 13, 3) := by decide +kernel
theorem dX6_append_11 : decode cX6_append 11 = .ok (.ifCond .lt 38, 3) := by decide +kernel
theorem dX6_append_14 : decode cX6_append 14 = .ok (.aload_n 0, 1) := by decide +kernel
theorem dX6_append_15 : decode cX6_append 15 = .ok (.getfield 13, 3) := by decide +kernel
theorem dX6_append_18 : decode cX6_append 18 = .ok (.aload_n 0, 1) := by decide +kernel
theorem dX6_append_19 : decode cX6_append 19 = .ok (.getfield 9, 3) := by decide +kernel
theorem dX6_append_22 : decode cX6_append 22 = .ok (.arraylength, 1) := by decide +kernel
theorem dX6_append_23 : decode cX6_append 23 = .ok (.if_icmp .ge 26, 3) := by decide +kernel
theorem dX6_append_26 : decode cX6_append 26 = .ok (.aload_n 0, 1) := by decide +kernel
theorem dX6_append_27 : decode cX6_append 27 = .ok (.getfield 9, 3) := by decide +kernel
theorem dX6_append_30 : decode cX6_append 30 = .ok (.aload_n 0, 1) := by decide +kernel
theorem dX6_append_31 : decode cX6_append 31 = .ok (.getfield 13, 3) := by decide +kernel
theorem dX6_append_34 : decode cX6_append 34 = .ok (.iload_n 1, 1) := by decide +kernel
theorem dX6_append_35 : decode cX6_append 35 = .ok (.iload_n 2, 1) := by decide +kernel
theorem dX6_append_36 : decode cX6_append 36 = .ok (.iushr, 1) := by decide +kernel
theorem dX6_append_37 : decode cX6_append 37 = .ok (.i2b, 1) := by decide +kernel
theorem dX6_append_38 : decode cX6_append 38 = .ok (.bastore, 1) := by decide +kernel
theorem dX6_append_39 : decode cX6_append 39 = .ok (.aload_n 0, 1) := by decide +kernel
theorem dX6_append_40 : decode cX6_append 40 = .ok (.dup, 1) := by decide +kernel
theorem dX6_append_41 : decode cX6_append 41 = .ok (.getfield 13, 3) := by decide +kernel
theorem dX6_append_44 : decode cX6_append 44 = .ok (.iconst 1, 1) := by decide +kernel
theorem dX6_append_45 : decode cX6_append 45 = .ok (.iadd, 1) := by decide +kernel
theorem dX6_append_46 : decode cX6_append 46 = .ok (.putfield 13, 3) := by decide +kernel
theorem dX6_append_49 : decode cX6_append 49 = .ok (.iinc 2 (-8), 3) := by decide +kernel
theorem dX6_append_52 : decode cX6_append 52 = .ok (.goto (-49), 3) := by decide +kernel
theorem dX6_append_55 : decode cX6_append 55 = .ok (.return_, 1) := by decide +kernel
theorem dX6_at_0 : decode cX6_at 0 = .ok (.iload_n 1, 1) := by decide +kernel
theorem dX6_at_1 : decode cX6_at 1 = .ok (.ifCond .lt 33, 3) := by decide +kernel
theorem dX6_at_4 : decode cX6_at 4 = .ok (.iload_n 1, 1) := by decide +kernel
theorem dX6_at_5 : decode cX6_at 5 = .ok (.aload_n 0, 1) := by decide +kernel
theorem dX6_at_6 : decode cX6_at 6 = .ok (.getfield 13, 3) := by decide +kernel
theorem dX6_at_9 : decode cX6_at 9 = .ok (.if_icmp .ge 25, 3) := by decide +kernel
theorem dX6_at_12 : decode cX6_at 12 = .ok (.iload_n 1, 1) := by decide +kernel
theorem dX6_at_13 : decode cX6_at 13 = .ok (.aload_n 0, 1) := by decide +kernel
theorem dX6_at_14 : decode cX6_at 14 = .ok (.getfield 9, 3) := by decide +kernel
theorem dX6_at_17 : decode cX6_at 17 = .ok (.arraylength, 1) := by decide +kernel
theorem dX6_at_18 : decode cX6_at 18 = .ok (.if_icmp .ge 16, 3) := by decide +kernel
theorem dX6_at_21 : decode cX6_at 21 = .ok (.aload_n 0, 1) := by decide +kernel
theorem dX6_at_22 : decode cX6_at 22 = .ok (.getfield 9, 3) := by decide +kernel
theorem dX6_at_25 : decode cX6_at 25 = .ok (.iload_n 1, 1) := by decide +kernel
theorem dX6_at_26 : decode cX6_at 26 = .ok (.baload, 1) := by decide +kernel
theorem dX6_at_27 : decode cX6_at 27 = .ok (.sipush 255, 3) := by decide +kernel
theorem dX6_at_30 : decode cX6_at 30 = .ok (.iand, 1) := by decide +kernel
theorem dX6_at_31 : decode cX6_at 31 = .ok (.goto 4, 3) := by decide +kernel
theorem dX6_at_34 : decode cX6_at 34 = .ok (.iconst 0, 1) := by decide +kernel
theorem dX6_at_35 : decode cX6_at 35 = .ok (.ireturn, 1) := by decide +kernel
set_option maxRecDepth 20000 in
theorem ggX7_init_X5_init : GoodIn wsX7_init wsX5_init := goodIn_r _ [15, 16, 2, 3, 17, 18, 19, 20, 21, 22, 23, 24, 25, 26] rfl (by decide +kernel)
set_option maxRecDepth 20000 in
theorem gX7_init_X5_init : GoodIn wsX7_init (wsX5_init) := ggX7_init_X5_init
theorem dX7_init_0 : decode cX7_init 0 = .ok (.aload_n 0, 1) := by decide +kernel
theorem dX7_init_1 : decode cX7_init 1 = .ok (.invokespecial 3, 3) := by decide +kernel
theorem dX7_init_4 : decode cX7_init 4 = .ok (.aload_n 0, 1) := by decide +kernel
theorem dX7_init_5 : decode cX7_init 5 = .ok (.new 9, 3) := by decide +kernel
theorem dX7_init_8 : decode cX7_init 8 = .ok (.dup, 1) := by decide +kernel
theorem dX7_init_9 : decode cX7_init 9 = .ok (.iconst 4, 1) := by decide +kernel
theorem dX7_init_10 : decode cX7_init 10 = .ok (.invokespecial 11, 3) := by decide +kernel
theorem dX7_init_13 : decode cX7_init 13 = .ok (.putfield 14, 3) := by decide +kernel
theorem dX7_init_16 : decode cX7_init 16 = .ok (.aload_n 0, 1) := by decide +kernel
theorem dX7_init_17 : decode cX7_init 17 = .ok (.new 9, 3) := by decide +kernel
theorem dX7_init_20 : decode cX7_init 20 = .ok (.dup, 1) := by decide +kernel
theorem dX7_init_21 : decode cX7_init 21 = .ok (.iconst 4, 1) := by decide +kernel
theorem dX7_init_22 : decode cX7_init 22 = .ok (.invokespecial 11, 3) := by decide +kernel
theorem dX7_init_25 : decode cX7_init 25 = .ok (.putfield 20, 3) := by decide +kernel
theorem dX7_init_28 : decode cX7_init 28 = .ok (.aload_n 0, 1) := by decide +kernel
theorem dX7_init_29 : decode cX7_init 29 = .ok (.new 9, 3) := by decide +kernel
theorem dX7_init_32 : decode cX7_init 32 = .ok (.dup, 1) := by decide +kernel
theorem dX7_init_33 : decode cX7_init 33 = .ok (.bipush 6, 2) := by decide +kernel
theorem dX7_init_35 : decode cX7_init 35 = .ok (.invokespecial 11, 3) := by decide +kernel
theorem dX7_init_38 : decode cX7_init 38 = .ok (.putfield 23, 3) := by decide +kernel
theorem dX7_init_41 : decode cX7_init 41 = .ok (.aload_n 0, 1) := by decide +kernel
theorem dX7_init_42 : decode cX7_init 42 = .ok (.new 9, 3) := by decide +kernel
theorem dX7_init_45 : decode cX7_init 45 = .ok (.dup, 1) := by decide +kernel
theorem dX7_init_46 : decode cX7_init 46 = .ok (.bipush 40, 2) := by decide +kernel
theorem dX7_init_48 : decode cX7_init 48 = .ok (.invokespecial 11, 3) := by decide +kernel
theorem dX7_init_51 : decode cX7_init 51 = .ok (.putfield 26, 3) := by decide +kernel
theorem dX7_init_54 : decode cX7_init 54 = .ok (.aload_n 0, 1) := by decide +kernel
theorem dX7_init_55 : decode cX7_init 55 = .ok (.new 9, 3) := by decide +kernel
theorem dX7_init_58 : decode cX7_init 58 = .ok (.dup, 1) := by decide +kernel
theorem dX7_init_59 : decode cX7_init 59 = .ok (.bipush 40, 2) := by decide +kernel
theorem dX7_init_61 : decode cX7_init 61 = .ok (.invokespecial 11, 3) := by decide +kernel
theorem dX7_init_64 : decode cX7_init 64 = .ok (.putfield 29, 3) := by decide +kernel
theorem dX7_init_67 : decode cX7_init 67 = .ok (.aload_n 0, 1) := by decide +kernel
theorem dX7_init_68 : decode cX7_init 68 = .ok (.new 9, 3) := by decide +kernel
theorem dX7_init_71 : decode cX7_init 71 = .ok (.dup, 1) := by decide +kernel
theorem dX7_init_72 : decode cX7_init 72 = .ok (.bipush 20, 2) := by decide +kernel
theorem dX7_init_74 : decode cX7_init 74 = .ok (.invokespecial 11, 3) := by decide +kernel
theorem dX7_init_77 : decode cX7_init 77 = .ok (.putfield 32, 3) := by decide +kernel
theorem dX7_init_80 : decode cX7_init 80 = .ok (.return_, 1) := by decide +kernel
theorem dX7_forget_0 : decode cX7_forget 0 = .ok (.aload_n 0, 1) := by decide +kernel
theorem dX7_forget_1 : decode cX7_forget 1 = .ok (.getfield 14, 3) := by decide +kernel
theorem dX7_forget_4 : decode cX7_forget 4 = .ok (.iconst 0, 1) := by decide +kernel
theorem dX7_forget_5 : decode cX7_forget 5 = .ok (.putfield 35, 3) := by decide +kernel
theorem dX7_forget_8 : decode cX7_forget 8 = .ok (.aload_n 0, 1) := by decide +kernel
theorem dX7_forget_9 : decode cX7_forget 9 = .ok (.getfield 20, 3) := by decide +kernel
theorem dX7_forget_12 : decode cX7_forget 12 = .ok (.iconst 0, 1) := by decide +kernel
theorem dX7_forget_13 : decode cX7_forget 13 = .ok (.putfield 35, 3) := by decide +kernel
theorem dX7_forget_16 : decode cX7_forget 16 = .ok (.aload_n 0, 1) := by decide +kernel
theorem dX7_forget_17 : decode cX7_forget 17 = .ok (.getfield 23, 3) := by decide +kernel
theorem dX7_forget_20 : decode cX7_forget 20 = .ok (.iconst 0, 1) := by decide +kernel
theorem dX7_forget_21 : decode cX7_forget 21 = .ok (.putfield 35, 3) := by decide +kernel
theorem dX7_forget_24 : decode cX7_forget 24 = .ok (.aload_n 0, 1) := by decide +kernel
theorem dX7_forget_25 : decode cX7_forget 25 = .ok (.getfield 26, 3) := by decide +kernel
theorem dX7_forget_28 : decode cX7_forget 28 = .ok (.iconst 0, 1) := by decide +kernel
theorem dX7_forget_29 : decode cX7_forget 29 = .ok (.putfield 35, 3) := by decide +kernel
theorem dX7_forget_32 : decode cX7_forget 32 = .ok (.aload_n 0, 1) := by decide +kernel
theorem dX7_forget_33 : decode cX7_forget 33 = .ok (.getfield 29, 3) := by decide +kernel
theorem dX7_forget_36 : decode cX7_forget 36 = .ok (.iconst 0, 1) := by decide +kernel
theorem dX7_forget_37 : decode cX7_forget 37 = .ok (.putfield 35, 3) := by decide +kernel
theorem dX7_forget_40 : decode cX7_forget 40 = .ok (.aload_n 0, 1) := by decide +kernel
theorem dX7_forget_41 : decode cX7_forget 41 = .ok (.getfield 32, 3) := by decide +kernel
theorem dX7_forget_44 : decode cX7_forget 44 = .ok (.iconst 0, 1) := by decide +kernel
theorem dX7_forget_45 : decode cX7_forget 45 = .ok (.putfield 35, 3) := by decide +kernel
theorem dX7_forget_48 : decode cX7_forget 48 = .ok (.aload_n 0, 1) := by decide +kernel
theorem dX7_forget_49 : decode cX7_forget 49 = .ok (.iconst 0, 1) := by decide +kernel
theorem dX7_forget_50 : decode cX7_forget 50 = .ok (.putfield 39, 3) := by decide +kernel
theorem dX7_forget_53 : decode cX7_forget 53 = .ok (.aload_n 0, 1) := by decide +kernel
theorem dX7_forget_54 : decode cX7_forget 54 = .ok (.iconst 0, 1) := by decide +kernel
theorem dX7_forget_55 : decode cX7_forget 55 = .ok (.putfield 42, 3) := by decide +kernel
theorem dX7_forget_58 : decode cX7_forget 58 = .ok (.aload_n 0, 1) := by decide +kernel
theorem dX7_forget_59 : decode cX7_forget 59 = .ok (.iconst 0, 1) := by decide +kernel
theorem dX7_forget_60 : decode cX7_forget 60 = .ok (.putfield 45, 3) := by decide +kernel
theorem dX7_forget_63 : decode cX7_forget 63 = .ok (.aload_n 0, 1) := by decide +kernel
theorem dX7_forget_64 : decode cX7_forget 64 = .ok (.iconst 0, 1) := by decide +kernel
theorem dX7_forget_65 : decode cX7_forget 65 = .ok (.putfield 48, 3) := by decide +kernel
theorem dX7_forget_68 : decode cX7_forget 68 = .ok (.aload_n 0, 1) := by decide +kernel
theorem dX7_forget_69 : decode cX7_forget 69 = .ok (.iconst 0, 1) := by decide +kernel
theorem dX7_forget_70 : decode cX7_forget 70 = .ok (.putfield 51, 3) := by decide +kernel
theorem dX7_forget_73 : decode cX7_forget 73 = .ok (.aload_n 0, 1) := by decide +kernel
theorem dX7_forget_74 : decode cX7_forget 74 = .ok (.iconst 0, 1) := by decide +kernel
theorem dX7_forget_75 : decode cX7_forget 75 = .ok (.putfield 54, 3) := by decide +kernel
theorem dX7_forget_78 : decode cX7_forget 78 = .ok (.aload_n 0, 1) := by decide +kernel
theorem dX7_forget_79 : decode cX7_forget 79 = .ok (.iconst 0, 1) := by decide +kernel
theorem dX7_forget_80 : decode cX7_forget 80 = .ok (.putfield 58, 3) := by decide +kernel
theorem dX7_forget_83 : decode cX7_forget 83 = .ok (.aload_n 0, 1) := by decide +kernel
theorem dX7_forget_84 : decode cX7_forget 84 = .ok (.iconst 0, 1) := by decide +kernel
theorem dX7_forget_85 : decode cX7_forget 85 = .ok (.putfield 61, 3) := by decide +kernel
theorem dX7_forget_88 : decode cX7_forget 88 = .ok (.return_, 1) := by decide +kernel
set_option maxRecDepth 20000 in
theorem ggX7_takeOver_X5_takeOver : GoodIn wsX7_takeOver wsX5_takeOver := goodIn_r _ [19, 20, 21, 22, 23, 18, 24, 25, 26, 27, 28, 29, 30, 31, 32, 33, 34, 49, 50, 51] rfl (by decide +kernel)
set_option maxRecDepth 20000 in
theorem gX7_takeOver_X5_takeOver : GoodIn wsX7_takeOver (wsV RX7 64 RX5 yX5_takeOver wsX5_takeOver) := goodIn_app (goodIn_r _ [15, 16, 17, 18] rfl (by decide +kernel)) ggX7_takeOver_X5_takeOver
theorem dX7_takeOver_0 : decode cX7_takeOver 0 = .ok (.aload_n 0, 1) := by decide +kernel
theorem dX7_takeOver_1 : decode cX7_takeOver 1 = .ok (.getfield 14, 3) := by decide +kernel
theorem dX7_takeOver_4 : decode cX7_takeOver 4 = .ok (.aload_n 1, 1) := by decide +kernel
theorem dX7_takeOver_5 : decode cX7_takeOver 5 = .ok (.getfield 14, 3) := by decide +kernel
theorem dX7_takeOver_8 : decode cX7_takeOver 8 = .ok (.invokevirtual 64, 3) := by decide +kernel
theorem dX7_takeOver_11 : decode cX7_takeOver 11 = .ok (.aload_n 0, 1) := by decide +kernel
theorem dX7_takeOver_12 : decode cX7_takeOver 12 = .ok (.getfield 20, 3) := by decide +kernel
theorem dX7_takeOver_15 : decode cX7_takeOver 15 = .ok (.aload_n 1, 1) := by decide +kernel
theorem dX7_takeOver_16 : decode cX7_takeOver 16 = .ok (.getfield 20, 3) := by decide +kernel
theorem dX7_takeOver_19 : decode cX7_takeOver 19 = .ok (.invokevirtual 64, 3) := by decide +kernel
theorem dX7_takeOver_22 : decode cX7_takeOver 22 = .ok (.aload_n 0, 1) := by decide +kernel
theorem dX7_takeOver_23 : decode cX7_takeOver 23 = .ok (.getfield 23, 3) := by decide +kernel
theorem dX7_takeOver_26 : decode cX7_takeOver 26 = .ok (.aload_n 1, 1) := by decide +kernel
theorem dX7_takeOver_27 : decode cX7_takeOver 27 = .ok (.getfield 23, 3) := by decide +kernel
theorem dX7_takeOver_30 : decode cX7_takeOver 30 = .ok (.invokevirtual 64, 3) := by decide +kernel
theorem dX7_takeOver_33 : decode cX7_takeOver 33 = .ok (.aload_n 0, 1) := by decide +kernel
theorem dX7_takeOver_34 : decode cX7_takeOver 34 = .ok (.getfield 26, 3) := by decide +kernel
theorem dX7_takeOver_37 : decode cX7_takeOver 37 = .ok (.aload_n 1, 1) := by decide +kernel
theorem dX7_takeOver_38 : decode cX7_takeOver 38 = .ok (.getfield 26, 3) := by decide +kernel
theorem dX7_takeOver_41 : decode cX7_takeOver 41 = .ok (.invokevirtual 64, 3) := by decide +kernel
theorem dX7_takeOver_44 : decode cX7_takeOver 44 = .ok (.aload_n 0, 1) := by decide +kernel
theorem dX7_takeOver_45 : decode cX7_takeOver 45 = .ok (.getfield 29, 3) := by decide +kernel
theorem dX7_takeOver_48 : decode cX7_takeOver 48 = .ok (.aload_n 1, 1) := by decide +kernel
theorem dX7_takeOver_49 : decode cX7_takeOver 49 = .ok (.getfield 29, 3) := by decide +kernel
theorem dX7_takeOver_52 : decode cX7_takeOver 52 = .ok (.invokevirtual 64, 3) := by decide +kernel
theorem dX7_takeOver_55 : decode cX7_takeOver 55 = .ok (.aload_n 0, 1) := by decide +kernel
theorem dX7_takeOver_56 : decode cX7_takeOver 56 = .ok (.getfield 32, 3) := by decide +kernel
theorem dX7_takeOver_59 : decode cX7_takeOver 59 = .ok (.aload_n 1, 1) := by decide +kernel
theorem dX7_takeOver_60 : decode cX7_takeOver 60 = .ok (.getfield 32, 3) := by decide +kernel
theorem dX7_takeOver_63 : decode cX7_takeOver 63 = .ok (.invokevirtual 64, 3) := by decide +kernel
theorem dX7_takeOver_66 : decode cX7_takeOver 66 = .ok (.aload_n 0, 1) := by decide +kernel
theorem dX7_takeOver_67 : decode cX7_takeOver 67 = .ok (.aload_n 1, 1) := by decide +kernel
theorem dX7_takeOver_68 : decode cX7_takeOver 68 = .ok (.getfield 39, 3) := by decide +kernel
theorem dX7_takeOver_71 : decode cX7_takeOver 71 = .ok (.putfield 39, 3) := by decide +kernel
theorem dX7_takeOver_74 : decode cX7_takeOver 74 = .ok (.aload_n 0, 1) := by decide +kernel
theorem dX7_takeOver_75 : decode cX7_takeOver 75 = .ok (.aload_n 1, 1) := by decide +kernel
theorem dX7_takeOver_76 : decode cX7_takeOver 76 = .ok (.getfield 42, 3) := by decide +kernel
theorem dX7_takeOver_79 : decode cX7_takeOver 79 = .ok (.putfield 42, 3) := by decide +kernel
theorem dX7_takeOver_82 : decode cX7_takeOver 82 = .ok (.aload_n 0, 1) := by decide +kernel
theorem dX7_takeOver_83 : decode cX7_takeOver 83 = .ok (.aload_n 1, 1) := by decide +kernel
theorem dX7_takeOver_84 : decode cX7_takeOver 84 = .ok (.getfield 45, 3) := by decide +kernel
theorem dX7_takeOver_87 : decode cX7_takeOver 87 = .ok (.putfield 45, 3) := by decide +kernel
theorem dX7_takeOver_90 : decode cX7_takeOver 90 = .ok (.aload_n 0, 1) := by decide +kernel
theorem dX7_takeOver_91 : decode cX7_takeOver 91 = .ok (.aload_n 1, 1) := by decide +kernel
theorem dX7_takeOver_92 : decode cX7_takeOver 92 = .ok (.getfield 48, 3) := by decide +kernel
theorem dX7_takeOver_95 : decode cX7_takeOver 95 = .ok (.putfield 48, 3) := by decide +kernel
theorem dX7_takeOver_98 : decode cX7_takeOver 98 = .ok (.aload_n 0, 1) := by decide +kernel
theorem dX7_takeOver_99 : decode cX7_takeOver 99 = .ok (.aload_n 1, 1) := by decide +kernel
theorem dX7_takeOver_100 : decode cX7_takeOver 100 = .ok (.getfield 51, 3) := by decide +kernel
theorem dX7_takeOver_103 : decode cX7_takeOver 103 = .ok (.putfield 51, 3) := by decide +kernel
theorem dX7_takeOver_106 : decode cX7_takeOver 106 = .ok (.aload_n 0, 1) := by decide +kernel
theorem dX7_takeOver_107 : decode cX7_takeOver 107 = .ok (.aload_n 1, 1) := by decide +kernel
theorem dX7_takeOver_108 : decode cX7_takeOver 108 = .ok (.getfield 54, 3) := by decide +kernel
theorem dX7_takeOver_111 : decode cX7_takeOver 111 = .ok (.putfield 54, 3) := by decide +kernel
theorem dX7_takeOver_114 : decode cX7_takeOver 114 = .ok (.aload_n 0, 1) := by decide +kernel
theorem dX7_takeOver_115 : decode cX7_takeOver 115 = .ok (.aload_n 1, 1) := by decide +kernel
theorem dX7_takeOver_116 : decode cX7_takeOver 116 = .ok (.getfield 58, 3) := by decide +kernel
theorem dX7_takeOver_119 : decode cX7_takeOver 119 = .ok (.putfield 58, 3) := by decide +kernel
theorem dX7_takeOver_122 : decode cX7_takeOver 122 = .ok (.aload_n 0, 1) := by decide +kernel
theorem dX7_takeOver_123 : decode cX7_takeOver 123 = .ok (.aload_n 1, 1) := by decide +kernel
theorem dX7_takeOver_124 : decode cX7_takeOver 124 = .ok (.getfield 61, 3) := by decide +kernel
theorem dX7_takeOver_127 : decode cX7_takeOver 127 = .ok (.putfield 61, 3) := by decide +kernel
theorem dX7_takeOver_130 : decode cX7_takeOver 130 = .ok (.return_, 1) := by decide +kernel
set_option maxRecDepth 20000 in
theorem ggX7_taxOf_X5_first : GoodIn wsX7_taxOf wsX5_first := goodIn_r _ [13, 14, 15, 35, 36, 37] rfl (by decide +kernel)
set_option maxRecDepth 20000 in
theorem gX7_taxOf_X5_first : GoodIn wsX7_taxOf (wsV RX7 68 RX5 yX5_first wsX5_first) := goodIn_app (goodIn_r _ [9, 10, 11, 12] rfl (by decide +kernel)) ggX7_taxOf_X5_first
set_option maxRecDepth 20000 in
theorem ggX7_taxOf_X5_second : GoodIn wsX7_taxOf wsX5_second := goodIn_r _ [19, 14, 20, 35, 36, 37] rfl (by decide +kernel)
set_option maxRecDepth 20000 in
theorem gX7_taxOf_X5_second : GoodIn wsX7_taxOf (wsV RX7 78 RX5 yX5_second wsX5_second) := goodIn_app (goodIn_r _ [16, 17, 18, 12] rfl (by decide +kernel)) ggX7_taxOf_X5_second
theorem dX7_taxOf_0 : decode cX7_taxOf 0 = .ok (.lconst 0, 1) := by decide +kernel
theorem dX7_taxOf_1 : decode cX7_taxOf 1 = .ok (.lstore_n 2, 1) := by decide +kernel
theorem dX7_taxOf_2 : decode cX7_taxOf 2 = .ok (.iconst 0, 1) := by decide +kernel
theorem dX7_taxOf_3 : decode cX7_taxOf 3 = .ok (.istore 4, 2) := by decide +kernel
theorem dX7_taxOf_5 : decode cX7_taxOf 5 = .ok (.iconst 0, 1) := by decide +kernel
theorem dX7_taxOf_6 : decode cX7_taxOf 6 = .ok (.istore 5, 2) := by decide +kernel
theorem dX7_taxOf_8 : decode cX7_taxOf 8 = .ok (.iload 5, 2) := by decide +kernel
theorem dX7_taxOf_10 : decode cX7_taxOf 10 = .ok (.aload_n 0, 1) := by decide +kernel
theorem dX7_taxOf_11 : decode cX7_taxOf 11 = .ok (.getfield 20, 3) := by decide +kernel
theorem dX7_taxOf_14 : decode cX7_taxOf 14 = .ok (.getfield 35, 3) := by decide +kernel
theorem dX7_taxOf_17 : decode cX7_taxOf 17 = .ok (.if_icmp .ge 48, 3) := by decide +kernel
theorem dX7_taxOf_20 : decode cX7_taxOf 20 = .ok (.iload_n 1, 1) := by decide +kernel
theorem dX7_taxOf_21 : decode cX7_taxOf 21 = .ok (.aload_n 0, 1) := by decide +kernel
theorem dX7_taxOf_22 : decode cX7_taxOf 22 = .ok (.getfield 20, 3) := by decide +kernel
theorem dX7_taxOf_25 : decode cX7_taxOf 25 = .ok (.iload 5, 2) := by decide +kernel
theorem dX7_taxOf_27 : decode cX7_taxOf 27 = .ok (.invokevirtual 68, 3) := by decide +kernel
theorem dX7_taxOf_30 : decode cX7_taxOf 30 = .ok (.invokestatic 72, 3) := by decide +kernel
theorem dX7_taxOf_33 : decode cX7_taxOf 33 = .ok (.istore 6, 2) := by decide +kernel
theorem dX7_taxOf_35 : decode cX7_taxOf 35 = .ok (.lload_n 2, 1) := by decide +kernel
theorem dX7_taxOf_36 : decode cX7_taxOf 36 = .ok (.iload 6, 2) := by decide +kernel
theorem dX7_taxOf_38 : decode cX7_taxOf 38 = .ok (.iload 4, 2) := by decide +kernel
theorem dX7_taxOf_40 : decode cX7_taxOf 40 = .ok (.isub, 1) := by decide +kernel
theorem dX7_taxOf_41 : decode cX7_taxOf 41 = .ok (.i2l, 1) := by decide +kernel
theorem dX7_taxOf_42 : decode cX7_taxOf 42 = .ok (.aload_n 0, 1) := by decide +kernel
theorem dX7_taxOf_43 : decode cX7_taxOf 43 = .ok (.getfield 20, 3) := by decide +kernel
theorem dX7_taxOf_46 : decode cX7_taxOf 46 = .ok (.iload 5, 2) := by decide +kernel
theorem dX7_taxOf_48 : decode cX7_taxOf 48 = .ok (.invokevirtual 78, 3) := by decide +kernel
theorem dX7_taxOf_51 : decode cX7_taxOf 51 = .ok (.i2l, 1) := by decide +kernel
theorem dX7_taxOf_52 : decode cX7_taxOf 52 = .ok (.lmul, 1) := by decide +kernel
theorem dX7_taxOf_53 : decode cX7_taxOf 53 = .ok (.ladd, 1) := by decide +kernel
theorem dX7_taxOf_54 : decode cX7_taxOf 54 = .ok (.lstore_n 2, 1) := by decide +kernel
theorem dX7_taxOf_55 : decode cX7_taxOf 55 = .ok (.iload 6, 2) := by decide +kernel
theorem dX7_taxOf_57 : decode cX7_taxOf 57 = .ok (.istore 4, 2) := by decide +kernel
theorem dX7_taxOf_59 : decode cX7_taxOf 59 = .ok (.iinc 5 1, 3) := by decide +kernel
theorem dX7_taxOf_62 : decode cX7_taxOf 62 = .ok (.goto (-54), 3) := by decide +kernel
theorem dX7_taxOf_65 : decode cX7_taxOf 65 = .ok (.lload_n 2, 1) := by decide +kernel
theorem dX7_taxOf_66 : decode cX7_taxOf 66 = .ok (.iload_n 1, 1) := by decide +kernel
theorem dX7_taxOf_67 : decode cX7_taxOf 67 = .ok (.iload 4, 2) := by decide +kernel
theorem dX7_taxOf_69 : decode cX7_taxOf 69 = .ok (.isub, 1) := by decide +kernel
theorem dX7_taxOf_70 : decode cX7_taxOf 70 = .ok (.i2l, 1) := by decide +kernel
theorem dX7_taxOf_71 : decode cX7_taxOf 71 = .ok (.aload_n 0, 1) := by decide +kernel
theorem dX7_taxOf_72 : decode cX7_taxOf 72 = .ok (.getfield 58, 3) := by decide +kernel
theorem dX7_taxOf_75 : decode cX7_taxOf 75 = .ok (.i2l, 1) := by decide +kernel
theorem dX7_taxOf_76 : decode cX7_taxOf 76 = .ok (.lmul, 1) := by decide +kernel
theorem dX7_taxOf_77 : decode cX7_taxOf 77 = .ok (.ladd, 1) := by decide +kernel
theorem dX7_taxOf_78 : decode cX7_taxOf 78 = .ok (.lstore_n 2, 1) := by decide +kernel
theorem dX7_taxOf_79 : decode cX7_taxOf 79 = .ok (.lload_n 2, 1) := by decide +kernel
theorem dX7_taxOf_80 : decode cX7_taxOf 80 = .ok (.ldc2_w 81, 3) := by decide +kernel
theorem dX7_taxOf_83 : decode cX7_taxOf 83 = .ok (.ldiv, 1) := by decide +kernel
theorem dX7_taxOf_84 : decode cX7_taxOf 84 = .ok (.l2i, 1) := by decide +kernel
theorem dX7_taxOf_85 : decode cX7_taxOf 85 = .ok (.ireturn, 1) := by decide +kernel
set_option maxRecDepth 20000 in
theorem ggX7_allIncome_X5_sumUpTo : GoodIn wsX7_allIncome wsX5_sumUpTo := goodIn_r _ [6, 7, 8, 9, 24, 25, 26] rfl (by decide +kernel)
set_option maxRecDepth 20000 in
theorem gX7_allIncome_X5_sumUpTo : GoodIn wsX7_allIncome (wsV RX7 83 RX5 yX5_sumUpTo wsX5_sumUpTo) := goodIn_app (goodIn_r _ [2, 3, 4, 5] rfl (by decide +kernel)) ggX7_allIncome_X5_sumUpTo
theorem dX7_allIncome_0 : decode cX7_allIncome 0 = .ok (.aload_n 0, 1) := by decide +kernel
theorem dX7_allIncome_1 : decode cX7_allIncome 1 = .ok (.getfield 26, 3) := by decide +kernel
theorem dX7_allIncome_4 : decode cX7_allIncome 4 = .ok (.sipush 499, 3) := by decide +kernel
theorem dX7_allIncome_7 : decode cX7_allIncome 7 = .ok (.invokevirtual 83, 3) := by decide +kernel
theorem dX7_allIncome_10 : decode cX7_allIncome 10 = .ok (.ireturn, 1) := by decide +kernel
set_option maxRecDepth 20000 in
theorem ggX7_yearly_X5_second : GoodIn wsX7_yearly wsX5_second := goodIn_r _ [8, 9, 10, 30, 31, 32] rfl (by decide +kernel)
set_option maxRecDepth 20000 in
theorem gX7_yearly_X5_second : GoodIn wsX7_yearly (wsV RX7 78 RX5 yX5_second wsX5_second) := goodIn_app (goodIn_r _ [4, 5, 6, 7] rfl (by decide +kernel)) ggX7_yearly_X5_second
set_option maxRecDepth 20000 in
theorem ggX7_yearly_X5_sumUpTo : GoodIn wsX7_yearly wsX5_sumUpTo := goodIn_r _ [14, 9, 15, 10, 30, 31, 32] rfl (by decide +kernel)
set_option maxRecDepth 20000 in
theorem gX7_yearly_X5_sumUpTo : GoodIn wsX7_yearly (wsV RX7 83 RX5 yX5_sumUpTo wsX5_sumUpTo) := goodIn_app (goodIn_r _ [11, 12, 13, 7] rfl (by decide +kernel)) ggX7_yearly_X5_sumUpTo
theorem dX7_yearly_0 : decode cX7_yearly 0 = .ok (.aload_n 0, 1) := by decide +kernel
theorem dX7_yearly_1 : decode cX7_yearly 1 = .ok (.getfield 14, 3) := by decide +kernel
theorem dX7_yearly_4 : decode cX7_yearly 4 = .ok (.iload_n 1, 1) := by decide +kernel
theorem dX7_yearly_5 : decode cX7_yearly 5 = .ok (.invokevirtual 78, 3) := by decide +kernel
theorem dX7_yearly_8 : decode cX7_yearly 8 = .ok (.istore_n 2, 1) := by decide +kernel
theorem dX7_yearly_9 : decode cX7_yearly 9 = .ok (.iload_n 2, 1) := by decide +kernel
theorem dX7_yearly_10 : decode cX7_yearly 10 = .ok (.iconst 1, 1) := by decide +kernel
theorem dX7_yearly_11 : decode cX7_yearly 11 = .ok (.iadd, 1) := by decide +kernel
theorem dX7_yearly_12 : decode cX7_yearly 12 = .ok (.istore_n 3, 1) := by decide +kernel
theorem dX7_yearly_13 : decode cX7_yearly 13 = .ok (.iload_n 3, 1) := by decide +kernel
theorem dX7_yearly_14 : decode cX7_yearly 14 = .ok (.iconst 1, 1) := by decide +kernel
theorem dX7_yearly_15 : decode cX7_yearly 15 = .ok (.if_icmp .ge 7, 3) := by decide +kernel
theorem dX7_yearly_18 : decode cX7_yearly 18 = .ok (.iconst 0, 1) := by decide +kernel
theorem dX7_yearly_19 : decode cX7_yearly 19 = .ok (.goto 20, 3) := by decide +kernel
theorem dX7_yearly_22 : decode cX7_yearly 22 = .ok (.aload_n 0, 1) := by decide +kernel
theorem dX7_yearly_23 : decode cX7_yearly 23 = .ok (.getfield 26, 3) := by decide +kernel
theorem dX7_yearly_26 : decode cX7_yearly 26 = .ok (.iload_n 2, 1) := by decide +kernel
theorem dX7_yearly_27 : decode cX7_yearly 27 = .ok (.invokevirtual 83, 3) := by decide +kernel
theorem dX7_yearly_30 : decode cX7_yearly 30 = .ok (.i2l, 1) := by decide +kernel
theorem dX7_yearly_31 : decode cX7_yearly 31 = .ok (.ldc2_w 86, 3) := by decide +kernel
theorem dX7_yearly_34 : decode cX7_yearly 34 = .ok (.lmul, 1) := by decide +kernel
theorem dX7_yearly_35 : decode cX7_yearly 35 = .ok (.iload_n 3, 1) := by decide +kernel
theorem dX7_yearly_36 : decode cX7_yearly 36 = .ok (.i2l, 1) := by decide +kernel
theorem dX7_yearly_37 : decode cX7_yearly 37 = .ok (.ldiv, 1) := by decide +kernel
theorem dX7_yearly_38 : decode cX7_yearly 38 = .ok (.l2i, 1) := by decide +kernel
theorem dX7_yearly_39 : decode cX7_yearly 39 = .ok (.ireturn, 1) := by decide +kernel
set_option maxRecDepth 20000 in
theorem ggX7_sumBy_X7_allIncome : GoodIn wsX7_sumBy wsX7_allIncome := goodIn_r _ [9, 10, 11, 12, 13, 14, 15, 16, 17, 18, 45, 46, 47, 48, 49, 50, 51, 52, 53, 54, 55, 56, 57, 58, 59, 60, 61] rfl (by decide +kernel)
set_option maxRecDepth 20000 in
theorem gX7_sumBy_X7_allIncome : GoodIn wsX7_sumBy (wsV RX7 88 RX7 yX7_allIncome wsX7_allIncome) := goodIn_app (goodIn_r _ [5, 6, 7, 8] rfl (by decide +kernel)) ggX7_sumBy_X7_allIncome
set_option maxRecDepth 20000 in
theorem ggX7_sumBy_X7_taxOf : GoodIn wsX7_sumBy wsX7_taxOf := goodIn_r _ [22, 23, 24, 25, 26, 27, 28, 29, 30, 31, 32, 33, 14, 34, 16, 17, 35, 36, 37, 38, 18, 45, 46, 47, 48, 49, 50, 51, 52, 53, 54, 55, 56, 57, 58, 59, 60, 61] rfl (by decide +kernel)
set_option maxRecDepth 20000 in
theorem gX7_sumBy_X7_taxOf : GoodIn wsX7_sumBy (wsV RX7 92 RX7 yX7_taxOf wsX7_taxOf) := goodIn_app (goodIn_r _ [19, 20, 21, 8] rfl (by decide +kernel)) ggX7_sumBy_X7_taxOf
set_option maxRecDepth 20000 in
theorem ggX7_sumBy_X7_yearly : GoodIn wsX7_sumBy wsX7_yearly := goodIn_r _ [42, 43, 10, 44, 35, 36, 37, 14, 38, 16, 18, 11, 12, 13, 15, 17, 45, 46, 47, 48, 49, 50, 51, 52, 53, 54, 55, 56, 57, 58, 59, 60, 61] rfl (by decide +kernel)
set_option maxRecDepth 20000 in
theorem gX7_sumBy_X7_yearly : GoodIn wsX7_sumBy (wsV RX7 95 RX7 yX7_yearly wsX7_yearly) := goodIn_app (goodIn_r _ [39, 40, 41, 8] rfl (by decide +kernel)) ggX7_sumBy_X7_yearly
theorem dX7_sumBy_0 : decode cX7_sumBy 0 = .ok (.iload_n 1, 1) := by decide +kernel
theorem dX7_sumBy_1 : decode cX7_sumBy 1 = .ok (.ifCond .ne 22, 3) := by decide +kernel
theorem dX7_sumBy_4 : decode cX7_sumBy 4 = .ok (.aload_n 0, 1) := by decide +kernel
theorem dX7_sumBy_5 : decode cX7_sumBy 5 = .ok (.aload_n 0, 1) := by decide +kernel
theorem dX7_sumBy_6 : decode cX7_sumBy 6 = .ok (.invokevirtual 88, 3) := by decide +kernel
theorem dX7_sumBy_9 : decode cX7_sumBy 9 = .ok (.invokevirtual 92, 3) := by decide +kernel
theorem dX7_sumBy_12 : decode cX7_sumBy 12 = .ok (.i2l, 1) := by decide +kernel
theorem dX7_sumBy_13 : decode cX7_sumBy 13 = .ok (.aload_n 0, 1) := by decide +kernel
theorem dX7_sumBy_14 : decode cX7_sumBy 14 = .ok (.getfield 48, 3) := by decide +kernel
theorem dX7_sumBy_17 : decode cX7_sumBy 17 = .ok (.i2l, 1) := by decide +kernel
theorem dX7_sumBy_18 : decode cX7_sumBy 18 = .ok (.lmul, 1) := by decide +kernel
theorem dX7_sumBy_19 : decode cX7_sumBy 19 = .ok (.lstore_n 3, 1) := by decide +kernel
theorem dX7_sumBy_20 : decode cX7_sumBy 20 = .ok (.goto 40, 3) := by decide +kernel
theorem dX7_sumBy_23 : decode cX7_sumBy 23 = .ok (.iload_n 1, 1) := by decide +kernel
theorem dX7_sumBy_24 : decode cX7_sumBy 24 = .ok (.iconst 1, 1) := by decide +kernel
theorem dX7_sumBy_25 : decode cX7_sumBy 25 = .ok (.if_icmp .ne 18, 3) := by decide +kernel
theorem dX7_sumBy_28 : decode cX7_sumBy 28 = .ok (.aload_n 0, 1) := by decide +kernel
theorem dX7_sumBy_29 : decode cX7_sumBy 29 = .ok (.getfield 39, 3) := by decide +kernel
theorem dX7_sumBy_32 : decode cX7_sumBy 32 = .ok (.i2l, 1) := by decide +kernel
theorem dX7_sumBy_33 : decode cX7_sumBy 33 = .ok (.aload_n 0, 1) := by decide +kernel
theorem dX7_sumBy_34 : decode cX7_sumBy 34 = .ok (.getfield 51, 3) := by decide +kernel
theorem dX7_sumBy_37 : decode cX7_sumBy 37 = .ok (.i2l, 1) := by decide +kernel
theorem dX7_sumBy_38 : decode cX7_sumBy 38 = .ok (.lmul, 1) := by decide +kernel
theorem dX7_sumBy_39 : decode cX7_sumBy 39 = .ok (.lstore_n 3, 1) := by decide +kernel
theorem dX7_sumBy_40 : decode cX7_sumBy 40 = .ok (.goto 20, 3) := by decide +kernel
theorem dX7_sumBy_43 : decode cX7_sumBy 43 = .ok (.aload_n 0, 1) := by decide +kernel
theorem dX7_sumBy_44 : decode cX7_sumBy 44 = .ok (.aload_n 0, 1) := by decide +kernel
theorem dX7_sumBy_45 : decode cX7_sumBy 45 = .ok (.iload_n 2, 1) := by decide +kernel
theorem dX7_sumBy_46 : decode cX7_sumBy 46 = .ok (.invokevirtual 95, 3) := by decide +kernel
theorem dX7_sumBy_49 : decode cX7_sumBy 49 = .ok (.invokevirtual 92, 3) := by decide +kernel
theorem dX7_sumBy_52 : decode cX7_sumBy 52 = .ok (.i2l, 1) := by decide +kernel
theorem dX7_sumBy_53 : decode cX7_sumBy 53 = .ok (.aload_n 0, 1) := by decide +kernel
theorem dX7_sumBy_54 : decode cX7_sumBy 54 = .ok (.getfield 48, 3) := by decide +kernel
theorem dX7_sumBy_57 : decode cX7_sumBy 57 = .ok (.i2l, 1) := by decide +kernel
theorem dX7_sumBy_58 : decode cX7_sumBy 58 = .ok (.lmul, 1) := by decide +kernel
theorem dX7_sumBy_59 : decode cX7_sumBy 59 = .ok (.lstore_n 3, 1) := by decide +kernel
theorem dX7_sumBy_60 : decode cX7_sumBy 60 = .ok (.lload_n 3, 1) := by decide +kernel
theorem dX7_sumBy_61 : decode cX7_sumBy 61 = .ok (.iload_n 2, 1) := by decide +kernel
theorem dX7_sumBy_62 : decode cX7_sumBy 62 = .ok (.iconst 1, 1) := by decide +kernel
theorem dX7_sumBy_63 : decode cX7_sumBy 63 = .ok (.iadd, 1) := by decide +kernel
theorem dX7_sumBy_64 : decode cX7_sumBy 64 = .ok (.i2l, 1) := by decide +kernel
theorem dX7_sumBy_65 : decode cX7_sumBy 65 = .ok (.lmul, 1) := by decide +kernel
theorem dX7_sumBy_66 : decode cX7_sumBy 66 = .ok (.ldc2_w 98, 3) := by decide +kernel
theorem dX7_sumBy_69 : decode cX7_sumBy 69 = .ok (.ldiv, 1) := by decide +kernel
theorem dX7_sumBy_70 : decode cX7_sumBy 70 = .ok (.l2i, 1) := by decide +kernel
theorem dX7_sumBy_71 : decode cX7_sumBy 71 = .ok (.ireturn, 1) := by decide +kernel
set_option maxRecDepth 20000 in
theorem ggX7_paidUpTo_X5_sumUpTo : GoodIn wsX7_paidUpTo wsX5_sumUpTo := goodIn_r _ [8, 9, 10, 11, 26, 27, 28] rfl (by decide +kernel)
set_option maxRecDepth 20000 in
theorem gX7_paidUpTo_X5_sumUpTo : GoodIn wsX7_paidUpTo (wsV RX7 83 RX5 yX5_sumUpTo wsX5_sumUpTo) := goodIn_app (goodIn_r _ [4, 5, 6, 7] rfl (by decide +kernel)) ggX7_paidUpTo_X5_sumUpTo
theorem dX7_paidUpTo_0 : decode cX7_paidUpTo 0 = .ok (.aload_n 0, 1) := by decide +kernel
theorem dX7_paidUpTo_1 : decode cX7_paidUpTo 1 = .ok (.getfield 42, 3) := by decide +kernel
theorem dX7_paidUpTo_4 : decode cX7_paidUpTo 4 = .ok (.aload_n 0, 1) := by decide +kernel
theorem dX7_paidUpTo_5 : decode cX7_paidUpTo 5 = .ok (.getfield 29, 3) := by decide +kernel
theorem dX7_paidUpTo_8 : decode cX7_paidUpTo 8 = .ok (.iload_n 1, 1) := by decide +kernel
theorem dX7_paidUpTo_9 : decode cX7_paidUpTo 9 = .ok (.invokevirtual 83, 3) := by decide +kernel
theorem dX7_paidUpTo_12 : decode cX7_paidUpTo 12 = .ok (.iadd, 1) := by decide +kernel
theorem dX7_paidUpTo_13 : decode cX7_paidUpTo 13 = .ok (.aload_n 0, 1) := by decide +kernel
theorem dX7_paidUpTo_14 : decode cX7_paidUpTo 14 = .ok (.getfield 32, 3) := by decide +kernel
theorem dX7_paidUpTo_17 : decode cX7_paidUpTo 17 = .ok (.iload_n 1, 1) := by decide +kernel
theorem dX7_paidUpTo_18 : decode cX7_paidUpTo 18 = .ok (.invokevirtual 83, 3) := by decide +kernel
theorem dX7_paidUpTo_21 : decode cX7_paidUpTo 21 = .ok (.isub, 1) := by decide +kernel
theorem dX7_paidUpTo_22 : decode cX7_paidUpTo 22 = .ok (.ireturn, 1) := by decide +kernel
set_option maxRecDepth 20000 in
theorem ggX8_init_X6_init : GoodIn wsX8_init wsX6_init := goodIn_r _ [35, 36, 2, 3, 37, 38, 84, 85] rfl (by decide +kernel)
set_option maxRecDepth 20000 in
theorem gX8_init_X6_init_n11 : GoodIn wsX8_init (wsX6_init) := ggX8_init_X6_init
set_option maxRecDepth 20000 in
theorem ggX8_init_X4_init : GoodIn wsX8_init wsX4_init := goodIn_r _ [40, 41, 2, 3, 42, 43, 95, 96, 97, 98, 99, 100, 101, 102] rfl (by decide +kernel)
set_option maxRecDepth 20000 in
theorem gX8_init_X4_init_n18 : GoodIn wsX8_init (wsX4_init) := ggX8_init_X4_init
set_option maxRecDepth 20000 in
theorem ggX8_init_X7_init : GoodIn wsX8_init wsX7_init := goodIn_r _ [45, 46, 2, 3, 47, 48, 49, 50, 51, 52, 53, 54, 55, 56, 57, 58, 59, 60, 61, 62, 63, 42, 64, 65, 130, 131, 132, 103, 104, 105, 106, 107, 108, 109, 110, 111, 112, 113, 114, 115, 116] rfl (by decide +kernel)
set_option maxRecDepth 20000 in
theorem gX8_init_X7_init_n25 : GoodIn wsX8_init (wsX7_init) := ggX8_init_X7_init
set_option maxRecDepth 20000 in
theorem ggX8_init_X1_init : GoodIn wsX8_init wsX1_init := goodIn_r _ [67, 68, 2, 3, 42, 69, 70, 71, 117, 118, 119] rfl (by decide +kernel)
set_option maxRecDepth 20000 in
theorem gX8_init_X1_init_n35 : GoodIn wsX8_init (wsX1_init) := ggX8_init_X1_init
set_option maxRecDepth 20000 in
theorem ggX8_init_X0_init : GoodIn wsX8_init wsX0_init := goodIn_r _ [73, 74, 2, 3, 42, 75, 76, 120, 121] rfl (by decide +kernel)
set_option maxRecDepth 20000 in
theorem gX8_init_X0_init_n42 : GoodIn wsX8_init (wsX0_init) := ggX8_init_X0_init
set_option maxRecDepth 20000 in
theorem ggX8_init_X3_init : GoodIn wsX8_init wsX3_init := goodIn_r _ [78, 79, 2, 3] rfl (by decide +kernel)
set_option maxRecDepth 20000 in
theorem gX8_init_X3_init_n49 : GoodIn wsX8_init (wsX3_init) := ggX8_init_X3_init
set_option maxRecDepth 20000 in
theorem ggX8_init_X2_init : GoodIn wsX8_init wsX2_init := goodIn_r _ [81, 82, 2, 3, 42, 83, 128, 129] rfl (by decide +kernel)
set_option maxRecDepth 20000 in
theorem gX8_init_X2_init_n56 : GoodIn wsX8_init (wsX2_init) := ggX8_init_X2_init
theorem dX8_init_0 : decode cX8_init 0 = .ok (.aload_n 0, 1) := by decide +kernel
theorem dX8_init_1 : decode cX8_init 1 = .ok (.invokespecial 3, 3) := by decide +kernel
theorem dX8_init_4 : decode cX8_init 4 = .ok (.aload_n 0, 1) := by decide +kernel
theorem dX8_init_5 : decode cX8_init 5 = .ok (.new 9, 3) := by decide +kernel
theorem dX8_init_8 : decode cX8_init 8 = .ok (.dup, 1) := by decide +kernel
theorem dX8_init_9 : decode cX8_init 9 = .ok (.invokespecial 11, 3) := by decide +kernel
theorem dX8_init_12 : decode cX8_init 12 = .ok (.putfield 12, 3) := by decide +kernel
theorem dX8_init_15 : decode cX8_init 15 = .ok (.aload_n 0, 1) := by decide +kernel
theorem dX8_init_16 : decode cX8_init 16 = .ok (.new 16, 3) := by decide +kernel
theorem dX8_init_19 : decode cX8_init 19 = .ok (.dup, 1) := by decide +kernel
theorem dX8_init_20 : decode cX8_init 20 = .ok (.invokespecial 18, 3) := by decide +kernel
theorem dX8_init_23 : decode cX8_init 23 = .ok (.putfield 19, 3) := by decide +kernel
theorem dX8_init_26 : decode cX8_init 26 = .ok (.aload_n 0, 1) := by decide +kernel
theorem dX8_init_27 : decode cX8_init 27 = .ok (.new 23, 3) := by decide +kernel
theorem dX8_init_30 : decode cX8_init 30 = .ok (.dup, 1) := by decide +kernel
theorem dX8_init_31 : decode cX8_init 31 = .ok (.invokespecial 25, 3) := by decide +kernel
theorem dX8_init_34 : decode cX8_init 34 = .ok (.putfield 26, 3) := by decide +kernel
theorem dX8_init_37 : decode cX8_init 37 = .ok (.aload_n 0, 1) := by decide +kernel
theorem dX8_init_38 : decode cX8_init 38 = .ok (.new 23, 3) := by decide +kernel
theorem dX8_init_41 : decode cX8_init 41 = .ok (.dup, 1) := by decide +kernel
theorem dX8_init_42 : decode cX8_init 42 = .ok (.invokespecial 25, 3) := by decide +kernel
theorem dX8_init_45 : decode cX8_init 45 = .ok (.putfield 30, 3) := by decide +kernel
theorem dX8_init_48 : decode cX8_init 48 = .ok (.aload_n 0, 1) := by decide +kernel
theorem dX8_init_49 : decode cX8_init 49 = .ok (.new 33, 3) := by decide +kernel
theorem dX8_init_52 : decode cX8_init 52 = .ok (.dup, 1) := by decide +kernel
theorem dX8_init_53 : decode cX8_init 53 = .ok (.invokespecial 35, 3) := by decide +kernel
theorem dX8_init_56 : decode cX8_init 56 = .ok (.putfield 36, 3) := by decide +kernel
theorem dX8_init_59 : decode cX8_init 59 = .ok (.aload_n 0, 1) := by decide +kernel
theorem dX8_init_60 : decode cX8_init 60 = .ok (.new 40, 3) := by decide +kernel
theorem dX8_init_63 : decode cX8_init 63 = .ok (.dup, 1) := by decide +kernel
theorem dX8_init_64 : decode cX8_init 64 = .ok (.invokespecial 42, 3) := by decide +kernel
theorem dX8_init_67 : decode cX8_init 67 = .ok (.putfield 43, 3) := by decide +kernel
theorem dX8_init_70 : decode cX8_init 70 = .ok (.aload_n 0, 1) := by decide +kernel
theorem dX8_init_71 : decode cX8_init 71 = .ok (.new 47, 3) := by decide +kernel
theorem dX8_init_74 : decode cX8_init 74 = .ok (.dup, 1) := by decide +kernel
theorem dX8_init_75 : decode cX8_init 75 = .ok (.invokespecial 49, 3) := by decide +kernel
theorem dX8_init_78 : decode cX8_init 78 = .ok (.putfield 50, 3) := by decide +kernel
theorem dX8_init_81 : decode cX8_init 81 = .ok (.aload_n 0, 1) := by decide +kernel
theorem dX8_init_82 : decode cX8_init 82 = .ok (.new 54, 3) := by decide +kernel
theorem dX8_init_85 : decode cX8_init 85 = .ok (.dup, 1) := by decide +kernel
theorem dX8_init_86 : decode cX8_init 86 = .ok (.invokespecial 56, 3) := by decide +kernel
theorem dX8_init_89 : decode cX8_init 89 = .ok (.putfield 57, 3) := by decide +kernel
theorem dX8_init_92 : decode cX8_init 92 = .ok (.aload_n 0, 1) := by decide +kernel
theorem dX8_init_93 : decode cX8_init 93 = .ok (.iconst 0, 1) := by decide +kernel
theorem dX8_init_94 : decode cX8_init 94 = .ok (.putfield 61, 3) := by decide +kernel
theorem dX8_init_97 : decode cX8_init 97 = .ok (.return_, 1) := by decide +kernel
set_option maxRecDepth 20000 in
theorem ggX8_feed_X6_hasRoom : GoodIn wsX8_feed wsX6_hasRoom := goodIn_r _ [7, 8, 9, 23, 24] rfl (by decide +kernel)
set_option maxRecDepth 20000 in
theorem gX8_feed_X6_hasRoom : GoodIn wsX8_feed (wsV RX8 65 RX6 yX6_hasRoom wsX6_hasRoom) := goodIn_app (goodIn_r _ [3, 4, 5, 6] rfl (by decide +kernel)) ggX8_feed_X6_hasRoom
set_option maxRecDepth 20000 in
theorem ggX8_feed_X6_append : GoodIn wsX8_feed wsX6_append := goodIn_r _ [13, 8, 9, 23, 24] rfl (by decide +kernel)
set_option maxRecDepth 20000 in
theorem gX8_feed_X6_append : GoodIn wsX8_feed (wsV RX8 69 RX6 yX6_append wsX6_append) := goodIn_app (goodIn_r _ [10, 11, 12, 6] rfl (by decide +kernel)) ggX8_feed_X6_append
theorem dX8_feed_0 : decode cX8_feed 0 = .ok (.aload_n 0, 1) := by decide +kernel
theorem dX8_feed_1 : decode cX8_feed 1 = .ok (.getfield 12, 3) := by decide +kernel
theorem dX8_feed_4 : decode cX8_feed 4 = .ok (.invokevirtual 65, 3) := by decide +kernel
theorem dX8_feed_7 : decode cX8_feed 7 = .ok (.ifCond .ne 5, 3) := by decide +kernel
theorem dX8_feed_10 : decode cX8_feed 10 = .ok (.iconst (-1), 1) := by decide +kernel
theorem dX8_feed_11 : decode cX8_feed 11 = .ok (.ireturn, 1) := by decide +kernel
theorem dX8_feed_12 : decode cX8_feed 12 = .ok (.aload_n 0, 1) := by decide +kernel
theorem dX8_feed_13 : decode cX8_feed 13 = .ok (.getfield 12, 3) := by decide +kernel
theorem dX8_feed_16 : decode cX8_feed 16 = .ok (.iload_n 1, 1) := by decide +kernel
theorem dX8_feed_17 : decode cX8_feed 17 = .ok (.invokevirtual 69, 3) := by decide +kernel
theorem dX8_feed_20 : decode cX8_feed 20 = .ok (.aload_n 0, 1) := by decide +kernel
theorem dX8_feed_21 : decode cX8_feed 21 = .ok (.getfield 12, 3) := by decide +kernel
theorem dX8_feed_24 : decode cX8_feed 24 = .ok (.iload_n 2, 1) := by decide +kernel
theorem dX8_feed_25 : decode cX8_feed 25 = .ok (.invokevirtual 69, 3) := by decide +kernel
theorem dX8_feed_28 : decode cX8_feed 28 = .ok (.aload_n 0, 1) := by decide +kernel
theorem dX8_feed_29 : decode cX8_feed 29 = .ok (.getfield 12, 3) := by decide +kernel
theorem dX8_feed_32 : decode cX8_feed 32 = .ok (.iload_n 3, 1) := by decide +kernel
theorem dX8_feed_33 : decode cX8_feed 33 = .ok (.invokevirtual 69, 3) := by decide +kernel
theorem dX8_feed_36 : decode cX8_feed 36 = .ok (.aload_n 0, 1) := by decide +kernel
theorem dX8_feed_37 : decode cX8_feed 37 = .ok (.getfield 12, 3) := by decide +kernel
theorem dX8_feed_40 : decode cX8_feed 40 = .ok (.iload 4, 2) := by decide +kernel
theorem dX8_feed_42 : decode cX8_feed 42 = .ok (.invokevirtual 69, 3) := by decide +kernel
theorem dX8_feed_45 : decode cX8_feed 45 = .ok (.aload_n 0, 1) := by decide +kernel
theorem dX8_feed_46 : decode cX8_feed 46 = .ok (.getfield 12, 3) := by decide +kernel
theorem dX8_feed_49 : decode cX8_feed 49 = .ok (.iload 5, 2) := by decide +kernel
theorem dX8_feed_51 : decode cX8_feed 51 = .ok (.invokevirtual 69, 3) := by decide +kernel
theorem dX8_feed_54 : decode cX8_feed 54 = .ok (.aload_n 0, 1) := by decide +kernel
theorem dX8_feed_55 : decode cX8_feed 55 = .ok (.getfield 12, 3) := by decide +kernel
theorem dX8_feed_58 : decode cX8_feed 58 = .ok (.getfield 73, 3) := by decide +kernel
theorem dX8_feed_61 : decode cX8_feed 61 = .ok (.ireturn, 1) := by decide +kernel
theorem dX8_end_0 : decode cX8_end 0 = .ok (.iload_n 1, 1) := by decide +kernel
theorem dX8_end_1 : decode cX8_end 1 = .ok (.ifCond .lt 14, 3) := by decide +kernel
theorem dX8_end_4 : decode cX8_end 4 = .ok (.iload_n 1, 1) := by decide +kernel
theorem dX8_end_5 : decode cX8_end 5 = .ok (.aload_n 0, 1) := by decide +kernel
theorem dX8_end_6 : decode cX8_end 6 = .ok (.getfield 12, 3) := by decide +kernel
theorem dX8_end_9 : decode cX8_end 9 = .ok (.getfield 73, 3) := by decide +kernel
theorem dX8_end_12 : decode cX8_end 12 = .ok (.if_icmp .le 5, 3) := by decide +kernel
theorem dX8_end_15 : decode cX8_end 15 = .ok (.iconst 0, 1) := by decide +kernel
theorem dX8_end_16 : decode cX8_end 16 = .ok (.ireturn, 1) := by decide +kernel
theorem dX8_end_17 : decode cX8_end 17 = .ok (.aload_n 0, 1) := by decide +kernel
theorem dX8_end_18 : decode cX8_end 18 = .ok (.getfield 12, 3) := by decide +kernel
theorem dX8_end_21 : decode cX8_end 21 = .ok (.iload_n 1, 1) := by decide +kernel
theorem dX8_end_22 : decode cX8_end 22 = .ok (.putfield 73, 3) := by decide +kernel
theorem dX8_end_25 : decode cX8_end 25 = .ok (.iconst 1, 1) := by decide +kernel
theorem dX8_end_26 : decode cX8_end 26 = .ok (.ireturn, 1) := by decide +kernel
set_option maxRecDepth 20000 in
theorem ggX8_text_X4_read : GoodIn wsX8_text wsX4_read := goodIn_r _ [16, 17, 18, 19, 20, 21, 22, 23, 24, 25, 26, 27, 28, 29, 30, 31, 32, 33, 34, 35, 36, 37, 38, 39, 40, 41, 42, 43, 44, 15, 45, 46, 47, 48, 49, 50, 51, 52, 53, 54, 55, 56, 57, 58, 59, 60, 61, 62, 63, 64, 65, 66, 67, 68, 69, 70, 71, 72, 73, 74, 75, 76, 77, 78, 79, 80, 81, 82, 83, 84, 85, 86, 87, 88, 89, 90, 91, 92, 93, 94, 95, 96, 97, 98, 99, 100, 101, 102, 103, 104, 105, 106, 107, 108, 109, 110, 111, 112, 113, 114, 115, 116, 117, 118, 119, 120, 121, 122, 123, 124, 125, 126, 127, 128, 129, 130, 131, 132, 133, 134, 135, 136, 137, 138, 139, 140, 141, 142, 143, 144, 145, 146, 147, 148, 149, 150, 151, 152, 153, 154, 155, 156, 157, 158, 159, 160, 161, 162, 163, 164, 165, 166, 167, 168, 169, 170, 171, 172, 173, 174, 175, 176, 177, 178, 179, 180, 181, 182, 183, 184, 185, 186, 187, 188, 189, 190, 191, 192, 193, 194, 195, 196, 197, 198, 199, 200, 201, 202, 203, 204, 205, 206, 207, 208, 209, 210, 211, 212, 213, 214, 215, 216, 217, 218, 219, 220, 221, 222, 243, 244, 245, 246, 247, 248, 249, 250, 253, 254, 255, 256, 257, 258, 259, 260, 261, 262, 263, 264, 265, 266, 267, 268, 269, 241, 242] rfl (by decide +kernel)
set_option maxRecDepth 20000 in
theorem gX8_text_X4_read : GoodIn wsX8_text (wsV RX8 76 RX4 yX4_read wsX4_read) := goodIn_app (goodIn_r _ [12, 13, 14, 15] rfl (by decide +kernel)) ggX8_text_X4_read
set_option maxRecDepth 20000 in
theorem ggX8_text_X7_takeOver : GoodIn wsX8_text wsX7_takeOver := goodIn_r _ [226, 27, 29, 30, 31, 32, 33, 34, 35, 36, 37, 38, 39, 40, 41, 227, 228, 229, 161, 230, 163, 184, 185, 186, 187, 164, 192, 193, 194, 195, 196, 231, 220, 221, 222, 253, 254, 255, 256, 257, 258, 259, 260, 261, 262, 263, 264, 265, 266, 267, 268, 269] rfl (by decide +kernel)
set_option maxRecDepth 20000 in
theorem gX8_text_X7_takeOver : GoodIn wsX8_text (wsV RX8 86 RX7 yX7_takeOver wsX7_takeOver) := goodIn_app (goodIn_r _ [223, 224, 225, 25] rfl (by decide +kernel)) ggX8_text_X7_takeOver
theorem dX8_text_0 : decode cX8_text 0 = .ok (.aload_n 0, 1) := by decide +kernel
theorem dX8_text_1 : decode cX8_text 1 = .ok (.getfield 19, 3) := by decide +kernel
theorem dX8_text_4 : decode cX8_text 4 = .ok (.aload_n 0, 1) := by decide +kernel
theorem dX8_text_5 : decode cX8_text 5 = .ok (.getfield 12, 3) := by decide +kernel
theorem dX8_text_8 : decode cX8_text 8 = .ok (.aload_n 0, 1) := by decide +kernel
theorem dX8_text_9 : decode cX8_text 9 = .ok (.getfield 30, 3) := by decide +kernel
theorem dX8_text_12 : decode cX8_text 12 = .ok (.invokevirtual 76, 3) := by decide +kernel
theorem dX8_text_15 : decode cX8_text 15 = .ok (.aload_n 0, 1) := by decide +kernel
theorem dX8_text_16 : decode cX8_text 16 = .ok (.getfield 12, 3) := by decide +kernel
theorem dX8_text_19 : decode cX8_text 19 = .ok (.iconst 0, 1) := by decide +kernel
theorem dX8_text_20 : decode cX8_text 20 = .ok (.putfield 73, 3) := by decide +kernel
theorem dX8_text_23 : decode cX8_text 23 = .ok (.aload_n 0, 1) := by decide +kernel
theorem dX8_text_24 : decode cX8_text 24 = .ok (.aload_n 0, 1) := by decide +kernel
theorem dX8_text_25 : decode cX8_text 25 = .ok (.getfield 19, 3) := by decide +kernel
theorem dX8_text_28 : decode cX8_text 28 = .ok (.getfield 80, 3) := by decide +kernel
theorem dX8_text_31 : decode cX8_text 31 = .ok (.putfield 61, 3) := by decide +kernel
theorem dX8_text_34 : decode cX8_text 34 = .ok (.aload_n 0, 1) := by decide +kernel
theorem dX8_text_35 : decode cX8_text 35 = .ok (.getfield 61, 3) := by decide +kernel
theorem dX8_text_38 : decode cX8_text 38 = .ok (.ifCond .eq 13, 3) := by decide +kernel
theorem dX8_text_41 : decode cX8_text 41 = .ok (.iconst (-1), 1) := by decide +kernel
theorem dX8_text_42 : decode cX8_text 42 = .ok (.aload_n 0, 1) := by decide +kernel
theorem dX8_text_43 : decode cX8_text 43 = .ok (.getfield 19, 3) := by decide +kernel
theorem dX8_text_46 : decode cX8_text 46 = .ok (.getfield 83, 3) := by decide +kernel
theorem dX8_text_49 : decode cX8_text 49 = .ok (.isub, 1) := by decide +kernel
theorem dX8_text_50 : decode cX8_text 50 = .ok (.ireturn, 1) := by decide +kernel
theorem dX8_text_51 : decode cX8_text 51 = .ok (.aload_n 0, 1) := by decide +kernel
theorem dX8_text_52 : decode cX8_text 52 = .ok (.getfield 26, 3) := by decide +kernel
theorem dX8_text_55 : decode cX8_text 55 = .ok (.aload_n 0, 1) := by decide +kernel
theorem dX8_text_56 : decode cX8_text 56 = .ok (.getfield 30, 3) := by decide +kernel
theorem dX8_text_59 : decode cX8_text 59 = .ok (.invokevirtual 86, 3) := by decide +kernel
theorem dX8_text_62 : decode cX8_text 62 = .ok (.aload_n 0, 1) := by decide +kernel
theorem dX8_text_63 : decode cX8_text 63 = .ok (.getfield 57, 3) := by decide +kernel
theorem dX8_text_66 : decode cX8_text 66 = .ok (.iconst 0, 1) := by decide +kernel
theorem dX8_text_67 : decode cX8_text 67 = .ok (.putfield 90, 3) := by decide +kernel
theorem dX8_text_70 : decode cX8_text 70 = .ok (.aload_n 0, 1) := by decide +kernel
theorem dX8_text_71 : decode cX8_text 71 = .ok (.getfield 19, 3) := by decide +kernel
theorem dX8_text_74 : decode cX8_text 74 = .ok (.getfield 93, 3) := by decide +kernel
theorem dX8_text_77 : decode cX8_text 77 = .ok (.ireturn, 1) := by decide +kernel
theorem dX8_fault_0 : decode cX8_fault 0 = .ok (.aload_n 0, 1) := by decide +kernel
theorem dX8_fault_1 : decode cX8_fault 1 = .ok (.getfield 61, 3) := by decide +kernel
theorem dX8_fault_4 : decode cX8_fault 4 = .ok (.ireturn, 1) := by decide +kernel
set_option maxRecDepth 20000 in
theorem ggX8_now_X7_allIncome : GoodIn wsX8_now wsX7_allIncome := goodIn_r _ [20, 21, 22, 23, 24, 25, 26, 27, 28, 29, 197, 198, 199, 200, 201, 202, 203, 204, 205, 206, 207, 208, 209, 210, 211, 212, 213] rfl (by decide +kernel)
set_option maxRecDepth 20000 in
theorem gX8_now_X7_allIncome : GoodIn wsX8_now (wsV RX8 96 RX7 yX7_allIncome wsX7_allIncome) := goodIn_app (goodIn_r _ [16, 17, 18, 19] rfl (by decide +kernel)) ggX8_now_X7_allIncome
set_option maxRecDepth 20000 in
theorem ggX8_now_X7_taxOf : GoodIn wsX8_now wsX7_taxOf := goodIn_r _ [33, 34, 35, 36, 37, 38, 39, 40, 41, 42, 43, 44, 25, 45, 27, 28, 46, 47, 48, 49, 29, 197, 198, 199, 200, 201, 202, 203, 204, 205, 206, 207, 208, 209, 210, 211, 212, 213] rfl (by decide +kernel)
set_option maxRecDepth 20000 in
theorem gX8_now_X7_taxOf : GoodIn wsX8_now (wsV RX8 100 RX7 yX7_taxOf wsX7_taxOf) := goodIn_app (goodIn_r _ [30, 31, 32, 19] rfl (by decide +kernel)) ggX8_now_X7_taxOf
set_option maxRecDepth 20000 in
theorem ggX8_now_X7_paidUpTo : GoodIn wsX8_now wsX7_paidUpTo := goodIn_r _ [53, 54, 55, 56, 22, 23, 24, 25, 26, 27, 28, 29, 197, 198, 199, 200, 201, 202, 203, 204, 205, 206, 207, 208, 209, 210, 211, 212, 213] rfl (by decide +kernel)
set_option maxRecDepth 20000 in
theorem gX8_now_X7_paidUpTo : GoodIn wsX8_now (wsV RX8 107 RX7 yX7_paidUpTo wsX7_paidUpTo) := goodIn_app (goodIn_r _ [50, 51, 52, 19] rfl (by decide +kernel)) ggX8_now_X7_paidUpTo
set_option maxRecDepth 20000 in
theorem ggX8_now_X8_reckon : GoodIn wsX8_now wsX8_reckon := goodIn_r _ [61, 4, 1, 10, 3, 62, 63, 64, 65, 66, 67, 68, 38, 69, 70, 71, 72, 73, 74, 75, 76, 77, 78, 79, 19, 80, 81, 82, 83, 84, 85, 17, 18, 20, 21, 22, 23, 24, 25, 26, 27, 28, 29, 86, 31, 32, 33, 34, 35, 36, 37, 39, 40, 41, 42, 43, 44, 45, 46, 47, 48, 49, 87, 88, 89, 90, 91, 92, 93, 94, 95, 96, 97, 98, 99, 100, 101, 102, 103, 104, 105, 106, 107, 108, 109, 110, 111, 112, 113, 114, 115, 116, 117, 118, 119, 120, 121, 122, 123, 124, 125, 126, 188, 189, 190, 191, 192, 193, 194, 195, 196, 197, 198, 199, 200, 201, 202, 203, 204, 205, 206, 207, 208, 209, 210, 224, 225, 226, 211, 212, 213, 227, 228] rfl (by decide +kernel)
set_option maxRecDepth 20000 in
theorem gX8_now_X8_reckon : GoodIn wsX8_now (wsV RX8 110 RX8 yX8_reckon wsX8_reckon) := goodIn_app (goodIn_r _ [57, 58, 59, 60] rfl (by decide +kernel)) ggX8_now_X8_reckon
set_option maxRecDepth 20000 in
theorem ggX8_now_X0_costs : GoodIn wsX8_now wsX0_costs := goodIn_r _ [130, 131, 132, 133, 100, 134, 135, 136, 137, 37, 38, 39, 138, 68, 69, 139, 140, 141, 142, 65, 143, 144, 145, 146, 147, 70, 148, 116, 43, 44, 25, 45, 27, 28, 149, 150, 151, 152, 102, 153, 154, 155, 156, 122, 197, 198, 199, 200, 201, 202, 203, 204, 205, 206, 207, 208, 209, 210, 224, 225, 226, 211, 212, 213, 227, 228] rfl (by decide +kernel)
set_option maxRecDepth 20000 in
theorem gX8_now_X0_costs : GoodIn wsX8_now (wsV RX8 113 RX0 yX0_costs wsX0_costs) := goodIn_app (goodIn_r _ [127, 128, 129, 100] rfl (by decide +kernel)) ggX8_now_X0_costs
set_option maxRecDepth 20000 in
theorem ggX8_now_X5_sumUpTo : GoodIn wsX8_now wsX5_sumUpTo := goodIn_r _ [26, 27, 28, 29, 211, 212, 213] rfl (by decide +kernel)
set_option maxRecDepth 20000 in
theorem gX8_now_X5_sumUpTo : GoodIn wsX8_now (wsV RX8 127 RX5 yX5_sumUpTo wsX5_sumUpTo) := goodIn_app (goodIn_r _ [157, 23, 24, 25] rfl (by decide +kernel)) ggX8_now_X5_sumUpTo
set_option maxRecDepth 20000 in
theorem ggX8_now_X3_find : GoodIn wsX8_now wsX3_find := goodIn_r _ [162, 163, 164, 165, 166, 167, 161, 168, 169, 170, 171, 43, 44, 25, 45, 27, 28, 172, 150, 151, 100, 152, 102, 173, 174, 175, 65, 176, 177, 37, 38, 39, 67, 68, 69, 178, 141, 142, 143, 144, 145, 146, 147, 70, 179, 154, 155, 156, 122, 180, 181, 182, 183, 184, 185, 186, 187, 214, 215, 216, 217, 218, 219, 197, 198, 199, 200, 201, 202, 203, 204, 205, 206, 207, 208, 209, 210, 211, 212, 213, 227, 228, 224, 225, 226] rfl (by decide +kernel)
set_option maxRecDepth 20000 in
theorem gX8_now_X3_find : GoodIn wsX8_now (wsV RX8 130 RX3 yX3_find wsX3_find) := goodIn_app (goodIn_r _ [158, 159, 160, 161] rfl (by decide +kernel)) ggX8_now_X3_find
theorem dX8_now_0 : decode cX8_now 0 = .ok (.iload_n 1, 1) := by decide +kernel
theorem dX8_now_1 : decode cX8_now 1 = .ok (.tableswitch 228 0 10 #[59, 67, 82, 97, 127, 147, 158, 172, 204, 212, 220], 59) := by decide +kernel
theorem dX8_now_60 : decode cX8_now 60 = .ok (.aload_n 0, 1) := by decide +kernel
theorem dX8_now_61 : decode cX8_now 61 = .ok (.getfield 26, 3) := by decide +kernel
theorem dX8_now_64 : decode cX8_now 64 = .ok (.invokevirtual 96, 3) := by decide +kernel
theorem dX8_now_67 : decode cX8_now 67 = .ok (.ireturn, 1) := by decide +kernel
theorem dX8_now_68 : decode cX8_now 68 = .ok (.aload_n 0, 1) := by decide +kernel
theorem dX8_now_69 : decode cX8_now 69 = .ok (.getfield 26, 3) := by decide +kernel
theorem dX8_now_72 : decode cX8_now 72 = .ok (.aload_n 0, 1) := by decide +kernel
theorem dX8_now_73 : decode cX8_now 73 = .ok (.getfield 26, 3) := by decide +kernel
theorem dX8_now_76 : decode cX8_now 76 = .ok (.invokevirtual 96, 3) := by decide +kernel
theorem dX8_now_79 : decode cX8_now 79 = .ok (.invokevirtual 100, 3) := by decide +kernel
theorem dX8_now_82 : decode cX8_now 82 = .ok (.ireturn, 1) := by decide +kernel
theorem dX8_now_83 : decode cX8_now 83 = .ok (.aload_n 0, 1) := by decide +kernel
theorem dX8_now_84 : decode cX8_now 84 = .ok (.getfield 26, 3) := by decide +kernel
theorem dX8_now_87 : decode cX8_now 87 = .ok (.aload_n 0, 1) := by decide +kernel
theorem dX8_now_88 : decode cX8_now 88 = .ok (.getfield 26, 3) := by decide +kernel
theorem dX8_now_91 : decode cX8_now 91 = .ok (.getfield 104, 3) := by decide +kernel
theorem dX8_now_94 : decode cX8_now 94 = .ok (.invokevirtual 107, 3) := by decide +kernel
theorem dX8_now_97 : decode cX8_now 97 = .ok (.ireturn, 1) := by decide +kernel
theorem dX8_now_98 : decode cX8_now 98 = .ok (.aload_n 0, 1) := by decide +kernel
theorem dX8_now_99 : decode cX8_now 99 = .ok (.getfield 26, 3) := by decide +kernel
theorem dX8_now_102 : decode cX8_now 102 = .ok (.aload_n 0, 1) := by decide +kernel
theorem dX8_now_103 : decode cX8_now 103 = .ok (.getfield 26, 3) := by decide +kernel
theorem dX8_now_106 : decode cX8_now 106 = .ok (.invokevirtual 96, 3) := by decide +kernel
theorem dX8_now_109 : decode cX8_now 109 = .ok (.invokevirtual 100, 3) := by decide +kernel
theorem dX8_now_112 : decode cX8_now 112 = .ok (.aload_n 0, 1) := by decide +kernel
theorem dX8_now_113 : decode cX8_now 113 = .ok (.getfield 26, 3) := by decide +kernel
theorem dX8_now_116 : decode cX8_now 116 = .ok (.aload_n 0, 1) := by decide +kernel
theorem dX8_now_117 : decode cX8_now 117 = .ok (.getfield 26, 3) := by decide +kernel
theorem dX8_now_120 : decode cX8_now 120 = .ok (.getfield 104, 3) := by decide +kernel
theorem dX8_now_123 : decode cX8_now 123 = .ok (.invokevirtual 107, 3) := by decide +kernel
theorem dX8_now_126 : decode cX8_now 126 = .ok (.isub, 1) := by decide +kernel
theorem dX8_now_127 : decode cX8_now 127 = .ok (.ireturn, 1) := by decide +kernel
theorem dX8_now_128 : decode cX8_now 128 = .ok (.aload_n 0, 1) := by decide +kernel
theorem dX8_now_129 : decode cX8_now 129 = .ok (.invokevirtual 110, 3) := by decide +kernel
theorem dX8_now_132 : decode cX8_now 132 = .ok (.aload_n 0, 1) := by decide +kernel
theorem dX8_now_133 : decode cX8_now 133 = .ok (.getfield 43, 3) := by decide +kernel
theorem dX8_now_136 : decode cX8_now 136 = .ok (.aload_n 0, 1) := by decide +kernel
theorem dX8_now_137 : decode cX8_now 137 = .ok (.getfield 26, 3) := by decide +kernel
theorem dX8_now_140 : decode cX8_now 140 = .ok (.aload_n 0, 1) := by decide +kernel
theorem dX8_now_141 : decode cX8_now 141 = .ok (.getfield 36, 3) := by decide +kernel
theorem dX8_now_144 : decode cX8_now 144 = .ok (.invokevirtual 113, 3) := by decide +kernel
theorem dX8_now_147 : decode cX8_now 147 = .ok (.ireturn, 1) := by decide +kernel
theorem dX8_now_148 : decode cX8_now 148 = .ok (.aload_n 0, 1) := by decide +kernel
theorem dX8_now_149 : decode cX8_now 149 = .ok (.getfield 26, 3) := by decide +kernel
theorem dX8_now_152 : decode cX8_now 152 = .ok (.getfield 117, 3) := by decide +kernel
theorem dX8_now_155 : decode cX8_now 155 = .ok (.getfield 121, 3) := by decide +kernel
theorem dX8_now_158 : decode cX8_now 158 = .ok (.ireturn, 1) := by decide +kernel
theorem dX8_now_159 : decode cX8_now 159 = .ok (.aload_n 0, 1) := by decide +kernel
theorem dX8_now_160 : decode cX8_now 160 = .ok (.getfield 26, 3) := by decide +kernel
theorem dX8_now_163 : decode cX8_now 163 = .ok (.getfield 124, 3) := by decide +kernel
theorem dX8_now_166 : decode cX8_now 166 = .ok (.sipush 499, 3) := by decide +kernel
theorem dX8_now_169 : decode cX8_now 169 = .ok (.invokevirtual 127, 3) := by decide +kernel
theorem dX8_now_172 : decode cX8_now 172 = .ok (.ireturn, 1) := by decide +kernel
theorem dX8_now_173 : decode cX8_now 173 = .ok (.aload_n 0, 1) := by decide +kernel
theorem dX8_now_174 : decode cX8_now 174 = .ok (.invokevirtual 110, 3) := by decide +kernel
theorem dX8_now_177 : decode cX8_now 177 = .ok (.aload_n 0, 1) := by decide +kernel
theorem dX8_now_178 : decode cX8_now 178 = .ok (.getfield 50, 3) := by decide +kernel
theorem dX8_now_181 : decode cX8_now 181 = .ok (.iconst (-1), 1) := by decide +kernel
theorem dX8_now_182 : decode cX8_now 182 = .ok (.aload_n 0, 1) := by decide +kernel
theorem dX8_now_183 : decode cX8_now 183 = .ok (.getfield 26, 3) := by decide +kernel
theorem dX8_now_186 : decode cX8_now 186 = .ok (.aload_n 0, 1) := by decide +kernel
theorem dX8_now_187 : decode cX8_now 187 = .ok (.getfield 36, 3) := by decide +kernel
theorem dX8_now_190 : decode cX8_now 190 = .ok (.aload_n 0, 1) := by decide +kernel
theorem dX8_now_191 : decode cX8_now 191 = .ok (.getfield 43, 3) := by decide +kernel
theorem dX8_now_194 : decode cX8_now 194 = .ok (.invokevirtual 130, 3) := by decide +kernel
theorem dX8_now_197 : decode cX8_now 197 = .ok (.aload_n 0, 1) := by decide +kernel
theorem dX8_now_198 : decode cX8_now 198 = .ok (.getfield 50, 3) := by decide +kernel
theorem dX8_now_201 : decode cX8_now 201 = .ok (.getfield 134, 3) := by decide +kernel
theorem dX8_now_204 : decode cX8_now 204 = .ok (.ireturn, 1) := by decide +kernel
theorem dX8_now_205 : decode cX8_now 205 = .ok (.aload_n 0, 1) := by decide +kernel
theorem dX8_now_206 : decode cX8_now 206 = .ok (.getfield 26, 3) := by decide +kernel
theorem dX8_now_209 : decode cX8_now 209 = .ok (.getfield 135, 3) := by decide +kernel
theorem dX8_now_212 : decode cX8_now 212 = .ok (.ireturn, 1) := by decide +kernel
theorem dX8_now_213 : decode cX8_now 213 = .ok (.aload_n 0, 1) := by decide +kernel
theorem dX8_now_214 : decode cX8_now 214 = .ok (.getfield 57, 3) := by decide +kernel
theorem dX8_now_217 : decode cX8_now 217 = .ok (.getfield 90, 3) := by decide +kernel
theorem dX8_now_220 : decode cX8_now 220 = .ok (.ireturn, 1) := by decide +kernel
theorem dX8_now_221 : decode cX8_now 221 = .ok (.aload_n 0, 1) := by decide +kernel
theorem dX8_now_222 : decode cX8_now 222 = .ok (.getfield 12, 3) := by decide +kernel
theorem dX8_now_225 : decode cX8_now 225 = .ok (.getfield 73, 3) := by decide +kernel
theorem dX8_now_228 : decode cX8_now 228 = .ok (.ireturn, 1) := by decide +kernel
theorem dX8_now_229 : decode cX8_now 229 = .ok (.ldc 138, 2) := by decide +kernel
theorem dX8_now_231 : decode cX8_now 231 = .ok (.ireturn, 1) := by decide +kernel
set_option maxRecDepth 20000 in
theorem ggX8_tax_X8_isWithin : GoodIn wsX8_tax wsX8_isWithin := goodIn_r _ [6] rfl (by decide +kernel)
set_option maxRecDepth 20000 in
theorem gX8_tax_X8_isWithin : GoodIn wsX8_tax (va_wsS RX8 140 yX8_isWithin wsX8_isWithin) := goodIn_app (goodIn_r _ [3, 4, 5] rfl (by decide +kernel)) ggX8_tax_X8_isWithin
set_option maxRecDepth 20000 in
theorem ggX8_tax_X7_taxOf : GoodIn wsX8_tax wsX7_taxOf := goodIn_r _ [11, 12, 13, 14, 15, 16, 17, 18, 19, 20, 21, 22, 23, 24, 25, 26, 27, 28, 29, 30, 31, 41, 42, 43, 44, 45, 46, 47, 48, 49, 50, 51, 52, 53, 54, 55, 56, 57] rfl (by decide +kernel)
set_option maxRecDepth 20000 in
theorem gX8_tax_X7_taxOf : GoodIn wsX8_tax (wsV RX8 100 RX7 yX7_taxOf wsX7_taxOf) := goodIn_app (goodIn_r _ [7, 8, 9, 10] rfl (by decide +kernel)) ggX8_tax_X7_taxOf
theorem dX8_tax_0 : decode cX8_tax 0 = .ok (.iload_n 1, 1) := by decide +kernel
theorem dX8_tax_1 : decode cX8_tax 1 = .ok (.iconst 0, 1) := by decide +kernel
theorem dX8_tax_2 : decode cX8_tax 2 = .ok (.ldc 139, 2) := by decide +kernel
theorem dX8_tax_4 : decode cX8_tax 4 = .ok (.invokestatic 140, 3) := by decide +kernel
theorem dX8_tax_7 : decode cX8_tax 7 = .ok (.ifCond .eq 14, 3) := by decide +kernel
theorem dX8_tax_10 : decode cX8_tax 10 = .ok (.aload_n 0, 1) := by decide +kernel
theorem dX8_tax_11 : decode cX8_tax 11 = .ok (.getfield 26, 3) := by decide +kernel
theorem dX8_tax_14 : decode cX8_tax 14 = .ok (.iload_n 1, 1) := by decide +kernel
theorem dX8_tax_15 : decode cX8_tax 15 = .ok (.invokevirtual 100, 3) := by decide +kernel
theorem dX8_tax_18 : decode cX8_tax 18 = .ok (.goto 4, 3) := by decide +kernel
theorem dX8_tax_21 : decode cX8_tax 21 = .ok (.iconst (-1), 1) := by decide +kernel
theorem dX8_tax_22 : decode cX8_tax 22 = .ok (.ireturn, 1) := by decide +kernel
set_option maxRecDepth 20000 in
theorem ggX8_income_X8_isDay : GoodIn wsX8_income wsX8_isDay := goodIn_r _ [6, 7, 8, 5, 9] rfl (by decide +kernel)
set_option maxRecDepth 20000 in
theorem gX8_income_X8_isDay : GoodIn wsX8_income (va_wsS RX8 144 yX8_isDay wsX8_isDay) := goodIn_app (goodIn_r _ [3, 4, 5] rfl (by decide +kernel)) ggX8_income_X8_isDay
set_option maxRecDepth 20000 in
theorem ggX8_income_X5_sumUpTo : GoodIn wsX8_income wsX5_sumUpTo := goodIn_r _ [14, 15, 16, 17, 41, 42, 43] rfl (by decide +kernel)
set_option maxRecDepth 20000 in
theorem gX8_income_X5_sumUpTo : GoodIn wsX8_income (wsV RX8 127 RX5 yX5_sumUpTo wsX5_sumUpTo) := goodIn_app (goodIn_r _ [10, 11, 12, 13] rfl (by decide +kernel)) ggX8_income_X5_sumUpTo
theorem dX8_income_0 : decode cX8_income 0 = .ok (.iload_n 1, 1) := by decide +kernel
theorem dX8_income_1 : decode cX8_income 1 = .ok (.invokestatic 144, 3) := by decide +kernel
theorem dX8_income_4 : decode cX8_income 4 = .ok (.ifCond .eq 17, 3) := by decide +kernel
theorem dX8_income_7 : decode cX8_income 7 = .ok (.aload_n 0, 1) := by decide +kernel
theorem dX8_income_8 : decode cX8_income 8 = .ok (.getfield 26, 3) := by decide +kernel
theorem dX8_income_11 : decode cX8_income 11 = .ok (.getfield 148, 3) := by decide +kernel
theorem dX8_income_14 : decode cX8_income 14 = .ok (.iload_n 1, 1) := by decide +kernel
theorem dX8_income_15 : decode cX8_income 15 = .ok (.invokevirtual 127, 3) := by decide +kernel
theorem dX8_income_18 : decode cX8_income 18 = .ok (.goto 4, 3) := by decide +kernel
theorem dX8_income_21 : decode cX8_income 21 = .ok (.iconst (-1), 1) := by decide +kernel
theorem dX8_income_22 : decode cX8_income 22 = .ok (.ireturn, 1) := by decide +kernel
